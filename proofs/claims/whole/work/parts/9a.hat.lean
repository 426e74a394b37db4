section
/-- what is being read, in the places of what is -/
def hC (a : js_Mm) : js_Mm := fun k j => if 3 ≤ k ∧ k ≤ 9 then a (k + 7) j else a k j
def hM (c : js_Mm) : js_Mm := fun k j => if k = 3 ∨ k = 4 ∨ k = 5 then c k (24 + j) else if k = 6 ∨ k = 10 then c k (j + 1) else if 7 ≤ k ∧ k ≤ 9 then c k (60 + j) else c k j
theorem vC_str10 {a b : Int} {w μ ν : js_Mm} (e6 : ∀ j, w 13 j = μ 6 j) (e8 : ∀ j, w 15 j = μ 8 j) (e9 : ∀ j, w 16 j = μ 9 j) (h : rTi μ ν) (hn : μ 3 0 ≤ 24) (ha : 0 ≤ a ∧ a < μ 3 0) (hb : 0 ≤ b ∧ b < μ 3 0) : f_X8_strengthOf [10, a, b] w = some (tSt ν a b (μ 3 1).toNat, w) := by
  obtain ⟨a, rfl⟩ := jz_nat ha.1
  obtain ⟨b, rfl⟩ := jz_nat hb.1
  have hfr := h.2.2.2.2 a ha.2
  have hF0 : 0 ≤ μ 6 a := by rw [hfr.1]; exact (tCn_rg ν a _).1
  have h24 := hfr.2.2.1
  rw [fe_X8_strengthOf]
  have key := jv_find (c := lc_X8_strengthOf_1) (b := lb_X8_strengthOf_1) (μ 6 a).toNat (fun i => ([(3, 10), (1, (a : Int)), (1, (b : Int)), (1, (i : Int))], w)) (fun i => decide (μ 8 (24 * a + i) = (b : Int))) (fun i => μ 9 (24 * a + i)) (by omega) (fun i hi _ => ⟨w, by
      unfold lc_X8_strengthOf_1
      simp -implicitDefEqProofs (disch := omega) only [jv_g0, jv_gs, jv_b, jv_bl, jv_bcT, jv_bcF, jv_bcD, jv_bcI, jv_bI, jv_bs0, jv_bs1, jv_bsI, jv_k, jv_l, jv_1, jv_1e, jv_2, jv_2ke, jv_2e, jv_d, jv_dke, jv_de, jv_gf, jv_gfe, jv_gr, jv_gre, jv_al, jv_alke, jv_ale, jv_aa, jv_aake, jv_aae, jv_ln, jv_lne, jv_as0, jv_as1, jv_aske, jv_asje, jv_cv, jv_cve, jv_cs, jv_cp, jv_cpke, jv_cpe, jv_cz, jv_cze, jv_tte, jv_ffe, jv_ca, jv_co, jv_cn, jv_lt, jv_le, jv_gt, jv_ge, jv_eq, jv_ne, jv_q, jv_sk, jv_s1, jv_s1e, jv_s2, jv_s2e, jv_ii, jv_pf, jv_pfke, jv_pfe, jv_pa, jv_pale, jv_pake, jv_paje, jv_paf20, jv_paf21, jv_paf22, jv_paf23, jv_fit1, jv_fit2, jv_fit0, jv_fit5, jv_of, jv_ofke, jv_ofje, jv_oa, jv_oale, jv_oake, jv_oaje, jv_ex, jv_exe, jv_sq, jv_if, jv_bk, jv_bke, jv_rv, jv_rve, jv_r0, jv_sw, jv_swe, jv_pk0, jv_pk1, jv_me, jv_oute, jv_outI, jt_ft0_10, jt_ft0_11, jt_ft0_12, jt_ft0_13, jt_ft0_14, jt_ft1_0, jt_ft2_3, jt_ft2_4, jt_ft2_5, jt_ft2_6, jt_ft3_0, jt_ft4_5, jt_ft4_6, jt_ft5_0, jt_ft5_1, jt_ft7_1, jt_ft7_2, jt_ft7_3, jt_ft7_4, jt_ft7_5, jt_ft7_6, jt_ft7_7, jt_ft8_0, jt_ft8_1, jt_ft8_2, jt_ft9_2, jt_ft10_15, jt_ft11_2, jt_ft11_3, jt_ft11_19, jt_ft11_20, jt_ft11_21, jt_ft11_22, jt_ft11_23, jt_ft11_24, jt_ft11_26, jt_ft11_28, jt_ft11_36, jt_ft11_38, jt_ft11_39, jt_ft11_40, js_u_same, js_u_other, jz_add, jz_sub, jz_mul, jz_div, jz_rem, jz_ladd, jz_lsub, jz_lmul, jz_ldiv, jz_lrem, jz_i2l, jz_l2i, List.set_cons_zero, List.set_cons_succ, Int.reduceToNat, Bool.and_true, Bool.true_and, Bool.and_eq_true, decide_eq_true_eq, if_true, if_false, reduceIte, Nat.reduceEqDiff, Nat.reduceSub, Nat.reduceAdd, Int.reduceLT, Int.reduceLE, Int.reduceNeg, Int.reduceEq, Int.reduceAdd, Int.reduceSub, Int.reduceMul, not_true_eq_false, not_false_eq_true, and_true, true_and, and_false, false_and, decide_true, decide_false, Nat.reduceEqDiff, reduceCtorEq, jv_tr0, jv_trs, jv_trn, jv_blI, jt_is0_0, jt_is0_1, jt_ia0_2, jt_is0_3, jt_ia0_4, jt_ia0_5, jt_ia0_6, jt_ia0_7, jt_ia0_8, jt_ia0_9, jt_is0_10, jt_ia0_11, jt_ia0_12, jt_ia0_13, jt_ia0_14, jt_ia0_15, jt_ia0_16, jt_is0_17, jt_ia0_18, jt_ia0_19, jt_ia0_20, jt_ia0_21, jt_ia0_22, jt_is0_23, jt_ia0_24, jt_ia0_25, jt_ia0_26, jt_ia0_27, jt_ia0_28, jt_is0_29, jt_is0_30, jt_is0_31, jt_ia0_32, jt_ia0_33, jt_ia0_34, jt_ia0_35, jt_ia0_36, jt_ia0_37, jt_ia0_38, jt_ia0_39, jt_ia0_40, jt_ia0_41, jt_is0_42, jt_ia0_43, jt_ia0_44, jt_ia0_45, jt_ia0_46, jt_ia0_47, jt_ia0_48, jt_ia0_49, jt_ia0_50, jt_ia0_51, jt_ia0_52, jt_is0_53, jt_ia0_54, jt_ia0_55, jt_ia0_56, jt_ia0_57, jt_ia0_58, jt_ia0_59, jt_ia0_60, jt_ia0_61, jt_ia0_62, jt_ia0_63, jt_is0_65, jt_ia0_66, jt_ia0_67, jt_ia0_68, jt_ia0_69, jt_ia0_70, jt_ia0_71, jt_ia0_72, jt_ia0_73, jt_ia0_74, jt_ia0_75, jt_is0_76, jt_ia0_77, jt_ia0_78, jt_ia0_79, jt_ia0_80, jt_ia0_81, jt_ia0_82, jt_ia0_83, jt_ia0_84, jt_ia0_85, jt_ia0_86, jt_is0_87, jt_ia0_88, jt_is0_89, jt_ia0_90, jt_ia0_91, jt_is0_92, jt_ia0_93, jt_ia0_94, jt_ia0_95, jt_ia0_96, jt_is0_97, jt_ia0_98, jt_ia0_99, jt_ia0_100, jt_rt0_0_0, jt_rt0_0_1, jt_rt0_0_2, jt_rt0_0_3, jt_rt0_0_4, jt_rt0_0_5, jt_rt0_0_6, jt_rt0_0_7, jt_rt0_0_8, jt_rt0_0_9, jt_rt0_0_10, jt_rt0_0_11, jt_rt0_0_12, jt_rt0_0_13, jt_rt0_0_14, jt_rt0_1_0, jt_rt0_3_3, jt_rt0_3_4, jt_rt0_3_5, jt_rt0_3_6, jt_rt0_3_7, jt_rt0_3_8, jt_rt0_10_3, jt_rt0_10_4, jt_rt0_10_5, jt_rt0_10_6, jt_rt0_10_7, jt_rt0_10_8, jt_rt0_17_1, jt_rt0_17_2, jt_rt0_17_3, jt_rt0_17_4, jt_rt0_17_5, jt_rt0_23_1, jt_rt0_23_2, jt_rt0_23_3, jt_rt0_23_4, jt_rt0_23_5, jt_rt0_30_0, jt_rt0_30_1, jt_rt0_30_2, jt_rt0_31_0, jt_rt0_31_1, jt_rt0_31_2, jt_rt0_31_3, jt_rt0_31_4, jt_rt0_31_5, jt_rt0_31_6, jt_rt0_31_7, jt_rt0_31_8, jt_rt0_31_9, jt_rt0_42_0, jt_rt0_42_1, jt_rt0_42_2, jt_rt0_42_3, jt_rt0_42_4, jt_rt0_42_5, jt_rt0_42_6, jt_rt0_42_7, jt_rt0_42_8, jt_rt0_42_9, jt_rt0_53_0, jt_rt0_53_1, jt_rt0_53_2, jt_rt0_53_3, jt_rt0_53_4, jt_rt0_53_5, jt_rt0_53_6, jt_rt0_53_7, jt_rt0_53_8, jt_rt0_53_9, jt_rt0_64_0, jt_rt0_64_1, jt_rt0_65_0, jt_rt0_65_1, jt_rt0_65_2, jt_rt0_65_3, jt_rt0_65_4, jt_rt0_65_5, jt_rt0_65_6, jt_rt0_65_7, jt_rt0_65_8, jt_rt0_65_9, jt_rt0_76_0, jt_rt0_76_1, jt_rt0_76_2, jt_rt0_76_3, jt_rt0_76_4, jt_rt0_76_5, jt_rt0_76_6, jt_rt0_76_7, jt_rt0_76_8, jt_rt0_76_9, jt_rt0_87_0, jt_rt0_87_1, jt_rt0_89_1, jt_rt0_89_2, jt_rt0_92_0, jt_rt0_92_1, jt_rt0_92_2, jt_rt0_92_3, jt_rt0_92_4, jt_rt0_97_0, jt_rt0_97_1, jt_rt0_97_2, jt_in0_2, jt_in0_4, jt_in0_5, jt_in0_6, jt_in0_7, jt_in0_8, jt_in0_9, jt_in0_11, jt_in0_12, jt_in0_13, jt_in0_14, jt_in0_15, jt_in0_16, jt_in0_18, jt_in0_19, jt_in0_20, jt_in0_21, jt_in0_22, jt_in0_24, jt_in0_25, jt_in0_26, jt_in0_27, jt_in0_28, jt_in0_32, jt_in0_33, jt_in0_34, jt_in0_35, jt_in0_36, jt_in0_37, jt_in0_38, jt_in0_39, jt_in0_40, jt_in0_41, jt_in0_43, jt_in0_44, jt_in0_45, jt_in0_46, jt_in0_47, jt_in0_48, jt_in0_49, jt_in0_50, jt_in0_51, jt_in0_52, jt_in0_54, jt_in0_55, jt_in0_56, jt_in0_57, jt_in0_58, jt_in0_59, jt_in0_60, jt_in0_61, jt_in0_62, jt_in0_63, jt_in0_64, jt_in0_66, jt_in0_67, jt_in0_68, jt_in0_69, jt_in0_70, jt_in0_71, jt_in0_72, jt_in0_73, jt_in0_74, jt_in0_75, jt_in0_77, jt_in0_78, jt_in0_79, jt_in0_80, jt_in0_81, jt_in0_82, jt_in0_83, jt_in0_84, jt_in0_85, jt_in0_86, jt_in0_88, jt_in0_90, jt_in0_91, jt_in0_93, jt_in0_94, jt_in0_95, jt_in0_96, jt_in0_98, jt_in0_99, jt_in0_100, jt_ln0_2, jt_ln0_4, jt_ln0_5, jt_ln0_6, jt_ln0_7, jt_ln0_8, jt_ln0_9, jt_ln0_11, jt_ln0_12, jt_ln0_13, jt_ln0_14, jt_ln0_15, jt_ln0_16, jt_ln0_18, jt_ln0_19, jt_ln0_20, jt_ln0_21, jt_ln0_22, jt_ln0_24, jt_ln0_25, jt_ln0_26, jt_ln0_27, jt_ln0_28, jt_ln0_32, jt_ln0_33, jt_ln0_34, jt_ln0_35, jt_ln0_36, jt_ln0_37, jt_ln0_38, jt_ln0_39, jt_ln0_40, jt_ln0_41, jt_ln0_43, jt_ln0_44, jt_ln0_45, jt_ln0_46, jt_ln0_47, jt_ln0_48, jt_ln0_49, jt_ln0_50, jt_ln0_51, jt_ln0_52, jt_ln0_54, jt_ln0_55, jt_ln0_56, jt_ln0_57, jt_ln0_58, jt_ln0_59, jt_ln0_60, jt_ln0_61, jt_ln0_62, jt_ln0_63, jt_ln0_66, jt_ln0_67, jt_ln0_68, jt_ln0_69, jt_ln0_70, jt_ln0_71, jt_ln0_72, jt_ln0_73, jt_ln0_74, jt_ln0_75, jt_ln0_77, jt_ln0_78, jt_ln0_79, jt_ln0_80, jt_ln0_81, jt_ln0_82, jt_ln0_83, jt_ln0_84, jt_ln0_85, jt_ln0_86, jt_ln0_88, jt_ln0_90, jt_ln0_91, jt_ln0_93, jt_ln0_94, jt_ln0_95, jt_ln0_96, jt_ln0_98, jt_ln0_99, jt_ln0_100, Int.toNat_natCast, e6]
      rw [decide_eq_true (by omega)], by
      have e : ((a : Int) * 24 + (i : Int)).toNat = 24 * a + i := by omega
      unfold lb_X8_strengthOf_1
      simp -implicitDefEqProofs (disch := omega) only [jv_g0, jv_gs, jv_b, jv_bl, jv_bcT, jv_bcF, jv_bcD, jv_bcI, jv_bI, jv_bs0, jv_bs1, jv_bsI, jv_k, jv_l, jv_1, jv_1e, jv_2, jv_2ke, jv_2e, jv_d, jv_dke, jv_de, jv_gf, jv_gfe, jv_gr, jv_gre, jv_al, jv_alke, jv_ale, jv_aa, jv_aake, jv_aae, jv_ln, jv_lne, jv_as0, jv_as1, jv_aske, jv_asje, jv_cv, jv_cve, jv_cs, jv_cp, jv_cpke, jv_cpe, jv_cz, jv_cze, jv_tte, jv_ffe, jv_ca, jv_co, jv_cn, jv_lt, jv_le, jv_gt, jv_ge, jv_eq, jv_ne, jv_q, jv_sk, jv_s1, jv_s1e, jv_s2, jv_s2e, jv_ii, jv_pf, jv_pfke, jv_pfe, jv_pa, jv_pale, jv_pake, jv_paje, jv_paf20, jv_paf21, jv_paf22, jv_paf23, jv_fit1, jv_fit2, jv_fit0, jv_fit5, jv_of, jv_ofke, jv_ofje, jv_oa, jv_oale, jv_oake, jv_oaje, jv_ex, jv_exe, jv_sq, jv_if, jv_bk, jv_bke, jv_rv, jv_rve, jv_r0, jv_sw, jv_swe, jv_pk0, jv_pk1, jv_me, jv_oute, jv_outI, jt_ft0_10, jt_ft0_11, jt_ft0_12, jt_ft0_13, jt_ft0_14, jt_ft1_0, jt_ft2_3, jt_ft2_4, jt_ft2_5, jt_ft2_6, jt_ft3_0, jt_ft4_5, jt_ft4_6, jt_ft5_0, jt_ft5_1, jt_ft7_1, jt_ft7_2, jt_ft7_3, jt_ft7_4, jt_ft7_5, jt_ft7_6, jt_ft7_7, jt_ft8_0, jt_ft8_1, jt_ft8_2, jt_ft9_2, jt_ft10_15, jt_ft11_2, jt_ft11_3, jt_ft11_19, jt_ft11_20, jt_ft11_21, jt_ft11_22, jt_ft11_23, jt_ft11_24, jt_ft11_26, jt_ft11_28, jt_ft11_36, jt_ft11_38, jt_ft11_39, jt_ft11_40, js_u_same, js_u_other, jz_add, jz_sub, jz_mul, jz_div, jz_rem, jz_ladd, jz_lsub, jz_lmul, jz_ldiv, jz_lrem, jz_i2l, jz_l2i, List.set_cons_zero, List.set_cons_succ, Int.reduceToNat, Bool.and_true, Bool.true_and, Bool.and_eq_true, decide_eq_true_eq, if_true, if_false, reduceIte, Nat.reduceEqDiff, Nat.reduceSub, Nat.reduceAdd, Int.reduceLT, Int.reduceLE, Int.reduceNeg, Int.reduceEq, Int.reduceAdd, Int.reduceSub, Int.reduceMul, not_true_eq_false, not_false_eq_true, and_true, true_and, and_false, false_and, decide_true, decide_false, Nat.reduceEqDiff, reduceCtorEq, jv_tr0, jv_trs, jv_trn, jv_blI, jt_is0_0, jt_is0_1, jt_ia0_2, jt_is0_3, jt_ia0_4, jt_ia0_5, jt_ia0_6, jt_ia0_7, jt_ia0_8, jt_ia0_9, jt_is0_10, jt_ia0_11, jt_ia0_12, jt_ia0_13, jt_ia0_14, jt_ia0_15, jt_ia0_16, jt_is0_17, jt_ia0_18, jt_ia0_19, jt_ia0_20, jt_ia0_21, jt_ia0_22, jt_is0_23, jt_ia0_24, jt_ia0_25, jt_ia0_26, jt_ia0_27, jt_ia0_28, jt_is0_29, jt_is0_30, jt_is0_31, jt_ia0_32, jt_ia0_33, jt_ia0_34, jt_ia0_35, jt_ia0_36, jt_ia0_37, jt_ia0_38, jt_ia0_39, jt_ia0_40, jt_ia0_41, jt_is0_42, jt_ia0_43, jt_ia0_44, jt_ia0_45, jt_ia0_46, jt_ia0_47, jt_ia0_48, jt_ia0_49, jt_ia0_50, jt_ia0_51, jt_ia0_52, jt_is0_53, jt_ia0_54, jt_ia0_55, jt_ia0_56, jt_ia0_57, jt_ia0_58, jt_ia0_59, jt_ia0_60, jt_ia0_61, jt_ia0_62, jt_ia0_63, jt_is0_65, jt_ia0_66, jt_ia0_67, jt_ia0_68, jt_ia0_69, jt_ia0_70, jt_ia0_71, jt_ia0_72, jt_ia0_73, jt_ia0_74, jt_ia0_75, jt_is0_76, jt_ia0_77, jt_ia0_78, jt_ia0_79, jt_ia0_80, jt_ia0_81, jt_ia0_82, jt_ia0_83, jt_ia0_84, jt_ia0_85, jt_ia0_86, jt_is0_87, jt_ia0_88, jt_is0_89, jt_ia0_90, jt_ia0_91, jt_is0_92, jt_ia0_93, jt_ia0_94, jt_ia0_95, jt_ia0_96, jt_is0_97, jt_ia0_98, jt_ia0_99, jt_ia0_100, jt_rt0_0_0, jt_rt0_0_1, jt_rt0_0_2, jt_rt0_0_3, jt_rt0_0_4, jt_rt0_0_5, jt_rt0_0_6, jt_rt0_0_7, jt_rt0_0_8, jt_rt0_0_9, jt_rt0_0_10, jt_rt0_0_11, jt_rt0_0_12, jt_rt0_0_13, jt_rt0_0_14, jt_rt0_1_0, jt_rt0_3_3, jt_rt0_3_4, jt_rt0_3_5, jt_rt0_3_6, jt_rt0_3_7, jt_rt0_3_8, jt_rt0_10_3, jt_rt0_10_4, jt_rt0_10_5, jt_rt0_10_6, jt_rt0_10_7, jt_rt0_10_8, jt_rt0_17_1, jt_rt0_17_2, jt_rt0_17_3, jt_rt0_17_4, jt_rt0_17_5, jt_rt0_23_1, jt_rt0_23_2, jt_rt0_23_3, jt_rt0_23_4, jt_rt0_23_5, jt_rt0_30_0, jt_rt0_30_1, jt_rt0_30_2, jt_rt0_31_0, jt_rt0_31_1, jt_rt0_31_2, jt_rt0_31_3, jt_rt0_31_4, jt_rt0_31_5, jt_rt0_31_6, jt_rt0_31_7, jt_rt0_31_8, jt_rt0_31_9, jt_rt0_42_0, jt_rt0_42_1, jt_rt0_42_2, jt_rt0_42_3, jt_rt0_42_4, jt_rt0_42_5, jt_rt0_42_6, jt_rt0_42_7, jt_rt0_42_8, jt_rt0_42_9, jt_rt0_53_0, jt_rt0_53_1, jt_rt0_53_2, jt_rt0_53_3, jt_rt0_53_4, jt_rt0_53_5, jt_rt0_53_6, jt_rt0_53_7, jt_rt0_53_8, jt_rt0_53_9, jt_rt0_64_0, jt_rt0_64_1, jt_rt0_65_0, jt_rt0_65_1, jt_rt0_65_2, jt_rt0_65_3, jt_rt0_65_4, jt_rt0_65_5, jt_rt0_65_6, jt_rt0_65_7, jt_rt0_65_8, jt_rt0_65_9, jt_rt0_76_0, jt_rt0_76_1, jt_rt0_76_2, jt_rt0_76_3, jt_rt0_76_4, jt_rt0_76_5, jt_rt0_76_6, jt_rt0_76_7, jt_rt0_76_8, jt_rt0_76_9, jt_rt0_87_0, jt_rt0_87_1, jt_rt0_89_1, jt_rt0_89_2, jt_rt0_92_0, jt_rt0_92_1, jt_rt0_92_2, jt_rt0_92_3, jt_rt0_92_4, jt_rt0_97_0, jt_rt0_97_1, jt_rt0_97_2, jt_in0_2, jt_in0_4, jt_in0_5, jt_in0_6, jt_in0_7, jt_in0_8, jt_in0_9, jt_in0_11, jt_in0_12, jt_in0_13, jt_in0_14, jt_in0_15, jt_in0_16, jt_in0_18, jt_in0_19, jt_in0_20, jt_in0_21, jt_in0_22, jt_in0_24, jt_in0_25, jt_in0_26, jt_in0_27, jt_in0_28, jt_in0_32, jt_in0_33, jt_in0_34, jt_in0_35, jt_in0_36, jt_in0_37, jt_in0_38, jt_in0_39, jt_in0_40, jt_in0_41, jt_in0_43, jt_in0_44, jt_in0_45, jt_in0_46, jt_in0_47, jt_in0_48, jt_in0_49, jt_in0_50, jt_in0_51, jt_in0_52, jt_in0_54, jt_in0_55, jt_in0_56, jt_in0_57, jt_in0_58, jt_in0_59, jt_in0_60, jt_in0_61, jt_in0_62, jt_in0_63, jt_in0_64, jt_in0_66, jt_in0_67, jt_in0_68, jt_in0_69, jt_in0_70, jt_in0_71, jt_in0_72, jt_in0_73, jt_in0_74, jt_in0_75, jt_in0_77, jt_in0_78, jt_in0_79, jt_in0_80, jt_in0_81, jt_in0_82, jt_in0_83, jt_in0_84, jt_in0_85, jt_in0_86, jt_in0_88, jt_in0_90, jt_in0_91, jt_in0_93, jt_in0_94, jt_in0_95, jt_in0_96, jt_in0_98, jt_in0_99, jt_in0_100, jt_ln0_2, jt_ln0_4, jt_ln0_5, jt_ln0_6, jt_ln0_7, jt_ln0_8, jt_ln0_9, jt_ln0_11, jt_ln0_12, jt_ln0_13, jt_ln0_14, jt_ln0_15, jt_ln0_16, jt_ln0_18, jt_ln0_19, jt_ln0_20, jt_ln0_21, jt_ln0_22, jt_ln0_24, jt_ln0_25, jt_ln0_26, jt_ln0_27, jt_ln0_28, jt_ln0_32, jt_ln0_33, jt_ln0_34, jt_ln0_35, jt_ln0_36, jt_ln0_37, jt_ln0_38, jt_ln0_39, jt_ln0_40, jt_ln0_41, jt_ln0_43, jt_ln0_44, jt_ln0_45, jt_ln0_46, jt_ln0_47, jt_ln0_48, jt_ln0_49, jt_ln0_50, jt_ln0_51, jt_ln0_52, jt_ln0_54, jt_ln0_55, jt_ln0_56, jt_ln0_57, jt_ln0_58, jt_ln0_59, jt_ln0_60, jt_ln0_61, jt_ln0_62, jt_ln0_63, jt_ln0_66, jt_ln0_67, jt_ln0_68, jt_ln0_69, jt_ln0_70, jt_ln0_71, jt_ln0_72, jt_ln0_73, jt_ln0_74, jt_ln0_75, jt_ln0_77, jt_ln0_78, jt_ln0_79, jt_ln0_80, jt_ln0_81, jt_ln0_82, jt_ln0_83, jt_ln0_84, jt_ln0_85, jt_ln0_86, jt_ln0_88, jt_ln0_90, jt_ln0_91, jt_ln0_93, jt_ln0_94, jt_ln0_95, jt_ln0_96, jt_ln0_98, jt_ln0_99, jt_ln0_100, e, e8, e9]
      by_cases hq : μ 8 (24 * a + i) = (b : Int)
      · left; simp [hq]
      · right; simp [hq]⟩) (fun _ => by
      unfold lc_X8_strengthOf_1
      simp -implicitDefEqProofs (disch := omega) only [jv_g0, jv_gs, jv_b, jv_bl, jv_bcT, jv_bcF, jv_bcD, jv_bcI, jv_bI, jv_bs0, jv_bs1, jv_bsI, jv_k, jv_l, jv_1, jv_1e, jv_2, jv_2ke, jv_2e, jv_d, jv_dke, jv_de, jv_gf, jv_gfe, jv_gr, jv_gre, jv_al, jv_alke, jv_ale, jv_aa, jv_aake, jv_aae, jv_ln, jv_lne, jv_as0, jv_as1, jv_aske, jv_asje, jv_cv, jv_cve, jv_cs, jv_cp, jv_cpke, jv_cpe, jv_cz, jv_cze, jv_tte, jv_ffe, jv_ca, jv_co, jv_cn, jv_lt, jv_le, jv_gt, jv_ge, jv_eq, jv_ne, jv_q, jv_sk, jv_s1, jv_s1e, jv_s2, jv_s2e, jv_ii, jv_pf, jv_pfke, jv_pfe, jv_pa, jv_pale, jv_pake, jv_paje, jv_paf20, jv_paf21, jv_paf22, jv_paf23, jv_fit1, jv_fit2, jv_fit0, jv_fit5, jv_of, jv_ofke, jv_ofje, jv_oa, jv_oale, jv_oake, jv_oaje, jv_ex, jv_exe, jv_sq, jv_if, jv_bk, jv_bke, jv_rv, jv_rve, jv_r0, jv_sw, jv_swe, jv_pk0, jv_pk1, jv_me, jv_oute, jv_outI, jt_ft0_10, jt_ft0_11, jt_ft0_12, jt_ft0_13, jt_ft0_14, jt_ft1_0, jt_ft2_3, jt_ft2_4, jt_ft2_5, jt_ft2_6, jt_ft3_0, jt_ft4_5, jt_ft4_6, jt_ft5_0, jt_ft5_1, jt_ft7_1, jt_ft7_2, jt_ft7_3, jt_ft7_4, jt_ft7_5, jt_ft7_6, jt_ft7_7, jt_ft8_0, jt_ft8_1, jt_ft8_2, jt_ft9_2, jt_ft10_15, jt_ft11_2, jt_ft11_3, jt_ft11_19, jt_ft11_20, jt_ft11_21, jt_ft11_22, jt_ft11_23, jt_ft11_24, jt_ft11_26, jt_ft11_28, jt_ft11_36, jt_ft11_38, jt_ft11_39, jt_ft11_40, js_u_same, js_u_other, jz_add, jz_sub, jz_mul, jz_div, jz_rem, jz_ladd, jz_lsub, jz_lmul, jz_ldiv, jz_lrem, jz_i2l, jz_l2i, List.set_cons_zero, List.set_cons_succ, Int.reduceToNat, Bool.and_true, Bool.true_and, Bool.and_eq_true, decide_eq_true_eq, if_true, if_false, reduceIte, Nat.reduceEqDiff, Nat.reduceSub, Nat.reduceAdd, Int.reduceLT, Int.reduceLE, Int.reduceNeg, Int.reduceEq, Int.reduceAdd, Int.reduceSub, Int.reduceMul, not_true_eq_false, not_false_eq_true, and_true, true_and, and_false, false_and, decide_true, decide_false, Nat.reduceEqDiff, reduceCtorEq, jv_tr0, jv_trs, jv_trn, jv_blI, jt_is0_0, jt_is0_1, jt_ia0_2, jt_is0_3, jt_ia0_4, jt_ia0_5, jt_ia0_6, jt_ia0_7, jt_ia0_8, jt_ia0_9, jt_is0_10, jt_ia0_11, jt_ia0_12, jt_ia0_13, jt_ia0_14, jt_ia0_15, jt_ia0_16, jt_is0_17, jt_ia0_18, jt_ia0_19, jt_ia0_20, jt_ia0_21, jt_ia0_22, jt_is0_23, jt_ia0_24, jt_ia0_25, jt_ia0_26, jt_ia0_27, jt_ia0_28, jt_is0_29, jt_is0_30, jt_is0_31, jt_ia0_32, jt_ia0_33, jt_ia0_34, jt_ia0_35, jt_ia0_36, jt_ia0_37, jt_ia0_38, jt_ia0_39, jt_ia0_40, jt_ia0_41, jt_is0_42, jt_ia0_43, jt_ia0_44, jt_ia0_45, jt_ia0_46, jt_ia0_47, jt_ia0_48, jt_ia0_49, jt_ia0_50, jt_ia0_51, jt_ia0_52, jt_is0_53, jt_ia0_54, jt_ia0_55, jt_ia0_56, jt_ia0_57, jt_ia0_58, jt_ia0_59, jt_ia0_60, jt_ia0_61, jt_ia0_62, jt_ia0_63, jt_is0_65, jt_ia0_66, jt_ia0_67, jt_ia0_68, jt_ia0_69, jt_ia0_70, jt_ia0_71, jt_ia0_72, jt_ia0_73, jt_ia0_74, jt_ia0_75, jt_is0_76, jt_ia0_77, jt_ia0_78, jt_ia0_79, jt_ia0_80, jt_ia0_81, jt_ia0_82, jt_ia0_83, jt_ia0_84, jt_ia0_85, jt_ia0_86, jt_is0_87, jt_ia0_88, jt_is0_89, jt_ia0_90, jt_ia0_91, jt_is0_92, jt_ia0_93, jt_ia0_94, jt_ia0_95, jt_ia0_96, jt_is0_97, jt_ia0_98, jt_ia0_99, jt_ia0_100, jt_rt0_0_0, jt_rt0_0_1, jt_rt0_0_2, jt_rt0_0_3, jt_rt0_0_4, jt_rt0_0_5, jt_rt0_0_6, jt_rt0_0_7, jt_rt0_0_8, jt_rt0_0_9, jt_rt0_0_10, jt_rt0_0_11, jt_rt0_0_12, jt_rt0_0_13, jt_rt0_0_14, jt_rt0_1_0, jt_rt0_3_3, jt_rt0_3_4, jt_rt0_3_5, jt_rt0_3_6, jt_rt0_3_7, jt_rt0_3_8, jt_rt0_10_3, jt_rt0_10_4, jt_rt0_10_5, jt_rt0_10_6, jt_rt0_10_7, jt_rt0_10_8, jt_rt0_17_1, jt_rt0_17_2, jt_rt0_17_3, jt_rt0_17_4, jt_rt0_17_5, jt_rt0_23_1, jt_rt0_23_2, jt_rt0_23_3, jt_rt0_23_4, jt_rt0_23_5, jt_rt0_30_0, jt_rt0_30_1, jt_rt0_30_2, jt_rt0_31_0, jt_rt0_31_1, jt_rt0_31_2, jt_rt0_31_3, jt_rt0_31_4, jt_rt0_31_5, jt_rt0_31_6, jt_rt0_31_7, jt_rt0_31_8, jt_rt0_31_9, jt_rt0_42_0, jt_rt0_42_1, jt_rt0_42_2, jt_rt0_42_3, jt_rt0_42_4, jt_rt0_42_5, jt_rt0_42_6, jt_rt0_42_7, jt_rt0_42_8, jt_rt0_42_9, jt_rt0_53_0, jt_rt0_53_1, jt_rt0_53_2, jt_rt0_53_3, jt_rt0_53_4, jt_rt0_53_5, jt_rt0_53_6, jt_rt0_53_7, jt_rt0_53_8, jt_rt0_53_9, jt_rt0_64_0, jt_rt0_64_1, jt_rt0_65_0, jt_rt0_65_1, jt_rt0_65_2, jt_rt0_65_3, jt_rt0_65_4, jt_rt0_65_5, jt_rt0_65_6, jt_rt0_65_7, jt_rt0_65_8, jt_rt0_65_9, jt_rt0_76_0, jt_rt0_76_1, jt_rt0_76_2, jt_rt0_76_3, jt_rt0_76_4, jt_rt0_76_5, jt_rt0_76_6, jt_rt0_76_7, jt_rt0_76_8, jt_rt0_76_9, jt_rt0_87_0, jt_rt0_87_1, jt_rt0_89_1, jt_rt0_89_2, jt_rt0_92_0, jt_rt0_92_1, jt_rt0_92_2, jt_rt0_92_3, jt_rt0_92_4, jt_rt0_97_0, jt_rt0_97_1, jt_rt0_97_2, jt_in0_2, jt_in0_4, jt_in0_5, jt_in0_6, jt_in0_7, jt_in0_8, jt_in0_9, jt_in0_11, jt_in0_12, jt_in0_13, jt_in0_14, jt_in0_15, jt_in0_16, jt_in0_18, jt_in0_19, jt_in0_20, jt_in0_21, jt_in0_22, jt_in0_24, jt_in0_25, jt_in0_26, jt_in0_27, jt_in0_28, jt_in0_32, jt_in0_33, jt_in0_34, jt_in0_35, jt_in0_36, jt_in0_37, jt_in0_38, jt_in0_39, jt_in0_40, jt_in0_41, jt_in0_43, jt_in0_44, jt_in0_45, jt_in0_46, jt_in0_47, jt_in0_48, jt_in0_49, jt_in0_50, jt_in0_51, jt_in0_52, jt_in0_54, jt_in0_55, jt_in0_56, jt_in0_57, jt_in0_58, jt_in0_59, jt_in0_60, jt_in0_61, jt_in0_62, jt_in0_63, jt_in0_64, jt_in0_66, jt_in0_67, jt_in0_68, jt_in0_69, jt_in0_70, jt_in0_71, jt_in0_72, jt_in0_73, jt_in0_74, jt_in0_75, jt_in0_77, jt_in0_78, jt_in0_79, jt_in0_80, jt_in0_81, jt_in0_82, jt_in0_83, jt_in0_84, jt_in0_85, jt_in0_86, jt_in0_88, jt_in0_90, jt_in0_91, jt_in0_93, jt_in0_94, jt_in0_95, jt_in0_96, jt_in0_98, jt_in0_99, jt_in0_100, jt_ln0_2, jt_ln0_4, jt_ln0_5, jt_ln0_6, jt_ln0_7, jt_ln0_8, jt_ln0_9, jt_ln0_11, jt_ln0_12, jt_ln0_13, jt_ln0_14, jt_ln0_15, jt_ln0_16, jt_ln0_18, jt_ln0_19, jt_ln0_20, jt_ln0_21, jt_ln0_22, jt_ln0_24, jt_ln0_25, jt_ln0_26, jt_ln0_27, jt_ln0_28, jt_ln0_32, jt_ln0_33, jt_ln0_34, jt_ln0_35, jt_ln0_36, jt_ln0_37, jt_ln0_38, jt_ln0_39, jt_ln0_40, jt_ln0_41, jt_ln0_43, jt_ln0_44, jt_ln0_45, jt_ln0_46, jt_ln0_47, jt_ln0_48, jt_ln0_49, jt_ln0_50, jt_ln0_51, jt_ln0_52, jt_ln0_54, jt_ln0_55, jt_ln0_56, jt_ln0_57, jt_ln0_58, jt_ln0_59, jt_ln0_60, jt_ln0_61, jt_ln0_62, jt_ln0_63, jt_ln0_66, jt_ln0_67, jt_ln0_68, jt_ln0_69, jt_ln0_70, jt_ln0_71, jt_ln0_72, jt_ln0_73, jt_ln0_74, jt_ln0_75, jt_ln0_77, jt_ln0_78, jt_ln0_79, jt_ln0_80, jt_ln0_81, jt_ln0_82, jt_ln0_83, jt_ln0_84, jt_ln0_85, jt_ln0_86, jt_ln0_88, jt_ln0_90, jt_ln0_91, jt_ln0_93, jt_ln0_94, jt_ln0_95, jt_ln0_96, jt_ln0_98, jt_ln0_99, jt_ln0_100, Int.toNat_natCast, e6]
      rw [decide_eq_false (by omega)])
  rcases key with ⟨i, hi, hP, hQ, ρ2, hw⟩ | ⟨hQ, hw⟩
  · have k2 : js_wh lc_X8_strengthOf_1 lb_X8_strengthOf_1 [(3, 10), (1, (a : Int)), (1, (b : Int)), (1, 0)] w = some (some (μ 9 (24 * a + i)), ρ2, w) := hw
    simp -implicitDefEqProofs (disch := omega) only [jv_g0, jv_gs, jv_b, jv_bl, jv_bcT, jv_bcF, jv_bcD, jv_bcI, jv_bI, jv_bs0, jv_bs1, jv_bsI, jv_k, jv_l, jv_1, jv_1e, jv_2, jv_2ke, jv_2e, jv_d, jv_dke, jv_de, jv_gf, jv_gfe, jv_gr, jv_gre, jv_al, jv_alke, jv_ale, jv_aa, jv_aake, jv_aae, jv_ln, jv_lne, jv_as0, jv_as1, jv_aske, jv_asje, jv_cv, jv_cve, jv_cs, jv_cp, jv_cpke, jv_cpe, jv_cz, jv_cze, jv_tte, jv_ffe, jv_ca, jv_co, jv_cn, jv_lt, jv_le, jv_gt, jv_ge, jv_eq, jv_ne, jv_q, jv_sk, jv_s1, jv_s1e, jv_s2, jv_s2e, jv_ii, jv_pf, jv_pfke, jv_pfe, jv_pa, jv_pale, jv_pake, jv_paje, jv_paf20, jv_paf21, jv_paf22, jv_paf23, jv_fit1, jv_fit2, jv_fit0, jv_fit5, jv_of, jv_ofke, jv_ofje, jv_oa, jv_oale, jv_oake, jv_oaje, jv_ex, jv_exe, jv_sq, jv_if, jv_bk, jv_bke, jv_rv, jv_rve, jv_r0, jv_sw, jv_swe, jv_pk0, jv_pk1, jv_me, jv_oute, jv_outI, jt_ft0_10, jt_ft0_11, jt_ft0_12, jt_ft0_13, jt_ft0_14, jt_ft1_0, jt_ft2_3, jt_ft2_4, jt_ft2_5, jt_ft2_6, jt_ft3_0, jt_ft4_5, jt_ft4_6, jt_ft5_0, jt_ft5_1, jt_ft7_1, jt_ft7_2, jt_ft7_3, jt_ft7_4, jt_ft7_5, jt_ft7_6, jt_ft7_7, jt_ft8_0, jt_ft8_1, jt_ft8_2, jt_ft9_2, jt_ft10_15, jt_ft11_2, jt_ft11_3, jt_ft11_19, jt_ft11_20, jt_ft11_21, jt_ft11_22, jt_ft11_23, jt_ft11_24, jt_ft11_26, jt_ft11_28, jt_ft11_36, jt_ft11_38, jt_ft11_39, jt_ft11_40, js_u_same, js_u_other, jz_add, jz_sub, jz_mul, jz_div, jz_rem, jz_ladd, jz_lsub, jz_lmul, jz_ldiv, jz_lrem, jz_i2l, jz_l2i, List.set_cons_zero, List.set_cons_succ, Int.reduceToNat, Bool.and_true, Bool.true_and, Bool.and_eq_true, decide_eq_true_eq, if_true, if_false, reduceIte, Nat.reduceEqDiff, Nat.reduceSub, Nat.reduceAdd, Int.reduceLT, Int.reduceLE, Int.reduceNeg, Int.reduceEq, Int.reduceAdd, Int.reduceSub, Int.reduceMul, not_true_eq_false, not_false_eq_true, and_true, true_and, and_false, false_and, decide_true, decide_false, Nat.reduceEqDiff, reduceCtorEq, jv_tr0, jv_trs, jv_trn, jv_blI, jt_is0_0, jt_is0_1, jt_ia0_2, jt_is0_3, jt_ia0_4, jt_ia0_5, jt_ia0_6, jt_ia0_7, jt_ia0_8, jt_ia0_9, jt_is0_10, jt_ia0_11, jt_ia0_12, jt_ia0_13, jt_ia0_14, jt_ia0_15, jt_ia0_16, jt_is0_17, jt_ia0_18, jt_ia0_19, jt_ia0_20, jt_ia0_21, jt_ia0_22, jt_is0_23, jt_ia0_24, jt_ia0_25, jt_ia0_26, jt_ia0_27, jt_ia0_28, jt_is0_29, jt_is0_30, jt_is0_31, jt_ia0_32, jt_ia0_33, jt_ia0_34, jt_ia0_35, jt_ia0_36, jt_ia0_37, jt_ia0_38, jt_ia0_39, jt_ia0_40, jt_ia0_41, jt_is0_42, jt_ia0_43, jt_ia0_44, jt_ia0_45, jt_ia0_46, jt_ia0_47, jt_ia0_48, jt_ia0_49, jt_ia0_50, jt_ia0_51, jt_ia0_52, jt_is0_53, jt_ia0_54, jt_ia0_55, jt_ia0_56, jt_ia0_57, jt_ia0_58, jt_ia0_59, jt_ia0_60, jt_ia0_61, jt_ia0_62, jt_ia0_63, jt_is0_65, jt_ia0_66, jt_ia0_67, jt_ia0_68, jt_ia0_69, jt_ia0_70, jt_ia0_71, jt_ia0_72, jt_ia0_73, jt_ia0_74, jt_ia0_75, jt_is0_76, jt_ia0_77, jt_ia0_78, jt_ia0_79, jt_ia0_80, jt_ia0_81, jt_ia0_82, jt_ia0_83, jt_ia0_84, jt_ia0_85, jt_ia0_86, jt_is0_87, jt_ia0_88, jt_is0_89, jt_ia0_90, jt_ia0_91, jt_is0_92, jt_ia0_93, jt_ia0_94, jt_ia0_95, jt_ia0_96, jt_is0_97, jt_ia0_98, jt_ia0_99, jt_ia0_100, jt_rt0_0_0, jt_rt0_0_1, jt_rt0_0_2, jt_rt0_0_3, jt_rt0_0_4, jt_rt0_0_5, jt_rt0_0_6, jt_rt0_0_7, jt_rt0_0_8, jt_rt0_0_9, jt_rt0_0_10, jt_rt0_0_11, jt_rt0_0_12, jt_rt0_0_13, jt_rt0_0_14, jt_rt0_1_0, jt_rt0_3_3, jt_rt0_3_4, jt_rt0_3_5, jt_rt0_3_6, jt_rt0_3_7, jt_rt0_3_8, jt_rt0_10_3, jt_rt0_10_4, jt_rt0_10_5, jt_rt0_10_6, jt_rt0_10_7, jt_rt0_10_8, jt_rt0_17_1, jt_rt0_17_2, jt_rt0_17_3, jt_rt0_17_4, jt_rt0_17_5, jt_rt0_23_1, jt_rt0_23_2, jt_rt0_23_3, jt_rt0_23_4, jt_rt0_23_5, jt_rt0_30_0, jt_rt0_30_1, jt_rt0_30_2, jt_rt0_31_0, jt_rt0_31_1, jt_rt0_31_2, jt_rt0_31_3, jt_rt0_31_4, jt_rt0_31_5, jt_rt0_31_6, jt_rt0_31_7, jt_rt0_31_8, jt_rt0_31_9, jt_rt0_42_0, jt_rt0_42_1, jt_rt0_42_2, jt_rt0_42_3, jt_rt0_42_4, jt_rt0_42_5, jt_rt0_42_6, jt_rt0_42_7, jt_rt0_42_8, jt_rt0_42_9, jt_rt0_53_0, jt_rt0_53_1, jt_rt0_53_2, jt_rt0_53_3, jt_rt0_53_4, jt_rt0_53_5, jt_rt0_53_6, jt_rt0_53_7, jt_rt0_53_8, jt_rt0_53_9, jt_rt0_64_0, jt_rt0_64_1, jt_rt0_65_0, jt_rt0_65_1, jt_rt0_65_2, jt_rt0_65_3, jt_rt0_65_4, jt_rt0_65_5, jt_rt0_65_6, jt_rt0_65_7, jt_rt0_65_8, jt_rt0_65_9, jt_rt0_76_0, jt_rt0_76_1, jt_rt0_76_2, jt_rt0_76_3, jt_rt0_76_4, jt_rt0_76_5, jt_rt0_76_6, jt_rt0_76_7, jt_rt0_76_8, jt_rt0_76_9, jt_rt0_87_0, jt_rt0_87_1, jt_rt0_89_1, jt_rt0_89_2, jt_rt0_92_0, jt_rt0_92_1, jt_rt0_92_2, jt_rt0_92_3, jt_rt0_92_4, jt_rt0_97_0, jt_rt0_97_1, jt_rt0_97_2, jt_in0_2, jt_in0_4, jt_in0_5, jt_in0_6, jt_in0_7, jt_in0_8, jt_in0_9, jt_in0_11, jt_in0_12, jt_in0_13, jt_in0_14, jt_in0_15, jt_in0_16, jt_in0_18, jt_in0_19, jt_in0_20, jt_in0_21, jt_in0_22, jt_in0_24, jt_in0_25, jt_in0_26, jt_in0_27, jt_in0_28, jt_in0_32, jt_in0_33, jt_in0_34, jt_in0_35, jt_in0_36, jt_in0_37, jt_in0_38, jt_in0_39, jt_in0_40, jt_in0_41, jt_in0_43, jt_in0_44, jt_in0_45, jt_in0_46, jt_in0_47, jt_in0_48, jt_in0_49, jt_in0_50, jt_in0_51, jt_in0_52, jt_in0_54, jt_in0_55, jt_in0_56, jt_in0_57, jt_in0_58, jt_in0_59, jt_in0_60, jt_in0_61, jt_in0_62, jt_in0_63, jt_in0_64, jt_in0_66, jt_in0_67, jt_in0_68, jt_in0_69, jt_in0_70, jt_in0_71, jt_in0_72, jt_in0_73, jt_in0_74, jt_in0_75, jt_in0_77, jt_in0_78, jt_in0_79, jt_in0_80, jt_in0_81, jt_in0_82, jt_in0_83, jt_in0_84, jt_in0_85, jt_in0_86, jt_in0_88, jt_in0_90, jt_in0_91, jt_in0_93, jt_in0_94, jt_in0_95, jt_in0_96, jt_in0_98, jt_in0_99, jt_in0_100, jt_ln0_2, jt_ln0_4, jt_ln0_5, jt_ln0_6, jt_ln0_7, jt_ln0_8, jt_ln0_9, jt_ln0_11, jt_ln0_12, jt_ln0_13, jt_ln0_14, jt_ln0_15, jt_ln0_16, jt_ln0_18, jt_ln0_19, jt_ln0_20, jt_ln0_21, jt_ln0_22, jt_ln0_24, jt_ln0_25, jt_ln0_26, jt_ln0_27, jt_ln0_28, jt_ln0_32, jt_ln0_33, jt_ln0_34, jt_ln0_35, jt_ln0_36, jt_ln0_37, jt_ln0_38, jt_ln0_39, jt_ln0_40, jt_ln0_41, jt_ln0_43, jt_ln0_44, jt_ln0_45, jt_ln0_46, jt_ln0_47, jt_ln0_48, jt_ln0_49, jt_ln0_50, jt_ln0_51, jt_ln0_52, jt_ln0_54, jt_ln0_55, jt_ln0_56, jt_ln0_57, jt_ln0_58, jt_ln0_59, jt_ln0_60, jt_ln0_61, jt_ln0_62, jt_ln0_63, jt_ln0_66, jt_ln0_67, jt_ln0_68, jt_ln0_69, jt_ln0_70, jt_ln0_71, jt_ln0_72, jt_ln0_73, jt_ln0_74, jt_ln0_75, jt_ln0_77, jt_ln0_78, jt_ln0_79, jt_ln0_80, jt_ln0_81, jt_ln0_82, jt_ln0_83, jt_ln0_84, jt_ln0_85, jt_ln0_86, jt_ln0_88, jt_ln0_90, jt_ln0_91, jt_ln0_93, jt_ln0_94, jt_ln0_95, jt_ln0_96, jt_ln0_98, jt_ln0_99, jt_ln0_100, k2]
    simp only [decide_eq_true_eq] at hP
    obtain ⟨k, c1, c2, c3, c4, c5⟩ := rTi_fr h ha.2 (i := i) (by omega)
    have t3 := h.2.2.1 k c1
    have hab : (a : Int) ≠ b ∧ tIs ν a k = true ∧ tIs ν b k = true := by
      rw [c4] at hP
      unfold tOt at hP
      rw [tIs_or] at c2 ⊢
      rw [tIs_or]
      by_cases q : ν 7 k = (a : Int)
      · rw [if_pos q] at hP
        exact ⟨fun e => t3.2.2.1 (by rw [q, hP, e]), Or.inl q, Or.inr hP⟩
      · rw [if_neg q] at hP
        exact ⟨fun e => q (by rw [hP, e]), c2, Or.inl hP⟩
    rw [c5, tSt_yes hab (μ 3 1).toNat (by omega) (fun j h1 h2 hj => ?_)]
    obtain ⟨d1, d2⟩ := h.2.2.2.1 k j h1 (by omega)
    have t4 := h.2.2.1 j (by omega)
    simp only [tIs_or] at hab hj
    rcases hab.2.1 with q1 | q1 <;> rcases hab.2.2 with q2 | q2 <;> rcases hj.2.1 with q3 | q3 <;> rcases hj.2.2 with q4 | q4 <;> omega
  · have k2 : js_wh lc_X8_strengthOf_1 lb_X8_strengthOf_1 [(3, 10), (1, (a : Int)), (1, (b : Int)), (1, 0)] w = some (none, [(3, 10), (1, (a : Int)), (1, (b : Int)), (1, ((μ 6 a).toNat : Int))], w) := hw
    simp -implicitDefEqProofs (disch := omega) only [jv_g0, jv_gs, jv_b, jv_bl, jv_bcT, jv_bcF, jv_bcD, jv_bcI, jv_bI, jv_bs0, jv_bs1, jv_bsI, jv_k, jv_l, jv_1, jv_1e, jv_2, jv_2ke, jv_2e, jv_d, jv_dke, jv_de, jv_gf, jv_gfe, jv_gr, jv_gre, jv_al, jv_alke, jv_ale, jv_aa, jv_aake, jv_aae, jv_ln, jv_lne, jv_as0, jv_as1, jv_aske, jv_asje, jv_cv, jv_cve, jv_cs, jv_cp, jv_cpke, jv_cpe, jv_cz, jv_cze, jv_tte, jv_ffe, jv_ca, jv_co, jv_cn, jv_lt, jv_le, jv_gt, jv_ge, jv_eq, jv_ne, jv_q, jv_sk, jv_s1, jv_s1e, jv_s2, jv_s2e, jv_ii, jv_pf, jv_pfke, jv_pfe, jv_pa, jv_pale, jv_pake, jv_paje, jv_paf20, jv_paf21, jv_paf22, jv_paf23, jv_fit1, jv_fit2, jv_fit0, jv_fit5, jv_of, jv_ofke, jv_ofje, jv_oa, jv_oale, jv_oake, jv_oaje, jv_ex, jv_exe, jv_sq, jv_if, jv_bk, jv_bke, jv_rv, jv_rve, jv_r0, jv_sw, jv_swe, jv_pk0, jv_pk1, jv_me, jv_oute, jv_outI, jt_ft0_10, jt_ft0_11, jt_ft0_12, jt_ft0_13, jt_ft0_14, jt_ft1_0, jt_ft2_3, jt_ft2_4, jt_ft2_5, jt_ft2_6, jt_ft3_0, jt_ft4_5, jt_ft4_6, jt_ft5_0, jt_ft5_1, jt_ft7_1, jt_ft7_2, jt_ft7_3, jt_ft7_4, jt_ft7_5, jt_ft7_6, jt_ft7_7, jt_ft8_0, jt_ft8_1, jt_ft8_2, jt_ft9_2, jt_ft10_15, jt_ft11_2, jt_ft11_3, jt_ft11_19, jt_ft11_20, jt_ft11_21, jt_ft11_22, jt_ft11_23, jt_ft11_24, jt_ft11_26, jt_ft11_28, jt_ft11_36, jt_ft11_38, jt_ft11_39, jt_ft11_40, js_u_same, js_u_other, jz_add, jz_sub, jz_mul, jz_div, jz_rem, jz_ladd, jz_lsub, jz_lmul, jz_ldiv, jz_lrem, jz_i2l, jz_l2i, List.set_cons_zero, List.set_cons_succ, Int.reduceToNat, Bool.and_true, Bool.true_and, Bool.and_eq_true, decide_eq_true_eq, if_true, if_false, reduceIte, Nat.reduceEqDiff, Nat.reduceSub, Nat.reduceAdd, Int.reduceLT, Int.reduceLE, Int.reduceNeg, Int.reduceEq, Int.reduceAdd, Int.reduceSub, Int.reduceMul, not_true_eq_false, not_false_eq_true, and_true, true_and, and_false, false_and, decide_true, decide_false, Nat.reduceEqDiff, reduceCtorEq, jv_tr0, jv_trs, jv_trn, jv_blI, jt_is0_0, jt_is0_1, jt_ia0_2, jt_is0_3, jt_ia0_4, jt_ia0_5, jt_ia0_6, jt_ia0_7, jt_ia0_8, jt_ia0_9, jt_is0_10, jt_ia0_11, jt_ia0_12, jt_ia0_13, jt_ia0_14, jt_ia0_15, jt_ia0_16, jt_is0_17, jt_ia0_18, jt_ia0_19, jt_ia0_20, jt_ia0_21, jt_ia0_22, jt_is0_23, jt_ia0_24, jt_ia0_25, jt_ia0_26, jt_ia0_27, jt_ia0_28, jt_is0_29, jt_is0_30, jt_is0_31, jt_ia0_32, jt_ia0_33, jt_ia0_34, jt_ia0_35, jt_ia0_36, jt_ia0_37, jt_ia0_38, jt_ia0_39, jt_ia0_40, jt_ia0_41, jt_is0_42, jt_ia0_43, jt_ia0_44, jt_ia0_45, jt_ia0_46, jt_ia0_47, jt_ia0_48, jt_ia0_49, jt_ia0_50, jt_ia0_51, jt_ia0_52, jt_is0_53, jt_ia0_54, jt_ia0_55, jt_ia0_56, jt_ia0_57, jt_ia0_58, jt_ia0_59, jt_ia0_60, jt_ia0_61, jt_ia0_62, jt_ia0_63, jt_is0_65, jt_ia0_66, jt_ia0_67, jt_ia0_68, jt_ia0_69, jt_ia0_70, jt_ia0_71, jt_ia0_72, jt_ia0_73, jt_ia0_74, jt_ia0_75, jt_is0_76, jt_ia0_77, jt_ia0_78, jt_ia0_79, jt_ia0_80, jt_ia0_81, jt_ia0_82, jt_ia0_83, jt_ia0_84, jt_ia0_85, jt_ia0_86, jt_is0_87, jt_ia0_88, jt_is0_89, jt_ia0_90, jt_ia0_91, jt_is0_92, jt_ia0_93, jt_ia0_94, jt_ia0_95, jt_ia0_96, jt_is0_97, jt_ia0_98, jt_ia0_99, jt_ia0_100, jt_rt0_0_0, jt_rt0_0_1, jt_rt0_0_2, jt_rt0_0_3, jt_rt0_0_4, jt_rt0_0_5, jt_rt0_0_6, jt_rt0_0_7, jt_rt0_0_8, jt_rt0_0_9, jt_rt0_0_10, jt_rt0_0_11, jt_rt0_0_12, jt_rt0_0_13, jt_rt0_0_14, jt_rt0_1_0, jt_rt0_3_3, jt_rt0_3_4, jt_rt0_3_5, jt_rt0_3_6, jt_rt0_3_7, jt_rt0_3_8, jt_rt0_10_3, jt_rt0_10_4, jt_rt0_10_5, jt_rt0_10_6, jt_rt0_10_7, jt_rt0_10_8, jt_rt0_17_1, jt_rt0_17_2, jt_rt0_17_3, jt_rt0_17_4, jt_rt0_17_5, jt_rt0_23_1, jt_rt0_23_2, jt_rt0_23_3, jt_rt0_23_4, jt_rt0_23_5, jt_rt0_30_0, jt_rt0_30_1, jt_rt0_30_2, jt_rt0_31_0, jt_rt0_31_1, jt_rt0_31_2, jt_rt0_31_3, jt_rt0_31_4, jt_rt0_31_5, jt_rt0_31_6, jt_rt0_31_7, jt_rt0_31_8, jt_rt0_31_9, jt_rt0_42_0, jt_rt0_42_1, jt_rt0_42_2, jt_rt0_42_3, jt_rt0_42_4, jt_rt0_42_5, jt_rt0_42_6, jt_rt0_42_7, jt_rt0_42_8, jt_rt0_42_9, jt_rt0_53_0, jt_rt0_53_1, jt_rt0_53_2, jt_rt0_53_3, jt_rt0_53_4, jt_rt0_53_5, jt_rt0_53_6, jt_rt0_53_7, jt_rt0_53_8, jt_rt0_53_9, jt_rt0_64_0, jt_rt0_64_1, jt_rt0_65_0, jt_rt0_65_1, jt_rt0_65_2, jt_rt0_65_3, jt_rt0_65_4, jt_rt0_65_5, jt_rt0_65_6, jt_rt0_65_7, jt_rt0_65_8, jt_rt0_65_9, jt_rt0_76_0, jt_rt0_76_1, jt_rt0_76_2, jt_rt0_76_3, jt_rt0_76_4, jt_rt0_76_5, jt_rt0_76_6, jt_rt0_76_7, jt_rt0_76_8, jt_rt0_76_9, jt_rt0_87_0, jt_rt0_87_1, jt_rt0_89_1, jt_rt0_89_2, jt_rt0_92_0, jt_rt0_92_1, jt_rt0_92_2, jt_rt0_92_3, jt_rt0_92_4, jt_rt0_97_0, jt_rt0_97_1, jt_rt0_97_2, jt_in0_2, jt_in0_4, jt_in0_5, jt_in0_6, jt_in0_7, jt_in0_8, jt_in0_9, jt_in0_11, jt_in0_12, jt_in0_13, jt_in0_14, jt_in0_15, jt_in0_16, jt_in0_18, jt_in0_19, jt_in0_20, jt_in0_21, jt_in0_22, jt_in0_24, jt_in0_25, jt_in0_26, jt_in0_27, jt_in0_28, jt_in0_32, jt_in0_33, jt_in0_34, jt_in0_35, jt_in0_36, jt_in0_37, jt_in0_38, jt_in0_39, jt_in0_40, jt_in0_41, jt_in0_43, jt_in0_44, jt_in0_45, jt_in0_46, jt_in0_47, jt_in0_48, jt_in0_49, jt_in0_50, jt_in0_51, jt_in0_52, jt_in0_54, jt_in0_55, jt_in0_56, jt_in0_57, jt_in0_58, jt_in0_59, jt_in0_60, jt_in0_61, jt_in0_62, jt_in0_63, jt_in0_64, jt_in0_66, jt_in0_67, jt_in0_68, jt_in0_69, jt_in0_70, jt_in0_71, jt_in0_72, jt_in0_73, jt_in0_74, jt_in0_75, jt_in0_77, jt_in0_78, jt_in0_79, jt_in0_80, jt_in0_81, jt_in0_82, jt_in0_83, jt_in0_84, jt_in0_85, jt_in0_86, jt_in0_88, jt_in0_90, jt_in0_91, jt_in0_93, jt_in0_94, jt_in0_95, jt_in0_96, jt_in0_98, jt_in0_99, jt_in0_100, jt_ln0_2, jt_ln0_4, jt_ln0_5, jt_ln0_6, jt_ln0_7, jt_ln0_8, jt_ln0_9, jt_ln0_11, jt_ln0_12, jt_ln0_13, jt_ln0_14, jt_ln0_15, jt_ln0_16, jt_ln0_18, jt_ln0_19, jt_ln0_20, jt_ln0_21, jt_ln0_22, jt_ln0_24, jt_ln0_25, jt_ln0_26, jt_ln0_27, jt_ln0_28, jt_ln0_32, jt_ln0_33, jt_ln0_34, jt_ln0_35, jt_ln0_36, jt_ln0_37, jt_ln0_38, jt_ln0_39, jt_ln0_40, jt_ln0_41, jt_ln0_43, jt_ln0_44, jt_ln0_45, jt_ln0_46, jt_ln0_47, jt_ln0_48, jt_ln0_49, jt_ln0_50, jt_ln0_51, jt_ln0_52, jt_ln0_54, jt_ln0_55, jt_ln0_56, jt_ln0_57, jt_ln0_58, jt_ln0_59, jt_ln0_60, jt_ln0_61, jt_ln0_62, jt_ln0_63, jt_ln0_66, jt_ln0_67, jt_ln0_68, jt_ln0_69, jt_ln0_70, jt_ln0_71, jt_ln0_72, jt_ln0_73, jt_ln0_74, jt_ln0_75, jt_ln0_77, jt_ln0_78, jt_ln0_79, jt_ln0_80, jt_ln0_81, jt_ln0_82, jt_ln0_83, jt_ln0_84, jt_ln0_85, jt_ln0_86, jt_ln0_88, jt_ln0_90, jt_ln0_91, jt_ln0_93, jt_ln0_94, jt_ln0_95, jt_ln0_96, jt_ln0_98, jt_ln0_99, jt_ln0_100, k2]
    rw [tSt_no (μ 3 1).toNat (fun j hj hab => ?_)]
    have g4 := hfr.2.2.2 j (by omega) hab.2.1
    have hlt := tCn_lt (ν := ν) (p := (a : Int)) (j := j) (k := (μ 3 1).toNat) hj hab.2.1
    have hr := tCn_rg ν a j
    have q := hQ (tCn ν a j).toNat (by omega)
    simp only [decide_eq_false_iff_not] at q
    apply q
    rw [g4.1]
    unfold tOt
    have t3 := h.2.2.1 j (by omega)
    simp only [tIs_or] at hab
    by_cases q1 : ν 7 j = (a : Int)
    · rw [if_pos q1]; omega
    · rw [if_neg q1]; omega
theorem rPe_tr {μ μ' ν ν' : js_Mm} (h0 : μ' 3 0 = μ 3 0) (h2 : μ' 3 2 = μ 3 2) (hC : ∀ j, j < 24 → μ' 4 j = μ 4 j ∧ μ' 5 j = μ 5 j) (hM : ν' 6 0 = ν 6 0 ∧ ∀ j, j < 24 → ν' 3 j = ν 3 j ∧ ν' 4 j = ν 4 j ∧ ν' 5 j = ν 5 j) (h : rPe μ ν) : rPe μ' ν' := by
  obtain ⟨g1, g2, g3, g4⟩ := h
  refine ⟨by rw [h0]; exact g1, by rw [hM.1, h0]; exact g2, by rw [h2]; exact g3, fun p hp => ?_⟩
  rw [h0] at hp
  have hp24 : p < 24 := by omega
  rw [(hM.2 p hp24).1, (hM.2 p hp24).2.1, (hM.2 p hp24).2.2, (hC p hp24).1, (hC p hp24).2, h2]
  exact g4 p hp
theorem tt_cg {ν ν' : js_Mm} {m : Nat} (h : ∀ j, j < m → ν' 7 j = ν 7 j ∧ ν' 8 j = ν 8 j ∧ ν' 9 j = ν 9 j) (p : Int) : ∀ k, k ≤ m → tCn ν' p k = tCn ν p k ∧ tSm ν' p k = tSm ν p k
  | 0, _ => ⟨rfl, rfl⟩
  | k + 1, hk => by
    obtain ⟨h1, h2⟩ := tt_cg h p k (by omega)
    have e : tIs ν' p k = tIs ν p k := by
      unfold tIs
      rw [(h k (by omega)).1, (h k (by omega)).2.1]
    unfold tCn tSm
    rw [h1, h2, e, (h k (by omega)).2.2]
    exact ⟨rfl, rfl⟩
theorem ti_cg {ν ν' : js_Mm} {k : Nat} (h : ν' 7 k = ν 7 k ∧ ν' 8 k = ν 8 k) (p : Int) : tIs ν' p k = tIs ν p k ∧ tOt ν' p k = tOt ν p k := by
  unfold tIs tOt
  rw [h.1, h.2]
  exact ⟨rfl, rfl⟩
theorem rTi_tr {μ μ' ν ν' : js_Mm} (hn : μ 3 0 ≤ 24) (h0 : μ' 3 0 = μ 3 0) (h1 : μ' 3 1 = μ 3 1) (hC : ∀ j, j < 24 → μ' 6 j = μ 6 j ∧ μ' 7 j = μ 7 j) (hC2 : ∀ j, j < 576 → μ' 8 j = μ 8 j ∧ μ' 9 j = μ 9 j) (hM : ν' 10 0 = ν 10 0) (hT : ∀ j, j < 60 → ν' 7 j = ν 7 j ∧ ν' 8 j = ν 8 j ∧ ν' 9 j = ν 9 j) (h : rTi μ ν) : rTi μ' ν' := by
  obtain ⟨g1, g2, g3, g4, g5⟩ := h
  refine ⟨by rw [h1]; exact g1, by rw [hM, h1]; exact g2, fun k hk => ?_, fun j k hjk hk => ?_, fun p hp => ?_⟩
  · rw [h1] at hk
    obtain ⟨e1, e2, e3⟩ := hT k (by omega)
    rw [e1, e2, e3, h0]
    exact g3 k hk
  · rw [h1] at hk
    obtain ⟨e1, e2, e3⟩ := hT k (by omega)
    obtain ⟨d1, d2, d3⟩ := hT j (by omega)
    rw [e1, e2, d1, d2]
    exact g4 j k hjk hk
  · rw [h0] at hp
    have hp24 : p < 24 := by omega
    obtain ⟨x1, x2, x3, x4⟩ := g5 p hp
    obtain ⟨c1, c2⟩ := tt_cg (m := 60) hT (p : Int) (μ 3 1).toNat (by omega)
    rw [h1, (hC p hp24).1, (hC p hp24).2, c1, c2]
    refine ⟨x1, x2, x3, fun k hk ht => ?_⟩
    obtain ⟨e1, e2, e3⟩ := hT k (by omega)
    obtain ⟨y1, y2⟩ := ti_cg ⟨e1, e2⟩ (p : Int)
    rw [y1] at ht
    obtain ⟨z1, z2⟩ := x4 k hk ht
    have hlt := tCn_lt (ν := ν) (p := (p : Int)) (j := k) (k := (μ 3 1).toNat) (by omega) ht
    have hr := tCn_rg ν p k
    have hb : 24 * p + (tCn ν p k).toNat < 576 := by omega
    rw [(tt_cg (m := 60) hT (p : Int) k (by omega)).1, (hC2 _ hb).1, (hC2 _ hb).2, y2, e3]
    exact ⟨z1, z2⟩
/-- the others of p's ties, as a set -/
def oS (ν : js_Mm) (p : Int) : Nat → Int
  | 0 => 0
  | k + 1 => if tIs ν p k = true then jset (oS ν p k) (tOt ν p k) else oS ν p k
/-- p has as many ties as there are others: none twice -/
theorem oS_ok {ν : js_Mm} {p : Int} {P m : Nat} (hP : P ≤ 24) (hp : 0 ≤ p) (h3 : ∀ k, k < m → (0 ≤ ν 7 k ∧ ν 7 k < P) ∧ (0 ≤ ν 8 k ∧ ν 8 k < P) ∧ ν 7 k ≠ ν 8 k) (h4 : ∀ j k, j < k → k < m → ¬ (ν 7 j = ν 7 k ∧ ν 8 j = ν 8 k) ∧ ¬ (ν 7 j = ν 8 k ∧ ν 8 j = ν 7 k)) :
    ∀ k, k ≤ m → (0 ≤ oS ν p k ∧ oS ν p k < 16777216) ∧ jpc (oS ν p k) 24 = tCn ν p k ∧ (∀ q : Int, 0 ≤ q → jb (oS ν p k) q = true → ∃ j, j < k ∧ tIs ν p j = true ∧ tOt ν p j = q) ∧ jb (oS ν p k) p = false
  | 0, _ => ⟨⟨by show (0 : Int) ≤ 0; omega, by show (0 : Int) < 16777216; omega⟩, jpc_zero 24, fun q _ h => absurd (show jb 0 q = true from h) (by rw [jb_zero]; simp), jb_zero p⟩
  | k + 1, hk => by
    obtain ⟨h1, h2, h5, h6⟩ := oS_ok hP hp h3 h4 k (by omega)
    have e1 : oS ν p (k + 1) = if tIs ν p k = true then jset (oS ν p k) (tOt ν p k) else oS ν p k := rfl
    have e2 : tCn ν p (k + 1) = tCn ν p k + (if tIs ν p k = true then 1 else 0) := rfl
    rw [e1, e2]
    by_cases q : tIs ν p k = true
    · rw [if_pos q, if_pos q]
      obtain ⟨a1, a2, a3⟩ := h3 k (by omega)
      rw [tIs_or] at q
      have ot : (0 ≤ tOt ν p k ∧ tOt ν p k < 24) ∧ tOt ν p k ≠ p := by
        unfold tOt
        by_cases c : ν 7 k = p
        · rw [if_pos c]; omega
        · rw [if_neg c]; omega
      have nb : jb (oS ν p k) (tOt ν p k) = false := by
        refine Classical.byContradiction (fun e => ?_)
        obtain ⟨j, j1, j2, j3⟩ := h5 _ ot.1.1 (by simpa using e)
        rw [tIs_or] at j2
        obtain ⟨d1, d2⟩ := h4 j k j1 (by omega)
        have b3 := (h3 j (by omega)).2.2
        unfold tOt at j3
        by_cases c : ν 7 j = p
        · rw [if_pos c] at j3
          by_cases c2 : ν 7 k = p
          · rw [if_pos c2] at j3; omega
          · rw [if_neg c2] at j3; omega
        · rw [if_neg c] at j3
          by_cases c2 : ν 7 k = p
          · rw [if_pos c2] at j3; omega
          · rw [if_neg c2] at j3; omega
      refine ⟨jset_24 h1 ot.1, ?_, fun r hr hb => ?_, ?_⟩
      · rw [jpc_set ot.1.1, h2, if_pos ⟨by omega, nb⟩]
      · rw [jb_set ot.1.1 hr] at hb
        by_cases c : r = tOt ν p k
        · exact ⟨k, by omega, by rw [tIs_or]; exact q, c.symm⟩
        · obtain ⟨j, j1, j2⟩ := h5 r hr (by simpa [c] using hb)
          exact ⟨j, by omega, j2⟩
      · have c : ¬ p = tOt ν p k := fun e => ot.2 e.symm
        rw [jb_set ot.1.1 hp, h6, decide_eq_false c]
        rfl
    · rw [if_neg q, if_neg q]
      refine ⟨h1, by rw [h2]; omega, fun r hr hb => ?_, h6⟩
      obtain ⟨j, j1, j2⟩ := h5 r hr hb
      exact ⟨j, by omega, j2⟩
theorem tCn_24 {ν : js_Mm} {p : Int} {P m : Nat} (hP : P ≤ 24) (hp : 0 ≤ p ∧ p < 24) (h3 : ∀ k, k < m → (0 ≤ ν 7 k ∧ ν 7 k < P) ∧ (0 ≤ ν 8 k ∧ ν 8 k < P) ∧ ν 7 k ≠ ν 8 k) (h4 : ∀ j k, j < k → k < m → ¬ (ν 7 j = ν 7 k ∧ ν 8 j = ν 8 k) ∧ ¬ (ν 7 j = ν 8 k ∧ ν 8 j = ν 7 k)) : tCn ν p m < 24 := by
  obtain ⟨h1, h2, h5, h6⟩ := oS_ok hP hp.1 h3 h4 m (by omega)
  have e := jpc_set (x := oS ν p m) (p := p) hp.1 24
  rw [if_pos ⟨by omega, h6⟩] at e
  have r := jpc_rg (jset (oS ν p m) p) 24
  omega
/-- a tie more -/
theorem rTi_add {μ μ' ν ν' : js_Mm} {A B S : Int} {m fa fb : Nat} (h : rTi μ ν) (hn : μ 3 0 ≤ 24) (hm : μ 3 1 = (m : Int)) (hm6 : m < 60) (hA : 0 ≤ A ∧ A < μ 3 0) (hB : 0 ≤ B ∧ B < μ 3 0) (hAB : A ≠ B) (hS : 1 ≤ S ∧ S ≤ 9)
    (hno : ∀ j, j < m → ¬ (ν 7 j = A ∧ ν 8 j = B) ∧ ¬ (ν 7 j = B ∧ ν 8 j = A)) (m7 : ν' 7 m = A) (m8 : ν' 8 m = B) (m9 : ν' 9 m = S) (mo : ∀ j, j < m → ν' 7 j = ν 7 j ∧ ν' 8 j = ν 8 j ∧ ν' 9 j = ν 9 j) (m10 : ν' 10 0 = (m : Int) + 1)
    (c0 : μ' 3 0 = μ 3 0) (c1 : μ' 3 1 = (m : Int) + 1) (fA : μ 6 A.toNat = (fa : Int)) (fB : μ 6 B.toNat = (fb : Int)) (c6 : ∀ j, j < 24 → μ' 6 j = if (j : Int) = A then (fa : Int) + 1 else if (j : Int) = B then (fb : Int) + 1 else μ 6 j)
    (c7 : ∀ j, j < 24 → μ' 7 j = if (j : Int) = A then μ 7 j + S else if (j : Int) = B then μ 7 j + S else μ 7 j)
    (c8 : ∀ j, j < 576 → (μ' 8 j = if j = 24 * A.toNat + fa then B else if j = 24 * B.toNat + fb then A else μ 8 j) ∧ (μ' 9 j = if j = 24 * A.toNat + fa then S else if j = 24 * B.toNat + fb then S else μ 9 j)) : rTi μ' ν' := by
  obtain ⟨g1, g2, g3, g4, g5⟩ := h
  obtain ⟨a, rfl⟩ := jz_nat hA.1
  obtain ⟨b, rfl⟩ := jz_nat hB.1
  rw [Int.toNat_natCast] at fA fB
  simp only [Int.toNat_natCast] at c8
  obtain ⟨xa1, xa2, xa3, xa4⟩ := g5 a hA.2
  obtain ⟨xb1, xb2, xb3, xb4⟩ := g5 b hB.2
  have hmt : (μ 3 1).toNat = m := by omega
  rw [hmt] at xa1 xb1
  have hm1 : ((m : Int) + 1).toNat = m + 1 := by omega
  obtain ⟨P, hP⟩ := jz_nat (show 0 ≤ μ 3 0 by omega)
  have h3' : ∀ k, k < m + 1 → (0 ≤ ν' 7 k ∧ ν' 7 k < (P : Int)) ∧ (0 ≤ ν' 8 k ∧ ν' 8 k < (P : Int)) ∧ ν' 7 k ≠ ν' 8 k := fun k hk => by
    by_cases e : k = m
    · subst e
      rw [m7, m8]
      omega
    · obtain ⟨e1, e2, e3⟩ := mo k (by omega)
      have := g3 k (by omega)
      rw [e1, e2]
      omega
  have h4' : ∀ j k, j < k → k < m + 1 → ¬ (ν' 7 j = ν' 7 k ∧ ν' 8 j = ν' 8 k) ∧ ¬ (ν' 7 j = ν' 8 k ∧ ν' 8 j = ν' 7 k) := fun j k hjk hk => by
    obtain ⟨d1, d2, d3⟩ := mo j (by omega)
    by_cases e : k = m
    · subst e
      rw [m7, m8, d1, d2]
      exact hno j hjk
    · obtain ⟨e1, e2, e3⟩ := mo k (by omega)
      rw [e1, e2, d1, d2]
      exact g4 j k hjk (by omega)
  refine ⟨by rw [c1]; omega, by rw [m10, c1], fun k hk => ?_, fun j k hjk hk => h4' j k hjk (by omega), fun p hp => ?_⟩
  · have := h3' k (by omega)
    rw [c0]
    refine ⟨by omega, by omega, this.2.2, ?_⟩
    by_cases e : k = m
    · subst e; rw [m9]; exact hS
    · rw [(mo k (by omega)).2.2]
      exact (g3 k (by omega)).2.2.2
  · rw [c0] at hp
    have hp24 : p < 24 := by omega
    obtain ⟨x1, x2, x3, x4⟩ := g5 p hp
    rw [hmt] at x1 x2
    rw [c1, hm1, c6 p hp24, c7 p hp24]
    obtain ⟨t1, t2⟩ := tt_cg mo (p : Int) m (by omega)
    have s1 : tCn ν' p (m + 1) = tCn ν' p m + (if tIs ν' p m = true then 1 else 0) := rfl
    have s2 : tSm ν' p (m + 1) = tSm ν' p m + (if tIs ν' p m = true then ν' 9 m else 0) := rfl
    have isM : tIs ν' p m = true ↔ ((p : Int) = (a : Int) ∨ (p : Int) = (b : Int)) := by
      rw [tIs_or, m7, m8]
      omega
    have cnt := tCn_24 (ν := ν') (p := (p : Int)) (P := P) (m := m + 1) (by omega) (by omega) h3' h4'
    have fab : fa < 24 ∧ fb < 24 := by omega
    have old : ∀ k : Nat, k < m → tIs ν' p k = true → (tCn ν p k).toNat < 24 ∧ tCn ν p k < tCn ν p m ∧ μ' 8 (24 * p + (tCn ν p k).toNat) = μ 8 (24 * p + (tCn ν p k).toNat) ∧ μ' 9 (24 * p + (tCn ν p k).toNat) = μ 9 (24 * p + (tCn ν p k).toNat) := fun k hk ht => by
      obtain ⟨e1, e2, e3⟩ := mo k hk
      obtain ⟨y1, y2⟩ := ti_cg ⟨e1, e2⟩ (p : Int)
      rw [y1] at ht
      have hlt := tCn_lt (ν := ν) (p := (p : Int)) (j := k) (k := m) hk ht
      have hr := tCn_rg ν p k
      have i24 : (tCn ν p k).toNat < 24 := by omega
      have n1 : ¬ 24 * p + (tCn ν p k).toNat = 24 * a + fa := fun e => by
        have ep : p = a := by omega
        subst ep
        omega
      have n2 : ¬ 24 * p + (tCn ν p k).toNat = 24 * b + fb := fun e => by
        have ep : p = b := by omega
        subst ep
        omega
      obtain ⟨z1, z2⟩ := c8 (24 * p + (tCn ν p k).toNat) (by omega)
      rw [if_neg n1, if_neg n2] at z1 z2
      exact ⟨i24, hlt, z1, z2⟩
    refine ⟨?_, ?_, ?_, fun k hk ht => ?_⟩
    · rw [s1, t1, ← x1]
      by_cases q1 : (p : Int) = (a : Int)
      · rw [if_pos q1, if_pos (isM.mpr (Or.inl q1))]
        have ep : p = a := by omega
        subst ep
        omega
      · by_cases q2 : (p : Int) = (b : Int)
        · rw [if_neg q1, if_pos q2, if_pos (isM.mpr (Or.inr q2))]
          have ep : p = b := by omega
          subst ep
          omega
        · rw [if_neg q1, if_neg q2, if_neg (fun e => (isM.mp e).elim q1 q2)]
          omega
    · rw [s2, t2, ← x2, m9]
      by_cases q1 : (p : Int) = (a : Int)
      · rw [if_pos q1, if_pos (isM.mpr (Or.inl q1))]
      · by_cases q2 : (p : Int) = (b : Int)
        · rw [if_neg q1, if_pos q2, if_pos (isM.mpr (Or.inr q2))]
        · rw [if_neg q1, if_neg q2, if_neg (fun e => (isM.mp e).elim q1 q2)]
          omega
    · have e : (if (p : Int) = (a : Int) then (fa : Int) + 1 else if (p : Int) = (b : Int) then (fb : Int) + 1 else μ 6 p) = tCn ν' p (m + 1) := by
        rw [s1, t1, ← x1]
        by_cases q1 : (p : Int) = (a : Int)
        · rw [if_pos q1, if_pos (isM.mpr (Or.inl q1))]
          have ep : p = a := by omega
          subst ep
          omega
        · by_cases q2 : (p : Int) = (b : Int)
          · rw [if_neg q1, if_pos q2, if_pos (isM.mpr (Or.inr q2))]
            have ep : p = b := by omega
            subst ep
            omega
          · rw [if_neg q1, if_neg q2, if_neg (fun e => (isM.mp e).elim q1 q2)]
            omega
      rw [e]
      exact cnt
    · by_cases e : k = m
      · subst e
        rw [t1]
        rcases isM.mp ht with q | q
        · have ep : p = a := by omega
          subst ep
          have ei : (tCn ν p k).toNat = fa := by omega
          obtain ⟨z1, z2⟩ := c8 (24 * p + fa) (by omega)
          rw [if_pos rfl] at z1 z2
          rw [ei, z1, z2, m9]
          unfold tOt
          rw [m7, if_pos rfl, m8]
          exact ⟨rfl, rfl⟩
        · have ep : p = b := by omega
          subst ep
          have ei : (tCn ν p k).toNat = fb := by omega
          obtain ⟨z1, z2⟩ := c8 (24 * p + fb) (by omega)
          have ne : ¬ 24 * p + fb = 24 * a + fa := fun e => by omega
          rw [if_neg ne, if_pos rfl] at z1 z2
          rw [ei, z1, z2, m9]
          unfold tOt
          have na : ¬ (a : Int) = (p : Int) := fun e => hAB e
          rw [m7, if_neg na]
          exact ⟨rfl, rfl⟩
      · obtain ⟨o1, o2, o3, o4⟩ := old k (by omega) ht
        obtain ⟨e1, e2, e3⟩ := mo k (by omega)
        obtain ⟨y1, y2⟩ := ti_cg ⟨e1, e2⟩ (p : Int)
        rw [(tt_cg mo (p : Int) k (by omega)).1, o3, o4, y2, e3]
        rw [y1] at ht
        exact x4 k (by omega) ht
end
