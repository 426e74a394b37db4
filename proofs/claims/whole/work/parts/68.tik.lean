section
theorem tel_one {o x p : Nat} {μ ν : js_Mm} (ho : coN o) (hx : x ≤ 3000) (ht : TT μ ν) (hc : rCo o x μ ν) (hp : (p : Int) < μ 3 0) (hf : 0 < μ 6 p) :
    ∃ (r : Int) (μ' ν' ν1 : js_Mm) (b s : Int), f_X6_tellsOne [30, (o : Int), (p : Int)] μ = some (r, μ') ∧ rCo o x μ' ν' ∧ fC o μ μ' ∧ fM x ν ν' ∧ (r = 0 ∨ r = 1) ∧ f_X11_listener [0, (x : Int), (p : Int)] ν = some (b, ν1) ∧ f_X11_latest [0, (x : Int), (p : Int)] ν1 = some (s, ν1) ∧ ((s < 0 ∧ r = 0 ∧ ν' = ν1) ∨ (0 ≤ s ∧ f_X11_tellTo [0, (x : Int), (p : Int), s, b] ν1 = some (r, ν'))) := by
  have h3 := coN_30 ho
  have n1 := ht.2.1.1
  have hti := ht.2.2.1
  have hfr := hti.2.2.2.2 p hp
  have t1 := hti.1
  have t2 := hti.2.1
  have hsm := tSm_rg (ν := ν) (p := (p : Int)) (μ 3 1).toNat (fun j hj => (hti.2.2.1 j (by omega)).2.2.2)
  have h7 : 0 < μ 7 p ∧ μ 7 p < 2147483648 := by
    rw [hfr.2.1]
    rw [hfr.1] at hf
    omega
  have hd := hc.2.2.2.2.2.1
  have hde := hc.2.2.2.2.1
  have d1 := vC_draw (n := μ 7 p) ho μ hd h7
  have d2 := vM_draw (n := μ 7 p) (x := x) ν hx (by rw [hde]; exact hd) h7
  rw [hde] at d2
  have hsum : f_X11_tieSum [0, (p : Int)] ν = some (μ 7 p, ν) := by
    have := vM_tieSum (p := (p : Int)) ν (by omega) (fun j hj => (hti.2.2.1 j (by omega)).2.2.2)
    rw [this, hfr.2.1, t2]
  have hv1 := Int.emod_nonneg (dN (μ o 13) / 65536) (show μ 7 p ≠ 0 by omega)
  have hv2 := Int.emod_lt_of_pos (dN (μ o 13) / 65536) h7.1
  have hdr := dN_rg (μ o 13)
  have hc2 := rCo_dr (d := dN (μ o 13)) (by omega) hdr hc
  have hC2 : fC o μ (js_u μ o 13 (dN (μ o 13))) := fun k j hk => js_u_other (by omega)
  have hM2 : fM x ν (js_u ν 1 (x + 866) (dN (μ o 13))) := fun k j hk => js_u_other (by omega)
  revert hM2
  revert hC2
  revert hc2
  revert hv2
  revert hv1
  revert d2
  revert d1
  generalize js_u μ o 13 (dN (μ o 13)) = a
  generalize js_u ν 1 (x + 866) (dN (μ o 13)) = c
  generalize dN (μ o 13) / 65536 % μ 7 p = v
  intro d1 d2 hv1 hv2 hc2 hC2 hM2
  have ht2 := TT_mv h3 hC2 hM2 ht
  have a30 : a 3 0 = μ 3 0 := hC2 3 0 (by omega)
  have a170 : a 17 0 = μ 17 0 := hC2 17 0 (by omega)
  have a7 : a 7 p = μ 7 p := hC2 7 p (by omega)
  have m1 := ht2.2.2.2.1
  have m2 := ht2.2.2.2.2.1
  obtain ⟨b, hb, f2, ρ2, f2m⟩ := lsn_ok (x := x) (p := p) (v := v) ht2.2.2.1 (by omega) hx (by omega) (by omega)
  have f3 := vC_newestOf (p := p) ho a (by omega) (hc2.1 p (by omega)).2
  have f3m := vM_latest (x := x) (p := p) c hx (by omega) (by omega)
  rw [m2, nw_eq hc2 (by omega) m1] at f3m
  have hls : f_X11_listener [0, (x : Int), (p : Int)] ν = some ((b : Int), c) := by
    rw [fe_X11_listener]; simp -implicitDefEqProofs (disch := omega) only [jv_g0, jv_gs, jv_b, jv_bl, jv_bcT, jv_bcF, jv_bcD, jv_bcI, jv_bI, jv_bs0, jv_bs1, jv_bsI, jv_k, jv_l, jv_1, jv_1e, jv_2, jv_2ke, jv_2e, jv_d, jv_dke, jv_de, jv_gf, jv_gfe, jv_gr, jv_gre, jv_al, jv_alke, jv_ale, jv_aa, jv_aake, jv_aae, jv_ln, jv_lne, jv_as0, jv_as1, jv_aske, jv_asje, jv_cv, jv_cve, jv_cs, jv_cp, jv_cpke, jv_cpe, jv_cz, jv_cze, jv_tte, jv_ffe, jv_ca, jv_co, jv_cn, jv_lt, jv_le, jv_gt, jv_ge, jv_eq, jv_ne, jv_q, jv_sk, jv_s1, jv_s1e, jv_s2, jv_s2e, jv_ii, jv_pf, jv_pfke, jv_pfe, jv_pa, jv_pale, jv_pake, jv_paje, jv_paf20, jv_paf21, jv_paf22, jv_paf23, jv_fit1, jv_fit2, jv_fit0, jv_fit5, jv_of, jv_ofke, jv_ofje, jv_oa, jv_oale, jv_oake, jv_oaje, jv_ex, jv_exe, jv_sq, jv_if, jv_bk, jv_bke, jv_rv, jv_rve, jv_r0, jv_sw, jv_swe, jv_pk0, jv_pk1, jv_me, jv_oute, jv_outI, jt_ft0_10, jt_ft0_11, jt_ft0_12, jt_ft0_13, jt_ft0_14, jt_ft1_0, jt_ft2_3, jt_ft2_4, jt_ft2_5, jt_ft2_6, jt_ft3_0, jt_ft4_5, jt_ft4_6, jt_ft5_0, jt_ft5_1, jt_ft7_1, jt_ft7_2, jt_ft7_3, jt_ft7_4, jt_ft7_5, jt_ft7_6, jt_ft7_7, jt_ft8_0, jt_ft8_1, jt_ft8_2, jt_ft9_2, jt_ft10_15, jt_ft11_2, jt_ft11_3, jt_ft11_19, jt_ft11_20, jt_ft11_21, jt_ft11_22, jt_ft11_23, jt_ft11_24, jt_ft11_26, jt_ft11_28, jt_ft11_36, jt_ft11_38, jt_ft11_39, jt_ft11_40, js_u_same, js_u_other, jz_add, jz_sub, jz_mul, jz_div, jz_rem, jz_ladd, jz_lsub, jz_lmul, jz_ldiv, jz_lrem, jz_i2l, jz_l2i, List.set_cons_zero, List.set_cons_succ, Int.reduceToNat, Bool.and_true, Bool.true_and, Bool.and_eq_true, decide_eq_true_eq, if_true, if_false, reduceIte, Nat.reduceEqDiff, Nat.reduceSub, Nat.reduceAdd, Int.reduceLT, Int.reduceLE, Int.reduceNeg, Int.reduceEq, Int.reduceAdd, Int.reduceSub, Int.reduceMul, not_true_eq_false, not_false_eq_true, and_true, true_and, and_false, false_and, decide_true, decide_false, Nat.reduceEqDiff, reduceCtorEq, jv_tr0, jv_trs, jv_trn, jv_blI, jt_is1_0, jt_ia1_1, jt_ia1_2, jt_ia1_3, jt_ia1_4, jt_ia1_5, jt_ia1_6, jt_ia1_7, jt_ia1_8, jt_ia1_9, jt_ia1_10, jt_ia1_11, jt_ia1_12, jt_ia1_13, jt_ia1_14, jt_ia1_15, jt_ia1_16, jt_ia1_17, jt_ia1_18, jt_ia1_19, jt_ia1_20, jt_ia1_21, jt_ia1_22, jt_ia1_23, jt_ia1_24, jt_ia1_25, jt_ia1_26, jt_ia1_27, jt_rt1_0_0, jt_rt1_0_1, jt_rt1_0_4, jt_rt1_0_5, jt_rt1_0_6, jt_rt1_0_7, jt_rt1_0_8, jt_rt1_0_9, jt_rt1_0_10, jt_rt1_0_11, jt_rt1_0_12, jt_rt1_0_13, jt_rt1_0_14, jt_rt1_0_15, jt_rt1_0_16, jt_rt1_0_17, jt_rt1_0_18, jt_rt1_0_25, jt_rt1_0_27, jt_rt1_0_29, jt_rt1_0_30, jt_rt1_0_31, jt_rt1_0_32, jt_rt1_0_33, jt_rt1_0_34, jt_rt1_0_35, jt_rt1_0_37, jt_in1_1, jt_in1_2, jt_in1_3, jt_in1_4, jt_in1_5, jt_in1_6, jt_in1_7, jt_in1_8, jt_in1_9, jt_in1_10, jt_in1_11, jt_in1_12, jt_in1_13, jt_in1_14, jt_in1_15, jt_in1_16, jt_in1_17, jt_in1_18, jt_in1_19, jt_in1_20, jt_in1_21, jt_in1_22, jt_in1_23, jt_in1_24, jt_in1_25, jt_in1_26, jt_in1_27, jt_ln1_1, jt_ln1_2, jt_ln1_3, jt_ln1_4, jt_ln1_5, jt_ln1_6, jt_ln1_7, jt_ln1_8, jt_ln1_9, jt_ln1_10, jt_ln1_11, jt_ln1_12, jt_ln1_13, jt_ln1_14, jt_ln1_15, jt_ln1_16, jt_ln1_17, jt_ln1_18, jt_ln1_19, jt_ln1_20, jt_ln1_21, jt_ln1_22, jt_ln1_23, jt_ln1_24, jt_ln1_25, jt_ln1_26, jt_ln1_27, hsum, d2, f2m]
  have hrg := nwV_rg (fun t => jb (a (o + 2) p) t) (fun t => a (o + 5) (6 * p + t)) 6
  revert hrg
  revert f3m
  revert f3
  generalize nwV (fun t => jb (a (o + 2) p) t) (fun t => a (o + 5) (6 * p + t)) 6 = n
  intro f3 f3m hrg
  rcases hrg with rfl | ⟨r1, r2, r3⟩
  · refine ⟨0, a, c, c, b, -1, ?_, hc2, hC2, hM2, Or.inl rfl, hls, f3m, Or.inl ⟨by omega, rfl, rfl⟩⟩
    have b1 : ¬ (b : Int) = -1 := by omega
    rw [fe_X6_tellsOne]; simp -implicitDefEqProofs (disch := omega) only [jv_g0, jv_gs, jv_b, jv_bl, jv_bcT, jv_bcF, jv_bcD, jv_bcI, jv_bI, jv_bs0, jv_bs1, jv_bsI, jv_k, jv_l, jv_1, jv_1e, jv_2, jv_2ke, jv_2e, jv_d, jv_dke, jv_de, jv_gf, jv_gfe, jv_gr, jv_gre, jv_al, jv_alke, jv_ale, jv_aa, jv_aake, jv_aae, jv_ln, jv_lne, jv_as0, jv_as1, jv_aske, jv_asje, jv_cv, jv_cve, jv_cs, jv_cp, jv_cpke, jv_cpe, jv_cz, jv_cze, jv_tte, jv_ffe, jv_ca, jv_co, jv_cn, jv_lt, jv_le, jv_gt, jv_ge, jv_eq, jv_ne, jv_q, jv_sk, jv_s1, jv_s1e, jv_s2, jv_s2e, jv_ii, jv_pf, jv_pfke, jv_pfe, jv_pa, jv_pale, jv_pake, jv_paje, jv_paf20, jv_paf21, jv_paf22, jv_paf23, jv_fit1, jv_fit2, jv_fit0, jv_fit5, jv_of, jv_ofke, jv_ofje, jv_oa, jv_oale, jv_oake, jv_oaje, jv_ex, jv_exe, jv_sq, jv_if, jv_bk, jv_bke, jv_rv, jv_rve, jv_r0, jv_sw, jv_swe, jv_pk0, jv_pk1, jv_me, jv_oute, jv_outI, jt_ft0_10, jt_ft0_11, jt_ft0_12, jt_ft0_13, jt_ft0_14, jt_ft1_0, jt_ft2_3, jt_ft2_4, jt_ft2_5, jt_ft2_6, jt_ft3_0, jt_ft4_5, jt_ft4_6, jt_ft5_0, jt_ft5_1, jt_ft7_1, jt_ft7_2, jt_ft7_3, jt_ft7_4, jt_ft7_5, jt_ft7_6, jt_ft7_7, jt_ft8_0, jt_ft8_1, jt_ft8_2, jt_ft9_2, jt_ft10_15, jt_ft11_2, jt_ft11_3, jt_ft11_19, jt_ft11_20, jt_ft11_21, jt_ft11_22, jt_ft11_23, jt_ft11_24, jt_ft11_26, jt_ft11_28, jt_ft11_36, jt_ft11_38, jt_ft11_39, jt_ft11_40, js_u_same, js_u_other, jz_add, jz_sub, jz_mul, jz_div, jz_rem, jz_ladd, jz_lsub, jz_lmul, jz_ldiv, jz_lrem, jz_i2l, jz_l2i, List.set_cons_zero, List.set_cons_succ, Int.reduceToNat, Bool.and_true, Bool.true_and, Bool.and_eq_true, decide_eq_true_eq, if_true, if_false, reduceIte, Nat.reduceEqDiff, Nat.reduceSub, Nat.reduceAdd, Int.reduceLT, Int.reduceLE, Int.reduceNeg, Int.reduceEq, Int.reduceAdd, Int.reduceSub, Int.reduceMul, not_true_eq_false, not_false_eq_true, and_true, true_and, and_false, false_and, decide_true, decide_false, Nat.reduceEqDiff, reduceCtorEq, jv_tr0, jv_trs, jv_trn, jv_blI, jt_is0_0, jt_is0_1, jt_ia0_2, jt_is0_3, jt_ia0_4, jt_ia0_5, jt_ia0_6, jt_ia0_7, jt_ia0_8, jt_ia0_9, jt_is0_10, jt_ia0_11, jt_ia0_12, jt_ia0_13, jt_ia0_14, jt_ia0_15, jt_ia0_16, jt_is0_17, jt_ia0_18, jt_ia0_19, jt_ia0_20, jt_ia0_21, jt_ia0_22, jt_is0_23, jt_ia0_24, jt_ia0_25, jt_ia0_26, jt_ia0_27, jt_ia0_28, jt_is0_29, jt_is0_30, jt_is0_31, jt_ia0_32, jt_ia0_33, jt_ia0_34, jt_ia0_35, jt_ia0_36, jt_ia0_37, jt_ia0_38, jt_ia0_39, jt_ia0_40, jt_ia0_41, jt_is0_42, jt_ia0_43, jt_ia0_44, jt_ia0_45, jt_ia0_46, jt_ia0_47, jt_ia0_48, jt_ia0_49, jt_ia0_50, jt_ia0_51, jt_ia0_52, jt_is0_53, jt_ia0_54, jt_ia0_55, jt_ia0_56, jt_ia0_57, jt_ia0_58, jt_ia0_59, jt_ia0_60, jt_ia0_61, jt_ia0_62, jt_ia0_63, jt_is0_65, jt_ia0_66, jt_ia0_67, jt_ia0_68, jt_ia0_69, jt_ia0_70, jt_ia0_71, jt_ia0_72, jt_ia0_73, jt_ia0_74, jt_ia0_75, jt_is0_76, jt_ia0_77, jt_ia0_78, jt_ia0_79, jt_ia0_80, jt_ia0_81, jt_ia0_82, jt_ia0_83, jt_ia0_84, jt_ia0_85, jt_ia0_86, jt_is0_87, jt_ia0_88, jt_is0_89, jt_ia0_90, jt_ia0_91, jt_is0_92, jt_ia0_93, jt_ia0_94, jt_ia0_95, jt_ia0_96, jt_is0_97, jt_ia0_98, jt_ia0_99, jt_ia0_100, jt_rt0_0_0, jt_rt0_0_1, jt_rt0_0_2, jt_rt0_0_3, jt_rt0_0_4, jt_rt0_0_5, jt_rt0_0_6, jt_rt0_0_7, jt_rt0_0_8, jt_rt0_0_9, jt_rt0_0_10, jt_rt0_0_11, jt_rt0_0_12, jt_rt0_0_13, jt_rt0_0_14, jt_rt0_1_0, jt_rt0_3_3, jt_rt0_3_4, jt_rt0_3_5, jt_rt0_3_6, jt_rt0_3_7, jt_rt0_3_8, jt_rt0_10_3, jt_rt0_10_4, jt_rt0_10_5, jt_rt0_10_6, jt_rt0_10_7, jt_rt0_10_8, jt_rt0_17_1, jt_rt0_17_2, jt_rt0_17_3, jt_rt0_17_4, jt_rt0_17_5, jt_rt0_23_1, jt_rt0_23_2, jt_rt0_23_3, jt_rt0_23_4, jt_rt0_23_5, jt_rt0_30_0, jt_rt0_30_1, jt_rt0_30_2, jt_rt0_31_0, jt_rt0_31_1, jt_rt0_31_2, jt_rt0_31_3, jt_rt0_31_4, jt_rt0_31_5, jt_rt0_31_6, jt_rt0_31_7, jt_rt0_31_8, jt_rt0_31_9, jt_rt0_42_0, jt_rt0_42_1, jt_rt0_42_2, jt_rt0_42_3, jt_rt0_42_4, jt_rt0_42_5, jt_rt0_42_6, jt_rt0_42_7, jt_rt0_42_8, jt_rt0_42_9, jt_rt0_53_0, jt_rt0_53_1, jt_rt0_53_2, jt_rt0_53_3, jt_rt0_53_4, jt_rt0_53_5, jt_rt0_53_6, jt_rt0_53_7, jt_rt0_53_8, jt_rt0_53_9, jt_rt0_64_0, jt_rt0_64_1, jt_rt0_65_0, jt_rt0_65_1, jt_rt0_65_2, jt_rt0_65_3, jt_rt0_65_4, jt_rt0_65_5, jt_rt0_65_6, jt_rt0_65_7, jt_rt0_65_8, jt_rt0_65_9, jt_rt0_76_0, jt_rt0_76_1, jt_rt0_76_2, jt_rt0_76_3, jt_rt0_76_4, jt_rt0_76_5, jt_rt0_76_6, jt_rt0_76_7, jt_rt0_76_8, jt_rt0_76_9, jt_rt0_87_0, jt_rt0_87_1, jt_rt0_89_1, jt_rt0_89_2, jt_rt0_92_0, jt_rt0_92_1, jt_rt0_92_2, jt_rt0_92_3, jt_rt0_92_4, jt_rt0_97_0, jt_rt0_97_1, jt_rt0_97_2, jt_in0_2, jt_in0_4, jt_in0_5, jt_in0_6, jt_in0_7, jt_in0_8, jt_in0_9, jt_in0_11, jt_in0_12, jt_in0_13, jt_in0_14, jt_in0_15, jt_in0_16, jt_in0_18, jt_in0_19, jt_in0_20, jt_in0_21, jt_in0_22, jt_in0_24, jt_in0_25, jt_in0_26, jt_in0_27, jt_in0_28, jt_in0_32, jt_in0_33, jt_in0_34, jt_in0_35, jt_in0_36, jt_in0_37, jt_in0_38, jt_in0_39, jt_in0_40, jt_in0_41, jt_in0_43, jt_in0_44, jt_in0_45, jt_in0_46, jt_in0_47, jt_in0_48, jt_in0_49, jt_in0_50, jt_in0_51, jt_in0_52, jt_in0_54, jt_in0_55, jt_in0_56, jt_in0_57, jt_in0_58, jt_in0_59, jt_in0_60, jt_in0_61, jt_in0_62, jt_in0_63, jt_in0_64, jt_in0_66, jt_in0_67, jt_in0_68, jt_in0_69, jt_in0_70, jt_in0_71, jt_in0_72, jt_in0_73, jt_in0_74, jt_in0_75, jt_in0_77, jt_in0_78, jt_in0_79, jt_in0_80, jt_in0_81, jt_in0_82, jt_in0_83, jt_in0_84, jt_in0_85, jt_in0_86, jt_in0_88, jt_in0_90, jt_in0_91, jt_in0_93, jt_in0_94, jt_in0_95, jt_in0_96, jt_in0_98, jt_in0_99, jt_in0_100, jt_ln0_2, jt_ln0_4, jt_ln0_5, jt_ln0_6, jt_ln0_7, jt_ln0_8, jt_ln0_9, jt_ln0_11, jt_ln0_12, jt_ln0_13, jt_ln0_14, jt_ln0_15, jt_ln0_16, jt_ln0_18, jt_ln0_19, jt_ln0_20, jt_ln0_21, jt_ln0_22, jt_ln0_24, jt_ln0_25, jt_ln0_26, jt_ln0_27, jt_ln0_28, jt_ln0_32, jt_ln0_33, jt_ln0_34, jt_ln0_35, jt_ln0_36, jt_ln0_37, jt_ln0_38, jt_ln0_39, jt_ln0_40, jt_ln0_41, jt_ln0_43, jt_ln0_44, jt_ln0_45, jt_ln0_46, jt_ln0_47, jt_ln0_48, jt_ln0_49, jt_ln0_50, jt_ln0_51, jt_ln0_52, jt_ln0_54, jt_ln0_55, jt_ln0_56, jt_ln0_57, jt_ln0_58, jt_ln0_59, jt_ln0_60, jt_ln0_61, jt_ln0_62, jt_ln0_63, jt_ln0_66, jt_ln0_67, jt_ln0_68, jt_ln0_69, jt_ln0_70, jt_ln0_71, jt_ln0_72, jt_ln0_73, jt_ln0_74, jt_ln0_75, jt_ln0_77, jt_ln0_78, jt_ln0_79, jt_ln0_80, jt_ln0_81, jt_ln0_82, jt_ln0_83, jt_ln0_84, jt_ln0_85, jt_ln0_86, jt_ln0_88, jt_ln0_90, jt_ln0_91, jt_ln0_93, jt_ln0_94, jt_ln0_95, jt_ln0_96, jt_ln0_98, jt_ln0_99, jt_ln0_100, Int.toNat_natCast, jo_is ho, d1, f2, f3, if_neg b1]
  · obtain ⟨s, rfl⟩ := jz_nat r1
    rw [Int.toNat_natCast] at r3
    have hcp := hc2.2.1 p s (by omega) (by omega)
    have hhp := hcp.2.1 r3
    have hs := (hcp.2.2.1 hhp).2.1
    have hsm2 := rCo_same hc2 (6 * b + s) (by omega)
    have to := rCo_to (b := b) (s := s) (p := p) (by omega) hc2 (by omega) (by omega) (by omega) (by omega) hs hhp
    have e2 := jz_set (x := a (o + 7) (6 * b + s)) (p := (p : Int)) (by omega) (by omega)
    have hC3 : fC o μ (js_u a (o + 7) (6 * b + s) (jset (a (o + 7) (6 * b + s)) p)) := fun k j hk => by rw [js_u_other (by omega)]; exact hC2 k j hk
    have hM3 : fM x ν (js_u c 1 (x + 576 + (6 * b + s)) (jset (a (o + 7) (6 * b + s)) p)) := fun k j hk => by rw [js_u_other (by omega)]; exact hM2 k j hk
    have ht3 := TT_mv h3 hC3 hM3 ht
    have k30 : js_u a (o + 7) (6 * b + s) (jset (a (o + 7) (6 * b + s)) p) 3 0 = a 3 0 := js_u_other (by omega)
    have k2 : js_u a (o + 7) (6 * b + s) (jset (a (o + 7) (6 * b + s)) p) (o + 2) p = a (o + 2) p := js_u_other (by omega)
    obtain ⟨r, μ', ν', z1, z2, z3, z4, z5, z6⟩ := tel_2 (μ0 := μ) (μ := a) (ν := c) (b := b) (s := s) (v := v) ho hx ht3 to (by rw [k30]; omega) (by rw [k30]; omega) (by omega) (by rw [k2]; exact r3) rfl (by omega) (by omega) d1 f2 f3 (by rw [e2]) (by rw [hsm2.2.1, e2])
    exact ⟨r, μ', ν', c, b, s, z1, z3, fC_tr hC3 z4, fM_tr hM3 z5, z6, hls, f3m, Or.inr ⟨by omega, z2⟩⟩
end
