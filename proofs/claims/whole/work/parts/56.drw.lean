section
/-- two loops side by side -/
theorem jv_for2 {c c2 : js_CC} {b b2 : js_SS} (n : Nat) (I : Nat → js_Ev → js_Mm → js_Ev → js_Mm → Prop) (hn : n < 5000)
    (hs : ∀ i ρ μ ρ2 ν, i < n → I i ρ μ ρ2 ν → c ρ μ = some (true, μ) ∧ c2 ρ2 ν = some (true, ν) ∧ ∃ ρ' μ' ρ2' ν', b ρ μ = some (none, ρ', μ') ∧ b2 ρ2 ν = some (none, ρ2', ν') ∧ I (i + 1) ρ' μ' ρ2' ν')
    (he : ∀ ρ μ ρ2 ν, I n ρ μ ρ2 ν → c ρ μ = some (false, μ) ∧ c2 ρ2 ν = some (false, ν)) (ρ : js_Ev) (μ : js_Mm) (ρ2 : js_Ev) (ν : js_Mm) (h0 : I 0 ρ μ ρ2 ν) :
    ∃ ρ' μ' ρ2' ν', js_wh c b ρ μ = some (none, ρ', μ') ∧ js_wh c2 b2 ρ2 ν = some (none, ρ2', ν') ∧ I n ρ' μ' ρ2' ν' := by
  have key : ∀ k i fu ρ μ ρ2 ν, i + k = n → k < fu → I i ρ μ ρ2 ν → ∃ ρ' μ' ρ2' ν', js_wn c b fu ρ μ = some (none, ρ', μ') ∧ js_wn c2 b2 fu ρ2 ν = some (none, ρ2', ν') ∧ I n ρ' μ' ρ2' ν' := by
    intro k
    induction k with
    | zero =>
      intro i fu ρ μ ρ2 ν hi hf hI
      obtain ⟨fu', rfl⟩ : ∃ q, fu = q + 1 := ⟨fu - 1, by omega⟩
      have e : i = n := by omega
      subst e
      obtain ⟨h1, h2⟩ := he ρ μ ρ2 ν hI
      exact ⟨ρ, μ, ρ2, ν, by rw [jv_wn1, h1]; rfl, by rw [jv_wn1, h2]; rfl, hI⟩
    | succ k ih =>
      intro i fu ρ μ ρ2 ν hi hf hI
      obtain ⟨fu', rfl⟩ : ∃ q, fu = q + 1 := ⟨fu - 1, by omega⟩
      obtain ⟨h1, h2, ρ', μ', ρ2', ν', h3, h4, h5⟩ := hs i ρ μ ρ2 ν (by omega) hI
      rw [jv_wn1, h1, jv_bcT, h3, jv_bs0, jv_wn1, h2, jv_bcT, h4, jv_bs0]
      exact ih (i + 1) fu' ρ' μ' ρ2' ν' (by omega) (by omega) h5
  exact key n 0 js_fu ρ μ ρ2 ν (by omega) (by show n < 5000; exact hn) h0
/-- the next draw -/
def dN (d : Int) : Int := (d * 1103515245 + 12345) % 2147483648
theorem dN_rg (d : Int) : 0 ≤ dN d ∧ dN d < 2147483648 := by
  unfold dN
  omega
theorem vC_draw {o : Nat} {n : Int} (ho : coN o) (w : js_Mm) (hd : 0 ≤ w o 13 ∧ w o 13 < 2147483648) (hn : 0 < n ∧ n < 2147483648) : f_X0_draw [(o : Int), n] w = some (dN (w o 13) / 65536 % n, js_u w o 13 (dN (w o 13))) := by
  have hr := dN_rg (w o 13)
  have e1 : js_lrem (js_ladd (js_lmul (w o 13) 1103515245) 12345) 2147483648 = dN (w o 13) := by
    rw [jz_lmul (by omega), jz_ladd (by omega), jz_lrem (by omega) (by omega)]
    rfl
  have e2 : js_l2i (js_lrem (js_ldiv (dN (w o 13)) 65536) (js_i2l n)) = dN (w o 13) / 65536 % n := by
    have h1 : 0 ≤ dN (w o 13) / 65536 := by omega
    have h2 := Int.emod_nonneg (dN (w o 13) / 65536) (show n ≠ 0 by omega)
    have h3 := Int.emod_lt_of_pos (dN (w o 13) / 65536) hn.1
    rw [jz_i2l (by omega), jz_ldiv (by omega) (by omega), jz_lrem (by omega) (by omega), jz_l2i (by omega)]
  have en : ¬ js_i2l n = 0 := by rw [jz_i2l (by omega)]; omega
  rw [fe_X0_draw]
  simp -implicitDefEqProofs (disch := omega) only [jv_g0, jv_gs, jv_b, jv_bl, jv_bcT, jv_bcF, jv_bcD, jv_bcI, jv_bI, jv_bs0, jv_bs1, jv_bsI, jv_k, jv_l, jv_1, jv_1e, jv_2, jv_2ke, jv_2e, jv_d, jv_dke, jv_de, jv_gf, jv_gfe, jv_gr, jv_gre, jv_al, jv_alke, jv_ale, jv_aa, jv_aake, jv_aae, jv_ln, jv_lne, jv_as0, jv_as1, jv_aske, jv_asje, jv_cv, jv_cve, jv_cs, jv_cp, jv_cpke, jv_cpe, jv_cz, jv_cze, jv_tte, jv_ffe, jv_ca, jv_co, jv_cn, jv_lt, jv_le, jv_gt, jv_ge, jv_eq, jv_ne, jv_q, jv_sk, jv_s1, jv_s1e, jv_s2, jv_s2e, jv_ii, jv_pf, jv_pfke, jv_pfe, jv_pa, jv_pale, jv_pake, jv_paje, jv_paf20, jv_paf21, jv_paf22, jv_paf23, jv_fit1, jv_fit2, jv_fit0, jv_fit5, jv_of, jv_ofke, jv_ofje, jv_oa, jv_oale, jv_oake, jv_oaje, jv_ex, jv_exe, jv_sq, jv_if, jv_bk, jv_bke, jv_rv, jv_rve, jv_r0, jv_sw, jv_swe, jv_pk0, jv_pk1, jv_me, jv_oute, jv_outI, jt_ft0_10, jt_ft0_11, jt_ft0_12, jt_ft0_13, jt_ft0_14, jt_ft1_0, jt_ft2_3, jt_ft2_4, jt_ft2_5, jt_ft2_6, jt_ft3_0, jt_ft4_5, jt_ft4_6, jt_ft5_0, jt_ft5_1, jt_ft7_1, jt_ft7_2, jt_ft7_3, jt_ft7_4, jt_ft7_5, jt_ft7_6, jt_ft7_7, jt_ft8_0, jt_ft8_1, jt_ft8_2, jt_ft9_2, jt_ft10_15, jt_ft11_2, jt_ft11_3, jt_ft11_19, jt_ft11_20, jt_ft11_21, jt_ft11_22, jt_ft11_23, jt_ft11_24, jt_ft11_26, jt_ft11_28, jt_ft11_36, jt_ft11_38, jt_ft11_39, jt_ft11_40, List.set_cons_zero, List.set_cons_succ, Int.reduceToNat, Bool.and_true, Bool.true_and, Bool.and_eq_true, decide_eq_true_eq, if_true, if_false, reduceIte, Nat.reduceEqDiff, Nat.reduceSub, Nat.reduceAdd, Int.reduceLT, Int.reduceLE, Int.reduceNeg, Int.reduceEq, Int.reduceAdd, Int.reduceSub, Int.reduceMul, not_true_eq_false, not_false_eq_true, and_true, true_and, and_false, false_and, decide_true, decide_false, Nat.reduceEqDiff, reduceCtorEq, jt_is0_0, jt_is0_1, jt_ia0_2, jt_is0_3, jt_ia0_4, jt_ia0_5, jt_ia0_6, jt_ia0_7, jt_ia0_8, jt_ia0_9, jt_is0_10, jt_ia0_11, jt_ia0_12, jt_ia0_13, jt_ia0_14, jt_ia0_15, jt_ia0_16, jt_is0_17, jt_ia0_18, jt_ia0_19, jt_ia0_20, jt_ia0_21, jt_ia0_22, jt_is0_23, jt_ia0_24, jt_ia0_25, jt_ia0_26, jt_ia0_27, jt_ia0_28, jt_is0_29, jt_is0_30, jt_is0_31, jt_ia0_32, jt_ia0_33, jt_ia0_34, jt_ia0_35, jt_ia0_36, jt_ia0_37, jt_ia0_38, jt_ia0_39, jt_ia0_40, jt_ia0_41, jt_is0_42, jt_ia0_43, jt_ia0_44, jt_ia0_45, jt_ia0_46, jt_ia0_47, jt_ia0_48, jt_ia0_49, jt_ia0_50, jt_ia0_51, jt_ia0_52, jt_is0_53, jt_ia0_54, jt_ia0_55, jt_ia0_56, jt_ia0_57, jt_ia0_58, jt_ia0_59, jt_ia0_60, jt_ia0_61, jt_ia0_62, jt_ia0_63, jt_is0_65, jt_ia0_66, jt_ia0_67, jt_ia0_68, jt_ia0_69, jt_ia0_70, jt_ia0_71, jt_ia0_72, jt_ia0_73, jt_ia0_74, jt_ia0_75, jt_is0_76, jt_ia0_77, jt_ia0_78, jt_ia0_79, jt_ia0_80, jt_ia0_81, jt_ia0_82, jt_ia0_83, jt_ia0_84, jt_ia0_85, jt_ia0_86, jt_is0_87, jt_ia0_88, jt_is0_89, jt_ia0_90, jt_ia0_91, jt_is0_92, jt_ia0_93, jt_ia0_94, jt_ia0_95, jt_ia0_96, jt_is0_97, jt_ia0_98, jt_ia0_99, jt_ia0_100, jt_rt0_0_0, jt_rt0_0_1, jt_rt0_0_2, jt_rt0_0_3, jt_rt0_0_4, jt_rt0_0_5, jt_rt0_0_6, jt_rt0_0_7, jt_rt0_0_8, jt_rt0_0_9, jt_rt0_0_10, jt_rt0_0_11, jt_rt0_0_12, jt_rt0_0_13, jt_rt0_0_14, jt_rt0_1_0, jt_rt0_3_3, jt_rt0_3_4, jt_rt0_3_5, jt_rt0_3_6, jt_rt0_3_7, jt_rt0_3_8, jt_rt0_10_3, jt_rt0_10_4, jt_rt0_10_5, jt_rt0_10_6, jt_rt0_10_7, jt_rt0_10_8, jt_rt0_17_1, jt_rt0_17_2, jt_rt0_17_3, jt_rt0_17_4, jt_rt0_17_5, jt_rt0_23_1, jt_rt0_23_2, jt_rt0_23_3, jt_rt0_23_4, jt_rt0_23_5, jt_rt0_30_0, jt_rt0_30_1, jt_rt0_30_2, jt_rt0_31_0, jt_rt0_31_1, jt_rt0_31_2, jt_rt0_31_3, jt_rt0_31_4, jt_rt0_31_5, jt_rt0_31_6, jt_rt0_31_7, jt_rt0_31_8, jt_rt0_31_9, jt_rt0_42_0, jt_rt0_42_1, jt_rt0_42_2, jt_rt0_42_3, jt_rt0_42_4, jt_rt0_42_5, jt_rt0_42_6, jt_rt0_42_7, jt_rt0_42_8, jt_rt0_42_9, jt_rt0_53_0, jt_rt0_53_1, jt_rt0_53_2, jt_rt0_53_3, jt_rt0_53_4, jt_rt0_53_5, jt_rt0_53_6, jt_rt0_53_7, jt_rt0_53_8, jt_rt0_53_9, jt_rt0_64_0, jt_rt0_64_1, jt_rt0_65_0, jt_rt0_65_1, jt_rt0_65_2, jt_rt0_65_3, jt_rt0_65_4, jt_rt0_65_5, jt_rt0_65_6, jt_rt0_65_7, jt_rt0_65_8, jt_rt0_65_9, jt_rt0_76_0, jt_rt0_76_1, jt_rt0_76_2, jt_rt0_76_3, jt_rt0_76_4, jt_rt0_76_5, jt_rt0_76_6, jt_rt0_76_7, jt_rt0_76_8, jt_rt0_76_9, jt_rt0_87_0, jt_rt0_87_1, jt_rt0_89_1, jt_rt0_89_2, jt_rt0_92_0, jt_rt0_92_1, jt_rt0_92_2, jt_rt0_92_3, jt_rt0_92_4, jt_rt0_97_0, jt_rt0_97_1, jt_rt0_97_2, jt_in0_2, jt_in0_4, jt_in0_5, jt_in0_6, jt_in0_7, jt_in0_8, jt_in0_9, jt_in0_11, jt_in0_12, jt_in0_13, jt_in0_14, jt_in0_15, jt_in0_16, jt_in0_18, jt_in0_19, jt_in0_20, jt_in0_21, jt_in0_22, jt_in0_24, jt_in0_25, jt_in0_26, jt_in0_27, jt_in0_28, jt_in0_32, jt_in0_33, jt_in0_34, jt_in0_35, jt_in0_36, jt_in0_37, jt_in0_38, jt_in0_39, jt_in0_40, jt_in0_41, jt_in0_43, jt_in0_44, jt_in0_45, jt_in0_46, jt_in0_47, jt_in0_48, jt_in0_49, jt_in0_50, jt_in0_51, jt_in0_52, jt_in0_54, jt_in0_55, jt_in0_56, jt_in0_57, jt_in0_58, jt_in0_59, jt_in0_60, jt_in0_61, jt_in0_62, jt_in0_63, jt_in0_64, jt_in0_66, jt_in0_67, jt_in0_68, jt_in0_69, jt_in0_70, jt_in0_71, jt_in0_72, jt_in0_73, jt_in0_74, jt_in0_75, jt_in0_77, jt_in0_78, jt_in0_79, jt_in0_80, jt_in0_81, jt_in0_82, jt_in0_83, jt_in0_84, jt_in0_85, jt_in0_86, jt_in0_88, jt_in0_90, jt_in0_91, jt_in0_93, jt_in0_94, jt_in0_95, jt_in0_96, jt_in0_98, jt_in0_99, jt_in0_100, jt_ln0_2, jt_ln0_4, jt_ln0_5, jt_ln0_6, jt_ln0_7, jt_ln0_8, jt_ln0_9, jt_ln0_11, jt_ln0_12, jt_ln0_13, jt_ln0_14, jt_ln0_15, jt_ln0_16, jt_ln0_18, jt_ln0_19, jt_ln0_20, jt_ln0_21, jt_ln0_22, jt_ln0_24, jt_ln0_25, jt_ln0_26, jt_ln0_27, jt_ln0_28, jt_ln0_32, jt_ln0_33, jt_ln0_34, jt_ln0_35, jt_ln0_36, jt_ln0_37, jt_ln0_38, jt_ln0_39, jt_ln0_40, jt_ln0_41, jt_ln0_43, jt_ln0_44, jt_ln0_45, jt_ln0_46, jt_ln0_47, jt_ln0_48, jt_ln0_49, jt_ln0_50, jt_ln0_51, jt_ln0_52, jt_ln0_54, jt_ln0_55, jt_ln0_56, jt_ln0_57, jt_ln0_58, jt_ln0_59, jt_ln0_60, jt_ln0_61, jt_ln0_62, jt_ln0_63, jt_ln0_66, jt_ln0_67, jt_ln0_68, jt_ln0_69, jt_ln0_70, jt_ln0_71, jt_ln0_72, jt_ln0_73, jt_ln0_74, jt_ln0_75, jt_ln0_77, jt_ln0_78, jt_ln0_79, jt_ln0_80, jt_ln0_81, jt_ln0_82, jt_ln0_83, jt_ln0_84, jt_ln0_85, jt_ln0_86, jt_ln0_88, jt_ln0_90, jt_ln0_91, jt_ln0_93, jt_ln0_94, jt_ln0_95, jt_ln0_96, jt_ln0_98, jt_ln0_99, jt_ln0_100, Int.toNat_natCast, jo_is ho, js_u_same, e1, if_neg en, e2, if_pos hn.1]
theorem vM_draw {x : Nat} {n : Int} (w : js_Mm) (hx : x ≤ 3000) (hd : 0 ≤ w 1 (x + 866) ∧ w 1 (x + 866) < 2147483648) (hn : 0 < n ∧ n < 2147483648) : f_X11_draw [0, (x : Int), n] w = some (dN (w 1 (x + 866)) / 65536 % n, js_u w 1 (x + 866) (dN (w 1 (x + 866)))) := by
  have hr := dN_rg (w 1 (x + 866))
  have e0 : ((x : Int) + 866).toNat = x + 866 := by omega
  have e1 : js_l2i (js_lrem (js_ladd (js_lmul (js_i2l (w 1 (x + 866))) 1103515245) 12345) 2147483648) = dN (w 1 (x + 866)) := by
    rw [jz_i2l (by omega), jz_lmul (by omega), jz_ladd (by omega), jz_lrem (by omega) (by omega)]
    exact jz_l2i (by unfold dN at hr; omega)
  have e2 : js_rem (js_div (dN (w 1 (x + 866))) 65536) n = dN (w 1 (x + 866)) / 65536 % n := by
    rw [jz_div (by omega) (by omega), jz_rem (by omega) (by omega)]
  have e3 : js_add (x : Int) 866 = (x : Int) + 866 := jz_add (by omega)
  have en : ¬ n = 0 := by omega
  have i1 := jt_in1_1 (i := (x : Int) + 866) (by omega) (by omega)
  rw [fe_X11_draw]
  simp -implicitDefEqProofs (disch := omega) only [jv_g0, jv_gs, jv_b, jv_bl, jv_bcT, jv_bcF, jv_bcD, jv_bcI, jv_bI, jv_bs0, jv_bs1, jv_bsI, jv_k, jv_l, jv_1, jv_1e, jv_2, jv_2ke, jv_2e, jv_d, jv_dke, jv_de, jv_gf, jv_gfe, jv_gr, jv_gre, jv_al, jv_alke, jv_ale, jv_aa, jv_aake, jv_aae, jv_ln, jv_lne, jv_as0, jv_as1, jv_aske, jv_asje, jv_cv, jv_cve, jv_cs, jv_cp, jv_cpke, jv_cpe, jv_cz, jv_cze, jv_tte, jv_ffe, jv_ca, jv_co, jv_cn, jv_lt, jv_le, jv_gt, jv_ge, jv_eq, jv_ne, jv_q, jv_sk, jv_s1, jv_s1e, jv_s2, jv_s2e, jv_ii, jv_pf, jv_pfke, jv_pfe, jv_pa, jv_pale, jv_pake, jv_paje, jv_paf20, jv_paf21, jv_paf22, jv_paf23, jv_fit1, jv_fit2, jv_fit0, jv_fit5, jv_of, jv_ofke, jv_ofje, jv_oa, jv_oale, jv_oake, jv_oaje, jv_ex, jv_exe, jv_sq, jv_if, jv_bk, jv_bke, jv_rv, jv_rve, jv_r0, jv_sw, jv_swe, jv_pk0, jv_pk1, jv_me, jv_oute, jv_outI, jt_ft0_10, jt_ft0_11, jt_ft0_12, jt_ft0_13, jt_ft0_14, jt_ft1_0, jt_ft2_3, jt_ft2_4, jt_ft2_5, jt_ft2_6, jt_ft3_0, jt_ft4_5, jt_ft4_6, jt_ft5_0, jt_ft5_1, jt_ft7_1, jt_ft7_2, jt_ft7_3, jt_ft7_4, jt_ft7_5, jt_ft7_6, jt_ft7_7, jt_ft8_0, jt_ft8_1, jt_ft8_2, jt_ft9_2, jt_ft10_15, jt_ft11_2, jt_ft11_3, jt_ft11_19, jt_ft11_20, jt_ft11_21, jt_ft11_22, jt_ft11_23, jt_ft11_24, jt_ft11_26, jt_ft11_28, jt_ft11_36, jt_ft11_38, jt_ft11_39, jt_ft11_40, List.set_cons_zero, List.set_cons_succ, Int.reduceToNat, Bool.and_true, Bool.true_and, Bool.and_eq_true, decide_eq_true_eq, if_true, if_false, reduceIte, Nat.reduceEqDiff, Nat.reduceSub, Nat.reduceAdd, Int.reduceLT, Int.reduceLE, Int.reduceNeg, Int.reduceEq, Int.reduceAdd, Int.reduceSub, Int.reduceMul, not_true_eq_false, not_false_eq_true, and_true, true_and, and_false, false_and, decide_true, decide_false, Nat.reduceEqDiff, reduceCtorEq, jt_is1_0, jt_ia1_1, jt_ia1_2, jt_ia1_3, jt_ia1_4, jt_ia1_5, jt_ia1_6, jt_ia1_7, jt_ia1_8, jt_ia1_9, jt_ia1_10, jt_ia1_11, jt_ia1_12, jt_ia1_13, jt_ia1_14, jt_ia1_15, jt_ia1_16, jt_ia1_17, jt_ia1_18, jt_ia1_19, jt_ia1_20, jt_ia1_21, jt_ia1_22, jt_ia1_23, jt_ia1_24, jt_ia1_25, jt_ia1_26, jt_ia1_27, jt_rt1_0_0, jt_rt1_0_1, jt_rt1_0_4, jt_rt1_0_5, jt_rt1_0_6, jt_rt1_0_7, jt_rt1_0_8, jt_rt1_0_9, jt_rt1_0_10, jt_rt1_0_11, jt_rt1_0_12, jt_rt1_0_13, jt_rt1_0_14, jt_rt1_0_15, jt_rt1_0_16, jt_rt1_0_17, jt_rt1_0_18, jt_rt1_0_25, jt_rt1_0_27, jt_rt1_0_29, jt_rt1_0_30, jt_rt1_0_31, jt_rt1_0_32, jt_rt1_0_33, jt_rt1_0_34, jt_rt1_0_35, jt_rt1_0_37, jt_in1_1, jt_in1_2, jt_in1_3, jt_in1_4, jt_in1_5, jt_in1_6, jt_in1_7, jt_in1_8, jt_in1_9, jt_in1_10, jt_in1_11, jt_in1_12, jt_in1_13, jt_in1_14, jt_in1_15, jt_in1_16, jt_in1_17, jt_in1_18, jt_in1_19, jt_in1_20, jt_in1_21, jt_in1_22, jt_in1_23, jt_in1_24, jt_in1_25, jt_in1_26, jt_in1_27, jt_ln1_1, jt_ln1_2, jt_ln1_3, jt_ln1_4, jt_ln1_5, jt_ln1_6, jt_ln1_7, jt_ln1_8, jt_ln1_9, jt_ln1_10, jt_ln1_11, jt_ln1_12, jt_ln1_13, jt_ln1_14, jt_ln1_15, jt_ln1_16, jt_ln1_17, jt_ln1_18, jt_ln1_19, jt_ln1_20, jt_ln1_21, jt_ln1_22, jt_ln1_23, jt_ln1_24, jt_ln1_25, jt_ln1_26, jt_ln1_27, e3, e0, i1, js_u_same, e1, if_neg en, e2]
theorem rCo_dr {o x : Nat} {d : Int} {μ ν : js_Mm} (ho : 17 < o) (hd : 0 ≤ d ∧ d < 2147483648) (h : rCo o x μ ν) : rCo o x (js_u μ o 13 d) (js_u ν 1 (x + 866) d) := by
  obtain ⟨c1, c2, c3, c4, c5, c6, rk, c7⟩ := h
  have mv : ∀ k j, k ≠ o → js_u μ o 13 d k j = μ k j := fun k j hk => js_u_other (by omega)
  refine ⟨fun p hp => ?_, fun p s hp hs => ?_, ?_, ?_, ?_, ?_, rk, fun p s hp hs hb => ?_⟩
  · rw [mv _ _ (by omega), mv _ _ (by omega)]; exact c1 p hp
  · have hc := c2 p s hp hs
    unfold rCe at *
    rw [mv (o + 1) p (by omega), mv (o + 2) p (by omega), mv (o + 3) _ (by omega), mv (o + 4) _ (by omega), mv (o + 5) _ (by omega), mv (o + 6) _ (by omega), mv (o + 7) _ (by omega), mv 3 0 (by omega), mv 17 0 (by omega), js_u_other (by omega), js_u_other (by omega), js_u_other (by omega), js_u_other (by omega), js_u_other (by omega), js_u_other (by omega)]
    refine ⟨hc.1, hc.2.1, hc.2.2.1, hc.2.2.2.1, hc.2.2.2.2.1, hc.2.2.2.2.2.1, fun q hq => ?_⟩
    rw [mv _ _ (by omega)]
    exact hc.2.2.2.2.2.2 q hq
  · rw [js_u_other (by omega), js_u_other (by omega)]; exact c3
  · rw [js_u_other (by omega), js_u_other (by omega)]; exact c4
  · rw [js_u_same, js_u_same]
  · rw [js_u_same]; exact hd
  · rw [mv _ _ (by omega)] at hb
    rw [hCn_mv (o := o) (o' := o) (fun p _ => mv _ _ (by omega)) 144 (by omega), mv _ _ (by omega), mv _ _ (by omega), mv _ _ (by omega)]
    exact c7 p s hp hs hb
end
