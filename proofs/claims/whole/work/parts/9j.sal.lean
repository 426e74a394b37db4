section
/-- what a reading of sayings may change -/
def frV (a a' : js_Mm) : Prop := ∀ k j, ¬ (k = 1 ∧ 2 ≤ j ∧ j ≤ 7) → ¬ (23 ≤ k ∧ k ≤ 28) → a' k j = a k j
def frW (c c' : js_Mm) : Prop := ∀ k j, ¬ (k = 0 ∧ 20 ≤ j ∧ j ≤ 24) → ¬ ((11 ≤ k ∧ k ≤ 15) ∧ 6 ≤ j) → ¬ (k = 16 ∧ 1 ≤ j) → c' k j = c k j
theorem frV_tr {a b c : js_Mm} (h1 : frV a b) (h2 : frV b c) : frV a c := fun k j x y => (h2 k j x y).trans (h1 k j x y)
theorem frW_tr {a b c : js_Mm} (h1 : frW a b) (h2 : frW b c) : frW a c := fun k j x y z => (h2 k j x y z).trans (h1 k j x y z)
theorem frC_V {a a' : js_Mm} (h : frC a a') : frV a a' := fun k j x _ => h k j x
theorem frM_W {c c' : js_Mm} (h : frM c c') : frW c c' := fun k j x _ _ => h k j x
def RLo (a c : js_Mm) : Prop := rLo (gC a) (gM c)
/-- the clause of a saying, behind its word -/
theorem say_ok {n p : Nat} {f : Nat → Int} {a c : js_Mm} (h1 : tx a n f) (h2 : tm c n f) (h0 : a 1 6 = 0) (h7 : a 1 7 = -1) (e0 : c 0 23 = 0) (e7 : c 0 24 = -1) (e4 : a 1 4 = ((bh n f p : Nat) : Int)) (e20 : c 0 20 = ((bh n f p : Nat) : Int)) (hq : bh n f p ≤ n) (hR : RLo a c) {m : Nat} (hm : a 23 0 = (m : Int)) (hm5 : m < 6) :
    ∃ a' c1 c', f_X3_readSaying [23, 1] a = some (0, a') ∧ f_X11_takeSaying [0] c = some (0, c1) ∧ f_X11_takeEnd [0] c1 = some (0, c') ∧ SY n f a' c' ∧ frV a a' ∧ frW c c' ∧ (a' 1 6 = 0 → RLo a' c' ∧ c 0 20 < c' 0 20) := by
  have hcm : c 16 1 = (m : Int) := by
    have : c 16 1 = a 23 0 := hR.2.1
    omega
  have hc1 : ¬ 6 ≤ (m : Int) := by omega
  obtain ⟨a1, s1, s2, s3, s4⟩ := sp_ok h1 h2 h0 h7 e0 e7 e4 e20 hq
  have m1 : a1 23 0 = (m : Int) := (s3 23 0 (by omega)).trans hm
  obtain ⟨v1, a2, w1, c2, t1, t2, t3, t4, t5, t6, t7⟩ := as_ok (hi := 9) (m : Int) ((6 + m : Nat) : Int) sw5 (by omega) s2 (SY_r s2 s4) (by omega)
  have x1 : SY n f (js_u a2 24 m v1) (js_u c2 11 (6 + m) w1) := SY_w t3 (fun j => js_u_other (by omega)) (fun j => js_u_other (by omega)) (fun j => js_u_other (by omega)) (fun j => js_u_other (by omega))
  have x1r : i32 (js_u a2 24 m v1 1 4) ∧ i32 (js_u a2 24 m v1 1 3) := by rw [js_u_other (by omega), js_u_other (by omega)]; exact t6
  obtain ⟨b2, hb2⟩ : ∃ b, js_u a2 24 m v1 = b := ⟨_, rfl⟩
  obtain ⟨d2, hd2⟩ : ∃ d, js_u c2 11 (6 + m) w1 = d := ⟨_, rfl⟩
  rw [hb2, hd2] at x1
  rw [hb2] at x1r
  obtain ⟨v3, a3, w3, c3, y1, y2, y3, y4, y5, y6, y7⟩ := as_ok (hi := 9) (m : Int) ((6 + m : Nat) : Int) sw6 (by omega) x1 x1r (by omega)
  have x2 : SY n f (js_u a3 25 m v3) (js_u (js_u c3 12 (6 + m) w3) 13 (6 + m) 0) := SY_w y3 (fun j => js_u_other (by omega)) (fun j => js_u_other (by omega)) (fun j => by rw [js_u_other (by omega), js_u_other (by omega)]) (fun j => by rw [js_u_other (by omega), js_u_other (by omega)])
  have x2r : i32 (js_u a3 25 m v3 1 4) ∧ i32 (js_u a3 25 m v3 1 3) := by rw [js_u_other (by omega), js_u_other (by omega)]; exact y6
  obtain ⟨b3, hb3⟩ : ∃ b, js_u a3 25 m v3 = b := ⟨_, rfl⟩
  obtain ⟨d3, hd3⟩ : ∃ d, js_u (js_u c3 12 (6 + m) w3) 13 (6 + m) 0 = d := ⟨_, rfl⟩
  rw [hb3, hd3] at x2
  rw [hb3] at x2r
  have mb3 : b3 23 0 = (m : Int) := by rw [← hb3, js_u_other (by omega), y4 23 0 (by omega), ← hb2, js_u_other (by omega), t4 23 0 (by omega)]; exact m1
  obtain ⟨S, a4, g, c4, g2, c5, z1, z2, z3, z4, z5, z6, z7, z8⟩ := bs_ok x2 x2r mb3 hm5 (by rw [← hd3, js_u_same])
  have x3 : SY n f (js_u a4 26 m S) (js_u (js_u c5 14 (6 + m) (-1)) 15 (6 + m) (-1)) := SY_w z4 (fun j => js_u_other (by omega)) (fun j => js_u_other (by omega)) (fun j => by rw [js_u_other (by omega), js_u_other (by omega)]) (fun j => by rw [js_u_other (by omega), js_u_other (by omega)])
  have x3r : i32 (js_u a4 26 m S 1 4) ∧ i32 (js_u a4 26 m S 1 3) := by rw [js_u_other (by omega), js_u_other (by omega)]; exact z7
  obtain ⟨b5, hb5⟩ : ∃ b, js_u a4 26 m S = b := ⟨_, rfl⟩
  obtain ⟨d5, hd5⟩ : ∃ d, js_u (js_u c5 14 (6 + m) (-1)) 15 (6 + m) (-1) = d := ⟨_, rfl⟩
  rw [hb5, hd5] at x3
  rw [hb5] at x3r
  have mb5 : b5 23 0 = (m : Int) := by rw [← hb5, js_u_other (by omega), z5 23 0 (by omega)]; exact mb3
  obtain ⟨J, a6, c6, k1, k2, k3, k4, k5, k6⟩ := jn_ok (g2 := g2) x3 x3r mb5 hm5 (by rw [← hd5, js_u_other (by omega), js_u_same]) (by rw [← hd5, js_u_same])
  have x4 : SY n f (js_u a6 27 m J) (js_u c6 16 1 ((m : Int) + 1)) := SY_w k3 (fun j => js_u_other (by omega)) (fun j => js_u_other (by omega)) (fun j => js_u_other (by omega)) (fun j => js_u_other (by omega))
  obtain ⟨b7, hb7⟩ : ∃ b, js_u a6 27 m J = b := ⟨_, rfl⟩
  obtain ⟨d7, hd7⟩ : ∃ d, js_u c6 16 1 ((m : Int) + 1) = d := ⟨_, rfl⟩
  rw [hb7, hd7] at x4
  obtain ⟨a8, c8, o1, o2, o3, o4, o5, o6⟩ := cc_ok x4
  have eix : (6 + (m : Int)) = ((6 + m : Nat) : Int) := by omega
  have evM : f_X11_takeSaying [0] c = some (0, d7) := by
    rw [fe_X11_takeSaying]
    have t2 : (aM 4 97 115 107 115 0 0 0 9) [(3, 0), (1, (m : Int)), (1, ((6 + m : Nat) : Int)), (0, 0), (0, 0)] c = some (w1, c2) := t2
    have y2 : (aM 7 97 110 115 119 101 114 115 9) [(3, 0), (1, (m : Int)), (1, ((6 + m : Nat) : Int)), (0, 0), (0, 0)] d2 = some (w3, c3) := y2
    have f1 : js_q (js_cz js_ne (js_cv 1 11 f_X11_isNext [(js_l 3 0), (js_k 4), (js_k 97), (js_k 115), (js_k 107), (js_k 115), (js_k 0), (js_k 0), (js_k 0)])) (js_cv 1 11 f_X11_takeNumber [(js_l 3 0), (js_k 0), (js_k 9)]) (js_k (-1)) = aM 4 97 115 107 115 0 0 0 9 := rfl
    have f2 : js_q (js_cz js_ne (js_cv 1 11 f_X11_isNext [(js_l 3 0), (js_k 7), (js_k 97), (js_k 110), (js_k 115), (js_k 119), (js_k 101), (js_k 114), (js_k 115)])) (js_cv 1 11 f_X11_takeNumber [(js_l 3 0), (js_k 0), (js_k 9)]) (js_k (-1)) = aM 7 97 110 115 119 101 114 115 9 := rfl
    rw [f1, f2]
    clear f1 f2
    revert t2 y2 k2
    generalize aM 4 97 115 107 115 0 0 0 9 = E1
    generalize aM 7 97 110 115 119 101 114 115 9 = E2
    unfold jM
    generalize js_if (js_cz js_ne (js_cv 1 11 f_X11_isNext [(js_l 3 0), (js_k 5), (js_k 106), (js_k 111), (js_k 105), (js_k 110), (js_k 115), (js_k 0), (js_k 0)])) (js_bk 4 (js_sq (js_pa 1 20 (js_gr 1 11 15 (js_l 3 0)) (js_l 1 2) (js_cv 1 11 f_X11_takeNumber [(js_l 3 0), (js_k 0), (js_2 js_sub (js_l 1 1) (js_k 1))])) (js_sq (js_pa 1 20 (js_gr 1 11 16 (js_l 3 0)) (js_l 1 2) (js_cv 1 11 f_X11_takeNumber [(js_l 3 0), (js_k 0), (js_2 js_sub (js_l 1 1) (js_k 1))])) (js_s1 1 4 (js_q (js_ca (js_cz js_eq (js_gf 1 11 23 (js_l 3 0))) (js_cz js_ne (js_cv 1 11 f_X11_want [(js_l 3 0), (js_q (js_cp js_ne (js_al 1 20 (js_gr 1 11 15 (js_l 3 0)) (js_l 1 2)) (js_al 1 20 (js_gr 1 11 16 (js_l 3 0)) (js_l 1 2))) (js_k 1) (js_k 0)), (js_k 4), (js_gf 1 11 21 (js_l 3 0))]))) (js_k 1) (js_k 0)))))) js_sk = E3
    intro k2 t2 y2
    simp -implicitDefEqProofs (disch := omega) only [jv_g0, jv_gs, jv_b, jv_bl, jv_bcT, jv_bcF, jv_bcD, jv_bcI, jv_bI, jv_bs0, jv_bs1, jv_bsI, jv_k, jv_l, jv_1, jv_1e, jv_2, jv_2ke, jv_2e, jv_d, jv_dke, jv_de, jv_gf, jv_gfe, jv_gr, jv_gre, jv_al, jv_alke, jv_ale, jv_aa, jv_aake, jv_aae, jv_ln, jv_lne, jv_as0, jv_as1, jv_aske, jv_asje, jv_cv, jv_cve, jv_cs, jv_cp, jv_cpke, jv_cpe, jv_cz, jv_cze, jv_tte, jv_ffe, jv_ca, jv_co, jv_cn, jv_lt, jv_le, jv_gt, jv_ge, jv_eq, jv_ne, jv_q, jv_sk, jv_s1, jv_s1e, jv_s2, jv_s2e, jv_ii, jv_pf, jv_pfke, jv_pfe, jv_pa, jv_pale, jv_pake, jv_paje, jv_paf20, jv_paf21, jv_paf22, jv_paf23, jv_fit1, jv_fit2, jv_fit0, jv_fit5, jv_of, jv_ofke, jv_ofje, jv_oa, jv_oale, jv_oake, jv_oaje, jv_ex, jv_exe, jv_sq, jv_if, jv_bk, jv_bke, jv_rv, jv_rve, jv_r0, jv_sw, jv_swe, jv_pk0, jv_pk1, jv_me, jv_oute, jv_outI, jt_ft0_10, jt_ft0_11, jt_ft0_12, jt_ft0_13, jt_ft0_14, jt_ft1_0, jt_ft2_3, jt_ft2_4, jt_ft2_5, jt_ft2_6, jt_ft3_0, jt_ft4_5, jt_ft4_6, jt_ft5_0, jt_ft5_1, jt_ft7_1, jt_ft7_2, jt_ft7_3, jt_ft7_4, jt_ft7_5, jt_ft7_6, jt_ft7_7, jt_ft8_0, jt_ft8_1, jt_ft8_2, jt_ft9_2, jt_ft10_15, jt_ft11_2, jt_ft11_3, jt_ft11_19, jt_ft11_20, jt_ft11_21, jt_ft11_22, jt_ft11_23, jt_ft11_24, jt_ft11_26, jt_ft11_28, jt_ft11_36, jt_ft11_38, jt_ft11_39, jt_ft11_40, js_u_same, js_u_other, jz_add, jz_sub, jz_mul, jz_div, jz_rem, jz_ladd, jz_lsub, jz_lmul, jz_ldiv, jz_lrem, jz_i2l, jz_l2i, List.set_cons_zero, List.set_cons_succ, Int.reduceToNat, Bool.and_true, Bool.true_and, Bool.and_eq_true, decide_eq_true_eq, if_true, if_false, reduceIte, Nat.reduceEqDiff, Nat.reduceSub, Nat.reduceAdd, Int.reduceLT, Int.reduceLE, Int.reduceNeg, Int.reduceEq, Int.reduceAdd, Int.reduceSub, Int.reduceMul, not_true_eq_false, not_false_eq_true, and_true, true_and, and_false, false_and, decide_true, decide_false, Nat.reduceEqDiff, reduceCtorEq, jv_tr0, jv_trs, jv_trn, jv_blI, jt_is1_0, jt_ia1_1, jt_ia1_2, jt_ia1_3, jt_ia1_4, jt_ia1_5, jt_ia1_6, jt_ia1_7, jt_ia1_8, jt_ia1_9, jt_ia1_10, jt_ia1_11, jt_ia1_12, jt_ia1_13, jt_ia1_14, jt_ia1_15, jt_ia1_16, jt_ia1_17, jt_ia1_18, jt_ia1_19, jt_ia1_20, jt_ia1_21, jt_ia1_22, jt_ia1_23, jt_ia1_24, jt_ia1_25, jt_ia1_26, jt_ia1_27, jt_rt1_0_0, jt_rt1_0_1, jt_rt1_0_4, jt_rt1_0_5, jt_rt1_0_6, jt_rt1_0_7, jt_rt1_0_8, jt_rt1_0_9, jt_rt1_0_10, jt_rt1_0_11, jt_rt1_0_12, jt_rt1_0_13, jt_rt1_0_14, jt_rt1_0_15, jt_rt1_0_16, jt_rt1_0_17, jt_rt1_0_18, jt_rt1_0_25, jt_rt1_0_27, jt_rt1_0_29, jt_rt1_0_30, jt_rt1_0_31, jt_rt1_0_32, jt_rt1_0_33, jt_rt1_0_34, jt_rt1_0_35, jt_rt1_0_37, jt_in1_1, jt_in1_2, jt_in1_3, jt_in1_4, jt_in1_5, jt_in1_6, jt_in1_7, jt_in1_8, jt_in1_9, jt_in1_10, jt_in1_11, jt_in1_12, jt_in1_13, jt_in1_14, jt_in1_15, jt_in1_16, jt_in1_17, jt_in1_18, jt_in1_19, jt_in1_20, jt_in1_21, jt_in1_22, jt_in1_23, jt_in1_24, jt_in1_25, jt_in1_26, jt_in1_27, jt_ln1_1, jt_ln1_2, jt_ln1_3, jt_ln1_4, jt_ln1_5, jt_ln1_6, jt_ln1_7, jt_ln1_8, jt_ln1_9, jt_ln1_10, jt_ln1_11, jt_ln1_12, jt_ln1_13, jt_ln1_14, jt_ln1_15, jt_ln1_16, jt_ln1_17, jt_ln1_18, jt_ln1_19, jt_ln1_20, jt_ln1_21, jt_ln1_22, jt_ln1_23, jt_ln1_24, jt_ln1_25, jt_ln1_26, jt_ln1_27, hcm, eix, t2, Int.toNat_natCast, hd2, y2, hd3, z2, z3, hd5, k2, hd7]
  have fV7 : frV a b7 := by
    have g1 : frV a b2 := fun k j x y => by rw [← hb2, js_u_other (by omega), t4 k j x, s3 k j x]
    have g2 : frV b2 b3 := fun k j x y => by rw [← hb3, js_u_other (by omega), y4 k j x]
    have g3 : frV b3 b5 := fun k j x y => by rw [← hb5, js_u_other (by omega), z5 k j x]
    have g4 : frV b5 b7 := fun k j x y => by rw [← hb7, js_u_other (by omega), k4 k j x]
    exact frV_tr g1 (frV_tr g2 (frV_tr g3 g4))
  have fW7 : frW c d7 := by
    have g1 : frW c d2 := fun k j x y z => by rw [← hd2, js_u_other (by omega), t5 k j x]
    have g2 : frW d2 d3 := fun k j x y z => by rw [← hd3, js_u_other (by omega), js_u_other (by omega), y5 k j x]
    have g3 : frW d3 d5 := fun k j x y z => by rw [← hd5, js_u_other (by omega), js_u_other (by omega), z6 k j x (by omega)]
    have g4 : frW d5 d7 := fun k j x y z => by rw [← hd7, js_u_other (by omega), k5 k j x (by omega)]
    exact frW_tr g1 (frW_tr g2 (frW_tr g3 g4))
  have evC : ∀ (ok : Int) (a9 aF : js_Mm), f_X7_closesClause [1] b7 = some (ok, a8) → ((ok = 0 ∧ aF = a8) ∨ (ok = 1 ∧ f_X3_settleBarred [23, (m : Int)] a8 = some (0, a9) ∧ a9 23 0 = (m : Int) ∧ aF = js_u a9 23 0 ((m : Int) + 1))) → f_X3_readSaying [23, 1] a = some (0, aF) := fun ok a9 aF r1 r2 => by
    rw [fe_X3_readSaying]
    have t1 : (aC 5 9) [(3, 23), (3, 1), (1, (m : Int))] a1 = some (v1, a2) := t1
    have y1 : (aC 6 9) [(3, 23), (3, 1), (1, (m : Int))] b2 = some (v3, a3) := y1
    have f1 : js_q (js_cz js_ne (js_cv 0 7 f_X7_skipWord [(js_l 3 1), (js_k 5)])) (js_cv 0 7 f_X7_takeNumber [(js_l 3 1), (js_k 0), (js_k 9)]) (js_k (-1)) = aC 5 9 := rfl
    have f2 : js_q (js_cz js_ne (js_cv 0 7 f_X7_skipWord [(js_l 3 1), (js_k 6)])) (js_cv 0 7 f_X7_takeNumber [(js_l 3 1), (js_k 0), (js_k 9)]) (js_k (-1)) = aC 6 9 := rfl
    have f3 : js_q (js_cz js_ne (js_cv 0 7 f_X7_skipWord [(js_l 3 1), (js_k 7)])) (js_cv 0 3 f_X3_readBarred [(js_l 3 0), (js_l 3 1)]) (js_k 0) = bC := rfl
    have f4 : js_q (js_cz js_ne (js_cv 0 7 f_X7_skipWord [(js_l 3 1), (js_k 8)])) (js_cv 0 3 f_X3_readJoined [(js_l 3 0), (js_l 3 1)]) (js_k 0) = jC := rfl
    rw [f1, f2, f3, f4]
    clear f1 f2 f3 f4
    revert t1 y1 z1 k1
    generalize aC 5 9 = E1
    generalize aC 6 9 = E2
    generalize bC = E3
    generalize jC = E4
    intro z1 k1 t1 y1
    rcases r2 with ⟨rfl, rfl⟩ | ⟨rfl, r3, r4, rfl⟩
    · simp -implicitDefEqProofs (disch := omega) only [jv_g0, jv_gs, jv_b, jv_bl, jv_bcT, jv_bcF, jv_bcD, jv_bcI, jv_bI, jv_bs0, jv_bs1, jv_bsI, jv_k, jv_l, jv_1, jv_1e, jv_2, jv_2ke, jv_2e, jv_d, jv_dke, jv_de, jv_gf, jv_gfe, jv_gr, jv_gre, jv_al, jv_alke, jv_ale, jv_aa, jv_aake, jv_aae, jv_ln, jv_lne, jv_as0, jv_as1, jv_aske, jv_asje, jv_cv, jv_cve, jv_cs, jv_cp, jv_cpke, jv_cpe, jv_cz, jv_cze, jv_tte, jv_ffe, jv_ca, jv_co, jv_cn, jv_lt, jv_le, jv_gt, jv_ge, jv_eq, jv_ne, jv_q, jv_sk, jv_s1, jv_s1e, jv_s2, jv_s2e, jv_ii, jv_pf, jv_pfke, jv_pfe, jv_pa, jv_pale, jv_pake, jv_paje, jv_paf20, jv_paf21, jv_paf22, jv_paf23, jv_fit1, jv_fit2, jv_fit0, jv_fit5, jv_of, jv_ofke, jv_ofje, jv_oa, jv_oale, jv_oake, jv_oaje, jv_ex, jv_exe, jv_sq, jv_if, jv_bk, jv_bke, jv_rv, jv_rve, jv_r0, jv_sw, jv_swe, jv_pk0, jv_pk1, jv_me, jv_oute, jv_outI, jt_ft0_10, jt_ft0_11, jt_ft0_12, jt_ft0_13, jt_ft0_14, jt_ft1_0, jt_ft2_3, jt_ft2_4, jt_ft2_5, jt_ft2_6, jt_ft3_0, jt_ft4_5, jt_ft4_6, jt_ft5_0, jt_ft5_1, jt_ft7_1, jt_ft7_2, jt_ft7_3, jt_ft7_4, jt_ft7_5, jt_ft7_6, jt_ft7_7, jt_ft8_0, jt_ft8_1, jt_ft8_2, jt_ft9_2, jt_ft10_15, jt_ft11_2, jt_ft11_3, jt_ft11_19, jt_ft11_20, jt_ft11_21, jt_ft11_22, jt_ft11_23, jt_ft11_24, jt_ft11_26, jt_ft11_28, jt_ft11_36, jt_ft11_38, jt_ft11_39, jt_ft11_40, js_u_same, js_u_other, jz_add, jz_sub, jz_mul, jz_div, jz_rem, jz_ladd, jz_lsub, jz_lmul, jz_ldiv, jz_lrem, jz_i2l, jz_l2i, List.set_cons_zero, List.set_cons_succ, Int.reduceToNat, Bool.and_true, Bool.true_and, Bool.and_eq_true, decide_eq_true_eq, if_true, if_false, reduceIte, Nat.reduceEqDiff, Nat.reduceSub, Nat.reduceAdd, Int.reduceLT, Int.reduceLE, Int.reduceNeg, Int.reduceEq, Int.reduceAdd, Int.reduceSub, Int.reduceMul, not_true_eq_false, not_false_eq_true, and_true, true_and, and_false, false_and, decide_true, decide_false, Nat.reduceEqDiff, reduceCtorEq, jv_tr0, jv_trs, jv_trn, jv_blI, jt_is0_0, jt_is0_1, jt_ia0_2, jt_is0_3, jt_ia0_4, jt_ia0_5, jt_ia0_6, jt_ia0_7, jt_ia0_8, jt_ia0_9, jt_is0_10, jt_ia0_11, jt_ia0_12, jt_ia0_13, jt_ia0_14, jt_ia0_15, jt_ia0_16, jt_is0_17, jt_ia0_18, jt_ia0_19, jt_ia0_20, jt_ia0_21, jt_ia0_22, jt_is0_23, jt_ia0_24, jt_ia0_25, jt_ia0_26, jt_ia0_27, jt_ia0_28, jt_is0_29, jt_is0_30, jt_is0_31, jt_ia0_32, jt_ia0_33, jt_ia0_34, jt_ia0_35, jt_ia0_36, jt_ia0_37, jt_ia0_38, jt_ia0_39, jt_ia0_40, jt_ia0_41, jt_is0_42, jt_ia0_43, jt_ia0_44, jt_ia0_45, jt_ia0_46, jt_ia0_47, jt_ia0_48, jt_ia0_49, jt_ia0_50, jt_ia0_51, jt_ia0_52, jt_is0_53, jt_ia0_54, jt_ia0_55, jt_ia0_56, jt_ia0_57, jt_ia0_58, jt_ia0_59, jt_ia0_60, jt_ia0_61, jt_ia0_62, jt_ia0_63, jt_is0_65, jt_ia0_66, jt_ia0_67, jt_ia0_68, jt_ia0_69, jt_ia0_70, jt_ia0_71, jt_ia0_72, jt_ia0_73, jt_ia0_74, jt_ia0_75, jt_is0_76, jt_ia0_77, jt_ia0_78, jt_ia0_79, jt_ia0_80, jt_ia0_81, jt_ia0_82, jt_ia0_83, jt_ia0_84, jt_ia0_85, jt_ia0_86, jt_is0_87, jt_ia0_88, jt_is0_89, jt_ia0_90, jt_ia0_91, jt_is0_92, jt_ia0_93, jt_ia0_94, jt_ia0_95, jt_ia0_96, jt_is0_97, jt_ia0_98, jt_ia0_99, jt_ia0_100, jt_rt0_0_0, jt_rt0_0_1, jt_rt0_0_2, jt_rt0_0_3, jt_rt0_0_4, jt_rt0_0_5, jt_rt0_0_6, jt_rt0_0_7, jt_rt0_0_8, jt_rt0_0_9, jt_rt0_0_10, jt_rt0_0_11, jt_rt0_0_12, jt_rt0_0_13, jt_rt0_0_14, jt_rt0_1_0, jt_rt0_3_3, jt_rt0_3_4, jt_rt0_3_5, jt_rt0_3_6, jt_rt0_3_7, jt_rt0_3_8, jt_rt0_10_3, jt_rt0_10_4, jt_rt0_10_5, jt_rt0_10_6, jt_rt0_10_7, jt_rt0_10_8, jt_rt0_17_1, jt_rt0_17_2, jt_rt0_17_3, jt_rt0_17_4, jt_rt0_17_5, jt_rt0_23_1, jt_rt0_23_2, jt_rt0_23_3, jt_rt0_23_4, jt_rt0_23_5, jt_rt0_30_0, jt_rt0_30_1, jt_rt0_30_2, jt_rt0_31_0, jt_rt0_31_1, jt_rt0_31_2, jt_rt0_31_3, jt_rt0_31_4, jt_rt0_31_5, jt_rt0_31_6, jt_rt0_31_7, jt_rt0_31_8, jt_rt0_31_9, jt_rt0_42_0, jt_rt0_42_1, jt_rt0_42_2, jt_rt0_42_3, jt_rt0_42_4, jt_rt0_42_5, jt_rt0_42_6, jt_rt0_42_7, jt_rt0_42_8, jt_rt0_42_9, jt_rt0_53_0, jt_rt0_53_1, jt_rt0_53_2, jt_rt0_53_3, jt_rt0_53_4, jt_rt0_53_5, jt_rt0_53_6, jt_rt0_53_7, jt_rt0_53_8, jt_rt0_53_9, jt_rt0_64_0, jt_rt0_64_1, jt_rt0_65_0, jt_rt0_65_1, jt_rt0_65_2, jt_rt0_65_3, jt_rt0_65_4, jt_rt0_65_5, jt_rt0_65_6, jt_rt0_65_7, jt_rt0_65_8, jt_rt0_65_9, jt_rt0_76_0, jt_rt0_76_1, jt_rt0_76_2, jt_rt0_76_3, jt_rt0_76_4, jt_rt0_76_5, jt_rt0_76_6, jt_rt0_76_7, jt_rt0_76_8, jt_rt0_76_9, jt_rt0_87_0, jt_rt0_87_1, jt_rt0_89_1, jt_rt0_89_2, jt_rt0_92_0, jt_rt0_92_1, jt_rt0_92_2, jt_rt0_92_3, jt_rt0_92_4, jt_rt0_97_0, jt_rt0_97_1, jt_rt0_97_2, jt_in0_2, jt_in0_4, jt_in0_5, jt_in0_6, jt_in0_7, jt_in0_8, jt_in0_9, jt_in0_11, jt_in0_12, jt_in0_13, jt_in0_14, jt_in0_15, jt_in0_16, jt_in0_18, jt_in0_19, jt_in0_20, jt_in0_21, jt_in0_22, jt_in0_24, jt_in0_25, jt_in0_26, jt_in0_27, jt_in0_28, jt_in0_32, jt_in0_33, jt_in0_34, jt_in0_35, jt_in0_36, jt_in0_37, jt_in0_38, jt_in0_39, jt_in0_40, jt_in0_41, jt_in0_43, jt_in0_44, jt_in0_45, jt_in0_46, jt_in0_47, jt_in0_48, jt_in0_49, jt_in0_50, jt_in0_51, jt_in0_52, jt_in0_54, jt_in0_55, jt_in0_56, jt_in0_57, jt_in0_58, jt_in0_59, jt_in0_60, jt_in0_61, jt_in0_62, jt_in0_63, jt_in0_64, jt_in0_66, jt_in0_67, jt_in0_68, jt_in0_69, jt_in0_70, jt_in0_71, jt_in0_72, jt_in0_73, jt_in0_74, jt_in0_75, jt_in0_77, jt_in0_78, jt_in0_79, jt_in0_80, jt_in0_81, jt_in0_82, jt_in0_83, jt_in0_84, jt_in0_85, jt_in0_86, jt_in0_88, jt_in0_90, jt_in0_91, jt_in0_93, jt_in0_94, jt_in0_95, jt_in0_96, jt_in0_98, jt_in0_99, jt_in0_100, jt_ln0_2, jt_ln0_4, jt_ln0_5, jt_ln0_6, jt_ln0_7, jt_ln0_8, jt_ln0_9, jt_ln0_11, jt_ln0_12, jt_ln0_13, jt_ln0_14, jt_ln0_15, jt_ln0_16, jt_ln0_18, jt_ln0_19, jt_ln0_20, jt_ln0_21, jt_ln0_22, jt_ln0_24, jt_ln0_25, jt_ln0_26, jt_ln0_27, jt_ln0_28, jt_ln0_32, jt_ln0_33, jt_ln0_34, jt_ln0_35, jt_ln0_36, jt_ln0_37, jt_ln0_38, jt_ln0_39, jt_ln0_40, jt_ln0_41, jt_ln0_43, jt_ln0_44, jt_ln0_45, jt_ln0_46, jt_ln0_47, jt_ln0_48, jt_ln0_49, jt_ln0_50, jt_ln0_51, jt_ln0_52, jt_ln0_54, jt_ln0_55, jt_ln0_56, jt_ln0_57, jt_ln0_58, jt_ln0_59, jt_ln0_60, jt_ln0_61, jt_ln0_62, jt_ln0_63, jt_ln0_66, jt_ln0_67, jt_ln0_68, jt_ln0_69, jt_ln0_70, jt_ln0_71, jt_ln0_72, jt_ln0_73, jt_ln0_74, jt_ln0_75, jt_ln0_77, jt_ln0_78, jt_ln0_79, jt_ln0_80, jt_ln0_81, jt_ln0_82, jt_ln0_83, jt_ln0_84, jt_ln0_85, jt_ln0_86, jt_ln0_88, jt_ln0_90, jt_ln0_91, jt_ln0_93, jt_ln0_94, jt_ln0_95, jt_ln0_96, jt_ln0_98, jt_ln0_99, jt_ln0_100, hm, if_neg hc1, s1, m1, t1, Int.toNat_natCast, hb2, y1, hb3, z1, hb5, k1, hb7, r1]
    · simp -implicitDefEqProofs (disch := omega) only [jv_g0, jv_gs, jv_b, jv_bl, jv_bcT, jv_bcF, jv_bcD, jv_bcI, jv_bI, jv_bs0, jv_bs1, jv_bsI, jv_k, jv_l, jv_1, jv_1e, jv_2, jv_2ke, jv_2e, jv_d, jv_dke, jv_de, jv_gf, jv_gfe, jv_gr, jv_gre, jv_al, jv_alke, jv_ale, jv_aa, jv_aake, jv_aae, jv_ln, jv_lne, jv_as0, jv_as1, jv_aske, jv_asje, jv_cv, jv_cve, jv_cs, jv_cp, jv_cpke, jv_cpe, jv_cz, jv_cze, jv_tte, jv_ffe, jv_ca, jv_co, jv_cn, jv_lt, jv_le, jv_gt, jv_ge, jv_eq, jv_ne, jv_q, jv_sk, jv_s1, jv_s1e, jv_s2, jv_s2e, jv_ii, jv_pf, jv_pfke, jv_pfe, jv_pa, jv_pale, jv_pake, jv_paje, jv_paf20, jv_paf21, jv_paf22, jv_paf23, jv_fit1, jv_fit2, jv_fit0, jv_fit5, jv_of, jv_ofke, jv_ofje, jv_oa, jv_oale, jv_oake, jv_oaje, jv_ex, jv_exe, jv_sq, jv_if, jv_bk, jv_bke, jv_rv, jv_rve, jv_r0, jv_sw, jv_swe, jv_pk0, jv_pk1, jv_me, jv_oute, jv_outI, jt_ft0_10, jt_ft0_11, jt_ft0_12, jt_ft0_13, jt_ft0_14, jt_ft1_0, jt_ft2_3, jt_ft2_4, jt_ft2_5, jt_ft2_6, jt_ft3_0, jt_ft4_5, jt_ft4_6, jt_ft5_0, jt_ft5_1, jt_ft7_1, jt_ft7_2, jt_ft7_3, jt_ft7_4, jt_ft7_5, jt_ft7_6, jt_ft7_7, jt_ft8_0, jt_ft8_1, jt_ft8_2, jt_ft9_2, jt_ft10_15, jt_ft11_2, jt_ft11_3, jt_ft11_19, jt_ft11_20, jt_ft11_21, jt_ft11_22, jt_ft11_23, jt_ft11_24, jt_ft11_26, jt_ft11_28, jt_ft11_36, jt_ft11_38, jt_ft11_39, jt_ft11_40, js_u_same, js_u_other, jz_add, jz_sub, jz_mul, jz_div, jz_rem, jz_ladd, jz_lsub, jz_lmul, jz_ldiv, jz_lrem, jz_i2l, jz_l2i, List.set_cons_zero, List.set_cons_succ, Int.reduceToNat, Bool.and_true, Bool.true_and, Bool.and_eq_true, decide_eq_true_eq, if_true, if_false, reduceIte, Nat.reduceEqDiff, Nat.reduceSub, Nat.reduceAdd, Int.reduceLT, Int.reduceLE, Int.reduceNeg, Int.reduceEq, Int.reduceAdd, Int.reduceSub, Int.reduceMul, not_true_eq_false, not_false_eq_true, and_true, true_and, and_false, false_and, decide_true, decide_false, Nat.reduceEqDiff, reduceCtorEq, jv_tr0, jv_trs, jv_trn, jv_blI, jt_is0_0, jt_is0_1, jt_ia0_2, jt_is0_3, jt_ia0_4, jt_ia0_5, jt_ia0_6, jt_ia0_7, jt_ia0_8, jt_ia0_9, jt_is0_10, jt_ia0_11, jt_ia0_12, jt_ia0_13, jt_ia0_14, jt_ia0_15, jt_ia0_16, jt_is0_17, jt_ia0_18, jt_ia0_19, jt_ia0_20, jt_ia0_21, jt_ia0_22, jt_is0_23, jt_ia0_24, jt_ia0_25, jt_ia0_26, jt_ia0_27, jt_ia0_28, jt_is0_29, jt_is0_30, jt_is0_31, jt_ia0_32, jt_ia0_33, jt_ia0_34, jt_ia0_35, jt_ia0_36, jt_ia0_37, jt_ia0_38, jt_ia0_39, jt_ia0_40, jt_ia0_41, jt_is0_42, jt_ia0_43, jt_ia0_44, jt_ia0_45, jt_ia0_46, jt_ia0_47, jt_ia0_48, jt_ia0_49, jt_ia0_50, jt_ia0_51, jt_ia0_52, jt_is0_53, jt_ia0_54, jt_ia0_55, jt_ia0_56, jt_ia0_57, jt_ia0_58, jt_ia0_59, jt_ia0_60, jt_ia0_61, jt_ia0_62, jt_ia0_63, jt_is0_65, jt_ia0_66, jt_ia0_67, jt_ia0_68, jt_ia0_69, jt_ia0_70, jt_ia0_71, jt_ia0_72, jt_ia0_73, jt_ia0_74, jt_ia0_75, jt_is0_76, jt_ia0_77, jt_ia0_78, jt_ia0_79, jt_ia0_80, jt_ia0_81, jt_ia0_82, jt_ia0_83, jt_ia0_84, jt_ia0_85, jt_ia0_86, jt_is0_87, jt_ia0_88, jt_is0_89, jt_ia0_90, jt_ia0_91, jt_is0_92, jt_ia0_93, jt_ia0_94, jt_ia0_95, jt_ia0_96, jt_is0_97, jt_ia0_98, jt_ia0_99, jt_ia0_100, jt_rt0_0_0, jt_rt0_0_1, jt_rt0_0_2, jt_rt0_0_3, jt_rt0_0_4, jt_rt0_0_5, jt_rt0_0_6, jt_rt0_0_7, jt_rt0_0_8, jt_rt0_0_9, jt_rt0_0_10, jt_rt0_0_11, jt_rt0_0_12, jt_rt0_0_13, jt_rt0_0_14, jt_rt0_1_0, jt_rt0_3_3, jt_rt0_3_4, jt_rt0_3_5, jt_rt0_3_6, jt_rt0_3_7, jt_rt0_3_8, jt_rt0_10_3, jt_rt0_10_4, jt_rt0_10_5, jt_rt0_10_6, jt_rt0_10_7, jt_rt0_10_8, jt_rt0_17_1, jt_rt0_17_2, jt_rt0_17_3, jt_rt0_17_4, jt_rt0_17_5, jt_rt0_23_1, jt_rt0_23_2, jt_rt0_23_3, jt_rt0_23_4, jt_rt0_23_5, jt_rt0_30_0, jt_rt0_30_1, jt_rt0_30_2, jt_rt0_31_0, jt_rt0_31_1, jt_rt0_31_2, jt_rt0_31_3, jt_rt0_31_4, jt_rt0_31_5, jt_rt0_31_6, jt_rt0_31_7, jt_rt0_31_8, jt_rt0_31_9, jt_rt0_42_0, jt_rt0_42_1, jt_rt0_42_2, jt_rt0_42_3, jt_rt0_42_4, jt_rt0_42_5, jt_rt0_42_6, jt_rt0_42_7, jt_rt0_42_8, jt_rt0_42_9, jt_rt0_53_0, jt_rt0_53_1, jt_rt0_53_2, jt_rt0_53_3, jt_rt0_53_4, jt_rt0_53_5, jt_rt0_53_6, jt_rt0_53_7, jt_rt0_53_8, jt_rt0_53_9, jt_rt0_64_0, jt_rt0_64_1, jt_rt0_65_0, jt_rt0_65_1, jt_rt0_65_2, jt_rt0_65_3, jt_rt0_65_4, jt_rt0_65_5, jt_rt0_65_6, jt_rt0_65_7, jt_rt0_65_8, jt_rt0_65_9, jt_rt0_76_0, jt_rt0_76_1, jt_rt0_76_2, jt_rt0_76_3, jt_rt0_76_4, jt_rt0_76_5, jt_rt0_76_6, jt_rt0_76_7, jt_rt0_76_8, jt_rt0_76_9, jt_rt0_87_0, jt_rt0_87_1, jt_rt0_89_1, jt_rt0_89_2, jt_rt0_92_0, jt_rt0_92_1, jt_rt0_92_2, jt_rt0_92_3, jt_rt0_92_4, jt_rt0_97_0, jt_rt0_97_1, jt_rt0_97_2, jt_in0_2, jt_in0_4, jt_in0_5, jt_in0_6, jt_in0_7, jt_in0_8, jt_in0_9, jt_in0_11, jt_in0_12, jt_in0_13, jt_in0_14, jt_in0_15, jt_in0_16, jt_in0_18, jt_in0_19, jt_in0_20, jt_in0_21, jt_in0_22, jt_in0_24, jt_in0_25, jt_in0_26, jt_in0_27, jt_in0_28, jt_in0_32, jt_in0_33, jt_in0_34, jt_in0_35, jt_in0_36, jt_in0_37, jt_in0_38, jt_in0_39, jt_in0_40, jt_in0_41, jt_in0_43, jt_in0_44, jt_in0_45, jt_in0_46, jt_in0_47, jt_in0_48, jt_in0_49, jt_in0_50, jt_in0_51, jt_in0_52, jt_in0_54, jt_in0_55, jt_in0_56, jt_in0_57, jt_in0_58, jt_in0_59, jt_in0_60, jt_in0_61, jt_in0_62, jt_in0_63, jt_in0_64, jt_in0_66, jt_in0_67, jt_in0_68, jt_in0_69, jt_in0_70, jt_in0_71, jt_in0_72, jt_in0_73, jt_in0_74, jt_in0_75, jt_in0_77, jt_in0_78, jt_in0_79, jt_in0_80, jt_in0_81, jt_in0_82, jt_in0_83, jt_in0_84, jt_in0_85, jt_in0_86, jt_in0_88, jt_in0_90, jt_in0_91, jt_in0_93, jt_in0_94, jt_in0_95, jt_in0_96, jt_in0_98, jt_in0_99, jt_in0_100, jt_ln0_2, jt_ln0_4, jt_ln0_5, jt_ln0_6, jt_ln0_7, jt_ln0_8, jt_ln0_9, jt_ln0_11, jt_ln0_12, jt_ln0_13, jt_ln0_14, jt_ln0_15, jt_ln0_16, jt_ln0_18, jt_ln0_19, jt_ln0_20, jt_ln0_21, jt_ln0_22, jt_ln0_24, jt_ln0_25, jt_ln0_26, jt_ln0_27, jt_ln0_28, jt_ln0_32, jt_ln0_33, jt_ln0_34, jt_ln0_35, jt_ln0_36, jt_ln0_37, jt_ln0_38, jt_ln0_39, jt_ln0_40, jt_ln0_41, jt_ln0_43, jt_ln0_44, jt_ln0_45, jt_ln0_46, jt_ln0_47, jt_ln0_48, jt_ln0_49, jt_ln0_50, jt_ln0_51, jt_ln0_52, jt_ln0_54, jt_ln0_55, jt_ln0_56, jt_ln0_57, jt_ln0_58, jt_ln0_59, jt_ln0_60, jt_ln0_61, jt_ln0_62, jt_ln0_63, jt_ln0_66, jt_ln0_67, jt_ln0_68, jt_ln0_69, jt_ln0_70, jt_ln0_71, jt_ln0_72, jt_ln0_73, jt_ln0_74, jt_ln0_75, jt_ln0_77, jt_ln0_78, jt_ln0_79, jt_ln0_80, jt_ln0_81, jt_ln0_82, jt_ln0_83, jt_ln0_84, jt_ln0_85, jt_ln0_86, jt_ln0_88, jt_ln0_90, jt_ln0_91, jt_ln0_93, jt_ln0_94, jt_ln0_95, jt_ln0_96, jt_ln0_98, jt_ln0_99, jt_ln0_100, hm, if_neg hc1, s1, m1, t1, Int.toNat_natCast, hb2, y1, hb3, z1, hb5, k1, hb7, r1, r3, r4]
  by_cases fin : a8 1 6 = 0
  · rw [if_pos fin] at o1
    obtain ⟨q1, q2⟩ := o6 fin
    have q3 : a6 1 6 = 0 := by rw [← hb7, js_u_other (by omega)] at q1; exact q1
    obtain ⟨q4, q5, q6⟩ := k6 q3
    have q7 : a4 1 6 = 0 := by rw [← hb5, js_u_other (by omega)] at q4; exact q4
    obtain ⟨q8, q9, q10, q11, q12⟩ := z8 q7
    have q13 : a3 1 6 = 0 := by rw [← hb3, js_u_other (by omega)] at q8; exact q8
    obtain ⟨q14, q15, q16, q17, q18⟩ := y7 q13
    have q19 : a2 1 6 = 0 := by rw [← hb2, js_u_other (by omega)] at q14; exact q14
    obtain ⟨q20, q21, q22, q23, q24⟩ := t7 q19
    -- places of the class
    have A8 : ∀ k j, 23 ≤ k → ¬ ((24 ≤ k ∧ k ≤ 27) ∧ j = m) → a8 k j = a k j := fun k j x y => by
      rw [o4 k j (by omega), ← hb7, js_u_other (by omega), k4 k j (by omega), ← hb5, js_u_other (by omega), z5 k j (by omega), ← hb3, js_u_other (by omega), y4 k j (by omega), ← hb2, js_u_other (by omega), t4 k j (by omega), s3 k j (by omega)]
    have A24 : a8 24 m = v1 := by rw [o4 24 m (by omega), ← hb7, js_u_other (by omega), k4 24 m (by omega), ← hb5, js_u_other (by omega), z5 24 m (by omega), ← hb3, js_u_other (by omega), y4 24 m (by omega), ← hb2, js_u_same]
    have A25 : a8 25 m = v3 := by rw [o4 25 m (by omega), ← hb7, js_u_other (by omega), k4 25 m (by omega), ← hb5, js_u_other (by omega), z5 25 m (by omega), ← hb3, js_u_same]
    have A26 : a8 26 m = S := by rw [o4 26 m (by omega), ← hb7, js_u_other (by omega), k4 26 m (by omega), ← hb5, js_u_same]
    have A27 : a8 27 m = J := by rw [o4 27 m (by omega), ← hb7, js_u_same]
    have hb28 : ∀ k, k < m → 0 ≤ a8 28 k ∧ a8 28 k < 64 := fun k hk => by
      rw [A8 28 k (by omega) (by omega)]
      have hk' : (k : Int) < gC a 17 0 := by
        show (k : Int) < a 23 0
        omega
      exact (hR.2.2 k hk').2.2.2.2.2.2.2.2.1
    obtain ⟨a9, r1, r2, r3, r4⟩ := vC_settle (s := m) hm5 A26 q10 hb28
    have m9 : a9 23 0 = (m : Int) := by rw [r2 23 0 (by omega), A8 23 0 (by omega) (by omega)]; exact hm
    refine ⟨_, d7, c8, evC 1 a9 _ o1 (Or.inr ⟨rfl, r1, m9, rfl⟩), evM, o2, SY_w o3 (fun j => by rw [js_u_other (by omega)]; exact r2 1 j (by omega)) (fun j => by rw [js_u_other (by omega)]; exact r2 2 j (by omega)) (fun _ => rfl) (fun _ => rfl), fun k j x y => by rw [js_u_other (by omega), r2 k j (by omega), o4 k j x]; exact fV7 k j x y, fun k j x y z => (o5 k j x).trans (fW7 k j x y z), fun _ => ⟨?_, ?_⟩⟩
    · -- places of the reference
      have C8 : ∀ k j, 11 ≤ k → k ≤ 15 → j ≠ 6 + m → c8 k j = c k j := fun k j x y z => by
        rw [o5 k j (by omega), ← hd7, js_u_other (by omega), k5 k j (by omega) (by omega), ← hd5, js_u_other (by omega), js_u_other (by omega), z6 k j (by omega) (by omega), ← hd3, js_u_other (by omega), js_u_other (by omega), y5 k j (by omega), ← hd2, js_u_other (by omega), t5 k j (by omega)]
      have C11 : c8 11 (6 + m) = v1 := by
        rw [o5 11 _ (by omega), ← hd7, js_u_other (by omega), k5 11 _ (by omega) (by omega), ← hd5, js_u_other (by omega), js_u_other (by omega), z6 11 _ (by omega) (by omega), ← hd3, js_u_other (by omega), js_u_other (by omega), y5 11 _ (by omega), ← hd2, js_u_same]
        exact q21.symm
      have C12 : c8 12 (6 + m) = v3 := by
        rw [o5 12 _ (by omega), ← hd7, js_u_other (by omega), k5 12 _ (by omega) (by omega), ← hd5, js_u_other (by omega), js_u_other (by omega), z6 12 _ (by omega) (by omega), ← hd3, js_u_other (by omega), js_u_same]
        exact q15.symm
      have C13 : c8 13 (6 + m) = S := by
        rw [o5 13 _ (by omega), ← hd7, js_u_other (by omega), k5 13 _ (by omega) (by omega), ← hd5, js_u_other (by omega), js_u_other (by omega)]
        exact q9
      have C14 : c8 14 (6 + m) = c6 14 (6 + m) := by rw [o5 14 _ (by omega), ← hd7, js_u_other (by omega)]
      have C15 : c8 15 (6 + m) = c6 15 (6 + m) := by rw [o5 15 _ (by omega), ← hd7, js_u_other (by omega)]
      have C16 : c8 16 1 = (m : Int) + 1 := by rw [o5 16 1 (by omega), ← hd7, js_u_same]
      have L : ∀ k j, 24 ≤ k → k ≤ 27 → js_u a9 23 0 ((m : Int) + 1) k j = a8 k j := fun k j x y => by rw [js_u_other (by omega), r2 k j (by omega)]
      refine rLo_add (μ := gC a) (ν := gM c) (s := m) (K := v1) (A := v3) (X := S) (J := J) (jk := c6 14 (6 + m)) (jl := c6 15 (6 + m)) hR hm hm5 (by omega) (by omega) q10 q11 q6 ?_ ⟨?_, ?_, ?_, ?_⟩ (fun j hj => ⟨?_, ?_, ?_, ?_⟩) ?_ (fun j hj => ?_) C16 ⟨C11, C12, C13, C14, C15⟩ (fun j hj => ⟨C8 11 (6 + j) (by omega) (by omega) (by omega), C8 12 (6 + j) (by omega) (by omega) (by omega), C8 13 (6 + j) (by omega) (by omega) (by omega), C8 14 (6 + j) (by omega) (by omega) (by omega), C8 15 (6 + j) (by omega) (by omega) (by omega)⟩)
      · show js_u a9 23 0 ((m : Int) + 1) 23 0 = (m : Int) + 1
        exact js_u_same _ _ _ _
      · exact (L 24 m (by omega) (by omega)).trans A24
      · exact (L 25 m (by omega) (by omega)).trans A25
      · exact (L 26 m (by omega) (by omega)).trans A26
      · exact (L 27 m (by omega) (by omega)).trans A27
      · exact (L 24 j (by omega) (by omega)).trans (A8 24 j (by omega) (by omega))
      · exact (L 25 j (by omega) (by omega)).trans (A8 25 j (by omega) (by omega))
      · exact (L 26 j (by omega) (by omega)).trans (A8 26 j (by omega) (by omega))
      · exact (L 27 j (by omega) (by omega)).trans (A8 27 j (by omega) (by omega))
      · show js_u a9 23 0 ((m : Int) + 1) 28 m = S
        rw [js_u_other (by omega)]
        exact r3
      · show js_u a9 23 0 ((m : Int) + 1) 28 j = if jb S j = true then jset (a 28 j) (m : Int) else a 28 j
        rw [js_u_other (by omega), r4 j hj, A8 28 j (by omega) (by omega)]
    · have i1 : d2 0 20 = c2 0 20 := by rw [← hd2, js_u_other (by omega)]
      have i2 : d3 0 20 = c3 0 20 := by rw [← hd3, js_u_other (by omega), js_u_other (by omega)]
      have i3 : d5 0 20 = c5 0 20 := by rw [← hd5, js_u_other (by omega), js_u_other (by omega)]
      have i4 : d7 0 20 = c6 0 20 := by rw [← hd7, js_u_other (by omega)]
      omega
  · rw [if_neg fin] at o1
    exact ⟨a8, d7, c8, evC 0 a8 a8 o1 (Or.inl ⟨rfl, rfl⟩), evM, o2, o3, fun k j x y => (o4 k j x).trans (fV7 k j x y), fun k j x y z => (o5 k j x).trans (fW7 k j x y z), fun e => absurd e fin⟩
end
