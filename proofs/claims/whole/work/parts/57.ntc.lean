section
/-- the telling of p changes -/
theorem rCo_te {o x p : Nat} {T : Int} {μ ν ν' : js_Mm} (ho : 17 < o) (h : rCo o x μ ν) (hT : 0 ≤ T ∧ T < 64) (hh : ∀ t : Nat, t < 6 → jb T t = true → jb (μ (o + 1) p) t = true)
    (hv : ∀ t : Nat, t < 6 → ν' 1 (x + (6 * p + t)) = (if jb (μ (o + 1) p) t = true then (if jb T t = true then 1 else 2) else 0))
    (hf : ∀ j, j < 867 → (j < 6 * p ∨ 6 * p + 6 ≤ j) → ν' 1 (x + j) = ν 1 (x + j)) (hp : p < 24) : rCo o x (js_u μ (o + 2) p T) ν' := by
  obtain ⟨c1, c2, c3, c4, c5, c6, rk, c7⟩ := h
  have mv : ∀ k j, k ≠ o + 2 → js_u μ (o + 2) p T k j = μ k j := fun k j hk => js_u_other (by omega)
  refine ⟨fun q hq => ?_, fun q s hq hs => ?_, ?_, ?_, ?_, ?_, rk, fun q s hq hs hb => ?_⟩
  · rw [mv _ _ (by omega)]
    refine ⟨(c1 q hq).1, ?_⟩
    by_cases e : q = p
    · subst e; rw [js_u_same]; exact hT
    · rw [js_u_other (by omega)]; exact (c1 q hq).2
  · have hc := c2 q s hq hs
    unfold rCe at *
    rw [mv (o + 1) q (by omega), mv (o + 3) _ (by omega), mv (o + 4) _ (by omega), mv (o + 5) _ (by omega), mv (o + 6) _ (by omega), mv (o + 7) _ (by omega), mv 3 0 (by omega), mv 17 0 (by omega)]
    have f1 : ∀ d, 24 ≤ d → d + (6 * q + s) < 867 → 144 ≤ d → ν' 1 (x + d + (6 * q + s)) = ν 1 (x + d + (6 * q + s)) := fun d _ h2 h3 => by
      rw [Nat.add_assoc]; exact hf _ h2 (by omega)
    rw [f1 144 (by omega) (by omega) (by omega), f1 720 (by omega) (by omega) (by omega), f1 288 (by omega) (by omega) (by omega), f1 432 (by omega) (by omega) (by omega), f1 576 (by omega) (by omega) (by omega)]
    refine ⟨?_, ?_, hc.2.2.1, hc.2.2.2.1, hc.2.2.2.2.1, hc.2.2.2.2.2.1, fun r hr => ?_⟩
    · by_cases e : q = p
      · subst e; rw [js_u_same]; exact hv s hs
      · rw [js_u_other (by omega), hf _ (by omega) (by omega)]; exact hc.1
    · by_cases e : q = p
      · subst e; rw [js_u_same]; exact hh s hs
      · rw [js_u_other (by omega)]; exact hc.2.1
    · rw [mv _ _ (by omega)]; exact hc.2.2.2.2.2.2 r hr
  · rw [mv _ _ (by omega), hf _ (by omega) (by omega)]; exact c3
  · rw [mv _ _ (by omega), hf _ (by omega) (by omega)]; exact c4
  · rw [mv _ _ (by omega), hf _ (by omega) (by omega)]; exact c5
  · rw [mv _ _ (by omega)]; exact c6
  · rw [mv _ _ (by omega)] at hb
    rw [hCn_mv (o := o) (o' := o) (fun p _ => mv _ _ (by omega)) 144 (by omega), mv _ _ (by omega), mv _ _ (by omega), mv _ _ (by omega)]
    exact c7 q s hq hs hb
/-- what the reference's notice sets to 2 -/
def brM (x p : Nat) (B : Int) (ν : js_Mm) : Nat → js_Mm
  | 0 => ν
  | k + 1 => if 0 < brM x p B ν k 1 (x + (6 * p + k)) ∧ jb B k = true then js_u (brM x p B ν k) 1 (x + (6 * p + k)) 2 else brM x p B ν k
theorem brM_o {x p : Nat} {B : Int} {ν : js_Mm} {c j : Nat} : ∀ k, (c ≠ 1 ∨ j < x + 6 * p ∨ x + 6 * p + k ≤ j) → brM x p B ν k c j = ν c j
  | 0, _ => rfl
  | k + 1, h => by
    unfold brM
    by_cases q : 0 < brM x p B ν k 1 (x + (6 * p + k)) ∧ jb B k = true
    · rw [if_pos q, js_u_other (by omega)]; exact brM_o k (by omega)
    · rw [if_neg q]; exact brM_o k (by omega)
theorem brM_v {x p : Nat} {B : Int} {ν : js_Mm} {t : Nat} : ∀ k, t < k → brM x p B ν k 1 (x + (6 * p + t)) = if 0 < ν 1 (x + (6 * p + t)) ∧ jb B t = true then 2 else ν 1 (x + (6 * p + t))
  | 0, h => by omega
  | k + 1, h => by
    unfold brM
    rw [brM_o (c := 1) (j := x + (6 * p + k)) k (by omega)]
    by_cases e : t = k
    · subst e
      by_cases q : 0 < ν 1 (x + (6 * p + t)) ∧ jb B t = true
      · rw [if_pos q, js_u_same, if_pos q]
      · rw [if_neg q, brM_o _ (by omega), if_neg q]
    · have ih := brM_v (x := x) (p := p) (B := B) (ν := ν) (t := t) k (by omega)
      by_cases q : 0 < ν 1 (x + (6 * p + k)) ∧ jb B k = true
      · rw [if_pos q, js_u_other (by omega)]; exact ih
      · rw [if_neg q]; exact ih
theorem vM_isBarred {t s : Nat} (w : js_Mm) (ht : t < 6) (hs : s < 6) (h1 : 0 ≤ w 13 t ∧ w 13 t < 64) (h2 : 0 ≤ w 13 s ∧ w 13 s < 64) : f_X11_isBarred [0, (t : Int), (s : Int)] w = some (if (jb (w 13 t) s || jb (w 13 s) t) = true then 1 else 0, w) := by
  have e1 := vM_has (x := w 13 t) (k := (s : Int)) w (by omega) (by omega)
  have e2 := vM_has (x := w 13 s) (k := (t : Int)) w (by omega) (by omega)
  rw [fe_X11_isBarred]; simp -implicitDefEqProofs (disch := omega) only [jv_g0, jv_gs, jv_b, jv_bl, jv_bcT, jv_bcF, jv_bcD, jv_bcI, jv_bI, jv_bs0, jv_bs1, jv_bsI, jv_k, jv_l, jv_1, jv_1e, jv_2, jv_2ke, jv_2e, jv_d, jv_dke, jv_de, jv_gf, jv_gfe, jv_gr, jv_gre, jv_al, jv_alke, jv_ale, jv_aa, jv_aake, jv_aae, jv_ln, jv_lne, jv_as0, jv_as1, jv_aske, jv_asje, jv_cv, jv_cve, jv_cs, jv_cp, jv_cpke, jv_cpe, jv_cz, jv_cze, jv_tte, jv_ffe, jv_ca, jv_co, jv_cn, jv_lt, jv_le, jv_gt, jv_ge, jv_eq, jv_ne, jv_q, jv_sk, jv_s1, jv_s1e, jv_s2, jv_s2e, jv_ii, jv_pf, jv_pfke, jv_pfe, jv_pa, jv_pale, jv_pake, jv_paje, jv_paf20, jv_paf21, jv_paf22, jv_paf23, jv_fit1, jv_fit2, jv_fit0, jv_fit5, jv_of, jv_ofke, jv_ofje, jv_oa, jv_oale, jv_oake, jv_oaje, jv_ex, jv_exe, jv_sq, jv_if, jv_bk, jv_bke, jv_rv, jv_rve, jv_r0, jv_sw, jv_swe, jv_pk0, jv_pk1, jv_me, jv_oute, jv_outI, jt_ft0_10, jt_ft0_11, jt_ft0_12, jt_ft0_13, jt_ft0_14, jt_ft1_0, jt_ft2_3, jt_ft2_4, jt_ft2_5, jt_ft2_6, jt_ft3_0, jt_ft4_5, jt_ft4_6, jt_ft5_0, jt_ft5_1, jt_ft7_1, jt_ft7_2, jt_ft7_3, jt_ft7_4, jt_ft7_5, jt_ft7_6, jt_ft7_7, jt_ft8_0, jt_ft8_1, jt_ft8_2, jt_ft9_2, jt_ft10_15, jt_ft11_2, jt_ft11_3, jt_ft11_19, jt_ft11_20, jt_ft11_21, jt_ft11_22, jt_ft11_23, jt_ft11_24, jt_ft11_26, jt_ft11_28, jt_ft11_36, jt_ft11_38, jt_ft11_39, jt_ft11_40, js_u_same, js_u_other, jz_add, jz_sub, jz_mul, jz_div, jz_rem, jz_ladd, jz_lsub, jz_lmul, jz_ldiv, jz_lrem, jz_i2l, jz_l2i, List.set_cons_zero, List.set_cons_succ, Int.reduceToNat, Bool.and_true, Bool.true_and, Bool.and_eq_true, decide_eq_true_eq, if_true, if_false, reduceIte, Nat.reduceEqDiff, Nat.reduceSub, Nat.reduceAdd, Int.reduceLT, Int.reduceLE, Int.reduceNeg, Int.reduceEq, Int.reduceAdd, Int.reduceSub, Int.reduceMul, not_true_eq_false, not_false_eq_true, and_true, true_and, and_false, false_and, decide_true, decide_false, Nat.reduceEqDiff, reduceCtorEq, jv_tr0, jv_trs, jv_trn, jv_blI, jt_is1_0, jt_ia1_1, jt_ia1_2, jt_ia1_3, jt_ia1_4, jt_ia1_5, jt_ia1_6, jt_ia1_7, jt_ia1_8, jt_ia1_9, jt_ia1_10, jt_ia1_11, jt_ia1_12, jt_ia1_13, jt_ia1_14, jt_ia1_15, jt_ia1_16, jt_ia1_17, jt_ia1_18, jt_ia1_19, jt_ia1_20, jt_ia1_21, jt_ia1_22, jt_ia1_23, jt_ia1_24, jt_ia1_25, jt_ia1_26, jt_ia1_27, jt_rt1_0_0, jt_rt1_0_1, jt_rt1_0_4, jt_rt1_0_5, jt_rt1_0_6, jt_rt1_0_7, jt_rt1_0_8, jt_rt1_0_9, jt_rt1_0_10, jt_rt1_0_11, jt_rt1_0_12, jt_rt1_0_13, jt_rt1_0_14, jt_rt1_0_15, jt_rt1_0_16, jt_rt1_0_17, jt_rt1_0_18, jt_rt1_0_25, jt_rt1_0_27, jt_rt1_0_29, jt_rt1_0_30, jt_rt1_0_31, jt_rt1_0_32, jt_rt1_0_33, jt_rt1_0_34, jt_rt1_0_35, jt_rt1_0_37, jt_in1_1, jt_in1_2, jt_in1_3, jt_in1_4, jt_in1_5, jt_in1_6, jt_in1_7, jt_in1_8, jt_in1_9, jt_in1_10, jt_in1_11, jt_in1_12, jt_in1_13, jt_in1_14, jt_in1_15, jt_in1_16, jt_in1_17, jt_in1_18, jt_in1_19, jt_in1_20, jt_in1_21, jt_in1_22, jt_in1_23, jt_in1_24, jt_in1_25, jt_in1_26, jt_in1_27, jt_ln1_1, jt_ln1_2, jt_ln1_3, jt_ln1_4, jt_ln1_5, jt_ln1_6, jt_ln1_7, jt_ln1_8, jt_ln1_9, jt_ln1_10, jt_ln1_11, jt_ln1_12, jt_ln1_13, jt_ln1_14, jt_ln1_15, jt_ln1_16, jt_ln1_17, jt_ln1_18, jt_ln1_19, jt_ln1_20, jt_ln1_21, jt_ln1_22, jt_ln1_23, jt_ln1_24, jt_ln1_25, jt_ln1_26, jt_ln1_27, Int.toNat_natCast, e1, e2]
  by_cases b1 : jb (w 13 t) s = true <;> by_cases b2 : jb (w 13 s) t = true <;> simp [b1, b2]
/-- what goes on in a course: what stays -/
def fC (o : Nat) (μ μ' : js_Mm) : Prop := ∀ k j, (k < o ∨ o + 7 < k ∨ (k = o ∧ (j < 12 ∨ 13 < j))) → μ' k j = μ k j
/-- the same, the tick aside -/
def fK (o : Nat) (μ μ' : js_Mm) : Prop := ∀ k j, (k < o ∨ o + 7 < k ∨ (k = o ∧ (j < 11 ∨ 13 < j))) → μ' k j = μ k j
theorem fC_K {o : Nat} {μ μ' : js_Mm} (h : fC o μ μ') : fK o μ μ' := fun k j hk => h k j (by omega)
theorem fK_tr {o : Nat} {a b c : js_Mm} (h1 : fK o a b) (h2 : fK o b c) : fK o a c := fun k j h => by rw [h2 k j h, h1 k j h]
def fM (x : Nat) (ν ν' : js_Mm) : Prop := ∀ k j, (k ≠ 1 ∨ j < x ∨ x + 867 ≤ j) → ν' k j = ν k j
/-- the town and the sayings: what a course goes on in -/
def TT (μ ν : js_Mm) : Prop := rRu μ ν ∧ rPe μ ν ∧ rTi μ ν ∧ rLo μ ν
theorem TT_mk {o x : Nat} {μ μ' ν ν' : js_Mm} (ho : 30 < o) (h1 : fK o μ μ') (h2 : fM x ν ν') (h : TT μ ν) : TT μ' ν' := by
  obtain ⟨g1, g2, g3, g4⟩ := h
  exact ⟨rRu_ob ⟨h1 _ _ (by omega), h1 _ _ (by omega), h1 _ _ (by omega)⟩ ⟨h2 _ _ (by omega), h2 _ _ (by omega), h2 _ _ (by omega)⟩ g1,
    rPe_ob (fun k j _ _ => h1 _ _ (by omega)) ⟨h2 _ _ (by omega), fun j _ => ⟨h2 _ _ (by omega), h2 _ _ (by omega), h2 _ _ (by omega)⟩⟩ g2,
    rTi_ob (fun k j _ _ => h1 _ _ (by omega)) (h2 _ _ (by omega)) (fun j _ => ⟨h2 _ _ (by omega), h2 _ _ (by omega), h2 _ _ (by omega)⟩) g3,
    rLo_ob (fun k j _ _ => h1 _ _ (by omega)) ⟨h2 _ _ (by omega), fun k j _ _ _ => h2 _ _ (by omega)⟩ g4⟩
theorem TT_mv {o x : Nat} {μ μ' ν ν' : js_Mm} (ho : 30 < o) (h1 : fC o μ μ') (h2 : fM x ν ν') (h : TT μ ν) : TT μ' ν' := TT_mk ho (fC_K h1) h2 h
theorem fC_tr {o : Nat} {a b c : js_Mm} (h1 : fC o a b) (h2 : fC o b c) : fC o a c := fun k j h => by rw [h2 k j h, h1 k j h]
theorem fM_tr {x : Nat} {a b c : js_Mm} (h1 : fM x a b) (h2 : fM x b c) : fM x a c := fun k j h => by rw [h2 k j h, h1 k j h]
theorem coN_30 {o : Nat} (h : coN o) : 30 < o := by unfold coN at h; omega
/-- the bars step -/
theorem vM_bars {x p s : Nat} {B : Int} {ρ0 : js_Ev} {pl b came : Int} (w : js_Mm) (hx : x ≤ 3000) (hp : p < 24) (hs : (s : Int) < w 16 0) (hm : 0 ≤ w 16 0 ∧ w 16 0 ≤ 6) (hb : ∀ t : Nat, (t : Int) < w 16 0 → 0 ≤ w 13 t ∧ w 13 t < 64) (hB : ∀ t : Nat, (t : Int) < w 16 0 → jb B t = (jb (w 13 t) s || jb (w 13 s) t)) :
    ∃ j : Int, js_wh lc_X11_hang_1 lb_X11_hang_1 [(3, 0), (1, (x : Int)), (1, pl), (1, (s : Int)), (1, b), (1, came), (1, (p : Int)), (1, 0)] w = some (none, [(3, 0), (1, (x : Int)), (1, pl), (1, (s : Int)), (1, b), (1, came), (1, (p : Int)), (1, j)], brM x p B w (w 16 0).toNat) := by
  have st : ∀ k, brM x p B w k 16 0 = w 16 0 := fun k => brM_o k (by omega)
  have st13 : ∀ k j, brM x p B w k 13 j = w 13 j := fun k j => brM_o k (by omega)
  have key := jv_for (c := lc_X11_hang_1) (b := lb_X11_hang_1) (w 16 0).toNat (fun i => ([(3, 0), (1, (x : Int)), (1, pl), (1, (s : Int)), (1, b), (1, came), (1, (p : Int)), (1, (i : Int))], brM x p B w i)) (by omega) (fun i hi => ⟨brM x p B w i, by
      unfold lc_X11_hang_1
      have := st i
      simp -implicitDefEqProofs (disch := omega) only [jv_g0, jv_gs, jv_b, jv_bl, jv_bcT, jv_bcF, jv_bcD, jv_bcI, jv_bI, jv_bs0, jv_bs1, jv_bsI, jv_k, jv_l, jv_1, jv_1e, jv_2, jv_2ke, jv_2e, jv_d, jv_dke, jv_de, jv_gf, jv_gfe, jv_gr, jv_gre, jv_al, jv_alke, jv_ale, jv_aa, jv_aake, jv_aae, jv_ln, jv_lne, jv_as0, jv_as1, jv_aske, jv_asje, jv_cv, jv_cve, jv_cs, jv_cp, jv_cpke, jv_cpe, jv_cz, jv_cze, jv_tte, jv_ffe, jv_ca, jv_co, jv_cn, jv_lt, jv_le, jv_gt, jv_ge, jv_eq, jv_ne, jv_q, jv_sk, jv_s1, jv_s1e, jv_s2, jv_s2e, jv_ii, jv_pf, jv_pfke, jv_pfe, jv_pa, jv_pale, jv_pake, jv_paje, jv_paf20, jv_paf21, jv_paf22, jv_paf23, jv_fit1, jv_fit2, jv_fit0, jv_fit5, jv_of, jv_ofke, jv_ofje, jv_oa, jv_oale, jv_oake, jv_oaje, jv_ex, jv_exe, jv_sq, jv_if, jv_bk, jv_bke, jv_rv, jv_rve, jv_r0, jv_sw, jv_swe, jv_pk0, jv_pk1, jv_me, jv_oute, jv_outI, jt_ft0_10, jt_ft0_11, jt_ft0_12, jt_ft0_13, jt_ft0_14, jt_ft1_0, jt_ft2_3, jt_ft2_4, jt_ft2_5, jt_ft2_6, jt_ft3_0, jt_ft4_5, jt_ft4_6, jt_ft5_0, jt_ft5_1, jt_ft7_1, jt_ft7_2, jt_ft7_3, jt_ft7_4, jt_ft7_5, jt_ft7_6, jt_ft7_7, jt_ft8_0, jt_ft8_1, jt_ft8_2, jt_ft9_2, jt_ft10_15, jt_ft11_2, jt_ft11_3, jt_ft11_19, jt_ft11_20, jt_ft11_21, jt_ft11_22, jt_ft11_23, jt_ft11_24, jt_ft11_26, jt_ft11_28, jt_ft11_36, jt_ft11_38, jt_ft11_39, jt_ft11_40, js_u_same, js_u_other, jz_add, jz_sub, jz_mul, jz_div, jz_rem, jz_ladd, jz_lsub, jz_lmul, jz_ldiv, jz_lrem, jz_i2l, jz_l2i, List.set_cons_zero, List.set_cons_succ, Int.reduceToNat, Bool.and_true, Bool.true_and, Bool.and_eq_true, decide_eq_true_eq, if_true, if_false, reduceIte, Nat.reduceEqDiff, Nat.reduceSub, Nat.reduceAdd, Int.reduceLT, Int.reduceLE, Int.reduceNeg, Int.reduceEq, Int.reduceAdd, Int.reduceSub, Int.reduceMul, not_true_eq_false, not_false_eq_true, and_true, true_and, and_false, false_and, decide_true, decide_false, Nat.reduceEqDiff, reduceCtorEq, jv_tr0, jv_trs, jv_trn, jv_blI, jt_is1_0, jt_ia1_1, jt_ia1_2, jt_ia1_3, jt_ia1_4, jt_ia1_5, jt_ia1_6, jt_ia1_7, jt_ia1_8, jt_ia1_9, jt_ia1_10, jt_ia1_11, jt_ia1_12, jt_ia1_13, jt_ia1_14, jt_ia1_15, jt_ia1_16, jt_ia1_17, jt_ia1_18, jt_ia1_19, jt_ia1_20, jt_ia1_21, jt_ia1_22, jt_ia1_23, jt_ia1_24, jt_ia1_25, jt_ia1_26, jt_ia1_27, jt_rt1_0_0, jt_rt1_0_1, jt_rt1_0_4, jt_rt1_0_5, jt_rt1_0_6, jt_rt1_0_7, jt_rt1_0_8, jt_rt1_0_9, jt_rt1_0_10, jt_rt1_0_11, jt_rt1_0_12, jt_rt1_0_13, jt_rt1_0_14, jt_rt1_0_15, jt_rt1_0_16, jt_rt1_0_17, jt_rt1_0_18, jt_rt1_0_25, jt_rt1_0_27, jt_rt1_0_29, jt_rt1_0_30, jt_rt1_0_31, jt_rt1_0_32, jt_rt1_0_33, jt_rt1_0_34, jt_rt1_0_35, jt_rt1_0_37, jt_in1_1, jt_in1_2, jt_in1_3, jt_in1_4, jt_in1_5, jt_in1_6, jt_in1_7, jt_in1_8, jt_in1_9, jt_in1_10, jt_in1_11, jt_in1_12, jt_in1_13, jt_in1_14, jt_in1_15, jt_in1_16, jt_in1_17, jt_in1_18, jt_in1_19, jt_in1_20, jt_in1_21, jt_in1_22, jt_in1_23, jt_in1_24, jt_in1_25, jt_in1_26, jt_in1_27, jt_ln1_1, jt_ln1_2, jt_ln1_3, jt_ln1_4, jt_ln1_5, jt_ln1_6, jt_ln1_7, jt_ln1_8, jt_ln1_9, jt_ln1_10, jt_ln1_11, jt_ln1_12, jt_ln1_13, jt_ln1_14, jt_ln1_15, jt_ln1_16, jt_ln1_17, jt_ln1_18, jt_ln1_19, jt_ln1_20, jt_ln1_21, jt_ln1_22, jt_ln1_23, jt_ln1_24, jt_ln1_25, jt_ln1_26, jt_ln1_27, this]
      rw [decide_eq_true (by omega)], by
      have e1 := vM_isHeld (x := x) (p := p) (s := i) (brM x p B w i) hx hp (by omega)
      have hbi := hb i (by omega)
      have hbs := hb s hs
      have e2 := vM_isBarred (t := i) (s := s) (brM x p B w i) (by omega) (by omega) (by rw [st13]; exact hbi) (by rw [st13]; exact hbs)
      rw [st13, st13, ← hB i (by omega)] at e2
      have e3 : ((x : Int) + 0 + ((6 * p + i : Nat) : Int)).toNat = x + (6 * p + i) := by omega
      unfold lb_X11_hang_1
      simp -implicitDefEqProofs (disch := omega) only [jv_g0, jv_gs, jv_b, jv_bl, jv_bcT, jv_bcF, jv_bcD, jv_bcI, jv_bI, jv_bs0, jv_bs1, jv_bsI, jv_k, jv_l, jv_1, jv_1e, jv_2, jv_2ke, jv_2e, jv_d, jv_dke, jv_de, jv_gf, jv_gfe, jv_gr, jv_gre, jv_al, jv_alke, jv_ale, jv_aa, jv_aake, jv_aae, jv_ln, jv_lne, jv_as0, jv_as1, jv_aske, jv_asje, jv_cv, jv_cve, jv_cs, jv_cp, jv_cpke, jv_cpe, jv_cz, jv_cze, jv_tte, jv_ffe, jv_ca, jv_co, jv_cn, jv_lt, jv_le, jv_gt, jv_ge, jv_eq, jv_ne, jv_q, jv_sk, jv_s1, jv_s1e, jv_s2, jv_s2e, jv_ii, jv_pf, jv_pfke, jv_pfe, jv_pa, jv_pale, jv_pake, jv_paje, jv_paf20, jv_paf21, jv_paf22, jv_paf23, jv_fit1, jv_fit2, jv_fit0, jv_fit5, jv_of, jv_ofke, jv_ofje, jv_oa, jv_oale, jv_oake, jv_oaje, jv_ex, jv_exe, jv_sq, jv_if, jv_bk, jv_bke, jv_rv, jv_rve, jv_r0, jv_sw, jv_swe, jv_pk0, jv_pk1, jv_me, jv_oute, jv_outI, jt_ft0_10, jt_ft0_11, jt_ft0_12, jt_ft0_13, jt_ft0_14, jt_ft1_0, jt_ft2_3, jt_ft2_4, jt_ft2_5, jt_ft2_6, jt_ft3_0, jt_ft4_5, jt_ft4_6, jt_ft5_0, jt_ft5_1, jt_ft7_1, jt_ft7_2, jt_ft7_3, jt_ft7_4, jt_ft7_5, jt_ft7_6, jt_ft7_7, jt_ft8_0, jt_ft8_1, jt_ft8_2, jt_ft9_2, jt_ft10_15, jt_ft11_2, jt_ft11_3, jt_ft11_19, jt_ft11_20, jt_ft11_21, jt_ft11_22, jt_ft11_23, jt_ft11_24, jt_ft11_26, jt_ft11_28, jt_ft11_36, jt_ft11_38, jt_ft11_39, jt_ft11_40, js_u_same, js_u_other, jz_add, jz_sub, jz_mul, jz_div, jz_rem, jz_ladd, jz_lsub, jz_lmul, jz_ldiv, jz_lrem, jz_i2l, jz_l2i, List.set_cons_zero, List.set_cons_succ, Int.reduceToNat, Bool.and_true, Bool.true_and, Bool.and_eq_true, decide_eq_true_eq, if_true, if_false, reduceIte, Nat.reduceEqDiff, Nat.reduceSub, Nat.reduceAdd, Int.reduceLT, Int.reduceLE, Int.reduceNeg, Int.reduceEq, Int.reduceAdd, Int.reduceSub, Int.reduceMul, not_true_eq_false, not_false_eq_true, and_true, true_and, and_false, false_and, decide_true, decide_false, Nat.reduceEqDiff, reduceCtorEq, jv_tr0, jv_trs, jv_trn, jv_blI, jt_is1_0, jt_ia1_1, jt_ia1_2, jt_ia1_3, jt_ia1_4, jt_ia1_5, jt_ia1_6, jt_ia1_7, jt_ia1_8, jt_ia1_9, jt_ia1_10, jt_ia1_11, jt_ia1_12, jt_ia1_13, jt_ia1_14, jt_ia1_15, jt_ia1_16, jt_ia1_17, jt_ia1_18, jt_ia1_19, jt_ia1_20, jt_ia1_21, jt_ia1_22, jt_ia1_23, jt_ia1_24, jt_ia1_25, jt_ia1_26, jt_ia1_27, jt_rt1_0_0, jt_rt1_0_1, jt_rt1_0_4, jt_rt1_0_5, jt_rt1_0_6, jt_rt1_0_7, jt_rt1_0_8, jt_rt1_0_9, jt_rt1_0_10, jt_rt1_0_11, jt_rt1_0_12, jt_rt1_0_13, jt_rt1_0_14, jt_rt1_0_15, jt_rt1_0_16, jt_rt1_0_17, jt_rt1_0_18, jt_rt1_0_25, jt_rt1_0_27, jt_rt1_0_29, jt_rt1_0_30, jt_rt1_0_31, jt_rt1_0_32, jt_rt1_0_33, jt_rt1_0_34, jt_rt1_0_35, jt_rt1_0_37, jt_in1_1, jt_in1_2, jt_in1_3, jt_in1_4, jt_in1_5, jt_in1_6, jt_in1_7, jt_in1_8, jt_in1_9, jt_in1_10, jt_in1_11, jt_in1_12, jt_in1_13, jt_in1_14, jt_in1_15, jt_in1_16, jt_in1_17, jt_in1_18, jt_in1_19, jt_in1_20, jt_in1_21, jt_in1_22, jt_in1_23, jt_in1_24, jt_in1_25, jt_in1_26, jt_in1_27, jt_ln1_1, jt_ln1_2, jt_ln1_3, jt_ln1_4, jt_ln1_5, jt_ln1_6, jt_ln1_7, jt_ln1_8, jt_ln1_9, jt_ln1_10, jt_ln1_11, jt_ln1_12, jt_ln1_13, jt_ln1_14, jt_ln1_15, jt_ln1_16, jt_ln1_17, jt_ln1_18, jt_ln1_19, jt_ln1_20, jt_ln1_21, jt_ln1_22, jt_ln1_23, jt_ln1_24, jt_ln1_25, jt_ln1_26, jt_ln1_27, e1, e2, vM_cell, e3]
      by_cases q1 : 0 < brM x p B w i 1 (x + (6 * p + i))
      · by_cases q2 : jb B i = true
        · simp [q1, q2, brM]
        · simp [q1, q2, brM]
      · simp [q1, brM]⟩) ⟨_, by
      unfold lc_X11_hang_1
      have := st (w 16 0).toNat
      simp -implicitDefEqProofs (disch := omega) only [jv_g0, jv_gs, jv_b, jv_bl, jv_bcT, jv_bcF, jv_bcD, jv_bcI, jv_bI, jv_bs0, jv_bs1, jv_bsI, jv_k, jv_l, jv_1, jv_1e, jv_2, jv_2ke, jv_2e, jv_d, jv_dke, jv_de, jv_gf, jv_gfe, jv_gr, jv_gre, jv_al, jv_alke, jv_ale, jv_aa, jv_aake, jv_aae, jv_ln, jv_lne, jv_as0, jv_as1, jv_aske, jv_asje, jv_cv, jv_cve, jv_cs, jv_cp, jv_cpke, jv_cpe, jv_cz, jv_cze, jv_tte, jv_ffe, jv_ca, jv_co, jv_cn, jv_lt, jv_le, jv_gt, jv_ge, jv_eq, jv_ne, jv_q, jv_sk, jv_s1, jv_s1e, jv_s2, jv_s2e, jv_ii, jv_pf, jv_pfke, jv_pfe, jv_pa, jv_pale, jv_pake, jv_paje, jv_paf20, jv_paf21, jv_paf22, jv_paf23, jv_fit1, jv_fit2, jv_fit0, jv_fit5, jv_of, jv_ofke, jv_ofje, jv_oa, jv_oale, jv_oake, jv_oaje, jv_ex, jv_exe, jv_sq, jv_if, jv_bk, jv_bke, jv_rv, jv_rve, jv_r0, jv_sw, jv_swe, jv_pk0, jv_pk1, jv_me, jv_oute, jv_outI, jt_ft0_10, jt_ft0_11, jt_ft0_12, jt_ft0_13, jt_ft0_14, jt_ft1_0, jt_ft2_3, jt_ft2_4, jt_ft2_5, jt_ft2_6, jt_ft3_0, jt_ft4_5, jt_ft4_6, jt_ft5_0, jt_ft5_1, jt_ft7_1, jt_ft7_2, jt_ft7_3, jt_ft7_4, jt_ft7_5, jt_ft7_6, jt_ft7_7, jt_ft8_0, jt_ft8_1, jt_ft8_2, jt_ft9_2, jt_ft10_15, jt_ft11_2, jt_ft11_3, jt_ft11_19, jt_ft11_20, jt_ft11_21, jt_ft11_22, jt_ft11_23, jt_ft11_24, jt_ft11_26, jt_ft11_28, jt_ft11_36, jt_ft11_38, jt_ft11_39, jt_ft11_40, js_u_same, js_u_other, jz_add, jz_sub, jz_mul, jz_div, jz_rem, jz_ladd, jz_lsub, jz_lmul, jz_ldiv, jz_lrem, jz_i2l, jz_l2i, List.set_cons_zero, List.set_cons_succ, Int.reduceToNat, Bool.and_true, Bool.true_and, Bool.and_eq_true, decide_eq_true_eq, if_true, if_false, reduceIte, Nat.reduceEqDiff, Nat.reduceSub, Nat.reduceAdd, Int.reduceLT, Int.reduceLE, Int.reduceNeg, Int.reduceEq, Int.reduceAdd, Int.reduceSub, Int.reduceMul, not_true_eq_false, not_false_eq_true, and_true, true_and, and_false, false_and, decide_true, decide_false, Nat.reduceEqDiff, reduceCtorEq, jv_tr0, jv_trs, jv_trn, jv_blI, jt_is1_0, jt_ia1_1, jt_ia1_2, jt_ia1_3, jt_ia1_4, jt_ia1_5, jt_ia1_6, jt_ia1_7, jt_ia1_8, jt_ia1_9, jt_ia1_10, jt_ia1_11, jt_ia1_12, jt_ia1_13, jt_ia1_14, jt_ia1_15, jt_ia1_16, jt_ia1_17, jt_ia1_18, jt_ia1_19, jt_ia1_20, jt_ia1_21, jt_ia1_22, jt_ia1_23, jt_ia1_24, jt_ia1_25, jt_ia1_26, jt_ia1_27, jt_rt1_0_0, jt_rt1_0_1, jt_rt1_0_4, jt_rt1_0_5, jt_rt1_0_6, jt_rt1_0_7, jt_rt1_0_8, jt_rt1_0_9, jt_rt1_0_10, jt_rt1_0_11, jt_rt1_0_12, jt_rt1_0_13, jt_rt1_0_14, jt_rt1_0_15, jt_rt1_0_16, jt_rt1_0_17, jt_rt1_0_18, jt_rt1_0_25, jt_rt1_0_27, jt_rt1_0_29, jt_rt1_0_30, jt_rt1_0_31, jt_rt1_0_32, jt_rt1_0_33, jt_rt1_0_34, jt_rt1_0_35, jt_rt1_0_37, jt_in1_1, jt_in1_2, jt_in1_3, jt_in1_4, jt_in1_5, jt_in1_6, jt_in1_7, jt_in1_8, jt_in1_9, jt_in1_10, jt_in1_11, jt_in1_12, jt_in1_13, jt_in1_14, jt_in1_15, jt_in1_16, jt_in1_17, jt_in1_18, jt_in1_19, jt_in1_20, jt_in1_21, jt_in1_22, jt_in1_23, jt_in1_24, jt_in1_25, jt_in1_26, jt_in1_27, jt_ln1_1, jt_ln1_2, jt_ln1_3, jt_ln1_4, jt_ln1_5, jt_ln1_6, jt_ln1_7, jt_ln1_8, jt_ln1_9, jt_ln1_10, jt_ln1_11, jt_ln1_12, jt_ln1_13, jt_ln1_14, jt_ln1_15, jt_ln1_16, jt_ln1_17, jt_ln1_18, jt_ln1_19, jt_ln1_20, jt_ln1_21, jt_ln1_22, jt_ln1_23, jt_ln1_24, jt_ln1_25, jt_ln1_26, jt_ln1_27, this]
      rw [decide_eq_false (by omega)], rfl⟩
  exact ⟨_, key⟩
end
