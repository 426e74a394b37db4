section
/-! ===== Integer.bitCount of a set of 24 ===== -/
theorem nb_land {l h ml mh : Nat} (hl : l < 256) (hm : ml < 256) : (l + 256 * h) &&& (ml + 256 * mh) = (l &&& ml) + 256 * (h &&& mh) := by
  have e1 : ((l + 256 * h) &&& (ml + 256 * mh)) % 2 ^ 8 = l &&& ml := by
    rw [Nat.and_mod_two_pow]
    have q1 : (l + 256 * h) % 2 ^ 8 = l := by omega
    have q2 : (ml + 256 * mh) % 2 ^ 8 = ml := by omega
    rw [q1, q2]
  have e2 : ((l + 256 * h) &&& (ml + 256 * mh)) / 2 ^ 8 = h &&& mh := by
    rw [Nat.and_div_two_pow]
    have q1 : (l + 256 * h) / 2 ^ 8 = h := by omega
    have q2 : (ml + 256 * mh) / 2 ^ 8 = mh := by omega
    rw [q1, q2]
  omega
def nbA (a : Nat) : Nat := a - ((a / 2) &&& 85)
def nbB (a : Nat) : Nat := (a &&& 51) + ((a / 4) &&& 51)
def nbP (a : Nat) : Nat := (if a.testBit 0 then 1 else 0) + (if a.testBit 1 then 1 else 0) + (if a.testBit 2 then 1 else 0) + (if a.testBit 3 then 1 else 0) + (if a.testBit 4 then 1 else 0) + (if a.testBit 5 then 1 else 0) + (if a.testBit 6 then 1 else 0) + (if a.testBit 7 then 1 else 0)
theorem nb_1 : ∀ a, a < 256 → (((a / 2) &&& 85) ≤ a ∧ nbB (nbA a) % 16 ≤ 4 ∧ nbB (nbA a) / 16 ≤ 4 ∧ (nbB (nbA a) + nbB (nbA a) / 16) % 16 = nbP a ∧ nbP a ≤ 8 ∧ ((a / 2) &&& 21845) = ((a / 2) &&& 85)) := by decide +kernel
theorem nb_2 : ∀ c, c < 2 → ∀ a, a < 256 → ((a / 2 + 128 * c) &&& 85) = ((a / 2) &&& 85) := by decide +kernel
theorem nb_3 : ∀ c, c < 4 → ∀ a, a < 256 → ((a / 4 + 64 * c) &&& 51) = ((a / 4) &&& 51) := by decide +kernel
theorem nb_4 : ∀ a, a < 256 → ((a &&& 13107) = (a &&& 51) ∧ ((a / 4) &&& 13107) = ((a / 4) &&& 51) ∧ (a &&& 15) = a % 16 ∧ (a &&& 3855) = (a &&& 15)) := by decide +kernel
def nbc (x : Nat) : Nat :=
  let y1 := x - ((x / 2) &&& 1431655765)
  let y2 := (y1 &&& 858993459) + ((y1 / 4) &&& 858993459)
  let y3 := (y2 + y2 / 16) &&& 252645135
  let y4 := y3 + y3 / 256
  let y5 := y4 + y4 / 65536
  y5 &&& 63
theorem nb_m1 {a b c : Nat} (ha : a < 256) (hb : b < 256) (hc : c < 256) : ((a + 256 * (b + 256 * c)) / 2) &&& 1431655765 = ((a / 2) &&& 85) + 256 * (((b / 2) &&& 85) + 256 * ((c / 2) &&& 85)) := by
  have e1 : (a + 256 * (b + 256 * c)) / 2 = (a / 2 + 128 * (b % 2)) + 256 * ((b / 2 + 128 * (c % 2)) + 256 * (c / 2)) := by omega
  have e2 : (1431655765 : Nat) = 85 + 256 * (85 + 256 * 21845) := by omega
  rw [e1, e2, nb_land (by omega) (by omega), nb_land (by omega) (by omega), nb_2 _ (by omega) a ha, nb_2 _ (by omega) b hb, (nb_1 c hc).2.2.2.2.2]
theorem nb_m2 {a b c : Nat} (ha : a < 256) (hb : b < 256) (hc : c < 256) : (a + 256 * (b + 256 * c)) &&& 858993459 = (a &&& 51) + 256 * ((b &&& 51) + 256 * (c &&& 51)) := by
  have e2 : (858993459 : Nat) = 51 + 256 * (51 + 256 * 13107) := by omega
  rw [e2, nb_land ha (by omega), nb_land hb (by omega), (nb_4 c hc).1]
theorem nb_m3 {a b c : Nat} (ha : a < 256) (hb : b < 256) (hc : c < 256) : ((a + 256 * (b + 256 * c)) / 4) &&& 858993459 = ((a / 4) &&& 51) + 256 * (((b / 4) &&& 51) + 256 * ((c / 4) &&& 51)) := by
  have e1 : (a + 256 * (b + 256 * c)) / 4 = (a / 4 + 64 * (b % 4)) + 256 * ((b / 4 + 64 * (c % 4)) + 256 * (c / 4)) := by omega
  have e2 : (858993459 : Nat) = 51 + 256 * (51 + 256 * 13107) := by omega
  rw [e1, e2, nb_land (by omega) (by omega), nb_land (by omega) (by omega), nb_3 _ (by omega) a ha, nb_3 _ (by omega) b hb, (nb_4 c hc).2.1]
theorem nb_m4 {a b c : Nat} (ha : a < 256) (hb : b < 256) (hc : c < 256) : (a + 256 * (b + 256 * c)) &&& 252645135 = a % 16 + 256 * (b % 16 + 256 * (c % 16)) := by
  have e2 : (252645135 : Nat) = 15 + 256 * (15 + 256 * 3855) := by omega
  rw [e2, nb_land ha (by omega), nb_land hb (by omega), (nb_4 c hc).2.2.2, (nb_4 a ha).2.2.1, (nb_4 b hb).2.2.1, (nb_4 c hc).2.2.1]
theorem nb_fin {u v t : Nat} (hu : u ≤ 8) (hv : v ≤ 8) (ht : t ≤ 8) : ((u + 256 * (v + 256 * t) + (u + 256 * (v + 256 * t)) / 256) + (u + 256 * (v + 256 * t) + (u + 256 * (v + 256 * t)) / 256) / 65536) % 2 ^ 6 = u + v + t := by
  have e1 : (u + 256 * (v + 256 * t)) / 256 = v + 256 * t := by omega
  rw [e1]
  have e2 : (u + 256 * (v + 256 * t) + (v + 256 * t)) / 65536 = t := by omega
  rw [e2]
  omega
theorem nbc_eq {a b c : Nat} (ha : a < 256) (hb : b < 256) (hc : c < 256) : nbc (a + 256 * (b + 256 * c)) = nbP a + nbP b + nbP c := by
  obtain ⟨a1, a2, a3, a4, a5, -⟩ := nb_1 a ha
  obtain ⟨b1, b2, b3, b4, b5, -⟩ := nb_1 b hb
  obtain ⟨c1, c2, c3, c4, c5, -⟩ := nb_1 c hc
  unfold nbc
  simp only []
  have y1 : (a + 256 * (b + 256 * c)) - (((a + 256 * (b + 256 * c)) / 2) &&& 1431655765) = nbA a + 256 * (nbA b + 256 * nbA c) := by
    rw [nb_m1 ha hb hc]; unfold nbA; omega
  have hA : nbA a < 256 ∧ nbA b < 256 ∧ nbA c < 256 := by unfold nbA; omega
  have y2 : ((nbA a + 256 * (nbA b + 256 * nbA c)) &&& 858993459) + (((nbA a + 256 * (nbA b + 256 * nbA c)) / 4) &&& 858993459) = nbB (nbA a) + 256 * (nbB (nbA b) + 256 * nbB (nbA c)) := by
    rw [nb_m2 hA.1 hA.2.1 hA.2.2, nb_m3 hA.1 hA.2.1 hA.2.2]; unfold nbB; omega
  rw [y1, y2]
  have y3 : (nbB (nbA a) + 256 * (nbB (nbA b) + 256 * nbB (nbA c))) + (nbB (nbA a) + 256 * (nbB (nbA b) + 256 * nbB (nbA c))) / 16 = (nbB (nbA a) + nbB (nbA a) / 16 + 16 * (nbB (nbA b) % 16)) + 256 * ((nbB (nbA b) + nbB (nbA b) / 16 + 16 * (nbB (nbA c) % 16)) + 256 * (nbB (nbA c) + nbB (nbA c) / 16)) := by omega
  rw [y3, nb_m4 (by omega) (by omega) (by omega)]
  have p1 : (nbB (nbA a) + nbB (nbA a) / 16 + 16 * (nbB (nbA b) % 16)) % 16 = nbP a := by omega
  have p2 : (nbB (nbA b) + nbB (nbA b) / 16 + 16 * (nbB (nbA c) % 16)) % 16 = nbP b := by omega
  rw [p1, p2, c4]
  have e63 : (63 : Nat) = 2 ^ 6 - 1 := by omega
  rw [e63, Nat.and_two_pow_sub_one_eq_mod]
  exact nb_fin a5 b5 c5
theorem nb_c (b : Bool) : ((if b = true then 1 else 0 : Nat) : Int) = if b = true then 1 else 0 := by cases b <;> rfl
theorem nb_lo (x i : Nat) (h : i < 8) : (x % 256).testBit i = x.testBit i := by
  have := Nat.testBit_mod_two_pow x 8 i
  simpa [h] using this
theorem nb_mi (x i : Nat) (h : i < 8) : (x / 256 % 256).testBit i = x.testBit (8 + i) := by
  rw [nb_lo _ _ h]
  have := Nat.testBit_div_two_pow (x := x) (i := i) (n := 8)
  rw [show (256 : Nat) = 2 ^ 8 from rfl, this, Nat.add_comm]
theorem nb_hi (x i : Nat) : (x / 65536).testBit i = x.testBit (16 + i) := by
  have := Nat.testBit_div_two_pow (x := x) (i := i) (n := 16)
  rw [show (65536 : Nat) = 2 ^ 16 from rfl, this, Nat.add_comm]
theorem nbc_jpc {x : Nat} (hx : x < 16777216) : ((nbc x : Nat) : Int) = jpc (x : Int) 24 := by
  have e : x = x % 256 + 256 * (x / 256 % 256 + 256 * (x / 65536)) := by omega
  have h1 := nbc_eq (a := x % 256) (b := x / 256 % 256) (c := x / 65536) (by omega) (by omega) (by omega)
  rw [← e] at h1
  rw [h1]
  unfold nbP
  rw [nb_lo x 0 (by omega), nb_lo x 1 (by omega), nb_lo x 2 (by omega), nb_lo x 3 (by omega), nb_lo x 4 (by omega), nb_lo x 5 (by omega), nb_lo x 6 (by omega), nb_lo x 7 (by omega), nb_mi x 0 (by omega), nb_mi x 1 (by omega), nb_mi x 2 (by omega), nb_mi x 3 (by omega), nb_mi x 4 (by omega), nb_mi x 5 (by omega), nb_mi x 6 (by omega), nb_mi x 7 (by omega), nb_hi x 0, nb_hi x 1, nb_hi x 2, nb_hi x 3, nb_hi x 4, nb_hi x 5, nb_hi x 6, nb_hi x 7]
  simp only [Int.natCast_add, nb_c, jpc, jb, Int.toNat_natCast, Nat.reduceAdd, Int.add_assoc, Int.zero_add]
  rfl
theorem jz_ushr {n k : Nat} (hn : n < 4294967296) (hk : k < 32) : js_ushr (n : Int) (k : Int) = (nI (n / 2 ^ k)).toInt := by
  show ((nI n).toUInt32 >>> ((nI k).toUInt32 &&& Int32.toUInt32 31)).toInt32.toInt = _
  rw [pk_ushrN hn _ k ((by decide +kernel : ∀ n, n < 32 → (((nI n).toUInt32 &&& Int32.toUInt32 31).toBitVec % 32).toNat = n) k hk)]
theorem jn_ushr {n k : Nat} (hn : n < 2147483648) (hk : k < 32) : js_ushr (n : Int) (k : Int) = ((n / 2 ^ k : Nat) : Int) := by
  rw [jz_ushr (by omega) hk, nI_toInt (by have := Nat.div_le_self n (2 ^ k); omega)]
theorem jn_and {n k : Nat} (hn : n < 2147483648) (hk : k < 2147483648) : js_and (n : Int) (k : Int) = ((n &&& k : Nat) : Int) := jz_and ⟨by omega, by omega⟩ ⟨by omega, by omega⟩
theorem jn_add {n k : Nat} (h : n + k < 2147483648) : js_add (n : Int) (k : Int) = ((n + k : Nat) : Int) := by
  rw [jz_add (by omega)]; omega
theorem jn_u2 {n : Nat} (hn : n < 2147483648) : js_ushr (n : Int) 2 = ((n / 4 : Nat) : Int) := jn_ushr (k := 2) hn (by omega)
theorem jn_u4 {n : Nat} (hn : n < 2147483648) : js_ushr (n : Int) 4 = ((n / 16 : Nat) : Int) := jn_ushr (k := 4) hn (by omega)
theorem jn_u8 {n : Nat} (hn : n < 2147483648) : js_ushr (n : Int) 8 = ((n / 256 : Nat) : Int) := jn_ushr (k := 8) hn (by omega)
theorem jn_u16 {n : Nat} (hn : n < 2147483648) : js_ushr (n : Int) 16 = ((n / 65536 : Nat) : Int) := jn_ushr (k := 16) hn (by omega)
theorem jn_a3 {n : Nat} (hn : n < 2147483648) : js_and (n : Int) 858993459 = ((n &&& 858993459 : Nat) : Int) := jn_and (k := 858993459) hn (by omega)
theorem jn_af {n : Nat} (hn : n < 2147483648) : js_and (n : Int) 252645135 = ((n &&& 252645135 : Nat) : Int) := jn_and (k := 252645135) hn (by omega)
theorem jn_a63 {n : Nat} (hn : n < 2147483648) : js_and (n : Int) 63 = ((n &&& 63 : Nat) : Int) := jn_and (k := 63) hn (by omega)
theorem vC_bitCount {x : Int} (w : js_Mm) (hx : 0 ≤ x ∧ x < 16777216) : f_J6_bitCount_0f7a4 [x] w = some (jpc x 24, w) := by
  obtain ⟨n, rfl⟩ := jz_nat hx.1
  have hn : n < 16777216 := by omega
  rw [fe_J6_bitCount_0f7a4]; simp -implicitDefEqProofs (disch := omega) only [jv_g0, jv_gs, jv_b, jv_bl, jv_bcT, jv_bcF, jv_bcD, jv_bcI, jv_bI, jv_bs0, jv_bs1, jv_bsI, jv_k, jv_l, jv_1, jv_1e, jv_2, jv_2ke, jv_2e, jv_d, jv_dke, jv_de, jv_gf, jv_gfe, jv_gr, jv_gre, jv_al, jv_alke, jv_ale, jv_aa, jv_aake, jv_aae, jv_ln, jv_lne, jv_as0, jv_as1, jv_aske, jv_asje, jv_cv, jv_cve, jv_cs, jv_cp, jv_cpke, jv_cpe, jv_cz, jv_cze, jv_tte, jv_ffe, jv_ca, jv_co, jv_cn, jv_lt, jv_le, jv_gt, jv_ge, jv_eq, jv_ne, jv_q, jv_sk, jv_s1, jv_s1e, jv_s2, jv_s2e, jv_ii, jv_pf, jv_pfke, jv_pfe, jv_pa, jv_pale, jv_pake, jv_paje, jv_paf20, jv_paf21, jv_paf22, jv_paf23, jv_fit1, jv_fit2, jv_fit0, jv_fit5, jv_of, jv_ofke, jv_ofje, jv_oa, jv_oale, jv_oake, jv_oaje, jv_ex, jv_exe, jv_sq, jv_if, jv_bk, jv_bke, jv_rv, jv_rve, jv_r0, jv_sw, jv_swe, jv_pk0, jv_pk1, jv_me, jv_oute, jv_outI, jt_ft0_10, jt_ft0_11, jt_ft0_12, jt_ft0_13, jt_ft0_14, jt_ft1_0, jt_ft2_3, jt_ft2_4, jt_ft2_5, jt_ft2_6, jt_ft3_0, jt_ft4_5, jt_ft4_6, jt_ft5_0, jt_ft5_1, jt_ft7_1, jt_ft7_2, jt_ft7_3, jt_ft7_4, jt_ft7_5, jt_ft7_6, jt_ft7_7, jt_ft8_0, jt_ft8_1, jt_ft8_2, jt_ft9_2, jt_ft10_15, jt_ft11_2, jt_ft11_3, jt_ft11_19, jt_ft11_20, jt_ft11_21, jt_ft11_22, jt_ft11_23, jt_ft11_24, jt_ft11_26, jt_ft11_28, jt_ft11_36, jt_ft11_38, jt_ft11_39, jt_ft11_40, List.set_cons_zero, List.set_cons_succ, Int.reduceToNat, Bool.and_true, Bool.true_and, Bool.and_eq_true, decide_eq_true_eq, if_true, if_false, reduceIte, Nat.reduceEqDiff, Nat.reduceSub, Nat.reduceAdd, Int.reduceLT, Int.reduceLE, Int.reduceNeg, Int.reduceEq, Int.reduceAdd, Int.reduceSub, Int.reduceMul, not_true_eq_false, not_false_eq_true, and_true, true_and, and_false, false_and, decide_true, decide_false, Nat.reduceEqDiff, reduceCtorEq, jt_is0_0, jt_is0_1, jt_ia0_2, jt_is0_3, jt_ia0_4, jt_ia0_5, jt_ia0_6, jt_ia0_7, jt_ia0_8, jt_ia0_9, jt_is0_10, jt_ia0_11, jt_ia0_12, jt_ia0_13, jt_ia0_14, jt_ia0_15, jt_ia0_16, jt_is0_17, jt_ia0_18, jt_ia0_19, jt_ia0_20, jt_ia0_21, jt_ia0_22, jt_is0_23, jt_ia0_24, jt_ia0_25, jt_ia0_26, jt_ia0_27, jt_ia0_28, jt_is0_29, jt_is0_30, jt_is0_31, jt_ia0_32, jt_ia0_33, jt_ia0_34, jt_ia0_35, jt_ia0_36, jt_ia0_37, jt_ia0_38, jt_ia0_39, jt_ia0_40, jt_ia0_41, jt_is0_42, jt_ia0_43, jt_ia0_44, jt_ia0_45, jt_ia0_46, jt_ia0_47, jt_ia0_48, jt_ia0_49, jt_ia0_50, jt_ia0_51, jt_ia0_52, jt_is0_53, jt_ia0_54, jt_ia0_55, jt_ia0_56, jt_ia0_57, jt_ia0_58, jt_ia0_59, jt_ia0_60, jt_ia0_61, jt_ia0_62, jt_ia0_63, jt_is0_65, jt_ia0_66, jt_ia0_67, jt_ia0_68, jt_ia0_69, jt_ia0_70, jt_ia0_71, jt_ia0_72, jt_ia0_73, jt_ia0_74, jt_ia0_75, jt_is0_76, jt_ia0_77, jt_ia0_78, jt_ia0_79, jt_ia0_80, jt_ia0_81, jt_ia0_82, jt_ia0_83, jt_ia0_84, jt_ia0_85, jt_ia0_86, jt_is0_87, jt_ia0_88, jt_is0_89, jt_ia0_90, jt_ia0_91, jt_is0_92, jt_ia0_93, jt_ia0_94, jt_ia0_95, jt_ia0_96, jt_is0_97, jt_ia0_98, jt_ia0_99, jt_ia0_100, jt_rt0_0_0, jt_rt0_0_1, jt_rt0_0_2, jt_rt0_0_3, jt_rt0_0_4, jt_rt0_0_5, jt_rt0_0_6, jt_rt0_0_7, jt_rt0_0_8, jt_rt0_0_9, jt_rt0_0_10, jt_rt0_0_11, jt_rt0_0_12, jt_rt0_0_13, jt_rt0_0_14, jt_rt0_1_0, jt_rt0_3_3, jt_rt0_3_4, jt_rt0_3_5, jt_rt0_3_6, jt_rt0_3_7, jt_rt0_3_8, jt_rt0_10_3, jt_rt0_10_4, jt_rt0_10_5, jt_rt0_10_6, jt_rt0_10_7, jt_rt0_10_8, jt_rt0_17_1, jt_rt0_17_2, jt_rt0_17_3, jt_rt0_17_4, jt_rt0_17_5, jt_rt0_23_1, jt_rt0_23_2, jt_rt0_23_3, jt_rt0_23_4, jt_rt0_23_5, jt_rt0_30_0, jt_rt0_30_1, jt_rt0_30_2, jt_rt0_31_0, jt_rt0_31_1, jt_rt0_31_2, jt_rt0_31_3, jt_rt0_31_4, jt_rt0_31_5, jt_rt0_31_6, jt_rt0_31_7, jt_rt0_31_8, jt_rt0_31_9, jt_rt0_42_0, jt_rt0_42_1, jt_rt0_42_2, jt_rt0_42_3, jt_rt0_42_4, jt_rt0_42_5, jt_rt0_42_6, jt_rt0_42_7, jt_rt0_42_8, jt_rt0_42_9, jt_rt0_53_0, jt_rt0_53_1, jt_rt0_53_2, jt_rt0_53_3, jt_rt0_53_4, jt_rt0_53_5, jt_rt0_53_6, jt_rt0_53_7, jt_rt0_53_8, jt_rt0_53_9, jt_rt0_64_0, jt_rt0_64_1, jt_rt0_65_0, jt_rt0_65_1, jt_rt0_65_2, jt_rt0_65_3, jt_rt0_65_4, jt_rt0_65_5, jt_rt0_65_6, jt_rt0_65_7, jt_rt0_65_8, jt_rt0_65_9, jt_rt0_76_0, jt_rt0_76_1, jt_rt0_76_2, jt_rt0_76_3, jt_rt0_76_4, jt_rt0_76_5, jt_rt0_76_6, jt_rt0_76_7, jt_rt0_76_8, jt_rt0_76_9, jt_rt0_87_0, jt_rt0_87_1, jt_rt0_89_1, jt_rt0_89_2, jt_rt0_92_0, jt_rt0_92_1, jt_rt0_92_2, jt_rt0_92_3, jt_rt0_92_4, jt_rt0_97_0, jt_rt0_97_1, jt_rt0_97_2, jt_in0_2, jt_in0_4, jt_in0_5, jt_in0_6, jt_in0_7, jt_in0_8, jt_in0_9, jt_in0_11, jt_in0_12, jt_in0_13, jt_in0_14, jt_in0_15, jt_in0_16, jt_in0_18, jt_in0_19, jt_in0_20, jt_in0_21, jt_in0_22, jt_in0_24, jt_in0_25, jt_in0_26, jt_in0_27, jt_in0_28, jt_in0_32, jt_in0_33, jt_in0_34, jt_in0_35, jt_in0_36, jt_in0_37, jt_in0_38, jt_in0_39, jt_in0_40, jt_in0_41, jt_in0_43, jt_in0_44, jt_in0_45, jt_in0_46, jt_in0_47, jt_in0_48, jt_in0_49, jt_in0_50, jt_in0_51, jt_in0_52, jt_in0_54, jt_in0_55, jt_in0_56, jt_in0_57, jt_in0_58, jt_in0_59, jt_in0_60, jt_in0_61, jt_in0_62, jt_in0_63, jt_in0_64, jt_in0_66, jt_in0_67, jt_in0_68, jt_in0_69, jt_in0_70, jt_in0_71, jt_in0_72, jt_in0_73, jt_in0_74, jt_in0_75, jt_in0_77, jt_in0_78, jt_in0_79, jt_in0_80, jt_in0_81, jt_in0_82, jt_in0_83, jt_in0_84, jt_in0_85, jt_in0_86, jt_in0_88, jt_in0_90, jt_in0_91, jt_in0_93, jt_in0_94, jt_in0_95, jt_in0_96, jt_in0_98, jt_in0_99, jt_in0_100, jt_ln0_2, jt_ln0_4, jt_ln0_5, jt_ln0_6, jt_ln0_7, jt_ln0_8, jt_ln0_9, jt_ln0_11, jt_ln0_12, jt_ln0_13, jt_ln0_14, jt_ln0_15, jt_ln0_16, jt_ln0_18, jt_ln0_19, jt_ln0_20, jt_ln0_21, jt_ln0_22, jt_ln0_24, jt_ln0_25, jt_ln0_26, jt_ln0_27, jt_ln0_28, jt_ln0_32, jt_ln0_33, jt_ln0_34, jt_ln0_35, jt_ln0_36, jt_ln0_37, jt_ln0_38, jt_ln0_39, jt_ln0_40, jt_ln0_41, jt_ln0_43, jt_ln0_44, jt_ln0_45, jt_ln0_46, jt_ln0_47, jt_ln0_48, jt_ln0_49, jt_ln0_50, jt_ln0_51, jt_ln0_52, jt_ln0_54, jt_ln0_55, jt_ln0_56, jt_ln0_57, jt_ln0_58, jt_ln0_59, jt_ln0_60, jt_ln0_61, jt_ln0_62, jt_ln0_63, jt_ln0_66, jt_ln0_67, jt_ln0_68, jt_ln0_69, jt_ln0_70, jt_ln0_71, jt_ln0_72, jt_ln0_73, jt_ln0_74, jt_ln0_75, jt_ln0_77, jt_ln0_78, jt_ln0_79, jt_ln0_80, jt_ln0_81, jt_ln0_82, jt_ln0_83, jt_ln0_84, jt_ln0_85, jt_ln0_86, jt_ln0_88, jt_ln0_90, jt_ln0_91, jt_ln0_93, jt_ln0_94, jt_ln0_95, jt_ln0_96, jt_ln0_98, jt_ln0_99, jt_ln0_100]
  rw [← nbc_jpc hn]
  unfold nbc
  have a1 : js_and (js_ushr (n : Int) 1) 1431655765 = (((n / 2) &&& 1431655765 : Nat) : Int) := by
    rw [show (1 : Int) = ((1 : Nat) : Int) from rfl, jn_ushr (by omega) (by omega), show (1431655765 : Int) = ((1431655765 : Nat) : Int) from rfl, jn_and (by omega) (by omega)]
  have l1 : ((n / 2) &&& 1431655765 : Nat) ≤ n := Nat.le_trans Nat.and_le_left (Nat.div_le_self n 2)
  have a2 : js_sub (n : Int) (js_and (js_ushr (n : Int) 1) 1431655765) = ((n - ((n / 2) &&& 1431655765) : Nat) : Int) := by
    rw [a1, jz_sub (by omega)]; omega
  rw [a2]
  simp only []
  have hy1 : (n - ((n / 2) &&& 1431655765) : Nat) < 16777216 := by omega
  generalize (n - ((n / 2) &&& 1431655765) : Nat) = y1 at hy1 ⊢
  have b1 : y1 &&& 858993459 ≤ y1 := Nat.and_le_left
  have b2 : (y1 / 4) &&& 858993459 ≤ y1 / 4 := Nat.and_le_left
  rw [jn_a3 (by omega), jn_u2 (by omega), jn_a3 (by omega), jn_add (by omega)]
  have hy2 : (y1 &&& 858993459) + ((y1 / 4) &&& 858993459) < 33554432 := by omega
  generalize (y1 &&& 858993459) + ((y1 / 4) &&& 858993459) = y2 at hy2 ⊢
  have b3 : (y2 + y2 / 16) &&& 252645135 ≤ y2 + y2 / 16 := Nat.and_le_left
  rw [jn_u4 (by omega), jn_add (by omega), jn_af (by omega)]
  have hy3 : ((y2 + y2 / 16) &&& 252645135) < 67108864 := by omega
  generalize ((y2 + y2 / 16) &&& 252645135) = y3 at hy3 ⊢
  rw [jn_u8 (by omega), jn_add (by omega), jn_u16 (by omega), jn_add (by omega), jn_a63 (by omega)]
end
