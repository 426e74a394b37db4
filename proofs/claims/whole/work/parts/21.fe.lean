section
theorem fe_J6_bitCount_0f7a4 (z0 : Int) (w : js_Mm) : f_J6_bitCount_0f7a4 [z0] w = jv_out 1 ((js_sq (js_s1 1 0 (js_2 js_sub (js_l 1 0) (js_2 js_and (js_2 js_ushr (js_l 1 0) (js_k 1)) (js_k 1431655765)))) (js_sq (js_s1 1 0 (js_2 js_add (js_2 js_and (js_l 1 0) (js_k 858993459)) (js_2 js_and (js_2 js_ushr (js_l 1 0) (js_k 2)) (js_k 858993459)))) (js_sq (js_s1 1 0 (js_2 js_and (js_2 js_add (js_l 1 0) (js_2 js_ushr (js_l 1 0) (js_k 4))) (js_k 252645135))) (js_sq (js_s1 1 0 (js_2 js_add (js_l 1 0) (js_2 js_ushr (js_l 1 0) (js_k 8)))) (js_sq (js_s1 1 0 (js_2 js_add (js_l 1 0) (js_2 js_ushr (js_l 1 0) (js_k 16)))) (js_rv (js_2 js_and (js_l 1 0) (js_k 63)))))))) [(1, z0)] w) := by
  unfold f_J6_bitCount_0f7a4
  rw [jv_me]
  have e : js_ev [1] [z0] 1 = [(1, z0)] := rfl
  rw [e]
def lc_J7_fill_53178_1 : js_CC := (js_cp js_lt (js_l 1 2) (js_l 1 3))
def lb_J7_fill_53178_1 : js_SS := (js_sq (js_pa 0 20 (js_l 3 0) (js_l 1 2) (js_l 1 1)) (js_ii 2 1))
theorem fe_J7_fill_53178 (z0 z1 : Int) (w : js_Mm) : f_J7_fill_53178 [z0, z1] w = jv_out 0 ((js_sq (js_bk 2 (js_sq (js_sq (js_s1 1 2 (js_k 0)) (js_s1 1 3 (js_ln 0 20 (js_l 3 0)))) (js_wh lc_J7_fill_53178_1 lb_J7_fill_53178_1))) js_r0) [(3, z0), (1, z1), (0, 0), (0, 0)] w) := by
  unfold f_J7_fill_53178
  rw [jv_me]
  have e : js_ev [3, 1] [z0, z1] 4 = [(3, z0), (1, z1), (0, 0), (0, 0)] := rfl
  rw [e]
  unfold lc_J7_fill_53178_1 lb_J7_fill_53178_1
  rfl
def lc_J7_fill_d0a16_1 : js_CC := (js_cp js_lt (js_l 1 3) (js_l 1 4))
def lb_J7_fill_d0a16_1 : js_SS := (js_sq (js_pa 0 21 (js_l 3 0) (js_l 1 3) (js_l 2 1)) (js_ii 3 1))
theorem fe_J7_fill_d0a16 (z0 z1 : Int) (w : js_Mm) : f_J7_fill_d0a16 [z0, z1] w = jv_out 0 ((js_sq (js_bk 3 (js_sq (js_sq (js_s1 1 3 (js_k 0)) (js_s1 1 4 (js_ln 0 21 (js_l 3 0)))) (js_wh lc_J7_fill_d0a16_1 lb_J7_fill_d0a16_1))) js_r0) [(3, z0), (2, z1), (0, 0), (0, 0), (0, 0)] w) := by
  unfold f_J7_fill_d0a16
  rw [jv_me]
  have e : js_ev [3, 2] [z0, z1] 5 = [(3, z0), (2, z1), (0, 0), (0, 0), (0, 0)] := rfl
  rw [e]
  unfold lc_J7_fill_d0a16_1 lb_J7_fill_d0a16_1
  rfl
theorem fe_X10_fault (z0 : Int) (w : js_Mm) : f_X10_fault [z0] w = jv_out 1 ((js_rv (js_gf 0 10 15 (js_l 3 0))) [(3, z0)] w) := by
  unfold f_X10_fault
  rw [jv_me]
  have e : js_ev [3] [z0] 1 = [(3, z0)] := rfl
  rw [e]
theorem fe_X10_rule (z0 z1 z2 : Int) (w : js_Mm) : f_X10_rule [z0, z1, z2] w = jv_out 1 ((js_sq (js_if (js_ca (js_ca (js_cz js_eq (js_l 1 1)) (js_cp js_ge (js_l 1 2) (js_k 1))) (js_cp js_le (js_l 1 2) (js_k 20))) (js_sq (js_s1 1 3 (js_gf 0 5 0 (js_gr 0 10 5 (js_l 3 0)))) (js_sq (js_pf 0 5 0 (js_gr 0 10 5 (js_l 3 0)) (js_l 1 2)) (js_rv (js_l 1 3)))) js_sk) (js_sq (js_if (js_ca (js_ca (js_cp js_eq (js_l 1 1) (js_k 1)) (js_cz js_ge (js_l 1 2))) (js_cp js_le (js_l 1 2) (js_k 100))) (js_sq (js_s1 1 3 (js_gf 0 5 1 (js_gr 0 10 5 (js_l 3 0)))) (js_sq (js_pf 0 5 1 (js_gr 0 10 5 (js_l 3 0)) (js_l 1 2)) (js_rv (js_l 1 3)))) js_sk) (js_rv (js_k (-1000002))))) [(3, z0), (1, z1), (1, z2), (0, 0)] w) := by
  unfold f_X10_rule
  rw [jv_me]
  have e : js_ev [3, 1, 1] [z0, z1, z2] 4 = [(3, z0), (1, z1), (1, z2), (0, 0)] := rfl
  rw [e]
theorem fe_X10_seed (z0 z1 : Int) (w : js_Mm) : f_X10_seed [z0, z1] w = jv_out 1 ((js_sq (js_if (js_cz js_lt (js_l 1 1)) (js_rv (js_k (-1000002))) js_sk) (js_sq (js_s1 1 2 (js_1 js_l2i (js_gf 0 0 13 (js_gr 0 10 7 (js_l 3 0))))) (js_sq (js_pf 0 0 13 (js_gr 0 10 7 (js_l 3 0)) (js_1 js_i2l (js_l 1 1))) (js_rv (js_l 1 2))))) [(3, z0), (1, z1), (0, 0)] w) := by
  unfold f_X10_seed
  rw [jv_me]
  have e : js_ev [3, 1] [z0, z1] 3 = [(3, z0), (1, z1), (0, 0)] := rfl
  rw [e]
theorem fe_X10_isPerson (z0 z1 : Int) (w : js_Mm) : f_X10_isPerson [z0, z1] w = jv_out 5 ((js_rv (js_q (js_ca (js_cz js_ge (js_l 1 1)) (js_cp js_lt (js_l 1 1) (js_gf 0 8 0 (js_gr 0 10 1 (js_l 3 0))))) (js_k 1) (js_k 0))) [(3, z0), (1, z1)] w) := by
  unfold f_X10_isPerson
  rw [jv_me]
  have e : js_ev [3, 1] [z0, z1] 2 = [(3, z0), (1, z1)] := rfl
  rw [e]
theorem fe_X10_isSaying (z0 z1 : Int) (w : js_Mm) : f_X10_isSaying [z0, z1] w = jv_out 5 ((js_rv (js_q (js_ca (js_cz js_ge (js_l 1 1)) (js_cp js_lt (js_l 1 1) (js_gf 0 3 0 (js_gr 0 10 3 (js_l 3 0))))) (js_k 1) (js_k 0))) [(3, z0), (1, z1)] w) := by
  unfold f_X10_isSaying
  rw [jv_me]
  have e : js_ev [3, 1] [z0, z1] 2 = [(3, z0), (1, z1)] := rfl
  rw [e]
theorem fe_X10_isSetOf (z0 z1 : Int) (w : js_Mm) : f_X10_isSetOf [z0, z1] w = jv_out 5 ((js_rv (js_q (js_cz js_eq (js_2 js_shr (js_l 1 0) (js_l 1 1))) (js_k 1) (js_k 0))) [(1, z0), (1, z1)] w) := by
  unfold f_X10_isSetOf
  rw [jv_me]
  have e : js_ev [1, 1] [z0, z1] 2 = [(1, z0), (1, z1)] := rfl
  rw [e]
theorem fe_X10_isSteps (z0 : Int) (w : js_Mm) : f_X10_isSteps [z0] w = jv_out 5 ((js_rv (js_q (js_ca (js_cz js_ge (js_l 1 0)) (js_cp js_le (js_l 1 0) (js_k 12))) (js_k 1) (js_k 0))) [(1, z0)] w) := by
  unfold f_X10_isSteps
  rw [jv_me]
  have e : js_ev [1] [z0] 1 = [(1, z0)] := rfl
  rw [e]
theorem fe_X10_isMarket (z0 : Int) (w : js_Mm) : f_X10_isMarket [z0] w = jv_out 5 ((js_rv (js_q (js_ca (js_cz js_ge (js_l 1 0)) (js_cp js_lt (js_l 1 0) (js_k 12))) (js_k 1) (js_k 0))) [(1, z0)] w) := by
  unfold f_X10_isMarket
  rw [jv_me]
  have e : js_ev [1] [z0] 1 = [(1, z0)] := rfl
  rw [e]
theorem fe_X10_closeText (z0 : Int) (w : js_Mm) : f_X10_closeText [z0] w = jv_out 1 ((js_sq (js_pf 0 10 15 (js_l 3 0) (js_gf 0 7 7 (js_gr 0 10 0 (js_l 3 0)))) (js_sq (js_pf 0 7 1 (js_gr 0 10 0 (js_l 3 0)) (js_k 0)) (js_rv (js_gf 0 7 6 (js_gr 0 10 0 (js_l 3 0)))))) [(3, z0)] w) := by
  unfold f_X10_closeText
  rw [jv_me]
  have e : js_ev [3] [z0] 1 = [(3, z0)] := rfl
  rw [e]
theorem fe_X7_append (z0 z1 : Int) (w : js_Mm) : f_X7_append [z0, z1] w = jv_out 0 ((js_sq (js_if (js_cp js_lt (js_gf 0 7 1 (js_l 3 0)) (js_k 600)) (js_sq (js_pa 0 22 (js_gr 0 7 0 (js_l 3 0)) (js_gf 0 7 1 (js_l 3 0)) (js_l 1 1)) (js_of 0 7 1 js_add (js_l 3 0) (js_k 1))) js_sk) js_r0) [(3, z0), (1, z1)] w) := by
  unfold f_X7_append
  rw [jv_me]
  have e : js_ev [3, 1] [z0, z1] 2 = [(3, z0), (1, z1)] := rfl
  rw [e]
theorem fe_X7_goesOn (z0 : Int) (w : js_Mm) : f_X7_goesOn [z0] w = jv_out 5 ((js_rv (js_q (js_ca (js_cz js_eq (js_gf 0 7 6 (js_l 3 0))) (js_cz js_ne (js_gf 0 7 2 (js_l 3 0)))) (js_k 1) (js_k 0))) [(3, z0)] w) := by
  unfold f_X7_goesOn
  rw [jv_me]
  have e : js_ev [3] [z0] 1 = [(3, z0)] := rfl
  rw [e]
theorem fe_X7_blame (z0 z1 : Int) (w : js_Mm) : f_X7_blame [z0, z1] w = jv_out 0 ((js_sq (js_if (js_cz js_eq (js_gf 0 7 6 (js_l 3 0))) (js_sq (js_pf 0 7 6 (js_l 3 0) (js_l 1 1)) (js_pf 0 7 7 (js_l 3 0) (js_gf 0 7 3 (js_l 3 0)))) js_sk) js_r0) [(3, z0), (1, z1)] w) := by
  unfold f_X7_blame
  rw [jv_me]
  have e : js_ev [3, 1] [z0, z1] 2 = [(3, z0), (1, z1)] := rfl
  rw [e]
def lc_X7_readFigures_1 : js_CC := (js_ca (js_ca (js_cp js_lt (js_gf 0 7 4 (js_l 3 0)) (js_gf 0 7 1 (js_l 3 0))) (js_cp js_ge (js_al 0 22 (js_gr 0 7 0 (js_l 3 0)) (js_gf 0 7 4 (js_l 3 0))) (js_k 48))) (js_cp js_le (js_al 0 22 (js_gr 0 7 0 (js_l 3 0)) (js_gf 0 7 4 (js_l 3 0))) (js_k 57)))
def lb_X7_readFigures_1 : js_SS := (js_sq (js_if (js_cp js_lt (js_2 js_sub (js_gf 0 7 4 (js_l 3 0)) (js_gf 0 7 3 (js_l 3 0))) (js_k 3)) (js_pf 0 7 5 (js_l 3 0) (js_2 js_add (js_2 js_mul (js_gf 0 7 5 (js_l 3 0)) (js_k 10)) (js_2 js_sub (js_al 0 22 (js_gr 0 7 0 (js_l 3 0)) (js_gf 0 7 4 (js_l 3 0))) (js_k 48)))) js_sk) (js_of 0 7 4 js_add (js_l 3 0) (js_k 1)))
theorem fe_X7_readFigures (z0 : Int) (w : js_Mm) : f_X7_readFigures [z0] w = jv_out 0 ((js_sq (js_sq (js_pf 0 7 5 (js_l 3 0) (js_k 0)) (js_wh lc_X7_readFigures_1 lb_X7_readFigures_1)) js_r0) [(3, z0)] w) := by
  unfold f_X7_readFigures
  rw [jv_me]
  have e : js_ev [3] [z0] 1 = [(3, z0)] := rfl
  rw [e]
  unfold lc_X7_readFigures_1 lb_X7_readFigures_1
  rfl
theorem fe_X7_isLetter (z0 z1 : Int) (w : js_Mm) : f_X7_isLetter [z0, z1] w = jv_out 5 ((js_rv (js_q (js_ca (js_ca (js_cp js_lt (js_l 1 1) (js_gf 0 7 1 (js_l 3 0))) (js_cp js_ge (js_al 0 22 (js_gr 0 7 0 (js_l 3 0)) (js_l 1 1)) (js_k 97))) (js_cp js_le (js_al 0 22 (js_gr 0 7 0 (js_l 3 0)) (js_l 1 1)) (js_k 122))) (js_k 1) (js_k 0))) [(3, z0), (1, z1)] w) := by
  unfold f_X7_isLetter
  rw [jv_me]
  have e : js_ev [3, 1] [z0, z1] 2 = [(3, z0), (1, z1)] := rfl
  rw [e]
theorem fe_X7_isFigure (z0 z1 : Int) (w : js_Mm) : f_X7_isFigure [z0, z1] w = jv_out 5 ((js_rv (js_q (js_ca (js_ca (js_cp js_lt (js_l 1 1) (js_gf 0 7 1 (js_l 3 0))) (js_cp js_ge (js_al 0 22 (js_gr 0 7 0 (js_l 3 0)) (js_l 1 1)) (js_k 48))) (js_cp js_le (js_al 0 22 (js_gr 0 7 0 (js_l 3 0)) (js_l 1 1)) (js_k 57))) (js_k 1) (js_k 0))) [(3, z0), (1, z1)] w) := by
  unfold f_X7_isFigure
  rw [jv_me]
  have e : js_ev [3, 1] [z0, z1] 2 = [(3, z0), (1, z1)] := rfl
  rw [e]
theorem fe_X7_isSign (z0 z1 : Int) (w : js_Mm) : f_X7_isSign [z0, z1] w = jv_out 5 ((js_rv (js_q (js_ca (js_ca (js_cz js_eq (js_gf 0 7 6 (js_l 3 0))) (js_cp js_eq (js_gf 0 7 2 (js_l 3 0)) (js_k 3))) (js_cp js_eq (js_al 0 22 (js_gr 0 7 0 (js_l 3 0)) (js_gf 0 7 3 (js_l 3 0))) (js_l 1 1))) (js_k 1) (js_k 0))) [(3, z0), (1, z1)] w) := by
  unfold f_X7_isSign
  rw [jv_me]
  have e : js_ev [3, 1] [z0, z1] 2 = [(3, z0), (1, z1)] := rfl
  rw [e]
theorem fe_X8_befriend (z0 z1 z2 z3 : Int) (w : js_Mm) : f_X8_befriend [z0, z1, z2, z3] w = jv_out 0 ((js_sq (js_sq (js_s1 1 4 (js_al 0 20 (js_gr 0 8 5 (js_l 3 0)) (js_l 1 1))) (js_if (js_cp js_lt (js_l 1 4) (js_k 24)) (js_sq (js_pa 0 20 (js_gr 0 8 7 (js_l 3 0)) (js_2 js_add (js_2 js_mul (js_l 1 1) (js_k 24)) (js_l 1 4)) (js_l 1 2)) (js_sq (js_pa 0 20 (js_gr 0 8 8 (js_l 3 0)) (js_2 js_add (js_2 js_mul (js_l 1 1) (js_k 24)) (js_l 1 4)) (js_l 1 3)) (js_sq (js_pa 0 20 (js_gr 0 8 5 (js_l 3 0)) (js_l 1 1) (js_2 js_add (js_l 1 4) (js_k 1))) (js_oa 0 20 js_add (js_gr 0 8 6 (js_l 3 0)) (js_l 1 1) (js_l 1 3))))) js_sk)) js_r0) [(3, z0), (1, z1), (1, z2), (1, z3), (0, 0)] w) := by
  unfold f_X8_befriend
  rw [jv_me]
  have e : js_ev [3, 1, 1, 1] [z0, z1, z2, z3] 5 = [(3, z0), (1, z1), (1, z2), (1, z3), (0, 0)] := rfl
  rw [e]
def lc_X8_strengthOf_1 : js_CC := (js_cp js_lt (js_l 1 3) (js_al 0 20 (js_gr 0 8 5 (js_l 3 0)) (js_l 1 1)))
def lb_X8_strengthOf_1 : js_SS := (js_sq (js_if (js_cp js_eq (js_al 0 20 (js_gr 0 8 7 (js_l 3 0)) (js_2 js_add (js_2 js_mul (js_l 1 1) (js_k 24)) (js_l 1 3))) (js_l 1 2)) (js_rv (js_al 0 20 (js_gr 0 8 8 (js_l 3 0)) (js_2 js_add (js_2 js_mul (js_l 1 1) (js_k 24)) (js_l 1 3)))) js_sk) (js_ii 3 1))
theorem fe_X8_strengthOf (z0 z1 z2 : Int) (w : js_Mm) : f_X8_strengthOf [z0, z1, z2] w = jv_out 1 ((js_sq (js_bk 3 (js_sq (js_s1 1 3 (js_k 0)) (js_wh lc_X8_strengthOf_1 lb_X8_strengthOf_1))) (js_rv (js_k 0))) [(3, z0), (1, z1), (1, z2), (0, 0)] w) := by
  unfold f_X8_strengthOf
  rw [jv_me]
  have e : js_ev [3, 1, 1] [z0, z1, z2] 4 = [(3, z0), (1, z1), (1, z2), (0, 0)] := rfl
  rw [e]
  unfold lc_X8_strengthOf_1 lb_X8_strengthOf_1
  rfl
def lc_X8_friendBy_1 : js_CC := (js_cp js_lt (js_l 1 4) (js_al 0 20 (js_gr 0 8 5 (js_l 3 0)) (js_l 1 1)))
def lb_X8_friendBy_1 : js_SS := (js_sq (js_sq (js_s1 1 3 (js_2 js_add (js_l 1 3) (js_al 0 20 (js_gr 0 8 8 (js_l 3 0)) (js_2 js_add (js_2 js_mul (js_l 1 1) (js_k 24)) (js_l 1 4))))) (js_if (js_cp js_gt (js_l 1 3) (js_l 1 2)) (js_rv (js_al 0 20 (js_gr 0 8 7 (js_l 3 0)) (js_2 js_add (js_2 js_mul (js_l 1 1) (js_k 24)) (js_l 1 4)))) js_sk)) (js_ii 4 1))
theorem fe_X8_friendBy (z0 z1 z2 : Int) (w : js_Mm) : f_X8_friendBy [z0, z1, z2] w = jv_out 1 ((js_sq (js_s1 1 3 (js_k 0)) (js_sq (js_bk 4 (js_sq (js_s1 1 4 (js_k 0)) (js_wh lc_X8_friendBy_1 lb_X8_friendBy_1))) (js_rv (js_k (-1))))) [(3, z0), (1, z1), (1, z2), (0, 0), (0, 0)] w) := by
  unfold f_X8_friendBy
  rw [jv_me]
  have e : js_ev [3, 1, 1] [z0, z1, z2] 5 = [(3, z0), (1, z1), (1, z2), (0, 0), (0, 0)] := rfl
  rw [e]
  unfold lc_X8_friendBy_1 lb_X8_friendBy_1
  rfl
def lc_X3_settleBarred_1 : js_CC := (js_cp js_lt (js_l 1 2) (js_l 1 1))
def lb_X3_settleBarred_1 : js_SS := (js_sq (js_if (js_cz js_ne (js_2 js_and (js_2 js_shr (js_al 0 20 (js_gr 0 3 3 (js_l 3 0)) (js_l 1 1)) (js_l 1 2)) (js_k 1))) (js_oa 0 20 js_or (js_gr 0 3 5 (js_l 3 0)) (js_l 1 2) (js_2 js_shl (js_k 1) (js_l 1 1))) js_sk) (js_ii 2 1))
theorem fe_X3_settleBarred (z0 z1 : Int) (w : js_Mm) : f_X3_settleBarred [z0, z1] w = jv_out 0 ((js_sq (js_sq (js_pa 0 20 (js_gr 0 3 5 (js_l 3 0)) (js_l 1 1) (js_al 0 20 (js_gr 0 3 3 (js_l 3 0)) (js_l 1 1))) (js_bk 2 (js_sq (js_s1 1 2 (js_k 0)) (js_wh lc_X3_settleBarred_1 lb_X3_settleBarred_1)))) js_r0) [(3, z0), (1, z1), (0, 0)] w) := by
  unfold f_X3_settleBarred
  rw [jv_me]
  have e : js_ev [3, 1] [z0, z1] 3 = [(3, z0), (1, z1), (0, 0)] := rfl
  rw [e]
  unfold lc_X3_settleBarred_1 lb_X3_settleBarred_1
  rfl
def lc_X3_joinOf_1 : js_CC := (js_ca (js_cp js_lt (js_l 1 4) (js_gf 0 3 0 (js_l 3 0))) (js_cp js_ne (js_l 1 1) (js_l 1 2)))
def lb_X3_joinOf_1 : js_SS := (js_sq (js_if (js_cp js_eq (js_al 0 20 (js_gr 0 3 4 (js_l 3 0)) (js_l 1 4)) (js_l 1 3)) (js_rv (js_l 1 4)) js_sk) (js_ii 4 1))
theorem fe_X3_joinOf (z0 z1 z2 : Int) (w : js_Mm) : f_X3_joinOf [z0, z1, z2] w = jv_out 1 ((js_sq (js_s1 1 3 (js_2 js_or (js_2 js_shl (js_k 1) (js_l 1 1)) (js_2 js_shl (js_k 1) (js_l 1 2)))) (js_sq (js_bk 4 (js_sq (js_s1 1 4 (js_k 0)) (js_wh lc_X3_joinOf_1 lb_X3_joinOf_1))) (js_rv (js_k (-1))))) [(3, z0), (1, z1), (1, z2), (0, 0), (0, 0)] w) := by
  unfold f_X3_joinOf
  rw [jv_me]
  have e : js_ev [3, 1, 1] [z0, z1, z2] 5 = [(3, z0), (1, z1), (1, z2), (0, 0), (0, 0)] := rfl
  rw [e]
  unfold lc_X3_joinOf_1 lb_X3_joinOf_1
  rfl
def lc_X3_answersOneOf_1 : js_CC := (js_cp js_lt (js_l 1 3) (js_gf 0 3 0 (js_l 3 0)))
def lb_X3_answersOneOf_1 : js_SS := (js_sq (js_if (js_ca (js_ca (js_cz js_ne (js_2 js_and (js_2 js_shr (js_l 1 2) (js_l 1 3)) (js_k 1))) (js_cp js_ne (js_al 0 20 (js_gr 0 3 1 (js_l 3 0)) (js_l 1 3)) (js_k (-1)))) (js_cp js_eq (js_al 0 20 (js_gr 0 3 1 (js_l 3 0)) (js_l 1 3)) (js_al 0 20 (js_gr 0 3 2 (js_l 3 0)) (js_l 1 1)))) (js_rv (js_k 1)) js_sk) (js_ii 3 1))
theorem fe_X3_answersOneOf (z0 z1 z2 : Int) (w : js_Mm) : f_X3_answersOneOf [z0, z1, z2] w = jv_out 5 ((js_sq (js_bk 3 (js_sq (js_s1 1 3 (js_k 0)) (js_wh lc_X3_answersOneOf_1 lb_X3_answersOneOf_1))) (js_rv (js_k 0))) [(3, z0), (1, z1), (1, z2), (0, 0)] w) := by
  unfold f_X3_answersOneOf
  rw [jv_me]
  have e : js_ev [3, 1, 1] [z0, z1, z2] 4 = [(3, z0), (1, z1), (1, z2), (0, 0)] := rfl
  rw [e]
  unfold lc_X3_answersOneOf_1 lb_X3_answersOneOf_1
  rfl
theorem fe_X0_draw (z0 z1 : Int) (w : js_Mm) : f_X0_draw [z0, z1] w = jv_out 1 ((js_sq (js_pf 0 0 13 (js_l 3 0) (js_dv js_lrem (js_2 js_ladd (js_2 js_lmul (js_gf 0 0 13 (js_l 3 0)) (js_k 1103515245)) (js_k 12345)) (js_k 2147483648))) (js_rv (js_q (js_cz js_gt (js_l 1 1)) (js_1 js_l2i (js_dv js_lrem (js_dv js_ldiv (js_gf 0 0 13 (js_l 3 0)) (js_k 65536)) (js_1 js_i2l (js_l 1 1)))) (js_k 0)))) [(3, z0), (1, z1)] w) := by
  unfold f_X0_draw
  rw [jv_me]
  have e : js_ev [3, 1] [z0, z1] 2 = [(3, z0), (1, z1)] := rfl
  rw [e]
theorem fe_X0_has (z0 z1 z2 : Int) (w : js_Mm) : f_X0_has [z0, z1, z2] w = jv_out 5 ((js_rv (js_q (js_cz js_ne (js_2 js_and (js_2 js_shr (js_al 0 20 (js_gr 0 0 0 (js_l 3 0)) (js_l 1 1)) (js_l 1 2)) (js_k 1))) (js_k 1) (js_k 0))) [(3, z0), (1, z1), (1, z2)] w) := by
  unfold f_X0_has
  rw [jv_me]
  have e : js_ev [3, 1, 1] [z0, z1, z2] 3 = [(3, z0), (1, z1), (1, z2)] := rfl
  rw [e]
theorem fe_X0_take (z0 z1 z2 z3 z4 : Int) (w : js_Mm) : f_X0_take [z0, z1, z2, z3, z4] w = jv_out 0 ((js_sq (js_sq (js_s1 1 5 (js_2 js_add (js_2 js_mul (js_l 1 1) (js_k 6)) (js_l 1 2))) (js_sq (js_oa 0 20 js_or (js_gr 0 0 0 (js_l 3 0)) (js_l 1 1) (js_2 js_shl (js_k 1) (js_l 1 2))) (js_sq (js_oa 0 20 js_or (js_gr 0 0 1 (js_l 3 0)) (js_l 1 1) (js_2 js_shl (js_k 1) (js_l 1 2))) (js_sq (js_pa 0 20 (js_gr 0 0 2 (js_l 3 0)) (js_l 1 5) (js_l 1 3)) (js_sq (js_pa 0 20 (js_gr 0 0 3 (js_l 3 0)) (js_l 1 5) (js_l 1 4)) (js_pa 0 20 (js_gr 0 0 4 (js_l 3 0)) (js_l 1 5) (js_gf 0 0 11 (js_l 3 0)))))))) js_r0) [(3, z0), (1, z1), (1, z2), (1, z3), (1, z4), (0, 0)] w) := by
  unfold f_X0_take
  rw [jv_me]
  have e : js_ev [3, 1, 1, 1, 1] [z0, z1, z2, z3, z4] 6 = [(3, z0), (1, z1), (1, z2), (1, z3), (1, z4), (0, 0)] := rfl
  rw [e]
theorem fe_X0_noteBeginning (z0 z1 z2 : Int) (w : js_Mm) : f_X0_noteBeginning [z0, z1, z2] w = jv_out 0 ((js_sq (js_if (js_cp js_lt (js_gf 0 0 10 (js_l 3 0)) (js_k 40)) (js_sq (js_pa 0 20 (js_gr 0 0 7 (js_l 3 0)) (js_gf 0 0 10 (js_l 3 0)) (js_l 1 1)) (js_sq (js_pa 0 20 (js_gr 0 0 8 (js_l 3 0)) (js_gf 0 0 10 (js_l 3 0)) (js_l 1 2)) (js_sq (js_pa 0 20 (js_gr 0 0 9 (js_l 3 0)) (js_gf 0 0 10 (js_l 3 0)) (js_gf 0 0 11 (js_l 3 0))) (js_of 0 0 10 js_add (js_l 3 0) (js_k 1))))) js_sk) js_r0) [(3, z0), (1, z1), (1, z2)] w) := by
  unfold f_X0_noteBeginning
  rw [jv_me]
  have e : js_ev [3, 1, 1] [z0, z1, z2] 3 = [(3, z0), (1, z1), (1, z2)] := rfl
  rw [e]
def lc_X0_newestOf_1 : js_CC := (js_cp js_lt (js_l 1 3) (js_k 6))
def lb_X0_newestOf_1 : js_SS := (js_sq (js_bk 4 (js_sq (js_s1 1 4 (js_q (js_cz js_ne (js_2 js_and (js_2 js_shr (js_al 0 20 (js_gr 0 0 1 (js_l 3 0)) (js_l 1 1)) (js_l 1 3)) (js_k 1))) (js_k 1) (js_k 0))) (js_if (js_ca (js_cz js_ne (js_l 1 4)) (js_co (js_cp js_eq (js_l 1 2) (js_k (-1))) (js_cp js_ge (js_al 0 20 (js_gr 0 0 4 (js_l 3 0)) (js_2 js_add (js_2 js_mul (js_l 1 1) (js_k 6)) (js_l 1 3))) (js_al 0 20 (js_gr 0 0 4 (js_l 3 0)) (js_2 js_add (js_2 js_mul (js_l 1 1) (js_k 6)) (js_l 1 2)))))) (js_s1 1 2 (js_l 1 3)) js_sk))) (js_ii 3 1))
theorem fe_X0_newestOf (z0 z1 : Int) (w : js_Mm) : f_X0_newestOf [z0, z1] w = jv_out 1 ((js_sq (js_s1 1 2 (js_k (-1))) (js_sq (js_bk 3 (js_sq (js_s1 1 3 (js_k 0)) (js_wh lc_X0_newestOf_1 lb_X0_newestOf_1))) (js_rv (js_l 1 2)))) [(3, z0), (1, z1), (0, 0), (0, 0), (0, 0)] w) := by
  unfold f_X0_newestOf
  rw [jv_me]
  have e : js_ev [3, 1] [z0, z1] 5 = [(3, z0), (1, z1), (0, 0), (0, 0), (0, 0)] := rfl
  rw [e]
  unfold lc_X0_newestOf_1 lb_X0_newestOf_1
  rfl
theorem fe_X0_hearKnown (z0 z1 z2 z3 : Int) (w : js_Mm) : f_X0_hearKnown [z0, z1, z2, z3] w = jv_out 0 ((js_sq (js_sq (js_s1 1 4 (js_2 js_add (js_2 js_mul (js_l 1 1) (js_k 6)) (js_l 1 2))) (js_sq (js_oa 0 20 js_add (js_gr 0 0 5 (js_l 3 0)) (js_l 1 4) (js_k 1)) (js_if (js_cp js_ge (js_al 0 20 (js_gr 0 0 5 (js_l 3 0)) (js_l 1 4)) (js_l 1 3)) (js_oa 0 20 js_and (js_gr 0 0 1 (js_l 3 0)) (js_l 1 1) (js_2 js_xor (js_2 js_shl (js_k 1) (js_l 1 2)) (js_k (-1)))) js_sk))) js_r0) [(3, z0), (1, z1), (1, z2), (1, z3), (0, 0)] w) := by
  unfold f_X0_hearKnown
  rw [jv_me]
  have e : js_ev [3, 1, 1, 1] [z0, z1, z2, z3] 5 = [(3, z0), (1, z1), (1, z2), (1, z3), (0, 0)] := rfl
  rw [e]
def lc_X6_firstOf_1 : js_CC := (js_cp js_lt (js_l 1 1) (js_k 6))
def lb_X6_firstOf_1 : js_SS := (js_sq (js_if (js_cz js_ne (js_2 js_and (js_2 js_shr (js_l 1 0) (js_l 1 1)) (js_k 1))) (js_rv (js_l 1 1)) js_sk) (js_ii 1 1))
theorem fe_X6_firstOf (z0 : Int) (w : js_Mm) : f_X6_firstOf [z0] w = jv_out 1 ((js_sq (js_bk 1 (js_sq (js_s1 1 1 (js_k 0)) (js_wh lc_X6_firstOf_1 lb_X6_firstOf_1))) (js_rv (js_k (-1)))) [(1, z0), (0, 0)] w) := by
  unfold f_X6_firstOf
  rw [jv_me]
  have e : js_ev [1] [z0] 2 = [(1, z0), (0, 0)] := rfl
  rw [e]
  unfold lc_X6_firstOf_1 lb_X6_firstOf_1
  rfl
def lc_X9_comesBy_1 : js_CC := (js_cp js_lt (js_l 1 2) (js_gf 0 9 2 (js_l 3 0)))
def lb_X9_comesBy_1 : js_SS := (js_sq (js_if (js_cp js_eq (js_al 0 20 (js_gr 0 9 1 (js_l 3 0)) (js_l 1 2)) (js_l 1 1)) (js_rv (js_k 1)) js_sk) (js_ii 2 1))
theorem fe_X9_comesBy (z0 z1 : Int) (w : js_Mm) : f_X9_comesBy [z0, z1] w = jv_out 5 ((js_sq (js_bk 2 (js_sq (js_s1 1 2 (js_k 0)) (js_wh lc_X9_comesBy_1 lb_X9_comesBy_1))) (js_rv (js_k 0))) [(3, z0), (1, z1), (0, 0)] w) := by
  unfold f_X9_comesBy
  rw [jv_me]
  have e : js_ev [3, 1] [z0, z1] 3 = [(3, z0), (1, z1), (0, 0)] := rfl
  rw [e]
  unfold lc_X9_comesBy_1 lb_X9_comesBy_1
  rfl
theorem fe_X1_clear (z0 : Int) (w : js_Mm) : f_X1_clear [z0] w = jv_out 0 ((js_sq (js_pf 0 1 0 (js_l 3 0) (js_k 0)) js_r0) [(3, z0)] w) := by
  unfold f_X1_clear
  rw [jv_me]
  have e : js_ev [3] [z0] 1 = [(3, z0)] := rfl
  rw [e]
theorem fe_X1_has (z0 z1 : Int) (w : js_Mm) : f_X1_has [z0, z1] w = jv_out 5 ((js_rv (js_q (js_cz js_ne (js_2 js_and (js_2 js_shr (js_gf 0 1 0 (js_l 3 0)) (js_l 1 1)) (js_k 1))) (js_k 1) (js_k 0))) [(3, z0), (1, z1)] w) := by
  unfold f_X1_has
  rw [jv_me]
  have e : js_ev [3, 1] [z0, z1] 2 = [(3, z0), (1, z1)] := rfl
  rw [e]
def lc_X4_tellOf_1 : js_CC := (js_cp js_lt (js_l 1 4) (js_k 10))
def lb_X4_tellOf_1 : js_SS := (js_sq (js_if (js_cz js_ne (js_2 js_and (js_2 js_shr (js_l 1 1) (js_l 1 4)) (js_k 1))) (js_s1 1 3 (js_dv js_div (js_2 js_mul (js_l 1 3) (js_al 0 20 (js_gr 0 4 1 (js_l 3 0)) (js_2 js_add (js_2 js_mul (js_l 1 2) (js_k 10)) (js_l 1 4)))) (js_k 1000))) js_sk) (js_ii 4 1))
theorem fe_X4_tellOf (z0 z1 z2 : Int) (w : js_Mm) : f_X4_tellOf [z0, z1, z2] w = jv_out 1 ((js_sq (js_s1 1 3 (js_k 1000)) (js_sq (js_bk 4 (js_sq (js_s1 1 4 (js_k 0)) (js_wh lc_X4_tellOf_1 lb_X4_tellOf_1))) (js_rv (js_2 js_sub (js_k 1000) (js_l 1 3))))) [(3, z0), (1, z1), (1, z2), (0, 0), (0, 0)] w) := by
  unfold f_X4_tellOf
  rw [jv_me]
  have e : js_ev [3, 1, 1] [z0, z1, z2] 5 = [(3, z0), (1, z1), (1, z2), (0, 0), (0, 0)] := rfl
  rw [e]
  unfold lc_X4_tellOf_1 lb_X4_tellOf_1
  rfl
def lc_X4_partBy_1 : js_CC := (js_ca (js_cp js_lt (js_l 1 4) (js_l 1 3)) (js_cp js_lt (js_gf 0 4 5 (js_l 3 0)) (js_k 512)))
def lb_X4_partBy_1 : js_SS := (js_sq (js_bk 5 (js_sq (js_s2 5 (js_dv js_ldiv (js_2 js_lmul (js_al 0 21 (js_gr 0 4 4 (js_l 3 0)) (js_l 1 4)) (js_1 js_i2l (js_l 1 2))) (js_k 1000))) (js_if (js_cp js_ne (js_l 2 5) (js_k 0)) (js_sq (js_oa 0 21 js_lsub (js_gr 0 4 4 (js_l 3 0)) (js_l 1 4) (js_l 2 5)) (js_sq (js_pa 0 20 (js_gr 0 4 3 (js_l 3 0)) (js_gf 0 4 5 (js_l 3 0)) (js_2 js_or (js_al 0 20 (js_gr 0 4 3 (js_l 3 0)) (js_l 1 4)) (js_2 js_shl (js_k 1) (js_l 1 1)))) (js_sq (js_pa 0 21 (js_gr 0 4 4 (js_l 3 0)) (js_gf 0 4 5 (js_l 3 0)) (js_l 2 5)) (js_of 0 4 5 js_add (js_l 3 0) (js_k 1))))) js_sk))) (js_ii 4 1))
theorem fe_X4_partBy (z0 z1 z2 : Int) (w : js_Mm) : f_X4_partBy [z0, z1, z2] w = jv_out 0 ((js_sq (js_sq (js_if (js_cz js_eq (js_l 1 2)) js_r0 js_sk) (js_sq (js_s1 1 3 (js_gf 0 4 5 (js_l 3 0))) (js_bk 4 (js_sq (js_s1 1 4 (js_k 0)) (js_wh lc_X4_partBy_1 lb_X4_partBy_1))))) js_r0) [(3, z0), (1, z1), (1, z2), (0, 0), (0, 0), (0, 0), (0, 0)] w) := by
  unfold f_X4_partBy
  rw [jv_me]
  have e : js_ev [3, 1, 1] [z0, z1, z2] 7 = [(3, z0), (1, z1), (1, z2), (0, 0), (0, 0), (0, 0), (0, 0)] := rfl
  rw [e]
  unfold lc_X4_partBy_1 lb_X4_partBy_1
  rfl
theorem fe_X2_lay (z0 z1 z2 z3 : Int) (w : js_Mm) : f_X2_lay [z0, z1, z2, z3] w = jv_out 1 ((js_sq (js_s1 1 4 (js_al 0 20 (js_gr 0 2 0 (js_l 3 0)) (js_2 js_add (js_2 js_mul (js_l 1 1) (js_k 12)) (js_l 1 2)))) (js_sq (js_pa 0 20 (js_gr 0 2 0 (js_l 3 0)) (js_2 js_add (js_2 js_mul (js_l 1 1) (js_k 12)) (js_l 1 2)) (js_l 1 3)) (js_sq (js_pa 0 20 (js_gr 0 2 0 (js_l 3 0)) (js_2 js_add (js_2 js_mul (js_l 1 2) (js_k 12)) (js_l 1 1)) (js_l 1 3)) (js_rv (js_l 1 4))))) [(3, z0), (1, z1), (1, z2), (1, z3), (0, 0)] w) := by
  unfold f_X2_lay
  rw [jv_me]
  have e : js_ev [3, 1, 1, 1] [z0, z1, z2, z3] 5 = [(3, z0), (1, z1), (1, z2), (1, z3), (0, 0)] := rfl
  rw [e]
theorem fe_X2_hear (z0 z1 z2 : Int) (w : js_Mm) : f_X2_hear [z0, z1, z2] w = jv_out 1 ((js_sq (js_if (js_cp js_eq (js_al 0 20 (js_gr 0 2 2 (js_l 3 0)) (js_l 1 1)) (js_k (-1))) (js_of 0 2 3 js_add (js_l 3 0) (js_k 1)) js_sk) (js_sq (js_pa 0 20 (js_gr 0 2 2 (js_l 3 0)) (js_l 1 1) (js_l 1 2)) (js_rv (js_gf 0 2 3 (js_l 3 0))))) [(3, z0), (1, z1), (1, z2)] w) := by
  unfold f_X2_hear
  rw [jv_me]
  have e : js_ev [3, 1, 1] [z0, z1, z2] 3 = [(3, z0), (1, z1), (1, z2)] := rfl
  rw [e]
def lc_X2_reachesReports_1 : js_CC := (js_cp js_lt (js_l 1 2) (js_k 12))
def lb_X2_reachesReports_1 : js_SS := (js_sq (js_if (js_ca (js_cp js_ne (js_al 0 20 (js_gr 0 2 2 (js_l 3 0)) (js_l 1 2)) (js_k (-1))) (js_cp js_ge (js_al 0 20 (js_gr 0 2 1 (js_l 3 0)) (js_2 js_add (js_2 js_mul (js_l 1 1) (js_k 12)) (js_l 1 2))) (js_k 1000000))) (js_rv (js_k 0)) js_sk) (js_ii 2 1))
theorem fe_X2_reachesReports (z0 z1 : Int) (w : js_Mm) : f_X2_reachesReports [z0, z1] w = jv_out 5 ((js_sq (js_bk 2 (js_sq (js_s1 1 2 (js_k 0)) (js_wh lc_X2_reachesReports_1 lb_X2_reachesReports_1))) (js_rv (js_k 1))) [(3, z0), (1, z1), (0, 0)] w) := by
  unfold f_X2_reachesReports
  rw [jv_me]
  have e : js_ev [3, 1] [z0, z1] 3 = [(3, z0), (1, z1), (0, 0)] := rfl
  rw [e]
  unfold lc_X2_reachesReports_1 lb_X2_reachesReports_1
  rfl
theorem fe_X2_farness (z0 z1 z2 z3 : Int) (w : js_Mm) : f_X2_farness [z0, z1, z2, z3] w = jv_out 1 ((js_rv (js_dv js_div (js_2 js_mul (js_al 0 20 (js_gr 0 2 1 (js_l 3 0)) (js_2 js_add (js_2 js_mul (js_l 1 1) (js_k 12)) (js_l 1 2))) (js_l 1 3)) (js_k 10))) [(3, z0), (1, z1), (1, z2), (1, z3)] w) := by
  unfold f_X2_farness
  rw [jv_me]
  have e : js_ev [3, 1, 1, 1] [z0, z1, z2, z3] 4 = [(3, z0), (1, z1), (1, z2), (1, z3)] := rfl
  rw [e]
theorem fe_X11_in (z0 z1 z2 : Int) (w : js_Mm) : f_X11_in [z0, z1, z2] w = jv_out 5 ((js_rv (js_q (js_ca (js_cp js_ge (js_l 2 0) (js_l 2 2)) (js_cp js_le (js_l 2 0) (js_l 2 4))) (js_k 1) (js_k 0))) [(2, z0), (0, 0), (2, z1), (0, 0), (2, z2), (0, 0)] w) := by
  unfold f_X11_in
  rw [jv_me]
  have e : js_ev [2, 2, 2] [z0, z1, z2] 6 = [(2, z0), (0, 0), (2, z1), (0, 0), (2, z2), (0, 0)] := rfl
  rw [e]
theorem fe_X11_one (z0 : Int) (w : js_Mm) : f_X11_one [z0] w = jv_out 1 ((js_rv (js_q (js_cz js_ne (js_l 1 0)) (js_k 1) (js_k 0))) [(1, z0)] w) := by
  unfold f_X11_one
  rw [jv_me]
  have e : js_ev [1] [z0] 1 = [(1, z0)] := rfl
  rw [e]
theorem fe_X11_has (z0 z1 : Int) (w : js_Mm) : f_X11_has [z0, z1] w = jv_out 5 ((js_rv (js_q (js_cp js_eq (js_2 js_and (js_2 js_shr (js_l 1 0) (js_l 1 1)) (js_k 1)) (js_k 1)) (js_k 1) (js_k 0))) [(1, z0), (1, z1)] w) := by
  unfold f_X11_has
  rw [jv_me]
  have e : js_ev [1, 1] [z0, z1] 2 = [(1, z0), (1, z1)] := rfl
  rw [e]
def lc_X11_ones_1 : js_CC := (js_cp js_lt (js_l 1 2) (js_k 24))
def lb_X11_ones_1 : js_SS := (js_sq (js_s1 1 1 (js_2 js_add (js_l 1 1) (js_2 js_and (js_2 js_shr (js_l 1 0) (js_l 1 2)) (js_k 1)))) (js_ii 2 1))
theorem fe_X11_ones (z0 : Int) (w : js_Mm) : f_X11_ones [z0] w = jv_out 1 ((js_sq (js_s1 1 1 (js_k 0)) (js_sq (js_bk 2 (js_sq (js_s1 1 2 (js_k 0)) (js_wh lc_X11_ones_1 lb_X11_ones_1))) (js_rv (js_l 1 1)))) [(1, z0), (0, 0), (0, 0)] w) := by
  unfold f_X11_ones
  rw [jv_me]
  have e : js_ev [1] [z0] 3 = [(1, z0), (0, 0), (0, 0)] := rfl
  rw [e]
  unfold lc_X11_ones_1 lb_X11_ones_1
  rfl
def lc_X11_here_1 : js_CC := (js_ca (js_cp js_lt (js_gf 1 11 20 (js_l 3 0)) (js_gf 1 11 19 (js_l 3 0))) (js_cp js_eq (js_al 1 20 (js_gr 1 11 18 (js_l 3 0)) (js_gf 1 11 20 (js_l 3 0))) (js_k 32)))
def lb_X11_here_1 : js_SS := (js_of 1 11 20 js_add (js_l 3 0) (js_k 1))
theorem fe_X11_here (z0 : Int) (w : js_Mm) : f_X11_here [z0] w = jv_out 1 ((js_sq (js_wh lc_X11_here_1 lb_X11_here_1) (js_rv (js_q (js_cp js_lt (js_gf 1 11 20 (js_l 3 0)) (js_gf 1 11 19 (js_l 3 0))) (js_al 1 20 (js_gr 1 11 18 (js_l 3 0)) (js_gf 1 11 20 (js_l 3 0))) (js_k (-1))))) [(3, z0)] w) := by
  unfold f_X11_here
  rw [jv_me]
  have e : js_ev [3] [z0] 1 = [(3, z0)] := rfl
  rw [e]
  unfold lc_X11_here_1 lb_X11_here_1
  rfl
theorem fe_X11_want (z0 z1 z2 z3 : Int) (w : js_Mm) : f_X11_want [z0, z1, z2, z3] w = jv_out 5 ((js_sq (js_if (js_ca (js_cn (js_cz js_ne (js_l 1 1))) (js_cz js_eq (js_gf 1 11 23 (js_l 3 0)))) (js_sq (js_pf 1 11 23 (js_l 3 0) (js_l 1 2)) (js_pf 1 11 24 (js_l 3 0) (js_l 1 3))) js_sk) (js_rv (js_q (js_cz js_eq (js_gf 1 11 23 (js_l 3 0))) (js_k 1) (js_k 0)))) [(3, z0), (1, z1), (1, z2), (1, z3)] w) := by
  unfold f_X11_want
  rw [jv_me]
  have e : js_ev [3, 1, 1, 1] [z0, z1, z2, z3] 4 = [(3, z0), (1, z1), (1, z2), (1, z3)] := rfl
  rw [e]
def lc_X11_isWord_1 : js_CC := (js_ca (js_ca (js_cp js_lt (js_l 1 7) (js_l 1 1)) (js_cp js_lt (js_l 1 7) (js_k 4))) (js_cz js_ne (js_l 1 6)))
def lb_X11_isWord_1 : js_SS := (js_sq (js_s1 1 6 (js_q (js_cp js_eq (js_al 1 20 (js_gr 1 11 18 (js_l 3 0)) (js_2 js_add (js_gf 1 11 21 (js_l 3 0)) (js_l 1 7))) (js_q (js_cz js_eq (js_l 1 7)) (js_l 1 2) (js_q (js_cp js_eq (js_l 1 7) (js_k 1)) (js_l 1 3) (js_q (js_cp js_eq (js_l 1 7) (js_k 2)) (js_l 1 4) (js_l 1 5))))) (js_k 1) (js_k 0))) (js_ii 7 1))
theorem fe_X11_isWord (z0 z1 z2 z3 z4 z5 : Int) (w : js_Mm) : f_X11_isWord [z0, z1, z2, z3, z4, z5] w = jv_out 5 ((js_sq (js_s1 1 6 (js_q (js_cp js_eq (js_gf 1 11 22 (js_l 3 0)) (js_l 1 1)) (js_k 1) (js_k 0))) (js_sq (js_bk 7 (js_sq (js_s1 1 7 (js_k 0)) (js_wh lc_X11_isWord_1 lb_X11_isWord_1))) (js_rv (js_l 1 6)))) [(3, z0), (1, z1), (1, z2), (1, z3), (1, z4), (1, z5), (0, 0), (0, 0)] w) := by
  unfold f_X11_isWord
  rw [jv_me]
  have e : js_ev [3, 1, 1, 1, 1, 1] [z0, z1, z2, z3, z4, z5] 8 = [(3, z0), (1, z1), (1, z2), (1, z3), (1, z4), (1, z5), (0, 0), (0, 0)] := rfl
  rw [e]
  unfold lc_X11_isWord_1 lb_X11_isWord_1
  rfl
def lc_X11_isTail_1 : js_CC := (js_ca (js_cp js_lt (js_l 1 5) (js_gf 1 11 22 (js_l 3 0))) (js_cz js_ne (js_l 1 4)))
def lb_X11_isTail_1 : js_SS := (js_sq (js_s1 1 4 (js_q (js_cp js_eq (js_al 1 20 (js_gr 1 11 18 (js_l 3 0)) (js_2 js_add (js_gf 1 11 21 (js_l 3 0)) (js_l 1 5))) (js_q (js_cp js_eq (js_l 1 5) (js_k 4)) (js_l 1 1) (js_q (js_cp js_eq (js_l 1 5) (js_k 5)) (js_l 1 2) (js_l 1 3)))) (js_k 1) (js_k 0))) (js_ii 5 1))
theorem fe_X11_isTail (z0 z1 z2 z3 : Int) (w : js_Mm) : f_X11_isTail [z0, z1, z2, z3] w = jv_out 5 ((js_sq (js_s1 1 4 (js_k 1)) (js_sq (js_bk 5 (js_sq (js_s1 1 5 (js_k 4)) (js_wh lc_X11_isTail_1 lb_X11_isTail_1))) (js_rv (js_l 1 4)))) [(3, z0), (1, z1), (1, z2), (1, z3), (0, 0), (0, 0)] w) := by
  unfold f_X11_isTail
  rw [jv_me]
  have e : js_ev [3, 1, 1, 1] [z0, z1, z2, z3] 6 = [(3, z0), (1, z1), (1, z2), (1, z3), (0, 0), (0, 0)] := rfl
  rw [e]
  unfold lc_X11_isTail_1 lb_X11_isTail_1
  rfl
theorem fe_X11_beginReading (z0 : Int) (w : js_Mm) : f_X11_beginReading [z0] w = jv_out 0 ((js_sq (js_sq (js_pf 1 11 20 (js_l 3 0) (js_k 0)) (js_sq (js_pf 1 11 23 (js_l 3 0) (js_k 0)) (js_pf 1 11 24 (js_l 3 0) (js_k (-1))))) js_r0) [(3, z0)] w) := by
  unfold f_X11_beginReading
  rw [jv_me]
  have e : js_ev [3] [z0] 1 = [(3, z0)] := rfl
  rw [e]
def lc_X11_clearRow_1 : js_CC := (js_cp js_lt (js_l 1 2) (js_k 1000))
def lb_X11_clearRow_1 : js_SS := (js_sq (js_pa 1 20 (js_gr 1 11 0 (js_l 3 0)) (js_l 1 2) (js_k 0)) (js_ii 2 1))
theorem fe_X11_clearRow (z0 : Int) (w : js_Mm) : f_X11_clearRow [z0] w = jv_out 0 ((js_sq (js_sq (js_s1 1 1 (js_al 1 20 (js_gr 1 11 0 (js_l 3 0)) (js_k 866))) (js_sq (js_bk 2 (js_sq (js_s1 1 2 (js_k 0)) (js_wh lc_X11_clearRow_1 lb_X11_clearRow_1))) (js_sq (js_pa 1 20 (js_gr 1 11 0 (js_l 3 0)) (js_k 866) (js_l 1 1)) (js_sq (js_pa 1 23 (js_gr 1 11 1 (js_l 3 0)) (js_k 0) (js_k 0)) (js_pa 1 23 (js_gr 1 11 1 (js_l 3 0)) (js_k 1) (js_k 0)))))) js_r0) [(3, z0), (0, 0), (0, 0)] w) := by
  unfold f_X11_clearRow
  rw [jv_me]
  have e : js_ev [3] [z0] 3 = [(3, z0), (0, 0), (0, 0)] := rfl
  rw [e]
  unfold lc_X11_clearRow_1 lb_X11_clearRow_1
  rfl
theorem fe_X11_fault (z0 : Int) (w : js_Mm) : f_X11_fault [z0] w = jv_out 1 ((js_rv (js_gf 1 11 24 (js_l 3 0))) [(3, z0)] w) := by
  unfold f_X11_fault
  rw [jv_me]
  have e : js_ev [3] [z0] 1 = [(3, z0)] := rfl
  rw [e]
theorem fe_X11_isOf (z0 z1 z2 : Int) (w : js_Mm) : f_X11_isOf [z0, z1, z2] w = jv_out 5 ((js_rv (js_q (js_co (js_cp js_eq (js_al 1 20 (js_gr 1 11 8 (js_l 3 0)) (js_l 1 1)) (js_l 1 2)) (js_cp js_eq (js_al 1 20 (js_gr 1 11 9 (js_l 3 0)) (js_l 1 1)) (js_l 1 2))) (js_k 1) (js_k 0))) [(3, z0), (1, z1), (1, z2)] w) := by
  unfold f_X11_isOf
  rw [jv_me]
  have e : js_ev [3, 1, 1] [z0, z1, z2] 3 = [(3, z0), (1, z1), (1, z2)] := rfl
  rw [e]
def lc_X11_joinOf_1 : js_CC := (js_cp js_lt (js_l 1 3) (js_al 1 20 (js_gr 1 11 17 (js_l 3 0)) (js_k 0)))
def lb_X11_joinOf_1 : js_SS := (js_sq (js_if (js_co (js_ca (js_cp js_eq (js_al 1 20 (js_gr 1 11 15 (js_l 3 0)) (js_l 1 3)) (js_l 1 1)) (js_cp js_eq (js_al 1 20 (js_gr 1 11 16 (js_l 3 0)) (js_l 1 3)) (js_l 1 2))) (js_ca (js_cp js_eq (js_al 1 20 (js_gr 1 11 15 (js_l 3 0)) (js_l 1 3)) (js_l 1 2)) (js_cp js_eq (js_al 1 20 (js_gr 1 11 16 (js_l 3 0)) (js_l 1 3)) (js_l 1 1)))) (js_rv (js_l 1 3)) js_sk) (js_ii 3 1))
theorem fe_X11_joinOf (z0 z1 z2 : Int) (w : js_Mm) : f_X11_joinOf [z0, z1, z2] w = jv_out 1 ((js_sq (js_bk 3 (js_sq (js_s1 1 3 (js_k 0)) (js_wh lc_X11_joinOf_1 lb_X11_joinOf_1))) (js_rv (js_k (-1)))) [(3, z0), (1, z1), (1, z2), (0, 0)] w) := by
  unfold f_X11_joinOf
  rw [jv_me]
  have e : js_ev [3, 1, 1] [z0, z1, z2] 4 = [(3, z0), (1, z1), (1, z2), (0, 0)] := rfl
  rw [e]
  unfold lc_X11_joinOf_1 lb_X11_joinOf_1
  rfl
theorem fe_X11_cell (z0 z1 : Int) (w : js_Mm) : f_X11_cell [z0, z1] w = jv_out 1 ((js_rv (js_2 js_add (js_2 js_mul (js_k 6) (js_l 1 0)) (js_l 1 1))) [(1, z0), (1, z1)] w) := by
  unfold f_X11_cell
  rw [jv_me]
  have e : js_ev [1, 1] [z0, z1] 2 = [(1, z0), (1, z1)] := rfl
  rw [e]
theorem fe_X11_draw (z0 z1 z2 : Int) (w : js_Mm) : f_X11_draw [z0, z1, z2] w = jv_out 1 ((js_sq (js_pa 1 20 (js_gr 1 11 0 (js_l 3 0)) (js_2 js_add (js_l 1 1) (js_k 866)) (js_1 js_l2i (js_dv js_lrem (js_2 js_ladd (js_2 js_lmul (js_1 js_i2l (js_al 1 20 (js_gr 1 11 0 (js_l 3 0)) (js_2 js_add (js_l 1 1) (js_k 866)))) (js_k 1103515245)) (js_k 12345)) (js_k 2147483648)))) (js_rv (js_dv js_rem (js_dv js_div (js_al 1 20 (js_gr 1 11 0 (js_l 3 0)) (js_2 js_add (js_l 1 1) (js_k 866))) (js_k 65536)) (js_l 1 2)))) [(3, z0), (1, z1), (1, z2)] w) := by
  unfold f_X11_draw
  rw [jv_me]
  have e : js_ev [3, 1, 1] [z0, z1, z2] 3 = [(3, z0), (1, z1), (1, z2)] := rfl
  rw [e]
def lc_X11_isOnWay_1 : js_CC := (js_cp js_lt (js_l 1 3) (js_gf 1 11 26 (js_l 3 0)))
def lb_X11_isOnWay_1 : js_SS := (js_sq (js_s1 1 2 (js_q (js_co (js_cz js_ne (js_l 1 2)) (js_cp js_eq (js_al 1 20 (js_gr 1 11 25 (js_l 3 0)) (js_l 1 3)) (js_l 1 1))) (js_k 1) (js_k 0))) (js_ii 3 1))
theorem fe_X11_isOnWay (z0 z1 : Int) (w : js_Mm) : f_X11_isOnWay [z0, z1] w = jv_out 5 ((js_sq (js_s1 1 2 (js_k 0)) (js_sq (js_bk 3 (js_sq (js_s1 1 3 (js_k 0)) (js_wh lc_X11_isOnWay_1 lb_X11_isOnWay_1))) (js_rv (js_l 1 2)))) [(3, z0), (1, z1), (0, 0), (0, 0)] w) := by
  unfold f_X11_isOnWay
  rw [jv_me]
  have e : js_ev [3, 1] [z0, z1] 4 = [(3, z0), (1, z1), (0, 0), (0, 0)] := rfl
  rw [e]
  unfold lc_X11_isOnWay_1 lb_X11_isOnWay_1
  rfl
def lc_X11_freshen_1 : js_CC := (js_cp js_lt (js_l 1 2) (js_k 866))
def lb_X11_freshen_1 : js_SS := (js_sq (js_pa 1 20 (js_gr 1 11 0 (js_l 3 0)) (js_2 js_add (js_l 1 1) (js_l 1 2)) (js_k 0)) (js_ii 2 1))
theorem fe_X11_freshen (z0 z1 : Int) (w : js_Mm) : f_X11_freshen [z0, z1] w = jv_out 0 ((js_sq (js_bk 2 (js_sq (js_s1 1 2 (js_k 0)) (js_wh lc_X11_freshen_1 lb_X11_freshen_1))) js_r0) [(3, z0), (1, z1), (0, 0)] w) := by
  unfold f_X11_freshen
  rw [jv_me]
  have e : js_ev [3, 1] [z0, z1] 3 = [(3, z0), (1, z1), (0, 0)] := rfl
  rw [e]
  unfold lc_X11_freshen_1 lb_X11_freshen_1
  rfl
theorem fe_X11_net (z0 : Int) (w : js_Mm) : f_X11_net [z0] w = jv_out 1 ((js_rv (js_q (js_cp js_lt (js_al 1 20 (js_gr 1 11 7 (js_l 3 0)) (js_k 0)) (js_k 10)) (js_al 1 20 (js_gr 1 11 7 (js_l 3 0)) (js_k 0)) (js_k 10))) [(3, z0)] w) := by
  unfold f_X11_net
  rw [jv_me]
  have e : js_ev [3] [z0] 1 = [(3, z0)] := rfl
  rw [e]
def lc_X11_findDays_1 : js_CC := (js_cp js_lt (js_l 1 1) (js_k 144))
def lb_X11_findDays_1 : js_SS := (js_sq (js_pa 1 20 (js_gr 1 11 35 (js_l 3 0)) (js_l 1 1) (js_q (js_cp js_eq (js_dv js_div (js_l 1 1) (js_k 12)) (js_dv js_rem (js_l 1 1) (js_k 12))) (js_k 0) (js_q (js_cz js_gt (js_al 1 20 (js_gr 1 11 34 (js_l 3 0)) (js_l 1 1))) (js_al 1 20 (js_gr 1 11 34 (js_l 3 0)) (js_l 1 1)) (js_k 100000)))) (js_ii 1 1))
def lc_X11_findDays_2 : js_CC := (js_cp js_lt (js_l 1 2) (js_k 144))
def lb_X11_findDays_2 : js_SS := (js_sq (js_bk 3 (js_sq (js_s1 1 3 (js_2 js_add (js_al 1 20 (js_gr 1 11 35 (js_l 3 0)) (js_2 js_add (js_2 js_mul (js_dv js_div (js_l 1 2) (js_k 12)) (js_k 12)) (js_l 1 1))) (js_al 1 20 (js_gr 1 11 35 (js_l 3 0)) (js_2 js_add (js_2 js_mul (js_k 12) (js_l 1 1)) (js_dv js_rem (js_l 1 2) (js_k 12)))))) (js_pa 1 20 (js_gr 1 11 35 (js_l 3 0)) (js_l 1 2) (js_q (js_cp js_lt (js_l 1 3) (js_al 1 20 (js_gr 1 11 35 (js_l 3 0)) (js_l 1 2))) (js_l 1 3) (js_al 1 20 (js_gr 1 11 35 (js_l 3 0)) (js_l 1 2)))))) (js_ii 2 1))
def lc_X11_findDays_3 : js_CC := (js_cp js_lt (js_l 1 1) (js_k 12))
def lb_X11_findDays_3 : js_SS := (js_sq (js_bk 2 (js_sq (js_s1 1 2 (js_k 0)) (js_wh lc_X11_findDays_2 lb_X11_findDays_2))) (js_ii 1 1))
theorem fe_X11_findDays (z0 : Int) (w : js_Mm) : f_X11_findDays [z0] w = jv_out 0 ((js_sq (js_sq (js_bk 1 (js_sq (js_s1 1 1 (js_k 0)) (js_wh lc_X11_findDays_1 lb_X11_findDays_1))) (js_bk 1 (js_sq (js_s1 1 1 (js_k 0)) (js_wh lc_X11_findDays_3 lb_X11_findDays_3)))) js_r0) [(3, z0), (0, 0), (0, 0), (0, 0)] w) := by
  unfold f_X11_findDays
  rw [jv_me]
  have e : js_ev [3] [z0] 4 = [(3, z0), (0, 0), (0, 0), (0, 0)] := rfl
  rw [e]
  unfold lc_X11_findDays_3 lb_X11_findDays_3 lc_X11_findDays_2 lb_X11_findDays_2 lc_X11_findDays_1 lb_X11_findDays_1
  rfl
def lc_X11_copy_1 : js_CC := (js_cp js_lt (js_l 1 3) (js_k 1000))
def lb_X11_copy_1 : js_SS := (js_sq (js_pa 1 20 (js_gr 1 11 0 (js_l 3 0)) (js_2 js_add (js_l 1 2) (js_l 1 3)) (js_al 1 20 (js_gr 1 11 0 (js_l 3 0)) (js_2 js_add (js_l 1 1) (js_l 1 3)))) (js_ii 3 1))
theorem fe_X11_copy (z0 z1 z2 : Int) (w : js_Mm) : f_X11_copy [z0, z1, z2] w = jv_out 0 ((js_sq (js_bk 3 (js_sq (js_s1 1 3 (js_k 0)) (js_wh lc_X11_copy_1 lb_X11_copy_1))) js_r0) [(3, z0), (1, z1), (1, z2), (0, 0)] w) := by
  unfold f_X11_copy
  rw [jv_me]
  have e : js_ev [3, 1, 1] [z0, z1, z2] 4 = [(3, z0), (1, z1), (1, z2), (0, 0)] := rfl
  rw [e]
  unfold lc_X11_copy_1 lb_X11_copy_1
  rfl
theorem fe_X11_seed (z0 z1 : Int) (w : js_Mm) : f_X11_seed [z0, z1] w = jv_out 1 ((js_sq (js_if (js_cz js_lt (js_l 1 1)) (js_rv (js_k (-1000002))) js_sk) (js_sq (js_s1 1 2 (js_al 1 20 (js_gr 1 11 0 (js_l 3 0)) (js_k 866))) (js_sq (js_pa 1 20 (js_gr 1 11 0 (js_l 3 0)) (js_k 866) (js_l 1 1)) (js_rv (js_l 1 2))))) [(3, z0), (1, z1), (0, 0)] w) := by
  unfold f_X11_seed
  rw [jv_me]
  have e : js_ev [3, 1] [z0, z1] 3 = [(3, z0), (1, z1), (0, 0)] := rfl
  rw [e]
def lc_X10_feed_1 : js_CC := (js_cz js_ge (js_l 1 4))
def lb_X10_feed_1 : js_SS := (js_sq (js_ex (js_cv 0 7 f_X7_append [(js_gr 0 10 0 (js_l 3 0)), (js_1 js_i2c (js_1 js_l2i (js_2 js_land (js_2 js_lshr (js_l 2 2) (js_2 js_mul (js_k 8) (js_l 1 4))) (js_k 255))))])) (js_ii 4 (-1)))
theorem fe_X10_feed (z0 z1 z2 : Int) (w : js_Mm) : f_X10_feed [z0, z1, z2] w = jv_out 1 ((js_sq (js_if (js_co (js_cp js_lt (js_l 1 1) (js_k 1)) (js_cp js_gt (js_l 1 1) (js_k 8))) (js_rv (js_k (-1000002))) js_sk) (js_sq (js_if (js_cp js_gt (js_2 js_add (js_gf 0 7 1 (js_gr 0 10 0 (js_l 3 0))) (js_l 1 1)) (js_k 600)) (js_rv (js_k (-1000004))) js_sk) (js_sq (js_bk 4 (js_sq (js_s1 1 4 (js_2 js_sub (js_l 1 1) (js_k 1))) (js_wh lc_X10_feed_1 lb_X10_feed_1))) (js_rv (js_gf 0 7 1 (js_gr 0 10 0 (js_l 3 0))))))) [(3, z0), (1, z1), (2, z2), (0, 0), (0, 0)] w) := by
  unfold f_X10_feed
  rw [jv_me]
  have e : js_ev [3, 1, 2] [z0, z1, z2] 5 = [(3, z0), (1, z1), (2, z2), (0, 0), (0, 0)] := rfl
  rw [e]
  unfold lc_X10_feed_1 lb_X10_feed_1
  rfl
theorem fe_X10_person (z0 z1 z2 : Int) (w : js_Mm) : f_X10_person [z0, z1, z2] w = jv_out 1 ((js_sq (js_if (js_cn (js_cz js_ne (js_cv 0 10 f_X10_isPerson [(js_l 3 0), (js_l 1 1)]))) (js_rv (js_k (-1000001))) js_sk) (js_sw (js_l 1 2) [(0, (js_rv (js_al 0 20 (js_gr 0 8 3 (js_gr 0 10 1 (js_l 3 0))) (js_l 1 1)))), (1, (js_rv (js_2 js_and (js_2 js_shr (js_gf 0 8 2 (js_gr 0 10 1 (js_l 3 0))) (js_l 1 1)) (js_k 1)))), (2, (js_rv (js_al 0 20 (js_gr 0 8 4 (js_gr 0 10 1 (js_l 3 0))) (js_l 1 1)))), (3, (js_rv (js_al 0 20 (js_gr 0 8 5 (js_gr 0 10 1 (js_l 3 0))) (js_l 1 1)))), (4, (js_rv (js_al 0 20 (js_gr 0 8 6 (js_gr 0 10 1 (js_l 3 0))) (js_l 1 1))))] (js_rv (js_k (-1000002))))) [(3, z0), (1, z1), (1, z2)] w) := by
  unfold f_X10_person
  rw [jv_me]
  have e : js_ev [3, 1, 1] [z0, z1, z2] 3 = [(3, z0), (1, z1), (1, z2)] := rfl
  rw [e]
theorem fe_X10_tie (z0 z1 z2 : Int) (w : js_Mm) : f_X10_tie [z0, z1, z2] w = jv_out 1 ((js_rv (js_q (js_ca (js_cz js_ne (js_cv 0 10 f_X10_isPerson [(js_l 3 0), (js_l 1 1)])) (js_cz js_ne (js_cv 0 10 f_X10_isPerson [(js_l 3 0), (js_l 1 2)]))) (js_cv 0 8 f_X8_strengthOf [(js_gr 0 10 1 (js_l 3 0)), (js_l 1 1), (js_l 1 2)]) (js_k (-1000001)))) [(3, z0), (1, z1), (1, z2)] w) := by
  unfold f_X10_tie
  rw [jv_me]
  have e : js_ev [3, 1, 1] [z0, z1, z2] 3 = [(3, z0), (1, z1), (1, z2)] := rfl
  rw [e]
theorem fe_X10_saying (z0 z1 z2 : Int) (w : js_Mm) : f_X10_saying [z0, z1, z2] w = jv_out 1 ((js_sq (js_if (js_cn (js_cz js_ne (js_cv 0 10 f_X10_isSaying [(js_l 3 0), (js_l 1 1)]))) (js_rv (js_k (-1000001))) js_sk) (js_sw (js_l 1 2) [(0, (js_rv (js_al 0 20 (js_gr 0 3 1 (js_gr 0 10 3 (js_l 3 0))) (js_l 1 1)))), (1, (js_rv (js_al 0 20 (js_gr 0 3 2 (js_gr 0 10 3 (js_l 3 0))) (js_l 1 1)))), (2, (js_rv (js_al 0 20 (js_gr 0 3 3 (js_gr 0 10 3 (js_l 3 0))) (js_l 1 1))))] (js_rv (js_k (-1000002))))) [(3, z0), (1, z1), (1, z2)] w) := by
  unfold f_X10_saying
  rw [jv_me]
  have e : js_ev [3, 1, 1] [z0, z1, z2] 3 = [(3, z0), (1, z1), (1, z2)] := rfl
  rw [e]
theorem fe_X10_pair (z0 z1 z2 z3 : Int) (w : js_Mm) : f_X10_pair [z0, z1, z2, z3] w = jv_out 1 ((js_sq (js_if (js_co (js_cn (js_cz js_ne (js_cv 0 10 f_X10_isSaying [(js_l 3 0), (js_l 1 1)]))) (js_cn (js_cz js_ne (js_cv 0 10 f_X10_isSaying [(js_l 3 0), (js_l 1 2)])))) (js_rv (js_k (-1000001))) js_sk) (js_sw (js_l 1 3) [(0, (js_rv (js_2 js_and (js_2 js_shr (js_al 0 20 (js_gr 0 3 5 (js_gr 0 10 3 (js_l 3 0))) (js_l 1 1)) (js_l 1 2)) (js_k 1)))), (1, (js_rv (js_cv 0 3 f_X3_joinOf [(js_gr 0 10 3 (js_l 3 0)), (js_l 1 1), (js_l 1 2)])))] (js_rv (js_k (-1000002))))) [(3, z0), (1, z1), (1, z2), (1, z3)] w) := by
  unfold f_X10_pair
  rw [jv_me]
  have e : js_ev [3, 1, 1, 1] [z0, z1, z2, z3] 4 = [(3, z0), (1, z1), (1, z2), (1, z3)] := rfl
  rw [e]
theorem fe_X10_road (z0 z1 z2 z3 : Int) (w : js_Mm) : f_X10_road [z0, z1, z2, z3] w = jv_out 1 ((js_sq (js_if (js_co (js_co (js_co (js_co (js_cn (js_cz js_ne (js_cs f_X10_isMarket [(js_l 1 1)]))) (js_cn (js_cz js_ne (js_cs f_X10_isMarket [(js_l 1 2)])))) (js_cp js_eq (js_l 1 1) (js_l 1 2))) (js_cz js_lt (js_l 1 3))) (js_cp js_gt (js_l 1 3) (js_k 30))) (js_rv (js_k (-1000002))) js_sk) (js_rv (js_cv 0 2 f_X2_lay [(js_gr 0 10 14 (js_l 3 0)), (js_l 1 1), (js_l 1 2), (js_l 1 3)]))) [(3, z0), (1, z1), (1, z2), (1, z3)] w) := by
  unfold f_X10_road
  rw [jv_me]
  have e : js_ev [3, 1, 1, 1] [z0, z1, z2, z3] 4 = [(3, z0), (1, z1), (1, z2), (1, z3)] := rfl
  rw [e]
theorem fe_X10_report (z0 z1 z2 : Int) (w : js_Mm) : f_X10_report [z0, z1, z2] w = jv_out 1 ((js_rv (js_q (js_co (js_co (js_cn (js_cz js_ne (js_cs f_X10_isMarket [(js_l 1 1)]))) (js_cz js_lt (js_l 1 2))) (js_cp js_gt (js_l 1 2) (js_k 999))) (js_k (-1000002)) (js_cv 0 2 f_X2_hear [(js_gr 0 10 14 (js_l 3 0)), (js_l 1 1), (js_l 1 2)]))) [(3, z0), (1, z1), (1, z2)] w) := by
  unfold f_X10_report
  rw [jv_me]
  have e : js_ev [3, 1, 1] [z0, z1, z2] 3 = [(3, z0), (1, z1), (1, z2)] := rfl
  rw [e]
def lc_X7_step_1 : js_CC := (js_ca (js_cp js_lt (js_gf 0 7 3 (js_l 3 0)) (js_gf 0 7 1 (js_l 3 0))) (js_cp js_eq (js_al 0 22 (js_gr 0 7 0 (js_l 3 0)) (js_gf 0 7 3 (js_l 3 0))) (js_k 32)))
def lb_X7_step_1 : js_SS := (js_of 0 7 3 js_add (js_l 3 0) (js_k 1))
def lc_X7_step_2 : js_CC := (js_ca (js_cp js_lt (js_gf 0 7 4 (js_l 3 0)) (js_gf 0 7 1 (js_l 3 0))) (js_cz js_ne (js_cv 0 7 f_X7_isLetter [(js_l 3 0), (js_gf 0 7 4 (js_l 3 0))])))
def lb_X7_step_2 : js_SS := (js_of 0 7 4 js_add (js_l 3 0) (js_k 1))
theorem fe_X7_step (z0 : Int) (w : js_Mm) : f_X7_step [z0] w = jv_out 0 ((js_sq (js_sq (js_if (js_cz js_ne (js_gf 0 7 6 (js_l 3 0))) js_r0 js_sk) (js_sq (js_pf 0 7 3 (js_l 3 0) (js_gf 0 7 4 (js_l 3 0))) (js_sq (js_wh lc_X7_step_1 lb_X7_step_1) (js_sq (js_pf 0 7 4 (js_l 3 0) (js_gf 0 7 3 (js_l 3 0))) (js_if (js_cp js_ge (js_gf 0 7 3 (js_l 3 0)) (js_gf 0 7 1 (js_l 3 0))) (js_pf 0 7 2 (js_l 3 0) (js_k 0)) (js_if (js_cz js_ne (js_cv 0 7 f_X7_isLetter [(js_l 3 0), (js_gf 0 7 3 (js_l 3 0))])) (js_sq (js_pf 0 7 2 (js_l 3 0) (js_k 1)) (js_wh lc_X7_step_2 lb_X7_step_2)) (js_if (js_cz js_ne (js_cv 0 7 f_X7_isFigure [(js_l 3 0), (js_gf 0 7 3 (js_l 3 0))])) (js_sq (js_pf 0 7 2 (js_l 3 0) (js_k 2)) (js_ex (js_cv 0 7 f_X7_readFigures [(js_l 3 0)]))) (js_sq (js_pf 0 7 2 (js_l 3 0) (js_k 3)) (js_of 0 7 4 js_add (js_l 3 0) (js_k 1)))))))))) js_r0) [(3, z0)] w) := by
  unfold f_X7_step
  rw [jv_me]
  have e : js_ev [3] [z0] 1 = [(3, z0)] := rfl
  rw [e]
  unfold lc_X7_step_2 lb_X7_step_2 lc_X7_step_1 lb_X7_step_1
  rfl
theorem fe_X7_lookNumber (z0 z1 z2 : Int) (w : js_Mm) : f_X7_lookNumber [z0, z1, z2] w = jv_out 1 ((js_sq (js_if (js_cp js_ne (js_gf 0 7 2 (js_l 3 0)) (js_k 2)) (js_ex (js_cv 0 7 f_X7_blame [(js_l 3 0), (js_k 1)])) (js_if (js_co (js_co (js_cp js_gt (js_2 js_sub (js_gf 0 7 4 (js_l 3 0)) (js_gf 0 7 3 (js_l 3 0))) (js_k 3)) (js_cp js_lt (js_gf 0 7 5 (js_l 3 0)) (js_l 1 1))) (js_cp js_gt (js_gf 0 7 5 (js_l 3 0)) (js_l 1 2))) (js_ex (js_cv 0 7 f_X7_blame [(js_l 3 0), (js_k 2)])) js_sk)) (js_rv (js_q (js_cz js_eq (js_gf 0 7 6 (js_l 3 0))) (js_gf 0 7 5 (js_l 3 0)) (js_l 1 1)))) [(3, z0), (1, z1), (1, z2)] w) := by
  unfold f_X7_lookNumber
  rw [jv_me]
  have e : js_ev [3, 1, 1] [z0, z1, z2] 3 = [(3, z0), (1, z1), (1, z2)] := rfl
  rw [e]
theorem fe_X8_copyFrom (z0 z1 : Int) (w : js_Mm) : f_X8_copyFrom [z0, z1] w = jv_out 0 ((js_sq (js_sq (js_pf 0 8 0 (js_l 3 0) (js_gf 0 8 0 (js_l 3 1))) (js_sq (js_pf 0 8 1 (js_l 3 0) (js_gf 0 8 1 (js_l 3 1))) (js_sq (js_pf 0 8 2 (js_l 3 0) (js_gf 0 8 2 (js_l 3 1))) (js_sq (js_ac 0 (js_gr 0 8 3 (js_l 3 1)) (js_k 0) (js_gr 0 8 3 (js_l 3 0)) (js_k 0) (js_k 24)) (js_sq (js_ac 0 (js_gr 0 8 4 (js_l 3 1)) (js_k 0) (js_gr 0 8 4 (js_l 3 0)) (js_k 0) (js_k 24)) (js_sq (js_ac 0 (js_gr 0 8 5 (js_l 3 1)) (js_k 0) (js_gr 0 8 5 (js_l 3 0)) (js_k 0) (js_k 24)) (js_sq (js_ac 0 (js_gr 0 8 6 (js_l 3 1)) (js_k 0) (js_gr 0 8 6 (js_l 3 0)) (js_k 0) (js_k 24)) (js_sq (js_ac 0 (js_gr 0 8 7 (js_l 3 1)) (js_k 0) (js_gr 0 8 7 (js_l 3 0)) (js_k 0) (js_k 576)) (js_ac 0 (js_gr 0 8 8 (js_l 3 1)) (js_k 0) (js_gr 0 8 8 (js_l 3 0)) (js_k 0) (js_k 576)))))))))) js_r0) [(3, z0), (3, z1)] w) := by
  unfold f_X8_copyFrom
  rw [jv_me]
  have e : js_ev [3, 3] [z0, z1] 2 = [(3, z0), (3, z1)] := rfl
  rw [e]
theorem fe_X3_copyFrom (z0 z1 : Int) (w : js_Mm) : f_X3_copyFrom [z0, z1] w = jv_out 0 ((js_sq (js_sq (js_pf 0 3 0 (js_l 3 0) (js_gf 0 3 0 (js_l 3 1))) (js_sq (js_ac 0 (js_gr 0 3 1 (js_l 3 1)) (js_k 0) (js_gr 0 3 1 (js_l 3 0)) (js_k 0) (js_k 6)) (js_sq (js_ac 0 (js_gr 0 3 2 (js_l 3 1)) (js_k 0) (js_gr 0 3 2 (js_l 3 0)) (js_k 0) (js_k 6)) (js_sq (js_ac 0 (js_gr 0 3 3 (js_l 3 1)) (js_k 0) (js_gr 0 3 3 (js_l 3 0)) (js_k 0) (js_k 6)) (js_sq (js_ac 0 (js_gr 0 3 4 (js_l 3 1)) (js_k 0) (js_gr 0 3 4 (js_l 3 0)) (js_k 0) (js_k 6)) (js_ac 0 (js_gr 0 3 5 (js_l 3 1)) (js_k 0) (js_gr 0 3 5 (js_l 3 0)) (js_k 0) (js_k 6))))))) js_r0) [(3, z0), (3, z1)] w) := by
  unfold f_X3_copyFrom
  rw [jv_me]
  have e : js_ev [3, 3] [z0, z1] 2 = [(3, z0), (3, z1)] := rfl
  rw [e]
theorem fe_X0_clear (z0 : Int) (w : js_Mm) : f_X0_clear [z0] w = jv_out 0 ((js_sq (js_sq (js_ex (js_cs f_J7_fill_53178 [(js_gr 0 0 0 (js_l 3 0)), (js_k 0)])) (js_sq (js_ex (js_cs f_J7_fill_53178 [(js_gr 0 0 1 (js_l 3 0)), (js_k 0)])) (js_sq (js_ex (js_cs f_J7_fill_53178 [(js_gr 0 0 5 (js_l 3 0)), (js_k 0)])) (js_sq (js_ex (js_cs f_J7_fill_53178 [(js_gr 0 0 6 (js_l 3 0)), (js_k 0)])) (js_sq (js_pf 0 0 10 (js_l 3 0) (js_k 0)) (js_sq (js_pf 0 0 11 (js_l 3 0) (js_k 0)) (js_pf 0 0 12 (js_l 3 0) (js_k 0)))))))) js_r0) [(3, z0)] w) := by
  unfold f_X0_clear
  rw [jv_me]
  have e : js_ev [3] [z0] 1 = [(3, z0)] := rfl
  rw [e]
theorem fe_X0_copyFrom (z0 z1 : Int) (w : js_Mm) : f_X0_copyFrom [z0, z1] w = jv_out 0 ((js_sq (js_sq (js_ac 0 (js_gr 0 0 0 (js_l 3 1)) (js_k 0) (js_gr 0 0 0 (js_l 3 0)) (js_k 0) (js_k 24)) (js_sq (js_ac 0 (js_gr 0 0 1 (js_l 3 1)) (js_k 0) (js_gr 0 0 1 (js_l 3 0)) (js_k 0) (js_k 24)) (js_sq (js_ac 0 (js_gr 0 0 2 (js_l 3 1)) (js_k 0) (js_gr 0 0 2 (js_l 3 0)) (js_k 0) (js_k 144)) (js_sq (js_ac 0 (js_gr 0 0 3 (js_l 3 1)) (js_k 0) (js_gr 0 0 3 (js_l 3 0)) (js_k 0) (js_k 144)) (js_sq (js_ac 0 (js_gr 0 0 4 (js_l 3 1)) (js_k 0) (js_gr 0 0 4 (js_l 3 0)) (js_k 0) (js_k 144)) (js_sq (js_ac 0 (js_gr 0 0 5 (js_l 3 1)) (js_k 0) (js_gr 0 0 5 (js_l 3 0)) (js_k 0) (js_k 144)) (js_sq (js_ac 0 (js_gr 0 0 6 (js_l 3 1)) (js_k 0) (js_gr 0 0 6 (js_l 3 0)) (js_k 0) (js_k 144)) (js_sq (js_ac 0 (js_gr 0 0 7 (js_l 3 1)) (js_k 0) (js_gr 0 0 7 (js_l 3 0)) (js_k 0) (js_k 40)) (js_sq (js_ac 0 (js_gr 0 0 8 (js_l 3 1)) (js_k 0) (js_gr 0 0 8 (js_l 3 0)) (js_k 0) (js_k 40)) (js_sq (js_ac 0 (js_gr 0 0 9 (js_l 3 1)) (js_k 0) (js_gr 0 0 9 (js_l 3 0)) (js_k 0) (js_k 40)) (js_sq (js_pf 0 0 10 (js_l 3 0) (js_gf 0 0 10 (js_l 3 1))) (js_sq (js_pf 0 0 11 (js_l 3 0) (js_gf 0 0 11 (js_l 3 1))) (js_sq (js_pf 0 0 12 (js_l 3 0) (js_gf 0 0 12 (js_l 3 1))) (js_pf 0 0 13 (js_l 3 0) (js_gf 0 0 13 (js_l 3 1)))))))))))))))) js_r0) [(3, z0), (3, z1)] w) := by
  unfold f_X0_copyFrom
  rw [jv_me]
  have e : js_ev [3, 3] [z0, z1] 2 = [(3, z0), (3, z1)] := rfl
  rw [e]
theorem fe_X0_stateOf (z0 z1 z2 : Int) (w : js_Mm) : f_X0_stateOf [z0, z1, z2] w = jv_out 1 ((js_sq (js_if (js_cn (js_cz js_ne (js_cv 0 0 f_X0_has [(js_l 3 0), (js_l 1 1), (js_l 1 2)]))) (js_rv (js_k 0)) js_sk) (js_rv (js_q (js_cz js_ne (js_2 js_and (js_2 js_shr (js_al 0 20 (js_gr 0 0 1 (js_l 3 0)) (js_l 1 1)) (js_l 1 2)) (js_k 1))) (js_k 1) (js_k 2)))) [(3, z0), (1, z1), (1, z2)] w) := by
  unfold f_X0_stateOf
  rw [jv_me]
  have e : js_ev [3, 1, 1] [z0, z1, z2] 3 = [(3, z0), (1, z1), (1, z2)] := rfl
  rw [e]
def lc_X0_setOf_1 : js_CC := (js_ca (js_cp js_lt (js_l 1 4) (js_l 1 2)) (js_cp js_lt (js_l 1 4) (js_k 24)))
def lb_X0_setOf_1 : js_SS := (js_sq (js_if (js_cz js_ne (js_cv 0 0 f_X0_has [(js_l 3 0), (js_l 1 4), (js_l 1 1)])) (js_s1 1 3 (js_2 js_or (js_l 1 3) (js_2 js_shl (js_k 1) (js_l 1 4)))) js_sk) (js_ii 4 1))
theorem fe_X0_setOf (z0 z1 z2 : Int) (w : js_Mm) : f_X0_setOf [z0, z1, z2] w = jv_out 1 ((js_sq (js_s1 1 3 (js_k 0)) (js_sq (js_bk 4 (js_sq (js_s1 1 4 (js_k 0)) (js_wh lc_X0_setOf_1 lb_X0_setOf_1))) (js_rv (js_l 1 3)))) [(3, z0), (1, z1), (1, z2), (0, 0), (0, 0)] w) := by
  unfold f_X0_setOf
  rw [jv_me]
  have e : js_ev [3, 1, 1] [z0, z1, z2] 5 = [(3, z0), (1, z1), (1, z2), (0, 0), (0, 0)] := rfl
  rw [e]
  unfold lc_X0_setOf_1 lb_X0_setOf_1
  rfl
def lc_X0_beginAsIn_1 : js_CC := (js_cp js_lt (js_l 1 3) (js_gf 0 0 10 (js_l 3 1)))
def lb_X0_beginAsIn_1 : js_SS := (js_sq (js_bk 4 (js_sq (js_s1 1 4 (js_al 0 20 (js_gr 0 0 7 (js_l 3 1)) (js_l 1 3))) (js_sq (js_s1 1 5 (js_al 0 20 (js_gr 0 0 8 (js_l 3 1)) (js_l 1 3))) (js_if (js_ca (js_ca (js_cp js_eq (js_al 0 20 (js_gr 0 0 9 (js_l 3 1)) (js_l 1 3)) (js_gf 0 0 11 (js_l 3 0))) (js_cz js_ne (js_2 js_and (js_2 js_shr (js_l 1 2) (js_l 1 5)) (js_k 1)))) (js_cn (js_cz js_ne (js_cv 0 0 f_X0_has [(js_l 3 0), (js_l 1 4), (js_l 1 5)])))) (js_ex (js_cv 0 0 f_X0_take [(js_l 3 0), (js_l 1 4), (js_l 1 5), (js_k (-2)), (js_l 1 5)])) js_sk)))) (js_ii 3 1))
theorem fe_X0_beginAsIn (z0 z1 z2 : Int) (w : js_Mm) : f_X0_beginAsIn [z0, z1, z2] w = jv_out 0 ((js_sq (js_bk 3 (js_sq (js_s1 1 3 (js_k 0)) (js_wh lc_X0_beginAsIn_1 lb_X0_beginAsIn_1))) js_r0) [(3, z0), (3, z1), (1, z2), (0, 0), (0, 0), (0, 0)] w) := by
  unfold f_X0_beginAsIn
  rw [jv_me]
  have e : js_ev [3, 3, 1] [z0, z1, z2] 6 = [(3, z0), (3, z1), (1, z2), (0, 0), (0, 0), (0, 0)] := rfl
  rw [e]
  unfold lc_X0_beginAsIn_1 lb_X0_beginAsIn_1
  rfl
theorem fe_X6_joins (z0 z1 z2 z3 z4 : Int) (w : js_Mm) : f_X6_joins [z0, z1, z2, z3, z4] w = jv_out 5 ((js_sq (js_s1 1 5 (js_cs f_X6_firstOf [(js_2 js_and (js_al 0 20 (js_gr 0 0 0 (js_l 3 1)) (js_l 1 3)) (js_al 0 20 (js_gr 0 3 5 (js_gr 0 6 1 (js_l 3 0))) (js_l 1 4)))])) (js_sq (js_s1 1 6 (js_q (js_cp js_eq (js_l 1 5) (js_k (-1))) (js_k (-1)) (js_cv 0 3 f_X3_joinOf [(js_gr 0 6 1 (js_l 3 0)), (js_l 1 4), (js_l 1 5)]))) (js_sq (js_if (js_co (js_cp js_eq (js_l 1 6) (js_k (-1))) (js_cz js_ne (js_cv 0 0 f_X0_has [(js_l 3 1), (js_l 1 3), (js_l 1 6)]))) (js_sq (js_of 0 0 12 js_add (js_l 3 1) (js_k 1)) (js_rv (js_k 0))) js_sk) (js_sq (js_ex (js_cv 0 0 f_X0_take [(js_l 3 1), (js_l 1 3), (js_l 1 6), (js_l 1 2), (js_l 1 4)])) (js_rv (js_k 1)))))) [(3, z0), (3, z1), (1, z2), (1, z3), (1, z4), (0, 0), (0, 0)] w) := by
  unfold f_X6_joins
  rw [jv_me]
  have e : js_ev [3, 3, 1, 1, 1] [z0, z1, z2, z3, z4] 7 = [(3, z0), (3, z1), (1, z2), (1, z3), (1, z4), (0, 0), (0, 0)] := rfl
  rw [e]
theorem fe_X6_heedFor (z0 z1 z2 z3 : Int) (w : js_Mm) : f_X6_heedFor [z0, z1, z2, z3] w = jv_out 1 ((js_sq (js_s1 1 4 (js_q (js_cz js_ne (js_cv 0 3 f_X3_answersOneOf [(js_gr 0 6 1 (js_l 3 0)), (js_l 1 3), (js_al 0 20 (js_gr 0 0 0 (js_l 3 1)) (js_l 1 2))])) (js_gf 0 5 1 (js_gr 0 6 2 (js_l 3 0))) (js_k 0))) (js_rv (js_2 js_min (js_k 100) (js_2 js_add (js_al 0 20 (js_gr 0 8 3 (js_gr 0 6 0 (js_l 3 0))) (js_l 1 2)) (js_l 1 4))))) [(3, z0), (3, z1), (1, z2), (1, z3), (0, 0)] w) := by
  unfold f_X6_heedFor
  rw [jv_me]
  have e : js_ev [3, 3, 1, 1] [z0, z1, z2, z3] 5 = [(3, z0), (3, z1), (1, z2), (1, z3), (0, 0)] := rfl
  rw [e]
def lc_X6_post_1 : js_CC := (js_cp js_lt (js_l 1 6) (js_gf 0 8 0 (js_gr 0 6 0 (js_l 3 0))))
def lb_X6_post_1 : js_SS := (js_sq (js_if (js_ca (js_cp js_eq (js_al 0 20 (js_gr 0 8 4 (js_gr 0 6 0 (js_l 3 0))) (js_l 1 6)) (js_l 1 2)) (js_cp js_lt (js_cv 0 0 f_X0_draw [(js_l 3 1), (js_k 100)]) (js_l 1 4))) (js_sq (js_if (js_cn (js_cz js_ne (js_cv 0 0 f_X0_has [(js_l 3 1), (js_l 1 6), (js_l 1 3)]))) (js_sq (js_ex (js_cv 0 0 f_X0_take [(js_l 3 1), (js_l 1 6), (js_l 1 3), (js_k 24), (js_l 1 3)])) (js_ii 5 1)) js_sk) (js_oa 0 20 js_and (js_gr 0 0 1 (js_l 3 1)) (js_l 1 6) (js_2 js_xor (js_al 0 20 (js_gr 0 3 5 (js_gr 0 6 1 (js_l 3 0))) (js_l 1 3)) (js_k (-1))))) js_sk) (js_ii 6 1))
theorem fe_X6_post (z0 z1 z2 z3 z4 : Int) (w : js_Mm) : f_X6_post [z0, z1, z2, z3, z4] w = jv_out 1 ((js_sq (js_s1 1 5 (js_k 0)) (js_sq (js_bk 6 (js_sq (js_s1 1 6 (js_k 0)) (js_wh lc_X6_post_1 lb_X6_post_1))) (js_rv (js_l 1 5)))) [(3, z0), (3, z1), (1, z2), (1, z3), (1, z4), (0, 0), (0, 0)] w) := by
  unfold f_X6_post
  rw [jv_me]
  have e : js_ev [3, 3, 1, 1, 1] [z0, z1, z2, z3, z4] 7 = [(3, z0), (3, z1), (1, z2), (1, z3), (1, z4), (0, 0), (0, 0)] := rfl
  rw [e]
  unfold lc_X6_post_1 lb_X6_post_1
  rfl
def lc_X9_trace_1 : js_CC := (js_ca (js_ca (js_cp js_lt (js_l 1 5) (js_k 144)) (js_cz js_ge (js_l 1 3))) (js_cp js_lt (js_l 1 3) (js_k 24)))
def lb_X9_trace_1 : js_SS := (js_sq (js_bk 6 (js_sq (js_if (js_cn (js_cz js_ne (js_cv 0 0 f_X0_has [(js_gr 0 9 0 (js_l 3 0)), (js_l 1 3), (js_l 1 4)]))) js_r0 js_sk) (js_sq (js_pa 0 20 (js_gr 0 9 1 (js_l 3 0)) (js_gf 0 9 2 (js_l 3 0)) (js_l 1 3)) (js_sq (js_of 0 9 2 js_add (js_l 3 0) (js_k 1)) (js_sq (js_s1 1 6 (js_2 js_add (js_2 js_mul (js_l 1 3) (js_k 6)) (js_l 1 4))) (js_sq (js_s1 1 3 (js_al 0 20 (js_gr 0 0 2 (js_gr 0 9 0 (js_l 3 0))) (js_l 1 6))) (js_s1 1 4 (js_al 0 20 (js_gr 0 0 3 (js_gr 0 9 0 (js_l 3 0))) (js_l 1 6))))))))) (js_ii 5 1))
theorem fe_X9_trace (z0 z1 z2 : Int) (w : js_Mm) : f_X9_trace [z0, z1, z2] w = jv_out 0 ((js_sq (js_sq (js_s1 1 3 (js_l 1 1)) (js_sq (js_s1 1 4 (js_l 1 2)) (js_sq (js_pf 0 9 2 (js_l 3 0) (js_k 0)) (js_bk 5 (js_sq (js_s1 1 5 (js_k 0)) (js_wh lc_X9_trace_1 lb_X9_trace_1)))))) js_r0) [(3, z0), (1, z1), (1, z2), (0, 0), (0, 0), (0, 0), (0, 0)] w) := by
  unfold f_X9_trace
  rw [jv_me]
  have e : js_ev [3, 1, 1] [z0, z1, z2] 7 = [(3, z0), (1, z1), (1, z2), (0, 0), (0, 0), (0, 0), (0, 0)] := rfl
  rw [e]
  unfold lc_X9_trace_1 lb_X9_trace_1
  rfl
theorem fe_X1_number (z0 : Int) (w : js_Mm) : f_X1_number [z0] w = jv_out 1 ((js_rv (js_cs f_J6_bitCount_0f7a4 [(js_gf 0 1 0 (js_l 3 0))])) [(3, z0)] w) := by
  unfold f_X1_number
  rw [jv_me]
  have e : js_ev [3] [z0] 1 = [(3, z0)] := rfl
  rw [e]
def lc_X1_endOf_1 : js_CC := (js_cp js_le (js_l 1 3) (js_k 24))
def lb_X1_endOf_1 : js_SS := (js_sq (js_sq (js_if (js_co (js_cz js_lt (js_l 1 2)) (js_cp js_ge (js_l 1 2) (js_k 24))) (js_rv (js_k (-1))) js_sk) (js_sq (js_if (js_co (js_cn (js_cz js_ne (js_cv 0 1 f_X1_has [(js_l 3 0), (js_l 1 2)]))) (js_cp js_eq (js_al 0 20 (js_gr 0 1 1 (js_l 3 0)) (js_l 1 2)) (js_k (-2)))) (js_rv (js_l 1 2)) js_sk) (js_s1 1 2 (js_al 0 20 (js_gr 0 1 1 (js_l 3 0)) (js_l 1 2))))) (js_ii 3 1))
theorem fe_X1_endOf (z0 z1 : Int) (w : js_Mm) : f_X1_endOf [z0, z1] w = jv_out 1 ((js_sq (js_s1 1 2 (js_l 1 1)) (js_sq (js_bk 3 (js_sq (js_s1 1 3 (js_k 0)) (js_wh lc_X1_endOf_1 lb_X1_endOf_1))) (js_rv (js_k (-1))))) [(3, z0), (1, z1), (0, 0), (0, 0)] w) := by
  unfold f_X1_endOf
  rw [jv_me]
  have e : js_ev [3, 1] [z0, z1] 4 = [(3, z0), (1, z1), (0, 0), (0, 0)] := rfl
  rw [e]
  unfold lc_X1_endOf_1 lb_X1_endOf_1
  rfl
theorem fe_X1_isTooEarly (z0 z1 : Int) (w : js_Mm) : f_X1_isTooEarly [z0, z1] w = jv_out 5 ((js_sq (js_s1 1 2 (js_al 0 20 (js_gr 0 1 1 (js_l 3 0)) (js_l 1 1))) (js_rv (js_q (js_ca (js_ca (js_ca (js_cz js_ge (js_l 1 2)) (js_cp js_lt (js_l 1 2) (js_k 24))) (js_cz js_ne (js_cv 0 1 f_X1_has [(js_l 3 0), (js_l 1 2)]))) (js_cp js_ge (js_al 0 20 (js_gr 0 1 2 (js_l 3 0)) (js_l 1 2)) (js_al 0 20 (js_gr 0 1 2 (js_l 3 0)) (js_l 1 1)))) (js_k 1) (js_k 0)))) [(3, z0), (1, z1), (0, 0)] w) := by
  unfold f_X1_isTooEarly
  rw [jv_me]
  have e : js_ev [3, 1] [z0, z1] 3 = [(3, z0), (1, z1), (0, 0)] := rfl
  rw [e]
theorem fe_X4_size (z0 : Int) (w : js_Mm) : f_X4_size [z0] w = jv_out 1 ((js_rv (js_2 js_min (js_k 10) (js_gf 0 8 0 (js_gr 0 4 0 (js_l 3 0))))) [(3, z0)] w) := by
  unfold f_X4_size
  rw [jv_me]
  have e : js_ev [3] [z0] 1 = [(3, z0)] := rfl
  rw [e]
theorem fe_X2_hush (z0 : Int) (w : js_Mm) : f_X2_hush [z0] w = jv_out 0 ((js_sq (js_sq (js_ex (js_cs f_J7_fill_53178 [(js_gr 0 2 2 (js_l 3 0)), (js_k (-1))])) (js_pf 0 2 3 (js_l 3 0) (js_k 0))) js_r0) [(3, z0)] w) := by
  unfold f_X2_hush
  rw [jv_me]
  have e : js_ev [3] [z0] 1 = [(3, z0)] := rfl
  rw [e]
def lc_X2_measure_1 : js_CC := (js_cp js_lt (js_l 1 2) (js_k 12))
def lb_X2_measure_1 : js_SS := (js_sq (js_bk 3 (js_sq (js_s1 1 3 (js_al 0 20 (js_gr 0 2 0 (js_l 3 0)) (js_2 js_add (js_2 js_mul (js_l 1 1) (js_k 12)) (js_l 1 2)))) (js_pa 0 20 (js_gr 0 2 1 (js_l 3 0)) (js_2 js_add (js_2 js_mul (js_l 1 1) (js_k 12)) (js_l 1 2)) (js_q (js_cp js_eq (js_l 1 1) (js_l 1 2)) (js_k 0) (js_q (js_cz js_eq (js_l 1 3)) (js_k 1000000) (js_l 1 3)))))) (js_ii 2 1))
def lc_X2_measure_2 : js_CC := (js_cp js_lt (js_l 1 1) (js_k 12))
def lb_X2_measure_2 : js_SS := (js_sq (js_bk 2 (js_sq (js_s1 1 2 (js_k 0)) (js_wh lc_X2_measure_1 lb_X2_measure_1))) (js_ii 1 1))
def lc_X2_measure_3 : js_CC := (js_cp js_lt (js_l 1 3) (js_k 12))
def lb_X2_measure_3 : js_SS := (js_sq (js_bk 4 (js_sq (js_s1 1 4 (js_2 js_add (js_al 0 20 (js_gr 0 2 1 (js_l 3 0)) (js_2 js_add (js_2 js_mul (js_l 1 2) (js_k 12)) (js_l 1 1))) (js_al 0 20 (js_gr 0 2 1 (js_l 3 0)) (js_2 js_add (js_2 js_mul (js_l 1 1) (js_k 12)) (js_l 1 3))))) (js_pa 0 20 (js_gr 0 2 1 (js_l 3 0)) (js_2 js_add (js_2 js_mul (js_l 1 2) (js_k 12)) (js_l 1 3)) (js_2 js_min (js_al 0 20 (js_gr 0 2 1 (js_l 3 0)) (js_2 js_add (js_2 js_mul (js_l 1 2) (js_k 12)) (js_l 1 3))) (js_l 1 4))))) (js_ii 3 1))
def lc_X2_measure_4 : js_CC := (js_cp js_lt (js_l 1 2) (js_k 12))
def lb_X2_measure_4 : js_SS := (js_sq (js_bk 3 (js_sq (js_s1 1 3 (js_k 0)) (js_wh lc_X2_measure_3 lb_X2_measure_3))) (js_ii 2 1))
def lc_X2_measure_5 : js_CC := (js_cp js_lt (js_l 1 1) (js_k 12))
def lb_X2_measure_5 : js_SS := (js_sq (js_bk 2 (js_sq (js_s1 1 2 (js_k 0)) (js_wh lc_X2_measure_4 lb_X2_measure_4))) (js_ii 1 1))
theorem fe_X2_measure (z0 : Int) (w : js_Mm) : f_X2_measure [z0] w = jv_out 0 ((js_sq (js_sq (js_bk 1 (js_sq (js_s1 1 1 (js_k 0)) (js_wh lc_X2_measure_2 lb_X2_measure_2))) (js_bk 1 (js_sq (js_s1 1 1 (js_k 0)) (js_wh lc_X2_measure_5 lb_X2_measure_5)))) js_r0) [(3, z0), (0, 0), (0, 0), (0, 0), (0, 0)] w) := by
  unfold f_X2_measure
  rw [jv_me]
  have e : js_ev [3] [z0] 5 = [(3, z0), (0, 0), (0, 0), (0, 0), (0, 0)] := rfl
  rw [e]
  unfold lc_X2_measure_5 lb_X2_measure_5 lc_X2_measure_4 lb_X2_measure_4 lc_X2_measure_3 lb_X2_measure_3 lc_X2_measure_2 lb_X2_measure_2 lc_X2_measure_1 lb_X2_measure_1
  rfl
def lc_X2_latestStart_1 : js_CC := (js_cp js_lt (js_l 1 4) (js_k 12))
def lb_X2_latestStart_1 : js_SS := (js_sq (js_if (js_cp js_ne (js_al 0 20 (js_gr 0 2 2 (js_l 3 0)) (js_l 1 4)) (js_k (-1))) (js_s1 1 3 (js_2 js_min (js_l 1 3) (js_2 js_sub (js_al 0 20 (js_gr 0 2 2 (js_l 3 0)) (js_l 1 4)) (js_cv 0 2 f_X2_farness [(js_l 3 0), (js_l 1 1), (js_l 1 4), (js_l 1 2)])))) js_sk) (js_ii 4 1))
theorem fe_X2_latestStart (z0 z1 z2 : Int) (w : js_Mm) : f_X2_latestStart [z0, z1, z2] w = jv_out 1 ((js_sq (js_s1 1 3 (js_k 999)) (js_sq (js_bk 4 (js_sq (js_s1 1 4 (js_k 0)) (js_wh lc_X2_latestStart_1 lb_X2_latestStart_1))) (js_rv (js_l 1 3)))) [(3, z0), (1, z1), (1, z2), (0, 0), (0, 0)] w) := by
  unfold f_X2_latestStart
  rw [jv_me]
  have e : js_ev [3, 1, 1] [z0, z1, z2] 5 = [(3, z0), (1, z1), (1, z2), (0, 0), (0, 0)] := rfl
  rw [e]
  unfold lc_X2_latestStart_1 lb_X2_latestStart_1
  rfl
def lc_X2_latenessOf_1 : js_CC := (js_cp js_lt (js_l 1 5) (js_k 12))
def lb_X2_latenessOf_1 : js_SS := (js_sq (js_if (js_cp js_ne (js_al 0 20 (js_gr 0 2 2 (js_l 3 0)) (js_l 1 5)) (js_k (-1))) (js_s1 1 4 (js_2 js_add (js_l 1 4) (js_2 js_sub (js_2 js_sub (js_al 0 20 (js_gr 0 2 2 (js_l 3 0)) (js_l 1 5)) (js_l 1 3)) (js_cv 0 2 f_X2_farness [(js_l 3 0), (js_l 1 1), (js_l 1 5), (js_l 1 2)])))) js_sk) (js_ii 5 1))
theorem fe_X2_latenessOf (z0 z1 z2 z3 : Int) (w : js_Mm) : f_X2_latenessOf [z0, z1, z2, z3] w = jv_out 1 ((js_sq (js_s1 1 4 (js_k 0)) (js_sq (js_bk 5 (js_sq (js_s1 1 5 (js_k 0)) (js_wh lc_X2_latenessOf_1 lb_X2_latenessOf_1))) (js_rv (js_l 1 4)))) [(3, z0), (1, z1), (1, z2), (1, z3), (0, 0), (0, 0)] w) := by
  unfold f_X2_latenessOf
  rw [jv_me]
  have e : js_ev [3, 1, 1, 1] [z0, z1, z2, z3] 6 = [(3, z0), (1, z1), (1, z2), (1, z3), (0, 0), (0, 0)] := rfl
  rw [e]
  unfold lc_X2_latenessOf_1 lb_X2_latenessOf_1
  rfl
def lc_X11_feed_1 : js_CC := (js_cz js_ge (js_l 1 4))
def lb_X11_feed_1 : js_SS := (js_sq (js_sq (js_pa 1 20 (js_gr 1 11 18 (js_l 3 0)) (js_gf 1 11 19 (js_l 3 0)) (js_1 js_l2i (js_2 js_land (js_2 js_lshr (js_l 2 2) (js_2 js_mul (js_k 8) (js_l 1 4))) (js_k 255)))) (js_of 1 11 19 js_add (js_l 3 0) (js_k 1))) (js_ii 4 (-1)))
theorem fe_X11_feed (z0 z1 z2 : Int) (w : js_Mm) : f_X11_feed [z0, z1, z2] w = jv_out 1 ((js_sq (js_if (js_cn (js_cz js_ne (js_cs f_X11_in [(js_1 js_i2l (js_l 1 1)), (js_k 1), (js_k 8)]))) (js_rv (js_k (-1000002))) js_sk) (js_sq (js_if (js_cp js_gt (js_2 js_add (js_gf 1 11 19 (js_l 3 0)) (js_l 1 1)) (js_k 600)) (js_rv (js_k (-1000004))) js_sk) (js_sq (js_bk 4 (js_sq (js_s1 1 4 (js_2 js_sub (js_l 1 1) (js_k 1))) (js_wh lc_X11_feed_1 lb_X11_feed_1))) (js_rv (js_gf 1 11 19 (js_l 3 0)))))) [(3, z0), (1, z1), (2, z2), (0, 0), (0, 0)] w) := by
  unfold f_X11_feed
  rw [jv_me]
  have e : js_ev [3, 1, 2] [z0, z1, z2] 5 = [(3, z0), (1, z1), (2, z2), (0, 0), (0, 0)] := rfl
  rw [e]
  unfold lc_X11_feed_1 lb_X11_feed_1
  rfl
def lc_X11_takeWord_1 : js_CC := (js_ca (js_cp js_lt (js_gf 1 11 20 (js_l 3 0)) (js_gf 1 11 19 (js_l 3 0))) (js_cz js_ne (js_cs f_X11_in [(js_1 js_i2l (js_al 1 20 (js_gr 1 11 18 (js_l 3 0)) (js_gf 1 11 20 (js_l 3 0)))), (js_k 97), (js_k 122)])))
def lb_X11_takeWord_1 : js_SS := (js_of 1 11 20 js_add (js_l 3 0) (js_k 1))
theorem fe_X11_takeWord (z0 : Int) (w : js_Mm) : f_X11_takeWord [z0] w = jv_out 0 ((js_sq (js_sq (js_s1 1 1 (js_cv 1 11 f_X11_here [(js_l 3 0)])) (js_sq (js_pf 1 11 21 (js_l 3 0) (js_gf 1 11 20 (js_l 3 0))) (js_sq (js_wh lc_X11_takeWord_1 lb_X11_takeWord_1) (js_pf 1 11 22 (js_l 3 0) (js_2 js_sub (js_gf 1 11 20 (js_l 3 0)) (js_gf 1 11 21 (js_l 3 0))))))) js_r0) [(3, z0), (0, 0)] w) := by
  unfold f_X11_takeWord
  rw [jv_me]
  have e : js_ev [3] [z0] 2 = [(3, z0), (0, 0)] := rfl
  rw [e]
  unfold lc_X11_takeWord_1 lb_X11_takeWord_1
  rfl
def lc_X11_takeNumber_1 : js_CC := (js_ca (js_cp js_lt (js_gf 1 11 20 (js_l 3 0)) (js_gf 1 11 19 (js_l 3 0))) (js_cz js_ne (js_cs f_X11_in [(js_1 js_i2l (js_al 1 20 (js_gr 1 11 18 (js_l 3 0)) (js_gf 1 11 20 (js_l 3 0)))), (js_k 48), (js_k 57)])))
def lb_X11_takeNumber_1 : js_SS := (js_sq (js_s1 1 4 (js_q (js_cp js_gt (js_l 1 4) (js_k 99999)) (js_l 1 4) (js_2 js_sub (js_2 js_add (js_2 js_mul (js_k 10) (js_l 1 4)) (js_al 1 20 (js_gr 1 11 18 (js_l 3 0)) (js_gf 1 11 20 (js_l 3 0)))) (js_k 48)))) (js_of 1 11 20 js_add (js_l 3 0) (js_k 1)))
theorem fe_X11_takeNumber (z0 z1 z2 : Int) (w : js_Mm) : f_X11_takeNumber [z0, z1, z2] w = jv_out 1 ((js_sq (js_if (js_cz js_gt (js_gf 1 11 23 (js_l 3 0))) (js_rv (js_k 0)) js_sk) (js_sq (js_s1 1 3 (js_cv 1 11 f_X11_here [(js_l 3 0)])) (js_sq (js_pf 1 11 21 (js_l 3 0) (js_gf 1 11 20 (js_l 3 0))) (js_sq (js_if (js_cn (js_cz js_ne (js_cv 1 11 f_X11_want [(js_l 3 0), (js_cs f_X11_in [(js_1 js_i2l (js_l 1 3)), (js_k 48), (js_k 57)]), (js_k 1), (js_gf 1 11 20 (js_l 3 0))]))) (js_rv (js_k 0)) js_sk) (js_sq (js_s1 1 4 (js_k 0)) (js_sq (js_wh lc_X11_takeNumber_1 lb_X11_takeNumber_1) (js_sq (js_s1 1 5 (js_cv 1 11 f_X11_want [(js_l 3 0), (js_q (js_ca (js_cp js_lt (js_2 js_sub (js_gf 1 11 20 (js_l 3 0)) (js_gf 1 11 21 (js_l 3 0))) (js_k 4)) (js_cz js_ne (js_cs f_X11_in [(js_1 js_i2l (js_l 1 4)), (js_1 js_i2l (js_l 1 1)), (js_1 js_i2l (js_l 1 2))]))) (js_k 1) (js_k 0)), (js_k 2), (js_gf 1 11 21 (js_l 3 0))])) (js_rv (js_l 1 4))))))))) [(3, z0), (1, z1), (1, z2), (0, 0), (0, 0), (0, 0)] w) := by
  unfold f_X11_takeNumber
  rw [jv_me]
  have e : js_ev [3, 1, 1] [z0, z1, z2] 6 = [(3, z0), (1, z1), (1, z2), (0, 0), (0, 0), (0, 0)] := rfl
  rw [e]
  unfold lc_X11_takeNumber_1 lb_X11_takeNumber_1
  rfl
theorem fe_X11_takeEnd (z0 : Int) (w : js_Mm) : f_X11_takeEnd [z0] w = jv_out 0 ((js_sq (js_if (js_ca (js_cz js_eq (js_gf 1 11 23 (js_l 3 0))) (js_cz js_ne (js_cv 1 11 f_X11_want [(js_l 3 0), (js_q (js_cp js_eq (js_cv 1 11 f_X11_here [(js_l 3 0)]) (js_k 59)) (js_k 1) (js_k 0)), (js_k 1), (js_gf 1 11 20 (js_l 3 0))]))) (js_of 1 11 20 js_add (js_l 3 0) (js_k 1)) js_sk) js_r0) [(3, z0)] w) := by
  unfold f_X11_takeEnd
  rw [jv_me]
  have e : js_ev [3] [z0] 1 = [(3, z0)] := rfl
  rw [e]
theorem fe_X11_isPerson (z0 z1 : Int) (w : js_Mm) : f_X11_isPerson [z0, z1] w = jv_out 5 ((js_rv (js_cs f_X11_in [(js_1 js_i2l (js_l 1 1)), (js_k 0), (js_1 js_i2l (js_2 js_sub (js_al 1 20 (js_gr 1 11 7 (js_l 3 0)) (js_k 0)) (js_k 1)))])) [(3, z0), (1, z1)] w) := by
  unfold f_X11_isPerson
  rw [jv_me]
  have e : js_ev [3, 1] [z0, z1] 2 = [(3, z0), (1, z1)] := rfl
  rw [e]
theorem fe_X11_isSaying (z0 z1 : Int) (w : js_Mm) : f_X11_isSaying [z0, z1] w = jv_out 5 ((js_rv (js_cs f_X11_in [(js_1 js_i2l (js_l 1 1)), (js_k 0), (js_1 js_i2l (js_2 js_sub (js_al 1 20 (js_gr 1 11 17 (js_l 3 0)) (js_k 0)) (js_k 1)))])) [(3, z0), (1, z1)] w) := by
  unfold f_X11_isSaying
  rw [jv_me]
  have e : js_ev [3, 1] [z0, z1] 2 = [(3, z0), (1, z1)] := rfl
  rw [e]
theorem fe_X11_count (z0 z1 : Int) (w : js_Mm) : f_X11_count [z0, z1] w = jv_out 1 ((js_sw (js_l 1 1) [(0, (js_rv (js_al 1 20 (js_gr 1 11 7 (js_l 3 0)) (js_k 0)))), (1, (js_rv (js_al 1 20 (js_gr 1 11 11 (js_l 3 0)) (js_k 0)))), (2, (js_rv (js_al 1 20 (js_gr 1 11 17 (js_l 3 0)) (js_k 0)))), (3, (js_rv (js_gf 1 11 19 (js_l 3 0)))), (4, (js_rv (js_al 1 20 (js_gr 1 11 0 (js_l 3 0)) (js_k 864)))), (5, (js_rv (js_al 1 20 (js_gr 1 11 0 (js_l 3 0)) (js_k 865)))), (6, (js_rv (js_cs f_X11_ones [(js_gf 1 11 28 (js_l 3 0))]))), (7, (js_rv (js_al 1 20 (js_gr 1 11 0 (js_l 3 0)) (js_k 867))))] (js_rv (js_k (-1000002)))) [(3, z0), (1, z1)] w) := by
  unfold f_X11_count
  rw [jv_me]
  have e : js_ev [3, 1] [z0, z1] 2 = [(3, z0), (1, z1)] := rfl
  rw [e]
def lc_X11_tieMany_1 : js_CC := (js_cp js_lt (js_l 1 3) (js_al 1 20 (js_gr 1 11 11 (js_l 3 0)) (js_k 0)))
def lb_X11_tieMany_1 : js_SS := (js_sq (js_s1 1 2 (js_2 js_add (js_l 1 2) (js_cs f_X11_one [(js_cv 1 11 f_X11_isOf [(js_l 3 0), (js_l 1 3), (js_l 1 1)])]))) (js_ii 3 1))
theorem fe_X11_tieMany (z0 z1 : Int) (w : js_Mm) : f_X11_tieMany [z0, z1] w = jv_out 1 ((js_sq (js_s1 1 2 (js_k 0)) (js_sq (js_bk 3 (js_sq (js_s1 1 3 (js_k 0)) (js_wh lc_X11_tieMany_1 lb_X11_tieMany_1))) (js_rv (js_l 1 2)))) [(3, z0), (1, z1), (0, 0), (0, 0)] w) := by
  unfold f_X11_tieMany
  rw [jv_me]
  have e : js_ev [3, 1] [z0, z1] 4 = [(3, z0), (1, z1), (0, 0), (0, 0)] := rfl
  rw [e]
  unfold lc_X11_tieMany_1 lb_X11_tieMany_1
  rfl
def lc_X11_tieSum_1 : js_CC := (js_cp js_lt (js_l 1 3) (js_al 1 20 (js_gr 1 11 11 (js_l 3 0)) (js_k 0)))
def lb_X11_tieSum_1 : js_SS := (js_sq (js_s1 1 2 (js_2 js_add (js_l 1 2) (js_q (js_cz js_ne (js_cv 1 11 f_X11_isOf [(js_l 3 0), (js_l 1 3), (js_l 1 1)])) (js_al 1 20 (js_gr 1 11 10 (js_l 3 0)) (js_l 1 3)) (js_k 0)))) (js_ii 3 1))
theorem fe_X11_tieSum (z0 z1 : Int) (w : js_Mm) : f_X11_tieSum [z0, z1] w = jv_out 1 ((js_sq (js_s1 1 2 (js_k 0)) (js_sq (js_bk 3 (js_sq (js_s1 1 3 (js_k 0)) (js_wh lc_X11_tieSum_1 lb_X11_tieSum_1))) (js_rv (js_l 1 2)))) [(3, z0), (1, z1), (0, 0), (0, 0)] w) := by
  unfold f_X11_tieSum
  rw [jv_me]
  have e : js_ev [3, 1] [z0, z1] 4 = [(3, z0), (1, z1), (0, 0), (0, 0)] := rfl
  rw [e]
  unfold lc_X11_tieSum_1 lb_X11_tieSum_1
  rfl
def lc_X11_strength_1 : js_CC := (js_cp js_lt (js_l 1 4) (js_al 1 20 (js_gr 1 11 11 (js_l 3 0)) (js_k 0)))
def lb_X11_strength_1 : js_SS := (js_sq (js_s1 1 3 (js_q (js_ca (js_ca (js_cp js_ne (js_l 1 1) (js_l 1 2)) (js_cz js_ne (js_cv 1 11 f_X11_isOf [(js_l 3 0), (js_l 1 4), (js_l 1 1)]))) (js_cz js_ne (js_cv 1 11 f_X11_isOf [(js_l 3 0), (js_l 1 4), (js_l 1 2)]))) (js_al 1 20 (js_gr 1 11 10 (js_l 3 0)) (js_l 1 4)) (js_l 1 3))) (js_ii 4 1))
theorem fe_X11_strength (z0 z1 z2 : Int) (w : js_Mm) : f_X11_strength [z0, z1, z2] w = jv_out 1 ((js_sq (js_s1 1 3 (js_k 0)) (js_sq (js_bk 4 (js_sq (js_s1 1 4 (js_k 0)) (js_wh lc_X11_strength_1 lb_X11_strength_1))) (js_rv (js_l 1 3)))) [(3, z0), (1, z1), (1, z2), (0, 0), (0, 0)] w) := by
  unfold f_X11_strength
  rw [jv_me]
  have e : js_ev [3, 1, 1] [z0, z1, z2] 5 = [(3, z0), (1, z1), (1, z2), (0, 0), (0, 0)] := rfl
  rw [e]
  unfold lc_X11_strength_1 lb_X11_strength_1
  rfl
theorem fe_X11_isBarred (z0 z1 z2 : Int) (w : js_Mm) : f_X11_isBarred [z0, z1, z2] w = jv_out 5 ((js_rv (js_q (js_co (js_cz js_ne (js_cs f_X11_has [(js_al 1 20 (js_gr 1 11 14 (js_l 3 0)) (js_l 1 1)), (js_l 1 2)])) (js_cz js_ne (js_cs f_X11_has [(js_al 1 20 (js_gr 1 11 14 (js_l 3 0)) (js_l 1 2)), (js_l 1 1)]))) (js_k 1) (js_k 0))) [(3, z0), (1, z1), (1, z2)] w) := by
  unfold f_X11_isBarred
  rw [jv_me]
  have e : js_ev [3, 1, 1] [z0, z1, z2] 3 = [(3, z0), (1, z1), (1, z2)] := rfl
  rw [e]
theorem fe_X11_rule (z0 z1 z2 : Int) (w : js_Mm) : f_X11_rule [z0, z1, z2] w = jv_out 1 ((js_sq (js_if (js_co (js_cn (js_cz js_ne (js_cs f_X11_in [(js_1 js_i2l (js_l 1 1)), (js_k 0), (js_k 1)]))) (js_cn (js_cz js_ne (js_cs f_X11_in [(js_1 js_i2l (js_l 1 2)), (js_1 js_i2l (js_2 js_sub (js_k 1) (js_l 1 1))), (js_q (js_cz js_eq (js_l 1 1)) (js_k 20) (js_k 100))])))) (js_rv (js_k (-1000002))) js_sk) (js_sq (js_s1 1 3 (js_q (js_cz js_eq (js_l 1 1)) (js_gf 1 11 2 (js_l 3 0)) (js_gf 1 11 3 (js_l 3 0)))) (js_sq (js_pf 1 11 2 (js_l 3 0) (js_q (js_cz js_eq (js_l 1 1)) (js_l 1 2) (js_gf 1 11 2 (js_l 3 0)))) (js_sq (js_pf 1 11 3 (js_l 3 0) (js_q (js_cp js_eq (js_l 1 1) (js_k 1)) (js_l 1 2) (js_gf 1 11 3 (js_l 3 0)))) (js_rv (js_l 1 3)))))) [(3, z0), (1, z1), (1, z2), (0, 0)] w) := by
  unfold f_X11_rule
  rw [jv_me]
  have e : js_ev [3, 1, 1] [z0, z1, z2] 4 = [(3, z0), (1, z1), (1, z2), (0, 0)] := rfl
  rw [e]
theorem fe_X11_come (z0 z1 z2 z3 z4 z5 : Int) (w : js_Mm) : f_X11_come [z0, z1, z2, z3, z4, z5] w = jv_out 0 ((js_sq (js_sq (js_s1 1 6 (js_2 js_add (js_l 1 1) (js_cs f_X11_cell [(js_l 1 2), (js_l 1 3)]))) (js_sq (js_pa 1 20 (js_gr 1 11 0 (js_l 3 0)) (js_2 js_add (js_l 1 6) (js_k 0)) (js_k 1)) (js_sq (js_pa 1 20 (js_gr 1 11 0 (js_l 3 0)) (js_2 js_add (js_l 1 6) (js_k 144)) (js_l 1 4)) (js_sq (js_pa 1 20 (js_gr 1 11 0 (js_l 3 0)) (js_2 js_add (js_l 1 6) (js_k 288)) (js_al 1 20 (js_gr 1 11 0 (js_l 3 0)) (js_2 js_add (js_l 1 1) (js_k 864)))) (js_pa 1 20 (js_gr 1 11 0 (js_l 3 0)) (js_2 js_add (js_l 1 6) (js_k 720)) (js_l 1 5)))))) js_r0) [(3, z0), (1, z1), (1, z2), (1, z3), (1, z4), (1, z5), (0, 0)] w) := by
  unfold f_X11_come
  rw [jv_me]
  have e : js_ev [3, 1, 1, 1, 1, 1] [z0, z1, z2, z3, z4, z5] 7 = [(3, z0), (1, z1), (1, z2), (1, z3), (1, z4), (1, z5), (0, 0)] := rfl
  rw [e]
theorem fe_X11_isHeld (z0 z1 z2 z3 : Int) (w : js_Mm) : f_X11_isHeld [z0, z1, z2, z3] w = jv_out 5 ((js_rv (js_q (js_cz js_gt (js_al 1 20 (js_gr 1 11 0 (js_l 3 0)) (js_2 js_add (js_2 js_add (js_l 1 1) (js_k 0)) (js_cs f_X11_cell [(js_l 1 2), (js_l 1 3)])))) (js_k 1) (js_k 0))) [(3, z0), (1, z1), (1, z2), (1, z3)] w) := by
  unfold f_X11_isHeld
  rw [jv_me]
  have e : js_ev [3, 1, 1, 1] [z0, z1, z2, z3] 4 = [(3, z0), (1, z1), (1, z2), (1, z3)] := rfl
  rw [e]
def lc_X11_latest_1 : js_CC := (js_cp js_lt (js_l 1 4) (js_al 1 20 (js_gr 1 11 17 (js_l 3 0)) (js_k 0)))
def lb_X11_latest_1 : js_SS := (js_sq (js_bk 5 (js_sq (js_s1 1 5 (js_q (js_cp js_eq (js_al 1 20 (js_gr 1 11 0 (js_l 3 0)) (js_2 js_add (js_2 js_add (js_l 1 1) (js_k 0)) (js_cs f_X11_cell [(js_l 1 2), (js_l 1 4)]))) (js_k 1)) (js_k 1) (js_k 0))) (js_s1 1 3 (js_q (js_ca (js_cz js_ne (js_l 1 5)) (js_co (js_cz js_lt (js_l 1 3)) (js_cp js_ge (js_al 1 20 (js_gr 1 11 0 (js_l 3 0)) (js_2 js_add (js_2 js_add (js_l 1 1) (js_k 288)) (js_cs f_X11_cell [(js_l 1 2), (js_l 1 4)]))) (js_al 1 20 (js_gr 1 11 0 (js_l 3 0)) (js_2 js_add (js_2 js_add (js_l 1 1) (js_k 288)) (js_cs f_X11_cell [(js_l 1 2), (js_l 1 3)])))))) (js_l 1 4) (js_l 1 3))))) (js_ii 4 1))
theorem fe_X11_latest (z0 z1 z2 : Int) (w : js_Mm) : f_X11_latest [z0, z1, z2] w = jv_out 1 ((js_sq (js_s1 1 3 (js_k (-1))) (js_sq (js_bk 4 (js_sq (js_s1 1 4 (js_k 0)) (js_wh lc_X11_latest_1 lb_X11_latest_1))) (js_rv (js_l 1 3)))) [(3, z0), (1, z1), (1, z2), (0, 0), (0, 0), (0, 0)] w) := by
  unfold f_X11_latest
  rw [jv_me]
  have e : js_ev [3, 1, 1] [z0, z1, z2] 6 = [(3, z0), (1, z1), (1, z2), (0, 0), (0, 0), (0, 0)] := rfl
  rw [e]
  unfold lc_X11_latest_1 lb_X11_latest_1
  rfl
theorem fe_X11_fresh (z0 : Int) (w : js_Mm) : f_X11_fresh [z0] w = jv_out 1 ((js_sq (js_s1 1 1 (js_al 1 20 (js_gr 1 11 0 (js_l 3 0)) (js_k 864))) (js_sq (js_ex (js_cv 1 11 f_X11_freshen [(js_l 3 0), (js_k 0)])) (js_sq (js_pa 1 20 (js_gr 1 11 0 (js_l 3 0)) (js_k 867) (js_k 0)) (js_rv (js_l 1 1))))) [(3, z0), (0, 0)] w) := by
  unfold f_X11_fresh
  rw [jv_me]
  have e : js_ev [3] [z0] 2 = [(3, z0), (0, 0)] := rfl
  rw [e]
theorem fe_X11_forget (z0 : Int) (w : js_Mm) : f_X11_forget [z0] w = jv_out 1 ((js_sq (js_s1 1 1 (js_cs f_X11_ones [(js_gf 1 11 28 (js_l 3 0))])) (js_sq (js_pf 1 11 28 (js_l 3 0) (js_k 0)) (js_rv (js_l 1 1)))) [(3, z0), (0, 0)] w) := by
  unfold f_X11_forget
  rw [jv_me]
  have e : js_ev [3] [z0] 2 = [(3, z0), (0, 0)] := rfl
  rw [e]
def lc_X11_endOf_1 : js_CC := (js_cp js_le (js_l 1 3) (js_k 24))
def lb_X11_endOf_1 : js_SS := (js_sq (js_sq (js_if (js_co (js_cn (js_cz js_ne (js_cs f_X11_has [(js_gf 1 11 28 (js_l 3 0)), (js_l 1 2)]))) (js_cp js_eq (js_al 1 20 (js_gr 1 11 29 (js_l 3 0)) (js_l 1 2)) (js_k (-2)))) (js_rv (js_l 1 2)) js_sk) (js_s1 1 2 (js_al 1 20 (js_gr 1 11 29 (js_l 3 0)) (js_l 1 2)))) (js_ii 3 1))
theorem fe_X11_endOf (z0 z1 : Int) (w : js_Mm) : f_X11_endOf [z0, z1] w = jv_out 1 ((js_sq (js_s1 1 2 (js_l 1 1)) (js_sq (js_bk 3 (js_sq (js_s1 1 3 (js_k 0)) (js_wh lc_X11_endOf_1 lb_X11_endOf_1))) (js_rv (js_k (-1))))) [(3, z0), (1, z1), (0, 0), (0, 0)] w) := by
  unfold f_X11_endOf
  rw [jv_me]
  have e : js_ev [3, 1] [z0, z1] 4 = [(3, z0), (1, z1), (0, 0), (0, 0)] := rfl
  rw [e]
  unfold lc_X11_endOf_1 lb_X11_endOf_1
  rfl
theorem fe_X11_isNet (z0 z1 : Int) (w : js_Mm) : f_X11_isNet [z0, z1] w = jv_out 5 ((js_rv (js_cs f_X11_in [(js_1 js_i2l (js_l 1 1)), (js_k 0), (js_1 js_i2l (js_2 js_sub (js_cv 1 11 f_X11_net [(js_l 3 0)]) (js_k 1)))])) [(3, z0), (1, z1)] w) := by
  unfold f_X11_isNet
  rw [jv_me]
  have e : js_ev [3, 1] [z0, z1] 2 = [(3, z0), (1, z1)] := rfl
  rw [e]
theorem fe_X11_isNetSet (z0 z1 : Int) (w : js_Mm) : f_X11_isNetSet [z0, z1] w = jv_out 5 ((js_rv (js_cs f_X11_in [(js_1 js_i2l (js_l 1 1)), (js_k 0), (js_1 js_i2l (js_2 js_sub (js_2 js_shl (js_k 1) (js_cv 1 11 f_X11_net [(js_l 3 0)])) (js_k 1)))])) [(3, z0), (1, z1)] w) := by
  unfold f_X11_isNetSet
  rw [jv_me]
  have e : js_ev [3, 1] [z0, z1] 2 = [(3, z0), (1, z1)] := rfl
  rw [e]
theorem fe_X11_areSteps (z0 : Int) (w : js_Mm) : f_X11_areSteps [z0] w = jv_out 5 ((js_rv (js_cs f_X11_in [(js_1 js_i2l (js_l 1 0)), (js_k 0), (js_k 12)])) [(1, z0)] w) := by
  unfold f_X11_areSteps
  rw [jv_me]
  have e : js_ev [1] [z0] 1 = [(1, z0)] := rfl
  rw [e]
theorem fe_X11_isMarket (z0 : Int) (w : js_Mm) : f_X11_isMarket [z0] w = jv_out 5 ((js_rv (js_cs f_X11_in [(js_1 js_i2l (js_l 1 0)), (js_k 0), (js_k 11)])) [(1, z0)] w) := by
  unfold f_X11_isMarket
  rw [jv_me]
  have e : js_ev [1] [z0] 1 = [(1, z0)] := rfl
  rw [e]
theorem fe_X11_silence (z0 : Int) (w : js_Mm) : f_X11_silence [z0] w = jv_out 1 ((js_sq (js_s1 1 1 (js_cs f_X11_ones [(js_gf 1 11 36 (js_l 3 0))])) (js_sq (js_pf 1 11 36 (js_l 3 0) (js_k 0)) (js_rv (js_l 1 1)))) [(3, z0), (0, 0)] w) := by
  unfold f_X11_silence
  rw [jv_me]
  have e : js_ev [3] [z0] 2 = [(3, z0), (0, 0)] := rfl
  rw [e]
def lc_X11_findSource_1 : js_CC := (js_cp js_lt (js_l 1 5) (js_k 12))
def lb_X11_findSource_1 : js_SS := (js_sq (js_if (js_cz js_ne (js_cs f_X11_has [(js_gf 1 11 36 (js_l 3 0)), (js_l 1 5)])) (js_bk 6 (js_sq (js_s1 1 4 (js_q (js_ca (js_cz js_ne (js_l 1 4)) (js_cp js_lt (js_al 1 20 (js_gr 1 11 35 (js_l 3 0)) (js_2 js_add (js_2 js_mul (js_k 12) (js_l 1 2)) (js_l 1 5))) (js_k 100000))) (js_k 1) (js_k 0))) (js_sq (js_s1 1 6 (js_2 js_sub (js_al 1 20 (js_gr 1 11 37 (js_l 3 0)) (js_l 1 5)) (js_dv js_div (js_2 js_mul (js_al 1 20 (js_gr 1 11 35 (js_l 3 0)) (js_2 js_add (js_2 js_mul (js_k 12) (js_l 1 2)) (js_l 1 5))) (js_l 1 1)) (js_k 10)))) (js_s1 1 3 (js_q (js_cp js_lt (js_l 1 6) (js_l 1 3)) (js_l 1 6) (js_l 1 3)))))) js_sk) (js_ii 5 1))
def lc_X11_findSource_2 : js_CC := (js_ca (js_cp js_lt (js_l 1 6) (js_k 12)) (js_cz js_ne (js_l 1 4)))
def lb_X11_findSource_2 : js_SS := (js_sq (js_s1 1 5 (js_2 js_add (js_l 1 5) (js_q (js_cz js_ne (js_cs f_X11_has [(js_gf 1 11 36 (js_l 3 0)), (js_l 1 6)])) (js_2 js_sub (js_2 js_sub (js_al 1 20 (js_gr 1 11 37 (js_l 3 0)) (js_l 1 6)) (js_l 1 3)) (js_dv js_div (js_2 js_mul (js_al 1 20 (js_gr 1 11 35 (js_l 3 0)) (js_2 js_add (js_2 js_mul (js_k 12) (js_l 1 2)) (js_l 1 6))) (js_l 1 1)) (js_k 10))) (js_k 0)))) (js_ii 6 1))
def lc_X11_findSource_3 : js_CC := (js_ca (js_cp js_lt (js_l 1 2) (js_k 12)) (js_cz js_ne (js_gf 1 11 36 (js_l 3 0))))
def lb_X11_findSource_3 : js_SS := (js_sq (js_bk 3 (js_sq (js_s1 1 3 (js_k 100000)) (js_sq (js_s1 1 4 (js_k 1)) (js_sq (js_bk 5 (js_sq (js_s1 1 5 (js_k 0)) (js_wh lc_X11_findSource_1 lb_X11_findSource_1))) (js_sq (js_s1 1 5 (js_k 0)) (js_sq (js_bk 6 (js_sq (js_s1 1 6 (js_k 0)) (js_wh lc_X11_findSource_2 lb_X11_findSource_2))) (js_if (js_ca (js_cz js_ne (js_l 1 4)) (js_co (js_cz js_lt (js_gf 1 11 38 (js_l 3 0))) (js_cp js_lt (js_l 1 5) (js_gf 1 11 40 (js_l 3 0))))) (js_sq (js_pf 1 11 38 (js_l 3 0) (js_l 1 2)) (js_sq (js_pf 1 11 39 (js_l 3 0) (js_l 1 3)) (js_pf 1 11 40 (js_l 3 0) (js_l 1 5)))) js_sk))))))) (js_ii 2 1))
theorem fe_X11_findSource (z0 z1 : Int) (w : js_Mm) : f_X11_findSource [z0, z1] w = jv_out 0 ((js_sq (js_sq (js_pf 1 11 38 (js_l 3 0) (js_k (-1))) (js_sq (js_pf 1 11 39 (js_l 3 0) (js_k 0)) (js_sq (js_pf 1 11 40 (js_l 3 0) (js_k 0)) (js_bk 2 (js_sq (js_s1 1 2 (js_k 0)) (js_wh lc_X11_findSource_3 lb_X11_findSource_3)))))) js_r0) [(3, z0), (1, z1), (0, 0), (0, 0), (0, 0), (0, 0), (0, 0)] w) := by
  unfold f_X11_findSource
  rw [jv_me]
  have e : js_ev [3, 1] [z0, z1] 7 = [(3, z0), (1, z1), (0, 0), (0, 0), (0, 0), (0, 0), (0, 0)] := rfl
  rw [e]
  unfold lc_X11_findSource_3 lb_X11_findSource_3 lc_X11_findSource_2 lb_X11_findSource_2 lc_X11_findSource_1 lb_X11_findSource_1
  rfl
theorem fe_X11_keep (z0 z1 : Int) (w : js_Mm) : f_X11_keep [z0, z1] w = jv_out 1 ((js_sq (js_if (js_cn (js_cz js_ne (js_cs f_X11_in [(js_1 js_i2l (js_l 1 1)), (js_k 0), (js_k 1)]))) (js_rv (js_k (-1000001))) js_sk) (js_sq (js_ex (js_cv 1 11 f_X11_copy [(js_l 3 0), (js_k 0), (js_2 js_add (js_k 2000) (js_2 js_mul (js_k 1000) (js_l 1 1)))])) (js_sq (js_pa 1 23 (js_gr 1 11 1 (js_l 3 0)) (js_l 1 1) (js_k 1)) (js_rv (js_k 1))))) [(3, z0), (1, z1)] w) := by
  unfold f_X11_keep
  rw [jv_me]
  have e : js_ev [3, 1] [z0, z1] 2 = [(3, z0), (1, z1)] := rfl
  rw [e]
theorem fe_X11_goBack (z0 z1 : Int) (w : js_Mm) : f_X11_goBack [z0, z1] w = jv_out 1 ((js_sq (js_if (js_cn (js_cz js_ne (js_cs f_X11_in [(js_1 js_i2l (js_l 1 1)), (js_k 0), (js_k 1)]))) (js_rv (js_k (-1000001))) js_sk) (js_sq (js_if (js_cn (js_cz js_ne (js_al 1 23 (js_gr 1 11 1 (js_l 3 0)) (js_l 1 1)))) (js_rv (js_k (-1000003))) js_sk) (js_sq (js_ex (js_cv 1 11 f_X11_copy [(js_l 3 0), (js_2 js_add (js_k 2000) (js_2 js_mul (js_k 1000) (js_l 1 1))), (js_k 0)])) (js_rv (js_k 1))))) [(3, z0), (1, z1)] w) := by
  unfold f_X11_goBack
  rw [jv_me]
  have e : js_ev [3, 1] [z0, z1] 2 = [(3, z0), (1, z1)] := rfl
  rw [e]
theorem fe_X10_count (z0 z1 : Int) (w : js_Mm) : f_X10_count [z0, z1] w = jv_out 1 ((js_sw (js_l 1 1) [(0, (js_rv (js_gf 0 8 0 (js_gr 0 10 1 (js_l 3 0))))), (1, (js_rv (js_gf 0 8 1 (js_gr 0 10 1 (js_l 3 0))))), (2, (js_rv (js_gf 0 3 0 (js_gr 0 10 3 (js_l 3 0))))), (3, (js_rv (js_gf 0 7 1 (js_gr 0 10 0 (js_l 3 0))))), (4, (js_rv (js_gf 0 0 11 (js_gr 0 10 7 (js_l 3 0))))), (5, (js_rv (js_gf 0 0 12 (js_gr 0 10 7 (js_l 3 0))))), (6, (js_rv (js_cv 0 1 f_X1_number [(js_gr 0 10 12 (js_l 3 0))]))), (7, (js_rv (js_gf 0 0 10 (js_gr 0 10 7 (js_l 3 0)))))] (js_rv (js_k (-1000002)))) [(3, z0), (1, z1)] w) := by
  unfold f_X10_count
  rw [jv_me]
  have e : js_ev [3, 1] [z0, z1] 2 = [(3, z0), (1, z1)] := rfl
  rw [e]
theorem fe_X10_begin (z0 z1 z2 : Int) (w : js_Mm) : f_X10_begin [z0, z1, z2] w = jv_out 1 ((js_sq (js_if (js_co (js_cn (js_cz js_ne (js_cv 0 10 f_X10_isPerson [(js_l 3 0), (js_l 1 1)]))) (js_cn (js_cz js_ne (js_cv 0 10 f_X10_isSaying [(js_l 3 0), (js_l 1 2)])))) (js_rv (js_k (-1000001))) js_sk) (js_sq (js_if (js_cz js_ne (js_cv 0 0 f_X0_has [(js_gr 0 10 7 (js_l 3 0)), (js_l 1 1), (js_l 1 2)])) (js_rv (js_k (-1000003))) js_sk) (js_sq (js_if (js_cp js_ge (js_gf 0 0 10 (js_gr 0 10 7 (js_l 3 0))) (js_k 40)) (js_rv (js_k (-1000004))) js_sk) (js_sq (js_ex (js_cv 0 0 f_X0_noteBeginning [(js_gr 0 10 7 (js_l 3 0)), (js_l 1 1), (js_l 1 2)])) (js_sq (js_ex (js_cv 0 0 f_X0_take [(js_gr 0 10 7 (js_l 3 0)), (js_l 1 1), (js_l 1 2), (js_k (-2)), (js_l 1 2)])) (js_rv (js_cs f_J6_bitCount_0f7a4 [(js_cv 0 0 f_X0_setOf [(js_gr 0 10 7 (js_l 3 0)), (js_l 1 2), (js_gf 0 8 0 (js_gr 0 10 1 (js_l 3 0)))])]))))))) [(3, z0), (1, z1), (1, z2)] w) := by
  unfold f_X10_begin
  rw [jv_me]
  have e : js_ev [3, 1, 1] [z0, z1, z2] 3 = [(3, z0), (1, z1), (1, z2)] := rfl
  rw [e]
theorem fe_X10_notice (z0 z1 z2 z3 : Int) (w : js_Mm) : f_X10_notice [z0, z1, z2, z3] w = jv_out 1 ((js_sq (js_if (js_co (js_co (js_cz js_lt (js_l 1 1)) (js_cp js_ge (js_l 1 1) (js_k 4))) (js_cn (js_cz js_ne (js_cv 0 10 f_X10_isSaying [(js_l 3 0), (js_l 1 2)])))) (js_rv (js_k (-1000001))) js_sk) (js_rv (js_q (js_co (js_cz js_lt (js_l 1 3)) (js_cp js_gt (js_l 1 3) (js_k 100))) (js_k (-1000002)) (js_cv 0 6 f_X6_post [(js_gr 0 10 6 (js_l 3 0)), (js_gr 0 10 7 (js_l 3 0)), (js_l 1 1), (js_l 1 2), (js_l 1 3)])))) [(3, z0), (1, z1), (1, z2), (1, z3)] w) := by
  unfold f_X10_notice
  rw [jv_me]
  have e : js_ev [3, 1, 1, 1] [z0, z1, z2, z3] 4 = [(3, z0), (1, z1), (1, z2), (1, z3)] := rfl
  rw [e]
theorem fe_X10_holds (z0 z1 z2 z3 : Int) (w : js_Mm) : f_X10_holds [z0, z1, z2, z3] w = jv_out 1 ((js_sq (js_if (js_co (js_cn (js_cz js_ne (js_cv 0 10 f_X10_isPerson [(js_l 3 0), (js_l 1 1)]))) (js_cn (js_cz js_ne (js_cv 0 10 f_X10_isSaying [(js_l 3 0), (js_l 1 2)])))) (js_rv (js_k (-1000001))) js_sk) (js_sq (js_s1 1 4 (js_2 js_add (js_2 js_mul (js_l 1 1) (js_k 6)) (js_l 1 2))) (js_sq (js_s1 1 5 (js_cv 0 0 f_X0_has [(js_gr 0 10 7 (js_l 3 0)), (js_l 1 1), (js_l 1 2)])) (js_sw (js_l 1 3) [(0, (js_rv (js_cv 0 0 f_X0_stateOf [(js_gr 0 10 7 (js_l 3 0)), (js_l 1 1), (js_l 1 2)]))), (1, (js_rv (js_q (js_cz js_ne (js_l 1 5)) (js_al 0 20 (js_gr 0 0 2 (js_gr 0 10 7 (js_l 3 0))) (js_l 1 4)) (js_k (-1))))), (2, (js_rv (js_q (js_cz js_ne (js_l 1 5)) (js_al 0 20 (js_gr 0 0 4 (js_gr 0 10 7 (js_l 3 0))) (js_l 1 4)) (js_k (-1))))), (3, (js_rv (js_al 0 20 (js_gr 0 0 5 (js_gr 0 10 7 (js_l 3 0))) (js_l 1 4)))), (4, (js_rv (js_al 0 20 (js_gr 0 0 6 (js_gr 0 10 7 (js_l 3 0))) (js_l 1 4))))] (js_rv (js_k (-1000002))))))) [(3, z0), (1, z1), (1, z2), (1, z3), (0, 0), (0, 0)] w) := by
  unfold f_X10_holds
  rw [jv_me]
  have e : js_ev [3, 1, 1, 1] [z0, z1, z2, z3] 6 = [(3, z0), (1, z1), (1, z2), (1, z3), (0, 0), (0, 0)] := rfl
  rw [e]
theorem fe_X10_holders (z0 z1 : Int) (w : js_Mm) : f_X10_holders [z0, z1] w = jv_out 1 ((js_rv (js_q (js_cz js_ne (js_cv 0 10 f_X10_isSaying [(js_l 3 0), (js_l 1 1)])) (js_cv 0 0 f_X0_setOf [(js_gr 0 10 7 (js_l 3 0)), (js_l 1 1), (js_gf 0 8 0 (js_gr 0 10 1 (js_l 3 0)))]) (js_k (-1000001)))) [(3, z0), (1, z1)] w) := by
  unfold f_X10_holders
  rw [jv_me]
  have e : js_ev [3, 1] [z0, z1] 2 = [(3, z0), (1, z1)] := rfl
  rw [e]
theorem fe_X10_way (z0 z1 z2 z3 : Int) (w : js_Mm) : f_X10_way [z0, z1, z2, z3] w = jv_out 1 ((js_sq (js_if (js_co (js_cn (js_cz js_ne (js_cv 0 10 f_X10_isPerson [(js_l 3 0), (js_l 1 1)]))) (js_cn (js_cz js_ne (js_cv 0 10 f_X10_isSaying [(js_l 3 0), (js_l 1 2)])))) (js_rv (js_k (-1000001))) js_sk) (js_sq (js_if (js_cn (js_cz js_ne (js_cv 0 0 f_X0_has [(js_gr 0 10 7 (js_l 3 0)), (js_l 1 1), (js_l 1 2)]))) (js_rv (js_k (-1))) js_sk) (js_sq (js_ex (js_cv 0 9 f_X9_trace [(js_gr 0 10 11 (js_l 3 0)), (js_l 1 1), (js_l 1 2)])) (js_sq (js_if (js_cp js_eq (js_l 1 3) (js_k (-1))) (js_rv (js_gf 0 9 2 (js_gr 0 10 11 (js_l 3 0)))) js_sk) (js_rv (js_q (js_ca (js_cz js_ge (js_l 1 3)) (js_cp js_lt (js_l 1 3) (js_gf 0 9 2 (js_gr 0 10 11 (js_l 3 0))))) (js_al 0 20 (js_gr 0 9 1 (js_gr 0 10 11 (js_l 3 0))) (js_l 1 3)) (js_k (-1)))))))) [(3, z0), (1, z1), (1, z2), (1, z3)] w) := by
  unfold f_X10_way
  rw [jv_me]
  have e : js_ev [3, 1, 1, 1] [z0, z1, z2, z3] 4 = [(3, z0), (1, z1), (1, z2), (1, z3)] := rfl
  rw [e]
theorem fe_X10_fresh (z0 : Int) (w : js_Mm) : f_X10_fresh [z0] w = jv_out 1 ((js_sq (js_s1 1 1 (js_gf 0 0 11 (js_gr 0 10 7 (js_l 3 0)))) (js_sq (js_ex (js_cv 0 0 f_X0_clear [(js_gr 0 10 7 (js_l 3 0))])) (js_rv (js_l 1 1)))) [(3, z0), (0, 0)] w) := by
  unfold f_X10_fresh
  rw [jv_me]
  have e : js_ev [3] [z0] 2 = [(3, z0), (0, 0)] := rfl
  rw [e]
theorem fe_X10_forget (z0 : Int) (w : js_Mm) : f_X10_forget [z0] w = jv_out 1 ((js_sq (js_s1 1 1 (js_cv 0 1 f_X1_number [(js_gr 0 10 12 (js_l 3 0))])) (js_sq (js_ex (js_cv 0 1 f_X1_clear [(js_gr 0 10 12 (js_l 3 0))])) (js_rv (js_l 1 1)))) [(3, z0), (0, 0)] w) := by
  unfold f_X10_forget
  rw [jv_me]
  have e : js_ev [3] [z0] 2 = [(3, z0), (0, 0)] := rfl
  rw [e]
theorem fe_X10_end (z0 z1 : Int) (w : js_Mm) : f_X10_end [z0, z1] w = jv_out 1 ((js_sq (js_if (js_cn (js_cz js_ne (js_cv 0 10 f_X10_isPerson [(js_l 3 0), (js_l 1 1)]))) (js_rv (js_k (-1000001))) js_sk) (js_rv (js_q (js_cz js_ne (js_cv 0 1 f_X1_has [(js_gr 0 10 12 (js_l 3 0)), (js_l 1 1)])) (js_cv 0 1 f_X1_endOf [(js_gr 0 10 12 (js_l 3 0)), (js_l 1 1)]) (js_k (-1000003))))) [(3, z0), (1, z1)] w) := by
  unfold f_X10_end
  rw [jv_me]
  have e : js_ev [3, 1] [z0, z1] 2 = [(3, z0), (1, z1)] := rfl
  rw [e]
theorem fe_X10_silence (z0 : Int) (w : js_Mm) : f_X10_silence [z0] w = jv_out 1 ((js_sq (js_s1 1 1 (js_gf 0 2 3 (js_gr 0 10 14 (js_l 3 0)))) (js_sq (js_ex (js_cv 0 2 f_X2_hush [(js_gr 0 10 14 (js_l 3 0))])) (js_rv (js_l 1 1)))) [(3, z0), (0, 0)] w) := by
  unfold f_X10_silence
  rw [jv_me]
  have e : js_ev [3] [z0] 2 = [(3, z0), (0, 0)] := rfl
  rw [e]
theorem fe_X10_keep (z0 z1 : Int) (w : js_Mm) : f_X10_keep [z0, z1] w = jv_out 1 ((js_sq (js_if (js_co (js_cz js_lt (js_l 1 1)) (js_cp js_ge (js_l 1 1) (js_k 2))) (js_rv (js_k (-1000001))) js_sk) (js_sq (js_ex (js_cv 0 0 f_X0_copyFrom [(js_aa 0 24 (js_gr 0 10 10 (js_l 3 0)) (js_l 1 1)), (js_gr 0 10 7 (js_l 3 0))])) (js_sq (js_pf 0 0 14 (js_aa 0 24 (js_gr 0 10 10 (js_l 3 0)) (js_l 1 1)) (js_k 1)) (js_rv (js_k 1))))) [(3, z0), (1, z1)] w) := by
  unfold f_X10_keep
  rw [jv_me]
  have e : js_ev [3, 1] [z0, z1] 2 = [(3, z0), (1, z1)] := rfl
  rw [e]
theorem fe_X10_goBack (z0 z1 : Int) (w : js_Mm) : f_X10_goBack [z0, z1] w = jv_out 1 ((js_sq (js_if (js_co (js_cz js_lt (js_l 1 1)) (js_cp js_ge (js_l 1 1) (js_k 2))) (js_rv (js_k (-1000001))) js_sk) (js_sq (js_if (js_cn (js_cz js_ne (js_gf 0 0 14 (js_aa 0 24 (js_gr 0 10 10 (js_l 3 0)) (js_l 1 1))))) (js_rv (js_k (-1000003))) js_sk) (js_sq (js_ex (js_cv 0 0 f_X0_copyFrom [(js_gr 0 10 7 (js_l 3 0)), (js_aa 0 24 (js_gr 0 10 10 (js_l 3 0)) (js_l 1 1))])) (js_rv (js_k 1))))) [(3, z0), (1, z1)] w) := by
  unfold f_X10_goBack
  rw [jv_me]
  have e : js_ev [3, 1] [z0, z1] 2 = [(3, z0), (1, z1)] := rfl
  rw [e]
theorem fe_X10_isOfNet (z0 z1 : Int) (w : js_Mm) : f_X10_isOfNet [z0, z1] w = jv_out 5 ((js_rv (js_q (js_ca (js_cz js_ge (js_l 1 1)) (js_cp js_lt (js_l 1 1) (js_cv 0 4 f_X4_size [(js_gr 0 10 13 (js_l 3 0))]))) (js_k 1) (js_k 0))) [(3, z0), (1, z1)] w) := by
  unfold f_X10_isOfNet
  rw [jv_me]
  have e : js_ev [3, 1] [z0, z1] 2 = [(3, z0), (1, z1)] := rfl
  rw [e]
def lc_X10_startAnew_1 : js_CC := (js_cp js_lt (js_l 1 1) (js_k 2))
def lb_X10_startAnew_1 : js_SS := (js_sq (js_pf 0 0 14 (js_aa 0 24 (js_gr 0 10 10 (js_l 3 0)) (js_l 1 1)) (js_k 0)) (js_ii 1 1))
theorem fe_X10_startAnew (z0 : Int) (w : js_Mm) : f_X10_startAnew [z0] w = jv_out 0 ((js_sq (js_sq (js_ex (js_cv 0 0 f_X0_clear [(js_gr 0 10 7 (js_l 3 0))])) (js_bk 1 (js_sq (js_s1 1 1 (js_k 0)) (js_wh lc_X10_startAnew_1 lb_X10_startAnew_1)))) js_r0) [(3, z0), (0, 0)] w) := by
  unfold f_X10_startAnew
  rw [jv_me]
  have e : js_ev [3] [z0] 2 = [(3, z0), (0, 0)] := rfl
  rw [e]
  unfold lc_X10_startAnew_1 lb_X10_startAnew_1
  rfl
theorem fe_X7_open (z0 : Int) (w : js_Mm) : f_X7_open [z0] w = jv_out 0 ((js_sq (js_sq (js_pf 0 7 6 (js_l 3 0) (js_k 0)) (js_sq (js_pf 0 7 7 (js_l 3 0) (js_k (-1))) (js_sq (js_pf 0 7 4 (js_l 3 0) (js_k 0)) (js_ex (js_cv 0 7 f_X7_step [(js_l 3 0)]))))) js_r0) [(3, z0)] w) := by
  unfold f_X7_open
  rw [jv_me]
  have e : js_ev [3] [z0] 1 = [(3, z0)] := rfl
  rw [e]
theorem fe_X7_takeNumber (z0 z1 z2 : Int) (w : js_Mm) : f_X7_takeNumber [z0, z1, z2] w = jv_out 1 ((js_sq (js_s1 1 3 (js_cv 0 7 f_X7_lookNumber [(js_l 3 0), (js_l 1 1), (js_l 1 2)])) (js_sq (js_ex (js_cv 0 7 f_X7_step [(js_l 3 0)])) (js_rv (js_l 1 3)))) [(3, z0), (1, z1), (1, z2), (0, 0)] w) := by
  unfold f_X7_takeNumber
  rw [jv_me]
  have e : js_ev [3, 1, 1] [z0, z1, z2] 4 = [(3, z0), (1, z1), (1, z2), (0, 0)] := rfl
  rw [e]
theorem fe_X7_closesClause (z0 : Int) (w : js_Mm) : f_X7_closesClause [z0] w = jv_out 5 ((js_sq (js_if (js_cn (js_cz js_ne (js_cv 0 7 f_X7_isSign [(js_l 3 0), (js_k 59)]))) (js_ex (js_cv 0 7 f_X7_blame [(js_l 3 0), (js_k 1)])) js_sk) (js_sq (js_ex (js_cv 0 7 f_X7_step [(js_l 3 0)])) (js_rv (js_q (js_cz js_eq (js_gf 0 7 6 (js_l 3 0))) (js_k 1) (js_k 0))))) [(3, z0)] w) := by
  unfold f_X7_closesClause
  rw [jv_me]
  have e : js_ev [3] [z0] 1 = [(3, z0)] := rfl
  rw [e]
theorem fe_X3_readUnlike (z0 z1 z2 : Int) (w : js_Mm) : f_X3_readUnlike [z0, z1, z2] w = jv_out 1 ((js_sq (js_s1 1 3 (js_2 js_shl (js_k 1) (js_cv 0 7 f_X7_lookNumber [(js_l 3 1), (js_k 0), (js_2 js_sub (js_gf 0 3 0 (js_l 3 0)) (js_k 1))]))) (js_sq (js_if (js_ca (js_cz js_eq (js_gf 0 7 6 (js_l 3 1))) (js_cz js_ne (js_2 js_and (js_l 1 2) (js_l 1 3)))) (js_ex (js_cv 0 7 f_X7_blame [(js_l 3 1), (js_k 4)])) js_sk) (js_sq (js_ex (js_cv 0 7 f_X7_step [(js_l 3 1)])) (js_rv (js_l 1 3))))) [(3, z0), (3, z1), (1, z2), (0, 0)] w) := by
  unfold f_X3_readUnlike
  rw [jv_me]
  have e : js_ev [3, 3, 1] [z0, z1, z2] 4 = [(3, z0), (3, z1), (1, z2), (0, 0)] := rfl
  rw [e]
theorem fe_X6_tellsOne (z0 z1 z2 : Int) (w : js_Mm) : f_X6_tellsOne [z0, z1, z2] w = jv_out 5 ((js_sq (js_s1 1 3 (js_cv 0 8 f_X8_friendBy [(js_gr 0 6 0 (js_l 3 0)), (js_l 1 2), (js_cv 0 0 f_X0_draw [(js_l 3 1), (js_al 0 20 (js_gr 0 8 6 (js_gr 0 6 0 (js_l 3 0))) (js_l 1 2))])])) (js_sq (js_s1 1 4 (js_cv 0 0 f_X0_newestOf [(js_l 3 1), (js_l 1 2)])) (js_sq (js_if (js_co (js_cp js_eq (js_l 1 3) (js_k (-1))) (js_cp js_eq (js_l 1 4) (js_k (-1)))) (js_rv (js_k 0)) js_sk) (js_sq (js_oa 0 20 js_or (js_gr 0 0 6 (js_l 3 1)) (js_2 js_add (js_2 js_mul (js_l 1 3) (js_k 6)) (js_l 1 4)) (js_2 js_shl (js_k 1) (js_l 1 2))) (js_sq (js_if (js_cz js_ne (js_cv 0 0 f_X0_has [(js_l 3 1), (js_l 1 3), (js_l 1 4)])) (js_sq (js_ex (js_cv 0 0 f_X0_hearKnown [(js_l 3 1), (js_l 1 2), (js_l 1 4), (js_gf 0 5 0 (js_gr 0 6 2 (js_l 3 0)))])) (js_rv (js_k 0))) js_sk) (js_sq (js_s1 1 5 (js_2 js_and (js_al 0 20 (js_gr 0 0 0 (js_l 3 1)) (js_l 1 3)) (js_al 0 20 (js_gr 0 3 5 (js_gr 0 6 1 (js_l 3 0))) (js_l 1 4)))) (js_sq (js_if (js_cz js_ne (js_l 1 5)) (js_rv (js_cv 0 6 f_X6_joins [(js_l 3 0), (js_l 3 1), (js_l 1 2), (js_l 1 3), (js_l 1 4)])) js_sk) (js_sq (js_if (js_cp js_ge (js_cv 0 0 f_X0_draw [(js_l 3 1), (js_k 100)]) (js_cv 0 6 f_X6_heedFor [(js_l 3 0), (js_l 3 1), (js_l 1 3), (js_l 1 4)])) (js_rv (js_k 0)) js_sk) (js_sq (js_ex (js_cv 0 0 f_X0_take [(js_l 3 1), (js_l 1 3), (js_l 1 4), (js_l 1 2), (js_l 1 4)])) (js_rv (js_k 1))))))))))) [(3, z0), (3, z1), (1, z2), (0, 0), (0, 0), (0, 0)] w) := by
  unfold f_X6_tellsOne
  rw [jv_me]
  have e : js_ev [3, 3, 1] [z0, z1, z2] 6 = [(3, z0), (3, z1), (1, z2), (0, 0), (0, 0), (0, 0)] := rfl
  rw [e]
theorem fe_X9_toldApart (z0 z1 z2 z3 : Int) (w : js_Mm) : f_X9_toldApart [z0, z1, z2, z3] w = jv_out 5 ((js_sq (js_if (js_cz js_eq (js_2 js_and (js_2 js_shr (js_al 0 20 (js_gr 0 0 6 (js_gr 0 9 0 (js_l 3 0))) (js_2 js_add (js_2 js_mul (js_l 1 2) (js_k 6)) (js_l 1 3))) (js_l 1 1)) (js_k 1))) (js_rv (js_k 0)) js_sk) (js_sq (js_ex (js_cv 0 9 f_X9_trace [(js_l 3 0), (js_l 1 1), (js_l 1 3)])) (js_rv (js_q (js_cn (js_cz js_ne (js_cv 0 9 f_X9_comesBy [(js_l 3 0), (js_l 1 2)]))) (js_k 1) (js_k 0))))) [(3, z0), (1, z1), (1, z2), (1, z3)] w) := by
  unfold f_X9_toldApart
  rw [jv_me]
  have e : js_ev [3, 1, 1, 1] [z0, z1, z2, z3] 4 = [(3, z0), (1, z1), (1, z2), (1, z3)] := rfl
  rw [e]
def lc_X9_thoseBy_1 : js_CC := (js_cp js_lt (js_l 1 4) (js_k 24))
def lb_X9_thoseBy_1 : js_SS := (js_sq (js_if (js_ca (js_cp js_ne (js_l 1 4) (js_l 1 1)) (js_cz js_ne (js_cv 0 0 f_X0_has [(js_gr 0 9 0 (js_l 3 0)), (js_l 1 4), (js_l 1 2)]))) (js_sq (js_ex (js_cv 0 9 f_X9_trace [(js_l 3 0), (js_l 1 4), (js_l 1 2)])) (js_if (js_cz js_ne (js_cv 0 9 f_X9_comesBy [(js_l 3 0), (js_l 1 1)])) (js_s1 1 3 (js_2 js_or (js_l 1 3) (js_2 js_shl (js_k 1) (js_l 1 4)))) js_sk)) js_sk) (js_ii 4 1))
theorem fe_X9_thoseBy (z0 z1 z2 : Int) (w : js_Mm) : f_X9_thoseBy [z0, z1, z2] w = jv_out 1 ((js_sq (js_s1 1 3 (js_k 0)) (js_sq (js_bk 4 (js_sq (js_s1 1 4 (js_k 0)) (js_wh lc_X9_thoseBy_1 lb_X9_thoseBy_1))) (js_rv (js_l 1 3)))) [(3, z0), (1, z1), (1, z2), (0, 0), (0, 0)] w) := by
  unfold f_X9_thoseBy
  rw [jv_me]
  have e : js_ev [3, 1, 1] [z0, z1, z2] 5 = [(3, z0), (1, z1), (1, z2), (0, 0), (0, 0)] := rfl
  rw [e]
  unfold lc_X9_thoseBy_1 lb_X9_thoseBy_1
  rfl
theorem fe_X1_put (z0 z1 z2 z3 : Int) (w : js_Mm) : f_X1_put [z0, z1, z2, z3] w = jv_out 1 ((js_sq (js_of 0 1 0 js_or (js_l 3 0) (js_2 js_shl (js_k 1) (js_l 1 1))) (js_sq (js_pa 0 20 (js_gr 0 1 1 (js_l 3 0)) (js_l 1 1) (js_l 1 2)) (js_sq (js_pa 0 20 (js_gr 0 1 2 (js_l 3 0)) (js_l 1 1) (js_l 1 3)) (js_rv (js_cv 0 1 f_X1_number [(js_l 3 0)]))))) [(3, z0), (1, z1), (1, z2), (1, z3)] w) := by
  unfold f_X1_put
  rw [jv_me]
  have e : js_ev [3, 1, 1, 1] [z0, z1, z2, z3] 4 = [(3, z0), (1, z1), (1, z2), (1, z3)] := rfl
  rw [e]
def lc_X1_leadingTo_1 : js_CC := (js_cp js_lt (js_l 1 3) (js_k 24))
def lb_X1_leadingTo_1 : js_SS := (js_sq (js_if (js_ca (js_cz js_ne (js_cv 0 1 f_X1_has [(js_l 3 0), (js_l 1 3)])) (js_cp js_eq (js_cv 0 1 f_X1_endOf [(js_l 3 0), (js_l 1 3)]) (js_l 1 1))) (js_ii 2 1) js_sk) (js_ii 3 1))
theorem fe_X1_leadingTo (z0 z1 : Int) (w : js_Mm) : f_X1_leadingTo [z0, z1] w = jv_out 1 ((js_sq (js_s1 1 2 (js_k 0)) (js_sq (js_bk 3 (js_sq (js_s1 1 3 (js_k 0)) (js_wh lc_X1_leadingTo_1 lb_X1_leadingTo_1))) (js_rv (js_l 1 2)))) [(3, z0), (1, z1), (0, 0), (0, 0)] w) := by
  unfold f_X1_leadingTo
  rw [jv_me]
  have e : js_ev [3, 1] [z0, z1] 4 = [(3, z0), (1, z1), (0, 0), (0, 0)] := rfl
  rw [e]
  unfold lc_X1_leadingTo_1 lb_X1_leadingTo_1
  rfl
def lc_X1_falseOnes_1 : js_CC := (js_cp js_lt (js_l 1 2) (js_k 24))
def lb_X1_falseOnes_1 : js_SS := (js_sq (js_if (js_ca (js_cz js_ne (js_cv 0 1 f_X1_has [(js_l 3 0), (js_l 1 2)])) (js_co (js_cp js_eq (js_cv 0 1 f_X1_endOf [(js_l 3 0), (js_l 1 2)]) (js_k (-1))) (js_cz js_ne (js_cv 0 1 f_X1_isTooEarly [(js_l 3 0), (js_l 1 2)])))) (js_s1 1 1 (js_2 js_or (js_l 1 1) (js_2 js_shl (js_k 1) (js_l 1 2)))) js_sk) (js_ii 2 1))
theorem fe_X1_falseOnes (z0 : Int) (w : js_Mm) : f_X1_falseOnes [z0] w = jv_out 1 ((js_sq (js_s1 1 1 (js_k 0)) (js_sq (js_bk 2 (js_sq (js_s1 1 2 (js_k 0)) (js_wh lc_X1_falseOnes_1 lb_X1_falseOnes_1))) (js_rv (js_l 1 1)))) [(3, z0), (0, 0), (0, 0)] w) := by
  unfold f_X1_falseOnes
  rw [jv_me]
  have e : js_ev [3] [z0] 3 = [(3, z0), (0, 0), (0, 0)] := rfl
  rw [e]
  unfold lc_X1_falseOnes_1 lb_X1_falseOnes_1
  rfl
def lc_X4_prepare_1 : js_CC := (js_cp js_lt (js_l 1 2) (js_cv 0 4 f_X4_size [(js_l 3 0)]))
def lb_X4_prepare_1 : js_SS := (js_sq (js_pa 0 20 (js_gr 0 4 1 (js_l 3 0)) (js_2 js_add (js_2 js_mul (js_l 1 1) (js_k 10)) (js_l 1 2)) (js_2 js_sub (js_k 1000) (js_dv js_div (js_2 js_mul (js_cv 0 8 f_X8_strengthOf [(js_gr 0 4 0 (js_l 3 0)), (js_l 1 1), (js_l 1 2)]) (js_al 0 20 (js_gr 0 8 3 (js_gr 0 4 0 (js_l 3 0))) (js_l 1 1))) (js_k 10)))) (js_ii 2 1))
def lc_X4_prepare_2 : js_CC := (js_cp js_lt (js_l 1 1) (js_cv 0 4 f_X4_size [(js_l 3 0)]))
def lb_X4_prepare_2 : js_SS := (js_sq (js_bk 2 (js_sq (js_s1 1 2 (js_k 0)) (js_wh lc_X4_prepare_1 lb_X4_prepare_1))) (js_ii 1 1))
theorem fe_X4_prepare (z0 : Int) (w : js_Mm) : f_X4_prepare [z0] w = jv_out 0 ((js_sq (js_sq (js_if (js_cz js_ne (js_gf 0 4 6 (js_l 3 0))) js_r0 js_sk) (js_sq (js_bk 1 (js_sq (js_s1 1 1 (js_k 0)) (js_wh lc_X4_prepare_2 lb_X4_prepare_2))) (js_pf 0 4 6 (js_l 3 0) (js_k 1)))) js_r0) [(3, z0), (0, 0), (0, 0)] w) := by
  unfold f_X4_prepare
  rw [jv_me]
  have e : js_ev [3] [z0] 3 = [(3, z0), (0, 0), (0, 0)] := rfl
  rw [e]
  unfold lc_X4_prepare_2 lb_X4_prepare_2 lc_X4_prepare_1 lb_X4_prepare_1
  rfl
def lc_X4_part_1 : js_CC := (js_cp js_lt (js_l 1 2) (js_cv 0 4 f_X4_size [(js_l 3 0)]))
def lb_X4_part_1 : js_SS := (js_sq (js_if (js_cz js_eq (js_2 js_and (js_2 js_shr (js_l 1 1) (js_l 1 2)) (js_k 1))) (js_ex (js_cv 0 4 f_X4_partBy [(js_l 3 0), (js_l 1 2), (js_cv 0 4 f_X4_tellOf [(js_l 3 0), (js_l 1 1), (js_l 1 2)])])) js_sk) (js_ii 2 1))
def lc_X4_part_2 : js_CC := (js_cp js_lt (js_l 1 2) (js_gf 0 4 5 (js_l 3 0)))
def lb_X4_part_2 : js_SS := (js_sq (js_oa 0 21 js_ladd (js_gr 0 4 2 (js_l 3 0)) (js_al 0 20 (js_gr 0 4 3 (js_l 3 0)) (js_l 1 2)) (js_al 0 21 (js_gr 0 4 4 (js_l 3 0)) (js_l 1 2))) (js_ii 2 1))
theorem fe_X4_part (z0 z1 : Int) (w : js_Mm) : f_X4_part [z0, z1] w = jv_out 0 ((js_sq (js_sq (js_pa 0 20 (js_gr 0 4 3 (js_l 3 0)) (js_k 0) (js_l 1 1)) (js_sq (js_pa 0 21 (js_gr 0 4 4 (js_l 3 0)) (js_k 0) (js_al 0 21 (js_gr 0 4 2 (js_l 3 0)) (js_l 1 1))) (js_sq (js_pf 0 4 5 (js_l 3 0) (js_k 1)) (js_sq (js_pa 0 21 (js_gr 0 4 2 (js_l 3 0)) (js_l 1 1) (js_k 0)) (js_sq (js_bk 2 (js_sq (js_s1 1 2 (js_k 0)) (js_wh lc_X4_part_1 lb_X4_part_1))) (js_bk 2 (js_sq (js_s1 1 2 (js_k 0)) (js_wh lc_X4_part_2 lb_X4_part_2)))))))) js_r0) [(3, z0), (1, z1), (0, 0)] w) := by
  unfold f_X4_part
  rw [jv_me]
  have e : js_ev [3, 1] [z0, z1] 3 = [(3, z0), (1, z1), (0, 0)] := rfl
  rw [e]
  unfold lc_X4_part_2 lb_X4_part_2 lc_X4_part_1 lb_X4_part_1
  rfl
def lc_X2_seek_1 : js_CC := (js_ca (js_cp js_lt (js_l 1 2) (js_k 12)) (js_cz js_gt (js_gf 0 2 3 (js_l 3 0))))
def lb_X2_seek_1 : js_SS := (js_sq (js_if (js_cz js_ne (js_cv 0 2 f_X2_reachesReports [(js_l 3 0), (js_l 1 2)])) (js_bk 3 (js_sq (js_s1 1 3 (js_cv 0 2 f_X2_latestStart [(js_l 3 0), (js_l 1 2), (js_l 1 1)])) (js_sq (js_s1 1 4 (js_cv 0 2 f_X2_latenessOf [(js_l 3 0), (js_l 1 2), (js_l 1 1), (js_l 1 3)])) (js_if (js_co (js_cp js_eq (js_gf 0 2 4 (js_l 3 0)) (js_k (-1))) (js_cp js_lt (js_l 1 4) (js_gf 0 2 6 (js_l 3 0)))) (js_sq (js_pf 0 2 4 (js_l 3 0) (js_l 1 2)) (js_sq (js_pf 0 2 5 (js_l 3 0) (js_l 1 3)) (js_pf 0 2 6 (js_l 3 0) (js_l 1 4)))) js_sk)))) js_sk) (js_ii 2 1))
theorem fe_X2_seek (z0 z1 : Int) (w : js_Mm) : f_X2_seek [z0, z1] w = jv_out 0 ((js_sq (js_sq (js_pf 0 2 4 (js_l 3 0) (js_k (-1))) (js_bk 2 (js_sq (js_s1 1 2 (js_k 0)) (js_wh lc_X2_seek_1 lb_X2_seek_1)))) js_r0) [(3, z0), (1, z1), (0, 0), (0, 0), (0, 0)] w) := by
  unfold f_X2_seek
  rw [jv_me]
  have e : js_ev [3, 1] [z0, z1] 5 = [(3, z0), (1, z1), (0, 0), (0, 0), (0, 0)] := rfl
  rw [e]
  unfold lc_X2_seek_1 lb_X2_seek_1
  rfl
theorem fe_X11_isNext (z0 z1 z2 z3 z4 z5 z6 z7 z8 : Int) (w : js_Mm) : f_X11_isNext [z0, z1, z2, z3, z4, z5, z6, z7, z8] w = jv_out 5 ((js_sq (js_if (js_cz js_gt (js_gf 1 11 23 (js_l 3 0))) (js_rv (js_k 0)) js_sk) (js_sq (js_ex (js_cv 1 11 f_X11_takeWord [(js_l 3 0)])) (js_sq (js_s1 1 9 (js_q (js_ca (js_cz js_ne (js_cv 1 11 f_X11_isWord [(js_l 3 0), (js_l 1 1), (js_l 1 2), (js_l 1 3), (js_l 1 4), (js_l 1 5)])) (js_cz js_ne (js_cv 1 11 f_X11_isTail [(js_l 3 0), (js_l 1 6), (js_l 1 7), (js_l 1 8)]))) (js_k 1) (js_k 0))) (js_sq (js_pf 1 11 20 (js_l 3 0) (js_q (js_cz js_ne (js_l 1 9)) (js_gf 1 11 20 (js_l 3 0)) (js_gf 1 11 21 (js_l 3 0)))) (js_rv (js_l 1 9)))))) [(3, z0), (1, z1), (1, z2), (1, z3), (1, z4), (1, z5), (1, z6), (1, z7), (1, z8), (0, 0)] w) := by
  unfold f_X11_isNext
  rw [jv_me]
  have e : js_ev [3, 1, 1, 1, 1, 1, 1, 1, 1] [z0, z1, z2, z3, z4, z5, z6, z7, z8] 10 = [(3, z0), (1, z1), (1, z2), (1, z3), (1, z4), (1, z5), (1, z6), (1, z7), (1, z8), (0, 0)] := rfl
  rw [e]
def lc_X11_takeTie_1 : js_CC := (js_cp js_lt (js_l 1 6) (js_2 js_add (js_k 60) (js_l 1 2)))
def lb_X11_takeTie_1 : js_SS := (js_sq (js_s1 1 5 (js_q (js_co (js_co (js_cz js_ne (js_l 1 5)) (js_ca (js_cp js_eq (js_al 1 20 (js_gr 1 11 8 (js_l 3 0)) (js_l 1 6)) (js_l 1 3)) (js_cp js_eq (js_al 1 20 (js_gr 1 11 9 (js_l 3 0)) (js_l 1 6)) (js_l 1 4)))) (js_ca (js_cp js_eq (js_al 1 20 (js_gr 1 11 8 (js_l 3 0)) (js_l 1 6)) (js_l 1 4)) (js_cp js_eq (js_al 1 20 (js_gr 1 11 9 (js_l 3 0)) (js_l 1 6)) (js_l 1 3)))) (js_k 1) (js_k 0))) (js_ii 6 1))
theorem fe_X11_takeTie (z0 z1 : Int) (w : js_Mm) : f_X11_takeTie [z0, z1] w = jv_out 0 ((js_sq (js_sq (js_s1 1 2 (js_al 1 20 (js_gr 1 11 11 (js_l 3 0)) (js_k 1))) (js_if (js_cz js_ne (js_cv 1 11 f_X11_want [(js_l 3 0), (js_q (js_cp js_lt (js_l 1 2) (js_k 60)) (js_k 1) (js_k 0)), (js_k 3), (js_l 1 1)])) (js_bk 3 (js_sq (js_s1 1 3 (js_cv 1 11 f_X11_takeNumber [(js_l 3 0), (js_k 0), (js_2 js_sub (js_al 1 20 (js_gr 1 11 7 (js_l 3 0)) (js_k 1)) (js_k 1))])) (js_sq (js_s1 1 4 (js_cv 1 11 f_X11_takeNumber [(js_l 3 0), (js_k 0), (js_2 js_sub (js_al 1 20 (js_gr 1 11 7 (js_l 3 0)) (js_k 1)) (js_k 1))])) (js_sq (js_s1 1 5 (js_q (js_cp js_eq (js_l 1 3) (js_l 1 4)) (js_k 1) (js_k 0))) (js_sq (js_bk 6 (js_sq (js_s1 1 6 (js_k 60)) (js_wh lc_X11_takeTie_1 lb_X11_takeTie_1))) (js_if (js_ca (js_cz js_eq (js_gf 1 11 23 (js_l 3 0))) (js_cz js_ne (js_cv 1 11 f_X11_want [(js_l 3 0), (js_q (js_cn (js_cz js_ne (js_l 1 5))) (js_k 1) (js_k 0)), (js_k 4), (js_gf 1 11 21 (js_l 3 0))]))) (js_sq (js_pa 1 20 (js_gr 1 11 8 (js_l 3 0)) (js_2 js_add (js_k 60) (js_l 1 2)) (js_l 1 3)) (js_sq (js_pa 1 20 (js_gr 1 11 9 (js_l 3 0)) (js_2 js_add (js_k 60) (js_l 1 2)) (js_l 1 4)) (js_sq (js_pa 1 20 (js_gr 1 11 10 (js_l 3 0)) (js_2 js_add (js_k 60) (js_l 1 2)) (js_cv 1 11 f_X11_takeNumber [(js_l 3 0), (js_k 1), (js_k 9)])) (js_pa 1 20 (js_gr 1 11 11 (js_l 3 0)) (js_k 1) (js_2 js_add (js_l 1 2) (js_k 1)))))) js_sk)))))) js_sk)) js_r0) [(3, z0), (1, z1), (0, 0), (0, 0), (0, 0), (0, 0), (0, 0)] w) := by
  unfold f_X11_takeTie
  rw [jv_me]
  have e : js_ev [3, 1] [z0, z1] 7 = [(3, z0), (1, z1), (0, 0), (0, 0), (0, 0), (0, 0), (0, 0)] := rfl
  rw [e]
  unfold lc_X11_takeTie_1 lb_X11_takeTie_1
  rfl
theorem fe_X11_person (z0 z1 z2 : Int) (w : js_Mm) : f_X11_person [z0, z1, z2] w = jv_out 1 ((js_sq (js_if (js_cn (js_cz js_ne (js_cv 1 11 f_X11_isPerson [(js_l 3 0), (js_l 1 1)]))) (js_rv (js_k (-1000001))) js_sk) (js_sw (js_l 1 2) [(0, (js_rv (js_al 1 20 (js_gr 1 11 4 (js_l 3 0)) (js_l 1 1)))), (1, (js_rv (js_cs f_X11_one [(js_al 1 23 (js_gr 1 11 5 (js_l 3 0)) (js_l 1 1))]))), (2, (js_rv (js_al 1 20 (js_gr 1 11 6 (js_l 3 0)) (js_l 1 1)))), (3, (js_rv (js_cv 1 11 f_X11_tieMany [(js_l 3 0), (js_l 1 1)]))), (4, (js_rv (js_cv 1 11 f_X11_tieSum [(js_l 3 0), (js_l 1 1)])))] (js_rv (js_k (-1000002))))) [(3, z0), (1, z1), (1, z2)] w) := by
  unfold f_X11_person
  rw [jv_me]
  have e : js_ev [3, 1, 1] [z0, z1, z2] 3 = [(3, z0), (1, z1), (1, z2)] := rfl
  rw [e]
theorem fe_X11_tie (z0 z1 z2 : Int) (w : js_Mm) : f_X11_tie [z0, z1, z2] w = jv_out 1 ((js_rv (js_q (js_ca (js_cz js_ne (js_cv 1 11 f_X11_isPerson [(js_l 3 0), (js_l 1 1)])) (js_cz js_ne (js_cv 1 11 f_X11_isPerson [(js_l 3 0), (js_l 1 2)]))) (js_cv 1 11 f_X11_strength [(js_l 3 0), (js_l 1 1), (js_l 1 2)]) (js_k (-1000001)))) [(3, z0), (1, z1), (1, z2)] w) := by
  unfold f_X11_tie
  rw [jv_me]
  have e : js_ev [3, 1, 1] [z0, z1, z2] 3 = [(3, z0), (1, z1), (1, z2)] := rfl
  rw [e]
theorem fe_X11_saying (z0 z1 z2 : Int) (w : js_Mm) : f_X11_saying [z0, z1, z2] w = jv_out 1 ((js_sq (js_if (js_cn (js_cz js_ne (js_cv 1 11 f_X11_isSaying [(js_l 3 0), (js_l 1 1)]))) (js_rv (js_k (-1000001))) js_sk) (js_rv (js_q (js_cz js_eq (js_l 1 2)) (js_al 1 20 (js_gr 1 11 12 (js_l 3 0)) (js_l 1 1)) (js_q (js_cp js_eq (js_l 1 2) (js_k 1)) (js_al 1 20 (js_gr 1 11 13 (js_l 3 0)) (js_l 1 1)) (js_q (js_cp js_eq (js_l 1 2) (js_k 2)) (js_al 1 20 (js_gr 1 11 14 (js_l 3 0)) (js_l 1 1)) (js_k (-1000002))))))) [(3, z0), (1, z1), (1, z2)] w) := by
  unfold f_X11_saying
  rw [jv_me]
  have e : js_ev [3, 1, 1] [z0, z1, z2] 3 = [(3, z0), (1, z1), (1, z2)] := rfl
  rw [e]
theorem fe_X11_pair (z0 z1 z2 z3 : Int) (w : js_Mm) : f_X11_pair [z0, z1, z2, z3] w = jv_out 1 ((js_sq (js_if (js_co (js_cn (js_cz js_ne (js_cv 1 11 f_X11_isSaying [(js_l 3 0), (js_l 1 1)]))) (js_cn (js_cz js_ne (js_cv 1 11 f_X11_isSaying [(js_l 3 0), (js_l 1 2)])))) (js_rv (js_k (-1000001))) js_sk) (js_rv (js_q (js_cz js_eq (js_l 1 3)) (js_cs f_X11_one [(js_cv 1 11 f_X11_isBarred [(js_l 3 0), (js_l 1 1), (js_l 1 2)])]) (js_q (js_cp js_eq (js_l 1 3) (js_k 1)) (js_cv 1 11 f_X11_joinOf [(js_l 3 0), (js_l 1 1), (js_l 1 2)]) (js_k (-1000002)))))) [(3, z0), (1, z1), (1, z2), (1, z3)] w) := by
  unfold f_X11_pair
  rw [jv_me]
  have e : js_ev [3, 1, 1, 1] [z0, z1, z2, z3] 4 = [(3, z0), (1, z1), (1, z2), (1, z3)] := rfl
  rw [e]
def lc_X11_listener_1 : js_CC := (js_cp js_lt (js_l 1 4) (js_al 1 20 (js_gr 1 11 11 (js_l 3 0)) (js_k 0)))
def lb_X11_listener_1 : js_SS := (js_sq (js_if (js_cz js_ne (js_cv 1 11 f_X11_isOf [(js_l 3 0), (js_l 1 4), (js_l 1 2)])) (js_sq (js_s1 1 3 (js_2 js_sub (js_l 1 3) (js_al 1 20 (js_gr 1 11 10 (js_l 3 0)) (js_l 1 4)))) (js_if (js_cz js_lt (js_l 1 3)) (js_rv (js_q (js_cp js_eq (js_al 1 20 (js_gr 1 11 8 (js_l 3 0)) (js_l 1 4)) (js_l 1 2)) (js_al 1 20 (js_gr 1 11 9 (js_l 3 0)) (js_l 1 4)) (js_al 1 20 (js_gr 1 11 8 (js_l 3 0)) (js_l 1 4)))) js_sk)) js_sk) (js_ii 4 1))
theorem fe_X11_listener (z0 z1 z2 : Int) (w : js_Mm) : f_X11_listener [z0, z1, z2] w = jv_out 1 ((js_sq (js_s1 1 3 (js_cv 1 11 f_X11_draw [(js_l 3 0), (js_l 1 1), (js_cv 1 11 f_X11_tieSum [(js_l 3 0), (js_l 1 2)])])) (js_sq (js_bk 4 (js_sq (js_s1 1 4 (js_k 0)) (js_wh lc_X11_listener_1 lb_X11_listener_1))) (js_rv (js_k (-1))))) [(3, z0), (1, z1), (1, z2), (0, 0), (0, 0)] w) := by
  unfold f_X11_listener
  rw [jv_me]
  have e : js_ev [3, 1, 1] [z0, z1, z2] 5 = [(3, z0), (1, z1), (1, z2), (0, 0), (0, 0)] := rfl
  rw [e]
  unfold lc_X11_listener_1 lb_X11_listener_1
  rfl
def lc_X11_heedOf_1 : js_CC := (js_cp js_lt (js_l 1 5) (js_al 1 20 (js_gr 1 11 17 (js_l 3 0)) (js_k 0)))
def lb_X11_heedOf_1 : js_SS := (js_sq (js_s1 1 4 (js_q (js_co (js_cz js_ne (js_l 1 4)) (js_ca (js_ca (js_cz js_ne (js_cv 1 11 f_X11_isHeld [(js_l 3 0), (js_l 1 1), (js_l 1 2), (js_l 1 5)])) (js_cz js_ge (js_al 1 20 (js_gr 1 11 12 (js_l 3 0)) (js_l 1 5)))) (js_cp js_eq (js_al 1 20 (js_gr 1 11 12 (js_l 3 0)) (js_l 1 5)) (js_al 1 20 (js_gr 1 11 13 (js_l 3 0)) (js_l 1 3))))) (js_k 1) (js_k 0))) (js_ii 5 1))
theorem fe_X11_heedOf (z0 z1 z2 z3 : Int) (w : js_Mm) : f_X11_heedOf [z0, z1, z2, z3] w = jv_out 1 ((js_sq (js_s1 1 4 (js_k 0)) (js_sq (js_bk 5 (js_sq (js_s1 1 5 (js_k 0)) (js_wh lc_X11_heedOf_1 lb_X11_heedOf_1))) (js_sq (js_s1 1 5 (js_2 js_add (js_al 1 20 (js_gr 1 11 4 (js_l 3 0)) (js_l 1 2)) (js_q (js_cz js_ne (js_l 1 4)) (js_gf 1 11 3 (js_l 3 0)) (js_k 0)))) (js_rv (js_q (js_cp js_gt (js_l 1 5) (js_k 100)) (js_k 100) (js_l 1 5)))))) [(3, z0), (1, z1), (1, z2), (1, z3), (0, 0), (0, 0)] w) := by
  unfold f_X11_heedOf
  rw [jv_me]
  have e : js_ev [3, 1, 1, 1] [z0, z1, z2, z3] 6 = [(3, z0), (1, z1), (1, z2), (1, z3), (0, 0), (0, 0)] := rfl
  rw [e]
  unfold lc_X11_heedOf_1 lb_X11_heedOf_1
  rfl
def lc_X11_holdersOf_1 : js_CC := (js_cp js_lt (js_l 1 4) (js_al 1 20 (js_gr 1 11 7 (js_l 3 0)) (js_k 0)))
def lb_X11_holdersOf_1 : js_SS := (js_sq (js_s1 1 3 (js_2 js_or (js_l 1 3) (js_2 js_shl (js_cs f_X11_one [(js_cv 1 11 f_X11_isHeld [(js_l 3 0), (js_l 1 1), (js_l 1 4), (js_l 1 2)])]) (js_l 1 4)))) (js_ii 4 1))
theorem fe_X11_holdersOf (z0 z1 z2 : Int) (w : js_Mm) : f_X11_holdersOf [z0, z1, z2] w = jv_out 1 ((js_sq (js_s1 1 3 (js_k 0)) (js_sq (js_bk 4 (js_sq (js_s1 1 4 (js_k 0)) (js_wh lc_X11_holdersOf_1 lb_X11_holdersOf_1))) (js_rv (js_l 1 3)))) [(3, z0), (1, z1), (1, z2), (0, 0), (0, 0)] w) := by
  unfold f_X11_holdersOf
  rw [jv_me]
  have e : js_ev [3, 1, 1] [z0, z1, z2] 5 = [(3, z0), (1, z1), (1, z2), (0, 0), (0, 0)] := rfl
  rw [e]
  unfold lc_X11_holdersOf_1 lb_X11_holdersOf_1
  rfl
def lc_X11_hang_1 : js_CC := (js_cp js_lt (js_l 1 7) (js_al 1 20 (js_gr 1 11 17 (js_l 3 0)) (js_k 0)))
def lb_X11_hang_1 : js_SS := (js_sq (js_if (js_ca (js_cz js_ne (js_cv 1 11 f_X11_isHeld [(js_l 3 0), (js_l 1 1), (js_l 1 6), (js_l 1 7)])) (js_cz js_ne (js_cv 1 11 f_X11_isBarred [(js_l 3 0), (js_l 1 7), (js_l 1 3)]))) (js_pa 1 20 (js_gr 1 11 0 (js_l 3 0)) (js_2 js_add (js_2 js_add (js_l 1 1) (js_k 0)) (js_cs f_X11_cell [(js_l 1 6), (js_l 1 7)])) (js_k 2)) js_sk) (js_ii 7 1))
def lc_X11_hang_2 : js_CC := (js_cp js_lt (js_l 1 6) (js_al 1 20 (js_gr 1 11 7 (js_l 3 0)) (js_k 0)))
def lb_X11_hang_2 : js_SS := (js_sq (js_if (js_ca (js_cp js_eq (js_al 1 20 (js_gr 1 11 6 (js_l 3 0)) (js_l 1 6)) (js_l 1 2)) (js_cp js_lt (js_cv 1 11 f_X11_draw [(js_l 3 0), (js_l 1 1), (js_k 100)]) (js_l 1 4))) (js_sq (js_if (js_cn (js_cz js_ne (js_cv 1 11 f_X11_isHeld [(js_l 3 0), (js_l 1 1), (js_l 1 6), (js_l 1 3)]))) (js_sq (js_ex (js_cv 1 11 f_X11_come [(js_l 3 0), (js_l 1 1), (js_l 1 6), (js_l 1 3), (js_k 24), (js_l 1 3)])) (js_ii 5 1)) js_sk) (js_bk 7 (js_sq (js_s1 1 7 (js_k 0)) (js_wh lc_X11_hang_1 lb_X11_hang_1)))) js_sk) (js_ii 6 1))
theorem fe_X11_hang (z0 z1 z2 z3 z4 : Int) (w : js_Mm) : f_X11_hang [z0, z1, z2, z3, z4] w = jv_out 1 ((js_sq (js_s1 1 5 (js_k 0)) (js_sq (js_bk 6 (js_sq (js_s1 1 6 (js_k 0)) (js_wh lc_X11_hang_2 lb_X11_hang_2))) (js_rv (js_l 1 5)))) [(3, z0), (1, z1), (1, z2), (1, z3), (1, z4), (0, 0), (0, 0), (0, 0)] w) := by
  unfold f_X11_hang
  rw [jv_me]
  have e : js_ev [3, 1, 1, 1, 1] [z0, z1, z2, z3, z4] 8 = [(3, z0), (1, z1), (1, z2), (1, z3), (1, z4), (0, 0), (0, 0), (0, 0)] := rfl
  rw [e]
  unfold lc_X11_hang_2 lb_X11_hang_2 lc_X11_hang_1 lb_X11_hang_1
  rfl
theorem fe_X11_holds (z0 z1 z2 z3 : Int) (w : js_Mm) : f_X11_holds [z0, z1, z2, z3] w = jv_out 1 ((js_sq (js_if (js_co (js_cn (js_cz js_ne (js_cv 1 11 f_X11_isPerson [(js_l 3 0), (js_l 1 1)]))) (js_cn (js_cz js_ne (js_cv 1 11 f_X11_isSaying [(js_l 3 0), (js_l 1 2)])))) (js_rv (js_k (-1000001))) js_sk) (js_sq (js_s1 1 4 (js_cs f_X11_cell [(js_l 1 1), (js_l 1 2)])) (js_sq (js_s1 1 5 (js_cv 1 11 f_X11_isHeld [(js_l 3 0), (js_k 0), (js_l 1 1), (js_l 1 2)])) (js_sw (js_l 1 3) [(0, (js_rv (js_al 1 20 (js_gr 1 11 0 (js_l 3 0)) (js_2 js_add (js_k 0) (js_l 1 4))))), (1, (js_rv (js_q (js_cz js_ne (js_l 1 5)) (js_al 1 20 (js_gr 1 11 0 (js_l 3 0)) (js_2 js_add (js_k 144) (js_l 1 4))) (js_k (-1))))), (2, (js_rv (js_q (js_cz js_ne (js_l 1 5)) (js_al 1 20 (js_gr 1 11 0 (js_l 3 0)) (js_2 js_add (js_k 288) (js_l 1 4))) (js_k (-1))))), (3, (js_rv (js_al 1 20 (js_gr 1 11 0 (js_l 3 0)) (js_2 js_add (js_k 432) (js_l 1 4))))), (4, (js_rv (js_al 1 20 (js_gr 1 11 0 (js_l 3 0)) (js_2 js_add (js_k 576) (js_l 1 4)))))] (js_rv (js_k (-1000002))))))) [(3, z0), (1, z1), (1, z2), (1, z3), (0, 0), (0, 0)] w) := by
  unfold f_X11_holds
  rw [jv_me]
  have e : js_ev [3, 1, 1, 1] [z0, z1, z2, z3] 6 = [(3, z0), (1, z1), (1, z2), (1, z3), (0, 0), (0, 0)] := rfl
  rw [e]
def lc_X11_findWay_1 : js_CC := (js_cz js_ne (js_l 1 5))
def lb_X11_findWay_1 : js_SS := (js_bk 6 (js_sq (js_pa 1 20 (js_gr 1 11 25 (js_l 3 0)) (js_gf 1 11 26 (js_l 3 0)) (js_l 1 3)) (js_sq (js_of 1 11 26 js_add (js_l 3 0) (js_k 1)) (js_sq (js_s1 1 6 (js_al 1 20 (js_gr 1 11 0 (js_l 3 0)) (js_2 js_add (js_k 144) (js_cs f_X11_cell [(js_l 1 3), (js_l 1 4)])))) (js_sq (js_s1 1 7 (js_al 1 20 (js_gr 1 11 0 (js_l 3 0)) (js_2 js_add (js_k 720) (js_cs f_X11_cell [(js_l 1 3), (js_l 1 4)])))) (js_sq (js_s1 1 5 (js_q (js_ca (js_cz js_ne (js_cs f_X11_in [(js_1 js_i2l (js_l 1 6)), (js_k 0), (js_k 23)])) (js_cp js_lt (js_gf 1 11 26 (js_l 3 0)) (js_k 149))) (js_k 1) (js_k 0))) (js_sq (js_s1 1 3 (js_l 1 6)) (js_s1 1 4 (js_l 1 7)))))))))
theorem fe_X11_findWay (z0 z1 z2 : Int) (w : js_Mm) : f_X11_findWay [z0, z1, z2] w = jv_out 0 ((js_sq (js_sq (js_pf 1 11 26 (js_l 3 0) (js_k 0)) (js_sq (js_s1 1 3 (js_l 1 1)) (js_sq (js_s1 1 4 (js_l 1 2)) (js_sq (js_s1 1 5 (js_cv 1 11 f_X11_isHeld [(js_l 3 0), (js_k 0), (js_l 1 1), (js_l 1 2)])) (js_wh lc_X11_findWay_1 lb_X11_findWay_1))))) js_r0) [(3, z0), (1, z1), (1, z2), (0, 0), (0, 0), (0, 0), (0, 0), (0, 0)] w) := by
  unfold f_X11_findWay
  rw [jv_me]
  have e : js_ev [3, 1, 1] [z0, z1, z2] 8 = [(3, z0), (1, z1), (1, z2), (0, 0), (0, 0), (0, 0), (0, 0), (0, 0)] := rfl
  rw [e]
  unfold lc_X11_findWay_1 lb_X11_findWay_1
  rfl
theorem fe_X11_ask (z0 z1 z2 z3 : Int) (w : js_Mm) : f_X11_ask [z0, z1, z2, z3] w = jv_out 1 ((js_sq (js_if (js_co (js_cn (js_cz js_ne (js_cv 1 11 f_X11_isPerson [(js_l 3 0), (js_l 1 1)]))) (js_ca (js_cp js_ne (js_l 1 2) (js_k (-2))) (js_co (js_cn (js_cz js_ne (js_cv 1 11 f_X11_isPerson [(js_l 3 0), (js_l 1 2)]))) (js_cp js_eq (js_l 1 2) (js_l 1 1))))) (js_rv (js_k (-1000001))) js_sk) (js_sq (js_if (js_cn (js_cz js_ne (js_cs f_X11_in [(js_1 js_i2l (js_l 1 3)), (js_k 0), (js_k 9999)]))) (js_rv (js_k (-1000002))) js_sk) (js_sq (js_of 1 11 28 js_or (js_l 3 0) (js_2 js_shl (js_k 1) (js_l 1 1))) (js_sq (js_pa 1 20 (js_gr 1 11 29 (js_l 3 0)) (js_l 1 1) (js_l 1 2)) (js_sq (js_pa 1 20 (js_gr 1 11 30 (js_l 3 0)) (js_l 1 1) (js_l 1 3)) (js_rv (js_cs f_X11_ones [(js_gf 1 11 28 (js_l 3 0))]))))))) [(3, z0), (1, z1), (1, z2), (1, z3)] w) := by
  unfold f_X11_ask
  rw [jv_me]
  have e : js_ev [3, 1, 1, 1] [z0, z1, z2, z3] 4 = [(3, z0), (1, z1), (1, z2), (1, z3)] := rfl
  rw [e]
theorem fe_X11_end (z0 z1 : Int) (w : js_Mm) : f_X11_end [z0, z1] w = jv_out 1 ((js_sq (js_if (js_cn (js_cz js_ne (js_cv 1 11 f_X11_isPerson [(js_l 3 0), (js_l 1 1)]))) (js_rv (js_k (-1000001))) js_sk) (js_rv (js_q (js_cz js_ne (js_cs f_X11_has [(js_gf 1 11 28 (js_l 3 0)), (js_l 1 1)])) (js_cv 1 11 f_X11_endOf [(js_l 3 0), (js_l 1 1)]) (js_k (-1000003))))) [(3, z0), (1, z1)] w) := by
  unfold f_X11_end
  rw [jv_me]
  have e : js_ev [3, 1] [z0, z1] 2 = [(3, z0), (1, z1)] := rfl
  rw [e]
def lc_X11_leading_1 : js_CC := (js_cp js_lt (js_l 1 6) (js_al 1 20 (js_gr 1 11 7 (js_l 3 0)) (js_k 0)))
def lb_X11_leading_1 : js_SS := (js_sq (js_s1 1 5 (js_2 js_add (js_l 1 5) (js_cs f_X11_one [(js_q (js_ca (js_cz js_ne (js_cs f_X11_has [(js_gf 1 11 28 (js_l 3 0)), (js_l 1 6)])) (js_cp js_eq (js_cv 1 11 f_X11_endOf [(js_l 3 0), (js_l 1 6)]) (js_l 1 4))) (js_k 1) (js_k 0))]))) (js_ii 6 1))
def lc_X11_leading_2 : js_CC := (js_cp js_lt (js_l 1 4) (js_al 1 20 (js_gr 1 11 7 (js_l 3 0)) (js_k 0)))
def lb_X11_leading_2 : js_SS := (js_sq (js_bk 5 (js_sq (js_s1 1 5 (js_k 0)) (js_sq (js_bk 6 (js_sq (js_s1 1 6 (js_k 0)) (js_wh lc_X11_leading_1 lb_X11_leading_1))) (js_if (js_ca (js_cp js_gt (js_l 1 5) (js_l 1 3)) (js_co (js_cn (js_cz js_ne (js_l 1 1))) (js_cn (js_cz js_ne (js_cs f_X11_has [(js_gf 1 11 28 (js_l 3 0)), (js_l 1 4)]))))) (js_sq (js_s1 1 2 (js_l 1 4)) (js_s1 1 3 (js_l 1 5))) js_sk)))) (js_ii 4 1))
theorem fe_X11_leading (z0 z1 : Int) (w : js_Mm) : f_X11_leading [z0, z1] w = jv_out 1 ((js_sq (js_s1 1 2 (js_k (-1))) (js_sq (js_s1 1 3 (js_k 0)) (js_sq (js_bk 4 (js_sq (js_s1 1 4 (js_k 0)) (js_wh lc_X11_leading_2 lb_X11_leading_2))) (js_rv (js_l 1 2))))) [(3, z0), (1, z1), (0, 0), (0, 0), (0, 0), (0, 0), (0, 0)] w) := by
  unfold f_X11_leading
  rw [jv_me]
  have e : js_ev [3, 1] [z0, z1] 7 = [(3, z0), (1, z1), (0, 0), (0, 0), (0, 0), (0, 0), (0, 0)] := rfl
  rw [e]
  unfold lc_X11_leading_2 lb_X11_leading_2 lc_X11_leading_1 lb_X11_leading_1
  rfl
def lc_X11_stays_1 : js_CC := (js_cp js_lt (js_l 1 4) (js_cv 1 11 f_X11_net [(js_l 3 0)]))
def lb_X11_stays_1 : js_SS := (js_sq (js_bk 5 (js_sq (js_s1 1 5 (js_cv 1 11 f_X11_strength [(js_l 3 0), (js_l 1 1), (js_l 1 4)])) (js_s1 1 3 (js_q (js_ca (js_cz js_ne (js_cs f_X11_has [(js_l 1 2), (js_l 1 4)])) (js_cz js_gt (js_l 1 5))) (js_dv js_div (js_2 js_mul (js_l 1 3) (js_2 js_sub (js_k 1000) (js_dv js_div (js_2 js_mul (js_l 1 5) (js_al 1 20 (js_gr 1 11 4 (js_l 3 0)) (js_l 1 1))) (js_k 10)))) (js_k 1000)) (js_l 1 3))))) (js_ii 4 1))
theorem fe_X11_stays (z0 z1 z2 : Int) (w : js_Mm) : f_X11_stays [z0, z1, z2] w = jv_out 1 ((js_sq (js_s1 1 3 (js_k 1000)) (js_sq (js_bk 4 (js_sq (js_s1 1 4 (js_k 0)) (js_wh lc_X11_stays_1 lb_X11_stays_1))) (js_rv (js_l 1 3)))) [(3, z0), (1, z1), (1, z2), (0, 0), (0, 0), (0, 0)] w) := by
  unfold f_X11_stays
  rw [jv_me]
  have e : js_ev [3, 1, 1] [z0, z1, z2] 6 = [(3, z0), (1, z1), (1, z2), (0, 0), (0, 0), (0, 0)] := rfl
  rw [e]
  unfold lc_X11_stays_1 lb_X11_stays_1
  rfl
theorem fe_X11_road (z0 z1 z2 z3 : Int) (w : js_Mm) : f_X11_road [z0, z1, z2, z3] w = jv_out 1 ((js_sq (js_if (js_co (js_co (js_co (js_cn (js_cz js_ne (js_cs f_X11_isMarket [(js_l 1 1)]))) (js_cn (js_cz js_ne (js_cs f_X11_isMarket [(js_l 1 2)])))) (js_cp js_eq (js_l 1 1) (js_l 1 2))) (js_cn (js_cz js_ne (js_cs f_X11_in [(js_1 js_i2l (js_l 1 3)), (js_k 0), (js_k 30)])))) (js_rv (js_k (-1000002))) js_sk) (js_sq (js_s1 1 4 (js_al 1 20 (js_gr 1 11 34 (js_l 3 0)) (js_2 js_add (js_2 js_mul (js_k 12) (js_l 1 1)) (js_l 1 2)))) (js_sq (js_pa 1 20 (js_gr 1 11 34 (js_l 3 0)) (js_2 js_add (js_2 js_mul (js_k 12) (js_l 1 1)) (js_l 1 2)) (js_l 1 3)) (js_sq (js_pa 1 20 (js_gr 1 11 34 (js_l 3 0)) (js_2 js_add (js_2 js_mul (js_k 12) (js_l 1 2)) (js_l 1 1)) (js_l 1 3)) (js_rv (js_l 1 4)))))) [(3, z0), (1, z1), (1, z2), (1, z3), (0, 0)] w) := by
  unfold f_X11_road
  rw [jv_me]
  have e : js_ev [3, 1, 1, 1] [z0, z1, z2, z3] 5 = [(3, z0), (1, z1), (1, z2), (1, z3), (0, 0)] := rfl
  rw [e]
theorem fe_X11_report (z0 z1 z2 : Int) (w : js_Mm) : f_X11_report [z0, z1, z2] w = jv_out 1 ((js_sq (js_if (js_co (js_cn (js_cz js_ne (js_cs f_X11_isMarket [(js_l 1 1)]))) (js_cn (js_cz js_ne (js_cs f_X11_in [(js_1 js_i2l (js_l 1 2)), (js_k 0), (js_k 999)])))) (js_rv (js_k (-1000002))) js_sk) (js_sq (js_of 1 11 36 js_or (js_l 3 0) (js_2 js_shl (js_k 1) (js_l 1 1))) (js_sq (js_pa 1 20 (js_gr 1 11 37 (js_l 3 0)) (js_l 1 1) (js_l 1 2)) (js_rv (js_cs f_X11_ones [(js_gf 1 11 36 (js_l 3 0))]))))) [(3, z0), (1, z1), (1, z2)] w) := by
  unfold f_X11_report
  rw [jv_me]
  have e : js_ev [3, 1, 1] [z0, z1, z2] 3 = [(3, z0), (1, z1), (1, z2)] := rfl
  rw [e]
theorem fe_X11_source (z0 z1 z2 : Int) (w : js_Mm) : f_X11_source [z0, z1, z2] w = jv_out 1 ((js_sq (js_if (js_co (js_cn (js_cz js_ne (js_cs f_X11_in [(js_1 js_i2l (js_l 1 1)), (js_k 1), (js_k 20)]))) (js_cn (js_cz js_ne (js_cs f_X11_in [(js_1 js_i2l (js_l 1 2)), (js_k 0), (js_k 2)])))) (js_rv (js_k (-1000002))) js_sk) (js_sq (js_ex (js_cv 1 11 f_X11_findDays [(js_l 3 0)])) (js_sq (js_ex (js_cv 1 11 f_X11_findSource [(js_l 3 0), (js_l 1 1)])) (js_rv (js_q (js_co (js_cz js_lt (js_gf 1 11 38 (js_l 3 0))) (js_cz js_eq (js_l 1 2))) (js_gf 1 11 38 (js_l 3 0)) (js_q (js_cp js_eq (js_l 1 2) (js_k 1)) (js_2 js_add (js_gf 1 11 39 (js_l 3 0)) (js_k 1000)) (js_gf 1 11 40 (js_l 3 0)))))))) [(3, z0), (1, z1), (1, z2)] w) := by
  unfold f_X11_source
  rw [jv_me]
  have e : js_ev [3, 1, 1] [z0, z1, z2] 3 = [(3, z0), (1, z1), (1, z2)] := rfl
  rw [e]
def lc_X11_pace_1 : js_CC := (js_cp js_le (js_l 1 3) (js_k 20))
def lb_X11_pace_1 : js_SS := (js_sq (js_sq (js_ex (js_cv 1 11 f_X11_findSource [(js_l 3 0), (js_l 1 3)])) (js_if (js_ca (js_cz js_ge (js_gf 1 11 38 (js_l 3 0))) (js_co (js_cz js_lt (js_l 1 1)) (js_cp js_lt (js_gf 1 11 40 (js_l 3 0)) (js_l 1 2)))) (js_sq (js_s1 1 1 (js_l 1 3)) (js_s1 1 2 (js_gf 1 11 40 (js_l 3 0)))) js_sk)) (js_ii 3 1))
theorem fe_X11_pace (z0 : Int) (w : js_Mm) : f_X11_pace [z0] w = jv_out 1 ((js_sq (js_ex (js_cv 1 11 f_X11_findDays [(js_l 3 0)])) (js_sq (js_s1 1 1 (js_k (-1))) (js_sq (js_s1 1 2 (js_k 0)) (js_sq (js_bk 3 (js_sq (js_s1 1 3 (js_k 1)) (js_wh lc_X11_pace_1 lb_X11_pace_1))) (js_rv (js_l 1 1)))))) [(3, z0), (0, 0), (0, 0), (0, 0)] w) := by
  unfold f_X11_pace
  rw [jv_me]
  have e : js_ev [3] [z0] 4 = [(3, z0), (0, 0), (0, 0), (0, 0)] := rfl
  rw [e]
  unfold lc_X11_pace_1 lb_X11_pace_1
  rfl
theorem fe_X10_below (z0 z1 z2 : Int) (w : js_Mm) : f_X10_below [z0, z1, z2] w = jv_out 1 ((js_rv (js_q (js_ca (js_cz js_ne (js_cv 0 10 f_X10_isPerson [(js_l 3 0), (js_l 1 1)])) (js_cz js_ne (js_cv 0 10 f_X10_isSaying [(js_l 3 0), (js_l 1 2)]))) (js_cv 0 9 f_X9_thoseBy [(js_gr 0 10 11 (js_l 3 0)), (js_l 1 1), (js_l 1 2)]) (js_k (-1000001)))) [(3, z0), (1, z1), (1, z2)] w) := by
  unfold f_X10_below
  rw [jv_me]
  have e : js_ev [3, 1, 1] [z0, z1, z2] 3 = [(3, z0), (1, z1), (1, z2)] := rfl
  rw [e]
theorem fe_X10_ask (z0 z1 z2 z3 : Int) (w : js_Mm) : f_X10_ask [z0, z1, z2, z3] w = jv_out 1 ((js_sq (js_s1 1 4 (js_q (js_co (js_cp js_eq (js_l 1 2) (js_k (-2))) (js_ca (js_cz js_ne (js_cv 0 10 f_X10_isPerson [(js_l 3 0), (js_l 1 2)])) (js_cp js_ne (js_l 1 2) (js_l 1 1)))) (js_k 1) (js_k 0))) (js_sq (js_if (js_co (js_cn (js_cz js_ne (js_cv 0 10 f_X10_isPerson [(js_l 3 0), (js_l 1 1)]))) (js_cn (js_cz js_ne (js_l 1 4)))) (js_rv (js_k (-1000001))) js_sk) (js_rv (js_q (js_co (js_cz js_lt (js_l 1 3)) (js_cp js_gt (js_l 1 3) (js_k 9999))) (js_k (-1000002)) (js_cv 0 1 f_X1_put [(js_gr 0 10 12 (js_l 3 0)), (js_l 1 1), (js_l 1 2), (js_l 1 3)]))))) [(3, z0), (1, z1), (1, z2), (1, z3), (0, 0)] w) := by
  unfold f_X10_ask
  rw [jv_me]
  have e : js_ev [3, 1, 1, 1] [z0, z1, z2, z3] 5 = [(3, z0), (1, z1), (1, z2), (1, z3), (0, 0)] := rfl
  rw [e]
theorem fe_X10_source (z0 z1 z2 : Int) (w : js_Mm) : f_X10_source [z0, z1, z2] w = jv_out 1 ((js_sq (js_if (js_co (js_co (js_co (js_cp js_lt (js_l 1 1) (js_k 1)) (js_cp js_gt (js_l 1 1) (js_k 20))) (js_cz js_lt (js_l 1 2))) (js_cp js_gt (js_l 1 2) (js_k 2))) (js_rv (js_k (-1000002))) js_sk) (js_sq (js_ex (js_cv 0 2 f_X2_measure [(js_gr 0 10 14 (js_l 3 0))])) (js_sq (js_ex (js_cv 0 2 f_X2_seek [(js_gr 0 10 14 (js_l 3 0)), (js_l 1 1)])) (js_sq (js_if (js_cp js_eq (js_gf 0 2 4 (js_gr 0 10 14 (js_l 3 0))) (js_k (-1))) (js_rv (js_k (-1))) js_sk) (js_rv (js_q (js_cz js_eq (js_l 1 2)) (js_gf 0 2 4 (js_gr 0 10 14 (js_l 3 0))) (js_q (js_cp js_eq (js_l 1 2) (js_k 1)) (js_2 js_add (js_gf 0 2 5 (js_gr 0 10 14 (js_l 3 0))) (js_k 1000)) (js_gf 0 2 6 (js_gr 0 10 14 (js_l 3 0)))))))))) [(3, z0), (1, z1), (1, z2)] w) := by
  unfold f_X10_source
  rw [jv_me]
  have e : js_ev [3, 1, 1] [z0, z1, z2] 3 = [(3, z0), (1, z1), (1, z2)] := rfl
  rw [e]
theorem fe_X8_readTie (z0 z1 : Int) (w : js_Mm) : f_X8_readTie [z0, z1] w = jv_out 0 ((js_sq (js_sq (js_if (js_cp js_ge (js_gf 0 8 1 (js_l 3 0)) (js_k 60)) (js_sq (js_ex (js_cv 0 7 f_X7_blame [(js_l 3 1), (js_k 3)])) js_r0) js_sk) (js_sq (js_ex (js_cv 0 7 f_X7_step [(js_l 3 1)])) (js_sq (js_s1 1 2 (js_cv 0 7 f_X7_takeNumber [(js_l 3 1), (js_k 0), (js_2 js_sub (js_gf 0 8 0 (js_l 3 0)) (js_k 1))])) (js_sq (js_s1 1 3 (js_cv 0 7 f_X7_lookNumber [(js_l 3 1), (js_k 0), (js_2 js_sub (js_gf 0 8 0 (js_l 3 0)) (js_k 1))])) (js_sq (js_if (js_ca (js_cz js_eq (js_gf 0 7 6 (js_l 3 1))) (js_co (js_cp js_eq (js_l 1 2) (js_l 1 3)) (js_cz js_ne (js_cv 0 8 f_X8_strengthOf [(js_l 3 0), (js_l 1 2), (js_l 1 3)])))) (js_ex (js_cv 0 7 f_X7_blame [(js_l 3 1), (js_k 4)])) js_sk) (js_sq (js_ex (js_cv 0 7 f_X7_step [(js_l 3 1)])) (js_sq (js_s1 1 4 (js_cv 0 7 f_X7_takeNumber [(js_l 3 1), (js_k 1), (js_k 9)])) (js_if (js_cz js_ne (js_cv 0 7 f_X7_closesClause [(js_l 3 1)])) (js_sq (js_ex (js_cv 0 8 f_X8_befriend [(js_l 3 0), (js_l 1 2), (js_l 1 3), (js_l 1 4)])) (js_sq (js_ex (js_cv 0 8 f_X8_befriend [(js_l 3 0), (js_l 1 3), (js_l 1 2), (js_l 1 4)])) (js_of 0 8 1 js_add (js_l 3 0) (js_k 1)))) js_sk)))))))) js_r0) [(3, z0), (3, z1), (0, 0), (0, 0), (0, 0)] w) := by
  unfold f_X8_readTie
  rw [jv_me]
  have e : js_ev [3, 3] [z0, z1] 5 = [(3, z0), (3, z1), (0, 0), (0, 0), (0, 0)] := rfl
  rw [e]
def lc_X3_readBarred_1 : js_CC := (js_ca (js_cp js_lt (js_l 1 3) (js_k 600)) (js_cz js_ne (js_cv 0 7 f_X7_isSign [(js_l 3 1), (js_k 44)])))
def lb_X3_readBarred_1 : js_SS := (js_sq (js_sq (js_ex (js_cv 0 7 f_X7_step [(js_l 3 1)])) (js_s1 1 2 (js_2 js_or (js_l 1 2) (js_cv 0 3 f_X3_readUnlike [(js_l 3 0), (js_l 3 1), (js_l 1 2)])))) (js_ii 3 1))
theorem fe_X3_readBarred (z0 z1 : Int) (w : js_Mm) : f_X3_readBarred [z0, z1] w = jv_out 1 ((js_sq (js_s1 1 2 (js_cv 0 3 f_X3_readUnlike [(js_l 3 0), (js_l 3 1), (js_k 0)])) (js_sq (js_bk 3 (js_sq (js_s1 1 3 (js_k 0)) (js_wh lc_X3_readBarred_1 lb_X3_readBarred_1))) (js_rv (js_l 1 2)))) [(3, z0), (3, z1), (0, 0), (0, 0)] w) := by
  unfold f_X3_readBarred
  rw [jv_me]
  have e : js_ev [3, 3] [z0, z1] 4 = [(3, z0), (3, z1), (0, 0), (0, 0)] := rfl
  rw [e]
  unfold lc_X3_readBarred_1 lb_X3_readBarred_1
  rfl
theorem fe_X3_readJoined (z0 z1 : Int) (w : js_Mm) : f_X3_readJoined [z0, z1] w = jv_out 1 ((js_sq (js_s1 1 2 (js_cv 0 3 f_X3_readUnlike [(js_l 3 0), (js_l 3 1), (js_k 0)])) (js_rv (js_2 js_or (js_l 1 2) (js_cv 0 3 f_X3_readUnlike [(js_l 3 0), (js_l 3 1), (js_l 1 2)])))) [(3, z0), (3, z1), (0, 0)] w) := by
  unfold f_X3_readJoined
  rw [jv_me]
  have e : js_ev [3, 3] [z0, z1] 3 = [(3, z0), (3, z1), (0, 0)] := rfl
  rw [e]
def lc_X6_tell_1 : js_CC := (js_cp js_lt (js_l 1 3) (js_gf 0 8 0 (js_gr 0 6 0 (js_l 3 0))))
def lb_X6_tell_1 : js_SS := (js_sq (js_if (js_ca (js_ca (js_cz js_ne (js_al 0 20 (js_gr 0 0 1 (js_l 3 1)) (js_l 1 3))) (js_cz js_eq (js_2 js_and (js_2 js_shr (js_gf 0 8 2 (js_gr 0 6 0 (js_l 3 0))) (js_l 1 3)) (js_k 1)))) (js_cz js_gt (js_al 0 20 (js_gr 0 8 5 (js_gr 0 6 0 (js_l 3 0))) (js_l 1 3)))) (js_s1 1 2 (js_2 js_or (js_l 1 2) (js_2 js_shl (js_k 1) (js_l 1 3)))) js_sk) (js_ii 3 1))
def lc_X6_tell_2 : js_CC := (js_ca (js_cp js_lt (js_l 1 4) (js_gf 0 8 0 (js_gr 0 6 0 (js_l 3 0)))) (js_cz js_ne (js_l 1 2)))
def lb_X6_tell_2 : js_SS := (js_sq (js_if (js_ca (js_cz js_ne (js_2 js_and (js_2 js_shr (js_l 1 2) (js_l 1 4)) (js_k 1))) (js_cz js_ne (js_cv 0 6 f_X6_tellsOne [(js_l 3 0), (js_l 3 1), (js_l 1 4)]))) (js_ii 3 1) js_sk) (js_ii 4 1))
theorem fe_X6_tell (z0 z1 : Int) (w : js_Mm) : f_X6_tell [z0, z1] w = jv_out 1 ((js_sq (js_s1 1 2 (js_k 0)) (js_sq (js_bk 3 (js_sq (js_s1 1 3 (js_k 0)) (js_wh lc_X6_tell_1 lb_X6_tell_1))) (js_sq (js_s1 1 3 (js_k 0)) (js_sq (js_bk 4 (js_sq (js_s1 1 4 (js_k 0)) (js_wh lc_X6_tell_2 lb_X6_tell_2))) (js_sq (js_of 0 0 11 js_add (js_l 3 1) (js_k 1)) (js_rv (js_l 1 3))))))) [(3, z0), (3, z1), (0, 0), (0, 0), (0, 0)] w) := by
  unfold f_X6_tell
  rw [jv_me]
  have e : js_ev [3, 3] [z0, z1] 5 = [(3, z0), (3, z1), (0, 0), (0, 0), (0, 0)] := rfl
  rw [e]
  unfold lc_X6_tell_2 lb_X6_tell_2 lc_X6_tell_1 lb_X6_tell_1
  rfl
def lc_X9_rootsBehind_1 : js_CC := (js_cp js_lt (js_l 1 4) (js_k 24))
def lb_X9_rootsBehind_1 : js_SS := (js_sq (js_if (js_ca (js_cz js_ne (js_cv 0 9 f_X9_toldApart [(js_l 3 0), (js_l 1 4), (js_l 1 1), (js_l 1 2)])) (js_cz js_gt (js_gf 0 9 2 (js_l 3 0)))) (js_s1 1 3 (js_2 js_or (js_l 1 3) (js_2 js_shl (js_k 1) (js_al 0 20 (js_gr 0 9 1 (js_l 3 0)) (js_2 js_sub (js_gf 0 9 2 (js_l 3 0)) (js_k 1)))))) js_sk) (js_ii 4 1))
theorem fe_X9_rootsBehind (z0 z1 z2 : Int) (w : js_Mm) : f_X9_rootsBehind [z0, z1, z2] w = jv_out 1 ((js_sq (js_s1 1 3 (js_k 0)) (js_sq (js_bk 4 (js_sq (js_s1 1 4 (js_k 0)) (js_wh lc_X9_rootsBehind_1 lb_X9_rootsBehind_1))) (js_rv (js_cs f_J6_bitCount_0f7a4 [(js_l 1 3)])))) [(3, z0), (1, z1), (1, z2), (0, 0), (0, 0)] w) := by
  unfold f_X9_rootsBehind
  rw [jv_me]
  have e : js_ev [3, 1, 1] [z0, z1, z2] 5 = [(3, z0), (1, z1), (1, z2), (0, 0), (0, 0)] := rfl
  rw [e]
  unfold lc_X9_rootsBehind_1 lb_X9_rootsBehind_1
  rfl
def lc_X9_splitBehind_1 : js_CC := (js_cp js_lt (js_l 1 6) (js_k 24))
def lb_X9_splitBehind_1 : js_SS := (js_sq (js_if (js_ca (js_cp js_eq (js_al 0 20 (js_gr 0 0 2 (js_gr 0 9 0 (js_l 3 0))) (js_2 js_add (js_2 js_mul (js_l 1 6) (js_k 6)) (js_l 1 2))) (js_l 1 4)) (js_cz js_ne (js_cv 0 9 f_X9_toldApart [(js_l 3 0), (js_l 1 6), (js_l 1 1), (js_l 1 2)]))) (js_ii 5 1) js_sk) (js_ii 6 1))
def lc_X9_splitBehind_2 : js_CC := (js_cp js_lt (js_l 1 4) (js_k 24))
def lb_X9_splitBehind_2 : js_SS := (js_sq (js_bk 5 (js_sq (js_s1 1 5 (js_k 0)) (js_sq (js_bk 6 (js_sq (js_s1 1 6 (js_k 0)) (js_wh lc_X9_splitBehind_1 lb_X9_splitBehind_1))) (js_s1 1 3 (js_2 js_max (js_l 1 3) (js_l 1 5)))))) (js_ii 4 1))
theorem fe_X9_splitBehind (z0 z1 z2 : Int) (w : js_Mm) : f_X9_splitBehind [z0, z1, z2] w = jv_out 1 ((js_sq (js_s1 1 3 (js_k 0)) (js_sq (js_bk 4 (js_sq (js_s1 1 4 (js_k 0)) (js_wh lc_X9_splitBehind_2 lb_X9_splitBehind_2))) (js_rv (js_l 1 3)))) [(3, z0), (1, z1), (1, z2), (0, 0), (0, 0), (0, 0), (0, 0)] w) := by
  unfold f_X9_splitBehind
  rw [jv_me]
  have e : js_ev [3, 1, 1] [z0, z1, z2] 7 = [(3, z0), (1, z1), (1, z2), (0, 0), (0, 0), (0, 0), (0, 0)] := rfl
  rw [e]
  unfold lc_X9_splitBehind_2 lb_X9_splitBehind_2 lc_X9_splitBehind_1 lb_X9_splitBehind_1
  rfl
def lc_X1_mostLedTo_1 : js_CC := (js_cp js_lt (js_l 1 4) (js_k 24))
def lb_X1_mostLedTo_1 : js_SS := (js_sq (js_bk 5 (js_sq (js_s1 1 5 (js_q (js_ca (js_cz js_ne (js_l 1 1)) (js_cz js_ne (js_cv 0 1 f_X1_has [(js_l 3 0), (js_l 1 4)]))) (js_k 0) (js_cv 0 1 f_X1_leadingTo [(js_l 3 0), (js_l 1 4)]))) (js_if (js_cp js_gt (js_l 1 5) (js_l 1 2)) (js_sq (js_s1 1 2 (js_l 1 5)) (js_s1 1 3 (js_l 1 4))) js_sk))) (js_ii 4 1))
theorem fe_X1_mostLedTo (z0 z1 : Int) (w : js_Mm) : f_X1_mostLedTo [z0, z1] w = jv_out 1 ((js_sq (js_s1 1 2 (js_k 0)) (js_sq (js_s1 1 3 (js_k (-1))) (js_sq (js_bk 4 (js_sq (js_s1 1 4 (js_k 0)) (js_wh lc_X1_mostLedTo_1 lb_X1_mostLedTo_1))) (js_rv (js_l 1 3))))) [(3, z0), (1, z1), (0, 0), (0, 0), (0, 0), (0, 0)] w) := by
  unfold f_X1_mostLedTo
  rw [jv_me]
  have e : js_ev [3, 1] [z0, z1] 6 = [(3, z0), (1, z1), (0, 0), (0, 0), (0, 0), (0, 0)] := rfl
  rw [e]
  unfold lc_X1_mostLedTo_1 lb_X1_mostLedTo_1
  rfl
def lc_X4_spread_1 : js_CC := (js_cp js_ge (js_l 1 5) (js_l 1 1))
def lb_X4_spread_1 : js_SS := (js_sq (js_if (js_cp js_ne (js_al 0 21 (js_gr 0 4 2 (js_l 3 0)) (js_l 1 5)) (js_k 0)) (js_ex (js_cv 0 4 f_X4_part [(js_l 3 0), (js_l 1 5)])) js_sk) (js_ii 5 (-1)))
def lc_X4_spread_2 : js_CC := (js_cp js_lt (js_l 1 4) (js_l 1 2))
def lb_X4_spread_2 : js_SS := (js_sq (js_bk 5 (js_sq (js_s1 1 5 (js_l 1 3)) (js_wh lc_X4_spread_1 lb_X4_spread_1))) (js_ii 4 1))
theorem fe_X4_spread (z0 z1 z2 : Int) (w : js_Mm) : f_X4_spread [z0, z1, z2] w = jv_out 0 ((js_sq (js_sq (js_ex (js_cv 0 4 f_X4_prepare [(js_l 3 0)])) (js_sq (js_ex (js_cs f_J7_fill_d0a16 [(js_gr 0 4 2 (js_l 3 0)), (js_k 0)])) (js_sq (js_pa 0 21 (js_gr 0 4 2 (js_l 3 0)) (js_l 1 1) (js_k 1000000000)) (js_sq (js_s1 1 3 (js_2 js_sub (js_2 js_shl (js_k 1) (js_cv 0 4 f_X4_size [(js_l 3 0)])) (js_k 1))) (js_bk 4 (js_sq (js_s1 1 4 (js_k 0)) (js_wh lc_X4_spread_2 lb_X4_spread_2))))))) js_r0) [(3, z0), (1, z1), (1, z2), (0, 0), (0, 0), (0, 0)] w) := by
  unfold f_X4_spread
  rw [jv_me]
  have e : js_ev [3, 1, 1] [z0, z1, z2] 6 = [(3, z0), (1, z1), (1, z2), (0, 0), (0, 0), (0, 0)] := rfl
  rw [e]
  unfold lc_X4_spread_2 lb_X4_spread_2 lc_X4_spread_1 lb_X4_spread_1
  rfl
def lc_X2_bestPace_1 : js_CC := (js_cp js_le (js_l 1 3) (js_k 20))
def lb_X2_bestPace_1 : js_SS := (js_sq (js_sq (js_ex (js_cv 0 2 f_X2_seek [(js_l 3 0), (js_l 1 3)])) (js_if (js_ca (js_cp js_ne (js_gf 0 2 4 (js_l 3 0)) (js_k (-1))) (js_co (js_cp js_eq (js_l 1 1) (js_k (-1))) (js_cp js_lt (js_gf 0 2 6 (js_l 3 0)) (js_l 1 2)))) (js_sq (js_s1 1 1 (js_l 1 3)) (js_s1 1 2 (js_gf 0 2 6 (js_l 3 0)))) js_sk)) (js_ii 3 1))
theorem fe_X2_bestPace (z0 : Int) (w : js_Mm) : f_X2_bestPace [z0] w = jv_out 1 ((js_sq (js_ex (js_cv 0 2 f_X2_measure [(js_l 3 0)])) (js_sq (js_s1 1 1 (js_k (-1))) (js_sq (js_s1 1 2 (js_k 0)) (js_sq (js_bk 3 (js_sq (js_s1 1 3 (js_k 1)) (js_wh lc_X2_bestPace_1 lb_X2_bestPace_1))) (js_rv (js_l 1 1)))))) [(3, z0), (0, 0), (0, 0), (0, 0)] w) := by
  unfold f_X2_bestPace
  rw [jv_me]
  have e : js_ev [3] [z0] 4 = [(3, z0), (0, 0), (0, 0), (0, 0)] := rfl
  rw [e]
  unfold lc_X2_bestPace_1 lb_X2_bestPace_1
  rfl
theorem fe_X11_takePerson (z0 z1 : Int) (w : js_Mm) : f_X11_takePerson [z0, z1] w = jv_out 0 ((js_sq (js_sq (js_s1 1 2 (js_al 1 20 (js_gr 1 11 7 (js_l 3 0)) (js_k 1))) (js_if (js_cz js_ne (js_cv 1 11 f_X11_want [(js_l 3 0), (js_q (js_cp js_lt (js_l 1 2) (js_k 24)) (js_k 1) (js_k 0)), (js_k 3), (js_l 1 1)])) (js_sq (js_pa 1 20 (js_gr 1 11 4 (js_l 3 0)) (js_2 js_add (js_k 24) (js_l 1 2)) (js_cv 1 11 f_X11_takeNumber [(js_l 3 0), (js_k 0), (js_k 100)])) (js_sq (js_pa 1 23 (js_gr 1 11 5 (js_l 3 0)) (js_2 js_add (js_k 24) (js_l 1 2)) (js_cv 1 11 f_X11_isNext [(js_l 3 0), (js_k 6), (js_k 115), (js_k 105), (js_k 108), (js_k 101), (js_k 110), (js_k 116), (js_k 0)])) (js_sq (js_pa 1 20 (js_gr 1 11 6 (js_l 3 0)) (js_2 js_add (js_k 24) (js_l 1 2)) (js_q (js_cz js_ne (js_cv 1 11 f_X11_isNext [(js_l 3 0), (js_k 2), (js_k 97), (js_k 116), (js_k 0), (js_k 0), (js_k 0), (js_k 0), (js_k 0)])) (js_cv 1 11 f_X11_takeNumber [(js_l 3 0), (js_k 0), (js_k 3)]) (js_k (-1)))) (js_pa 1 20 (js_gr 1 11 7 (js_l 3 0)) (js_k 1) (js_2 js_add (js_l 1 2) (js_k 1)))))) js_sk)) js_r0) [(3, z0), (1, z1), (0, 0)] w) := by
  unfold f_X11_takePerson
  rw [jv_me]
  have e : js_ev [3, 1] [z0, z1] 3 = [(3, z0), (1, z1), (0, 0)] := rfl
  rw [e]
def lc_X11_takeSaying_1 : js_CC := (js_ca (js_cz js_ne (js_l 1 3)) (js_cz js_eq (js_gf 1 11 23 (js_l 3 0))))
def lb_X11_takeSaying_1 : js_SS := (js_bk 4 (js_sq (js_s1 1 4 (js_cv 1 11 f_X11_takeNumber [(js_l 3 0), (js_k 0), (js_2 js_sub (js_l 1 1) (js_k 1))])) (js_if (js_ca (js_cz js_eq (js_gf 1 11 23 (js_l 3 0))) (js_cz js_ne (js_cv 1 11 f_X11_want [(js_l 3 0), (js_q (js_cn (js_cz js_ne (js_cs f_X11_has [(js_al 1 20 (js_gr 1 11 14 (js_l 3 0)) (js_l 1 2)), (js_l 1 4)]))) (js_k 1) (js_k 0)), (js_k 4), (js_gf 1 11 21 (js_l 3 0))]))) (js_sq (js_oa 1 20 js_or (js_gr 1 11 14 (js_l 3 0)) (js_l 1 2) (js_2 js_shl (js_k 1) (js_l 1 4))) (js_sq (js_s1 1 3 (js_q (js_cp js_eq (js_cv 1 11 f_X11_here [(js_l 3 0)]) (js_k 44)) (js_k 1) (js_k 0))) (js_of 1 11 20 js_add (js_l 3 0) (js_cs f_X11_one [(js_l 1 3)])))) js_sk)))
theorem fe_X11_takeSaying (z0 : Int) (w : js_Mm) : f_X11_takeSaying [z0] w = jv_out 0 ((js_sq (js_sq (js_s1 1 1 (js_al 1 20 (js_gr 1 11 17 (js_l 3 0)) (js_k 1))) (js_sq (js_s1 1 2 (js_2 js_add (js_k 6) (js_l 1 1))) (js_sq (js_pa 1 20 (js_gr 1 11 12 (js_l 3 0)) (js_l 1 2) (js_q (js_cz js_ne (js_cv 1 11 f_X11_isNext [(js_l 3 0), (js_k 4), (js_k 97), (js_k 115), (js_k 107), (js_k 115), (js_k 0), (js_k 0), (js_k 0)])) (js_cv 1 11 f_X11_takeNumber [(js_l 3 0), (js_k 0), (js_k 9)]) (js_k (-1)))) (js_sq (js_pa 1 20 (js_gr 1 11 13 (js_l 3 0)) (js_l 1 2) (js_q (js_cz js_ne (js_cv 1 11 f_X11_isNext [(js_l 3 0), (js_k 7), (js_k 97), (js_k 110), (js_k 115), (js_k 119), (js_k 101), (js_k 114), (js_k 115)])) (js_cv 1 11 f_X11_takeNumber [(js_l 3 0), (js_k 0), (js_k 9)]) (js_k (-1)))) (js_sq (js_pa 1 20 (js_gr 1 11 14 (js_l 3 0)) (js_l 1 2) (js_k 0)) (js_sq (js_s1 1 3 (js_cv 1 11 f_X11_isNext [(js_l 3 0), (js_k 4), (js_k 98), (js_k 97), (js_k 114), (js_k 115), (js_k 0), (js_k 0), (js_k 0)])) (js_sq (js_wh lc_X11_takeSaying_1 lb_X11_takeSaying_1) (js_sq (js_pa 1 20 (js_gr 1 11 15 (js_l 3 0)) (js_l 1 2) (js_k (-1))) (js_sq (js_pa 1 20 (js_gr 1 11 16 (js_l 3 0)) (js_l 1 2) (js_k (-1))) (js_sq (js_if (js_cz js_ne (js_cv 1 11 f_X11_isNext [(js_l 3 0), (js_k 5), (js_k 106), (js_k 111), (js_k 105), (js_k 110), (js_k 115), (js_k 0), (js_k 0)])) (js_bk 4 (js_sq (js_pa 1 20 (js_gr 1 11 15 (js_l 3 0)) (js_l 1 2) (js_cv 1 11 f_X11_takeNumber [(js_l 3 0), (js_k 0), (js_2 js_sub (js_l 1 1) (js_k 1))])) (js_sq (js_pa 1 20 (js_gr 1 11 16 (js_l 3 0)) (js_l 1 2) (js_cv 1 11 f_X11_takeNumber [(js_l 3 0), (js_k 0), (js_2 js_sub (js_l 1 1) (js_k 1))])) (js_s1 1 4 (js_q (js_ca (js_cz js_eq (js_gf 1 11 23 (js_l 3 0))) (js_cz js_ne (js_cv 1 11 f_X11_want [(js_l 3 0), (js_q (js_cp js_ne (js_al 1 20 (js_gr 1 11 15 (js_l 3 0)) (js_l 1 2)) (js_al 1 20 (js_gr 1 11 16 (js_l 3 0)) (js_l 1 2))) (js_k 1) (js_k 0)), (js_k 4), (js_gf 1 11 21 (js_l 3 0))]))) (js_k 1) (js_k 0)))))) js_sk) (js_pa 1 20 (js_gr 1 11 17 (js_l 3 0)) (js_k 1) (js_2 js_add (js_l 1 1) (js_k 1))))))))))))) js_r0) [(3, z0), (0, 0), (0, 0), (0, 0), (0, 0)] w) := by
  unfold f_X11_takeSaying
  rw [jv_me]
  have e : js_ev [3] [z0] 5 = [(3, z0), (0, 0), (0, 0), (0, 0), (0, 0)] := rfl
  rw [e]
  unfold lc_X11_takeSaying_1 lb_X11_takeSaying_1
  rfl
def lc_X11_tellTo_1 : js_CC := (js_cp js_lt (js_l 1 5) (js_al 1 20 (js_gr 1 11 17 (js_l 3 0)) (js_k 0)))
def lb_X11_tellTo_1 : js_SS := (js_sq (js_if (js_ca (js_cz js_ne (js_cv 1 11 f_X11_isHeld [(js_l 3 0), (js_l 1 1), (js_l 1 4), (js_l 1 5)])) (js_cz js_ne (js_cv 1 11 f_X11_isBarred [(js_l 3 0), (js_l 1 5), (js_l 1 3)]))) (js_sq (js_s1 1 6 (js_cv 1 11 f_X11_joinOf [(js_l 3 0), (js_l 1 5), (js_l 1 3)])) (js_sq (js_if (js_co (js_cz js_lt (js_l 1 6)) (js_cz js_ne (js_cv 1 11 f_X11_isHeld [(js_l 3 0), (js_l 1 1), (js_l 1 4), (js_l 1 6)]))) (js_sq (js_oa 1 20 js_add (js_gr 1 11 0 (js_l 3 0)) (js_2 js_add (js_l 1 1) (js_k 865)) (js_k 1)) (js_rv (js_k 0))) js_sk) (js_sq (js_ex (js_cv 1 11 f_X11_come [(js_l 3 0), (js_l 1 1), (js_l 1 4), (js_l 1 6), (js_l 1 2), (js_l 1 3)])) (js_rv (js_k 1))))) js_sk) (js_ii 5 1))
theorem fe_X11_tellTo (z0 z1 z2 z3 z4 : Int) (w : js_Mm) : f_X11_tellTo [z0, z1, z2, z3, z4] w = jv_out 1 ((js_sq (js_oa 1 20 js_or (js_gr 1 11 0 (js_l 3 0)) (js_2 js_add (js_2 js_add (js_l 1 1) (js_k 576)) (js_cs f_X11_cell [(js_l 1 4), (js_l 1 3)])) (js_2 js_shl (js_k 1) (js_l 1 2))) (js_sq (js_if (js_cz js_ne (js_cv 1 11 f_X11_isHeld [(js_l 3 0), (js_l 1 1), (js_l 1 4), (js_l 1 3)])) (js_sq (js_oa 1 20 js_add (js_gr 1 11 0 (js_l 3 0)) (js_2 js_add (js_2 js_add (js_l 1 1) (js_k 432)) (js_cs f_X11_cell [(js_l 1 2), (js_l 1 3)])) (js_k 1)) (js_sq (js_pa 1 20 (js_gr 1 11 0 (js_l 3 0)) (js_2 js_add (js_2 js_add (js_l 1 1) (js_k 0)) (js_cs f_X11_cell [(js_l 1 2), (js_l 1 3)])) (js_q (js_cp js_ge (js_al 1 20 (js_gr 1 11 0 (js_l 3 0)) (js_2 js_add (js_2 js_add (js_l 1 1) (js_k 432)) (js_cs f_X11_cell [(js_l 1 2), (js_l 1 3)]))) (js_gf 1 11 2 (js_l 3 0))) (js_k 2) (js_k 1))) (js_rv (js_k 0)))) js_sk) (js_sq (js_bk 5 (js_sq (js_s1 1 5 (js_k 0)) (js_wh lc_X11_tellTo_1 lb_X11_tellTo_1))) (js_sq (js_if (js_cp js_lt (js_cv 1 11 f_X11_draw [(js_l 3 0), (js_l 1 1), (js_k 100)]) (js_cv 1 11 f_X11_heedOf [(js_l 3 0), (js_l 1 1), (js_l 1 4), (js_l 1 3)])) (js_sq (js_ex (js_cv 1 11 f_X11_come [(js_l 3 0), (js_l 1 1), (js_l 1 4), (js_l 1 3), (js_l 1 2), (js_l 1 3)])) (js_rv (js_k 1))) js_sk) (js_rv (js_k 0)))))) [(3, z0), (1, z1), (1, z2), (1, z3), (1, z4), (0, 0), (0, 0)] w) := by
  unfold f_X11_tellTo
  rw [jv_me]
  have e : js_ev [3, 1, 1, 1, 1] [z0, z1, z2, z3, z4] 7 = [(3, z0), (1, z1), (1, z2), (1, z3), (1, z4), (0, 0), (0, 0)] := rfl
  rw [e]
  unfold lc_X11_tellTo_1 lb_X11_tellTo_1
  rfl
theorem fe_X11_begin (z0 z1 z2 : Int) (w : js_Mm) : f_X11_begin [z0, z1, z2] w = jv_out 1 ((js_sq (js_if (js_co (js_cn (js_cz js_ne (js_cv 1 11 f_X11_isPerson [(js_l 3 0), (js_l 1 1)]))) (js_cn (js_cz js_ne (js_cv 1 11 f_X11_isSaying [(js_l 3 0), (js_l 1 2)])))) (js_rv (js_k (-1000001))) js_sk) (js_sq (js_if (js_cz js_ne (js_cv 1 11 f_X11_isHeld [(js_l 3 0), (js_k 0), (js_l 1 1), (js_l 1 2)])) (js_rv (js_k (-1000003))) js_sk) (js_sq (js_s1 1 3 (js_al 1 20 (js_gr 1 11 0 (js_l 3 0)) (js_k 867))) (js_sq (js_if (js_cp js_eq (js_l 1 3) (js_k 40)) (js_rv (js_k (-1000004))) js_sk) (js_sq (js_pa 1 20 (js_gr 1 11 0 (js_l 3 0)) (js_2 js_add (js_k 868) (js_2 js_mul (js_k 3) (js_l 1 3))) (js_l 1 1)) (js_sq (js_pa 1 20 (js_gr 1 11 0 (js_l 3 0)) (js_2 js_add (js_2 js_add (js_k 868) (js_2 js_mul (js_k 3) (js_l 1 3))) (js_k 1)) (js_l 1 2)) (js_sq (js_pa 1 20 (js_gr 1 11 0 (js_l 3 0)) (js_2 js_add (js_2 js_add (js_k 868) (js_2 js_mul (js_k 3) (js_l 1 3))) (js_k 2)) (js_al 1 20 (js_gr 1 11 0 (js_l 3 0)) (js_k 864))) (js_sq (js_pa 1 20 (js_gr 1 11 0 (js_l 3 0)) (js_k 867) (js_2 js_add (js_l 1 3) (js_k 1))) (js_sq (js_ex (js_cv 1 11 f_X11_come [(js_l 3 0), (js_k 0), (js_l 1 1), (js_l 1 2), (js_k (-2)), (js_l 1 2)])) (js_rv (js_cs f_X11_ones [(js_cv 1 11 f_X11_holdersOf [(js_l 3 0), (js_k 0), (js_l 1 2)])]))))))))))) [(3, z0), (1, z1), (1, z2), (0, 0)] w) := by
  unfold f_X11_begin
  rw [jv_me]
  have e : js_ev [3, 1, 1] [z0, z1, z2] 4 = [(3, z0), (1, z1), (1, z2), (0, 0)] := rfl
  rw [e]
theorem fe_X11_notice (z0 z1 z2 z3 : Int) (w : js_Mm) : f_X11_notice [z0, z1, z2, z3] w = jv_out 1 ((js_sq (js_if (js_co (js_cn (js_cz js_ne (js_cs f_X11_in [(js_1 js_i2l (js_l 1 1)), (js_k 0), (js_k 3)]))) (js_cn (js_cz js_ne (js_cv 1 11 f_X11_isSaying [(js_l 3 0), (js_l 1 2)])))) (js_rv (js_k (-1000001))) js_sk) (js_rv (js_q (js_cz js_ne (js_cs f_X11_in [(js_1 js_i2l (js_l 1 3)), (js_k 0), (js_k 100)])) (js_cv 1 11 f_X11_hang [(js_l 3 0), (js_k 0), (js_l 1 1), (js_l 1 2), (js_l 1 3)]) (js_k (-1000002))))) [(3, z0), (1, z1), (1, z2), (1, z3)] w) := by
  unfold f_X11_notice
  rw [jv_me]
  have e : js_ev [3, 1, 1, 1] [z0, z1, z2, z3] 4 = [(3, z0), (1, z1), (1, z2), (1, z3)] := rfl
  rw [e]
theorem fe_X11_holders (z0 z1 : Int) (w : js_Mm) : f_X11_holders [z0, z1] w = jv_out 1 ((js_rv (js_q (js_cz js_ne (js_cv 1 11 f_X11_isSaying [(js_l 3 0), (js_l 1 1)])) (js_cv 1 11 f_X11_holdersOf [(js_l 3 0), (js_k 0), (js_l 1 1)]) (js_k (-1000001)))) [(3, z0), (1, z1)] w) := by
  unfold f_X11_holders
  rw [jv_me]
  have e : js_ev [3, 1] [z0, z1] 2 = [(3, z0), (1, z1)] := rfl
  rw [e]
theorem fe_X11_way (z0 z1 z2 z3 : Int) (w : js_Mm) : f_X11_way [z0, z1, z2, z3] w = jv_out 1 ((js_sq (js_if (js_co (js_cn (js_cz js_ne (js_cv 1 11 f_X11_isPerson [(js_l 3 0), (js_l 1 1)]))) (js_cn (js_cz js_ne (js_cv 1 11 f_X11_isSaying [(js_l 3 0), (js_l 1 2)])))) (js_rv (js_k (-1000001))) js_sk) (js_sq (js_ex (js_cv 1 11 f_X11_findWay [(js_l 3 0), (js_l 1 1), (js_l 1 2)])) (js_rv (js_q (js_cz js_eq (js_gf 1 11 26 (js_l 3 0))) (js_k (-1)) (js_q (js_cp js_eq (js_l 1 3) (js_k (-1))) (js_gf 1 11 26 (js_l 3 0)) (js_q (js_cz js_ne (js_cs f_X11_in [(js_1 js_i2l (js_l 1 3)), (js_k 0), (js_1 js_i2l (js_2 js_sub (js_gf 1 11 26 (js_l 3 0)) (js_k 1)))])) (js_al 1 20 (js_gr 1 11 25 (js_l 3 0)) (js_l 1 3)) (js_k (-1)))))))) [(3, z0), (1, z1), (1, z2), (1, z3)] w) := by
  unfold f_X11_way
  rw [jv_me]
  have e : js_ev [3, 1, 1, 1] [z0, z1, z2, z3] 4 = [(3, z0), (1, z1), (1, z2), (1, z3)] := rfl
  rw [e]
def lc_X11_nine_1 : js_CC := (js_cp js_lt (js_l 1 4) (js_k 26))
def lb_X11_nine_1 : js_SS := (js_sq (js_pa 1 20 (js_gr 1 11 27 (js_l 3 0)) (js_l 1 4) (js_k 0)) (js_ii 4 1))
def lc_X11_nine_2 : js_CC := (js_cp js_lt (js_l 1 6) (js_al 1 20 (js_gr 1 11 7 (js_l 3 0)) (js_k 0)))
def lb_X11_nine_2 : js_SS := (js_sq (js_sq (js_ex (js_cv 1 11 f_X11_findWay [(js_l 3 0), (js_l 1 6), (js_l 1 2)])) (js_if (js_ca (js_ca (js_cz js_ne (js_cs f_X11_has [(js_al 1 20 (js_gr 1 11 0 (js_l 3 0)) (js_2 js_add (js_k 576) (js_cs f_X11_cell [(js_l 1 1), (js_l 1 2)]))), (js_l 1 6)])) (js_cz js_gt (js_gf 1 11 26 (js_l 3 0)))) (js_cn (js_cz js_ne (js_cv 1 11 f_X11_isOnWay [(js_l 3 0), (js_l 1 1)])))) (js_bk 7 (js_sq (js_s1 1 4 (js_2 js_or (js_l 1 4) (js_2 js_shl (js_k 1) (js_al 1 20 (js_gr 1 11 25 (js_l 3 0)) (js_2 js_sub (js_gf 1 11 26 (js_l 3 0)) (js_k 1)))))) (js_sq (js_s1 1 7 (js_al 1 20 (js_gr 1 11 0 (js_l 3 0)) (js_2 js_add (js_k 144) (js_cs f_X11_cell [(js_l 1 6), (js_l 1 2)])))) (js_sq (js_s1 1 8 (js_q (js_cp js_eq (js_l 1 7) (js_k (-2))) (js_k 25) (js_l 1 7))) (js_sq (js_oa 1 20 js_add (js_gr 1 11 27 (js_l 3 0)) (js_l 1 8) (js_k 1)) (js_s1 1 5 (js_q (js_ca (js_cp js_lt (js_l 1 8) (js_k 24)) (js_cp js_gt (js_al 1 20 (js_gr 1 11 27 (js_l 3 0)) (js_l 1 8)) (js_l 1 5))) (js_al 1 20 (js_gr 1 11 27 (js_l 3 0)) (js_l 1 8)) (js_l 1 5)))))))) js_sk)) (js_ii 6 1))
theorem fe_X11_nine (z0 z1 z2 z3 : Int) (w : js_Mm) : f_X11_nine [z0, z1, z2, z3] w = jv_out 1 ((js_sq (js_if (js_co (js_cn (js_cz js_ne (js_cv 1 11 f_X11_isPerson [(js_l 3 0), (js_l 1 1)]))) (js_cn (js_cz js_ne (js_cv 1 11 f_X11_isSaying [(js_l 3 0), (js_l 1 2)])))) (js_rv (js_k (-1000001))) js_sk) (js_sq (js_if (js_cn (js_cz js_ne (js_cs f_X11_in [(js_1 js_i2l (js_l 1 3)), (js_k 0), (js_k 1)]))) (js_rv (js_k (-1000002))) js_sk) (js_sq (js_bk 4 (js_sq (js_s1 1 4 (js_k 0)) (js_wh lc_X11_nine_1 lb_X11_nine_1))) (js_sq (js_s1 1 4 (js_k 0)) (js_sq (js_s1 1 5 (js_k 0)) (js_sq (js_bk 6 (js_sq (js_s1 1 6 (js_k 0)) (js_wh lc_X11_nine_2 lb_X11_nine_2))) (js_rv (js_q (js_cz js_eq (js_l 1 3)) (js_cs f_X11_ones [(js_l 1 4)]) (js_l 1 5))))))))) [(3, z0), (1, z1), (1, z2), (1, z3), (0, 0), (0, 0), (0, 0), (0, 0), (0, 0)] w) := by
  unfold f_X11_nine
  rw [jv_me]
  have e : js_ev [3, 1, 1, 1] [z0, z1, z2, z3] 9 = [(3, z0), (1, z1), (1, z2), (1, z3), (0, 0), (0, 0), (0, 0), (0, 0), (0, 0)] := rfl
  rw [e]
  unfold lc_X11_nine_2 lb_X11_nine_2 lc_X11_nine_1 lb_X11_nine_1
  rfl
def lc_X11_below_1 : js_CC := (js_cp js_lt (js_l 1 4) (js_al 1 20 (js_gr 1 11 7 (js_l 3 0)) (js_k 0)))
def lb_X11_below_1 : js_SS := (js_sq (js_sq (js_ex (js_cv 1 11 f_X11_findWay [(js_l 3 0), (js_l 1 4), (js_l 1 2)])) (js_s1 1 3 (js_2 js_or (js_l 1 3) (js_2 js_shl (js_cs f_X11_one [(js_q (js_ca (js_cp js_ne (js_l 1 4) (js_l 1 1)) (js_cz js_ne (js_cv 1 11 f_X11_isOnWay [(js_l 3 0), (js_l 1 1)]))) (js_k 1) (js_k 0))]) (js_l 1 4))))) (js_ii 4 1))
theorem fe_X11_below (z0 z1 z2 : Int) (w : js_Mm) : f_X11_below [z0, z1, z2] w = jv_out 1 ((js_sq (js_if (js_co (js_cn (js_cz js_ne (js_cv 1 11 f_X11_isPerson [(js_l 3 0), (js_l 1 1)]))) (js_cn (js_cz js_ne (js_cv 1 11 f_X11_isSaying [(js_l 3 0), (js_l 1 2)])))) (js_rv (js_k (-1000001))) js_sk) (js_sq (js_s1 1 3 (js_k 0)) (js_sq (js_bk 4 (js_sq (js_s1 1 4 (js_k 0)) (js_wh lc_X11_below_1 lb_X11_below_1))) (js_rv (js_l 1 3))))) [(3, z0), (1, z1), (1, z2), (0, 0), (0, 0)] w) := by
  unfold f_X11_below
  rw [jv_me]
  have e : js_ev [3, 1, 1] [z0, z1, z2] 5 = [(3, z0), (1, z1), (1, z2), (0, 0), (0, 0)] := rfl
  rw [e]
  unfold lc_X11_below_1 lb_X11_below_1
  rfl
def lc_X11_who_1 : js_CC := (js_cp js_lt (js_l 1 3) (js_al 1 20 (js_gr 1 11 7 (js_l 3 0)) (js_k 0)))
def lb_X11_who_1 : js_SS := (js_sq (js_if (js_cz js_ne (js_cs f_X11_has [(js_gf 1 11 28 (js_l 3 0)), (js_l 1 3)])) (js_bk 4 (js_sq (js_s1 1 4 (js_q (js_ca (js_ca (js_cp js_ne (js_al 1 20 (js_gr 1 11 29 (js_l 3 0)) (js_l 1 3)) (js_k (-2))) (js_cz js_ne (js_cs f_X11_has [(js_gf 1 11 28 (js_l 3 0)), (js_al 1 20 (js_gr 1 11 29 (js_l 3 0)) (js_l 1 3))]))) (js_cp js_ge (js_al 1 20 (js_gr 1 11 30 (js_l 3 0)) (js_al 1 20 (js_gr 1 11 29 (js_l 3 0)) (js_l 1 3))) (js_al 1 20 (js_gr 1 11 30 (js_l 3 0)) (js_l 1 3)))) (js_k 1) (js_k 0))) (js_s1 1 2 (js_2 js_or (js_l 1 2) (js_2 js_shl (js_cs f_X11_one [(js_q (js_co (js_cz js_ne (js_l 1 4)) (js_cz js_lt (js_cv 1 11 f_X11_endOf [(js_l 3 0), (js_l 1 3)]))) (js_k 1) (js_k 0))]) (js_l 1 3)))))) js_sk) (js_ii 3 1))
theorem fe_X11_who (z0 z1 : Int) (w : js_Mm) : f_X11_who [z0, z1] w = jv_out 1 ((js_sq (js_if (js_co (js_cz js_eq (js_l 1 1)) (js_cp js_eq (js_l 1 1) (js_k 1))) (js_rv (js_cv 1 11 f_X11_leading [(js_l 3 0), (js_q (js_cp js_eq (js_l 1 1) (js_k 1)) (js_k 1) (js_k 0))])) js_sk) (js_sq (js_if (js_cp js_ne (js_l 1 1) (js_k 2)) (js_rv (js_k (-1000002))) js_sk) (js_sq (js_s1 1 2 (js_k 0)) (js_sq (js_bk 3 (js_sq (js_s1 1 3 (js_k 0)) (js_wh lc_X11_who_1 lb_X11_who_1))) (js_rv (js_l 1 2)))))) [(3, z0), (1, z1), (0, 0), (0, 0), (0, 0)] w) := by
  unfold f_X11_who
  rw [jv_me]
  have e : js_ev [3, 1] [z0, z1] 5 = [(3, z0), (1, z1), (0, 0), (0, 0), (0, 0)] := rfl
  rw [e]
  unfold lc_X11_who_1 lb_X11_who_1
  rfl
def lc_X11_spread_1 : js_CC := (js_cp js_le (js_l 1 3) (js_l 1 2))
def lb_X11_spread_1 : js_SS := (js_sq (js_pa 1 20 (js_gr 1 11 33 (js_l 3 0)) (js_l 1 3) (js_q (js_cp js_eq (js_l 1 3) (js_l 1 1)) (js_al 1 20 (js_gr 1 11 31 (js_l 3 0)) (js_l 1 1)) (js_k 0))) (js_ii 3 1))
def lc_X11_spread_2 : js_CC := (js_cp js_le (js_l 1 5) (js_l 1 2))
def lb_X11_spread_2 : js_SS := (js_sq (js_if (js_ca (js_cz js_gt (js_al 1 20 (js_gr 1 11 33 (js_l 3 0)) (js_l 1 5))) (js_cn (js_cz js_ne (js_cs f_X11_has [(js_l 1 5), (js_l 1 3)])))) (js_bk 6 (js_sq (js_s1 1 6 (js_1 js_l2i (js_dv js_ldiv (js_2 js_lmul (js_1 js_i2l (js_al 1 20 (js_gr 1 11 33 (js_l 3 0)) (js_l 1 5))) (js_1 js_i2l (js_2 js_sub (js_k 1000) (js_l 1 4)))) (js_k 1000)))) (js_sq (js_oa 1 20 js_add (js_gr 1 11 33 (js_l 3 0)) (js_2 js_or (js_l 1 5) (js_2 js_shl (js_k 1) (js_l 1 3))) (js_l 1 6)) (js_oa 1 20 js_sub (js_gr 1 11 33 (js_l 3 0)) (js_l 1 5) (js_l 1 6))))) js_sk) (js_ii 5 1))
def lc_X11_spread_3 : js_CC := (js_cp js_lt (js_l 1 3) (js_cv 1 11 f_X11_net [(js_l 3 0)]))
def lb_X11_spread_3 : js_SS := (js_sq (js_if (js_cn (js_cz js_ne (js_cs f_X11_has [(js_l 1 1), (js_l 1 3)]))) (js_bk 4 (js_sq (js_s1 1 4 (js_cv 1 11 f_X11_stays [(js_l 3 0), (js_l 1 3), (js_l 1 1)])) (js_bk 5 (js_sq (js_s1 1 5 (js_l 1 1)) (js_wh lc_X11_spread_2 lb_X11_spread_2))))) js_sk) (js_ii 3 1))
def lc_X11_spread_4 : js_CC := (js_cp js_le (js_l 1 3) (js_l 1 2))
def lb_X11_spread_4 : js_SS := (js_sq (js_oa 1 20 js_add (js_gr 1 11 32 (js_l 3 0)) (js_l 1 3) (js_al 1 20 (js_gr 1 11 33 (js_l 3 0)) (js_l 1 3))) (js_ii 3 1))
theorem fe_X11_spread (z0 z1 : Int) (w : js_Mm) : f_X11_spread [z0, z1] w = jv_out 0 ((js_sq (js_sq (js_s1 1 2 (js_2 js_sub (js_2 js_shl (js_k 1) (js_cv 1 11 f_X11_net [(js_l 3 0)])) (js_k 1))) (js_sq (js_bk 3 (js_sq (js_s1 1 3 (js_k 0)) (js_wh lc_X11_spread_1 lb_X11_spread_1))) (js_sq (js_bk 3 (js_sq (js_s1 1 3 (js_k 0)) (js_wh lc_X11_spread_3 lb_X11_spread_3))) (js_bk 3 (js_sq (js_s1 1 3 (js_l 1 1)) (js_wh lc_X11_spread_4 lb_X11_spread_4)))))) js_r0) [(3, z0), (1, z1), (0, 0), (0, 0), (0, 0), (0, 0), (0, 0)] w) := by
  unfold f_X11_spread
  rw [jv_me]
  have e : js_ev [3, 1] [z0, z1] 7 = [(3, z0), (1, z1), (0, 0), (0, 0), (0, 0), (0, 0), (0, 0)] := rfl
  rw [e]
  unfold lc_X11_spread_4 lb_X11_spread_4 lc_X11_spread_3 lb_X11_spread_3 lc_X11_spread_2 lb_X11_spread_2 lc_X11_spread_1 lb_X11_spread_1
  rfl
theorem fe_X10_nine (z0 z1 z2 z3 : Int) (w : js_Mm) : f_X10_nine [z0, z1, z2, z3] w = jv_out 1 ((js_sq (js_if (js_co (js_cn (js_cz js_ne (js_cv 0 10 f_X10_isPerson [(js_l 3 0), (js_l 1 1)]))) (js_cn (js_cz js_ne (js_cv 0 10 f_X10_isSaying [(js_l 3 0), (js_l 1 2)])))) (js_rv (js_k (-1000001))) js_sk) (js_sw (js_l 1 3) [(0, (js_rv (js_cv 0 9 f_X9_rootsBehind [(js_gr 0 10 11 (js_l 3 0)), (js_l 1 1), (js_l 1 2)]))), (1, (js_rv (js_cv 0 9 f_X9_splitBehind [(js_gr 0 10 11 (js_l 3 0)), (js_l 1 1), (js_l 1 2)])))] (js_rv (js_k (-1000002))))) [(3, z0), (1, z1), (1, z2), (1, z3)] w) := by
  unfold f_X10_nine
  rw [jv_me]
  have e : js_ev [3, 1, 1, 1] [z0, z1, z2, z3] 4 = [(3, z0), (1, z1), (1, z2), (1, z3)] := rfl
  rw [e]
def lc_X10_curve_1 : js_CC := (js_cp js_lt (js_l 1 4) (js_l 1 3))
def lb_X10_curve_1 : js_SS := (js_sq (js_sq (js_ex (js_cv 0 0 f_X0_beginAsIn [(js_gr 0 10 9 (js_l 3 0)), (js_gr 0 10 7 (js_l 3 0)), (js_l 1 1)])) (js_ex (js_cv 0 6 f_X6_tell [(js_gr 0 10 6 (js_l 3 0)), (js_gr 0 10 9 (js_l 3 0))]))) (js_ii 4 1))
theorem fe_X10_curve (z0 z1 z2 z3 : Int) (w : js_Mm) : f_X10_curve [z0, z1, z2, z3] w = jv_out 1 ((js_sq (js_if (js_co (js_cn (js_cz js_ne (js_cs f_X10_isSetOf [(js_l 1 1), (js_gf 0 3 0 (js_gr 0 10 3 (js_l 3 0)))]))) (js_cn (js_cz js_ne (js_cv 0 10 f_X10_isSaying [(js_l 3 0), (js_l 1 2)])))) (js_rv (js_k (-1000001))) js_sk) (js_sq (js_if (js_co (js_cz js_lt (js_l 1 3)) (js_cp js_gt (js_l 1 3) (js_k 200))) (js_rv (js_k (-1000002))) js_sk) (js_sq (js_ex (js_cv 0 0 f_X0_clear [(js_gr 0 10 9 (js_l 3 0))])) (js_sq (js_pf 0 0 13 (js_gr 0 10 9 (js_l 3 0)) (js_gf 0 0 13 (js_gr 0 10 7 (js_l 3 0)))) (js_sq (js_bk 4 (js_sq (js_s1 1 4 (js_k 0)) (js_wh lc_X10_curve_1 lb_X10_curve_1))) (js_sq (js_ex (js_cv 0 0 f_X0_beginAsIn [(js_gr 0 10 9 (js_l 3 0)), (js_gr 0 10 7 (js_l 3 0)), (js_l 1 1)])) (js_rv (js_cs f_J6_bitCount_0f7a4 [(js_cv 0 0 f_X0_setOf [(js_gr 0 10 9 (js_l 3 0)), (js_l 1 2), (js_gf 0 8 0 (js_gr 0 10 1 (js_l 3 0)))])])))))))) [(3, z0), (1, z1), (1, z2), (1, z3), (0, 0)] w) := by
  unfold f_X10_curve
  rw [jv_me]
  have e : js_ev [3, 1, 1, 1] [z0, z1, z2, z3] 5 = [(3, z0), (1, z1), (1, z2), (1, z3), (0, 0)] := rfl
  rw [e]
  unfold lc_X10_curve_1 lb_X10_curve_1
  rfl
theorem fe_X10_who (z0 z1 : Int) (w : js_Mm) : f_X10_who [z0, z1] w = jv_out 1 ((js_sw (js_l 1 1) [(0, (js_rv (js_cv 0 1 f_X1_mostLedTo [(js_gr 0 10 12 (js_l 3 0)), (js_k 0)]))), (1, (js_rv (js_cv 0 1 f_X1_mostLedTo [(js_gr 0 10 12 (js_l 3 0)), (js_k 1)]))), (2, (js_rv (js_cv 0 1 f_X1_falseOnes [(js_gr 0 10 12 (js_l 3 0))])))] (js_rv (js_k (-1000002)))) [(3, z0), (1, z1)] w) := by
  unfold f_X10_who
  rw [jv_me]
  have e : js_ev [3, 1] [z0, z1] 2 = [(3, z0), (1, z1)] := rfl
  rw [e]
theorem fe_X10_pace (z0 : Int) (w : js_Mm) : f_X10_pace [z0] w = jv_out 1 ((js_rv (js_cv 0 2 f_X2_bestPace [(js_gr 0 10 14 (js_l 3 0))])) [(3, z0)] w) := by
  unfold f_X10_pace
  rw [jv_me]
  have e : js_ev [3] [z0] 1 = [(3, z0)] := rfl
  rw [e]
def lc_X7_isWord_1 : js_CC := (js_cp js_lt (js_l 1 2) (js_cs js_slF [(js_l 4 1)]))
def lb_X7_isWord_1 : js_SS := (js_sq (js_if (js_cp js_ne (js_al 0 22 (js_gr 0 7 0 (js_l 3 0)) (js_2 js_add (js_gf 0 7 3 (js_l 3 0)) (js_l 1 2))) (js_cs js_scF [(js_l 4 1), (js_l 1 2)])) (js_rv (js_k 0)) js_sk) (js_ii 2 1))
theorem fe_X7_isWord (z0 z1 : Int) (w : js_Mm) : f_X7_isWord [z0, z1] w = jv_out 5 ((js_sq (js_if (js_co (js_co (js_cz js_ne (js_gf 0 7 6 (js_l 3 0))) (js_cp js_ne (js_gf 0 7 2 (js_l 3 0)) (js_k 1))) (js_cp js_ne (js_2 js_sub (js_gf 0 7 4 (js_l 3 0)) (js_gf 0 7 3 (js_l 3 0))) (js_cs js_slF [(js_l 4 1)]))) (js_rv (js_k 0)) js_sk) (js_sq (js_bk 2 (js_sq (js_s1 1 2 (js_k 0)) (js_wh lc_X7_isWord_1 lb_X7_isWord_1))) (js_rv (js_k 1)))) [(3, z0), (4, z1), (0, 0)] w) := by
  unfold f_X7_isWord
  rw [jv_me]
  have e : js_ev [3, 4] [z0, z1] 3 = [(3, z0), (4, z1), (0, 0)] := rfl
  rw [e]
  unfold lc_X7_isWord_1 lb_X7_isWord_1
  rfl
def lc_X6_pass_1 : js_CC := (js_cp js_lt (js_l 1 4) (js_l 1 2))
def lb_X6_pass_1 : js_SS := (js_sq (js_s1 1 3 (js_2 js_add (js_l 1 3) (js_cv 0 6 f_X6_tell [(js_l 3 0), (js_l 3 1)]))) (js_ii 4 1))
theorem fe_X6_pass (z0 z1 z2 : Int) (w : js_Mm) : f_X6_pass [z0, z1, z2] w = jv_out 1 ((js_sq (js_s1 1 3 (js_k 0)) (js_sq (js_bk 4 (js_sq (js_s1 1 4 (js_k 0)) (js_wh lc_X6_pass_1 lb_X6_pass_1))) (js_rv (js_l 1 3)))) [(3, z0), (3, z1), (1, z2), (0, 0), (0, 0)] w) := by
  unfold f_X6_pass
  rw [jv_me]
  have e : js_ev [3, 3, 1] [z0, z1, z2] 5 = [(3, z0), (3, z1), (1, z2), (0, 0), (0, 0)] := rfl
  rw [e]
  unfold lc_X6_pass_1 lb_X6_pass_1
  rfl
def lc_X4_reachOf_1 : js_CC := (js_cp js_lt (js_l 1 6) (js_2 js_shl (js_k 1) (js_cv 0 4 f_X4_size [(js_l 3 0)])))
def lb_X4_reachOf_1 : js_SS := (js_sq (js_if (js_cz js_ne (js_2 js_and (js_2 js_shr (js_l 1 6) (js_l 1 2)) (js_k 1))) (js_s2 4 (js_2 js_ladd (js_l 2 4) (js_al 0 21 (js_gr 0 4 2 (js_l 3 0)) (js_l 1 6)))) js_sk) (js_ii 6 1))
theorem fe_X4_reachOf (z0 z1 z2 z3 : Int) (w : js_Mm) : f_X4_reachOf [z0, z1, z2, z3] w = jv_out 1 ((js_sq (js_ex (js_cv 0 4 f_X4_spread [(js_l 3 0), (js_2 js_shl (js_k 1) (js_l 1 1)), (js_l 1 3)])) (js_sq (js_s2 4 (js_k 0)) (js_sq (js_bk 6 (js_sq (js_s1 1 6 (js_k 0)) (js_wh lc_X4_reachOf_1 lb_X4_reachOf_1))) (js_rv (js_1 js_l2i (js_dv js_ldiv (js_l 2 4) (js_k 1000))))))) [(3, z0), (1, z1), (1, z2), (1, z3), (0, 0), (0, 0), (0, 0)] w) := by
  unfold f_X4_reachOf
  rw [jv_me]
  have e : js_ev [3, 1, 1, 1] [z0, z1, z2, z3] 7 = [(3, z0), (1, z1), (1, z2), (1, z3), (0, 0), (0, 0), (0, 0)] := rfl
  rw [e]
  unfold lc_X4_reachOf_1 lb_X4_reachOf_1
  rfl
def lc_X4_manyOf_1 : js_CC := (js_cp js_lt (js_l 1 5) (js_2 js_shl (js_k 1) (js_cv 0 4 f_X4_size [(js_l 3 0)])))
def lb_X4_manyOf_1 : js_SS := (js_sq (js_s2 3 (js_2 js_ladd (js_l 2 3) (js_2 js_lmul (js_al 0 21 (js_gr 0 4 2 (js_l 3 0)) (js_l 1 5)) (js_1 js_i2l (js_cs f_J6_bitCount_0f7a4 [(js_l 1 5)]))))) (js_ii 5 1))
theorem fe_X4_manyOf (z0 z1 z2 : Int) (w : js_Mm) : f_X4_manyOf [z0, z1, z2] w = jv_out 1 ((js_sq (js_ex (js_cv 0 4 f_X4_spread [(js_l 3 0), (js_l 1 1), (js_l 1 2)])) (js_sq (js_s2 3 (js_k 0)) (js_sq (js_bk 5 (js_sq (js_s1 1 5 (js_k 0)) (js_wh lc_X4_manyOf_1 lb_X4_manyOf_1))) (js_rv (js_1 js_l2i (js_dv js_ldiv (js_l 2 3) (js_k 1000000))))))) [(3, z0), (1, z1), (1, z2), (0, 0), (0, 0), (0, 0)] w) := by
  unfold f_X4_manyOf
  rw [jv_me]
  have e : js_ev [3, 1, 1] [z0, z1, z2] 6 = [(3, z0), (1, z1), (1, z2), (0, 0), (0, 0), (0, 0)] := rfl
  rw [e]
  unfold lc_X4_manyOf_1 lb_X4_manyOf_1
  rfl
def lc_X4_beganOf_1 : js_CC := (js_cp js_lt (js_l 1 8) (js_cv 0 4 f_X4_size [(js_l 3 0)]))
def lb_X4_beganOf_1 : js_SS := (js_sq (js_sq (js_ex (js_cv 0 4 f_X4_spread [(js_l 3 0), (js_2 js_shl (js_k 1) (js_l 1 8)), (js_l 1 3)])) (js_sq (js_s2 6 (js_2 js_ladd (js_l 2 6) (js_al 0 21 (js_gr 0 4 2 (js_l 3 0)) (js_l 1 2)))) (js_if (js_cp js_eq (js_l 1 8) (js_l 1 1)) (js_s2 4 (js_al 0 21 (js_gr 0 4 2 (js_l 3 0)) (js_l 1 2))) js_sk))) (js_ii 8 1))
theorem fe_X4_beganOf (z0 z1 z2 z3 : Int) (w : js_Mm) : f_X4_beganOf [z0, z1, z2, z3] w = jv_out 1 ((js_sq (js_s2 4 (js_k 0)) (js_sq (js_s2 6 (js_k 0)) (js_sq (js_bk 8 (js_sq (js_s1 1 8 (js_k 0)) (js_wh lc_X4_beganOf_1 lb_X4_beganOf_1))) (js_rv (js_q (js_cp js_eq (js_l 2 6) (js_k 0)) (js_k 0) (js_1 js_l2i (js_dv js_ldiv (js_2 js_lmul (js_k 1000000) (js_l 2 4)) (js_l 2 6)))))))) [(3, z0), (1, z1), (1, z2), (1, z3), (0, 0), (0, 0), (0, 0), (0, 0), (0, 0)] w) := by
  unfold f_X4_beganOf
  rw [jv_me]
  have e : js_ev [3, 1, 1, 1] [z0, z1, z2, z3] 9 = [(3, z0), (1, z1), (1, z2), (1, z3), (0, 0), (0, 0), (0, 0), (0, 0), (0, 0)] := rfl
  rw [e]
  unfold lc_X4_beganOf_1 lb_X4_beganOf_1
  rfl
def lc_X11_town_1 : js_CC := (js_ca (js_cz js_eq (js_gf 1 11 23 (js_l 3 0))) (js_cz js_ge (js_cv 1 11 f_X11_here [(js_l 3 0)])))
def lb_X11_town_1 : js_SS := (js_bk 1 (js_sq (js_ex (js_cv 1 11 f_X11_takeWord [(js_l 3 0)])) (js_sq (js_s1 1 1 (js_gf 1 11 21 (js_l 3 0))) (js_sq (js_if (js_ca (js_cz js_ne (js_cv 1 11 f_X11_isWord [(js_l 3 0), (js_k 6), (js_k 112), (js_k 101), (js_k 114), (js_k 115)])) (js_cz js_ne (js_cv 1 11 f_X11_isTail [(js_l 3 0), (js_k 111), (js_k 110), (js_k 0)]))) (js_ex (js_cv 1 11 f_X11_takePerson [(js_l 3 0), (js_l 1 1)])) (js_if (js_cz js_ne (js_cv 1 11 f_X11_want [(js_l 3 0), (js_cv 1 11 f_X11_isWord [(js_l 3 0), (js_k 3), (js_k 116), (js_k 105), (js_k 101), (js_k 0)]), (js_k 1), (js_l 1 1)])) (js_ex (js_cv 1 11 f_X11_takeTie [(js_l 3 0), (js_l 1 1)])) js_sk)) (js_ex (js_cv 1 11 f_X11_takeEnd [(js_l 3 0)]))))))
def lc_X11_town_2 : js_CC := (js_cp js_lt (js_l 1 1) (js_k 24))
def lb_X11_town_2 : js_SS := (js_sq (js_sq (js_pa 1 20 (js_gr 1 11 4 (js_l 3 0)) (js_l 1 1) (js_al 1 20 (js_gr 1 11 4 (js_l 3 0)) (js_2 js_add (js_k 24) (js_l 1 1)))) (js_sq (js_pa 1 23 (js_gr 1 11 5 (js_l 3 0)) (js_l 1 1) (js_al 1 23 (js_gr 1 11 5 (js_l 3 0)) (js_2 js_add (js_k 24) (js_l 1 1)))) (js_pa 1 20 (js_gr 1 11 6 (js_l 3 0)) (js_l 1 1) (js_al 1 20 (js_gr 1 11 6 (js_l 3 0)) (js_2 js_add (js_k 24) (js_l 1 1)))))) (js_ii 1 1))
def lc_X11_town_3 : js_CC := (js_cp js_lt (js_l 1 1) (js_k 60))
def lb_X11_town_3 : js_SS := (js_sq (js_sq (js_pa 1 20 (js_gr 1 11 8 (js_l 3 0)) (js_l 1 1) (js_al 1 20 (js_gr 1 11 8 (js_l 3 0)) (js_2 js_add (js_k 60) (js_l 1 1)))) (js_sq (js_pa 1 20 (js_gr 1 11 9 (js_l 3 0)) (js_l 1 1) (js_al 1 20 (js_gr 1 11 9 (js_l 3 0)) (js_2 js_add (js_k 60) (js_l 1 1)))) (js_pa 1 20 (js_gr 1 11 10 (js_l 3 0)) (js_l 1 1) (js_al 1 20 (js_gr 1 11 10 (js_l 3 0)) (js_2 js_add (js_k 60) (js_l 1 1)))))) (js_ii 1 1))
theorem fe_X11_town (z0 : Int) (w : js_Mm) : f_X11_town [z0] w = jv_out 1 ((js_sq (js_ex (js_cv 1 11 f_X11_beginReading [(js_l 3 0)])) (js_sq (js_pa 1 20 (js_gr 1 11 7 (js_l 3 0)) (js_k 1) (js_k 0)) (js_sq (js_pa 1 20 (js_gr 1 11 11 (js_l 3 0)) (js_k 1) (js_k 0)) (js_sq (js_wh lc_X11_town_1 lb_X11_town_1) (js_sq (js_pf 1 11 19 (js_l 3 0) (js_k 0)) (js_sq (js_if (js_cz js_gt (js_gf 1 11 23 (js_l 3 0))) (js_rv (js_2 js_sub (js_k (-10)) (js_gf 1 11 23 (js_l 3 0)))) js_sk) (js_sq (js_pa 1 20 (js_gr 1 11 7 (js_l 3 0)) (js_k 0) (js_al 1 20 (js_gr 1 11 7 (js_l 3 0)) (js_k 1))) (js_sq (js_bk 1 (js_sq (js_s1 1 1 (js_k 0)) (js_wh lc_X11_town_2 lb_X11_town_2))) (js_sq (js_pa 1 20 (js_gr 1 11 11 (js_l 3 0)) (js_k 0) (js_al 1 20 (js_gr 1 11 11 (js_l 3 0)) (js_k 1))) (js_sq (js_bk 1 (js_sq (js_s1 1 1 (js_k 0)) (js_wh lc_X11_town_3 lb_X11_town_3))) (js_sq (js_ex (js_cv 1 11 f_X11_clearRow [(js_l 3 0)])) (js_sq (js_pf 1 11 28 (js_l 3 0) (js_k 0)) (js_rv (js_al 1 20 (js_gr 1 11 7 (js_l 3 0)) (js_k 0))))))))))))))) [(3, z0), (0, 0)] w) := by
  unfold f_X11_town
  rw [jv_me]
  have e : js_ev [3] [z0] 2 = [(3, z0), (0, 0)] := rfl
  rw [e]
  unfold lc_X11_town_3 lb_X11_town_3 lc_X11_town_2 lb_X11_town_2 lc_X11_town_1 lb_X11_town_1
  rfl
def lc_X11_sayings_1 : js_CC := (js_ca (js_cz js_eq (js_gf 1 11 23 (js_l 3 0))) (js_cz js_ge (js_cv 1 11 f_X11_here [(js_l 3 0)])))
def lb_X11_sayings_1 : js_SS := (js_sq (js_ex (js_cv 1 11 f_X11_takeWord [(js_l 3 0)])) (js_sq (js_if (js_ca (js_cz js_ne (js_cv 1 11 f_X11_want [(js_l 3 0), (js_cv 1 11 f_X11_isWord [(js_l 3 0), (js_k 3), (js_k 115), (js_k 97), (js_k 121), (js_k 0)]), (js_k 1), (js_gf 1 11 21 (js_l 3 0))])) (js_cz js_ne (js_cv 1 11 f_X11_want [(js_l 3 0), (js_q (js_cp js_lt (js_al 1 20 (js_gr 1 11 17 (js_l 3 0)) (js_k 1)) (js_k 6)) (js_k 1) (js_k 0)), (js_k 3), (js_gf 1 11 21 (js_l 3 0))]))) (js_ex (js_cv 1 11 f_X11_takeSaying [(js_l 3 0)])) js_sk) (js_ex (js_cv 1 11 f_X11_takeEnd [(js_l 3 0)]))))
def lc_X11_sayings_2 : js_CC := (js_cp js_lt (js_l 1 1) (js_k 6))
def lb_X11_sayings_2 : js_SS := (js_sq (js_sq (js_pa 1 20 (js_gr 1 11 12 (js_l 3 0)) (js_l 1 1) (js_al 1 20 (js_gr 1 11 12 (js_l 3 0)) (js_2 js_add (js_k 6) (js_l 1 1)))) (js_sq (js_pa 1 20 (js_gr 1 11 13 (js_l 3 0)) (js_l 1 1) (js_al 1 20 (js_gr 1 11 13 (js_l 3 0)) (js_2 js_add (js_k 6) (js_l 1 1)))) (js_sq (js_pa 1 20 (js_gr 1 11 14 (js_l 3 0)) (js_l 1 1) (js_al 1 20 (js_gr 1 11 14 (js_l 3 0)) (js_2 js_add (js_k 6) (js_l 1 1)))) (js_sq (js_pa 1 20 (js_gr 1 11 15 (js_l 3 0)) (js_l 1 1) (js_al 1 20 (js_gr 1 11 15 (js_l 3 0)) (js_2 js_add (js_k 6) (js_l 1 1)))) (js_pa 1 20 (js_gr 1 11 16 (js_l 3 0)) (js_l 1 1) (js_al 1 20 (js_gr 1 11 16 (js_l 3 0)) (js_2 js_add (js_k 6) (js_l 1 1)))))))) (js_ii 1 1))
theorem fe_X11_sayings (z0 : Int) (w : js_Mm) : f_X11_sayings [z0] w = jv_out 1 ((js_sq (js_if (js_cp js_gt (js_gf 1 11 19 (js_l 3 0)) (js_k 300)) (js_rv (js_k (-1000003))) js_sk) (js_sq (js_ex (js_cv 1 11 f_X11_beginReading [(js_l 3 0)])) (js_sq (js_pa 1 20 (js_gr 1 11 17 (js_l 3 0)) (js_k 1) (js_k 0)) (js_sq (js_wh lc_X11_sayings_1 lb_X11_sayings_1) (js_sq (js_pf 1 11 19 (js_l 3 0) (js_k 0)) (js_sq (js_if (js_cz js_gt (js_gf 1 11 23 (js_l 3 0))) (js_rv (js_2 js_sub (js_k (-10)) (js_gf 1 11 23 (js_l 3 0)))) js_sk) (js_sq (js_pa 1 20 (js_gr 1 11 17 (js_l 3 0)) (js_k 0) (js_al 1 20 (js_gr 1 11 17 (js_l 3 0)) (js_k 1))) (js_sq (js_bk 1 (js_sq (js_s1 1 1 (js_k 0)) (js_wh lc_X11_sayings_2 lb_X11_sayings_2))) (js_sq (js_ex (js_cv 1 11 f_X11_clearRow [(js_l 3 0)])) (js_rv (js_al 1 20 (js_gr 1 11 17 (js_l 3 0)) (js_k 0)))))))))))) [(3, z0), (0, 0)] w) := by
  unfold f_X11_sayings
  rw [jv_me]
  have e : js_ev [3] [z0] 2 = [(3, z0), (0, 0)] := rfl
  rw [e]
  unfold lc_X11_sayings_2 lb_X11_sayings_2 lc_X11_sayings_1 lb_X11_sayings_1
  rfl
def lc_X11_tick_1 : js_CC := (js_cp js_lt (js_l 1 3) (js_al 1 20 (js_gr 1 11 7 (js_l 3 0)) (js_k 0)))
def lb_X11_tick_1 : js_SS := (js_sq (js_s1 1 2 (js_2 js_or (js_l 1 2) (js_2 js_shl (js_cs f_X11_one [(js_q (js_ca (js_ca (js_cn (js_cz js_ne (js_al 1 23 (js_gr 1 11 5 (js_l 3 0)) (js_l 1 3)))) (js_cz js_gt (js_cv 1 11 f_X11_tieMany [(js_l 3 0), (js_l 1 3)]))) (js_cz js_ge (js_cv 1 11 f_X11_latest [(js_l 3 0), (js_l 1 1), (js_l 1 3)]))) (js_k 1) (js_k 0))]) (js_l 1 3)))) (js_ii 3 1))
def lc_X11_tick_2 : js_CC := (js_cp js_lt (js_l 1 4) (js_al 1 20 (js_gr 1 11 7 (js_l 3 0)) (js_k 0)))
def lb_X11_tick_2 : js_SS := (js_sq (js_if (js_cz js_ne (js_cs f_X11_has [(js_l 1 2), (js_l 1 4)])) (js_bk 5 (js_sq (js_s1 1 5 (js_cv 1 11 f_X11_listener [(js_l 3 0), (js_l 1 1), (js_l 1 4)])) (js_sq (js_s1 1 6 (js_cv 1 11 f_X11_latest [(js_l 3 0), (js_l 1 1), (js_l 1 4)])) (js_s1 1 3 (js_2 js_add (js_l 1 3) (js_q (js_cz js_lt (js_l 1 6)) (js_k 0) (js_cv 1 11 f_X11_tellTo [(js_l 3 0), (js_l 1 1), (js_l 1 4), (js_l 1 6), (js_l 1 5)]))))))) js_sk) (js_ii 4 1))
theorem fe_X11_tick (z0 z1 : Int) (w : js_Mm) : f_X11_tick [z0, z1] w = jv_out 1 ((js_sq (js_s1 1 2 (js_k 0)) (js_sq (js_bk 3 (js_sq (js_s1 1 3 (js_k 0)) (js_wh lc_X11_tick_1 lb_X11_tick_1))) (js_sq (js_s1 1 3 (js_k 0)) (js_sq (js_bk 4 (js_sq (js_s1 1 4 (js_k 0)) (js_wh lc_X11_tick_2 lb_X11_tick_2))) (js_sq (js_oa 1 20 js_add (js_gr 1 11 0 (js_l 3 0)) (js_2 js_add (js_l 1 1) (js_k 864)) (js_k 1)) (js_rv (js_l 1 3))))))) [(3, z0), (1, z1), (0, 0), (0, 0), (0, 0), (0, 0), (0, 0)] w) := by
  unfold f_X11_tick
  rw [jv_me]
  have e : js_ev [3, 1] [z0, z1] 7 = [(3, z0), (1, z1), (0, 0), (0, 0), (0, 0), (0, 0), (0, 0)] := rfl
  rw [e]
  unfold lc_X11_tick_2 lb_X11_tick_2 lc_X11_tick_1 lb_X11_tick_1
  rfl
def lc_X11_findOdds_1 : js_CC := (js_cp js_le (js_l 1 4) (js_l 1 3))
def lb_X11_findOdds_1 : js_SS := (js_sq (js_pa 1 20 (js_gr 1 11 31 (js_l 3 0)) (js_l 1 4) (js_q (js_cp js_eq (js_l 1 4) (js_l 1 1)) (js_k 1000000000) (js_k 0))) (js_ii 4 1))
def lc_X11_findOdds_2 : js_CC := (js_cp js_le (js_l 1 5) (js_l 1 3))
def lb_X11_findOdds_2 : js_SS := (js_sq (js_pa 1 20 (js_gr 1 11 32 (js_l 3 0)) (js_l 1 5) (js_k 0)) (js_ii 5 1))
def lc_X11_findOdds_3 : js_CC := (js_cp js_le (js_l 1 5) (js_l 1 3))
def lb_X11_findOdds_3 : js_SS := (js_sq (js_if (js_cz js_gt (js_al 1 20 (js_gr 1 11 31 (js_l 3 0)) (js_l 1 5))) (js_ex (js_cv 1 11 f_X11_spread [(js_l 3 0), (js_l 1 5)])) js_sk) (js_ii 5 1))
def lc_X11_findOdds_4 : js_CC := (js_cp js_le (js_l 1 5) (js_l 1 3))
def lb_X11_findOdds_4 : js_SS := (js_sq (js_pa 1 20 (js_gr 1 11 31 (js_l 3 0)) (js_l 1 5) (js_al 1 20 (js_gr 1 11 32 (js_l 3 0)) (js_l 1 5))) (js_ii 5 1))
def lc_X11_findOdds_5 : js_CC := (js_cp js_lt (js_l 1 4) (js_l 1 2))
def lb_X11_findOdds_5 : js_SS := (js_sq (js_sq (js_bk 5 (js_sq (js_s1 1 5 (js_k 0)) (js_wh lc_X11_findOdds_2 lb_X11_findOdds_2))) (js_sq (js_bk 5 (js_sq (js_s1 1 5 (js_k 0)) (js_wh lc_X11_findOdds_3 lb_X11_findOdds_3))) (js_bk 5 (js_sq (js_s1 1 5 (js_k 0)) (js_wh lc_X11_findOdds_4 lb_X11_findOdds_4))))) (js_ii 4 1))
theorem fe_X11_findOdds (z0 z1 z2 : Int) (w : js_Mm) : f_X11_findOdds [z0, z1, z2] w = jv_out 0 ((js_sq (js_sq (js_s1 1 3 (js_2 js_sub (js_2 js_shl (js_k 1) (js_cv 1 11 f_X11_net [(js_l 3 0)])) (js_k 1))) (js_sq (js_bk 4 (js_sq (js_s1 1 4 (js_k 0)) (js_wh lc_X11_findOdds_1 lb_X11_findOdds_1))) (js_bk 4 (js_sq (js_s1 1 4 (js_k 0)) (js_wh lc_X11_findOdds_5 lb_X11_findOdds_5))))) js_r0) [(3, z0), (1, z1), (1, z2), (0, 0), (0, 0), (0, 0)] w) := by
  unfold f_X11_findOdds
  rw [jv_me]
  have e : js_ev [3, 1, 1] [z0, z1, z2] 6 = [(3, z0), (1, z1), (1, z2), (0, 0), (0, 0), (0, 0)] := rfl
  rw [e]
  unfold lc_X11_findOdds_5 lb_X11_findOdds_5 lc_X11_findOdds_4 lb_X11_findOdds_4 lc_X11_findOdds_3 lb_X11_findOdds_3 lc_X11_findOdds_2 lb_X11_findOdds_2 lc_X11_findOdds_1 lb_X11_findOdds_1
  rfl
theorem fe_X10_go (z0 z1 : Int) (w : js_Mm) : f_X10_go [z0, z1] w = jv_out 1 ((js_rv (js_q (js_co (js_cp js_lt (js_l 1 1) (js_k 1)) (js_cp js_gt (js_l 1 1) (js_k 500))) (js_k (-1000002)) (js_cv 0 6 f_X6_pass [(js_gr 0 10 6 (js_l 3 0)), (js_gr 0 10 7 (js_l 3 0)), (js_l 1 1)]))) [(3, z0), (1, z1)] w) := by
  unfold f_X10_go
  rw [jv_me]
  have e : js_ev [3, 1] [z0, z1] 2 = [(3, z0), (1, z1)] := rfl
  rw [e]
theorem fe_X10_reach (z0 z1 z2 z3 : Int) (w : js_Mm) : f_X10_reach [z0, z1, z2, z3] w = jv_out 1 ((js_sq (js_if (js_co (js_cn (js_cz js_ne (js_cv 0 10 f_X10_isOfNet [(js_l 3 0), (js_l 1 1)]))) (js_cn (js_cz js_ne (js_cv 0 10 f_X10_isOfNet [(js_l 3 0), (js_l 1 2)])))) (js_rv (js_k (-1000001))) js_sk) (js_rv (js_q (js_cz js_ne (js_cs f_X10_isSteps [(js_l 1 3)])) (js_cv 0 4 f_X4_reachOf [(js_gr 0 10 13 (js_l 3 0)), (js_l 1 1), (js_l 1 2), (js_l 1 3)]) (js_k (-1000002))))) [(3, z0), (1, z1), (1, z2), (1, z3)] w) := by
  unfold f_X10_reach
  rw [jv_me]
  have e : js_ev [3, 1, 1, 1] [z0, z1, z2, z3] 4 = [(3, z0), (1, z1), (1, z2), (1, z3)] := rfl
  rw [e]
theorem fe_X10_many (z0 z1 z2 : Int) (w : js_Mm) : f_X10_many [z0, z1, z2] w = jv_out 1 ((js_sq (js_if (js_cn (js_cz js_ne (js_cs f_X10_isSetOf [(js_l 1 1), (js_cv 0 4 f_X4_size [(js_gr 0 10 13 (js_l 3 0))])]))) (js_rv (js_k (-1000001))) js_sk) (js_rv (js_q (js_cz js_ne (js_cs f_X10_isSteps [(js_l 1 2)])) (js_cv 0 4 f_X4_manyOf [(js_gr 0 10 13 (js_l 3 0)), (js_l 1 1), (js_l 1 2)]) (js_k (-1000002))))) [(3, z0), (1, z1), (1, z2)] w) := by
  unfold f_X10_many
  rw [jv_me]
  have e : js_ev [3, 1, 1] [z0, z1, z2] 3 = [(3, z0), (1, z1), (1, z2)] := rfl
  rw [e]
theorem fe_X10_began (z0 z1 z2 z3 : Int) (w : js_Mm) : f_X10_began [z0, z1, z2, z3] w = jv_out 1 ((js_sq (js_if (js_co (js_cn (js_cz js_ne (js_cv 0 10 f_X10_isOfNet [(js_l 3 0), (js_l 1 1)]))) (js_cn (js_cz js_ne (js_cs f_X10_isSetOf [(js_l 1 2), (js_cv 0 4 f_X4_size [(js_gr 0 10 13 (js_l 3 0))])])))) (js_rv (js_k (-1000001))) js_sk) (js_rv (js_q (js_cz js_ne (js_cs f_X10_isSteps [(js_l 1 3)])) (js_cv 0 4 f_X4_beganOf [(js_gr 0 10 13 (js_l 3 0)), (js_l 1 1), (js_l 1 2), (js_l 1 3)]) (js_k (-1000002))))) [(3, z0), (1, z1), (1, z2), (1, z3)] w) := by
  unfold f_X10_began
  rw [jv_me]
  have e : js_ev [3, 1, 1, 1] [z0, z1, z2, z3] 4 = [(3, z0), (1, z1), (1, z2), (1, z3)] := rfl
  rw [e]
theorem fe_X10_heldBehind (z0 z1 z2 : Int) (w : js_Mm) : f_X10_heldBehind [z0, z1, z2] w = jv_out 1 ((js_sq (js_ex (js_cv 0 6 f_X6_pass [(js_gr 0 10 6 (js_l 3 0)), (js_gr 0 10 9 (js_l 3 0)), (js_l 1 2)])) (js_rv (js_cs f_J6_bitCount_0f7a4 [(js_cv 0 0 f_X0_setOf [(js_gr 0 10 9 (js_l 3 0)), (js_l 1 1), (js_gf 0 8 0 (js_gr 0 10 1 (js_l 3 0)))])]))) [(3, z0), (1, z1), (1, z2)] w) := by
  unfold f_X10_heldBehind
  rw [jv_me]
  have e : js_ev [3, 1, 1] [z0, z1, z2] 3 = [(3, z0), (1, z1), (1, z2)] := rfl
  rw [e]
theorem fe_X7_skipWord (z0 z1 : Int) (w : js_Mm) : f_X7_skipWord [z0, z1] w = jv_out 5 ((js_sq (js_s1 1 2 (js_cv 0 7 f_X7_isWord [(js_l 3 0), (js_l 4 1)])) (js_sq (js_if (js_cz js_ne (js_l 1 2)) (js_ex (js_cv 0 7 f_X7_step [(js_l 3 0)])) js_sk) (js_rv (js_l 1 2)))) [(3, z0), (4, z1), (0, 0)] w) := by
  unfold f_X7_skipWord
  rw [jv_me]
  have e : js_ev [3, 4] [z0, z1] 3 = [(3, z0), (4, z1), (0, 0)] := rfl
  rw [e]
def lc_X4_bestToSpeak_1 : js_CC := (js_cp js_lt (js_l 1 5) (js_2 js_shl (js_k 1) (js_cv 0 4 f_X4_size [(js_l 3 0)])))
def lb_X4_bestToSpeak_1 : js_SS := (js_sq (js_if (js_cp js_eq (js_cs f_J6_bitCount_0f7a4 [(js_l 1 5)]) (js_l 1 1)) (js_bk 6 (js_sq (js_s1 1 6 (js_cv 0 4 f_X4_manyOf [(js_l 3 0), (js_l 1 5), (js_l 1 2)])) (js_if (js_cp js_gt (js_l 1 6) (js_l 1 4)) (js_sq (js_s1 1 4 (js_l 1 6)) (js_s1 1 3 (js_l 1 5))) js_sk))) js_sk) (js_ii 5 1))
theorem fe_X4_bestToSpeak (z0 z1 z2 : Int) (w : js_Mm) : f_X4_bestToSpeak [z0, z1, z2] w = jv_out 1 ((js_sq (js_s1 1 3 (js_k (-1))) (js_sq (js_s1 1 4 (js_k (-1))) (js_sq (js_bk 5 (js_sq (js_s1 1 5 (js_k 0)) (js_wh lc_X4_bestToSpeak_1 lb_X4_bestToSpeak_1))) (js_rv (js_l 1 3))))) [(3, z0), (1, z1), (1, z2), (0, 0), (0, 0), (0, 0), (0, 0)] w) := by
  unfold f_X4_bestToSpeak
  rw [jv_me]
  have e : js_ev [3, 1, 1] [z0, z1, z2] 7 = [(3, z0), (1, z1), (1, z2), (0, 0), (0, 0), (0, 0), (0, 0)] := rfl
  rw [e]
  unfold lc_X4_bestToSpeak_1 lb_X4_bestToSpeak_1
  rfl
def lc_X11_go_1 : js_CC := (js_cp js_lt (js_l 1 3) (js_l 1 1))
def lb_X11_go_1 : js_SS := (js_sq (js_s1 1 2 (js_2 js_add (js_l 1 2) (js_cv 1 11 f_X11_tick [(js_l 3 0), (js_k 0)]))) (js_ii 3 1))
theorem fe_X11_go (z0 z1 : Int) (w : js_Mm) : f_X11_go [z0, z1] w = jv_out 1 ((js_sq (js_if (js_cn (js_cz js_ne (js_cs f_X11_in [(js_1 js_i2l (js_l 1 1)), (js_k 1), (js_k 500)]))) (js_rv (js_k (-1000002))) js_sk) (js_sq (js_s1 1 2 (js_k 0)) (js_sq (js_bk 3 (js_sq (js_s1 1 3 (js_k 0)) (js_wh lc_X11_go_1 lb_X11_go_1))) (js_rv (js_l 1 2))))) [(3, z0), (1, z1), (0, 0), (0, 0)] w) := by
  unfold f_X11_go
  rw [jv_me]
  have e : js_ev [3, 1] [z0, z1] 4 = [(3, z0), (1, z1), (0, 0), (0, 0)] := rfl
  rw [e]
  unfold lc_X11_go_1 lb_X11_go_1
  rfl
def lc_X11_curve_1 : js_CC := (js_cp js_lt (js_l 1 5) (js_al 1 20 (js_gr 1 11 0 (js_l 3 0)) (js_k 867)))
def lb_X11_curve_1 : js_SS := (js_sq (js_bk 6 (js_sq (js_s1 1 6 (js_al 1 20 (js_gr 1 11 0 (js_l 3 0)) (js_2 js_add (js_k 868) (js_2 js_mul (js_k 3) (js_l 1 5))))) (js_sq (js_s1 1 7 (js_al 1 20 (js_gr 1 11 0 (js_l 3 0)) (js_2 js_add (js_2 js_add (js_k 868) (js_2 js_mul (js_k 3) (js_l 1 5))) (js_k 1)))) (js_if (js_ca (js_ca (js_cp js_eq (js_al 1 20 (js_gr 1 11 0 (js_l 3 0)) (js_2 js_add (js_2 js_add (js_k 868) (js_2 js_mul (js_k 3) (js_l 1 5))) (js_k 2))) (js_l 1 4)) (js_cz js_ne (js_cs f_X11_has [(js_l 1 1), (js_l 1 7)]))) (js_cn (js_cz js_ne (js_cv 1 11 f_X11_isHeld [(js_l 3 0), (js_k 1000), (js_l 1 6), (js_l 1 7)])))) (js_ex (js_cv 1 11 f_X11_come [(js_l 3 0), (js_k 1000), (js_l 1 6), (js_l 1 7), (js_k (-2)), (js_l 1 7)])) js_sk)))) (js_ii 5 1))
def lc_X11_curve_2 : js_CC := (js_cp js_le (js_l 1 4) (js_l 1 3))
def lb_X11_curve_2 : js_SS := (js_sq (js_bk 5 (js_sq (js_bk 5 (js_sq (js_s1 1 5 (js_k 0)) (js_wh lc_X11_curve_1 lb_X11_curve_1))) (js_s1 1 5 (js_q (js_cp js_lt (js_l 1 4) (js_l 1 3)) (js_cv 1 11 f_X11_tick [(js_l 3 0), (js_k 1000)]) (js_k 0))))) (js_ii 4 1))
theorem fe_X11_curve (z0 z1 z2 z3 : Int) (w : js_Mm) : f_X11_curve [z0, z1, z2, z3] w = jv_out 1 ((js_sq (js_if (js_co (js_cn (js_cz js_ne (js_cs f_X11_in [(js_1 js_i2l (js_l 1 1)), (js_k 0), (js_1 js_i2l (js_2 js_sub (js_2 js_shl (js_k 1) (js_al 1 20 (js_gr 1 11 17 (js_l 3 0)) (js_k 0))) (js_k 1)))]))) (js_cn (js_cz js_ne (js_cv 1 11 f_X11_isSaying [(js_l 3 0), (js_l 1 2)])))) (js_rv (js_k (-1000001))) js_sk) (js_sq (js_if (js_cn (js_cz js_ne (js_cs f_X11_in [(js_1 js_i2l (js_l 1 3)), (js_k 0), (js_k 200)]))) (js_rv (js_k (-1000002))) js_sk) (js_sq (js_ex (js_cv 1 11 f_X11_copy [(js_l 3 0), (js_k 0), (js_k 1000)])) (js_sq (js_ex (js_cv 1 11 f_X11_freshen [(js_l 3 0), (js_k 1000)])) (js_sq (js_bk 4 (js_sq (js_s1 1 4 (js_k 0)) (js_wh lc_X11_curve_2 lb_X11_curve_2))) (js_rv (js_cs f_X11_ones [(js_cv 1 11 f_X11_holdersOf [(js_l 3 0), (js_k 1000), (js_l 1 2)])]))))))) [(3, z0), (1, z1), (1, z2), (1, z3), (0, 0), (0, 0), (0, 0), (0, 0)] w) := by
  unfold f_X11_curve
  rw [jv_me]
  have e : js_ev [3, 1, 1, 1] [z0, z1, z2, z3] 8 = [(3, z0), (1, z1), (1, z2), (1, z3), (0, 0), (0, 0), (0, 0), (0, 0)] := rfl
  rw [e]
  unfold lc_X11_curve_2 lb_X11_curve_2 lc_X11_curve_1 lb_X11_curve_1
  rfl
def lc_X11_tryNotice_1 : js_CC := (js_cp js_lt (js_l 1 7) (js_l 1 3))
def lb_X11_tryNotice_1 : js_SS := (js_sq (js_sq (js_s1 1 6 (js_2 js_add (js_l 1 6) (js_q (js_ca (js_cp js_eq (js_l 1 7) (js_l 1 4)) (js_cz js_ge (js_l 1 5))) (js_cv 1 11 f_X11_hang [(js_l 3 0), (js_k 1000), (js_l 1 5), (js_l 1 1), (js_l 1 2)]) (js_k 0)))) (js_s1 1 6 (js_2 js_add (js_l 1 6) (js_cv 1 11 f_X11_tick [(js_l 3 0), (js_k 1000)])))) (js_ii 7 1))
theorem fe_X11_tryNotice (z0 z1 z2 z3 z4 z5 : Int) (w : js_Mm) : f_X11_tryNotice [z0, z1, z2, z3, z4, z5] w = jv_out 1 ((js_sq (js_ex (js_cv 1 11 f_X11_copy [(js_l 3 0), (js_k 0), (js_k 1000)])) (js_sq (js_s1 1 6 (js_k 0)) (js_sq (js_bk 7 (js_sq (js_s1 1 7 (js_k 0)) (js_wh lc_X11_tryNotice_1 lb_X11_tryNotice_1))) (js_rv (js_cs f_X11_ones [(js_cv 1 11 f_X11_holdersOf [(js_l 3 0), (js_k 1000), (js_l 1 1)])]))))) [(3, z0), (1, z1), (1, z2), (1, z3), (1, z4), (1, z5), (0, 0), (0, 0)] w) := by
  unfold f_X11_tryNotice
  rw [jv_me]
  have e : js_ev [3, 1, 1, 1, 1, 1] [z0, z1, z2, z3, z4, z5] 8 = [(3, z0), (1, z1), (1, z2), (1, z3), (1, z4), (1, z5), (0, 0), (0, 0)] := rfl
  rw [e]
  unfold lc_X11_tryNotice_1 lb_X11_tryNotice_1
  rfl
def lc_X11_reach_1 : js_CC := (js_cp js_lt (js_l 1 5) (js_2 js_shl (js_k 1) (js_cv 1 11 f_X11_net [(js_l 3 0)])))
def lb_X11_reach_1 : js_SS := (js_sq (js_s1 1 4 (js_2 js_add (js_l 1 4) (js_q (js_cz js_ne (js_cs f_X11_has [(js_l 1 5), (js_l 1 2)])) (js_al 1 20 (js_gr 1 11 31 (js_l 3 0)) (js_l 1 5)) (js_k 0)))) (js_ii 5 1))
theorem fe_X11_reach (z0 z1 z2 z3 : Int) (w : js_Mm) : f_X11_reach [z0, z1, z2, z3] w = jv_out 1 ((js_sq (js_if (js_co (js_cn (js_cz js_ne (js_cv 1 11 f_X11_isNet [(js_l 3 0), (js_l 1 1)]))) (js_cn (js_cz js_ne (js_cv 1 11 f_X11_isNet [(js_l 3 0), (js_l 1 2)])))) (js_rv (js_k (-1000001))) js_sk) (js_sq (js_if (js_cn (js_cz js_ne (js_cs f_X11_areSteps [(js_l 1 3)]))) (js_rv (js_k (-1000002))) js_sk) (js_sq (js_ex (js_cv 1 11 f_X11_findOdds [(js_l 3 0), (js_2 js_shl (js_k 1) (js_l 1 1)), (js_l 1 3)])) (js_sq (js_s1 1 4 (js_k 0)) (js_sq (js_bk 5 (js_sq (js_s1 1 5 (js_k 0)) (js_wh lc_X11_reach_1 lb_X11_reach_1))) (js_rv (js_dv js_div (js_l 1 4) (js_k 1000)))))))) [(3, z0), (1, z1), (1, z2), (1, z3), (0, 0), (0, 0)] w) := by
  unfold f_X11_reach
  rw [jv_me]
  have e : js_ev [3, 1, 1, 1] [z0, z1, z2, z3] 6 = [(3, z0), (1, z1), (1, z2), (1, z3), (0, 0), (0, 0)] := rfl
  rw [e]
  unfold lc_X11_reach_1 lb_X11_reach_1
  rfl
def lc_X11_manyFrom_1 : js_CC := (js_cp js_lt (js_l 1 5) (js_2 js_shl (js_k 1) (js_cv 1 11 f_X11_net [(js_l 3 0)])))
def lb_X11_manyFrom_1 : js_SS := (js_sq (js_s2 3 (js_2 js_ladd (js_l 2 3) (js_2 js_lmul (js_1 js_i2l (js_al 1 20 (js_gr 1 11 31 (js_l 3 0)) (js_l 1 5))) (js_1 js_i2l (js_cs f_X11_ones [(js_l 1 5)]))))) (js_ii 5 1))
theorem fe_X11_manyFrom (z0 z1 z2 : Int) (w : js_Mm) : f_X11_manyFrom [z0, z1, z2] w = jv_out 1 ((js_sq (js_ex (js_cv 1 11 f_X11_findOdds [(js_l 3 0), (js_l 1 1), (js_l 1 2)])) (js_sq (js_s2 3 (js_k 0)) (js_sq (js_bk 5 (js_sq (js_s1 1 5 (js_k 0)) (js_wh lc_X11_manyFrom_1 lb_X11_manyFrom_1))) (js_rv (js_1 js_l2i (js_dv js_ldiv (js_l 2 3) (js_k 1000000))))))) [(3, z0), (1, z1), (1, z2), (0, 0), (0, 0), (0, 0)] w) := by
  unfold f_X11_manyFrom
  rw [jv_me]
  have e : js_ev [3, 1, 1] [z0, z1, z2] 6 = [(3, z0), (1, z1), (1, z2), (0, 0), (0, 0), (0, 0)] := rfl
  rw [e]
  unfold lc_X11_manyFrom_1 lb_X11_manyFrom_1
  rfl
def lc_X11_began_1 : js_CC := (js_cp js_lt (js_l 1 8) (js_cv 1 11 f_X11_net [(js_l 3 0)]))
def lb_X11_began_1 : js_SS := (js_sq (js_sq (js_ex (js_cv 1 11 f_X11_findOdds [(js_l 3 0), (js_2 js_shl (js_k 1) (js_l 1 8)), (js_l 1 3)])) (js_sq (js_s2 4 (js_2 js_ladd (js_l 2 4) (js_1 js_i2l (js_al 1 20 (js_gr 1 11 31 (js_l 3 0)) (js_l 1 2))))) (js_s2 6 (js_q (js_cp js_eq (js_l 1 8) (js_l 1 1)) (js_1 js_i2l (js_al 1 20 (js_gr 1 11 31 (js_l 3 0)) (js_l 1 2))) (js_l 2 6))))) (js_ii 8 1))
theorem fe_X11_began (z0 z1 z2 z3 : Int) (w : js_Mm) : f_X11_began [z0, z1, z2, z3] w = jv_out 1 ((js_sq (js_if (js_co (js_cn (js_cz js_ne (js_cv 1 11 f_X11_isNet [(js_l 3 0), (js_l 1 1)]))) (js_cn (js_cz js_ne (js_cv 1 11 f_X11_isNetSet [(js_l 3 0), (js_l 1 2)])))) (js_rv (js_k (-1000001))) js_sk) (js_sq (js_if (js_cn (js_cz js_ne (js_cs f_X11_areSteps [(js_l 1 3)]))) (js_rv (js_k (-1000002))) js_sk) (js_sq (js_s2 4 (js_k 0)) (js_sq (js_s2 6 (js_k 0)) (js_sq (js_bk 8 (js_sq (js_s1 1 8 (js_k 0)) (js_wh lc_X11_began_1 lb_X11_began_1))) (js_rv (js_q (js_cp js_eq (js_l 2 4) (js_k 0)) (js_k 0) (js_1 js_l2i (js_dv js_ldiv (js_2 js_lmul (js_k 1000000) (js_l 2 6)) (js_l 2 4)))))))))) [(3, z0), (1, z1), (1, z2), (1, z3), (0, 0), (0, 0), (0, 0), (0, 0), (0, 0)] w) := by
  unfold f_X11_began
  rw [jv_me]
  have e : js_ev [3, 1, 1, 1] [z0, z1, z2, z3] 9 = [(3, z0), (1, z1), (1, z2), (1, z3), (0, 0), (0, 0), (0, 0), (0, 0), (0, 0)] := rfl
  rw [e]
  unfold lc_X11_began_1 lb_X11_began_1
  rfl
def lc_X10_best_1 : js_CC := (js_cp js_lt (js_l 1 9) (js_k 4))
def lb_X10_best_1 : js_SS := (js_sq (js_bk 10 (js_sq (js_ex (js_cv 0 0 f_X0_copyFrom [(js_gr 0 10 9 (js_l 3 0)), (js_gr 0 10 8 (js_l 3 0))])) (js_sq (js_ex (js_cv 0 6 f_X6_post [(js_gr 0 10 6 (js_l 3 0)), (js_gr 0 10 9 (js_l 3 0)), (js_l 1 9), (js_l 1 1), (js_l 1 2)])) (js_sq (js_s1 1 10 (js_cv 0 10 f_X10_heldBehind [(js_l 3 0), (js_l 1 1), (js_2 js_sub (js_l 1 3) (js_l 1 8))])) (js_if (js_cp js_gt (js_l 1 10) (js_l 1 5)) (js_sq (js_s1 1 5 (js_l 1 10)) (js_sq (js_s1 1 6 (js_l 1 9)) (js_s1 1 7 (js_l 1 8)))) js_sk))))) (js_ii 9 1))
def lc_X10_best_2 : js_CC := (js_ca (js_cp js_lt (js_l 1 8) (js_k 10)) (js_cp js_lt (js_l 1 8) (js_l 1 3)))
def lb_X10_best_2 : js_SS := (js_sq (js_sq (js_bk 9 (js_sq (js_s1 1 9 (js_k 0)) (js_wh lc_X10_best_1 lb_X10_best_1))) (js_ex (js_cv 0 6 f_X6_tell [(js_gr 0 10 6 (js_l 3 0)), (js_gr 0 10 8 (js_l 3 0))]))) (js_ii 8 1))
theorem fe_X10_best (z0 z1 z2 z3 z4 : Int) (w : js_Mm) : f_X10_best [z0, z1, z2, z3, z4] w = jv_out 1 ((js_sq (js_if (js_cn (js_cz js_ne (js_cv 0 10 f_X10_isSaying [(js_l 3 0), (js_l 1 1)]))) (js_rv (js_k (-1000001))) js_sk) (js_sq (js_if (js_co (js_co (js_co (js_co (js_co (js_cz js_lt (js_l 1 2)) (js_cp js_gt (js_l 1 2) (js_k 100))) (js_cp js_lt (js_l 1 3) (js_k 1))) (js_cp js_gt (js_l 1 3) (js_k 100))) (js_cz js_lt (js_l 1 4))) (js_cp js_gt (js_l 1 4) (js_k 2))) (js_rv (js_k (-1000002))) js_sk) (js_sq (js_ex (js_cv 0 0 f_X0_copyFrom [(js_gr 0 10 9 (js_l 3 0)), (js_gr 0 10 7 (js_l 3 0))])) (js_sq (js_ex (js_cv 0 0 f_X0_copyFrom [(js_gr 0 10 8 (js_l 3 0)), (js_gr 0 10 7 (js_l 3 0))])) (js_sq (js_s1 1 5 (js_cv 0 10 f_X10_heldBehind [(js_l 3 0), (js_l 1 1), (js_l 1 3)])) (js_sq (js_s1 1 6 (js_k (-1))) (js_sq (js_s1 1 7 (js_k (-1))) (js_sq (js_bk 8 (js_sq (js_s1 1 8 (js_k 0)) (js_wh lc_X10_best_2 lb_X10_best_2))) (js_sq (js_if (js_cp js_eq (js_l 1 6) (js_k (-1))) (js_rv (js_k (-1))) js_sk) (js_rv (js_q (js_cz js_eq (js_l 1 4)) (js_l 1 6) (js_q (js_cp js_eq (js_l 1 4) (js_k 1)) (js_l 1 7) (js_l 1 5))))))))))))) [(3, z0), (1, z1), (1, z2), (1, z3), (1, z4), (0, 0), (0, 0), (0, 0), (0, 0), (0, 0), (0, 0)] w) := by
  unfold f_X10_best
  rw [jv_me]
  have e : js_ev [3, 1, 1, 1, 1] [z0, z1, z2, z3, z4] 11 = [(3, z0), (1, z1), (1, z2), (1, z3), (1, z4), (0, 0), (0, 0), (0, 0), (0, 0), (0, 0), (0, 0)] := rfl
  rw [e]
  unfold lc_X10_best_2 lb_X10_best_2 lc_X10_best_1 lb_X10_best_1
  rfl
theorem fe_X10_speak (z0 z1 z2 : Int) (w : js_Mm) : f_X10_speak [z0, z1, z2] w = jv_out 1 ((js_rv (js_q (js_co (js_co (js_cp js_lt (js_l 1 1) (js_k 1)) (js_cp js_gt (js_l 1 1) (js_k 3))) (js_cn (js_cz js_ne (js_cs f_X10_isSteps [(js_l 1 2)])))) (js_k (-1000002)) (js_cv 0 4 f_X4_bestToSpeak [(js_gr 0 10 13 (js_l 3 0)), (js_l 1 1), (js_l 1 2)]))) [(3, z0), (1, z1), (1, z2)] w) := by
  unfold f_X10_speak
  rw [jv_me]
  have e : js_ev [3, 1, 1] [z0, z1, z2] 3 = [(3, z0), (1, z1), (1, z2)] := rfl
  rw [e]
theorem fe_X8_readPerson (z0 z1 : Int) (w : js_Mm) : f_X8_readPerson [z0, z1] w = jv_out 0 ((js_sq (js_sq (js_if (js_cp js_ge (js_gf 0 8 0 (js_l 3 0)) (js_k 24)) (js_sq (js_ex (js_cv 0 7 f_X7_blame [(js_l 3 1), (js_k 3)])) js_r0) js_sk) (js_sq (js_ex (js_cv 0 7 f_X7_step [(js_l 3 1)])) (js_sq (js_s1 1 2 (js_gf 0 8 0 (js_l 3 0))) (js_sq (js_pa 0 20 (js_gr 0 8 3 (js_l 3 0)) (js_l 1 2) (js_cv 0 7 f_X7_takeNumber [(js_l 3 1), (js_k 0), (js_k 100)])) (js_sq (js_of 0 8 2 js_or (js_l 3 0) (js_q (js_cz js_ne (js_cv 0 7 f_X7_skipWord [(js_l 3 1), (js_k 2)])) (js_2 js_shl (js_k 1) (js_l 1 2)) (js_k 0))) (js_sq (js_pa 0 20 (js_gr 0 8 4 (js_l 3 0)) (js_l 1 2) (js_q (js_cz js_ne (js_cv 0 7 f_X7_skipWord [(js_l 3 1), (js_k 3)])) (js_cv 0 7 f_X7_takeNumber [(js_l 3 1), (js_k 0), (js_k 3)]) (js_k (-1)))) (js_sq (js_pa 0 20 (js_gr 0 8 5 (js_l 3 0)) (js_l 1 2) (js_k 0)) (js_sq (js_pa 0 20 (js_gr 0 8 6 (js_l 3 0)) (js_l 1 2) (js_k 0)) (js_if (js_cz js_ne (js_cv 0 7 f_X7_closesClause [(js_l 3 1)])) (js_of 0 8 0 js_add (js_l 3 0) (js_k 1)) js_sk))))))))) js_r0) [(3, z0), (3, z1), (0, 0)] w) := by
  unfold f_X8_readPerson
  rw [jv_me]
  have e : js_ev [3, 3] [z0, z1] 3 = [(3, z0), (3, z1), (0, 0)] := rfl
  rw [e]
theorem fe_X3_readSaying (z0 z1 : Int) (w : js_Mm) : f_X3_readSaying [z0, z1] w = jv_out 0 ((js_sq (js_sq (js_if (js_cp js_ge (js_gf 0 3 0 (js_l 3 0)) (js_k 6)) (js_sq (js_ex (js_cv 0 7 f_X7_blame [(js_l 3 1), (js_k 3)])) js_r0) js_sk) (js_sq (js_ex (js_cv 0 7 f_X7_step [(js_l 3 1)])) (js_sq (js_s1 1 2 (js_gf 0 3 0 (js_l 3 0))) (js_sq (js_pa 0 20 (js_gr 0 3 1 (js_l 3 0)) (js_l 1 2) (js_q (js_cz js_ne (js_cv 0 7 f_X7_skipWord [(js_l 3 1), (js_k 5)])) (js_cv 0 7 f_X7_takeNumber [(js_l 3 1), (js_k 0), (js_k 9)]) (js_k (-1)))) (js_sq (js_pa 0 20 (js_gr 0 3 2 (js_l 3 0)) (js_l 1 2) (js_q (js_cz js_ne (js_cv 0 7 f_X7_skipWord [(js_l 3 1), (js_k 6)])) (js_cv 0 7 f_X7_takeNumber [(js_l 3 1), (js_k 0), (js_k 9)]) (js_k (-1)))) (js_sq (js_pa 0 20 (js_gr 0 3 3 (js_l 3 0)) (js_l 1 2) (js_q (js_cz js_ne (js_cv 0 7 f_X7_skipWord [(js_l 3 1), (js_k 7)])) (js_cv 0 3 f_X3_readBarred [(js_l 3 0), (js_l 3 1)]) (js_k 0))) (js_sq (js_pa 0 20 (js_gr 0 3 4 (js_l 3 0)) (js_l 1 2) (js_q (js_cz js_ne (js_cv 0 7 f_X7_skipWord [(js_l 3 1), (js_k 8)])) (js_cv 0 3 f_X3_readJoined [(js_l 3 0), (js_l 3 1)]) (js_k 0))) (js_if (js_cz js_ne (js_cv 0 7 f_X7_closesClause [(js_l 3 1)])) (js_sq (js_ex (js_cv 0 3 f_X3_settleBarred [(js_l 3 0), (js_l 1 2)])) (js_of 0 3 0 js_add (js_l 3 0) (js_k 1))) js_sk)))))))) js_r0) [(3, z0), (3, z1), (0, 0)] w) := by
  unfold f_X3_readSaying
  rw [jv_me]
  have e : js_ev [3, 3] [z0, z1] 3 = [(3, z0), (3, z1), (0, 0)] := rfl
  rw [e]
def lc_X11_best_1 : js_CC := (js_cp js_lt (js_l 1 8) (js_k 4))
def lb_X11_best_1 : js_SS := (js_sq (js_bk 9 (js_sq (js_s1 1 9 (js_cv 1 11 f_X11_tryNotice [(js_l 3 0), (js_l 1 1), (js_l 1 2), (js_l 1 3), (js_l 1 7), (js_l 1 8)])) (js_sq (js_s1 1 6 (js_q (js_cp js_gt (js_l 1 9) (js_l 1 5)) (js_2 js_add (js_2 js_mul (js_k 4) (js_l 1 7)) (js_l 1 8)) (js_l 1 6))) (js_s1 1 5 (js_q (js_cp js_gt (js_l 1 9) (js_l 1 5)) (js_l 1 9) (js_l 1 5)))))) (js_ii 8 1))
def lc_X11_best_2 : js_CC := (js_ca (js_cp js_lt (js_l 1 7) (js_k 10)) (js_cp js_lt (js_l 1 7) (js_l 1 3)))
def lb_X11_best_2 : js_SS := (js_sq (js_bk 8 (js_sq (js_s1 1 8 (js_k 0)) (js_wh lc_X11_best_1 lb_X11_best_1))) (js_ii 7 1))
theorem fe_X11_best (z0 z1 z2 z3 z4 : Int) (w : js_Mm) : f_X11_best [z0, z1, z2, z3, z4] w = jv_out 1 ((js_sq (js_if (js_cn (js_cz js_ne (js_cv 1 11 f_X11_isSaying [(js_l 3 0), (js_l 1 1)]))) (js_rv (js_k (-1000001))) js_sk) (js_sq (js_if (js_co (js_co (js_cn (js_cz js_ne (js_cs f_X11_in [(js_1 js_i2l (js_l 1 2)), (js_k 0), (js_k 100)]))) (js_cn (js_cz js_ne (js_cs f_X11_in [(js_1 js_i2l (js_l 1 3)), (js_k 1), (js_k 100)])))) (js_cn (js_cz js_ne (js_cs f_X11_in [(js_1 js_i2l (js_l 1 4)), (js_k 0), (js_k 2)])))) (js_rv (js_k (-1000002))) js_sk) (js_sq (js_s1 1 5 (js_cv 1 11 f_X11_tryNotice [(js_l 3 0), (js_l 1 1), (js_l 1 2), (js_l 1 3), (js_k 0), (js_k (-1))])) (js_sq (js_s1 1 6 (js_k (-1))) (js_sq (js_bk 7 (js_sq (js_s1 1 7 (js_k 0)) (js_wh lc_X11_best_2 lb_X11_best_2))) (js_rv (js_q (js_cz js_lt (js_l 1 6)) (js_k (-1)) (js_q (js_cz js_eq (js_l 1 4)) (js_dv js_rem (js_l 1 6) (js_k 4)) (js_q (js_cp js_eq (js_l 1 4) (js_k 1)) (js_dv js_div (js_l 1 6) (js_k 4)) (js_l 1 5)))))))))) [(3, z0), (1, z1), (1, z2), (1, z3), (1, z4), (0, 0), (0, 0), (0, 0), (0, 0), (0, 0)] w) := by
  unfold f_X11_best
  rw [jv_me]
  have e : js_ev [3, 1, 1, 1, 1] [z0, z1, z2, z3, z4] 10 = [(3, z0), (1, z1), (1, z2), (1, z3), (1, z4), (0, 0), (0, 0), (0, 0), (0, 0), (0, 0)] := rfl
  rw [e]
  unfold lc_X11_best_2 lb_X11_best_2 lc_X11_best_1 lb_X11_best_1
  rfl
theorem fe_X11_many (z0 z1 z2 : Int) (w : js_Mm) : f_X11_many [z0, z1, z2] w = jv_out 1 ((js_sq (js_if (js_cn (js_cz js_ne (js_cv 1 11 f_X11_isNetSet [(js_l 3 0), (js_l 1 1)]))) (js_rv (js_k (-1000001))) js_sk) (js_rv (js_q (js_cz js_ne (js_cs f_X11_areSteps [(js_l 1 2)])) (js_cv 1 11 f_X11_manyFrom [(js_l 3 0), (js_l 1 1), (js_l 1 2)]) (js_k (-1000002))))) [(3, z0), (1, z1), (1, z2)] w) := by
  unfold f_X11_many
  rw [jv_me]
  have e : js_ev [3, 1, 1] [z0, z1, z2] 3 = [(3, z0), (1, z1), (1, z2)] := rfl
  rw [e]
def lc_X11_speak_1 : js_CC := (js_cp js_lt (js_l 1 5) (js_2 js_shl (js_k 1) (js_cv 1 11 f_X11_net [(js_l 3 0)])))
def lb_X11_speak_1 : js_SS := (js_sq (js_if (js_cp js_eq (js_cs f_X11_ones [(js_l 1 5)]) (js_l 1 1)) (js_bk 6 (js_sq (js_s1 1 6 (js_cv 1 11 f_X11_manyFrom [(js_l 3 0), (js_l 1 5), (js_l 1 2)])) (js_if (js_co (js_cz js_lt (js_l 1 3)) (js_cp js_gt (js_l 1 6) (js_l 1 4))) (js_sq (js_s1 1 3 (js_l 1 5)) (js_s1 1 4 (js_l 1 6))) js_sk))) js_sk) (js_ii 5 1))
theorem fe_X11_speak (z0 z1 z2 : Int) (w : js_Mm) : f_X11_speak [z0, z1, z2] w = jv_out 1 ((js_sq (js_if (js_co (js_cn (js_cz js_ne (js_cs f_X11_in [(js_1 js_i2l (js_l 1 1)), (js_k 1), (js_k 3)]))) (js_cn (js_cz js_ne (js_cs f_X11_areSteps [(js_l 1 2)])))) (js_rv (js_k (-1000002))) js_sk) (js_sq (js_s1 1 3 (js_k (-1))) (js_sq (js_s1 1 4 (js_k 0)) (js_sq (js_bk 5 (js_sq (js_s1 1 5 (js_k 0)) (js_wh lc_X11_speak_1 lb_X11_speak_1))) (js_rv (js_l 1 3)))))) [(3, z0), (1, z1), (1, z2), (0, 0), (0, 0), (0, 0), (0, 0)] w) := by
  unfold f_X11_speak
  rw [jv_me]
  have e : js_ev [3, 1, 1] [z0, z1, z2] 7 = [(3, z0), (1, z1), (1, z2), (0, 0), (0, 0), (0, 0), (0, 0)] := rfl
  rw [e]
  unfold lc_X11_speak_1 lb_X11_speak_1
  rfl
def lc_X8_readFrom_1 : js_CC := (js_ca (js_cp js_lt (js_l 1 2) (js_k 600)) (js_cz js_ne (js_cv 0 7 f_X7_goesOn [(js_l 3 1)])))
def lb_X8_readFrom_1 : js_SS := (js_sq (js_if (js_cz js_ne (js_cv 0 7 f_X7_isWord [(js_l 3 1), (js_k 0)])) (js_ex (js_cv 0 8 f_X8_readPerson [(js_l 3 0), (js_l 3 1)])) (js_if (js_cz js_ne (js_cv 0 7 f_X7_isWord [(js_l 3 1), (js_k 1)])) (js_ex (js_cv 0 8 f_X8_readTie [(js_l 3 0), (js_l 3 1)])) (js_ex (js_cv 0 7 f_X7_blame [(js_l 3 1), (js_k 1)])))) (js_ii 2 1))
theorem fe_X8_readFrom (z0 z1 : Int) (w : js_Mm) : f_X8_readFrom [z0, z1] w = jv_out 0 ((js_sq (js_sq (js_pf 0 8 0 (js_l 3 0) (js_k 0)) (js_sq (js_pf 0 8 1 (js_l 3 0) (js_k 0)) (js_sq (js_pf 0 8 2 (js_l 3 0) (js_k 0)) (js_sq (js_ex (js_cv 0 7 f_X7_open [(js_l 3 1)])) (js_bk 2 (js_sq (js_s1 1 2 (js_k 0)) (js_wh lc_X8_readFrom_1 lb_X8_readFrom_1))))))) js_r0) [(3, z0), (3, z1), (0, 0)] w) := by
  unfold f_X8_readFrom
  rw [jv_me]
  have e : js_ev [3, 3] [z0, z1] 3 = [(3, z0), (3, z1), (0, 0)] := rfl
  rw [e]
  unfold lc_X8_readFrom_1 lb_X8_readFrom_1
  rfl
def lc_X3_readFrom_1 : js_CC := (js_ca (js_cp js_lt (js_l 1 2) (js_k 600)) (js_cz js_ne (js_cv 0 7 f_X7_goesOn [(js_l 3 1)])))
def lb_X3_readFrom_1 : js_SS := (js_sq (js_if (js_cz js_ne (js_cv 0 7 f_X7_isWord [(js_l 3 1), (js_k 4)])) (js_ex (js_cv 0 3 f_X3_readSaying [(js_l 3 0), (js_l 3 1)])) (js_ex (js_cv 0 7 f_X7_blame [(js_l 3 1), (js_k 1)]))) (js_ii 2 1))
theorem fe_X3_readFrom (z0 z1 : Int) (w : js_Mm) : f_X3_readFrom [z0, z1] w = jv_out 0 ((js_sq (js_sq (js_pf 0 3 0 (js_l 3 0) (js_k 0)) (js_sq (js_ex (js_cv 0 7 f_X7_open [(js_l 3 1)])) (js_bk 2 (js_sq (js_s1 1 2 (js_k 0)) (js_wh lc_X3_readFrom_1 lb_X3_readFrom_1))))) js_r0) [(3, z0), (3, z1), (0, 0)] w) := by
  unfold f_X3_readFrom
  rw [jv_me]
  have e : js_ev [3, 3] [z0, z1] 3 = [(3, z0), (3, z1), (0, 0)] := rfl
  rw [e]
  unfold lc_X3_readFrom_1 lb_X3_readFrom_1
  rfl
theorem fe_X10_town (z0 : Int) (w : js_Mm) : f_X10_town [z0] w = jv_out 1 ((js_sq (js_ex (js_cv 0 8 f_X8_readFrom [(js_gr 0 10 2 (js_l 3 0)), (js_gr 0 10 0 (js_l 3 0))])) (js_sq (js_s1 1 1 (js_cv 0 10 f_X10_closeText [(js_l 3 0)])) (js_sq (js_if (js_cz js_ne (js_l 1 1)) (js_rv (js_2 js_sub (js_k (-10)) (js_l 1 1))) js_sk) (js_sq (js_ex (js_cv 0 8 f_X8_copyFrom [(js_gr 0 10 1 (js_l 3 0)), (js_gr 0 10 2 (js_l 3 0))])) (js_sq (js_pf 0 4 6 (js_gr 0 10 13 (js_l 3 0)) (js_k 0)) (js_sq (js_ex (js_cv 0 1 f_X1_clear [(js_gr 0 10 12 (js_l 3 0))])) (js_sq (js_ex (js_cv 0 10 f_X10_startAnew [(js_l 3 0)])) (js_rv (js_gf 0 8 0 (js_gr 0 10 1 (js_l 3 0))))))))))) [(3, z0), (0, 0)] w) := by
  unfold f_X10_town
  rw [jv_me]
  have e : js_ev [3] [z0] 2 = [(3, z0), (0, 0)] := rfl
  rw [e]
theorem fe_X10_sayings (z0 : Int) (w : js_Mm) : f_X10_sayings [z0] w = jv_out 1 ((js_sq (js_if (js_cp js_gt (js_gf 0 7 1 (js_gr 0 10 0 (js_l 3 0))) (js_k 300)) (js_rv (js_k (-1000003))) js_sk) (js_sq (js_ex (js_cv 0 3 f_X3_readFrom [(js_gr 0 10 4 (js_l 3 0)), (js_gr 0 10 0 (js_l 3 0))])) (js_sq (js_s1 1 1 (js_cv 0 10 f_X10_closeText [(js_l 3 0)])) (js_sq (js_if (js_cz js_ne (js_l 1 1)) (js_rv (js_2 js_sub (js_k (-10)) (js_l 1 1))) js_sk) (js_sq (js_ex (js_cv 0 3 f_X3_copyFrom [(js_gr 0 10 3 (js_l 3 0)), (js_gr 0 10 4 (js_l 3 0))])) (js_sq (js_ex (js_cv 0 10 f_X10_startAnew [(js_l 3 0)])) (js_rv (js_gf 0 3 0 (js_gr 0 10 3 (js_l 3 0)))))))))) [(3, z0), (0, 0)] w) := by
  unfold f_X10_sayings
  rw [jv_me]
  have e : js_ev [3] [z0] 2 = [(3, z0), (0, 0)] := rfl
  rw [e]
end
