section
set_option maxHeartbeats 8000000 in
set_option maxRecDepth 100000 in
theorem ime_X10 : ic_Me yX10_init cX10_init 2 2 100 10376 10 f0X10 (fun As => As = []) (fun _ _ => True) blkX10 := by
  refine ic_met (by decide) rfl (fun h0 As h => by obtain rfl := h; simp [lg_sl, Value.category]) ?_
  intro p l e s m args below meth c D dA h0 As ls A Q hok h hin hl hP hD hA kk
  obtain rfl := hok
  have l0 : ls[0]? = some (.val (.ref h0)) := js_hl hl List.mem_cons_self
  have hS : va_S A s.heap s.heap [] := va_S.rf
  refine ic_sup h l0 hl.1 dX10_init_0 dX10_init_1 (⟨js_mem 106 (by decide +kernel) rfl, js_mem 107 (by decide +kernel) rfl, js_mem 108 (by decide +kernel) rfl⟩) ⟨(Nat.le_of_ble_eq_true rfl), (Nat.le_of_ble_eq_true rfl)⟩ ?_
  obtain ⟨as0, e0⟩ : ∃ x : va_W, x = [] := ⟨_, rfl⟩
  have hP : va_P D vwCl ((h0, .inr (10, [.null, .null, .null, .null, .null, .null, .null, .null, .null, .null, .null, .null, .null, .null, .null, .int (Int32.ofInt 0)])) :: as0) s.heap := by rw [e0]; exact hP
  have hD : va_D A ((h0, .inr (10, [.null, .null, .null, .null, .null, .null, .null, .null, .null, .null, .null, .null, .null, .null, .null, .int (Int32.ofInt 0)])) :: as0) := by rw [e0]; exact hD
  refine lv_aload_n h.1 h.2.1 dX10_init_4 rfl l0 ?_
  refine ic_newo h icl_X7 (js_mem 109 (by decide +kernel) rfl) hP hD hS hA (Nat.le_of_ble_eq_true rfl) (Nat.le_of_ble_eq_true rfl) dX10_init_5 dX10_init_8 (fun q1 H hP hD hS => ?_)
  refine ic_callN h (As := []) (q := q1) (rest := [.ref q1, .ref h0]) ime_X7 rfl icy_X7 (h.2.2.2.2.2.2.1 (11, yX7_init) (List.mem_of_getElem? (i := 0) rfl)) rfl ⟨(Nat.le_of_ble_eq_true rfl), (Nat.le_of_ble_eq_true rfl)⟩ ⟨(Nat.le_of_ble_eq_true rfl), (Nat.le_of_ble_eq_true rfl)⟩ hl.1 (js_sm2 _ _) hP hD hS hA dX10_init_9 (fun u1 H locs hpo hP hD hS => ?_)
  refine ic_put h hin (q0 := 0) ifk_X10_12 rfl rfl hP hD hS rfl rfl dX10_init_12 (fun H locs hP hD hS => ?_)
  obtain ⟨as1, e1⟩ : ∃ x : va_W, x = as0 ++ blkX7 dA q1 [] u1 := ⟨_, rfl⟩
  have hP : va_P D vwCl ((h0, .inr (10, [.ref q1, .null, .null, .null, .null, .null, .null, .null, .null, .null, .null, .null, .null, .null, .null, .int (Int32.ofInt 0)])) :: as1) H := by rw [e1]; exact hP
  have hD : va_D A ((h0, .inr (10, [.ref q1, .null, .null, .null, .null, .null, .null, .null, .null, .null, .null, .null, .null, .null, .null, .int (Int32.ofInt 0)])) :: as1) := by rw [e1]; exact hD
  refine lv_aload_n h.1 h.2.1 dX10_init_15 rfl l0 ?_
  refine ic_newo h icl_X8 (js_mem 146 (by decide +kernel) rfl) hP hD hS hA (Nat.le_of_ble_eq_true rfl) (Nat.le_of_ble_eq_true rfl) dX10_init_16 dX10_init_19 (fun q2 H hP hD hS => ?_)
  refine ic_callN h (As := []) (q := q2) (rest := [.ref q2, .ref h0]) ime_X8 rfl icy_X8 (h.2.2.2.2.2.2.1 (18, yX8_init) (List.mem_of_getElem? (i := 1) rfl)) rfl ⟨(Nat.le_of_ble_eq_true rfl), (Nat.le_of_ble_eq_true rfl)⟩ ⟨(Nat.le_of_ble_eq_true rfl), (Nat.le_of_ble_eq_true rfl)⟩ hl.1 (js_sm2 _ _) hP hD hS hA dX10_init_20 (fun u2 H locs hpo hP hD hS => ?_)
  refine ic_put h hin (q0 := 0) ifk_X10_19 rfl rfl hP hD hS rfl rfl dX10_init_23 (fun H locs hP hD hS => ?_)
  obtain ⟨as2, e2⟩ : ∃ x : va_W, x = as1 ++ blkX8 dA q2 [] u2 := ⟨_, rfl⟩
  have hP : va_P D vwCl ((h0, .inr (10, [.ref q1, .ref q2, .null, .null, .null, .null, .null, .null, .null, .null, .null, .null, .null, .null, .null, .int (Int32.ofInt 0)])) :: as2) H := by rw [e2]; exact hP
  have hD : va_D A ((h0, .inr (10, [.ref q1, .ref q2, .null, .null, .null, .null, .null, .null, .null, .null, .null, .null, .null, .null, .null, .int (Int32.ofInt 0)])) :: as2) := by rw [e2]; exact hD
  refine lv_aload_n h.1 h.2.1 dX10_init_26 rfl l0 ?_
  refine ic_newo h icl_X8 (js_mem 146 (by decide +kernel) rfl) hP hD hS hA (Nat.le_of_ble_eq_true rfl) (Nat.le_of_ble_eq_true rfl) dX10_init_27 dX10_init_30 (fun q3 H hP hD hS => ?_)
  refine ic_callN h (As := []) (q := q3) (rest := [.ref q3, .ref h0]) ime_X8 rfl icy_X8 (h.2.2.2.2.2.2.1 (18, yX8_init) (List.mem_of_getElem? (i := 1) rfl)) rfl ⟨(Nat.le_of_ble_eq_true rfl), (Nat.le_of_ble_eq_true rfl)⟩ ⟨(Nat.le_of_ble_eq_true rfl), (Nat.le_of_ble_eq_true rfl)⟩ hl.1 (js_sm2 _ _) hP hD hS hA dX10_init_31 (fun u3 H locs hpo hP hD hS => ?_)
  refine ic_put h hin (q0 := 0) ifk_X10_23 rfl rfl hP hD hS rfl rfl dX10_init_34 (fun H locs hP hD hS => ?_)
  obtain ⟨as3, e3⟩ : ∃ x : va_W, x = as2 ++ blkX8 dA q3 [] u3 := ⟨_, rfl⟩
  have hP : va_P D vwCl ((h0, .inr (10, [.ref q1, .ref q2, .ref q3, .null, .null, .null, .null, .null, .null, .null, .null, .null, .null, .null, .null, .int (Int32.ofInt 0)])) :: as3) H := by rw [e3]; exact hP
  have hD : va_D A ((h0, .inr (10, [.ref q1, .ref q2, .ref q3, .null, .null, .null, .null, .null, .null, .null, .null, .null, .null, .null, .null, .int (Int32.ofInt 0)])) :: as3) := by rw [e3]; exact hD
  refine lv_aload_n h.1 h.2.1 dX10_init_37 rfl l0 ?_
  refine ic_newo h icl_X3 (js_mem 196 (by decide +kernel) rfl) hP hD hS hA (Nat.le_of_ble_eq_true rfl) (Nat.le_of_ble_eq_true rfl) dX10_init_38 dX10_init_41 (fun q4 H hP hD hS => ?_)
  refine ic_callN h (As := []) (q := q4) (rest := [.ref q4, .ref h0]) ime_X3 rfl icy_X3 (h.2.2.2.2.2.2.1 (28, yX3_init) (List.mem_of_getElem? (i := 2) rfl)) rfl ⟨(Nat.le_of_ble_eq_true rfl), (Nat.le_of_ble_eq_true rfl)⟩ ⟨(Nat.le_of_ble_eq_true rfl), (Nat.le_of_ble_eq_true rfl)⟩ hl.1 (js_sm2 _ _) hP hD hS hA dX10_init_42 (fun u4 H locs hpo hP hD hS => ?_)
  refine ic_put h hin (q0 := 0) ifk_X10_29 rfl rfl hP hD hS rfl rfl dX10_init_45 (fun H locs hP hD hS => ?_)
  obtain ⟨as4, e4⟩ : ∃ x : va_W, x = as3 ++ blkX3 dA q4 [] u4 := ⟨_, rfl⟩
  have hP : va_P D vwCl ((h0, .inr (10, [.ref q1, .ref q2, .ref q3, .ref q4, .null, .null, .null, .null, .null, .null, .null, .null, .null, .null, .null, .int (Int32.ofInt 0)])) :: as4) H := by rw [e4]; exact hP
  have hD : va_D A ((h0, .inr (10, [.ref q1, .ref q2, .ref q3, .ref q4, .null, .null, .null, .null, .null, .null, .null, .null, .null, .null, .null, .int (Int32.ofInt 0)])) :: as4) := by rw [e4]; exact hD
  refine lv_aload_n h.1 h.2.1 dX10_init_48 rfl l0 ?_
  refine ic_newo h icl_X3 (js_mem 196 (by decide +kernel) rfl) hP hD hS hA (Nat.le_of_ble_eq_true rfl) (Nat.le_of_ble_eq_true rfl) dX10_init_49 dX10_init_52 (fun q5 H hP hD hS => ?_)
  refine ic_callN h (As := []) (q := q5) (rest := [.ref q5, .ref h0]) ime_X3 rfl icy_X3 (h.2.2.2.2.2.2.1 (28, yX3_init) (List.mem_of_getElem? (i := 2) rfl)) rfl ⟨(Nat.le_of_ble_eq_true rfl), (Nat.le_of_ble_eq_true rfl)⟩ ⟨(Nat.le_of_ble_eq_true rfl), (Nat.le_of_ble_eq_true rfl)⟩ hl.1 (js_sm2 _ _) hP hD hS hA dX10_init_53 (fun u5 H locs hpo hP hD hS => ?_)
  refine ic_put h hin (q0 := 0) ifk_X10_33 rfl rfl hP hD hS rfl rfl dX10_init_56 (fun H locs hP hD hS => ?_)
  obtain ⟨as5, e5⟩ : ∃ x : va_W, x = as4 ++ blkX3 dA q5 [] u5 := ⟨_, rfl⟩
  have hP : va_P D vwCl ((h0, .inr (10, [.ref q1, .ref q2, .ref q3, .ref q4, .ref q5, .null, .null, .null, .null, .null, .null, .null, .null, .null, .null, .int (Int32.ofInt 0)])) :: as5) H := by rw [e5]; exact hP
  have hD : va_D A ((h0, .inr (10, [.ref q1, .ref q2, .ref q3, .ref q4, .ref q5, .null, .null, .null, .null, .null, .null, .null, .null, .null, .null, .int (Int32.ofInt 0)])) :: as5) := by rw [e5]; exact hD
  refine lv_aload_n h.1 h.2.1 dX10_init_59 rfl l0 ?_
  refine ic_newo h icl_X5 (js_mem 227 (by decide +kernel) rfl) hP hD hS hA (Nat.le_of_ble_eq_true rfl) (Nat.le_of_ble_eq_true rfl) dX10_init_60 dX10_init_63 (fun q6 H hP hD hS => ?_)
  refine ic_callN h (As := []) (q := q6) (rest := [.ref q6, .ref h0]) ime_X5 rfl icy_X5 (h.2.2.2.2.2.2.1 (38, yX5_init) (List.mem_of_getElem? (i := 3) rfl)) rfl ⟨(Nat.le_of_ble_eq_true rfl), (Nat.le_of_ble_eq_true rfl)⟩ ⟨(Nat.le_of_ble_eq_true rfl), (Nat.le_of_ble_eq_true rfl)⟩ hl.1 (js_sm2 _ _) hP hD hS hA dX10_init_64 (fun u6 H locs hpo hP hD hS => ?_)
  refine ic_put h hin (q0 := 0) ifk_X10_39 rfl rfl hP hD hS rfl rfl dX10_init_67 (fun H locs hP hD hS => ?_)
  obtain ⟨as6, e6⟩ : ∃ x : va_W, x = as5 ++ blkX5 dA q6 [] u6 := ⟨_, rfl⟩
  have hP : va_P D vwCl ((h0, .inr (10, [.ref q1, .ref q2, .ref q3, .ref q4, .ref q5, .ref q6, .null, .null, .null, .null, .null, .null, .null, .null, .null, .int (Int32.ofInt 0)])) :: as6) H := by rw [e6]; exact hP
  have hD : va_D A ((h0, .inr (10, [.ref q1, .ref q2, .ref q3, .ref q4, .ref q5, .ref q6, .null, .null, .null, .null, .null, .null, .null, .null, .null, .int (Int32.ofInt 0)])) :: as6) := by rw [e6]; exact hD
  refine lv_aload_n h.1 h.2.1 dX10_init_70 rfl l0 ?_
  refine ic_newo h icl_X6 (js_mem 244 (by decide +kernel) rfl) hP hD hS hA (Nat.le_of_ble_eq_true rfl) (Nat.le_of_ble_eq_true rfl) dX10_init_71 dX10_init_74 (fun q7 H hP hD hS => ?_)
  refine lv_aload_n h.1 h.2.1 dX10_init_75 rfl l0 ?_
  refine va_get (ci := 10) (C := RX10) (T := TX10) (N := 16) h.1 h.2.1 h.2.2.2.2.1 js_ucl10 h.2.2.2.1 h.2.2.2.2.2.1 hP 0 rfl rfl 1 (by decide) (h.2.2.2.2.1 _ (js_mem 429 (by decide +kernel) rfl)) (fun _ h9 => h9) rfl dX10_init_76 ?_
  refine lv_aload_n h.1 h.2.1 dX10_init_79 rfl l0 ?_
  refine va_get (ci := 10) (C := RX10) (T := TX10) (N := 16) h.1 h.2.1 h.2.2.2.2.1 js_ucl10 h.2.2.2.1 h.2.2.2.2.2.1 hP 0 rfl rfl 3 (by decide) (h.2.2.2.2.1 _ (js_mem 431 (by decide +kernel) rfl)) (fun _ h9 => h9) rfl dX10_init_80 ?_
  refine lv_aload_n h.1 h.2.1 dX10_init_83 rfl l0 ?_
  refine va_get (ci := 10) (C := RX10) (T := TX10) (N := 16) h.1 h.2.1 h.2.2.2.2.1 js_ucl10 h.2.2.2.1 h.2.2.2.2.2.1 hP 0 rfl rfl 5 (by decide) (h.2.2.2.2.1 _ (js_mem 433 (by decide +kernel) rfl)) (fun _ h9 => h9) rfl dX10_init_84 ?_
  refine ic_call h (As := [.ref q2, .ref q4, .ref q6]) (q := q7) (rest := [.ref q7, .ref h0]) ime_X6 ⟨q2, q4, q6, rfl⟩ icy_X6 (js_mem 246 (by decide +kernel) rfl) rfl ⟨(Nat.le_of_ble_eq_true rfl), (Nat.le_of_ble_eq_true rfl)⟩ ⟨(Nat.le_of_ble_eq_true rfl), (Nat.le_of_ble_eq_true rfl)⟩ hl.1 (js_sm2 _ _) hP hD hS hA dX10_init_87 (fun u7 H locs hpo hP hD hS => ?_)
  refine ic_put h hin (q0 := 0) ifk_X10_48 rfl rfl hP hD hS rfl rfl dX10_init_90 (fun H locs hP hD hS => ?_)
  obtain ⟨as7, e7⟩ : ∃ x : va_W, x = as6 ++ blkX6 dA q7 [.ref q2, .ref q4, .ref q6] u7 := ⟨_, rfl⟩
  have hP : va_P D vwCl ((h0, .inr (10, [.ref q1, .ref q2, .ref q3, .ref q4, .ref q5, .ref q6, .ref q7, .null, .null, .null, .null, .null, .null, .null, .null, .int (Int32.ofInt 0)])) :: as7) H := by rw [e7]; exact hP
  have hD : va_D A ((h0, .inr (10, [.ref q1, .ref q2, .ref q3, .ref q4, .ref q5, .ref q6, .ref q7, .null, .null, .null, .null, .null, .null, .null, .null, .int (Int32.ofInt 0)])) :: as7) := by rw [e7]; exact hD
  refine lv_aload_n h.1 h.2.1 dX10_init_93 rfl l0 ?_
  refine ic_newo h icl_X0 (js_mem 260 (by decide +kernel) rfl) hP hD hS hA (Nat.le_of_ble_eq_true rfl) (Nat.le_of_ble_eq_true rfl) dX10_init_94 dX10_init_97 (fun q8 H hP hD hS => ?_)
  refine ic_callN h (As := []) (q := q8) (rest := [.ref q8, .ref h0]) ime_X0 rfl icy_X0 (h.2.2.2.2.2.2.1 (54, yX0_init) (List.mem_of_getElem? (i := 4) rfl)) rfl ⟨(Nat.le_of_ble_eq_true rfl), (Nat.le_of_ble_eq_true rfl)⟩ ⟨(Nat.le_of_ble_eq_true rfl), (Nat.le_of_ble_eq_true rfl)⟩ hl.1 (js_sm2 _ _) hP hD hS hA dX10_init_98 (fun u8 H locs hpo hP hD hS => ?_)
  refine ic_put h hin (q0 := 0) ifk_X10_55 rfl rfl hP hD hS rfl rfl dX10_init_101 (fun H locs hP hD hS => ?_)
  obtain ⟨as8, e8⟩ : ∃ x : va_W, x = as7 ++ blkX0 dA q8 [] u8 := ⟨_, rfl⟩
  have hP : va_P D vwCl ((h0, .inr (10, [.ref q1, .ref q2, .ref q3, .ref q4, .ref q5, .ref q6, .ref q7, .ref q8, .null, .null, .null, .null, .null, .null, .null, .int (Int32.ofInt 0)])) :: as8) H := by rw [e8]; exact hP
  have hD : va_D A ((h0, .inr (10, [.ref q1, .ref q2, .ref q3, .ref q4, .ref q5, .ref q6, .ref q7, .ref q8, .null, .null, .null, .null, .null, .null, .null, .int (Int32.ofInt 0)])) :: as8) := by rw [e8]; exact hD
  refine lv_aload_n h.1 h.2.1 dX10_init_104 rfl l0 ?_
  refine ic_newo h icl_X0 (js_mem 260 (by decide +kernel) rfl) hP hD hS hA (Nat.le_of_ble_eq_true rfl) (Nat.le_of_ble_eq_true rfl) dX10_init_105 dX10_init_108 (fun q9 H hP hD hS => ?_)
  refine ic_callN h (As := []) (q := q9) (rest := [.ref q9, .ref h0]) ime_X0 rfl icy_X0 (h.2.2.2.2.2.2.1 (54, yX0_init) (List.mem_of_getElem? (i := 4) rfl)) rfl ⟨(Nat.le_of_ble_eq_true rfl), (Nat.le_of_ble_eq_true rfl)⟩ ⟨(Nat.le_of_ble_eq_true rfl), (Nat.le_of_ble_eq_true rfl)⟩ hl.1 (js_sm2 _ _) hP hD hS hA dX10_init_109 (fun u9 H locs hpo hP hD hS => ?_)
  refine ic_put h hin (q0 := 0) ifk_X10_59 rfl rfl hP hD hS rfl rfl dX10_init_112 (fun H locs hP hD hS => ?_)
  obtain ⟨as9, e9⟩ : ∃ x : va_W, x = as8 ++ blkX0 dA q9 [] u9 := ⟨_, rfl⟩
  have hP : va_P D vwCl ((h0, .inr (10, [.ref q1, .ref q2, .ref q3, .ref q4, .ref q5, .ref q6, .ref q7, .ref q8, .ref q9, .null, .null, .null, .null, .null, .null, .int (Int32.ofInt 0)])) :: as9) H := by rw [e9]; exact hP
  have hD : va_D A ((h0, .inr (10, [.ref q1, .ref q2, .ref q3, .ref q4, .ref q5, .ref q6, .ref q7, .ref q8, .ref q9, .null, .null, .null, .null, .null, .null, .int (Int32.ofInt 0)])) :: as9) := by rw [e9]; exact hD
  refine lv_aload_n h.1 h.2.1 dX10_init_115 rfl l0 ?_
  refine ic_newo h icl_X0 (js_mem 260 (by decide +kernel) rfl) hP hD hS hA (Nat.le_of_ble_eq_true rfl) (Nat.le_of_ble_eq_true rfl) dX10_init_116 dX10_init_119 (fun q10 H hP hD hS => ?_)
  refine ic_callN h (As := []) (q := q10) (rest := [.ref q10, .ref h0]) ime_X0 rfl icy_X0 (h.2.2.2.2.2.2.1 (54, yX0_init) (List.mem_of_getElem? (i := 4) rfl)) rfl ⟨(Nat.le_of_ble_eq_true rfl), (Nat.le_of_ble_eq_true rfl)⟩ ⟨(Nat.le_of_ble_eq_true rfl), (Nat.le_of_ble_eq_true rfl)⟩ hl.1 (js_sm2 _ _) hP hD hS hA dX10_init_120 (fun u10 H locs hpo hP hD hS => ?_)
  refine ic_put h hin (q0 := 0) ifk_X10_62 rfl rfl hP hD hS rfl rfl dX10_init_123 (fun H locs hP hD hS => ?_)
  obtain ⟨as10, e10⟩ : ∃ x : va_W, x = as9 ++ blkX0 dA q10 [] u10 := ⟨_, rfl⟩
  have hP : va_P D vwCl ((h0, .inr (10, [.ref q1, .ref q2, .ref q3, .ref q4, .ref q5, .ref q6, .ref q7, .ref q8, .ref q9, .ref q10, .null, .null, .null, .null, .null, .int (Int32.ofInt 0)])) :: as10) H := by rw [e10]; exact hP
  have hD : va_D A ((h0, .inr (10, [.ref q1, .ref q2, .ref q3, .ref q4, .ref q5, .ref q6, .ref q7, .ref q8, .ref q9, .ref q10, .null, .null, .null, .null, .null, .int (Int32.ofInt 0)])) :: as10) := by rw [e10]; exact hD
  refine lv_aload_n h.1 h.2.1 dX10_init_126 rfl l0 ?_
  refine lv_iconst h.1 h.2.1 dX10_init_127 (v := Int32.ofInt 2) rfl ?_
  refine ic_newq h (js_mem 260 (by decide +kernel) rfl) (N := 2) hP hD hS hA (by decide) (by decide) rfl (Nat.le_of_ble_eq_true rfl) (Nat.le_of_ble_eq_true rfl) dX10_init_128 (fun qI H hP hD hS => ?_)
  refine ic_put h hin (q0 := 0) ifk_X10_65 rfl rfl hP hD hS rfl rfl dX10_init_131 (fun H locs hP hD hS => ?_)
  have hP : va_P D vwCl ((h0, .inr (10, [.ref q1, .ref q2, .ref q3, .ref q4, .ref q5, .ref q6, .ref q7, .ref q8, .ref q9, .ref q10, .ref qI, .null, .null, .null, .null, .int (Int32.ofInt 0)])) :: (as10 ++ [(qI, .inl (dA 4, 2, .inr (.inr (.inr (.inr (fun _ => none))))))])) H := hP
  have hD : va_D A ((h0, .inr (10, [.ref q1, .ref q2, .ref q3, .ref q4, .ref q5, .ref q6, .ref q7, .ref q8, .ref q9, .ref q10, .ref qI, .null, .null, .null, .null, .int (Int32.ofInt 0)])) :: (as10 ++ [(qI, .inl (dA 4, 2, .inr (.inr (.inr (.inr (fun _ => none))))))])) := hD
  refine lv_iconst (v := nI 0) h.1 h.2.1 dX10_init_134 (by decide) ?_
  refine lv_istore_n (lv' := [(1, .int (nI 0)), (0, .ref h0)]) h.1 h.2.1 dX10_init_135 rfl hl (by decide) rfl (fun ls hl => ?_)
  have l0 : ls[0]? = some (.val (.ref h0)) := lv_at hl 1 rfl
  refine lv_iload_n h.1 h.2.1 dX10_init_136 rfl (lv_at hl 0 rfl) ?_
  refine lv_iconst (v := nI 2) h.1 h.2.1 dX10_init_137 (by decide) ?_
  refine lv_icmp_ge (tgt := 160) h.1 h.2.1 dX10_init_138 (by decide) (fun cc1 => absurd cc1 (by decide)) (fun _ => ?_)
  refine lv_aload_n h.1 h.2.1 dX10_init_141 rfl l0 ?_
  refine va_get (ci := 10) (C := RX10) (T := TX10) (N := 16) h.1 h.2.1 h.2.2.2.2.1 js_ucl10 h.2.2.2.1 h.2.2.2.2.2.1 hP 0 rfl rfl 10 (by decide) (h.2.2.2.2.1 _ (js_mem 438 (by decide +kernel) rfl)) (fun _ h9 => h9) rfl dX10_init_142 ?_
  refine lv_iload_n h.1 h.2.1 dX10_init_145 rfl (lv_at hl 0 rfl) ?_
  refine ic_newo h icl_X0 (js_mem 260 (by decide +kernel) rfl) hP hD hS hA (Nat.le_of_ble_eq_true rfl) (Nat.le_of_ble_eq_true rfl) dX10_init_146 dX10_init_149 (fun q11 H hP hD hS => ?_)
  refine ic_callN h (As := []) (q := q11) (rest := [.ref q11, .int (nI 0), .ref qI]) ime_X0 rfl icy_X0 (h.2.2.2.2.2.2.1 (54, yX0_init) (List.mem_of_getElem? (i := 4) rfl)) rfl ⟨(Nat.le_of_ble_eq_true rfl), (Nat.le_of_ble_eq_true rfl)⟩ ⟨(Nat.le_of_ble_eq_true rfl), (Nat.le_of_ble_eq_true rfl)⟩ hl.1 (js_sm3 _ _ _) hP hD hS hA dX10_init_150 (fun u11 H locs hpo hP hD hS => ?_)
  rw [ic_sh1] at hP hD
  refine ic_ast h (i := nI 0) (n := 2) (f := fun _ => none) (w2 := blkX0 dA q11 [] u11) hP hD hS List.mem_cons_self (vp_in_nI (by decide) (by decide)) dX10_init_153 (fun H locs hP hD hS => ?_)
  refine lv_iinc (v := nI 1) (lv' := [(1, .int (nI 1)), (0, .ref h0)]) h.1 h.2.1 dX10_init_154 hl (k := 0) rfl (by decide) (by decide) rfl (fun ls hl => ?_)
  refine lv_goto (tgt := 136) h.1 h.2.1 dX10_init_157 (by decide) ?_
  have l0 : ls[0]? = some (.val (.ref h0)) := lv_at hl 1 rfl
  refine lv_iload_n h.1 h.2.1 dX10_init_136 rfl (lv_at hl 0 rfl) ?_
  refine lv_iconst (v := nI 2) h.1 h.2.1 dX10_init_137 (by decide) ?_
  refine lv_icmp_ge (tgt := 160) h.1 h.2.1 dX10_init_138 (by decide) (fun cc1 => absurd cc1 (by decide)) (fun _ => ?_)
  refine lv_aload_n h.1 h.2.1 dX10_init_141 rfl l0 ?_
  refine va_get (ci := 10) (C := RX10) (T := TX10) (N := 16) h.1 h.2.1 h.2.2.2.2.1 js_ucl10 h.2.2.2.1 h.2.2.2.2.2.1 hP 0 rfl rfl 10 (by decide) (h.2.2.2.2.1 _ (js_mem 438 (by decide +kernel) rfl)) (fun _ h9 => h9) rfl dX10_init_142 ?_
  refine lv_iload_n h.1 h.2.1 dX10_init_145 rfl (lv_at hl 0 rfl) ?_
  refine ic_newo h icl_X0 (js_mem 260 (by decide +kernel) rfl) hP hD hS hA (Nat.le_of_ble_eq_true rfl) (Nat.le_of_ble_eq_true rfl) dX10_init_146 dX10_init_149 (fun q12 H hP hD hS => ?_)
  refine ic_callN h (As := []) (q := q12) (rest := [.ref q12, .int (nI 1), .ref qI]) ime_X0 rfl icy_X0 (h.2.2.2.2.2.2.1 (54, yX0_init) (List.mem_of_getElem? (i := 4) rfl)) rfl ⟨(Nat.le_of_ble_eq_true rfl), (Nat.le_of_ble_eq_true rfl)⟩ ⟨(Nat.le_of_ble_eq_true rfl), (Nat.le_of_ble_eq_true rfl)⟩ hl.1 (js_sm3 _ _ _) hP hD hS hA dX10_init_150 (fun u12 H locs hpo hP hD hS => ?_)
  rw [ic_sh2] at hP hD
  refine ic_ast h (i := nI 1) (n := 2) (f := va_up (fun _ => none) (nI 0).toNatClampNeg (some q11)) (w2 := blkX0 dA q11 [] u11 ++ blkX0 dA q12 [] u12) hP hD hS (List.mem_append_right _ List.mem_cons_self) (vp_in_nI (by decide) (by decide)) dX10_init_153 (fun H locs hP hD hS => ?_)
  refine lv_iinc (v := nI 2) (lv' := [(1, .int (nI 2)), (0, .ref h0)]) h.1 h.2.1 dX10_init_154 hl (k := 0) rfl (by decide) (by decide) rfl (fun ls hl => ?_)
  refine lv_goto (tgt := 136) h.1 h.2.1 dX10_init_157 (by decide) ?_
  have l0 : ls[0]? = some (.val (.ref h0)) := lv_at hl 1 rfl
  refine lv_iload_n h.1 h.2.1 dX10_init_136 rfl (lv_at hl 0 rfl) ?_
  refine lv_iconst (v := nI 2) h.1 h.2.1 dX10_init_137 (by decide) ?_
  refine lv_icmp_ge (tgt := 160) h.1 h.2.1 dX10_init_138 (by decide) (fun _ => ?_) (fun cc1 => absurd (by decide) cc1)
  have hP := ic_cg (g := fun j => some (if j = 0 then q11 else if j = 1 then q12 else h0)) (fun j hj => by rcases (show j = 0 ∨ j = 1 by omega) with rfl | rfl <;> rfl) hP
  have hD := ic_cgD (x := (qI, .inl (dA 4, 2, .inr (.inr (.inr (.inr (va_up (va_up (fun _ => none) (nI 0).toNatClampNeg (some q11)) (nI 1).toNatClampNeg (some q12)))))))) (y := (qI, .inl (dA 4, 2, .inr (.inr (.inr (.inr (fun j => some (if j = 0 then q11 else if j = 1 then q12 else h0)))))))) rfl hD
  obtain ⟨as11, e11⟩ : ∃ x : va_W, x = as10 ++ (qI, .inl (dA 4, 2, .inr (.inr (.inr (.inr (fun j => some (if j = 0 then q11 else if j = 1 then q12 else h0))))))) :: (blkX0 dA q11 [] u11 ++ blkX0 dA q12 [] u12) := ⟨_, rfl⟩
  have hP : va_P D vwCl ((h0, .inr (10, [.ref q1, .ref q2, .ref q3, .ref q4, .ref q5, .ref q6, .ref q7, .ref q8, .ref q9, .ref q10, .ref qI, .null, .null, .null, .null, .int (Int32.ofInt 0)])) :: as11) H := by rw [e11]; exact hP
  have hD : va_D A ((h0, .inr (10, [.ref q1, .ref q2, .ref q3, .ref q4, .ref q5, .ref q6, .ref q7, .ref q8, .ref q9, .ref q10, .ref qI, .null, .null, .null, .null, .int (Int32.ofInt 0)])) :: as11) := by rw [e11]; exact hD
  refine lv_aload_n h.1 h.2.1 dX10_init_160 rfl l0 ?_
  refine ic_newo h icl_X9 (js_mem 329 (by decide +kernel) rfl) hP hD hS hA (Nat.le_of_ble_eq_true rfl) (Nat.le_of_ble_eq_true rfl) dX10_init_161 dX10_init_164 (fun q13 H hP hD hS => ?_)
  refine lv_aload_n h.1 h.2.1 dX10_init_165 rfl l0 ?_
  refine va_get (ci := 10) (C := RX10) (T := TX10) (N := 16) h.1 h.2.1 h.2.2.2.2.1 js_ucl10 h.2.2.2.1 h.2.2.2.2.2.1 hP 0 rfl rfl 7 (by decide) (h.2.2.2.2.1 _ (js_mem 435 (by decide +kernel) rfl)) (fun _ h9 => h9) rfl dX10_init_166 ?_
  refine ic_call h (As := [.ref q8]) (q := q13) (rest := [.ref q13, .ref h0]) ime_X9 ⟨q8, rfl⟩ icy_X9 (js_mem 331 (by decide +kernel) rfl) rfl ⟨(Nat.le_of_ble_eq_true rfl), (Nat.le_of_ble_eq_true rfl)⟩ ⟨(Nat.le_of_ble_eq_true rfl), (Nat.le_of_ble_eq_true rfl)⟩ hl.1 (js_sm2 _ _) hP hD hS hA dX10_init_169 (fun u13 H locs hpo hP hD hS => ?_)
  refine ic_put h hin (q0 := 0) ifk_X10_74 rfl rfl hP hD hS rfl rfl dX10_init_172 (fun H locs hP hD hS => ?_)
  obtain ⟨as12, e12⟩ : ∃ x : va_W, x = as11 ++ blkX9 dA q13 [.ref q8] u13 := ⟨_, rfl⟩
  have hP : va_P D vwCl ((h0, .inr (10, [.ref q1, .ref q2, .ref q3, .ref q4, .ref q5, .ref q6, .ref q7, .ref q8, .ref q9, .ref q10, .ref qI, .ref q13, .null, .null, .null, .int (Int32.ofInt 0)])) :: as12) H := by rw [e12]; exact hP
  have hD : va_D A ((h0, .inr (10, [.ref q1, .ref q2, .ref q3, .ref q4, .ref q5, .ref q6, .ref q7, .ref q8, .ref q9, .ref q10, .ref qI, .ref q13, .null, .null, .null, .int (Int32.ofInt 0)])) :: as12) := by rw [e12]; exact hD
  refine lv_aload_n h.1 h.2.1 dX10_init_175 rfl l0 ?_
  refine ic_newo h icl_X1 (js_mem 347 (by decide +kernel) rfl) hP hD hS hA (Nat.le_of_ble_eq_true rfl) (Nat.le_of_ble_eq_true rfl) dX10_init_176 dX10_init_179 (fun q14 H hP hD hS => ?_)
  refine ic_callN h (As := []) (q := q14) (rest := [.ref q14, .ref h0]) ime_X1 rfl icy_X1 (h.2.2.2.2.2.2.1 (80, yX1_init) (List.mem_of_getElem? (i := 5) rfl)) rfl ⟨(Nat.le_of_ble_eq_true rfl), (Nat.le_of_ble_eq_true rfl)⟩ ⟨(Nat.le_of_ble_eq_true rfl), (Nat.le_of_ble_eq_true rfl)⟩ hl.1 (js_sm2 _ _) hP hD hS hA dX10_init_180 (fun u14 H locs hpo hP hD hS => ?_)
  refine ic_put h hin (q0 := 0) ifk_X10_81 rfl rfl hP hD hS rfl rfl dX10_init_183 (fun H locs hP hD hS => ?_)
  obtain ⟨as13, e13⟩ : ∃ x : va_W, x = as12 ++ blkX1 dA q14 [] u14 := ⟨_, rfl⟩
  have hP : va_P D vwCl ((h0, .inr (10, [.ref q1, .ref q2, .ref q3, .ref q4, .ref q5, .ref q6, .ref q7, .ref q8, .ref q9, .ref q10, .ref qI, .ref q13, .ref q14, .null, .null, .int (Int32.ofInt 0)])) :: as13) H := by rw [e13]; exact hP
  have hD : va_D A ((h0, .inr (10, [.ref q1, .ref q2, .ref q3, .ref q4, .ref q5, .ref q6, .ref q7, .ref q8, .ref q9, .ref q10, .ref qI, .ref q13, .ref q14, .null, .null, .int (Int32.ofInt 0)])) :: as13) := by rw [e13]; exact hD
  refine lv_aload_n h.1 h.2.1 dX10_init_186 rfl l0 ?_
  refine ic_newo h icl_X4 (js_mem 363 (by decide +kernel) rfl) hP hD hS hA (Nat.le_of_ble_eq_true rfl) (Nat.le_of_ble_eq_true rfl) dX10_init_187 dX10_init_190 (fun q15 H hP hD hS => ?_)
  refine lv_aload_n h.1 h.2.1 dX10_init_191 rfl l0 ?_
  refine va_get (ci := 10) (C := RX10) (T := TX10) (N := 16) h.1 h.2.1 h.2.2.2.2.1 js_ucl10 h.2.2.2.1 h.2.2.2.2.2.1 hP 0 rfl rfl 1 (by decide) (h.2.2.2.2.1 _ (js_mem 429 (by decide +kernel) rfl)) (fun _ h9 => h9) rfl dX10_init_192 ?_
  refine ic_call h (As := [.ref q2]) (q := q15) (rest := [.ref q15, .ref h0]) ime_X4 ⟨q2, rfl⟩ icy_X4 (js_mem 365 (by decide +kernel) rfl) rfl ⟨(Nat.le_of_ble_eq_true rfl), (Nat.le_of_ble_eq_true rfl)⟩ ⟨(Nat.le_of_ble_eq_true rfl), (Nat.le_of_ble_eq_true rfl)⟩ hl.1 (js_sm2 _ _) hP hD hS hA dX10_init_195 (fun u15 H locs hpo hP hD hS => ?_)
  refine ic_put h hin (q0 := 0) ifk_X10_90 rfl rfl hP hD hS rfl rfl dX10_init_198 (fun H locs hP hD hS => ?_)
  obtain ⟨as14, e14⟩ : ∃ x : va_W, x = as13 ++ blkX4 dA q15 [.ref q2] u15 := ⟨_, rfl⟩
  have hP : va_P D vwCl ((h0, .inr (10, [.ref q1, .ref q2, .ref q3, .ref q4, .ref q5, .ref q6, .ref q7, .ref q8, .ref q9, .ref q10, .ref qI, .ref q13, .ref q14, .ref q15, .null, .int (Int32.ofInt 0)])) :: as14) H := by rw [e14]; exact hP
  have hD : va_D A ((h0, .inr (10, [.ref q1, .ref q2, .ref q3, .ref q4, .ref q5, .ref q6, .ref q7, .ref q8, .ref q9, .ref q10, .ref qI, .ref q13, .ref q14, .ref q15, .null, .int (Int32.ofInt 0)])) :: as14) := by rw [e14]; exact hD
  refine lv_aload_n h.1 h.2.1 dX10_init_201 rfl l0 ?_
  refine ic_newo h icl_X2 (js_mem 393 (by decide +kernel) rfl) hP hD hS hA (Nat.le_of_ble_eq_true rfl) (Nat.le_of_ble_eq_true rfl) dX10_init_202 dX10_init_205 (fun q16 H hP hD hS => ?_)
  refine ic_call h (As := []) (q := q16) (rest := [.ref q16, .ref h0]) ime_X2 rfl icy_X2 (js_mem 395 (by decide +kernel) rfl) rfl ⟨(Nat.le_of_ble_eq_true rfl), (Nat.le_of_ble_eq_true rfl)⟩ ⟨(Nat.le_of_ble_eq_true rfl), (Nat.le_of_ble_eq_true rfl)⟩ hl.1 (js_sm2 _ _) hP hD hS hA dX10_init_206 (fun u16 H locs hpo hP hD hS => ?_)
  refine ic_put h hin (q0 := 0) ifk_X10_97 rfl rfl hP hD hS rfl rfl dX10_init_209 (fun H locs hP hD hS => ?_)
  obtain ⟨as15, e15⟩ : ∃ x : va_W, x = as14 ++ blkX2 dA q16 [] u16 := ⟨_, rfl⟩
  have hP : va_P D vwCl ((h0, .inr (10, [.ref q1, .ref q2, .ref q3, .ref q4, .ref q5, .ref q6, .ref q7, .ref q8, .ref q9, .ref q10, .ref qI, .ref q13, .ref q14, .ref q15, .ref q16, .int (Int32.ofInt 0)])) :: as15) H := by rw [e15]; exact hP
  have hD : va_D A ((h0, .inr (10, [.ref q1, .ref q2, .ref q3, .ref q4, .ref q5, .ref q6, .ref q7, .ref q8, .ref q9, .ref q10, .ref qI, .ref q13, .ref q14, .ref q15, .ref q16, .int (Int32.ofInt 0)])) :: as15) := by rw [e15]; exact hD
  refine ic_set h hin l0 dX10_init_212 (fun _ _ _ k => lv_iconst h.1 h.2.1 dX10_init_213 (v := Int32.ofInt (-1)) rfl k) dX10_init_214 ifk_X10_101 rfl rfl rfl hP hD hS (fun H locs hP hD hS => ?_)
  have hP : va_P D vwCl ((h0, .inr (10, [.ref q1, .ref q2, .ref q3, .ref q4, .ref q5, .ref q6, .ref q7, .ref q8, .ref q9, .ref q10, .ref qI, .ref q13, .ref q14, .ref q15, .ref q16, .int (Int32.ofInt (-1))])) :: as15) H := hP
  have hD : va_D A ((h0, .inr (10, [.ref q1, .ref q2, .ref q3, .ref q4, .ref q5, .ref q6, .ref q7, .ref q8, .ref q9, .ref q10, .ref qI, .ref q13, .ref q14, .ref q15, .ref q16, .int (Int32.ofInt (-1))])) :: as15) := hD
  refine W.widen (k := 100) (n := 10376) (Nat.le_of_ble_eq_true rfl) (Nat.le_of_ble_eq_true rfl) ?_
  have ew : ((h0, .inr (10, [.ref q1, .ref q2, .ref q3, .ref q4, .ref q5, .ref q6, .ref q7, .ref q8, .ref q9, .ref q10, .ref qI, .ref q13, .ref q14, .ref q15, .ref q16, .int (Int32.ofInt (-1))])) :: as15) = js_ws 0 (ad10 h0 (fun k => [h0, q1, u1 0, q2, u2 0, u2 1, u2 2, u2 3, u2 4, u2 5, q3, u3 0, u3 1, u3 2, u3 3, u3 4, u3 5, q4, u4 0, u4 1, u4 2, u4 3, u4 4, q5, u5 0, u5 1, u5 2, u5 3, u5 4, q6, q7, q8, u8 0, u8 1, u8 2, u8 3, u8 4, u8 5, u8 6, u8 7, u8 8, u8 9, q9, u9 0, u9 1, u9 2, u9 3, u9 4, u9 5, u9 6, u9 7, u9 8, u9 9, q10, u10 0, u10 1, u10 2, u10 3, u10 4, u10 5, u10 6, u10 7, u10 8, u10 9, qI, q11, u11 0, u11 1, u11 2, u11 3, u11 4, u11 5, u11 6, u11 7, u11 8, u11 9, q12, u12 0, u12 1, u12 2, u12 3, u12 4, u12 5, u12 6, u12 7, u12 8, u12 9, q13, u13 0, q14, u14 0, u14 1, q15, u15 0, u15 1, u15 2, u15 3, q16, u16 0, u16 1, u16 2].getD k 0)) dA mu0 := by
    rw [← ws10 dA h0 q1 q2 q3 q4 q5 q6 q7 q8 q9 q10 q11 q12 q13 q14 q15 q16 qI u1 u2 u3 u4 u5 u6 u7 u8 u9 u10 u11 u12 u13 u14 u15 u16, e15, e14, e13, e12, e11, e10, e9, e8, e7, e6, e5, e4, e3, e2, e1, e0]
  rw [ew] at hP hD
  exact kk (fun k => [h0, q1, u1 0, q2, u2 0, u2 1, u2 2, u2 3, u2 4, u2 5, q3, u3 0, u3 1, u3 2, u3 3, u3 4, u3 5, q4, u4 0, u4 1, u4 2, u4 3, u4 4, q5, u5 0, u5 1, u5 2, u5 3, u5 4, q6, q7, q8, u8 0, u8 1, u8 2, u8 3, u8 4, u8 5, u8 6, u8 7, u8 8, u8 9, q9, u9 0, u9 1, u9 2, u9 3, u9 4, u9 5, u9 6, u9 7, u9 8, u9 9, q10, u10 0, u10 1, u10 2, u10 3, u10 4, u10 5, u10 6, u10 7, u10 8, u10 9, qI, q11, u11 0, u11 1, u11 2, u11 3, u11 4, u11 5, u11 6, u11 7, u11 8, u11 9, q12, u12 0, u12 1, u12 2, u12 3, u12 4, u12 5, u12 6, u12 7, u12 8, u12 9, q13, u13 0, q14, u14 0, u14 1, q15, u15 0, u15 1, u15 2, u15 3, q16, u16 0, u16 1, u16 2].getD k 0) _ _ _ ls trivial hP hD hS dX10_init_217
end
