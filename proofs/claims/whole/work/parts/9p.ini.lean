section
theorem ifk_X0_9 : ic_fk RX0 9 0 0 (.array .int) := ⟨TX0, 15, tyX0, rfl, by decide, js_ucl0, tyX0_ok, nmX0, js_mem 266 (by decide +kernel) rfl, rfl, rfl⟩
theorem ifk_X0_15 : ic_fk RX0 15 0 1 (.array .int) := ⟨TX0, 15, tyX0, rfl, by decide, js_ucl0, tyX0_ok, nmX0, js_mem 268 (by decide +kernel) rfl, rfl, rfl⟩
theorem ifk_X0_18 : ic_fk RX0 18 0 2 (.array .int) := ⟨TX0, 15, tyX0, rfl, by decide, js_ucl0, tyX0_ok, nmX0, js_mem 270 (by decide +kernel) rfl, rfl, rfl⟩
theorem ifk_X0_21 : ic_fk RX0 21 0 3 (.array .int) := ⟨TX0, 15, tyX0, rfl, by decide, js_ucl0, tyX0_ok, nmX0, js_mem 273 (by decide +kernel) rfl, rfl, rfl⟩
theorem ifk_X0_24 : ic_fk RX0 24 0 4 (.array .int) := ⟨TX0, 15, tyX0, rfl, by decide, js_ucl0, tyX0_ok, nmX0, js_mem 275 (by decide +kernel) rfl, rfl, rfl⟩
theorem ifk_X0_27 : ic_fk RX0 27 0 5 (.array .int) := ⟨TX0, 15, tyX0, rfl, by decide, js_ucl0, tyX0_ok, nmX0, js_mem 277 (by decide +kernel) rfl, rfl, rfl⟩
theorem ifk_X0_30 : ic_fk RX0 30 0 6 (.array .int) := ⟨TX0, 15, tyX0, rfl, by decide, js_ucl0, tyX0_ok, nmX0, js_mem 279 (by decide +kernel) rfl, rfl, rfl⟩
theorem ifk_X0_33 : ic_fk RX0 33 0 7 (.array .int) := ⟨TX0, 15, tyX0, rfl, by decide, js_ucl0, tyX0_ok, nmX0, js_mem 283 (by decide +kernel) rfl, rfl, rfl⟩
theorem ifk_X0_36 : ic_fk RX0 36 0 8 (.array .int) := ⟨TX0, 15, tyX0, rfl, by decide, js_ucl0, tyX0_ok, nmX0, js_mem 284 (by decide +kernel) rfl, rfl, rfl⟩
theorem ifk_X0_39 : ic_fk RX0 39 0 9 (.array .int) := ⟨TX0, 15, tyX0, rfl, by decide, js_ucl0, tyX0_ok, nmX0, js_mem 285 (by decide +kernel) rfl, rfl, rfl⟩
abbrev f0X0 : List Value := [.null, .null, .null, .null, .null, .null, .null, .null, .null, .null, .int (Int32.ofInt 0), .int (Int32.ofInt 0), .int (Int32.ofInt 0), .long (Int64.ofInt 0), .int (Int32.ofInt 0)]
def blkX0 (dA : Nat → ClassId) (h : Nat) (As : List Value) (u : Nat → Nat) : va_W := (h, .inr (0, [.ref (u 0), .ref (u 1), .ref (u 2), .ref (u 3), .ref (u 4), .ref (u 5), .ref (u 6), .ref (u 7), .ref (u 8), .ref (u 9), .int (Int32.ofInt 0), .int (Int32.ofInt 0), .int (Int32.ofInt 0), .long (Int64.ofInt 0), .int (Int32.ofInt 0)])) :: [(u 0, .inl (dA 0, ic_z 0 24)), (u 1, .inl (dA 0, ic_z 0 24)), (u 2, .inl (dA 0, ic_z 0 144)), (u 3, .inl (dA 0, ic_z 0 144)), (u 4, .inl (dA 0, ic_z 0 144)), (u 5, .inl (dA 0, ic_z 0 144)), (u 6, .inl (dA 0, ic_z 0 144)), (u 7, .inl (dA 0, ic_z 0 40)), (u 8, .inl (dA 0, ic_z 0 40)), (u 9, .inl (dA 0, ic_z 0 40))]
set_option maxRecDepth 100000 in
theorem ime_X0 : ic_Me yX0_init cX0_init 1 1 10 888 0 f0X0 (fun As => As = []) (fun _ _ => True) blkX0 := by
  refine ic_met (by decide) rfl (fun h0 As h => by obtain rfl := h; simp [lg_sl, Value.category]) ?_
  intro p l e s m args below meth c D dA h0 As ls A Q hok h hin hl hP hD hA kk
  obtain rfl := hok
  have l0 : ls[0]? = some (.val (.ref h0)) := js_hl hl List.mem_cons_self
  have hS : va_S A s.heap s.heap [] := va_S.rf
  refine ic_sup h l0 hl.1 dX0_init_0 dX0_init_1 (⟨js_mem 265 (by decide +kernel) rfl, js_mem 107 (by decide +kernel) rfl, js_mem 108 (by decide +kernel) rfl⟩) ⟨(Nat.le_of_ble_eq_true rfl), (Nat.le_of_ble_eq_true rfl)⟩ ?_
  refine ic_arr h hin l0 dX0_init_4 (fun _ _ _ k => lv_bipush h.1 h.2.1 dX0_init_5 (v := Int32.ofInt 24) (by decide) k) dX0_init_7 dX0_init_9 ic_t0 ifk_X0_9 (N := 24) (by decide) (by decide) rfl (Nat.le_of_ble_eq_true rfl) (Nat.le_of_ble_eq_true rfl) rfl hP hD hS hA (fun q0 H locs hP hD hS => ?_)
  refine ic_arr h hin l0 dX0_init_12 (fun _ _ _ k => lv_bipush h.1 h.2.1 dX0_init_13 (v := Int32.ofInt 24) (by decide) k) dX0_init_15 dX0_init_17 ic_t0 ifk_X0_15 (N := 24) (by decide) (by decide) rfl (Nat.le_of_ble_eq_true rfl) (Nat.le_of_ble_eq_true rfl) rfl hP hD hS hA (fun q1 H locs hP hD hS => ?_)
  refine ic_arr h hin l0 dX0_init_20 (fun _ _ _ k => lv_sipush h.1 h.2.1 dX0_init_21 (v := Int32.ofInt 144) (by decide) k) dX0_init_24 dX0_init_26 ic_t0 ifk_X0_18 (N := 144) (by decide) (by decide) rfl (Nat.le_of_ble_eq_true rfl) (Nat.le_of_ble_eq_true rfl) rfl hP hD hS hA (fun q2 H locs hP hD hS => ?_)
  refine ic_arr h hin l0 dX0_init_29 (fun _ _ _ k => lv_sipush h.1 h.2.1 dX0_init_30 (v := Int32.ofInt 144) (by decide) k) dX0_init_33 dX0_init_35 ic_t0 ifk_X0_21 (N := 144) (by decide) (by decide) rfl (Nat.le_of_ble_eq_true rfl) (Nat.le_of_ble_eq_true rfl) rfl hP hD hS hA (fun q3 H locs hP hD hS => ?_)
  refine ic_arr h hin l0 dX0_init_38 (fun _ _ _ k => lv_sipush h.1 h.2.1 dX0_init_39 (v := Int32.ofInt 144) (by decide) k) dX0_init_42 dX0_init_44 ic_t0 ifk_X0_24 (N := 144) (by decide) (by decide) rfl (Nat.le_of_ble_eq_true rfl) (Nat.le_of_ble_eq_true rfl) rfl hP hD hS hA (fun q4 H locs hP hD hS => ?_)
  refine ic_arr h hin l0 dX0_init_47 (fun _ _ _ k => lv_sipush h.1 h.2.1 dX0_init_48 (v := Int32.ofInt 144) (by decide) k) dX0_init_51 dX0_init_53 ic_t0 ifk_X0_27 (N := 144) (by decide) (by decide) rfl (Nat.le_of_ble_eq_true rfl) (Nat.le_of_ble_eq_true rfl) rfl hP hD hS hA (fun q5 H locs hP hD hS => ?_)
  refine ic_arr h hin l0 dX0_init_56 (fun _ _ _ k => lv_sipush h.1 h.2.1 dX0_init_57 (v := Int32.ofInt 144) (by decide) k) dX0_init_60 dX0_init_62 ic_t0 ifk_X0_30 (N := 144) (by decide) (by decide) rfl (Nat.le_of_ble_eq_true rfl) (Nat.le_of_ble_eq_true rfl) rfl hP hD hS hA (fun q6 H locs hP hD hS => ?_)
  refine ic_arr h hin l0 dX0_init_65 (fun _ _ _ k => lv_bipush h.1 h.2.1 dX0_init_66 (v := Int32.ofInt 40) (by decide) k) dX0_init_68 dX0_init_70 ic_t0 ifk_X0_33 (N := 40) (by decide) (by decide) rfl (Nat.le_of_ble_eq_true rfl) (Nat.le_of_ble_eq_true rfl) rfl hP hD hS hA (fun q7 H locs hP hD hS => ?_)
  refine ic_arr h hin l0 dX0_init_73 (fun _ _ _ k => lv_bipush h.1 h.2.1 dX0_init_74 (v := Int32.ofInt 40) (by decide) k) dX0_init_76 dX0_init_78 ic_t0 ifk_X0_36 (N := 40) (by decide) (by decide) rfl (Nat.le_of_ble_eq_true rfl) (Nat.le_of_ble_eq_true rfl) rfl hP hD hS hA (fun q8 H locs hP hD hS => ?_)
  refine ic_arr h hin l0 dX0_init_81 (fun _ _ _ k => lv_bipush h.1 h.2.1 dX0_init_82 (v := Int32.ofInt 40) (by decide) k) dX0_init_84 dX0_init_86 ic_t0 ifk_X0_39 (N := 40) (by decide) (by decide) rfl (Nat.le_of_ble_eq_true rfl) (Nat.le_of_ble_eq_true rfl) rfl hP hD hS hA (fun q9 H locs hP hD hS => ?_)
  refine W.widen (k := 10) (n := 888) (Nat.le_of_ble_eq_true rfl) (Nat.le_of_ble_eq_true rfl) ?_
  exact kk (fun i => [q0, q1, q2, q3, q4, q5, q6, q7, q8, q9].getD i 0) _ _ _ ls trivial hP hD hS dX0_init_89
theorem ifk_X1_9 : ic_fk RX1 9 1 1 (.array .int) := ⟨TX1, 3, tyX1, rfl, by decide, js_ucl1, tyX1_ok, nmX1, js_mem 354 (by decide +kernel) rfl, rfl, rfl⟩
theorem ifk_X1_15 : ic_fk RX1 15 1 2 (.array .int) := ⟨TX1, 3, tyX1, rfl, by decide, js_ucl1, tyX1_ok, nmX1, js_mem 355 (by decide +kernel) rfl, rfl, rfl⟩
abbrev f0X1 : List Value := [.int (Int32.ofInt 0), .null, .null]
def blkX1 (dA : Nat → ClassId) (h : Nat) (As : List Value) (u : Nat → Nat) : va_W := (h, .inr (1, [.int (Int32.ofInt 0), .ref (u 0), .ref (u 1)])) :: [(u 0, .inl (dA 0, ic_z 0 24)), (u 1, .inl (dA 0, ic_z 0 24))]
set_option maxRecDepth 100000 in
theorem ime_X1 : ic_Me yX1_init cX1_init 1 1 2 48 1 f0X1 (fun As => As = []) (fun _ _ => True) blkX1 := by
  refine ic_met (by decide) rfl (fun h0 As h => by obtain rfl := h; simp [lg_sl, Value.category]) ?_
  intro p l e s m args below meth c D dA h0 As ls A Q hok h hin hl hP hD hA kk
  obtain rfl := hok
  have l0 : ls[0]? = some (.val (.ref h0)) := js_hl hl List.mem_cons_self
  have hS : va_S A s.heap s.heap [] := va_S.rf
  refine ic_sup h l0 hl.1 dX1_init_0 dX1_init_1 (⟨js_mem 352 (by decide +kernel) rfl, js_mem 107 (by decide +kernel) rfl, js_mem 108 (by decide +kernel) rfl⟩) ⟨(Nat.le_of_ble_eq_true rfl), (Nat.le_of_ble_eq_true rfl)⟩ ?_
  refine ic_arr h hin l0 dX1_init_4 (fun _ _ _ k => lv_bipush h.1 h.2.1 dX1_init_5 (v := Int32.ofInt 24) (by decide) k) dX1_init_7 dX1_init_9 ic_t0 ifk_X1_9 (N := 24) (by decide) (by decide) rfl (Nat.le_of_ble_eq_true rfl) (Nat.le_of_ble_eq_true rfl) rfl hP hD hS hA (fun q0 H locs hP hD hS => ?_)
  refine ic_arr h hin l0 dX1_init_12 (fun _ _ _ k => lv_bipush h.1 h.2.1 dX1_init_13 (v := Int32.ofInt 24) (by decide) k) dX1_init_15 dX1_init_17 ic_t0 ifk_X1_15 (N := 24) (by decide) (by decide) rfl (Nat.le_of_ble_eq_true rfl) (Nat.le_of_ble_eq_true rfl) rfl hP hD hS hA (fun q1 H locs hP hD hS => ?_)
  refine W.widen (k := 2) (n := 48) (Nat.le_of_ble_eq_true rfl) (Nat.le_of_ble_eq_true rfl) ?_
  exact kk (fun i => [q0, q1].getD i 0) _ _ _ ls trivial hP hD hS dX1_init_20
theorem ifk_X3_9 : ic_fk RX3 9 3 1 (.array .int) := ⟨TX3, 6, tyX3, rfl, by decide, js_ucl3, tyX3_ok, nmX3, js_mem 204 (by decide +kernel) rfl, rfl, rfl⟩
theorem ifk_X3_15 : ic_fk RX3 15 3 2 (.array .int) := ⟨TX3, 6, tyX3, rfl, by decide, js_ucl3, tyX3_ok, nmX3, js_mem 206 (by decide +kernel) rfl, rfl, rfl⟩
theorem ifk_X3_18 : ic_fk RX3 18 3 3 (.array .int) := ⟨TX3, 6, tyX3, rfl, by decide, js_ucl3, tyX3_ok, nmX3, js_mem 208 (by decide +kernel) rfl, rfl, rfl⟩
theorem ifk_X3_21 : ic_fk RX3 21 3 4 (.array .int) := ⟨TX3, 6, tyX3, rfl, by decide, js_ucl3, tyX3_ok, nmX3, js_mem 210 (by decide +kernel) rfl, rfl, rfl⟩
theorem ifk_X3_24 : ic_fk RX3 24 3 5 (.array .int) := ⟨TX3, 6, tyX3, rfl, by decide, js_ucl3, tyX3_ok, nmX3, js_mem 211 (by decide +kernel) rfl, rfl, rfl⟩
abbrev f0X3 : List Value := [.int (Int32.ofInt 0), .null, .null, .null, .null, .null]
def blkX3 (dA : Nat → ClassId) (h : Nat) (As : List Value) (u : Nat → Nat) : va_W := (h, .inr (3, [.int (Int32.ofInt 0), .ref (u 0), .ref (u 1), .ref (u 2), .ref (u 3), .ref (u 4)])) :: [(u 0, .inl (dA 0, ic_z 0 6)), (u 1, .inl (dA 0, ic_z 0 6)), (u 2, .inl (dA 0, ic_z 0 6)), (u 3, .inl (dA 0, ic_z 0 6)), (u 4, .inl (dA 0, ic_z 0 6))]
set_option maxRecDepth 100000 in
theorem ime_X3 : ic_Me yX3_init cX3_init 1 1 5 30 3 f0X3 (fun As => As = []) (fun _ _ => True) blkX3 := by
  refine ic_met (by decide) rfl (fun h0 As h => by obtain rfl := h; simp [lg_sl, Value.category]) ?_
  intro p l e s m args below meth c D dA h0 As ls A Q hok h hin hl hP hD hA kk
  obtain rfl := hok
  have l0 : ls[0]? = some (.val (.ref h0)) := js_hl hl List.mem_cons_self
  have hS : va_S A s.heap s.heap [] := va_S.rf
  refine ic_sup h l0 hl.1 dX3_init_0 dX3_init_1 (⟨js_mem 201 (by decide +kernel) rfl, js_mem 107 (by decide +kernel) rfl, js_mem 108 (by decide +kernel) rfl⟩) ⟨(Nat.le_of_ble_eq_true rfl), (Nat.le_of_ble_eq_true rfl)⟩ ?_
  refine ic_arr h hin l0 dX3_init_4 (fun _ _ _ k => lv_bipush h.1 h.2.1 dX3_init_5 (v := Int32.ofInt 6) (by decide) k) dX3_init_7 dX3_init_9 ic_t0 ifk_X3_9 (N := 6) (by decide) (by decide) rfl (Nat.le_of_ble_eq_true rfl) (Nat.le_of_ble_eq_true rfl) rfl hP hD hS hA (fun q0 H locs hP hD hS => ?_)
  refine ic_arr h hin l0 dX3_init_12 (fun _ _ _ k => lv_bipush h.1 h.2.1 dX3_init_13 (v := Int32.ofInt 6) (by decide) k) dX3_init_15 dX3_init_17 ic_t0 ifk_X3_15 (N := 6) (by decide) (by decide) rfl (Nat.le_of_ble_eq_true rfl) (Nat.le_of_ble_eq_true rfl) rfl hP hD hS hA (fun q1 H locs hP hD hS => ?_)
  refine ic_arr h hin l0 dX3_init_20 (fun _ _ _ k => lv_bipush h.1 h.2.1 dX3_init_21 (v := Int32.ofInt 6) (by decide) k) dX3_init_23 dX3_init_25 ic_t0 ifk_X3_18 (N := 6) (by decide) (by decide) rfl (Nat.le_of_ble_eq_true rfl) (Nat.le_of_ble_eq_true rfl) rfl hP hD hS hA (fun q2 H locs hP hD hS => ?_)
  refine ic_arr h hin l0 dX3_init_28 (fun _ _ _ k => lv_bipush h.1 h.2.1 dX3_init_29 (v := Int32.ofInt 6) (by decide) k) dX3_init_31 dX3_init_33 ic_t0 ifk_X3_21 (N := 6) (by decide) (by decide) rfl (Nat.le_of_ble_eq_true rfl) (Nat.le_of_ble_eq_true rfl) rfl hP hD hS hA (fun q3 H locs hP hD hS => ?_)
  refine ic_arr h hin l0 dX3_init_36 (fun _ _ _ k => lv_bipush h.1 h.2.1 dX3_init_37 (v := Int32.ofInt 6) (by decide) k) dX3_init_39 dX3_init_41 ic_t0 ifk_X3_24 (N := 6) (by decide) (by decide) rfl (Nat.le_of_ble_eq_true rfl) (Nat.le_of_ble_eq_true rfl) rfl hP hD hS hA (fun q4 H locs hP hD hS => ?_)
  refine W.widen (k := 5) (n := 30) (Nat.le_of_ble_eq_true rfl) (Nat.le_of_ble_eq_true rfl) ?_
  exact kk (fun i => [q0, q1, q2, q3, q4].getD i 0) _ _ _ ls trivial hP hD hS dX3_init_44
theorem ifk_X4_9 : ic_fk RX4 9 4 1 (.array .int) := ⟨TX4, 7, tyX4, rfl, by decide, js_ucl4, tyX4_ok, nmX4, js_mem 370 (by decide +kernel) rfl, rfl, rfl⟩
theorem ifk_X4_15 : ic_fk RX4 15 4 2 (.array .long) := ⟨TX4, 7, tyX4, rfl, by decide, js_ucl4, tyX4_ok, nmX4, js_mem 371 (by decide +kernel) rfl, rfl, rfl⟩
theorem ifk_X4_19 : ic_fk RX4 19 4 3 (.array .int) := ⟨TX4, 7, tyX4, rfl, by decide, js_ucl4, tyX4_ok, nmX4, js_mem 372 (by decide +kernel) rfl, rfl, rfl⟩
theorem ifk_X4_22 : ic_fk RX4 22 4 4 (.array .long) := ⟨TX4, 7, tyX4, rfl, by decide, js_ucl4, tyX4_ok, nmX4, js_mem 373 (by decide +kernel) rfl, rfl, rfl⟩
theorem ifk_X4_25 : ic_fk RX4 25 4 0 (.object "TwoRumours$Town") := ⟨TX4, 7, tyX4, rfl, by decide, js_ucl4, tyX4_ok, nmX4, js_mem 369 (by decide +kernel) rfl, rfl, rfl⟩
abbrev f0X4 : List Value := [.null, .null, .null, .null, .null, .int (Int32.ofInt 0), .int (Int32.ofInt 0)]
def blkX4 (dA : Nat → ClassId) (h : Nat) (As : List Value) (u : Nat → Nat) : va_W := (h, .inr (4, [As.getD 0 .null, .ref (u 0), .ref (u 1), .ref (u 2), .ref (u 3), .int (Int32.ofInt 0), .int (Int32.ofInt 0)])) :: [(u 0, .inl (dA 0, ic_z 0 100)), (u 1, .inl (dA 1, ic_z 1 1024)), (u 2, .inl (dA 0, ic_z 0 512)), (u 3, .inl (dA 1, ic_z 1 512))]
set_option maxRecDepth 100000 in
theorem ime_X4 : ic_Me yX4_init cX4_init 2 1 4 2148 4 f0X4 (fun As => ∃ a0 : Nat, As = [.ref a0]) (fun _ _ => True) blkX4 := by
  refine ic_met (by decide) rfl (fun h0 As h => by obtain ⟨a0, rfl⟩ := h; simp [lg_sl, Value.category]) ?_
  intro p l e s m args below meth c D dA h0 As ls A Q hok h hin hl hP hD hA kk
  obtain ⟨a0, rfl⟩ := hok
  have l0 : ls[0]? = some (.val (.ref h0)) := js_hl hl List.mem_cons_self
  have l1 : ls[1]? = some (.val (.ref a0)) := js_hl hl (List.mem_cons_of_mem _ List.mem_cons_self)
  have hS : va_S A s.heap s.heap [] := va_S.rf
  refine ic_sup h l0 hl.1 dX4_init_0 dX4_init_1 (⟨js_mem 368 (by decide +kernel) rfl, js_mem 107 (by decide +kernel) rfl, js_mem 108 (by decide +kernel) rfl⟩) ⟨(Nat.le_of_ble_eq_true rfl), (Nat.le_of_ble_eq_true rfl)⟩ ?_
  refine ic_arr h hin l0 dX4_init_4 (fun _ _ _ k => lv_bipush h.1 h.2.1 dX4_init_5 (v := Int32.ofInt 100) (by decide) k) dX4_init_7 dX4_init_9 ic_t0 ifk_X4_9 (N := 100) (by decide) (by decide) rfl (Nat.le_of_ble_eq_true rfl) (Nat.le_of_ble_eq_true rfl) rfl hP hD hS hA (fun q0 H locs hP hD hS => ?_)
  refine ic_arr h hin l0 dX4_init_12 (fun _ _ _ k => lv_sipush h.1 h.2.1 dX4_init_13 (v := Int32.ofInt 1024) (by decide) k) dX4_init_16 dX4_init_18 ic_t1 ifk_X4_15 (N := 1024) (by decide) (by decide) rfl (Nat.le_of_ble_eq_true rfl) (Nat.le_of_ble_eq_true rfl) rfl hP hD hS hA (fun q1 H locs hP hD hS => ?_)
  refine ic_arr h hin l0 dX4_init_21 (fun _ _ _ k => lv_sipush h.1 h.2.1 dX4_init_22 (v := Int32.ofInt 512) (by decide) k) dX4_init_25 dX4_init_27 ic_t0 ifk_X4_19 (N := 512) (by decide) (by decide) rfl (Nat.le_of_ble_eq_true rfl) (Nat.le_of_ble_eq_true rfl) rfl hP hD hS hA (fun q2 H locs hP hD hS => ?_)
  refine ic_arr h hin l0 dX4_init_30 (fun _ _ _ k => lv_sipush h.1 h.2.1 dX4_init_31 (v := Int32.ofInt 512) (by decide) k) dX4_init_34 dX4_init_36 ic_t1 ifk_X4_22 (N := 512) (by decide) (by decide) rfl (Nat.le_of_ble_eq_true rfl) (Nat.le_of_ble_eq_true rfl) rfl hP hD hS hA (fun q3 H locs hP hD hS => ?_)
  refine ic_set h hin l0 dX4_init_39 (fun _ _ _ k => lv_aload_n h.1 h.2.1 dX4_init_40 rfl l1 k) dX4_init_41 ifk_X4_25 rfl rfl rfl hP hD hS (fun H locs hP hD hS => ?_)
  refine W.widen (k := 4) (n := 2148) (Nat.le_of_ble_eq_true rfl) (Nat.le_of_ble_eq_true rfl) ?_
  exact kk (fun i => [q0, q1, q2, q3].getD i 0) _ _ _ ls trivial hP hD hS dX4_init_44
theorem ifk_X5_7 : ic_fk RX5 7 5 0 (.int) := ⟨TX5, 2, tyX5, rfl, by decide, js_ucl5, tyX5_ok, nmX5, js_mem 233 (by decide +kernel) rfl, rfl, rfl⟩
theorem ifk_X5_13 : ic_fk RX5 13 5 1 (.int) := ⟨TX5, 2, tyX5, rfl, by decide, js_ucl5, tyX5_ok, nmX5, js_mem 236 (by decide +kernel) rfl, rfl, rfl⟩
abbrev f0X5 : List Value := [.int (Int32.ofInt 0), .int (Int32.ofInt 0)]
def blkX5 (dA : Nat → ClassId) (h : Nat) (As : List Value) (u : Nat → Nat) : va_W := (h, .inr (5, [.int (Int32.ofInt 3), .int (Int32.ofInt 20)])) :: []
set_option maxRecDepth 100000 in
theorem ime_X5 : ic_Me yX5_init cX5_init 1 1 0 0 5 f0X5 (fun As => As = []) (fun _ _ => True) blkX5 := by
  refine ic_met (by decide) rfl (fun h0 As h => by obtain rfl := h; simp [lg_sl, Value.category]) ?_
  intro p l e s m args below meth c D dA h0 As ls A Q hok h hin hl hP hD hA kk
  obtain rfl := hok
  have l0 : ls[0]? = some (.val (.ref h0)) := js_hl hl List.mem_cons_self
  have hS : va_S A s.heap s.heap [] := va_S.rf
  refine ic_sup h l0 hl.1 dX5_init_0 dX5_init_1 (⟨js_mem 232 (by decide +kernel) rfl, js_mem 107 (by decide +kernel) rfl, js_mem 108 (by decide +kernel) rfl⟩) ⟨(Nat.le_of_ble_eq_true rfl), (Nat.le_of_ble_eq_true rfl)⟩ ?_
  refine ic_set h hin l0 dX5_init_4 (fun _ _ _ k => lv_iconst h.1 h.2.1 dX5_init_5 (v := Int32.ofInt 3) rfl k) dX5_init_6 ifk_X5_7 rfl rfl rfl hP hD hS (fun H locs hP hD hS => ?_)
  refine ic_set h hin l0 dX5_init_9 (fun _ _ _ k => lv_bipush h.1 h.2.1 dX5_init_10 (v := Int32.ofInt 20) (by decide) k) dX5_init_12 ifk_X5_13 rfl rfl rfl hP hD hS (fun H locs hP hD hS => ?_)
  refine W.widen (k := 0) (n := 0) (Nat.le_of_ble_eq_true rfl) (Nat.le_of_ble_eq_true rfl) ?_
  exact kk (fun i => [].getD i 0) _ _ _ ls trivial hP hD hS dX5_init_15
theorem ifk_X6_9 : ic_fk RX6 9 6 0 (.object "TwoRumours$Town") := ⟨TX6, 3, tyX6, rfl, by decide, js_ucl6, tyX6_ok, nmX6, js_mem 250 (by decide +kernel) rfl, rfl, rfl⟩
theorem ifk_X6_15 : ic_fk RX6 15 6 1 (.object "TwoRumours$Lore") := ⟨TX6, 3, tyX6, rfl, by decide, js_ucl6, tyX6_ok, nmX6, js_mem 251 (by decide +kernel) rfl, rfl, rfl⟩
theorem ifk_X6_19 : ic_fk RX6 19 6 2 (.object "TwoRumours$Rules") := ⟨TX6, 3, tyX6, rfl, by decide, js_ucl6, tyX6_ok, nmX6, js_mem 252 (by decide +kernel) rfl, rfl, rfl⟩
abbrev f0X6 : List Value := [.null, .null, .null]
def blkX6 (dA : Nat → ClassId) (h : Nat) (As : List Value) (u : Nat → Nat) : va_W := (h, .inr (6, [As.getD 0 .null, As.getD 1 .null, As.getD 2 .null])) :: []
set_option maxRecDepth 100000 in
theorem ime_X6 : ic_Me yX6_init cX6_init 4 1 0 0 6 f0X6 (fun As => ∃ a0 a1 a2 : Nat, As = [.ref a0, .ref a1, .ref a2]) (fun _ _ => True) blkX6 := by
  refine ic_met (by decide) rfl (fun h0 As h => by obtain ⟨a0, a1, a2, rfl⟩ := h; simp [lg_sl, Value.category]) ?_
  intro p l e s m args below meth c D dA h0 As ls A Q hok h hin hl hP hD hA kk
  obtain ⟨a0, a1, a2, rfl⟩ := hok
  have l0 : ls[0]? = some (.val (.ref h0)) := js_hl hl List.mem_cons_self
  have l1 : ls[1]? = some (.val (.ref a0)) := js_hl hl (List.mem_cons_of_mem _ List.mem_cons_self)
  have l2 : ls[2]? = some (.val (.ref a1)) := js_hl hl (List.mem_cons_of_mem _ (List.mem_cons_of_mem _ List.mem_cons_self))
  have l3 : ls[3]? = some (.val (.ref a2)) := js_hl hl (List.mem_cons_of_mem _ (List.mem_cons_of_mem _ (List.mem_cons_of_mem _ List.mem_cons_self)))
  have hS : va_S A s.heap s.heap [] := va_S.rf
  refine ic_sup h l0 hl.1 dX6_init_0 dX6_init_1 (⟨js_mem 249 (by decide +kernel) rfl, js_mem 107 (by decide +kernel) rfl, js_mem 108 (by decide +kernel) rfl⟩) ⟨(Nat.le_of_ble_eq_true rfl), (Nat.le_of_ble_eq_true rfl)⟩ ?_
  refine ic_set h hin l0 dX6_init_4 (fun _ _ _ k => lv_aload_n h.1 h.2.1 dX6_init_5 rfl l1 k) dX6_init_6 ifk_X6_9 rfl rfl rfl hP hD hS (fun H locs hP hD hS => ?_)
  refine ic_set h hin l0 dX6_init_9 (fun _ _ _ k => lv_aload_n h.1 h.2.1 dX6_init_10 rfl l2 k) dX6_init_11 ifk_X6_15 rfl rfl rfl hP hD hS (fun H locs hP hD hS => ?_)
  refine ic_set h hin l0 dX6_init_14 (fun _ _ _ k => lv_aload_n h.1 h.2.1 dX6_init_15 rfl l3 k) dX6_init_16 ifk_X6_19 rfl rfl rfl hP hD hS (fun H locs hP hD hS => ?_)
  refine W.widen (k := 0) (n := 0) (Nat.le_of_ble_eq_true rfl) (Nat.le_of_ble_eq_true rfl) ?_
  exact kk (fun i => [].getD i 0) _ _ _ ls trivial hP hD hS dX6_init_19
theorem ifk_X7_9 : ic_fk RX7 9 7 0 (.array .char) := ⟨TX7, 8, tyX7, rfl, by decide, js_ucl7, tyX7_ok, nmX7, js_mem 115 (by decide +kernel) rfl, rfl, rfl⟩
theorem ifk_X7_15 : ic_fk RX7 15 7 7 (.int) := ⟨TX7, 8, tyX7, rfl, by decide, js_ucl7, tyX7_ok, nmX7, js_mem 126 (by decide +kernel) rfl, rfl, rfl⟩
abbrev f0X7 : List Value := [.null, .int (Int32.ofInt 0), .int (Int32.ofInt 0), .int (Int32.ofInt 0), .int (Int32.ofInt 0), .int (Int32.ofInt 0), .int (Int32.ofInt 0), .int (Int32.ofInt 0)]
def blkX7 (dA : Nat → ClassId) (h : Nat) (As : List Value) (u : Nat → Nat) : va_W := (h, .inr (7, [.ref (u 0), .int (Int32.ofInt 0), .int (Int32.ofInt 0), .int (Int32.ofInt 0), .int (Int32.ofInt 0), .int (Int32.ofInt 0), .int (Int32.ofInt 0), .int (Int32.ofInt (-1))])) :: [(u 0, .inl (dA 2, ic_z 2 600))]
set_option maxRecDepth 100000 in
theorem ime_X7 : ic_Me yX7_init cX7_init 1 1 1 600 7 f0X7 (fun As => As = []) (fun _ _ => True) blkX7 := by
  refine ic_met (by decide) rfl (fun h0 As h => by obtain rfl := h; simp [lg_sl, Value.category]) ?_
  intro p l e s m args below meth c D dA h0 As ls A Q hok h hin hl hP hD hA kk
  obtain rfl := hok
  have l0 : ls[0]? = some (.val (.ref h0)) := js_hl hl List.mem_cons_self
  have hS : va_S A s.heap s.heap [] := va_S.rf
  refine ic_sup h l0 hl.1 dX7_init_0 dX7_init_1 (⟨js_mem 114 (by decide +kernel) rfl, js_mem 107 (by decide +kernel) rfl, js_mem 108 (by decide +kernel) rfl⟩) ⟨(Nat.le_of_ble_eq_true rfl), (Nat.le_of_ble_eq_true rfl)⟩ ?_
  refine ic_arr h hin l0 dX7_init_4 (fun _ _ _ k => lv_sipush h.1 h.2.1 dX7_init_5 (v := Int32.ofInt 600) (by decide) k) dX7_init_8 dX7_init_10 ic_t2 ifk_X7_9 (N := 600) (by decide) (by decide) rfl (Nat.le_of_ble_eq_true rfl) (Nat.le_of_ble_eq_true rfl) rfl hP hD hS hA (fun q0 H locs hP hD hS => ?_)
  refine ic_set h hin l0 dX7_init_13 (fun _ _ _ k => lv_iconst h.1 h.2.1 dX7_init_14 (v := Int32.ofInt (-1)) rfl k) dX7_init_15 ifk_X7_15 rfl rfl rfl hP hD hS (fun H locs hP hD hS => ?_)
  refine W.widen (k := 1) (n := 600) (Nat.le_of_ble_eq_true rfl) (Nat.le_of_ble_eq_true rfl) ?_
  exact kk (fun i => [q0].getD i 0) _ _ _ ls trivial hP hD hS dX7_init_18
theorem ifk_X8_9 : ic_fk RX8 9 8 3 (.array .int) := ⟨TX8, 9, tyX8, rfl, by decide, js_ucl8, tyX8_ok, nmX8, js_mem 161 (by decide +kernel) rfl, rfl, rfl⟩
theorem ifk_X8_15 : ic_fk RX8 15 8 4 (.array .int) := ⟨TX8, 9, tyX8, rfl, by decide, js_ucl8, tyX8_ok, nmX8, js_mem 165 (by decide +kernel) rfl, rfl, rfl⟩
theorem ifk_X8_18 : ic_fk RX8 18 8 5 (.array .int) := ⟨TX8, 9, tyX8, rfl, by decide, js_ucl8, tyX8_ok, nmX8, js_mem 168 (by decide +kernel) rfl, rfl, rfl⟩
theorem ifk_X8_21 : ic_fk RX8 21 8 6 (.array .int) := ⟨TX8, 9, tyX8, rfl, by decide, js_ucl8, tyX8_ok, nmX8, js_mem 171 (by decide +kernel) rfl, rfl, rfl⟩
theorem ifk_X8_24 : ic_fk RX8 24 8 7 (.array .int) := ⟨TX8, 9, tyX8, rfl, by decide, js_ucl8, tyX8_ok, nmX8, js_mem 174 (by decide +kernel) rfl, rfl, rfl⟩
theorem ifk_X8_27 : ic_fk RX8 27 8 8 (.array .int) := ⟨TX8, 9, tyX8, rfl, by decide, js_ucl8, tyX8_ok, nmX8, js_mem 175 (by decide +kernel) rfl, rfl, rfl⟩
abbrev f0X8 : List Value := [.int (Int32.ofInt 0), .int (Int32.ofInt 0), .int (Int32.ofInt 0), .null, .null, .null, .null, .null, .null]
def blkX8 (dA : Nat → ClassId) (h : Nat) (As : List Value) (u : Nat → Nat) : va_W := (h, .inr (8, [.int (Int32.ofInt 0), .int (Int32.ofInt 0), .int (Int32.ofInt 0), .ref (u 0), .ref (u 1), .ref (u 2), .ref (u 3), .ref (u 4), .ref (u 5)])) :: [(u 0, .inl (dA 0, ic_z 0 24)), (u 1, .inl (dA 0, ic_z 0 24)), (u 2, .inl (dA 0, ic_z 0 24)), (u 3, .inl (dA 0, ic_z 0 24)), (u 4, .inl (dA 0, ic_z 0 576)), (u 5, .inl (dA 0, ic_z 0 576))]
set_option maxRecDepth 100000 in
theorem ime_X8 : ic_Me yX8_init cX8_init 1 1 6 1248 8 f0X8 (fun As => As = []) (fun _ _ => True) blkX8 := by
  refine ic_met (by decide) rfl (fun h0 As h => by obtain rfl := h; simp [lg_sl, Value.category]) ?_
  intro p l e s m args below meth c D dA h0 As ls A Q hok h hin hl hP hD hA kk
  obtain rfl := hok
  have l0 : ls[0]? = some (.val (.ref h0)) := js_hl hl List.mem_cons_self
  have hS : va_S A s.heap s.heap [] := va_S.rf
  refine ic_sup h l0 hl.1 dX8_init_0 dX8_init_1 (⟨js_mem 151 (by decide +kernel) rfl, js_mem 107 (by decide +kernel) rfl, js_mem 108 (by decide +kernel) rfl⟩) ⟨(Nat.le_of_ble_eq_true rfl), (Nat.le_of_ble_eq_true rfl)⟩ ?_
  refine ic_arr h hin l0 dX8_init_4 (fun _ _ _ k => lv_bipush h.1 h.2.1 dX8_init_5 (v := Int32.ofInt 24) (by decide) k) dX8_init_7 dX8_init_9 ic_t0 ifk_X8_9 (N := 24) (by decide) (by decide) rfl (Nat.le_of_ble_eq_true rfl) (Nat.le_of_ble_eq_true rfl) rfl hP hD hS hA (fun q0 H locs hP hD hS => ?_)
  refine ic_arr h hin l0 dX8_init_12 (fun _ _ _ k => lv_bipush h.1 h.2.1 dX8_init_13 (v := Int32.ofInt 24) (by decide) k) dX8_init_15 dX8_init_17 ic_t0 ifk_X8_15 (N := 24) (by decide) (by decide) rfl (Nat.le_of_ble_eq_true rfl) (Nat.le_of_ble_eq_true rfl) rfl hP hD hS hA (fun q1 H locs hP hD hS => ?_)
  refine ic_arr h hin l0 dX8_init_20 (fun _ _ _ k => lv_bipush h.1 h.2.1 dX8_init_21 (v := Int32.ofInt 24) (by decide) k) dX8_init_23 dX8_init_25 ic_t0 ifk_X8_18 (N := 24) (by decide) (by decide) rfl (Nat.le_of_ble_eq_true rfl) (Nat.le_of_ble_eq_true rfl) rfl hP hD hS hA (fun q2 H locs hP hD hS => ?_)
  refine ic_arr h hin l0 dX8_init_28 (fun _ _ _ k => lv_bipush h.1 h.2.1 dX8_init_29 (v := Int32.ofInt 24) (by decide) k) dX8_init_31 dX8_init_33 ic_t0 ifk_X8_21 (N := 24) (by decide) (by decide) rfl (Nat.le_of_ble_eq_true rfl) (Nat.le_of_ble_eq_true rfl) rfl hP hD hS hA (fun q3 H locs hP hD hS => ?_)
  refine ic_arr h hin l0 dX8_init_36 (fun _ _ _ k => lv_sipush h.1 h.2.1 dX8_init_37 (v := Int32.ofInt 576) (by decide) k) dX8_init_40 dX8_init_42 ic_t0 ifk_X8_24 (N := 576) (by decide) (by decide) rfl (Nat.le_of_ble_eq_true rfl) (Nat.le_of_ble_eq_true rfl) rfl hP hD hS hA (fun q4 H locs hP hD hS => ?_)
  refine ic_arr h hin l0 dX8_init_45 (fun _ _ _ k => lv_sipush h.1 h.2.1 dX8_init_46 (v := Int32.ofInt 576) (by decide) k) dX8_init_49 dX8_init_51 ic_t0 ifk_X8_27 (N := 576) (by decide) (by decide) rfl (Nat.le_of_ble_eq_true rfl) (Nat.le_of_ble_eq_true rfl) rfl hP hD hS hA (fun q5 H locs hP hD hS => ?_)
  refine W.widen (k := 6) (n := 1248) (Nat.le_of_ble_eq_true rfl) (Nat.le_of_ble_eq_true rfl) ?_
  exact kk (fun i => [q0, q1, q2, q3, q4, q5].getD i 0) _ _ _ ls trivial hP hD hS dX8_init_54
theorem ifk_X9_9 : ic_fk RX9 9 9 1 (.array .int) := ⟨TX9, 3, tyX9, rfl, by decide, js_ucl9, tyX9_ok, nmX9, js_mem 336 (by decide +kernel) rfl, rfl, rfl⟩
theorem ifk_X9_15 : ic_fk RX9 15 9 0 (.object "TwoRumours$Course") := ⟨TX9, 3, tyX9, rfl, by decide, js_ucl9, tyX9_ok, nmX9, js_mem 335 (by decide +kernel) rfl, rfl, rfl⟩
abbrev f0X9 : List Value := [.null, .null, .int (Int32.ofInt 0)]
def blkX9 (dA : Nat → ClassId) (h : Nat) (As : List Value) (u : Nat → Nat) : va_W := (h, .inr (9, [As.getD 0 .null, .ref (u 0), .int (Int32.ofInt 0)])) :: [(u 0, .inl (dA 0, ic_z 0 144))]
set_option maxRecDepth 100000 in
theorem ime_X9 : ic_Me yX9_init cX9_init 2 1 1 144 9 f0X9 (fun As => ∃ a0 : Nat, As = [.ref a0]) (fun _ _ => True) blkX9 := by
  refine ic_met (by decide) rfl (fun h0 As h => by obtain ⟨a0, rfl⟩ := h; simp [lg_sl, Value.category]) ?_
  intro p l e s m args below meth c D dA h0 As ls A Q hok h hin hl hP hD hA kk
  obtain ⟨a0, rfl⟩ := hok
  have l0 : ls[0]? = some (.val (.ref h0)) := js_hl hl List.mem_cons_self
  have l1 : ls[1]? = some (.val (.ref a0)) := js_hl hl (List.mem_cons_of_mem _ List.mem_cons_self)
  have hS : va_S A s.heap s.heap [] := va_S.rf
  refine ic_sup h l0 hl.1 dX9_init_0 dX9_init_1 (⟨js_mem 334 (by decide +kernel) rfl, js_mem 107 (by decide +kernel) rfl, js_mem 108 (by decide +kernel) rfl⟩) ⟨(Nat.le_of_ble_eq_true rfl), (Nat.le_of_ble_eq_true rfl)⟩ ?_
  refine ic_arr h hin l0 dX9_init_4 (fun _ _ _ k => lv_sipush h.1 h.2.1 dX9_init_5 (v := Int32.ofInt 144) (by decide) k) dX9_init_8 dX9_init_10 ic_t0 ifk_X9_9 (N := 144) (by decide) (by decide) rfl (Nat.le_of_ble_eq_true rfl) (Nat.le_of_ble_eq_true rfl) rfl hP hD hS hA (fun q0 H locs hP hD hS => ?_)
  refine ic_set h hin l0 dX9_init_13 (fun _ _ _ k => lv_aload_n h.1 h.2.1 dX9_init_14 rfl l1 k) dX9_init_15 ifk_X9_15 rfl rfl rfl hP hD hS (fun H locs hP hD hS => ?_)
  refine W.widen (k := 1) (n := 144) (Nat.le_of_ble_eq_true rfl) (Nat.le_of_ble_eq_true rfl) ?_
  exact kk (fun i => [q0].getD i 0) _ _ _ ls trivial hP hD hS dX9_init_18
end
