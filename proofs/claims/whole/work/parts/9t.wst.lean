section
theorem ifk_X10_12 : ic_fk RX10 12 10 0 (.object "TwoRumours$Text") := ⟨TX10, 16, tyX10, rfl, by decide, js_ucl10, tyX10_ok, nmX10, js_mem 428 (by decide +kernel) rfl, rfl, rfl⟩
theorem ifk_X10_19 : ic_fk RX10 19 10 1 (.object "TwoRumours$Town") := ⟨TX10, 16, tyX10, rfl, by decide, js_ucl10, tyX10_ok, nmX10, js_mem 429 (by decide +kernel) rfl, rfl, rfl⟩
theorem ifk_X10_23 : ic_fk RX10 23 10 2 (.object "TwoRumours$Town") := ⟨TX10, 16, tyX10, rfl, by decide, js_ucl10, tyX10_ok, nmX10, js_mem 430 (by decide +kernel) rfl, rfl, rfl⟩
theorem ifk_X10_29 : ic_fk RX10 29 10 3 (.object "TwoRumours$Lore") := ⟨TX10, 16, tyX10, rfl, by decide, js_ucl10, tyX10_ok, nmX10, js_mem 431 (by decide +kernel) rfl, rfl, rfl⟩
theorem ifk_X10_33 : ic_fk RX10 33 10 4 (.object "TwoRumours$Lore") := ⟨TX10, 16, tyX10, rfl, by decide, js_ucl10, tyX10_ok, nmX10, js_mem 432 (by decide +kernel) rfl, rfl, rfl⟩
theorem ifk_X10_39 : ic_fk RX10 39 10 5 (.object "TwoRumours$Rules") := ⟨TX10, 16, tyX10, rfl, by decide, js_ucl10, tyX10_ok, nmX10, js_mem 433 (by decide +kernel) rfl, rfl, rfl⟩
theorem ifk_X10_48 : ic_fk RX10 48 10 6 (.object "TwoRumours$Telling") := ⟨TX10, 16, tyX10, rfl, by decide, js_ucl10, tyX10_ok, nmX10, js_mem 434 (by decide +kernel) rfl, rfl, rfl⟩
theorem ifk_X10_55 : ic_fk RX10 55 10 7 (.object "TwoRumours$Course") := ⟨TX10, 16, tyX10, rfl, by decide, js_ucl10, tyX10_ok, nmX10, js_mem 435 (by decide +kernel) rfl, rfl, rfl⟩
theorem ifk_X10_59 : ic_fk RX10 59 10 8 (.object "TwoRumours$Course") := ⟨TX10, 16, tyX10, rfl, by decide, js_ucl10, tyX10_ok, nmX10, js_mem 436 (by decide +kernel) rfl, rfl, rfl⟩
theorem ifk_X10_62 : ic_fk RX10 62 10 9 (.object "TwoRumours$Course") := ⟨TX10, 16, tyX10, rfl, by decide, js_ucl10, tyX10_ok, nmX10, js_mem 437 (by decide +kernel) rfl, rfl, rfl⟩
theorem ifk_X10_65 : ic_fk RX10 65 10 10 (.array (.object "TwoRumours$Course")) := ⟨TX10, 16, tyX10, rfl, by decide, js_ucl10, tyX10_ok, nmX10, js_mem 438 (by decide +kernel) rfl, rfl, rfl⟩
theorem ifk_X10_74 : ic_fk RX10 74 10 11 (.object "TwoRumours$Ways") := ⟨TX10, 16, tyX10, rfl, by decide, js_ucl10, tyX10_ok, nmX10, js_mem 439 (by decide +kernel) rfl, rfl, rfl⟩
theorem ifk_X10_81 : ic_fk RX10 81 10 12 (.object "TwoRumours$Interviews") := ⟨TX10, 16, tyX10, rfl, by decide, js_ucl10, tyX10_ok, nmX10, js_mem 440 (by decide +kernel) rfl, rfl, rfl⟩
theorem ifk_X10_90 : ic_fk RX10 90 10 13 (.object "TwoRumours$Net") := ⟨TX10, 16, tyX10, rfl, by decide, js_ucl10, tyX10_ok, nmX10, js_mem 441 (by decide +kernel) rfl, rfl, rfl⟩
theorem ifk_X10_97 : ic_fk RX10 97 10 14 (.object "TwoRumours$Land") := ⟨TX10, 16, tyX10, rfl, by decide, js_ucl10, tyX10_ok, nmX10, js_mem 442 (by decide +kernel) rfl, rfl, rfl⟩
theorem ifk_X10_101 : ic_fk RX10 101 10 15 (.int) := ⟨TX10, 16, tyX10, rfl, by decide, js_ucl10, tyX10_ok, nmX10, js_mem 443 (by decide +kernel) rfl, rfl, rfl⟩
abbrev f0X10 : List Value := [.null, .null, .null, .null, .null, .null, .null, .null, .null, .null, .null, .null, .null, .null, .null, .int (Int32.ofInt 0)]
/-- the class's start -/
def mu0 : js_Mm := fun k => if k = 100 then (fun _ => -1) else if k = 29 then (fun j => if j = 0 then 3 else if j = 1 then 20 else 0) else if k = 1 then (fun j => if j = 7 then -1 else 0) else if k = 0 then (fun j => if j = 15 then -1 else 0) else fun _ => 0
def ad10 (h : Nat) (u : Nat → Nat) : Nat → Nat := fun k => if k = 0 then h else u k
def blkX10 (dA : Nat → ClassId) (h : Nat) (_ : List Value) (u : Nat → Nat) : va_W := js_ws 0 (ad10 h u) dA mu0
set_option maxRecDepth 1000000 in
set_option maxHeartbeats 8000000 in
theorem ws10 (dA : Nat → ClassId) (h0 q1 q2 q3 q4 q5 q6 q7 q8 q9 q10 q11 q12 q13 q14 q15 q16 qI : Nat) (u1 u2 u3 u4 u5 u6 u7 u8 u9 u10 u11 u12 u13 u14 u15 u16 : Nat → Nat) : ((h0, .inr (10, [.ref q1, .ref q2, .ref q3, .ref q4, .ref q5, .ref q6, .ref q7, .ref q8, .ref q9, .ref q10, .ref qI, .ref q13, .ref q14, .ref q15, .ref q16, .int (Int32.ofInt (-1))])) :: ((((((((((((((([] ++ blkX7 dA q1 [] u1) ++ blkX8 dA q2 [] u2) ++ blkX8 dA q3 [] u3) ++ blkX3 dA q4 [] u4) ++ blkX3 dA q5 [] u5) ++ blkX5 dA q6 [] u6) ++ blkX6 dA q7 [.ref q2, .ref q4, .ref q6] u7) ++ blkX0 dA q8 [] u8) ++ blkX0 dA q9 [] u9) ++ blkX0 dA q10 [] u10) ++ (qI, .inl (dA 4, 2, .inr (.inr (.inr (.inr (fun j => some (if j = 0 then q11 else if j = 1 then q12 else h0))))))) :: (blkX0 dA q11 [] u11 ++ blkX0 dA q12 [] u12)) ++ blkX9 dA q13 [.ref q8] u13) ++ blkX1 dA q14 [] u14) ++ blkX4 dA q15 [.ref q2] u15) ++ blkX2 dA q16 [] u16) : va_W) = js_ws 0 (ad10 h0 (fun k => [h0, q1, u1 0, q2, u2 0, u2 1, u2 2, u2 3, u2 4, u2 5, q3, u3 0, u3 1, u3 2, u3 3, u3 4, u3 5, q4, u4 0, u4 1, u4 2, u4 3, u4 4, q5, u5 0, u5 1, u5 2, u5 3, u5 4, q6, q7, q8, u8 0, u8 1, u8 2, u8 3, u8 4, u8 5, u8 6, u8 7, u8 8, u8 9, q9, u9 0, u9 1, u9 2, u9 3, u9 4, u9 5, u9 6, u9 7, u9 8, u9 9, q10, u10 0, u10 1, u10 2, u10 3, u10 4, u10 5, u10 6, u10 7, u10 8, u10 9, qI, q11, u11 0, u11 1, u11 2, u11 3, u11 4, u11 5, u11 6, u11 7, u11 8, u11 9, q12, u12 0, u12 1, u12 2, u12 3, u12 4, u12 5, u12 6, u12 7, u12 8, u12 9, q13, u13 0, q14, u14 0, u14 1, q15, u15 0, u15 1, u15 2, u15 3, q16, u16 0, u16 1, u16 2].getD k 0)) dA mu0 := by
  have hG : (fun j => some (if j = 0 then q11 else if j = 1 then q12 else h0)) = (fun j => some (ad10 h0 (fun k => [h0, q1, u1 0, q2, u2 0, u2 1, u2 2, u2 3, u2 4, u2 5, q3, u3 0, u3 1, u3 2, u3 3, u3 4, u3 5, q4, u4 0, u4 1, u4 2, u4 3, u4 4, q5, u5 0, u5 1, u5 2, u5 3, u5 4, q6, q7, q8, u8 0, u8 1, u8 2, u8 3, u8 4, u8 5, u8 6, u8 7, u8 8, u8 9, q9, u9 0, u9 1, u9 2, u9 3, u9 4, u9 5, u9 6, u9 7, u9 8, u9 9, q10, u10 0, u10 1, u10 2, u10 3, u10 4, u10 5, u10 6, u10 7, u10 8, u10 9, qI, q11, u11 0, u11 1, u11 2, u11 3, u11 4, u11 5, u11 6, u11 7, u11 8, u11 9, q12, u12 0, u12 1, u12 2, u12 3, u12 4, u12 5, u12 6, u12 7, u12 8, u12 9, q13, u13 0, q14, u14 0, u14 1, q15, u15 0, u15 1, u15 2, u15 3, q16, u16 0, u16 1, u16 2].getD k 0) (js_rt 0 64 j)) : Nat → Option Nat) := by
    funext j
    match j with
    | 0 => rfl
    | 1 => rfl
    | (j + 2) => rfl
  rw [hG]
  rfl
end
