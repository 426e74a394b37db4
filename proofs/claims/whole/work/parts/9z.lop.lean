section
theorem icl_X10 : ic_cl 10 f0X10 RX10 16 := ⟨TX10, tyX10, rfl, js_ucl10, tyX10_ok, fun j hj => by rcases (show j = 0 ∨ j = 1 ∨ j = 2 ∨ j = 3 ∨ j = 4 ∨ j = 5 ∨ j = 6 ∨ j = 7 ∨ j = 8 ∨ j = 9 ∨ j = 10 ∨ j = 11 ∨ j = 12 ∨ j = 13 ∨ j = 14 ∨ j = 15 by omega) with rfl | rfl | rfl | rfl | rfl | rfl | rfl | rfl | rfl | rfl | rfl | rfl | rfl | rfl | rfl | rfl <;> rfl, js_mem 102 (by decide +kernel) rfl, js_mem 81 (by decide +kernel) rfl⟩
theorem icy_X10 : Cond.code yX10_init cX10_init 2 none ∈ js_tb ∧ Cond.initialized yX10_init.cls ∈ js_tb ∧ Cond.instanceMethod yX10_init ∈ js_tb ∧ yX10_init.name = "<init>" ∧ (yX10_init.cls ≠ "java/lang/invoke/MethodHandle" ∧ yX10_init.cls ≠ "java/lang/invoke/VarHandle" ∧ (parseMethodDescriptor yX10_init.desc).map (fun d => d.parameters.length) = some 0) := ⟨js_mem 105 (by decide +kernel) rfl, js_mem 81 (by decide +kernel) rfl, js_mem 104 (by decide +kernel) rfl, rfl, by decide, by decide, by decide +kernel⟩
theorem va_Pl {D : va_G} {w1 w2 : va_W} {H : Heap} (h : va_P D vwCl (w1 ++ w2) H) : va_P D vwCl w1 H := fun k q hk => h k q (by rw [List.getElem?_append_left (List.getElem?_eq_some_iff.mp hk).1]; exact hk)
theorem va_Pr {D : va_G} {w1 w2 : va_W} {H : Heap} (h : va_P D vwCl (w1 ++ w2) H) : va_P D vwCl w2 H := fun k q hk => h (w1.length + k) q (by rw [List.getElem?_append_right (by omega), Nat.add_sub_cancel_left]; exact hk)
theorem va_Dl {A : Nat → Prop} {w1 w2 : va_W} (h : va_D A (w1 ++ w2)) : va_D A w1 := ⟨fun i j a c ha hc e => h.1 i j a c (by rw [List.getElem?_append_left (List.getElem?_eq_some_iff.mp ha).1]; exact ha) (by rw [List.getElem?_append_left (List.getElem?_eq_some_iff.mp hc).1]; exact hc) e, fun k q hk => h.2 k q (by rw [List.getElem?_append_left (List.getElem?_eq_some_iff.mp hk).1]; exact hk)⟩
theorem va_Dr {A : Nat → Prop} {w1 w2 : va_W} (h : va_D A (w1 ++ w2)) : va_D A w2 := by
  have g : ∀ (k : Nat) (q : Nat × va_E), w2[k]? = some q → (w1 ++ w2)[w1.length + k]? = some q := fun k q hk => by rw [List.getElem?_append_right (by omega), Nat.add_sub_cancel_left]; exact hk
  exact ⟨fun i j a c ha hc e => by have := h.1 _ _ a c (g i a ha) (g j c hc) e; omega, fun k q hk => h.2 _ q (g k q hk)⟩
theorem va_Dx {A : Nat → Prop} {w1 w2 : va_W} (h : va_D A (w1 ++ w2)) {i j : Nat} {a c : Nat × va_E} (ha : w1[i]? = some a) (hc : w2[j]? = some c) : a.1 ≠ c.1 := by
  intro e
  have h1 := (List.getElem?_eq_some_iff.mp ha).1
  have := h.1 i (w1.length + j) a c (by rw [List.getElem?_append_left h1]; exact ha) (by rw [List.getElem?_append_right (by omega), Nat.add_sub_cancel_left]; exact hc) e
  omega
theorem lw_sw {x : Int32} : ∃ j : Nat, j < 64 ∧ x &&& 63 = nI j := by
  obtain ⟨j, h1, h2⟩ := pk_andE x (m := 63) 6 (by decide)
  exact ⟨j, h1, h2⟩
theorem lw_end {L i : Nat} (hL : L ≤ 2560) (hi : i ≤ 2570) : (nI L - 5 < nI i ↔ L < i + 5) := by
  have e1 : nI L - 5 = Int32.ofInt ((L : Int) - 5) := by
    rw [Int32.ofInt_sub]; rfl
  have e2 : (nI L - 5).toInt = (L : Int) - 5 := by rw [e1]; exact js_i32 (by omega)
  have e3 : (nI i).toInt = (i : Int) := nI_toInt (by omega)
  rw [Int32.lt_iff_toInt_lt, e2, e3]
  omega
set_option maxRecDepth 100000 in
theorem lw_loop {p : Program} {l : Launch} {e : Env} {s : State} {m : MethodId} {below : List Frame} {meth : Method} {c : Code} {b L : Nat} {xs : Nat → Int32} {D : va_G} {dA : Nat → ClassId} {adC adM kK kV : Nat → Nat} (hF : lw_Fx p s m c b D dA adC adM kK kV) (hX : va_X b L xs s s.heap) (hbl : b < s.heap.size) (hL : L ≤ 2560) (hr : meth.sig.returnType = ret) (hlocks : meth.locks = false) :
    ∀ (n i : Nat) (ls : Array Slot), i ≤ L + 5 → L + 6 ≤ i + n → lv_has ls 4 [(0, .ref b), (1, .ref (adC 0)), (2, .ref (adM 0)), (3, .int (nI i))] → ∀ (μ ν : js_Mm) (H : Heap) (locs : List Loc), lw_J s D dA adC adM μ ν H locs → RR μ ν → lw_V p l e s m below meth c b H locs 18 ls [] := by
  intro n
  induction n with
  | zero => intro i ls h1 h2; exact absurd h2 (by omega)
  | succ n ih =>
    intro i ls hi hin hl μ ν H locs hJ hR
    have f1 := hF.1
    have f2 := hF.2.1
    have hbA : ¬ lw_A s b := Nat.not_le.mpr hbl
    refine lv_iload_n f1 f2 dL_law_18 rfl (lv_at hl 3 rfl) ?_
    refine lv_aload_n f1 f2 dL_law_19 rfl (lv_at hl 0 rfl) ?_
    refine va_slen f1 f2 hX hbl hbA hJ.2.2.1 dL_law_20 ?_
    refine lv_iconst f1 f2 dL_law_21 (v := 5) (by decide) ?_
    refine lv_isub f1 f2 dL_law_22 ?_
    refine lv_icmp_gt (tgt := 1353) f1 f2 dL_law_23 (by decide) (fun c1 => ?_) (fun c1 => ?_)
    · refine lv_iconst f1 f2 dL_law_1353 (v := 1) (by decide) ?_
      refine va_forget (fun q hq => hJ.2.2.1.2.2 q hq) ?_
      refine W.widen (k := 600000) (n := 7302250) (Nat.le_of_ble_eq_true rfl) (Nat.le_of_ble_eq_true rfl) ?_
      exact lw_ret f1 f2 hr hlocks dL_law_1354
    · have hle : i + 5 ≤ L := by
        rcases Nat.lt_or_ge L (i + 5) with q | q
        · exact absurd ((lw_end hL (by omega)).mpr q) c1
        · exact q
      refine lv_aload_n f1 f2 dL_law_26 rfl (lv_at hl 0 rfl) ?_
      refine lv_iload_n f1 f2 dL_law_27 rfl (lv_at hl 3 rfl) ?_
      refine va_sld f1 f2 hX hbl hbA hJ.2.2.1 (vp_in_nI (show i < L by omega) (by omega)) dL_law_28 ?_
      refine lv_bipush f1 f2 dL_law_29 (v := 63) (by decide) ?_
      refine lv_iand f1 f2 dL_law_31 ?_
      have next : ∀ (μ' ν' : js_Mm) (H' : Heap) (locs' : List Loc), lw_J s D dA adC adM μ' ν' H' locs' → RR μ' ν' → lw_V p l e s m below meth c b H' locs' 1347 ls [] := by
        intro μ' ν' H' locs' hJ' hR'
        refine lv_iinc (v := nI (i + 5)) (lv' := [(3, .int (nI (i + 5))), (0, .ref b), (1, .ref (adC 0)), (2, .ref (adM 0))]) f1 f2 dL_law_1347 hl (k := 3) rfl (by rw [← nI_add]; rfl) (by decide) rfl (fun ls1 hl1 => ?_)
        refine lv_goto (tgt := 18) f1 f2 dL_law_1350 (by decide) ?_
        exact ih (i + 5) ls1 (by omega) (by omega) (lv_sub hl1 [1, 2, 3, 0] rfl) μ' ν' H' locs' hJ' hR'
      obtain ⟨j, hj, ej⟩ := lw_sw (x := xs (nI i).toNatClampNeg)
      rw [ej]
      by_cases h36 : 36 < j
      · refine lv_tableOut (tgt := 1347) f1 f2 dL_law_32 (Or.inr ?_) (by decide) (next μ ν H locs hJ hR)
        rw [nI_toInt (by omega)]
        omega
      · rcases (show j = 0 ∨ j = 1 ∨ j = 2 ∨ j = 3 ∨ j = 4 ∨ j = 5 ∨ j = 6 ∨ j = 7 ∨ j = 8 ∨ j = 9 ∨ j = 10 ∨ j = 11 ∨ j = 12 ∨ j = 13 ∨ j = 14 ∨ j = 15 ∨ j = 16 ∨ j = 17 ∨ j = 18 ∨ j = 19 ∨ j = 20 ∨ j = 21 ∨ j = 22 ∨ j = 23 ∨ j = 24 ∨ j = 25 ∨ j = 26 ∨ j = 27 ∨ j = 28 ∨ j = 29 ∨ j = 30 ∨ j = 31 ∨ j = 32 ∨ j = 33 ∨ j = 34 ∨ j = 35 ∨ j = 36 by omega) with rfl | rfl | rfl | rfl | rfl | rfl | rfl | rfl | rfl | rfl | rfl | rfl | rfl | rfl | rfl | rfl | rfl | rfl | rfl | rfl | rfl | rfl | rfl | rfl | rfl | rfl | rfl | rfl | rfl | rfl | rfl | rfl | rfl | rfl | rfl | rfl | rfl
        · exact lv_tableIn (tgt := 196) (off := 164) f1 f2 dL_law_32 (by decide) (by decide) (by decide) (by decide) (lc_0 p l e s m below meth c b L xs D dA adC adM kK kV i ls hF hX hbl hL hle hl μ ν H locs hJ hR next)
        · exact lv_tableIn (tgt := 259) (off := 227) f1 f2 dL_law_32 (by decide) (by decide) (by decide) (by decide) (lc_1 p l e s m below meth c b L xs D dA adC adM kK kV i ls hF hX hbl hL hle hl μ ν H locs hJ hR next)
        · exact lv_tableIn (tgt := 272) (off := 240) f1 f2 dL_law_32 (by decide) (by decide) (by decide) (by decide) (lc_2 p l e s m below meth c b L xs D dA adC adM kK kV i ls hF hX hbl hL hle hl μ ν H locs hJ hR next)
        · exact lv_tableIn (tgt := 285) (off := 253) f1 f2 dL_law_32 (by decide) (by decide) (by decide) (by decide) (lc_3 p l e s m below meth c b L xs D dA adC adM kK kV i ls hF hX hbl hL hle hl μ ν H locs hJ hR next)
        · exact lv_tableIn (tgt := 298) (off := 266) f1 f2 dL_law_32 (by decide) (by decide) (by decide) (by decide) (lc_4 p l e s m below meth c b L xs D dA adC adM kK kV i ls hF hX hbl hL hle hl μ ν H locs hJ hR next)
        · exact lv_tableIn (tgt := 321) (off := 289) f1 f2 dL_law_32 (by decide) (by decide) (by decide) (by decide) (lc_5 p l e s m below meth c b L xs D dA adC adM kK kV i ls hF hX hbl hL hle hl μ ν H locs hJ hR next)
        · exact lv_tableIn (tgt := 354) (off := 322) f1 f2 dL_law_32 (by decide) (by decide) (by decide) (by decide) (lc_6 p l e s m below meth c b L xs D dA adC adM kK kV i ls hF hX hbl hL hle hl μ ν H locs hJ hR next)
        · exact lv_tableIn (tgt := 387) (off := 355) f1 f2 dL_law_32 (by decide) (by decide) (by decide) (by decide) (lc_7 p l e s m below meth c b L xs D dA adC adM kK kV i ls hF hX hbl hL hle hl μ ν H locs hJ hR next)
        · exact lv_tableIn (tgt := 420) (off := 388) f1 f2 dL_law_32 (by decide) (by decide) (by decide) (by decide) (lc_8 p l e s m below meth c b L xs D dA adC adM kK kV i ls hF hX hbl hL hle hl μ ν H locs hJ hR next)
        · exact lv_tableIn (tgt := 463) (off := 431) f1 f2 dL_law_32 (by decide) (by decide) (by decide) (by decide) (lc_9 p l e s m below meth c b L xs D dA adC adM kK kV i ls hF hX hbl hL hle hl μ ν H locs hJ hR next)
        · exact lv_tableIn (tgt := 496) (off := 464) f1 f2 dL_law_32 (by decide) (by decide) (by decide) (by decide) (lc_10 p l e s m below meth c b L xs D dA adC adM kK kV i ls hF hX hbl hL hle hl μ ν H locs hJ hR next)
        · exact lv_tableIn (tgt := 529) (off := 497) f1 f2 dL_law_32 (by decide) (by decide) (by decide) (by decide) (lc_11 p l e s m below meth c b L xs D dA adC adM kK kV i ls hF hX hbl hL hle hl μ ν H locs hJ hR next)
        · exact lv_tableIn (tgt := 552) (off := 520) f1 f2 dL_law_32 (by decide) (by decide) (by decide) (by decide) (lc_12 p l e s m below meth c b L xs D dA adC adM kK kV i ls hF hX hbl hL hle hl μ ν H locs hJ hR next)
        · exact lv_tableIn (tgt := 595) (off := 563) f1 f2 dL_law_32 (by decide) (by decide) (by decide) (by decide) (lc_13 p l e s m below meth c b L xs D dA adC adM kK kV i ls hF hX hbl hL hle hl μ ν H locs hJ hR next)
        · exact lv_tableIn (tgt := 638) (off := 606) f1 f2 dL_law_32 (by decide) (by decide) (by decide) (by decide) (lc_14 p l e s m below meth c b L xs D dA adC adM kK kV i ls hF hX hbl hL hle hl μ ν H locs hJ hR next)
        · exact lv_tableIn (tgt := 661) (off := 629) f1 f2 dL_law_32 (by decide) (by decide) (by decide) (by decide) (lc_15 p l e s m below meth c b L xs D dA adC adM kK kV i ls hF hX hbl hL hle hl μ ν H locs hJ hR next)
        · exact lv_tableIn (tgt := 704) (off := 672) f1 f2 dL_law_32 (by decide) (by decide) (by decide) (by decide) (lc_16 p l e s m below meth c b L xs D dA adC adM kK kV i ls hF hX hbl hL hle hl μ ν H locs hJ hR next)
        · exact lv_tableIn (tgt := 747) (off := 715) f1 f2 dL_law_32 (by decide) (by decide) (by decide) (by decide) (lc_17 p l e s m below meth c b L xs D dA adC adM kK kV i ls hF hX hbl hL hle hl μ ν H locs hJ hR next)
        · exact lv_tableIn (tgt := 780) (off := 748) f1 f2 dL_law_32 (by decide) (by decide) (by decide) (by decide) (lc_18 p l e s m below meth c b L xs D dA adC adM kK kV i ls hF hX hbl hL hle hl μ ν H locs hJ hR next)
        · exact lv_tableIn (tgt := 823) (off := 791) f1 f2 dL_law_32 (by decide) (by decide) (by decide) (by decide) (lc_19 p l e s m below meth c b L xs D dA adC adM kK kV i ls hF hX hbl hL hle hl μ ν H locs hJ hR next)
        · exact lv_tableIn (tgt := 836) (off := 804) f1 f2 dL_law_32 (by decide) (by decide) (by decide) (by decide) (lc_20 p l e s m below meth c b L xs D dA adC adM kK kV i ls hF hX hbl hL hle hl μ ν H locs hJ hR next)
        · exact lv_tableIn (tgt := 879) (off := 847) f1 f2 dL_law_32 (by decide) (by decide) (by decide) (by decide) (lc_21 p l e s m below meth c b L xs D dA adC adM kK kV i ls hF hX hbl hL hle hl μ ν H locs hJ hR next)
        · exact lv_tableIn (tgt := 892) (off := 860) f1 f2 dL_law_32 (by decide) (by decide) (by decide) (by decide) (lc_22 p l e s m below meth c b L xs D dA adC adM kK kV i ls hF hX hbl hL hle hl μ ν H locs hJ hR next)
        · exact lv_tableIn (tgt := 915) (off := 883) f1 f2 dL_law_32 (by decide) (by decide) (by decide) (by decide) (lc_23 p l e s m below meth c b L xs D dA adC adM kK kV i ls hF hX hbl hL hle hl μ ν H locs hJ hR next)
        · exact lv_tableIn (tgt := 938) (off := 906) f1 f2 dL_law_32 (by decide) (by decide) (by decide) (by decide) (lc_24 p l e s m below meth c b L xs D dA adC adM kK kV i ls hF hX hbl hL hle hl μ ν H locs hJ hR next)
        · exact lv_tableIn (tgt := 991) (off := 959) f1 f2 dL_law_32 (by decide) (by decide) (by decide) (by decide) (lc_25 p l e s m below meth c b L xs D dA adC adM kK kV i ls hF hX hbl hL hle hl μ ν H locs hJ hR next)
        · exact lv_tableIn (tgt := 1034) (off := 1002) f1 f2 dL_law_32 (by decide) (by decide) (by decide) (by decide) (lc_26 p l e s m below meth c b L xs D dA adC adM kK kV i ls hF hX hbl hL hle hl μ ν H locs hJ hR next)
        · exact lv_tableIn (tgt := 1067) (off := 1035) f1 f2 dL_law_32 (by decide) (by decide) (by decide) (by decide) (lc_27 p l e s m below meth c b L xs D dA adC adM kK kV i ls hF hX hbl hL hle hl μ ν H locs hJ hR next)
        · exact lv_tableIn (tgt := 1110) (off := 1078) f1 f2 dL_law_32 (by decide) (by decide) (by decide) (by decide) (lc_28 p l e s m below meth c b L xs D dA adC adM kK kV i ls hF hX hbl hL hle hl μ ν H locs hJ hR next)
        · exact lv_tableIn (tgt := 1143) (off := 1111) f1 f2 dL_law_32 (by decide) (by decide) (by decide) (by decide) (lc_29 p l e s m below meth c b L xs D dA adC adM kK kV i ls hF hX hbl hL hle hl μ ν H locs hJ hR next)
        · exact lv_tableIn (tgt := 1186) (off := 1154) f1 f2 dL_law_32 (by decide) (by decide) (by decide) (by decide) (lc_30 p l e s m below meth c b L xs D dA adC adM kK kV i ls hF hX hbl hL hle hl μ ν H locs hJ hR next)
        · exact lv_tableIn (tgt := 1219) (off := 1187) f1 f2 dL_law_32 (by decide) (by decide) (by decide) (by decide) (lc_31 p l e s m below meth c b L xs D dA adC adM kK kV i ls hF hX hbl hL hle hl μ ν H locs hJ hR next)
        · exact lv_tableIn (tgt := 1232) (off := 1200) f1 f2 dL_law_32 (by decide) (by decide) (by decide) (by decide) (lc_32 p l e s m below meth c b L xs D dA adC adM kK kV i ls hF hX hbl hL hle hl μ ν H locs hJ hR next)
        · exact lv_tableIn (tgt := 1265) (off := 1233) f1 f2 dL_law_32 (by decide) (by decide) (by decide) (by decide) (lc_33 p l e s m below meth c b L xs D dA adC adM kK kV i ls hF hX hbl hL hle hl μ ν H locs hJ hR next)
        · exact lv_tableIn (tgt := 1278) (off := 1246) f1 f2 dL_law_32 (by decide) (by decide) (by decide) (by decide) (lc_34 p l e s m below meth c b L xs D dA adC adM kK kV i ls hF hX hbl hL hle hl μ ν H locs hJ hR next)
        · exact lv_tableIn (tgt := 1301) (off := 1269) f1 f2 dL_law_32 (by decide) (by decide) (by decide) (by decide) (lc_35 p l e s m below meth c b L xs D dA adC adM kK kV i ls hF hX hbl hL hle hl μ ν H locs hJ hR next)
        · exact lv_tableIn (tgt := 1324) (off := 1292) f1 f2 dL_law_32 (by decide) (by decide) (by decide) (by decide) (lc_36 p l e s m below meth c b L xs D dA adC adM kK kV i ls hF hX hbl hL hle hl μ ν H locs hJ hR next)
end
