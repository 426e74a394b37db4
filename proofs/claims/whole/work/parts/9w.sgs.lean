section
/-! ===== what the Statement gives of the start: strings, classes, array classes ===== -/
def tmS (i : Nat) : Term := match js_so[i]? with
  | some q => .string q.1 q.2.1
  | none => .string "" 0
theorem st_fl1 : ∀ i, i < 9 → Cond.exactly (tmS i) "java/lang/String" ∈ flatC (Jvm.Cond.and given_1 narrow_1) := by decide +kernel
theorem st_fl2 : ∀ i, i < 9 → Cond.eq (.field (tmS i) "java/lang/String" "coder" "B") (.int 0) ∈ flatC (Jvm.Cond.and given_1 narrow_1) := by decide +kernel
theorem st_fl3 : ∀ i, i < 9 → Cond.arrayOf (.field (tmS i) "java/lang/String" "value" "[B") .byte ∈ flatC (Jvm.Cond.and given_1 narrow_1) := by decide +kernel
theorem st_fl4 : ∀ i, i < 9 → Cond.eq (.length (.field (tmS i) "java/lang/String" "value" "[B")) (.int (Int32.ofNat (js_sl.getD i 0))) ∈ flatC (Jvm.Cond.and given_1 narrow_1) := by decide +kernel
theorem st_fl5 : ∀ i, i < 9 → ∀ j, j < js_sl.getD i 0 → Cond.eq (.elem (.field (tmS i) "java/lang/String" "value" "[B") (.int (Int32.ofNat j))) (.int ((js_sb.getD i []).getD j 0)) ∈ flatC (Jvm.Cond.and given_1 narrow_1) := by decide +kernel
theorem st_fl6 : ∀ i, i < 9 → ∀ j, j < 9 → i ≠ j → Cond.not (Cond.eq (tmS i) (tmS j)) ∈ flatC (Jvm.Cond.and given_1 narrow_1) ∨ Cond.not (Cond.eq (tmS j) (tmS i)) ∈ flatC (Jvm.Cond.and given_1 narrow_1) := by decide +kernel
theorem st_fl7 : Cond.eq (.static "java/lang/String" "COMPACT_STRINGS" "Z") (.int 1) ∈ flatC (Jvm.Cond.and given_1 narrow_1) := by decide +kernel
theorem st_fl8 : Cond.isRef (.static "jdk/internal/util/Preconditions" "SIOOBE_FORMATTER" "Ljava/util/function/BiFunction;") ∈ flatC (Jvm.Cond.and given_1 narrow_1) := by decide +kernel
theorem st_lw {w : Cond} (i : Nat) (h : lw_tbl[i]? = some w) : w ∈ lw_tbl := List.mem_of_getElem? h
theorem sg_start {args : Array Value} {s : State} (hgv : (Jvm.Cond.and given_1 narrow_1).before args s = true) (hts : ∀ w ∈ lw_tbl, w.before args s = true) : ∃ kK kV : Nat → Nat, ∀ (ad : Nat → Nat) (D : va_G) (dA : Nat → ClassId), js_sg (ad, D, dA, kK, kV) (fun q => s.heap.size ≤ q) s s.heap := by
  have hs := flat_of_before _ hgv
  have hA : ∀ a : Nat, a < s.heap.size → ¬ (fun q => s.heap.size ≤ q) a := fun a h => Nat.not_le.mpr h
  obtain ⟨kK, kV, h1, h2⟩ := vk_Sof (args := args) (s := s) (N := 9) (tm := tmS) (len := js_sl) (byt := js_sb) (A := fun q => s.heap.size ≤ q) (by decide) (fun i hi => hs _ (st_fl1 i hi)) (fun i hi => hs _ (st_fl2 i hi)) (fun i hi => hs _ (st_fl3 i hi)) (fun i hi => hs _ (st_fl4 i hi)) (fun i hi j hj => hs _ (st_fl5 i hi j hj)) (fun i j hi hj hij => (st_fl6 i hi j hj hij).imp (fun h => hs _ h) (fun h => hs _ h)) hA
  refine ⟨kK, kV, fun ad D dA => ⟨h1, fun i q hi => ?_, va_Zof (hts _ (st_lw 534 (by decide +kernel))) (hts _ (st_lw 94 (by decide +kernel))) (va_eqi (hs _ st_fl7)) hA, va_Zqof (hts _ (st_lw 550 (by decide +kernel))) (hts _ (st_lw 96 (by decide +kernel))) (hs _ st_fl8) hA⟩⟩
  have h9 : i < 9 := (List.getElem?_eq_some_iff.mp hi).1
  have hev := h2 i h9
  have hst : (Cond.stringRef q.1 q.2.1 q.2.2).before args s = true := by
    rcases (show i = 0 ∨ i = 1 ∨ i = 2 ∨ i = 3 ∨ i = 4 ∨ i = 5 ∨ i = 6 ∨ i = 7 ∨ i = 8 by omega) with rfl | rfl | rfl | rfl | rfl | rfl | rfl | rfl | rfl <;> cases hi
    · exact hts _ (st_lw 520 (by decide +kernel))
    · exact hts _ (st_lw 606 (by decide +kernel))
    · exact hts _ (st_lw 591 (by decide +kernel))
    · exact hts _ (st_lw 597 (by decide +kernel))
    · exact hts _ (st_lw 656 (by decide +kernel))
    · exact hts _ (st_lw 664 (by decide +kernel))
    · exact hts _ (st_lw 667 (by decide +kernel))
    · exact hts _ (st_lw 668 (by decide +kernel))
    · exact hts _ (st_lw 679 (by decide +kernel))
  refine vk_R.of hst ?_
  have e : tmS i = .string q.1 q.2.1 := by unfold tmS; rw [hi]
  rw [e] at hev
  exact hev
theorem st_tb {args : Array Value} {s : State} (hts : ∀ w ∈ lw_tbl, w.before args s = true) : ∀ w ∈ js_tb, w.before args s = true := fun w hw => hts w (List.mem_filter.mp hw).1
theorem nw_start {args : Array Value} {s : State} (hts : ∀ w ∈ lw_tbl, w.before args s = true) : ic_nw s := by
  refine ⟨fun q hq => ?_, va_AO.of (hts _ (st_lw 328 (by decide +kernel)))⟩
  simp only [ic_nest, List.mem_cons, List.not_mem_nil, or_false] at hq
  rcases hq with rfl | rfl | rfl | rfl | rfl | rfl
  · exact va_Nw.of rfl (hts _ (st_lw 111 (by decide +kernel)))
  · exact va_Nw.of rfl (hts _ (st_lw 148 (by decide +kernel)))
  · exact va_Nw.of rfl (hts _ (st_lw 198 (by decide +kernel)))
  · exact va_Nw.of rfl (hts _ (st_lw 229 (by decide +kernel)))
  · exact va_Nw.of rfl (hts _ (st_lw 262 (by decide +kernel)))
  · exact va_Nw.of rfl (hts _ (st_lw 349 (by decide +kernel)))
theorem ak_start {args : Array Value} {s : State} {ty : FieldType} (h : (Cond.arrayClass ty).before args s = true) (hp : ∀ C, ty ≠ .object C) : ∃ cA : ClassId, ArrOfT s cA ty ∧ va_RA s cA ty := by
  obtain ⟨cA, k, comp, h1, h2, h3⟩ := Cond.arrayClass_spec h
  refine ⟨cA, fun n z => ⟨fun k h => (by cases h), k, h2, comp, h3⟩, ?_⟩
  cases ty with
  | object C => exact absurd rfl (hp C)
  | _ => exact h1
theorem ao_start {args : Array Value} {s : State} {C : String} (h : (Cond.arrayOver (.object C)).before args s = true) : ∃ cA : ClassId, ArrOfT s cA (.object C) ∧ va_RA s cA (.object C) := by
  obtain ⟨comp, cA, k, h1, h2, h3, h4, h5⟩ := Cond.arrayOver_spec h
  exact ⟨cA, fun n z => ⟨fun k h => (by cases h), k, h3, comp, h4⟩, k, comp, h3, h4, h1, h5⟩
theorem kn_start {args : Array Value} {s : State} (hts : ∀ w ∈ lw_tbl, w.before args s = true) : ∃ (D : va_G) (dA : Nat → ClassId), va_K D vwCl (js_tys dA) s := by
  have ht := st_tb hts
  have hu : ∀ k : Nat, ∃ q : ClassId × (Nat → Nat), ∀ r, vwCl[k]? = some r → u_Kn s r.1 r.2.1 r.2.2 q.1 q.2 := by
    intro k
    by_cases hk : k < 12
    · have G : ∀ (C : String) (T : u_T) (N : Nat), (∀ w ∈ u_ws C T N, w ∈ js_tb) → (Cond.instantiable C N).before args s = true → ∃ q : ClassId × (Nat → Nat), u_Kn s C T N q.1 q.2 := by
        intro C T N h1 h2
        obtain ⟨cC, iS, h⟩ := u_known ht h1 h2
        exact ⟨(cC, iS), h⟩
      rcases (show k = 0 ∨ k = 1 ∨ k = 2 ∨ k = 3 ∨ k = 4 ∨ k = 5 ∨ k = 6 ∨ k = 7 ∨ k = 8 ∨ k = 9 ∨ k = 10 ∨ k = 11 by omega) with rfl | rfl | rfl | rfl | rfl | rfl | rfl | rfl | rfl | rfl | rfl | rfl
      · obtain ⟨q, h⟩ := G RX0 TX0 15 js_ucl0 (hts _ (st_lw 261 (by decide +kernel))); exact ⟨q, fun r hr => by cases hr; exact h⟩
      · obtain ⟨q, h⟩ := G RX1 TX1 3 js_ucl1 (hts _ (st_lw 348 (by decide +kernel))); exact ⟨q, fun r hr => by cases hr; exact h⟩
      · obtain ⟨q, h⟩ := G RX2 TX2 7 js_ucl2 (hts _ (st_lw 394 (by decide +kernel))); exact ⟨q, fun r hr => by cases hr; exact h⟩
      · obtain ⟨q, h⟩ := G RX3 TX3 6 js_ucl3 (hts _ (st_lw 197 (by decide +kernel))); exact ⟨q, fun r hr => by cases hr; exact h⟩
      · obtain ⟨q, h⟩ := G RX4 TX4 7 js_ucl4 (hts _ (st_lw 364 (by decide +kernel))); exact ⟨q, fun r hr => by cases hr; exact h⟩
      · obtain ⟨q, h⟩ := G RX5 TX5 2 js_ucl5 (hts _ (st_lw 228 (by decide +kernel))); exact ⟨q, fun r hr => by cases hr; exact h⟩
      · obtain ⟨q, h⟩ := G RX6 TX6 3 js_ucl6 (hts _ (st_lw 245 (by decide +kernel))); exact ⟨q, fun r hr => by cases hr; exact h⟩
      · obtain ⟨q, h⟩ := G RX7 TX7 8 js_ucl7 (hts _ (st_lw 110 (by decide +kernel))); exact ⟨q, fun r hr => by cases hr; exact h⟩
      · obtain ⟨q, h⟩ := G RX8 TX8 9 js_ucl8 (hts _ (st_lw 147 (by decide +kernel))); exact ⟨q, fun r hr => by cases hr; exact h⟩
      · obtain ⟨q, h⟩ := G RX9 TX9 3 js_ucl9 (hts _ (st_lw 330 (by decide +kernel))); exact ⟨q, fun r hr => by cases hr; exact h⟩
      · obtain ⟨q, h⟩ := G RX10 TX10 16 js_ucl10 (hts _ (st_lw 102 (by decide +kernel))); exact ⟨q, fun r hr => by cases hr; exact h⟩
      · obtain ⟨q, h⟩ := G RX11 TX11 41 js_ucl11 (hts _ (st_lw 1118 (by decide +kernel))); exact ⟨q, fun r hr => by cases hr; exact h⟩
    · exact ⟨(0, fun _ => 0), fun r hr => absurd (List.getElem?_eq_some_iff.mp hr).1 hk⟩
  obtain ⟨f, hf⟩ := Classical.axiomOfChoice hu
  obtain ⟨a0, A0, B0⟩ := ak_start (ty := .int) (hts _ (st_lw 195 (by decide +kernel))) (fun C h => by cases h)
  obtain ⟨a1, A1, B1⟩ := ak_start (ty := .long) (hts _ (st_lw 392 (by decide +kernel))) (fun C h => by cases h)
  obtain ⟨a2, A2, B2⟩ := ak_start (ty := .char) (hts _ (st_lw 145 (by decide +kernel))) (fun C h => by cases h)
  obtain ⟨a3, A3, B3⟩ := ak_start (ty := .boolean) (hts _ (st_lw 1247 (by decide +kernel))) (fun C h => by cases h)
  obtain ⟨a4, A4, B4⟩ := ao_start (C := "TwoRumours$Course") (hts _ (st_lw 328 (by decide +kernel)))
  refine ⟨(fun k => (f k).1, fun k => (f k).2), fun t => if t = 0 then a0 else if t = 1 then a1 else if t = 2 then a2 else if t = 3 then a3 else a4, fun k q hq => hf k q hq, fun k q hq => ?_⟩
  match k, hq with
  | 0, hq => cases hq; exact ⟨A0, B0⟩
  | 1, hq => cases hq; exact ⟨A1, B1⟩
  | 2, hq => cases hq; exact ⟨A2, B2⟩
  | 3, hq => cases hq; exact ⟨A3, B3⟩
  | 4, hq => cases hq; exact ⟨A4, B4⟩
  | k + 5, hq => simp [js_tys] at hq
end
