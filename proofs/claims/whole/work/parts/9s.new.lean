section
variable {p : Program} {l : Launch} {e : Env} {R : Room} {s : State} {m : MethodId} {args : Array Value} {below : List Frame} {meth : Method} {c : Code} {H H0 : Heap} {locs : List Loc} {cells slots : Nat} {Q : State → Prop}
variable {cc : ByteArray} {nL pc p1 p2 : Nat} {own : String} {ls : Array Slot} {rest : List Value} {D : va_G} {dA : Nat → ClassId} {A : Nat → Prop} {ws : va_W}
def ic_cl (ci : Nat) (f0 : List Value) (C : String) (N : Nat) : Prop := ∃ (T : u_T) (ty : Nat → FieldType), vwCl[ci]? = some (C, T, N) ∧ (∀ w ∈ u_ws C T N, w ∈ js_tb) ∧ (∀ k, k < N → parseFieldDescriptor (T k).2.2.1 = some (ty k)) ∧ (∀ j, j < N → defaultValue (ty j) = vp_V f0 j) ∧ Cond.instantiable C N ∈ js_tb ∧ Cond.initialized C ∈ js_tb
/-- new C, dup -/
theorem ic_newo (h : ic_ok cc nL own D dA p s m args c) {ci N idx : Nat} {f0 : List Value} {C : String} (hc : ic_cl ci f0 C N) (hl : Cond.classLink own idx C ∈ js_tb) (hP : va_P D vwCl ws H) (hD : va_D A ws) (hS : va_S A H0 H locs) (hA : ∀ q, H0.size ≤ q → A q) (hcells : cells + 1 ≤ R.cells) (hslots : slots + N ≤ R.slots) (d1 : decode cc pc = .ok (.new idx, 3)) (d2 : decode cc (pc + 3) = .ok (.dup, 1))
    (kk : ∀ (q : Nat) (H1 : Heap), va_P D vwCl (ws ++ [(q, .inr (ci, f0))]) H1 → va_D A (ws ++ [(q, .inr (ci, f0))]) → va_S A H0 H1 locs → W p l e R s m args below meth c H1 locs (cells + 1) (slots + N) Q (F0 m (pc + 4) ls (.ref q :: .ref q :: rest))) : W p l e R s m args below meth c H locs cells slots Q (F0 m pc ls rest) := by
  obtain ⟨h1, h2, h3, h4, h5, h6, h7⟩ := h
  obtain ⟨T, ty, c1, c2, c3, c4, c5, c6⟩ := hc
  refine va_new h1 h2 h5 c2 ty c3 h4 (h5 _ hl) (h5 _ c5) (h5 _ c6) h6 hP hD hS hA c1 c4 hcells hslots d1 (fun q H1 hP1 hD1 hS1 => ?_)
  exact lv_dup h1 h2 d2 rfl (kk q H1 hP1 hD1 hS1)
theorem ic_ast (h : ic_ok cc nL own D dA p s m args c) {w1 w2 : va_W} {a v n : Nat} {i : Int32} {vs : List Value} {f : Nat → Option Nat} (hP : va_P D vwCl (w1 ++ (a, .inl (dA 4, n, .inr (.inr (.inr (.inr f))))) :: w2) H) (hD : va_D A (w1 ++ (a, .inl (dA 4, n, .inr (.inr (.inr (.inr f))))) :: w2)) (hS : va_S A H0 H locs) (hv : (v, .inr (0, vs)) ∈ w2) (hin : vp_in i n) (hd : decode cc pc = .ok (.aastore, 1))
    (kk : ∀ (H1 : Heap) (locs1 : List Loc), va_P D vwCl (w1 ++ (a, .inl (dA 4, n, .inr (.inr (.inr (.inr (va_up f i.toNatClampNeg (some v))))))) :: w2) H1 → va_D A (w1 ++ (a, .inl (dA 4, n, .inr (.inr (.inr (.inr (va_up f i.toNatClampNeg (some v))))))) :: w2) → va_S A H0 H1 locs1 → W p l e R s m args below meth c H1 locs1 cells slots Q (F0 m (pc + 1) ls rest)) : W p l e R s m args below meth c H locs cells slots Q (F0 m pc ls (.ref v :: .int i :: .ref a :: rest)) := by
  obtain ⟨h1, h2, h3, h4, h5, h6, h7⟩ := h
  obtain ⟨qk, hq⟩ := List.mem_iff_getElem?.mp (List.mem_append_right w1 (List.mem_cons_of_mem (a, .inl (dA 4, n, .inr (.inr (.inr (.inr f))))) hv))
  refine va_astq h1 h2 h6 hP hD hS w1.length 4 qk 0 (r := (RX0, TX0, 15)) (f := f) (by simp) rfl hq rfl hin hd (fun H1 locs1 hP1 hD1 hS1 => ?_)
  simp only [List.set_append_right _ _ (Nat.le_refl w1.length), Nat.sub_self, List.set_cons_zero] at hP1 hD1
  exact kk H1 locs1 hP1 hD1 hS1
theorem ic_sh1 {y x : Nat × va_E} {a b : va_W} : (y :: (a ++ [x])) ++ b = (y :: a) ++ x :: b := by simp
theorem ic_sh2 {x : Nat × va_E} {a b c : va_W} : (a ++ x :: b) ++ c = a ++ x :: (b ++ c) := by simp
theorem ic_cg {w1 w2 : va_W} {a n : Nat} {cA : ClassId} {f g : Nat → Option Nat} (hfg : ∀ j, j < n → f j = g j) (hP : va_P D vwCl (w1 ++ (a, .inl (cA, n, .inr (.inr (.inr (.inr f))))) :: w2) H) : va_P D vwCl (w1 ++ (a, .inl (cA, n, .inr (.inr (.inr (.inr g))))) :: w2) H := by
  intro k q hk
  rw [List.getElem?_append] at hk
  by_cases h1 : k < w1.length
  · rw [if_pos h1] at hk
    exact hP k q (by rw [List.getElem?_append, if_pos h1]; exact hk)
  · rw [if_neg h1] at hk
    have h2 := hP k
    rw [List.getElem?_append, if_neg h1] at h2
    cases hz : k - w1.length with
    | zero =>
      rw [hz] at hk h2
      cases hk
      have h3 := h2 _ rfl
      show H[a]? = some (vp_cell cA (n, .inr (.inr (.inr (.inr g)))))
      rw [vp_cell_q, ← arrV_cg (f := fun j => va_rf (f j)) (fun j hj => by rw [hfg j hj])]
      exact h3
    | succ z =>
      rw [hz] at hk h2
      exact h2 q hk
theorem ic_cgD {w1 w2 : va_W} {x y : Nat × va_E} (hxy : x.1 = y.1) (hD : va_D A (w1 ++ x :: w2)) : va_D A (w1 ++ y :: w2) := by
  have hst : ∀ (k : Nat) (q : Nat × va_E), (w1 ++ y :: w2)[k]? = some q → ∃ q' : Nat × va_E, (w1 ++ x :: w2)[k]? = some q' ∧ q'.1 = q.1 := by
    intro k q hk
    rw [List.getElem?_append] at hk ⊢
    by_cases h1 : k < w1.length
    · rw [if_pos h1] at hk ⊢; exact ⟨q, hk, rfl⟩
    · rw [if_neg h1] at hk ⊢
      cases hz : k - w1.length with
      | zero => rw [hz] at hk; cases hk; exact ⟨x, rfl, hxy⟩
      | succ z => rw [hz] at hk; exact ⟨q, hk, rfl⟩
  refine ⟨fun i j a b ha hb e => ?_, fun k q hk => ?_⟩
  · obtain ⟨a', ha', ea⟩ := hst i a ha
    obtain ⟨b', hb', eb⟩ := hst j b hb
    exact hD.1 i j a' b' ha' hb' (by rw [ea, eb, e])
  · obtain ⟨q', hq', eq⟩ := hst k q hk
    rw [← eq]; exact hD.2 k q' hq'
theorem ic_newq (h : ic_ok cc nL own D dA p s m args c) {idx N : Nat} (hl : Cond.classLink own idx RX0 ∈ js_tb) (hP : va_P D vwCl ws H) (hD : va_D A ws) (hS : va_S A H0 H locs) (hA : ∀ q, H0.size ≤ q → A q) {n : Int32} (hn : ¬ n < 0) (hN : n.toNatClampNeg = N) (hN2 : Nat.ble N 60000000 = true) (hcells : cells + 1 ≤ R.cells) (hslots : slots + N ≤ R.slots) (hdg : decode cc pc = .ok (.anewarray idx, 3))
    (kk : ∀ (q : Nat) (H1 : Heap), va_P D vwCl (ws ++ [(q, .inl (dA 4, N, .inr (.inr (.inr (.inr (fun _ => none))))))]) H1 → va_D A (ws ++ [(q, .inl (dA 4, N, .inr (.inr (.inr (.inr (fun _ => none))))))]) → va_S A H0 H1 locs → W p l e R s m args below meth c H1 locs (cells + 1) (slots + N) Q (F0 m (pc + 3) ls (.ref q :: rest))) : W p l e R s m args below meth c H locs cells slots Q (F0 m pc ls (.int n :: rest)) := by
  obtain ⟨h1, h2, h3, h4, h5, h6, h7⟩ := h
  have hN2 := Nat.ble_eq.mp hN2
  refine va_newq h1 h2 h4 (h5 _ hl) h7.2 h6 hP hD hS hA hn hN (by omega) hcells hslots hdg (fun q cA H1 hK1 hP1 hD1 hS1 => ?_)
  obtain ⟨_, _, _, _, _, e1⟩ := (hK1.2 5 (cA, .object RX0) rfl).2
  obtain ⟨_, _, _, _, _, e2⟩ := (h6.2 4 (dA 4, .object RX0) rfl).2
  have e3 : cA = dA 4 := Option.some.inj (e1.symm.trans e2)
  subst e3
  exact kk q H1 hP1 hD1 hS1
theorem js_sm2 (a b : Nat) : js_sm 8 [.ref a, .ref b] := by show (2 : Nat) ≤ 8; decide
theorem js_sm3 (a b : Nat) (i : Int32) : js_sm 8 [.ref a, .int i, .ref b] := by show (3 : Nat) ≤ 8; decide
theorem icl_X0 : ic_cl 0 f0X0 RX0 15 := ⟨TX0, tyX0, rfl, js_ucl0, tyX0_ok, fun j hj => by rcases (show j = 0 ∨ j = 1 ∨ j = 2 ∨ j = 3 ∨ j = 4 ∨ j = 5 ∨ j = 6 ∨ j = 7 ∨ j = 8 ∨ j = 9 ∨ j = 10 ∨ j = 11 ∨ j = 12 ∨ j = 13 ∨ j = 14 by omega) with rfl | rfl | rfl | rfl | rfl | rfl | rfl | rfl | rfl | rfl | rfl | rfl | rfl | rfl | rfl <;> rfl, js_mem 261 (by decide +kernel) rfl, js_mem 87 (by decide +kernel) rfl⟩
theorem icy_X0 : Cond.code yX0_init cX0_init 1 none ∈ js_tb ∧ Cond.initialized yX0_init.cls ∈ js_tb ∧ Cond.instanceMethod yX0_init ∈ js_tb ∧ yX0_init.name = "<init>" ∧ (yX0_init.cls ≠ "java/lang/invoke/MethodHandle" ∧ yX0_init.cls ≠ "java/lang/invoke/VarHandle" ∧ (parseMethodDescriptor yX0_init.desc).map (fun d => d.parameters.length) = some 0) := ⟨js_mem 264 (by decide +kernel) rfl, js_mem 87 (by decide +kernel) rfl, js_mem 263 (by decide +kernel) rfl, rfl, by decide, by decide, by decide +kernel⟩
theorem icl_X1 : ic_cl 1 f0X1 RX1 3 := ⟨TX1, tyX1, rfl, js_ucl1, tyX1_ok, fun j hj => by rcases (show j = 0 ∨ j = 1 ∨ j = 2 by omega) with rfl | rfl | rfl <;> rfl, js_mem 348 (by decide +kernel) rfl, js_mem 89 (by decide +kernel) rfl⟩
theorem icy_X1 : Cond.code yX1_init cX1_init 1 none ∈ js_tb ∧ Cond.initialized yX1_init.cls ∈ js_tb ∧ Cond.instanceMethod yX1_init ∈ js_tb ∧ yX1_init.name = "<init>" ∧ (yX1_init.cls ≠ "java/lang/invoke/MethodHandle" ∧ yX1_init.cls ≠ "java/lang/invoke/VarHandle" ∧ (parseMethodDescriptor yX1_init.desc).map (fun d => d.parameters.length) = some 0) := ⟨js_mem 351 (by decide +kernel) rfl, js_mem 89 (by decide +kernel) rfl, js_mem 350 (by decide +kernel) rfl, rfl, by decide, by decide, by decide +kernel⟩
theorem icl_X2 : ic_cl 2 f0X2 RX2 7 := ⟨TX2, tyX2, rfl, js_ucl2, tyX2_ok, fun j hj => by rcases (show j = 0 ∨ j = 1 ∨ j = 2 ∨ j = 3 ∨ j = 4 ∨ j = 5 ∨ j = 6 by omega) with rfl | rfl | rfl | rfl | rfl | rfl | rfl <;> rfl, js_mem 394 (by decide +kernel) rfl, js_mem 91 (by decide +kernel) rfl⟩
theorem icy_X2 : Cond.code yX2_init cX2_init 1 none ∈ js_tb ∧ Cond.initialized yX2_init.cls ∈ js_tb ∧ Cond.instanceMethod yX2_init ∈ js_tb ∧ yX2_init.name = "<init>" ∧ (yX2_init.cls ≠ "java/lang/invoke/MethodHandle" ∧ yX2_init.cls ≠ "java/lang/invoke/VarHandle" ∧ (parseMethodDescriptor yX2_init.desc).map (fun d => d.parameters.length) = some 0) := ⟨js_mem 397 (by decide +kernel) rfl, js_mem 91 (by decide +kernel) rfl, js_mem 396 (by decide +kernel) rfl, rfl, by decide, by decide, by decide +kernel⟩
theorem icl_X3 : ic_cl 3 f0X3 RX3 6 := ⟨TX3, tyX3, rfl, js_ucl3, tyX3_ok, fun j hj => by rcases (show j = 0 ∨ j = 1 ∨ j = 2 ∨ j = 3 ∨ j = 4 ∨ j = 5 by omega) with rfl | rfl | rfl | rfl | rfl | rfl <;> rfl, js_mem 197 (by decide +kernel) rfl, js_mem 84 (by decide +kernel) rfl⟩
theorem icy_X3 : Cond.code yX3_init cX3_init 1 none ∈ js_tb ∧ Cond.initialized yX3_init.cls ∈ js_tb ∧ Cond.instanceMethod yX3_init ∈ js_tb ∧ yX3_init.name = "<init>" ∧ (yX3_init.cls ≠ "java/lang/invoke/MethodHandle" ∧ yX3_init.cls ≠ "java/lang/invoke/VarHandle" ∧ (parseMethodDescriptor yX3_init.desc).map (fun d => d.parameters.length) = some 0) := ⟨js_mem 200 (by decide +kernel) rfl, js_mem 84 (by decide +kernel) rfl, js_mem 199 (by decide +kernel) rfl, rfl, by decide, by decide, by decide +kernel⟩
theorem icl_X4 : ic_cl 4 f0X4 RX4 7 := ⟨TX4, tyX4, rfl, js_ucl4, tyX4_ok, fun j hj => by rcases (show j = 0 ∨ j = 1 ∨ j = 2 ∨ j = 3 ∨ j = 4 ∨ j = 5 ∨ j = 6 by omega) with rfl | rfl | rfl | rfl | rfl | rfl | rfl <;> rfl, js_mem 364 (by decide +kernel) rfl, js_mem 90 (by decide +kernel) rfl⟩
theorem icy_X4 : Cond.code yX4_init cX4_init 2 none ∈ js_tb ∧ Cond.initialized yX4_init.cls ∈ js_tb ∧ Cond.instanceMethod yX4_init ∈ js_tb ∧ yX4_init.name = "<init>" ∧ (yX4_init.cls ≠ "java/lang/invoke/MethodHandle" ∧ yX4_init.cls ≠ "java/lang/invoke/VarHandle" ∧ (parseMethodDescriptor yX4_init.desc).map (fun d => d.parameters.length) = some 1) := ⟨js_mem 367 (by decide +kernel) rfl, js_mem 90 (by decide +kernel) rfl, js_mem 366 (by decide +kernel) rfl, rfl, by decide, by decide, by decide +kernel⟩
theorem icl_X5 : ic_cl 5 f0X5 RX5 2 := ⟨TX5, tyX5, rfl, js_ucl5, tyX5_ok, fun j hj => by rcases (show j = 0 ∨ j = 1 by omega) with rfl | rfl <;> rfl, js_mem 228 (by decide +kernel) rfl, js_mem 85 (by decide +kernel) rfl⟩
theorem icy_X5 : Cond.code yX5_init cX5_init 1 none ∈ js_tb ∧ Cond.initialized yX5_init.cls ∈ js_tb ∧ Cond.instanceMethod yX5_init ∈ js_tb ∧ yX5_init.name = "<init>" ∧ (yX5_init.cls ≠ "java/lang/invoke/MethodHandle" ∧ yX5_init.cls ≠ "java/lang/invoke/VarHandle" ∧ (parseMethodDescriptor yX5_init.desc).map (fun d => d.parameters.length) = some 0) := ⟨js_mem 231 (by decide +kernel) rfl, js_mem 85 (by decide +kernel) rfl, js_mem 230 (by decide +kernel) rfl, rfl, by decide, by decide, by decide +kernel⟩
theorem icl_X6 : ic_cl 6 f0X6 RX6 3 := ⟨TX6, tyX6, rfl, js_ucl6, tyX6_ok, fun j hj => by rcases (show j = 0 ∨ j = 1 ∨ j = 2 by omega) with rfl | rfl | rfl <;> rfl, js_mem 245 (by decide +kernel) rfl, js_mem 86 (by decide +kernel) rfl⟩
theorem icy_X6 : Cond.code yX6_init cX6_init 4 none ∈ js_tb ∧ Cond.initialized yX6_init.cls ∈ js_tb ∧ Cond.instanceMethod yX6_init ∈ js_tb ∧ yX6_init.name = "<init>" ∧ (yX6_init.cls ≠ "java/lang/invoke/MethodHandle" ∧ yX6_init.cls ≠ "java/lang/invoke/VarHandle" ∧ (parseMethodDescriptor yX6_init.desc).map (fun d => d.parameters.length) = some 3) := ⟨js_mem 248 (by decide +kernel) rfl, js_mem 86 (by decide +kernel) rfl, js_mem 247 (by decide +kernel) rfl, rfl, by decide, by decide, by decide +kernel⟩
theorem icl_X7 : ic_cl 7 f0X7 RX7 8 := ⟨TX7, tyX7, rfl, js_ucl7, tyX7_ok, fun j hj => by rcases (show j = 0 ∨ j = 1 ∨ j = 2 ∨ j = 3 ∨ j = 4 ∨ j = 5 ∨ j = 6 ∨ j = 7 by omega) with rfl | rfl | rfl | rfl | rfl | rfl | rfl | rfl <;> rfl, js_mem 110 (by decide +kernel) rfl, js_mem 82 (by decide +kernel) rfl⟩
theorem icy_X7 : Cond.code yX7_init cX7_init 1 none ∈ js_tb ∧ Cond.initialized yX7_init.cls ∈ js_tb ∧ Cond.instanceMethod yX7_init ∈ js_tb ∧ yX7_init.name = "<init>" ∧ (yX7_init.cls ≠ "java/lang/invoke/MethodHandle" ∧ yX7_init.cls ≠ "java/lang/invoke/VarHandle" ∧ (parseMethodDescriptor yX7_init.desc).map (fun d => d.parameters.length) = some 0) := ⟨js_mem 113 (by decide +kernel) rfl, js_mem 82 (by decide +kernel) rfl, js_mem 112 (by decide +kernel) rfl, rfl, by decide, by decide, by decide +kernel⟩
theorem icl_X8 : ic_cl 8 f0X8 RX8 9 := ⟨TX8, tyX8, rfl, js_ucl8, tyX8_ok, fun j hj => by rcases (show j = 0 ∨ j = 1 ∨ j = 2 ∨ j = 3 ∨ j = 4 ∨ j = 5 ∨ j = 6 ∨ j = 7 ∨ j = 8 by omega) with rfl | rfl | rfl | rfl | rfl | rfl | rfl | rfl | rfl <;> rfl, js_mem 147 (by decide +kernel) rfl, js_mem 83 (by decide +kernel) rfl⟩
theorem icy_X8 : Cond.code yX8_init cX8_init 1 none ∈ js_tb ∧ Cond.initialized yX8_init.cls ∈ js_tb ∧ Cond.instanceMethod yX8_init ∈ js_tb ∧ yX8_init.name = "<init>" ∧ (yX8_init.cls ≠ "java/lang/invoke/MethodHandle" ∧ yX8_init.cls ≠ "java/lang/invoke/VarHandle" ∧ (parseMethodDescriptor yX8_init.desc).map (fun d => d.parameters.length) = some 0) := ⟨js_mem 150 (by decide +kernel) rfl, js_mem 83 (by decide +kernel) rfl, js_mem 149 (by decide +kernel) rfl, rfl, by decide, by decide, by decide +kernel⟩
theorem icl_X9 : ic_cl 9 f0X9 RX9 3 := ⟨TX9, tyX9, rfl, js_ucl9, tyX9_ok, fun j hj => by rcases (show j = 0 ∨ j = 1 ∨ j = 2 by omega) with rfl | rfl | rfl <;> rfl, js_mem 330 (by decide +kernel) rfl, js_mem 88 (by decide +kernel) rfl⟩
theorem icy_X9 : Cond.code yX9_init cX9_init 2 none ∈ js_tb ∧ Cond.initialized yX9_init.cls ∈ js_tb ∧ Cond.instanceMethod yX9_init ∈ js_tb ∧ yX9_init.name = "<init>" ∧ (yX9_init.cls ≠ "java/lang/invoke/MethodHandle" ∧ yX9_init.cls ≠ "java/lang/invoke/VarHandle" ∧ (parseMethodDescriptor yX9_init.desc).map (fun d => d.parameters.length) = some 1) := ⟨js_mem 333 (by decide +kernel) rfl, js_mem 88 (by decide +kernel) rfl, js_mem 332 (by decide +kernel) rfl, rfl, by decide, by decide, by decide +kernel⟩
theorem icl_X11 : ic_cl 11 f0X11 RX11 41 := ⟨TX11, tyX11, rfl, js_ucl11, tyX11_ok, fun j hj => by rcases (show j = 0 ∨ j = 1 ∨ j = 2 ∨ j = 3 ∨ j = 4 ∨ j = 5 ∨ j = 6 ∨ j = 7 ∨ j = 8 ∨ j = 9 ∨ j = 10 ∨ j = 11 ∨ j = 12 ∨ j = 13 ∨ j = 14 ∨ j = 15 ∨ j = 16 ∨ j = 17 ∨ j = 18 ∨ j = 19 ∨ j = 20 ∨ j = 21 ∨ j = 22 ∨ j = 23 ∨ j = 24 ∨ j = 25 ∨ j = 26 ∨ j = 27 ∨ j = 28 ∨ j = 29 ∨ j = 30 ∨ j = 31 ∨ j = 32 ∨ j = 33 ∨ j = 34 ∨ j = 35 ∨ j = 36 ∨ j = 37 ∨ j = 38 ∨ j = 39 ∨ j = 40 by omega) with rfl | rfl | rfl | rfl | rfl | rfl | rfl | rfl | rfl | rfl | rfl | rfl | rfl | rfl | rfl | rfl | rfl | rfl | rfl | rfl | rfl | rfl | rfl | rfl | rfl | rfl | rfl | rfl | rfl | rfl | rfl | rfl | rfl | rfl | rfl | rfl | rfl | rfl | rfl | rfl | rfl <;> rfl, js_mem 1118 (by decide +kernel) rfl, js_mem 93 (by decide +kernel) rfl⟩
theorem icy_X11 : Cond.code yX11_init cX11_init 1 none ∈ js_tb ∧ Cond.initialized yX11_init.cls ∈ js_tb ∧ Cond.instanceMethod yX11_init ∈ js_tb ∧ yX11_init.name = "<init>" ∧ (yX11_init.cls ≠ "java/lang/invoke/MethodHandle" ∧ yX11_init.cls ≠ "java/lang/invoke/VarHandle" ∧ (parseMethodDescriptor yX11_init.desc).map (fun d => d.parameters.length) = some 0) := ⟨js_mem 1121 (by decide +kernel) rfl, js_mem 93 (by decide +kernel) rfl, js_mem 1120 (by decide +kernel) rfl, rfl, by decide, by decide, by decide +kernel⟩
end
