section
/-! ===== soundness of the small language over the machine ===== -/
def js_tys (dA : Nat → ClassId) : List (ClassId × FieldType) := [(dA 0, .int), (dA 1, .long), (dA 2, .char), (dA 3, .boolean), (dA 4, .object "TwoRumours$Course")]
/-- 1 int, 2 long, 3 cell, 4 string constant, 5 truth, 6 char -/
def js_rg (g t : Nat) (z : Int) : Prop := match t with
  | 1 => -2147483648 ≤ z ∧ z < 2147483648
  | 2 => -9223372036854775808 ≤ z ∧ z < 9223372036854775808
  | 3 => 0 ≤ z ∧ z < (js_n g : Int)
  | 4 => 0 ≤ z ∧ z < 9
  | 5 => 0 ≤ z ∧ z < 2
  | 6 => 0 ≤ z ∧ z < 65536
  | _ => False
def js_pt (g k j : Nat) : Nat := if (js_sh g k).1 = 20 then 1 else if (js_sh g k).1 = 21 then 2 else if (js_sh g k).1 = 22 then 6 else if (js_sh g k).1 = 23 then 5 else if (js_sh g k).1 = 24 then 3 else js_ft (js_sh g k).1 j
def js_can (g : Nat) (μ : js_Mm) : Prop := ∀ k j, js_pt g k j ≠ 3 → js_pt g k j ≠ 0 → js_rg g (js_pt g k j) (μ k j)
def js_fv (g : Nat) (ad : Nat → Nat) (c k j : Nat) (z : Int) : Value := if js_ft c j = 3 then .ref (ad (js_rt g k j)) else if js_ft c j = 2 then .long (Int64.ofInt z) else .int (Int32.ofInt z)
def js_ce (g : Nat) (ad : Nat → Nat) (dA : Nat → ClassId) (μ : js_Mm) (k : Nat) : va_E :=
  if (js_sh g k).1 = 20 then .inl (dA 0, (js_sh g k).2, .inl (fun j => Int32.ofInt (μ k j)))
  else if (js_sh g k).1 = 21 then .inl (dA 1, (js_sh g k).2, .inr (.inl (fun j => Int64.ofInt (μ k j))))
  else if (js_sh g k).1 = 22 then .inl (dA 2, (js_sh g k).2, .inl (fun j => Int32.ofInt (μ k j)))
  else if (js_sh g k).1 = 23 then .inl (dA 3, (js_sh g k).2, .inl (fun j => Int32.ofInt (μ k j)))
  else if (js_sh g k).1 = 24 then .inl (dA 4, (js_sh g k).2, .inr (.inr (.inr (.inr (fun j => some (ad (js_rt g k j)))))))
  else .inr ((js_sh g k).1, (List.range (js_sh g k).2).map (fun j => js_fv g ad (js_sh g k).1 k j (μ k j)))
def js_ws (g : Nat) (ad : Nat → Nat) (dA : Nat → ClassId) (μ : js_Mm) : va_W := (List.range (js_n g)).map (fun k => (ad k, js_ce g ad dA μ k))
theorem js_ws_get {g : Nat} {ad : Nat → Nat} {dA : Nat → ClassId} {μ : js_Mm} {k : Nat} (h : k < js_n g) : (js_ws g ad dA μ)[k]? = some (ad k, js_ce g ad dA μ k) := by
  simp [js_ws, h]
theorem js_ws_set {g : Nat} {ad : Nat → Nat} {dA : Nat → ClassId} {μ μ' : js_Mm} {k : Nat} {E : va_E} (hE : js_ce g ad dA μ' k = E) (ho : ∀ k', k' ≠ k → js_ce g ad dA μ' k' = js_ce g ad dA μ k') : (js_ws g ad dA μ).set k (ad k, E) = js_ws g ad dA μ' := by
  apply List.ext_getElem?
  intro i
  rw [List.getElem?_set]
  by_cases h : k = i
  · subst h
    by_cases hn : k < js_n g
    · simp [js_ws, hn, hE]
    · simp [js_ws, hn]
  · rw [if_neg h]
    by_cases hn : i < js_n g
    · rw [js_ws_get hn, js_ws_get hn, ho i (fun e => h e.symm)]
    · simp [js_ws, hn]
theorem js_gd {α : Type} (l : List α) (k : Nat) (d : α) (P : α → Prop) (h : ∀ r ∈ l, P r) (hd : P d) : P (l.getD k d) := by
  rw [List.getD_eq_getElem?_getD]
  cases hk : l[k]? with
  | none => exact hd
  | some x => exact h x (List.mem_of_getElem? hk)
theorem js_sh_lt {g k c : Nat} (h : (js_sh g k).1 = c) (hc : c ≠ 99) : k < js_n g := by
  apply Decidable.byContradiction
  intro hn
  apply hc
  rw [← h]
  unfold js_sh js_n at *
  by_cases hg : g = 0
  · simp only [hg, if_true] at *
    rw [List.getD_eq_getElem?_getD, List.getElem?_eq_none (by have : js_shC.length = 101 := by decide
                                                              omega)]
    rfl
  · simp only [hg, if_false] at *
    rw [List.getD_eq_getElem?_getD, List.getElem?_eq_none (by have : js_shM.length = 28 := by decide
                                                              omega)]
    rfl
theorem js_rt_lt (g k j : Nat) : js_rt g k j < js_n g := by
  unfold js_rt js_n
  by_cases hg : g = 0
  · simp only [hg, if_true]
    exact js_gd _ j 0 (fun x => x < 101) (js_gd js_rtC k [] (fun r => ∀ x ∈ r, x < 101) (by decide) (by simp)) (by decide)
  · simp only [hg, if_false]
    exact js_gd _ j 0 (fun x => x < 28) (js_gd js_rtM k [] (fun r => ∀ x ∈ r, x < 28) (by decide) (by simp)) (by decide)
theorem js_i32 {z : Int} (h : -2147483648 ≤ z ∧ z < 2147483648) : (Int32.ofInt z).toInt = z := by
  rw [Int32.toInt_ofInt]
  show z.bmod 4294967296 = z
  exact Int.bmod_eq_of_le (by omega) (by omega)
theorem js_i64 {z : Int} (h : -9223372036854775808 ≤ z ∧ z < 9223372036854775808) : (Int64.ofInt z).toInt = z := by
  rw [Int64.toInt_ofInt]
  show z.bmod 18446744073709551616 = z
  exact Int.bmod_eq_of_le (by omega) (by omega)
theorem js_r32 (x : Int32) : -2147483648 ≤ x.toInt ∧ x.toInt < 2147483648 := by
  have h1 := Int32.le_toInt x
  have h2 := Int32.toInt_lt x
  omega
theorem js_r64 (x : Int64) : -9223372036854775808 ≤ x.toInt ∧ x.toInt < 9223372036854775808 := by
  have h1 := Int64.le_toInt x
  have h2 := Int64.toInt_lt x
  omega
theorem js_ax {z : Int} {n : Nat} (h1 : 0 ≤ z) (h2 : z < (n : Int)) (hn : n < 2147483648) : vp_in (Int32.ofInt z) n ∧ (Int32.ofInt z).toNatClampNeg = z.toNat := by
  have e : (Int32.ofInt z).toInt = z := js_i32 (by omega)
  refine ⟨vp_in_iff.mpr (by rw [e]; exact ⟨h1, h2⟩), ?_⟩
  show (Int32.ofInt z).toInt.toNat = z.toNat
  rw [e]
theorem js_sh_small (g k : Nat) : (js_sh g k).2 < 2147483648 := by
  unfold js_sh
  by_cases hg : g = 0
  · simp only [hg, if_true]
    exact js_gd js_shC k (99, 0) (fun r => r.2 < 2147483648) (by decide) (by decide)
  · simp only [hg, if_false]
    exact js_gd js_shM k (99, 0) (fun r => r.2 < 2147483648) (by decide) (by decide)
end
