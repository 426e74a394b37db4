section
theorem rRu_ob {μ μ' ν ν' : js_Mm} (hC : μ' 0 15 = μ 0 15 ∧ μ' 29 0 = μ 29 0 ∧ μ' 29 1 = μ 29 1) (hM : ν' 0 24 = ν 0 24 ∧ ν' 0 2 = ν 0 2 ∧ ν' 0 3 = ν 0 3) (h : rRu μ ν) : rRu μ' ν' := by
  unfold rRu at *
  rw [hM.1, hM.2.1, hM.2.2, hC.1, hC.2.1, hC.2.2]
  exact h
theorem rIm_ob {i o x : Nat} {μ μ' ν ν' : js_Mm} (hk : μ' o 14 = μ o 14) (hm : ν' 2 i = ν 2 i) (hv : mvC o o μ μ') (h0 : μ' o 10 = μ o 10) (hb : ∀ i, i < 40 → μ' (o + 8) i = μ (o + 8) i ∧ μ' (o + 9) i = μ (o + 9) i ∧ μ' (o + 10) i = μ (o + 10) i) (hr : ∀ j, j < 1000 → ν' 1 (x + j) = ν 1 (x + j)) (h : rIm i o x μ ν) : rIm i o x μ' ν' := by
  obtain ⟨h1, h2, h3⟩ := h
  refine ⟨by rw [hm, hk]; exact h1, by rw [hk]; exact h2, fun e => ?_⟩
  rw [hk] at e
  exact ⟨rCo_mv hv (fun j hj => hr j (by omega)) (h3 e).1, rBe_mv h0 hb ⟨hv.2.2.2.2.2.1, hv.2.2.2.2.2.2⟩ (fun j _ hj => hr j (by omega)) (h3 e).2⟩
/-- a call: class and reference answer alike, and the relation stays -/
def okC (FC FM : js_FF) (as : List Int) : Prop := ∀ μ ν, RR μ ν → ∃ v μ' ν', FC (0 :: as) μ = some (v, μ') ∧ FM (0 :: as) ν = some (v, ν') ∧ RR μ' ν'
def i32 (z : Int) : Prop := -2147483648 ≤ z ∧ z < 2147483648
end
section
theorem jv_tr0 (a : Nat × Int) (l : js_Ev) : js_tr 0 (a :: l) = (0, 0) :: js_tr 0 l := by
  simp [js_tr, List.replicate_succ]
theorem jv_trs (n : Nat) (a : Nat × Int) (l : js_Ev) : js_tr (n + 1) (a :: l) = a :: js_tr n l := by
  simp [js_tr]
theorem jv_blI {α : Type} (c : Prop) [Decidable c] (x y : Option (List Int × js_Mm)) (f : List Int → js_Mm → Option α) : js_bl (if c then x else y) f = if c then js_bl x f else js_bl y f := by
  by_cases h : c <;> simp [h]
theorem jv_trn (n : Nat) : js_tr n [] = [] := by simp [js_tr]
/-- a loop that looks for the first i with P i, and returns there -/
theorem jv_find {c : js_CC} {b : js_SS} (n : Nat) (S : Nat → js_Ev × js_Mm) (P : Nat → Bool) (V : Nat → Int) (hn : n < 5000)
    (hc : ∀ i, i < n → (∀ j, j < i → P j = false) → ∃ w, c (S i).1 (S i).2 = some (true, w) ∧ ((P i = true ∧ ∃ ρ2, b (S i).1 w = some (some (V i), ρ2, (S i).2)) ∨ (P i = false ∧ b (S i).1 w = some (none, S (i + 1)))))
    (he : (∀ j, j < n → P j = false) → c (S n).1 (S n).2 = some (false, (S n).2)) :
    (∃ i, i < n ∧ P i = true ∧ (∀ j, j < i → P j = false) ∧ ∃ ρ2, js_wh c b (S 0).1 (S 0).2 = some (some (V i), ρ2, (S i).2)) ∨ ((∀ j, j < n → P j = false) ∧ js_wh c b (S 0).1 (S 0).2 = some (none, S n)) := by
  have key : ∀ k i fu, i + k = n → k < fu → (∀ j, j < i → P j = false) → (∃ q, q < n ∧ P q = true ∧ (∀ j, j < q → P j = false) ∧ ∃ ρ2, js_wn c b fu (S i).1 (S i).2 = some (some (V q), ρ2, (S q).2)) ∨ ((∀ j, j < n → P j = false) ∧ js_wn c b fu (S i).1 (S i).2 = some (none, S n)) := by
    intro k
    induction k with
    | zero =>
      intro i fu hi hf hP
      obtain ⟨fu', rfl⟩ : ∃ q, fu = q + 1 := ⟨fu - 1, by omega⟩
      have e : i = n := by omega
      subst e
      right
      refine ⟨hP, ?_⟩
      rw [jv_wn1, he hP]
      rfl
    | succ k ih =>
      intro i fu hi hf hP
      obtain ⟨fu', rfl⟩ : ∃ q, fu = q + 1 := ⟨fu - 1, by omega⟩
      obtain ⟨w, h1, h2⟩ := hc i (by omega) hP
      rw [jv_wn1, h1, jv_bcT]
      rcases h2 with ⟨hp, ρ2, h3⟩ | ⟨hp, h3⟩
      · left
        exact ⟨i, by omega, hp, hP, ρ2, by rw [h3]; rfl⟩
      · rw [h3]
        exact ih (i + 1) fu' (by omega) (by omega) (fun j hj => by
          rcases Nat.lt_or_ge j i with q | q
          · exact hP j q
          · have : j = i := by omega
            subst this; exact hp)
  exact key n 0 js_fu (by omega) (by show n < 5000; exact hn) (fun j hj => by omega)
end
