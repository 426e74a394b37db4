section
theorem rRu_ob {μ μ' ν ν' : js_Mm} (hC : μ' 0 15 = μ 0 15 ∧ μ' 29 0 = μ 29 0 ∧ μ' 29 1 = μ 29 1) (hM : ν' 0 24 = ν 0 24 ∧ ν' 0 2 = ν 0 2 ∧ ν' 0 3 = ν 0 3) (h : rRu μ ν) : rRu μ' ν' := by
  unfold rRu at *
  rw [hM.1, hM.2.1, hM.2.2, hC.1, hC.2.1, hC.2.2]
  exact h
theorem rIm_ob {i o x : Nat} {μ μ' ν ν' : js_Mm} (hk : μ' o 14 = μ o 14) (hm : ν' 2 i = ν 2 i) (hv : mvC o o μ μ') (h0 : μ' o 10 = μ o 10) (hb : ∀ i, i < 40 → μ' (o + 8) i = μ (o + 8) i ∧ μ' (o + 9) i = μ (o + 9) i ∧ μ' (o + 10) i = μ (o + 10) i) (hr : ∀ j, j < 1000 → ν' 1 (x + j) = ν 1 (x + j)) (h : rIm i o x μ ν) : rIm i o x μ' ν' := by
  obtain ⟨h1, h2, h3⟩ := h
  refine ⟨by rw [hm, hk]; exact h1, by rw [hk]; exact h2, fun e => ?_⟩
  rw [hk] at e
  exact ⟨rCo_mv hv (fun j hj => hr j (by omega)) (h3 e).1, rBe_mv h0 hb ⟨hv.2.2.2.2.2.1, hv.2.2.2.2.2.2⟩ (fun j _ hj => hr j (by omega)) (h3 e).2⟩
/-- a call: class and reference answer alike, and the relation stays -/
def okC (FC FM : js_FF) (as : List Int) : Prop := ∀ μ ν, RR μ ν → ∃ v μ' ν', FC (0 :: as) μ = some (v, μ') ∧ FM (0 :: as) ν = some (v, ν') ∧ RR μ' ν'
def i32 (z : Int) : Prop := -2147483648 ≤ z ∧ z < 2147483648
end
