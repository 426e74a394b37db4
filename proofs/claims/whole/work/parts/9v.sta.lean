section
theorem rr_start : RR mu0 nu0 := by
  have hj : ∀ r : Int, jb 0 r = false := fun r => jb_zero r
  refine ⟨⟨by decide, by decide, fun i hi => ?_⟩, by unfold rRu; decide, ⟨by decide, by decide, by decide, fun p hp => ?_⟩, ⟨by decide, by decide, fun k hk => ?_, fun j k hjk hk => ?_, fun p hp => ?_⟩, ⟨by decide, by decide, fun s hs => ?_⟩, ⟨fun p hp => ?_, fun p s hp hs => ?_, by decide, by decide, by decide, by decide, fun _ => 0, fun p s hp hs h => ?_⟩, ⟨by decide, by decide, fun i hi => ?_⟩, ⟨by decide, by decide, fun h => ?_⟩, ⟨by decide, by decide, fun h => ?_⟩, ⟨by decide, by decide, fun p hp => ?_⟩, ⟨by decide, fun h => ?_⟩, ⟨fun k hk => ?_, by decide, by decide, fun i hi => ⟨fun h => ?_, fun h => ?_⟩⟩⟩
  · simp [mu0] at hi; omega
  · simp [mu0] at hp; omega
  · simp [mu0] at hk; omega
  · simp [mu0] at hk; omega
  · simp [mu0] at hp; omega
  · simp [mu0] at hs; omega
  · simp [mu0]
  · simp [rCe, mu0, nu0, hj]
  · simp [mu0, hj] at h
  · simp [mu0] at hi; omega
  · simp [mu0] at h
  · simp [mu0] at h
  · simp [mu0, hj] at hp
  · simp [mu0] at h
  · simp [mu0, nu0]
  · simp [nu0, hj] at h
  · simp [mu0]
theorem pt6 (g k j : Nat) : js_pt g k j ≤ 6 := by
  unfold js_pt
  have hf : js_ft (js_sh g k).1 j ≤ 6 := by
    unfold js_ft
    exact js_gd _ j 0 (fun x => x ≤ 6) (js_gd js_fts _ [] (fun r => ∀ x ∈ r, x ≤ 6) (by decide) (by simp)) (by decide)
  repeat' split
  all_goals first | decide | exact hf
theorem rg0 {g t : Nat} (h3 : t ≠ 3) (h0 : t ≠ 0) (h6 : t ≤ 6) : js_rg g t 0 := by
  rcases (show t = 1 ∨ t = 2 ∨ t = 4 ∨ t = 5 ∨ t = 6 by omega) with rfl | rfl | rfl | rfl | rfl <;> exact ⟨by decide, by decide⟩
theorem can_mu0 : js_can 0 mu0 := by
  intro k j h3 h0
  have h6 := pt6 0 k j
  by_cases e1 : k = 100
  · subst e1
    have : js_pt 0 100 j = 1 := rfl
    rw [this]; exact ⟨by simp [mu0], by simp [mu0]⟩
  by_cases e2 : k = 29
  · subst e2
    by_cases j0 : j = 0
    · subst j0; exact ⟨by decide, by decide⟩
    by_cases j1 : j = 1
    · subst j1; exact ⟨by decide, by decide⟩
    rw [show mu0 29 j = 0 by simp [mu0, j0, j1]]; exact rg0 h3 h0 h6
  by_cases e3 : k = 1
  · subst e3
    by_cases j0 : j = 7
    · subst j0; exact ⟨by decide, by decide⟩
    rw [show mu0 1 j = 0 by simp [mu0, j0]]; exact rg0 h3 h0 h6
  by_cases e4 : k = 0
  · subst e4
    by_cases j0 : j = 15
    · subst j0; exact ⟨by decide, by decide⟩
    rw [show mu0 0 j = 0 by simp [mu0, j0]]; exact rg0 h3 h0 h6
  rw [show mu0 k j = 0 by simp [mu0, e1, e2, e3, e4]]; exact rg0 h3 h0 h6
theorem can_nu0 : js_can 1 nu0 := by
  intro k j h3 h0
  have h6 := pt6 1 k j
  by_cases e1 : k = 0
  · subst e1
    by_cases j0 : j = 2
    · subst j0; exact ⟨by decide, by decide⟩
    by_cases j1 : j = 3
    · subst j1; exact ⟨by decide, by decide⟩
    by_cases j2 : j = 24
    · subst j2; exact ⟨by decide, by decide⟩
    rw [show nu0 0 j = 0 by simp [nu0, j0, j1, j2]]; exact rg0 h3 h0 h6
  rw [show nu0 k j = 0 by simp [nu0, e1]]; exact rg0 h3 h0 h6
end
