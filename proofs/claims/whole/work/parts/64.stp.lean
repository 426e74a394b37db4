section
theorem rCo_lo {o x : Nat} {μ μ' ν ν' : js_Mm} (h : rCo o x μ ν) (h1 : ∀ k j, (o + 1 ≤ k ∧ k ≤ o + 5) ∨ k = 3 ∨ k = 17 → μ' k j = μ k j) (h2 : ∀ j, j < 432 ∨ (720 ≤ j ∧ j < 864) → ν' 1 (x + j) = ν 1 (x + j))
    (h3 : ∀ c, c < 144 → ν' 1 (x + 432 + c) = μ' (o + 6) c ∧ ν' 1 (x + 576 + c) = μ' (o + 7) c ∧ 0 ≤ μ' (o + 7) c ∧ μ' (o + 7) c < 16777216)
    (h4 : ∀ p s : Nat, p < 24 → s < 6 → ∀ q : Nat, jb (μ' (o + 7) (6 * p + s)) q = true → (q : Int) < μ 3 0 ∧ (s : Int) < μ 17 0 ∧ jb (μ (o + 1) q) s = true)
    (h5 : ν' 1 (x + 864) = μ' o 11 ∧ ν' 1 (x + 865) = μ' o 12 ∧ ν' 1 (x + 866) = μ' o 13 ∧ 0 ≤ μ' o 13 ∧ μ' o 13 < 2147483648) : rCo o x μ' ν' := by
  obtain ⟨c1, c2, c3, c4, c5, c6, rk, c7⟩ := h
  refine ⟨fun q hq => ?_, fun q s hq hs => ?_, h5.1, h5.2.1, h5.2.2.1, h5.2.2.2, rk, fun q s hq hs hb => ?_⟩
  · rw [h1 _ _ (by omega), h1 _ _ (by omega)]; exact c1 q hq
  · have hc := c2 q s hq hs
    obtain ⟨k1, k2, k3⟩ := h3 (6 * q + s) (by omega)
    have k4 := h4 q s hq hs
    unfold rCe at *
    have f1 : ∀ d, d = 144 ∨ d = 288 ∨ d = 720 → ν' 1 (x + d + (6 * q + s)) = ν 1 (x + d + (6 * q + s)) := fun d hd => by
      rw [Nat.add_assoc]; exact h2 _ (by omega)
    rw [h1 (o + 1) q (by omega), h1 (o + 2) q (by omega), h1 (o + 3) _ (by omega), h1 (o + 4) _ (by omega), h1 (o + 5) _ (by omega), h1 3 0 (by omega), h1 17 0 (by omega), h2 _ (by omega), f1 144 (by omega), f1 288 (by omega), f1 720 (by omega)]
    refine ⟨hc.1, hc.2.1, hc.2.2.1, k1, k2, k3, fun r hr => ?_⟩
    rw [h1 (o + 1) r (by omega)]
    exact k4 r hr
  · rw [h1 _ _ (by omega)] at hb
    rw [hCn_mv (o := o) (o' := o) (fun p _ => h1 _ _ (by omega)) 144 (by omega), h1 _ _ (by omega), h1 _ _ (by omega), h1 _ _ (by omega)]
    exact c7 q s hq hs hb
/-- p told b the saying s -/
theorem rCo_to {o x b s p : Nat} {μ ν : js_Mm} (ho : 17 < o) (h : rCo o x μ ν) (hb : b < 24) (hs : s < 6) (hp : (p : Int) < μ 3 0) (h24 : p < 24) (hs2 : (s : Int) < μ 17 0) (hh : jb (μ (o + 1) p) s = true) : rCo o x (js_u μ (o + 7) (6 * b + s) (jset (μ (o + 7) (6 * b + s)) p)) (js_u ν 1 (x + 576 + (6 * b + s)) (jset (μ (o + 7) (6 * b + s)) p)) := by
  have hc := h.2.1
  refine rCo_lo h (fun k j hk => js_u_other (by omega)) (fun j hj => js_u_other (by omega)) (fun c hc' => ?_) (fun q t hq ht r hr => ?_) ?_
  · have hh := hc (c / 6) (c % 6) (by omega) (by omega)
    have ec : 6 * (c / 6) + c % 6 = c := by omega
    unfold rCe at hh
    rw [ec] at hh
    rw [js_u_other (a' := o + 6) (by omega), js_u_other (a' := 1) (b' := x + 432 + c) (by omega)]
    refine ⟨hh.2.2.2.1, ?_⟩
    by_cases e : c = 6 * b + s
    · subst e
      rw [js_u_same, js_u_same]
      exact ⟨rfl, jset_24 hh.2.2.2.2.2.1 (by omega)⟩
    · rw [js_u_other (by omega), js_u_other (by omega)]
      exact ⟨hh.2.2.2.2.1, hh.2.2.2.2.2.1⟩
  · have hh' := (hc q t hq ht).2.2.2.2.2.2
    by_cases e : 6 * q + t = 6 * b + s
    · have e1 : q = b := by omega
      have e2 : t = s := by omega
      subst e1 e2
      rw [js_u_same, jb_set (by omega) (by omega)] at hr
      simp only [Bool.or_eq_true, decide_eq_true_eq] at hr
      rcases hr with hr | hr
      · exact hh' r hr
      · have : r = p := by omega
        subst this
        exact ⟨hp, hs2, hh⟩
    · rw [js_u_other (by omega)] at hr
      exact hh' r hr
  · rw [js_u_other (by omega), js_u_other (by omega), js_u_other (by omega), js_u_other (by omega), js_u_other (by omega), js_u_other (by omega)]
    exact ⟨h.2.2.1, h.2.2.2.1, h.2.2.2.2.1, h.2.2.2.2.2.1⟩
/-- p heard that s is known -/
theorem rCo_kn {o x c0 : Nat} {v : Int} {μ ν : js_Mm} (ho : 17 < o) (h : rCo o x μ ν) (hc0 : c0 < 144) : rCo o x (js_u μ (o + 6) c0 v) (js_u ν 1 (x + 432 + c0) v) := by
  have hc := h.2.1
  refine rCo_lo h (fun k j hk => js_u_other (by omega)) (fun j hj => js_u_other (by omega)) (fun c hc' => ?_) (fun q t hq ht r hr => ?_) ?_
  · have hh := hc (c / 6) (c % 6) (by omega) (by omega)
    have ec : 6 * (c / 6) + c % 6 = c := by omega
    unfold rCe at hh
    rw [ec] at hh
    rw [js_u_other (a' := o + 7) (by omega), js_u_other (a' := 1) (b' := x + 576 + c) (by omega)]
    refine ⟨?_, hh.2.2.2.2.1, hh.2.2.2.2.2.1⟩
    by_cases e : c = c0
    · subst e
      rw [js_u_same, js_u_same]
    · rw [js_u_other (by omega), js_u_other (by omega)]
      exact hh.2.2.2.1
  · rw [js_u_other (by omega)] at hr
    exact (hc q t hq ht).2.2.2.2.2.2 r hr
  · rw [js_u_other (by omega), js_u_other (by omega), js_u_other (by omega), js_u_other (by omega), js_u_other (by omega), js_u_other (by omega)]
    exact ⟨h.2.2.1, h.2.2.2.1, h.2.2.2.2.1, h.2.2.2.2.2.1⟩
theorem rCo_same {o x : Nat} {μ ν : js_Mm} (h : rCo o x μ ν) : ∀ c, c < 144 → ν 1 (x + 432 + c) = μ (o + 6) c ∧ ν 1 (x + 576 + c) = μ (o + 7) c ∧ 0 ≤ μ (o + 7) c ∧ μ (o + 7) c < 16777216 := fun c hc' => by
  have hh := h.2.1 (c / 6) (c % 6) (by omega) (by omega)
  have ec : 6 * (c / 6) + c % 6 = c := by omega
  unfold rCe at hh
  rw [ec] at hh
  exact ⟨hh.2.2.2.1, hh.2.2.2.2.1, hh.2.2.2.2.2.1⟩
/-- one more no; one more tick -/
theorem rCo_no {o x : Nat} {v : Int} {μ ν : js_Mm} (ho : 17 < o) (h : rCo o x μ ν) : rCo o x (js_u μ o 12 v) (js_u ν 1 (x + 865) v) := by
  have hs := rCo_same h
  refine rCo_lo h (fun k j hk => js_u_other (by omega)) (fun j hj => js_u_other (by omega)) (fun c hc' => ?_) (fun q t hq ht r hr => ?_) ?_
  · rw [js_u_other (by omega), js_u_other (by omega), js_u_other (by omega), js_u_other (by omega)]; exact hs c hc'
  · rw [js_u_other (by omega)] at hr
    exact (h.2.1 q t hq ht).2.2.2.2.2.2 r hr
  · rw [js_u_other (by omega), js_u_other (a' := o) (b' := 11) (by omega), js_u_same, js_u_same, js_u_other (by omega), js_u_other (by omega)]
    exact ⟨h.2.2.1, rfl, h.2.2.2.2.1, h.2.2.2.2.2.1⟩
theorem rCo_tc {o x : Nat} {v : Int} {μ ν : js_Mm} (ho : 17 < o) (h : rCo o x μ ν) : rCo o x (js_u μ o 11 v) (js_u ν 1 (x + 864) v) := by
  have hs := rCo_same h
  refine rCo_lo h (fun k j hk => js_u_other (by omega)) (fun j hj => js_u_other (by omega)) (fun c hc' => ?_) (fun q t hq ht r hr => ?_) ?_
  · rw [js_u_other (by omega), js_u_other (by omega), js_u_other (by omega), js_u_other (by omega)]; exact hs c hc'
  · rw [js_u_other (by omega)] at hr
    exact (h.2.1 q t hq ht).2.2.2.2.2.2 r hr
  · rw [js_u_same, js_u_same, js_u_other (by omega), js_u_other (by omega), js_u_other (by omega), js_u_other (by omega)]
    exact ⟨rfl, h.2.2.2.1, h.2.2.2.2.1, h.2.2.2.2.2.1⟩
end
