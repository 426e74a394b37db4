section
/-- a course's and a row's places are those of another pair -/
def mvC (o o' : Nat) (μ μ' : js_Mm) : Prop := (∀ p, p < 24 → μ' (o' + 1) p = μ (o + 1) p ∧ μ' (o' + 2) p = μ (o + 2) p) ∧ (∀ c, c < 144 → μ' (o' + 3) c = μ (o + 3) c ∧ μ' (o' + 4) c = μ (o + 4) c ∧ μ' (o' + 5) c = μ (o + 5) c ∧ μ' (o' + 6) c = μ (o + 6) c ∧ μ' (o' + 7) c = μ (o + 7) c) ∧ μ' o' 11 = μ o 11 ∧ μ' o' 12 = μ o 12 ∧ μ' o' 13 = μ o 13 ∧ μ' 3 0 = μ 3 0 ∧ μ' 17 0 = μ 17 0
theorem hCn_mv {o o' : Nat} {μ μ' : js_Mm} (h : ∀ p, p < 24 → μ' (o' + 1) p = μ (o + 1) p) : ∀ k, k ≤ 144 → hCn μ' o' k = hCn μ o k
  | 0, _ => rfl
  | k + 1, hk => by
    unfold hCn
    rw [hCn_mv h k (by omega), h (k / 6) (by omega)]
theorem rCe_mv {o o' x x' : Nat} {μ μ' ν ν' : js_Mm} (h : mvC o o' μ μ') (hr : ∀ j, j < 867 → ν' 1 (x' + j) = ν 1 (x + j)) {p s : Nat} (hp : p < 24) (hs : s < 6) (hc : rCe o x μ ν p s) : rCe o' x' μ' ν' p s := by
  obtain ⟨h1, h2, h3, h4, h5, h6, h7⟩ := h
  obtain ⟨a3, a4, a5, a6, a7⟩ := h2 (6 * p + s) (by omega)
  obtain ⟨b1, b2⟩ := h1 p hp
  have c0 := hr (6 * p + s) (by omega)
  have c1 := hr (144 + (6 * p + s)) (by omega)
  have c2 := hr (720 + (6 * p + s)) (by omega)
  have c3 := hr (288 + (6 * p + s)) (by omega)
  have c4 := hr (432 + (6 * p + s)) (by omega)
  have c5 := hr (576 + (6 * p + s)) (by omega)
  simp only [← Nat.add_assoc] at c0 c1 c2 c3 c4 c5
  unfold rCe at *
  simp only [← Nat.add_assoc] at *
  rw [c0, c1, c2, c3, c4, c5, a3, a4, a5, a6, a7, b1, b2, h6, h7]
  refine ⟨hc.1, hc.2.1, hc.2.2.1, hc.2.2.2.1, hc.2.2.2.2.1, hc.2.2.2.2.2.1, fun q hq => ?_⟩
  obtain ⟨g1, g2, g3⟩ := hc.2.2.2.2.2.2 q hq
  refine ⟨g1, g2, ?_⟩
  by_cases hq24 : q < 24
  · rw [(h1 q hq24).1]; exact g3
  · exfalso
    have hlt := hc.2.2.2.2.2.1.2
    have := jb_lt (x := μ (o + 7) (6 * p + s)) (k := (q : Int)) 24 hlt (by omega)
    rw [this] at hq
    cases hq
theorem rCo_mv {o o' x x' : Nat} {μ μ' ν ν' : js_Mm} (h : mvC o o' μ μ') (hr : ∀ j, j < 867 → ν' 1 (x' + j) = ν 1 (x + j)) (hc : rCo o x μ ν) : rCo o' x' μ' ν' := by
  obtain ⟨c1, c2, c3, c4, c5, c6, rk, c7⟩ := hc
  have h0 := h
  obtain ⟨h1, h2, h3, h4, h5, h6, h7⟩ := h
  refine ⟨fun p hp => ?_, fun p s hp hs => rCe_mv h0 hr hp hs (c2 p s hp hs), ?_, ?_, ?_, ?_, rk, fun p s hp hs hb => ?_⟩
  · rw [(h1 p hp).1, (h1 p hp).2]; exact c1 p hp
  · rw [hr 864 (by omega), h3]; exact c3
  · rw [hr 865 (by omega), h4]; exact c4
  · rw [hr 866 (by omega), h5]; exact c5
  · rw [h5]; exact c6
  · rw [(h1 p hp).1] at hb
    obtain ⟨a3, a4, -⟩ := h2 (6 * p + s) (by omega)
    rw [hCn_mv (fun p hp => (h1 p hp).1) 144 (by omega), a3, a4]
    obtain ⟨d1, d2⟩ := c7 p s hp hs hb
    refine ⟨d1, fun e1 e2 => ?_⟩
    rw [(h1 _ (by omega)).1]
    exact d2 e1 e2
theorem rBe_mv {o o' x x' : Nat} {μ μ' ν ν' : js_Mm} (h0 : μ' o' 10 = μ o 10) (h : ∀ i, i < 40 → μ' (o' + 8) i = μ (o + 8) i ∧ μ' (o' + 9) i = μ (o + 9) i ∧ μ' (o' + 10) i = μ (o + 10) i) (hn : μ' 3 0 = μ 3 0 ∧ μ' 17 0 = μ 17 0) (hr : ∀ j, 867 ≤ j → j < 988 → ν' 1 (x' + j) = ν 1 (x + j)) (hb : rBe o x μ ν) : rBe o' x' μ' ν' := by
  obtain ⟨b1, b2, b3⟩ := hb
  refine ⟨by rw [h0]; exact b1, by rw [hr 867 (by omega) (by omega), h0]; exact b2, fun i hi => ?_⟩
  rw [h0] at hi
  obtain ⟨a1, a2, a3⟩ := h i (by omega)
  have e1 := hr (868 + 3 * i) (by omega) (by omega)
  have e2 := hr (868 + 3 * i + 1) (by omega) (by omega)
  have e3 := hr (868 + 3 * i + 2) (by omega) (by omega)
  simp only [← Nat.add_assoc] at e1 e2 e3
  rw [e1, e2, e3, a1, a2, a3, hn.1, hn.2]
  exact b3 i hi
theorem tIs_cg {ν ν' : js_Mm} {p : Int} {k : Nat} (h : ∀ j, j < 60 → ν' 7 j = ν 7 j ∧ ν' 8 j = ν 8 j ∧ ν' 9 j = ν 9 j) (hk : k < 60) : tIs ν' p k = tIs ν p k ∧ tOt ν' p k = tOt ν p k := by
  unfold tIs tOt
  rw [(h k hk).1, (h k hk).2.1]
  exact ⟨rfl, rfl⟩
theorem tCn_cg {ν ν' : js_Mm} {p : Int} (h : ∀ j, j < 60 → ν' 7 j = ν 7 j ∧ ν' 8 j = ν 8 j ∧ ν' 9 j = ν 9 j) : ∀ k, k ≤ 60 → tCn ν' p k = tCn ν p k ∧ tSm ν' p k = tSm ν p k
  | 0, _ => ⟨rfl, rfl⟩
  | k + 1, hk => by
    obtain ⟨h1, h2⟩ := tCn_cg (p := p) h k (by omega)
    unfold tCn tSm
    rw [h1, h2, (tIs_cg h (by omega)).1, (h k (by omega)).2.2]
    exact ⟨rfl, rfl⟩
theorem tSt_cg {ν ν' : js_Mm} {a b : Int} (h : ∀ j, j < 60 → ν' 7 j = ν 7 j ∧ ν' 8 j = ν 8 j ∧ ν' 9 j = ν 9 j) : ∀ k, k ≤ 60 → tSt ν' a b k = tSt ν a b k
  | 0, _ => rfl
  | k + 1, hk => by
    unfold tSt
    rw [tSt_cg h k (by omega), (tIs_cg h (by omega)).1, (tIs_cg h (by omega)).1, (h k (by omega)).2.2]
theorem rTx_ob {μ μ' ν ν' : js_Mm} (hC : μ' 1 1 = μ 1 1 ∧ ∀ i : Nat, μ' 2 i = μ 2 i) (hM : ν' 0 19 = ν 0 19 ∧ ∀ i : Nat, ν' 17 i = ν 17 i) (h : rTx μ ν) : rTx μ' ν' := by
  unfold rTx at *
  simp only [hC.1, hC.2, hM.1, hM.2]
  exact h
theorem rPe_ob {μ μ' ν ν' : js_Mm} (hC : ∀ k j, 3 ≤ k → k ≤ 5 → μ' k j = μ k j) (hM : ν' 6 0 = ν 6 0 ∧ ∀ j, j < 24 → ν' 3 j = ν 3 j ∧ ν' 4 j = ν 4 j ∧ ν' 5 j = ν 5 j) (h : rPe μ ν) : rPe μ' ν' := by
  obtain ⟨h1, h2, h3, h4⟩ := h
  have e0 := hC 3 0 (by omega) (by omega)
  have e2 := hC 3 2 (by omega) (by omega)
  refine ⟨by rw [e0]; exact h1, by rw [hM.1, e0]; exact h2, by rw [e2]; exact h3, fun p hp => ?_⟩
  rw [e0] at hp
  obtain ⟨m1, m2, m3⟩ := hM.2 p (by omega)
  rw [m1, m2, m3, hC 4 p (by omega) (by omega), hC 5 p (by omega) (by omega), e2]
  exact h4 p hp
theorem rTi_ob {μ μ' ν ν' : js_Mm} (hC : ∀ k j, 3 ≤ k → k ≤ 9 → μ' k j = μ k j) (hM : ν' 10 0 = ν 10 0) (hT : ∀ j, j < 60 → ν' 7 j = ν 7 j ∧ ν' 8 j = ν 8 j ∧ ν' 9 j = ν 9 j) (h : rTi μ ν) : rTi μ' ν' := by
  obtain ⟨h1, h2, h3, h4, h5⟩ := h
  have e0 := hC 3 0 (by omega) (by omega)
  have e1 := hC 3 1 (by omega) (by omega)
  refine ⟨by rw [e1]; exact h1, by rw [hM, e1]; exact h2, fun k hk => ?_, fun j k hjk hk => ?_, fun p hp => ?_⟩
  · rw [e1] at hk
    obtain ⟨t1, t2, t3⟩ := hT k (by omega)
    rw [t1, t2, t3, e0]; exact h3 k hk
  · rw [e1] at hk
    obtain ⟨t1, t2, t3⟩ := hT k (by omega)
    obtain ⟨u1, u2, u3⟩ := hT j (by omega)
    rw [t1, t2, u1, u2]; exact h4 j k hjk hk
  · rw [e0] at hp
    obtain ⟨g1, g2, g3, g4⟩ := h5 p hp
    rw [e1, hC 6 p (by omega) (by omega), hC 7 p (by omega) (by omega), (tCn_cg hT _ (by omega)).1, (tCn_cg hT _ (by omega)).2]
    refine ⟨g1, g2, g3, fun k hk hi => ?_⟩
    rw [(tIs_cg hT (by omega)).1] at hi
    rw [hC 8 _ (by omega) (by omega), hC 9 _ (by omega) (by omega), (tCn_cg hT _ (by omega)).1, (tIs_cg hT (by omega)).2, (hT k (by omega)).2.2]
    exact g4 k hk hi
theorem rLo_ob {μ μ' ν ν' : js_Mm} (hC : ∀ k j, 17 ≤ k → k ≤ 22 → μ' k j = μ k j) (hM : ν' 16 0 = ν 16 0 ∧ ∀ k j, 11 ≤ k → k ≤ 15 → j < 6 → ν' k j = ν k j) (h : rLo μ ν) : rLo μ' ν' := by
  obtain ⟨h1, h2, h3⟩ := h
  have e0 := hC 17 0 (by omega) (by omega)
  refine ⟨by rw [e0]; exact h1, by rw [hM.1, e0]; exact h2, fun s hs => ?_⟩
  rw [e0] at hs
  have h4 := h3 s hs
  rw [hM.2 11 s (by omega) (by omega) (by omega), hM.2 12 s (by omega) (by omega) (by omega), hM.2 13 s (by omega) (by omega) (by omega), hM.2 14 s (by omega) (by omega) (by omega), hM.2 15 s (by omega) (by omega) (by omega), hC 18 s (by omega) (by omega), hC 19 s (by omega) (by omega), hC 20 s (by omega) (by omega), hC 21 s (by omega) (by omega), hC 22 s (by omega) (by omega)]
  refine ⟨h4.1, h4.2.1, h4.2.2.1, h4.2.2.2.1, h4.2.2.2.2.1, h4.2.2.2.2.2.1, h4.2.2.2.2.2.2.1, h4.2.2.2.2.2.2.2.1, h4.2.2.2.2.2.2.2.2.1, fun r => ?_⟩
  rw [hC 20 r (by omega) (by omega), e0]
  exact h4.2.2.2.2.2.2.2.2.2 r
theorem rIn_ob {μ μ' ν ν' : js_Mm} (hC : μ' 3 0 = μ 3 0 ∧ ∀ k j, 89 ≤ k → k ≤ 91 → μ' k j = μ k j) (hM : ν' 0 28 = ν 0 28 ∧ ∀ j : Nat, ν' 20 j = ν 20 j ∧ ν' 21 j = ν 21 j) (h : rIn μ ν) : rIn μ' ν' := by
  obtain ⟨h1, h2, h3⟩ := h
  have e0 := hC.2 89 0 (by omega) (by omega)
  refine ⟨by rw [hM.1, e0]; exact h1, by rw [e0]; exact h2, fun p hp => ?_⟩
  rw [e0] at hp
  rw [(hM.2 p).1, (hM.2 p).2, hC.1, hC.2 90 p (by omega) (by omega), hC.2 91 p (by omega) (by omega)]
  exact h3 p hp
theorem rNe_ob {μ μ' ν ν' : js_Mm} (hC : μ' 92 6 = μ 92 6 ∧ μ' 3 0 = μ 3 0 ∧ μ' 3 1 = μ 3 1 ∧ (∀ j : Nat, μ' 93 j = μ 93 j) ∧ ∀ j : Nat, μ' 4 j = μ 4 j) (h60 : μ 3 1 ≤ 60) (hT : ∀ j, j < 60 → ν' 7 j = ν 7 j ∧ ν' 8 j = ν 8 j ∧ ν' 9 j = ν 9 j) (h : rNe μ ν) : rNe μ' ν' := by
  obtain ⟨h1, h2⟩ := h
  obtain ⟨c1, c2, c3, c4, c5⟩ := hC
  refine ⟨by rw [c1]; exact h1, fun hr p q hp hq hpn hqn => ?_⟩
  rw [c1] at hr
  rw [c2] at hpn hqn
  rw [c4, c5, c3, tSt_cg hT _ (by omega)]
  exact h2 hr p q hp hq hpn hqn
theorem rLa_ob {μ μ' ν ν' : js_Mm} (hC : μ' 97 3 = μ 97 3 ∧ ∀ j : Nat, μ' 98 j = μ 98 j ∧ μ' 100 j = μ 100 j) (hM : ν' 0 36 = ν 0 36 ∧ ∀ j : Nat, ν' 25 j = ν 25 j ∧ ν' 27 j = ν 27 j) (h : rLa μ ν) : rLa μ' ν' := by
  obtain ⟨h1, h2, h3, h4⟩ := h
  refine ⟨fun k hk => ?_, by rw [hM.1]; exact h2, by rw [hM.1, hC.1]; exact h3, fun i hi => ?_⟩
  · rw [(hM.2 k).1, (hC.2 k).1]; exact h1 k hk
  · rw [hM.1, (hM.2 i).2, (hC.2 i).2]; exact h4 i hi
/-- what the relation looks at stays: the relation stays -/
theorem RR_ob {μ μ' ν ν' : js_Mm} (hC : ∀ k j, oC k j = true → μ' k j = μ k j) (hM : ∀ k j, oM k j = true → ν' k j = ν k j) (h : RR μ ν) : RR μ' ν' := by
  obtain ⟨g1, g2, g3, g4, g5, g6, g7, g8, g9, g10, g11, g12⟩ := h
  have hT : ∀ j, j < 60 → ν' 7 j = ν 7 j ∧ ν' 8 j = ν 8 j ∧ ν' 9 j = ν 9 j := fun j hj => ⟨hM 7 j (by simp [oM, hj]), hM 8 j (by simp [oM, hj]), hM 9 j (by simp [oM, hj])⟩
  have c30 := hC 3 0 rfl
  have c170 := hC 17 0 rfl
  have mv31 : mvC 31 31 μ μ' := ⟨fun p _ => ⟨hC 32 p rfl, hC 33 p rfl⟩, fun c _ => ⟨hC 34 c rfl, hC 35 c rfl, hC 36 c rfl, hC 37 c rfl, hC 38 c rfl⟩, hC 31 11 rfl, hC 31 12 rfl, hC 31 13 rfl, c30, c170⟩
  have mv65 : mvC 65 65 μ μ' := ⟨fun p _ => ⟨hC 66 p rfl, hC 67 p rfl⟩, fun c _ => ⟨hC 68 c rfl, hC 69 c rfl, hC 70 c rfl, hC 71 c rfl, hC 72 c rfl⟩, hC 65 11 rfl, hC 65 12 rfl, hC 65 13 rfl, c30, c170⟩
  have mv76 : mvC 76 76 μ μ' := ⟨fun p _ => ⟨hC 77 p rfl, hC 78 p rfl⟩, fun c _ => ⟨hC 79 c rfl, hC 80 c rfl, hC 81 c rfl, hC 82 c rfl, hC 83 c rfl⟩, hC 76 11 rfl, hC 76 12 rfl, hC 76 13 rfl, c30, c170⟩
  have r0 : ∀ j, j < 1000 → ν' 1 (0 + j) = ν 1 (0 + j) := fun j hj => hM 1 (0 + j) (by simp [oM]; omega)
  have r2 : ∀ j, j < 1000 → ν' 1 (2000 + j) = ν 1 (2000 + j) := fun j _ => hM 1 (2000 + j) (by simp [oM])
  have r3 : ∀ j, j < 1000 → ν' 1 (3000 + j) = ν 1 (3000 + j) := fun j hj => hM 1 (3000 + j) (by simp [oM]; omega)
  refine ⟨rTx_ob ⟨hC 1 1 rfl, fun i => hC 2 i rfl⟩ ⟨hM 0 19 rfl, fun i => hM 17 i rfl⟩ g1, ?_, rPe_ob (fun k j h1 h2 => hC k j ?_) ⟨hM 6 0 rfl, fun j hj => ⟨hM 3 j (by simp [oM, hj]), hM 4 j (by simp [oM, hj]), hM 5 j (by simp [oM, hj])⟩⟩ g3, rTi_ob (fun k j h1 h2 => hC k j ?_) (hM 10 0 rfl) hT g4, rLo_ob (fun k j h1 h2 => hC k j ?_) ⟨hM 16 0 rfl, fun k j h1 h2 h3 => hM k j ?_⟩ g5, rCo_mv mv31 (fun j hj => r0 j (by omega)) g6, rBe_mv (hC 31 10 rfl) (fun i _ => ⟨hC 39 i rfl, hC 40 i rfl, hC 41 i rfl⟩) ⟨c30, c170⟩ (fun j _ hj => r0 j (by omega)) g7, ⟨?_, ?_, fun hk => ?_⟩, ⟨?_, ?_, fun hk => ?_⟩, rIn_ob ⟨c30, fun k j h1 h2 => hC k j ?_⟩ ⟨hM 0 28 rfl, fun j => ⟨hM 20 j rfl, hM 21 j rfl⟩⟩ g10, rNe_ob ⟨hC 92 6 rfl, c30, hC 3 1 rfl, fun j => hC 93 j rfl, fun j => hC 4 j rfl⟩ g4.1.2 hT g11, rLa_ob ⟨hC 97 3 rfl, fun j => ⟨hC 98 j rfl, hC 100 j rfl⟩⟩ ⟨hM 0 36 rfl, fun j => ⟨hM 25 j rfl, hM 27 j rfl⟩⟩ g12⟩
  · unfold rRu at *
    rw [hM 0 24 rfl, hM 0 2 rfl, hM 0 3 rfl, hC 0 15 rfl, hC 29 0 rfl, hC 29 1 rfl]
    exact g2
  · simp [oC]; omega
  · simp [oC]; omega
  · simp [oC]; omega
  · simp [oM]; omega
  · rw [hM 2 0 rfl, hC 65 14 rfl]; exact g8.1
  · rw [hC 65 14 rfl]; exact g8.2.1
  · rw [hC 65 14 rfl] at hk
    exact ⟨rCo_mv mv65 (fun j hj => r2 j (by omega)) (g8.2.2 hk).1, rBe_mv (hC 65 10 rfl) (fun i _ => ⟨hC 73 i rfl, hC 74 i rfl, hC 75 i rfl⟩) ⟨c30, c170⟩ (fun j _ hj => r2 j (by omega)) (g8.2.2 hk).2⟩
  · rw [hM 2 1 rfl, hC 76 14 rfl]; exact g9.1
  · rw [hC 76 14 rfl]; exact g9.2.1
  · rw [hC 76 14 rfl] at hk
    exact ⟨rCo_mv mv76 (fun j hj => r3 j (by omega)) (g9.2.2 hk).1, rBe_mv (hC 76 10 rfl) (fun i _ => ⟨hC 84 i rfl, hC 85 i rfl, hC 86 i rfl⟩) ⟨c30, c170⟩ (fun j _ hj => r3 j (by omega)) (g9.2.2 hk).2⟩
  · simp [oC]; omega
end
