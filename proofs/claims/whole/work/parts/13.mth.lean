section
def js_min (x y : Int) : Int := if y < x then y else x
def js_max (x y : Int) : Int := if x < y then y else x
variable {κ : js_Ks} {k pc pc' p1 p2 : Nat}
theorem ok_mmin {idx : Nat} {a b : js_EE} (ha : ok_E κ k pc p1 1 a) (hb : ok_E κ (k + js_ct 1) p1 p2 1 b) (hd : decode (kC κ) p2 = .ok (.invokestatic idx, 3)) (hp : p2 + 3 = pc') (hl0 : Cond.methodLink (kO κ) idx Lib.Math.min.name ∈ js_tb) (hw : Cond.static Lib.Math.min.name ∈ js_tb ∧ Cond.initialized "java/lang/Math" ∈ js_tb ∧ Cond.code Lib.Math.min.name Lib.Math.min.code 2 (some .int) ∈ js_tb) (hz : (Nat.ble 1 (kR κ) && Nat.ble k 8) = true) : ok_E κ k pc pc' 1 (js_2 js_min a b) := by
  simp only [Bool.and_eq_true, Nat.ble_eq] at hz
  intro X h ρ μ z μ' ls st H locs he hl hh hs hk
  subst hp
  obtain ⟨x, μ1, hea, he⟩ := js_b_some he
  obtain ⟨y, μ2, heb, he⟩ := js_b_some he
  cases he
  refine ha X h ρ μ x μ1 ls st H locs hea hl hh hs (fun hx H' locs' hh' => ?_)
  refine hb X h ρ μ1 y _ ls _ H' locs' heb hl hh' (js_smc hs) (fun hy H2 locs2 hh2 => ?_)
  have hsum : (st.map fun v => v.category).sum ≤ k := hs
  refine va_mmin h.1 h.2.1 (by rw [hl.1]; exact h.2.2.1) h.2.2.2.1 (h.2.2.2.2.1 _ hl0) (h.2.2.2.2.1 _ hw.1) (h.2.2.2.2.1 _ hw.2.1) (h.2.2.2.2.1 _ hw.2.2) hz.1 (by show _ + 13 ≤ 36 * kR κ; omega) (Nat.zero_le _) (Nat.zero_le _) hd ?_
  have e : (if Int32.ofInt y < Int32.ofInt x then Int32.ofInt y else Int32.ofInt x) = Int32.ofInt (js_min x y) := by
    unfold js_min
    by_cases q : y < x
    · rw [if_pos q, if_pos ((js_lt32 hy hx).mpr q)]
    · rw [if_neg q, if_neg (fun w => q ((js_lt32 hy hx).mp w))]
  rw [e]
  refine hk ?_ H2 locs2 hh2
  unfold js_min
  by_cases q : y < x
  · rw [if_pos q]; exact hy
  · rw [if_neg q]; exact hx
theorem ok_mmax {idx : Nat} {a b : js_EE} (ha : ok_E κ k pc p1 1 a) (hb : ok_E κ (k + js_ct 1) p1 p2 1 b) (hd : decode (kC κ) p2 = .ok (.invokestatic idx, 3)) (hp : p2 + 3 = pc') (hl0 : Cond.methodLink (kO κ) idx Lib.Math.max.name ∈ js_tb) (hw : Cond.static Lib.Math.max.name ∈ js_tb ∧ Cond.initialized "java/lang/Math" ∈ js_tb ∧ Cond.code Lib.Math.max.name Lib.Math.max.code 2 (some .int) ∈ js_tb) (hz : (Nat.ble 1 (kR κ) && Nat.ble k 8) = true) : ok_E κ k pc pc' 1 (js_2 js_max a b) := by
  simp only [Bool.and_eq_true, Nat.ble_eq] at hz
  intro X h ρ μ z μ' ls st H locs he hl hh hs hk
  subst hp
  obtain ⟨x, μ1, hea, he⟩ := js_b_some he
  obtain ⟨y, μ2, heb, he⟩ := js_b_some he
  cases he
  refine ha X h ρ μ x μ1 ls st H locs hea hl hh hs (fun hx H' locs' hh' => ?_)
  refine hb X h ρ μ1 y _ ls _ H' locs' heb hl hh' (js_smc hs) (fun hy H2 locs2 hh2 => ?_)
  have hsum : (st.map fun v => v.category).sum ≤ k := hs
  refine va_mmax h.1 h.2.1 (by rw [hl.1]; exact h.2.2.1) h.2.2.2.1 (h.2.2.2.2.1 _ hl0) (h.2.2.2.2.1 _ hw.1) (h.2.2.2.2.1 _ hw.2.1) (h.2.2.2.2.1 _ hw.2.2) hz.1 (by show _ + 13 ≤ 36 * kR κ; omega) (Nat.zero_le _) (Nat.zero_le _) hd ?_
  have e : (if Int32.ofInt x < Int32.ofInt y then Int32.ofInt y else Int32.ofInt x) = Int32.ofInt (js_max x y) := by
    unfold js_max
    by_cases q : x < y
    · rw [if_pos q, if_pos ((js_lt32 hx hy).mpr q)]
    · rw [if_neg q, if_neg (fun w => q ((js_lt32 hx hy).mp w))]
  rw [e]
  refine hk ?_ H2 locs2 hh2
  unfold js_max
  by_cases q : x < y
  · rw [if_pos q]; exact hy
  · rw [if_neg q]; exact hx
end
