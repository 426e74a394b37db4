section
/-! ===== conditions, choices, statements ===== -/
variable {κ : js_Ks} {k pc pc' p1 p2 p3 tt ff : Nat}
theorem ok_eg {t : Nat} {off : Int} {a : js_EE} (ha : ok_E κ k pc p1 t a) (hd : decode (kC κ) p1 = .ok (.goto off, 3)) (ht : (p1 : Int) + off = (pc' : Int)) : ok_E κ k pc pc' t a := by
  intro X h ρ μ z μ' ls st H locs he hl hh hs hk
  exact ha X h ρ μ z μ' ls st H locs he hl hh hs (fun hr H' locs' hh' => lv_goto h.1 h.2.1 hd ht (hk hr H' locs' hh'))
theorem js_bc_some {α : Type} {x : Option (Bool × js_Mm)} {f g : js_Mm → Option α} {r : α} (h : js_bc x f g = some r) : ∃ b w, x = some (b, w) ∧ (if b = true then f w else g w) = some r := by
  cases x with
  | none => cases h
  | some q =>
    obtain ⟨b, w⟩ := q
    cases b
    · exact ⟨false, w, rfl, h⟩
    · exact ⟨true, w, rfl, h⟩
theorem ok_q {t : Nat} {c : js_CC} {a b : js_EE} (hc : ok_C κ k pc p1 p2 c) (ha : ok_E κ k p1 pc' t a) (hb : ok_E κ k p2 pc' t b) : ok_E κ k pc pc' t (js_q c a b) := by
  intro X h ρ μ z μ' ls st H locs he hl hh hs hk
  obtain ⟨b0, μ1, hec, he⟩ := js_bc_some he
  refine hc X h ρ μ b0 μ1 ls st H locs hec hl hh hs (fun H' locs' hh' => ?_)
  cases b0
  · exact hb X h ρ μ1 z μ' ls st H' locs' he hl hh' hs hk
  · exact ha X h ρ μ1 z μ' ls st H' locs' he hl hh' hs hk
theorem ok_ca {c d : js_CC} (hc : ok_C κ k pc p1 ff c) (hd : ok_C κ k p1 tt ff d) : ok_C κ k pc tt ff (js_ca c d) := by
  intro X h ρ μ b μ' ls st H locs he hl hh hs hk
  obtain ⟨b0, μ1, hec, he⟩ := js_bc_some he
  refine hc X h ρ μ b0 μ1 ls st H locs hec hl hh hs (fun H' locs' hh' => ?_)
  cases b0
  · cases he; exact hk H' locs' hh'
  · exact hd X h ρ μ1 b μ' ls st H' locs' he hl hh' hs hk
theorem ok_co {c d : js_CC} (hc : ok_C κ k pc tt p1 c) (hd : ok_C κ k p1 tt ff d) : ok_C κ k pc tt ff (js_co c d) := by
  intro X h ρ μ b μ' ls st H locs he hl hh hs hk
  obtain ⟨b0, μ1, hec, he⟩ := js_bc_some he
  refine hc X h ρ μ b0 μ1 ls st H locs hec hl hh hs (fun H' locs' hh' => ?_)
  cases b0
  · exact hd X h ρ μ1 b μ' ls st H' locs' he hl hh' hs hk
  · cases he; exact hk H' locs' hh'
theorem ok_cn {c : js_CC} (hc : ok_C κ k pc ff tt c) : ok_C κ k pc tt ff (js_cn c) := by
  intro X h ρ μ b μ' ls st H locs he hl hh hs hk
  obtain ⟨b0, μ1, hec, he⟩ := js_bc_some he
  refine hc X h ρ μ b0 μ1 ls st H locs hec hl hh hs (fun H' locs' hh' => ?_)
  cases b0
  · cases he; exact hk H' locs' hh'
  · cases he; exact hk H' locs' hh'
/-- a condition whose jump leads on by a goto -/
theorem js_lt32 {x y : Int} (hx : -2147483648 ≤ x ∧ x < 2147483648) (hy : -2147483648 ≤ y ∧ y < 2147483648) : Int32.ofInt x < Int32.ofInt y ↔ x < y := by
  rw [Int32.lt_iff_toInt_lt, js_i32 hx, js_i32 hy]
theorem js_le32 {x y : Int} (hx : -2147483648 ≤ x ∧ x < 2147483648) (hy : -2147483648 ≤ y ∧ y < 2147483648) : Int32.ofInt x ≤ Int32.ofInt y ↔ x ≤ y := by
  rw [Int32.le_iff_toInt_le, js_i32 hx, js_i32 hy]
theorem js_eq32 {x y : Int} (hx : -2147483648 ≤ x ∧ x < 2147483648) (hy : -2147483648 ≤ y ∧ y < 2147483648) : Int32.ofInt x = Int32.ofInt y ↔ x = y := by
  rw [← Int32.toInt_inj, js_i32 hx, js_i32 hy]
theorem js_z32 : -2147483648 ≤ (0 : Int) ∧ (0 : Int) < 2147483648 := by decide
theorem js_lg_cmp_lt {x y : Int} (hx : -9223372036854775808 ≤ x ∧ x < 9223372036854775808) (hy : -9223372036854775808 ≤ y ∧ y < 9223372036854775808) : lg_cmp (Int64.ofInt x) (Int64.ofInt y) < 0 ↔ x < y := by
  have hx2 := js_i64 hx
  have hy2 := js_i64 hy
  unfold lg_cmp
  simp only [gt_iff_lt, Int64.lt_iff_toInt_lt, Int64.le_iff_toInt_le, ← Int64.toInt_inj, hx2, hy2]
  by_cases g1 : y < x
  · rw [if_pos g1]
    constructor <;> intro q <;> first | omega | (exact absurd q (by decide)) | decide
  · rw [if_neg g1]
    by_cases g2 : x = y
    · rw [if_pos g2]
      constructor <;> intro q <;> first | omega | (exact absurd q (by decide)) | decide
    · rw [if_neg g2]
      constructor <;> intro q <;> first | omega | (exact absurd q (by decide)) | decide
theorem js_lg_cmp_le {x y : Int} (hx : -9223372036854775808 ≤ x ∧ x < 9223372036854775808) (hy : -9223372036854775808 ≤ y ∧ y < 9223372036854775808) : lg_cmp (Int64.ofInt x) (Int64.ofInt y) ≤ 0 ↔ x ≤ y := by
  have hx2 := js_i64 hx
  have hy2 := js_i64 hy
  unfold lg_cmp
  simp only [gt_iff_lt, Int64.lt_iff_toInt_lt, Int64.le_iff_toInt_le, ← Int64.toInt_inj, hx2, hy2]
  by_cases g1 : y < x
  · rw [if_pos g1]
    constructor <;> intro q <;> first | omega | (exact absurd q (by decide)) | decide
  · rw [if_neg g1]
    by_cases g2 : x = y
    · rw [if_pos g2]
      constructor <;> intro q <;> first | omega | (exact absurd q (by decide)) | decide
    · rw [if_neg g2]
      constructor <;> intro q <;> first | omega | (exact absurd q (by decide)) | decide
theorem js_lg_cmp_gt {x y : Int} (hx : -9223372036854775808 ≤ x ∧ x < 9223372036854775808) (hy : -9223372036854775808 ≤ y ∧ y < 9223372036854775808) : 0 < lg_cmp (Int64.ofInt x) (Int64.ofInt y) ↔ y < x := by
  have hx2 := js_i64 hx
  have hy2 := js_i64 hy
  unfold lg_cmp
  simp only [gt_iff_lt, Int64.lt_iff_toInt_lt, Int64.le_iff_toInt_le, ← Int64.toInt_inj, hx2, hy2]
  by_cases g1 : y < x
  · rw [if_pos g1]
    constructor <;> intro q <;> first | omega | (exact absurd q (by decide)) | decide
  · rw [if_neg g1]
    by_cases g2 : x = y
    · rw [if_pos g2]
      constructor <;> intro q <;> first | omega | (exact absurd q (by decide)) | decide
    · rw [if_neg g2]
      constructor <;> intro q <;> first | omega | (exact absurd q (by decide)) | decide
theorem js_lg_cmp_ge {x y : Int} (hx : -9223372036854775808 ≤ x ∧ x < 9223372036854775808) (hy : -9223372036854775808 ≤ y ∧ y < 9223372036854775808) : 0 ≤ lg_cmp (Int64.ofInt x) (Int64.ofInt y) ↔ y ≤ x := by
  have hx2 := js_i64 hx
  have hy2 := js_i64 hy
  unfold lg_cmp
  simp only [gt_iff_lt, Int64.lt_iff_toInt_lt, Int64.le_iff_toInt_le, ← Int64.toInt_inj, hx2, hy2]
  by_cases g1 : y < x
  · rw [if_pos g1]
    constructor <;> intro q <;> first | omega | (exact absurd q (by decide)) | decide
  · rw [if_neg g1]
    by_cases g2 : x = y
    · rw [if_pos g2]
      constructor <;> intro q <;> first | omega | (exact absurd q (by decide)) | decide
    · rw [if_neg g2]
      constructor <;> intro q <;> first | omega | (exact absurd q (by decide)) | decide
theorem js_lg_cmp_eq {x y : Int} (hx : -9223372036854775808 ≤ x ∧ x < 9223372036854775808) (hy : -9223372036854775808 ≤ y ∧ y < 9223372036854775808) : lg_cmp (Int64.ofInt x) (Int64.ofInt y) = 0 ↔ x = y := by
  have hx2 := js_i64 hx
  have hy2 := js_i64 hy
  unfold lg_cmp
  simp only [gt_iff_lt, Int64.lt_iff_toInt_lt, Int64.le_iff_toInt_le, ← Int64.toInt_inj, hx2, hy2]
  by_cases g1 : y < x
  · rw [if_pos g1]
    constructor <;> intro q <;> first | omega | (exact absurd q (by decide)) | decide
  · rw [if_neg g1]
    by_cases g2 : x = y
    · rw [if_pos g2]
      constructor <;> intro q <;> first | omega | (exact absurd q (by decide)) | decide
    · rw [if_neg g2]
      constructor <;> intro q <;> first | omega | (exact absurd q (by decide)) | decide
theorem ok_cp_lt_t {off : Int} {a b : js_EE} (ha : ok_E κ k pc p1 1 a) (hb : ok_E κ (k + js_ct 1) p1 p2 1 b) (hd : decode (kC κ) p2 = .ok (.if_icmp .lt off, 3)) (ht : (p2 : Int) + off = (tt : Int)) (hn : p2 + 3 = ff) : ok_C κ k pc tt ff (js_cp js_lt a b) := by
  intro X h ρ μ b0 μ' ls st H locs he hl hh hs hk
  subst hn
  obtain ⟨x, μ1, hea, he⟩ := js_b_some he
  obtain ⟨y, μ2, heb, he⟩ := js_b_some he
  cases he
  refine ha X h ρ μ x μ1 ls st H locs hea hl hh hs (fun hx H' locs' hh' => ?_)
  refine hb X h ρ μ1 y _ ls _ H' locs' heb hl hh' (js_smc hs) (fun hy H2 locs2 hh2 => ?_)
  have hk := hk H2 locs2 hh2
  refine lv_icmp_lt h.1 h.2.1 hd ht (fun hc => ?_) (fun hc => ?_)
  · have hc3 : x < y := (js_lt32 hx hy).mp hc
    have hc2 : js_lt x y = true := by exact decide_eq_true (by omega)
    rw [hc2] at hk
    exact hk
  · have hc3 : ¬ (x < y) := fun q => hc ((js_lt32 hx hy).mpr q)
    have hc2 : js_lt x y = false := by exact decide_eq_false (by omega)
    rw [hc2] at hk
    exact hk
theorem ok_cz_lt_t {off : Int} {a : js_EE} (ha : ok_E κ k pc p1 1 a) (hd : decode (kC κ) p1 = .ok (.ifCond .lt off, 3)) (ht : (p1 : Int) + off = (tt : Int)) (hn : p1 + 3 = ff) : ok_C κ k pc tt ff (js_cz js_lt a) := by
  intro X h ρ μ b0 μ' ls st H locs he hl hh hs hk
  subst hn
  obtain ⟨x, μ1, hea, he⟩ := js_b_some he
  cases he
  refine ha X h ρ μ x _ ls st H locs hea hl hh hs (fun hx H2 locs2 hh2 => ?_)
  have hk := hk H2 locs2 hh2
  have hy := js_z32
  refine lv_if_lt h.1 h.2.1 hd ht (fun hc => ?_) (fun hc => ?_)
  · have hc3 : x < 0 := (js_lt32 hx hy).mp hc
    have hc2 : js_lt x 0 = true := by exact decide_eq_true (by omega)
    rw [hc2] at hk
    exact hk
  · have hc3 : ¬ (x < 0) := fun q => hc ((js_lt32 hx hy).mpr q)
    have hc2 : js_lt x 0 = false := by exact decide_eq_false (by omega)
    rw [hc2] at hk
    exact hk
theorem ok_cl_lt_t {off : Int} {a b : js_EE} (ha : ok_E κ k pc p1 2 a) (hb : ok_E κ (k + js_ct 2) p1 p2 2 b) (hl0 : decode (kC κ) p2 = .ok (.lcmp, 1)) (hp3 : p2 + 1 = p3) (hd : decode (kC κ) p3 = .ok (.ifCond .lt off, 3)) (ht : (p3 : Int) + off = (tt : Int)) (hn : p3 + 3 = ff) : ok_C κ k pc tt ff (js_cp js_lt a b) := by
  intro X h ρ μ b0 μ' ls st H locs he hl hh hs hk
  subst hn; subst hp3
  obtain ⟨x, μ1, hea, he⟩ := js_b_some he
  obtain ⟨y, μ2, heb, he⟩ := js_b_some he
  cases he
  refine ha X h ρ μ x μ1 ls st H locs hea hl hh hs (fun hx H' locs' hh' => ?_)
  refine hb X h ρ μ1 y _ ls _ H' locs' heb hl hh' (js_smc hs) (fun hy H2 locs2 hh2 => ?_)
  have hk := hk H2 locs2 hh2
  refine W.lcmp h.1 h.2.1 hl0 ?_
  refine lv_if_lt h.1 h.2.1 hd ht (fun hc => ?_) (fun hc => ?_)
  · have hc3 : x < y := (js_lg_cmp_lt hx hy).mp hc
    have hc2 : js_lt x y = true := by exact decide_eq_true (by omega)
    rw [hc2] at hk
    exact hk
  · have hc3 : ¬ (x < y) := fun q => hc ((js_lg_cmp_lt hx hy).mpr q)
    have hc2 : js_lt x y = false := by exact decide_eq_false (by omega)
    rw [hc2] at hk
    exact hk
theorem ok_cp_lt_f {off : Int} {a b : js_EE} (ha : ok_E κ k pc p1 1 a) (hb : ok_E κ (k + js_ct 1) p1 p2 1 b) (hd : decode (kC κ) p2 = .ok (.if_icmp .ge off, 3)) (ht : (p2 : Int) + off = (ff : Int)) (hn : p2 + 3 = tt) : ok_C κ k pc tt ff (js_cp js_lt a b) := by
  intro X h ρ μ b0 μ' ls st H locs he hl hh hs hk
  subst hn
  obtain ⟨x, μ1, hea, he⟩ := js_b_some he
  obtain ⟨y, μ2, heb, he⟩ := js_b_some he
  cases he
  refine ha X h ρ μ x μ1 ls st H locs hea hl hh hs (fun hx H' locs' hh' => ?_)
  refine hb X h ρ μ1 y _ ls _ H' locs' heb hl hh' (js_smc hs) (fun hy H2 locs2 hh2 => ?_)
  have hk := hk H2 locs2 hh2
  refine lv_icmp_ge h.1 h.2.1 hd ht (fun hc => ?_) (fun hc => ?_)
  · have hc3 : y ≤ x := (js_le32 hy hx).mp hc
    have hc2 : js_lt x y = false := by exact decide_eq_false (by omega)
    rw [hc2] at hk
    exact hk
  · have hc3 : ¬ (y ≤ x) := fun q => hc ((js_le32 hy hx).mpr q)
    have hc2 : js_lt x y = true := by exact decide_eq_true (by omega)
    rw [hc2] at hk
    exact hk
theorem ok_cz_lt_f {off : Int} {a : js_EE} (ha : ok_E κ k pc p1 1 a) (hd : decode (kC κ) p1 = .ok (.ifCond .ge off, 3)) (ht : (p1 : Int) + off = (ff : Int)) (hn : p1 + 3 = tt) : ok_C κ k pc tt ff (js_cz js_lt a) := by
  intro X h ρ μ b0 μ' ls st H locs he hl hh hs hk
  subst hn
  obtain ⟨x, μ1, hea, he⟩ := js_b_some he
  cases he
  refine ha X h ρ μ x _ ls st H locs hea hl hh hs (fun hx H2 locs2 hh2 => ?_)
  have hk := hk H2 locs2 hh2
  have hy := js_z32
  refine lv_if_ge h.1 h.2.1 hd ht (fun hc => ?_) (fun hc => ?_)
  · have hc3 : 0 ≤ x := (js_le32 hy hx).mp hc
    have hc2 : js_lt x 0 = false := by exact decide_eq_false (by omega)
    rw [hc2] at hk
    exact hk
  · have hc3 : ¬ (0 ≤ x) := fun q => hc ((js_le32 hy hx).mpr q)
    have hc2 : js_lt x 0 = true := by exact decide_eq_true (by omega)
    rw [hc2] at hk
    exact hk
theorem ok_cl_lt_f {off : Int} {a b : js_EE} (ha : ok_E κ k pc p1 2 a) (hb : ok_E κ (k + js_ct 2) p1 p2 2 b) (hl0 : decode (kC κ) p2 = .ok (.lcmp, 1)) (hp3 : p2 + 1 = p3) (hd : decode (kC κ) p3 = .ok (.ifCond .ge off, 3)) (ht : (p3 : Int) + off = (ff : Int)) (hn : p3 + 3 = tt) : ok_C κ k pc tt ff (js_cp js_lt a b) := by
  intro X h ρ μ b0 μ' ls st H locs he hl hh hs hk
  subst hn; subst hp3
  obtain ⟨x, μ1, hea, he⟩ := js_b_some he
  obtain ⟨y, μ2, heb, he⟩ := js_b_some he
  cases he
  refine ha X h ρ μ x μ1 ls st H locs hea hl hh hs (fun hx H' locs' hh' => ?_)
  refine hb X h ρ μ1 y _ ls _ H' locs' heb hl hh' (js_smc hs) (fun hy H2 locs2 hh2 => ?_)
  have hk := hk H2 locs2 hh2
  refine W.lcmp h.1 h.2.1 hl0 ?_
  refine lv_if_ge h.1 h.2.1 hd ht (fun hc => ?_) (fun hc => ?_)
  · have hc3 : y ≤ x := (js_lg_cmp_ge hx hy).mp hc
    have hc2 : js_lt x y = false := by exact decide_eq_false (by omega)
    rw [hc2] at hk
    exact hk
  · have hc3 : ¬ (y ≤ x) := fun q => hc ((js_lg_cmp_ge hx hy).mpr q)
    have hc2 : js_lt x y = true := by exact decide_eq_true (by omega)
    rw [hc2] at hk
    exact hk
theorem ok_cp_le_t {off : Int} {a b : js_EE} (ha : ok_E κ k pc p1 1 a) (hb : ok_E κ (k + js_ct 1) p1 p2 1 b) (hd : decode (kC κ) p2 = .ok (.if_icmp .le off, 3)) (ht : (p2 : Int) + off = (tt : Int)) (hn : p2 + 3 = ff) : ok_C κ k pc tt ff (js_cp js_le a b) := by
  intro X h ρ μ b0 μ' ls st H locs he hl hh hs hk
  subst hn
  obtain ⟨x, μ1, hea, he⟩ := js_b_some he
  obtain ⟨y, μ2, heb, he⟩ := js_b_some he
  cases he
  refine ha X h ρ μ x μ1 ls st H locs hea hl hh hs (fun hx H' locs' hh' => ?_)
  refine hb X h ρ μ1 y _ ls _ H' locs' heb hl hh' (js_smc hs) (fun hy H2 locs2 hh2 => ?_)
  have hk := hk H2 locs2 hh2
  refine lv_icmp_le h.1 h.2.1 hd ht (fun hc => ?_) (fun hc => ?_)
  · have hc3 : x ≤ y := (js_le32 hx hy).mp hc
    have hc2 : js_le x y = true := by exact decide_eq_true (by omega)
    rw [hc2] at hk
    exact hk
  · have hc3 : ¬ (x ≤ y) := fun q => hc ((js_le32 hx hy).mpr q)
    have hc2 : js_le x y = false := by exact decide_eq_false (by omega)
    rw [hc2] at hk
    exact hk
theorem ok_cz_le_t {off : Int} {a : js_EE} (ha : ok_E κ k pc p1 1 a) (hd : decode (kC κ) p1 = .ok (.ifCond .le off, 3)) (ht : (p1 : Int) + off = (tt : Int)) (hn : p1 + 3 = ff) : ok_C κ k pc tt ff (js_cz js_le a) := by
  intro X h ρ μ b0 μ' ls st H locs he hl hh hs hk
  subst hn
  obtain ⟨x, μ1, hea, he⟩ := js_b_some he
  cases he
  refine ha X h ρ μ x _ ls st H locs hea hl hh hs (fun hx H2 locs2 hh2 => ?_)
  have hk := hk H2 locs2 hh2
  have hy := js_z32
  refine lv_if_le h.1 h.2.1 hd ht (fun hc => ?_) (fun hc => ?_)
  · have hc3 : x ≤ 0 := (js_le32 hx hy).mp hc
    have hc2 : js_le x 0 = true := by exact decide_eq_true (by omega)
    rw [hc2] at hk
    exact hk
  · have hc3 : ¬ (x ≤ 0) := fun q => hc ((js_le32 hx hy).mpr q)
    have hc2 : js_le x 0 = false := by exact decide_eq_false (by omega)
    rw [hc2] at hk
    exact hk
theorem ok_cl_le_t {off : Int} {a b : js_EE} (ha : ok_E κ k pc p1 2 a) (hb : ok_E κ (k + js_ct 2) p1 p2 2 b) (hl0 : decode (kC κ) p2 = .ok (.lcmp, 1)) (hp3 : p2 + 1 = p3) (hd : decode (kC κ) p3 = .ok (.ifCond .le off, 3)) (ht : (p3 : Int) + off = (tt : Int)) (hn : p3 + 3 = ff) : ok_C κ k pc tt ff (js_cp js_le a b) := by
  intro X h ρ μ b0 μ' ls st H locs he hl hh hs hk
  subst hn; subst hp3
  obtain ⟨x, μ1, hea, he⟩ := js_b_some he
  obtain ⟨y, μ2, heb, he⟩ := js_b_some he
  cases he
  refine ha X h ρ μ x μ1 ls st H locs hea hl hh hs (fun hx H' locs' hh' => ?_)
  refine hb X h ρ μ1 y _ ls _ H' locs' heb hl hh' (js_smc hs) (fun hy H2 locs2 hh2 => ?_)
  have hk := hk H2 locs2 hh2
  refine W.lcmp h.1 h.2.1 hl0 ?_
  refine lv_if_le h.1 h.2.1 hd ht (fun hc => ?_) (fun hc => ?_)
  · have hc3 : x ≤ y := (js_lg_cmp_le hx hy).mp hc
    have hc2 : js_le x y = true := by exact decide_eq_true (by omega)
    rw [hc2] at hk
    exact hk
  · have hc3 : ¬ (x ≤ y) := fun q => hc ((js_lg_cmp_le hx hy).mpr q)
    have hc2 : js_le x y = false := by exact decide_eq_false (by omega)
    rw [hc2] at hk
    exact hk
theorem ok_cp_le_f {off : Int} {a b : js_EE} (ha : ok_E κ k pc p1 1 a) (hb : ok_E κ (k + js_ct 1) p1 p2 1 b) (hd : decode (kC κ) p2 = .ok (.if_icmp .gt off, 3)) (ht : (p2 : Int) + off = (ff : Int)) (hn : p2 + 3 = tt) : ok_C κ k pc tt ff (js_cp js_le a b) := by
  intro X h ρ μ b0 μ' ls st H locs he hl hh hs hk
  subst hn
  obtain ⟨x, μ1, hea, he⟩ := js_b_some he
  obtain ⟨y, μ2, heb, he⟩ := js_b_some he
  cases he
  refine ha X h ρ μ x μ1 ls st H locs hea hl hh hs (fun hx H' locs' hh' => ?_)
  refine hb X h ρ μ1 y _ ls _ H' locs' heb hl hh' (js_smc hs) (fun hy H2 locs2 hh2 => ?_)
  have hk := hk H2 locs2 hh2
  refine lv_icmp_gt h.1 h.2.1 hd ht (fun hc => ?_) (fun hc => ?_)
  · have hc3 : y < x := (js_lt32 hy hx).mp hc
    have hc2 : js_le x y = false := by exact decide_eq_false (by omega)
    rw [hc2] at hk
    exact hk
  · have hc3 : ¬ (y < x) := fun q => hc ((js_lt32 hy hx).mpr q)
    have hc2 : js_le x y = true := by exact decide_eq_true (by omega)
    rw [hc2] at hk
    exact hk
theorem ok_cz_le_f {off : Int} {a : js_EE} (ha : ok_E κ k pc p1 1 a) (hd : decode (kC κ) p1 = .ok (.ifCond .gt off, 3)) (ht : (p1 : Int) + off = (ff : Int)) (hn : p1 + 3 = tt) : ok_C κ k pc tt ff (js_cz js_le a) := by
  intro X h ρ μ b0 μ' ls st H locs he hl hh hs hk
  subst hn
  obtain ⟨x, μ1, hea, he⟩ := js_b_some he
  cases he
  refine ha X h ρ μ x _ ls st H locs hea hl hh hs (fun hx H2 locs2 hh2 => ?_)
  have hk := hk H2 locs2 hh2
  have hy := js_z32
  refine lv_if_gt h.1 h.2.1 hd ht (fun hc => ?_) (fun hc => ?_)
  · have hc3 : 0 < x := (js_lt32 hy hx).mp hc
    have hc2 : js_le x 0 = false := by exact decide_eq_false (by omega)
    rw [hc2] at hk
    exact hk
  · have hc3 : ¬ (0 < x) := fun q => hc ((js_lt32 hy hx).mpr q)
    have hc2 : js_le x 0 = true := by exact decide_eq_true (by omega)
    rw [hc2] at hk
    exact hk
theorem ok_cl_le_f {off : Int} {a b : js_EE} (ha : ok_E κ k pc p1 2 a) (hb : ok_E κ (k + js_ct 2) p1 p2 2 b) (hl0 : decode (kC κ) p2 = .ok (.lcmp, 1)) (hp3 : p2 + 1 = p3) (hd : decode (kC κ) p3 = .ok (.ifCond .gt off, 3)) (ht : (p3 : Int) + off = (ff : Int)) (hn : p3 + 3 = tt) : ok_C κ k pc tt ff (js_cp js_le a b) := by
  intro X h ρ μ b0 μ' ls st H locs he hl hh hs hk
  subst hn; subst hp3
  obtain ⟨x, μ1, hea, he⟩ := js_b_some he
  obtain ⟨y, μ2, heb, he⟩ := js_b_some he
  cases he
  refine ha X h ρ μ x μ1 ls st H locs hea hl hh hs (fun hx H' locs' hh' => ?_)
  refine hb X h ρ μ1 y _ ls _ H' locs' heb hl hh' (js_smc hs) (fun hy H2 locs2 hh2 => ?_)
  have hk := hk H2 locs2 hh2
  refine W.lcmp h.1 h.2.1 hl0 ?_
  refine lv_if_gt h.1 h.2.1 hd ht (fun hc => ?_) (fun hc => ?_)
  · have hc3 : y < x := (js_lg_cmp_gt hx hy).mp hc
    have hc2 : js_le x y = false := by exact decide_eq_false (by omega)
    rw [hc2] at hk
    exact hk
  · have hc3 : ¬ (y < x) := fun q => hc ((js_lg_cmp_gt hx hy).mpr q)
    have hc2 : js_le x y = true := by exact decide_eq_true (by omega)
    rw [hc2] at hk
    exact hk
theorem ok_cp_gt_t {off : Int} {a b : js_EE} (ha : ok_E κ k pc p1 1 a) (hb : ok_E κ (k + js_ct 1) p1 p2 1 b) (hd : decode (kC κ) p2 = .ok (.if_icmp .gt off, 3)) (ht : (p2 : Int) + off = (tt : Int)) (hn : p2 + 3 = ff) : ok_C κ k pc tt ff (js_cp js_gt a b) := by
  intro X h ρ μ b0 μ' ls st H locs he hl hh hs hk
  subst hn
  obtain ⟨x, μ1, hea, he⟩ := js_b_some he
  obtain ⟨y, μ2, heb, he⟩ := js_b_some he
  cases he
  refine ha X h ρ μ x μ1 ls st H locs hea hl hh hs (fun hx H' locs' hh' => ?_)
  refine hb X h ρ μ1 y _ ls _ H' locs' heb hl hh' (js_smc hs) (fun hy H2 locs2 hh2 => ?_)
  have hk := hk H2 locs2 hh2
  refine lv_icmp_gt h.1 h.2.1 hd ht (fun hc => ?_) (fun hc => ?_)
  · have hc3 : y < x := (js_lt32 hy hx).mp hc
    have hc2 : js_gt x y = true := by exact decide_eq_true (by omega)
    rw [hc2] at hk
    exact hk
  · have hc3 : ¬ (y < x) := fun q => hc ((js_lt32 hy hx).mpr q)
    have hc2 : js_gt x y = false := by exact decide_eq_false (by omega)
    rw [hc2] at hk
    exact hk
theorem ok_cz_gt_t {off : Int} {a : js_EE} (ha : ok_E κ k pc p1 1 a) (hd : decode (kC κ) p1 = .ok (.ifCond .gt off, 3)) (ht : (p1 : Int) + off = (tt : Int)) (hn : p1 + 3 = ff) : ok_C κ k pc tt ff (js_cz js_gt a) := by
  intro X h ρ μ b0 μ' ls st H locs he hl hh hs hk
  subst hn
  obtain ⟨x, μ1, hea, he⟩ := js_b_some he
  cases he
  refine ha X h ρ μ x _ ls st H locs hea hl hh hs (fun hx H2 locs2 hh2 => ?_)
  have hk := hk H2 locs2 hh2
  have hy := js_z32
  refine lv_if_gt h.1 h.2.1 hd ht (fun hc => ?_) (fun hc => ?_)
  · have hc3 : 0 < x := (js_lt32 hy hx).mp hc
    have hc2 : js_gt x 0 = true := by exact decide_eq_true (by omega)
    rw [hc2] at hk
    exact hk
  · have hc3 : ¬ (0 < x) := fun q => hc ((js_lt32 hy hx).mpr q)
    have hc2 : js_gt x 0 = false := by exact decide_eq_false (by omega)
    rw [hc2] at hk
    exact hk
theorem ok_cl_gt_t {off : Int} {a b : js_EE} (ha : ok_E κ k pc p1 2 a) (hb : ok_E κ (k + js_ct 2) p1 p2 2 b) (hl0 : decode (kC κ) p2 = .ok (.lcmp, 1)) (hp3 : p2 + 1 = p3) (hd : decode (kC κ) p3 = .ok (.ifCond .gt off, 3)) (ht : (p3 : Int) + off = (tt : Int)) (hn : p3 + 3 = ff) : ok_C κ k pc tt ff (js_cp js_gt a b) := by
  intro X h ρ μ b0 μ' ls st H locs he hl hh hs hk
  subst hn; subst hp3
  obtain ⟨x, μ1, hea, he⟩ := js_b_some he
  obtain ⟨y, μ2, heb, he⟩ := js_b_some he
  cases he
  refine ha X h ρ μ x μ1 ls st H locs hea hl hh hs (fun hx H' locs' hh' => ?_)
  refine hb X h ρ μ1 y _ ls _ H' locs' heb hl hh' (js_smc hs) (fun hy H2 locs2 hh2 => ?_)
  have hk := hk H2 locs2 hh2
  refine W.lcmp h.1 h.2.1 hl0 ?_
  refine lv_if_gt h.1 h.2.1 hd ht (fun hc => ?_) (fun hc => ?_)
  · have hc3 : y < x := (js_lg_cmp_gt hx hy).mp hc
    have hc2 : js_gt x y = true := by exact decide_eq_true (by omega)
    rw [hc2] at hk
    exact hk
  · have hc3 : ¬ (y < x) := fun q => hc ((js_lg_cmp_gt hx hy).mpr q)
    have hc2 : js_gt x y = false := by exact decide_eq_false (by omega)
    rw [hc2] at hk
    exact hk
theorem ok_cp_gt_f {off : Int} {a b : js_EE} (ha : ok_E κ k pc p1 1 a) (hb : ok_E κ (k + js_ct 1) p1 p2 1 b) (hd : decode (kC κ) p2 = .ok (.if_icmp .le off, 3)) (ht : (p2 : Int) + off = (ff : Int)) (hn : p2 + 3 = tt) : ok_C κ k pc tt ff (js_cp js_gt a b) := by
  intro X h ρ μ b0 μ' ls st H locs he hl hh hs hk
  subst hn
  obtain ⟨x, μ1, hea, he⟩ := js_b_some he
  obtain ⟨y, μ2, heb, he⟩ := js_b_some he
  cases he
  refine ha X h ρ μ x μ1 ls st H locs hea hl hh hs (fun hx H' locs' hh' => ?_)
  refine hb X h ρ μ1 y _ ls _ H' locs' heb hl hh' (js_smc hs) (fun hy H2 locs2 hh2 => ?_)
  have hk := hk H2 locs2 hh2
  refine lv_icmp_le h.1 h.2.1 hd ht (fun hc => ?_) (fun hc => ?_)
  · have hc3 : x ≤ y := (js_le32 hx hy).mp hc
    have hc2 : js_gt x y = false := by exact decide_eq_false (by omega)
    rw [hc2] at hk
    exact hk
  · have hc3 : ¬ (x ≤ y) := fun q => hc ((js_le32 hx hy).mpr q)
    have hc2 : js_gt x y = true := by exact decide_eq_true (by omega)
    rw [hc2] at hk
    exact hk
theorem ok_cz_gt_f {off : Int} {a : js_EE} (ha : ok_E κ k pc p1 1 a) (hd : decode (kC κ) p1 = .ok (.ifCond .le off, 3)) (ht : (p1 : Int) + off = (ff : Int)) (hn : p1 + 3 = tt) : ok_C κ k pc tt ff (js_cz js_gt a) := by
  intro X h ρ μ b0 μ' ls st H locs he hl hh hs hk
  subst hn
  obtain ⟨x, μ1, hea, he⟩ := js_b_some he
  cases he
  refine ha X h ρ μ x _ ls st H locs hea hl hh hs (fun hx H2 locs2 hh2 => ?_)
  have hk := hk H2 locs2 hh2
  have hy := js_z32
  refine lv_if_le h.1 h.2.1 hd ht (fun hc => ?_) (fun hc => ?_)
  · have hc3 : x ≤ 0 := (js_le32 hx hy).mp hc
    have hc2 : js_gt x 0 = false := by exact decide_eq_false (by omega)
    rw [hc2] at hk
    exact hk
  · have hc3 : ¬ (x ≤ 0) := fun q => hc ((js_le32 hx hy).mpr q)
    have hc2 : js_gt x 0 = true := by exact decide_eq_true (by omega)
    rw [hc2] at hk
    exact hk
theorem ok_cl_gt_f {off : Int} {a b : js_EE} (ha : ok_E κ k pc p1 2 a) (hb : ok_E κ (k + js_ct 2) p1 p2 2 b) (hl0 : decode (kC κ) p2 = .ok (.lcmp, 1)) (hp3 : p2 + 1 = p3) (hd : decode (kC κ) p3 = .ok (.ifCond .le off, 3)) (ht : (p3 : Int) + off = (ff : Int)) (hn : p3 + 3 = tt) : ok_C κ k pc tt ff (js_cp js_gt a b) := by
  intro X h ρ μ b0 μ' ls st H locs he hl hh hs hk
  subst hn; subst hp3
  obtain ⟨x, μ1, hea, he⟩ := js_b_some he
  obtain ⟨y, μ2, heb, he⟩ := js_b_some he
  cases he
  refine ha X h ρ μ x μ1 ls st H locs hea hl hh hs (fun hx H' locs' hh' => ?_)
  refine hb X h ρ μ1 y _ ls _ H' locs' heb hl hh' (js_smc hs) (fun hy H2 locs2 hh2 => ?_)
  have hk := hk H2 locs2 hh2
  refine W.lcmp h.1 h.2.1 hl0 ?_
  refine lv_if_le h.1 h.2.1 hd ht (fun hc => ?_) (fun hc => ?_)
  · have hc3 : x ≤ y := (js_lg_cmp_le hx hy).mp hc
    have hc2 : js_gt x y = false := by exact decide_eq_false (by omega)
    rw [hc2] at hk
    exact hk
  · have hc3 : ¬ (x ≤ y) := fun q => hc ((js_lg_cmp_le hx hy).mpr q)
    have hc2 : js_gt x y = true := by exact decide_eq_true (by omega)
    rw [hc2] at hk
    exact hk
theorem ok_cp_ge_t {off : Int} {a b : js_EE} (ha : ok_E κ k pc p1 1 a) (hb : ok_E κ (k + js_ct 1) p1 p2 1 b) (hd : decode (kC κ) p2 = .ok (.if_icmp .ge off, 3)) (ht : (p2 : Int) + off = (tt : Int)) (hn : p2 + 3 = ff) : ok_C κ k pc tt ff (js_cp js_ge a b) := by
  intro X h ρ μ b0 μ' ls st H locs he hl hh hs hk
  subst hn
  obtain ⟨x, μ1, hea, he⟩ := js_b_some he
  obtain ⟨y, μ2, heb, he⟩ := js_b_some he
  cases he
  refine ha X h ρ μ x μ1 ls st H locs hea hl hh hs (fun hx H' locs' hh' => ?_)
  refine hb X h ρ μ1 y _ ls _ H' locs' heb hl hh' (js_smc hs) (fun hy H2 locs2 hh2 => ?_)
  have hk := hk H2 locs2 hh2
  refine lv_icmp_ge h.1 h.2.1 hd ht (fun hc => ?_) (fun hc => ?_)
  · have hc3 : y ≤ x := (js_le32 hy hx).mp hc
    have hc2 : js_ge x y = true := by exact decide_eq_true (by omega)
    rw [hc2] at hk
    exact hk
  · have hc3 : ¬ (y ≤ x) := fun q => hc ((js_le32 hy hx).mpr q)
    have hc2 : js_ge x y = false := by exact decide_eq_false (by omega)
    rw [hc2] at hk
    exact hk
theorem ok_cz_ge_t {off : Int} {a : js_EE} (ha : ok_E κ k pc p1 1 a) (hd : decode (kC κ) p1 = .ok (.ifCond .ge off, 3)) (ht : (p1 : Int) + off = (tt : Int)) (hn : p1 + 3 = ff) : ok_C κ k pc tt ff (js_cz js_ge a) := by
  intro X h ρ μ b0 μ' ls st H locs he hl hh hs hk
  subst hn
  obtain ⟨x, μ1, hea, he⟩ := js_b_some he
  cases he
  refine ha X h ρ μ x _ ls st H locs hea hl hh hs (fun hx H2 locs2 hh2 => ?_)
  have hk := hk H2 locs2 hh2
  have hy := js_z32
  refine lv_if_ge h.1 h.2.1 hd ht (fun hc => ?_) (fun hc => ?_)
  · have hc3 : 0 ≤ x := (js_le32 hy hx).mp hc
    have hc2 : js_ge x 0 = true := by exact decide_eq_true (by omega)
    rw [hc2] at hk
    exact hk
  · have hc3 : ¬ (0 ≤ x) := fun q => hc ((js_le32 hy hx).mpr q)
    have hc2 : js_ge x 0 = false := by exact decide_eq_false (by omega)
    rw [hc2] at hk
    exact hk
theorem ok_cl_ge_t {off : Int} {a b : js_EE} (ha : ok_E κ k pc p1 2 a) (hb : ok_E κ (k + js_ct 2) p1 p2 2 b) (hl0 : decode (kC κ) p2 = .ok (.lcmp, 1)) (hp3 : p2 + 1 = p3) (hd : decode (kC κ) p3 = .ok (.ifCond .ge off, 3)) (ht : (p3 : Int) + off = (tt : Int)) (hn : p3 + 3 = ff) : ok_C κ k pc tt ff (js_cp js_ge a b) := by
  intro X h ρ μ b0 μ' ls st H locs he hl hh hs hk
  subst hn; subst hp3
  obtain ⟨x, μ1, hea, he⟩ := js_b_some he
  obtain ⟨y, μ2, heb, he⟩ := js_b_some he
  cases he
  refine ha X h ρ μ x μ1 ls st H locs hea hl hh hs (fun hx H' locs' hh' => ?_)
  refine hb X h ρ μ1 y _ ls _ H' locs' heb hl hh' (js_smc hs) (fun hy H2 locs2 hh2 => ?_)
  have hk := hk H2 locs2 hh2
  refine W.lcmp h.1 h.2.1 hl0 ?_
  refine lv_if_ge h.1 h.2.1 hd ht (fun hc => ?_) (fun hc => ?_)
  · have hc3 : y ≤ x := (js_lg_cmp_ge hx hy).mp hc
    have hc2 : js_ge x y = true := by exact decide_eq_true (by omega)
    rw [hc2] at hk
    exact hk
  · have hc3 : ¬ (y ≤ x) := fun q => hc ((js_lg_cmp_ge hx hy).mpr q)
    have hc2 : js_ge x y = false := by exact decide_eq_false (by omega)
    rw [hc2] at hk
    exact hk
theorem ok_cp_ge_f {off : Int} {a b : js_EE} (ha : ok_E κ k pc p1 1 a) (hb : ok_E κ (k + js_ct 1) p1 p2 1 b) (hd : decode (kC κ) p2 = .ok (.if_icmp .lt off, 3)) (ht : (p2 : Int) + off = (ff : Int)) (hn : p2 + 3 = tt) : ok_C κ k pc tt ff (js_cp js_ge a b) := by
  intro X h ρ μ b0 μ' ls st H locs he hl hh hs hk
  subst hn
  obtain ⟨x, μ1, hea, he⟩ := js_b_some he
  obtain ⟨y, μ2, heb, he⟩ := js_b_some he
  cases he
  refine ha X h ρ μ x μ1 ls st H locs hea hl hh hs (fun hx H' locs' hh' => ?_)
  refine hb X h ρ μ1 y _ ls _ H' locs' heb hl hh' (js_smc hs) (fun hy H2 locs2 hh2 => ?_)
  have hk := hk H2 locs2 hh2
  refine lv_icmp_lt h.1 h.2.1 hd ht (fun hc => ?_) (fun hc => ?_)
  · have hc3 : x < y := (js_lt32 hx hy).mp hc
    have hc2 : js_ge x y = false := by exact decide_eq_false (by omega)
    rw [hc2] at hk
    exact hk
  · have hc3 : ¬ (x < y) := fun q => hc ((js_lt32 hx hy).mpr q)
    have hc2 : js_ge x y = true := by exact decide_eq_true (by omega)
    rw [hc2] at hk
    exact hk
theorem ok_cz_ge_f {off : Int} {a : js_EE} (ha : ok_E κ k pc p1 1 a) (hd : decode (kC κ) p1 = .ok (.ifCond .lt off, 3)) (ht : (p1 : Int) + off = (ff : Int)) (hn : p1 + 3 = tt) : ok_C κ k pc tt ff (js_cz js_ge a) := by
  intro X h ρ μ b0 μ' ls st H locs he hl hh hs hk
  subst hn
  obtain ⟨x, μ1, hea, he⟩ := js_b_some he
  cases he
  refine ha X h ρ μ x _ ls st H locs hea hl hh hs (fun hx H2 locs2 hh2 => ?_)
  have hk := hk H2 locs2 hh2
  have hy := js_z32
  refine lv_if_lt h.1 h.2.1 hd ht (fun hc => ?_) (fun hc => ?_)
  · have hc3 : x < 0 := (js_lt32 hx hy).mp hc
    have hc2 : js_ge x 0 = false := by exact decide_eq_false (by omega)
    rw [hc2] at hk
    exact hk
  · have hc3 : ¬ (x < 0) := fun q => hc ((js_lt32 hx hy).mpr q)
    have hc2 : js_ge x 0 = true := by exact decide_eq_true (by omega)
    rw [hc2] at hk
    exact hk
theorem ok_cl_ge_f {off : Int} {a b : js_EE} (ha : ok_E κ k pc p1 2 a) (hb : ok_E κ (k + js_ct 2) p1 p2 2 b) (hl0 : decode (kC κ) p2 = .ok (.lcmp, 1)) (hp3 : p2 + 1 = p3) (hd : decode (kC κ) p3 = .ok (.ifCond .lt off, 3)) (ht : (p3 : Int) + off = (ff : Int)) (hn : p3 + 3 = tt) : ok_C κ k pc tt ff (js_cp js_ge a b) := by
  intro X h ρ μ b0 μ' ls st H locs he hl hh hs hk
  subst hn; subst hp3
  obtain ⟨x, μ1, hea, he⟩ := js_b_some he
  obtain ⟨y, μ2, heb, he⟩ := js_b_some he
  cases he
  refine ha X h ρ μ x μ1 ls st H locs hea hl hh hs (fun hx H' locs' hh' => ?_)
  refine hb X h ρ μ1 y _ ls _ H' locs' heb hl hh' (js_smc hs) (fun hy H2 locs2 hh2 => ?_)
  have hk := hk H2 locs2 hh2
  refine W.lcmp h.1 h.2.1 hl0 ?_
  refine lv_if_lt h.1 h.2.1 hd ht (fun hc => ?_) (fun hc => ?_)
  · have hc3 : x < y := (js_lg_cmp_lt hx hy).mp hc
    have hc2 : js_ge x y = false := by exact decide_eq_false (by omega)
    rw [hc2] at hk
    exact hk
  · have hc3 : ¬ (x < y) := fun q => hc ((js_lg_cmp_lt hx hy).mpr q)
    have hc2 : js_ge x y = true := by exact decide_eq_true (by omega)
    rw [hc2] at hk
    exact hk
theorem ok_cp_eq_t {off : Int} {a b : js_EE} (ha : ok_E κ k pc p1 1 a) (hb : ok_E κ (k + js_ct 1) p1 p2 1 b) (hd : decode (kC κ) p2 = .ok (.if_icmp .eq off, 3)) (ht : (p2 : Int) + off = (tt : Int)) (hn : p2 + 3 = ff) : ok_C κ k pc tt ff (js_cp js_eq a b) := by
  intro X h ρ μ b0 μ' ls st H locs he hl hh hs hk
  subst hn
  obtain ⟨x, μ1, hea, he⟩ := js_b_some he
  obtain ⟨y, μ2, heb, he⟩ := js_b_some he
  cases he
  refine ha X h ρ μ x μ1 ls st H locs hea hl hh hs (fun hx H' locs' hh' => ?_)
  refine hb X h ρ μ1 y _ ls _ H' locs' heb hl hh' (js_smc hs) (fun hy H2 locs2 hh2 => ?_)
  have hk := hk H2 locs2 hh2
  refine lv_icmp_eq h.1 h.2.1 hd ht (fun hc => ?_) (fun hc => ?_)
  · have hc3 : x = y := (js_eq32 hx hy).mp hc
    have hc2 : js_eq x y = true := by exact decide_eq_true (by omega)
    rw [hc2] at hk
    exact hk
  · have hc3 : ¬ (x = y) := fun q => hc ((js_eq32 hx hy).mpr q)
    have hc2 : js_eq x y = false := by exact decide_eq_false (by omega)
    rw [hc2] at hk
    exact hk
theorem ok_cz_eq_t {off : Int} {a : js_EE} (ha : ok_E κ k pc p1 1 a) (hd : decode (kC κ) p1 = .ok (.ifCond .eq off, 3)) (ht : (p1 : Int) + off = (tt : Int)) (hn : p1 + 3 = ff) : ok_C κ k pc tt ff (js_cz js_eq a) := by
  intro X h ρ μ b0 μ' ls st H locs he hl hh hs hk
  subst hn
  obtain ⟨x, μ1, hea, he⟩ := js_b_some he
  cases he
  refine ha X h ρ μ x _ ls st H locs hea hl hh hs (fun hx H2 locs2 hh2 => ?_)
  have hk := hk H2 locs2 hh2
  have hy := js_z32
  refine lv_if_eq h.1 h.2.1 hd ht (fun hc => ?_) (fun hc => ?_)
  · have hc3 : x = 0 := (js_eq32 hx hy).mp hc
    have hc2 : js_eq x 0 = true := by exact decide_eq_true (by omega)
    rw [hc2] at hk
    exact hk
  · have hc3 : ¬ (x = 0) := fun q => hc ((js_eq32 hx hy).mpr q)
    have hc2 : js_eq x 0 = false := by exact decide_eq_false (by omega)
    rw [hc2] at hk
    exact hk
theorem ok_cl_eq_t {off : Int} {a b : js_EE} (ha : ok_E κ k pc p1 2 a) (hb : ok_E κ (k + js_ct 2) p1 p2 2 b) (hl0 : decode (kC κ) p2 = .ok (.lcmp, 1)) (hp3 : p2 + 1 = p3) (hd : decode (kC κ) p3 = .ok (.ifCond .eq off, 3)) (ht : (p3 : Int) + off = (tt : Int)) (hn : p3 + 3 = ff) : ok_C κ k pc tt ff (js_cp js_eq a b) := by
  intro X h ρ μ b0 μ' ls st H locs he hl hh hs hk
  subst hn; subst hp3
  obtain ⟨x, μ1, hea, he⟩ := js_b_some he
  obtain ⟨y, μ2, heb, he⟩ := js_b_some he
  cases he
  refine ha X h ρ μ x μ1 ls st H locs hea hl hh hs (fun hx H' locs' hh' => ?_)
  refine hb X h ρ μ1 y _ ls _ H' locs' heb hl hh' (js_smc hs) (fun hy H2 locs2 hh2 => ?_)
  have hk := hk H2 locs2 hh2
  refine W.lcmp h.1 h.2.1 hl0 ?_
  refine lv_if_eq h.1 h.2.1 hd ht (fun hc => ?_) (fun hc => ?_)
  · have hc3 : x = y := (js_lg_cmp_eq hx hy).mp hc
    have hc2 : js_eq x y = true := by exact decide_eq_true (by omega)
    rw [hc2] at hk
    exact hk
  · have hc3 : ¬ (x = y) := fun q => hc ((js_lg_cmp_eq hx hy).mpr q)
    have hc2 : js_eq x y = false := by exact decide_eq_false (by omega)
    rw [hc2] at hk
    exact hk
theorem ok_cp_eq_f {off : Int} {a b : js_EE} (ha : ok_E κ k pc p1 1 a) (hb : ok_E κ (k + js_ct 1) p1 p2 1 b) (hd : decode (kC κ) p2 = .ok (.if_icmp .ne off, 3)) (ht : (p2 : Int) + off = (ff : Int)) (hn : p2 + 3 = tt) : ok_C κ k pc tt ff (js_cp js_eq a b) := by
  intro X h ρ μ b0 μ' ls st H locs he hl hh hs hk
  subst hn
  obtain ⟨x, μ1, hea, he⟩ := js_b_some he
  obtain ⟨y, μ2, heb, he⟩ := js_b_some he
  cases he
  refine ha X h ρ μ x μ1 ls st H locs hea hl hh hs (fun hx H' locs' hh' => ?_)
  refine hb X h ρ μ1 y _ ls _ H' locs' heb hl hh' (js_smc hs) (fun hy H2 locs2 hh2 => ?_)
  have hk := hk H2 locs2 hh2
  refine lv_icmp_ne h.1 h.2.1 hd ht (fun hc => ?_) (fun hc => ?_)
  · have hc3 : ¬ (x = y) := fun q => hc ((js_eq32 hx hy).mpr q)
    have hc2 : js_eq x y = false := by exact decide_eq_false (by omega)
    rw [hc2] at hk
    exact hk
  · have hc3 : x = y := (js_eq32 hx hy).mp hc
    have hc2 : js_eq x y = true := by exact decide_eq_true (by omega)
    rw [hc2] at hk
    exact hk
theorem ok_cz_eq_f {off : Int} {a : js_EE} (ha : ok_E κ k pc p1 1 a) (hd : decode (kC κ) p1 = .ok (.ifCond .ne off, 3)) (ht : (p1 : Int) + off = (ff : Int)) (hn : p1 + 3 = tt) : ok_C κ k pc tt ff (js_cz js_eq a) := by
  intro X h ρ μ b0 μ' ls st H locs he hl hh hs hk
  subst hn
  obtain ⟨x, μ1, hea, he⟩ := js_b_some he
  cases he
  refine ha X h ρ μ x _ ls st H locs hea hl hh hs (fun hx H2 locs2 hh2 => ?_)
  have hk := hk H2 locs2 hh2
  have hy := js_z32
  refine lv_if_ne h.1 h.2.1 hd ht (fun hc => ?_) (fun hc => ?_)
  · have hc3 : ¬ (x = 0) := fun q => hc ((js_eq32 hx hy).mpr q)
    have hc2 : js_eq x 0 = false := by exact decide_eq_false (by omega)
    rw [hc2] at hk
    exact hk
  · have hc3 : x = 0 := (js_eq32 hx hy).mp hc
    have hc2 : js_eq x 0 = true := by exact decide_eq_true (by omega)
    rw [hc2] at hk
    exact hk
theorem ok_cl_eq_f {off : Int} {a b : js_EE} (ha : ok_E κ k pc p1 2 a) (hb : ok_E κ (k + js_ct 2) p1 p2 2 b) (hl0 : decode (kC κ) p2 = .ok (.lcmp, 1)) (hp3 : p2 + 1 = p3) (hd : decode (kC κ) p3 = .ok (.ifCond .ne off, 3)) (ht : (p3 : Int) + off = (ff : Int)) (hn : p3 + 3 = tt) : ok_C κ k pc tt ff (js_cp js_eq a b) := by
  intro X h ρ μ b0 μ' ls st H locs he hl hh hs hk
  subst hn; subst hp3
  obtain ⟨x, μ1, hea, he⟩ := js_b_some he
  obtain ⟨y, μ2, heb, he⟩ := js_b_some he
  cases he
  refine ha X h ρ μ x μ1 ls st H locs hea hl hh hs (fun hx H' locs' hh' => ?_)
  refine hb X h ρ μ1 y _ ls _ H' locs' heb hl hh' (js_smc hs) (fun hy H2 locs2 hh2 => ?_)
  have hk := hk H2 locs2 hh2
  refine W.lcmp h.1 h.2.1 hl0 ?_
  refine lv_if_ne h.1 h.2.1 hd ht (fun hc => ?_) (fun hc => ?_)
  · have hc3 : ¬ (x = y) := fun q => hc ((js_lg_cmp_eq hx hy).mpr q)
    have hc2 : js_eq x y = false := by exact decide_eq_false (by omega)
    rw [hc2] at hk
    exact hk
  · have hc3 : x = y := (js_lg_cmp_eq hx hy).mp hc
    have hc2 : js_eq x y = true := by exact decide_eq_true (by omega)
    rw [hc2] at hk
    exact hk
theorem ok_cp_ne_t {off : Int} {a b : js_EE} (ha : ok_E κ k pc p1 1 a) (hb : ok_E κ (k + js_ct 1) p1 p2 1 b) (hd : decode (kC κ) p2 = .ok (.if_icmp .ne off, 3)) (ht : (p2 : Int) + off = (tt : Int)) (hn : p2 + 3 = ff) : ok_C κ k pc tt ff (js_cp js_ne a b) := by
  intro X h ρ μ b0 μ' ls st H locs he hl hh hs hk
  subst hn
  obtain ⟨x, μ1, hea, he⟩ := js_b_some he
  obtain ⟨y, μ2, heb, he⟩ := js_b_some he
  cases he
  refine ha X h ρ μ x μ1 ls st H locs hea hl hh hs (fun hx H' locs' hh' => ?_)
  refine hb X h ρ μ1 y _ ls _ H' locs' heb hl hh' (js_smc hs) (fun hy H2 locs2 hh2 => ?_)
  have hk := hk H2 locs2 hh2
  refine lv_icmp_ne h.1 h.2.1 hd ht (fun hc => ?_) (fun hc => ?_)
  · have hc3 : ¬ (x = y) := fun q => hc ((js_eq32 hx hy).mpr q)
    have hc2 : js_ne x y = true := by rw [js_ne, decide_eq_false (by omega)]; rfl
    rw [hc2] at hk
    exact hk
  · have hc3 : x = y := (js_eq32 hx hy).mp hc
    have hc2 : js_ne x y = false := by rw [js_ne, decide_eq_true (by omega)]; rfl
    rw [hc2] at hk
    exact hk
theorem ok_cz_ne_t {off : Int} {a : js_EE} (ha : ok_E κ k pc p1 1 a) (hd : decode (kC κ) p1 = .ok (.ifCond .ne off, 3)) (ht : (p1 : Int) + off = (tt : Int)) (hn : p1 + 3 = ff) : ok_C κ k pc tt ff (js_cz js_ne a) := by
  intro X h ρ μ b0 μ' ls st H locs he hl hh hs hk
  subst hn
  obtain ⟨x, μ1, hea, he⟩ := js_b_some he
  cases he
  refine ha X h ρ μ x _ ls st H locs hea hl hh hs (fun hx H2 locs2 hh2 => ?_)
  have hk := hk H2 locs2 hh2
  have hy := js_z32
  refine lv_if_ne h.1 h.2.1 hd ht (fun hc => ?_) (fun hc => ?_)
  · have hc3 : ¬ (x = 0) := fun q => hc ((js_eq32 hx hy).mpr q)
    have hc2 : js_ne x 0 = true := by rw [js_ne, decide_eq_false (by omega)]; rfl
    rw [hc2] at hk
    exact hk
  · have hc3 : x = 0 := (js_eq32 hx hy).mp hc
    have hc2 : js_ne x 0 = false := by rw [js_ne, decide_eq_true (by omega)]; rfl
    rw [hc2] at hk
    exact hk
theorem ok_cl_ne_t {off : Int} {a b : js_EE} (ha : ok_E κ k pc p1 2 a) (hb : ok_E κ (k + js_ct 2) p1 p2 2 b) (hl0 : decode (kC κ) p2 = .ok (.lcmp, 1)) (hp3 : p2 + 1 = p3) (hd : decode (kC κ) p3 = .ok (.ifCond .ne off, 3)) (ht : (p3 : Int) + off = (tt : Int)) (hn : p3 + 3 = ff) : ok_C κ k pc tt ff (js_cp js_ne a b) := by
  intro X h ρ μ b0 μ' ls st H locs he hl hh hs hk
  subst hn; subst hp3
  obtain ⟨x, μ1, hea, he⟩ := js_b_some he
  obtain ⟨y, μ2, heb, he⟩ := js_b_some he
  cases he
  refine ha X h ρ μ x μ1 ls st H locs hea hl hh hs (fun hx H' locs' hh' => ?_)
  refine hb X h ρ μ1 y _ ls _ H' locs' heb hl hh' (js_smc hs) (fun hy H2 locs2 hh2 => ?_)
  have hk := hk H2 locs2 hh2
  refine W.lcmp h.1 h.2.1 hl0 ?_
  refine lv_if_ne h.1 h.2.1 hd ht (fun hc => ?_) (fun hc => ?_)
  · have hc3 : ¬ (x = y) := fun q => hc ((js_lg_cmp_eq hx hy).mpr q)
    have hc2 : js_ne x y = true := by rw [js_ne, decide_eq_false (by omega)]; rfl
    rw [hc2] at hk
    exact hk
  · have hc3 : x = y := (js_lg_cmp_eq hx hy).mp hc
    have hc2 : js_ne x y = false := by rw [js_ne, decide_eq_true (by omega)]; rfl
    rw [hc2] at hk
    exact hk
theorem ok_cp_ne_f {off : Int} {a b : js_EE} (ha : ok_E κ k pc p1 1 a) (hb : ok_E κ (k + js_ct 1) p1 p2 1 b) (hd : decode (kC κ) p2 = .ok (.if_icmp .eq off, 3)) (ht : (p2 : Int) + off = (ff : Int)) (hn : p2 + 3 = tt) : ok_C κ k pc tt ff (js_cp js_ne a b) := by
  intro X h ρ μ b0 μ' ls st H locs he hl hh hs hk
  subst hn
  obtain ⟨x, μ1, hea, he⟩ := js_b_some he
  obtain ⟨y, μ2, heb, he⟩ := js_b_some he
  cases he
  refine ha X h ρ μ x μ1 ls st H locs hea hl hh hs (fun hx H' locs' hh' => ?_)
  refine hb X h ρ μ1 y _ ls _ H' locs' heb hl hh' (js_smc hs) (fun hy H2 locs2 hh2 => ?_)
  have hk := hk H2 locs2 hh2
  refine lv_icmp_eq h.1 h.2.1 hd ht (fun hc => ?_) (fun hc => ?_)
  · have hc3 : x = y := (js_eq32 hx hy).mp hc
    have hc2 : js_ne x y = false := by rw [js_ne, decide_eq_true (by omega)]; rfl
    rw [hc2] at hk
    exact hk
  · have hc3 : ¬ (x = y) := fun q => hc ((js_eq32 hx hy).mpr q)
    have hc2 : js_ne x y = true := by rw [js_ne, decide_eq_false (by omega)]; rfl
    rw [hc2] at hk
    exact hk
theorem ok_cz_ne_f {off : Int} {a : js_EE} (ha : ok_E κ k pc p1 1 a) (hd : decode (kC κ) p1 = .ok (.ifCond .eq off, 3)) (ht : (p1 : Int) + off = (ff : Int)) (hn : p1 + 3 = tt) : ok_C κ k pc tt ff (js_cz js_ne a) := by
  intro X h ρ μ b0 μ' ls st H locs he hl hh hs hk
  subst hn
  obtain ⟨x, μ1, hea, he⟩ := js_b_some he
  cases he
  refine ha X h ρ μ x _ ls st H locs hea hl hh hs (fun hx H2 locs2 hh2 => ?_)
  have hk := hk H2 locs2 hh2
  have hy := js_z32
  refine lv_if_eq h.1 h.2.1 hd ht (fun hc => ?_) (fun hc => ?_)
  · have hc3 : x = 0 := (js_eq32 hx hy).mp hc
    have hc2 : js_ne x 0 = false := by rw [js_ne, decide_eq_true (by omega)]; rfl
    rw [hc2] at hk
    exact hk
  · have hc3 : ¬ (x = 0) := fun q => hc ((js_eq32 hx hy).mpr q)
    have hc2 : js_ne x 0 = true := by rw [js_ne, decide_eq_false (by omega)]; rfl
    rw [hc2] at hk
    exact hk
theorem ok_cl_ne_f {off : Int} {a b : js_EE} (ha : ok_E κ k pc p1 2 a) (hb : ok_E κ (k + js_ct 2) p1 p2 2 b) (hl0 : decode (kC κ) p2 = .ok (.lcmp, 1)) (hp3 : p2 + 1 = p3) (hd : decode (kC κ) p3 = .ok (.ifCond .eq off, 3)) (ht : (p3 : Int) + off = (ff : Int)) (hn : p3 + 3 = tt) : ok_C κ k pc tt ff (js_cp js_ne a b) := by
  intro X h ρ μ b0 μ' ls st H locs he hl hh hs hk
  subst hn; subst hp3
  obtain ⟨x, μ1, hea, he⟩ := js_b_some he
  obtain ⟨y, μ2, heb, he⟩ := js_b_some he
  cases he
  refine ha X h ρ μ x μ1 ls st H locs hea hl hh hs (fun hx H' locs' hh' => ?_)
  refine hb X h ρ μ1 y _ ls _ H' locs' heb hl hh' (js_smc hs) (fun hy H2 locs2 hh2 => ?_)
  have hk := hk H2 locs2 hh2
  refine W.lcmp h.1 h.2.1 hl0 ?_
  refine lv_if_eq h.1 h.2.1 hd ht (fun hc => ?_) (fun hc => ?_)
  · have hc3 : x = y := (js_lg_cmp_eq hx hy).mp hc
    have hc2 : js_ne x y = false := by rw [js_ne, decide_eq_true (by omega)]; rfl
    rw [hc2] at hk
    exact hk
  · have hc3 : ¬ (x = y) := fun q => hc ((js_lg_cmp_eq hx hy).mpr q)
    have hc2 : js_ne x y = true := by rw [js_ne, decide_eq_false (by omega)]; rfl
    rw [hc2] at hk
    exact hk
theorem js_bs_some {x : Option (Option Int × js_Ev × js_Mm)} {f : js_Ev → js_Mm → Option (Option Int × js_Ev × js_Mm)} {r : Option Int × js_Ev × js_Mm} (h : js_bs x f = some r) : (∃ ρ w, x = some (none, ρ, w) ∧ f ρ w = some r) ∨ ∃ v ρ w, x = some (some v, ρ, w) ∧ r = (some v, ρ, w) := by
  cases x with
  | none => cases h
  | some q =>
    obtain ⟨a, ρ, w⟩ := q
    cases a with
    | none => exact Or.inl ⟨ρ, w, rfl, h⟩
    | some v => exact Or.inr ⟨v, ρ, w, rfl, (Option.some.inj h).symm⟩
theorem ok_sk : ok_S κ pc pc js_sk := by
  intro X h ρ μ r ρ' μ' ls H locs he hl hh hk hr
  cases he
  exact hk rfl ls H locs hl hh
theorem ok_sg {off : Int} {s : js_SS} (hs : ok_S κ pc p1 s) (hd : decode (kC κ) p1 = .ok (.goto off, 3)) (ht : (p1 : Int) + off = (pc' : Int)) : ok_S κ pc pc' s := by
  intro X h ρ μ r ρ' μ' ls H locs he hl hh hk hr
  exact hs X h ρ μ r ρ' μ' ls H locs he hl hh (fun e ls' H' locs' hl' hh' => lv_goto h.1 h.2.1 hd ht (hk e ls' H' locs' hl' hh')) hr
theorem ok_sq {a b : js_SS} (ha : ok_S κ pc p1 a) (hb : ok_S κ p1 pc' b) : ok_S κ pc pc' (js_sq a b) := by
  intro X h ρ μ r ρ' μ' ls H locs he hl hh hk hr
  rcases js_bs_some he with ⟨ρ1, μ1, h1, h2⟩ | ⟨v, ρ1, μ1, h1, h2⟩
  · exact ha X h ρ μ none ρ1 μ1 ls H locs h1 hl hh (fun _ ls' H' locs' hl' hh' => hb X h ρ1 μ1 r ρ' μ' ls' H' locs' h2 hl' hh' hk hr) (fun v e => by cases e)
  · cases h2
    exact ha X h ρ μ (some v) _ _ ls H locs h1 hl hh (fun e => by cases e) hr
theorem ok_if {c : js_CC} {a b : js_SS} (hc : ok_C κ 0 pc p1 p2 c) (ha : ok_S κ p1 pc' a) (hb : ok_S κ p2 pc' b) : ok_S κ pc pc' (js_if c a b) := by
  intro X h ρ μ r ρ' μ' ls H locs he hl hh hk hr
  obtain ⟨b0, μ1, hec, he⟩ := js_bc_some he
  refine hc X h ρ μ b0 μ1 ls [] H locs hec hl hh (Nat.le_refl 0) (fun H' locs' hh' => ?_)
  cases b0
  · exact hb X h ρ μ1 r ρ' μ' ls H' locs' he hl hh' hk hr
  · exact ha X h ρ μ1 r ρ' μ' ls H' locs' he hl hh' hk hr
theorem ok_wn {c : js_CC} {b : js_SS} (hc : ok_C κ 0 pc p1 pc' c) (hb : ok_S κ p1 pc b) : ∀ n, ok_S κ pc pc' (js_wn c b n) := by
  intro n
  induction n with
  | zero => intro X h ρ μ r ρ' μ' ls H locs he; cases he
  | succ n ih =>
    intro X h ρ μ r ρ' μ' ls H locs he hl hh hk hr
    obtain ⟨b0, μ1, hec, he⟩ := js_bc_some he
    refine hc X h ρ μ b0 μ1 ls [] H locs hec hl hh (Nat.le_refl 0) (fun H' locs' hh' => ?_)
    cases b0
    · cases he
      exact hk rfl ls H' locs' hl hh'
    · rcases js_bs_some he with ⟨ρ1, μ2, h1, h2⟩ | ⟨v, ρ1, μ2, h1, h2⟩
      · exact hb X h ρ μ1 none ρ1 μ2 ls H' locs' h1 hl hh' (fun _ ls2 H2 locs2 hl2 hh2 => ih X h ρ1 μ2 r ρ' μ' ls2 H2 locs2 h2 hl2 hh2 hk hr) (fun v e => by cases e)
      · cases h2
        exact hb X h ρ μ1 (some v) _ _ ls H' locs' h1 hl hh' (fun e => by cases e) hr
theorem ok_wh {c : js_CC} {b : js_SS} (hc : ok_C κ 0 pc p1 pc' c) (hb : ok_S κ p1 pc b) : ok_S κ pc pc' (js_wh c b) := ok_wn hc hb js_fu
theorem js_trl (n : Nat) (ρ : js_Ev) : (js_tr n ρ).length = ρ.length := by
  simp [js_tr]; omega
theorem js_trg {n i t : Nat} {z : Int} {ρ : js_Ev} (h : (js_tr n ρ)[i]? = some (t, z)) (ht : t ≠ 0) : ρ[i]? = some (t, z) := by
  unfold js_tr at h
  rw [List.getElem?_append] at h
  by_cases hi : i < (ρ.take n).length
  · rw [if_pos hi] at h
    rw [List.getElem?_take] at h
    by_cases hn : i < n
    · rw [if_pos hn] at h; exact h
    · rw [if_neg hn] at h; cases h
  · rw [if_neg hi, List.getElem?_replicate] at h
    by_cases hx : i - (ρ.take n).length < ρ.length - n
    · rw [if_pos hx] at h; cases h; exact absurd rfl ht
    · rw [if_neg hx] at h; cases h
theorem ok_bk {n : Nat} {s : js_SS} (hs : ok_S κ pc pc' s) : ok_S κ pc pc' (js_bk n s) := by
  intro X h ρ μ r ρ' μ' ls H locs he hl hh hk hr
  rcases js_bs_some he with ⟨ρ1, μ1, h1, h2⟩ | ⟨v, ρ1, μ1, h1, h2⟩
  · cases h2
    refine hs X h ρ μ none ρ1 _ ls H locs h1 hl hh (fun _ ls' H' locs' hl' hh' => hk rfl ls' H' locs' ⟨hl'.1, hl'.2.1, by rw [js_trl]; exact hl'.2.2.1, fun i t z e ht => hl'.2.2.2 i t z (js_trg e ht) ht⟩ hh') (fun v e => by cases e)
  · cases h2
    exact hs X h ρ μ (some v) _ _ ls H locs h1 hl hh (fun e => by cases e) hr
theorem ok_ex {e : js_EE} (he0 : ok_E κ 0 pc p1 1 e) (hd : decode (kC κ) p1 = .ok (.pop, 1)) (hp : p1 + 1 = pc') : ok_S κ pc pc' (js_ex e) := by
  intro X h ρ μ r ρ' μ' ls H locs he hl hh hk hr
  subst hp
  obtain ⟨x, μ1, hea, he⟩ := js_b_some he
  cases he
  exact he0 X h ρ μ x _ ls [] H locs hea hl hh (Nat.le_refl 0) (fun _ H' locs' hh' => lv_pop h.1 h.2.1 hd rfl (hk rfl ls H' locs' hl hh'))
theorem ok_exv {e : js_EE} (he0 : ok_V κ 0 pc pc' e) : ok_S κ pc pc' (js_ex e) := by
  intro X h ρ μ r ρ' μ' ls H locs he hl hh hk hr
  obtain ⟨x, μ1, hea, he⟩ := js_b_some he
  cases he
  exact he0 X h ρ μ x _ ls [] H locs hea hl hh (Nat.le_refl 0) (fun H' locs' hh' => hk rfl ls H' locs' hl hh')
theorem ok_rv {e : js_EE} (he0 : ok_E κ 0 pc p1 1 e) (hd : decode (kC κ) p1 = .ok (.ireturn, 1)) (hT : (kT κ != 0) = true) : ok_S κ pc pc' (js_rv e) := by
  intro X h ρ μ r ρ' μ' ls H locs he hl hh hk hr
  obtain ⟨x, μ1, hea, he⟩ := js_b_some he
  cases he
  obtain ⟨e1, e2⟩ := hr _ rfl
  subst e1; subst e2
  exact he0 X h ρ μ _ _ ls [] H locs hea hl hh (Nat.le_refl 0) (fun hx H' locs' hh' => (h.2.2.2.2.2.2.2 H' locs' p1 ls hh').1 (by simpa using hT) hx hd)
theorem ok_r0 (hd : decode (kC κ) pc = .ok (.return_, 1)) (hT : (kT κ == 0) = true) : ok_S κ pc pc' js_r0 := by
  intro X h ρ μ r ρ' μ' ls H locs he hl hh hk hr
  cases he
  obtain ⟨e1, e2⟩ := hr _ rfl
  subst e2
  exact (h.2.2.2.2.2.2.2 H locs pc ls hh).2 (by simpa using hT) hd
/-! locals -/
def js_ll (τ : js_Tb) (ρ : js_Ev) : List (Nat × Value) := (List.range ρ.length).filterMap (fun i => if (js_g ρ i).1 = 0 then none else some (i, js_val τ (js_g ρ i).1 (js_g ρ i).2))
theorem js_ll_has {X : js_Cx} {ρ : js_Ev} {ls : Array Slot} (hl : js_lv κ X ρ ls) : lv_has ls (kN κ) (js_ll (xT X) ρ) := by
  refine ⟨hl.1, hl.2.1, fun q hq => ?_⟩
  obtain ⟨i, hi, e⟩ := List.mem_filterMap.mp hq
  by_cases h0 : (js_g ρ i).1 = 0
  · rw [if_pos h0] at e; cases e
  · rw [if_neg h0] at e
    cases e
    exact (hl.2.2.2 i _ _ (js_gi rfl h0) h0).2
theorem js_ll_in {τ : js_Tb} {ρ : js_Ev} {i t : Nat} {z : Int} (h : ρ[i]? = some (t, z)) (ht : t ≠ 0) : (i, js_val τ t z) ∈ js_ll τ ρ := by
  have hi : i < ρ.length := (List.getElem?_eq_some_iff.mp h).1
  have hg : js_g ρ i = (t, z) := by unfold js_g; rw [List.getD_eq_getElem?_getD, h]; rfl
  refine List.mem_filterMap.mpr ⟨i, List.mem_range.mpr hi, ?_⟩
  rw [hg, if_neg ht]
theorem js_store1 {X : js_Cx} {ρ : js_Ev} {ls ls' : Array Slot} {i t : Nat} {z : Int} {lv' : List (Nat × Value)} (hl : js_lv κ X ρ ls) (hn : i < kN κ) (h2 : ¬ (js_g ρ (i - 1)).1 = 2) (hr : js_rg (kG κ) t z)
    (hlv : (i, js_val (xT X) t z) :: (js_ll (xT X) ρ).filter (fun q => !(q.1 == i) && !(q.1 + 1 == i && q.2.category == 2)) = lv') (hh : lv_has ls' (kN κ) lv') : js_lv κ X (ρ.set i (t, z)) ls' := by
  subst hlv
  refine ⟨hh.1, hh.2.1, by simp; exact hl.2.2.1, fun j t' z' e ht => ?_⟩
  rw [List.getElem?_set] at e
  by_cases hij : i = j
  · subst hij
    rw [if_pos rfl, if_pos (by rw [hl.2.2.1]; exact hn)] at e
    cases e
    exact ⟨hr, hh.2.2 _ List.mem_cons_self⟩
  · rw [if_neg hij] at e
    refine ⟨(hl.2.2.2 j t' z' e ht).1, hh.2.2 (j, js_val (xT X) t' z') (List.mem_cons_of_mem _ (List.mem_filter.mpr ⟨js_ll_in e ht, ?_⟩))⟩
    have hg : js_g ρ j = (t', z') := by unfold js_g; rw [List.getD_eq_getElem?_getD, e]; rfl
    simp only [Bool.and_eq_true, Bool.not_eq_true', beq_eq_false_iff_ne, Bool.and_eq_false_iff, js_vcat]
    refine ⟨fun q => hij q.symm, ?_⟩
    by_cases hj : j + 1 = i
    · right
      have : i - 1 = j := by omega
      rw [this, hg] at h2
      unfold js_ct
      rw [if_neg h2]
      decide
    · left; exact hj
theorem js_store2 {X : js_Cx} {ρ : js_Ev} {ls ls' : Array Slot} {i : Nat} {z : Int} {lv' : List (Nat × Value)} (hl : js_lv κ X ρ ls) (hn : i + 1 < kN κ) (h2 : ¬ (js_g ρ (i - 1)).1 = 2) (hr : js_rg (kG κ) 2 z)
    (hlv : (i, js_val (xT X) 2 z) :: (js_ll (xT X) ρ).filter (fun q => !(q.1 == i) && (!(q.1 == i + 1) && !(q.1 + 1 == i && q.2.category == 2))) = lv') (hh : lv_has ls' (kN κ) lv') : js_lv κ X ((ρ.set i (2, z)).set (i + 1) (0, 0)) ls' := by
  subst hlv
  refine ⟨hh.1, hh.2.1, by simp; exact hl.2.2.1, fun j t' z' e ht => ?_⟩
  rw [List.getElem?_set] at e
  by_cases hj1 : i + 1 = j
  · rw [if_pos hj1] at e
    by_cases hx : i + 1 < (ρ.set i (2, z)).length
    · rw [if_pos hx] at e; cases e; exact absurd rfl ht
    · rw [if_neg hx] at e; cases e
  · rw [if_neg hj1, List.getElem?_set] at e
    by_cases hij : i = j
    · subst hij
      rw [if_pos rfl, if_pos (by rw [hl.2.2.1]; omega)] at e
      cases e
      exact ⟨hr, hh.2.2 _ List.mem_cons_self⟩
    · rw [if_neg hij] at e
      refine ⟨(hl.2.2.2 j t' z' e ht).1, hh.2.2 (j, js_val (xT X) t' z') (List.mem_cons_of_mem _ (List.mem_filter.mpr ⟨js_ll_in e ht, ?_⟩))⟩
      have hg : js_g ρ j = (t', z') := by unfold js_g; rw [List.getD_eq_getElem?_getD, e]; rfl
      simp only [Bool.and_eq_true, Bool.not_eq_true', beq_eq_false_iff_ne, Bool.and_eq_false_iff, js_vcat]
      refine ⟨fun q => hij q.symm, fun q => hj1 q.symm, ?_⟩
      by_cases hj : j + 1 = i
      · right
        have : i - 1 = j := by omega
        rw [this, hg] at h2
        unfold js_ct
        rw [if_neg h2]
        decide
      · left; exact hj
theorem ok_isn {j : Fin 4} {i : Nat} {e : js_EE} (he0 : ok_E κ 0 pc p1 1 e) (hd : decode (kC κ) p1 = .ok (.istore_n j, 1)) (hp : p1 + 1 = pc') (hj : (j : Nat) = i) (hn : Nat.blt i (kN κ) = true) : ok_S κ pc pc' (js_s1 1 i e) := by
  intro X h ρ μ r ρ' μ' ls H locs he hl hh hk hr
  subst hp
  obtain ⟨x, μ1, hea, he⟩ := js_b_some he
  by_cases h2 : (js_g ρ (i - 1)).1 = 2
  · rw [if_pos h2] at he; cases he
  · rw [if_neg h2] at he
    cases he
    have hn := Nat.blt_eq.mp hn
    refine he0 X h ρ μ x _ ls [] H locs hea hl hh (Nat.le_refl 0) (fun hx H' locs' hh' => ?_)
    exact lv_istore_n h.1 h.2.1 hd hj (js_ll_has hl) hn rfl (fun ls' hl' => hk rfl ls' H' locs' (js_store1 hl hn h2 hx rfl hl') hh')
theorem ok_is {i : Nat} {e : js_EE} (he0 : ok_E κ 0 pc p1 1 e) (hd : decode (kC κ) p1 = .ok (.istore i, 2)) (hp : p1 + 2 = pc') (hn : Nat.blt i (kN κ) = true) : ok_S κ pc pc' (js_s1 1 i e) := by
  intro X h ρ μ r ρ' μ' ls H locs he hl hh hk hr
  subst hp
  obtain ⟨x, μ1, hea, he⟩ := js_b_some he
  by_cases h2 : (js_g ρ (i - 1)).1 = 2
  · rw [if_pos h2] at he; cases he
  · rw [if_neg h2] at he
    cases he
    have hn := Nat.blt_eq.mp hn
    refine he0 X h ρ μ x _ ls [] H locs hea hl hh (Nat.le_refl 0) (fun hx H' locs' hh' => ?_)
    exact lv_istore h.1 h.2.1 hd (js_ll_has hl) hn rfl (fun ls' hl' => hk rfl ls' H' locs' (js_store1 hl hn h2 hx rfl hl') hh')
theorem ok_asn {j : Fin 4} {i : Nat} {e : js_EE} (he0 : ok_E κ 0 pc p1 3 e) (hd : decode (kC κ) p1 = .ok (.astore_n j, 1)) (hp : p1 + 1 = pc') (hj : (j : Nat) = i) (hn : Nat.blt i (kN κ) = true) : ok_S κ pc pc' (js_s1 3 i e) := by
  intro X h ρ μ r ρ' μ' ls H locs he hl hh hk hr
  subst hp
  obtain ⟨x, μ1, hea, he⟩ := js_b_some he
  by_cases h2 : (js_g ρ (i - 1)).1 = 2
  · rw [if_pos h2] at he; cases he
  · rw [if_neg h2] at he
    cases he
    have hn := Nat.blt_eq.mp hn
    refine he0 X h ρ μ x _ ls [] H locs hea hl hh (Nat.le_refl 0) (fun hx H' locs' hh' => ?_)
    exact lv_astore_n h.1 h.2.1 hd hj (js_ll_has hl) hn rfl (fun ls' hl' => hk rfl ls' H' locs' (js_store1 hl hn h2 hx rfl hl') hh')
theorem ok_as {i : Nat} {e : js_EE} (he0 : ok_E κ 0 pc p1 3 e) (hd : decode (kC κ) p1 = .ok (.astore i, 2)) (hp : p1 + 2 = pc') (hn : Nat.blt i (kN κ) = true) : ok_S κ pc pc' (js_s1 3 i e) := by
  intro X h ρ μ r ρ' μ' ls H locs he hl hh hk hr
  subst hp
  obtain ⟨x, μ1, hea, he⟩ := js_b_some he
  by_cases h2 : (js_g ρ (i - 1)).1 = 2
  · rw [if_pos h2] at he; cases he
  · rw [if_neg h2] at he
    cases he
    have hn := Nat.blt_eq.mp hn
    refine he0 X h ρ μ x _ ls [] H locs hea hl hh (Nat.le_refl 0) (fun hx H' locs' hh' => ?_)
    exact lv_astore h.1 h.2.1 hd (js_ll_has hl) hn rfl (fun ls' hl' => hk rfl ls' H' locs' (js_store1 hl hn h2 hx rfl hl') hh')
theorem ok_lsn {j : Fin 4} {i : Nat} {e : js_EE} (he0 : ok_E κ 0 pc p1 2 e) (hd : decode (kC κ) p1 = .ok (.lstore_n j, 1)) (hp : p1 + 1 = pc') (hj : (j : Nat) = i) (hn : Nat.blt (i + 1) (kN κ) = true) : ok_S κ pc pc' (js_s2 i e) := by
  intro X h ρ μ r ρ' μ' ls H locs he hl hh hk hr
  subst hp
  obtain ⟨x, μ1, hea, he⟩ := js_b_some he
  by_cases h2 : (js_g ρ (i - 1)).1 = 2
  · rw [if_pos h2] at he; cases he
  · rw [if_neg h2] at he
    cases he
    have hn := Nat.blt_eq.mp hn
    refine he0 X h ρ μ x _ ls [] H locs hea hl hh (Nat.le_refl 0) (fun hx H' locs' hh' => ?_)
    exact lv_lstore_n h.1 h.2.1 hd hj (js_ll_has hl) hn rfl (fun ls' hl' => hk rfl ls' H' locs' (js_store2 hl hn h2 hx rfl hl') hh')
theorem ok_ls {i : Nat} {e : js_EE} (he0 : ok_E κ 0 pc p1 2 e) (hd : decode (kC κ) p1 = .ok (.lstore i, 2)) (hp : p1 + 2 = pc') (hn : Nat.blt (i + 1) (kN κ) = true) : ok_S κ pc pc' (js_s2 i e) := by
  intro X h ρ μ r ρ' μ' ls H locs he hl hh hk hr
  subst hp
  obtain ⟨x, μ1, hea, he⟩ := js_b_some he
  by_cases h2 : (js_g ρ (i - 1)).1 = 2
  · rw [if_pos h2] at he; cases he
  · rw [if_neg h2] at he
    cases he
    have hn := Nat.blt_eq.mp hn
    refine he0 X h ρ μ x _ ls [] H locs hea hl hh (Nat.le_refl 0) (fun hx H' locs' hh' => ?_)
    exact lv_lstore h.1 h.2.1 hd (js_ll_has hl) hn rfl (fun ls' hl' => hk rfl ls' H' locs' (js_store2 hl hn h2 hx rfl hl') hh')
theorem ok_ii {i : Nat} {n : Int} (hd : decode (kC κ) pc = .ok (.iinc i n, 3)) (hp : pc + 3 = pc') (hn : Nat.blt i (kN κ) = true) : ok_S κ pc pc' (js_ii i n) := by
  intro X h ρ μ r ρ' μ' ls H locs he hl hh hk hr
  subst hp
  unfold js_ii at he
  by_cases hc : (js_g ρ i).1 = 1 ∧ ¬ (js_g ρ (i - 1)).1 = 2
  · rw [if_pos hc] at he
    cases he
    have hn := Nat.blt_eq.mp hn
    have e1 := js_gi hc.1 (by decide)
    obtain ⟨q, hq⟩ := List.getElem?_of_mem (js_ll_in (τ := xT X) e1 (by decide))
    refine lv_iinc (v := Int32.ofInt (js_add (js_g ρ i).2 n)) h.1 h.2.1 hd (js_ll_has hl) hq ?_ hn rfl (fun ls' hl' => hk rfl ls' H locs (js_store1 hl hn hc.2 (js_r32 _) rfl hl') hh)
    unfold js_add
    rw [js_oi]
  · rw [if_neg hc] at he; cases he
end
