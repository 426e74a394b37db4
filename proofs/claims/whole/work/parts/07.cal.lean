section
/-! ===== fields, arrays, calls ===== -/
theorem js_good : ∀ w ∈ js_tb, goodWord w = true := fun w h => (List.mem_filter.mp h).2
theorem js_mem {w : Cond} (i : Nat) (h : lw_tbl[i]? = some w) (hg : goodWord w = true) : w ∈ js_tb := List.mem_filter.mpr ⟨List.mem_of_getElem? h, hg⟩
def js_cN : List Nat := [15, 3, 7, 6, 7, 2, 3, 8, 9, 3, 16, 41]
theorem js_lenN {g k c : Nat} {q : vw_C} (h : (js_sh g k).1 = c) (hc : c < 12) (hq : vwCl[c]? = some q) : (js_sh g k).2 = q.2.2 := by
  have e1 : (vwCl.map (fun q => q.2.2))[c]? = some q.2.2 := by rw [List.getElem?_map, hq]; rfl
  have e2 : vwCl.map (fun q => q.2.2) = js_cN := rfl
  rw [e2] at e1
  have key : js_cN[(js_sh g k).1]? = some (js_sh g k).2 := by
    have hlt : (js_sh g k).1 < 12 := by omega
    revert hlt
    unfold js_sh
    by_cases hg : g = 0
    · simp only [hg, if_true]
      exact js_gd js_shC k (99, 0) (fun r => r.1 < 12 → js_cN[r.1]? = some r.2) (by decide) (by decide)
    · simp only [hg, if_false]
      exact js_gd js_shM k (99, 0) (fun r => r.1 < 12 → js_cN[r.1]? = some r.2) (by decide) (by decide)
  rw [h, e1] at key
  exact (Option.some.inj key).symm
theorem js_obj {g k c : Nat} {ad : Nat → Nat} {dA : Nat → ClassId} {μ : js_Mm} (h : (js_sh g k).1 = c) (hc : c < 12) : js_ce g ad dA μ k = .inr (c, (List.range (js_sh g k).2).map (fun j => js_fv g ad c k j (μ k j))) := by
  unfold js_ce
  rw [if_neg (by omega), if_neg (by omega), if_neg (by omega), if_neg (by omega), if_neg (by omega), h]
/-- a link to a field -/
def js_fk (own : String) (idx c j t : Nat) : Prop := ∃ (C : String) (T : u_T) (N : Nat) (ty : Nat → FieldType), vwCl[c]? = some (C, T, N) ∧ j < N ∧ (∀ w ∈ u_ws C T N, w ∈ js_tb) ∧ (∀ k, k < N → parseFieldDescriptor (T k).2.2.1 = some (ty k)) ∧ (∀ a, a < N → ∀ b, b < N → a ≠ b → (T a).2.1 ≠ (T b).2.1) ∧ Cond.fieldLink own idx (T j).1 (T j).2.1 (T j).2.2.1 ∈ js_tb ∧ js_ft c j = t ∧ c < 12 ∧ (t = 1 → ty j = .int) ∧ (t = 2 → ty j = .long) ∧ (t = 5 → ty j = .boolean) ∧ (t ≠ 3 → (T j).2.2.2 = false)
theorem js_isS {g c : Nat} {o : Int} (h : js_is g c o = true) : (js_sh g o.toNat).1 = c ∧ 0 ≤ o := by
  unfold js_is at h
  simp only [Bool.and_eq_true, decide_eq_true_eq] at h
  exact h
theorem js_inS {g c : Nat} {o i : Int} (h : js_in g c o i = true) : (js_sh g o.toNat).1 = c ∧ 0 ≤ o ∧ 0 ≤ i ∧ i < ((js_sh g o.toNat).2 : Int) := by
  unfold js_in at h
  simp only [Bool.and_eq_true, decide_eq_true_eq] at h
  exact ⟨h.1.1.1, h.1.1.2, h.1.2, h.2⟩
variable {κ : js_Ks} {k pc pc' p1 p2 p3 : Nat}
theorem js_get {X : js_Cx} (h : js_ok κ X) {idx c j t o : Nat} {μ : js_Mm} {H : Heap} {locs : List Loc} {ls : Array Slot} {st : List Value} (hf : js_fk (kO κ) idx c j t) (hd : decode (kC κ) pc = .ok (.getfield idx, 3)) (hh : js_hd κ X μ H locs) (ho : (js_sh (kG κ) o).1 = c)
    (hk : js_W κ X H locs (pc + 3) ls (js_fv (kG κ) (tA (xT X)) c o j (μ o j) :: st)) : js_W κ X H locs pc ls (.ref (tA (xT X) o) :: st) := by
  obtain ⟨C, T, N, ty, hc, hj, hin, hty, hnm, hl, hft, hc12, -, -, -, -⟩ := hf
  have hlen := js_lenN ho hc12 hc
  have he := js_ws_get (g := kG κ) (ad := tA (xT X)) (dA := tC (xT X)) (μ := μ) (js_sh_lt ho (by omega))
  rw [js_obj ho hc12] at he
  exact va_get (D := tD (xT X)) (cl := vwCl) h.1 h.2.1 h.2.2.2.2.1 hin h.2.2.2.1 h.2.2.2.2.2.1 hh.1 o he hc j hj (h.2.2.2.2.1 _ hl) (fun _ h9 => h9) (by rw [List.getElem?_map, List.getElem?_range (by rw [hlen]; exact hj)]; rfl) hd hk
theorem js_b_some {α : Type} {x : Option (Int × js_Mm)} {f : Int → js_Mm → Option α} {r : α} (h : js_b x f = some r) : ∃ z m, x = some (z, m) ∧ f z m = some r := by
  cases x with
  | none => cases h
  | some q => exact ⟨q.1, q.2, rfl, h⟩
theorem js_bl_some {α : Type} {x : Option (List Int × js_Mm)} {f : List Int → js_Mm → Option α} {r : α} (h : js_bl x f = some r) : ∃ z m, x = some (z, m) ∧ f z m = some r := by
  cases x with
  | none => cases h
  | some q => exact ⟨q.1, q.2, rfl, h⟩
theorem js_if_some {α : Type} {c : Bool} {x : α} {r : α} (h : (if c = true then some x else none) = some r) : c = true ∧ x = r := by
  by_cases hc : c = true
  · rw [if_pos hc] at h; exact ⟨hc, Option.some.inj h⟩
  · rw [if_neg hc] at h; cases h
theorem js_pto {g k c j t : Nat} (h : (js_sh g k).1 = c) (hc : c < 12) (ht : js_ft c j = t) : js_pt g k j = t := by
  unfold js_pt
  rw [if_neg (by omega), if_neg (by omega), if_neg (by omega), if_neg (by omega), if_neg (by omega), h, ht]
theorem ok_gf {idx c j t : Nat} {a : js_EE} (ha : ok_E κ k pc p1 3 a) (hd : decode (kC κ) p1 = .ok (.getfield idx, 3)) (hp : p1 + 3 = pc') (hf : js_fk (kO κ) idx c j t) (ht : t = 1 ∨ t = 5) : ok_E κ k pc pc' 1 (js_gf (kG κ) c j a) := by
  intro X h ρ μ z μ' ls st H locs he hl hh hs hk
  subst hp
  obtain ⟨o, m, hea, he⟩ := js_b_some he
  obtain ⟨hc, he⟩ := js_if_some he
  cases he
  obtain ⟨hc, ho⟩ := js_isS hc
  refine ha X h ρ μ o _ ls st H locs hea hl hh hs (fun hr H' locs' hh' => ?_)
  rw [js_v3]
  refine js_get h hf hd hh' hc ?_
  obtain ⟨C, T, N, ty, -, -, -, -, -, -, hft, hc12, -⟩ := hf
  have hpt := js_pto (j := j) hc hc12 hft
  have hcan := hh'.2.2.2 o.toNat j (by rw [hpt]; omega) (by rw [hpt]; omega)
  rw [hpt] at hcan
  have e : js_fv (kG κ) (tA (xT X)) c o.toNat j (μ' o.toNat j) = js_val (xT X) 1 (μ' o.toNat j) := by
    unfold js_fv
    rw [if_neg (by omega), if_neg (by omega)]
    rfl
  rw [e]
  refine hk ?_ H' locs' hh'
  rcases ht with rfl | rfl
  · exact hcan
  · exact ⟨by have := hcan.1; omega, by have := hcan.2; omega⟩
theorem ok_gl {idx c j : Nat} {a : js_EE} (ha : ok_E κ k pc p1 3 a) (hd : decode (kC κ) p1 = .ok (.getfield idx, 3)) (hp : p1 + 3 = pc') (hf : js_fk (kO κ) idx c j 2) : ok_E κ k pc pc' 2 (js_gf (kG κ) c j a) := by
  intro X h ρ μ z μ' ls st H locs he hl hh hs hk
  subst hp
  obtain ⟨o, m, hea, he⟩ := js_b_some he
  obtain ⟨hc, he⟩ := js_if_some he
  cases he
  obtain ⟨hc, ho⟩ := js_isS hc
  refine ha X h ρ μ o _ ls st H locs hea hl hh hs (fun hr H' locs' hh' => ?_)
  rw [js_v3]
  refine js_get h hf hd hh' hc ?_
  obtain ⟨C, T, N, ty, -, -, -, -, -, -, hft, hc12, -⟩ := hf
  have hpt := js_pto (j := j) hc hc12 hft
  have hcan := hh'.2.2.2 o.toNat j (by rw [hpt]; omega) (by rw [hpt]; omega)
  rw [hpt] at hcan
  have e : js_fv (kG κ) (tA (xT X)) c o.toNat j (μ' o.toNat j) = js_val (xT X) 2 (μ' o.toNat j) := by
    unfold js_fv
    rw [if_neg (by omega), if_pos (by omega)]
    rfl
  rw [e]
  exact hk hcan H' locs' hh'
theorem ok_gr {idx c j : Nat} {a : js_EE} (ha : ok_E κ k pc p1 3 a) (hd : decode (kC κ) p1 = .ok (.getfield idx, 3)) (hp : p1 + 3 = pc') (hf : js_fk (kO κ) idx c j 3) : ok_E κ k pc pc' 3 (js_gr (kG κ) c j a) := by
  intro X h ρ μ z μ' ls st H locs he hl hh hs hk
  subst hp
  obtain ⟨o, m, hea, he⟩ := js_b_some he
  obtain ⟨hc, he⟩ := js_if_some he
  cases he
  obtain ⟨hc, ho⟩ := js_isS hc
  refine ha X h ρ μ o _ ls st H locs hea hl hh hs (fun hr H' locs' hh' => ?_)
  rw [js_v3]
  refine js_get h hf hd hh' hc ?_
  obtain ⟨C, T, N, ty, -, -, -, -, -, -, hft, hc12, -⟩ := hf
  have e : js_fv (kG κ) (tA (xT X)) c o.toNat j (μ' o.toNat j) = js_val (xT X) 3 (js_rt (kG κ) o.toNat j : Int) := by
    unfold js_fv
    rw [if_pos hft]
    rfl
  rw [e]
  have := js_rt_lt (kG κ) o.toNat j
  exact hk ⟨by omega, by omega⟩ H' locs' hh'
theorem js_ce20 {g k : Nat} {ad : Nat → Nat} {dA : Nat → ClassId} {μ : js_Mm} (h : (js_sh g k).1 = 20) : js_ce g ad dA μ k = .inl (dA 0, (js_sh g k).2, .inl (fun j => Int32.ofInt (μ k j))) := by
  unfold js_ce
  rw [if_pos h]
theorem js_pt20 {g k j : Nat} (h : (js_sh g k).1 = 20) : js_pt g k j = 1 := by
  unfold js_pt
  rw [if_pos h]
theorem ok_ai {a i : js_EE} (ha : ok_E κ k pc p1 3 a) (hi : ok_E κ (k + js_ct 3) p1 p2 1 i) (hd : decode (kC κ) p2 = .ok (.iaload, 1)) (hp : p2 + 1 = pc') : ok_E κ k pc pc' 1 (js_al (kG κ) 20 a i) := by
  intro X h ρ μ z μ' ls st H locs he hl hh hs hk
  subst hp
  obtain ⟨o, m, hea, he⟩ := js_b_some he
  obtain ⟨x, m2, hei, he⟩ := js_b_some he
  obtain ⟨hc, he⟩ := js_if_some he
  cases he
  obtain ⟨hc, ho, hx0, hx1⟩ := js_inS hc
  refine ha X h ρ μ o m ls st H locs hea hl hh hs (fun hr H' locs' hh' => ?_)
  refine hi X h ρ m x _ ls _ H' locs' hei hl hh' (js_smc hs) (fun hrx H2 locs2 hh2 => ?_)
  have hw := js_ws_get (g := kG κ) (ad := tA (xT X)) (dA := tC (xT X)) (μ := μ') (js_sh_lt hc (by omega))
  rw [js_ce20 hc] at hw
  obtain ⟨hin, hcl⟩ := js_ax hx0 hx1 (js_sh_small _ _)
  refine va_iald (D := tD (xT X)) (cl := vwCl) h.1 h.2.1 h.2.2.2.2.2.1 hh2.1 o.toNat 0 hw rfl hin hd ?_
  rw [hcl]
  have hcan := hh2.2.2.2 o.toNat x.toNat (by rw [js_pt20 hc]; omega) (by rw [js_pt20 hc]; omega)
  rw [js_pt20 hc] at hcan
  exact hk hcan H2 locs2 hh2
theorem js_ce21 {g k : Nat} {ad : Nat → Nat} {dA : Nat → ClassId} {μ : js_Mm} (h : (js_sh g k).1 = 21) : js_ce g ad dA μ k = .inl (dA 1, (js_sh g k).2, .inr (.inl (fun j => Int64.ofInt (μ k j)))) := by
  unfold js_ce
  rw [if_neg (by omega)]; rw [if_pos h]
theorem js_pt21 {g k j : Nat} (h : (js_sh g k).1 = 21) : js_pt g k j = 2 := by
  unfold js_pt
  rw [if_neg (by omega)]; rw [if_pos h]
theorem ok_aJ {a i : js_EE} (ha : ok_E κ k pc p1 3 a) (hi : ok_E κ (k + js_ct 3) p1 p2 1 i) (hd : decode (kC κ) p2 = .ok (.laload, 1)) (hp : p2 + 1 = pc') : ok_E κ k pc pc' 2 (js_al (kG κ) 21 a i) := by
  intro X h ρ μ z μ' ls st H locs he hl hh hs hk
  subst hp
  obtain ⟨o, m, hea, he⟩ := js_b_some he
  obtain ⟨x, m2, hei, he⟩ := js_b_some he
  obtain ⟨hc, he⟩ := js_if_some he
  cases he
  obtain ⟨hc, ho, hx0, hx1⟩ := js_inS hc
  refine ha X h ρ μ o m ls st H locs hea hl hh hs (fun hr H' locs' hh' => ?_)
  refine hi X h ρ m x _ ls _ H' locs' hei hl hh' (js_smc hs) (fun hrx H2 locs2 hh2 => ?_)
  have hw := js_ws_get (g := kG κ) (ad := tA (xT X)) (dA := tC (xT X)) (μ := μ') (js_sh_lt hc (by omega))
  rw [js_ce21 hc] at hw
  obtain ⟨hin, hcl⟩ := js_ax hx0 hx1 (js_sh_small _ _)
  refine va_lald (D := tD (xT X)) (cl := vwCl) h.1 h.2.1 h.2.2.2.2.2.1 hh2.1 o.toNat 1 hw rfl hin hd ?_
  rw [hcl]
  have hcan := hh2.2.2.2 o.toNat x.toNat (by rw [js_pt21 hc]; omega) (by rw [js_pt21 hc]; omega)
  rw [js_pt21 hc] at hcan
  exact hk hcan H2 locs2 hh2
theorem js_ce22 {g k : Nat} {ad : Nat → Nat} {dA : Nat → ClassId} {μ : js_Mm} (h : (js_sh g k).1 = 22) : js_ce g ad dA μ k = .inl (dA 2, (js_sh g k).2, .inl (fun j => Int32.ofInt (μ k j))) := by
  unfold js_ce
  rw [if_neg (by omega)]; rw [if_neg (by omega)]; rw [if_pos h]
theorem js_pt22 {g k j : Nat} (h : (js_sh g k).1 = 22) : js_pt g k j = 6 := by
  unfold js_pt
  rw [if_neg (by omega)]; rw [if_neg (by omega)]; rw [if_pos h]
theorem ok_ac {a i : js_EE} (ha : ok_E κ k pc p1 3 a) (hi : ok_E κ (k + js_ct 3) p1 p2 1 i) (hd : decode (kC κ) p2 = .ok (.caload, 1)) (hp : p2 + 1 = pc') : ok_E κ k pc pc' 1 (js_al (kG κ) 22 a i) := by
  intro X h ρ μ z μ' ls st H locs he hl hh hs hk
  subst hp
  obtain ⟨o, m, hea, he⟩ := js_b_some he
  obtain ⟨x, m2, hei, he⟩ := js_b_some he
  obtain ⟨hc, he⟩ := js_if_some he
  cases he
  obtain ⟨hc, ho, hx0, hx1⟩ := js_inS hc
  refine ha X h ρ μ o m ls st H locs hea hl hh hs (fun hr H' locs' hh' => ?_)
  refine hi X h ρ m x _ ls _ H' locs' hei hl hh' (js_smc hs) (fun hrx H2 locs2 hh2 => ?_)
  have hw := js_ws_get (g := kG κ) (ad := tA (xT X)) (dA := tC (xT X)) (μ := μ') (js_sh_lt hc (by omega))
  rw [js_ce22 hc] at hw
  obtain ⟨hin, hcl⟩ := js_ax hx0 hx1 (js_sh_small _ _)
  refine va_cald (D := tD (xT X)) (cl := vwCl) h.1 h.2.1 h.2.2.2.2.2.1 hh2.1 o.toNat 2 hw rfl hin hd ?_
  rw [hcl]
  have hcan := hh2.2.2.2 o.toNat x.toNat (by rw [js_pt22 hc]; omega) (by rw [js_pt22 hc]; omega)
  rw [js_pt22 hc] at hcan
  exact hk ⟨by have := hcan.1; omega, by have := hcan.2; omega⟩ H2 locs2 hh2
theorem js_ce23 {g k : Nat} {ad : Nat → Nat} {dA : Nat → ClassId} {μ : js_Mm} (h : (js_sh g k).1 = 23) : js_ce g ad dA μ k = .inl (dA 3, (js_sh g k).2, .inl (fun j => Int32.ofInt (μ k j))) := by
  unfold js_ce
  rw [if_neg (by omega)]; rw [if_neg (by omega)]; rw [if_neg (by omega)]; rw [if_pos h]
theorem js_pt23 {g k j : Nat} (h : (js_sh g k).1 = 23) : js_pt g k j = 5 := by
  unfold js_pt
  rw [if_neg (by omega)]; rw [if_neg (by omega)]; rw [if_neg (by omega)]; rw [if_pos h]
theorem ok_az {a i : js_EE} (ha : ok_E κ k pc p1 3 a) (hi : ok_E κ (k + js_ct 3) p1 p2 1 i) (hd : decode (kC κ) p2 = .ok (.baload, 1)) (hp : p2 + 1 = pc') : ok_E κ k pc pc' 1 (js_al (kG κ) 23 a i) := by
  intro X h ρ μ z μ' ls st H locs he hl hh hs hk
  subst hp
  obtain ⟨o, m, hea, he⟩ := js_b_some he
  obtain ⟨x, m2, hei, he⟩ := js_b_some he
  obtain ⟨hc, he⟩ := js_if_some he
  cases he
  obtain ⟨hc, ho, hx0, hx1⟩ := js_inS hc
  refine ha X h ρ μ o m ls st H locs hea hl hh hs (fun hr H' locs' hh' => ?_)
  refine hi X h ρ m x _ ls _ H' locs' hei hl hh' (js_smc hs) (fun hrx H2 locs2 hh2 => ?_)
  have hw := js_ws_get (g := kG κ) (ad := tA (xT X)) (dA := tC (xT X)) (μ := μ') (js_sh_lt hc (by omega))
  rw [js_ce23 hc] at hw
  obtain ⟨hin, hcl⟩ := js_ax hx0 hx1 (js_sh_small _ _)
  refine va_zald (D := tD (xT X)) (cl := vwCl) h.1 h.2.1 h.2.2.2.2.2.1 hh2.1 o.toNat 3 hw rfl hin hd ?_
  rw [hcl]
  have hcan := hh2.2.2.2 o.toNat x.toNat (by rw [js_pt23 hc]; omega) (by rw [js_pt23 hc]; omega)
  rw [js_pt23 hc] at hcan
  exact hk ⟨by have := hcan.1; omega, by have := hcan.2; omega⟩ H2 locs2 hh2
theorem js_ce24 {g k : Nat} {ad : Nat → Nat} {dA : Nat → ClassId} {μ : js_Mm} (h : (js_sh g k).1 = 24) : js_ce g ad dA μ k = .inl (dA 4, (js_sh g k).2, .inr (.inr (.inr (.inr (fun j => some (ad (js_rt g k j))))))) := by
  unfold js_ce
  rw [if_neg (by omega)]; rw [if_neg (by omega)]; rw [if_neg (by omega)]; rw [if_neg (by omega)]; rw [if_pos h]
theorem ok_aa {a i : js_EE} (ha : ok_E κ k pc p1 3 a) (hi : ok_E κ (k + js_ct 3) p1 p2 1 i) (hd : decode (kC κ) p2 = .ok (.aaload, 1)) (hp : p2 + 1 = pc') : ok_E κ k pc pc' 3 (js_aa (kG κ) 24 a i) := by
  intro X h ρ μ z μ' ls st H locs he hl hh hs hk
  subst hp
  obtain ⟨o, m, hea, he⟩ := js_b_some he
  obtain ⟨x, m2, hei, he⟩ := js_b_some he
  obtain ⟨hc, he⟩ := js_if_some he
  cases he
  obtain ⟨hc, ho, hx0, hx1⟩ := js_inS hc
  refine ha X h ρ μ o m ls st H locs hea hl hh hs (fun hr H' locs' hh' => ?_)
  refine hi X h ρ m x _ ls _ H' locs' hei hl hh' (js_smc hs) (fun hrx H2 locs2 hh2 => ?_)
  have hw := js_ws_get (g := kG κ) (ad := tA (xT X)) (dA := tC (xT X)) (μ := μ') (js_sh_lt hc (by omega))
  rw [js_ce24 hc] at hw
  obtain ⟨hin, hcl⟩ := js_ax hx0 hx1 (js_sh_small _ _)
  refine va_aldq (D := tD (xT X)) (cl := vwCl) h.1 h.2.1 h.2.2.2.2.2.1 hh2.1 o.toNat 4 hw rfl hin hd ?_
  rw [hcl]
  have := js_rt_lt (kG κ) o.toNat x.toNat
  exact hk ⟨by omega, by omega⟩ H2 locs2 hh2
theorem js_arr {g k c : Nat} {ad : Nat → Nat} {dA : Nat → ClassId} {μ : js_Mm} (h : (js_sh g k).1 = c) (hc : c = 20 ∨ c = 21) : ∃ (t0 : Nat) (ty : FieldType) (x : vp_A), js_ce g ad dA μ k = .inl (dA t0, x) ∧ (js_tys dA)[t0]? = some (dA t0, ty) ∧ x.1 = (js_sh g k).2 := by
  rcases hc with rfl | rfl
  · exact ⟨0, .int, _, js_ce20 h, rfl, rfl⟩
  · exact ⟨1, .long, _, js_ce21 h, rfl, rfl⟩
theorem ok_ln {c : Nat} {a : js_EE} (hc20 : c = 20 ∨ c = 21) (ha : ok_E κ k pc p1 3 a) (hd : decode (kC κ) p1 = .ok (.arraylength, 1)) (hp : p1 + 1 = pc') : ok_E κ k pc pc' 1 (js_ln (kG κ) c a) := by
  intro X h ρ μ z μ' ls st H locs he hl hh hs hk
  subst hp
  obtain ⟨o, m, hea, he⟩ := js_b_some he
  obtain ⟨hc, he⟩ := js_if_some he
  cases he
  obtain ⟨hc, ho⟩ := js_isS hc
  refine ha X h ρ μ o _ ls st H locs hea hl hh hs (fun hr H' locs' hh' => ?_)
  have hw := js_ws_get (g := kG κ) (ad := tA (xT X)) (dA := tC (xT X)) (μ := μ') (js_sh_lt hc (by omega))
  obtain ⟨t0, ty, x, e1, e2, e3⟩ := js_arr (ad := tA (xT X)) (dA := tC (xT X)) (μ := μ') hc hc20
  rw [e1] at hw
  have hsm := js_sh_small (kG κ) o.toNat
  refine va_alen (D := tD (xT X)) (cl := vwCl) h.1 h.2.1 h.2.2.2.2.2.1 hh'.1 o.toNat t0 hw e2 (v := Int32.ofInt ((js_sh (kG κ) o.toNat).2 : Int)) (by rw [e3]; rfl) hd (hk ⟨by omega, by omega⟩ H' locs' hh')
/-! arguments -/
theorem ok_A0 : ok_A κ k pc pc [] [] := by
  intro X h ρ μ zs μ' ls st H locs he hl hh hs hk
  cases he
  exact hk trivial H locs hh
theorem ok_A1 {t : Nat} {ts : List Nat} {a : js_EE} {as : List js_EE} (ha : ok_E κ k pc p1 t a) (hr : ok_A κ (k + js_ct t) p1 p2 ts as) : ok_A κ k pc p2 (t :: ts) (a :: as) := by
  intro X h ρ μ zs μ' ls st H locs he hl hh hs hk
  obtain ⟨x, m, hea, he⟩ := js_b_some he
  obtain ⟨xs, m2, hes, he⟩ := js_bl_some he
  cases he
  refine ha X h ρ μ x m ls st H locs hea hl hh hs (fun hx H' locs' hh' => ?_)
  refine hr X h ρ m xs _ ls _ H' locs' hes hl hh' (js_smc hs) (fun hxs H2 locs2 hh2 => ?_)
  have := hk ⟨hx, hxs⟩ H2 locs2 hh2
  simpa [js_vs] using this
end
