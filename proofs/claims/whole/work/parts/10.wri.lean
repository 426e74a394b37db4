section
/-! ===== writes, copies, switches, methods ===== -/
variable {κ : js_Ks} {k pc pc' p1 p2 p3 p4 p5 : Nat}
theorem js_u_same (μ : js_Mm) (a b : Nat) (z : Int) : js_u μ a b z a b = z := by simp [js_u]
theorem js_u_other {μ : js_Mm} {a b a' b' : Nat} {z : Int} (h : ¬ (a' = a ∧ b' = b)) : js_u μ a b z a' b' = μ a' b' := by simp [js_u, h]
theorem js_can_u {g a b : Nat} {μ : js_Mm} {z : Int} (h : js_can g μ) (hz : js_rg g (js_pt g a b) z) : js_can g (js_u μ a b z) := by
  intro k' j' h3 h0
  by_cases e : k' = a ∧ j' = b
  · obtain ⟨rfl, rfl⟩ := e
    rw [js_u_same]; exact hz
  · rw [js_u_other e]; exact h k' j' h3 h0
theorem js_ce_cong {g : Nat} {ad : Nat → Nat} {dA : Nat → ClassId} {μ μ' : js_Mm} {i : Nat} (h : ∀ j, μ' i j = μ i j) : js_ce g ad dA μ' i = js_ce g ad dA μ i := by
  unfold js_ce
  simp only [h]
theorem js_hd_u {X : js_Cx} {μ μ' : js_Mm} {H H1 : Heap} {locs locs1 : List Loc} {o : Nat} {E : va_E} (hh : js_hd κ X μ H locs) (hE : js_ce (kG κ) (tA (xT X)) (tC (xT X)) μ' o = E) (ho : ∀ i, i ≠ o → ∀ j, μ' i j = μ i j) (hc : js_can (kG κ) μ')
    (hP : va_P (tD (xT X)) vwCl ((js_ws (kG κ) (tA (xT X)) (tC (xT X)) μ).set o (tA (xT X) o, E)) H1) (hS : va_S (js_Ax (kG κ) (tA (xT X)) (xS X).heap.size) (xS X).heap H1 locs1) : js_hd κ X μ' H1 locs1 := by
  rw [js_ws_set hE (fun i hi => js_ce_cong (ho i hi))] at hP
  exact ⟨hP, js_Dm hh.2.1 (fun _ _ q => q), hS, hc⟩
theorem js_rset {N j : Nat} {f f' : Nat → Value} {v : Value} (h1 : f' j = v) (h2 : ∀ i, i ≠ j → f' i = f i) : (List.range N).map f' = ((List.range N).map f).set j v := by
  apply List.ext_getElem?
  intro i
  rw [List.getElem?_set]
  by_cases hi : i < N
  · by_cases e : j = i
    · subst e
      simp [hi, h1]
    · rw [if_neg e]
      simp [hi, h2 i (fun q => e q.symm)]
  · by_cases e : j = i
    · subst e
      simp [hi]
    · rw [if_neg e]
      simp [hi]
theorem js_put {X : js_Cx} (h : js_ok κ X) {idx c j t o : Nat} {z : Int} {μ : js_Mm} {H : Heap} {locs : List Loc} {ls : Array Slot} {st : List Value} (hf : js_fk (kO κ) idx c j t) (ht : t = 1 ∨ t = 2 ∨ t = 5) (hz : js_rg (kG κ) t z) (hd : decode (kC κ) pc = .ok (.putfield idx, 3)) (hh : js_hd κ X μ H locs) (ho : (js_sh (kG κ) o).1 = c)
    (hk : ∀ H' locs', js_hd κ X (js_u μ o j z) H' locs' → js_W κ X H' locs' (pc + 3) ls st) : js_W κ X H locs pc ls (js_fv (kG κ) (tA (xT X)) c o j z :: .ref (tA (xT X) o) :: st) := by
  obtain ⟨C, T, N, ty, hc, hj, hin, hty, hnm, hl, hft, hc12, ht1, ht2, ht5, hfin⟩ := hf
  have hlen := js_lenN ho hc12 hc
  have he := js_ws_get (g := kG κ) (ad := tA (xT X)) (dA := tC (xT X)) (μ := μ) (js_sh_lt ho (by omega))
  rw [js_obj ho hc12] at he
  have hv : narrow (ty j) (js_fv (kG κ) (tA (xT X)) c o j z) = js_fv (kG κ) (tA (xT X)) c o j z ∧ fits (ty j) (js_fv (kG κ) (tA (xT X)) c o j z) = true := by
    unfold js_fv
    rcases ht with rfl | rfl | rfl
    · rw [ht1 rfl, if_neg (by omega), if_neg (by omega)]; exact ⟨rfl, rfl⟩
    · rw [ht2 rfl, if_neg (by omega), if_pos (by omega)]; exact ⟨rfl, rfl⟩
    · rw [ht5 rfl, if_neg (by omega), if_neg (by omega)]
      have h1 := hz.1
      have h2 := hz.2
      have h3 : z = 0 ∨ z = 1 := by omega
      rcases h3 with rfl | rfl
      · exact ⟨by decide, by decide⟩
      · exact ⟨by decide, by decide⟩
  refine va_put (D := tD (xT X)) (cl := vwCl) h.1 h.2.1 h.2.2.2.2.1 hin ty hty hnm h.2.2.2.1 h.2.2.2.2.2.1 hh.1 hh.2.1 hh.2.2.1 o he hc j hj (h.2.2.2.2.1 _ hl) (fun _ h9 => h9) (hfin (by omega)) (hty j hj) hv.1 hv.2 (by simp [hlen]; exact hj) hd (fun H1 locs1 hP hD hS => hk H1 locs1 ?_)
  refine js_hd_u hh ?_ (fun i hi j' => js_u_other (fun q => hi q.1)) (js_can_u hh.2.2.2 (by rw [js_pto ho hc12 hft]; exact hz)) hP hS
  rw [js_obj ho hc12]
  refine congrArg _ (congrArg _ (js_rset (by rw [js_u_same]) (fun i hi => ?_)))
  rw [js_u_other (fun q => hi q.2)]
theorem js_fitS {t : Nat} {g : Nat} {z : Int} (ht : t = 1 ∨ t = 5 ∨ t = 6) (h : js_fit t z = true) (hr : js_rg g 1 z) : js_rg g t z := by
  unfold js_fit at h
  rcases ht with rfl | rfl | rfl
  · exact hr
  · rw [if_pos rfl] at h
    simp only [Bool.and_eq_true, decide_eq_true_eq] at h
    exact h
  · rw [if_neg (by decide), if_pos rfl] at h
    simp only [Bool.and_eq_true, decide_eq_true_eq] at h
    exact h
theorem ok_pf {idx c j t : Nat} {a e : js_EE} (ha : ok_E κ 0 pc p1 3 a) (he0 : ok_E κ (0 + js_ct 3) p1 p2 1 e) (hd : decode (kC κ) p2 = .ok (.putfield idx, 3)) (hp : p2 + 3 = pc') (hf : js_fk (kO κ) idx c j t) (ht : (t == 1 || t == 5) = true) : ok_S κ pc pc' (js_pf (kG κ) c j a e) := by
  simp only [Bool.or_eq_true, beq_iff_eq] at ht
  intro X h ρ μ r ρ' μ' ls H locs he hl hh hk hr
  subst hp
  obtain ⟨o, μ1, hea, he⟩ := js_b_some he
  obtain ⟨z, μ2, hez, he⟩ := js_b_some he
  obtain ⟨hc, he⟩ := js_if_some he
  cases he
  simp only [Bool.and_eq_true] at hc
  obtain ⟨hc, hft⟩ := hc
  obtain ⟨hc, ho⟩ := js_isS hc
  have hftc : js_ft c j = t := by obtain ⟨_, _, _, _, _, _, _, _, _, _, q, _⟩ := hf; exact q
  have hc12 : c < 12 := by obtain ⟨_, _, _, _, _, _, _, _, _, _, _, q, _⟩ := hf; exact q
  rw [hftc] at hft
  refine ha X h ρ μ o μ1 ls [] H locs hea hl hh (Nat.le_refl 0) (fun _ H' locs' hh' => ?_)
  refine he0 X h ρ μ1 z μ2 ls _ H' locs' hez hl hh' (js_smc (Nat.le_refl 0)) (fun hz H2 locs2 hh2 => ?_)
  have hz2 := js_fitS (by omega) hft hz
  have e1 : js_val (xT X) 1 z = js_fv (kG κ) (tA (xT X)) c o.toNat j z := by
    unfold js_fv
    rw [if_neg (by omega), if_neg (by omega)]
    rfl
  rw [e1, js_v3]
  exact js_put h hf (by omega) hz2 hd hh2 hc (fun H3 locs3 hh3 => hk rfl ls H3 locs3 hl hh3)
theorem ok_pl {idx c j : Nat} {a e : js_EE} (ha : ok_E κ 0 pc p1 3 a) (he0 : ok_E κ (0 + js_ct 3) p1 p2 2 e) (hd : decode (kC κ) p2 = .ok (.putfield idx, 3)) (hp : p2 + 3 = pc') (hf : js_fk (kO κ) idx c j 2) : ok_S κ pc pc' (js_pf (kG κ) c j a e) := by
  intro X h ρ μ r ρ' μ' ls H locs he hl hh hk hr
  subst hp
  obtain ⟨o, μ1, hea, he⟩ := js_b_some he
  obtain ⟨z, μ2, hez, he⟩ := js_b_some he
  obtain ⟨hc, he⟩ := js_if_some he
  cases he
  simp only [Bool.and_eq_true] at hc
  obtain ⟨hc, hft⟩ := hc
  obtain ⟨hc, ho⟩ := js_isS hc
  have hftc : js_ft c j = 2 := by obtain ⟨_, _, _, _, _, _, _, _, _, _, q, _⟩ := hf; exact q
  have hc12 : c < 12 := by obtain ⟨_, _, _, _, _, _, _, _, _, _, _, q, _⟩ := hf; exact q
  refine ha X h ρ μ o μ1 ls [] H locs hea hl hh (Nat.le_refl 0) (fun _ H' locs' hh' => ?_)
  refine he0 X h ρ μ1 z μ2 ls _ H' locs' hez hl hh' (js_smc (Nat.le_refl 0)) (fun hz H2 locs2 hh2 => ?_)
  have e1 : js_val (xT X) 2 z = js_fv (kG κ) (tA (xT X)) c o.toNat j z := by
    unfold js_fv
    rw [if_neg (by omega), if_pos (by omega)]
    rfl
  rw [e1, js_v3]
  exact js_put h hf (by omega) hz hd hh2 hc (fun H3 locs3 hh3 => hk rfl ls H3 locs3 hl hh3)
theorem ok_of {idx c j : Nat} {f : Int → Int → Int} {a e : js_EE} (ha : ok_E κ 0 pc p1 3 a) (hdup : decode (kC κ) p1 = .ok (.dup, 1)) (hp1 : p1 + 1 = p2) (hget : decode (kC κ) p2 = .ok (.getfield idx, 3)) (hp2 : p2 + 3 = p3) (he0 : ok_E κ (0 + js_ct 3 + js_ct 1) p3 p4 1 e) (hop : ok_o2 κ p4 p5 1 1 1 f) (hd : decode (kC κ) p5 = .ok (.putfield idx, 3)) (hp : p5 + 3 = pc') (hf : js_fk (kO κ) idx c j 1) : ok_S κ pc pc' (js_of (kG κ) c j f a e) := by
  intro X h ρ μ r ρ' μ' ls H locs he hl hh hk hr
  subst hp; subst hp1; subst hp2
  obtain ⟨o, μ1, hea, he⟩ := js_b_some he
  by_cases hc : js_is (kG κ) c o = true
  · rw [if_pos hc] at he
    obtain ⟨z, μ2, hez, he⟩ := js_b_some he
    cases he
    obtain ⟨hc, ho⟩ := js_isS hc
    have hftc : js_ft c j = 1 := by obtain ⟨_, _, _, _, _, _, _, _, _, _, q, _⟩ := hf; exact q
    have hc12 : c < 12 := by obtain ⟨_, _, _, _, _, _, _, _, _, _, _, q, _⟩ := hf; exact q
    have e1 : ∀ z, js_fv (kG κ) (tA (xT X)) c o.toNat j z = js_val (xT X) 1 z := fun z => by
      unfold js_fv
      rw [if_neg (by omega), if_neg (by omega)]
      rfl
    refine ha X h ρ μ o μ1 ls [] H locs hea hl hh (Nat.le_refl 0) (fun _ H' locs' hh' => ?_)
    refine lv_dup h.1 h.2.1 hdup rfl ?_
    refine js_get h hf hget hh' hc ?_
    have hpt := js_pto (j := j) hc hc12 hftc
    have hcan := hh'.2.2.2 o.toNat j (by rw [hpt]; omega) (by rw [hpt]; omega)
    rw [hpt] at hcan
    rw [e1]
    refine he0 X h ρ μ1 z μ2 ls _ H' locs' hez hl hh' (js_smc (js_smc (Nat.le_refl 0))) (fun hz H2 locs2 hh2 => ?_)
    refine hop X h _ z ls _ H2 locs2 hcan hz (fun hr2 => ?_)
    rw [← e1, js_v3]
    exact js_put h hf (by omega) hr2 hd hh2 hc (fun H3 locs3 hh3 => hk rfl ls H3 locs3 hl hh3)
  · rw [if_neg hc] at he; cases he
theorem js_nI (n : Nat) : Int32.ofInt (n : Int) = nI n := rfl
theorem js_narC {z : Int} (h0 : 0 ≤ z) (h1 : z < 65536) : vp_nar .char (Int32.ofInt z) = Int32.ofInt z := by
  obtain ⟨n, rfl⟩ := Int.eq_ofNat_of_zero_le h0
  have hn : n < 65536 := by omega
  show vp_nar .char (nI n) = nI n
  unfold vp_nar
  rw [(pk_charN hn).1]
theorem js_narZ {z : Int} (h0 : 0 ≤ z) (h1 : z < 2) : vp_nar .boolean (Int32.ofInt z) = Int32.ofInt z := by
  have h3 : z = 0 ∨ z = 1 := by omega
  rcases h3 with rfl | rfl
  · decide
  · decide
theorem js_ast20 {X : js_Cx} (h : js_ok κ X) {o : Nat} {i z : Int} {μ : js_Mm} {H : Heap} {locs : List Loc} {ls : Array Slot} {st : List Value} (hz : js_rg (kG κ) 1 z) (hd : decode (kC κ) pc = .ok (.iastore, 1)) (hh : js_hd κ X μ H locs) (ho : (js_sh (kG κ) o).1 = 20) (hi0 : 0 ≤ i) (hi1 : i < ((js_sh (kG κ) o).2 : Int))
    (hk : ∀ H' locs', js_hd κ X (js_u μ o i.toNat z) H' locs' → js_W κ X H' locs' (pc + 1) ls st) : js_W κ X H locs pc ls (js_val (xT X) 1 z :: js_val (xT X) 1 i :: .ref (tA (xT X) o) :: st) := by
  have hw := js_ws_get (g := kG κ) (ad := tA (xT X)) (dA := tC (xT X)) (μ := μ) (js_sh_lt ho (by omega))
  rw [js_ce20 ho] at hw
  obtain ⟨hin, hcl⟩ := js_ax hi0 hi1 (js_sh_small _ _)
  refine va_iast (D := tD (xT X)) (cl := vwCl) h.1 h.2.1 h.2.2.2.2.2.1 hh.1 hh.2.1 hh.2.2.1 o 0 hw rfl hin hd (fun H1 locs1 hP hD hS => hk H1 locs1 ?_)
  rw [hcl] at hP
  refine js_hd_u hh ?_ (fun i' hi' j' => js_u_other (fun q => hi' q.1)) (js_can_u hh.2.2.2 (by rw [js_pt20 ho]; exact hz)) hP hS
  rw [js_ce20 ho]
  have ef : (fun j => Int32.ofInt (js_u μ o i.toNat z o j)) = upd (fun j => Int32.ofInt (μ o j)) i.toNat (Int32.ofInt z) := by
    funext j
    unfold upd
    by_cases e : j = i.toNat
    · subst e; rw [js_u_same, if_pos rfl]
    · rw [js_u_other (fun q => e q.2), if_neg e]
  rw [ef]
theorem ok_pa20 {a i e : js_EE} (ha : ok_E κ 0 pc p1 3 a) (hi : ok_E κ (0 + js_ct 3) p1 p2 1 i) (he0 : ok_E κ (0 + js_ct 3 + js_ct 1) p2 p3 1 e) (hd : decode (kC κ) p3 = .ok (.iastore, 1)) (hp : p3 + 1 = pc') : ok_S κ pc pc' (js_pa (kG κ) 20 a i e) := by
  intro X h ρ μ r ρ' μ' ls H locs he hl hh hk hr
  subst hp
  obtain ⟨o, μ1, hea, he⟩ := js_b_some he
  obtain ⟨x, μ2, hei, he⟩ := js_b_some he
  obtain ⟨z, μ3, hez, he⟩ := js_b_some he
  obtain ⟨hc, he⟩ := js_if_some he
  cases he
  simp only [Bool.and_eq_true] at hc
  obtain ⟨hc, hft⟩ := hc
  obtain ⟨hc, ho, hx0, hx1⟩ := js_inS hc
  refine ha X h ρ μ o μ1 ls [] H locs hea hl hh (Nat.le_refl 0) (fun _ H' locs' hh' => ?_)
  refine hi X h ρ μ1 x μ2 ls _ H' locs' hei hl hh' (js_smc (Nat.le_refl 0)) (fun hrx H2 locs2 hh2 => ?_)
  refine he0 X h ρ μ2 z μ3 ls _ H2 locs2 hez hl hh2 (js_smc (js_smc (Nat.le_refl 0))) (fun hz H3 locs3 hh3 => ?_)
  exact js_ast20 h (js_fitS (t := 1) (by omega) hft hz) hd hh3 hc hx0 hx1 (fun H4 locs4 hh4 => hk rfl ls H4 locs4 hl hh4)
theorem js_ast21 {X : js_Cx} (h : js_ok κ X) {o : Nat} {i z : Int} {μ : js_Mm} {H : Heap} {locs : List Loc} {ls : Array Slot} {st : List Value} (hz : js_rg (kG κ) 2 z) (hd : decode (kC κ) pc = .ok (.lastore, 1)) (hh : js_hd κ X μ H locs) (ho : (js_sh (kG κ) o).1 = 21) (hi0 : 0 ≤ i) (hi1 : i < ((js_sh (kG κ) o).2 : Int))
    (hk : ∀ H' locs', js_hd κ X (js_u μ o i.toNat z) H' locs' → js_W κ X H' locs' (pc + 1) ls st) : js_W κ X H locs pc ls (js_val (xT X) 2 z :: js_val (xT X) 1 i :: .ref (tA (xT X) o) :: st) := by
  have hw := js_ws_get (g := kG κ) (ad := tA (xT X)) (dA := tC (xT X)) (μ := μ) (js_sh_lt ho (by omega))
  rw [js_ce21 ho] at hw
  obtain ⟨hin, hcl⟩ := js_ax hi0 hi1 (js_sh_small _ _)
  refine va_last (D := tD (xT X)) (cl := vwCl) h.1 h.2.1 h.2.2.2.2.2.1 hh.1 hh.2.1 hh.2.2.1 o 1 hw rfl hin hd (fun H1 locs1 hP hD hS => hk H1 locs1 ?_)
  rw [hcl] at hP
  refine js_hd_u hh ?_ (fun i' hi' j' => js_u_other (fun q => hi' q.1)) (js_can_u hh.2.2.2 (by rw [js_pt21 ho]; exact hz)) hP hS
  rw [js_ce21 ho]
  have ef : (fun j => Int64.ofInt (js_u μ o i.toNat z o j)) = vp_updL (fun j => Int64.ofInt (μ o j)) i.toNat (Int64.ofInt z) := by
    funext j
    unfold vp_updL
    by_cases e : j = i.toNat
    · subst e; rw [js_u_same, if_pos rfl]
    · rw [js_u_other (fun q => e q.2), if_neg e]
  rw [ef]
theorem ok_pa21 {a i e : js_EE} (ha : ok_E κ 0 pc p1 3 a) (hi : ok_E κ (0 + js_ct 3) p1 p2 1 i) (he0 : ok_E κ (0 + js_ct 3 + js_ct 1) p2 p3 2 e) (hd : decode (kC κ) p3 = .ok (.lastore, 1)) (hp : p3 + 1 = pc') : ok_S κ pc pc' (js_pa (kG κ) 21 a i e) := by
  intro X h ρ μ r ρ' μ' ls H locs he hl hh hk hr
  subst hp
  obtain ⟨o, μ1, hea, he⟩ := js_b_some he
  obtain ⟨x, μ2, hei, he⟩ := js_b_some he
  obtain ⟨z, μ3, hez, he⟩ := js_b_some he
  obtain ⟨hc, he⟩ := js_if_some he
  cases he
  simp only [Bool.and_eq_true] at hc
  obtain ⟨hc, hft⟩ := hc
  obtain ⟨hc, ho, hx0, hx1⟩ := js_inS hc
  refine ha X h ρ μ o μ1 ls [] H locs hea hl hh (Nat.le_refl 0) (fun _ H' locs' hh' => ?_)
  refine hi X h ρ μ1 x μ2 ls _ H' locs' hei hl hh' (js_smc (Nat.le_refl 0)) (fun hrx H2 locs2 hh2 => ?_)
  refine he0 X h ρ μ2 z μ3 ls _ H2 locs2 hez hl hh2 (js_smc (js_smc (Nat.le_refl 0))) (fun hz H3 locs3 hh3 => ?_)
  exact js_ast21 h hz hd hh3 hc hx0 hx1 (fun H4 locs4 hh4 => hk rfl ls H4 locs4 hl hh4)
theorem js_ast22 {X : js_Cx} (h : js_ok κ X) {o : Nat} {i z : Int} {μ : js_Mm} {H : Heap} {locs : List Loc} {ls : Array Slot} {st : List Value} (hz : js_rg (kG κ) 6 z) (hd : decode (kC κ) pc = .ok (.castore, 1)) (hh : js_hd κ X μ H locs) (ho : (js_sh (kG κ) o).1 = 22) (hi0 : 0 ≤ i) (hi1 : i < ((js_sh (kG κ) o).2 : Int))
    (hk : ∀ H' locs', js_hd κ X (js_u μ o i.toNat z) H' locs' → js_W κ X H' locs' (pc + 1) ls st) : js_W κ X H locs pc ls (js_val (xT X) 1 z :: js_val (xT X) 1 i :: .ref (tA (xT X) o) :: st) := by
  have hw := js_ws_get (g := kG κ) (ad := tA (xT X)) (dA := tC (xT X)) (μ := μ) (js_sh_lt ho (by omega))
  rw [js_ce22 ho] at hw
  obtain ⟨hin, hcl⟩ := js_ax hi0 hi1 (js_sh_small _ _)
  refine va_cast (D := tD (xT X)) (cl := vwCl) h.1 h.2.1 h.2.2.2.2.2.1 hh.1 hh.2.1 hh.2.2.1 o 2 hw rfl hin hd (fun H1 locs1 hP hD hS => hk H1 locs1 ?_)
  rw [hcl] at hP
  rw [js_narC hz.1 hz.2] at hP
  refine js_hd_u hh ?_ (fun i' hi' j' => js_u_other (fun q => hi' q.1)) (js_can_u hh.2.2.2 (by rw [js_pt22 ho]; exact hz)) hP hS
  rw [js_ce22 ho]
  have ef : (fun j => Int32.ofInt (js_u μ o i.toNat z o j)) = upd (fun j => Int32.ofInt (μ o j)) i.toNat (Int32.ofInt z) := by
    funext j
    unfold upd
    by_cases e : j = i.toNat
    · subst e; rw [js_u_same, if_pos rfl]
    · rw [js_u_other (fun q => e q.2), if_neg e]
  rw [ef]
theorem ok_pa22 {a i e : js_EE} (ha : ok_E κ 0 pc p1 3 a) (hi : ok_E κ (0 + js_ct 3) p1 p2 1 i) (he0 : ok_E κ (0 + js_ct 3 + js_ct 1) p2 p3 1 e) (hd : decode (kC κ) p3 = .ok (.castore, 1)) (hp : p3 + 1 = pc') : ok_S κ pc pc' (js_pa (kG κ) 22 a i e) := by
  intro X h ρ μ r ρ' μ' ls H locs he hl hh hk hr
  subst hp
  obtain ⟨o, μ1, hea, he⟩ := js_b_some he
  obtain ⟨x, μ2, hei, he⟩ := js_b_some he
  obtain ⟨z, μ3, hez, he⟩ := js_b_some he
  obtain ⟨hc, he⟩ := js_if_some he
  cases he
  simp only [Bool.and_eq_true] at hc
  obtain ⟨hc, hft⟩ := hc
  obtain ⟨hc, ho, hx0, hx1⟩ := js_inS hc
  refine ha X h ρ μ o μ1 ls [] H locs hea hl hh (Nat.le_refl 0) (fun _ H' locs' hh' => ?_)
  refine hi X h ρ μ1 x μ2 ls _ H' locs' hei hl hh' (js_smc (Nat.le_refl 0)) (fun hrx H2 locs2 hh2 => ?_)
  refine he0 X h ρ μ2 z μ3 ls _ H2 locs2 hez hl hh2 (js_smc (js_smc (Nat.le_refl 0))) (fun hz H3 locs3 hh3 => ?_)
  exact js_ast22 h (js_fitS (t := 6) (by omega) hft hz) hd hh3 hc hx0 hx1 (fun H4 locs4 hh4 => hk rfl ls H4 locs4 hl hh4)
theorem js_ast23 {X : js_Cx} (h : js_ok κ X) {o : Nat} {i z : Int} {μ : js_Mm} {H : Heap} {locs : List Loc} {ls : Array Slot} {st : List Value} (hz : js_rg (kG κ) 5 z) (hd : decode (kC κ) pc = .ok (.bastore, 1)) (hh : js_hd κ X μ H locs) (ho : (js_sh (kG κ) o).1 = 23) (hi0 : 0 ≤ i) (hi1 : i < ((js_sh (kG κ) o).2 : Int))
    (hk : ∀ H' locs', js_hd κ X (js_u μ o i.toNat z) H' locs' → js_W κ X H' locs' (pc + 1) ls st) : js_W κ X H locs pc ls (js_val (xT X) 1 z :: js_val (xT X) 1 i :: .ref (tA (xT X) o) :: st) := by
  have hw := js_ws_get (g := kG κ) (ad := tA (xT X)) (dA := tC (xT X)) (μ := μ) (js_sh_lt ho (by omega))
  rw [js_ce23 ho] at hw
  obtain ⟨hin, hcl⟩ := js_ax hi0 hi1 (js_sh_small _ _)
  refine va_zast (D := tD (xT X)) (cl := vwCl) h.1 h.2.1 h.2.2.2.2.2.1 hh.1 hh.2.1 hh.2.2.1 o 3 hw rfl hin hd (fun H1 locs1 hP hD hS => hk H1 locs1 ?_)
  rw [hcl] at hP
  rw [js_narZ hz.1 hz.2] at hP
  refine js_hd_u hh ?_ (fun i' hi' j' => js_u_other (fun q => hi' q.1)) (js_can_u hh.2.2.2 (by rw [js_pt23 ho]; exact hz)) hP hS
  rw [js_ce23 ho]
  have ef : (fun j => Int32.ofInt (js_u μ o i.toNat z o j)) = upd (fun j => Int32.ofInt (μ o j)) i.toNat (Int32.ofInt z) := by
    funext j
    unfold upd
    by_cases e : j = i.toNat
    · subst e; rw [js_u_same, if_pos rfl]
    · rw [js_u_other (fun q => e q.2), if_neg e]
  rw [ef]
theorem ok_pa23 {a i e : js_EE} (ha : ok_E κ 0 pc p1 3 a) (hi : ok_E κ (0 + js_ct 3) p1 p2 1 i) (he0 : ok_E κ (0 + js_ct 3 + js_ct 1) p2 p3 1 e) (hd : decode (kC κ) p3 = .ok (.bastore, 1)) (hp : p3 + 1 = pc') : ok_S κ pc pc' (js_pa (kG κ) 23 a i e) := by
  intro X h ρ μ r ρ' μ' ls H locs he hl hh hk hr
  subst hp
  obtain ⟨o, μ1, hea, he⟩ := js_b_some he
  obtain ⟨x, μ2, hei, he⟩ := js_b_some he
  obtain ⟨z, μ3, hez, he⟩ := js_b_some he
  obtain ⟨hc, he⟩ := js_if_some he
  cases he
  simp only [Bool.and_eq_true] at hc
  obtain ⟨hc, hft⟩ := hc
  obtain ⟨hc, ho, hx0, hx1⟩ := js_inS hc
  refine ha X h ρ μ o μ1 ls [] H locs hea hl hh (Nat.le_refl 0) (fun _ H' locs' hh' => ?_)
  refine hi X h ρ μ1 x μ2 ls _ H' locs' hei hl hh' (js_smc (Nat.le_refl 0)) (fun hrx H2 locs2 hh2 => ?_)
  refine he0 X h ρ μ2 z μ3 ls _ H2 locs2 hez hl hh2 (js_smc (js_smc (Nat.le_refl 0))) (fun hz H3 locs3 hh3 => ?_)
  exact js_ast23 h (js_fitS (t := 5) (by omega) hft hz) hd hh3 hc hx0 hx1 (fun H4 locs4 hh4 => hk rfl ls H4 locs4 hl hh4)
theorem ok_oa20 {f : Int → Int → Int} {a i e : js_EE} (ha : ok_E κ 0 pc p1 3 a) (hi : ok_E κ (0 + js_ct 3) p1 p2 1 i) (hdup : decode (kC κ) p2 = .ok (.dup2, 1)) (hp2 : p2 + 1 = p3) (hget : decode (kC κ) p3 = .ok (.iaload, 1)) (he0 : ok_E κ (0 + js_ct 3 + js_ct 1 + js_ct 1) (p3 + 1) p4 1 e) (hop : ok_o2 κ p4 p5 1 1 1 f) (hd : decode (kC κ) p5 = .ok (.iastore, 1)) (hp : p5 + 1 = pc') : ok_S κ pc pc' (js_oa (kG κ) 20 f a i e) := by
  intro X h ρ μ r ρ' μ' ls H locs he hl hh hk hr
  subst hp; subst hp2
  obtain ⟨o, μ1, hea, he⟩ := js_b_some he
  obtain ⟨x, μ2, hei, he⟩ := js_b_some he
  by_cases hc : js_in (kG κ) 20 o x = true
  · rw [if_pos hc] at he
    obtain ⟨z, μ3, hez, he⟩ := js_b_some he
    cases he
    obtain ⟨hc, ho, hx0, hx1⟩ := js_inS hc
    refine ha X h ρ μ o μ1 ls [] H locs hea hl hh (Nat.le_refl 0) (fun _ H' locs' hh' => ?_)
    refine hi X h ρ μ1 x μ2 ls _ H' locs' hei hl hh' (js_smc (Nat.le_refl 0)) (fun hrx H2 locs2 hh2 => ?_)
    refine lv_dup2_11 h.1 h.2.1 hdup rfl rfl ?_
    have hw := js_ws_get (g := kG κ) (ad := tA (xT X)) (dA := tC (xT X)) (μ := μ2) (js_sh_lt hc (by omega))
    rw [js_ce20 hc] at hw
    obtain ⟨hin, hcl⟩ := js_ax hx0 hx1 (js_sh_small _ _)
    refine va_iald (D := tD (xT X)) (cl := vwCl) h.1 h.2.1 h.2.2.2.2.2.1 hh2.1 o.toNat 0 hw rfl hin hget ?_
    rw [hcl]
    have hcan := hh2.2.2.2 o.toNat x.toNat (by rw [js_pt20 hc]; omega) (by rw [js_pt20 hc]; omega)
    rw [js_pt20 hc] at hcan
    refine he0 X h ρ μ2 z μ3 ls _ H2 locs2 hez hl hh2 (js_smc (τ := xT X) (t := 1) (z := μ2 o.toNat x.toNat) (js_smc (js_smc (Nat.le_refl 0)))) (fun hz H3 locs3 hh3 => ?_)
    refine hop X h _ z ls _ H3 locs3 hcan hz (fun hr2 => ?_)
    exact js_ast20 h hr2 hd hh3 hc hx0 hx1 (fun H4 locs4 hh4 => hk rfl ls H4 locs4 hl hh4)
  · rw [if_neg hc] at he; cases he
theorem ok_oa21 {f : Int → Int → Int} {a i e : js_EE} (ha : ok_E κ 0 pc p1 3 a) (hi : ok_E κ (0 + js_ct 3) p1 p2 1 i) (hdup : decode (kC κ) p2 = .ok (.dup2, 1)) (hp2 : p2 + 1 = p3) (hget : decode (kC κ) p3 = .ok (.laload, 1)) (he0 : ok_E κ (0 + js_ct 3 + js_ct 1 + js_ct 2) (p3 + 1) p4 2 e) (hop : ok_o2 κ p4 p5 2 2 2 f) (hd : decode (kC κ) p5 = .ok (.lastore, 1)) (hp : p5 + 1 = pc') : ok_S κ pc pc' (js_oa (kG κ) 21 f a i e) := by
  intro X h ρ μ r ρ' μ' ls H locs he hl hh hk hr
  subst hp; subst hp2
  obtain ⟨o, μ1, hea, he⟩ := js_b_some he
  obtain ⟨x, μ2, hei, he⟩ := js_b_some he
  by_cases hc : js_in (kG κ) 21 o x = true
  · rw [if_pos hc] at he
    obtain ⟨z, μ3, hez, he⟩ := js_b_some he
    cases he
    obtain ⟨hc, ho, hx0, hx1⟩ := js_inS hc
    refine ha X h ρ μ o μ1 ls [] H locs hea hl hh (Nat.le_refl 0) (fun _ H' locs' hh' => ?_)
    refine hi X h ρ μ1 x μ2 ls _ H' locs' hei hl hh' (js_smc (Nat.le_refl 0)) (fun hrx H2 locs2 hh2 => ?_)
    refine lv_dup2_11 h.1 h.2.1 hdup rfl rfl ?_
    have hw := js_ws_get (g := kG κ) (ad := tA (xT X)) (dA := tC (xT X)) (μ := μ2) (js_sh_lt hc (by omega))
    rw [js_ce21 hc] at hw
    obtain ⟨hin, hcl⟩ := js_ax hx0 hx1 (js_sh_small _ _)
    refine va_lald (D := tD (xT X)) (cl := vwCl) h.1 h.2.1 h.2.2.2.2.2.1 hh2.1 o.toNat 1 hw rfl hin hget ?_
    rw [hcl]
    have hcan := hh2.2.2.2 o.toNat x.toNat (by rw [js_pt21 hc]; omega) (by rw [js_pt21 hc]; omega)
    rw [js_pt21 hc] at hcan
    refine he0 X h ρ μ2 z μ3 ls _ H2 locs2 hez hl hh2 (js_smc (τ := xT X) (t := 2) (z := μ2 o.toNat x.toNat) (js_smc (js_smc (Nat.le_refl 0)))) (fun hz H3 locs3 hh3 => ?_)
    refine hop X h _ z ls _ H3 locs3 hcan hz (fun hr2 => ?_)
    exact js_ast21 h hr2 hd hh3 hc hx0 hx1 (fun H4 locs4 hh4 => hk rfl ls H4 locs4 hl hh4)
  · rw [if_neg hc] at he; cases he
/-! arraycopy -/
theorem ok_cy {idx : Nat} {a sp b dp n : js_EE} (hA : ok_A κ 0 pc p1 [3, 1, 3, 1, 1] [a, sp, b, dp, n]) (hd : decode (kC κ) p1 = .ok (.invokestatic idx, 3)) (hp : p1 + 3 = pc') (hl0 : Cond.methodLink (kO κ) idx arraycopyName ∈ js_tb) (hw : Cond.native arraycopyName ∈ js_tb ∧ Cond.static arraycopyName ∈ js_tb ∧ Cond.initialized "java/lang/System" ∈ js_tb) (hR : Nat.ble 1 (kR κ) = true) : ok_S κ pc pc' (js_ac (kG κ) a sp b dp n) := by
  have hR := Nat.ble_eq.mp hR
  intro X h ρ μ r ρ' μ' ls H locs he hl hh hk hr
  subst hp
  obtain ⟨zs, μ1, hes, he⟩ := js_bl_some he
  refine hA X h ρ μ zs μ1 ls [] H locs hes hl hh (Nat.le_refl 0) (fun hag H' locs' hh' => ?_)
  match zs, hag, he with
  | [za, zsp, zb, zdp, zn], hag, he =>
    obtain ⟨hc, he⟩ := js_if_some he
    cases he
    simp only [Bool.and_eq_true, decide_eq_true_eq] at hc
    obtain ⟨⟨⟨⟨⟨⟨ca, cb⟩, c1⟩, c2⟩, c3⟩, c4⟩, c5⟩ := hc
    obtain ⟨ca, ca0⟩ := js_isS ca
    obtain ⟨cb, cb0⟩ := js_isS cb
    have s1 := js_sh_small (kG κ) za.toNat
    have s2 := js_sh_small (kG κ) zb.toNat
    have e1 : (Int32.ofInt zsp).toInt = zsp := js_i32 hag.2.1
    have e2 : (Int32.ofInt zdp).toInt = zdp := js_i32 hag.2.2.2.1
    have e3 : (Int32.ofInt zn).toInt = zn := js_i32 hag.2.2.2.2.1
    have f1 : (Int32.ofInt zsp).toNatClampNeg = zsp.toNat := by show (Int32.ofInt zsp).toInt.toNat = _; rw [e1]
    have f2 : (Int32.ofInt zdp).toNatClampNeg = zdp.toNat := by show (Int32.ofInt zdp).toInt.toNat = _; rw [e2]
    have f3 : (Int32.ofInt zn).toNatClampNeg = zn.toNat := by show (Int32.ofInt zn).toInt.toNat = _; rw [e3]
    have n1 : ¬ Int32.ofInt zsp < 0 := fun q => by rw [Int32.lt_iff_toInt_lt, e1] at q; exact absurd q (by show ¬ zsp < 0; omega)
    have n2 : ¬ Int32.ofInt zdp < 0 := fun q => by rw [Int32.lt_iff_toInt_lt, e2] at q; exact absurd q (by show ¬ zdp < 0; omega)
    have n3 : ¬ Int32.ofInt zn < 0 := fun q => by rw [Int32.lt_iff_toInt_lt, e3] at q; exact absurd q (by show ¬ zn < 0; omega)
    have hwa := js_ws_get (g := kG κ) (ad := tA (xT X)) (dA := tC (xT X)) (μ := μ1) (js_sh_lt ca (by omega))
    have hwb := js_ws_get (g := kG κ) (ad := tA (xT X)) (dA := tC (xT X)) (μ := μ1) (js_sh_lt cb (by omega))
    rw [js_ce20 ca] at hwa
    rw [js_ce20 cb] at hwb
    refine va_copyi (D := tD (xT X)) (cl := vwCl) (rest := []) h.1 h.2.1 (by rw [hl.1]; exact h.2.2.1) h.2.2.2.1 (h.2.2.2.2.1 _ hl0) (h.2.2.2.2.1 _ hw.1) (h.2.2.2.2.1 _ hw.2.1) (h.2.2.2.2.1 _ hw.2.2) h.2.2.2.2.2.1 hh'.1 hh'.2.1 hh'.2.2.1 za.toNat zb.toNat 0 0 hwa hwb rfl rfl rfl n1 n2 n3 (by rw [f1, f3]; omega) (by rw [f2, f3]; omega) (fun i _ => rfl) hR ?_ hd (fun H1 locs1 hP hD hS => hk rfl ls H1 locs1 hl ?_)
    · show 0 + (7 + 11) ≤ 36 * kR κ
      omega
    · rw [f1, f2, f3] at hP
      refine js_hd_u hh' ?_ (fun i hi j => ?_) ?_ hP hS
      · rw [js_ce20 cb]
        have ef : (fun j => Int32.ofInt (js_uc μ1 zb.toNat (js_cpf (μ1 za.toNat) (μ1 zb.toNat) zsp.toNat zdp.toNat zn.toNat) zb.toNat j)) = va_cpy (fun j => Int32.ofInt (μ1 za.toNat j)) (fun j => Int32.ofInt (μ1 zb.toNat j)) zsp.toNat zdp.toNat zn.toNat := by
          funext j
          unfold js_uc js_cpf va_cpy
          rw [if_pos rfl]
          by_cases q : zdp.toNat ≤ j ∧ j < zdp.toNat + zn.toNat
          · rw [if_pos q, if_pos q]
          · rw [if_neg q, if_neg q]
        rw [ef]
      · unfold js_uc; rw [if_neg hi]
      · intro k' j' h3 h0
        unfold js_uc
        by_cases e : k' = zb.toNat
        · subst e
          rw [if_pos rfl, js_pt20 cb]
          unfold js_cpf
          by_cases q : zdp.toNat ≤ j' ∧ j' < zdp.toNat + zn.toNat
          · rw [if_pos q]
            have := hh'.2.2.2 za.toNat (zsp.toNat + (j' - zdp.toNat)) (by rw [js_pt20 ca]; decide) (by rw [js_pt20 ca]; decide)
            rw [js_pt20 ca] at this
            exact this
          · rw [if_neg q]
            have := hh'.2.2.2 zb.toNat j' (by rw [js_pt20 cb]; decide) (by rw [js_pt20 cb]; decide)
            rw [js_pt20 cb] at this
            exact this
        · rw [if_neg e]; exact hh'.2.2.2 k' j' h3 h0
/-! switches -/
def ok_ca1 (κ : js_Ks) (p1 pc' : Nat) : Int → List Int → List (Int × js_SS) → Prop
  | _, [], [] => True
  | lo, off :: offs, (v, s) :: vs => v = lo ∧ (∃ tgt : Nat, (p1 : Int) + off = (tgt : Int) ∧ ok_S κ tgt pc' s) ∧ ok_ca1 κ p1 pc' (lo + 1) offs vs
  | _, _, _ => False
theorem js_swt {κ : js_Ks} {p1 pc' : Nat} {d : js_SS} {z : Int} : ∀ (lo : Int) (offs : List Int) (vs : List (Int × js_SS)), ok_ca1 κ p1 pc' lo offs vs → (¬ (lo ≤ z ∧ z < lo + offs.length) ∧ js_pk d z vs = d) ∨ (lo ≤ z ∧ ∃ off, offs[(z - lo).toNat]? = some off ∧ (z - lo).toNat < offs.length ∧ ∃ tgt : Nat, (p1 : Int) + off = (tgt : Int) ∧ ok_S κ tgt pc' (js_pk d z vs))
  | lo, [], [], _ => Or.inl ⟨fun q => by have q1 := q.1; have q2 := q.2; simp only [List.length_nil] at q2; omega, rfl⟩
  | _, [], _ :: _, h => h.elim
  | _, _ :: _, [], h => h.elim
  | lo, off :: offs, (v, s) :: vs, h => by
    obtain ⟨rfl, ⟨tgt, h1, h2⟩, h3⟩ := h
    by_cases e : z = v
    · right
      refine ⟨by omega, off, ?_, ?_, tgt, h1, ?_⟩
      · have : (z - v).toNat = 0 := by omega
        rw [this]; rfl
      · simp; omega
      · unfold js_pk; rw [if_pos e]; exact h2
    · have ep : js_pk d z ((v, s) :: vs) = js_pk d z vs := by rw [js_pk, if_neg e]
      rw [ep]
      rcases js_swt (v + 1) offs vs h3 with ⟨g1, g2⟩ | ⟨g1, off2, g2, g3, g4⟩
      · left
        refine ⟨fun q => g1 ?_, g2⟩
        simp only [List.length_cons] at q
        omega
      · right
        have e2 : (z - v).toNat = (z - (v + 1)).toNat + 1 := by omega
        refine ⟨by omega, off2, ?_, ?_, g4⟩
        · rw [e2]; exact g2
        · rw [e2]; simp; omega
theorem ok_sw {dflt lo hi : Int} {offs : Array Int} {len : Nat} {e : js_EE} {vs : List (Int × js_SS)} {d : js_SS} (he0 : ok_E κ 0 pc p1 1 e) (hd : decode (kC κ) p1 = .ok (.tableswitch dflt lo hi offs, len)) (hc : ok_ca1 κ p1 pc' lo offs.toList vs) (hhi : lo + (offs.toList.length : Int) = hi + 1) (ht : (p1 : Int) + dflt = (p2 : Int)) (hdf : ok_S κ p2 pc' d) : ok_S κ pc pc' (js_sw e vs d) := by
  intro X h ρ μ r ρ' μ' ls H locs he hl hh hk hr
  obtain ⟨z, μ1, hez, he⟩ := js_b_some he
  refine he0 X h ρ μ z μ1 ls [] H locs hez hl hh (Nat.le_refl 0) (fun hz H' locs' hh' => ?_)
  have ez : (Int32.ofInt z).toInt = z := js_i32 hz
  rcases js_swt (d := d) (z := z) lo offs.toList vs hc with ⟨g1, g2⟩ | ⟨g1, off, g2, g3, tgt, g4, g5⟩
  · refine lv_tableOut h.1 h.2.1 hd (by rw [ez]; omega) ht ?_
    rw [g2] at he
    exact hdf X h ρ μ1 r ρ' μ' ls H' locs' he hl hh' hk hr
  · refine lv_tableIn h.1 h.2.1 hd (by rw [ez]; omega) (by rw [ez]; omega) (off := off) (by rw [ez, ← Array.getElem?_toList]; exact g2) g4 ?_
    exact g5 X h ρ μ1 r ρ' μ' ls H' locs' he hl hh' hk hr
/-- a switch of the two cases 0, 1 by a lookup -/
theorem ok_lk {dflt o0 o1 : Int} {len t0 t1 : Nat} {e : js_EE} {s0 s1 d : js_SS} (he0 : ok_E κ 0 pc p1 1 e) (hd : decode (kC κ) p1 = .ok (.lookupswitch dflt #[(0, o0), (1, o1)], len)) (h0 : (p1 : Int) + o0 = (t0 : Int)) (h1 : (p1 : Int) + o1 = (t1 : Int)) (ht : (p1 : Int) + dflt = (p2 : Int)) (hs0 : ok_S κ t0 pc' s0) (hs1 : ok_S κ t1 pc' s1) (hdf : ok_S κ p2 pc' d) : ok_S κ pc pc' (js_sw e [(0, s0), (1, s1)] d) := by
  intro X h ρ μ r ρ' μ' ls H locs he hl hh hk hr
  obtain ⟨z, μ1, hez, he⟩ := js_b_some he
  refine he0 X h ρ μ z μ1 ls [] H locs hez hl hh (Nat.le_refl 0) (fun hz H' locs' hh' => ?_)
  have ez : (Int32.ofInt z).toInt = z := js_i32 hz
  by_cases z0 : z = 0
  · subst z0
    refine lv_lookup h.1 h.2.1 hd rfl (off := o0) (by rw [ez]; rfl) h0 ?_
    exact hs0 X h ρ μ1 r ρ' μ' ls H' locs' he hl hh' hk hr
  · by_cases z1 : z = 1
    · subst z1
      refine lv_lookup h.1 h.2.1 hd rfl (off := o1) (by rw [ez]; rfl) h1 ?_
      exact hs1 X h ρ μ1 r ρ' μ' ls H' locs' he hl hh' hk hr
    · refine lv_lookup h.1 h.2.1 hd rfl (off := dflt) (by rw [ez]; simp [Op.lookupswitch.offset, z0, z1]; omega) ht ?_
      have ep : js_pk d z [(0, s0), (1, s1)] = d := by simp [js_pk, z0, z1]
      rw [ep] at he
      exact hdf X h ρ μ1 r ρ' μ' ls H' locs' he hl hh' hk hr
end
