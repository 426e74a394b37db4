section
/-! ===== a method's contract out of its body ===== -/
def js_wd : List Nat → Nat
  | [] => 0
  | t :: ts => js_ct t + js_wd ts
theorem js_arl (g : Nat) : ∀ (ts : List Nat) (zs : List Int), js_ag g ts zs → (js_ar ts zs).length = js_wd ts
  | [], [], _ => rfl
  | [], _ :: _, h => h.elim
  | _ :: _, [], h => h.elim
  | t :: ts, z :: zs, h => by
    have ih := js_arl g ts zs h.2
    by_cases e : t = 2
    · subst e
      simp [js_ar, js_wd, js_ct, ih]; omega
    · simp [js_ar, js_wd, js_ct, ih, e]; omega
theorem js_sll (τ : js_Tb) (g : Nat) : ∀ (ts : List Nat) (zs : List Int), js_ag g ts zs → (lg_sl (js_vs τ ts zs)).length = js_wd ts
  | [], [], _ => rfl
  | [], _ :: _, h => h.elim
  | _ :: _, [], h => h.elim
  | t :: ts, z :: zs, h => by
    have ih := js_sll τ g ts zs h.2
    have ec : lg_sl (js_vs τ (t :: ts) (z :: zs)) = (if (js_val τ t z).category = 2 then [Slot.val (js_val τ t z), Slot.second] else [Slot.val (js_val τ t z)]) ++ lg_sl (js_vs τ ts zs) := by simp [lg_sl, js_vs]
    rw [ec, js_vcat, List.length_append, ih]
    show _ = js_ct t + js_wd ts
    by_cases e : js_ct t = 2
    · rw [if_pos e, e]; rfl
    · rw [if_neg e]
      have : js_ct t = 1 := by unfold js_ct at *; by_cases q : t = 2 <;> simp [q] at *
      rw [this]; rfl
theorem js_arg {τ : js_Tb} {g : Nat} : ∀ (ts : List Nat) (zs : List Int) (base i t : Nat) (z : Int), js_ag g ts zs → (js_ar ts zs)[i]? = some (t, z) → t ≠ 0 → js_rg g t z ∧ (base + i, js_val τ t z) ∈ lv_args base (js_vs τ ts zs)
  | [], [], _, _, _, _, _, h, _ => by cases h
  | [], _ :: _, _, _, _, _, h, _, _ => h.elim
  | _ :: _, [], _, _, _, _, h, _, _ => h.elim
  | t0 :: ts, z0 :: zs, base, i, t, z, hg, h, ht => by
    have hcat := js_vcat τ t0 z0
    unfold js_vs lv_args
    by_cases e : t0 = 2
    · subst e
      have h' : ((2, z0) :: (0, 0) :: js_ar ts zs)[i]? = some (t, z) := by simpa [js_ar] using h
      rw [if_pos (by rw [hcat]; rfl)]
      match i, h' with
      | 0, h' => cases h'; exact ⟨hg.1, List.mem_cons_self⟩
      | 1, h' => cases h'; exact absurd rfl ht
      | i + 2, h' =>
        obtain ⟨r1, r2⟩ := js_arg (τ := τ) ts zs (base + 2) i t z hg.2 h' ht
        have eb : base + 2 + i = base + (i + 2) := by omega
        rw [eb] at r2
        exact ⟨r1, List.mem_cons_of_mem _ r2⟩
    · have h' : ((t0, z0) :: js_ar ts zs)[i]? = some (t, z) := by simpa [js_ar, e] using h
      rw [if_neg (by rw [hcat]; unfold js_ct; rw [if_neg e]; decide)]
      match i, h' with
      | 0, h' => cases h'; exact ⟨hg.1, List.mem_cons_self⟩
      | i + 1, h' =>
        obtain ⟨r1, r2⟩ := js_arg (τ := τ) ts zs (base + 1) i t z hg.2 h' ht
        have eb : base + 1 + i = base + (i + 1) := by omega
        rw [eb] at r2
        exact ⟨r1, List.mem_cons_of_mem _ r2⟩
theorem js_entry {κ : js_Ks} {X : js_Cx} {ts : List Nat} {zs : List Int} {ls : Array Slot} (hag : js_ag (kG κ) ts zs) (hw : js_wd ts ≤ kN κ) (hl : lv_has ls (kN κ) (lv_args 0 (js_vs (xT X) ts zs))) : js_lv κ X (js_ev ts zs (kN κ)) ls := by
  have hlen := js_arl (kG κ) ts zs hag
  refine ⟨hl.1, hl.2.1, by simp [js_ev]; omega, fun i t z e ht => ?_⟩
  unfold js_ev at e
  rw [List.getElem?_append] at e
  by_cases hi : i < (js_ar ts zs).length
  · rw [if_pos hi] at e
    obtain ⟨r1, r2⟩ := js_arg (τ := xT X) ts zs 0 i t z hag e ht
    rw [Nat.zero_add] at r2
    exact ⟨r1, hl.2.2 _ r2⟩
  · rw [if_neg hi, List.getElem?_replicate] at e
    by_cases hx : i - (js_ar ts zs).length < kN κ - (js_ar ts zs).length
    · rw [if_pos hx] at e; cases e; exact absurd rfl ht
    · rw [if_neg hx] at e; cases e
theorem js_me_some {ts : List Nat} {nL tr : Nat} {body : js_SS} {zs : List Int} {μ μ' : js_Mm} {v : Int} (h : js_me ts nL tr body zs μ = some (v, μ')) : (∃ ρ', body (js_ev ts zs nL) μ = some (some v, ρ', μ')) ∧ js_fit tr v = true := by
  unfold js_me at h
  cases hb : body (js_ev ts zs nL) μ with
  | none => rw [hb] at h; cases h
  | some q =>
    obtain ⟨a, ρ', w⟩ := q
    rw [hb] at h
    cases a with
    | none => cases h
    | some v' =>
      obtain ⟨h1, h2⟩ := js_if_some h
      cases h2
      exact ⟨⟨ρ', rfl⟩, h1⟩
def js_rt0 (κ : js_Ks) (ret : Option FieldType) : Prop := (kT κ = 0 ∧ ret = none) ∨ (kT κ = 1 ∧ ret = some .int) ∨ (kT κ = 5 ∧ ret = some .boolean)
theorem ok_M {y : MethodName} {κ : js_Ks} {ret : Option FieldType} {ts : List Nat} {body : js_SS} {n pcE : Nat} (hy : js_yi y κ ret n) (hS : ok_S κ 0 pcE body) (hret : js_rt0 κ ret) (hO : kO κ = y.cls) (hw : Nat.ble (js_wd ts) (kN κ) = true) : js_Me y κ ret ts (js_me ts (kN κ) (kT κ) body) := by
  have hw := Nat.ble_eq.mp hw
  intro l τ zs μ v μ' sz hF hcan hag
  obtain ⟨⟨ρ', hF⟩, hfit⟩ := js_me_some hF
  refine Met.ofW (cc := kC κ) (maxL := kN κ) (ret := ret) hy.2.2.2.2.2.1 rfl ?_
  intro p e s m args below meth c s₁ B hml hv
  obtain ⟨rfl, hsz, hP, hK, hD0, hsg⟩ := hv
  subst hsz
  have hts : ∀ w ∈ js_tb, w.before _ s = true := fun w hw => atoms_spec (ws := .code y (kC κ) (kN κ) ret :: js_tb) B.pre w (List.mem_cons_of_mem _ hw)
  have hown : s.vm.findClass (kO κ) = some m.cls := by rw [hO]; exact findClass_of_methodNamed B.named
  have hlocks := B.notSynchronized
  have hr := B.returns
  rw [lg_entry_eq]
  have hl := lv_entry (js_vs τ ts zs) (n := kN κ) (by rw [js_sll τ (kG κ) ts zs hag]; exact hw)
  generalize (lg_sl (js_vs τ ts zs) ++ List.replicate (kN κ - (lg_sl (js_vs τ ts zs)).length) Slot.unset).toArray = ls at hl ⊢
  have hD : va_D (js_Ax (kG κ) (tA τ) s.heap.size) (js_ws (kG κ) (tA τ) (tC τ) μ) := js_Dm hD0 (fun k hk _ => Or.inl ⟨k, hk, rfl⟩)
  let X : js_Cx := (p, l, e, s, m, (js_vs τ ts zs).toArray, below, meth, c, MQ below (js_Q κ τ μ' v s.heap.size) (js_vs τ ts zs).toArray s 0 0 (js_Ax (kG κ) (tA τ) s.heap.size), τ, v, μ')
  have hen : js_en κ X := by
    intro H locs pc ls hh
    have hF0 : ∀ t : State, t.heap = H → va_F (js_Ax (kG κ) (tA τ) s.heap.size) s t := fun t ht => hh.2.2.1.F ht
    refine ⟨fun hT hrg hd => ?_, fun hT hd => ?_⟩
    · rcases hret with ⟨h0, _⟩ | ⟨h1, rfl⟩ | ⟨h5, rfl⟩
      · exact absurd h0 hT
      · refine W.iret (p := p) B.exec B.bytes hr (fun t ht hW => ?_) hh.2.2.1.2.2 hd
        rw [js_Q, if_neg hT]
        exact ⟨⟨_, (), rfl, ⟨rfl, hrg⟩, by rw [ht]; exact hh.1, hh.2.2.2⟩, hF0 t ht⟩
      · rw [h5] at hfit
        have hz := js_fitS (g := kG κ) (t := 5) (by omega) hfit hrg
        have h3 : v = 0 ∨ v = 1 := by have h1 := hz.1; have h2 := hz.2; omega
        refine W.zret (p := p) (ty := .boolean) B.exec B.bytes hr (by show narrow .boolean (.int (Int32.ofInt v)) = .int (Int32.ofInt v); rcases h3 with rfl | rfl <;> decide) (fun t ht hW => ?_) hh.2.2.1.2.2 hd
        rw [js_Q, if_neg hT]
        exact ⟨⟨_, (), rfl, ⟨rfl, hrg⟩, by rw [ht]; exact hh.1, hh.2.2.2⟩, hF0 t ht⟩
    · rcases hret with ⟨h0, rfl⟩ | ⟨h1, rfl⟩ | ⟨h5, rfl⟩
      · refine W.vret (p := p) B.exec B.bytes hr (fun t ht hW => ?_) hh.2.2.1.2.2 hd
        rw [js_Q, if_pos hT]
        exact ⟨⟨(), rfl, trivial, by rw [ht]; exact hh.1, hh.2.2.2⟩, hF0 t ht⟩
      · omega
      · omega
  have hok : js_ok κ X := ⟨B.exec, B.bytes, hml, hown, hts, hK, hsg, hen⟩
  exact hS X hok (js_ev ts zs (kN κ)) μ (some v) ρ' μ' ls s.heap [] hF (js_entry hag hw hl) ⟨hP, hD, va_S.rf, hcan⟩ (fun q => by cases q) (fun v' q => by cases q; exact ⟨rfl, rfl⟩)
end
