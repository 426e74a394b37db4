section
theorem js_gi {ρ : js_Ev} {i t : Nat} (h : (js_g ρ i).1 = t) (ht : t ≠ 0) : ρ[i]? = some (t, (js_g ρ i).2) := by
  unfold js_g at *
  rw [List.getD_eq_getElem?_getD] at *
  cases hk : ρ[i]? with
  | none => rw [hk] at h; exact absurd h.symm ht
  | some x => rw [hk] at h; obtain ⟨a, b⟩ := x; simp only [Option.getD_some] at *; rw [h]
theorem js_v1 (τ : js_Tb) (z : Int) : js_val τ 1 z = .int (Int32.ofInt z) := rfl
theorem js_v2 (τ : js_Tb) (z : Int) : js_val τ 2 z = .long (Int64.ofInt z) := rfl
theorem js_v3 (τ : js_Tb) (z : Int) : js_val τ 3 z = .ref (tA τ z.toNat) := rfl
theorem js_v4 (τ : js_Tb) (z : Int) : js_val τ 4 z = .ref (tK τ z.toNat) := rfl
theorem js_vcat (τ : js_Tb) (t : Nat) (z : Int) : (js_val τ t z).category = js_ct t := by
  unfold js_val js_ct
  by_cases h3 : t = 3
  · subst h3; rfl
  · by_cases h2 : t = 2
    · subst h2; rfl
    · by_cases h4 : t = 4
      · subst h4; rfl
      · simp [h3, h2, h4, Value.category]
theorem js_smc {k t : Nat} {τ : js_Tb} {z : Int} {st : List Value} (h : js_sm k st) : js_sm (k + js_ct t) (js_val τ t z :: st) := by
  unfold js_sm at *
  simp only [List.map_cons, List.sum_cons]
  rw [js_vcat]
  omega
theorem js_oi (x : Int32) : Int32.ofInt x.toInt = x := Int32.ofInt_toInt x
theorem js_ol (x : Int64) : Int64.ofInt x.toInt = x := Int64.ofInt_toInt x
variable {κ : js_Ks} {k pc pc' p1 p2 : Nat}
theorem ok_ic {n : Int} (hd : decode (kC κ) pc = .ok (.iconst n, 1)) (hp : pc + 1 = pc') (hn : (decide (-2147483648 ≤ n) && decide (n < 2147483648)) = true) : ok_E κ k pc pc' 1 (js_k n) := by
  intro X h ρ μ z μ' ls st H locs he hl hh hs hk
  subst hp; cases he
  simp only [Bool.and_eq_true, decide_eq_true_eq] at hn
  exact lv_iconst h.1 h.2.1 hd rfl (hk hn H locs hh)
theorem js_i8 {n : Int} (h1 : -128 ≤ n) (h2 : n < 128) : (Int8.ofInt n).toInt32 = Int32.ofInt n := by
  apply Int32.toInt.inj
  rw [js_i32 (by omega), Int8.toInt_toInt32, Int8.toInt_ofInt]
  show n.bmod 256 = n
  exact Int.bmod_eq_of_le (by omega) (by omega)
theorem js_i16 {n : Int} (h1 : -32768 ≤ n) (h2 : n < 32768) : (Int16.ofInt n).toInt32 = Int32.ofInt n := by
  apply Int32.toInt.inj
  rw [js_i32 (by omega), Int16.toInt_toInt32, Int16.toInt_ofInt]
  show n.bmod 65536 = n
  exact Int.bmod_eq_of_le (by omega) (by omega)
theorem ok_bp {n : Int} (hd : decode (kC κ) pc = .ok (.bipush n, 2)) (hp : pc + 2 = pc') (hn : (decide (-128 ≤ n) && decide (n < 128)) = true) : ok_E κ k pc pc' 1 (js_k n) := by
  intro X h ρ μ z μ' ls st H locs he hl hh hs hk
  subst hp; cases he
  simp only [Bool.and_eq_true, decide_eq_true_eq] at hn
  exact lv_bipush h.1 h.2.1 hd (js_i8 hn.1 hn.2) (hk ⟨by omega, by omega⟩ H locs hh)
theorem ok_sp {n : Int} (hd : decode (kC κ) pc = .ok (.sipush n, 3)) (hp : pc + 3 = pc') (hn : (decide (-32768 ≤ n) && decide (n < 32768)) = true) : ok_E κ k pc pc' 1 (js_k n) := by
  intro X h ρ μ z μ' ls st H locs he hl hh hs hk
  subst hp; cases he
  simp only [Bool.and_eq_true, decide_eq_true_eq] at hn
  exact lv_sipush h.1 h.2.1 hd (js_i16 hn.1 hn.2) (hk ⟨by omega, by omega⟩ H locs hh)
theorem ok_ld {n : Int} {idx : Nat} (hd : decode (kC κ) pc = .ok (.ldc idx, 2)) (hp : pc + 2 = pc') (hw : Cond.constant (kO κ) idx (Int32.ofInt n) ∈ js_tb) (hn : (decide (-2147483648 ≤ n) && decide (n < 2147483648)) = true) : ok_E κ k pc pc' 1 (js_k n) := by
  intro X h ρ μ z μ' ls st H locs he hl hh hs hk
  subst hp; cases he
  simp only [Bool.and_eq_true, decide_eq_true_eq] at hn
  exact lv_ldc h.1 h.2.1 h.2.2.2.1 (h.2.2.2.2.1 _ hw) hd (hk hn H locs hh)
theorem ok_ldw {n : Int} {idx : Nat} (hd : decode (kC κ) pc = .ok (.ldc_w idx, 3)) (hp : pc + 3 = pc') (hw : Cond.constant (kO κ) idx (Int32.ofInt n) ∈ js_tb) (hn : (decide (-2147483648 ≤ n) && decide (n < 2147483648)) = true) : ok_E κ k pc pc' 1 (js_k n) := by
  intro X h ρ μ z μ' ls st H locs he hl hh hs hk
  subst hp; cases he
  simp only [Bool.and_eq_true, decide_eq_true_eq] at hn
  exact lv_ldcw h.1 h.2.1 h.2.2.2.1 (h.2.2.2.2.1 _ hw) hd (hk hn H locs hh)
theorem ok_lc {n : Fin 2} {m : Int} (hd : decode (kC κ) pc = .ok (.lconst n, 1)) (hp : pc + 1 = pc') (hm : ((n : Nat) : Int) = m) : ok_E κ k pc pc' 2 (js_k m) := by
  intro X h ρ μ z μ' ls st H locs he hl hh hs hk
  subst hp; cases he
  subst hm
  refine lv_lconst h.1 h.2.1 hd (v := Int64.ofInt ((n : Nat) : Int)) rfl (hk ?_ H locs hh)
  have := n.isLt
  exact ⟨by omega, by omega⟩
theorem ok_l2 {n : Int} {idx : Nat} (hd : decode (kC κ) pc = .ok (.ldc2_w idx, 3)) (hp : pc + 3 = pc') (hw : Cond.constantLong (kO κ) idx (Int64.ofInt n) ∈ js_tb) (hn : (decide (-9223372036854775808 ≤ n) && decide (n < 9223372036854775808)) = true) : ok_E κ k pc pc' 2 (js_k n) := by
  intro X h ρ μ z μ' ls st H locs he hl hh hs hk
  subst hp; cases he
  simp only [Bool.and_eq_true, decide_eq_true_eq] at hn
  exact lv_ldc2 h.1 h.2.1 h.2.2.2.1 (h.2.2.2.2.1 _ hw) hd (hk hn H locs hh)
theorem ok_lds {i idx : Nat} {tx : String} (hd : decode (kC κ) pc = .ok (.ldc idx, 2)) (hp : pc + 2 = pc') (hi : js_so[i]? = some (kO κ, idx, tx)) (h9 : i < 9) : ok_E κ k pc pc' 4 (js_k (i : Int)) := by
  intro X h ρ μ z μ' ls st H locs he hl hh hs hk
  subst hp; cases he
  exact va_ldcS h.1 h.2.1 h.2.2.2.1 (h.2.2.2.2.2.2.1.2.1 i _ hi) hd (hk ⟨by omega, by omega⟩ H locs hh)
theorem js_loc {X : js_Cx} {ρ : js_Ev} {ls : Array Slot} {t i : Nat} {z : Int} {μ μ' : js_Mm} (hl : js_lv κ X ρ ls) (ht : t ≠ 0) (he : js_l t i ρ μ = some (z, μ')) : μ' = μ ∧ js_rg (kG κ) t z ∧ ls[i]? = some (Slot.val (js_val (xT X) t z)) := by
  unfold js_l at he
  by_cases h : (js_g ρ i).1 = t
  · rw [if_pos h] at he
    cases he
    obtain ⟨h1, h2⟩ := hl.2.2.2 i t _ (js_gi h ht) ht
    exact ⟨rfl, h1, h2⟩
  · rw [if_neg h] at he; cases he
theorem ok_iln {j : Fin 4} {i : Nat} (hd : decode (kC κ) pc = .ok (.iload_n j, 1)) (hp : pc + 1 = pc') (hi : (j : Nat) = i) : ok_E κ k pc pc' 1 (js_l 1 i) := by
  intro X h ρ μ z μ' ls st H locs he hl hh hs hk
  subst hp
  obtain ⟨rfl, h1, h2⟩ := js_loc hl (by decide) he
  exact lv_iload_n h.1 h.2.1 hd hi h2 (hk h1 H locs hh)
theorem ok_il {i : Nat} (hd : decode (kC κ) pc = .ok (.iload i, 2)) (hp : pc + 2 = pc') : ok_E κ k pc pc' 1 (js_l 1 i) := by
  intro X h ρ μ z μ' ls st H locs he hl hh hs hk
  subst hp
  obtain ⟨rfl, h1, h2⟩ := js_loc hl (by decide) he
  exact lv_iload h.1 h.2.1 hd h2 (hk h1 H locs hh)
theorem ok_lln {j : Fin 4} {i : Nat} (hd : decode (kC κ) pc = .ok (.lload_n j, 1)) (hp : pc + 1 = pc') (hi : (j : Nat) = i) : ok_E κ k pc pc' 2 (js_l 2 i) := by
  intro X h ρ μ z μ' ls st H locs he hl hh hs hk
  subst hp
  obtain ⟨rfl, h1, h2⟩ := js_loc hl (by decide) he
  exact lv_lload_n h.1 h.2.1 hd hi h2 (hk h1 H locs hh)
theorem ok_ll {i : Nat} (hd : decode (kC κ) pc = .ok (.lload i, 2)) (hp : pc + 2 = pc') : ok_E κ k pc pc' 2 (js_l 2 i) := by
  intro X h ρ μ z μ' ls st H locs he hl hh hs hk
  subst hp
  obtain ⟨rfl, h1, h2⟩ := js_loc hl (by decide) he
  exact lv_lload h.1 h.2.1 hd h2 (hk h1 H locs hh)
theorem ok_aln {j : Fin 4} {i : Nat} (hd : decode (kC κ) pc = .ok (.aload_n j, 1)) (hp : pc + 1 = pc') (hi : (j : Nat) = i) : ok_E κ k pc pc' 3 (js_l 3 i) := by
  intro X h ρ μ z μ' ls st H locs he hl hh hs hk
  subst hp
  obtain ⟨rfl, h1, h2⟩ := js_loc hl (by decide) he
  exact lv_aload_n h.1 h.2.1 hd hi h2 (hk h1 H locs hh)
theorem ok_al {i : Nat} (hd : decode (kC κ) pc = .ok (.aload i, 2)) (hp : pc + 2 = pc') : ok_E κ k pc pc' 3 (js_l 3 i) := by
  intro X h ρ μ z μ' ls st H locs he hl hh hs hk
  subst hp
  obtain ⟨rfl, h1, h2⟩ := js_loc hl (by decide) he
  exact lv_aload h.1 h.2.1 hd h2 (hk h1 H locs hh)
theorem ok_sln {j : Fin 4} {i : Nat} (hd : decode (kC κ) pc = .ok (.aload_n j, 1)) (hp : pc + 1 = pc') (hi : (j : Nat) = i) : ok_E κ k pc pc' 4 (js_l 4 i) := by
  intro X h ρ μ z μ' ls st H locs he hl hh hs hk
  subst hp
  obtain ⟨rfl, h1, h2⟩ := js_loc hl (by decide) he
  exact lv_aload_n h.1 h.2.1 hd hi h2 (hk h1 H locs hh)
theorem ok_sl {i : Nat} (hd : decode (kC κ) pc = .ok (.aload i, 2)) (hp : pc + 2 = pc') : ok_E κ k pc pc' 4 (js_l 4 i) := by
  intro X h ρ μ z μ' ls st H locs he hl hh hs hk
  subst hp
  obtain ⟨rfl, h1, h2⟩ := js_loc hl (by decide) he
  exact lv_aload h.1 h.2.1 hd h2 (hk h1 H locs hh)
/-! operations -/
def ok_o1 (κ : js_Ks) (p2 pc' ta t : Nat) (f : Int → Int) : Prop := ∀ X, js_ok κ X → ∀ x ls st H locs, js_rg (kG κ) ta x → (js_rg (kG κ) t (f x) → js_W κ X H locs pc' ls (js_val (xT X) t (f x) :: st)) → js_W κ X H locs p2 ls (js_val (xT X) ta x :: st)
def ok_o2 (κ : js_Ks) (p2 pc' ta tb t : Nat) (f : Int → Int → Int) : Prop := ∀ X, js_ok κ X → ∀ x y ls st H locs, js_rg (kG κ) ta x → js_rg (kG κ) tb y → (js_rg (kG κ) t (f x y) → js_W κ X H locs pc' ls (js_val (xT X) t (f x y) :: st)) → js_W κ X H locs p2 ls (js_val (xT X) tb y :: js_val (xT X) ta x :: st)
def ok_od (κ : js_Ks) (p2 pc' ta tb t : Nat) (f : Int → Int → Int) : Prop := ∀ X, js_ok κ X → ∀ x y ls st H locs, js_rg (kG κ) ta x → js_rg (kG κ) tb y → y ≠ 0 → (js_rg (kG κ) t (f x y) → js_W κ X H locs pc' ls (js_val (xT X) t (f x y) :: st)) → js_W κ X H locs p2 ls (js_val (xT X) tb y :: js_val (xT X) ta x :: st)
theorem ok_1 {ta t : Nat} {f : Int → Int} {a : js_EE} (ha : ok_E κ k pc p1 ta a) (ho : ok_o1 κ p1 pc' ta t f) : ok_E κ k pc pc' t (js_1 f a) := by
  intro X h ρ μ z μ' ls st H locs he hl hh hs hk
  unfold js_1 at he
  cases hea : a ρ μ with
  | none => rw [hea] at he; cases he
  | some q =>
    obtain ⟨x, μ1⟩ := q
    rw [hea] at he
    cases he
    exact ha X h ρ μ x _ ls st H locs hea hl hh hs (fun hx H' locs' hh' => ho X h x ls st H' locs' hx (fun hr => hk hr H' locs' hh'))
theorem ok_2 {ta tb t : Nat} {f : Int → Int → Int} {a b : js_EE} (ha : ok_E κ k pc p1 ta a) (hb : ok_E κ (k + js_ct ta) p1 p2 tb b) (ho : ok_o2 κ p2 pc' ta tb t f) : ok_E κ k pc pc' t (js_2 f a b) := by
  intro X h ρ μ z μ' ls st H locs he hl hh hs hk
  unfold js_2 at he
  cases hea : a ρ μ with
  | none => rw [hea] at he; cases he
  | some q =>
    obtain ⟨x, μ1⟩ := q
    rw [hea] at he
    cases heb : b ρ μ1 with
    | none => simp only [js_b, heb] at he; cases he
    | some q =>
      obtain ⟨y, μ2⟩ := q
      simp only [js_b, heb] at he
      cases he
      exact ha X h ρ μ x μ1 ls st H locs hea hl hh hs (fun hx H' locs' hh' => hb X h ρ μ1 y _ ls _ H' locs' heb hl hh' (js_smc hs) (fun hy H2 locs2 hh2 => ho X h x y ls st H2 locs2 hx hy (fun hr => hk hr H2 locs2 hh2)))
theorem ok_dv {ta tb t : Nat} {f : Int → Int → Int} {a b : js_EE} (ha : ok_E κ k pc p1 ta a) (hb : ok_E κ (k + js_ct ta) p1 p2 tb b) (ho : ok_od κ p2 pc' ta tb t f) : ok_E κ k pc pc' t (js_dv f a b) := by
  intro X h ρ μ z μ' ls st H locs he hl hh hs hk
  unfold js_dv at he
  cases hea : a ρ μ with
  | none => rw [hea] at he; cases he
  | some q =>
    obtain ⟨x, μ1⟩ := q
    rw [hea] at he
    cases heb : b ρ μ1 with
    | none => simp only [js_b, heb] at he; cases he
    | some q =>
      obtain ⟨y, μ2⟩ := q
      simp only [js_b, heb] at he
      by_cases hy0 : y = 0
      · rw [if_pos hy0] at he; cases he
      · rw [if_neg hy0] at he
        cases he
        exact ha X h ρ μ x μ1 ls st H locs hea hl hh hs (fun hx H' locs' hh' => hb X h ρ μ1 y _ ls _ H' locs' heb hl hh' (js_smc hs) (fun hy H2 locs2 hh2 => ho X h x y ls st H2 locs2 hx hy hy0 (fun hr => hk hr H2 locs2 hh2)))
theorem op_iadd (hd : decode (kC κ) pc = .ok (.iadd, 1)) (hp : pc + 1 = pc') : ok_o2 κ pc pc' 1 1 1 js_add := by
  intro X h x y ls st H locs hx hy hk
  subst hp
  have hk := hk (js_r32 _)
  rw [js_v1, js_add, js_oi] at hk
  exact lv_iadd h.1 h.2.1 hd hk
theorem op_isub (hd : decode (kC κ) pc = .ok (.isub, 1)) (hp : pc + 1 = pc') : ok_o2 κ pc pc' 1 1 1 js_sub := by
  intro X h x y ls st H locs hx hy hk
  subst hp
  have hk := hk (js_r32 _)
  rw [js_v1, js_sub, js_oi] at hk
  exact lv_isub h.1 h.2.1 hd hk
theorem op_imul (hd : decode (kC κ) pc = .ok (.imul, 1)) (hp : pc + 1 = pc') : ok_o2 κ pc pc' 1 1 1 js_mul := by
  intro X h x y ls st H locs hx hy hk
  subst hp
  have hk := hk (js_r32 _)
  rw [js_v1, js_mul, js_oi] at hk
  exact lv_imul h.1 h.2.1 hd hk
theorem op_iand (hd : decode (kC κ) pc = .ok (.iand, 1)) (hp : pc + 1 = pc') : ok_o2 κ pc pc' 1 1 1 js_and := by
  intro X h x y ls st H locs hx hy hk
  subst hp
  have hk := hk (js_r32 _)
  rw [js_v1, js_and, js_oi] at hk
  exact lv_iand h.1 h.2.1 hd hk
theorem op_ior (hd : decode (kC κ) pc = .ok (.ior, 1)) (hp : pc + 1 = pc') : ok_o2 κ pc pc' 1 1 1 js_or := by
  intro X h x y ls st H locs hx hy hk
  subst hp
  have hk := hk (js_r32 _)
  rw [js_v1, js_or, js_oi] at hk
  exact lv_ior h.1 h.2.1 hd hk
theorem op_ixor (hd : decode (kC κ) pc = .ok (.ixor, 1)) (hp : pc + 1 = pc') : ok_o2 κ pc pc' 1 1 1 js_xor := by
  intro X h x y ls st H locs hx hy hk
  subst hp
  have hk := hk (js_r32 _)
  rw [js_v1, js_xor, js_oi] at hk
  exact lv_ixor h.1 h.2.1 hd hk
theorem op_ishl (hd : decode (kC κ) pc = .ok (.ishl, 1)) (hp : pc + 1 = pc') : ok_o2 κ pc pc' 1 1 1 js_shl := by
  intro X h x y ls st H locs hx hy hk
  subst hp
  have hk := hk (js_r32 _)
  rw [js_v1, js_shl, js_oi] at hk
  exact lv_ishl h.1 h.2.1 hd hk
theorem op_ishr (hd : decode (kC κ) pc = .ok (.ishr, 1)) (hp : pc + 1 = pc') : ok_o2 κ pc pc' 1 1 1 js_shr := by
  intro X h x y ls st H locs hx hy hk
  subst hp
  have hk := hk (js_r32 _)
  rw [js_v1, js_shr, js_oi] at hk
  exact lv_ishr h.1 h.2.1 hd hk
theorem op_iushr (hd : decode (kC κ) pc = .ok (.iushr, 1)) (hp : pc + 1 = pc') : ok_o2 κ pc pc' 1 1 1 js_ushr := by
  intro X h x y ls st H locs hx hy hk
  subst hp
  have hk := hk (js_r32 _)
  rw [js_v1, js_ushr, js_oi] at hk
  exact lv_iushr h.1 h.2.1 hd rfl hk
theorem op_ladd (hd : decode (kC κ) pc = .ok (.ladd, 1)) (hp : pc + 1 = pc') : ok_o2 κ pc pc' 2 2 2 js_ladd := by
  intro X h x y ls st H locs hx hy hk
  subst hp
  have hk := hk (js_r64 _)
  rw [js_v2, js_ladd, js_ol] at hk
  exact lv_ladd h.1 h.2.1 hd hk
theorem op_lsub (hd : decode (kC κ) pc = .ok (.lsub, 1)) (hp : pc + 1 = pc') : ok_o2 κ pc pc' 2 2 2 js_lsub := by
  intro X h x y ls st H locs hx hy hk
  subst hp
  have hk := hk (js_r64 _)
  rw [js_v2, js_lsub, js_ol] at hk
  exact lv_lsub h.1 h.2.1 hd hk
theorem op_lmul (hd : decode (kC κ) pc = .ok (.lmul, 1)) (hp : pc + 1 = pc') : ok_o2 κ pc pc' 2 2 2 js_lmul := by
  intro X h x y ls st H locs hx hy hk
  subst hp
  have hk := hk (js_r64 _)
  rw [js_v2, js_lmul, js_ol] at hk
  exact lv_lmul h.1 h.2.1 hd hk
theorem op_land (hd : decode (kC κ) pc = .ok (.land, 1)) (hp : pc + 1 = pc') : ok_o2 κ pc pc' 2 2 2 js_land := by
  intro X h x y ls st H locs hx hy hk
  subst hp
  have hk := hk (js_r64 _)
  rw [js_v2, js_land, js_ol] at hk
  exact lv_land h.1 h.2.1 hd hk
theorem op_lor (hd : decode (kC κ) pc = .ok (.lor, 1)) (hp : pc + 1 = pc') : ok_o2 κ pc pc' 2 2 2 js_lor := by
  intro X h x y ls st H locs hx hy hk
  subst hp
  have hk := hk (js_r64 _)
  rw [js_v2, js_lor, js_ol] at hk
  exact lv_lor h.1 h.2.1 hd hk
theorem op_lshr (hd : decode (kC κ) pc = .ok (.lshr, 1)) (hp : pc + 1 = pc') : ok_o2 κ pc pc' 2 1 2 js_lshr := by
  intro X h x y ls st H locs hx hy hk
  subst hp
  have hk := hk (js_r64 _)
  rw [js_v2, js_lshr, js_ol] at hk
  exact lv_lshr h.1 h.2.1 hd rfl hk
theorem op_lshl (hd : decode (kC κ) pc = .ok (.lshl, 1)) (hp : pc + 1 = pc') : ok_o2 κ pc pc' 2 1 2 js_lshl := by
  intro X h x y ls st H locs hx hy hk
  subst hp
  have hk := hk (js_r64 _)
  rw [js_v2, js_lshl, js_ol] at hk
  exact lv_lshl h.1 h.2.1 hd rfl hk
theorem op_idiv (hd : decode (kC κ) pc = .ok (.idiv, 1)) (hp : pc + 1 = pc') : ok_od κ pc pc' 1 1 1 js_div := by
  intro X h x y ls st H locs hx hy hy0 hk
  subst hp
  have hk := hk (js_r32 _)
  rw [js_v1, js_div, js_oi] at hk
  refine lv_idiv h.1 h.2.1 hd (fun e => hy0 ?_) hk
  rw [← js_i32 hy, e]; rfl
theorem op_irem (hd : decode (kC κ) pc = .ok (.irem, 1)) (hp : pc + 1 = pc') : ok_od κ pc pc' 1 1 1 js_rem := by
  intro X h x y ls st H locs hx hy hy0 hk
  subst hp
  have hk := hk (js_r32 _)
  rw [js_v1, js_rem, js_oi] at hk
  refine lv_irem h.1 h.2.1 hd (fun e => hy0 ?_) hk
  rw [← js_i32 hy, e]; rfl
theorem op_ldiv (hd : decode (kC κ) pc = .ok (.ldiv, 1)) (hp : pc + 1 = pc') : ok_od κ pc pc' 2 2 2 js_ldiv := by
  intro X h x y ls st H locs hx hy hy0 hk
  subst hp
  have hk := hk (js_r64 _)
  rw [js_v2, js_ldiv, js_ol] at hk
  refine lv_ldiv h.1 h.2.1 hd (fun e => hy0 ?_) hk
  rw [← js_i64 hy, e]; rfl
theorem op_lrem (hd : decode (kC κ) pc = .ok (.lrem, 1)) (hp : pc + 1 = pc') : ok_od κ pc pc' 2 2 2 js_lrem := by
  intro X h x y ls st H locs hx hy hy0 hk
  subst hp
  have hk := hk (js_r64 _)
  rw [js_v2, js_lrem, js_ol] at hk
  refine lv_lrem h.1 h.2.1 hd (fun e => hy0 ?_) hk
  rw [← js_i64 hy, e]; rfl
theorem op_i2l (hd : decode (kC κ) pc = .ok (.i2l, 1)) (hp : pc + 1 = pc') : ok_o1 κ pc pc' 1 2 js_i2l := by
  intro X h x ls st H locs hx hk
  subst hp
  have hk := hk (js_r64 _)
  rw [js_v2, js_i2l, js_ol] at hk
  exact lv_i2l h.1 h.2.1 hd rfl hk
theorem op_l2i (hd : decode (kC κ) pc = .ok (.l2i, 1)) (hp : pc + 1 = pc') : ok_o1 κ pc pc' 2 1 js_l2i := by
  intro X h x ls st H locs hx hk
  subst hp
  have hk := hk (js_r32 _)
  rw [js_v1, js_l2i, js_oi] at hk
  exact lv_l2i h.1 h.2.1 hd rfl hk
theorem op_i2c (hd : decode (kC κ) pc = .ok (.i2c, 1)) (hp : pc + 1 = pc') : ok_o1 κ pc pc' 1 1 js_i2c := by
  intro X h x ls st H locs hx hk
  subst hp
  have hk := hk (js_r32 _)
  rw [js_v1, js_i2c, js_oi] at hk
  exact lv_i2c h.1 h.2.1 hd rfl hk
end
