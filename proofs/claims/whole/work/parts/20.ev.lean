section
/-! ===== evaluation, step by step ===== -/
variable {ρ : js_Ev} {m : js_Mm}
theorem jv_g0 (a : Nat × Int) (l : js_Ev) : js_g (a :: l) 0 = a := rfl
theorem jv_gs (a : Nat × Int) (l : js_Ev) (n : Nat) : js_g (a :: l) (n + 1) = js_g l n := rfl
theorem jv_b {α : Type} (z : Int) (w : js_Mm) (f : Int → js_Mm → Option α) : js_b (some (z, w)) f = f z w := rfl
theorem jv_bl {α : Type} (z : List Int) (w : js_Mm) (f : List Int → js_Mm → Option α) : js_bl (some (z, w)) f = f z w := rfl
theorem jv_bcT {α : Type} (w : js_Mm) (f g : js_Mm → Option α) : js_bc (some (true, w)) f g = f w := rfl
theorem jv_bcF {α : Type} (w : js_Mm) (f g : js_Mm → Option α) : js_bc (some (false, w)) f g = g w := rfl
theorem jv_bcD {α : Type} (c : Prop) [Decidable c] (w : js_Mm) (f g : js_Mm → Option α) : js_bc (some (decide c, w)) f g = if c then f w else g w := by
  by_cases h : c
  · simp [h, js_bc]
  · simp [h, js_bc]
theorem jv_bcI {α : Type} (c : Prop) [Decidable c] (x y : Option (Bool × js_Mm)) (f g : js_Mm → Option α) : js_bc (if c then x else y) f g = if c then js_bc x f g else js_bc y f g := by
  by_cases h : c <;> simp [h]
theorem jv_bI {α : Type} (c : Prop) [Decidable c] (x y : Option (Int × js_Mm)) (f : Int → js_Mm → Option α) : js_b (if c then x else y) f = if c then js_b x f else js_b y f := by
  by_cases h : c <;> simp [h]
theorem jv_bs0 (ρ' : js_Ev) (w : js_Mm) (f : js_SS) : js_bs (some (none, ρ', w)) f = f ρ' w := rfl
theorem jv_bs1 (v : Int) (ρ' : js_Ev) (w : js_Mm) (f : js_SS) : js_bs (some (some v, ρ', w)) f = some (some v, ρ', w) := rfl
theorem jv_bsI (c : Prop) [Decidable c] (x y : Option (Option Int × js_Ev × js_Mm)) (f : js_SS) : js_bs (if c then x else y) f = if c then js_bs x f else js_bs y f := by
  by_cases h : c <;> simp [h]
theorem jv_k (n : Int) : js_k n ρ m = some (n, m) := rfl
theorem jv_l (t i : Nat) : js_l t i ρ m = if (js_g ρ i).1 = t then some ((js_g ρ i).2, m) else none := rfl
def jv_1j (f : Int → Int) (x : Int) (w : js_Mm) : Option (Int × js_Mm) := some (f x, w)
theorem jv_1 (f : Int → Int) (a : js_EE) : js_1 f a ρ m = js_b (a ρ m) (jv_1j f) := rfl
theorem jv_1e (f : Int → Int) (x : Int) (w : js_Mm) : jv_1j f x w = some (f x, w) := rfl
def jv_2j (f : Int → Int → Int) (x y : Int) (w : js_Mm) : Option (Int × js_Mm) := some (f x y, w)
def jv_2k (f : Int → Int → Int) (b : js_EE) (ρ : js_Ev) (x : Int) (w : js_Mm) : Option (Int × js_Mm) := js_b (b ρ w) (jv_2j f x)
theorem jv_2 (f : Int → Int → Int) (a b : js_EE) : js_2 f a b ρ m = js_b (a ρ m) (jv_2k f b ρ) := rfl
theorem jv_2ke (f : Int → Int → Int) (b : js_EE) (x : Int) : jv_2k f b ρ x m = js_b (b ρ m) (jv_2j f x) := rfl
theorem jv_2e (f : Int → Int → Int) (x y : Int) (w : js_Mm) : jv_2j f x y w = some (f x y, w) := rfl
def jv_dj (f : Int → Int → Int) (x y : Int) (w : js_Mm) : Option (Int × js_Mm) := if y = 0 then none else some (f x y, w)
def jv_dk (f : Int → Int → Int) (b : js_EE) (ρ : js_Ev) (x : Int) (w : js_Mm) : Option (Int × js_Mm) := js_b (b ρ w) (jv_dj f x)
theorem jv_d (f : Int → Int → Int) (a b : js_EE) : js_dv f a b ρ m = js_b (a ρ m) (jv_dk f b ρ) := rfl
theorem jv_dke (f : Int → Int → Int) (b : js_EE) (x : Int) : jv_dk f b ρ x m = js_b (b ρ m) (jv_dj f x) := rfl
theorem jv_de (f : Int → Int → Int) (x y : Int) (w : js_Mm) : jv_dj f x y w = if y = 0 then none else some (f x y, w) := rfl
def jv_gfj (g c j : Nat) (o : Int) (w : js_Mm) : Option (Int × js_Mm) := if js_is g c o then some (w o.toNat j, w) else none
theorem jv_gf (g c j : Nat) (a : js_EE) : js_gf g c j a ρ m = js_b (a ρ m) (jv_gfj g c j) := rfl
theorem jv_gfe (g c j : Nat) (o : Int) (w : js_Mm) : jv_gfj g c j o w = if js_is g c o then some (w o.toNat j, w) else none := rfl
def jv_grj (g c j : Nat) (o : Int) (w : js_Mm) : Option (Int × js_Mm) := if js_is g c o then some ((js_rt g o.toNat j : Int), w) else none
theorem jv_gr (g c j : Nat) (a : js_EE) : js_gr g c j a ρ m = js_b (a ρ m) (jv_grj g c j) := rfl
theorem jv_gre (g c j : Nat) (o : Int) (w : js_Mm) : jv_grj g c j o w = if js_is g c o then some ((js_rt g o.toNat j : Int), w) else none := rfl
def jv_alj (g c : Nat) (o i : Int) (w : js_Mm) : Option (Int × js_Mm) := if js_in g c o i then some (w o.toNat i.toNat, w) else none
def jv_alk (g c : Nat) (b : js_EE) (ρ : js_Ev) (o : Int) (w : js_Mm) : Option (Int × js_Mm) := js_b (b ρ w) (jv_alj g c o)
theorem jv_al (g c : Nat) (a b : js_EE) : js_al g c a b ρ m = js_b (a ρ m) (jv_alk g c b ρ) := rfl
theorem jv_alke (g c : Nat) (b : js_EE) (o : Int) : jv_alk g c b ρ o m = js_b (b ρ m) (jv_alj g c o) := rfl
theorem jv_ale (g c : Nat) (o i : Int) (w : js_Mm) : jv_alj g c o i w = if js_in g c o i then some (w o.toNat i.toNat, w) else none := rfl
def jv_aaj (g c : Nat) (o i : Int) (w : js_Mm) : Option (Int × js_Mm) := if js_in g c o i then some ((js_rt g o.toNat i.toNat : Int), w) else none
def jv_aak (g c : Nat) (b : js_EE) (ρ : js_Ev) (o : Int) (w : js_Mm) : Option (Int × js_Mm) := js_b (b ρ w) (jv_aaj g c o)
theorem jv_aa (g c : Nat) (a b : js_EE) : js_aa g c a b ρ m = js_b (a ρ m) (jv_aak g c b ρ) := rfl
theorem jv_aake (g c : Nat) (b : js_EE) (o : Int) : jv_aak g c b ρ o m = js_b (b ρ m) (jv_aaj g c o) := rfl
theorem jv_aae (g c : Nat) (o i : Int) (w : js_Mm) : jv_aaj g c o i w = if js_in g c o i then some ((js_rt g o.toNat i.toNat : Int), w) else none := rfl
def jv_lnj (g c : Nat) (o : Int) (w : js_Mm) : Option (Int × js_Mm) := if js_is g c o then some (((js_sh g o.toNat).2 : Int), w) else none
theorem jv_ln (g c : Nat) (a : js_EE) : js_ln g c a ρ m = js_b (a ρ m) (jv_lnj g c) := rfl
theorem jv_lne (g c : Nat) (o : Int) (w : js_Mm) : jv_lnj g c o w = if js_is g c o then some (((js_sh g o.toNat).2 : Int), w) else none := rfl
def jv_asj (z : Int) (zs : List Int) (w : js_Mm) : Option (List Int × js_Mm) := some (z :: zs, w)
def jv_ask (as : List js_EE) (ρ : js_Ev) (z : Int) (w : js_Mm) : Option (List Int × js_Mm) := js_bl (js_as as ρ w) (jv_asj z)
theorem jv_as0 : js_as [] ρ m = some ([], m) := rfl
theorem jv_as1 (a : js_EE) (as : List js_EE) : js_as (a :: as) ρ m = js_b (a ρ m) (jv_ask as ρ) := rfl
theorem jv_aske (as : List js_EE) (z : Int) : jv_ask as ρ z m = js_bl (js_as as ρ m) (jv_asj z) := rfl
theorem jv_asje (z : Int) (zs : List Int) (w : js_Mm) : jv_asj z zs w = some (z :: zs, w) := rfl
def jv_cvj (g c : Nat) (F : js_FF) (zs : List Int) (w : js_Mm) : Option (Int × js_Mm) := if js_rc g c zs then F zs w else none
theorem jv_cv (g c : Nat) (F : js_FF) (as : List js_EE) : js_cv g c F as ρ m = js_bl (js_as as ρ m) (jv_cvj g c F) := rfl
theorem jv_cve (g c : Nat) (F : js_FF) (z : Int) (zs : List Int) (w : js_Mm) : jv_cvj g c F (z :: zs) w = if js_is g c z then F (z :: zs) w else none := rfl
theorem jv_cs (F : js_FF) (as : List js_EE) : js_cs F as ρ m = js_bl (js_as as ρ m) F := rfl
def jv_cpj (r : Int → Int → Bool) (x y : Int) (w : js_Mm) : Option (Bool × js_Mm) := some (r x y, w)
def jv_cpk (r : Int → Int → Bool) (b : js_EE) (ρ : js_Ev) (x : Int) (w : js_Mm) : Option (Bool × js_Mm) := js_b (b ρ w) (jv_cpj r x)
theorem jv_cp (r : Int → Int → Bool) (a b : js_EE) : js_cp r a b ρ m = js_b (a ρ m) (jv_cpk r b ρ) := rfl
theorem jv_cpke (r : Int → Int → Bool) (b : js_EE) (x : Int) : jv_cpk r b ρ x m = js_b (b ρ m) (jv_cpj r x) := rfl
theorem jv_cpe (r : Int → Int → Bool) (x y : Int) (w : js_Mm) : jv_cpj r x y w = some (r x y, w) := rfl
def jv_czj (r : Int → Int → Bool) (x : Int) (w : js_Mm) : Option (Bool × js_Mm) := some (r x 0, w)
theorem jv_cz (r : Int → Int → Bool) (a : js_EE) : js_cz r a ρ m = js_b (a ρ m) (jv_czj r) := rfl
theorem jv_cze (r : Int → Int → Bool) (x : Int) (w : js_Mm) : jv_czj r x w = some (r x 0, w) := rfl
def jv_tt (w : js_Mm) : Option (Bool × js_Mm) := some (true, w)
def jv_ff (w : js_Mm) : Option (Bool × js_Mm) := some (false, w)
theorem jv_tte (w : js_Mm) : jv_tt w = some (true, w) := rfl
theorem jv_ffe (w : js_Mm) : jv_ff w = some (false, w) := rfl
theorem jv_ca (c d : js_CC) : js_ca c d ρ m = js_bc (c ρ m) (d ρ) jv_ff := rfl
theorem jv_co (c d : js_CC) : js_co c d ρ m = js_bc (c ρ m) jv_tt (d ρ) := rfl
theorem jv_cn (c : js_CC) : js_cn c ρ m = js_bc (c ρ m) jv_ff jv_tt := rfl
theorem jv_lt (x y : Int) : js_lt x y = decide (x < y) := rfl
theorem jv_le (x y : Int) : js_le x y = decide (x ≤ y) := rfl
theorem jv_gt (x y : Int) : js_gt x y = decide (y < x) := rfl
theorem jv_ge (x y : Int) : js_ge x y = decide (y ≤ x) := rfl
theorem jv_eq (x y : Int) : js_eq x y = decide (x = y) := rfl
theorem jv_ne (x y : Int) : js_ne x y = decide (¬ x = y) := by unfold js_ne; by_cases h : x = y <;> simp [h]
theorem jv_q (c : js_CC) (a b : js_EE) : js_q c a b ρ m = js_bc (c ρ m) (a ρ) (b ρ) := rfl
theorem jv_sk : js_sk ρ m = some (none, ρ, m) := rfl
def jv_s1j (t i : Nat) (ρ : js_Ev) (z : Int) (w : js_Mm) : Option (Option Int × js_Ev × js_Mm) := if (js_g ρ (i - 1)).1 = 2 then none else some (none, ρ.set i (t, z), w)
theorem jv_s1 (t i : Nat) (e : js_EE) : js_s1 t i e ρ m = js_b (e ρ m) (jv_s1j t i ρ) := rfl
theorem jv_s1e (t i : Nat) (z : Int) : jv_s1j t i ρ z m = if (js_g ρ (i - 1)).1 = 2 then none else some (none, ρ.set i (t, z), m) := rfl
def jv_s2j (i : Nat) (ρ : js_Ev) (z : Int) (w : js_Mm) : Option (Option Int × js_Ev × js_Mm) := if (js_g ρ (i - 1)).1 = 2 then none else some (none, (ρ.set i (2, z)).set (i + 1) (0, 0), w)
theorem jv_s2 (i : Nat) (e : js_EE) : js_s2 i e ρ m = js_b (e ρ m) (jv_s2j i ρ) := rfl
theorem jv_s2e (i : Nat) (z : Int) : jv_s2j i ρ z m = if (js_g ρ (i - 1)).1 = 2 then none else some (none, (ρ.set i (2, z)).set (i + 1) (0, 0), m) := rfl
theorem jv_ii (i : Nat) (n : Int) : js_ii i n ρ m = if (js_g ρ i).1 = 1 ∧ ¬ (js_g ρ (i - 1)).1 = 2 then some (none, ρ.set i (1, js_add (js_g ρ i).2 n), m) else none := rfl
def jv_pfj (g c j : Nat) (ρ : js_Ev) (o z : Int) (w : js_Mm) : Option (Option Int × js_Ev × js_Mm) := if js_is g c o && js_fit (js_ft c j) z then some (none, ρ, js_u w o.toNat j z) else none
def jv_pfk (g c j : Nat) (e : js_EE) (ρ : js_Ev) (o : Int) (w : js_Mm) : Option (Option Int × js_Ev × js_Mm) := js_b (e ρ w) (jv_pfj g c j ρ o)
theorem jv_pf (g c j : Nat) (a e : js_EE) : js_pf g c j a e ρ m = js_b (a ρ m) (jv_pfk g c j e ρ) := rfl
theorem jv_pfke (g c j : Nat) (e : js_EE) (o : Int) : jv_pfk g c j e ρ o m = js_b (e ρ m) (jv_pfj g c j ρ o) := rfl
theorem jv_pfe (g c j : Nat) (o z : Int) : jv_pfj g c j ρ o z m = if js_is g c o && js_fit (js_ft c j) z then some (none, ρ, js_u m o.toNat j z) else none := rfl
def jv_paf (c : Nat) (z : Int) : Bool := js_fit (if c = 22 then 6 else if c = 23 then 5 else 1) z
def jv_paj (g c : Nat) (ρ : js_Ev) (o i z : Int) (w : js_Mm) : Option (Option Int × js_Ev × js_Mm) := if js_in g c o i && jv_paf c z then some (none, ρ, js_u w o.toNat i.toNat z) else none
def jv_pak (g c : Nat) (e : js_EE) (ρ : js_Ev) (o i : Int) (w : js_Mm) : Option (Option Int × js_Ev × js_Mm) := js_b (e ρ w) (jv_paj g c ρ o i)
def jv_pal (g c : Nat) (i e : js_EE) (ρ : js_Ev) (o : Int) (w : js_Mm) : Option (Option Int × js_Ev × js_Mm) := js_b (i ρ w) (jv_pak g c e ρ o)
theorem jv_pa (g c : Nat) (a i e : js_EE) : js_pa g c a i e ρ m = js_b (a ρ m) (jv_pal g c i e ρ) := rfl
theorem jv_pale (g c : Nat) (i e : js_EE) (o : Int) : jv_pal g c i e ρ o m = js_b (i ρ m) (jv_pak g c e ρ o) := rfl
theorem jv_pake (g c : Nat) (e : js_EE) (o i : Int) : jv_pak g c e ρ o i m = js_b (e ρ m) (jv_paj g c ρ o i) := rfl
theorem jv_paje (g c : Nat) (o i z : Int) : jv_paj g c ρ o i z m = if js_in g c o i && jv_paf c z then some (none, ρ, js_u m o.toNat i.toNat z) else none := rfl
theorem jv_paf20 (z : Int) : jv_paf 20 z = true := rfl
theorem jv_paf21 (z : Int) : jv_paf 21 z = true := rfl
theorem jv_paf22 (z : Int) : jv_paf 22 z = (decide (0 ≤ z) && decide (z < 65536)) := rfl
theorem jv_paf23 (z : Int) : jv_paf 23 z = (decide (0 ≤ z) && decide (z < 2)) := rfl
theorem jv_fit1 (z : Int) : js_fit 1 z = true := rfl
theorem jv_fit2 (z : Int) : js_fit 2 z = true := rfl
theorem jv_fit0 (z : Int) : js_fit 0 z = true := rfl
theorem jv_fit5 (z : Int) : js_fit 5 z = (decide (0 ≤ z) && decide (z < 2)) := rfl
def jv_ofj (j : Nat) (f : Int → Int → Int) (ρ : js_Ev) (o x z : Int) (w : js_Mm) : Option (Option Int × js_Ev × js_Mm) := some (none, ρ, js_u w o.toNat j (f x z))
def jv_ofk (g c j : Nat) (f : Int → Int → Int) (e : js_EE) (ρ : js_Ev) (o : Int) (w : js_Mm) : Option (Option Int × js_Ev × js_Mm) := if js_is g c o then js_b (e ρ w) (jv_ofj j f ρ o (w o.toNat j)) else none
theorem jv_of (g c j : Nat) (f : Int → Int → Int) (a e : js_EE) : js_of g c j f a e ρ m = js_b (a ρ m) (jv_ofk g c j f e ρ) := rfl
theorem jv_ofke (g c j : Nat) (f : Int → Int → Int) (e : js_EE) (o : Int) : jv_ofk g c j f e ρ o m = if js_is g c o then js_b (e ρ m) (jv_ofj j f ρ o (m o.toNat j)) else none := rfl
theorem jv_ofje (j : Nat) (f : Int → Int → Int) (o x z : Int) : jv_ofj j f ρ o x z m = some (none, ρ, js_u m o.toNat j (f x z)) := rfl
def jv_oaj (f : Int → Int → Int) (ρ : js_Ev) (o i x z : Int) (w : js_Mm) : Option (Option Int × js_Ev × js_Mm) := some (none, ρ, js_u w o.toNat i.toNat (f x z))
def jv_oak (g c : Nat) (f : Int → Int → Int) (e : js_EE) (ρ : js_Ev) (o i : Int) (w : js_Mm) : Option (Option Int × js_Ev × js_Mm) := if js_in g c o i then js_b (e ρ w) (jv_oaj f ρ o i (w o.toNat i.toNat)) else none
def jv_oal (g c : Nat) (f : Int → Int → Int) (i e : js_EE) (ρ : js_Ev) (o : Int) (w : js_Mm) : Option (Option Int × js_Ev × js_Mm) := js_b (i ρ w) (jv_oak g c f e ρ o)
theorem jv_oa (g c : Nat) (f : Int → Int → Int) (a i e : js_EE) : js_oa g c f a i e ρ m = js_b (a ρ m) (jv_oal g c f i e ρ) := rfl
theorem jv_oale (g c : Nat) (f : Int → Int → Int) (i e : js_EE) (o : Int) : jv_oal g c f i e ρ o m = js_b (i ρ m) (jv_oak g c f e ρ o) := rfl
theorem jv_oake (g c : Nat) (f : Int → Int → Int) (e : js_EE) (o i : Int) : jv_oak g c f e ρ o i m = if js_in g c o i then js_b (e ρ m) (jv_oaj f ρ o i (m o.toNat i.toNat)) else none := rfl
theorem jv_oaje (f : Int → Int → Int) (o i x z : Int) : jv_oaj f ρ o i x z m = some (none, ρ, js_u m o.toNat i.toNat (f x z)) := rfl
def jv_exj (ρ : js_Ev) (_ : Int) (w : js_Mm) : Option (Option Int × js_Ev × js_Mm) := some (none, ρ, w)
theorem jv_ex (e : js_EE) : js_ex e ρ m = js_b (e ρ m) (jv_exj ρ) := rfl
theorem jv_exe (z : Int) : jv_exj ρ z m = some (none, ρ, m) := rfl
theorem jv_sq (a b : js_SS) : js_sq a b ρ m = js_bs (a ρ m) b := rfl
theorem jv_if (c : js_CC) (a b : js_SS) : js_if c a b ρ m = js_bc (c ρ m) (a ρ) (b ρ) := rfl
def jv_bkj (n : Nat) : js_SS := fun ρ w => some (none, js_tr n ρ, w)
theorem jv_bk (n : Nat) (s : js_SS) : js_bk n s ρ m = js_bs (s ρ m) (jv_bkj n) := rfl
theorem jv_bke (n : Nat) : jv_bkj n ρ m = some (none, js_tr n ρ, m) := rfl
def jv_rvj (ρ : js_Ev) (z : Int) (w : js_Mm) : Option (Option Int × js_Ev × js_Mm) := some (some z, ρ, w)
theorem jv_rv (e : js_EE) : js_rv e ρ m = js_b (e ρ m) (jv_rvj ρ) := rfl
theorem jv_rve (z : Int) : jv_rvj ρ z m = some (some z, ρ, m) := rfl
theorem jv_r0 : js_r0 ρ m = some (some 0, ρ, m) := rfl
def jv_swj (vs : List (Int × js_SS)) (d : js_SS) (ρ : js_Ev) (z : Int) (w : js_Mm) : Option (Option Int × js_Ev × js_Mm) := js_pk d z vs ρ w
theorem jv_sw (e : js_EE) (vs : List (Int × js_SS)) (d : js_SS) : js_sw e vs d ρ m = js_b (e ρ m) (jv_swj vs d ρ) := rfl
theorem jv_swe (vs : List (Int × js_SS)) (d : js_SS) (z : Int) : jv_swj vs d ρ z m = js_pk d z vs ρ m := rfl
theorem jv_pk0 (d : js_SS) (z : Int) : js_pk d z [] ρ m = d ρ m := rfl
theorem jv_pk1 (d : js_SS) (z v : Int) (s : js_SS) (vs : List (Int × js_SS)) : js_pk d z ((v, s) :: vs) ρ m = if z = v then s ρ m else js_pk d z vs ρ m := by
  rw [js_pk]; by_cases h : z = v <;> simp [h]
/-- what a method gives out of its body's end -/
def jv_out (tr : Nat) (x : Option (Option Int × js_Ev × js_Mm)) : Option (Int × js_Mm) := match x with
  | some (some v, _, w) => if js_fit tr v then some (v, w) else none
  | _ => none
theorem jv_me (ts : List Nat) (nL tr : Nat) (b : js_SS) (zs : List Int) (w : js_Mm) : js_me ts nL tr b zs w = jv_out tr (b (js_ev ts zs nL) w) := rfl
theorem jv_oute (tr : Nat) (v : Int) (ρ' : js_Ev) (w : js_Mm) : jv_out tr (some (some v, ρ', w)) = if js_fit tr v then some (v, w) else none := rfl
theorem jv_outI (tr : Nat) (c : Prop) [Decidable c] (x y : Option (Option Int × js_Ev × js_Mm)) : jv_out tr (if c then x else y) = if c then jv_out tr x else jv_out tr y := by
  by_cases h : c <;> simp [h]
/-- loops -/
theorem jv_wn1 (c : js_CC) (b : js_SS) (n : Nat) : js_wn c b (n + 1) ρ m = js_bc (c ρ m) (fun w => js_bs (b ρ w) (js_wn c b n)) (fun w => some (none, ρ, w)) := rfl
end
section
/-- a loop that counts i up to n: at each i the state is σ i -/
theorem jv_for {c : js_CC} {b : js_SS} (n : Nat) (S : Nat → js_Ev × js_Mm) (hn : n < 5000)
    (hc : ∀ i, i < n → ∃ w, c (S i).1 (S i).2 = some (true, w) ∧ b (S i).1 w = some (none, S (i + 1)))
    (he : ∃ w, c (S n).1 (S n).2 = some (false, w) ∧ w = (S n).2) : js_wh c b (S 0).1 (S 0).2 = some (none, S n) := by
  have key : ∀ k i fu, i + k = n → k < fu → js_wn c b fu (S i).1 (S i).2 = some (none, S n) := by
    intro k
    induction k with
    | zero =>
      intro i fu hi hf
      obtain ⟨fu', rfl⟩ : ∃ q, fu = q + 1 := ⟨fu - 1, by omega⟩
      have e : i = n := by omega
      subst e
      obtain ⟨w, h1, h2⟩ := he
      subst h2
      rw [jv_wn1, h1]
      rfl
    | succ k ih =>
      intro i fu hi hf
      obtain ⟨fu', rfl⟩ : ∃ q, fu = q + 1 := ⟨fu - 1, by omega⟩
      obtain ⟨w, h1, h2⟩ := hc i (by omega)
      rw [jv_wn1, h1, jv_bcT, h2]
      exact ih (i + 1) fu' (by omega) (by omega)
  exact key n 0 js_fu (by omega) (by show n < 5000; exact hn)
/-- a loop by a measure: from every state of I it ends in a result of Q -/
theorem jv_loop {c : js_CC} {b : js_SS} (I : Nat → js_Ev → js_Mm → Prop) (Q : Option Int × js_Ev × js_Mm → Prop)
    (h : ∀ k ρ w, I k ρ w → (∃ w', c ρ w = some (false, w') ∧ Q (none, ρ, w')) ∨ ∃ w', c ρ w = some (true, w') ∧ ((∃ v ρ2 w2, b ρ w' = some (some v, ρ2, w2) ∧ Q (some v, ρ2, w2)) ∨ ∃ ρ2 w2 k2, b ρ w' = some (none, ρ2, w2) ∧ k2 < k ∧ I k2 ρ2 w2)) :
    ∀ k ρ w, I k ρ w → k < 5000 → ∃ r, js_wh c b ρ w = some r ∧ Q r := by
  have key : ∀ fu k ρ w, I k ρ w → k < fu → ∃ r, js_wn c b fu ρ w = some r ∧ Q r := by
    intro fu
    induction fu with
    | zero => intro k ρ w _ hk; omega
    | succ fu ih =>
      intro k ρ w hI hk
      rw [jv_wn1]
      rcases h k ρ w hI with ⟨w', h1, h2⟩ | ⟨w', h1, h2⟩
      · exact ⟨_, by rw [h1]; rfl, h2⟩
      · rw [h1, jv_bcT]
        rcases h2 with ⟨v, ρ2, w2, h3, h4⟩ | ⟨ρ2, w2, k2, h3, h4, h5⟩
        · exact ⟨_, by rw [h3]; rfl, h4⟩
        · rw [h3, jv_bs0]
          exact ih k2 ρ2 w2 h5 (by omega)
  intro k ρ w hI hk
  exact key js_fu k ρ w hI hk
end
