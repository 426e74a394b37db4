section
/-! ===== pure semantics: a small structured language; environment = tagged numbers, memory = cells of numbers ===== -/
abbrev js_Mm : Type := Nat → Nat → Int
abbrev js_Ev : Type := List (Nat × Int)
abbrev js_EE : Type := js_Ev → js_Mm → Option (Int × js_Mm)
abbrev js_CC : Type := js_Ev → js_Mm → Option (Bool × js_Mm)
abbrev js_SS : Type := js_Ev → js_Mm → Option (Option Int × js_Ev × js_Mm)
abbrev js_FF : Type := List Int → js_Mm → Option (Int × js_Mm)
/-! the two regions: kinds and lengths of their cells, where their reference fields lead, the kinds of fields -/
def js_shC : List (Nat × Nat) := [(10, 16), (7, 8), (22, 600), (8, 9), (20, 24), (20, 24), (20, 24), (20, 24), (20, 576), (20, 576), (8, 9), (20, 24), (20, 24), (20, 24), (20, 24), (20, 576), (20, 576), (3, 6), (20, 6), (20, 6), (20, 6), (20, 6), (20, 6), (3, 6), (20, 6), (20, 6), (20, 6), (20, 6), (20, 6), (5, 2), (6, 3), (0, 15), (20, 24), (20, 24), (20, 144), (20, 144), (20, 144), (20, 144), (20, 144), (20, 40), (20, 40), (20, 40), (0, 15), (20, 24), (20, 24), (20, 144), (20, 144), (20, 144), (20, 144), (20, 144), (20, 40), (20, 40), (20, 40), (0, 15), (20, 24), (20, 24), (20, 144), (20, 144), (20, 144), (20, 144), (20, 144), (20, 40), (20, 40), (20, 40), (24, 2), (0, 15), (20, 24), (20, 24), (20, 144), (20, 144), (20, 144), (20, 144), (20, 144), (20, 40), (20, 40), (20, 40), (0, 15), (20, 24), (20, 24), (20, 144), (20, 144), (20, 144), (20, 144), (20, 144), (20, 40), (20, 40), (20, 40), (9, 3), (20, 144), (1, 3), (20, 24), (20, 24), (4, 7), (20, 100), (21, 1024), (20, 512), (21, 512), (2, 7), (20, 144), (20, 144), (20, 12)]
def js_shM : List (Nat × Nat) := [(11, 41), (20, 4000), (23, 2), (20, 48), (23, 48), (20, 48), (20, 2), (20, 120), (20, 120), (20, 120), (20, 2), (20, 12), (20, 12), (20, 12), (20, 12), (20, 12), (20, 2), (20, 600), (20, 150), (20, 26), (20, 24), (20, 24), (20, 1024), (20, 1024), (20, 1024), (20, 144), (20, 144), (20, 12)]
def js_rtC : List (List Nat) := [[1, 3, 10, 17, 23, 29, 30, 31, 42, 53, 64, 87, 89, 92, 97, 0], [2, 0, 0, 0, 0, 0, 0, 0], [], [0, 0, 0, 4, 5, 6, 7, 8, 9], [], [], [], [], [], [], [0, 0, 0, 11, 12, 13, 14, 15, 16], [], [], [], [], [], [], [0, 18, 19, 20, 21, 22], [], [], [], [], [], [0, 24, 25, 26, 27, 28], [], [], [], [], [], [0, 0], [3, 17, 29], [32, 33, 34, 35, 36, 37, 38, 39, 40, 41, 0, 0, 0, 0, 0], [], [], [], [], [], [], [], [], [], [], [43, 44, 45, 46, 47, 48, 49, 50, 51, 52, 0, 0, 0, 0, 0], [], [], [], [], [], [], [], [], [], [], [54, 55, 56, 57, 58, 59, 60, 61, 62, 63, 0, 0, 0, 0, 0], [], [], [], [], [], [], [], [], [], [], [65, 76], [66, 67, 68, 69, 70, 71, 72, 73, 74, 75, 0, 0, 0, 0, 0], [], [], [], [], [], [], [], [], [], [], [77, 78, 79, 80, 81, 82, 83, 84, 85, 86, 0, 0, 0, 0, 0], [], [], [], [], [], [], [], [], [], [], [31, 88, 0], [], [0, 90, 91], [], [], [3, 93, 94, 95, 96, 0, 0], [], [], [], [], [98, 99, 100, 0, 0, 0, 0], [], [], []]
def js_rtM : List (List Nat) := [[1, 2, 0, 0, 3, 4, 5, 6, 7, 8, 9, 10, 11, 12, 13, 14, 15, 16, 17, 0, 0, 0, 0, 0, 0, 18, 0, 19, 0, 20, 21, 22, 23, 24, 25, 26, 0, 27, 0, 0, 0], [], [], [], [], [], [], [], [], [], [], [], [], [], [], [], [], [], [], [], [], [], [], [], [], [], [], []]
def js_fts : List (List Nat) := [[3, 3, 3, 3, 3, 3, 3, 3, 3, 3, 1, 1, 1, 2, 5], [1, 3, 3], [3, 3, 3, 1, 1, 1, 1], [1, 3, 3, 3, 3, 3], [3, 3, 3, 3, 3, 1, 5], [1, 1], [3, 3, 3], [3, 1, 1, 1, 1, 1, 1, 1], [1, 1, 1, 3, 3, 3, 3, 3, 3], [3, 3, 1], [3, 3, 3, 3, 3, 3, 3, 3, 3, 3, 3, 3, 3, 3, 3, 1], [3, 3, 1, 1, 3, 3, 3, 3, 3, 3, 3, 3, 3, 3, 3, 3, 3, 3, 3, 1, 1, 1, 1, 1, 1, 3, 1, 3, 1, 3, 3, 3, 3, 3, 3, 3, 1, 3, 1, 1, 1]]
def js_sh (g k : Nat) : Nat × Nat := (if g = 0 then js_shC else js_shM).getD k (99, 0)
def js_rt (g k j : Nat) : Nat := ((if g = 0 then js_rtC else js_rtM).getD k []).getD j 0
def js_ft (c j : Nat) : Nat := (js_fts.getD c []).getD j 0
def js_n (g : Nat) : Nat := if g = 0 then 101 else 28
/-- a local by its place -/
def js_g (ρ : js_Ev) (i : Nat) : Nat × Int := ρ.getD i (0, 0)
/-- a memory with one place changed -/
def js_u (μ : js_Mm) (k j : Nat) (z : Int) : js_Mm := fun k' j' => if k' = k ∧ j' = j then z else μ k' j'
/-- a memory with one cell changed -/
def js_uc (μ : js_Mm) (k : Nat) (f : Nat → Int) : js_Mm := fun k' => if k' = k then f else μ k'
def js_b {α : Type} (x : Option (Int × js_Mm)) (f : Int → js_Mm → Option α) : Option α := match x with
  | some (z, m) => f z m
  | none => none
def js_bc {α : Type} (x : Option (Bool × js_Mm)) (f : js_Mm → Option α) (h : js_Mm → Option α) : Option α := match x with
  | some (true, m) => f m
  | some (false, m) => h m
  | none => none
def js_bl {α : Type} (x : Option (List Int × js_Mm)) (f : List Int → js_Mm → Option α) : Option α := match x with
  | some (z, m) => f z m
  | none => none
/-! arithmetic -/
def js_add (x y : Int) : Int := (Int32.ofInt x + Int32.ofInt y).toInt
def js_sub (x y : Int) : Int := (Int32.ofInt x - Int32.ofInt y).toInt
def js_mul (x y : Int) : Int := (Int32.ofInt x * Int32.ofInt y).toInt
def js_and (x y : Int) : Int := (Int32.ofInt x &&& Int32.ofInt y).toInt
def js_or (x y : Int) : Int := (Int32.ofInt x ||| Int32.ofInt y).toInt
def js_xor (x y : Int) : Int := (Int32.ofInt x ^^^ Int32.ofInt y).toInt
def js_shl (x y : Int) : Int := (Int32.ofInt x <<< (Int32.ofInt y &&& 31)).toInt
def js_shr (x y : Int) : Int := (Int32.ofInt x >>> (Int32.ofInt y &&& 31)).toInt
def js_ushr (x y : Int) : Int := ((Int32.ofInt x).toUInt32 >>> ((Int32.ofInt y).toUInt32 &&& Int32.toUInt32 31)).toInt32.toInt
def js_div (x y : Int) : Int := (Int32.ofInt x / Int32.ofInt y).toInt
def js_rem (x y : Int) : Int := (Int32.ofInt x - Int32.ofInt x / Int32.ofInt y * Int32.ofInt y).toInt
def js_ladd (x y : Int) : Int := (Int64.ofInt x + Int64.ofInt y).toInt
def js_lsub (x y : Int) : Int := (Int64.ofInt x - Int64.ofInt y).toInt
def js_lmul (x y : Int) : Int := (Int64.ofInt x * Int64.ofInt y).toInt
def js_land (x y : Int) : Int := (Int64.ofInt x &&& Int64.ofInt y).toInt
def js_lor (x y : Int) : Int := (Int64.ofInt x ||| Int64.ofInt y).toInt
def js_ldiv (x y : Int) : Int := (Int64.ofInt x / Int64.ofInt y).toInt
def js_lrem (x y : Int) : Int := (Int64.ofInt x - Int64.ofInt x / Int64.ofInt y * Int64.ofInt y).toInt
def js_lshr (x y : Int) : Int := (Int64.ofInt x >>> ((Int32.ofInt y).toInt64 &&& 63)).toInt
def js_lshl (x y : Int) : Int := (Int64.ofInt x <<< ((Int32.ofInt y).toInt64 &&& 63)).toInt
def js_l2i (x : Int) : Int := (Int64.ofInt x).toInt32.toInt
def js_i2l (x : Int) : Int := (Int32.ofInt x).toInt64.toInt
def js_i2c (x : Int) : Int := ((Int32.ofInt x).toUInt32 % 65536).toInt32.toInt
/-! expressions -/
def js_k (n : Int) : js_EE := fun _ m => some (n, m)
def js_l (t i : Nat) : js_EE := fun ρ m => if (js_g ρ i).1 = t then some ((js_g ρ i).2, m) else none
def js_1 (f : Int → Int) (a : js_EE) : js_EE := fun ρ m => js_b (a ρ m) fun x m => some (f x, m)
def js_2 (f : Int → Int → Int) (a b : js_EE) : js_EE := fun ρ m => js_b (a ρ m) fun x m => js_b (b ρ m) fun y m => some (f x y, m)
def js_dv (f : Int → Int → Int) (a b : js_EE) : js_EE := fun ρ m => js_b (a ρ m) fun x m => js_b (b ρ m) fun y m => if y = 0 then none else some (f x y, m)
def js_is (g c : Nat) (o : Int) : Bool := decide ((js_sh g o.toNat).1 = c) && decide (0 ≤ o)
def js_in (g c : Nat) (k i : Int) : Bool := decide ((js_sh g k.toNat).1 = c) && decide (0 ≤ k) && decide (0 ≤ i) && decide (i < ((js_sh g k.toNat).2 : Int))
/-- a number field; a reference field; an array's place; a reference array's place; an array's length -/
def js_gf (g c j : Nat) (a : js_EE) : js_EE := fun ρ m => js_b (a ρ m) fun o m => if js_is g c o then some (m o.toNat j, m) else none
def js_gr (g c j : Nat) (a : js_EE) : js_EE := fun ρ m => js_b (a ρ m) fun o m => if js_is g c o then some ((js_rt g o.toNat j : Int), m) else none
def js_al (g c : Nat) (a i : js_EE) : js_EE := fun ρ m => js_b (a ρ m) fun k m => js_b (i ρ m) fun i m => if js_in g c k i then some (m k.toNat i.toNat, m) else none
def js_aa (g c : Nat) (a i : js_EE) : js_EE := fun ρ m => js_b (a ρ m) fun k m => js_b (i ρ m) fun i m => if js_in g c k i then some ((js_rt g k.toNat i.toNat : Int), m) else none
def js_ln (g c : Nat) (a : js_EE) : js_EE := fun ρ m => js_b (a ρ m) fun k m => if js_is g c k then some (((js_sh g k.toNat).2 : Int), m) else none
/-! calls -/
def js_as : List js_EE → js_Ev → js_Mm → Option (List Int × js_Mm)
  | [], _, m => some ([], m)
  | a :: as, ρ, m => js_b (a ρ m) fun z m => js_bl (js_as as ρ m) fun zs m => some (z :: zs, m)
def js_rc (g c : Nat) (zs : List Int) : Bool := js_is g c (zs.getD 0 (-1))
def js_cv (g c : Nat) (F : js_FF) (as : List js_EE) : js_EE := fun ρ m => js_bl (js_as as ρ m) fun zs m => if js_rc g c zs then F zs m else none
def js_cs (F : js_FF) (as : List js_EE) : js_EE := fun ρ m => js_bl (js_as as ρ m) fun zs m => F zs m
/-! conditions -/
def js_cp (r : Int → Int → Bool) (a b : js_EE) : js_CC := fun ρ m => js_b (a ρ m) fun x m => js_b (b ρ m) fun y m => some (r x y, m)
def js_cz (r : Int → Int → Bool) (a : js_EE) : js_CC := fun ρ m => js_b (a ρ m) fun x m => some (r x 0, m)
def js_ca (c d : js_CC) : js_CC := fun ρ m => js_bc (c ρ m) (fun m => d ρ m) (fun m => some (false, m))
def js_co (c d : js_CC) : js_CC := fun ρ m => js_bc (c ρ m) (fun m => some (true, m)) (fun m => d ρ m)
def js_cn (c : js_CC) : js_CC := fun ρ m => js_bc (c ρ m) (fun m => some (false, m)) (fun m => some (true, m))
def js_lt (x y : Int) : Bool := decide (x < y)
def js_le (x y : Int) : Bool := decide (x ≤ y)
def js_gt (x y : Int) : Bool := decide (y < x)
def js_ge (x y : Int) : Bool := decide (y ≤ x)
def js_eq (x y : Int) : Bool := decide (x = y)
def js_ne (x y : Int) : Bool := !decide (x = y)
/-- a choice; a condition as a number -/
def js_q (c : js_CC) (a b : js_EE) : js_EE := fun ρ m => js_bc (c ρ m) (fun m => a ρ m) (fun m => b ρ m)
/-! statements -/
def js_sk : js_SS := fun ρ m => some (none, ρ, m)
def js_s1 (t i : Nat) (e : js_EE) : js_SS := fun ρ m => js_b (e ρ m) fun z m => if (js_g ρ (i - 1)).1 = 2 then none else some (none, ρ.set i (t, z), m)
def js_s2 (i : Nat) (e : js_EE) : js_SS := fun ρ m => js_b (e ρ m) fun z m => if (js_g ρ (i - 1)).1 = 2 then none else some (none, (ρ.set i (2, z)).set (i + 1) (0, 0), m)
def js_ii (i : Nat) (n : Int) : js_SS := fun ρ m => if (js_g ρ i).1 = 1 ∧ ¬ (js_g ρ (i - 1)).1 = 2 then some (none, ρ.set i (1, js_add (js_g ρ i).2 n), m) else none
/-- a guard on what may be kept (1 number, 2 long, 5 truth, 6 char) -/
def js_fit (t : Nat) (z : Int) : Bool := if t = 5 then decide (0 ≤ z) && decide (z < 2) else if t = 6 then decide (0 ≤ z) && decide (z < 65536) else true
def js_pf (g c j : Nat) (a e : js_EE) : js_SS := fun ρ m => js_b (a ρ m) fun o m => js_b (e ρ m) fun z m => if js_is g c o && js_fit (js_ft c j) z then some (none, ρ, js_u m o.toNat j z) else none
def js_pa (g c : Nat) (a i e : js_EE) : js_SS := fun ρ m => js_b (a ρ m) fun k m => js_b (i ρ m) fun i m => js_b (e ρ m) fun z m => if js_in g c k i && js_fit (if c = 22 then 6 else if c = 23 then 5 else 1) z then some (none, ρ, js_u m k.toNat i.toNat z) else none
/-- field op= e, place op= e -/
def js_of (g c j : Nat) (f : Int → Int → Int) (a e : js_EE) : js_SS := fun ρ m => js_b (a ρ m) fun o m => if js_is g c o then js_b (e ρ m) fun z m' => some (none, ρ, js_u m' o.toNat j (f (m o.toNat j) z)) else none
def js_oa (g c : Nat) (f : Int → Int → Int) (a i e : js_EE) : js_SS := fun ρ m => js_b (a ρ m) fun k m => js_b (i ρ m) fun i m => if js_in g c k i then js_b (e ρ m) fun z m' => some (none, ρ, js_u m' k.toNat i.toNat (f (m k.toNat i.toNat) z)) else none
def js_ex (e : js_EE) : js_SS := fun ρ m => js_b (e ρ m) fun _ m => some (none, ρ, m)
def js_bs (x : Option (Option Int × js_Ev × js_Mm)) (f : js_Ev → js_Mm → Option (Option Int × js_Ev × js_Mm)) : Option (Option Int × js_Ev × js_Mm) := match x with
  | some (none, ρ, m) => f ρ m
  | some (some v, ρ, m) => some (some v, ρ, m)
  | none => none
def js_sq (a b : js_SS) : js_SS := fun ρ m => js_bs (a ρ m) b
def js_if (c : js_CC) (a b : js_SS) : js_SS := fun ρ m => js_bc (c ρ m) (fun m => a ρ m) (fun m => b ρ m)
def js_wn (c : js_CC) (b : js_SS) : Nat → js_SS
  | 0 => fun _ _ => none
  | n + 1 => fun ρ m => js_bc (c ρ m) (fun m => js_bs (b ρ m) (js_wn c b n)) (fun m => some (none, ρ, m))
def js_fu : Nat := 5000
def js_wh (c : js_CC) (b : js_SS) : js_SS := js_wn c b js_fu
def js_tr (n : Nat) (ρ : js_Ev) : js_Ev := ρ.take n ++ List.replicate (ρ.length - n) (0, 0)
/-- a block: what it declares is gone behind it -/
def js_bk (n : Nat) (s : js_SS) : js_SS := fun ρ m => js_bs (s ρ m) fun ρ m => some (none, js_tr n ρ, m)
def js_rv (e : js_EE) : js_SS := fun ρ m => js_b (e ρ m) fun z m => some (some z, ρ, m)
def js_r0 : js_SS := fun ρ m => some (some 0, ρ, m)
/-- arraycopy of whole ranges between int arrays -/
def js_cpf (f g : Nat → Int) (sp dp n : Nat) : Nat → Int := fun k => if dp ≤ k ∧ k < dp + n then f (sp + (k - dp)) else g k
def js_ac (g : Nat) (a sp b dp n : js_EE) : js_SS := fun ρ m => js_bl (js_as [a, sp, b, dp, n] ρ m) fun zs m => match zs with
  | [a, sp, b, dp, n] =>
    if js_is g 20 a && js_is g 20 b && decide (0 ≤ sp) && decide (0 ≤ dp) && decide (0 ≤ n) && decide (sp + n ≤ ((js_sh g a.toNat).2 : Int)) && decide (dp + n ≤ ((js_sh g b.toNat).2 : Int))
    then some (none, ρ, js_uc m b.toNat (js_cpf (m a.toNat) (m b.toNat) sp.toNat dp.toNat n.toNat)) else none
  | _ => none
/-- switch -/
def js_pk (d : js_SS) (z : Int) : List (Int × js_SS) → js_SS
  | [] => d
  | (v, s) :: vs => if z = v then s else js_pk d z vs
def js_sw (e : js_EE) (vs : List (Int × js_SS)) (d : js_SS) : js_SS := fun ρ m => js_b (e ρ m) fun z m => js_pk d z vs ρ m
/-! methods -/
def js_ar : List Nat → List Int → js_Ev
  | t :: ts, z :: zs => if t = 2 then (2, z) :: (0, 0) :: js_ar ts zs else (t, z) :: js_ar ts zs
  | _, _ => []
def js_ev (ts : List Nat) (zs : List Int) (nL : Nat) : js_Ev := js_ar ts zs ++ List.replicate (nL - (js_ar ts zs).length) (0, 0)
def js_me (ts : List Nat) (nL tr : Nat) (b : js_SS) : js_FF := fun zs m => match b (js_ev ts zs nL) m with
  | some (some v, _, m) => if js_fit tr v then some (v, m) else none
  | _ => none
/-! string constants by number -/
def js_str : List (List Nat) := [[112, 101, 114, 115, 111, 110], [116, 105, 101], [115, 105, 108, 101, 110, 116], [97, 116], [115, 97, 121], [97, 115, 107, 115], [97, 110, 115, 119, 101, 114, 115], [98, 97, 114, 115], [106, 111, 105, 110, 115]]
def js_slF : js_FF := fun zs m => match zs with
  | [i] => if decide (0 ≤ i) && decide (i < 9) then some (((js_str.getD i.toNat []).length : Int), m) else none
  | _ => none
def js_scF : js_FF := fun zs m => match zs with
  | [i, j] => if decide (0 ≤ i) && decide (i < 9) && decide (0 ≤ j) && decide (j < ((js_str.getD i.toNat []).length : Int)) then some ((((js_str.getD i.toNat []).getD j.toNat 0 : Nat) : Int), m) else none
  | _ => none
end
