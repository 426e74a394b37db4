section
def js_tb : List Cond := lw_tbl.filter goodWord
/-- what is fixed of a method: region, code, locals, its class's name, rank, end (0 void, 1 int, 5 truth) -/
abbrev js_Ks : Type := Nat × ByteArray × Nat × String × Nat × Nat
abbrev kG (κ : js_Ks) : Nat := κ.1
abbrev kC (κ : js_Ks) : ByteArray := κ.2.1
abbrev kN (κ : js_Ks) : Nat := κ.2.2.1
abbrev kO (κ : js_Ks) : String := κ.2.2.2.1
abbrev kR (κ : js_Ks) : Nat := κ.2.2.2.2.1
abbrev kT (κ : js_Ks) : Nat := κ.2.2.2.2.2
/-- the tables that a run goes by: addresses, class tables, array classes, string constants and their bytes -/
abbrev js_Tb : Type := (Nat → Nat) × va_G × (Nat → ClassId) × (Nat → Nat) × (Nat → Nat)
abbrev tA (τ : js_Tb) : Nat → Nat := τ.1
abbrev tD (τ : js_Tb) : va_G := τ.2.1
abbrev tC (τ : js_Tb) : Nat → ClassId := τ.2.2.1
abbrev tK (τ : js_Tb) : Nat → Nat := τ.2.2.2.1
abbrev tV (τ : js_Tb) : Nat → Nat := τ.2.2.2.2
/-- a run: the machine, the frame, the end, the tables, what comes out -/
abbrev js_Cx : Type := Program × Launch × Env × State × MethodId × Array Value × List Frame × Method × Code × (State → Prop) × js_Tb × Int × js_Mm
abbrev xP (X : js_Cx) : Program := X.1
abbrev xL (X : js_Cx) : Launch := X.2.1
abbrev xE (X : js_Cx) : Env := X.2.2.1
abbrev xS (X : js_Cx) : State := X.2.2.2.1
abbrev xM (X : js_Cx) : MethodId := X.2.2.2.2.1
abbrev xA (X : js_Cx) : Array Value := X.2.2.2.2.2.1
abbrev xB (X : js_Cx) : List Frame := X.2.2.2.2.2.2.1
abbrev xH (X : js_Cx) : Method := X.2.2.2.2.2.2.2.1
abbrev xC (X : js_Cx) : Code := X.2.2.2.2.2.2.2.2.1
abbrev xQ (X : js_Cx) : State → Prop := X.2.2.2.2.2.2.2.2.2.1
abbrev xT (X : js_Cx) : js_Tb := X.2.2.2.2.2.2.2.2.2.2.1
abbrev xv (X : js_Cx) : Int := X.2.2.2.2.2.2.2.2.2.2.2.1
abbrev xm (X : js_Cx) : js_Mm := X.2.2.2.2.2.2.2.2.2.2.2.2
def js_rm (rk : Nat) : Room := { frames := rk, cells := 0, slots := 0, locals := 36 * rk }
def js_W (κ : js_Ks) (X : js_Cx) (H : Heap) (locs : List Loc) (pc : Nat) (ls : Array Slot) (st : List Value) : Prop := W (xP X) (xL X) (xE X) (js_rm (kR κ)) (xS X) (xM X) (xA X) (xB X) (xH X) (xC X) H locs 0 0 (xQ X) (F0 (xM X) pc ls st)
def js_Ax (g : Nat) (ad : Nat → Nat) (sz : Nat) : Nat → Prop := fun q => (∃ k, k < js_n g ∧ q = ad k) ∨ sz ≤ q
/-- the memory is held -/
def js_hd (κ : js_Ks) (X : js_Cx) (μ : js_Mm) (H : Heap) (locs : List Loc) : Prop :=
  va_P (tD (xT X)) vwCl (js_ws (kG κ) (tA (xT X)) (tC (xT X)) μ) H ∧ va_D (js_Ax (kG κ) (tA (xT X)) (xS X).heap.size) (js_ws (kG κ) (tA (xT X)) (tC (xT X)) μ) ∧ va_S (js_Ax (kG κ) (tA (xT X)) (xS X).heap.size) (xS X).heap H locs ∧ js_can (kG κ) μ
/-- string constants: their classes, entries, texts, bytes -/
def js_so : List (String × Nat × String) := [("TwoRumours$Town", 55, "person"), ("TwoRumours$Town", 65, "tie"), ("TwoRumours$Town", 81, "silent"), ("TwoRumours$Town", 85, "at"), ("TwoRumours$Lore", 46, "say"), ("TwoRumours$Lore", 63, "asks"), ("TwoRumours$Lore", 71, "answers"), ("TwoRumours$Lore", 72, "bars"), ("TwoRumours$Lore", 77, "joins")]
def js_sl : List Nat := js_str.map List.length
def js_sb : List (List Int32) := js_str.map (fun l => l.map nI)
def js_sg (τ : js_Tb) (A : Nat → Prop) (U : State) (H : Heap) : Prop :=
  vk_S 9 js_sl js_sb (tK τ) (tV τ) A U H ∧ (∀ i q, js_so[i]? = some q → vk_R q.1 q.2.1 q.2.2 (tK τ i) U) ∧ va_Z "java/lang/String" "COMPACT_STRINGS" "Z" (.int 1) A U H ∧ va_Zq "jdk/internal/util/Preconditions" "SIOOBE_FORMATTER" "Ljava/util/function/BiFunction;" A U H
/-- a method's end -/
def js_en (κ : js_Ks) (X : js_Cx) : Prop := ∀ (H : Heap) (locs : List Loc) (pc : Nat) (ls : Array Slot), js_hd κ X (xm X) H locs →
  (kT κ ≠ 0 → js_rg (kG κ) 1 (xv X) → decode (kC κ) pc = .ok (.ireturn, 1) → js_W κ X H locs pc ls [.int (Int32.ofInt (xv X))]) ∧ (kT κ = 0 → decode (kC κ) pc = .ok (.return_, 1) → js_W κ X H locs pc ls [])
def js_ok (κ : js_Ks) (X : js_Cx) : Prop := (xP X).tables.exec = Jvm.exec ∧ (xC X).code = kC κ ∧ (xC X).maxLocals = kN κ ∧ (xS X).vm.findClass (kO κ) = some (xM X).cls ∧ (∀ w ∈ js_tb, w.before (xA X) (xS X) = true) ∧ va_K (tD (xT X)) vwCl (js_tys (tC (xT X))) (xS X) ∧ js_sg (xT X) (js_Ax (kG κ) (tA (xT X)) (xS X).heap.size) (xS X) (xS X).heap ∧ js_en κ X
/-- a number as the machine has it -/
def js_val (τ : js_Tb) (t : Nat) (z : Int) : Value := if t = 3 then .ref (tA τ z.toNat) else if t = 2 then .long (Int64.ofInt z) else if t = 4 then .ref (tK τ z.toNat) else .int (Int32.ofInt z)
def js_lv (κ : js_Ks) (X : js_Cx) (ρ : js_Ev) (ls : Array Slot) : Prop := ls.size = kN κ ∧ lv_wf ls ∧ ρ.length = kN κ ∧ ∀ (i t : Nat) (z : Int), ρ[i]? = some (t, z) → t ≠ 0 → js_rg (kG κ) t z ∧ ls[i]? = some (Slot.val (js_val (xT X) t z))
def js_sm (k : Nat) (st : List Value) : Prop := (st.map fun v => v.category).sum ≤ k
def js_ct (t : Nat) : Nat := if t = 2 then 2 else 1
def ok_E (κ : js_Ks) (k pc pc' t : Nat) (e : js_EE) : Prop := ∀ X, js_ok κ X → ∀ ρ μ z μ' ls st H locs, e ρ μ = some (z, μ') → js_lv κ X ρ ls → js_hd κ X μ H locs → js_sm k st →
  (js_rg (kG κ) t z → ∀ H' locs', js_hd κ X μ' H' locs' → js_W κ X H' locs' pc' ls (js_val (xT X) t z :: st)) → js_W κ X H locs pc ls st
/-- an expression of no value -/
def ok_V (κ : js_Ks) (k pc pc' : Nat) (e : js_EE) : Prop := ∀ X, js_ok κ X → ∀ ρ μ z μ' ls st H locs, e ρ μ = some (z, μ') → js_lv κ X ρ ls → js_hd κ X μ H locs → js_sm k st →
  (∀ H' locs', js_hd κ X μ' H' locs' → js_W κ X H' locs' pc' ls st) → js_W κ X H locs pc ls st
def ok_C (κ : js_Ks) (k pc t f : Nat) (c : js_CC) : Prop := ∀ X, js_ok κ X → ∀ ρ μ b μ' ls st H locs, c ρ μ = some (b, μ') → js_lv κ X ρ ls → js_hd κ X μ H locs → js_sm k st →
  (∀ H' locs', js_hd κ X μ' H' locs' → js_W κ X H' locs' (if b = true then t else f) ls st) → js_W κ X H locs pc ls st
def js_ag (g : Nat) : List Nat → List Int → Prop
  | [], [] => True
  | t :: ts, z :: zs => js_rg g t z ∧ js_ag g ts zs
  | _, _ => False
def js_vs (τ : js_Tb) : List Nat → List Int → List Value
  | t :: ts, z :: zs => js_val τ t z :: js_vs τ ts zs
  | _, _ => []
def ok_A (κ : js_Ks) (k pc pc' : Nat) (ts : List Nat) (as : List js_EE) : Prop := ∀ X, js_ok κ X → ∀ ρ μ zs μ' ls st H locs, js_as as ρ μ = some (zs, μ') → js_lv κ X ρ ls → js_hd κ X μ H locs → js_sm k st →
  (js_ag (kG κ) ts zs → ∀ H' locs', js_hd κ X μ' H' locs' → js_W κ X H' locs' pc' ls ((js_vs (xT X) ts zs).reverse ++ st)) → js_W κ X H locs pc ls st
def ok_S (κ : js_Ks) (pc pc' : Nat) (s : js_SS) : Prop := ∀ X, js_ok κ X → ∀ ρ μ r ρ' μ' ls H locs, s ρ μ = some (r, ρ', μ') → js_lv κ X ρ ls → js_hd κ X μ H locs →
  (r = none → ∀ ls' H' locs', js_lv κ X ρ' ls' → js_hd κ X μ' H' locs' → js_W κ X H' locs' pc' ls' []) → (∀ v, r = some v → v = xv X ∧ μ' = xm X) → js_W κ X H locs pc ls []
end
