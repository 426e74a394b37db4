section
/-! ===== numbers: what the operations give in their range ===== -/
theorem jz_add {x y : Int} (h : -2147483648 ≤ x + y ∧ x + y < 2147483648) : js_add x y = x + y := by
  unfold js_add
  rw [← Int32.ofInt_add]
  exact js_i32 h
theorem jz_sub {x y : Int} (h : -2147483648 ≤ x - y ∧ x - y < 2147483648) : js_sub x y = x - y := by
  unfold js_sub
  rw [← Int32.ofInt_sub]
  exact js_i32 h
theorem jz_mul {x y : Int} (h : -2147483648 ≤ x * y ∧ x * y < 2147483648) : js_mul x y = x * y := by
  unfold js_mul
  rw [← Int32.ofInt_mul]
  exact js_i32 h
theorem jz_nat {x : Int} (h : 0 ≤ x) : ∃ n : Nat, x = (n : Int) := Int.eq_ofNat_of_zero_le h
theorem jz_div {x y : Int} (h : 0 ≤ x ∧ x < 2147483648) (h2 : 0 < y ∧ y < 2147483648) : js_div x y = x / y := by
  obtain ⟨a, rfl⟩ := jz_nat h.1
  obtain ⟨b, rfl⟩ := jz_nat (Int.le_of_lt h2.1)
  show (nI a / nI b).toInt = _
  rw [pk_div (by omega) (by omega) (by omega), nI_toInt (by have := Nat.div_le_self a b; omega)]
  rfl
theorem jz_rem {x y : Int} (h : 0 ≤ x ∧ x < 2147483648) (h2 : 0 < y ∧ y < 2147483648) : js_rem x y = x % y := by
  obtain ⟨a, rfl⟩ := jz_nat h.1
  obtain ⟨b, rfl⟩ := jz_nat (Int.le_of_lt h2.1)
  show (nI a - nI a / nI b * nI b).toInt = _
  rw [pk_rem (by omega) (by omega) (by omega), nI_toInt (by have := Nat.mod_le a b; omega)]
  rfl
theorem jz_ladd {x y : Int} (h : -9223372036854775808 ≤ x + y ∧ x + y < 9223372036854775808) : js_ladd x y = x + y := by
  unfold js_ladd
  rw [← Int64.ofInt_add]
  exact js_i64 h
theorem jz_lsub {x y : Int} (h : -9223372036854775808 ≤ x - y ∧ x - y < 9223372036854775808) : js_lsub x y = x - y := by
  unfold js_lsub
  rw [← Int64.ofInt_sub]
  exact js_i64 h
theorem jz_lmul {x y : Int} (h : -9223372036854775808 ≤ x * y ∧ x * y < 9223372036854775808) : js_lmul x y = x * y := by
  unfold js_lmul
  rw [← Int64.ofInt_mul]
  exact js_i64 h
theorem jz_ldiv {x y : Int} (h : 0 ≤ x ∧ x < 9223372036854775808) (h2 : 0 < y ∧ y < 9223372036854775808) : js_ldiv x y = x / y := by
  obtain ⟨a, rfl⟩ := jz_nat h.1
  obtain ⟨b, rfl⟩ := jz_nat (Int.le_of_lt h2.1)
  show (lN a / lN b).toInt = _
  rw [pk_lDiv (by omega) (by omega) (by omega), pk_lT (by have := Nat.div_le_self a b; omega)]
  rfl
theorem jz_lrem {x y : Int} (h : 0 ≤ x ∧ x < 9223372036854775808) (h2 : 0 < y ∧ y < 9223372036854775808) : js_lrem x y = x % y := by
  obtain ⟨a, rfl⟩ := jz_nat h.1
  obtain ⟨b, rfl⟩ := jz_nat (Int.le_of_lt h2.1)
  show (lN a - lN a / lN b * lN b).toInt = _
  rw [pk_lRem (by omega) (by omega) (by omega), pk_lT (by have := Nat.mod_le a b; omega)]
  rfl
theorem jz_i2l {x : Int} (h : -2147483648 ≤ x ∧ x < 2147483648) : js_i2l x = x := by
  unfold js_i2l
  rw [Int32.toInt_toInt64]
  exact js_i32 h
theorem jz_l2i {x : Int} (h : -2147483648 ≤ x ∧ x < 2147483648) : js_l2i x = x := by
  unfold js_l2i
  rw [Int64.toInt_toInt32, js_i64 ⟨by omega, by omega⟩]
  show x.bmod 4294967296 = x
  exact Int.bmod_eq_of_le (by omega) (by omega)
/-! bits -/
def jb (x k : Int) : Bool := x.toNat.testBit k.toNat
theorem jz_andN (a b : Nat) : nI a &&& nI b = nI (a &&& b) := by
  apply Int32.toBitVec_inj.1
  show BitVec.ofNat 32 a &&& BitVec.ofNat 32 b = BitVec.ofNat 32 (a &&& b)
  apply BitVec.eq_of_getLsbD_eq
  intro i hi
  simp [hi]
theorem jz_orN (a b : Nat) : nI a ||| nI b = nI (a ||| b) := by
  apply Int32.toBitVec_inj.1
  show BitVec.ofNat 32 a ||| BitVec.ofNat 32 b = BitVec.ofNat 32 (a ||| b)
  apply BitVec.eq_of_getLsbD_eq
  intro i hi
  simp [hi]
theorem jz_sl : ∀ n, n < 32 → ((nI n &&& 31).toBitVec.smod 32).toNat = n := by decide +kernel
theorem jz_and {x y : Int} (hx : 0 ≤ x ∧ x < 2147483648) (hy : 0 ≤ y ∧ y < 2147483648) : js_and x y = ((x.toNat &&& y.toNat : Nat) : Int) := by
  obtain ⟨a, rfl⟩ := jz_nat hx.1
  obtain ⟨b, rfl⟩ := jz_nat hy.1
  show (nI a &&& nI b).toInt = _
  rw [jz_andN, nI_toInt (by have := Nat.and_le_left (n := a) (m := b); omega)]
  rfl
theorem jz_or {x y : Int} (hx : 0 ≤ x ∧ x < 2147483648) (hy : 0 ≤ y ∧ y < 2147483648) : js_or x y = ((x.toNat ||| y.toNat : Nat) : Int) := by
  obtain ⟨a, rfl⟩ := jz_nat hx.1
  obtain ⟨b, rfl⟩ := jz_nat hy.1
  show (nI a ||| nI b).toInt = _
  rw [jz_orN, nI_toInt (by have := Nat.or_lt_two_pow (n := 31) (x := a) (y := b) (by omega) (by omega); omega)]
  rfl
theorem jz_shr {x k : Int} (hx : 0 ≤ x ∧ x < 2147483648) (hk : 0 ≤ k ∧ k < 32) : js_shr x k = ((x.toNat / 2 ^ k.toNat : Nat) : Int) := by
  obtain ⟨a, rfl⟩ := jz_nat hx.1
  obtain ⟨n, rfl⟩ := jz_nat hk.1
  show (nI a >>> (nI n &&& 31)).toInt = _
  rw [pk_shrN (by omega) _ n (jz_sl n (by omega)), nI_toInt (by have := Nat.div_le_self a (2 ^ n); omega)]
  rfl
theorem jz_bit {x k : Int} (hx : 0 ≤ x ∧ x < 2147483648) (hk : 0 ≤ k ∧ k < 31) : js_and (js_shr x k) 1 = if jb x k = true then 1 else 0 := by
  rw [jz_shr hx ⟨hk.1, by omega⟩, jz_and ⟨Int.natCast_nonneg _, by have := Nat.div_le_self x.toNat (2 ^ k.toNat); omega⟩ ⟨by decide, by decide⟩]
  show (((x.toNat / 2 ^ k.toNat) &&& 1 : Nat) : Int) = _
  rw [Nat.and_one_is_mod]
  unfold jb
  rw [Nat.testBit_eq_decide_div_mod_eq]
  by_cases h : x.toNat / 2 ^ k.toNat % 2 = 1
  · simp [h]
  · have : x.toNat / 2 ^ k.toNat % 2 = 0 := by omega
    simp [this]
theorem jz_shl1 {k : Int} (hk : 0 ≤ k ∧ k < 31) : js_shl 1 k = ((2 ^ k.toNat : Nat) : Int) := by
  obtain ⟨n, rfl⟩ := jz_nat hk.1
  exact (by decide +kernel : ∀ n : Nat, n < 31 → js_shl 1 (n : Int) = ((2 ^ ((n : Int)).toNat : Nat) : Int)) n (by omega)
theorem jz_shl0 {k : Int} (hk : 0 ≤ k ∧ k < 31) : js_shl 0 k = 0 := by
  obtain ⟨n, rfl⟩ := jz_nat hk.1
  exact (by decide +kernel : ∀ n : Nat, n < 31 → js_shl 0 (n : Int) = 0) n (by omega)
/-- x with bit p set -/
def jset (x p : Int) : Int := ((x.toNat ||| 2 ^ p.toNat : Nat) : Int)
theorem jz_pow {p : Int} (hp : 0 ≤ p ∧ p < 31) : (2 ^ p.toNat : Nat) < 2147483648 := by
  have h : (2 ^ p.toNat : Nat) < 2 ^ 31 := Nat.pow_lt_pow_right (by omega) (by omega)
  omega
theorem jz_set {x p : Int} (hx : 0 ≤ x ∧ x < 2147483648) (hp : 0 ≤ p ∧ p < 31) : js_or x (js_shl 1 p) = jset x p := by
  have h2 := jz_pow hp
  rw [jz_shl1 hp, jz_or hx ⟨Int.natCast_nonneg _, by omega⟩]
  rfl
theorem jset_rg {x p : Int} (n : Nat) (hx : 0 ≤ x ∧ x < ((2 ^ n : Nat) : Int)) (hp : 0 ≤ p ∧ p < n) : 0 ≤ jset x p ∧ jset x p < ((2 ^ n : Nat) : Int) := by
  unfold jset
  have h1 : (2 ^ p.toNat : Nat) < 2 ^ n := Nat.pow_lt_pow_right (by omega) (by omega)
  have := Nat.or_lt_two_pow (n := n) (x := x.toNat) (y := 2 ^ p.toNat) (by omega) h1
  omega
theorem jset_24 {x p : Int} (hx : 0 ≤ x ∧ x < 16777216) (hp : 0 ≤ p ∧ p < 24) : 0 ≤ jset x p ∧ jset x p < 16777216 := jset_rg 24 hx hp
theorem jset_6 {x p : Int} (hx : 0 ≤ x ∧ x < 64) (hp : 0 ≤ p ∧ p < 6) : 0 ≤ jset x p ∧ jset x p < 64 := jset_rg 6 hx hp
theorem jb_set {x p k : Int} (hp : 0 ≤ p) (hk : 0 ≤ k) : jb (jset x p) k = (jb x k || decide (k = p)) := by
  unfold jb jset
  rw [Int.toNat_natCast, Nat.testBit_or]
  congr 1
  rw [Nat.testBit_two_pow]
  by_cases h : k = p
  · subst h; simp
  · have : ¬ p.toNat = k.toNat := by omega
    simp [h, this]
theorem jb_zero (k : Int) : jb 0 k = false := by unfold jb; simp
theorem jb_lt {x k : Int} (n : Nat) (hx : x < ((2 ^ n : Nat) : Int)) (hk : (n : Int) ≤ k) : jb x k = false := by
  unfold jb
  apply Nat.testBit_lt_two_pow
  have h1 : (2 ^ n : Nat) ≤ 2 ^ k.toNat := Nat.pow_le_pow_right (by omega) (by omega)
  have h2 : 0 < (2 ^ n : Nat) := Nat.two_pow_pos n
  omega
theorem jb_ext {x y : Int} (hx : 0 ≤ x) (hy : 0 ≤ y) (h : ∀ k : Nat, jb x k = jb y k) : x = y := by
  have : x.toNat = y.toNat := Nat.eq_of_testBit_eq (fun i => by have := h i; unfold jb at this; simpa using this)
  omega
theorem jb_pos {x : Int} (hx : 0 ≤ x) (h : x ≠ 0) : ∃ k : Nat, jb x k = true := by
  apply Classical.byContradiction
  intro hn
  apply h
  apply jb_ext hx (Int.le_refl 0)
  intro k
  rw [jb_zero]
  cases hk : jb x k with
  | false => rfl
  | true => exact absurd ⟨k, hk⟩ hn
/-- x without the bits of y -/
def jdif (x y : Int) : Int := js_and x (js_xor y (-1))
theorem jz_dif {x y : Int} (hx : 0 ≤ x ∧ x < 2147483648) (hy : 0 ≤ y ∧ y < 2147483648) : (0 ≤ jdif x y ∧ jdif x y ≤ x) ∧ ∀ k : Int, 0 ≤ k → jb (jdif x y) k = (jb x k && !jb y k) := by
  obtain ⟨a, rfl⟩ := jz_nat hx.1
  obtain ⟨b, rfl⟩ := jz_nat hy.1
  have e : jdif (a : Int) (b : Int) = (nI a &&& (nI b ^^^ (-1))).toInt := by
    unfold jdif js_and js_xor
    rw [js_oi]
    rfl
  have hb2 : (nI a &&& (nI b ^^^ (-1))) = nI (a &&& (4294967295 - b)) := by
    apply Int32.toBitVec_inj.1
    show BitVec.ofNat 32 a &&& (BitVec.ofNat 32 b ^^^ BitVec.allOnes 32) = BitVec.ofNat 32 (a &&& (4294967295 - b))
    have h2 : BitVec.ofNat 32 b ^^^ BitVec.allOnes 32 = BitVec.ofNat 32 (4294967295 - b) := by
      rw [BitVec.xor_allOnes]
      apply BitVec.eq_of_toNat_eq
      rw [BitVec.toNat_not, BitVec.toNat_ofNat, BitVec.toNat_ofNat]
      omega
    rw [h2]
    apply BitVec.eq_of_getLsbD_eq
    intro i hi
    simp [hi]
  have hle : a &&& (4294967295 - b) ≤ a := Nat.and_le_left
  rw [e, hb2, nI_toInt (by omega)]
  refine ⟨⟨by omega, by omega⟩, fun k hk => ?_⟩
  obtain ⟨n, rfl⟩ := jz_nat hk
  unfold jb
  simp only [Int.toNat_natCast]
  rw [Nat.testBit_and]
  have e3 : (4294967295 - b : Nat) = 2 ^ 32 - (b + 1) := by omega
  rw [e3, Nat.testBit_two_pow_sub_succ (by omega)]
  by_cases hn : n < 32
  · simp [hn]
  · have : a.testBit n = false := Nat.testBit_lt_two_pow (by
      have h1 : (2 ^ 32 : Nat) ≤ 2 ^ n := Nat.pow_le_pow_right (by omega) (by omega)
      omega)
    simp [this]
/-- how many of the first n bits -/
def jpc (x : Int) : Nat → Int
  | 0 => 0
  | n + 1 => jpc x n + (if jb x n = true then 1 else 0)
theorem jpc_rg (x : Int) : ∀ n : Nat, 0 ≤ jpc x n ∧ jpc x n ≤ n
  | 0 => ⟨Int.le_refl 0, Int.le_refl 0⟩
  | n + 1 => by
    have h := jpc_rg x n
    unfold jpc
    by_cases hb : jb x n = true
    · rw [if_pos hb]; omega
    · rw [if_neg hb]; omega
end
