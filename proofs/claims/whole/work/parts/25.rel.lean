section
/-! ===== the relation between the class's memory and the reference's ===== -/
/-- tie k has p; the other one; how many of the first k ties have p, their sum -/
def tIs (ν : js_Mm) (p : Int) (k : Nat) : Bool := decide (ν 7 k = p) || decide (ν 8 k = p)
def tOt (ν : js_Mm) (p : Int) (k : Nat) : Int := if ν 7 k = p then ν 8 k else ν 7 k
def tCn (ν : js_Mm) (p : Int) : Nat → Int
  | 0 => 0
  | k + 1 => tCn ν p k + (if tIs ν p k = true then 1 else 0)
def tSm (ν : js_Mm) (p : Int) : Nat → Int
  | 0 => 0
  | k + 1 => tSm ν p k + (if tIs ν p k = true then ν 9 k else 0)
def rTx (μ ν : js_Mm) : Prop := (0 ≤ μ 1 1 ∧ μ 1 1 ≤ 600) ∧ ν 0 19 = μ 1 1 ∧ ∀ i : Nat, (i : Int) < μ 1 1 → ν 17 i = μ 2 i ∧ 0 ≤ μ 2 i ∧ μ 2 i < 256
def rRu (μ ν : js_Mm) : Prop := ν 0 24 = μ 0 15 ∧ ν 0 2 = μ 29 0 ∧ ν 0 3 = μ 29 1 ∧ (1 ≤ μ 29 0 ∧ μ 29 0 ≤ 20) ∧ (0 ≤ μ 29 1 ∧ μ 29 1 ≤ 100)
def rPe (μ ν : js_Mm) : Prop := (0 ≤ μ 3 0 ∧ μ 3 0 ≤ 24) ∧ ν 6 0 = μ 3 0 ∧ (0 ≤ μ 3 2 ∧ μ 3 2 < 16777216) ∧ ∀ p : Nat, (p : Int) < μ 3 0 → ν 3 p = μ 4 p ∧ (0 ≤ μ 4 p ∧ μ 4 p ≤ 100) ∧ ν 5 p = μ 5 p ∧ (-1 ≤ μ 5 p ∧ μ 5 p ≤ 3) ∧ ν 4 p = (if jb (μ 3 2) p = true then 1 else 0)
def rTi (μ ν : js_Mm) : Prop := (0 ≤ μ 3 1 ∧ μ 3 1 ≤ 60) ∧ ν 10 0 = μ 3 1 ∧
  (∀ k : Nat, (k : Int) < μ 3 1 → (0 ≤ ν 7 k ∧ ν 7 k < μ 3 0) ∧ (0 ≤ ν 8 k ∧ ν 8 k < μ 3 0) ∧ ν 7 k ≠ ν 8 k ∧ (1 ≤ ν 9 k ∧ ν 9 k ≤ 9)) ∧
  (∀ j k : Nat, j < k → (k : Int) < μ 3 1 → ¬ (ν 7 j = ν 7 k ∧ ν 8 j = ν 8 k) ∧ ¬ (ν 7 j = ν 8 k ∧ ν 8 j = ν 7 k)) ∧
  ∀ p : Nat, (p : Int) < μ 3 0 → μ 6 p = tCn ν p (μ 3 1).toNat ∧ μ 7 p = tSm ν p (μ 3 1).toNat ∧ μ 6 p < 24 ∧
    ∀ k : Nat, (k : Int) < μ 3 1 → tIs ν p k = true → μ 8 (24 * p + (tCn ν p k).toNat) = tOt ν p k ∧ μ 9 (24 * p + (tCn ν p k).toNat) = ν 9 k
def rLo (μ ν : js_Mm) : Prop := (0 ≤ μ 17 0 ∧ μ 17 0 ≤ 6) ∧ ν 16 0 = μ 17 0 ∧ ∀ s : Nat, (s : Int) < μ 17 0 →
  ν 11 s = μ 18 s ∧ (-1 ≤ μ 18 s ∧ μ 18 s ≤ 9) ∧ ν 12 s = μ 19 s ∧ (-1 ≤ μ 19 s ∧ μ 19 s ≤ 9) ∧ ν 13 s = μ 20 s ∧ (0 ≤ μ 20 s ∧ μ 20 s < 64) ∧ (∀ r : Nat, jb (μ 20 s) r = true → r < s) ∧
  ((ν 14 s = -1 ∧ ν 15 s = -1 ∧ μ 21 s = 0) ∨ ((0 ≤ ν 14 s ∧ ν 14 s < s) ∧ (0 ≤ ν 15 s ∧ ν 15 s < s) ∧ ν 14 s ≠ ν 15 s ∧ μ 21 s = jset (jset 0 (ν 14 s)) (ν 15 s))) ∧
  (0 ≤ μ 22 s ∧ μ 22 s < 64) ∧ ∀ r : Nat, jb (μ 22 s) r = (decide ((r : Int) < μ 17 0) && (jb (μ 20 s) r || jb (μ 20 r) s))
/-- what is held: how many, of the first k cells -/
def hCn (μ : js_Mm) (o : Nat) : Nat → Nat
  | 0 => 0
  | k + 1 => hCn μ o k + (if jb (μ (o + 1) (k / 6)) ((k % 6 : Nat) : Int) = true then 1 else 0)
/-- a course and a row: the pair of person p and saying s -/
def rCe (o x : Nat) (μ ν : js_Mm) (p s : Nat) : Prop :=
  ν 1 (x + (6 * p + s)) = (if jb (μ (o + 1) p) s = true then (if jb (μ (o + 2) p) s = true then 1 else 2) else 0) ∧
  (jb (μ (o + 2) p) s = true → jb (μ (o + 1) p) s = true) ∧
  (jb (μ (o + 1) p) s = true → (p : Int) < μ 3 0 ∧ (s : Int) < μ 17 0 ∧ ν 1 (x + 144 + (6 * p + s)) = μ (o + 3) (6 * p + s) ∧ ν 1 (x + 720 + (6 * p + s)) = μ (o + 4) (6 * p + s) ∧ ν 1 (x + 288 + (6 * p + s)) = μ (o + 5) (6 * p + s) ∧
    (μ (o + 3) (6 * p + s) = -2 ∨ μ (o + 3) (6 * p + s) = 24 ∨ (0 ≤ μ (o + 3) (6 * p + s) ∧ μ (o + 3) (6 * p + s) < μ 3 0)) ∧ (0 ≤ μ (o + 4) (6 * p + s) ∧ μ (o + 4) (6 * p + s) < μ 17 0)) ∧
  ν 1 (x + 432 + (6 * p + s)) = μ (o + 6) (6 * p + s) ∧ ν 1 (x + 576 + (6 * p + s)) = μ (o + 7) (6 * p + s) ∧ (0 ≤ μ (o + 7) (6 * p + s) ∧ μ (o + 7) (6 * p + s) < 16777216) ∧
  ∀ q : Nat, jb (μ (o + 7) (6 * p + s)) q = true → (q : Int) < μ 3 0 ∧ (s : Int) < μ 17 0 ∧ jb (μ (o + 1) q) s = true
def rRk (o : Nat) (μ : js_Mm) (rk : Nat → Nat) : Prop := ∀ p s : Nat, p < 24 → s < 6 → jb (μ (o + 1) p) s = true → rk (6 * p + s) < hCn μ o 144 ∧
  (0 ≤ μ (o + 3) (6 * p + s) → μ (o + 3) (6 * p + s) < 24 → jb (μ (o + 1) (μ (o + 3) (6 * p + s)).toNat) (μ (o + 4) (6 * p + s)) = true ∧ rk (6 * (μ (o + 3) (6 * p + s)).toNat + (μ (o + 4) (6 * p + s)).toNat) < rk (6 * p + s))
def rCo (o x : Nat) (μ ν : js_Mm) : Prop := (∀ p : Nat, p < 24 → (0 ≤ μ (o + 1) p ∧ μ (o + 1) p < 64) ∧ (0 ≤ μ (o + 2) p ∧ μ (o + 2) p < 64)) ∧ (∀ p s : Nat, p < 24 → s < 6 → rCe o x μ ν p s) ∧
  ν 1 (x + 864) = μ o 11 ∧ ν 1 (x + 865) = μ o 12 ∧ ν 1 (x + 866) = μ o 13 ∧ (0 ≤ μ o 13 ∧ μ o 13 < 2147483648) ∧ ∃ rk, rRk o μ rk
def rBe (o x : Nat) (μ ν : js_Mm) : Prop := (0 ≤ μ o 10 ∧ μ o 10 ≤ 40) ∧ ν 1 (x + 867) = μ o 10 ∧ ∀ i : Nat, (i : Int) < μ o 10 → ν 1 (x + 868 + 3 * i) = μ (o + 8) i ∧ ν 1 (x + 868 + 3 * i + 1) = μ (o + 9) i ∧ ν 1 (x + 868 + 3 * i + 2) = μ (o + 10) i ∧ (0 ≤ μ (o + 8) i ∧ μ (o + 8) i < μ 3 0) ∧ (0 ≤ μ (o + 9) i ∧ μ (o + 9) i < μ 17 0)
def rIm (i o x : Nat) (μ ν : js_Mm) : Prop := ν 2 i = μ o 14 ∧ (0 ≤ μ o 14 ∧ μ o 14 < 2) ∧ (μ o 14 = 1 → rCo o x μ ν ∧ rBe o x μ ν)
def rIn (μ ν : js_Mm) : Prop := ν 0 28 = μ 89 0 ∧ (0 ≤ μ 89 0 ∧ μ 89 0 < 16777216) ∧ ∀ p : Nat, jb (μ 89 0) p = true → (p : Int) < μ 3 0 ∧ ν 20 p = μ 90 p ∧ ν 21 p = μ 91 p ∧ (μ 90 p = -2 ∨ (0 ≤ μ 90 p ∧ μ 90 p < μ 3 0))
/-- the strength of the tie of two, by the ties -/
def tSt (ν : js_Mm) (a b : Int) : Nat → Int
  | 0 => 0
  | k + 1 => if a ≠ b ∧ tIs ν a k = true ∧ tIs ν b k = true then ν 9 k else tSt ν a b k
def rNe (μ ν : js_Mm) : Prop := (0 ≤ μ 92 6 ∧ μ 92 6 < 2) ∧ (μ 92 6 = 1 → ∀ p q : Nat, p < 10 → q < 10 → (p : Int) < μ 3 0 → (q : Int) < μ 3 0 → μ 93 (10 * p + q) = 1000 - tSt ν p q (μ 3 1).toNat * μ 4 p / 10)
def rLa (μ ν : js_Mm) : Prop := (∀ k : Nat, k < 144 → ν 25 k = μ 98 k ∧ 0 ≤ μ 98 k ∧ μ 98 k ≤ 30) ∧ (0 ≤ ν 0 36 ∧ ν 0 36 < 4096) ∧ μ 97 3 = jpc (ν 0 36) 12 ∧ ∀ i : Nat, i < 12 → (jb (ν 0 36) i = true → ν 27 i = μ 100 i ∧ 0 ≤ μ 100 i ∧ μ 100 i ≤ 999) ∧ (jb (ν 0 36) i = false → μ 100 i = -1)
def RR (μ ν : js_Mm) : Prop := rTx μ ν ∧ rRu μ ν ∧ rPe μ ν ∧ rTi μ ν ∧ rLo μ ν ∧ rCo 31 0 μ ν ∧ rBe 31 0 μ ν ∧ rIm 0 65 2000 μ ν ∧ rIm 1 76 3000 μ ν ∧ rIn μ ν ∧ rNe μ ν ∧ rLa μ ν
/-! places that the relation looks at -/
def oC (k j : Nat) : Bool := (k == 0 && j == 15) || (k == 1 && j == 1) || k == 2 || (Nat.ble 3 k && Nat.ble k 9) || (Nat.ble 17 k && Nat.ble k 22) || k == 29 || (Nat.ble 31 k && Nat.ble k 41) || (Nat.ble 65 k && Nat.ble k 86) || (Nat.ble 89 k && Nat.ble k 91) || (k == 92 && j == 6) || k == 93 || (k == 97 && j == 3) || k == 98 || k == 100
def oM (k j : Nat) : Bool := (k == 0 && (j == 2 || j == 3 || j == 19 || j == 24 || j == 28 || j == 36)) || (k == 1 && (Nat.blt j 1000 || Nat.ble 2000 j)) || k == 2 || ((k == 3 || k == 4 || k == 5) && Nat.blt j 24) || (k == 6 && j == 0) || ((k == 7 || k == 8 || k == 9) && Nat.blt j 60) || (k == 10 && j == 0) || (Nat.ble 11 k && Nat.ble k 15 && Nat.blt j 6) || (k == 16 && j == 0) || k == 17 || k == 20 || k == 21 || k == 25 || k == 27
end
