section
/-- sums -/
def sm (f : Nat → Int) : Nat → Int
  | 0 => 0
  | k + 1 => sm f k + f k
theorem sm_cg {f g : Nat → Int} : ∀ n, (∀ i, i < n → f i = g i) → sm f n = sm g n
  | 0, _ => rfl
  | n + 1, h => by
    show sm f n + f n = sm g n + g n
    rw [sm_cg n (fun i hi => h i (by omega)), h n (by omega)]
theorem sm_add (f g : Nat → Int) : ∀ n, sm (fun x => f x + g x) n = sm f n + sm g n
  | 0 => rfl
  | n + 1 => by
    show sm (fun x => f x + g x) n + (f n + g n) = sm f n + f n + (sm g n + g n)
    rw [sm_add f g n]
    omega
theorem sm_zero {f : Nat → Int} : ∀ n, (∀ i, i < n → f i = 0) → sm f n = 0
  | 0, _ => rfl
  | n + 1, h => by
    show sm f n + f n = 0
    rw [sm_zero n (fun i hi => h i (by omega)), h n (by omega)]
    rfl
theorem sm_nn {f : Nat → Int} : ∀ n, (∀ i, i < n → 0 ≤ f i) → 0 ≤ sm f n
  | 0, _ => by show (0 : Int) ≤ 0; omega
  | n + 1, h => by
    have h1 := sm_nn n (fun i hi => h i (by omega))
    have h2 := h n (by omega)
    show 0 ≤ sm f n + f n
    omega
theorem sm_le {f : Nat → Int} {i : Nat} : ∀ n, (∀ i, i < n → 0 ≤ f i) → i < n → f i ≤ sm f n
  | 0, _, hi => by omega
  | n + 1, h, hi => by
    have h1 := sm_nn n (fun i hi => h i (by omega))
    have h2 := h n (by omega)
    show f i ≤ sm f n + f n
    by_cases q : i = n
    · subst q; omega
    · have := sm_le (f := f) (i := i) n (fun i hi => h i (by omega)) (by omega)
      omega
theorem sm_mono {f : Nat → Int} {m : Nat} : ∀ d, (∀ i, i < m + d → 0 ≤ f i) → sm f m ≤ sm f (m + d)
  | 0, _ => by show sm f m ≤ sm f m; omega
  | d + 1, h => by
    have h1 := sm_mono (m := m) d (fun i hi => h i (by omega))
    have h2 := h (m + d) (by omega)
    show sm f m ≤ sm f (m + d) + f (m + d)
    omega
def up (f : Nat → Int) (a : Nat) (v : Int) : Nat → Int := fun x => if x = a then v else f x
theorem sm_up0 {f : Nat → Int} {a : Nat} {v : Int} : ∀ n, n ≤ a → sm (up f a v) n = sm f n
  | 0, _ => rfl
  | n + 1, h => by
    show sm (up f a v) n + up f a v n = sm f n + f n
    rw [sm_up0 n (by omega)]
    unfold up
    rw [if_neg (by omega)]
theorem sm_up {f : Nat → Int} {a : Nat} {v : Int} : ∀ n, a < n → sm (up f a v) n = sm f n + (v - f a)
  | 0, h => by omega
  | n + 1, h => by
    show sm (up f a v) n + up f a v n = sm f n + f n + (v - f a)
    by_cases q : a = n
    · subst q
      rw [sm_up0 a (by omega)]
      unfold up
      rw [if_pos rfl]
      omega
    · rw [sm_up n (by omega)]
      unfold up
      rw [if_neg (by omega)]
      omega
/-- bits of natural numbers -/
theorem tb_or (x p j : Nat) : (x ||| 2 ^ p).testBit j = (x.testBit j || decide (p = j)) := by
  rw [Nat.testBit_or, Nat.testBit_two_pow]
def bcl (x p : Nat) : Nat := x ^^^ 2 ^ p
theorem tb_clr (x p j : Nat) : (bcl x p).testBit j = (x.testBit j != decide (p = j)) := by
  unfold bcl
  rw [Nat.testBit_xor, Nat.testBit_two_pow]
theorem clr_or {x p : Nat} (h : x.testBit p = true) : bcl x p ||| 2 ^ p = x := by
  apply Nat.eq_of_testBit_eq
  intro j
  rw [tb_or, tb_clr]
  by_cases q : p = j
  · subst q; simp [h]
  · simp [q]
theorem or_clr {x p : Nat} (h : x.testBit p = false) : bcl (x ||| 2 ^ p) p = x := by
  apply Nat.eq_of_testBit_eq
  intro j
  rw [tb_clr, tb_or]
  by_cases q : p = j
  · subst q; simp [h]
  · simp [q]
theorem clr_lt {x p : Nat} (h : x.testBit p = true) : bcl x p < x := by
  have h1 : bcl x p ≤ bcl x p ||| 2 ^ p := Nat.left_le_or
  rw [clr_or h] at h1
  have h2 : bcl x p ≠ x := fun e => by
    have := tb_clr x p p
    rw [e, h] at this
    simp at this
  omega
theorem clr_no {x p : Nat} (h : x.testBit p = true) : (bcl x p).testBit p = false := by
  rw [tb_clr, h]
  simp
theorem or_gt {x p : Nat} (h : x.testBit p = false) : x < x ||| 2 ^ p := by
  have h1 : x ≤ x ||| 2 ^ p := Nat.left_le_or
  have h2 : x ≠ x ||| 2 ^ p := fun e => by
    have := tb_or x p p
    rw [← e, h] at this
    simp at this
  omega
theorem or_lt {x p n : Nat} (h : x < 2 ^ n) (hp : p < n) : x ||| 2 ^ p < 2 ^ n := Nat.or_lt_two_pow h (Nat.pow_lt_pow_right (by omega) hp)
theorem tb_hi {x n j : Nat} (h : x < 2 ^ n) (hj : n ≤ j) : x.testBit j = false := Nat.testBit_lt_two_pow (Nat.lt_of_lt_of_le h (Nat.pow_le_pow_right (by omega) hj))
/-- a step by p: what goes from the sets without p to those with it -/
def psf (f : Nat → Int) (p : Nat) (t : Int) : Nat → Int := fun x => if x.testBit p = true then f x + f (bcl x p) * t / 1000 else f x - f x * t / 1000
/-- the same, for the sets below k alone -/
def psq (f : Nat → Int) (p : Nat) (t : Int) (k : Nat) : Nat → Int := fun x => if x.testBit p = true then f x + (if bcl x p < k then f (bcl x p) * t / 1000 else 0) else (if x < k then f x - f x * t / 1000 else f x)
theorem psq_k {f : Nat → Int} {p k : Nat} {t : Int} (h : k.testBit p = false) : psq f p t k k = f k := by
  unfold psq
  rw [h, if_neg (by simp), if_neg (by omega)]
theorem psq_s {f : Nat → Int} {p k : Nat} {t : Int} (h : k.testBit p = false) : psq f p t (k + 1) = up (up (psq f p t k) (k ||| 2 ^ p) (psq f p t k (k ||| 2 ^ p) + f k * t / 1000)) k (f k - f k * t / 1000) := by
  funext x
  have hb : (k ||| 2 ^ p).testBit p = true := by rw [tb_or, h]; simp
  unfold up
  by_cases q : x = k
  · subst q
    rw [if_pos rfl]
    unfold psq
    rw [h, if_neg (by simp), if_pos (by omega)]
  · rw [if_neg q]
    by_cases q2 : x = k ||| 2 ^ p
    · subst q2
      rw [if_pos rfl]
      unfold psq
      rw [hb, if_pos rfl, if_pos rfl, or_clr h, if_pos (by omega), if_neg (by omega)]
      omega
    · rw [if_neg q2]
      unfold psq
      by_cases q3 : x.testBit p = true
      · rw [if_pos q3, if_pos q3]
        have q4 : bcl x p ≠ k := fun e => q2 (by rw [← e, clr_or q3])
        by_cases q5 : bcl x p < k
        · rw [if_pos q5, if_pos (by omega)]
        · rw [if_neg q5, if_neg (by omega)]
      · rw [if_neg q3, if_neg q3]
        by_cases q5 : x < k
        · rw [if_pos q5, if_pos (by omega)]
        · rw [if_neg q5, if_neg (by omega)]
theorem psq_t {f : Nat → Int} {p k : Nat} {t : Int} (h : k.testBit p = true) : psq f p t (k + 1) = psq f p t k := by
  funext x
  unfold psq
  by_cases q3 : x.testBit p = true
  · rw [if_pos q3, if_pos q3]
    have q4 : bcl x p ≠ k := fun e => by
      have := clr_no q3
      rw [e, h] at this
      cases this
    by_cases q5 : bcl x p < k
    · rw [if_pos q5, if_pos (by omega)]
    · rw [if_neg q5, if_neg (by omega)]
  · rw [if_neg q3, if_neg q3]
    have q4 : x ≠ k := fun e => q3 (by rw [e]; exact h)
    by_cases q5 : x < k
    · rw [if_pos q5, if_pos (by omega)]
    · rw [if_neg q5, if_neg (by omega)]
theorem psq_lo {f : Nat → Int} {p k : Nat} {t : Int} (h : ∀ x, x < k → f x = 0) : psq f p t k = f := by
  funext x
  unfold psq
  by_cases q3 : x.testBit p = true
  · rw [if_pos q3]
    by_cases q5 : bcl x p < k
    · rw [if_pos q5, h _ q5]; simp
    · rw [if_neg q5]; simp
  · rw [if_neg q3]
    by_cases q5 : x < k
    · rw [if_pos q5, h _ q5]; simp
    · rw [if_neg q5]
theorem psq_hi {f : Nat → Int} {p k x : Nat} {t : Int} (hx : x < k) : psq f p t k x = psf f p t x := by
  unfold psq psf
  by_cases q3 : x.testBit p = true
  · have := clr_lt q3
    rw [if_pos q3, if_pos q3, if_pos (by omega)]
  · rw [if_neg q3, if_neg q3, if_pos hx]
theorem psq_sum {f : Nat → Int} {p n : Nat} {t : Int} (hp : p < n) : ∀ k, k ≤ 2 ^ n → sm (psq f p t k) (2 ^ n) = sm f (2 ^ n)
  | 0, _ => by rw [psq_lo (fun x hx => by omega)]
  | k + 1, hk => by
    have ih := psq_sum (f := f) (t := t) hp k (by omega)
    by_cases q : k.testBit p = true
    · rw [psq_t q]; exact ih
    · have q' : k.testBit p = false := by simpa using q
      have h1 := or_gt q'
      have h2 : k ||| 2 ^ p < 2 ^ n := or_lt (by omega) hp
      rw [psq_s q', sm_up _ (by omega), sm_up _ h2, ih]
      have e : up (psq f p t k) (k ||| 2 ^ p) (psq f p t k (k ||| 2 ^ p) + f k * t / 1000) k = f k := by
        unfold up
        rw [if_neg (by omega)]
        exact psq_k q'
      rw [e]
      omega
theorem psf_sum {f : Nat → Int} {p n : Nat} {t : Int} (hp : p < n) : sm (psf f p t) (2 ^ n) = sm f (2 ^ n) := by
  rw [← psq_sum (f := f) (t := t) hp (2 ^ n) (by omega)]
  exact sm_cg _ (fun i hi => (psq_hi hi).symm)
theorem jx_part {v t : Int} (hv : 0 ≤ v) (ht : 0 ≤ t ∧ t ≤ 1000) : 0 ≤ v * t / 1000 ∧ v * t / 1000 ≤ v := by
  have h1 : 0 ≤ v * t := Int.mul_nonneg hv ht.1
  have h2 : v * t ≤ v * 1000 := Int.mul_le_mul_of_nonneg_left ht.2 hv
  omega
/-- what becomes of d at told, by the first p -/
def pPt (tl : Nat → Int) (told : Nat) (d : Int) : Nat → (Nat → Int)
  | 0 => fun x => if x = told then d else 0
  | p + 1 => if told.testBit p = true then pPt tl told d p else psf (pPt tl told d p) p (tl p)
theorem pPt_nn {tl : Nat → Int} {told : Nat} {d : Int} (hd : 0 ≤ d) (ht : ∀ p, 0 ≤ tl p ∧ tl p ≤ 1000) : ∀ p x, 0 ≤ pPt tl told d p x
  | 0, x => by
    show 0 ≤ if x = told then d else 0
    by_cases q : x = told
    · rw [if_pos q]; exact hd
    · rw [if_neg q]; omega
  | p + 1, x => by
    have ih := pPt_nn hd ht p (told := told)
    show 0 ≤ (if told.testBit p = true then pPt tl told d p else psf (pPt tl told d p) p (tl p)) x
    by_cases q : told.testBit p = true
    · rw [if_pos q]; exact ih x
    · rw [if_neg q]
      unfold psf
      by_cases q3 : x.testBit p = true
      · rw [if_pos q3]
        have h1 := ih x
        have h2 := (jx_part (ih (bcl x p)) (ht p)).1
        omega
      · rw [if_neg q3]
        have h2 := (jx_part (ih x) (ht p)).2
        omega
theorem pPt_lo {tl : Nat → Int} {told : Nat} {d : Int} : ∀ p x, x < told → pPt tl told d p x = 0
  | 0, x, hx => by
    show (if x = told then d else 0) = 0
    rw [if_neg (by omega)]
  | p + 1, x, hx => by
    have ih := pPt_lo (tl := tl) (told := told) (d := d) p
    show (if told.testBit p = true then pPt tl told d p else psf (pPt tl told d p) p (tl p)) x = 0
    by_cases q : told.testBit p = true
    · rw [if_pos q]; exact ih x hx
    · rw [if_neg q]
      unfold psf
      by_cases q3 : x.testBit p = true
      · have := clr_lt q3
        rw [if_pos q3, ih x hx, ih (bcl x p) (by omega)]
        simp
      · rw [if_neg q3, ih x hx]
        simp
theorem pPt_hi {tl : Nat → Int} {told : Nat} {d : Int} : ∀ p x j, p ≤ j → x.testBit j = true → told.testBit j = false → pPt tl told d p x = 0
  | 0, x, j, _, h1, h2 => by
    show (if x = told then d else 0) = 0
    rw [if_neg (fun e => by rw [e, h2] at h1; cases h1)]
  | p + 1, x, j, hj, h1, h2 => by
    have ih := pPt_hi (tl := tl) (told := told) (d := d) p
    show (if told.testBit p = true then pPt tl told d p else psf (pPt tl told d p) p (tl p)) x = 0
    by_cases q : told.testBit p = true
    · rw [if_pos q]; exact ih x j (by omega) h1 h2
    · rw [if_neg q]
      unfold psf
      have hne : p ≠ j := by omega
      have h3 : (bcl x p).testBit j = true := by rw [tb_clr, h1]; simp [hne]
      by_cases q3 : x.testBit p = true
      · rw [if_pos q3, ih x j (by omega) h1 h2, ih (bcl x p) j (by omega) h3 h2]
        simp
      · rw [if_neg q3, ih x j (by omega) h1 h2]
        simp
theorem pPt_sum {tl : Nat → Int} {told n : Nat} {d : Int} (ht : told < 2 ^ n) : ∀ p, p ≤ n → sm (pPt tl told d p) (2 ^ n) = d
  | 0, _ => by
    have e : pPt tl told d 0 = up (fun _ => 0) told d := rfl
    rw [e, sm_up _ ht, sm_zero _ (fun _ _ => rfl)]
    omega
  | p + 1, hp => by
    have ih := pPt_sum (tl := tl) (d := d) ht p (by omega)
    have e : pPt tl told d (p + 1) = if told.testBit p = true then pPt tl told d p else psf (pPt tl told d p) p (tl p) := rfl
    rw [e]
    by_cases q : told.testBit p = true
    · rw [if_pos q]; exact ih
    · rw [if_neg q, psf_sum (by omega)]; exact ih
/-- how one stays untold of those told, of the first k -/
def stv (ST : Nat → Nat → Int) (told p : Nat) : Nat → Int
  | 0 => 1000
  | q + 1 => if told.testBit q = true then stv ST told p q * ST p q / 1000 else stv ST told p q
theorem stv_rg {ST : Nat → Nat → Int} {told p : Nat} (h : ∀ q, 0 ≤ ST p q ∧ ST p q ≤ 1000) : ∀ k, 0 ≤ stv ST told p k ∧ stv ST told p k ≤ 1000
  | 0 => ⟨by show (0 : Int) ≤ 1000; omega, by show (1000 : Int) ≤ 1000; omega⟩
  | k + 1 => by
    have ih := stv_rg h k (told := told)
    show 0 ≤ (if told.testBit k = true then stv ST told p k * ST p k / 1000 else stv ST told p k) ∧ (if told.testBit k = true then stv ST told p k * ST p k / 1000 else stv ST told p k) ≤ 1000
    by_cases q : told.testBit k = true
    · rw [if_pos q]
      have := jx_part ih.1 (h k)
      omega
    · rw [if_neg q]; exact ih
theorem stv_end {ST : Nat → Nat → Int} {told p n : Nat} (h : told < 2 ^ n) : ∀ d, stv ST told p (n + d) = stv ST told p n
  | 0 => rfl
  | d + 1 => by
    show (if told.testBit (n + d) = true then stv ST told p (n + d) * ST p (n + d) / 1000 else stv ST told p (n + d)) = _
    rw [tb_hi h (by omega), if_neg (by simp)]
    exact stv_end h d
/-- the odds: what told's become -/
def gO (ST : Nat → Nat → Int) (n : Nat) (D : Nat → Int) (told x : Nat) : Int := if 0 < D told then pPt (fun p => 1000 - stv ST told p n) told (D told) n x else 0
def nxt (ST : Nat → Nat → Int) (n : Nat) (D : Nat → Int) (x : Nat) : Int := sm (fun told => gO ST n D told x) (2 ^ n)
def dO (ST : Nat → Nat → Int) (n fr : Nat) : Nat → (Nat → Int)
  | 0 => fun x => if x = fr then 1000000000 else 0
  | k + 1 => nxt ST n (dO ST n fr k)
theorem tl_rg {ST : Nat → Nat → Int} (h : ∀ p q, 0 ≤ ST p q ∧ ST p q ≤ 1000) (told n p : Nat) : 0 ≤ 1000 - stv ST told p n ∧ 1000 - stv ST told p n ≤ 1000 := by
  have := stv_rg (told := told) (h p) n
  omega
theorem gO_nn {ST : Nat → Nat → Int} (h : ∀ p q, 0 ≤ ST p q ∧ ST p q ≤ 1000) (n : Nat) (D : Nat → Int) (told x : Nat) : 0 ≤ gO ST n D told x := by
  unfold gO
  by_cases q : 0 < D told
  · rw [if_pos q]; exact pPt_nn (by omega) (fun p => tl_rg h told n p) n x
  · rw [if_neg q]; omega
theorem gO_lo {ST : Nat → Nat → Int} {n : Nat} {D : Nat → Int} {told x : Nat} (hx : x < told) : gO ST n D told x = 0 := by
  unfold gO
  by_cases q : 0 < D told
  · rw [if_pos q]; exact pPt_lo n x hx
  · rw [if_neg q]
theorem gO_sum {ST : Nat → Nat → Int} {n : Nat} {D : Nat → Int} {told : Nat} (ht : told < 2 ^ n) (hD : 0 ≤ D told) : sm (gO ST n D told) (2 ^ n) = D told := by
  by_cases q : 0 < D told
  · have e : gO ST n D told = pPt (fun p => 1000 - stv ST told p n) told (D told) n := by
      funext x
      unfold gO
      rw [if_pos q]
    rw [e, pPt_sum ht n (by omega)]
  · rw [sm_zero _ (fun x _ => by unfold gO; rw [if_neg q])]
    omega
theorem gO_sw {ST : Nat → Nat → Int} {n : Nat} {D : Nat → Int} (hD : ∀ x, x < 2 ^ n → 0 ≤ D x) : ∀ k, k ≤ 2 ^ n → sm (fun x => sm (fun told => gO ST n D told x) k) (2 ^ n) = sm D k
  | 0, _ => sm_zero _ (fun _ _ => rfl)
  | k + 1, hk => by
    have ih := gO_sw hD k (by omega) (ST := ST)
    show sm (fun x => sm (fun told => gO ST n D told x) k + gO ST n D k x) (2 ^ n) = sm D k + D k
    rw [sm_add, ih]
    have := gO_sum (ST := ST) (show k < 2 ^ n by omega) (hD k (by omega))
    have e : sm (fun x => gO ST n D k x) (2 ^ n) = sm (gO ST n D k) (2 ^ n) := rfl
    rw [e, this]
/-- odds: none below nothing, all together a billion, nothing below the first -/
def dOk (n fr : Nat) (D : Nat → Int) : Prop := (∀ x, 0 ≤ D x) ∧ sm D (2 ^ n) = 1000000000 ∧ ∀ x, x < fr → D x = 0
theorem dO_ok {ST : Nat → Nat → Int} {n fr : Nat} (h : ∀ p q, 0 ≤ ST p q ∧ ST p q ≤ 1000) (hf : fr < 2 ^ n) : ∀ k, dOk n fr (dO ST n fr k)
  | 0 => by
    refine ⟨fun x => ?_, ?_, fun x hx => ?_⟩
    · show 0 ≤ if x = fr then (1000000000 : Int) else 0
      by_cases q : x = fr
      · rw [if_pos q]; omega
      · rw [if_neg q]; omega
    · have e : dO ST n fr 0 = up (fun _ => 0) fr 1000000000 := rfl
      rw [e, sm_up _ hf, sm_zero _ (fun _ _ => rfl)]
      omega
    · show (if x = fr then (1000000000 : Int) else 0) = 0
      rw [if_neg (by omega)]
  | k + 1 => by
    obtain ⟨h1, h2, h3⟩ := dO_ok h hf k
    refine ⟨fun x => sm_nn _ (fun i _ => gO_nn h n _ i x), ?_, fun x hx => ?_⟩
    · have := gO_sw (ST := ST) (n := n) (D := dO ST n fr k) (fun x _ => h1 x) (2 ^ n) (by omega)
      rw [← h2]
      exact this
    · refine sm_zero _ (fun told ht => ?_)
      show gO ST n (dO ST n fr k) told x = 0
      by_cases q : x < told
      · exact gO_lo q
      · unfold gO
        rw [h3 told (by omega), if_neg (by omega)]
theorem dOk_le {n fr : Nat} {D : Nat → Int} (h : dOk n fr D) {x : Nat} (hx : x < 2 ^ n) : 0 ≤ D x ∧ D x ≤ 1000000000 := by
  have := sm_le (f := D) (i := x) (2 ^ n) (fun i _ => h.1 i) hx
  rw [h.2.1] at this
  exact ⟨h.1 x, this⟩
end
