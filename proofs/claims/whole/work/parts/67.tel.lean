section
theorem tel_to {o x p b s : Nat} {v : Int} {μ0 μ ν : js_Mm} (ho : coN o) (hx : x ≤ 3000) (ht : TT μ ν) (hc : rCo o x μ ν) (hp : (p : Int) < μ 3 0) (hb : (b : Int) < μ 3 0) (hs6 : s < 6) (hh : jb (μ (o + 2) p) s = true)
    (hp0 : p < 24) (f1 : f_X0_draw [(o : Int), μ0 7 p] μ0 = some (v, μ)) (f2 : f_X8_friendBy [3, (p : Int), v] μ = some ((b : Int), μ)) (f3 : f_X0_newestOf [(o : Int), (p : Int)] μ = some ((s : Int), μ)) :
    ∃ r μ' ν', f_X6_tellsOne [30, (o : Int), (p : Int)] μ0 = some (r, μ') ∧ f_X11_tellTo [0, (x : Int), (p : Int), (s : Int), (b : Int)] ν = some (r, ν') ∧ rCo o x μ' ν' ∧ fC o μ μ' ∧ fM x ν ν' ∧ (r = 0 ∨ r = 1) := by
  have h3 := coN_30 ho
  have n1 := ht.2.1.1
  have hcp := hc.2.1 p s (by omega) hs6
  have hhp := hcp.2.1 hh
  have hs := (hcp.2.2.1 hhp).2.1
  have hm := ht.2.2.2.1
  have hsm := rCo_same hc (6 * b + s) (by omega)
  have to := rCo_to (b := b) (s := s) (p := p) (by omega) hc (by omega) hs6 hp (by omega) hs hhp
  have e1 : ((b : Int) * 6 + (s : Int)).toNat = 6 * b + s := by omega
  have e2 := jz_set (x := μ (o + 7) (6 * b + s)) (p := (p : Int)) (by omega) (by omega)
  have e3 : ((x : Int) + 576 + ((6 * b + s : Nat) : Int)).toNat = x + 576 + (6 * b + s) := by omega
  have b1 : ¬ (b : Int) = -1 := by omega
  have s1 : ¬ (s : Int) = -1 := by omega
  have c1 : fC o μ (js_u μ (o + 7) (6 * b + s) (jset (μ (o + 7) (6 * b + s)) p)) := fun k j hk => js_u_other (by omega)
  have c2 : fM x ν (js_u ν 1 (x + 576 + (6 * b + s)) (jset (μ (o + 7) (6 * b + s)) p)) := fun k j hk => js_u_other (by omega)
  have k1 : js_u μ (o + 7) (6 * b + s) (jset (μ (o + 7) (6 * b + s)) p) (o + 1) b = μ (o + 1) b := js_u_other (by omega)
  have k2 : js_u μ (o + 7) (6 * b + s) (jset (μ (o + 7) (6 * b + s)) p) (o + 1) p = μ (o + 1) p := js_u_other (by omega)
  have k3 : js_u μ (o + 7) (6 * b + s) (jset (μ (o + 7) (6 * b + s)) p) (o + 2) p = μ (o + 2) p := js_u_other (by omega)
  have eM : js_or (ν 1 (x + 576 + (6 * b + s))) (js_shl 1 (p : Int)) = jset (μ (o + 7) (6 * b + s)) p := by rw [hsm.2.1]; exact e2
  rw [← k2] at hhp
  rw [← k3] at hh
  rw [← hsm.2.1] at to c1 c2 k1 k2 k3 eM e2 hhp hh
  sorry
end
