section
theorem js_smr (a : Nat) : js_sm 8 [.ref a] := by show (1 : Nat) ≤ 8; decide
theorem whole_start {p : Program} {e : Env} {s : State} {m : MethodId} {below : List Frame} {meth : Method} {c : Code} (l : Launch) (hflags : l.flags = flags0) {b L : Nat} {xs : Nat → Int32} (hL : L ≤ 2560) (C0 : lw_At p s m meth c b L xs) : W p l e room_1 s m #[Value.ref b] below meth c s.heap [] 0 0 (lw_Z below #[Value.ref b] s) (entryFrame m ([Value.ref b] : List Value).toArray 4) := by
  obtain ⟨hx, hb, hr, hml, hown, hts, hX, hbl, hlocks, hgv⟩ := id C0
  obtain ⟨D, dA, hK⟩ := kn_start hts
  obtain ⟨kK, kV, hsg⟩ := sg_start hgv hts
  have hN := nw_start hts
  have htb := st_tb hts
  have h : ic_ok code 4 RL D dA p s m #[Value.ref b] c := ⟨hx, hb, hml, hown, htb, hK, hN⟩
  have hA : ∀ q : Nat, s.heap.size ≤ q → lw_A s q := fun _ h => h
  have hS : va_S (lw_A s) s.heap s.heap [] := va_S.rf
  have hP : va_P D vwCl [] s.heap := fun k q h => by simp at h
  have hD : va_D (lw_A s) [] := ⟨fun i j p q h => by simp at h, fun k q h => by simp at h⟩
  have hl := lv_entry ([.ref b]) (n := 4) (Nat.le_of_ble_eq_true rfl)
  rw [lg_entry_eq]
  generalize (lg_sl ([.ref b]) ++ List.replicate (4 - (lg_sl ([.ref b])).length) Slot.unset).toArray = ls at hl ⊢
  have hl : lv_has ls 4 [(0, .ref b)] := hl
  refine ic_newo h icl_X10 (js_mem 101 (by decide +kernel) rfl) hP hD hS hA (Nat.le_of_ble_eq_true rfl) (Nat.le_of_ble_eq_true rfl) dL_law_0 dL_law_3 (fun q0 H hP hD hS => ?_)
  refine ic_call h (As := []) (q := q0) (rest := [.ref q0]) ime_X10 rfl icy_X10 (js_mem 103 (by decide +kernel) rfl) rfl ⟨(Nat.le_of_ble_eq_true rfl), (Nat.le_of_ble_eq_true rfl)⟩ ⟨(Nat.le_of_ble_eq_true rfl), (Nat.le_of_ble_eq_true rfl)⟩ hl.1 (js_smr q0) hP hD hS hA dL_law_4 (fun u0 H locs hpo hP hD hS => ?_)
  refine lv_astore_n (lv' := [(1, .ref q0), (0, .ref b)]) hx hb dL_law_7 rfl hl (by decide) rfl (fun ls hl => ?_)
  refine ic_newo h icl_X11 (js_mem 1117 (by decide +kernel) rfl) hP hD hS hA (Nat.le_of_ble_eq_true rfl) (Nat.le_of_ble_eq_true rfl) dL_law_8 dL_law_11 (fun q1 H hP hD hS => ?_)
  refine ic_call h (As := []) (q := q1) (rest := [.ref q1]) ime_X11 rfl icy_X11 (js_mem 1119 (by decide +kernel) rfl) rfl ⟨(Nat.le_of_ble_eq_true rfl), (Nat.le_of_ble_eq_true rfl)⟩ ⟨(Nat.le_of_ble_eq_true rfl), (Nat.le_of_ble_eq_true rfl)⟩ hl.1 (js_smr q1) hP hD hS hA dL_law_12 (fun u1 H locs hpo hP hD hS => ?_)
  refine lv_astore_n (lv' := [(2, .ref q1), (1, .ref q0), (0, .ref b)]) hx hb dL_law_15 rfl hl (by decide) rfl (fun ls hl => ?_)
  refine lv_iconst (v := nI 0) hx hb dL_law_16 (by decide) ?_
  refine lv_istore_n (lv' := [(3, .int (nI 0)), (2, .ref q1), (1, .ref q0), (0, .ref b)]) hx hb dL_law_17 rfl hl (by decide) rfl (fun ls hl => ?_)
  rw [ws11] at hP hD
  have hP : va_P D vwCl (js_ws 0 (ad10 q0 u0) dA mu0 ++ js_ws 1 (ad11 q1 u1) dA nu0) H := hP
  have hD : va_D (lw_A s) (js_ws 0 (ad10 q0 u0) dA mu0 ++ js_ws 1 (ad11 q1 u1) dA nu0) := hD
  have hF : lw_Fx p s m c b D dA (ad10 q0 u0) (ad11 q1 u1) kK kV := ⟨hx, hb, hml, hown, htb, hK, fun ad => hsg ad D dA, va_Dl hD, va_Dr hD, fun i j hi hj => va_Dx hD (js_ws_get (g := 0) hi) (js_ws_get (g := 1) hj)⟩
  refine W.widen (k := 129) (n := 19201) (Nat.le_of_ble_eq_true rfl) (Nat.le_of_ble_eq_true rfl) ?_
  exact lw_loop hF hX hbl hL hr hlocks (L + 6) 0 ls (by omega) (by omega) (lv_sub hl [3, 2, 1, 0] rfl) mu0 nu0 H locs ⟨va_Pl hP, va_Pr hP, hS, can_mu0, can_nu0⟩ rr_start
end
