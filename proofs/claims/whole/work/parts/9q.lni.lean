section
theorem arrV_cg {cA : ClassId} {N : Nat} {f g : Nat → Value} (h : ∀ j, j < N → f j = g j) : arrV cA N f = arrV cA N g := by
  unfold arrV
  have e : (fun j : Fin N => f j.val) = fun j : Fin N => g j.val := funext fun j => h j.val j.isLt
  rw [e]
theorem fil_loop {p : Program} {l : Launch} {e : Env} {R : Room} {s : State} {m : MethodId} {args : Array Value} {below : List Frame} {meth : Method} {c : Code} {Q : State → Prop} {D : va_G} {dA : Nat → ClassId} {A : Nat → Prop} {q N : Nat} {x : Int32} (hx : p.tables.exec = Jvm.exec) (hb : c.code = cJ7_fill_53178) (hK : va_K D vwCl (js_tys dA) s) (hN : N < 2 ^ 31)
    (kk : ∀ (H : Heap) (locs : List Loc) (ls : Array Slot), va_P D vwCl [(q, .inl (dA 0, N, .inl (fun _ => x)))] H → va_D A [(q, .inl (dA 0, N, .inl (fun _ => x)))] → va_S A s.heap H locs → W p l e R s m args below meth c H locs 0 0 Q (F0 m 20 ls [])) :
    ∀ (n i : Nat) (f : Nat → Int32) (H : Heap) (locs : List Loc) (ls : Array Slot), i ≤ N → N + 1 ≤ i + n → (∀ j, j < i → f j = x) → va_P D vwCl [(q, .inl (dA 0, N, .inl f))] H → va_D A [(q, .inl (dA 0, N, .inl f))] → va_S A s.heap H locs → lv_has ls 4 [(0, .ref q), (1, .int x), (2, .int (nI i)), (3, .int (nI N))] → W p l e R s m args below meth c H locs 0 0 Q (F0 m 5 ls []) := by
  intro n
  induction n with
  | zero => intro i f H locs ls h1 h2; exact absurd h2 (by omega)
  | succ n ih =>
    intro i f H locs ls hi hin hf hP hD hS hl
    refine lv_iload_n hx hb dJ7_fill_53178_5 rfl (lv_at hl 2 rfl) ?_
    refine lv_iload_n hx hb dJ7_fill_53178_6 rfl (lv_at hl 3 rfl) ?_
    refine lv_icmp_ge (tgt := 20) hx hb dJ7_fill_53178_7 (by decide) (fun c1 => ?_) (fun c1 => ?_)
    · have e : i = N := by
        rcases Nat.lt_or_ge i N with h | h
        · exact absurd c1 (nI_ge h hN)
        · omega
      subst e
      refine kk H locs ls (fun k y hy => ?_) ⟨fun a b y z hy hz _ => ?_, fun k y hy => ?_⟩ hS
      · have hk : k < 1 := (List.getElem?_eq_some_iff.mp hy).1
        rw [show k = 0 by omega] at hy
        cases hy
        have h0 := hP 0 _ rfl
        show H[q]? = some (vp_cell (dA 0) (i, .inl (fun _ => x)))
        rw [vp_cell_i, ← arrV_cg (f := fun j => .int (f j)) (fun j hj => by rw [hf j hj])]
        exact h0
      · have h1 : a < 1 := (List.getElem?_eq_some_iff.mp hy).1
        have h2 : b < 1 := (List.getElem?_eq_some_iff.mp hz).1
        omega
      · have hk : k < 1 := (List.getElem?_eq_some_iff.mp hy).1
        rw [show k = 0 by omega] at hy
        cases hy
        exact hD.2 0 (q, .inl (dA 0, i, .inl f)) rfl
    · have hlt : i < N := by
        rcases Nat.lt_or_ge i N with h | h
        · exact h
        · exact absurd (nI_le h (by omega)) c1
      refine lv_aload_n hx hb dJ7_fill_53178_10 rfl (lv_at hl 0 rfl) ?_
      refine lv_iload_n hx hb dJ7_fill_53178_11 rfl (lv_at hl 2 rfl) ?_
      refine lv_iload_n hx hb dJ7_fill_53178_12 rfl (lv_at hl 1 rfl) ?_
      refine va_iast hx hb hK hP hD hS 0 0 rfl rfl (vp_in_nI hlt (by omega)) dJ7_fill_53178_13 (fun H1 locs1 hP1 hD1 hS1 => ?_)
      refine lv_iinc (v := nI (i + 1)) (lv' := [(2, .int (nI (i + 1))), (0, .ref q), (1, .int x), (3, .int (nI N))]) hx hb dJ7_fill_53178_14 hl (k := 2) rfl (by rw [nI_succ]; rfl) (by decide) rfl (fun ls1 hl1 => ?_)
      refine lv_goto (tgt := 5) hx hb dJ7_fill_53178_17 (by decide) ?_
      refine ih (i + 1) _ H1 locs1 ls1 hlt (by omega) (fun j hj => ?_) hP1 hD1 hS1 (lv_sub hl1 [1, 2, 0, 3] rfl)
      rw [nI_clamp (by omega)]
      unfold upd
      by_cases hji : j = i
      · simp [hji]
      · simp [hji]; exact hf j (by omega)
theorem fil_met (l : Launch) (D : va_G) (dA : Nat → ClassId) (q sz N : Nat) (f : Nat → Int32) (x : Int32) (hN : N < 2 ^ 31) : Met l yJ7_fill_53178 (.code yJ7_fill_53178 cJ7_fill_53178 4 none :: js_tb) (ic_rm 0 0 0) (va_Pc [.ref q, .int x] (fun U => U.heap.size = sz ∧ va_P D vwCl [(q, .inl (dA 0, N, .inl f))] U.heap ∧ va_K D vwCl (js_tys dA) U ∧ va_D (fun _ => True) [(q, .inl (dA 0, N, .inl f))])) (va_Qv (fun _ : Unit => True) (fun _ t => va_P D vwCl [(q, .inl (dA 0, N, .inl (fun _ => x)))] t.heap ∧ va_D (va_A [(q, .inl (dA 0, N, .inl f))] sz) [(q, .inl (dA 0, N, .inl (fun _ => x)))]) (va_A [(q, .inl (dA 0, N, .inl f))] sz)) 0 0 (va_A [(q, .inl (dA 0, N, .inl f))] sz) := by
  refine Met.ofW (cc := cJ7_fill_53178) (maxL := 4) (ret := none) (by decide) rfl ?_
  intro p e s m args below meth c s₁ B hml hv
  obtain ⟨rfl, hsz, hP, hK, hD0⟩ := hv
  subst hsz
  have hlocks := B.notSynchronized
  have hr := B.returns
  have hx := B.exec
  have hb := B.bytes
  have hD := hD0.self (sz := s.heap.size)
  have hl := lv_entry ([.ref q, .int x]) (n := 4) (Nat.le_of_ble_eq_true rfl)
  rw [lg_entry_eq]
  generalize (lg_sl ([.ref q, .int x]) ++ List.replicate (4 - (lg_sl ([.ref q, .int x])).length) Slot.unset).toArray = ls at hl ⊢
  have hl : lv_has ls 4 [(0, .ref q), (1, .int x)] := hl
  refine lv_iconst (v := nI 0) hx hb dJ7_fill_53178_0 (by decide) ?_
  refine lv_istore_n (lv' := [(2, .int (nI 0)), (0, .ref q), (1, .int x)]) hx hb dJ7_fill_53178_1 rfl hl (by decide) rfl (fun ls hl => ?_)
  refine lv_aload_n hx hb dJ7_fill_53178_2 rfl (lv_at hl 1 rfl) ?_
  refine va_alen hx hb hK hP 0 0 (ty := .int) rfl rfl (v := nI N) rfl dJ7_fill_53178_3 ?_
  refine lv_istore_n (lv' := [(3, .int (nI N)), (2, .int (nI 0)), (0, .ref q), (1, .int x)]) hx hb dJ7_fill_53178_4 rfl hl (by decide) rfl (fun ls hl => ?_)
  refine fil_loop hx hb hK hN (fun H locs ls hP1 hD1 hS1 => ?_) (N + 1) 0 f s.heap [] ls (Nat.zero_le _) (by omega) (fun j hj => absurd hj (by omega)) hP hD va_S.rf (lv_sub hl [2, 3, 1, 0] rfl)
  exact W.vret hx hb hr (fun t ht hW => ⟨⟨(), rfl, trivial, by rw [ht]; exact hP1, hD1⟩, hS1.F ht⟩) hS1.2.2 dJ7_fill_53178_20
theorem ifk_X2_9 : ic_fk RX2 9 2 0 (.array .int) := ⟨TX2, 7, tyX2, rfl, by decide, js_ucl2, tyX2_ok, nmX2, js_mem 402 (by decide +kernel) rfl, rfl, rfl⟩
theorem ifk_X2_15 : ic_fk RX2 15 2 1 (.array .int) := ⟨TX2, 7, tyX2, rfl, by decide, js_ucl2, tyX2_ok, nmX2, js_mem 403 (by decide +kernel) rfl, rfl, rfl⟩
theorem ifk_X2_18 : ic_fk RX2 18 2 2 (.array .int) := ⟨TX2, 7, tyX2, rfl, by decide, js_ucl2, tyX2_ok, nmX2, js_mem 404 (by decide +kernel) rfl, rfl, rfl⟩
abbrev f0X2 : List Value := [.null, .null, .null, .int (Int32.ofInt 0), .int (Int32.ofInt 0), .int (Int32.ofInt 0), .int (Int32.ofInt 0)]
def blkX2 (dA : Nat → ClassId) (h : Nat) (As : List Value) (u : Nat → Nat) : va_W := (h, .inr (2, [.ref (u 0), .ref (u 1), .ref (u 2), .int (Int32.ofInt 0), .int (Int32.ofInt 0), .int (Int32.ofInt 0), .int (Int32.ofInt 0)])) :: [(u 0, .inl (dA 0, ic_z 0 144)), (u 1, .inl (dA 0, ic_z 0 144)), (u 2, .inl (dA 0, (12, .inl (fun _ => Int32.ofInt (-1)))))]
set_option maxRecDepth 100000 in
theorem ime_X2 : ic_Me yX2_init cX2_init 1 1 3 300 2 f0X2 (fun As => As = []) (fun _ _ => True) blkX2 := by
  refine ic_met (by decide) rfl (fun h0 As h => by obtain rfl := h; simp [lg_sl, Value.category]) ?_
  intro p l e s m args below meth c D dA h0 As ls A Q hok h hin hl hP hD hA kk
  obtain rfl := hok
  have l0 : ls[0]? = some (.val (.ref h0)) := js_hl hl List.mem_cons_self
  have hS : va_S A s.heap s.heap [] := va_S.rf
  refine ic_sup h l0 hl.1 dX2_init_0 dX2_init_1 (⟨js_mem 398 (by decide +kernel) rfl, js_mem 107 (by decide +kernel) rfl, js_mem 108 (by decide +kernel) rfl⟩) ⟨(Nat.le_of_ble_eq_true rfl), (Nat.le_of_ble_eq_true rfl)⟩ ?_
  refine ic_arr h hin l0 dX2_init_4 (fun _ _ _ k => lv_sipush h.1 h.2.1 dX2_init_5 (v := Int32.ofInt 144) (by decide) k) dX2_init_8 dX2_init_10 ic_t0 ifk_X2_9 (N := 144) (by decide) (by decide) rfl (Nat.le_of_ble_eq_true rfl) (Nat.le_of_ble_eq_true rfl) rfl hP hD hS hA (fun q0 H locs hP hD hS => ?_)
  refine ic_arr h hin l0 dX2_init_13 (fun _ _ _ k => lv_sipush h.1 h.2.1 dX2_init_14 (v := Int32.ofInt 144) (by decide) k) dX2_init_17 dX2_init_19 ic_t0 ifk_X2_15 (N := 144) (by decide) (by decide) rfl (Nat.le_of_ble_eq_true rfl) (Nat.le_of_ble_eq_true rfl) rfl hP hD hS hA (fun q1 H locs hP hD hS => ?_)
  refine ic_arr h hin l0 dX2_init_22 (fun _ _ _ k => lv_bipush h.1 h.2.1 dX2_init_23 (v := Int32.ofInt 12) (by decide) k) dX2_init_25 dX2_init_27 ic_t0 ifk_X2_18 (N := 12) (by decide) (by decide) rfl (Nat.le_of_ble_eq_true rfl) (Nat.le_of_ble_eq_true rfl) rfl hP hD hS hA (fun q2 H locs hP hD hS => ?_)
  have hP : va_P D vwCl [(h0, .inr (2, [.ref q0, .ref q1, .ref q2, .int (Int32.ofInt 0), .int (Int32.ofInt 0), .int (Int32.ofInt 0), .int (Int32.ofInt 0)])), (q0, .inl (dA 0, ic_z 0 144)), (q1, .inl (dA 0, ic_z 0 144)), (q2, .inl (dA 0, 12, .inl (fun _ => Int32.ofInt 0)))] H := hP
  have hD : va_D A [(h0, .inr (2, [.ref q0, .ref q1, .ref q2, .int (Int32.ofInt 0), .int (Int32.ofInt 0), .int (Int32.ofInt 0), .int (Int32.ofInt 0)])), (q0, .inl (dA 0, ic_z 0 144)), (q1, .inl (dA 0, ic_z 0 144)), (q2, .inl (dA 0, 12, .inl (fun _ => Int32.ofInt 0)))] := hD
  obtain ⟨x1, x2, x3, x4, x5, x6, x7⟩ := id h
  refine lv_aload_n x1 x2 dX2_init_30 rfl l0 ?_
  refine va_get (ci := 2) (C := RX2) (T := TX2) (N := 7) x1 x2 x5 js_ucl2 x4 x6 hP 0 rfl rfl 2 (by decide) (x5 _ (js_mem 404 (by decide +kernel) rfl)) (fun _ h9 => h9) rfl dX2_init_31 ?_
  refine lv_iconst (v := Int32.ofInt (-1)) x1 x2 dX2_init_34 rfl ?_
  have hPc := hP.sub (ws' := [(q2, .inl (dA 0, 12, .inl (fun _ => Int32.ofInt 0)))]) [3] rfl
  have hDc := hD.sub (ws' := [(q2, .inl (dA 0, 12, .inl (fun _ => Int32.ofInt 0)))]) [3] (by decide) rfl
  have hFc := va_free (wc := [(q2, .inl (dA 0, 12, .inl (fun _ => Int32.ofInt 0)))]) hD hS hA [3] rfl
  have hG : GoodIn js_tb (.code yJ7_fill_53178 cJ7_fill_53178 4 none :: js_tb) := by
    intro w hw
    have hm : w ∈ js_tb := by
      rcases List.mem_cons.mp hw with rfl | hw
      · exact yi_J7_fill_53178.1
      · exact hw
    exact ⟨hm, good_of_word (js_good w hm)⟩
  refine va_callv (va_runS (As := [.ref q2, .int (Int32.ofInt (-1))]) (rest := []) ⟨x1, x2, x3, x4, x5⟩ (fil_met l D dA q2 H.size 12 _ (Int32.ofInt (-1)) (by decide)) ⟨callB_of 2 x5 hG rfl rfl rfl (x5 _ yi_J7_fill_53178.2.1) (x5 _ mk_RX2_21) ⟨by decide, by decide, by decide +kernel⟩ ⟨Nat.le_of_ble_eq_true rfl, Nat.le_of_ble_eq_true rfl⟩, x5 _ ys_J7_fill_53178⟩ ⟨fun a U g mk q => by obtain ⟨q0, q1, qP, qK, qD⟩ := q; exact ⟨q0, q1, qP, va_K.moved (u := U) (U := U.calling g mk a) (Vm.Alike.refl U.vm) qK, qD⟩, fun U hU hW => ⟨rfl, by rw [hU], by rw [hU]; exact hPc, va_K.moved hW.alike x6, hDc.weaken (fun _ _ _ _ => trivial)⟩⟩ rfl rfl hl.1 rfl (lv_room (Nat.le_of_ble_eq_true rfl)) dX2_init_35 ⟨Nat.le_of_ble_eq_true rfl, Nat.le_of_ble_eq_true rfl⟩) hS (fun q _ h => hFc q h) hFc (fun u t H1 locs1 ht hvm hw hB hz1 hk1 hS1 => ?_)
  obtain ⟨hP1, hD1⟩ := hB
  rw [ht] at hP1
  obtain ⟨hP2, hD2⟩ := va_join (wr := [(h0, .inr (2, [.ref q0, .ref q1, .ref q2, .int (Int32.ofInt 0), .int (Int32.ofInt 0), .int (Int32.ofInt 0), .int (Int32.ofInt 0)])), (q0, .inl (dA 0, ic_z 0 144)), (q1, .inl (dA 0, ic_z 0 144))]) (w1 := [(q2, .inl (dA 0, 12, .inl (fun _ => Int32.ofInt (-1))))]) hP hD [3] [0, 1, 2] rfl rfl (by decide) (by decide) hk1 hFc hP1 hD1
  refine W.widen (k := 3) (n := 300) (Nat.le_of_ble_eq_true rfl) (Nat.le_of_ble_eq_true rfl) ?_
  exact kk (fun i => [q0, q1, q2].getD i 0) _ _ _ ls trivial hP2 hD2 hS1 dX2_init_38
end
