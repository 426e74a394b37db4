section
/-! ===== constructors ===== -/
variable {p : Program} {l : Launch} {e : Env} {R : Room} {s : State} {m : MethodId} {args : Array Value} {below : List Frame} {meth : Method} {c : Code} {H H0 : Heap} {locs : List Loc} {cells slots : Nat} {Q : State → Prop}
variable {cc : ByteArray} {nL pc p1 p2 : Nat} {own : String} {ls : Array Slot} {rest : List Value} {D : va_G} {dA : Nat → ClassId} {A : Nat → Prop} {ws : va_W}
def ic_nest : List (Nat × MethodName) := [(11, yX7_init), (18, yX8_init), (28, yX3_init), (38, yX5_init), (54, yX0_init), (80, yX1_init)]
/-- what the tables say beside the words that stay: links to nest mates, arrays of courses -/
def ic_nw (U : State) : Prop := (∀ q ∈ ic_nest, va_Nw (.methodLinkNest RX10 q.1 q.2 RX10) U) ∧ va_AO RX0 U
theorem ic_nw.warm {s U : State} (hW : s.WarmedH U.vm) (h : ic_nw s) : ic_nw U := ⟨fun q hq => va_Nw.warmM hW (h.1 q hq), h.2.moved hW.alike⟩
theorem ic_nw.same {u U : State} (e : u.vm = U.vm) (h : ic_nw u) : ic_nw U := ⟨fun q hq => va_Nw.same rfl e (h.1 q hq), h.2.moved (by rw [e]; exact Vm.Alike.refl U.vm)⟩
def ic_ok (cc : ByteArray) (nL : Nat) (own : String) (D : va_G) (dA : Nat → ClassId) (p : Program) (s : State) (m : MethodId) (args : Array Value) (c : Code) : Prop := p.tables.exec = Jvm.exec ∧ c.code = cc ∧ c.maxLocals = nL ∧ s.vm.findClass own = some m.cls ∧ (∀ w ∈ js_tb, w.before args s = true) ∧ va_K D vwCl (js_tys dA) s ∧ ic_nw s
def ic_z (t N : Nat) : vp_A := if t = 1 then (N, .inr (.inl (fun _ => Int64.ofInt 0))) else (N, .inl (fun _ => Int32.ofInt 0))
def ic_ty (t : Nat) (at0 : ArrayType) (ty : FieldType) : Prop := newarray.typeOf at0 = ty ∧ Cond.arrayClass ty ∈ js_tb ∧ (∀ dA : Nat → ClassId, (js_tys dA)[t]? = some (dA t, ty)) ∧ (∀ (U : State) (cA : ClassId), va_RA U cA ty → U.vm.findClass ("[" ++ ty.toString) = some cA) ∧ (∀ (cA : ClassId) (N : Nat), vp_cell cA (ic_z t N) = arrV cA N (fun _ => defaultValue ty)) ∧ componentBytes ty ≤ 8
theorem ic_t0 : ic_ty 0 .int .int := ⟨rfl, js_mem 195 (by decide +kernel) rfl, fun _ => rfl, fun _ _ h => h, fun _ _ => rfl, by decide⟩
theorem ic_t1 : ic_ty 1 .long .long := ⟨rfl, js_mem 392 (by decide +kernel) rfl, fun _ => rfl, fun _ _ h => h, fun _ _ => rfl, by decide⟩
theorem ic_t2 : ic_ty 2 .char .char := ⟨rfl, js_mem 145 (by decide +kernel) rfl, fun _ => rfl, fun _ _ h => h, fun _ _ => rfl, by decide⟩
theorem ic_t3 : ic_ty 3 .boolean .boolean := ⟨rfl, js_mem 1247 (by decide +kernel) rfl, fun _ => rfl, fun _ _ h => h, fun _ _ => rfl, by decide⟩
theorem ic_newa (h : ic_ok cc nL own D dA p s m args c) {t N : Nat} {at0 : ArrayType} {ty : FieldType} (ht : ic_ty t at0 ty) (hP : va_P D vwCl ws H) (hD : va_D A ws) (hS : va_S A H0 H locs) (hA : ∀ q, H0.size ≤ q → A q) {n : Int32} (hn : ¬ n < 0) (hN : n.toNatClampNeg = N) (hN2 : Nat.ble N 60000000 = true) (hcells : cells + 1 ≤ R.cells) (hslots : slots + N ≤ R.slots) (hdg : decode cc pc = .ok (.newarray at0, 2))
    (kk : ∀ (q : Nat) (H1 : Heap), va_P D vwCl (ws ++ [(q, .inl (dA t, ic_z t N))]) H1 → va_D A (ws ++ [(q, .inl (dA t, ic_z t N))]) → va_S A H0 H1 locs → W p l e R s m args below meth c H1 locs (cells + 1) (slots + N) Q (F0 m (pc + 2) ls (.ref q :: rest))) : W p l e R s m args below meth c H locs cells slots Q (F0 m pc ls (.int n :: rest)) := by
  obtain ⟨t1, t2, t3, t4, t5, t6⟩ := ht
  obtain ⟨h1, h2, h3, h4, h5, h6, h7⟩ := h
  have hN2 := Nat.ble_eq.mp hN2
  refine va_newa h1 h2 (atype := at0) (by rw [t1]; exact h5 _ t2) t1 h6 hP hD hS hA (fun cA => t5 cA N) hn hN ?_ hcells hslots hdg (fun q cA H1 hK1 hP1 hD1 hS1 => ?_)
  · have := Nat.mul_le_mul hN2 t6
    omega
  · have e1 := t4 s cA (hK1.2 5 (cA, ty) rfl).2
    have e2 := t4 s (dA t) (h6.2 t (dA t, ty) (t3 dA)).2
    have e3 : cA = dA t := Option.some.inj (e1.symm.trans e2)
    subst e3
    exact kk q H1 hP1 hD1 hS1
def ic_fk (own : String) (idx ci j : Nat) (ty : FieldType) : Prop := ∃ (T : u_T) (N : Nat) (tf : Nat → FieldType), vwCl[ci]? = some (own, T, N) ∧ j < N ∧ (∀ w ∈ u_ws own T N, w ∈ js_tb) ∧ (∀ k, k < N → parseFieldDescriptor (T k).2.2.1 = some (tf k)) ∧ (∀ a, a < N → ∀ b, b < N → a ≠ b → (T a).2.1 ≠ (T b).2.1) ∧ Cond.fieldLink own idx (T j).1 (T j).2.1 (T j).2.2.1 ∈ js_tb ∧ tf j = ty ∧ (T j).1 = own
theorem ic_put (h : ic_ok cc nL own D dA p s m args c) (hin : meth.name = "<init>") {idx ci j a q0 : Nat} {ty : FieldType} {v : Value} {fs : List Value} (hf : ic_fk own idx ci j ty) (hv : narrow ty v = v) (hv2 : fits ty v = true) (hP : va_P D vwCl ws H) (hD : va_D A ws) (hS : va_S A H0 H locs) (he : ws[q0]? = some (a, .inr (ci, fs))) (hl : Nat.blt j fs.length = true) (hd : decode cc pc = .ok (.putfield idx, 3))
    (kk : ∀ (H1 : Heap) (locs1 : List Loc), va_P D vwCl (ws.set q0 (a, .inr (ci, fs.set j v))) H1 → va_D A (ws.set q0 (a, .inr (ci, fs.set j v))) → va_S A H0 H1 locs1 → W p l e R s m args below meth c H1 locs1 cells slots Q (F0 m (pc + 3) ls rest)) : W p l e R s m args below meth c H locs cells slots Q (F0 m pc ls (v :: .ref a :: rest)) := by
  obtain ⟨T, N, tf, f1, f2, f3, f4, f5, f6, f7, f8⟩ := hf
  obtain ⟨h1, h2, h3, h4, h5, h6, h7⟩ := h
  have hl := Nat.blt_eq.mp hl
  have hpd := f4 j f2
  rw [f7] at hpd
  by_cases hfin : (T j).2.2.2 = true
  · exact va_putF h1 h2 h5 f3 tf f4 f5 h4 h6 hP hD hS q0 he f1 j f2 (h5 _ f6) (fun _ q => q) hfin hin f8 hpd hv hv2 hl hd kk
  · exact va_put h1 h2 h5 f3 tf f4 f5 h4 h6 hP hD hS q0 he f1 j f2 (h5 _ f6) (fun _ q => q) (Bool.eq_false_iff.mpr hfin) hpd hv hv2 hl hd kk
/-- this.f = new t[n] -/
theorem ic_arr (h : ic_ok cc nL own D dA p s m args c) (hin : meth.name = "<init>") {ci j idx h0 t N : Nat} {at0 : ArrayType} {ty : FieldType} {fs : List Value} {as : va_W} {n : Int32} (hl0 : ls[0]? = some (.val (.ref h0))) (d1 : decode cc pc = .ok (.aload_n 0, 1))
    (hpu : ∀ (H : Heap) (locs : List Loc) (rest : List Value), W p l e R s m args below meth c H locs cells slots Q (F0 m p1 ls (.int n :: rest)) → W p l e R s m args below meth c H locs cells slots Q (F0 m (pc + 1) ls rest))
    (d2 : decode cc p1 = .ok (.newarray at0, 2)) (d3 : decode cc (p1 + 2) = .ok (.putfield idx, 3)) (ht : ic_ty t at0 ty) (hf : ic_fk own idx ci j (.array ty)) (hn : ¬ n < 0) (hN : n.toNatClampNeg = N) (hN2 : Nat.ble N 60000000 = true) (hcells : cells + 1 ≤ R.cells) (hslots : slots + N ≤ R.slots) (hl : Nat.blt j fs.length = true)
    (hP : va_P D vwCl ((h0, .inr (ci, fs)) :: as) H) (hD : va_D A ((h0, .inr (ci, fs)) :: as)) (hS : va_S A H0 H locs) (hA : ∀ q, H0.size ≤ q → A q)
    (kk : ∀ (q : Nat) (H1 : Heap) (locs1 : List Loc), va_P D vwCl ((h0, .inr (ci, fs.set j (.ref q))) :: (as ++ [(q, .inl (dA t, ic_z t N))])) H1 → va_D A ((h0, .inr (ci, fs.set j (.ref q))) :: (as ++ [(q, .inl (dA t, ic_z t N))])) → va_S A H0 H1 locs1 → W p l e R s m args below meth c H1 locs1 (cells + 1) (slots + N) Q (F0 m (p1 + 5) ls [])) : W p l e R s m args below meth c H locs cells slots Q (F0 m pc ls []) := by
  refine lv_aload_n h.1 h.2.1 d1 rfl hl0 ?_
  refine hpu _ _ _ ?_
  refine ic_newa h ht hP hD hS hA hn hN hN2 hcells hslots d2 (fun q H1 hP1 hD1 hS1 => ?_)
  exact ic_put h hin (q0 := 0) hf rfl rfl hP1 hD1 hS1 rfl hl d3 (fun H2 locs2 hP2 hD2 hS2 => kk q H2 locs2 hP2 hD2 hS2)
/-- this.f = v -/
theorem ic_set (h : ic_ok cc nL own D dA p s m args c) (hin : meth.name = "<init>") {ci j idx h0 : Nat} {ty : FieldType} {fs : List Value} {as : va_W} {v : Value} (hl0 : ls[0]? = some (.val (.ref h0))) (d1 : decode cc pc = .ok (.aload_n 0, 1))
    (hpu : ∀ (H : Heap) (locs : List Loc) (rest : List Value), W p l e R s m args below meth c H locs cells slots Q (F0 m p1 ls (v :: rest)) → W p l e R s m args below meth c H locs cells slots Q (F0 m (pc + 1) ls rest))
    (d3 : decode cc p1 = .ok (.putfield idx, 3)) (hf : ic_fk own idx ci j ty) (hv : narrow ty v = v) (hv2 : fits ty v = true) (hl : Nat.blt j fs.length = true)
    (hP : va_P D vwCl ((h0, .inr (ci, fs)) :: as) H) (hD : va_D A ((h0, .inr (ci, fs)) :: as)) (hS : va_S A H0 H locs)
    (kk : ∀ (H1 : Heap) (locs1 : List Loc), va_P D vwCl ((h0, .inr (ci, fs.set j v)) :: as) H1 → va_D A ((h0, .inr (ci, fs.set j v)) :: as) → va_S A H0 H1 locs1 → W p l e R s m args below meth c H1 locs1 cells slots Q (F0 m (p1 + 3) ls [])) : W p l e R s m args below meth c H locs cells slots Q (F0 m pc ls []) := by
  refine lv_aload_n h.1 h.2.1 d1 rfl hl0 ?_
  refine hpu _ _ _ ?_
  exact ic_put h hin (q0 := 0) hf hv hv2 hP hD hS rfl hl d3 (fun H2 locs2 hP2 hD2 hS2 => kk H2 locs2 hP2 hD2 hS2)
/-- super() -/
theorem ic_sup (h : ic_ok cc nL own D dA p s m args c) {idx h0 : Nat} (hl0 : ls[0]? = some (.val (.ref h0))) (hsz : ls.size = nL) (d1 : decode cc pc = .ok (.aload_n 0, 1)) (d2 : decode cc (pc + 1) = .ok (.invokespecial idx, 3)) (hl : Cond.methodLink own idx Lib.objectInit ∈ js_tb ∧ Cond.instanceMethod Lib.objectInit ∈ js_tb ∧ Cond.code Lib.objectInit ⟨#[0xb1]⟩ 1 none ∈ js_tb) (hR : 1 ≤ R.frames ∧ 12 ≤ R.locals)
    (kk : W p l e R s m args below meth c H locs cells slots Q (F0 m (pc + 4) ls [])) : W p l e R s m args below meth c H locs cells slots Q (F0 m pc ls []) := by
  refine lv_aload_n h.1 h.2.1 d1 rfl hl0 ?_
  exact W.objInit (g := F0 m (pc + 1) ls [.ref h0]) h.1 h.2.1 h.2.2.2.1 (h.2.2.2.2.1 _ hl.1) (h.2.2.2.2.1 _ hl.2.1) (h.2.2.2.2.1 _ hl.2.2) rfl (by rw [h.2.2.1]; exact hsz) rfl d2 hR.1 (by show 2 * 0 + 0 + 12 ≤ _; exact hR.2) kk
/-- a constructor's contract: the object's cell becomes a block of cells -/
def ic_pre (D : va_G) (dA : Nat → ClassId) (ci : Nat) (f0 : List Value) (h0 sz : Nat) (U : State) : Prop := U.heap.size = sz ∧ va_P D vwCl [(h0, .inr (ci, f0))] U.heap ∧ va_K D vwCl (js_tys dA) U ∧ va_D (fun _ => True) [(h0, .inr (ci, f0))] ∧ ic_nw U
def ic_rm (fr mc ms : Nat) : Room := { frames := fr, cells := mc, slots := ms, locals := 36 * fr }
def ic_Me (y : MethodName) (cc : ByteArray) (nL fr mc ms ci : Nat) (f0 : List Value) (ok : List Value → Prop) (post : Nat → (Nat → Nat) → Prop) (B : (Nat → ClassId) → Nat → List Value → (Nat → Nat) → va_W) : Prop := ∀ (l : Launch) (D : va_G) (dA : Nat → ClassId) (h0 sz : Nat) (As : List Value), ok As →
  Met l y (.code y cc nL none :: js_tb) (ic_rm fr mc ms) (va_Pc (.ref h0 :: As) (ic_pre D dA ci f0 h0 sz)) (va_Qv (post h0) (fun u t => va_P D vwCl (B dA h0 As u) t.heap ∧ va_D (va_A [(h0, .inr (ci, f0))] sz) (B dA h0 As u)) (va_A [(h0, .inr (ci, f0))] sz)) mc ms (va_A [(h0, .inr (ci, f0))] sz)
theorem va_nd_range' : ∀ (n a : Nat), va_nd (List.range' a n) = true
  | 0, _ => rfl
  | n + 1, a => by
    rw [List.range'_succ, va_nd, va_nd_range' n (a + 1)]
    simp
theorem ic_call (h : ic_ok cc nL own D dA p s m args c) {y : MethodName} {cc' : ByteArray} {nL' fr mc ms ci n idx q : Nat} {f0 : List Value} {ok : List Value → Prop} {post : Nat → (Nat → Nat) → Prop} {B : (Nat → ClassId) → Nat → List Value → (Nat → Nat) → va_W} {As : List Value} (hM : ic_Me y cc' nL' fr mc ms ci f0 ok post B) (hok : ok As) (hy : Cond.code y cc' nL' none ∈ js_tb ∧ Cond.initialized y.cls ∈ js_tb ∧ Cond.instanceMethod y ∈ js_tb ∧ y.name = "<init>" ∧ (y.cls ≠ "java/lang/invoke/MethodHandle" ∧ y.cls ≠ "java/lang/invoke/VarHandle" ∧ (parseMethodDescriptor y.desc).map (fun d => d.parameters.length) = some n)) (hl : Cond.methodLink own idx y ∈ js_tb) (hn : As.length = n) (hR : fr + 1 ≤ R.frames ∧ 8 + (nL' + 11) + 36 * fr ≤ R.locals) (hf : cells + mc ≤ R.cells ∧ slots + ms ≤ R.slots) (hsz : ls.size = nL) (hs : js_sm 8 rest)
    (hP : va_P D vwCl (ws ++ [(q, .inr (ci, f0))]) H) (hD : va_D A (ws ++ [(q, .inr (ci, f0))])) (hS : va_S A H0 H locs) (hA : ∀ q, H0.size ≤ q → A q) (hd : decode cc pc = .ok (.invokespecial idx, 3))
    (kk : ∀ (u : Nat → Nat) (H1 : Heap) (locs1 : List Loc), post q u → va_P D vwCl (ws ++ B dA q As u) H1 → va_D A (ws ++ B dA q As u) → va_S A H0 H1 locs1 → W p l e R s m args below meth c H1 locs1 (cells + mc) (slots + ms) Q (F0 m (pc + 3) ls rest)) : W p l e R s m args below meth c H locs cells slots Q (F0 m pc ls (As.reverse ++ .ref q :: rest)) := by
  obtain ⟨h1, h2, h3, h4, h5, h6, h7⟩ := h
  obtain ⟨y1, y2, y3, y4, y5⟩ := hy
  have hlast : (ws ++ [(q, Sum.inr (ci, f0))])[ws.length]? = some ((q, Sum.inr (ci, f0)) : Nat × va_E) := by simp
  have hG : GoodIn js_tb (.code y cc' nL' none :: js_tb) := by
    intro w hw
    have hm : w ∈ js_tb := by
      rcases List.mem_cons.mp hw with rfl | hw
      · exact y1
      · exact hw
    exact ⟨hm, good_of_word (js_good w hm)⟩
  have hPc := hP.sub (ws' := [(q, .inr (ci, f0))]) [ws.length] (by simp)
  have hDc := hD.sub (ws' := [(q, .inr (ci, f0))]) [ws.length] rfl (by simp)
  have hFc := va_free (wc := [(q, .inr (ci, f0))]) hD hS hA [ws.length] (by simp)
  refine va_callv (va_runI (As := As) (rest := rest) ⟨h1, h2, h3, h4, h5⟩ (hM l D dA q H.size As hok) (cwI n h5 hG rfl rfl rfl (h5 _ y2) (h5 _ hl) (h5 _ y3) y4 y5 hR) ⟨fun a U g mk q => by obtain ⟨q0, q1, qP, qK, qD, qN⟩ := q; exact ⟨q0, q1, qP, va_K.moved (u := U) (U := U.calling g mk a) (Vm.Alike.refl U.vm) qK, qD, ic_nw.same (u := U) (U := U.calling g mk a) rfl qN⟩, fun U hU hW => ⟨rfl, by rw [hU], by rw [hU]; exact hPc, va_K.moved hW.alike h6, hDc.weaken (fun _ _ _ _ => trivial), h7.warm hW⟩⟩ rfl hn hsz rfl (lv_room hs) hd hf) hS (fun q _ h => hFc q h) hFc (fun u t H1 locs1 ht hvm hw hB hz1 hk1 hS1 => ?_)
  obtain ⟨hP1, hD1⟩ := hB
  rw [ht] at hP1
  have hR1 : (List.range' 0 ws.length).map (fun i => (ws ++ [((q, .inr (ci, f0)) : Nat × va_E)])[i]?) = ws.map some := by
    apply List.ext_getElem?
    intro i
    by_cases hi : i < ws.length
    · simp [hi, List.getElem?_append_left]
    · simp [hi]
  have hR2 : ∀ i ∈ List.range' 0 ws.length, i ∉ [ws.length] := by
    intro i hi hc
    rw [List.mem_range'_1] at hi
    simp at hc
    omega
  obtain ⟨hP2, hD2⟩ := va_join (wr := ws) (w1 := B dA q As u) hP hD [ws.length] (List.range' 0 ws.length) (by simp) hR1 (va_nd_range' _ _) hR2 hk1 hFc hP1 hD1
  exact kk u H1 locs1 hw hP2 hD2 hS1
theorem ic_callN (h : ic_ok cc nL own D dA p s m args c) {y : MethodName} {cc' : ByteArray} {nL' fr mc ms ci n idx q : Nat} {f0 : List Value} {ok : List Value → Prop} {post : Nat → (Nat → Nat) → Prop} {B : (Nat → ClassId) → Nat → List Value → (Nat → Nat) → va_W} {As : List Value} (hM : ic_Me y cc' nL' fr mc ms ci f0 ok post B) (hok : ok As) (hy : Cond.code y cc' nL' none ∈ js_tb ∧ Cond.initialized y.cls ∈ js_tb ∧ Cond.instanceMethod y ∈ js_tb ∧ y.name = "<init>" ∧ (y.cls ≠ "java/lang/invoke/MethodHandle" ∧ y.cls ≠ "java/lang/invoke/VarHandle" ∧ (parseMethodDescriptor y.desc).map (fun d => d.parameters.length) = some n)) {host : String} (hl : va_Nw (.methodLinkNest own idx y host) s) (hn : As.length = n) (hR : fr + 1 ≤ R.frames ∧ 8 + (nL' + 11) + 36 * fr ≤ R.locals) (hf : cells + mc ≤ R.cells ∧ slots + ms ≤ R.slots) (hsz : ls.size = nL) (hs : js_sm 8 rest)
    (hP : va_P D vwCl (ws ++ [(q, .inr (ci, f0))]) H) (hD : va_D A (ws ++ [(q, .inr (ci, f0))])) (hS : va_S A H0 H locs) (hA : ∀ q, H0.size ≤ q → A q) (hd : decode cc pc = .ok (.invokespecial idx, 3))
    (kk : ∀ (u : Nat → Nat) (H1 : Heap) (locs1 : List Loc), post q u → va_P D vwCl (ws ++ B dA q As u) H1 → va_D A (ws ++ B dA q As u) → va_S A H0 H1 locs1 → W p l e R s m args below meth c H1 locs1 (cells + mc) (slots + ms) Q (F0 m (pc + 3) ls rest)) : W p l e R s m args below meth c H locs cells slots Q (F0 m pc ls (As.reverse ++ .ref q :: rest)) := by
  obtain ⟨h1, h2, h3, h4, h5, h6, h7⟩ := h
  obtain ⟨y1, y2, y3, y4, y5⟩ := hy
  have hlast : (ws ++ [(q, Sum.inr (ci, f0))])[ws.length]? = some ((q, Sum.inr (ci, f0)) : Nat × va_E) := by simp
  have hG : GoodIn js_tb (.code y cc' nL' none :: js_tb) := by
    intro w hw
    have hm : w ∈ js_tb := by
      rcases List.mem_cons.mp hw with rfl | hw
      · exact y1
      · exact hw
    exact ⟨hm, good_of_word (js_good w hm)⟩
  have hPc := hP.sub (ws' := [(q, .inr (ci, f0))]) [ws.length] (by simp)
  have hDc := hD.sub (ws' := [(q, .inr (ci, f0))]) [ws.length] rfl (by simp)
  have hFc := va_free (wc := [(q, .inr (ci, f0))]) hD hS hA [ws.length] (by simp)
  refine va_callv (va_runIN (As := As) (rest := rest) ⟨h1, h2, h3, h4, h5⟩ (hM l D dA q H.size As hok) ⟨va_cnB n h5 hG rfl rfl rfl hl (h5 _ y2) y5 hR, y4, h5 _ y3⟩ ⟨fun a U g mk q => by obtain ⟨q0, q1, qP, qK, qD, qN⟩ := q; exact ⟨q0, q1, qP, va_K.moved (u := U) (U := U.calling g mk a) (Vm.Alike.refl U.vm) qK, qD, ic_nw.same (u := U) (U := U.calling g mk a) rfl qN⟩, fun U hU hW => ⟨rfl, by rw [hU], by rw [hU]; exact hPc, va_K.moved hW.alike h6, hDc.weaken (fun _ _ _ _ => trivial), h7.warm hW⟩⟩ rfl hn hsz rfl (lv_room hs) hd hf) hS (fun q _ h => hFc q h) hFc (fun u t H1 locs1 ht hvm hw hB hz1 hk1 hS1 => ?_)
  obtain ⟨hP1, hD1⟩ := hB
  rw [ht] at hP1
  have hR1 : (List.range' 0 ws.length).map (fun i => (ws ++ [((q, .inr (ci, f0)) : Nat × va_E)])[i]?) = ws.map some := by
    apply List.ext_getElem?
    intro i
    by_cases hi : i < ws.length
    · simp [hi, List.getElem?_append_left]
    · simp [hi]
  have hR2 : ∀ i ∈ List.range' 0 ws.length, i ∉ [ws.length] := by
    intro i hi hc
    rw [List.mem_range'_1] at hi
    simp at hc
    omega
  obtain ⟨hP2, hD2⟩ := va_join (wr := ws) (w1 := B dA q As u) hP hD [ws.length] (List.range' 0 ws.length) (by simp) hR1 (va_nd_range' _ _) hR2 hk1 hFc hP1 hD1
  exact kk u H1 locs1 hw hP2 hD2 hS1
/-- a constructor's contract out of its walk -/
theorem ic_met {y : MethodName} {cc : ByteArray} {nL fr mc ms ci : Nat} {f0 : List Value} {ok : List Value → Prop} {post : Nat → (Nat → Nat) → Prop} {B : (Nat → ClassId) → Nat → List Value → (Nat → Nat) → va_W} (hy : plainName y.cls = true) (hyn : y.name = "<init>") (hw : ∀ h0 As, ok As → (lg_sl (.ref h0 :: As)).length ≤ nL)
    (hb : ∀ (p : Program) (l : Launch) (e : Env) (s : State) (m : MethodId) (args : Array Value) (below : List Frame) (meth : Method) (c : Code) (D : va_G) (dA : Nat → ClassId) (h0 : Nat) (As : List Value) (ls : Array Slot) (A : Nat → Prop) (Q : State → Prop), ok As → ic_ok cc nL y.cls D dA p s m args c → meth.name = "<init>" → lv_has ls nL (lv_args 0 (.ref h0 :: As)) → va_P D vwCl [(h0, .inr (ci, f0))] s.heap → va_D A [(h0, .inr (ci, f0))] → (∀ q, s.heap.size ≤ q → A q) →
      (∀ (u : Nat → Nat) (H1 : Heap) (locs1 : List Loc) (pc : Nat) (ls : Array Slot), post h0 u → va_P D vwCl (B dA h0 As u) H1 → va_D A (B dA h0 As u) → va_S A s.heap H1 locs1 → decode cc pc = .ok (.return_, 1) → W p l e (ic_rm fr mc ms) s m args below meth c H1 locs1 mc ms Q (F0 m pc ls [])) →
      W p l e (ic_rm fr mc ms) s m args below meth c s.heap [] 0 0 Q (F0 m 0 ls [])) : ic_Me y cc nL fr mc ms ci f0 ok post B := by
  intro l D dA h0 sz As hok
  refine Met.ofW (cc := cc) (maxL := nL) (ret := none) hy rfl ?_
  intro p e s m args below meth c s₁ B0 hml hv
  obtain ⟨rfl, hsz, hP, hK, hD0, hN0⟩ := hv
  subst hsz
  have hts : ∀ w ∈ js_tb, w.before _ s = true := fun w hw => atoms_spec (ws := .code y cc nL none :: js_tb) B0.pre w (List.mem_cons_of_mem _ hw)
  have hown : s.vm.findClass y.cls = some m.cls := findClass_of_methodNamed B0.named
  have hlocks := B0.notSynchronized
  have hr := B0.returns
  have hin : meth.name = "<init>" := (name_of_methodNamed B0.named B0.method).1.trans hyn
  have hD := hD0.self (sz := s.heap.size)
  rw [lg_entry_eq]
  have hl := lv_entry (.ref h0 :: As) (n := nL) (hw h0 As hok)
  generalize (lg_sl (.ref h0 :: As) ++ List.replicate (nL - (lg_sl (.ref h0 :: As)).length) Slot.unset).toArray = ls at hl ⊢
  refine hb p l e s m _ below meth c D dA h0 As ls (va_A [(h0, .inr (ci, f0))] s.heap.size) _ hok ⟨B0.exec, B0.bytes, hml, hown, hts, hK, hN0⟩ hin hl hP hD (fun q h => Or.inr h) (fun u H1 locs1 pc ls hpo hP1 hD1 hS1 hd => ?_)
  exact W.vret B0.exec B0.bytes hr (fun t ht hW => ⟨⟨u, rfl, hpo, by rw [ht]; exact hP1, hD1⟩, hS1.F ht⟩) hS1.2.2 hd
end
