section
/-! THE CLAIM OUT OF ONE WALK OF THE LAW'S BODY. Your part is whole_start (and what it stands on); all else here is the same for every law, but numbers. -/
def R_law : String := "TwoRumoursLaw"
def lw_P (b : Addr) (xs : List Int32) (args : Array Value) (s : State) : Prop := args = #[.ref b] ∧ s.IntsAt b xs ∧ xs.length ≤ 2560 ∧ (Jvm.Cond.and given_1 narrow_1).before args s = true
def lw_Q (_ : Array Value) (s : State) (o : Outcome) (t : State) : Prop := o = .returned (some (.int 1)) ∧ Framed s o t [] 600000 7302250
def lw_Z (below : List Frame) (a : Array Value) (s : State) : State → Prop := fun t => ∃ o, t.status = .running ∧ Ended t below o ∧ lw_Q a s o t
/-- the law's own end, with 1 on the stack, nothing written that was there before, its room as the claim has it -/
theorem lw_ret {p : Program} {l : Launch} {e : Env} {s : State} {m : MethodId} {below : List Frame} {meth : Method} {c : Code} {b : Nat} (hx : p.tables.exec = Jvm.exec) (hb : c.code = code) (hr : meth.sig.returnType = ret) (hlocks : meth.locks = false) {pc : Nat} {H : Heap} {ls : Array Slot} (hdg : decode code pc = .ok (.ireturn, 1)) : W p l e room_1 s m #[Value.ref b] below meth c H [] 600000 7302250 (lw_Z below #[Value.ref b] s) (F0 m pc ls [.int 1]) := by
  intro T hT X
  obtain ⟨fs, hret, hrun, hended, hW, hframe⟩ := X.leave (v := some (.int 1)) (hlocks := hlocks) (fun h => by rw [hr] at h; cases h)
  have hmeth' : T.vm.method? m = some meth := X.method'
  refine ⟨T.setFrames fs, ?_, .returned (some (.int 1)), hrun, hended, rfl, ⟨_, rfl⟩, hW, hframe⟩
  jvm_step X.here [X.here.top, hx, hb, hdg, hmeth', hr, ret, narrow_b1]
  (try refine ⟨rfl, ?_⟩); (try refine ⟨rfl, ?_⟩)
  first | (intro acts; rw [hret _ acts rfl rfl rfl]) | rw [hret _ _ rfl rfl rfl]
  exact Steps.refl _
/-- what holds at the law's entry: the machine, the code, the tables' words (any of lw_tbl by 'hts w (by decide +kernel)'), the script of L ints xs at the cell b, what the Statement gives of the start (any of its parts by flat_of_before) -/
def lw_At (p : Program) (s : State) (m : MethodId) (meth : Method) (c : Code) (b L : Nat) (xs : Nat → Int32) : Prop :=
  p.tables.exec = Jvm.exec ∧ c.code = code ∧ meth.sig.returnType = ret ∧ c.maxLocals = 4 ∧ s.vm.findClass R_law = some m.cls ∧ (∀ w ∈ lw_tbl, w.before #[Value.ref b] s = true) ∧ va_X b L xs s s.heap ∧ b < s.heap.size ∧ meth.locks = false ∧ (Jvm.Cond.and given_1 narrow_1).before #[Value.ref b] s = true
/-! the law's loop: fixed facts, the two memories -/
def lw_A (s : State) : Nat → Prop := fun q => s.heap.size ≤ q
def lw_Fx (p : Program) (s : State) (m : MethodId) (c : Code) (b : Nat) (D : va_G) (dA : Nat → ClassId) (adC adM kK kV : Nat → Nat) : Prop :=
  p.tables.exec = Jvm.exec ∧ c.code = code ∧ c.maxLocals = 4 ∧ s.vm.findClass RL = some m.cls ∧ (∀ w ∈ js_tb, w.before #[Value.ref b] s = true) ∧ va_K D vwCl (js_tys dA) s ∧ (∀ ad, js_sg (ad, D, dA, kK, kV) (lw_A s) s s.heap) ∧ va_D (lw_A s) (js_ws 0 adC dA mu0) ∧ va_D (lw_A s) (js_ws 1 adM dA nu0) ∧ ∀ i j, i < 101 → j < 28 → adC i ≠ adM j
def lw_J (s : State) (D : va_G) (dA : Nat → ClassId) (adC adM : Nat → Nat) (μ ν : js_Mm) (H : Heap) (locs : List Loc) : Prop :=
  va_P D vwCl (js_ws 0 adC dA μ) H ∧ va_P D vwCl (js_ws 1 adM dA ν) H ∧ va_S (lw_A s) s.heap H locs ∧ js_can 0 μ ∧ js_can 1 ν
abbrev lw_V (p : Program) (l : Launch) (e : Env) (s : State) (m : MethodId) (below : List Frame) (meth : Method) (c : Code) (b : Nat) (H : Heap) (locs : List Loc) (pc : Nat) (ls : Array Slot) (st : List Value) : Prop := W p l e room_1 s m #[Value.ref b] below meth c H locs 129 19201 (lw_Z below #[Value.ref b] s) (F0 m pc ls st)
variable {p : Program} {l : Launch} {e : Env} {s : State} {m : MethodId} {below : List Frame} {meth : Method} {c : Code} {b : Nat} {H : Heap} {locs : List Loc} {pc : Nat} {ls : Array Slot} {st : List Value} {D : va_G} {dA : Nat → ClassId} {adC adM kK kV : Nat → Nat}
theorem js_n_pos (g : Nat) : 0 < js_n g := by unfold js_n; split <;> decide
theorem lw_cg (hF : lw_Fx p s m c b D dA adC adM kK kV) {g h : Nat} {ad ad' : Nat → Nat} {μ μ' ν : js_Mm} (hD : va_D (lw_A s) (js_ws g ad dA μ)) (hdis : ∀ i j, i < js_n g → j < js_n h → ad i ≠ ad' j) (hP : va_P D vwCl (js_ws g ad dA μ) H) (hP' : va_P D vwCl (js_ws h ad' dA ν) H) (hS : va_S (lw_A s) s.heap H locs) (hcan : js_can g μ)
    {y : MethodName} {κ' : js_Ks} {ts : List Nat} {F : js_FF} {n idx cI : Nat} {q : vw_C} {v : Int} {zs : List Int} (hM : js_Me y κ' (some .int) (3 :: ts) F) (hy : js_yi y κ' (some .int) n) (hyv : js_yv y) (hl : Cond.methodLink RL idx y ∈ js_tb) (hz : (Nat.ble (kR κ') 11 && (kG κ' == g) && (ts.length == n) && (kT κ' != 0)) = true) (hq : vwCl[cI]? = some q) (hqy : q.1 = y.cls) (hc : (js_sh g 0).1 = cI) (h12 : cI < 12) (hv : F (0 :: zs) μ = some (v, μ')) (hag : js_ag g ts zs) (hsz : ls.size = 4) (hs : js_sm 8 st) (hd : decode code pc = .ok (.invokevirtual idx, 3))
    (kk : ∀ (H' : Heap) (locs' : List Loc), va_P D vwCl (js_ws g ad dA μ') H' → va_P D vwCl (js_ws h ad' dA ν) H' → va_S (lw_A s) s.heap H' locs' → js_can g μ' → lw_V p l e s m below meth c b H' locs' (pc + 3) ls (.int (Int32.ofInt v) :: st)) : lw_V p l e s m below meth c b H locs pc ls ((js_vs (ad, D, dA, kK, kV) (3 :: ts) (0 :: zs)).reverse ++ st) := by
  simp only [Bool.and_eq_true, Nat.ble_eq, beq_iff_eq, bne_iff_ne] at hz
  obtain ⟨⟨⟨z1, z2⟩, z3⟩, z4⟩ := hz
  obtain ⟨f1, f2, f3, f4, f5, f6, f7, f8, f9, f10⟩ := hF
  obtain ⟨y1, y2, y3, y4, y5, y6, y7⟩ := hy
  have hG : GoodIn js_tb (.code y (kC κ') (kN κ') (some .int) :: js_tb) := by
    intro w hw
    have hm : w ∈ js_tb := by
      rcases List.mem_cons.mp hw with rfl | hw
      · exact y1
      · exact hw
    exact ⟨hm, good_of_word (js_good w hm)⟩
  have hB : CallB room_1 s #[Value.ref b] RL idx y (kC κ') (kN κ') (some .int) (.code y (kC κ') (kN κ') (some .int) :: js_tb) (js_rm (kR κ')) 0 0 n := by
    refine callB_of n f5 hG rfl rfl rfl (f5 _ y2) (f5 _ hl) ⟨y3, y4, y5⟩ ⟨?_, ?_⟩
    · show kR κ' + 1 ≤ 12
      omega
    · show 8 + (kN κ' + 11) + 36 * kR κ' ≤ 432
      omega
  have hA1 : ∀ q, js_Ax g ad H.size q → lw_A s q := by
    intro q hq
    rcases hq with ⟨k, hk, rfl⟩ | hq
    · exact hD.2 k _ (js_ws_get hk)
    · exact Nat.le_trans hS.1 hq
  have hrv : ∃ cellB : Cell, H[ad 0]? = some cellB ∧ cellB.vm.isStatics = false ∧ s.vm.findClass y.cls = some cellB.cls := by
    have hw := js_ws_get (g := g) (ad := ad) (dA := dA) (μ := μ) (js_n_pos g)
    rw [js_obj hc h12] at hw
    have hr := va_recv f6 hP hq hw
    rw [hqy] at hr
    exact hr
  have hpre : ∀ U : State, U.heap = H → s.WarmedH U.vm → va_Pc (js_vs (ad, D, dA, kK, kV) (3 :: ts) (0 :: zs)) (js_B κ' (ad, D, dA, kK, kV) μ H.size) (js_vs (ad, D, dA, kK, kV) (3 :: ts) (0 :: zs)).toArray U := by
    intro U hU hW
    refine ⟨rfl, by rw [hU], by rw [hU, z2]; exact hP, va_K.moved hW.alike f6, by rw [z2]; exact js_Dm hD (fun _ _ _ => trivial), ?_⟩
    rw [z2]
    exact js_sg_up (f7 ad) hS hU hW hA1
  have hr := va_runV (p := p) (l := l) (e := e) (R := room_1) (below := below) (meth := meth) (locs := locs) (cells := 129) (slots := 19201) (g := F0 m pc ls ((js_vs (ad, D, dA, kK, kV) (3 :: ts) (0 :: zs)).reverse ++ st)) (rest := st) (S := ⟨f1, f2, f3, f4, f5⟩) (C := y.cls) (b := ad 0) (As := js_vs (ad, D, dA, kK, kV) ts zs) (hM l (ad, D, dA, kK, kV) (0 :: zs) μ v μ' H.size hv (by rw [z2]; exact hcan) (by rw [z2]; exact ⟨⟨by decide, by have := js_n_pos g; omega⟩, hag⟩)) ⟨hB, f5 _ hyv.1, f5 _ hyv.2⟩ ⟨js_blind _ _ _ _ _, hrv, hpre⟩ rfl (by rw [js_vslen _ _ _ _ hag, z3]) hsz (by simp [js_vs, js_v3]) (lv_room hs) hd ⟨Nat.le_of_ble_eq_true rfl, Nat.le_of_ble_eq_true rfl⟩
  rw [js_Q, if_neg z4, z2] at hr
  refine va_calli hr hS (fun q _ hq => hA1 q hq) hA1 (fun r u t H1 locs1 ht hvm hpost hB1 hz1 hk1 hS1 => ?_)
  rw [hpost.1]
  refine kk H1 locs1 (by rw [← ht, ← z2]; exact hB1.1) (hP'.kept (fun k x hx => ?_)) hS1 (by rw [← z2]; exact hB1.2)
  have hlt := (hP' k x hx).lt
  obtain ⟨hk, rfl⟩ := js_ws_some hx
  refine hk1 _ hlt ?_
  intro hq
  rcases hq with ⟨j, hj, e⟩ | hq
  · exact hdis j k hj hk e.symm
  · exact Nat.not_le.mpr hlt hq
theorem lw_cC (hF : lw_Fx p s m c b D dA adC adM kK kV) {μ μ' ν : js_Mm} (hJ : lw_J s D dA adC adM μ ν H locs)
    {y : MethodName} {κ' : js_Ks} {ts : List Nat} {F : js_FF} {n idx : Nat} {v : Int} {zs : List Int} (hM : js_Me y κ' (some .int) (3 :: ts) F) (hy : js_yi y κ' (some .int) n) (hyv : js_yv y) (hl : Cond.methodLink RL idx y ∈ js_tb) (hz : (Nat.ble (kR κ') 11 && (kG κ' == 0) && (ts.length == n) && (kT κ' != 0)) = true) (hqy : RX10 = y.cls) (hv : F (0 :: zs) μ = some (v, μ')) (hag : js_ag 0 ts zs) (hsz : ls.size = 4) (hs : js_sm 8 st) (hd : decode code pc = .ok (.invokevirtual idx, 3))
    (kk : ∀ (H' : Heap) (locs' : List Loc), lw_J s D dA adC adM μ' ν H' locs' → lw_V p l e s m below meth c b H' locs' (pc + 3) ls (.int (Int32.ofInt v) :: st)) : lw_V p l e s m below meth c b H locs pc ls ((js_vs (adC, D, dA, kK, kV) (3 :: ts) (0 :: zs)).reverse ++ st) :=
  lw_cg hF (g := 0) (h := 1) (js_Dm hF.2.2.2.2.2.2.2.1 (fun _ _ h => h)) (fun i j hi hj => hF.2.2.2.2.2.2.2.2.2 i j hi hj) hJ.1 hJ.2.1 hJ.2.2.1 hJ.2.2.2.1 hM hy hyv hl hz (cI := 10) rfl hqy rfl (by decide) hv hag hsz hs hd (fun H' locs' a1 a2 a3 a4 => kk H' locs' ⟨a1, a2, a3, a4, hJ.2.2.2.2⟩)
theorem lw_cM (hF : lw_Fx p s m c b D dA adC adM kK kV) {μ ν ν' : js_Mm} (hJ : lw_J s D dA adC adM μ ν H locs)
    {y : MethodName} {κ' : js_Ks} {ts : List Nat} {F : js_FF} {n idx : Nat} {v : Int} {zs : List Int} (hM : js_Me y κ' (some .int) (3 :: ts) F) (hy : js_yi y κ' (some .int) n) (hyv : js_yv y) (hl : Cond.methodLink RL idx y ∈ js_tb) (hz : (Nat.ble (kR κ') 11 && (kG κ' == 1) && (ts.length == n) && (kT κ' != 0)) = true) (hqy : RX11 = y.cls) (hv : F (0 :: zs) ν = some (v, ν')) (hag : js_ag 1 ts zs) (hsz : ls.size = 4) (hs : js_sm 8 st) (hd : decode code pc = .ok (.invokevirtual idx, 3))
    (kk : ∀ (H' : Heap) (locs' : List Loc), lw_J s D dA adC adM μ ν' H' locs' → lw_V p l e s m below meth c b H' locs' (pc + 3) ls (.int (Int32.ofInt v) :: st)) : lw_V p l e s m below meth c b H locs pc ls ((js_vs (adM, D, dA, kK, kV) (3 :: ts) (0 :: zs)).reverse ++ st) :=
  lw_cg hF (g := 1) (h := 0) (js_Dm hF.2.2.2.2.2.2.2.2.1 (fun _ _ h => h)) (fun i j hi hj e => hF.2.2.2.2.2.2.2.2.2 j i hj hi e.symm) hJ.2.1 hJ.1 hJ.2.2.1 hJ.2.2.2.2 hM hy hyv hl hz (cI := 11) rfl hqy rfl (by decide) hv hag hsz hs hd (fun H' locs' a1 a2 a3 a4 => kk H' locs' ⟨a2, a1, a3, hJ.2.2.2.1, a4⟩)
/-- script[i + k] -/
theorem lw_arg (hF : lw_Fx p s m c b D dA adC adM kK kV) {μ ν : js_Mm} (hJ : lw_J s D dA adC adM μ ν H locs) {L i k : Nat} {xs : Nat → Int32} {kz : Int} {x1 x2 : Nat} (hX : va_X b L xs s s.heap) (hbl : b < s.heap.size) (hL : L ≤ 2560) (hl : lv_has ls 4 [(0, .ref b), (1, .ref x1), (2, .ref x2), (3, .int (nI i))]) (hk : i + k < L) (hkz : Int32.ofInt kz = nI k) (d1 : decode code pc = .ok (.aload_n 0, 1)) (d2 : decode code (pc + 1) = .ok (.iload_n 3, 1)) (d3 : decode code (pc + 2) = .ok (.iconst kz, 1)) (d4 : decode code (pc + 3) = .ok (.iadd, 1)) (d5 : decode code (pc + 4) = .ok (.iaload, 1))
    (kk : lw_V p l e s m below meth c b H locs (pc + 5) ls (.int (Int32.ofInt (xs (i + k)).toInt) :: st)) : lw_V p l e s m below meth c b H locs pc ls st := by
  obtain ⟨f1, f2, f3, f4, f5, f6, f7, f8, f9, f10⟩ := hF
  refine lv_aload_n f1 f2 d1 rfl (lv_at hl 0 rfl) ?_
  refine lv_iload_n f1 f2 d2 rfl (lv_at hl 3 rfl) ?_
  refine lv_iconst f1 f2 d3 hkz ?_
  refine lv_iadd f1 f2 d4 ?_
  rw [nI_add]
  refine va_sld f1 f2 hX hbl (A := lw_A s) (Nat.not_le.mpr hbl) hJ.2.2.1 (vp_in_nI hk (by omega)) d5 ?_
  rw [nI_clamp (by omega), ← js_oi (xs (i + k))]
  exact kk
def lw_case (pc : Nat) : Prop := ∀ (p : Program) (l : Launch) (e : Env) (s : State) (m : MethodId) (below : List Frame) (meth : Method) (c : Code) (b L : Nat) (xs : Nat → Int32) (D : va_G) (dA : Nat → ClassId) (adC adM kK kV : Nat → Nat) (i : Nat) (ls : Array Slot), lw_Fx p s m c b D dA adC adM kK kV → va_X b L xs s s.heap → b < s.heap.size → L ≤ 2560 → i + 5 ≤ L → lv_has ls 4 [(0, .ref b), (1, .ref (adC 0)), (2, .ref (adM 0)), (3, .int (nI i))] →
  ∀ (μ ν : js_Mm) (H : Heap) (locs : List Loc), lw_J s D dA adC adM μ ν H locs → RR μ ν → (∀ (μ' ν' : js_Mm) (H' : Heap) (locs' : List Loc), lw_J s D dA adC adM μ' ν' H' locs' → RR μ' ν' → lw_V p l e s m below meth c b H' locs' 1347 ls []) → lw_V p l e s m below meth c b H locs pc ls []
end
