section
/-! ===== method contracts, calls ===== -/
def js_B (κ : js_Ks) (τ : js_Tb) (μ : js_Mm) (sz : Nat) (U : State) : Prop := U.heap.size = sz ∧ va_P (tD τ) vwCl (js_ws (kG κ) (tA τ) (tC τ) μ) U.heap ∧ va_K (tD τ) vwCl (js_tys (tC τ)) U ∧ va_D (fun _ => True) (js_ws (kG κ) (tA τ) (tC τ) μ) ∧ js_sg τ (js_Ax (kG κ) (tA τ) sz) U U.heap
def js_E (κ : js_Ks) (τ : js_Tb) (μ : js_Mm) (_ : Unit) (t : State) : Prop := va_P (tD τ) vwCl (js_ws (kG κ) (tA τ) (tC τ) μ) t.heap ∧ js_can (kG κ) μ
def js_Q (κ : js_Ks) (τ : js_Tb) (μ : js_Mm) (v : Int) (sz : Nat) : Array Value → State → Outcome → State → Prop := if kT κ = 0 then va_Qv (fun _ => True) (js_E κ τ μ) (js_Ax (kG κ) (tA τ) sz) else va_Qi (fun r _ => r = Int32.ofInt v ∧ js_rg (kG κ) 1 v) (js_E κ τ μ) (js_Ax (kG κ) (tA τ) sz)
def js_Me (y : MethodName) (κ : js_Ks) (ret : Option FieldType) (ts : List Nat) (F : js_FF) : Prop := ∀ (l : Launch) (τ : js_Tb) (zs : List Int) (μ : js_Mm) (v : Int) (μ' : js_Mm) (sz : Nat), F zs μ = some (v, μ') → js_can (kG κ) μ → js_ag (kG κ) ts zs →
  Met l y (.code y (kC κ) (kN κ) ret :: js_tb) (js_rm (kR κ)) (va_Pc (js_vs τ ts zs) (js_B κ τ μ sz)) (js_Q κ τ μ' v sz) 0 0 (js_Ax (kG κ) (tA τ) sz)
/-- what the tables say of a method -/
def js_yi (y : MethodName) (κ : js_Ks) (ret : Option FieldType) (n : Nat) : Prop := Cond.code y (kC κ) (kN κ) ret ∈ js_tb ∧ Cond.initialized y.cls ∈ js_tb ∧ y.cls ≠ "java/lang/invoke/MethodHandle" ∧ y.cls ≠ "java/lang/invoke/VarHandle" ∧ (parseMethodDescriptor y.desc).map (fun d => d.parameters.length) = some n ∧ plainName y.cls = true ∧ kN κ ≤ 17
def js_yv (y : MethodName) : Prop := Cond.instanceMethod y ∈ js_tb ∧ Cond.selects y.cls y y ∈ js_tb
theorem js_ws_some {g : Nat} {ad : Nat → Nat} {dA : Nat → ClassId} {μ : js_Mm} {i : Nat} {q : Nat × va_E} (h : (js_ws g ad dA μ)[i]? = some q) : i < js_n g ∧ q = (ad i, js_ce g ad dA μ i) := by
  by_cases hi : i < js_n g
  · rw [js_ws_get hi] at h
    exact ⟨hi, (Option.some.inj h).symm⟩
  · exfalso
    rw [List.getElem?_eq_none (by simp [js_ws]; omega)] at h
    cases h
theorem js_Dm {A B : Nat → Prop} {g : Nat} {ad : Nat → Nat} {dA : Nat → ClassId} {μ μ' : js_Mm} (h : va_D A (js_ws g ad dA μ)) (hB : ∀ k, k < js_n g → A (ad k) → B (ad k)) : va_D B (js_ws g ad dA μ') := by
  refine ⟨fun i j a b ha hb e => ?_, fun i a ha => ?_⟩
  · obtain ⟨hi, rfl⟩ := js_ws_some ha
    obtain ⟨hj, rfl⟩ := js_ws_some hb
    exact h.1 i j _ _ (js_ws_get hi) (js_ws_get hj) e
  · obtain ⟨hi, rfl⟩ := js_ws_some ha
    exact hB i hi (h.2 i _ (js_ws_get hi))
theorem js_sg_up {τ : js_Tb} {A B : Nat → Prop} {s U : State} {H : Heap} {locs : List Loc} (h : js_sg τ A s s.heap) (hS : va_S A s.heap H locs) (hU : U.heap = H) (hW : s.WarmedH U.vm) (hAB : ∀ q, B q → A q) : js_sg τ B U U.heap := by
  rw [hU]
  have hq : ∀ a : Nat, a < s.heap.size → ¬ A a → H[a]? = s.heap[a]? := hS.2.1
  exact ⟨((h.1.kept hq).moved hW.alike).narrow hAB, fun i q hi => (h.2.1 i q hi).warm hW, ((h.2.2.1.kept hq).moved hW.alike).narrow hAB, ((h.2.2.2.kept hq).moved hW.alike).narrow hAB⟩
theorem js_blind (κ : js_Ks) (τ : js_Tb) (μ : js_Mm) (sz : Nat) (av : List Value) : FrameBlind (va_Pc av (js_B κ τ μ sz)) := by
  intro a U fr mk hq
  obtain ⟨q0, q1, qP, qK, qD, qs⟩ := hq
  exact ⟨q0, q1, qP, va_K.moved (u := U) (U := U.calling fr mk a) (Vm.Alike.refl U.vm) qK, qD, vk_S.moved (u := U) (U := U.calling fr mk a) (Vm.Alike.refl U.vm) qs.1, fun i q hi => vk_R.same (u := U) (U := U.calling fr mk a) rfl (qs.2.1 i q hi), va_Z.moved (u := U) (U := U.calling fr mk a) (Vm.Alike.refl U.vm) qs.2.2.1, va_Zq.moved (u := U) (U := U.calling fr mk a) (Vm.Alike.refl U.vm) qs.2.2.2⟩
variable {κ : js_Ks} {k pc pc' p1 p2 p3 : Nat}
theorem js_callB {X : js_Cx} (h : js_ok κ X) {y : MethodName} {κ' : js_Ks} {ret : Option FieldType} {n idx : Nat} (hy : js_yi y κ' ret n) (hl : Cond.methodLink (kO κ) idx y ∈ js_tb) (hrk : kR κ' + 1 ≤ kR κ) :
    CallB (js_rm (kR κ)) (xS X) (xA X) (kO κ) idx y (kC κ') (kN κ') ret (.code y (kC κ') (kN κ') ret :: js_tb) (js_rm (kR κ')) 0 0 n := by
  obtain ⟨h1, h2, h3, h4, h5, h6, h7⟩ := hy
  have hts := h.2.2.2.2.1
  have hG : GoodIn js_tb (.code y (kC κ') (kN κ') ret :: js_tb) := by
    intro w hw
    have hm : w ∈ js_tb := by
      rcases List.mem_cons.mp hw with rfl | hw
      · exact h1
      · exact hw
    exact ⟨hm, good_of_word (js_good w hm)⟩
  refine callB_of n hts hG rfl rfl rfl (hts _ h2) (hts _ hl) ⟨h3, h4, h5⟩ ⟨hrk, ?_⟩
  show 8 + (kN κ' + 11) + 36 * kR κ' ≤ 36 * kR κ
  omega
theorem js_pre {X : js_Cx} (h : js_ok κ X) {κ' : js_Ks} {μ : js_Mm} {H : Heap} {locs : List Loc} (hg : kG κ' = kG κ) (hh : js_hd κ X μ H locs) (av : List Value) : ∀ U : State, U.heap = H → (xS X).WarmedH U.vm → va_Pc av (js_B κ' (xT X) μ H.size) av.toArray U := by
  intro U hU hW
  refine ⟨rfl, by rw [hU], by rw [hU, hg]; exact hh.1, va_K.moved hW.alike h.2.2.2.2.2.1, by rw [hg]; exact js_Dm hh.2.1 (fun _ _ _ => trivial), ?_⟩
  rw [hg]
  refine js_sg_up h.2.2.2.2.2.2.1 hh.2.2.1 hU hW (fun q hq => ?_)
  rcases hq with hq | hq
  · exact Or.inl hq
  · exact Or.inr (Nat.le_trans hh.2.2.1.1 hq)
theorem js_Aq {X : js_Cx} {μ : js_Mm} {H : Heap} {locs : List Loc} (hh : js_hd κ X μ H locs) : ∀ q, js_Ax (kG κ) (tA (xT X)) H.size q → js_Ax (kG κ) (tA (xT X)) (xS X).heap.size q := by
  intro q hq
  rcases hq with hq | hq
  · exact Or.inl hq
  · exact Or.inr (Nat.le_trans hh.2.2.1.1 hq)
/-- behind a call with an answer -/
theorem js_aft {X : js_Cx} {κ' : js_Ks} {μ μ' : js_Mm} {v : Int} {H : Heap} {locs : List Loc} {ls : Array Slot} {st0 st : List Value} {av : Array Value} (hg : kG κ' = kG κ) (hT : kT κ' ≠ 0) (hh : js_hd κ X μ H locs)
    (hr : va_Run (xP X) (xL X) (xE X) (js_rm (kR κ)) (xS X) (xM X) (xA X) (xB X) (xH X) (xC X) H locs 0 0 0 0 (F0 (xM X) pc ls st0) st (js_Q κ' (xT X) μ' v H.size av) (js_Ax (kG κ') (tA (xT X)) H.size))
    (hk : js_rg (kG κ) 1 v → ∀ H' locs', js_hd κ X μ' H' locs' → js_W κ X H' locs' (pc + 3) ls (js_val (xT X) 1 v :: st)) : js_W κ X H locs pc ls st0 := by
  rw [js_Q, if_neg hT, hg] at hr
  refine va_calli hr hh.2.2.1 (fun q _ hq => js_Aq hh q hq) (fun q hq => js_Aq hh q hq) (fun r u t H1 locs1 ht hvm hpost hB hz hkk hS => ?_)
  rw [hpost.1]
  refine hk hpost.2 H1 locs1 ⟨by rw [← ht, ← hg]; exact hB.1, js_Dm hh.2.1 (fun _ _ hx => hx), hS, by rw [← hg]; exact hB.2⟩
theorem js_afv {X : js_Cx} {κ' : js_Ks} {μ μ' : js_Mm} {v : Int} {H : Heap} {locs : List Loc} {ls : Array Slot} {st0 st : List Value} {av : Array Value} (hg : kG κ' = kG κ) (hT : kT κ' = 0) (hh : js_hd κ X μ H locs)
    (hr : va_Run (xP X) (xL X) (xE X) (js_rm (kR κ)) (xS X) (xM X) (xA X) (xB X) (xH X) (xC X) H locs 0 0 0 0 (F0 (xM X) pc ls st0) st (js_Q κ' (xT X) μ' v H.size av) (js_Ax (kG κ') (tA (xT X)) H.size))
    (hk : ∀ H' locs', js_hd κ X μ' H' locs' → js_W κ X H' locs' (pc + 3) ls st) : js_W κ X H locs pc ls st0 := by
  rw [js_Q, if_pos hT, hg] at hr
  refine va_callv hr hh.2.2.1 (fun q _ hq => js_Aq hh q hq) (fun q hq => js_Aq hh q hq) (fun u t H1 locs1 ht hvm hpost hB hz hkk hS => ?_)
  refine hk H1 locs1 ⟨by rw [← ht, ← hg]; exact hB.1, js_Dm hh.2.1 (fun _ _ hx => hx), hS, by rw [← hg]; exact hB.2⟩
theorem js_recv {X : js_Cx} (h : js_ok κ X) {μ : js_Mm} {H : Heap} {locs : List Loc} (hh : js_hd κ X μ H locs) {c o : Nat} {q : vw_C} (hc : (js_sh (kG κ) o).1 = c) (h12 : c < 12) (hq : vwCl[c]? = some q) : ∃ cellB : Cell, H[tA (xT X) o]? = some cellB ∧ cellB.vm.isStatics = false ∧ (xS X).vm.findClass q.1 = some cellB.cls := by
  have hw := js_ws_get (g := kG κ) (ad := tA (xT X)) (dA := tC (xT X)) (μ := μ) (js_sh_lt hc (by omega))
  rw [js_obj hc h12] at hw
  exact va_recv h.2.2.2.2.2.1 hh.1 hq hw
theorem js_vslen (τ : js_Tb) (g : Nat) : ∀ (ts : List Nat) (zs : List Int), js_ag g ts zs → (js_vs τ ts zs).length = ts.length
  | [], [], _ => rfl
  | [], _ :: _, h => h.elim
  | _ :: _, [], h => h.elim
  | t :: ts, z :: zs, h => by simp [js_vs, js_vslen τ g ts zs h.2]
theorem js_vrun {X : js_Cx} (h : js_ok κ X) {y : MethodName} {κ' : js_Ks} {ret : Option FieldType} {ts : List Nat} {F : js_FF} {c n idx : Nat} {μ μ' : js_Mm} {v o : Int} {zs : List Int} {H : Heap} {locs : List Loc} {ls : Array Slot} {st : List Value} {q : vw_C}
    (hM : js_Me y κ' ret (3 :: ts) F) (hy : js_yi y κ' ret n) (hyv : js_yv y) (hl : Cond.methodLink (kO κ) idx y ∈ js_tb) (hrk : kR κ' + 1 ≤ kR κ) (hg : kG κ' = kG κ) (hn : ts.length = n) (hq : vwCl[c]? = some q) (hqy : q.1 = y.cls) (h12 : c < 12) (hsz : ls.size = kN κ)
    (hF : F (o :: zs) μ = some (v, μ')) (hag : js_ag (kG κ) (3 :: ts) (o :: zs)) (hc : (js_sh (kG κ) o.toNat).1 = c) (hh : js_hd κ X μ H locs) (hs : js_sm 8 st) (hd : decode (kC κ) pc = .ok (.invokevirtual idx, 3)) :
    va_Run (xP X) (xL X) (xE X) (js_rm (kR κ)) (xS X) (xM X) (xA X) (xB X) (xH X) (xC X) H locs 0 0 0 0 (F0 (xM X) pc ls ((js_vs (xT X) (3 :: ts) (o :: zs)).reverse ++ st)) st (js_Q κ' (xT X) μ' v H.size (js_vs (xT X) (3 :: ts) (o :: zs)).toArray) (js_Ax (kG κ') (tA (xT X)) H.size) := by
  have hB := js_callB h hy hl hrk
  refine va_runV (S := ⟨h.1, h.2.1, h.2.2.1, h.2.2.2.1, h.2.2.2.2.1⟩) (C := y.cls) (b := tA (xT X) o.toNat) (As := js_vs (xT X) ts zs) (hM (xL X) (xT X) (o :: zs) μ v μ' H.size hF (by rw [hg]; exact hh.2.2.2) (by rw [hg]; exact hag)) ⟨hB, h.2.2.2.2.1 _ hyv.1, h.2.2.2.2.1 _ hyv.2⟩ ⟨js_blind _ _ _ _ _, ?_, js_pre h hg hh _⟩ rfl ?_ hsz ?_ (lv_room hs) hd ⟨Nat.le_refl _, Nat.le_refl _⟩
  · have hr := js_recv h hh hc h12 hq
    rw [hqy] at hr
    exact hr
  · rw [js_vslen _ _ _ _ hag.2, hn]
  · show (js_vs (xT X) (3 :: ts) (o :: zs)).reverse ++ st = _
    simp [js_vs, js_v3]
theorem js_smw {k : Nat} {st : List Value} (h : js_sm k st) (hk : k ≤ 8) : js_sm 8 st := Nat.le_trans h hk
theorem js_agc {g t : Nat} {ts : List Nat} {zs : List Int} (h : js_ag g (t :: ts) zs) : ∃ o zs', zs = o :: zs' := by
  cases zs with
  | nil => exact h.elim
  | cons o zs => exact ⟨o, zs, rfl⟩
theorem ok_cv {y : MethodName} {κ' : js_Ks} {ret : Option FieldType} {ts : List Nat} {F : js_FF} {c n idx : Nat} {q : vw_C} {as : List js_EE} (hM : js_Me y κ' ret (3 :: ts) F) (hy : js_yi y κ' ret n) (hyv : js_yv y) (hA : ok_A κ k pc p1 (3 :: ts) as) (hd : decode (kC κ) p1 = .ok (.invokevirtual idx, 3)) (hp : p1 + 3 = pc')
    (hl : Cond.methodLink (kO κ) idx y ∈ js_tb) (hq : vwCl[c]? = some q) (hqy : q.1 = y.cls) (hz : (Nat.ble (kR κ' + 1) (kR κ) && (kG κ' == kG κ) && (ts.length == n) && Nat.blt c 12 && Nat.ble k 8 && (kT κ' != 0)) = true) : ok_E κ k pc pc' 1 (js_cv (kG κ) c F as) := by
  simp only [Bool.and_eq_true, Nat.ble_eq, beq_iff_eq, bne_iff_ne, Nat.blt_eq] at hz
  obtain ⟨⟨⟨⟨⟨z1, z2⟩, z3⟩, z4⟩, z5⟩, z6⟩ := hz
  intro X h ρ μ z μ' ls st H locs he hl2 hh hs hk
  subst hp
  obtain ⟨zs, μ1, hes, he⟩ := js_bl_some he
  by_cases hrc : js_rc (kG κ) c zs = true
  · rw [if_pos hrc] at he
    refine hA X h ρ μ zs μ1 ls st H locs hes hl2 hh hs (fun hag H' locs' hh' => ?_)
    obtain ⟨o, zs', rfl⟩ := js_agc hag
    have hc := (js_isS (show js_is (kG κ) c o = true from hrc)).1
    exact js_aft z2 z6 hh' (js_vrun h hM hy hyv hl z1 z2 z3 hq hqy z4 hl2.1 he hag hc hh' (js_smw hs z5) hd) hk
  · rw [if_neg hrc] at he; cases he
theorem ok_cvv {y : MethodName} {κ' : js_Ks} {ret : Option FieldType} {ts : List Nat} {F : js_FF} {c n idx : Nat} {q : vw_C} {as : List js_EE} (hM : js_Me y κ' ret (3 :: ts) F) (hy : js_yi y κ' ret n) (hyv : js_yv y) (hA : ok_A κ k pc p1 (3 :: ts) as) (hd : decode (kC κ) p1 = .ok (.invokevirtual idx, 3)) (hp : p1 + 3 = pc')
    (hl : Cond.methodLink (kO κ) idx y ∈ js_tb) (hq : vwCl[c]? = some q) (hqy : q.1 = y.cls) (hz : (Nat.ble (kR κ' + 1) (kR κ) && (kG κ' == kG κ) && (ts.length == n) && Nat.blt c 12 && Nat.ble k 8 && (kT κ' == 0)) = true) : ok_V κ k pc pc' (js_cv (kG κ) c F as) := by
  simp only [Bool.and_eq_true, Nat.ble_eq, beq_iff_eq, bne_iff_ne, Nat.blt_eq] at hz
  obtain ⟨⟨⟨⟨⟨z1, z2⟩, z3⟩, z4⟩, z5⟩, z6⟩ := hz
  intro X h ρ μ z μ' ls st H locs he hl2 hh hs hk
  subst hp
  obtain ⟨zs, μ1, hes, he⟩ := js_bl_some he
  by_cases hrc : js_rc (kG κ) c zs = true
  · rw [if_pos hrc] at he
    refine hA X h ρ μ zs μ1 ls st H locs hes hl2 hh hs (fun hag H' locs' hh' => ?_)
    obtain ⟨o, zs', rfl⟩ := js_agc hag
    have hc := (js_isS (show js_is (kG κ) c o = true from hrc)).1
    exact js_afv z2 z6 hh' (js_vrun h hM hy hyv hl z1 z2 z3 hq hqy z4 hl2.1 he hag hc hh' (js_smw hs z5) hd) hk
  · rw [if_neg hrc] at he; cases he
theorem js_srun {X : js_Cx} (h : js_ok κ X) {y : MethodName} {κ' : js_Ks} {ret : Option FieldType} {ts : List Nat} {F : js_FF} {n idx : Nat} {μ μ' : js_Mm} {v : Int} {zs : List Int} {H : Heap} {locs : List Loc} {ls : Array Slot} {st : List Value}
    (hM : js_Me y κ' ret ts F) (hy : js_yi y κ' ret n) (hys : Cond.static y ∈ js_tb) (hl : Cond.methodLink (kO κ) idx y ∈ js_tb) (hrk : kR κ' + 1 ≤ kR κ) (hg : kG κ' = kG κ) (hn : ts.length = n) (hsz : ls.size = kN κ)
    (hF : F zs μ = some (v, μ')) (hag : js_ag (kG κ) ts zs) (hh : js_hd κ X μ H locs) (hs : js_sm 8 st) (hd : decode (kC κ) pc = .ok (.invokestatic idx, 3)) :
    va_Run (xP X) (xL X) (xE X) (js_rm (kR κ)) (xS X) (xM X) (xA X) (xB X) (xH X) (xC X) H locs 0 0 0 0 (F0 (xM X) pc ls ((js_vs (xT X) ts zs).reverse ++ st)) st (js_Q κ' (xT X) μ' v H.size (js_vs (xT X) ts zs).toArray) (js_Ax (kG κ') (tA (xT X)) H.size) := by
  have hB := js_callB h hy hl hrk
  refine va_runS (S := ⟨h.1, h.2.1, h.2.2.1, h.2.2.2.1, h.2.2.2.2.1⟩) (As := js_vs (xT X) ts zs) (hM (xL X) (xT X) zs μ v μ' H.size hF (by rw [hg]; exact hh.2.2.2) (by rw [hg]; exact hag)) ⟨hB, h.2.2.2.2.1 _ hys⟩ ⟨js_blind _ _ _ _ _, js_pre h hg hh _⟩ rfl ?_ hsz rfl (lv_room hs) hd ⟨Nat.le_refl _, Nat.le_refl _⟩
  rw [js_vslen _ _ _ _ hag, hn]
theorem ok_cs {y : MethodName} {κ' : js_Ks} {ret : Option FieldType} {ts : List Nat} {F : js_FF} {n idx : Nat} {as : List js_EE} (hM : js_Me y κ' ret ts F) (hy : js_yi y κ' ret n) (hys : Cond.static y ∈ js_tb) (hA : ok_A κ k pc p1 ts as) (hd : decode (kC κ) p1 = .ok (.invokestatic idx, 3)) (hp : p1 + 3 = pc')
    (hl : Cond.methodLink (kO κ) idx y ∈ js_tb) (hz : (Nat.ble (kR κ' + 1) (kR κ) && (kG κ' == kG κ) && (ts.length == n) && Nat.ble k 8 && (kT κ' != 0)) = true) : ok_E κ k pc pc' 1 (js_cs F as) := by
  simp only [Bool.and_eq_true, Nat.ble_eq, beq_iff_eq, bne_iff_ne, Nat.blt_eq] at hz
  obtain ⟨⟨⟨⟨z1, z2⟩, z3⟩, z5⟩, z6⟩ := hz
  intro X h ρ μ z μ' ls st H locs he hl2 hh hs hk
  subst hp
  obtain ⟨zs, μ1, hes, he⟩ := js_bl_some he
  refine hA X h ρ μ zs μ1 ls st H locs hes hl2 hh hs (fun hag H' locs' hh' => ?_)
  exact js_aft z2 z6 hh' (js_srun h hM hy hys hl z1 z2 z3 hl2.1 he hag hh' (js_smw hs z5) hd) hk
theorem ok_csv {y : MethodName} {κ' : js_Ks} {ret : Option FieldType} {ts : List Nat} {F : js_FF} {n idx : Nat} {as : List js_EE} (hM : js_Me y κ' ret ts F) (hy : js_yi y κ' ret n) (hys : Cond.static y ∈ js_tb) (hA : ok_A κ k pc p1 ts as) (hd : decode (kC κ) p1 = .ok (.invokestatic idx, 3)) (hp : p1 + 3 = pc')
    (hl : Cond.methodLink (kO κ) idx y ∈ js_tb) (hz : (Nat.ble (kR κ' + 1) (kR κ) && (kG κ' == kG κ) && (ts.length == n) && Nat.ble k 8 && (kT κ' == 0)) = true) : ok_V κ k pc pc' (js_cs F as) := by
  simp only [Bool.and_eq_true, Nat.ble_eq, beq_iff_eq, bne_iff_ne, Nat.blt_eq] at hz
  obtain ⟨⟨⟨⟨z1, z2⟩, z3⟩, z5⟩, z6⟩ := hz
  intro X h ρ μ z μ' ls st H locs he hl2 hh hs hk
  subst hp
  obtain ⟨zs, μ1, hes, he⟩ := js_bl_some he
  refine hA X h ρ μ zs μ1 ls st H locs hes hl2 hh hs (fun hag H' locs' hh' => ?_)
  exact js_afv z2 z6 hh' (js_srun h hM hy hys hl z1 z2 z3 hl2.1 he hag hh' (js_smw hs z5) hd) hk
/-- a call on a string constant -/
theorem js_trun {X : js_Cx} (h : js_ok κ X) {y : MethodName} {κ' : js_Ks} {ret : Option FieldType} {ts : List Nat} {F : js_FF} {n idx : Nat} {μ μ' : js_Mm} {v o : Int} {zs : List Int} {H : Heap} {locs : List Loc} {ls : Array Slot} {st : List Value}
    (hM : js_Me y κ' ret (4 :: ts) F) (hy : js_yi y κ' ret n) (hyv : js_yv y) (hl : Cond.methodLink (kO κ) idx y ∈ js_tb) (hrk : kR κ' + 1 ≤ kR κ) (hg : kG κ' = kG κ) (hn : ts.length = n) (hqy : "java/lang/String" = y.cls) (hsz : ls.size = kN κ)
    (hF : F (o :: zs) μ = some (v, μ')) (hag : js_ag (kG κ) (4 :: ts) (o :: zs)) (hh : js_hd κ X μ H locs) (hs : js_sm 8 st) (hd : decode (kC κ) pc = .ok (.invokevirtual idx, 3)) :
    va_Run (xP X) (xL X) (xE X) (js_rm (kR κ)) (xS X) (xM X) (xA X) (xB X) (xH X) (xC X) H locs 0 0 0 0 (F0 (xM X) pc ls ((js_vs (xT X) (4 :: ts) (o :: zs)).reverse ++ st)) st (js_Q κ' (xT X) μ' v H.size (js_vs (xT X) (4 :: ts) (o :: zs)).toArray) (js_Ax (kG κ') (tA (xT X)) H.size) := by
  have hB := js_callB h hy hl hrk
  refine va_runV (S := ⟨h.1, h.2.1, h.2.2.1, h.2.2.2.1, h.2.2.2.2.1⟩) (C := y.cls) (b := tK (xT X) o.toNat) (As := js_vs (xT X) ts zs) (hM (xL X) (xT X) (o :: zs) μ v μ' H.size hF (by rw [hg]; exact hh.2.2.2) (by rw [hg]; exact hag)) ⟨hB, h.2.2.2.2.1 _ hyv.1, h.2.2.2.2.1 _ hyv.2⟩ ⟨js_blind _ _ _ _ _, ?_, js_pre h hg hh _⟩ rfl ?_ hsz ?_ (lv_room hs) hd ⟨Nat.le_refl _, Nat.le_refl _⟩
  · have hr := vk_recv h.2.2.2.2.2.2.1.1 (i := o.toNat) (by have := hag.1.1; have := hag.1.2; omega) hh.2.2.1
    rw [hqy] at hr
    exact hr
  · rw [js_vslen _ _ _ _ hag.2, hn]
  · show (js_vs (xT X) (4 :: ts) (o :: zs)).reverse ++ st = _
    simp [js_vs, js_v4]
theorem ok_ct {y : MethodName} {κ' : js_Ks} {ret : Option FieldType} {ts : List Nat} {F : js_FF} {n idx : Nat} {as : List js_EE} (hM : js_Me y κ' ret (4 :: ts) F) (hy : js_yi y κ' ret n) (hyv : js_yv y) (hA : ok_A κ k pc p1 (4 :: ts) as) (hd : decode (kC κ) p1 = .ok (.invokevirtual idx, 3)) (hp : p1 + 3 = pc')
    (hl : Cond.methodLink (kO κ) idx y ∈ js_tb) (hqy : "java/lang/String" = y.cls) (hz : (Nat.ble (kR κ' + 1) (kR κ) && (kG κ' == kG κ) && (ts.length == n) && Nat.ble k 8 && (kT κ' != 0)) = true) : ok_E κ k pc pc' 1 (js_cs F as) := by
  simp only [Bool.and_eq_true, Nat.ble_eq, beq_iff_eq, bne_iff_ne, Nat.blt_eq] at hz
  obtain ⟨⟨⟨⟨z1, z2⟩, z3⟩, z5⟩, z6⟩ := hz
  intro X h ρ μ z μ' ls st H locs he hl2 hh hs hk
  subst hp
  obtain ⟨zs, μ1, hes, he⟩ := js_bl_some he
  refine hA X h ρ μ zs μ1 ls st H locs hes hl2 hh hs (fun hag H' locs' hh' => ?_)
  obtain ⟨o, zs', rfl⟩ := js_agc hag
  exact js_aft z2 z6 hh' (js_trun h hM hy hyv hl z1 z2 z3 hqy hl2.1 he hag hh' (js_smw hs z5) hd) hk
end
