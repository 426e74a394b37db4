section
/-! ===== strings: length, charAt ===== -/
theorem js_met {y : MethodName} {κ : js_Ks} {ret : Option FieldType} {n : Nat} (hy : js_yi y κ ret n) (hO : kO κ = y.cls) {l : Launch} {τ : js_Tb} {av : List Value} {μ : js_Mm} {v : Int} {sz : Nat}
    (hret : (kT κ = 0 ∧ ret = none) ∨ (kT κ ≠ 0 ∧ ∃ ty, ret = some ty ∧ narrow ty (.int (Int32.ofInt v)) = .int (Int32.ofInt v))) (hcan : js_can (kG κ) μ) (hw : (lg_sl av).length ≤ kN κ)
    (hb : ∀ X ls, js_ok κ X → xT X = τ → xv X = v → xm X = μ → lv_has ls (kN κ) (lv_args 0 av) → js_hd κ X μ (xS X).heap [] → js_W κ X (xS X).heap [] 0 ls []) :
    Met l y (.code y (kC κ) (kN κ) ret :: js_tb) (js_rm (kR κ)) (va_Pc av (js_B κ τ μ sz)) (js_Q κ τ μ v sz) 0 0 (js_Ax (kG κ) (tA τ) sz) := by
  refine Met.ofW (cc := kC κ) (maxL := kN κ) (ret := ret) hy.2.2.2.2.2.1 rfl ?_
  intro p e s m args below meth c s₁ B hml hv
  obtain ⟨rfl, hsz, hP, hK, hD0, hsg⟩ := hv
  subst hsz
  have hts : ∀ w ∈ js_tb, w.before _ s = true := fun w hw => atoms_spec (ws := .code y (kC κ) (kN κ) ret :: js_tb) B.pre w (List.mem_cons_of_mem _ hw)
  have hown : s.vm.findClass (kO κ) = some m.cls := by rw [hO]; exact findClass_of_methodNamed B.named
  have hlocks := B.notSynchronized
  have hr := B.returns
  rw [lg_entry_eq]
  have hl := lv_entry av (n := kN κ) hw
  generalize (lg_sl av ++ List.replicate (kN κ - (lg_sl av).length) Slot.unset).toArray = ls at hl ⊢
  have hD : va_D (js_Ax (kG κ) (tA τ) s.heap.size) (js_ws (kG κ) (tA τ) (tC τ) μ) := js_Dm hD0 (fun k hk _ => Or.inl ⟨k, hk, rfl⟩)
  let X : js_Cx := (p, l, e, s, m, av.toArray, below, meth, c, MQ below (js_Q κ τ μ v s.heap.size) av.toArray s 0 0 (js_Ax (kG κ) (tA τ) s.heap.size), τ, v, μ)
  have hen : js_en κ X := by
    intro H locs pc ls hh
    have hF0 : ∀ t : State, t.heap = H → va_F (js_Ax (kG κ) (tA τ) s.heap.size) s t := fun t ht => hh.2.2.1.F ht
    refine ⟨fun hT hrg hd => ?_, fun hT hd => ?_⟩
    · rcases hret with ⟨h0, _⟩ | ⟨_, ty, rfl, hnr⟩
      · exact absurd h0 hT
      · refine W.zret (p := p) (ty := ty) B.exec B.bytes hr hnr (fun t ht hW => ?_) hh.2.2.1.2.2 hd
        rw [js_Q, if_neg hT]
        exact ⟨⟨_, (), rfl, ⟨rfl, hrg⟩, by rw [ht]; exact hh.1, hh.2.2.2⟩, hF0 t ht⟩
    · rcases hret with ⟨h0, rfl⟩ | ⟨h1, _⟩
      · refine W.vret (p := p) B.exec B.bytes hr (fun t ht hW => ?_) hh.2.2.1.2.2 hd
        rw [js_Q, if_pos hT]
        exact ⟨⟨(), rfl, trivial, by rw [ht]; exact hh.1, hh.2.2.2⟩, hF0 t ht⟩
      · exact absurd hT h1
  have hok : js_ok κ X := ⟨B.exec, B.bytes, hml, hown, hts, hK, hsg, hen⟩
  exact hb X ls hok rfl rfl rfl hl ⟨hP, hD, va_S.rf, hcan⟩
/-- a static call with such a contract -/
theorem js_zrun {κ : js_Ks} {pc : Nat} {X : js_Cx} (h : js_ok κ X) {y : MethodName} {κ' : js_Ks} {ret : Option FieldType} {n idx : Nat} {μ μ' : js_Mm} {v : Int} {av : List Value} {H : Heap} {locs : List Loc} {ls : Array Slot} {st : List Value}
    (hM : Met (xL X) y (.code y (kC κ') (kN κ') ret :: js_tb) (js_rm (kR κ')) (va_Pc av (js_B κ' (xT X) μ H.size)) (js_Q κ' (xT X) μ' v H.size) 0 0 (js_Ax (kG κ') (tA (xT X)) H.size)) (hy : js_yi y κ' ret n) (hys : Cond.static y ∈ js_tb) (hl : Cond.methodLink (kO κ) idx y ∈ js_tb) (hrk : kR κ' + 1 ≤ kR κ) (hg : kG κ' = kG κ) (hn : av.length = n) (hsz : ls.size = kN κ)
    (hh : js_hd κ X μ H locs) (hs : js_sm 8 st) (hd : decode (kC κ) pc = .ok (.invokestatic idx, 3)) :
    va_Run (xP X) (xL X) (xE X) (js_rm (kR κ)) (xS X) (xM X) (xA X) (xB X) (xH X) (xC X) H locs 0 0 0 0 (F0 (xM X) pc ls (av.reverse ++ st)) st (js_Q κ' (xT X) μ' v H.size av.toArray) (js_Ax (kG κ') (tA (xT X)) H.size) := by
  have hB := js_callB h hy hl hrk
  exact va_runS (S := ⟨h.1, h.2.1, h.2.2.1, h.2.2.2.1, h.2.2.2.2.1⟩) (As := av) hM ⟨hB, h.2.2.2.2.1 _ hys⟩ ⟨js_blind _ _ _ _ _, js_pre h hg hh _⟩ rfl hn hsz rfl (lv_room hs) hd ⟨Nat.le_refl _, Nat.le_refl _⟩
theorem js_hl {ls : Array Slot} {n i : Nat} {l : List (Nat × Value)} {v : Value} (h : lv_has ls n l) (hm : (i, v) ∈ l) : ls[i]? = some (.val v) := h.2.2 _ hm
abbrev k_J0_coder_7d493 : js_Ks := (0, cJ0_coder_7d493, 1, RJ0, 0, 1)
theorem yi_J0_coder_7d493 : js_yi yJ0_coder_7d493 k_J0_coder_7d493 (some .byte) 0 := ⟨(js_mem 532 (by decide +kernel) rfl), (js_mem 94 (by decide +kernel) rfl), by decide, by decide, by decide +kernel, by decide, by decide⟩
theorem yv_J0_coder_7d493 : js_yv yJ0_coder_7d493 := ⟨(js_mem 530 (by decide +kernel) rfl), (js_mem 531 (by decide +kernel) rfl)⟩
abbrev k_J0_isLatin1_aae02 : js_Ks := (0, cJ0_isLatin1_aae02, 1, RJ0, 0, 1)
theorem yi_J0_isLatin1_aae02 : js_yi yJ0_isLatin1_aae02 k_J0_isLatin1_aae02 (some .boolean) 0 := ⟨(js_mem 542 (by decide +kernel) rfl), (js_mem 94 (by decide +kernel) rfl), by decide, by decide, by decide +kernel, by decide, by decide⟩
theorem yv_J0_isLatin1_aae02 : js_yv yJ0_isLatin1_aae02 := ⟨(js_mem 540 (by decide +kernel) rfl), (js_mem 541 (by decide +kernel) rfl)⟩
abbrev k_J1_charAt_3b067 : js_Ks := (0, cJ1_charAt_3b067, 2, RJ1, 2, 1)
theorem yi_J1_charAt_3b067 : js_yi yJ1_charAt_3b067 k_J1_charAt_3b067 (some .char) 2 := ⟨(js_mem 545 (by decide +kernel) rfl), (js_mem 95 (by decide +kernel) rfl), by decide, by decide, by decide +kernel, by decide, by decide⟩
theorem ys_J1_charAt_3b067 : Cond.static yJ1_charAt_3b067 ∈ js_tb := js_mem 544 (by decide +kernel) rfl
abbrev k_J0_checkIndex_df160 : js_Ks := (0, cJ0_checkIndex_df160, 2, RJ0, 1, 0)
theorem yi_J0_checkIndex_df160 : js_yi yJ0_checkIndex_df160 k_J0_checkIndex_df160 none 2 := ⟨(js_mem 548 (by decide +kernel) rfl), (js_mem 94 (by decide +kernel) rfl), by decide, by decide, by decide +kernel, by decide, by decide⟩
theorem ys_J0_checkIndex_df160 : Cond.static yJ0_checkIndex_df160 ∈ js_tb := js_mem 547 (by decide +kernel) rfl
abbrev k_J3_checkIndex_8e157 : js_Ks := (0, cJ3_checkIndex_8e157, 3, RJ3, 0, 1)
theorem yi_J3_checkIndex_8e157 : js_yi yJ3_checkIndex_8e157 k_J3_checkIndex_8e157 (some .int) 3 := ⟨(js_mem 553 (by decide +kernel) rfl), (js_mem 96 (by decide +kernel) rfl), by decide, by decide, by decide +kernel, by decide, by decide⟩
theorem ys_J3_checkIndex_8e157 : Cond.static yJ3_checkIndex_8e157 ∈ js_tb := js_mem 552 (by decide +kernel) rfl
def js_0F : js_FF := fun zs m => match zs with
  | [i] => if decide (0 ≤ i) && decide (i < 9) then some (0, m) else none
  | _ => none
def js_1F : js_FF := fun zs m => match zs with
  | [i] => if decide (0 ≤ i) && decide (i < 9) then some (1, m) else none
  | _ => none
theorem js_ag1 {g t : Nat} {zs : List Int} (h : js_ag g [t] zs) : ∃ i, zs = [i] := by
  match zs, h with
  | [i], _ => exact ⟨i, rfl⟩
  | _ :: _ :: _, h => exact h.2.elim
theorem js_ag2 {g t t' : Nat} {zs : List Int} (h : js_ag g [t, t'] zs) : ∃ i j, zs = [i, j] := by
  match zs, h with
  | [i], h => exact h.2.elim
  | [i, j], _ => exact ⟨i, j, rfl⟩
  | _ :: _ :: _ :: _, h => exact h.2.2.elim
theorem js_strOf {κ : js_Ks} {X : js_Cx} (h : js_ok κ X) {i : Nat} (hi : i < 9) : va_OF "java/lang/String" "coder" "B" (.int 0) (tK (xT X) i) (js_Ax (kG κ) (tA (xT X)) (xS X).heap.size) (xS X) (xS X).heap ∧ va_OF "java/lang/String" "value" "[B" (.ref (tV (xT X) i)) (tK (xT X) i) (js_Ax (kG κ) (tA (xT X)) (xS X).heap.size) (xS X) (xS X).heap ∧ va_T .byte (tV (xT X) i) (js_sl.getD i 0) (fun j => .int ((js_sb.getD i []).getD j 0)) (js_Ax (kG κ) (tA (xT X)) (xS X).heap.size) (xS X) (xS X).heap := ((h.2.2.2.2.2.2.1.1).1 i hi).2
theorem lk_38 : Cond.fieldLink RJ0 38 "java/lang/String" "COMPACT_STRINGS" "Z" ∈ js_tb := js_mem 533 (by decide +kernel) rfl
theorem lk_15 : Cond.fieldLink RJ0 15 "java/lang/String" "coder" "B" ∈ js_tb := js_mem 1638 (by decide +kernel) rfl
theorem lk_9 : Cond.fieldLink RJ0 9 "java/lang/String" "value" "[B" ∈ js_tb := js_mem 1637 (by decide +kernel) rfl
theorem me_J0_coder_7d493 : js_Me yJ0_coder_7d493 k_J0_coder_7d493 (some .byte) [4] js_0F := by
  intro l τ zs μ v μ' sz hF hcan hag
  obtain ⟨i, rfl⟩ := js_ag1 hag
  obtain ⟨-, hF⟩ := js_if_some hF
  cases hF
  have hr := hag.1
  refine js_met yi_J0_coder_7d493 rfl (Or.inr ⟨by decide, _, rfl, by decide⟩) hcan (by rw [js_sll τ 0 [4] [i] hag]; decide) (fun X ls h hT hv hm hl hh => ?_)
  subst hT
  have hz := h.2.2.2.2.2.2.1.2.2.1
  have hi : i.toNat < 9 := by have h1 := hr.1; have h2 := hr.2; omega
  obtain ⟨s1, s2, s3⟩ := js_strOf h hi
  refine va_gets h.1 h.2.1 hz hh.2.2.1 h.2.2.2.1 (h.2.2.2.2.1 _ lk_38) (fun _ q => q) dJ0_coder_7d493_0 ?_
  refine lv_if_eq h.1 h.2.1 dJ0_coder_7d493_3 (tgt := 13) rfl (fun q => by cases q) (fun _ => ?_)
  refine lv_aload_n h.1 h.2.1 dJ0_coder_7d493_6 rfl (js_hl hl List.mem_cons_self) ?_
  refine vk_getf h.1 h.2.1 s1 hh.2.2.1 h.2.2.2.1 (h.2.2.2.2.1 _ lk_15) (fun _ q => q) dJ0_coder_7d493_7 ?_
  refine lv_goto h.1 h.2.1 dJ0_coder_7d493_10 (tgt := 14) rfl ?_
  have e := ((h.2.2.2.2.2.2.2 _ _ 14 ls (by rw [hm]; exact hh)).1 (by decide) (by rw [hv]; exact ⟨by decide, by decide⟩) dJ0_coder_7d493_14)
  rw [hv] at e
  exact e
theorem me_J0_isLatin1_aae02 : js_Me yJ0_isLatin1_aae02 k_J0_isLatin1_aae02 (some .boolean) [4] js_1F := by
  intro l τ zs μ v μ' sz hF hcan hag
  obtain ⟨i, rfl⟩ := js_ag1 hag
  obtain ⟨-, hF⟩ := js_if_some hF
  cases hF
  have hr := hag.1
  refine js_met yi_J0_isLatin1_aae02 rfl (Or.inr ⟨by decide, _, rfl, by decide⟩) hcan (by rw [js_sll τ 0 [4] [i] hag]; decide) (fun X ls h hT hv hm hl hh => ?_)
  subst hT
  have hz := h.2.2.2.2.2.2.1.2.2.1
  have hi : i.toNat < 9 := by have h1 := hr.1; have h2 := hr.2; omega
  obtain ⟨s1, s2, s3⟩ := js_strOf h hi
  refine va_gets h.1 h.2.1 hz hh.2.2.1 h.2.2.2.1 (h.2.2.2.2.1 _ lk_38) (fun _ q => q) dJ0_isLatin1_aae02_0 ?_
  refine lv_if_eq h.1 h.2.1 dJ0_isLatin1_aae02_3 (tgt := 17) rfl (fun q => by cases q) (fun _ => ?_)
  refine lv_aload_n h.1 h.2.1 dJ0_isLatin1_aae02_6 rfl (js_hl hl List.mem_cons_self) ?_
  refine vk_getf h.1 h.2.1 s1 hh.2.2.1 h.2.2.2.1 (h.2.2.2.2.1 _ lk_15) (fun _ q => q) dJ0_isLatin1_aae02_7 ?_
  refine lv_if_ne h.1 h.2.1 dJ0_isLatin1_aae02_10 (tgt := 17) rfl (fun q => absurd rfl q) (fun _ => ?_)
  refine lv_iconst h.1 h.2.1 dJ0_isLatin1_aae02_13 rfl ?_
  refine lv_goto h.1 h.2.1 dJ0_isLatin1_aae02_14 (tgt := 18) rfl ?_
  have e := ((h.2.2.2.2.2.2.2 _ _ 18 ls (by rw [hm]; exact hh)).1 (by decide) (by rw [hv]; exact ⟨by decide, by decide⟩) dJ0_isLatin1_aae02_18)
  rw [hv] at e
  exact e
end
section
theorem lk_1053 : Cond.fieldLink RJ0 1053 "jdk/internal/util/Preconditions" "SIOOBE_FORMATTER" "Ljava/util/function/BiFunction;" ∈ js_tb := js_mem 549 (by decide +kernel) rfl
theorem lk_335 : Cond.methodLink RJ0 335 yJ0_coder_7d493 ∈ js_tb := js_mem 529 (by decide +kernel) rfl
theorem lk_492 : Cond.methodLink RJ0 492 yJ0_isLatin1_aae02 ∈ js_tb := js_mem 539 (by decide +kernel) rfl
theorem lk_495 : Cond.methodLink RJ0 495 yJ1_charAt_3b067 ∈ js_tb := js_mem 543 (by decide +kernel) rfl
theorem lk_J19 : Cond.methodLink RJ1 9 yJ0_checkIndex_df160 ∈ js_tb := js_mem 546 (by decide +kernel) rfl
theorem lk_1059 : Cond.methodLink RJ0 1059 yJ3_checkIndex_8e157 ∈ js_tb := js_mem 551 (by decide +kernel) rfl
theorem js_sm0 : js_sm 8 [] := by show (0 : Nat) ≤ 8; decide
theorem js_sm1 (x : Int32) : js_sm 8 [.int x] := by show (1 : Nat) ≤ 8; decide
theorem js_nn {z : Int} {n : Nat} (h1 : 0 ≤ z) (h2 : z < (n : Int)) (hn : n < 2147483648) : ¬ Int32.ofInt z < 0 ∧ Int32.ofInt z < Int32.ofNat n := by
  have e : (Int32.ofInt z).toInt = z := js_i32 (by omega)
  have e2 : (Int32.ofNat n).toInt = n := nI_toInt hn
  rw [Int32.lt_iff_toInt_lt, Int32.lt_iff_toInt_lt, e, e2]
  exact ⟨by rw [show (0 : Int32).toInt = 0 from rfl]; omega, h2⟩
theorem mt_J3 {l : Launch} {τ : js_Tb} {μ : js_Mm} {sz : Nat} {i : Int} {n : Nat} {v3 : Value} (hv3 : v3.category = 1) (hcan : js_can 0 μ) (h1 : 0 ≤ i) (h2 : i < (n : Int)) (hn : n < 2147483648) :
    Met l yJ3_checkIndex_8e157 (.code yJ3_checkIndex_8e157 cJ3_checkIndex_8e157 3 (some .int) :: js_tb) (js_rm 0) (va_Pc [.int (Int32.ofInt i), .int (Int32.ofNat n), v3] (js_B k_J3_checkIndex_8e157 τ μ sz)) (js_Q k_J3_checkIndex_8e157 τ μ i sz) 0 0 (js_Ax 0 (tA τ) sz) := by
  refine js_met yi_J3_checkIndex_8e157 rfl (Or.inr ⟨by decide, _, rfl, rfl⟩) hcan (by simp [lg_sl, hv3, show ∀ x : Int32, (Value.int x).category = 1 from fun _ => rfl]) (fun X ls h hT hv hm hl hh => ?_)
  obtain ⟨n1, n2⟩ := js_nn h1 h2 hn
  have l0 : ls[0]? = some (.val (.int (Int32.ofInt i))) := js_hl hl List.mem_cons_self
  have l1 : ls[1]? = some (.val (.int (Int32.ofNat n))) := js_hl hl (List.mem_cons_of_mem _ List.mem_cons_self)
  refine lv_iload_n h.1 h.2.1 dJ3_checkIndex_8e157_0 rfl l0 ?_
  refine lv_if_lt h.1 h.2.1 dJ3_checkIndex_8e157_1 (tgt := 9) rfl (fun q => absurd q n1) (fun _ => ?_)
  refine lv_iload_n h.1 h.2.1 dJ3_checkIndex_8e157_4 rfl l0 ?_
  refine lv_iload_n h.1 h.2.1 dJ3_checkIndex_8e157_5 rfl l1 ?_
  refine lv_icmp_lt h.1 h.2.1 dJ3_checkIndex_8e157_6 (tgt := 16) rfl (fun _ => ?_) (fun q => absurd n2 q)
  refine lv_iload_n h.1 h.2.1 dJ3_checkIndex_8e157_16 rfl l0 ?_
  have e := ((h.2.2.2.2.2.2.2 _ _ 17 ls (by rw [hm]; exact hh)).1 (by decide) (by rw [hv]; exact ⟨by omega, by omega⟩) dJ3_checkIndex_8e157_17)
  rw [hv] at e
  exact e
theorem mt_J0c {l : Launch} {τ : js_Tb} {μ : js_Mm} {sz : Nat} {i : Int} {n : Nat} (hcan : js_can 0 μ) (h1 : 0 ≤ i) (h2 : i < (n : Int)) (hn : n < 2147483648) :
    Met l yJ0_checkIndex_df160 (.code yJ0_checkIndex_df160 cJ0_checkIndex_df160 2 none :: js_tb) (js_rm 1) (va_Pc [.int (Int32.ofInt i), .int (Int32.ofNat n)] (js_B k_J0_checkIndex_df160 τ μ sz)) (js_Q k_J0_checkIndex_df160 τ μ 0 sz) 0 0 (js_Ax 0 (tA τ) sz) := by
  refine js_met yi_J0_checkIndex_df160 rfl (Or.inl ⟨rfl, rfl⟩) hcan (by simp [lg_sl, Value.category]) (fun X ls h hT hv hm hl hh => ?_)
  subst hT
  have l0 : ls[0]? = some (.val (.int (Int32.ofInt i))) := js_hl hl List.mem_cons_self
  have l1 : ls[1]? = some (.val (.int (Int32.ofNat n))) := js_hl hl (List.mem_cons_of_mem _ List.mem_cons_self)
  refine lv_iload_n h.1 h.2.1 dJ0_checkIndex_df160_0 rfl l0 ?_
  refine lv_iload_n h.1 h.2.1 dJ0_checkIndex_df160_1 rfl l1 ?_
  have main : ∀ v3 : Value, v3.category = 1 → js_W k_J0_checkIndex_df160 X (xS X).heap [] 5 ls [v3, .int (Int32.ofNat n), .int (Int32.ofInt i)] := by
    intro v3 hv3
    refine js_aft (κ' := k_J3_checkIndex_8e157) (st := []) rfl (by decide) hh (js_zrun h (av := [.int (Int32.ofInt i), .int (Int32.ofNat n), v3]) (v := i) (mt_J3 hv3 hcan h1 h2 hn) yi_J3_checkIndex_8e157 ys_J3_checkIndex_8e157 lk_1059 (by decide) rfl rfl hl.1 hh js_sm0 dJ0_checkIndex_df160_5) (fun _ H' locs' hh' => ?_)
    refine lv_pop h.1 h.2.1 dJ0_checkIndex_df160_8 rfl ?_
    exact (h.2.2.2.2.2.2.2 _ _ 9 ls (by rw [hm]; exact hh')).2 rfl dJ0_checkIndex_df160_9
  rcases h.2.2.2.2.2.2.1.2.2.2 with hz | ⟨t, hz⟩
  · exact va_gets h.1 h.2.1 hz hh.2.2.1 h.2.2.2.1 (h.2.2.2.2.1 _ lk_1053) (fun _ q => q) dJ0_checkIndex_df160_2 (main _ rfl)
  · exact va_gets h.1 h.2.1 hz hh.2.2.1 h.2.2.2.1 (h.2.2.2.2.1 _ lk_1053) (fun _ q => q) dJ0_checkIndex_df160_2 (main _ rfl)
theorem js_sbt : ∀ i, i < 9 → ∀ j, j < (js_str.getD i []).length → js_sl.getD i 0 = (js_str.getD i []).length ∧ (js_sb.getD i []).getD j 0 = nI ((js_str.getD i []).getD j 0) ∧ (js_str.getD i []).getD j 0 < 128 ∧ (js_str.getD i []).length < 10 := by decide
theorem js_slt : ∀ i, i < 9 → js_sl.getD i 0 = (js_str.getD i []).length ∧ (js_str.getD i []).length < 10 := by decide
theorem js_c8 : ∀ c, c < 128 → ((nI c &&& 255).toUInt32 % 65536).toInt32 = Int32.ofInt (c : Int) ∧ narrow .char (.int (Int32.ofInt (c : Int))) = .int (Int32.ofInt (c : Int)) := by decide +kernel
theorem mt_J1 {l : Launch} {τ : js_Tb} {μ : js_Mm} {sz i : Nat} {j : Int} (hcan : js_can 0 μ) (hi : i < 9) (h1 : 0 ≤ j) (h2 : j < ((js_str.getD i []).length : Int)) :
    Met l yJ1_charAt_3b067 (.code yJ1_charAt_3b067 cJ1_charAt_3b067 2 (some .char) :: js_tb) (js_rm 2) (va_Pc [.ref (tV τ i), .int (Int32.ofInt j)] (js_B k_J1_charAt_3b067 τ μ sz)) (js_Q k_J1_charAt_3b067 τ μ (((js_str.getD i []).getD j.toNat 0 : Nat) : Int) sz) 0 0 (js_Ax 0 (tA τ) sz) := by
  obtain ⟨b1, b2, b3, b4⟩ := js_sbt i hi j.toNat (by omega)
  obtain ⟨c1, c2⟩ := js_c8 _ b3
  refine js_met yi_J1_charAt_3b067 rfl (Or.inr ⟨by decide, _, rfl, c2⟩) hcan (by simp [lg_sl, Value.category]) (fun X ls h hT hv hm hl hh => ?_)
  subst hT
  have l0 : ls[0]? = some (.val (.ref (tV (xT X) i))) := js_hl hl List.mem_cons_self
  have l1 : ls[1]? = some (.val (.int (Int32.ofInt j))) := js_hl hl (List.mem_cons_of_mem _ List.mem_cons_self)
  obtain ⟨s1, s2, s3⟩ := js_strOf h hi
  rw [b1] at s3
  refine lv_iload_n h.1 h.2.1 dJ1_charAt_3b067_0 rfl l1 ?_
  refine lv_aload_n h.1 h.2.1 dJ1_charAt_3b067_1 rfl l0 ?_
  refine va_tlen h.1 h.2.1 s3 hh.2.2.1 rfl dJ1_charAt_3b067_2 ?_
  refine js_afv (κ' := k_J0_checkIndex_df160) (st := []) rfl rfl hh (js_zrun h (av := [.int (Int32.ofInt j), .int (Int32.ofNat (js_str.getD i []).length)]) (v := 0) (mt_J0c hcan h1 h2 (by omega)) yi_J0_checkIndex_df160 ys_J0_checkIndex_df160 lk_J19 (by decide) rfl rfl hl.1 hh js_sm0 dJ1_charAt_3b067_3) (fun H' locs' hh' => ?_)
  obtain ⟨x1, x2⟩ := js_ax h1 h2 (by omega)
  refine lv_aload_n h.1 h.2.1 dJ1_charAt_3b067_6 rfl l0 ?_
  refine lv_iload_n h.1 h.2.1 dJ1_charAt_3b067_7 rfl l1 ?_
  refine va_tb h.1 h.2.1 s3 hh'.2.2.1 x1 (v := .int (nI ((js_str.getD i []).getD j.toNat 0))) (by rw [x2, b2]) dJ1_charAt_3b067_8 ?_
  refine lv_sipush h.1 h.2.1 dJ1_charAt_3b067_9 (v := 255) (by decide) ?_
  refine lv_iand h.1 h.2.1 dJ1_charAt_3b067_12 ?_
  refine lv_i2c h.1 h.2.1 dJ1_charAt_3b067_13 c1 ?_
  have e := ((h.2.2.2.2.2.2.2 _ _ 14 ls (by rw [hm]; exact hh')).1 (by decide) (by rw [hv]; exact ⟨by omega, by omega⟩) dJ1_charAt_3b067_14)
  rw [hv] at e
  exact e
theorem js_sh0 : ∀ n, n < 10 → Int32.ofNat n >>> (Int32.ofInt 0 &&& 31) = Int32.ofInt (n : Int) := by decide +kernel
theorem me_J0_length_8abf5 : js_Me yJ0_length_8abf5 k_J0_length_8abf5 (some .int) [4] js_slF := by
  intro l τ zs μ v μ' sz hF hcan hag
  obtain ⟨i, rfl⟩ := js_ag1 hag
  obtain ⟨-, hF⟩ := js_if_some hF
  cases hF
  have hr := hag.1
  have hi : i.toNat < 9 := by have h1 := hr.1; have h2 := hr.2; omega
  obtain ⟨b1, b2⟩ := js_slt _ hi
  refine js_met yi_J0_length_8abf5 rfl (Or.inr ⟨by decide, _, rfl, rfl⟩) hcan (by rw [js_sll τ 0 [4] [i] hag]; decide) (fun X ls h hT hv hm hl hh => ?_)
  subst hT
  obtain ⟨s1, s2, s3⟩ := js_strOf h hi
  rw [b1] at s3
  have l0 : ls[0]? = some (.val (.ref (tK (xT X) i.toNat))) := js_hl hl List.mem_cons_self
  refine lv_aload_n h.1 h.2.1 dJ0_length_8abf5_0 rfl l0 ?_
  refine vk_getf h.1 h.2.1 s2 hh.2.2.1 h.2.2.2.1 (h.2.2.2.2.1 _ lk_9) (fun _ q => q) dJ0_length_8abf5_1 ?_
  refine va_tlen h.1 h.2.1 s3 hh.2.2.1 rfl dJ0_length_8abf5_4 ?_
  refine lv_aload_n h.1 h.2.1 dJ0_length_8abf5_5 rfl l0 ?_
  have hF : js_0F [i] μ = some (0, μ) := by
    have h1 := hr.1; have h2 := hr.2
    simp [js_0F, h1, h2]
  refine js_aft (κ' := k_J0_coder_7d493) (st := [.int (Int32.ofNat (js_str.getD i.toNat []).length)]) rfl (by decide) hh (js_trun h (zs := []) (ts := []) me_J0_coder_7d493 yi_J0_coder_7d493 yv_J0_coder_7d493 lk_335 (by decide) rfl rfl rfl hl.1 hF hag hh (js_sm1 _) dJ0_length_8abf5_6) (fun _ H' locs' hh' => ?_)
  refine lv_ishr h.1 h.2.1 dJ0_length_8abf5_9 ?_
  rw [js_sh0 _ b2]
  have e := ((h.2.2.2.2.2.2.2 _ _ 10 ls (by rw [hm]; exact hh')).1 (by decide) (by rw [hv]; exact ⟨by omega, by omega⟩) dJ0_length_8abf5_10)
  rw [hv] at e
  exact e
theorem me_J0_charAt_5068e : js_Me yJ0_charAt_5068e k_J0_charAt_5068e (some .char) [4, 1] js_scF := by
  intro l τ zs μ v μ' sz hF hcan hag
  obtain ⟨i, j, rfl⟩ := js_ag2 hag
  obtain ⟨hq, hF⟩ := js_if_some hF
  cases hF
  simp only [Bool.and_eq_true, decide_eq_true_eq] at hq
  obtain ⟨⟨⟨h1, h2⟩, h3⟩, h4⟩ := hq
  have hi : i.toNat < 9 := by omega
  obtain ⟨b1, b2, b3, b4⟩ := js_sbt i.toNat hi j.toNat (by omega)
  obtain ⟨c1, c2⟩ := js_c8 _ b3
  refine js_met yi_J0_charAt_5068e rfl (Or.inr ⟨by decide, _, rfl, c2⟩) hcan (by rw [js_sll τ 0 [4, 1] [i, j] hag]; decide) (fun X ls h hT hv hm hl hh => ?_)
  subst hT
  obtain ⟨s1, s2, s3⟩ := js_strOf h hi
  have l0 : ls[0]? = some (.val (.ref (tK (xT X) i.toNat))) := js_hl hl List.mem_cons_self
  have l1 : ls[1]? = some (.val (.int (Int32.ofInt j))) := js_hl hl (List.mem_cons_of_mem _ List.mem_cons_self)
  refine lv_aload_n h.1 h.2.1 dJ0_charAt_5068e_0 rfl l0 ?_
  have hF : js_1F [i] μ = some (1, μ) := by simp [js_1F, h1, h2]
  refine js_aft (κ' := k_J0_isLatin1_aae02) (st := []) rfl (by decide) hh (js_trun h (zs := []) (ts := []) me_J0_isLatin1_aae02 yi_J0_isLatin1_aae02 yv_J0_isLatin1_aae02 lk_492 (by decide) rfl rfl rfl hl.1 hF ⟨hag.1, trivial⟩ hh js_sm0 dJ0_charAt_5068e_1) (fun _ H' locs' hh' => ?_)
  refine lv_if_eq h.1 h.2.1 dJ0_charAt_5068e_4 (tgt := 16) rfl (fun q => absurd q (by decide)) (fun _ => ?_)
  refine lv_aload_n h.1 h.2.1 dJ0_charAt_5068e_7 rfl l0 ?_
  refine vk_getf h.1 h.2.1 s2 hh'.2.2.1 h.2.2.2.1 (h.2.2.2.2.1 _ lk_9) (fun _ q => q) dJ0_charAt_5068e_8 ?_
  refine lv_iload_n h.1 h.2.1 dJ0_charAt_5068e_11 rfl l1 ?_
  refine js_aft (κ' := k_J1_charAt_3b067) (st := []) rfl (by decide) hh' (js_zrun h (av := [.ref (tV (xT X) i.toNat), .int (Int32.ofInt j)]) (mt_J1 hcan hi h3 h4) yi_J1_charAt_3b067 ys_J1_charAt_3b067 lk_495 (by decide) rfl rfl hl.1 hh' js_sm0 dJ0_charAt_5068e_12) (fun _ H' locs' hh' => ?_)
  have e := ((h.2.2.2.2.2.2.2 _ _ 15 ls (by rw [hm]; exact hh')).1 (by decide) (by rw [hv]; exact ⟨by omega, by omega⟩) dJ0_charAt_5068e_15)
  rw [hv] at e
  exact e
end
