section
/-! ===== strings: length, charAt ===== -/
theorem js_met {y : MethodName} {κ : js_Ks} {ret : Option FieldType} {n : Nat} (hy : js_yi y κ ret n) (hO : kO κ = y.cls) {l : Launch} {τ : js_Tb} {av : List Value} {μ : js_Mm} {v : Int} {sz : Nat}
    (hret : (kT κ = 0 ∧ ret = none) ∨ (kT κ ≠ 0 ∧ ∃ ty, ret = some ty ∧ narrow ty (.int (Int32.ofInt v)) = .int (Int32.ofInt v))) (hcan : js_can (kG κ) μ) (hw : (lg_sl av).length ≤ kN κ)
    (hb : ∀ X ls, js_ok κ X → xT X = τ → xv X = v → xm X = μ → lv_has ls (kN κ) (lv_args 0 av) → js_hd κ X μ (xS X).heap [] → js_W κ X (xS X).heap [] 0 ls []) :
    Met l y (.code y (kC κ) (kN κ) ret :: js_tb) (js_rm (kR κ)) (va_Pc av (js_B κ τ μ sz)) (js_Q κ τ μ v sz) 0 0 (js_Ax (kG κ) (tA τ) sz) := by
  refine Met.ofW (cc := kC κ) (maxL := kN κ) (ret := ret) hy.2.2.2.2.2.1 rfl ?_
  intro p e s m args below meth c s₁ B hml hv
  obtain ⟨rfl, hsz, hP, hK, hD0, hsg⟩ := hv
  subst hsz
  have hts : ∀ w ∈ js_tb, w.before _ s = true := fun w hw => atoms_spec (ws := .code y (kC κ) (kN κ) ret :: js_tb) B.pre w (List.mem_cons_of_mem _ hw)
  have hown : s.vm.findClass (kO κ) = some m.cls := by rw [hO]; exact findClass_of_methodNamed B.named
  have hlocks := B.notSynchronized
  have hr := B.returns
  rw [lg_entry_eq]
  have hl := lv_entry av (n := kN κ) hw
  generalize (lg_sl av ++ List.replicate (kN κ - (lg_sl av).length) Slot.unset).toArray = ls at hl ⊢
  have hD : va_D (js_Ax (kG κ) (tA τ) s.heap.size) (js_ws (kG κ) (tA τ) (tC τ) μ) := js_Dm hD0 (fun k hk _ => Or.inl ⟨k, hk, rfl⟩)
  let X : js_Cx := (p, l, e, s, m, av.toArray, below, meth, c, MQ below (js_Q κ τ μ v s.heap.size) av.toArray s 0 0 (js_Ax (kG κ) (tA τ) s.heap.size), τ, v, μ)
  have hen : js_en κ X := by
    intro H locs pc ls hh
    have hF0 : ∀ t : State, t.heap = H → va_F (js_Ax (kG κ) (tA τ) s.heap.size) s t := fun t ht => hh.2.2.1.F ht
    refine ⟨fun hT hrg hd => ?_, fun hT hd => ?_⟩
    · rcases hret with ⟨h0, _⟩ | ⟨_, ty, rfl, hnr⟩
      · exact absurd h0 hT
      · refine W.zret (p := p) (ty := ty) B.exec B.bytes hr hnr (fun t ht hW => ?_) hh.2.2.1.2.2 hd
        rw [js_Q, if_neg hT]
        exact ⟨⟨_, (), rfl, ⟨rfl, hrg⟩, by rw [ht]; exact hh.1, hh.2.2.2⟩, hF0 t ht⟩
    · rcases hret with ⟨h0, rfl⟩ | ⟨h1, _⟩
      · refine W.vret (p := p) B.exec B.bytes hr (fun t ht hW => ?_) hh.2.2.1.2.2 hd
        rw [js_Q, if_pos hT]
        exact ⟨⟨(), rfl, trivial, by rw [ht]; exact hh.1, hh.2.2.2⟩, hF0 t ht⟩
      · exact absurd hT h1
  have hok : js_ok κ X := ⟨B.exec, B.bytes, hml, hown, hts, hK, hsg, hen⟩
  exact hb X ls hok rfl rfl rfl hl ⟨hP, hD, va_S.rf, hcan⟩
/-- a static call with such a contract -/
theorem js_zrun {κ : js_Ks} {pc : Nat} {X : js_Cx} (h : js_ok κ X) {y : MethodName} {κ' : js_Ks} {ret : Option FieldType} {n idx : Nat} {μ μ' : js_Mm} {v : Int} {av : List Value} {H : Heap} {locs : List Loc} {ls : Array Slot} {st : List Value}
    (hM : Met (xL X) y (.code y (kC κ') (kN κ') ret :: js_tb) (js_rm (kR κ')) (va_Pc av (js_B κ' (xT X) μ H.size)) (js_Q κ' (xT X) μ' v H.size) 0 0 (js_Ax (kG κ') (tA (xT X)) H.size)) (hy : js_yi y κ' ret n) (hys : Cond.static y ∈ js_tb) (hl : Cond.methodLink (kO κ) idx y ∈ js_tb) (hrk : kR κ' + 1 ≤ kR κ) (hg : kG κ' = kG κ) (hn : av.length = n) (hsz : ls.size = kN κ)
    (hh : js_hd κ X μ H locs) (hs : js_sm 8 st) (hd : decode (kC κ) pc = .ok (.invokestatic idx, 3)) :
    va_Run (xP X) (xL X) (xE X) (js_rm (kR κ)) (xS X) (xM X) (xA X) (xB X) (xH X) (xC X) H locs 0 0 0 0 (F0 (xM X) pc ls (av.reverse ++ st)) st (js_Q κ' (xT X) μ' v H.size av.toArray) (js_Ax (kG κ') (tA (xT X)) H.size) := by
  have hB := js_callB h hy hl hrk
  exact va_runS (S := ⟨h.1, h.2.1, h.2.2.1, h.2.2.2.1, h.2.2.2.2.1⟩) (As := av) hM ⟨hB, h.2.2.2.2.1 _ hys⟩ ⟨js_blind _ _ _ _ _, js_pre h hg hh _⟩ rfl hn hsz rfl (lv_room hs) hd ⟨Nat.le_refl _, Nat.le_refl _⟩
theorem js_hl {ls : Array Slot} {n i : Nat} {l : List (Nat × Value)} {v : Value} (h : lv_has ls n l) (hm : (i, v) ∈ l) : ls[i]? = some (.val v) := h.2.2 _ hm
abbrev k_J0_coder_7d493 : js_Ks := (0, cJ0_coder_7d493, 1, RJ0, 0, 1)
theorem yi_J0_coder_7d493 : js_yi yJ0_coder_7d493 k_J0_coder_7d493 (some .byte) 0 := ⟨(js_mem 532 (by decide +kernel) rfl), (js_mem 94 (by decide +kernel) rfl), by decide, by decide, by decide +kernel, by decide, by decide⟩
theorem yv_J0_coder_7d493 : js_yv yJ0_coder_7d493 := ⟨(js_mem 530 (by decide +kernel) rfl), (js_mem 531 (by decide +kernel) rfl)⟩
abbrev k_J0_isLatin1_aae02 : js_Ks := (0, cJ0_isLatin1_aae02, 1, RJ0, 0, 1)
theorem yi_J0_isLatin1_aae02 : js_yi yJ0_isLatin1_aae02 k_J0_isLatin1_aae02 (some .boolean) 0 := ⟨(js_mem 542 (by decide +kernel) rfl), (js_mem 94 (by decide +kernel) rfl), by decide, by decide, by decide +kernel, by decide, by decide⟩
theorem yv_J0_isLatin1_aae02 : js_yv yJ0_isLatin1_aae02 := ⟨(js_mem 540 (by decide +kernel) rfl), (js_mem 541 (by decide +kernel) rfl)⟩
abbrev k_J1_charAt_3b067 : js_Ks := (0, cJ1_charAt_3b067, 2, RJ1, 2, 1)
theorem yi_J1_charAt_3b067 : js_yi yJ1_charAt_3b067 k_J1_charAt_3b067 (some .char) 2 := ⟨(js_mem 545 (by decide +kernel) rfl), (js_mem 95 (by decide +kernel) rfl), by decide, by decide, by decide +kernel, by decide, by decide⟩
theorem ys_J1_charAt_3b067 : Cond.static yJ1_charAt_3b067 ∈ js_tb := js_mem 544 (by decide +kernel) rfl
abbrev k_J0_checkIndex_df160 : js_Ks := (0, cJ0_checkIndex_df160, 2, RJ0, 1, 0)
theorem yi_J0_checkIndex_df160 : js_yi yJ0_checkIndex_df160 k_J0_checkIndex_df160 none 2 := ⟨(js_mem 548 (by decide +kernel) rfl), (js_mem 94 (by decide +kernel) rfl), by decide, by decide, by decide +kernel, by decide, by decide⟩
theorem ys_J0_checkIndex_df160 : Cond.static yJ0_checkIndex_df160 ∈ js_tb := js_mem 547 (by decide +kernel) rfl
abbrev k_J3_checkIndex_8e157 : js_Ks := (0, cJ3_checkIndex_8e157, 3, RJ3, 0, 1)
theorem yi_J3_checkIndex_8e157 : js_yi yJ3_checkIndex_8e157 k_J3_checkIndex_8e157 (some .int) 3 := ⟨(js_mem 553 (by decide +kernel) rfl), (js_mem 96 (by decide +kernel) rfl), by decide, by decide, by decide +kernel, by decide, by decide⟩
theorem ys_J3_checkIndex_8e157 : Cond.static yJ3_checkIndex_8e157 ∈ js_tb := js_mem 552 (by decide +kernel) rfl
def js_0F : js_FF := fun zs m => match zs with
  | [i] => if decide (0 ≤ i) && decide (i < 9) then some (0, m) else none
  | _ => none
def js_1F : js_FF := fun zs m => match zs with
  | [i] => if decide (0 ≤ i) && decide (i < 9) then some (1, m) else none
  | _ => none
theorem js_ag1 {g t : Nat} {zs : List Int} (h : js_ag g [t] zs) : ∃ i, zs = [i] := by
  match zs, h with
  | [i], _ => exact ⟨i, rfl⟩
  | _ :: _ :: _, h => exact h.2.elim
theorem js_ag2 {g t t' : Nat} {zs : List Int} (h : js_ag g [t, t'] zs) : ∃ i j, zs = [i, j] := by
  match zs, h with
  | [i], h => exact h.2.elim
  | [i, j], _ => exact ⟨i, j, rfl⟩
  | _ :: _ :: _ :: _, h => exact h.2.2.elim
theorem js_strOf {κ : js_Ks} {X : js_Cx} (h : js_ok κ X) {i : Nat} (hi : i < 9) : va_OF "java/lang/String" "coder" "B" (.int 0) (tK (xT X) i) (js_Ax (kG κ) (tA (xT X)) (xS X).heap.size) (xS X) (xS X).heap ∧ va_OF "java/lang/String" "value" "[B" (.ref (tV (xT X) i)) (tK (xT X) i) (js_Ax (kG κ) (tA (xT X)) (xS X).heap.size) (xS X) (xS X).heap ∧ va_T .byte (tV (xT X) i) (js_sl.getD i 0) (fun j => .int ((js_sb.getD i []).getD j 0)) (js_Ax (kG κ) (tA (xT X)) (xS X).heap.size) (xS X) (xS X).heap := ((h.2.2.2.2.2.2.1.1).1 i hi).2
theorem lk_38 : Cond.fieldLink RJ0 38 "java/lang/String" "COMPACT_STRINGS" "Z" ∈ js_tb := js_mem 533 (by decide +kernel) rfl
theorem lk_15 : Cond.fieldLink RJ0 15 "java/lang/String" "coder" "B" ∈ js_tb := js_mem 1638 (by decide +kernel) rfl
theorem lk_9 : Cond.fieldLink RJ0 9 "java/lang/String" "value" "[B" ∈ js_tb := js_mem 1637 (by decide +kernel) rfl
theorem me_J0_coder_7d493 : js_Me yJ0_coder_7d493 k_J0_coder_7d493 (some .byte) [4] js_0F := by
  intro l τ zs μ v μ' sz hF hcan hag
  obtain ⟨i, rfl⟩ := js_ag1 hag
  obtain ⟨-, hF⟩ := js_if_some hF
  cases hF
  have hr := hag.1
  refine js_met yi_J0_coder_7d493 rfl (Or.inr ⟨by decide, _, rfl, by decide⟩) hcan (by rw [js_sll τ 0 [4] [i] hag]; decide) (fun X ls h hT hv hm hl hh => ?_)
  subst hT
  have hz := h.2.2.2.2.2.2.1.2.2.1
  have hi : i.toNat < 9 := by have h1 := hr.1; have h2 := hr.2; omega
  obtain ⟨s1, s2, s3⟩ := js_strOf h hi
  refine va_gets h.1 h.2.1 hz hh.2.2.1 h.2.2.2.1 (h.2.2.2.2.1 _ lk_38) (fun _ q => q) dJ0_coder_7d493_0 ?_
  refine lv_if_eq h.1 h.2.1 dJ0_coder_7d493_3 (tgt := 13) rfl (fun q => by cases q) (fun _ => ?_)
  refine lv_aload_n h.1 h.2.1 dJ0_coder_7d493_6 rfl (js_hl hl List.mem_cons_self) ?_
  refine vk_getf h.1 h.2.1 s1 hh.2.2.1 h.2.2.2.1 (h.2.2.2.2.1 _ lk_15) (fun _ q => q) dJ0_coder_7d493_7 ?_
  refine lv_goto h.1 h.2.1 dJ0_coder_7d493_10 (tgt := 14) rfl ?_
  have e := ((h.2.2.2.2.2.2.2 _ _ 14 ls (by rw [hm]; exact hh)).1 (by decide) (by rw [hv]; exact ⟨by decide, by decide⟩) dJ0_coder_7d493_14)
  rw [hv] at e
  exact e
theorem me_J0_isLatin1_aae02 : js_Me yJ0_isLatin1_aae02 k_J0_isLatin1_aae02 (some .boolean) [4] js_1F := by
  intro l τ zs μ v μ' sz hF hcan hag
  obtain ⟨i, rfl⟩ := js_ag1 hag
  obtain ⟨-, hF⟩ := js_if_some hF
  cases hF
  have hr := hag.1
  refine js_met yi_J0_isLatin1_aae02 rfl (Or.inr ⟨by decide, _, rfl, by decide⟩) hcan (by rw [js_sll τ 0 [4] [i] hag]; decide) (fun X ls h hT hv hm hl hh => ?_)
  subst hT
  have hz := h.2.2.2.2.2.2.1.2.2.1
  have hi : i.toNat < 9 := by have h1 := hr.1; have h2 := hr.2; omega
  obtain ⟨s1, s2, s3⟩ := js_strOf h hi
  refine va_gets h.1 h.2.1 hz hh.2.2.1 h.2.2.2.1 (h.2.2.2.2.1 _ lk_38) (fun _ q => q) dJ0_isLatin1_aae02_0 ?_
  refine lv_if_eq h.1 h.2.1 dJ0_isLatin1_aae02_3 (tgt := 17) rfl (fun q => by cases q) (fun _ => ?_)
  refine lv_aload_n h.1 h.2.1 dJ0_isLatin1_aae02_6 rfl (js_hl hl List.mem_cons_self) ?_
  refine vk_getf h.1 h.2.1 s1 hh.2.2.1 h.2.2.2.1 (h.2.2.2.2.1 _ lk_15) (fun _ q => q) dJ0_isLatin1_aae02_7 ?_
  refine lv_if_ne h.1 h.2.1 dJ0_isLatin1_aae02_10 (tgt := 17) rfl (fun q => absurd rfl q) (fun _ => ?_)
  refine lv_iconst h.1 h.2.1 dJ0_isLatin1_aae02_13 rfl ?_
  refine lv_goto h.1 h.2.1 dJ0_isLatin1_aae02_14 (tgt := 18) rfl ?_
  have e := ((h.2.2.2.2.2.2.2 _ _ 18 ls (by rw [hm]; exact hh)).1 (by decide) (by rw [hv]; exact ⟨by decide, by decide⟩) dJ0_isLatin1_aae02_18)
  rw [hv] at e
  exact e
end
