section
theorem lk_1053 : Cond.fieldLink RJ0 1053 "jdk/internal/util/Preconditions" "SIOOBE_FORMATTER" "Ljava/util/function/BiFunction;" ∈ js_tb := js_mem 549 (by decide +kernel) rfl
theorem lk_335 : Cond.methodLink RJ0 335 yJ0_coder_7d493 ∈ js_tb := js_mem 529 (by decide +kernel) rfl
theorem lk_492 : Cond.methodLink RJ0 492 yJ0_isLatin1_aae02 ∈ js_tb := js_mem 539 (by decide +kernel) rfl
theorem lk_495 : Cond.methodLink RJ0 495 yJ1_charAt_3b067 ∈ js_tb := js_mem 543 (by decide +kernel) rfl
theorem lk_J19 : Cond.methodLink RJ1 9 yJ0_checkIndex_df160 ∈ js_tb := js_mem 546 (by decide +kernel) rfl
theorem lk_1059 : Cond.methodLink RJ0 1059 yJ3_checkIndex_8e157 ∈ js_tb := js_mem 551 (by decide +kernel) rfl
theorem js_sm0 : js_sm 8 [] := by show (0 : Nat) ≤ 8; decide
theorem js_sm1 (x : Int32) : js_sm 8 [.int x] := by show (1 : Nat) ≤ 8; decide
theorem js_nn {z : Int} {n : Nat} (h1 : 0 ≤ z) (h2 : z < (n : Int)) (hn : n < 2147483648) : ¬ Int32.ofInt z < 0 ∧ Int32.ofInt z < Int32.ofNat n := by
  have e : (Int32.ofInt z).toInt = z := js_i32 (by omega)
  have e2 : (Int32.ofNat n).toInt = n := nI_toInt hn
  rw [Int32.lt_iff_toInt_lt, Int32.lt_iff_toInt_lt, e, e2]
  exact ⟨by rw [show (0 : Int32).toInt = 0 from rfl]; omega, h2⟩
theorem mt_J3 {l : Launch} {τ : js_Tb} {μ : js_Mm} {sz : Nat} {i : Int} {n : Nat} {v3 : Value} (hv3 : v3.category = 1) (hcan : js_can 0 μ) (h1 : 0 ≤ i) (h2 : i < (n : Int)) (hn : n < 2147483648) :
    Met l yJ3_checkIndex_8e157 (.code yJ3_checkIndex_8e157 cJ3_checkIndex_8e157 3 (some .int) :: js_tb) (js_rm 0) (va_Pc [.int (Int32.ofInt i), .int (Int32.ofNat n), v3] (js_B k_J3_checkIndex_8e157 τ μ sz)) (js_Q k_J3_checkIndex_8e157 τ μ i sz) 0 0 (js_Ax 0 (tA τ) sz) := by
  refine js_met yi_J3_checkIndex_8e157 rfl (Or.inr ⟨by decide, _, rfl, rfl⟩) hcan (by simp [lg_sl, hv3, show ∀ x : Int32, (Value.int x).category = 1 from fun _ => rfl]) (fun X ls h hT hv hm hl hh => ?_)
  obtain ⟨n1, n2⟩ := js_nn h1 h2 hn
  have l0 : ls[0]? = some (.val (.int (Int32.ofInt i))) := js_hl hl List.mem_cons_self
  have l1 : ls[1]? = some (.val (.int (Int32.ofNat n))) := js_hl hl (List.mem_cons_of_mem _ List.mem_cons_self)
  refine lv_iload_n h.1 h.2.1 dJ3_checkIndex_8e157_0 rfl l0 ?_
  refine lv_if_lt h.1 h.2.1 dJ3_checkIndex_8e157_1 (tgt := 9) rfl (fun q => absurd q n1) (fun _ => ?_)
  refine lv_iload_n h.1 h.2.1 dJ3_checkIndex_8e157_4 rfl l0 ?_
  refine lv_iload_n h.1 h.2.1 dJ3_checkIndex_8e157_5 rfl l1 ?_
  refine lv_icmp_lt h.1 h.2.1 dJ3_checkIndex_8e157_6 (tgt := 16) rfl (fun _ => ?_) (fun q => absurd n2 q)
  refine lv_iload_n h.1 h.2.1 dJ3_checkIndex_8e157_16 rfl l0 ?_
  have e := ((h.2.2.2.2.2.2.2 _ _ 17 ls (by rw [hm]; exact hh)).1 (by decide) (by rw [hv]; exact ⟨by omega, by omega⟩) dJ3_checkIndex_8e157_17)
  rw [hv] at e
  exact e
theorem mt_J0c {l : Launch} {τ : js_Tb} {μ : js_Mm} {sz : Nat} {i : Int} {n : Nat} (hcan : js_can 0 μ) (h1 : 0 ≤ i) (h2 : i < (n : Int)) (hn : n < 2147483648) :
    Met l yJ0_checkIndex_df160 (.code yJ0_checkIndex_df160 cJ0_checkIndex_df160 2 none :: js_tb) (js_rm 1) (va_Pc [.int (Int32.ofInt i), .int (Int32.ofNat n)] (js_B k_J0_checkIndex_df160 τ μ sz)) (js_Q k_J0_checkIndex_df160 τ μ 0 sz) 0 0 (js_Ax 0 (tA τ) sz) := by
  refine js_met yi_J0_checkIndex_df160 rfl (Or.inl ⟨rfl, rfl⟩) hcan (by simp [lg_sl, Value.category]) (fun X ls h hT hv hm hl hh => ?_)
  subst hT
  have l0 : ls[0]? = some (.val (.int (Int32.ofInt i))) := js_hl hl List.mem_cons_self
  have l1 : ls[1]? = some (.val (.int (Int32.ofNat n))) := js_hl hl (List.mem_cons_of_mem _ List.mem_cons_self)
  refine lv_iload_n h.1 h.2.1 dJ0_checkIndex_df160_0 rfl l0 ?_
  refine lv_iload_n h.1 h.2.1 dJ0_checkIndex_df160_1 rfl l1 ?_
  have main : ∀ v3 : Value, v3.category = 1 → js_W k_J0_checkIndex_df160 X (xS X).heap [] 5 ls [v3, .int (Int32.ofNat n), .int (Int32.ofInt i)] := by
    intro v3 hv3
    refine js_aft (κ' := k_J3_checkIndex_8e157) (st := []) rfl (by decide) hh (js_zrun h (av := [.int (Int32.ofInt i), .int (Int32.ofNat n), v3]) (v := i) (mt_J3 hv3 hcan h1 h2 hn) yi_J3_checkIndex_8e157 ys_J3_checkIndex_8e157 lk_1059 (by decide) rfl rfl hl.1 hh js_sm0 dJ0_checkIndex_df160_5) (fun _ H' locs' hh' => ?_)
    refine lv_pop h.1 h.2.1 dJ0_checkIndex_df160_8 rfl ?_
    exact (h.2.2.2.2.2.2.2 _ _ 9 ls (by rw [hm]; exact hh')).2 rfl dJ0_checkIndex_df160_9
  rcases h.2.2.2.2.2.2.1.2.2.2 with hz | ⟨t, hz⟩
  · exact va_gets h.1 h.2.1 hz hh.2.2.1 h.2.2.2.1 (h.2.2.2.2.1 _ lk_1053) (fun _ q => q) dJ0_checkIndex_df160_2 (main _ rfl)
  · exact va_gets h.1 h.2.1 hz hh.2.2.1 h.2.2.2.1 (h.2.2.2.2.1 _ lk_1053) (fun _ q => q) dJ0_checkIndex_df160_2 (main _ rfl)
theorem js_sbt : ∀ i, i < 9 → ∀ j, j < (js_str.getD i []).length → js_sl.getD i 0 = (js_str.getD i []).length ∧ (js_sb.getD i []).getD j 0 = nI ((js_str.getD i []).getD j 0) ∧ (js_str.getD i []).getD j 0 < 128 ∧ (js_str.getD i []).length < 10 := by decide
theorem js_slt : ∀ i, i < 9 → js_sl.getD i 0 = (js_str.getD i []).length ∧ (js_str.getD i []).length < 10 := by decide
theorem js_c8 : ∀ c, c < 128 → ((nI c &&& 255).toUInt32 % 65536).toInt32 = Int32.ofInt (c : Int) ∧ narrow .char (.int (Int32.ofInt (c : Int))) = .int (Int32.ofInt (c : Int)) := by decide +kernel
theorem mt_J1 {l : Launch} {τ : js_Tb} {μ : js_Mm} {sz i : Nat} {j : Int} (hcan : js_can 0 μ) (hi : i < 9) (h1 : 0 ≤ j) (h2 : j < ((js_str.getD i []).length : Int)) :
    Met l yJ1_charAt_3b067 (.code yJ1_charAt_3b067 cJ1_charAt_3b067 2 (some .char) :: js_tb) (js_rm 2) (va_Pc [.ref (tV τ i), .int (Int32.ofInt j)] (js_B k_J1_charAt_3b067 τ μ sz)) (js_Q k_J1_charAt_3b067 τ μ (((js_str.getD i []).getD j.toNat 0 : Nat) : Int) sz) 0 0 (js_Ax 0 (tA τ) sz) := by
  obtain ⟨b1, b2, b3, b4⟩ := js_sbt i hi j.toNat (by omega)
  obtain ⟨c1, c2⟩ := js_c8 _ b3
  refine js_met yi_J1_charAt_3b067 rfl (Or.inr ⟨by decide, _, rfl, c2⟩) hcan (by simp [lg_sl, Value.category]) (fun X ls h hT hv hm hl hh => ?_)
  subst hT
  have l0 : ls[0]? = some (.val (.ref (tV (xT X) i))) := js_hl hl List.mem_cons_self
  have l1 : ls[1]? = some (.val (.int (Int32.ofInt j))) := js_hl hl (List.mem_cons_of_mem _ List.mem_cons_self)
  obtain ⟨s1, s2, s3⟩ := js_strOf h hi
  rw [b1] at s3
  refine lv_iload_n h.1 h.2.1 dJ1_charAt_3b067_0 rfl l1 ?_
  refine lv_aload_n h.1 h.2.1 dJ1_charAt_3b067_1 rfl l0 ?_
  refine va_tlen h.1 h.2.1 s3 hh.2.2.1 rfl dJ1_charAt_3b067_2 ?_
  refine js_afv (κ' := k_J0_checkIndex_df160) (st := []) rfl rfl hh (js_zrun h (av := [.int (Int32.ofInt j), .int (Int32.ofNat (js_str.getD i []).length)]) (v := 0) (mt_J0c hcan h1 h2 (by omega)) yi_J0_checkIndex_df160 ys_J0_checkIndex_df160 lk_J19 (by decide) rfl rfl hl.1 hh js_sm0 dJ1_charAt_3b067_3) (fun H' locs' hh' => ?_)
  obtain ⟨x1, x2⟩ := js_ax h1 h2 (by omega)
  refine lv_aload_n h.1 h.2.1 dJ1_charAt_3b067_6 rfl l0 ?_
  refine lv_iload_n h.1 h.2.1 dJ1_charAt_3b067_7 rfl l1 ?_
  refine va_tb h.1 h.2.1 s3 hh'.2.2.1 x1 (v := .int (nI ((js_str.getD i []).getD j.toNat 0))) (by rw [x2, b2]) dJ1_charAt_3b067_8 ?_
  refine lv_sipush h.1 h.2.1 dJ1_charAt_3b067_9 (v := 255) (by decide) ?_
  refine lv_iand h.1 h.2.1 dJ1_charAt_3b067_12 ?_
  refine lv_i2c h.1 h.2.1 dJ1_charAt_3b067_13 c1 ?_
  have e := ((h.2.2.2.2.2.2.2 _ _ 14 ls (by rw [hm]; exact hh')).1 (by decide) (by rw [hv]; exact ⟨by omega, by omega⟩) dJ1_charAt_3b067_14)
  rw [hv] at e
  exact e
theorem js_sh0 : ∀ n, n < 10 → Int32.ofNat n >>> (Int32.ofInt 0 &&& 31) = Int32.ofInt (n : Int) := by decide +kernel
theorem zme_J0_length_8abf5 : js_Me yJ0_length_8abf5 k_J0_length_8abf5 (some .int) [4] js_slF := by
  intro l τ zs μ v μ' sz hF hcan hag
  obtain ⟨i, rfl⟩ := js_ag1 hag
  obtain ⟨-, hF⟩ := js_if_some hF
  cases hF
  have hr := hag.1
  have hi : i.toNat < 9 := by have h1 := hr.1; have h2 := hr.2; omega
  obtain ⟨b1, b2⟩ := js_slt _ hi
  refine js_met yi_J0_length_8abf5 rfl (Or.inr ⟨by decide, _, rfl, rfl⟩) hcan (by rw [js_sll τ 0 [4] [i] hag]; decide) (fun X ls h hT hv hm hl hh => ?_)
  subst hT
  obtain ⟨s1, s2, s3⟩ := js_strOf h hi
  rw [b1] at s3
  have l0 : ls[0]? = some (.val (.ref (tK (xT X) i.toNat))) := js_hl hl List.mem_cons_self
  refine lv_aload_n h.1 h.2.1 dJ0_length_8abf5_0 rfl l0 ?_
  refine vk_getf h.1 h.2.1 s2 hh.2.2.1 h.2.2.2.1 (h.2.2.2.2.1 _ lk_9) (fun _ q => q) dJ0_length_8abf5_1 ?_
  refine va_tlen h.1 h.2.1 s3 hh.2.2.1 rfl dJ0_length_8abf5_4 ?_
  refine lv_aload_n h.1 h.2.1 dJ0_length_8abf5_5 rfl l0 ?_
  have hF : js_0F [i] μ = some (0, μ) := by
    have h1 := hr.1; have h2 := hr.2
    simp [js_0F, h1, h2]
  refine js_aft (κ' := k_J0_coder_7d493) (st := [.int (Int32.ofNat (js_str.getD i.toNat []).length)]) rfl (by decide) hh (js_trun h (zs := []) (ts := []) me_J0_coder_7d493 yi_J0_coder_7d493 yv_J0_coder_7d493 lk_335 (by decide) rfl rfl rfl hl.1 hF hag hh (js_sm1 _) dJ0_length_8abf5_6) (fun _ H' locs' hh' => ?_)
  refine lv_ishr h.1 h.2.1 dJ0_length_8abf5_9 ?_
  rw [js_sh0 _ b2]
  have e := ((h.2.2.2.2.2.2.2 _ _ 10 ls (by rw [hm]; exact hh')).1 (by decide) (by rw [hv]; exact ⟨by omega, by omega⟩) dJ0_length_8abf5_10)
  rw [hv] at e
  exact e
theorem zme_J0_charAt_5068e : js_Me yJ0_charAt_5068e k_J0_charAt_5068e (some .char) [4, 1] js_scF := by
  intro l τ zs μ v μ' sz hF hcan hag
  obtain ⟨i, j, rfl⟩ := js_ag2 hag
  obtain ⟨hq, hF⟩ := js_if_some hF
  cases hF
  simp only [Bool.and_eq_true, decide_eq_true_eq] at hq
  obtain ⟨⟨⟨h1, h2⟩, h3⟩, h4⟩ := hq
  have hi : i.toNat < 9 := by omega
  obtain ⟨b1, b2, b3, b4⟩ := js_sbt i.toNat hi j.toNat (by omega)
  obtain ⟨c1, c2⟩ := js_c8 _ b3
  refine js_met yi_J0_charAt_5068e rfl (Or.inr ⟨by decide, _, rfl, c2⟩) hcan (by rw [js_sll τ 0 [4, 1] [i, j] hag]; decide) (fun X ls h hT hv hm hl hh => ?_)
  subst hT
  obtain ⟨s1, s2, s3⟩ := js_strOf h hi
  have l0 : ls[0]? = some (.val (.ref (tK (xT X) i.toNat))) := js_hl hl List.mem_cons_self
  have l1 : ls[1]? = some (.val (.int (Int32.ofInt j))) := js_hl hl (List.mem_cons_of_mem _ List.mem_cons_self)
  refine lv_aload_n h.1 h.2.1 dJ0_charAt_5068e_0 rfl l0 ?_
  have hF : js_1F [i] μ = some (1, μ) := by simp [js_1F, h1, h2]
  refine js_aft (κ' := k_J0_isLatin1_aae02) (st := []) rfl (by decide) hh (js_trun h (zs := []) (ts := []) me_J0_isLatin1_aae02 yi_J0_isLatin1_aae02 yv_J0_isLatin1_aae02 lk_492 (by decide) rfl rfl rfl hl.1 hF ⟨hag.1, trivial⟩ hh js_sm0 dJ0_charAt_5068e_1) (fun _ H' locs' hh' => ?_)
  refine lv_if_eq h.1 h.2.1 dJ0_charAt_5068e_4 (tgt := 16) rfl (fun q => absurd q (by decide)) (fun _ => ?_)
  refine lv_aload_n h.1 h.2.1 dJ0_charAt_5068e_7 rfl l0 ?_
  refine vk_getf h.1 h.2.1 s2 hh'.2.2.1 h.2.2.2.1 (h.2.2.2.2.1 _ lk_9) (fun _ q => q) dJ0_charAt_5068e_8 ?_
  refine lv_iload_n h.1 h.2.1 dJ0_charAt_5068e_11 rfl l1 ?_
  refine js_aft (κ' := k_J1_charAt_3b067) (st := []) rfl (by decide) hh' (js_zrun h (av := [.ref (tV (xT X) i.toNat), .int (Int32.ofInt j)]) (mt_J1 hcan hi h3 h4) yi_J1_charAt_3b067 ys_J1_charAt_3b067 lk_495 (by decide) rfl rfl hl.1 hh' js_sm0 dJ0_charAt_5068e_12) (fun _ H' locs' hh' => ?_)
  have e := ((h.2.2.2.2.2.2.2 _ _ 15 ls (by rw [hm]; exact hh')).1 (by decide) (by rw [hv]; exact ⟨by omega, by omega⟩) dJ0_charAt_5068e_15)
  rw [hv] at e
  exact e
end
