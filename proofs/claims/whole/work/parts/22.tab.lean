section
theorem jt_is0_0 : js_is 0 10 0 = true := rfl
theorem jt_rt0_0_0 : ((js_rt 0 0 0 : Nat) : Int) = 1 := rfl
theorem jt_rt0_0_1 : ((js_rt 0 0 1 : Nat) : Int) = 3 := rfl
theorem jt_rt0_0_2 : ((js_rt 0 0 2 : Nat) : Int) = 10 := rfl
theorem jt_rt0_0_3 : ((js_rt 0 0 3 : Nat) : Int) = 17 := rfl
theorem jt_rt0_0_4 : ((js_rt 0 0 4 : Nat) : Int) = 23 := rfl
theorem jt_rt0_0_5 : ((js_rt 0 0 5 : Nat) : Int) = 29 := rfl
theorem jt_rt0_0_6 : ((js_rt 0 0 6 : Nat) : Int) = 30 := rfl
theorem jt_rt0_0_7 : ((js_rt 0 0 7 : Nat) : Int) = 31 := rfl
theorem jt_rt0_0_8 : ((js_rt 0 0 8 : Nat) : Int) = 42 := rfl
theorem jt_rt0_0_9 : ((js_rt 0 0 9 : Nat) : Int) = 53 := rfl
theorem jt_rt0_0_10 : ((js_rt 0 0 10 : Nat) : Int) = 64 := rfl
theorem jt_rt0_0_11 : ((js_rt 0 0 11 : Nat) : Int) = 87 := rfl
theorem jt_rt0_0_12 : ((js_rt 0 0 12 : Nat) : Int) = 89 := rfl
theorem jt_rt0_0_13 : ((js_rt 0 0 13 : Nat) : Int) = 92 := rfl
theorem jt_rt0_0_14 : ((js_rt 0 0 14 : Nat) : Int) = 97 := rfl
theorem jt_is0_1 : js_is 0 7 1 = true := rfl
theorem jt_rt0_1_0 : ((js_rt 0 1 0 : Nat) : Int) = 2 := rfl
theorem jt_in0_2 {i : Int} (h0 : 0 ≤ i) (h1 : i < 600) : js_in 0 22 2 i = true := by
  unfold js_in
  simp only [Bool.and_eq_true, decide_eq_true_eq]
  exact ⟨⟨⟨rfl, by decide⟩, h0⟩, h1⟩
theorem jt_ia0_2 : js_is 0 22 2 = true := rfl
theorem jt_ln0_2 : (((js_sh 0 2).2 : Nat) : Int) = 600 := rfl
theorem jt_is0_3 : js_is 0 8 3 = true := rfl
theorem jt_rt0_3_3 : ((js_rt 0 3 3 : Nat) : Int) = 4 := rfl
theorem jt_rt0_3_4 : ((js_rt 0 3 4 : Nat) : Int) = 5 := rfl
theorem jt_rt0_3_5 : ((js_rt 0 3 5 : Nat) : Int) = 6 := rfl
theorem jt_rt0_3_6 : ((js_rt 0 3 6 : Nat) : Int) = 7 := rfl
theorem jt_rt0_3_7 : ((js_rt 0 3 7 : Nat) : Int) = 8 := rfl
theorem jt_rt0_3_8 : ((js_rt 0 3 8 : Nat) : Int) = 9 := rfl
theorem jt_in0_4 {i : Int} (h0 : 0 ≤ i) (h1 : i < 24) : js_in 0 20 4 i = true := by
  unfold js_in
  simp only [Bool.and_eq_true, decide_eq_true_eq]
  exact ⟨⟨⟨rfl, by decide⟩, h0⟩, h1⟩
theorem jt_ia0_4 : js_is 0 20 4 = true := rfl
theorem jt_ln0_4 : (((js_sh 0 4).2 : Nat) : Int) = 24 := rfl
theorem jt_in0_5 {i : Int} (h0 : 0 ≤ i) (h1 : i < 24) : js_in 0 20 5 i = true := by
  unfold js_in
  simp only [Bool.and_eq_true, decide_eq_true_eq]
  exact ⟨⟨⟨rfl, by decide⟩, h0⟩, h1⟩
theorem jt_ia0_5 : js_is 0 20 5 = true := rfl
theorem jt_ln0_5 : (((js_sh 0 5).2 : Nat) : Int) = 24 := rfl
theorem jt_in0_6 {i : Int} (h0 : 0 ≤ i) (h1 : i < 24) : js_in 0 20 6 i = true := by
  unfold js_in
  simp only [Bool.and_eq_true, decide_eq_true_eq]
  exact ⟨⟨⟨rfl, by decide⟩, h0⟩, h1⟩
theorem jt_ia0_6 : js_is 0 20 6 = true := rfl
theorem jt_ln0_6 : (((js_sh 0 6).2 : Nat) : Int) = 24 := rfl
theorem jt_in0_7 {i : Int} (h0 : 0 ≤ i) (h1 : i < 24) : js_in 0 20 7 i = true := by
  unfold js_in
  simp only [Bool.and_eq_true, decide_eq_true_eq]
  exact ⟨⟨⟨rfl, by decide⟩, h0⟩, h1⟩
theorem jt_ia0_7 : js_is 0 20 7 = true := rfl
theorem jt_ln0_7 : (((js_sh 0 7).2 : Nat) : Int) = 24 := rfl
theorem jt_in0_8 {i : Int} (h0 : 0 ≤ i) (h1 : i < 576) : js_in 0 20 8 i = true := by
  unfold js_in
  simp only [Bool.and_eq_true, decide_eq_true_eq]
  exact ⟨⟨⟨rfl, by decide⟩, h0⟩, h1⟩
theorem jt_ia0_8 : js_is 0 20 8 = true := rfl
theorem jt_ln0_8 : (((js_sh 0 8).2 : Nat) : Int) = 576 := rfl
theorem jt_in0_9 {i : Int} (h0 : 0 ≤ i) (h1 : i < 576) : js_in 0 20 9 i = true := by
  unfold js_in
  simp only [Bool.and_eq_true, decide_eq_true_eq]
  exact ⟨⟨⟨rfl, by decide⟩, h0⟩, h1⟩
theorem jt_ia0_9 : js_is 0 20 9 = true := rfl
theorem jt_ln0_9 : (((js_sh 0 9).2 : Nat) : Int) = 576 := rfl
theorem jt_is0_10 : js_is 0 8 10 = true := rfl
theorem jt_rt0_10_3 : ((js_rt 0 10 3 : Nat) : Int) = 11 := rfl
theorem jt_rt0_10_4 : ((js_rt 0 10 4 : Nat) : Int) = 12 := rfl
theorem jt_rt0_10_5 : ((js_rt 0 10 5 : Nat) : Int) = 13 := rfl
theorem jt_rt0_10_6 : ((js_rt 0 10 6 : Nat) : Int) = 14 := rfl
theorem jt_rt0_10_7 : ((js_rt 0 10 7 : Nat) : Int) = 15 := rfl
theorem jt_rt0_10_8 : ((js_rt 0 10 8 : Nat) : Int) = 16 := rfl
theorem jt_in0_11 {i : Int} (h0 : 0 ≤ i) (h1 : i < 24) : js_in 0 20 11 i = true := by
  unfold js_in
  simp only [Bool.and_eq_true, decide_eq_true_eq]
  exact ⟨⟨⟨rfl, by decide⟩, h0⟩, h1⟩
theorem jt_ia0_11 : js_is 0 20 11 = true := rfl
theorem jt_ln0_11 : (((js_sh 0 11).2 : Nat) : Int) = 24 := rfl
theorem jt_in0_12 {i : Int} (h0 : 0 ≤ i) (h1 : i < 24) : js_in 0 20 12 i = true := by
  unfold js_in
  simp only [Bool.and_eq_true, decide_eq_true_eq]
  exact ⟨⟨⟨rfl, by decide⟩, h0⟩, h1⟩
theorem jt_ia0_12 : js_is 0 20 12 = true := rfl
theorem jt_ln0_12 : (((js_sh 0 12).2 : Nat) : Int) = 24 := rfl
theorem jt_in0_13 {i : Int} (h0 : 0 ≤ i) (h1 : i < 24) : js_in 0 20 13 i = true := by
  unfold js_in
  simp only [Bool.and_eq_true, decide_eq_true_eq]
  exact ⟨⟨⟨rfl, by decide⟩, h0⟩, h1⟩
theorem jt_ia0_13 : js_is 0 20 13 = true := rfl
theorem jt_ln0_13 : (((js_sh 0 13).2 : Nat) : Int) = 24 := rfl
theorem jt_in0_14 {i : Int} (h0 : 0 ≤ i) (h1 : i < 24) : js_in 0 20 14 i = true := by
  unfold js_in
  simp only [Bool.and_eq_true, decide_eq_true_eq]
  exact ⟨⟨⟨rfl, by decide⟩, h0⟩, h1⟩
theorem jt_ia0_14 : js_is 0 20 14 = true := rfl
theorem jt_ln0_14 : (((js_sh 0 14).2 : Nat) : Int) = 24 := rfl
theorem jt_in0_15 {i : Int} (h0 : 0 ≤ i) (h1 : i < 576) : js_in 0 20 15 i = true := by
  unfold js_in
  simp only [Bool.and_eq_true, decide_eq_true_eq]
  exact ⟨⟨⟨rfl, by decide⟩, h0⟩, h1⟩
theorem jt_ia0_15 : js_is 0 20 15 = true := rfl
theorem jt_ln0_15 : (((js_sh 0 15).2 : Nat) : Int) = 576 := rfl
theorem jt_in0_16 {i : Int} (h0 : 0 ≤ i) (h1 : i < 576) : js_in 0 20 16 i = true := by
  unfold js_in
  simp only [Bool.and_eq_true, decide_eq_true_eq]
  exact ⟨⟨⟨rfl, by decide⟩, h0⟩, h1⟩
theorem jt_ia0_16 : js_is 0 20 16 = true := rfl
theorem jt_ln0_16 : (((js_sh 0 16).2 : Nat) : Int) = 576 := rfl
theorem jt_is0_17 : js_is 0 3 17 = true := rfl
theorem jt_rt0_17_1 : ((js_rt 0 17 1 : Nat) : Int) = 18 := rfl
theorem jt_rt0_17_2 : ((js_rt 0 17 2 : Nat) : Int) = 19 := rfl
theorem jt_rt0_17_3 : ((js_rt 0 17 3 : Nat) : Int) = 20 := rfl
theorem jt_rt0_17_4 : ((js_rt 0 17 4 : Nat) : Int) = 21 := rfl
theorem jt_rt0_17_5 : ((js_rt 0 17 5 : Nat) : Int) = 22 := rfl
theorem jt_in0_18 {i : Int} (h0 : 0 ≤ i) (h1 : i < 6) : js_in 0 20 18 i = true := by
  unfold js_in
  simp only [Bool.and_eq_true, decide_eq_true_eq]
  exact ⟨⟨⟨rfl, by decide⟩, h0⟩, h1⟩
theorem jt_ia0_18 : js_is 0 20 18 = true := rfl
theorem jt_ln0_18 : (((js_sh 0 18).2 : Nat) : Int) = 6 := rfl
theorem jt_in0_19 {i : Int} (h0 : 0 ≤ i) (h1 : i < 6) : js_in 0 20 19 i = true := by
  unfold js_in
  simp only [Bool.and_eq_true, decide_eq_true_eq]
  exact ⟨⟨⟨rfl, by decide⟩, h0⟩, h1⟩
theorem jt_ia0_19 : js_is 0 20 19 = true := rfl
theorem jt_ln0_19 : (((js_sh 0 19).2 : Nat) : Int) = 6 := rfl
theorem jt_in0_20 {i : Int} (h0 : 0 ≤ i) (h1 : i < 6) : js_in 0 20 20 i = true := by
  unfold js_in
  simp only [Bool.and_eq_true, decide_eq_true_eq]
  exact ⟨⟨⟨rfl, by decide⟩, h0⟩, h1⟩
theorem jt_ia0_20 : js_is 0 20 20 = true := rfl
theorem jt_ln0_20 : (((js_sh 0 20).2 : Nat) : Int) = 6 := rfl
theorem jt_in0_21 {i : Int} (h0 : 0 ≤ i) (h1 : i < 6) : js_in 0 20 21 i = true := by
  unfold js_in
  simp only [Bool.and_eq_true, decide_eq_true_eq]
  exact ⟨⟨⟨rfl, by decide⟩, h0⟩, h1⟩
theorem jt_ia0_21 : js_is 0 20 21 = true := rfl
theorem jt_ln0_21 : (((js_sh 0 21).2 : Nat) : Int) = 6 := rfl
theorem jt_in0_22 {i : Int} (h0 : 0 ≤ i) (h1 : i < 6) : js_in 0 20 22 i = true := by
  unfold js_in
  simp only [Bool.and_eq_true, decide_eq_true_eq]
  exact ⟨⟨⟨rfl, by decide⟩, h0⟩, h1⟩
theorem jt_ia0_22 : js_is 0 20 22 = true := rfl
theorem jt_ln0_22 : (((js_sh 0 22).2 : Nat) : Int) = 6 := rfl
theorem jt_is0_23 : js_is 0 3 23 = true := rfl
theorem jt_rt0_23_1 : ((js_rt 0 23 1 : Nat) : Int) = 24 := rfl
theorem jt_rt0_23_2 : ((js_rt 0 23 2 : Nat) : Int) = 25 := rfl
theorem jt_rt0_23_3 : ((js_rt 0 23 3 : Nat) : Int) = 26 := rfl
theorem jt_rt0_23_4 : ((js_rt 0 23 4 : Nat) : Int) = 27 := rfl
theorem jt_rt0_23_5 : ((js_rt 0 23 5 : Nat) : Int) = 28 := rfl
theorem jt_in0_24 {i : Int} (h0 : 0 ≤ i) (h1 : i < 6) : js_in 0 20 24 i = true := by
  unfold js_in
  simp only [Bool.and_eq_true, decide_eq_true_eq]
  exact ⟨⟨⟨rfl, by decide⟩, h0⟩, h1⟩
theorem jt_ia0_24 : js_is 0 20 24 = true := rfl
theorem jt_ln0_24 : (((js_sh 0 24).2 : Nat) : Int) = 6 := rfl
theorem jt_in0_25 {i : Int} (h0 : 0 ≤ i) (h1 : i < 6) : js_in 0 20 25 i = true := by
  unfold js_in
  simp only [Bool.and_eq_true, decide_eq_true_eq]
  exact ⟨⟨⟨rfl, by decide⟩, h0⟩, h1⟩
theorem jt_ia0_25 : js_is 0 20 25 = true := rfl
theorem jt_ln0_25 : (((js_sh 0 25).2 : Nat) : Int) = 6 := rfl
theorem jt_in0_26 {i : Int} (h0 : 0 ≤ i) (h1 : i < 6) : js_in 0 20 26 i = true := by
  unfold js_in
  simp only [Bool.and_eq_true, decide_eq_true_eq]
  exact ⟨⟨⟨rfl, by decide⟩, h0⟩, h1⟩
theorem jt_ia0_26 : js_is 0 20 26 = true := rfl
theorem jt_ln0_26 : (((js_sh 0 26).2 : Nat) : Int) = 6 := rfl
theorem jt_in0_27 {i : Int} (h0 : 0 ≤ i) (h1 : i < 6) : js_in 0 20 27 i = true := by
  unfold js_in
  simp only [Bool.and_eq_true, decide_eq_true_eq]
  exact ⟨⟨⟨rfl, by decide⟩, h0⟩, h1⟩
theorem jt_ia0_27 : js_is 0 20 27 = true := rfl
theorem jt_ln0_27 : (((js_sh 0 27).2 : Nat) : Int) = 6 := rfl
theorem jt_in0_28 {i : Int} (h0 : 0 ≤ i) (h1 : i < 6) : js_in 0 20 28 i = true := by
  unfold js_in
  simp only [Bool.and_eq_true, decide_eq_true_eq]
  exact ⟨⟨⟨rfl, by decide⟩, h0⟩, h1⟩
theorem jt_ia0_28 : js_is 0 20 28 = true := rfl
theorem jt_ln0_28 : (((js_sh 0 28).2 : Nat) : Int) = 6 := rfl
theorem jt_is0_29 : js_is 0 5 29 = true := rfl
theorem jt_is0_30 : js_is 0 6 30 = true := rfl
theorem jt_rt0_30_0 : ((js_rt 0 30 0 : Nat) : Int) = 3 := rfl
theorem jt_rt0_30_1 : ((js_rt 0 30 1 : Nat) : Int) = 17 := rfl
theorem jt_rt0_30_2 : ((js_rt 0 30 2 : Nat) : Int) = 29 := rfl
theorem jt_is0_31 : js_is 0 0 31 = true := rfl
theorem jt_rt0_31_0 : ((js_rt 0 31 0 : Nat) : Int) = 32 := rfl
theorem jt_rt0_31_1 : ((js_rt 0 31 1 : Nat) : Int) = 33 := rfl
theorem jt_rt0_31_2 : ((js_rt 0 31 2 : Nat) : Int) = 34 := rfl
theorem jt_rt0_31_3 : ((js_rt 0 31 3 : Nat) : Int) = 35 := rfl
theorem jt_rt0_31_4 : ((js_rt 0 31 4 : Nat) : Int) = 36 := rfl
theorem jt_rt0_31_5 : ((js_rt 0 31 5 : Nat) : Int) = 37 := rfl
theorem jt_rt0_31_6 : ((js_rt 0 31 6 : Nat) : Int) = 38 := rfl
theorem jt_rt0_31_7 : ((js_rt 0 31 7 : Nat) : Int) = 39 := rfl
theorem jt_rt0_31_8 : ((js_rt 0 31 8 : Nat) : Int) = 40 := rfl
theorem jt_rt0_31_9 : ((js_rt 0 31 9 : Nat) : Int) = 41 := rfl
theorem jt_in0_32 {i : Int} (h0 : 0 ≤ i) (h1 : i < 24) : js_in 0 20 32 i = true := by
  unfold js_in
  simp only [Bool.and_eq_true, decide_eq_true_eq]
  exact ⟨⟨⟨rfl, by decide⟩, h0⟩, h1⟩
theorem jt_ia0_32 : js_is 0 20 32 = true := rfl
theorem jt_ln0_32 : (((js_sh 0 32).2 : Nat) : Int) = 24 := rfl
theorem jt_in0_33 {i : Int} (h0 : 0 ≤ i) (h1 : i < 24) : js_in 0 20 33 i = true := by
  unfold js_in
  simp only [Bool.and_eq_true, decide_eq_true_eq]
  exact ⟨⟨⟨rfl, by decide⟩, h0⟩, h1⟩
theorem jt_ia0_33 : js_is 0 20 33 = true := rfl
theorem jt_ln0_33 : (((js_sh 0 33).2 : Nat) : Int) = 24 := rfl
theorem jt_in0_34 {i : Int} (h0 : 0 ≤ i) (h1 : i < 144) : js_in 0 20 34 i = true := by
  unfold js_in
  simp only [Bool.and_eq_true, decide_eq_true_eq]
  exact ⟨⟨⟨rfl, by decide⟩, h0⟩, h1⟩
theorem jt_ia0_34 : js_is 0 20 34 = true := rfl
theorem jt_ln0_34 : (((js_sh 0 34).2 : Nat) : Int) = 144 := rfl
theorem jt_in0_35 {i : Int} (h0 : 0 ≤ i) (h1 : i < 144) : js_in 0 20 35 i = true := by
  unfold js_in
  simp only [Bool.and_eq_true, decide_eq_true_eq]
  exact ⟨⟨⟨rfl, by decide⟩, h0⟩, h1⟩
theorem jt_ia0_35 : js_is 0 20 35 = true := rfl
theorem jt_ln0_35 : (((js_sh 0 35).2 : Nat) : Int) = 144 := rfl
theorem jt_in0_36 {i : Int} (h0 : 0 ≤ i) (h1 : i < 144) : js_in 0 20 36 i = true := by
  unfold js_in
  simp only [Bool.and_eq_true, decide_eq_true_eq]
  exact ⟨⟨⟨rfl, by decide⟩, h0⟩, h1⟩
theorem jt_ia0_36 : js_is 0 20 36 = true := rfl
theorem jt_ln0_36 : (((js_sh 0 36).2 : Nat) : Int) = 144 := rfl
theorem jt_in0_37 {i : Int} (h0 : 0 ≤ i) (h1 : i < 144) : js_in 0 20 37 i = true := by
  unfold js_in
  simp only [Bool.and_eq_true, decide_eq_true_eq]
  exact ⟨⟨⟨rfl, by decide⟩, h0⟩, h1⟩
theorem jt_ia0_37 : js_is 0 20 37 = true := rfl
theorem jt_ln0_37 : (((js_sh 0 37).2 : Nat) : Int) = 144 := rfl
theorem jt_in0_38 {i : Int} (h0 : 0 ≤ i) (h1 : i < 144) : js_in 0 20 38 i = true := by
  unfold js_in
  simp only [Bool.and_eq_true, decide_eq_true_eq]
  exact ⟨⟨⟨rfl, by decide⟩, h0⟩, h1⟩
theorem jt_ia0_38 : js_is 0 20 38 = true := rfl
theorem jt_ln0_38 : (((js_sh 0 38).2 : Nat) : Int) = 144 := rfl
theorem jt_in0_39 {i : Int} (h0 : 0 ≤ i) (h1 : i < 40) : js_in 0 20 39 i = true := by
  unfold js_in
  simp only [Bool.and_eq_true, decide_eq_true_eq]
  exact ⟨⟨⟨rfl, by decide⟩, h0⟩, h1⟩
theorem jt_ia0_39 : js_is 0 20 39 = true := rfl
theorem jt_ln0_39 : (((js_sh 0 39).2 : Nat) : Int) = 40 := rfl
theorem jt_in0_40 {i : Int} (h0 : 0 ≤ i) (h1 : i < 40) : js_in 0 20 40 i = true := by
  unfold js_in
  simp only [Bool.and_eq_true, decide_eq_true_eq]
  exact ⟨⟨⟨rfl, by decide⟩, h0⟩, h1⟩
theorem jt_ia0_40 : js_is 0 20 40 = true := rfl
theorem jt_ln0_40 : (((js_sh 0 40).2 : Nat) : Int) = 40 := rfl
theorem jt_in0_41 {i : Int} (h0 : 0 ≤ i) (h1 : i < 40) : js_in 0 20 41 i = true := by
  unfold js_in
  simp only [Bool.and_eq_true, decide_eq_true_eq]
  exact ⟨⟨⟨rfl, by decide⟩, h0⟩, h1⟩
theorem jt_ia0_41 : js_is 0 20 41 = true := rfl
theorem jt_ln0_41 : (((js_sh 0 41).2 : Nat) : Int) = 40 := rfl
theorem jt_is0_42 : js_is 0 0 42 = true := rfl
theorem jt_rt0_42_0 : ((js_rt 0 42 0 : Nat) : Int) = 43 := rfl
theorem jt_rt0_42_1 : ((js_rt 0 42 1 : Nat) : Int) = 44 := rfl
theorem jt_rt0_42_2 : ((js_rt 0 42 2 : Nat) : Int) = 45 := rfl
theorem jt_rt0_42_3 : ((js_rt 0 42 3 : Nat) : Int) = 46 := rfl
theorem jt_rt0_42_4 : ((js_rt 0 42 4 : Nat) : Int) = 47 := rfl
theorem jt_rt0_42_5 : ((js_rt 0 42 5 : Nat) : Int) = 48 := rfl
theorem jt_rt0_42_6 : ((js_rt 0 42 6 : Nat) : Int) = 49 := rfl
theorem jt_rt0_42_7 : ((js_rt 0 42 7 : Nat) : Int) = 50 := rfl
theorem jt_rt0_42_8 : ((js_rt 0 42 8 : Nat) : Int) = 51 := rfl
theorem jt_rt0_42_9 : ((js_rt 0 42 9 : Nat) : Int) = 52 := rfl
theorem jt_in0_43 {i : Int} (h0 : 0 ≤ i) (h1 : i < 24) : js_in 0 20 43 i = true := by
  unfold js_in
  simp only [Bool.and_eq_true, decide_eq_true_eq]
  exact ⟨⟨⟨rfl, by decide⟩, h0⟩, h1⟩
theorem jt_ia0_43 : js_is 0 20 43 = true := rfl
theorem jt_ln0_43 : (((js_sh 0 43).2 : Nat) : Int) = 24 := rfl
theorem jt_in0_44 {i : Int} (h0 : 0 ≤ i) (h1 : i < 24) : js_in 0 20 44 i = true := by
  unfold js_in
  simp only [Bool.and_eq_true, decide_eq_true_eq]
  exact ⟨⟨⟨rfl, by decide⟩, h0⟩, h1⟩
theorem jt_ia0_44 : js_is 0 20 44 = true := rfl
theorem jt_ln0_44 : (((js_sh 0 44).2 : Nat) : Int) = 24 := rfl
theorem jt_in0_45 {i : Int} (h0 : 0 ≤ i) (h1 : i < 144) : js_in 0 20 45 i = true := by
  unfold js_in
  simp only [Bool.and_eq_true, decide_eq_true_eq]
  exact ⟨⟨⟨rfl, by decide⟩, h0⟩, h1⟩
theorem jt_ia0_45 : js_is 0 20 45 = true := rfl
theorem jt_ln0_45 : (((js_sh 0 45).2 : Nat) : Int) = 144 := rfl
theorem jt_in0_46 {i : Int} (h0 : 0 ≤ i) (h1 : i < 144) : js_in 0 20 46 i = true := by
  unfold js_in
  simp only [Bool.and_eq_true, decide_eq_true_eq]
  exact ⟨⟨⟨rfl, by decide⟩, h0⟩, h1⟩
theorem jt_ia0_46 : js_is 0 20 46 = true := rfl
theorem jt_ln0_46 : (((js_sh 0 46).2 : Nat) : Int) = 144 := rfl
theorem jt_in0_47 {i : Int} (h0 : 0 ≤ i) (h1 : i < 144) : js_in 0 20 47 i = true := by
  unfold js_in
  simp only [Bool.and_eq_true, decide_eq_true_eq]
  exact ⟨⟨⟨rfl, by decide⟩, h0⟩, h1⟩
theorem jt_ia0_47 : js_is 0 20 47 = true := rfl
theorem jt_ln0_47 : (((js_sh 0 47).2 : Nat) : Int) = 144 := rfl
theorem jt_in0_48 {i : Int} (h0 : 0 ≤ i) (h1 : i < 144) : js_in 0 20 48 i = true := by
  unfold js_in
  simp only [Bool.and_eq_true, decide_eq_true_eq]
  exact ⟨⟨⟨rfl, by decide⟩, h0⟩, h1⟩
theorem jt_ia0_48 : js_is 0 20 48 = true := rfl
theorem jt_ln0_48 : (((js_sh 0 48).2 : Nat) : Int) = 144 := rfl
theorem jt_in0_49 {i : Int} (h0 : 0 ≤ i) (h1 : i < 144) : js_in 0 20 49 i = true := by
  unfold js_in
  simp only [Bool.and_eq_true, decide_eq_true_eq]
  exact ⟨⟨⟨rfl, by decide⟩, h0⟩, h1⟩
theorem jt_ia0_49 : js_is 0 20 49 = true := rfl
theorem jt_ln0_49 : (((js_sh 0 49).2 : Nat) : Int) = 144 := rfl
theorem jt_in0_50 {i : Int} (h0 : 0 ≤ i) (h1 : i < 40) : js_in 0 20 50 i = true := by
  unfold js_in
  simp only [Bool.and_eq_true, decide_eq_true_eq]
  exact ⟨⟨⟨rfl, by decide⟩, h0⟩, h1⟩
theorem jt_ia0_50 : js_is 0 20 50 = true := rfl
theorem jt_ln0_50 : (((js_sh 0 50).2 : Nat) : Int) = 40 := rfl
theorem jt_in0_51 {i : Int} (h0 : 0 ≤ i) (h1 : i < 40) : js_in 0 20 51 i = true := by
  unfold js_in
  simp only [Bool.and_eq_true, decide_eq_true_eq]
  exact ⟨⟨⟨rfl, by decide⟩, h0⟩, h1⟩
theorem jt_ia0_51 : js_is 0 20 51 = true := rfl
theorem jt_ln0_51 : (((js_sh 0 51).2 : Nat) : Int) = 40 := rfl
theorem jt_in0_52 {i : Int} (h0 : 0 ≤ i) (h1 : i < 40) : js_in 0 20 52 i = true := by
  unfold js_in
  simp only [Bool.and_eq_true, decide_eq_true_eq]
  exact ⟨⟨⟨rfl, by decide⟩, h0⟩, h1⟩
theorem jt_ia0_52 : js_is 0 20 52 = true := rfl
theorem jt_ln0_52 : (((js_sh 0 52).2 : Nat) : Int) = 40 := rfl
theorem jt_is0_53 : js_is 0 0 53 = true := rfl
theorem jt_rt0_53_0 : ((js_rt 0 53 0 : Nat) : Int) = 54 := rfl
theorem jt_rt0_53_1 : ((js_rt 0 53 1 : Nat) : Int) = 55 := rfl
theorem jt_rt0_53_2 : ((js_rt 0 53 2 : Nat) : Int) = 56 := rfl
theorem jt_rt0_53_3 : ((js_rt 0 53 3 : Nat) : Int) = 57 := rfl
theorem jt_rt0_53_4 : ((js_rt 0 53 4 : Nat) : Int) = 58 := rfl
theorem jt_rt0_53_5 : ((js_rt 0 53 5 : Nat) : Int) = 59 := rfl
theorem jt_rt0_53_6 : ((js_rt 0 53 6 : Nat) : Int) = 60 := rfl
theorem jt_rt0_53_7 : ((js_rt 0 53 7 : Nat) : Int) = 61 := rfl
theorem jt_rt0_53_8 : ((js_rt 0 53 8 : Nat) : Int) = 62 := rfl
theorem jt_rt0_53_9 : ((js_rt 0 53 9 : Nat) : Int) = 63 := rfl
theorem jt_in0_54 {i : Int} (h0 : 0 ≤ i) (h1 : i < 24) : js_in 0 20 54 i = true := by
  unfold js_in
  simp only [Bool.and_eq_true, decide_eq_true_eq]
  exact ⟨⟨⟨rfl, by decide⟩, h0⟩, h1⟩
theorem jt_ia0_54 : js_is 0 20 54 = true := rfl
theorem jt_ln0_54 : (((js_sh 0 54).2 : Nat) : Int) = 24 := rfl
theorem jt_in0_55 {i : Int} (h0 : 0 ≤ i) (h1 : i < 24) : js_in 0 20 55 i = true := by
  unfold js_in
  simp only [Bool.and_eq_true, decide_eq_true_eq]
  exact ⟨⟨⟨rfl, by decide⟩, h0⟩, h1⟩
theorem jt_ia0_55 : js_is 0 20 55 = true := rfl
theorem jt_ln0_55 : (((js_sh 0 55).2 : Nat) : Int) = 24 := rfl
theorem jt_in0_56 {i : Int} (h0 : 0 ≤ i) (h1 : i < 144) : js_in 0 20 56 i = true := by
  unfold js_in
  simp only [Bool.and_eq_true, decide_eq_true_eq]
  exact ⟨⟨⟨rfl, by decide⟩, h0⟩, h1⟩
theorem jt_ia0_56 : js_is 0 20 56 = true := rfl
theorem jt_ln0_56 : (((js_sh 0 56).2 : Nat) : Int) = 144 := rfl
theorem jt_in0_57 {i : Int} (h0 : 0 ≤ i) (h1 : i < 144) : js_in 0 20 57 i = true := by
  unfold js_in
  simp only [Bool.and_eq_true, decide_eq_true_eq]
  exact ⟨⟨⟨rfl, by decide⟩, h0⟩, h1⟩
theorem jt_ia0_57 : js_is 0 20 57 = true := rfl
theorem jt_ln0_57 : (((js_sh 0 57).2 : Nat) : Int) = 144 := rfl
theorem jt_in0_58 {i : Int} (h0 : 0 ≤ i) (h1 : i < 144) : js_in 0 20 58 i = true := by
  unfold js_in
  simp only [Bool.and_eq_true, decide_eq_true_eq]
  exact ⟨⟨⟨rfl, by decide⟩, h0⟩, h1⟩
theorem jt_ia0_58 : js_is 0 20 58 = true := rfl
theorem jt_ln0_58 : (((js_sh 0 58).2 : Nat) : Int) = 144 := rfl
theorem jt_in0_59 {i : Int} (h0 : 0 ≤ i) (h1 : i < 144) : js_in 0 20 59 i = true := by
  unfold js_in
  simp only [Bool.and_eq_true, decide_eq_true_eq]
  exact ⟨⟨⟨rfl, by decide⟩, h0⟩, h1⟩
theorem jt_ia0_59 : js_is 0 20 59 = true := rfl
theorem jt_ln0_59 : (((js_sh 0 59).2 : Nat) : Int) = 144 := rfl
theorem jt_in0_60 {i : Int} (h0 : 0 ≤ i) (h1 : i < 144) : js_in 0 20 60 i = true := by
  unfold js_in
  simp only [Bool.and_eq_true, decide_eq_true_eq]
  exact ⟨⟨⟨rfl, by decide⟩, h0⟩, h1⟩
theorem jt_ia0_60 : js_is 0 20 60 = true := rfl
theorem jt_ln0_60 : (((js_sh 0 60).2 : Nat) : Int) = 144 := rfl
theorem jt_in0_61 {i : Int} (h0 : 0 ≤ i) (h1 : i < 40) : js_in 0 20 61 i = true := by
  unfold js_in
  simp only [Bool.and_eq_true, decide_eq_true_eq]
  exact ⟨⟨⟨rfl, by decide⟩, h0⟩, h1⟩
theorem jt_ia0_61 : js_is 0 20 61 = true := rfl
theorem jt_ln0_61 : (((js_sh 0 61).2 : Nat) : Int) = 40 := rfl
theorem jt_in0_62 {i : Int} (h0 : 0 ≤ i) (h1 : i < 40) : js_in 0 20 62 i = true := by
  unfold js_in
  simp only [Bool.and_eq_true, decide_eq_true_eq]
  exact ⟨⟨⟨rfl, by decide⟩, h0⟩, h1⟩
theorem jt_ia0_62 : js_is 0 20 62 = true := rfl
theorem jt_ln0_62 : (((js_sh 0 62).2 : Nat) : Int) = 40 := rfl
theorem jt_in0_63 {i : Int} (h0 : 0 ≤ i) (h1 : i < 40) : js_in 0 20 63 i = true := by
  unfold js_in
  simp only [Bool.and_eq_true, decide_eq_true_eq]
  exact ⟨⟨⟨rfl, by decide⟩, h0⟩, h1⟩
theorem jt_ia0_63 : js_is 0 20 63 = true := rfl
theorem jt_ln0_63 : (((js_sh 0 63).2 : Nat) : Int) = 40 := rfl
theorem jt_in0_64 {i : Int} (h0 : 0 ≤ i) (h1 : i < 2) : js_in 0 24 64 i = true := by
  unfold js_in
  simp only [Bool.and_eq_true, decide_eq_true_eq]
  exact ⟨⟨⟨rfl, by decide⟩, h0⟩, h1⟩
theorem jt_rt0_64_0 : ((js_rt 0 64 0 : Nat) : Int) = 65 := rfl
theorem jt_rt0_64_1 : ((js_rt 0 64 1 : Nat) : Int) = 76 := rfl
theorem jt_is0_65 : js_is 0 0 65 = true := rfl
theorem jt_rt0_65_0 : ((js_rt 0 65 0 : Nat) : Int) = 66 := rfl
theorem jt_rt0_65_1 : ((js_rt 0 65 1 : Nat) : Int) = 67 := rfl
theorem jt_rt0_65_2 : ((js_rt 0 65 2 : Nat) : Int) = 68 := rfl
theorem jt_rt0_65_3 : ((js_rt 0 65 3 : Nat) : Int) = 69 := rfl
theorem jt_rt0_65_4 : ((js_rt 0 65 4 : Nat) : Int) = 70 := rfl
theorem jt_rt0_65_5 : ((js_rt 0 65 5 : Nat) : Int) = 71 := rfl
theorem jt_rt0_65_6 : ((js_rt 0 65 6 : Nat) : Int) = 72 := rfl
theorem jt_rt0_65_7 : ((js_rt 0 65 7 : Nat) : Int) = 73 := rfl
theorem jt_rt0_65_8 : ((js_rt 0 65 8 : Nat) : Int) = 74 := rfl
theorem jt_rt0_65_9 : ((js_rt 0 65 9 : Nat) : Int) = 75 := rfl
theorem jt_in0_66 {i : Int} (h0 : 0 ≤ i) (h1 : i < 24) : js_in 0 20 66 i = true := by
  unfold js_in
  simp only [Bool.and_eq_true, decide_eq_true_eq]
  exact ⟨⟨⟨rfl, by decide⟩, h0⟩, h1⟩
theorem jt_ia0_66 : js_is 0 20 66 = true := rfl
theorem jt_ln0_66 : (((js_sh 0 66).2 : Nat) : Int) = 24 := rfl
theorem jt_in0_67 {i : Int} (h0 : 0 ≤ i) (h1 : i < 24) : js_in 0 20 67 i = true := by
  unfold js_in
  simp only [Bool.and_eq_true, decide_eq_true_eq]
  exact ⟨⟨⟨rfl, by decide⟩, h0⟩, h1⟩
theorem jt_ia0_67 : js_is 0 20 67 = true := rfl
theorem jt_ln0_67 : (((js_sh 0 67).2 : Nat) : Int) = 24 := rfl
theorem jt_in0_68 {i : Int} (h0 : 0 ≤ i) (h1 : i < 144) : js_in 0 20 68 i = true := by
  unfold js_in
  simp only [Bool.and_eq_true, decide_eq_true_eq]
  exact ⟨⟨⟨rfl, by decide⟩, h0⟩, h1⟩
theorem jt_ia0_68 : js_is 0 20 68 = true := rfl
theorem jt_ln0_68 : (((js_sh 0 68).2 : Nat) : Int) = 144 := rfl
theorem jt_in0_69 {i : Int} (h0 : 0 ≤ i) (h1 : i < 144) : js_in 0 20 69 i = true := by
  unfold js_in
  simp only [Bool.and_eq_true, decide_eq_true_eq]
  exact ⟨⟨⟨rfl, by decide⟩, h0⟩, h1⟩
theorem jt_ia0_69 : js_is 0 20 69 = true := rfl
theorem jt_ln0_69 : (((js_sh 0 69).2 : Nat) : Int) = 144 := rfl
theorem jt_in0_70 {i : Int} (h0 : 0 ≤ i) (h1 : i < 144) : js_in 0 20 70 i = true := by
  unfold js_in
  simp only [Bool.and_eq_true, decide_eq_true_eq]
  exact ⟨⟨⟨rfl, by decide⟩, h0⟩, h1⟩
theorem jt_ia0_70 : js_is 0 20 70 = true := rfl
theorem jt_ln0_70 : (((js_sh 0 70).2 : Nat) : Int) = 144 := rfl
theorem jt_in0_71 {i : Int} (h0 : 0 ≤ i) (h1 : i < 144) : js_in 0 20 71 i = true := by
  unfold js_in
  simp only [Bool.and_eq_true, decide_eq_true_eq]
  exact ⟨⟨⟨rfl, by decide⟩, h0⟩, h1⟩
theorem jt_ia0_71 : js_is 0 20 71 = true := rfl
theorem jt_ln0_71 : (((js_sh 0 71).2 : Nat) : Int) = 144 := rfl
theorem jt_in0_72 {i : Int} (h0 : 0 ≤ i) (h1 : i < 144) : js_in 0 20 72 i = true := by
  unfold js_in
  simp only [Bool.and_eq_true, decide_eq_true_eq]
  exact ⟨⟨⟨rfl, by decide⟩, h0⟩, h1⟩
theorem jt_ia0_72 : js_is 0 20 72 = true := rfl
theorem jt_ln0_72 : (((js_sh 0 72).2 : Nat) : Int) = 144 := rfl
theorem jt_in0_73 {i : Int} (h0 : 0 ≤ i) (h1 : i < 40) : js_in 0 20 73 i = true := by
  unfold js_in
  simp only [Bool.and_eq_true, decide_eq_true_eq]
  exact ⟨⟨⟨rfl, by decide⟩, h0⟩, h1⟩
theorem jt_ia0_73 : js_is 0 20 73 = true := rfl
theorem jt_ln0_73 : (((js_sh 0 73).2 : Nat) : Int) = 40 := rfl
theorem jt_in0_74 {i : Int} (h0 : 0 ≤ i) (h1 : i < 40) : js_in 0 20 74 i = true := by
  unfold js_in
  simp only [Bool.and_eq_true, decide_eq_true_eq]
  exact ⟨⟨⟨rfl, by decide⟩, h0⟩, h1⟩
theorem jt_ia0_74 : js_is 0 20 74 = true := rfl
theorem jt_ln0_74 : (((js_sh 0 74).2 : Nat) : Int) = 40 := rfl
theorem jt_in0_75 {i : Int} (h0 : 0 ≤ i) (h1 : i < 40) : js_in 0 20 75 i = true := by
  unfold js_in
  simp only [Bool.and_eq_true, decide_eq_true_eq]
  exact ⟨⟨⟨rfl, by decide⟩, h0⟩, h1⟩
theorem jt_ia0_75 : js_is 0 20 75 = true := rfl
theorem jt_ln0_75 : (((js_sh 0 75).2 : Nat) : Int) = 40 := rfl
theorem jt_is0_76 : js_is 0 0 76 = true := rfl
theorem jt_rt0_76_0 : ((js_rt 0 76 0 : Nat) : Int) = 77 := rfl
theorem jt_rt0_76_1 : ((js_rt 0 76 1 : Nat) : Int) = 78 := rfl
theorem jt_rt0_76_2 : ((js_rt 0 76 2 : Nat) : Int) = 79 := rfl
theorem jt_rt0_76_3 : ((js_rt 0 76 3 : Nat) : Int) = 80 := rfl
theorem jt_rt0_76_4 : ((js_rt 0 76 4 : Nat) : Int) = 81 := rfl
theorem jt_rt0_76_5 : ((js_rt 0 76 5 : Nat) : Int) = 82 := rfl
theorem jt_rt0_76_6 : ((js_rt 0 76 6 : Nat) : Int) = 83 := rfl
theorem jt_rt0_76_7 : ((js_rt 0 76 7 : Nat) : Int) = 84 := rfl
theorem jt_rt0_76_8 : ((js_rt 0 76 8 : Nat) : Int) = 85 := rfl
theorem jt_rt0_76_9 : ((js_rt 0 76 9 : Nat) : Int) = 86 := rfl
theorem jt_in0_77 {i : Int} (h0 : 0 ≤ i) (h1 : i < 24) : js_in 0 20 77 i = true := by
  unfold js_in
  simp only [Bool.and_eq_true, decide_eq_true_eq]
  exact ⟨⟨⟨rfl, by decide⟩, h0⟩, h1⟩
theorem jt_ia0_77 : js_is 0 20 77 = true := rfl
theorem jt_ln0_77 : (((js_sh 0 77).2 : Nat) : Int) = 24 := rfl
theorem jt_in0_78 {i : Int} (h0 : 0 ≤ i) (h1 : i < 24) : js_in 0 20 78 i = true := by
  unfold js_in
  simp only [Bool.and_eq_true, decide_eq_true_eq]
  exact ⟨⟨⟨rfl, by decide⟩, h0⟩, h1⟩
theorem jt_ia0_78 : js_is 0 20 78 = true := rfl
theorem jt_ln0_78 : (((js_sh 0 78).2 : Nat) : Int) = 24 := rfl
theorem jt_in0_79 {i : Int} (h0 : 0 ≤ i) (h1 : i < 144) : js_in 0 20 79 i = true := by
  unfold js_in
  simp only [Bool.and_eq_true, decide_eq_true_eq]
  exact ⟨⟨⟨rfl, by decide⟩, h0⟩, h1⟩
theorem jt_ia0_79 : js_is 0 20 79 = true := rfl
theorem jt_ln0_79 : (((js_sh 0 79).2 : Nat) : Int) = 144 := rfl
theorem jt_in0_80 {i : Int} (h0 : 0 ≤ i) (h1 : i < 144) : js_in 0 20 80 i = true := by
  unfold js_in
  simp only [Bool.and_eq_true, decide_eq_true_eq]
  exact ⟨⟨⟨rfl, by decide⟩, h0⟩, h1⟩
theorem jt_ia0_80 : js_is 0 20 80 = true := rfl
theorem jt_ln0_80 : (((js_sh 0 80).2 : Nat) : Int) = 144 := rfl
theorem jt_in0_81 {i : Int} (h0 : 0 ≤ i) (h1 : i < 144) : js_in 0 20 81 i = true := by
  unfold js_in
  simp only [Bool.and_eq_true, decide_eq_true_eq]
  exact ⟨⟨⟨rfl, by decide⟩, h0⟩, h1⟩
theorem jt_ia0_81 : js_is 0 20 81 = true := rfl
theorem jt_ln0_81 : (((js_sh 0 81).2 : Nat) : Int) = 144 := rfl
theorem jt_in0_82 {i : Int} (h0 : 0 ≤ i) (h1 : i < 144) : js_in 0 20 82 i = true := by
  unfold js_in
  simp only [Bool.and_eq_true, decide_eq_true_eq]
  exact ⟨⟨⟨rfl, by decide⟩, h0⟩, h1⟩
theorem jt_ia0_82 : js_is 0 20 82 = true := rfl
theorem jt_ln0_82 : (((js_sh 0 82).2 : Nat) : Int) = 144 := rfl
theorem jt_in0_83 {i : Int} (h0 : 0 ≤ i) (h1 : i < 144) : js_in 0 20 83 i = true := by
  unfold js_in
  simp only [Bool.and_eq_true, decide_eq_true_eq]
  exact ⟨⟨⟨rfl, by decide⟩, h0⟩, h1⟩
theorem jt_ia0_83 : js_is 0 20 83 = true := rfl
theorem jt_ln0_83 : (((js_sh 0 83).2 : Nat) : Int) = 144 := rfl
theorem jt_in0_84 {i : Int} (h0 : 0 ≤ i) (h1 : i < 40) : js_in 0 20 84 i = true := by
  unfold js_in
  simp only [Bool.and_eq_true, decide_eq_true_eq]
  exact ⟨⟨⟨rfl, by decide⟩, h0⟩, h1⟩
theorem jt_ia0_84 : js_is 0 20 84 = true := rfl
theorem jt_ln0_84 : (((js_sh 0 84).2 : Nat) : Int) = 40 := rfl
theorem jt_in0_85 {i : Int} (h0 : 0 ≤ i) (h1 : i < 40) : js_in 0 20 85 i = true := by
  unfold js_in
  simp only [Bool.and_eq_true, decide_eq_true_eq]
  exact ⟨⟨⟨rfl, by decide⟩, h0⟩, h1⟩
theorem jt_ia0_85 : js_is 0 20 85 = true := rfl
theorem jt_ln0_85 : (((js_sh 0 85).2 : Nat) : Int) = 40 := rfl
theorem jt_in0_86 {i : Int} (h0 : 0 ≤ i) (h1 : i < 40) : js_in 0 20 86 i = true := by
  unfold js_in
  simp only [Bool.and_eq_true, decide_eq_true_eq]
  exact ⟨⟨⟨rfl, by decide⟩, h0⟩, h1⟩
theorem jt_ia0_86 : js_is 0 20 86 = true := rfl
theorem jt_ln0_86 : (((js_sh 0 86).2 : Nat) : Int) = 40 := rfl
theorem jt_is0_87 : js_is 0 9 87 = true := rfl
theorem jt_rt0_87_0 : ((js_rt 0 87 0 : Nat) : Int) = 31 := rfl
theorem jt_rt0_87_1 : ((js_rt 0 87 1 : Nat) : Int) = 88 := rfl
theorem jt_in0_88 {i : Int} (h0 : 0 ≤ i) (h1 : i < 144) : js_in 0 20 88 i = true := by
  unfold js_in
  simp only [Bool.and_eq_true, decide_eq_true_eq]
  exact ⟨⟨⟨rfl, by decide⟩, h0⟩, h1⟩
theorem jt_ia0_88 : js_is 0 20 88 = true := rfl
theorem jt_ln0_88 : (((js_sh 0 88).2 : Nat) : Int) = 144 := rfl
theorem jt_is0_89 : js_is 0 1 89 = true := rfl
theorem jt_rt0_89_1 : ((js_rt 0 89 1 : Nat) : Int) = 90 := rfl
theorem jt_rt0_89_2 : ((js_rt 0 89 2 : Nat) : Int) = 91 := rfl
theorem jt_in0_90 {i : Int} (h0 : 0 ≤ i) (h1 : i < 24) : js_in 0 20 90 i = true := by
  unfold js_in
  simp only [Bool.and_eq_true, decide_eq_true_eq]
  exact ⟨⟨⟨rfl, by decide⟩, h0⟩, h1⟩
theorem jt_ia0_90 : js_is 0 20 90 = true := rfl
theorem jt_ln0_90 : (((js_sh 0 90).2 : Nat) : Int) = 24 := rfl
theorem jt_in0_91 {i : Int} (h0 : 0 ≤ i) (h1 : i < 24) : js_in 0 20 91 i = true := by
  unfold js_in
  simp only [Bool.and_eq_true, decide_eq_true_eq]
  exact ⟨⟨⟨rfl, by decide⟩, h0⟩, h1⟩
theorem jt_ia0_91 : js_is 0 20 91 = true := rfl
theorem jt_ln0_91 : (((js_sh 0 91).2 : Nat) : Int) = 24 := rfl
theorem jt_is0_92 : js_is 0 4 92 = true := rfl
theorem jt_rt0_92_0 : ((js_rt 0 92 0 : Nat) : Int) = 3 := rfl
theorem jt_rt0_92_1 : ((js_rt 0 92 1 : Nat) : Int) = 93 := rfl
theorem jt_rt0_92_2 : ((js_rt 0 92 2 : Nat) : Int) = 94 := rfl
theorem jt_rt0_92_3 : ((js_rt 0 92 3 : Nat) : Int) = 95 := rfl
theorem jt_rt0_92_4 : ((js_rt 0 92 4 : Nat) : Int) = 96 := rfl
theorem jt_in0_93 {i : Int} (h0 : 0 ≤ i) (h1 : i < 100) : js_in 0 20 93 i = true := by
  unfold js_in
  simp only [Bool.and_eq_true, decide_eq_true_eq]
  exact ⟨⟨⟨rfl, by decide⟩, h0⟩, h1⟩
theorem jt_ia0_93 : js_is 0 20 93 = true := rfl
theorem jt_ln0_93 : (((js_sh 0 93).2 : Nat) : Int) = 100 := rfl
theorem jt_in0_94 {i : Int} (h0 : 0 ≤ i) (h1 : i < 1024) : js_in 0 21 94 i = true := by
  unfold js_in
  simp only [Bool.and_eq_true, decide_eq_true_eq]
  exact ⟨⟨⟨rfl, by decide⟩, h0⟩, h1⟩
theorem jt_ia0_94 : js_is 0 21 94 = true := rfl
theorem jt_ln0_94 : (((js_sh 0 94).2 : Nat) : Int) = 1024 := rfl
theorem jt_in0_95 {i : Int} (h0 : 0 ≤ i) (h1 : i < 512) : js_in 0 20 95 i = true := by
  unfold js_in
  simp only [Bool.and_eq_true, decide_eq_true_eq]
  exact ⟨⟨⟨rfl, by decide⟩, h0⟩, h1⟩
theorem jt_ia0_95 : js_is 0 20 95 = true := rfl
theorem jt_ln0_95 : (((js_sh 0 95).2 : Nat) : Int) = 512 := rfl
theorem jt_in0_96 {i : Int} (h0 : 0 ≤ i) (h1 : i < 512) : js_in 0 21 96 i = true := by
  unfold js_in
  simp only [Bool.and_eq_true, decide_eq_true_eq]
  exact ⟨⟨⟨rfl, by decide⟩, h0⟩, h1⟩
theorem jt_ia0_96 : js_is 0 21 96 = true := rfl
theorem jt_ln0_96 : (((js_sh 0 96).2 : Nat) : Int) = 512 := rfl
theorem jt_is0_97 : js_is 0 2 97 = true := rfl
theorem jt_rt0_97_0 : ((js_rt 0 97 0 : Nat) : Int) = 98 := rfl
theorem jt_rt0_97_1 : ((js_rt 0 97 1 : Nat) : Int) = 99 := rfl
theorem jt_rt0_97_2 : ((js_rt 0 97 2 : Nat) : Int) = 100 := rfl
theorem jt_in0_98 {i : Int} (h0 : 0 ≤ i) (h1 : i < 144) : js_in 0 20 98 i = true := by
  unfold js_in
  simp only [Bool.and_eq_true, decide_eq_true_eq]
  exact ⟨⟨⟨rfl, by decide⟩, h0⟩, h1⟩
theorem jt_ia0_98 : js_is 0 20 98 = true := rfl
theorem jt_ln0_98 : (((js_sh 0 98).2 : Nat) : Int) = 144 := rfl
theorem jt_in0_99 {i : Int} (h0 : 0 ≤ i) (h1 : i < 144) : js_in 0 20 99 i = true := by
  unfold js_in
  simp only [Bool.and_eq_true, decide_eq_true_eq]
  exact ⟨⟨⟨rfl, by decide⟩, h0⟩, h1⟩
theorem jt_ia0_99 : js_is 0 20 99 = true := rfl
theorem jt_ln0_99 : (((js_sh 0 99).2 : Nat) : Int) = 144 := rfl
theorem jt_in0_100 {i : Int} (h0 : 0 ≤ i) (h1 : i < 12) : js_in 0 20 100 i = true := by
  unfold js_in
  simp only [Bool.and_eq_true, decide_eq_true_eq]
  exact ⟨⟨⟨rfl, by decide⟩, h0⟩, h1⟩
theorem jt_ia0_100 : js_is 0 20 100 = true := rfl
theorem jt_ln0_100 : (((js_sh 0 100).2 : Nat) : Int) = 12 := rfl
theorem jt_is1_0 : js_is 1 11 0 = true := rfl
theorem jt_rt1_0_0 : ((js_rt 1 0 0 : Nat) : Int) = 1 := rfl
theorem jt_rt1_0_1 : ((js_rt 1 0 1 : Nat) : Int) = 2 := rfl
theorem jt_rt1_0_4 : ((js_rt 1 0 4 : Nat) : Int) = 3 := rfl
theorem jt_rt1_0_5 : ((js_rt 1 0 5 : Nat) : Int) = 4 := rfl
theorem jt_rt1_0_6 : ((js_rt 1 0 6 : Nat) : Int) = 5 := rfl
theorem jt_rt1_0_7 : ((js_rt 1 0 7 : Nat) : Int) = 6 := rfl
theorem jt_rt1_0_8 : ((js_rt 1 0 8 : Nat) : Int) = 7 := rfl
theorem jt_rt1_0_9 : ((js_rt 1 0 9 : Nat) : Int) = 8 := rfl
theorem jt_rt1_0_10 : ((js_rt 1 0 10 : Nat) : Int) = 9 := rfl
theorem jt_rt1_0_11 : ((js_rt 1 0 11 : Nat) : Int) = 10 := rfl
theorem jt_rt1_0_12 : ((js_rt 1 0 12 : Nat) : Int) = 11 := rfl
theorem jt_rt1_0_13 : ((js_rt 1 0 13 : Nat) : Int) = 12 := rfl
theorem jt_rt1_0_14 : ((js_rt 1 0 14 : Nat) : Int) = 13 := rfl
theorem jt_rt1_0_15 : ((js_rt 1 0 15 : Nat) : Int) = 14 := rfl
theorem jt_rt1_0_16 : ((js_rt 1 0 16 : Nat) : Int) = 15 := rfl
theorem jt_rt1_0_17 : ((js_rt 1 0 17 : Nat) : Int) = 16 := rfl
theorem jt_rt1_0_18 : ((js_rt 1 0 18 : Nat) : Int) = 17 := rfl
theorem jt_rt1_0_25 : ((js_rt 1 0 25 : Nat) : Int) = 18 := rfl
theorem jt_rt1_0_27 : ((js_rt 1 0 27 : Nat) : Int) = 19 := rfl
theorem jt_rt1_0_29 : ((js_rt 1 0 29 : Nat) : Int) = 20 := rfl
theorem jt_rt1_0_30 : ((js_rt 1 0 30 : Nat) : Int) = 21 := rfl
theorem jt_rt1_0_31 : ((js_rt 1 0 31 : Nat) : Int) = 22 := rfl
theorem jt_rt1_0_32 : ((js_rt 1 0 32 : Nat) : Int) = 23 := rfl
theorem jt_rt1_0_33 : ((js_rt 1 0 33 : Nat) : Int) = 24 := rfl
theorem jt_rt1_0_34 : ((js_rt 1 0 34 : Nat) : Int) = 25 := rfl
theorem jt_rt1_0_35 : ((js_rt 1 0 35 : Nat) : Int) = 26 := rfl
theorem jt_rt1_0_37 : ((js_rt 1 0 37 : Nat) : Int) = 27 := rfl
theorem jt_in1_1 {i : Int} (h0 : 0 ≤ i) (h1 : i < 4000) : js_in 1 20 1 i = true := by
  unfold js_in
  simp only [Bool.and_eq_true, decide_eq_true_eq]
  exact ⟨⟨⟨rfl, by decide⟩, h0⟩, h1⟩
theorem jt_ia1_1 : js_is 1 20 1 = true := rfl
theorem jt_ln1_1 : (((js_sh 1 1).2 : Nat) : Int) = 4000 := rfl
theorem jt_in1_2 {i : Int} (h0 : 0 ≤ i) (h1 : i < 2) : js_in 1 23 2 i = true := by
  unfold js_in
  simp only [Bool.and_eq_true, decide_eq_true_eq]
  exact ⟨⟨⟨rfl, by decide⟩, h0⟩, h1⟩
theorem jt_ia1_2 : js_is 1 23 2 = true := rfl
theorem jt_ln1_2 : (((js_sh 1 2).2 : Nat) : Int) = 2 := rfl
theorem jt_in1_3 {i : Int} (h0 : 0 ≤ i) (h1 : i < 48) : js_in 1 20 3 i = true := by
  unfold js_in
  simp only [Bool.and_eq_true, decide_eq_true_eq]
  exact ⟨⟨⟨rfl, by decide⟩, h0⟩, h1⟩
theorem jt_ia1_3 : js_is 1 20 3 = true := rfl
theorem jt_ln1_3 : (((js_sh 1 3).2 : Nat) : Int) = 48 := rfl
theorem jt_in1_4 {i : Int} (h0 : 0 ≤ i) (h1 : i < 48) : js_in 1 23 4 i = true := by
  unfold js_in
  simp only [Bool.and_eq_true, decide_eq_true_eq]
  exact ⟨⟨⟨rfl, by decide⟩, h0⟩, h1⟩
theorem jt_ia1_4 : js_is 1 23 4 = true := rfl
theorem jt_ln1_4 : (((js_sh 1 4).2 : Nat) : Int) = 48 := rfl
theorem jt_in1_5 {i : Int} (h0 : 0 ≤ i) (h1 : i < 48) : js_in 1 20 5 i = true := by
  unfold js_in
  simp only [Bool.and_eq_true, decide_eq_true_eq]
  exact ⟨⟨⟨rfl, by decide⟩, h0⟩, h1⟩
theorem jt_ia1_5 : js_is 1 20 5 = true := rfl
theorem jt_ln1_5 : (((js_sh 1 5).2 : Nat) : Int) = 48 := rfl
theorem jt_in1_6 {i : Int} (h0 : 0 ≤ i) (h1 : i < 2) : js_in 1 20 6 i = true := by
  unfold js_in
  simp only [Bool.and_eq_true, decide_eq_true_eq]
  exact ⟨⟨⟨rfl, by decide⟩, h0⟩, h1⟩
theorem jt_ia1_6 : js_is 1 20 6 = true := rfl
theorem jt_ln1_6 : (((js_sh 1 6).2 : Nat) : Int) = 2 := rfl
theorem jt_in1_7 {i : Int} (h0 : 0 ≤ i) (h1 : i < 120) : js_in 1 20 7 i = true := by
  unfold js_in
  simp only [Bool.and_eq_true, decide_eq_true_eq]
  exact ⟨⟨⟨rfl, by decide⟩, h0⟩, h1⟩
theorem jt_ia1_7 : js_is 1 20 7 = true := rfl
theorem jt_ln1_7 : (((js_sh 1 7).2 : Nat) : Int) = 120 := rfl
theorem jt_in1_8 {i : Int} (h0 : 0 ≤ i) (h1 : i < 120) : js_in 1 20 8 i = true := by
  unfold js_in
  simp only [Bool.and_eq_true, decide_eq_true_eq]
  exact ⟨⟨⟨rfl, by decide⟩, h0⟩, h1⟩
theorem jt_ia1_8 : js_is 1 20 8 = true := rfl
theorem jt_ln1_8 : (((js_sh 1 8).2 : Nat) : Int) = 120 := rfl
theorem jt_in1_9 {i : Int} (h0 : 0 ≤ i) (h1 : i < 120) : js_in 1 20 9 i = true := by
  unfold js_in
  simp only [Bool.and_eq_true, decide_eq_true_eq]
  exact ⟨⟨⟨rfl, by decide⟩, h0⟩, h1⟩
theorem jt_ia1_9 : js_is 1 20 9 = true := rfl
theorem jt_ln1_9 : (((js_sh 1 9).2 : Nat) : Int) = 120 := rfl
theorem jt_in1_10 {i : Int} (h0 : 0 ≤ i) (h1 : i < 2) : js_in 1 20 10 i = true := by
  unfold js_in
  simp only [Bool.and_eq_true, decide_eq_true_eq]
  exact ⟨⟨⟨rfl, by decide⟩, h0⟩, h1⟩
theorem jt_ia1_10 : js_is 1 20 10 = true := rfl
theorem jt_ln1_10 : (((js_sh 1 10).2 : Nat) : Int) = 2 := rfl
theorem jt_in1_11 {i : Int} (h0 : 0 ≤ i) (h1 : i < 12) : js_in 1 20 11 i = true := by
  unfold js_in
  simp only [Bool.and_eq_true, decide_eq_true_eq]
  exact ⟨⟨⟨rfl, by decide⟩, h0⟩, h1⟩
theorem jt_ia1_11 : js_is 1 20 11 = true := rfl
theorem jt_ln1_11 : (((js_sh 1 11).2 : Nat) : Int) = 12 := rfl
theorem jt_in1_12 {i : Int} (h0 : 0 ≤ i) (h1 : i < 12) : js_in 1 20 12 i = true := by
  unfold js_in
  simp only [Bool.and_eq_true, decide_eq_true_eq]
  exact ⟨⟨⟨rfl, by decide⟩, h0⟩, h1⟩
theorem jt_ia1_12 : js_is 1 20 12 = true := rfl
theorem jt_ln1_12 : (((js_sh 1 12).2 : Nat) : Int) = 12 := rfl
theorem jt_in1_13 {i : Int} (h0 : 0 ≤ i) (h1 : i < 12) : js_in 1 20 13 i = true := by
  unfold js_in
  simp only [Bool.and_eq_true, decide_eq_true_eq]
  exact ⟨⟨⟨rfl, by decide⟩, h0⟩, h1⟩
theorem jt_ia1_13 : js_is 1 20 13 = true := rfl
theorem jt_ln1_13 : (((js_sh 1 13).2 : Nat) : Int) = 12 := rfl
theorem jt_in1_14 {i : Int} (h0 : 0 ≤ i) (h1 : i < 12) : js_in 1 20 14 i = true := by
  unfold js_in
  simp only [Bool.and_eq_true, decide_eq_true_eq]
  exact ⟨⟨⟨rfl, by decide⟩, h0⟩, h1⟩
theorem jt_ia1_14 : js_is 1 20 14 = true := rfl
theorem jt_ln1_14 : (((js_sh 1 14).2 : Nat) : Int) = 12 := rfl
theorem jt_in1_15 {i : Int} (h0 : 0 ≤ i) (h1 : i < 12) : js_in 1 20 15 i = true := by
  unfold js_in
  simp only [Bool.and_eq_true, decide_eq_true_eq]
  exact ⟨⟨⟨rfl, by decide⟩, h0⟩, h1⟩
theorem jt_ia1_15 : js_is 1 20 15 = true := rfl
theorem jt_ln1_15 : (((js_sh 1 15).2 : Nat) : Int) = 12 := rfl
theorem jt_in1_16 {i : Int} (h0 : 0 ≤ i) (h1 : i < 2) : js_in 1 20 16 i = true := by
  unfold js_in
  simp only [Bool.and_eq_true, decide_eq_true_eq]
  exact ⟨⟨⟨rfl, by decide⟩, h0⟩, h1⟩
theorem jt_ia1_16 : js_is 1 20 16 = true := rfl
theorem jt_ln1_16 : (((js_sh 1 16).2 : Nat) : Int) = 2 := rfl
theorem jt_in1_17 {i : Int} (h0 : 0 ≤ i) (h1 : i < 600) : js_in 1 20 17 i = true := by
  unfold js_in
  simp only [Bool.and_eq_true, decide_eq_true_eq]
  exact ⟨⟨⟨rfl, by decide⟩, h0⟩, h1⟩
theorem jt_ia1_17 : js_is 1 20 17 = true := rfl
theorem jt_ln1_17 : (((js_sh 1 17).2 : Nat) : Int) = 600 := rfl
theorem jt_in1_18 {i : Int} (h0 : 0 ≤ i) (h1 : i < 150) : js_in 1 20 18 i = true := by
  unfold js_in
  simp only [Bool.and_eq_true, decide_eq_true_eq]
  exact ⟨⟨⟨rfl, by decide⟩, h0⟩, h1⟩
theorem jt_ia1_18 : js_is 1 20 18 = true := rfl
theorem jt_ln1_18 : (((js_sh 1 18).2 : Nat) : Int) = 150 := rfl
theorem jt_in1_19 {i : Int} (h0 : 0 ≤ i) (h1 : i < 26) : js_in 1 20 19 i = true := by
  unfold js_in
  simp only [Bool.and_eq_true, decide_eq_true_eq]
  exact ⟨⟨⟨rfl, by decide⟩, h0⟩, h1⟩
theorem jt_ia1_19 : js_is 1 20 19 = true := rfl
theorem jt_ln1_19 : (((js_sh 1 19).2 : Nat) : Int) = 26 := rfl
theorem jt_in1_20 {i : Int} (h0 : 0 ≤ i) (h1 : i < 24) : js_in 1 20 20 i = true := by
  unfold js_in
  simp only [Bool.and_eq_true, decide_eq_true_eq]
  exact ⟨⟨⟨rfl, by decide⟩, h0⟩, h1⟩
theorem jt_ia1_20 : js_is 1 20 20 = true := rfl
theorem jt_ln1_20 : (((js_sh 1 20).2 : Nat) : Int) = 24 := rfl
theorem jt_in1_21 {i : Int} (h0 : 0 ≤ i) (h1 : i < 24) : js_in 1 20 21 i = true := by
  unfold js_in
  simp only [Bool.and_eq_true, decide_eq_true_eq]
  exact ⟨⟨⟨rfl, by decide⟩, h0⟩, h1⟩
theorem jt_ia1_21 : js_is 1 20 21 = true := rfl
theorem jt_ln1_21 : (((js_sh 1 21).2 : Nat) : Int) = 24 := rfl
theorem jt_in1_22 {i : Int} (h0 : 0 ≤ i) (h1 : i < 1024) : js_in 1 20 22 i = true := by
  unfold js_in
  simp only [Bool.and_eq_true, decide_eq_true_eq]
  exact ⟨⟨⟨rfl, by decide⟩, h0⟩, h1⟩
theorem jt_ia1_22 : js_is 1 20 22 = true := rfl
theorem jt_ln1_22 : (((js_sh 1 22).2 : Nat) : Int) = 1024 := rfl
theorem jt_in1_23 {i : Int} (h0 : 0 ≤ i) (h1 : i < 1024) : js_in 1 20 23 i = true := by
  unfold js_in
  simp only [Bool.and_eq_true, decide_eq_true_eq]
  exact ⟨⟨⟨rfl, by decide⟩, h0⟩, h1⟩
theorem jt_ia1_23 : js_is 1 20 23 = true := rfl
theorem jt_ln1_23 : (((js_sh 1 23).2 : Nat) : Int) = 1024 := rfl
theorem jt_in1_24 {i : Int} (h0 : 0 ≤ i) (h1 : i < 1024) : js_in 1 20 24 i = true := by
  unfold js_in
  simp only [Bool.and_eq_true, decide_eq_true_eq]
  exact ⟨⟨⟨rfl, by decide⟩, h0⟩, h1⟩
theorem jt_ia1_24 : js_is 1 20 24 = true := rfl
theorem jt_ln1_24 : (((js_sh 1 24).2 : Nat) : Int) = 1024 := rfl
theorem jt_in1_25 {i : Int} (h0 : 0 ≤ i) (h1 : i < 144) : js_in 1 20 25 i = true := by
  unfold js_in
  simp only [Bool.and_eq_true, decide_eq_true_eq]
  exact ⟨⟨⟨rfl, by decide⟩, h0⟩, h1⟩
theorem jt_ia1_25 : js_is 1 20 25 = true := rfl
theorem jt_ln1_25 : (((js_sh 1 25).2 : Nat) : Int) = 144 := rfl
theorem jt_in1_26 {i : Int} (h0 : 0 ≤ i) (h1 : i < 144) : js_in 1 20 26 i = true := by
  unfold js_in
  simp only [Bool.and_eq_true, decide_eq_true_eq]
  exact ⟨⟨⟨rfl, by decide⟩, h0⟩, h1⟩
theorem jt_ia1_26 : js_is 1 20 26 = true := rfl
theorem jt_ln1_26 : (((js_sh 1 26).2 : Nat) : Int) = 144 := rfl
theorem jt_in1_27 {i : Int} (h0 : 0 ≤ i) (h1 : i < 12) : js_in 1 20 27 i = true := by
  unfold js_in
  simp only [Bool.and_eq_true, decide_eq_true_eq]
  exact ⟨⟨⟨rfl, by decide⟩, h0⟩, h1⟩
theorem jt_ia1_27 : js_is 1 20 27 = true := rfl
theorem jt_ln1_27 : (((js_sh 1 27).2 : Nat) : Int) = 12 := rfl
theorem jt_ft0_10 : js_ft 0 10 = 1 := rfl
theorem jt_ft0_11 : js_ft 0 11 = 1 := rfl
theorem jt_ft0_12 : js_ft 0 12 = 1 := rfl
theorem jt_ft0_13 : js_ft 0 13 = 2 := rfl
theorem jt_ft0_14 : js_ft 0 14 = 5 := rfl
theorem jt_ft1_0 : js_ft 1 0 = 1 := rfl
theorem jt_ft2_3 : js_ft 2 3 = 1 := rfl
theorem jt_ft2_4 : js_ft 2 4 = 1 := rfl
theorem jt_ft2_5 : js_ft 2 5 = 1 := rfl
theorem jt_ft2_6 : js_ft 2 6 = 1 := rfl
theorem jt_ft3_0 : js_ft 3 0 = 1 := rfl
theorem jt_ft4_5 : js_ft 4 5 = 1 := rfl
theorem jt_ft4_6 : js_ft 4 6 = 5 := rfl
theorem jt_ft5_0 : js_ft 5 0 = 1 := rfl
theorem jt_ft5_1 : js_ft 5 1 = 1 := rfl
theorem jt_ft7_1 : js_ft 7 1 = 1 := rfl
theorem jt_ft7_2 : js_ft 7 2 = 1 := rfl
theorem jt_ft7_3 : js_ft 7 3 = 1 := rfl
theorem jt_ft7_4 : js_ft 7 4 = 1 := rfl
theorem jt_ft7_5 : js_ft 7 5 = 1 := rfl
theorem jt_ft7_6 : js_ft 7 6 = 1 := rfl
theorem jt_ft7_7 : js_ft 7 7 = 1 := rfl
theorem jt_ft8_0 : js_ft 8 0 = 1 := rfl
theorem jt_ft8_1 : js_ft 8 1 = 1 := rfl
theorem jt_ft8_2 : js_ft 8 2 = 1 := rfl
theorem jt_ft9_2 : js_ft 9 2 = 1 := rfl
theorem jt_ft10_15 : js_ft 10 15 = 1 := rfl
theorem jt_ft11_2 : js_ft 11 2 = 1 := rfl
theorem jt_ft11_3 : js_ft 11 3 = 1 := rfl
theorem jt_ft11_19 : js_ft 11 19 = 1 := rfl
theorem jt_ft11_20 : js_ft 11 20 = 1 := rfl
theorem jt_ft11_21 : js_ft 11 21 = 1 := rfl
theorem jt_ft11_22 : js_ft 11 22 = 1 := rfl
theorem jt_ft11_23 : js_ft 11 23 = 1 := rfl
theorem jt_ft11_24 : js_ft 11 24 = 1 := rfl
theorem jt_ft11_26 : js_ft 11 26 = 1 := rfl
theorem jt_ft11_28 : js_ft 11 28 = 1 := rfl
theorem jt_ft11_36 : js_ft 11 36 = 1 := rfl
theorem jt_ft11_38 : js_ft 11 38 = 1 := rfl
theorem jt_ft11_39 : js_ft 11 39 = 1 := rfl
theorem jt_ft11_40 : js_ft 11 40 = 1 := rfl
end
