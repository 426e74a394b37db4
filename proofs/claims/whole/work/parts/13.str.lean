section
theorem me_J0_length_8abf5 : js_Me yJ0_length_8abf5 k_J0_length_8abf5 (some .int) [4] js_slF := sorry
theorem me_J0_charAt_5068e : js_Me yJ0_charAt_5068e k_J0_charAt_5068e (some .char) [4, 1] js_scF := sorry
end
