theorem chkW_all : ∀ n, n < 19 → chkW n = true := by decide +kernel
theorem chkS_lo : ∀ r, r < 4 → ∀ n, n < 14 → chkS (19 * r + n) = true := by decide +kernel
theorem chkS_0_14 : chkS 14 = true := by decide +kernel
theorem chkS_0_15 : chkS 15 = true := by decide +kernel
theorem chkS_0_16 : chkS 16 = true := by decide +kernel
theorem chkS_0_17 : chkS 17 = true := by decide +kernel
theorem chkS_0_18 : chkS 18 = true := by decide +kernel
theorem chkS_1_14 : chkS 33 = true := by decide +kernel
theorem chkS_1_15 : chkS 34 = true := by decide +kernel
theorem chkS_1_16 : chkS 35 = true := by decide +kernel
theorem chkS_1_17 : chkS 36 = true := by decide +kernel
theorem chkS_1_18 : chkS 37 = true := by decide +kernel
theorem chkS_2_14 : chkS 52 = true := by decide +kernel
theorem chkS_2_15 : chkS 53 = true := by decide +kernel
theorem chkS_2_16 : chkS 54 = true := by decide +kernel
theorem chkS_2_17 : chkS 55 = true := by decide +kernel
theorem chkS_2_18 : chkS 56 = true := by decide +kernel
theorem chkS_3_14 : chkS 71 = true := by decide +kernel
theorem chkS_3_15 : chkS 72 = true := by decide +kernel
theorem chkS_3_16 : chkS 73 = true := by decide +kernel
theorem chkS_3_17 : chkS 74 = true := by decide +kernel
theorem chkS_3_18 : chkS 75 = true := by decide +kernel
theorem chkS_all : ∀ s, s < 76 → chkS s = true := by
  intro s hs
  have e : s = 19 * (s / 19) + s % 19 := (Nat.div_add_mod s 19).symm
  have h1 : s / 19 < 4 := by omega
  have h2 : s % 19 < 19 := by omega
  by_cases c : s % 19 < 14
  · rw [e]; exact chkS_lo _ h1 _ c
  · rcases (show s = 14 ∨ s = 15 ∨ s = 16 ∨ s = 17 ∨ s = 18 ∨ s = 33 ∨ s = 34 ∨ s = 35 ∨ s = 36 ∨ s = 37 ∨ s = 52 ∨ s = 53 ∨ s = 54 ∨ s = 55 ∨ s = 56 ∨ s = 71 ∨ s = 72 ∨ s = 73 ∨ s = 74 ∨ s = 75 by omega) with rfl | rfl | rfl | rfl | rfl | rfl | rfl | rfl | rfl | rfl | rfl | rfl | rfl | rfl | rfl | rfl | rfl | rfl | rfl | rfl
    · exact chkS_0_14
    · exact chkS_0_15
    · exact chkS_0_16
    · exact chkS_0_17
    · exact chkS_0_18
    · exact chkS_1_14
    · exact chkS_1_15
    · exact chkS_1_16
    · exact chkS_1_17
    · exact chkS_1_18
    · exact chkS_2_14
    · exact chkS_2_15
    · exact chkS_2_16
    · exact chkS_2_17
    · exact chkS_2_18
    · exact chkS_3_14
    · exact chkS_3_15
    · exact chkS_3_16
    · exact chkS_3_17
    · exact chkS_3_18
