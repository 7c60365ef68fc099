/-! the small helpers on masks below 256, by all cases -/
theorem has_m : ∀ m, m < 256 → ∀ i, i < 100 → f_X7_has (nI m) (nI i) = some (nI (if m.testBit i then 1 else 0)) := by
  have h1 : ∀ m, m < 256 → ∀ i, i < 32 → f_X7_has (nI m) (nI i) = some (nI (if m.testBit i then 1 else 0)) := by decide +kernel
  intro m hm i hi
  by_cases h : i < 32
  · exact h1 m hm i h
  · rw [tb256 hm (by omega)]
    rw [f_X7_has, if_neg (neg_lt (by omega)), if_pos (by rw [k32, nI_leN (by omega) (by omega)]; omega)]
    rfl
theorem bc_m : ∀ m, m < 256 → f_J6_bitCount_0f7a4 (nI m) = some (nI (cnt m)) := by decide +kernel
theorem bitAt_m : ∀ m, m < 256 → ∀ k, k < 10 → f_X7_bitAt (nI m) (nI k) = some (oI (els m)[k]?) := by decide +kernel
theorem onlyOne_m : ∀ m, m < 256 → f_X7_onlyOne (nI m) = some (oI (onlyOf m)) := by decide +kernel
theorem bits_m : ∀ m, m < 256 → f_X8_bits (nI m) = some (nI (cnt m)) := by decide +kernel
theorem mhas_m : ∀ m, m < 256 → ∀ i, i < 32 → f_X8_has (nI m) (nI i) = some (nI (if m.testBit i then 1 else 0)) := by decide +kernel
theorem lowest_m : ∀ m, m < 256 → 0 < m → f_X8_lowest (nI m) = some (oI (els m)[0]?) := by decide +kernel
theorem takenOf_m : ∀ m, m < 256 → ∀ k, k < 10 → f_X6_takenOf (nI m) (nI k) = some (oI (els m)[k % cnt m]?) := by decide +kernel
