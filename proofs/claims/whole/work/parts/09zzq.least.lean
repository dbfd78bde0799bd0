/-! least: sets of men as bits -/
theorem bA : ∀ t, t < 1024 → ∀ i, i < 10 → (((nI t >>> (nI i &&& 31)) &&& 1 = 0) ↔ t.testBit i = false) := by decide +kernel
theorem bE : ∀ t, t < 1024 → ∀ i, i < 10 → (((nI t >>> (nI i &&& 31)) &&& 1 = 1) ↔ t.testBit i = true) := by decide +kernel
theorem bX : ∀ t, t < 1024 → ∀ i, i < 10 → nI t ^^^ (1 <<< (nI i &&& 31)) = nI (t ^^^ 2 ^ i) := by decide +kernel
theorem bC : ∀ t, t < 1024 → ∀ i, i < 10 → t.testBit i = true → nI t &&& ((1 <<< (nI i &&& 31)) ^^^ (-1)) = nI (t ^^^ 2 ^ i) := by decide +kernel
theorem bS : ∀ t, t < 1024 → ∀ i, i < 10 → t.testBit i = true → t ^^^ 2 ^ i < t := by decide +kernel
theorem b2f : ∀ f, f < 11 → (1 : Int32) <<< (nI f &&& 31) = nI (2 ^ f) := by decide +kernel
theorem bL : ∀ t, t < 1024 → ∀ i, i < 10 → t.testBit i = true → t % 2 ^ i = 0 → nI t &&& (nI t - 1) = nI (t ^^^ 2 ^ i) := by decide +kernel
