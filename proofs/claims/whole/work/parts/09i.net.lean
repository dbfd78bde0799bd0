/-! nets: of an account, and as known on a day -/
theorem standing {s : Nat → Int32} {q : Nat → Nat} {b : Nat} (hV : IVb s q) (hb : b < 60) (h : s (192 + 12 * b) = 1) (h1 : s (192 + 12 * b + 8) = 1) : ∃ sl by_ x y : Nat, s (192 + 12 * b + 1) = nI sl ∧ s (192 + 12 * b + 2) = nI by_ ∧ sl ≠ by_ ∧ sl < 12 ∧ by_ < 12 ∧ s (192 + 12 * b + 9) = nI x ∧ s (192 + 12 * b + 10) = nI y ∧ x ≤ q 0 ∧ y ≤ q 0 := by
  sorry
