/-- the row after i cells are copied upward / downward -/
def cpU (I : xTI) (a b i : Nat) : xTI := fun k j => if k = 86 ∧ b ≤ j ∧ j < b + i then I 86 (a + (j - b)) else I k j
def cpD (I : xTI) (a b c i : Nat) : xTI := fun k j => if k = 86 ∧ b + (c - i) ≤ j ∧ j < b + c then I 86 (a + (j - b)) else I k j
theorem cpU_s {I : xTI} {a b i : Nat} (h : b ≤ a) : xup (cpU I a b i) 86 (b + i) (cpU I a b i 86 (a + i)) = cpU I a b (i + 1) := by
  funext k j
  unfold xup cpU
  have e : (if 86 = 86 ∧ b ≤ a + i ∧ a + i < b + i then I 86 (a + (a + i - b)) else I 86 (a + i)) = I 86 (a + i) := if_neg (by omega)
  rw [e]
  by_cases hk : k = 86
  · subst hk
    by_cases hj : j = b + i
    · subst hj
      rw [if_pos ⟨rfl, rfl⟩, if_pos ⟨rfl, by omega, by omega⟩, show b + i - b = i by omega]
    · rw [if_neg (fun z => hj z.2)]
      by_cases g : b ≤ j ∧ j < b + i
      · rw [if_pos ⟨rfl, g⟩, if_pos ⟨rfl, by omega, by omega⟩]
      · rw [if_neg (fun z => g z.2), if_neg (fun z => g ⟨z.2.1, by omega⟩)]
  · rw [if_neg (fun z => hk z.1), if_neg (fun z => hk z.1), if_neg (fun z => hk z.1)]
theorem cpD_s {I : xTI} {a b c i : Nat} (h : a < b) (hi : i < c) : xup (cpD I a b c i) 86 (b + (c - 1 - i)) (cpD I a b c i 86 (a + (c - 1 - i))) = cpD I a b c (i + 1) := by
  funext k j
  unfold xup cpD
  have e : (if 86 = 86 ∧ b + (c - i) ≤ a + (c - 1 - i) ∧ a + (c - 1 - i) < b + c then I 86 (a + (a + (c - 1 - i) - b)) else I 86 (a + (c - 1 - i))) = I 86 (a + (c - 1 - i)) := if_neg (by omega)
  rw [e]
  by_cases hk : k = 86
  · subst hk
    by_cases hj : j = b + (c - 1 - i)
    · subst hj
      rw [if_pos ⟨rfl, rfl⟩, if_pos ⟨rfl, by omega, by omega⟩, show b + (c - 1 - i) - b = c - 1 - i by omega]
    · rw [if_neg (fun z => hj z.2)]
      by_cases g : b + (c - i) ≤ j ∧ j < b + c
      · rw [if_pos ⟨rfl, g⟩, if_pos ⟨rfl, by omega, by omega⟩]
      · rw [if_neg (fun z => g z.2), if_neg (fun z => g ⟨by omega, z.2.2⟩)]
  · rw [if_neg (fun z => hk z.1), if_neg (fun z => hk z.1), if_neg (fun z => hk z.1)]
