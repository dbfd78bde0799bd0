/-- of whom a rule is asked: a stock, or a bargain -/
def isWhoP (s : Nat → Int32) (q : Nat → Nat) (x : Int32) (kk : Nat) (bo : Option Nat) : Prop := (∃ j, j < q 2 ∧ x = nI j ∧ kk = j ∧ bo = none) ∨ (∃ b, b < 60 ∧ x = nI (100 + b) ∧ s (192 + 12 * b) = 1 ∧ s (192 + 12 * b + 3) = nI kk ∧ kk < q 2 ∧ bo = some b)
theorem who_or {s : Nat → Int32} {q : Nat → Nat} (hV : IVb s q) (x : Int32) : (∃ kk bo, isWhoP s q x kk bo) ∨ (¬ (∃ j, j < q 2 ∧ x = nI j) ∧ ¬ ∃ b, b < 60 ∧ x = nI (100 + b) ∧ s (192 + 12 * b) = 1) := by
  by_cases h1 : ∃ j, j < q 2 ∧ x = nI j
  · obtain ⟨j, a, b⟩ := h1
    exact Or.inl ⟨j, none, Or.inl ⟨j, a, b, rfl, rfl⟩⟩
  · by_cases h2 : ∃ b, b < 60 ∧ x = nI (100 + b) ∧ s (192 + 12 * b) = 1
    · obtain ⟨b, hb, hx, hs⟩ := h2
      rcases hV b hb with g | ⟨-, sl, by_, st, sh, pr, dy, ac, sta, g1, g2, g3, g4, g5, g6, g7, g8, f1, f2, f3, f4, -⟩
      · rw [g] at hs; exact absurd hs (by decide)
      · exact Or.inl ⟨st, some b, Or.inr ⟨b, hb, hx, hs, g3, f4, rfl⟩⟩
    · exact Or.inr ⟨h1, h2⟩
theorem sub100 {x : Int32} {b : Nat} (hb : b < 60) : x - 100 = nI b ↔ x = nI (100 + b) := by
  constructor
  · intro h
    have := congrArg (· + 100) h
    simp only [Int32.sub_add_cancel] at this
    rw [this, show (100 : Int32) = nI 100 from rfl, nI_add, Nat.add_comm]
  · intro h
    rw [h, show (100 : Int32) = nI 100 from rfl, nI_sub (by omega)]; congr 1; omega
section WHO
variable {I : xTI} {L : xTL} {q : Nat → Nat} {n : Nat}
theorem bt_y (hB : BR I L (I 58) (L 59) q) (hV : IV (I 58) (L 59) q n) {x : Int32} {b : Nat} (hb : b < 60) (hx : x = nI (100 + b)) (hs : I 58 (192 + 12 * b) = 1) : F_X10_bargainToldOf I x = some (nI b) := by
  have e := (sub100 hb).mpr hx
  unfold F_X10_bargainToldOf F_X10_bargainToldOf_j28
  rw [if_neg (by rw [hx]; exact nI_nlt (b := 100) (by omega) (by omega)), e, th_y hB.2.2.2.1 hV.2.2.1 hb hs, Option.bind_some, if_neg (by decide), if_neg (by decide)]
theorem bt_n (hB : BR I L (I 58) (L 59) q) {x : Int32} (h : ¬ ∃ b, b < 60 ∧ x = nI (100 + b) ∧ I 58 (192 + 12 * b) = 1) : F_X10_bargainToldOf I x = some (-1) := by
  unfold F_X10_bargainToldOf F_X10_bargainToldOf_j28
  by_cases g : x < 100
  · rw [if_pos g, if_pos rfl]
  · rw [if_neg g, th_n hB.2.2.2.1 (fun ⟨b, h1, h2, h3⟩ => h ⟨b, h1, (sub100 h1).mp h2, h3⟩), Option.bind_some, if_pos rfl, if_pos rfl]
theorem stk_lt {x : Int32} {j : Nat} (hj : j < q 2) (hq : q 2 ≤ 5) (hx : x = nI j) : ¬ ∃ b, b < 60 ∧ x = nI (100 + b) ∧ I 58 (192 + 12 * b) = 1 := by
  rintro ⟨b, h1, h2, -⟩
  rw [hx] at h2
  have := (nI_eq (by omega) (by omega)).mp h2
  omega
end WHO
