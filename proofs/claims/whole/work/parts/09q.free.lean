/-- n cells of memory k from base on are written -/
def wr {α : Type} (I : Nat → Nat → α) (k base : Nat) (w : Nat → α) : Nat → (Nat → Nat → α)
  | 0 => I
  | t + 1 => xup (wr I k base w t) k (base + t) (w t)
theorem wr_ne {α : Type} {I : Nat → Nat → α} {k base : Nat} {w : Nat → α} {k' : Nat} (h : k' ≠ k) : ∀ n, wr I k base w n k' = I k'
  | 0 => rfl
  | n + 1 => by
    show xup (wr I k base w n) k (base + n) (w n) k' = I k'
    rw [xup_ne h, wr_ne h n]
theorem wr_out {α : Type} {I : Nat → Nat → α} {k base : Nat} {w : Nat → α} {j : Nat} : ∀ n, (j < base ∨ base + n ≤ j) → wr I k base w n k j = I k j
  | 0, _ => rfl
  | n + 1, h => by
    show xup (wr I k base w n) k (base + n) (w n) k j = I k j
    rw [xup_at, if_neg (by omega), wr_out n (by omega)]
theorem wr_in {α : Type} {I : Nat → Nat → α} {k base : Nat} {w : Nat → α} {t : Nat} : ∀ n, t < n → wr I k base w n k (base + t) = w t
  | 0, h => absurd h (Nat.not_lt_zero _)
  | n + 1, h => by
    show xup (wr I k base w n) k (base + n) (w n) k (base + t) = w t
    by_cases e : t = n
    · subst e; rw [xup_at, if_pos rfl]
    · rw [xup_at, if_neg (by omega), wr_in n (by omega)]
/-- a new bargain's cells -/
def bw (sl by_ st sh pr dy ac : Int32) : Nat → Int32
  | 0 => sl | 1 => by_ | 2 => st | 3 => sh | 4 => pr | 5 => dy | 6 => ac | 7 => 0 | 8 => -1 | 9 => -1 | _ => 0
def bw1 (sl by_ st sh pr dy ac : Int32) : Nat → Int32
  | 0 => 1
  | t + 1 => bw sl by_ st sh pr dy ac t
theorem nI_sub {a b : Nat} (h : b ≤ a) : nI a - nI b = nI (a - b) := by
  have : nI a = nI (a - b) + nI b := by rw [nI_add, Nat.sub_add_cancel h]
  rw [this, Int32.add_sub_cancel]
theorem rem14 {d : Nat} (h : d ≤ 700) : nI d - nI d / 14 * 14 = nI (d % 14) := by
  rw [show (14 : Int32) = nI 14 from rfl, nI_div (by omega) (by decide) (by decide), nI_mul, nI_sub (by omega)]
  congr 1; omega
theorem div14 {d : Nat} (h : d ≤ 700) : nI d / 14 = nI (d / 14) := nI_div (b := 14) (by omega) (by decide) (by decide)
/-- the account a bargain of day d is for -/
def acOf (d : Nat) : Nat := if d % 14 < 10 then d / 14 else d / 14 + 1
theorem put12_l {I : xTI} {b : Nat} {v : Int32} (hb : b < 60) : F_X8_put_12 I (nI b) 0 v = some (xup I 13 (11 * b + 0) v) ∧ F_X8_put_12 I (nI b) 1 v = some (xup I 13 (11 * b + 1) v) ∧ F_X8_put_12 I (nI b) 2 v = some (xup I 13 (11 * b + 2) v) ∧ F_X8_put_12 I (nI b) 3 v = some (xup I 13 (11 * b + 3) v) ∧ F_X8_put_12 I (nI b) 4 v = some (xup I 13 (11 * b + 4) v) ∧ F_X8_put_12 I (nI b) 5 v = some (xup I 13 (11 * b + 5) v) ∧ F_X8_put_12 I (nI b) 6 v = some (xup I 13 (11 * b + 6) v) ∧ F_X8_put_12 I (nI b) 7 v = some (xup I 13 (11 * b + 7) v) ∧ F_X8_put_12 I (nI b) 8 v = some (xup I 13 (11 * b + 8) v) ∧ F_X8_put_12 I (nI b) 9 v = some (xup I 13 (11 * b + 9) v) ∧ F_X8_put_12 I (nI b) 10 v = some (xup I 13 (11 * b + 10) v) :=
  ⟨put12 (t := 0) hb (by decide), put12 (t := 1) hb (by decide), put12 (t := 2) hb (by decide), put12 (t := 3) hb (by decide), put12 (t := 4) hb (by decide), put12 (t := 5) hb (by decide), put12 (t := 6) hb (by decide), put12 (t := 7) hb (by decide), put12 (t := 8) hb (by decide), put12 (t := 9) hb (by decide), put12 (t := 10) hb (by decide)⟩
theorem F10_wr {I : xTI} {b d : Nat} (hb : b < 60) (hd : d ≤ 700) (sl by_ st sh pr : Int32) : F_X0_write I (nI b) sl by_ st sh pr (nI d) = some (wr I 13 (11 * b) (bw sl by_ st sh pr (nI d) (nI (acOf d))) 11) := by
  unfold F_X0_write F_X0_write_j79 F_X0_write_j103
  rw [rem14 hd, div14 hd]
  simp only [(put12_l hb).1, (put12_l hb).2.1, (put12_l hb).2.2.1, (put12_l hb).2.2.2.1, (put12_l hb).2.2.2.2.1, (put12_l hb).2.2.2.2.2.1, (put12_l hb).2.2.2.2.2.2.1, (put12_l hb).2.2.2.2.2.2.2.1, (put12_l hb).2.2.2.2.2.2.2.2.1, (put12_l hb).2.2.2.2.2.2.2.2.2.1, (put12_l hb).2.2.2.2.2.2.2.2.2.2, Option.bind_some]
  have e0 : nI (d / 14) + 0 = nI (d / 14) := Int32.add_zero _
  unfold acOf
  by_cases g : d % 14 < 10
  · rw [if_pos (show nI (d % 14) < (10 : Int32) from nI_lt (b := 10) g (by decide)), if_pos trivial, if_pos g, e0]; rfl
  · rw [if_neg (show ¬ nI (d % 14) < (10 : Int32) from nI_nlt (b := 10) (by omega) (by omega)), if_neg (by decide), if_neg g, nI_1]; rfl
theorem F11_ao {d : Nat} (hd : d ≤ 700) : F_X11_accountOf (nI d) = some (nI (acOf d)) := by
  unfold F_X11_accountOf acOf
  rw [rem14 hd, div14 hd]
  by_cases g : d % 14 < 10
  · rw [if_neg (show ¬ (10 : Int32) ≤ nI (d % 14) from nI_ge (b := 10) g (by decide)), if_pos g]
  · rw [if_pos (show (10 : Int32) ≤ nI (d % 14) from nI_le (a := 10) (by omega) (by omega)), if_neg g, nI_1]
/-- the least free place: both find it -/
theorem free_n {I : xTI} (hB : BRb I (I 58)) (h : ∀ b, b < 60 → I 58 (192 + 12 * b) = 1) (hst : ∀ b, b < 60 → I 58 (192 + 12 * b + 8) ≠ -1) : F_X0_leastFree xN I 0 = some (-1) ∧ F_X11_free xN I 0 = some 60 := by
  unfold F_X0_leastFree F_X11_free F_X0_leastFree_b6 F_X11_free_b2
  refine ⟨?_, ?_⟩
  · rw [xbn_e, if_neg (by decide)]
    refine xlp_for (fun i => nI i) 60 _ (fun i hi k => ?_) (fun k => ?_) xN (by decide)
    · show F_X0_leastFree_c6 xN I (nI i) k = _
      unfold F_X0_leastFree_c6
      rw [if_neg (n60 hi), at12_7 hi, bcell hB hi (h i hi) (by decide), Option.bind_some, if_neg (hst i hi), xbn_e, nI_1]
    · show F_X0_leastFree_c6 xN I (nI 60) k = _
      unfold F_X0_leastFree_c6
      rw [if_pos (by decide)]
  · refine xlp_for (fun i => nI i) 60 _ (fun i hi k => ?_) (fun k => ?_) xN (by decide)
    · show F_X11_free_c2 xN I (nI i) k = _
      unfold F_X11_free_c2
      rw [if_neg (n60 hi), bg11_0 hi, Option.bind_some, if_pos (h i hi), xbn_e, nI_1]
    · show F_X11_free_c2 xN I (nI 60) k = _
      unfold F_X11_free_c2
      rw [if_pos (by decide)]; rfl
theorem F10_fr {I : xTI} (hB : BRb I (I 58)) {b : Nat} (hb : b < 60) (h : ∀ i, i < b → I 58 (192 + 12 * i) = 1) (hst : ∀ i, i < b → I 58 (192 + 12 * i + 8) ≠ -1) (h0 : I 58 (192 + 12 * b) = 0) : F_X0_leastFree xN I 0 = some (nI b) := by
  unfold F_X0_leastFree F_X0_leastFree_b6
  rw [xbn_e, if_neg (by decide)]
  refine xlp_for (fun i => nI i) b _ (fun i hi k => ?_) (fun k => ?_) xN (by show b < 100000; omega)
  · show F_X0_leastFree_c6 xN I (nI i) k = _
    have hi60 : i < 60 := by omega
    unfold F_X0_leastFree_c6
    rw [if_neg (n60 hi60), at12_7 hi60, bcell hB hi60 (h i hi) (by decide), Option.bind_some, if_neg (hst i hi), xbn_e, nI_1]
  · show F_X0_leastFree_c6 xN I (nI b) k = _
    unfold F_X0_leastFree_c6
    rcases hB b hb with ⟨-, e⟩ | ⟨e, -⟩
    · rw [if_neg (n60 hb), at12_7 hb, e, Option.bind_some, if_pos rfl]
    · rw [h0] at e; exact absurd e (by decide)
theorem F11_fr {I : xTI} {b : Nat} (hb : b < 60) (h : ∀ i, i < b → I 58 (192 + 12 * i) = 1) (h0 : I 58 (192 + 12 * b) = 0) : F_X11_free xN I 0 = some (nI b) := by
  unfold F_X11_free F_X11_free_b2
  refine xlp_for (fun i => nI i) b _ (fun i hi k => ?_) (fun k => ?_) xN (by show b < 100000; omega)
  · show F_X11_free_c2 xN I (nI i) k = _
    have hi60 : i < 60 := by omega
    unfold F_X11_free_c2
    rw [if_neg (n60 hi60), bg11_0 hi60, Option.bind_some, if_pos (h i hi), xbn_e, nI_1]
  · show F_X11_free_c2 xN I (nI b) k = _
    unfold F_X11_free_c2
    rw [if_neg (n60 hb), bg11_0 hb, h0, Option.bind_some, if_neg (by decide)]
/-- either all 60 places hold a bargain, or there is a least that holds none -/
theorem free_or {s : Nat → Int32} {q : Nat → Nat} (hV : IVb s q) : (∀ b, b < 60 → s (192 + 12 * b) = 1) ∨ ∃ b, b < 60 ∧ s (192 + 12 * b) = 0 ∧ ∀ i, i < b → s (192 + 12 * i) = 1 := by
  have key : ∀ m, m ≤ 60 → (∀ b, b < m → s (192 + 12 * b) = 1) ∨ ∃ b, b < m ∧ s (192 + 12 * b) = 0 ∧ ∀ i, i < b → s (192 + 12 * i) = 1 := by
    intro m
    induction m with
    | zero => intro _; exact Or.inl (fun b hb => absurd hb (Nat.not_lt_zero _))
    | succ m ih =>
      intro hm
      rcases ih (by omega) with h | ⟨b, h1, h2⟩
      · rcases hV m (by omega) with g | ⟨g, -⟩
        · exact Or.inr ⟨m, by omega, g, h⟩
        · refine Or.inl (fun b hb => ?_)
          by_cases e : b = m
          · rw [e]; exact g
          · exact h b (by omega)
      · exact Or.inr ⟨b, by omega, h2⟩
  exact key 60 (Nat.le_refl _)
theorem bst_ne {s : Nat → Int32} {q : Nat → Nat} {b : Nat} (hV : IVb s q) (hb : b < 60) (h : s (192 + 12 * b) = 1) : s (192 + 12 * b + 8) ≠ -1 := by
  rcases bstate hV hb with g | ⟨-, sta, g1, g2⟩
  · rw [h] at g; exact absurd g (by decide)
  · rw [g2]; exact nI_ne_m1 (by omega)
