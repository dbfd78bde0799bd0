theorem mod_s : ∀ t, t < 1024 → ∀ i, i < 10 → t % 2 ^ i = 0 → t.testBit i = false → t % 2 ^ (i + 1) = 0 := by decide +kernel
/-- what a set comes to; how many it has -/
def smB (nz : Nat → Int32) (t : Nat) : Nat → Int32
  | 0 => 0
  | i + 1 => smB nz t i + if t.testBit i = true then nz i else 0
def ppB (t : Nat) : Nat → Nat
  | 0 => 0
  | i + 1 => ppB t i + if t.testBit i = true then 1 else 0
theorem tb_x (t i j : Nat) : (t ^^^ 2 ^ i).testBit j = (t.testBit j ^^ decide (i = j)) := by
  rw [Nat.testBit_xor, Nat.testBit_two_pow]
theorem smB_lo (nz : Nat → Int32) (t i : Nat) : ∀ f, f ≤ i → smB nz (t ^^^ 2 ^ i) f = smB nz t f
  | 0, _ => rfl
  | f + 1, h => by
    show smB nz (t ^^^ 2 ^ i) f + _ = smB nz t f + _
    rw [smB_lo nz t i f (by omega), tb_x, show decide (i = f) = false from decide_eq_false (by omega), Bool.xor_false]
theorem smB_x (nz : Nat → Int32) (t i : Nat) (hi : t.testBit i = true) : ∀ f, i < f → smB nz (t ^^^ 2 ^ i) f + nz i = smB nz t f
  | 0, h => by omega
  | f + 1, h => by
    show smB nz (t ^^^ 2 ^ i) f + _ + nz i = smB nz t f + _
    rw [tb_x]
    by_cases e : i = f
    · subst e
      rw [smB_lo nz t i i (Nat.le_refl _), hi, show decide (i = i) = true from decide_eq_true rfl]
      show smB nz t i + 0 + nz i = smB nz t i + nz i
      rw [Int32.add_zero]
    · have ih := smB_x nz t i hi f (by omega)
      rw [show decide (i = f) = false from decide_eq_false e, Bool.xor_false, ← ih]
      generalize smB nz (t ^^^ 2 ^ i) f = a
      generalize (if t.testBit f = true then nz f else 0) = b
      rw [Int32.add_assoc, Int32.add_assoc, Int32.add_comm b]
theorem ppB_lo (t i : Nat) : ∀ f, f ≤ i → ppB (t ^^^ 2 ^ i) f = ppB t f
  | 0, _ => rfl
  | f + 1, h => by
    show ppB (t ^^^ 2 ^ i) f + _ = ppB t f + _
    rw [ppB_lo t i f (by omega), tb_x, show decide (i = f) = false from decide_eq_false (by omega), Bool.xor_false]
theorem ppB_x (t i : Nat) (hi : t.testBit i = true) : ∀ f, i < f → ppB (t ^^^ 2 ^ i) f + 1 = ppB t f
  | 0, h => by omega
  | f + 1, h => by
    show ppB (t ^^^ 2 ^ i) f + _ + 1 = ppB t f + _
    rw [tb_x]
    by_cases e : i = f
    · subst e
      rw [ppB_lo t i i (Nat.le_refl _), hi, show decide (i = i) = true from decide_eq_true rfl]
      rfl
    · have ih := ppB_x t i hi f (by omega)
      rw [show decide (i = f) = false from decide_eq_false e, Bool.xor_false]
      omega
theorem ppB_le (t : Nat) : ∀ f, ppB t f ≤ f
  | 0 => Nat.le_refl _
  | f + 1 => by
    have := ppB_le t f
    show ppB t f + (if t.testBit f = true then 1 else 0) ≤ f + 1
    split <;> omega
theorem ppB_0 : ∀ f, ppB 0 f = 0
  | 0 => rfl
  | f + 1 => by
    show ppB 0 f + _ = 0
    rw [ppB_0 f, Nat.zero_testBit]; rfl
/-- the most parts of a set, from those of the smaller ones -/
def mxB (A : Nat → Nat) (t : Nat) : Nat → Nat
  | 0 => 0
  | i + 1 => if t.testBit i = true then (if mxB A t i < A (t ^^^ 2 ^ i) then A (t ^^^ 2 ^ i) else mxB A t i) else mxB A t i
def AR (nz : Nat → Int32) (f : Nat) : Nat → (Nat → Nat)
  | 0 => fun _ => 0
  | n + 1 => up1 (AR nz f n) n (if n = 0 then 0 else mxB (AR nz f n) n f + if smB nz n f = 0 then 1 else 0)
theorem mxB_le {A : Nat → Nat} {t f : Nat} (ht : t < 1024) (hf : f ≤ 10) (hA : ∀ u, u < t → A u ≤ ppB u f) : ∀ i, i ≤ f → mxB A t i = 0 ∨ mxB A t i + 1 ≤ ppB t f
  | 0, _ => Or.inl rfl
  | i + 1, h => by
    have ih := mxB_le ht hf hA i (by omega)
    unfold mxB
    by_cases g : t.testBit i = true
    · rw [if_pos g]
      have h1 := hA (t ^^^ 2 ^ i) (bS t ht i (by omega) g)
      have h2 := ppB_x t i g f (by omega)
      by_cases g2 : mxB A t i < A (t ^^^ 2 ^ i)
      · rw [if_pos g2]; right; omega
      · rw [if_neg g2]; exact ih
    · rw [if_neg g]; exact ih
theorem ppB_pos {t : Nat} (ht : t < 1024) : ∀ {f : Nat}, f ≤ 10 → t % 2 ^ f ≠ 0 → 1 ≤ ppB t f
  | 0, _, h => absurd (Nat.mod_one t) h
  | f + 1, hf, h => by
    show 1 ≤ ppB t f + (if t.testBit f = true then 1 else 0)
    by_cases g : t.testBit f = true
    · rw [if_pos g]; omega
    · have gf : t.testBit f = false := by cases hh : t.testBit f with
        | true => exact absurd hh g
        | false => rfl
      have := ppB_pos ht (f := f) (by omega) (fun e => h (mod_s t ht f (by omega) e gf))
      omega
theorem AR_le {nz : Nat → Int32} {f : Nat} (hf : f ≤ 10) : ∀ n, n ≤ 2 ^ f → ∀ t, t < n → AR nz f n t ≤ ppB t f
  | 0, _, t, ht => by omega
  | n + 1, hn, t, ht => by
    have h1024 : 2 ^ f ≤ 2 ^ 10 := Nat.pow_le_pow_right (by decide) hf
    have ih := AR_le (nz := nz) hf n (by omega)
    show up1 (AR nz f n) n _ t ≤ _
    unfold up1
    by_cases e : t = n
    · subst e
      rw [if_pos rfl]
      by_cases g : t = 0
      · rw [if_pos g]; exact Nat.zero_le _
      · rw [if_neg g]
        have hm := mxB_le (t := t) (f := f) (by omega) hf ih f (Nat.le_refl _)
        have hp : 1 ≤ ppB t f := ppB_pos (by omega) hf (by rw [Nat.mod_eq_of_lt (by omega)]; exact g)
        split <;> omega
    · rw [if_neg e]; exact ih t (by omega)
