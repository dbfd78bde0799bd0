/-! an option: both pay and note it -/
theorem put20_l {I : xTI} {b : Nat} {v : Int32} (hb : b < 20) : F_X8_put_20 I (nI b) 0 v = some (xup I 21 (7 * b + 0) v) ∧ F_X8_put_20 I (nI b) 1 v = some (xup I 21 (7 * b + 1) v) ∧ F_X8_put_20 I (nI b) 2 v = some (xup I 21 (7 * b + 2) v) ∧ F_X8_put_20 I (nI b) 3 v = some (xup I 21 (7 * b + 3) v) ∧ F_X8_put_20 I (nI b) 4 v = some (xup I 21 (7 * b + 4) v) ∧ F_X8_put_20 I (nI b) 5 v = some (xup I 21 (7 * b + 5) v) ∧ F_X8_put_20 I (nI b) 6 v = some (xup I 21 (7 * b + 6) v) :=
  ⟨put20 (t := 0) hb (by decide), put20 (t := 1) hb (by decide), put20 (t := 2) hb (by decide), put20 (t := 3) hb (by decide), put20 (t := 4) hb (by decide), put20 (t := 5) hb (by decide), put20 (t := 6) hb (by decide)⟩
def ow (g t k sh pr dy : Int32) : Nat → Int32
  | 0 => g | 1 => t | 2 => k | 3 => sh | 4 => pr | 5 => dy | _ => 0
theorem F10_eo {I : xTI} {b : Nat} (hb : b < 20) (h : I 20 3 = nI b) (g t k x d : Int32) : F_X1_enterOption I g t k x d = some (nI b, wr (xup I 20 3 (nI (b + 1))) 21 (7 * b) (ow g t k (x / 10000) (x - x / 10000 * 10000) d) 7) := by
  unfold F_X1_enterOption
  simp only [xbn_e, h, (put20_l hb).1, (put20_l hb).2.1, (put20_l hb).2.2.1, (put20_l hb).2.2.2.1, (put20_l hb).2.2.2.2.1, (put20_l hb).2.2.2.2.2.1, (put20_l hb).2.2.2.2.2.2, Option.bind_some, nI_1]
  rfl
/-- a price and a count in one number: what is within the bounds is one of these -/
theorem pair4 {x : Int32} {M : Nat} (hM0 : 1 ≤ M) (hM : M ≤ 99) (h : (1 : Int32) ≤ x / 10000 ∧ x / 10000 ≤ nI M) : ∃ a b, 1 ≤ a ∧ a ≤ M ∧ b ≤ 9999 ∧ x / 10000 = nI a ∧ x - x / 10000 * 10000 = nI b ∧ ¬ x < 0 := by
  obtain ⟨a, h1, h2, e⟩ := (rngl_iff (a := 1) (b := M) hM0 (by omega)).mp h
  have hpos : ¬ x < 0 := by
    intro hn
    have hn' : x.toInt < 0 := by
      have := Int32.lt_iff_toInt_lt.mp hn
      have e0 : (0 : Int32).toInt = 0 := by decide
      omega
    have hq : (x / 10000).toInt = a := by rw [e, nI_toInt (by omega)]
    have hdiv : (x / 10000).toInt = (x.toInt.tdiv (10000 : Int32).toInt).bmod (2 ^ 32) := Int32.toInt_div _ _
    have e4 : (10000 : Int32).toInt = 10000 := by decide
    rw [e4] at hdiv
    obtain ⟨m, hm⟩ : ∃ m : Nat, x.toInt = -(m : Int) := ⟨(-x.toInt).toNat, by omega⟩
    have hle : -(2 : Int) ^ 31 ≤ x.toInt := Int32.le_toInt x
    have hd : x.toInt.tdiv 10000 = -((m / 10000 : Nat) : Int) := by
      rw [hm, Int.neg_tdiv, show (10000 : Int) = ((10000 : Nat) : Int) from rfl, ← Int.ofNat_tdiv]
    have hb : (x.toInt.tdiv 10000).bmod (2 ^ 32) = x.toInt.tdiv 10000 := by
      rw [hd]; apply Int.bmod_eq_of_le <;> omega
    omega
  obtain ⟨j, hj, rfl⟩ := nI_of hpos
  have ed : nI j / 10000 = nI (j / 10000) := nI_div (b := 10000) hj (by decide) (by decide)
  refine ⟨a, j % 10000, h1, h2, by omega, e, ?_, hpos⟩
  rw [ed, show (10000 : Int32) = nI 10000 from rfl, nI_mul, nI_sub (by omega)]
  congr 1; omega
