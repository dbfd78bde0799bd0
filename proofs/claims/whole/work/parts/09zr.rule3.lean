/-- cells that no clause of xRel reads -/
def calm (k j : Nat) : Prop := k = 18 ∨ k = 19 ∨ (k = 29 ∧ 2 ≤ j) ∨ k = 31 ∨ (33 ≤ k ∧ k ≤ 54) ∨ (k = 57 ∧ j ≠ 5 ∧ j ≠ 44 ∧ j ≠ 46 ∧ j ≠ 47) ∨ (62 ≤ k ∧ k ≤ 83)
def calmL (k : Nat) : Prop := k = 57 ∨ (33 ≤ k ∧ k ≤ 54) ∨ (62 ≤ k ∧ k ≤ 83)
theorem calm.c {I I2 : xTI} (h : ∀ k j, ¬ calm k j → I2 k j = I k j) {k : Nat} (hk : ∀ j, ¬ calm k j) : I2 k = I k := by
  funext j
  exact h k j (hk j)
theorem calm.b {I I2 : xTI} {L L2 : xTL} (hI : ∀ k j, ¬ calm k j → I2 k j = I k j) (hL : ∀ k, ¬ calmL k → L2 k = L k) : xBkS I I2 L L2 := by
  have e : ∀ k, k ≠ 18 → k ≠ 19 → k ≤ 28 → I2 k = I k := fun k h1 h2 h3 => calm.c hI (fun j => by unfold calm; omega)
  have f : ∀ k, k ≤ 28 → L2 k = L k := fun k h => hL k (by unfold calmL; omega)
  unfold xBkS
  rw [e 1 (by decide) (by decide) (by decide), e 3 (by decide) (by decide) (by decide), e 15 (by decide) (by decide) (by decide), e 20 (by decide) (by decide) (by decide), e 22 (by decide) (by decide) (by decide), e 24 (by decide) (by decide) (by decide), e 26 (by decide) (by decide) (by decide), e 2 (by decide) (by decide) (by decide), e 7 (by decide) (by decide) (by decide), e 8 (by decide) (by decide) (by decide), e 9 (by decide) (by decide) (by decide), e 10 (by decide) (by decide) (by decide), e 13 (by decide) (by decide) (by decide), e 16 (by decide) (by decide) (by decide), e 17 (by decide) (by decide) (by decide), e 21 (by decide) (by decide) (by decide), e 23 (by decide) (by decide) (by decide), e 25 (by decide) (by decide) (by decide), e 27 (by decide) (by decide) (by decide), f 4 (by decide), f 5 (by decide), f 6 (by decide), f 28 (by decide)]
  exact ⟨⟨rfl, rfl, rfl, rfl, rfl, rfl, rfl, rfl, rfl, rfl⟩, fun _ _ => rfl, fun _ _ => rfl, fun _ _ => rfl, fun _ _ => rfl, fun _ _ => rfl, fun _ _ => rfl, fun _ _ => rfl, fun _ _ => rfl, fun _ _ => rfl, fun _ _ => rfl, fun _ _ => rfl, fun _ _ => rfl, fun _ _ => rfl, fun _ _ => rfl, fun _ _ => rfl, fun _ _ => rfl⟩
theorem xRel.calm {kp : Bool} {n : Nat} {I I2 : xTI} {L L2 : xTL} (h : xRel kp n I L) (hI : ∀ k j, ¬ calm k j → I2 k j = I k j) (hL : ∀ k, ¬ calmL k → L2 k = L k) : xRel kp n I2 L2 := by
  obtain ⟨⟨q, hB, hV⟩, h3, h4, h5, h6⟩ := h
  have e : ∀ k, (∀ j, ¬ Jvm.Pilot.CAccountDayLaw_law_r7630_15af01.calm k j) → I2 k = I k := fun k hk => calm.c hI hk
  have e58 : I2 58 = I 58 := e 58 (fun j => by unfold Jvm.Pilot.CAccountDayLaw_law_r7630_15af01.calm; omega)
  have e59 : L2 59 = L 59 := hL 59 (by unfold calmL; omega)
  have hi : ∀ k j, ¬ Jvm.Pilot.CAccountDayLaw_law_r7630_15af01.calm k j → I2 k j = I k j := hI
  unfold Jvm.Pilot.CAccountDayLaw_law_r7630_15af01.calm at e hi
  refine ⟨⟨q, ?_, ?_⟩, ?_, ?_, ?_, ?_⟩
  · rw [e58, e59]
    exact hB.ext hV.1 (calm.b hI hL) (fun _ _ => rfl) (fun _ _ => rfl)
  · rw [e58, e59]; exact hV
  · exact h3.frame (hi 29 0 (by omega)) (hi 57 5 (by omega)) (e 30 (fun j => by omega)) (e 61 (fun j => by omega))
  · exact h4.frame (hi 57 47 (by omega)) (hi 57 46 (by omega)) (hi 0 8 (by omega)) (e 55 (fun j => by omega)) (e 86 (fun j => by omega))
  · intro i a b
    rw [e 56 (fun j => by omega), e 60 (fun j => by omega)]
    exact h5 i a b
  · exact h6.frame (hi 57 44 (by omega)) (e 84 (fun j => by omega)) (hL 85 (by unfold calmL; omega)) (fun k a b => e k (fun j => by omega)) (fun k a b => hL k (by unfold calmL; omega))
/-- how many of the first m men are UP -/
def upn (s : Nat → Int32) : Nat → Nat
  | 0 => 0
  | m + 1 => upn s m + if s (16 + 4 * m) = 1 then 1 else 0
theorem upn_le (s : Nat → Int32) : ∀ m, upn s m ≤ m
  | 0 => Nat.le_refl _
  | m + 1 => by
    have := upn_le s m
    show upn s m + (if s (16 + 4 * m) = 1 then 1 else 0) ≤ m + 1
    split <;> omega
theorem F11_mu {I : xTI} {m : Nat} (h1 : I 58 1 = nI m) (hm : m ≤ 12) : F_X11_menUp xN I = some (nI (upn (I 58) m)) := by
  unfold F_X11_menUp
  rw [show ((0 : Int32), (0 : Int32)) = (fun i => (nI (upn (I 58) i), nI i)) 0 from rfl]
  refine xlp_for (fun i => (nI (upn (I 58) i), nI i)) m _ (fun i hi k => ?_) (fun k => ?_) xN (by show m < 100000; omega)
  · show F_X11_menUp_c4 xN I (nI (upn (I 58) i)) (nI i) k = k (nI (upn (I 58) i + if I 58 (16 + 4 * i) = 1 then 1 else 0), nI (i + 1))
    unfold F_X11_menUp_c4 F_X11_menUp_j28
    rw [show xal (R := Int32) I 58 40670 1 = xal (R := Int32) I 58 40670 (nI 1) from rfl, xal_n (by decide) (by decide), h1, if_neg (nI_ge hi (by omega)), F11_up (by omega), Option.bind_some, xbn_e, xbn_e]
    by_cases g : I 58 (16 + 4 * i) = 1
    · rw [if_pos g, if_pos g, if_neg (by decide), xbn_e, xbn_e, nI_1, nI_1]
    · rw [if_neg g, if_neg g, if_pos rfl, nI_1, show nI (upn (I 58) i) + 0 = nI (upn (I 58) i + 0) from nI_add _ 0]
  · show F_X11_menUp_c4 xN I (nI (upn (I 58) m)) (nI m) k = _
    unfold F_X11_menUp_c4
    rw [show xal (R := Int32) I 58 40670 1 = xal (R := Int32) I 58 40670 (nI 1) from rfl, xal_n (by decide) (by decide), h1, if_pos (nI_le (Nat.le_refl _) (by omega))]
theorem F10_mu {I : xTI} {q : Nat → Nat} {n : Nat} (h1 : BRm I (I 58) q) (h2 : IVm (I 58) q n) (hq : q 0 ≤ 700) (hq1 : q 1 ≤ 12) (h3 : I 3 0 = nI (q 1)) : F_X3_upCount xN I = some (nI (upn (I 58) (q 1))) := by
  unfold F_X3_upCount
  rw [show ((0 : Int32), (0 : Int32)) = (fun i => (nI (upn (I 58) i), nI i)) 0 from rfl]
  refine xlp_for (fun i => (nI (upn (I 58) i), nI i)) (q 1) _ (fun i hi k => ?_) (fun k => ?_) xN (by show q 1 < 100000; omega)
  · show F_X3_upCount_c4 xN I (nI (upn (I 58) i)) (nI i) k = k (nI (upn (I 58) i + if I 58 (16 + 4 * i) = 1 then 1 else 0), nI (i + 1))
    unfold F_X3_upCount_c4
    rw [xbn_e, h3, if_neg (nI_ge hi (by omega)), F10_up h1 h2 hq hq1 hi, Option.bind_some]
    by_cases g : I 58 (16 + 4 * i) = 1
    · rw [if_pos g, if_pos g, if_neg (by decide), xbn_e, xbn_e, nI_1, nI_1]
    · rw [if_neg g, if_neg g, if_pos rfl, xbn_e, nI_1]
      rfl
  · show F_X3_upCount_c4 xN I (nI (upn (I 58) (q 1))) (nI (q 1)) k = _
    unfold F_X3_upCount_c4
    rw [xbn_e, h3, if_pos (nI_le (Nat.le_refl _) (by omega))]
theorem put15 {I : xTI} {b t : Nat} {v : Int32} (hb : b < 12) (ht : t < 5) : F_X8_put_15 I (nI b) (nI t) v = some (xup I 16 (5 * b + t) v) := by
  unfold F_X8_put_15 F_X8_put_15_j29
  rw [if_neg (nI_pos (by omega)), if_neg (show ¬ (12 : Int32) ≤ nI b from nI_ge (b := 12) hb (by decide)), if_neg (nI_pos (by omega)), if_neg (show ¬ (5 : Int32) ≤ nI t from nI_ge (b := 5) ht (by decide)), if_neg (by decide), show (5 : Int32) = nI 5 from rfl, nI_mul, nI_add, xas_n (by omega) (by decide), Nat.mul_comm b 5]
/-- the class's new rule -/
theorem F5_en {I : xTI} {r : Nat} (hr : r < 12) (h15 : I 15 3 = nI r) (x2 x3 : Int32) : ∃ I2, F_X5_enter I x2 x3 = some (nI r, I2) ∧ I2 15 3 = nI (r + 1) ∧ (∀ k, k ≠ 15 → k ≠ 16 → k ≠ 17 → I2 k = I k) ∧ (∀ j, (j < 5 * r ∨ 5 * r + 5 ≤ j) → I2 16 j = I 16 j) ∧ I2 16 (5 * r) = I 29 6 ∧ I2 16 (5 * r + 1) = x2 ∧ I2 16 (5 * r + 2) = x3 ∧ I2 16 (5 * r + 3) = I 29 9 ∧ I2 16 (5 * r + 4) = I 29 8 ∧ (∀ j, (j < 120 * r ∨ 120 * r + 120 ≤ j) → I2 17 j = I 17 j) ∧ ∀ j, j < 120 → I2 17 (120 * r + j) = I 31 j := by
  have p0 : ∀ (I : xTI) v, F_X8_put_15 I (nI r) 0 v = some (xup I 16 (5 * r + 0) v) := fun I v => put15 (t := 0) hr (by decide)
  have p1 : ∀ (I : xTI) v, F_X8_put_15 I (nI r) 1 v = some (xup I 16 (5 * r + 1) v) := fun I v => put15 (t := 1) hr (by decide)
  have p2 : ∀ (I : xTI) v, F_X8_put_15 I (nI r) 2 v = some (xup I 16 (5 * r + 2) v) := fun I v => put15 (t := 2) hr (by decide)
  have p3 : ∀ (I : xTI) v, F_X8_put_15 I (nI r) 3 v = some (xup I 16 (5 * r + 3) v) := fun I v => put15 (t := 3) hr (by decide)
  have p4 : ∀ (I : xTI) v, F_X8_put_15 I (nI r) 4 v = some (xup I 16 (5 * r + 4) v) := fun I v => put15 (t := 4) hr (by decide)
  refine ⟨fun k j => if k = 17 then (if 120 * r ≤ j ∧ j < 120 * r + 120 then I 31 (j - 120 * r) else I 17 j) else xup (xup (xup (xup (xup (xup I 15 3 (nI (r + 1))) 16 (5 * r + 0) (I 29 6)) 16 (5 * r + 1) x2) 16 (5 * r + 2) x3) 16 (5 * r + 3) (I 29 9)) 16 (5 * r + 4) (I 29 8) k j, ?_, ?_, ?_, ?_, ?_, ?_, ?_, ?_, ?_, ?_, ?_⟩
  · unfold F_X5_enter
    simp only [xbn_e, h15, nI_1, p0, p1, p2, p3, p4, Option.bind_some]
    unfold xcp
    have e120 : (120 : Int32).toNatClampNeg = 120 := by decide
    have e0 : (0 : Int32).toNatClampNeg = 0 := by decide
    have er : (nI r * 120).toNatClampNeg = 120 * r := by
      rw [show (120 : Int32) = nI 120 from rfl, nI_mul, nI_clamp (by omega)]; omega
    rw [e120, e0, er, if_neg]
    · congr 1
      congr 1
      funext k j
      by_cases hk : k = 17
      · rw [if_pos hk, if_pos hk]
        unfold va_cpy
        simp [xup]
      · rw [if_neg hk, if_neg hk]
        simp [xup]
    · rintro (g | g | g | g | g)
      · exact absurd g (by decide)
      · rw [show (120 : Int32) = nI 120 from rfl, nI_mul] at g; exact nI_pos (by omega) g
      · exact absurd g (by decide)
      · omega
      · omega
  · simp [xup]
  · intro k h1 h2 h3
    funext j
    simp [xup, h1, h2, h3]
  · intro j hj
    simp only [show ¬ (16 : Nat) = 17 by decide, if_false]
    rw [xup_at, if_neg (by omega), xup_at, if_neg (by omega), xup_at, if_neg (by omega), xup_at, if_neg (by omega), xup_at, if_neg (by omega), xup_ne (by decide)]
  · simp [xup]
  · simp [xup]
  · simp [xup]
  · simp [xup]
  · simp [xup]
  · intro j hj
    show (if (17 : Nat) = 17 then (if 120 * r ≤ j ∧ j < 120 * r + 120 then I 31 (j - 120 * r) else I 17 j) else _) = _
    rw [if_pos rfl, if_neg (by omega)]
  · intro j hj
    show (if (17 : Nat) = 17 then (if 120 * r ≤ 120 * r + j ∧ 120 * r + j < 120 * r + 120 then I 31 (120 * r + j - 120 * r) else I 17 (120 * r + j)) else _) = _
    rw [if_pos rfl, if_pos ⟨by omega, by omega⟩, show 120 * r + j - 120 * r = j by omega]
