/-! putOff -/
theorem F10_frA {I : xTI} {s : Nat → Int32} (hB : BRb I s) {a b : Nat} (hab : a ≤ b) (hb : b < 60) (h : ∀ i, a ≤ i → i < b → s (192 + 12 * i) = 1) (hst : ∀ i, i < b → s (192 + 12 * i) = 1 → s (192 + 12 * i + 8) ≠ -1) (h0 : s (192 + 12 * b) = 0) : F_X0_leastFree xN I (nI a) = some (nI b) := by
  unfold F_X0_leastFree F_X0_leastFree_b6
  rw [xbn_e, if_neg (nI_pos (by omega))]
  refine xlp_for (fun i => nI (a + i)) (b - a) _ (fun i hi k => ?_) (fun k => ?_) xN (by show b - a < 100000; omega)
  · show F_X0_leastFree_c6 xN I (nI (a + i)) k = k (nI (a + (i + 1)))
    have hi60 : a + i < 60 := by omega
    have h1 := h (a + i) (by omega) (by omega)
    have hc : I 13 (11 * (a + i) + 7) = s (192 + 12 * (a + i) + 8) := by
      rcases hB (a + i) hi60 with ⟨g, -⟩ | ⟨-, g⟩
      · rw [g] at h1; exact absurd h1 (by decide)
      · exact g 7 (by decide)
    unfold F_X0_leastFree_c6
    rw [if_neg (n60 hi60), at12_7 hi60, hc, Option.bind_some, if_neg (hst _ (by omega) h1), xbn_e, nI_1]
    rfl
  · show F_X0_leastFree_c6 xN I (nI (a + (b - a))) k = _
    rw [show a + (b - a) = b by omega]
    unfold F_X0_leastFree_c6
    rcases hB b hb with ⟨-, e⟩ | ⟨e, -⟩
    · rw [if_neg (n60 hb), at12_7 hb, e, Option.bind_some, if_pos rfl]
    · rw [h0] at e; exact absurd e (by decide)
theorem F10_frN {I : xTI} {s : Nat → Int32} (hB : BRb I s) {a : Nat} (ha : a ≤ 60) (h : ∀ i, a ≤ i → i < 60 → s (192 + 12 * i) = 1) (hst : ∀ i, i < 60 → s (192 + 12 * i) = 1 → s (192 + 12 * i + 8) ≠ -1) : F_X0_leastFree xN I (nI a) = some (-1) := by
  unfold F_X0_leastFree F_X0_leastFree_b6
  rw [xbn_e, if_neg (nI_pos (by omega))]
  refine xlp_for (fun i => nI (a + i)) (60 - a) _ (fun i hi k => ?_) (fun k => ?_) xN (by show 60 - a < 100000; omega)
  · show F_X0_leastFree_c6 xN I (nI (a + i)) k = k (nI (a + (i + 1)))
    have hi60 : a + i < 60 := by omega
    have h1 := h (a + i) (by omega) (by omega)
    have hc : I 13 (11 * (a + i) + 7) = s (192 + 12 * (a + i) + 8) := by
      rcases hB (a + i) hi60 with ⟨g, -⟩ | ⟨-, g⟩
      · rw [g] at h1; exact absurd h1 (by decide)
      · exact g 7 (by decide)
    unfold F_X0_leastFree_c6
    rw [if_neg (n60 hi60), at12_7 hi60, hc, Option.bind_some, if_neg (hst _ (by omega) h1), xbn_e, nI_1]
    rfl
  · show F_X0_leastFree_c6 xN I (nI (a + (60 - a))) k = _
    rw [show a + (60 - a) = 60 by omega]
    unfold F_X0_leastFree_c6
    rw [if_pos (by decide)]
theorem F11_frA {J : xTI} {a b : Nat} (hab : a ≤ b) (hb : b < 60) (h : ∀ i, a ≤ i → i < b → J 58 (192 + 12 * i) = 1) (h0 : J 58 (192 + 12 * b) = 0) : F_X11_free xN J (nI a) = some (nI b) := by
  unfold F_X11_free F_X11_free_b2
  refine xlp_for (fun i => nI (a + i)) (b - a) _ (fun i hi k => ?_) (fun k => ?_) xN (by show b - a < 100000; omega)
  · show F_X11_free_c2 xN J (nI (a + i)) k = k (nI (a + (i + 1)))
    have hi60 : a + i < 60 := by omega
    unfold F_X11_free_c2
    rw [if_neg (n60 hi60), bg11_0 hi60, Option.bind_some, if_pos (h _ (by omega) (by omega)), xbn_e, nI_1]
    rfl
  · show F_X11_free_c2 xN J (nI (a + (b - a))) k = _
    rw [show a + (b - a) = b by omega]
    unfold F_X11_free_c2
    rw [if_neg (n60 hb), bg11_0 hb, h0, Option.bind_some, if_neg (by decide)]
theorem F11_frN {J : xTI} {a : Nat} (ha : a ≤ 60) (h : ∀ i, a ≤ i → i < 60 → J 58 (192 + 12 * i) = 1) : F_X11_free xN J (nI a) = some (nI 60) := by
  unfold F_X11_free F_X11_free_b2
  refine xlp_for (fun i => nI (a + i)) (60 - a) _ (fun i hi k => ?_) (fun k => ?_) xN (by show 60 - a < 100000; omega)
  · show F_X11_free_c2 xN J (nI (a + i)) k = k (nI (a + (i + 1)))
    have hi60 : a + i < 60 := by omega
    unfold F_X11_free_c2
    rw [if_neg (n60 hi60), bg11_0 hi60, Option.bind_some, if_pos (h _ (by omega) (by omega)), xbn_e, nI_1]
    rfl
  · show F_X11_free_c2 xN J (nI (a + (60 - a))) k = _
    rw [show a + (60 - a) = 60 by omega]
    unfold F_X11_free_c2
    rw [if_pos (by decide)]
theorem F11_fr61 {J : xTI} : F_X11_free xN J (nI 60 + 1) = some (nI 61) := by
  unfold F_X11_free
  show xlp _ (99999 + 1) (nI 61) = _
  rw [xlp_s]
  show F_X11_free_c2 xN J (nI 61) _ = _
  unfold F_X11_free_c2
  rw [if_pos (by decide)]
/-- the price of what is put off -/
theorem price_eq (y : Int64) : ∃ pr : Nat, 1 ≤ pr ∧ pr ≤ 9999 ∧ (if (if 9999 < y then 9999 else y) < 1 then 1 else (if 9999 < y then 9999 else y)).toInt32 = nI pr ∧ ∀ {R : Type} (G : Int32 → R), (if 0 ≤ lg_cmp y 1 then (if lg_cmp y 9999 ≤ 0 then G y.toInt32 else G 9999) else G 1) = G (nI pr) := by
  have h1 : (1 : Int64).toInt = 1 := by decide
  have h9 : (9999 : Int64).toInt = 9999 := by decide
  by_cases g1 : y < 1
  · have g1' : ¬ (1 : Int64) ≤ y := Int64.not_le.mpr g1
    have g9 : ¬ (9999 : Int64) < y := by
      rw [Int64.lt_iff_toInt_lt, h9]
      rw [Int64.lt_iff_toInt_lt, h1] at g1
      omega
    refine ⟨1, by decide, by decide, ?_, fun G => ?_⟩
    · rw [if_neg g9, if_pos g1]; rfl
    · rw [if_neg (fun e => g1' ((lg_cmp_ge y 1).mp e))]; rfl
  · have g1' : (1 : Int64) ≤ y := Int64.not_lt.mp g1
    by_cases g9 : (9999 : Int64) < y
    · refine ⟨9999, by decide, by decide, ?_, fun G => ?_⟩
      · rw [if_pos g9, if_neg (by decide)]; rfl
      · rw [if_pos ((lg_cmp_ge y 1).mpr g1'), if_neg (fun e => absurd ((lg_cmp_le y 9999).mp e) (Int64.not_le.mpr g9))]; rfl
    · have g9' : y ≤ 9999 := Int64.not_lt.mp g9
      have a1 : 1 ≤ y.toInt := by rw [Int64.le_iff_toInt_le, h1] at g1'; exact g1'
      have a9 : y.toInt ≤ 9999 := by rw [Int64.le_iff_toInt_le, h9] at g9'; exact g9'
      have ey : y = Int64.ofNat y.toInt.toNat := by
        apply Int64.toInt_inj.mp
        rw [Int64.toInt_ofNat_of_lt (by omega)]; omega
      have et : y.toInt32 = nI y.toInt.toNat := by
        conv => lhs; rw [ey]
        exact Int64.toInt32_ofNat'
      refine ⟨y.toInt.toNat, by omega, by omega, ?_, fun G => ?_⟩
      · rw [if_neg g9, if_neg g1, et]
      · rw [if_pos ((lg_cmp_ge y 1).mpr g1'), if_pos ((lg_cmp_le y 9999).mpr g9'), et]
/-- the cells of a bargain that is put off -/
def pw (sl by_ st sh pr dy ac : Int32) : Nat → Int32
  | 0 => sl | 1 => by_ | 2 => st | 3 => sh | 4 => pr | 5 => dy | 6 => ac | 7 => 1 | 8 => dy | 9 => dy | _ => 1
def pw1 (sl by_ st sh pr dy ac : Int32) : Nat → Int32
  | 0 => 1
  | t + 1 => pw sl by_ st sh pr dy ac t
theorem C_po {I : xTI} {w d : Nat} (hw : w < 60) (hd : d ≤ 700) (sl by_ st sh pr ac : Int32) : ∃ A I2, F_X0_write I (nI w) sl by_ st sh pr (nI d) = some A ∧ (∀ k, k ≠ 13 → A k = I k) ∧ F_X0_makePutOff A (nI w) ac (nI d) = some I2 ∧ (∀ k, k ≠ 13 → I2 k = I k) ∧ (∀ j, j < 11 * w ∨ 11 * w + 11 ≤ j → I2 13 j = I 13 j) ∧ ∀ t, t < 11 → I2 13 (11 * w + t) = pw sl by_ st sh pr (nI d) ac t := by
  have hin : ∀ t, t < 11 → wr I 13 (11 * w) (bw sl by_ st sh pr (nI d) (nI (acOf d))) 11 13 (11 * w + t) = bw sl by_ st sh pr (nI d) (nI (acOf d)) t := fun t ht => wr_in 11 ht
  have hout : ∀ j, j < 11 * w ∨ 11 * w + 11 ≤ j → wr I 13 (11 * w) (bw sl by_ st sh pr (nI d) (nI (acOf d))) 11 13 j = I 13 j := fun j hj => wr_out 11 (by omega)
  have hne : ∀ k, k ≠ 13 → wr I 13 (11 * w) (bw sl by_ st sh pr (nI d) (nI (acOf d))) 11 k = I k := fun k hk => wr_ne hk 11
  refine ⟨wr I 13 (11 * w) (bw sl by_ st sh pr (nI d) (nI (acOf d))) 11, stC (xup (xup (wr I 13 (11 * w) (bw sl by_ st sh pr (nI d) (nI (acOf d))) 11) 13 (11 * w + 6) ac) 13 (11 * w + 10) 1) 13 (11 * w) 7 8 9 (nI d), F10_wr hw hd _ _ _ _ _, hne, ?_, ?_, ?_, ?_⟩
  · generalize wr I 13 (11 * w) (bw sl by_ st sh pr (nI d) (nI (acOf d))) 11 = A at hin hout hne ⊢
    have p6 : F_X8_put_12 A (nI w) 6 ac = some (xup A 13 (11 * w + 6) ac) := put12 (t := 6) hw (by decide)
    have p10 : F_X8_put_12 (xup A 13 (11 * w + 6) ac) (nI w) 10 1 = some (xup (xup A 13 (11 * w + 6) ac) 13 (11 * w + 10) 1) := put12 (t := 10) hw (by decide)
    unfold F_X0_makePutOff
    rw [p6, Option.bind_some, p10, Option.bind_some, F10_ms hw (by rw [xup_nj (by omega), xup_nj (by omega), hin 8 (by decide)]; rfl) (by rw [xup_nj (by omega), xup_nj (by omega), hin 9 (by decide)]; rfl), Option.bind_some]
  · intro k hk
    rw [stC_ne hk, xup_ne hk, xup_ne hk, hne k hk]
  · intro j hj
    rw [stC_at, if_neg (by omega), if_neg (by omega), if_neg (by omega), xup_nj (by omega), xup_nj (by omega), hout j hj]
  · intro t ht
    rw [stC_at]
    have : t = 0 ∨ t = 1 ∨ t = 2 ∨ t = 3 ∨ t = 4 ∨ t = 5 ∨ t = 6 ∨ t = 7 ∨ t = 8 ∨ t = 9 ∨ t = 10 := by omega
    rcases this with h | h | h | h | h | h | h | h | h | h | h
    all_goals first
      | (rw [if_neg (by omega), if_neg (by omega), if_neg (by omega), xup_nj (by omega), xup_nj (by omega), hin t ht, h]; rfl)
      | (rw [if_neg (by omega), if_neg (by omega), if_neg (by omega), xup_nj (by omega), xup_at, if_pos (by omega), h]; rfl)
      | (rw [if_neg (by omega), if_neg (by omega), if_neg (by omega), xup_at, if_pos (by omega), h]; rfl)
      | (rw [if_pos (by omega), h]; rfl)
      | (rw [if_neg (by omega), if_pos (by omega), h]; rfl)
      | (rw [if_neg (by omega), if_neg (by omega), if_pos (by omega), h]; rfl)
