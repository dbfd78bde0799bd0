theorem nt20_y {I : xTI} {c j : Nat} (h : I 20 3 = nI c) (hc : c ≤ 30000) (hj : j < c) (hj2 : j < 20) : F_X8_isNoted_20 I (nI j) = some 1 := by
  unfold F_X8_isNoted_20
  rw [xbn_e, h, if_neg (nI_pos (by omega)), if_neg (nI_ge hj (by omega)), if_neg (show ¬ (20 : Int32) ≤ nI j from nI_ge (b := 20) hj2 (by decide))]; rfl
theorem nt20_n {I : xTI} {c : Nat} {x : Int32} (h : I 20 3 = nI c) (hc : c ≤ 30000) (hx : ¬ ∃ j, j < c ∧ j < 20 ∧ x = nI j) : F_X8_isNoted_20 I x = some 0 := by
  unfold F_X8_isNoted_20
  rw [xbn_e, h]
  by_cases g : x < 0
  · rw [if_pos g]; rfl
  · obtain ⟨j, hj, rfl⟩ := nI_of g
    rw [if_neg g]
    by_cases g2 : nI c ≤ nI j
    · rw [if_pos g2]; rfl
    · rw [if_neg g2]
      by_cases g3 : (20 : Int32) ≤ nI j
      · rw [if_pos g3]; rfl
      · exfalso
        refine hx ⟨j, ?_, ?_, rfl⟩
        · exact Nat.not_le.mp (fun z => g2 (nI_le z hj))
        · exact Nat.not_le.mp (fun z => g3 (nI_le (a := 20) z hj))
theorem cl20_y {t : Nat} (ht : t < 7) : F_X8_hasColumn_20 (nI t) = some 1 := by
  unfold F_X8_hasColumn_20
  rw [if_neg (nI_pos (by omega)), if_neg (show ¬ (7 : Int32) ≤ nI t from nI_ge (b := 7) ht (by decide))]; rfl
theorem cl20_n {x : Int32} (hx : ¬ (0 ≤ x ∧ x ≤ 6)) : F_X8_hasColumn_20 x = some 0 := by
  unfold F_X8_hasColumn_20
  by_cases g : x < 0
  · rw [if_pos g]; rfl
  · rw [if_neg g]
    by_cases g3 : (7 : Int32) ≤ x
    · rw [if_pos g3]; rfl
    · exfalso
      obtain ⟨j, hj, rfl⟩ := nI_of g
      have : j < 7 := Nat.not_le.mp (fun z => g3 (nI_le (a := 7) z hj))
      exact hx ⟨nI_pos' hj, nI_le (b := 6) (by omega) (by decide)⟩
theorem at20 {I : xTI} {b t : Nat} (hb : b < 20) (ht : t < 7) : F_X8_at_20 I (nI b) (nI t) = some (I 21 (7 * b + t)) := by
  unfold F_X8_at_20 F_X8_at_20_j29
  rw [if_neg (nI_pos (by omega)), if_neg (show ¬ (20 : Int32) ≤ nI b from nI_ge (b := 20) hb (by decide)), if_neg (nI_pos (by omega)), if_neg (show ¬ (7 : Int32) ≤ nI t from nI_ge (b := 7) ht (by decide)), if_neg (by decide), show (7 : Int32) = nI 7 from rfl, nI_mul, nI_add, xal_n (by omega) (by decide), Nat.mul_comm b 7]
theorem nt24_y {I : xTI} {c j : Nat} (h : I 24 3 = nI c) (hc : c ≤ 30000) (hj : j < c) (hj2 : j < 300) : F_X8_isNoted_24 I (nI j) = some 1 := by
  unfold F_X8_isNoted_24
  rw [xbn_e, h, if_neg (nI_pos (by omega)), if_neg (nI_ge hj (by omega)), if_neg (show ¬ (300 : Int32) ≤ nI j from nI_ge (b := 300) hj2 (by decide))]; rfl
theorem nt24_n {I : xTI} {c : Nat} {x : Int32} (h : I 24 3 = nI c) (hc : c ≤ 30000) (hx : ¬ ∃ j, j < c ∧ j < 300 ∧ x = nI j) : F_X8_isNoted_24 I x = some 0 := by
  unfold F_X8_isNoted_24
  rw [xbn_e, h]
  by_cases g : x < 0
  · rw [if_pos g]; rfl
  · obtain ⟨j, hj, rfl⟩ := nI_of g
    rw [if_neg g]
    by_cases g2 : nI c ≤ nI j
    · rw [if_pos g2]; rfl
    · rw [if_neg g2]
      by_cases g3 : (300 : Int32) ≤ nI j
      · rw [if_pos g3]; rfl
      · exfalso
        refine hx ⟨j, ?_, ?_, rfl⟩
        · exact Nat.not_le.mp (fun z => g2 (nI_le z hj))
        · exact Nat.not_le.mp (fun z => g3 (nI_le (a := 300) z hj))
theorem cl24_y {t : Nat} (ht : t < 7) : F_X8_hasColumn_24 (nI t) = some 1 := by
  unfold F_X8_hasColumn_24
  rw [if_neg (nI_pos (by omega)), if_neg (show ¬ (7 : Int32) ≤ nI t from nI_ge (b := 7) ht (by decide))]; rfl
theorem cl24_n {x : Int32} (hx : ¬ (0 ≤ x ∧ x ≤ 6)) : F_X8_hasColumn_24 x = some 0 := by
  unfold F_X8_hasColumn_24
  by_cases g : x < 0
  · rw [if_pos g]; rfl
  · rw [if_neg g]
    by_cases g3 : (7 : Int32) ≤ x
    · rw [if_pos g3]; rfl
    · exfalso
      obtain ⟨j, hj, rfl⟩ := nI_of g
      have : j < 7 := Nat.not_le.mp (fun z => g3 (nI_le (a := 7) z hj))
      exact hx ⟨nI_pos' hj, nI_le (b := 6) (by omega) (by decide)⟩
theorem at24 {I : xTI} {b t : Nat} (hb : b < 300) (ht : t < 7) : F_X8_at_24 I (nI b) (nI t) = some (I 25 (7 * b + t)) := by
  unfold F_X8_at_24 F_X8_at_24_j29
  rw [if_neg (nI_pos (by omega)), if_neg (show ¬ (300 : Int32) ≤ nI b from nI_ge (b := 300) hb (by decide)), if_neg (nI_pos (by omega)), if_neg (show ¬ (7 : Int32) ≤ nI t from nI_ge (b := 7) ht (by decide)), if_neg (by decide), show (7 : Int32) = nI 7 from rfl, nI_mul, nI_add, xal_n (by omega) (by decide), Nat.mul_comm b 7]
theorem nt26_y {I : xTI} {c j : Nat} (h : I 26 3 = nI c) (hc : c ≤ 30000) (hj : j < c) (hj2 : j < 200) : F_X8_isNoted_26 I (nI j) = some 1 := by
  unfold F_X8_isNoted_26
  rw [xbn_e, h, if_neg (nI_pos (by omega)), if_neg (nI_ge hj (by omega)), if_neg (show ¬ (200 : Int32) ≤ nI j from nI_ge (b := 200) hj2 (by decide))]; rfl
theorem nt26_n {I : xTI} {c : Nat} {x : Int32} (h : I 26 3 = nI c) (hc : c ≤ 30000) (hx : ¬ ∃ j, j < c ∧ j < 200 ∧ x = nI j) : F_X8_isNoted_26 I x = some 0 := by
  unfold F_X8_isNoted_26
  rw [xbn_e, h]
  by_cases g : x < 0
  · rw [if_pos g]; rfl
  · obtain ⟨j, hj, rfl⟩ := nI_of g
    rw [if_neg g]
    by_cases g2 : nI c ≤ nI j
    · rw [if_pos g2]; rfl
    · rw [if_neg g2]
      by_cases g3 : (200 : Int32) ≤ nI j
      · rw [if_pos g3]; rfl
      · exfalso
        refine hx ⟨j, ?_, ?_, rfl⟩
        · exact Nat.not_le.mp (fun z => g2 (nI_le z hj))
        · exact Nat.not_le.mp (fun z => g3 (nI_le (a := 200) z hj))
theorem cl26_y {t : Nat} (ht : t < 6) : F_X8_hasColumn_26 (nI t) = some 1 := by
  unfold F_X8_hasColumn_26
  rw [if_neg (nI_pos (by omega)), if_neg (show ¬ (6 : Int32) ≤ nI t from nI_ge (b := 6) ht (by decide))]; rfl
theorem cl26_n {x : Int32} (hx : ¬ (0 ≤ x ∧ x ≤ 5)) : F_X8_hasColumn_26 x = some 0 := by
  unfold F_X8_hasColumn_26
  by_cases g : x < 0
  · rw [if_pos g]; rfl
  · rw [if_neg g]
    by_cases g3 : (6 : Int32) ≤ x
    · rw [if_pos g3]; rfl
    · exfalso
      obtain ⟨j, hj, rfl⟩ := nI_of g
      have : j < 6 := Nat.not_le.mp (fun z => g3 (nI_le (a := 6) z hj))
      exact hx ⟨nI_pos' hj, nI_le (b := 5) (by omega) (by decide)⟩
theorem at26 {I : xTI} {b t : Nat} (hb : b < 200) (ht : t < 6) : F_X8_at_26 I (nI b) (nI t) = some (I 27 (6 * b + t)) := by
  unfold F_X8_at_26 F_X8_at_26_j29
  rw [if_neg (nI_pos (by omega)), if_neg (show ¬ (200 : Int32) ≤ nI b from nI_ge (b := 200) hb (by decide)), if_neg (nI_pos (by omega)), if_neg (show ¬ (6 : Int32) ≤ nI t from nI_ge (b := 6) ht (by decide)), if_neg (by decide), show (6 : Int32) = nI 6 from rfl, nI_mul, nI_add, xal_n (by omega) (by decide), Nat.mul_comm b 6]
theorem ixc (c w a b : Nat) : ((nI c) + (nI w * nI a)) + nI b = nI (c + w * a + b) := by rw [nI_mul, nI_add, nI_add]
theorem pr_optionOf : xs_optionOf xRel := by
  intro kp n I L a1 a2 hn h
  obtain ⟨⟨q, hB, hV⟩, -⟩ := id h
  have e3 : I 58 3 = nI (q 3) := hV.1.1 3 (by decide)
  have b3 : q 3 ≤ 20 := hV.1.2.2.2.2.1
  have d3 : I 20 3 = nI (q 3) := hB.1.2.2.2.1
  unfold F_X10_optionOf F_X10_readOf_20 F_X11_optionOf F_X11_op
  simp only [show ∀ (I : xTI), xal (R := Int32 × xTI) I 58 40670 3 = xal I 58 40670 (nI 3) from fun _ => rfl, xin_iff]
  by_cases g1 : ∃ j, j < q 3 ∧ j < 20 ∧ a1 = nI j
  · obtain ⟨j, hj, hj2, rfl⟩ := g1
    have g1' : 0 ≤ nI j ∧ nI j ≤ nI (q 3) - 1 := (rng_iff (by omega)).mpr ⟨j, hj, rfl⟩
    by_cases g2 : 0 ≤ a2 ∧ a2 ≤ 6
    · obtain ⟨t, -, ht, rfl⟩ := (rngl_iff (a := 0) (b := 6) (by decide) (by decide)).mp g2
      refine ⟨I 58 (912 + 7 * j + t), I, I, ?_, ?_, pr_mono _ _ _ _ h⟩
      · rw [nt20_y d3 (by omega) hj hj2, cl20_y (by omega), at20 hj2 (by omega), hB.2.2.2.2.1.1 j hj t (by omega)]; rfl
      · rw [xal_n (by decide) (by decide), e3]
        simp only [Option.bind_some, ite01]
        rw [it_n g1', it_n g2, show (912 : Int32) = nI 912 from rfl, show (7 : Int32) = nI 7 from rfl, ixc, xal_n (by omega) (by decide)]; rfl
    · obtain ⟨I1, I2, r1, r2, r3, r4⟩ := ref2k h (-7) 7 (by decide) (by decide)
      refine ⟨-7, I1, I2, ?_, ?_, r3⟩
      · rw [nt20_y d3 (by omega) hj hj2, cl20_n g2, r1]; rfl
      · rw [xal_n (by decide) (by decide), r4 58 (by decide), e3]
        simp only [Option.bind_some, ite01]
        rw [it_n g1', it_p g2, r2]; rfl
  · obtain ⟨I1, I2, r1, r2, r3, r4⟩ := ref2k h (-3) 3 (by decide) (by decide)
    have g1' : ¬ (0 ≤ a1 ∧ a1 ≤ nI (q 3) - 1) := fun z => by
      obtain ⟨j, hj, e⟩ := (rng_iff (by omega)).mp z
      exact g1 ⟨j, hj, by omega, e⟩
    refine ⟨-3, I1, I2, ?_, ?_, r3⟩
    · rw [nt20_n d3 (by omega) g1, r1]; rfl
    · rw [xal_n (by decide) (by decide), r4 58 (by decide), e3]
      simp only [Option.bind_some, ite01]
      rw [it_p g1', r2]; rfl
theorem pr_pass : xs_pass xRel := by
  intro kp n I L a1 a2 hn h
  obtain ⟨⟨q, hB, hV⟩, -⟩ := id h
  have e3 : I 58 6 = nI (q 6) := hV.1.1 6 (by decide)
  have e8 : I 58 8 = nI (q 8) := hV.1.1 8 (by decide)
  have f8 : I 1 11 = nI (q 8) := hB.1.2.2.2.2.2.2.2.2.1
  have b3 : q 6 ≤ 30000 := hV.1.2.2.2.2.2.2.2.1
  have d3 : I 24 3 = nI (q 6) := hB.1.2.2.2.2.2.2.1
  unfold F_X10_pass F_X10_readOf_24 F_X11_pass F_X11_pass_j39
  simp only [show ∀ (I : xTI), xal (R := Int32 × xTI) I 58 40670 6 = xal I 58 40670 (nI 6) from fun _ => rfl, show ∀ (I : xTI), xal (R := Int32 × xTI) I 58 40670 8 = xal I 58 40670 (nI 8) from fun _ => rfl, xin_iff, xbn_e]
  by_cases g0 : nI (q 8) = 0
  · obtain ⟨I1, I2, r1, r2, r3, r4⟩ := ref2k h (-2) 2 (by decide) (by decide)
    refine ⟨-2, I1, I2, ?_, ?_, r3⟩
    · rw [f8, if_pos g0, r1]; rfl
    · rw [xal_n (by decide) (by decide), r4 58 (by decide), e8, if_pos g0, r2]; rfl
  · by_cases g1 : ∃ j, j < q 6 ∧ j < 300 ∧ a1 = nI j
    · obtain ⟨j, hj, hj2, rfl⟩ := g1
      by_cases g2 : 0 ≤ a2 ∧ a2 ≤ 6
      · obtain ⟨t, -, ht, rfl⟩ := (rngl_iff (a := 0) (b := 6) (by decide) (by decide)).mp g2
        refine ⟨I 58 (2570 + 7 * j + t), I, I, ?_, ?_, pr_mono _ _ _ _ h⟩
        · rw [f8, if_neg g0, nt24_y d3 (by omega) hj hj2, cl24_y (by omega), at24 hj2 (by omega), hB.2.2.2.2.1.2.2.1 j hj (by omega) t (by omega)]; rfl
        · rw [xal_n (by decide) (by decide), e8, if_neg g0, if_neg (nI_pos (by omega)), xal_n (by decide) (by decide), e3, if_neg (nI_ge hj (by omega)), if_pos (show nI j < (300 : Int32) from nI_lt (b := 300) hj2 (by decide))]
          simp only [Option.bind_some, ite01]
          rw [it_n g2, show (2570 : Int32) = nI 2570 from rfl, show (7 : Int32) = nI 7 from rfl, ixc, xal_n (by omega) (by decide)]
      · obtain ⟨I1, I2, r1, r2, r3, r4⟩ := ref2k h (-7) 7 (by decide) (by decide)
        refine ⟨-7, I1, I2, ?_, ?_, r3⟩
        · rw [f8, if_neg g0, nt24_y d3 (by omega) hj hj2, cl24_n g2, r1]; rfl
        · rw [xal_n (by decide) (by decide), r4 58 (by decide), e8, if_neg g0, if_neg (nI_pos (by omega)), xal_n (by decide) (by decide), r4 58 (by decide), e3, if_neg (nI_ge hj (by omega)), if_pos (show nI j < (300 : Int32) from nI_lt (b := 300) hj2 (by decide))]
          simp only [Option.bind_some, ite01]
          rw [it_p g2, r2]; rfl
    · obtain ⟨I1, I2, r1, r2, r3, r4⟩ := ref2k h (-3) 3 (by decide) (by decide)
      refine ⟨-3, I1, I2, ?_, ?_, r3⟩
      · rw [f8, if_neg g0, nt24_n d3 (by omega) g1, r1]; rfl
      · rw [xal_n (by decide) (by decide), r4 58 (by decide), e8, if_neg g0]
        by_cases g : a1 < 0
        · rw [if_pos g, r2]; rfl
        · obtain ⟨j, hj, rfl⟩ := nI_of g
          rw [if_neg g, xal_n (by decide) (by decide), r4 58 (by decide), e3]
          by_cases g2 : nI (q 6) ≤ nI j
          · rw [if_pos g2, r2]; rfl
          · rw [if_neg g2]
            have hj1 : j < q 6 := Nat.not_le.mp (fun z => g2 (nI_le z hj))
            rw [if_neg (show ¬ nI j < (300 : Int32) from fun z => g1 ⟨j, hj1, (nI_ltI hj (show 300 < 2 ^ 31 by decide)).mp z, rfl⟩), r2]; rfl
theorem pr_delivery : xs_delivery xRel := by
  intro kp n I L a1 a2 hn h
  obtain ⟨⟨q, hB, hV⟩, -⟩ := id h
  have e3 : I 58 7 = nI (q 7) := hV.1.1 7 (by decide)
  have e8 : I 58 8 = nI (q 8) := hV.1.1 8 (by decide)
  have f8 : I 1 11 = nI (q 8) := hB.1.2.2.2.2.2.2.2.2.1
  have b3 : q 7 ≤ 30000 := (by have := hV.1.2.2.2.2.2.2.2.2.1; omega)
  have d3 : I 26 3 = nI (q 7) := hB.1.2.2.2.2.2.2.2.1
  unfold F_X10_delivery F_X10_readOf_26 F_X11_delivery F_X11_delivery_j39
  simp only [show ∀ (I : xTI), xal (R := Int32 × xTI) I 58 40670 7 = xal I 58 40670 (nI 7) from fun _ => rfl, show ∀ (I : xTI), xal (R := Int32 × xTI) I 58 40670 8 = xal I 58 40670 (nI 8) from fun _ => rfl, xin_iff, xbn_e]
  by_cases g0 : nI (q 8) = 0
  · obtain ⟨I1, I2, r1, r2, r3, r4⟩ := ref2k h (-2) 2 (by decide) (by decide)
    refine ⟨-2, I1, I2, ?_, ?_, r3⟩
    · rw [f8, if_pos g0, r1]; rfl
    · rw [xal_n (by decide) (by decide), r4 58 (by decide), e8, if_pos g0, r2]; rfl
  · by_cases g1 : ∃ j, j < q 7 ∧ j < 200 ∧ a1 = nI j
    · obtain ⟨j, hj, hj2, rfl⟩ := g1
      by_cases g2 : 0 ≤ a2 ∧ a2 ≤ 5
      · obtain ⟨t, -, ht, rfl⟩ := (rngl_iff (a := 0) (b := 5) (by decide) (by decide)).mp g2
        refine ⟨I 58 (4670 + 6 * j + t), I, I, ?_, ?_, pr_mono _ _ _ _ h⟩
        · rw [f8, if_neg g0, nt26_y d3 (by omega) hj hj2, cl26_y (by omega), at26 hj2 (by omega), hB.2.2.2.2.1.2.2.2 j hj t (by omega)]; rfl
        · rw [xal_n (by decide) (by decide), e8, if_neg g0, if_neg (nI_pos (by omega)), xal_n (by decide) (by decide), e3, if_neg (nI_ge hj (by omega)), if_pos (show nI j < (200 : Int32) from nI_lt (b := 200) hj2 (by decide))]
          simp only [Option.bind_some, ite01]
          rw [it_n g2, show (4670 : Int32) = nI 4670 from rfl, show (6 : Int32) = nI 6 from rfl, ixc, xal_n (by omega) (by decide)]
      · obtain ⟨I1, I2, r1, r2, r3, r4⟩ := ref2k h (-7) 7 (by decide) (by decide)
        refine ⟨-7, I1, I2, ?_, ?_, r3⟩
        · rw [f8, if_neg g0, nt26_y d3 (by omega) hj hj2, cl26_n g2, r1]; rfl
        · rw [xal_n (by decide) (by decide), r4 58 (by decide), e8, if_neg g0, if_neg (nI_pos (by omega)), xal_n (by decide) (by decide), r4 58 (by decide), e3, if_neg (nI_ge hj (by omega)), if_pos (show nI j < (200 : Int32) from nI_lt (b := 200) hj2 (by decide))]
          simp only [Option.bind_some, ite01]
          rw [it_p g2, r2]; rfl
    · obtain ⟨I1, I2, r1, r2, r3, r4⟩ := ref2k h (-3) 3 (by decide) (by decide)
      refine ⟨-3, I1, I2, ?_, ?_, r3⟩
      · rw [f8, if_neg g0, nt26_n d3 (by omega) g1, r1]; rfl
      · rw [xal_n (by decide) (by decide), r4 58 (by decide), e8, if_neg g0]
        by_cases g : a1 < 0
        · rw [if_pos g, r2]; rfl
        · obtain ⟨j, hj, rfl⟩ := nI_of g
          rw [if_neg g, xal_n (by decide) (by decide), r4 58 (by decide), e3]
          by_cases g2 : nI (q 7) ≤ nI j
          · rw [if_pos g2, r2]; rfl
          · rw [if_neg g2]
            have hj1 : j < q 7 := Nat.not_le.mp (fun z => g2 (nI_le z hj))
            rw [if_neg (show ¬ nI j < (200 : Int32) from fun z => g1 ⟨j, hj1, (nI_ltI hj (show 200 < 2 ^ 31 by decide)).mp z, rfl⟩), r2]; rfl
