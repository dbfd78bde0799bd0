/-! a bargain is there: both say the same -/
theorem th_y {I : xTI} {q : Nat → Nat} {b : Nat} (hB : BRb I (I 58)) (hV : IVb (I 58) q) (hb : b < 60) (h : I 58 (192 + 12 * b) = 1) : F_X0_isThere I (nI b) = some 1 := by
  unfold F_X0_isThere
  rw [if_neg (nI_pos (by omega)), if_neg (n60 hb), at12_7 hb, bcell hB hb h (by decide)]
  rcases bstate hV hb with g | ⟨-, sta, g1, g2⟩
  · rw [h] at g; exact absurd g (by decide)
  · simp only [Option.bind_some]
    rw [show 192 + 12 * b + (7 + 1) = 192 + 12 * b + 8 by omega, g2, if_neg (nI_ne_m1 (by omega))]; rfl
theorem th_n {I : xTI} {a : Int32} (hB : BRb I (I 58)) (h : ¬ ∃ b, b < 60 ∧ a = nI b ∧ I 58 (192 + 12 * b) = 1) : F_X0_isThere I a = some 0 := by
  unfold F_X0_isThere
  by_cases g : a < 0
  · rw [if_pos g]; rfl
  · rw [if_neg g]
    obtain ⟨j, hj, rfl⟩ := nI_of g
    by_cases g2 : (60 : Int32) ≤ nI j
    · rw [if_pos g2]; rfl
    · have hb : j < 60 := Nat.not_le.mp (fun z => g2 (nI_le (a := 60) z hj))
      rw [if_neg g2, at12_7 hb]
      rcases hB j hb with ⟨h1, h2⟩ | ⟨h1, h2⟩
      · rw [h2]; rfl
      · exact absurd ⟨j, hb, rfl, h1⟩ h
theorem bn_y {I : xTI} {b : Nat} (hb : b < 60) (h : I 58 (192 + 12 * b) = 1) : F_X11_isBargain I (nI b) = some 1 := by
  unfold F_X11_isBargain
  have g : (0 : Int32) ≤ nI b ∧ nI b ≤ 59 := ⟨nI_pos' (by omega), nI_le (b := 59) (by omega) (by decide)⟩
  rw [bg11_0 hb, xin_iff]
  simp only [Option.bind_some, ite01]
  rw [it_n g, h]; rfl
theorem bn_n {I : xTI} {q : Nat → Nat} {a : Int32} (hV : IVb (I 58) q) (h : ¬ ∃ b, b < 60 ∧ a = nI b ∧ I 58 (192 + 12 * b) = 1) : F_X11_isBargain I a = some 0 := by
  unfold F_X11_isBargain
  rw [xin_iff]
  simp only [Option.bind_some, ite01]
  by_cases g : 0 ≤ a ∧ a ≤ 59
  · obtain ⟨b, -, hb, rfl⟩ := (rngl_iff (a := 0) (b := 59) (by decide) (by decide)).mp g
    rw [it_n g, bg11_0 (by omega)]
    rcases hV b (by omega) with z | ⟨z, -⟩
    · rw [z]; rfl
    · exact absurd ⟨b, by omega, rfl, z⟩ h
  · rw [it_p g]; rfl
theorem pr_of : xs_of xRel := by
  intro kp n I L a1 a2 hn h
  obtain ⟨⟨q, hB, hV⟩, -⟩ := id h
  unfold F_X10_of F_X11_of F_X0_at
  simp only [xwi_iff, xin_iff]
  by_cases g1 : ∃ b, b < 60 ∧ a1 = nI b ∧ I 58 (192 + 12 * b) = 1
  · obtain ⟨b, hb, rfl, h1⟩ := g1
    by_cases g2 : 0 ≤ a2 ∧ a2 ≤ 10
    · obtain ⟨t, -, ht, rfl⟩ := (rngl_iff (a := 0) (b := 10) (by decide) (by decide)).mp g2
      refine ⟨I 58 (192 + 12 * b + (t + 1)), I, I, ?_, ?_, pr_mono _ _ _ _ h⟩
      · rw [th_y hB.2.2.2.1 hV.2.2.1 hb h1]
        simp only [Option.bind_some, ite01]
        rw [if_neg (by decide), it_n g2, at12 hb (by omega), bcell hB.2.2.2.1 hb h1 (by omega)]; rfl
      · rw [bn_y hb h1]
        simp only [Option.bind_some, ite01]
        rw [if_neg (by decide), it_n g2, show (1 : Int32) + nI t = nI (t + 1) from by rw [show (1 : Int32) = nI 1 from rfl, nI_add, Nat.add_comm], bg11 hb (by omega)]; rfl
    · obtain ⟨I1, I2, r1, r2, r3, r4⟩ := ref2k h (-7) 7 (by decide) (by decide)
      refine ⟨-7, I1, I2, ?_, ?_, r3⟩
      · rw [th_y hB.2.2.2.1 hV.2.2.1 hb h1]
        simp only [Option.bind_some, ite01]
        rw [if_neg (by decide), it_p g2, r1]; rfl
      · rw [bn_y hb (by rw [r4 58 (by decide)]; exact h1)]
        simp only [Option.bind_some, ite01]
        rw [if_neg (by decide), it_p g2, r2]; rfl
  · obtain ⟨I1, I2, r1, r2, r3, r4⟩ := ref2k h (-3) 3 (by decide) (by decide)
    refine ⟨-3, I1, I2, ?_, ?_, r3⟩
    · rw [th_n hB.2.2.2.1 g1, r1]; rfl
    · rw [bn_n (q := q) (by rw [r4 58 (by decide)]; exact hV.2.2.1) (by rw [r4 58 (by decide)]; exact g1), r2]; rfl
theorem pr_settled : xs_settled xRel := by
  intro kp n I L a1 a2 hn h
  obtain ⟨⟨q, hB, hV⟩, -⟩ := id h
  obtain ⟨c1, c2, c3, c4, c5, c6, c7, c8, c9⟩ := cnt hB hV
  have e9 : I 58 9 = nI (q 9) := hV.1.1 9 (by decide)
  have f9 : I 1 12 = nI (q 9) := hB.1.2.2.2.2.2.2.2.2.2
  unfold F_X10_settled F_X11_settled
  rw [F10_man c1 c5]
  simp only [show ∀ (I : xTI), xal (R := Int64 × xTI) I 58 40670 9 = xal I 58 40670 (nI 9) from fun _ => rfl, xin_iff, xwi_iff, xbn_e, Option.bind_some, ite01]
  by_cases g0 : nI (q 9) = 0
  · obtain ⟨I1, I2, r1, r2, r3, r4⟩ := huz2k h (-2) 2 (by decide) (by decide)
    refine ⟨0, I1, I2, ?_, ?_, r3⟩
    · rw [f9, if_pos g0, r1]; rfl
    · rw [xal_n (by decide) (by decide), r4 58 (by decide), e9, if_pos g0, r2]; rfl
  · by_cases g1 : 0 ≤ a1 ∧ a1 ≤ nI (q 1) - 1
    · obtain ⟨m, hm, rfl⟩ := (rng_iff (by omega)).mp g1
      by_cases g2 : 0 ≤ a2 ∧ a2 ≤ 4
      · obtain ⟨t, -, ht, rfl⟩ := (rngl_iff (a := 0) (b := 4) (by decide) (by decide)).mp g2
        refine ⟨L 28 (5 * m + t), I, I, ?_, ?_, pr_mono _ _ _ _ h⟩
        · rw [f9, if_neg g0, it_n g1, it_n g2, show (5 : Int32) = nI 5 from rfl, nI_mul, nI_add, xal_n (by omega) (by decide), Nat.mul_comm m 5]
        · rw [xal_n (by decide) (by decide), e9, if_neg g0, F11_man c3]
          simp only [Option.bind_some, ite01]
          rw [it_n g1, it_n g2]
          by_cases g4 : nI t = 4
          · have : t = 4 := (nI_eq (b := 4) (by omega) (by decide)).mp g4
            subst this
            rw [if_pos g4, show (16 : Int32) = nI 16 from rfl, show (3 : Int32) = nI 3 from rfl, ix4b, xal_n (by omega) (by decide), (hB.2.2.1.2.2 m (by omega)).2]
          · have : t < 4 := by
              rcases Nat.lt_or_eq_of_le ht with z | z
              · exact z
              · exact absurd (by rw [z]; rfl) g4
            rw [if_neg g4, show (168 : Int32) = nI 168 from rfl, ix4b, xal_n (by omega) (by decide), (hB.2.2.1.2.2 m (by omega)).1 t this]
      · obtain ⟨I1, I2, r1, r2, r3, r4⟩ := huz2k h (-7) 7 (by decide) (by decide)
        refine ⟨0, I1, I2, ?_, ?_, r3⟩
        · rw [f9, if_neg g0, it_n g1, it_p g2, r1]; rfl
        · rw [xal_n (by decide) (by decide), r4 58 (by decide), e9, if_neg g0, F11_man (q := q) (by rw [r4 58 (by decide)]; exact c3)]
          simp only [Option.bind_some, ite01]
          rw [it_n g1, it_p g2, r2]; rfl
    · obtain ⟨I1, I2, r1, r2, r3, r4⟩ := huz2k h (-3) 3 (by decide) (by decide)
      refine ⟨0, I1, I2, ?_, ?_, r3⟩
      · rw [f9, if_neg g0, it_p g1, r1]; rfl
      · rw [xal_n (by decide) (by decide), r4 58 (by decide), e9, if_neg g0, F11_man (q := q) (by rw [r4 58 (by decide)]; exact c3)]
        simp only [Option.bind_some, ite01]
        rw [it_p g1, r2]; rfl
/-- bargains in a state; men UP -/
def gSt (s : Nat → Int32) (st : Int32) (b : Nat) (x : Int32) : Int32 := if s (192 + 12 * b) = 1 ∧ s (192 + 12 * b + 8) = st then x + 1 else x
theorem F10_ins {I : xTI} (hB : BRb I (I 58)) {st : Int32} (hst : st ≠ -1) : F_X0_inState xN I st = some (fo (gSt (I 58) st) 0 60) := by
  unfold F_X0_inState F_X0_inState_b4
  refine xlp_fo (gSt (I 58) st) 0 60 (fun x => some x) (fun b hb x K => ?_) (fun x K => ?_) xN (by decide)
  · show F_X0_inState_c4 xN I st x (nI b) K = _
    unfold F_X0_inState_c4 gSt
    rw [if_neg (n60 hb), at12_7 hb]
    simp only [Option.bind_some, xbn_e, nI_1]
    rcases hB b hb with ⟨h1, h2⟩ | ⟨h1, h2⟩
    · rw [h1, h2, if_neg (fun z => hst z.symm), if_neg (fun z => absurd z.1 (by decide))]
    · rw [bcell hB hb h1 (by decide), show 192 + 12 * b + (7 + 1) = 192 + 12 * b + 8 by omega]
      by_cases e : I 58 (192 + 12 * b + 8) = st
      · rw [if_pos e, if_pos ⟨h1, e⟩]
      · rw [if_neg e, if_neg (fun z => e z.2)]
  · show F_X0_inState_c4 xN I st x (nI 60) K = _
    unfold F_X0_inState_c4
    rw [if_pos (by decide)]
theorem F11_ins {I : xTI} (st : Int32) : F_X11_manyOf xN I st = some (fo (gSt (I 58) st) 0 60) := by
  unfold F_X11_manyOf F_X11_manyOf_b4
  refine xlp_fo (gSt (I 58) st) 0 60 (fun x => some x) (fun b hb x K => ?_) (fun x K => ?_) xN (by decide)
  · show F_X11_manyOf_c4 xN I st x (nI b) K = _
    unfold F_X11_manyOf_c4 F_X11_manyOf_j37 gSt
    rw [if_neg (n60 hb), bg11_0 hb, bg11_8 hb]
    simp only [Option.bind_some, xbn_e, nI_1]
    by_cases e1 : I 58 (192 + 12 * b) = 1
    · by_cases e : I 58 (192 + 12 * b + 8) = st
      · rw [if_pos e1, if_pos e, if_pos ⟨e1, e⟩]
      · rw [if_pos e1, if_neg e, if_neg (fun z => e z.2), Int32.add_zero]
    · rw [if_neg e1, if_neg (fun z => e1 z.1), Int32.add_zero]
  · show F_X11_manyOf_c4 xN I st x (nI 60) K = _
    unfold F_X11_manyOf_c4
    rw [if_pos (by decide)]
def gUp (s : Nat → Int32) (m : Nat) (x : Int32) : Int32 := if s (16 + 4 * m) = 1 then x + 1 else x
theorem F10_ups {I : xTI} {q : Nat → Nat} {n : Nat} (h1 : BRm I (I 58) q) (h2 : IVm (I 58) q n) (hq : q 0 ≤ 700) (hq1 : q 1 ≤ 12) (h3 : I 3 0 = nI (q 1)) : F_X3_upCount xN I = some (fo (gUp (I 58)) 0 (q 1)) := by
  unfold F_X3_upCount F_X3_upCount_b4
  refine xlp_fo (gUp (I 58)) 0 (q 1) (fun x => some x) (fun b hb x K => ?_) (fun x K => ?_) xN (by show q 1 < 100000; omega)
  · show F_X3_upCount_c4 xN I x (nI b) K = _
    unfold F_X3_upCount_c4 gUp
    rw [xbn_e, h3, if_neg (nI_ge hb (by omega)), F10_up h1 h2 hq hq1 hb]
    simp only [Option.bind_some, xbn_e, nI_1, ite01]
    by_cases e : I 58 (16 + 4 * b) = 1
    · rw [it_n e, if_pos e]
    · rw [it_p e, if_neg e]
  · show F_X3_upCount_c4 xN I x (nI (q 1)) K = _
    unfold F_X3_upCount_c4
    rw [xbn_e, h3, if_pos (nI_le (Nat.le_refl _) (by omega))]
theorem F11_ups {I : xTI} {q : Nat → Nat} (hq1 : q 1 ≤ 12) (h3 : I 58 1 = nI (q 1)) : F_X11_menUp xN I = some (fo (gUp (I 58)) 0 (q 1)) := by
  unfold F_X11_menUp F_X11_menUp_b4
  refine xlp_fo (gUp (I 58)) 0 (q 1) (fun x => some x) (fun b hb x K => ?_) (fun x K => ?_) xN (by show q 1 < 100000; omega)
  · show F_X11_menUp_c4 xN I x (nI b) K = _
    unfold F_X11_menUp_c4 F_X11_menUp_j28 gUp
    rw [show xal (R := Int32) I 58 40670 1 = xal I 58 40670 (nI 1) from rfl, xal_n (by decide) (by decide), h3, if_neg (nI_ge hb (by omega)), F11_up (by omega)]
    simp only [Option.bind_some, xbn_e, nI_1, ite01]
    by_cases e : I 58 (16 + 4 * b) = 1
    · rw [it_n e, if_pos e]
    · rw [it_p e, if_neg e, Int32.add_zero]
  · show F_X11_menUp_c4 xN I x (nI (q 1)) K = _
    unfold F_X11_menUp_c4
    rw [show xal (R := Int32) I 58 40670 1 = xal I 58 40670 (nI 1) from rfl, xal_n (by decide) (by decide), h3, if_pos (nI_le (Nat.le_refl _) (by omega))]
theorem F10_plc (I : xTI) : F_X1_place I = some (I 1 0 - I 1 0 / 14 * 14) := rfl
theorem F10_acc (I : xTI) : F_X1_account I = some (I 1 0 / 14) := rfl
theorem pr_count : xs_count xRel := by
  intro kp n I L a1 hn h
  obtain ⟨⟨q, hB, hV⟩, ⟨tp, -, t1, t2, -⟩, -⟩ := id h
  obtain ⟨c1, c2, c3, c4, c5, c6, c7, c8, c9⟩ := cnt hB hV
  obtain ⟨d0, d1, d2, d3, d4, d5, d6, d7, -⟩ := hB.1
  have hs := hV.1.1
  unfold F_X10_count F_X11_count
  by_cases z0 : a1 = 0
  · subst z0
    refine ⟨nI (q 0), I, I, ?_, ?_, pr_mono _ _ _ _ h⟩
    · rw [if_pos rfl, xbn_e, d0]
    · rw [if_pos rfl, show xal (R := Int32 × xTI) I 58 40670 0 = xal I 58 40670 (nI 0) from rfl, xal_n (by decide) (by decide), hs 0 (by decide)]
  by_cases z1 : a1 = 1
  · subst z1
    refine ⟨nI (q 0) - nI (q 0) / 14 * 14, I, I, ?_, ?_, pr_mono _ _ _ _ h⟩
    · rw [if_neg (by decide), if_pos rfl, F10_plc, d0]; rfl
    · rw [if_neg (by decide), if_pos rfl, show xal (R := Int32 × xTI) I 58 40670 0 = xal I 58 40670 (nI 0) from rfl, xal_n (by decide) (by decide), hs 0 (by decide)]
  by_cases z2 : a1 = 2
  · subst z2
    refine ⟨nI (q 0) / 14, I, I, ?_, ?_, pr_mono _ _ _ _ h⟩
    · rw [if_neg (by decide), if_neg (by decide), if_pos rfl, F10_acc, d0]; rfl
    · rw [if_neg (by decide), if_neg (by decide), if_pos rfl, show xal (R := Int32 × xTI) I 58 40670 0 = xal I 58 40670 (nI 0) from rfl, xal_n (by decide) (by decide), hs 0 (by decide)]
  by_cases z3 : a1 = 3
  · subst z3
    refine ⟨nI (q 1), I, I, ?_, ?_, pr_mono _ _ _ _ h⟩
    · rw [if_neg (by decide), if_neg (by decide), if_neg (by decide), if_pos rfl, xbn_e, d1]
    · rw [if_neg (by decide), if_neg (by decide), if_neg (by decide), if_pos rfl, show xal (R := Int32 × xTI) I 58 40670 1 = xal I 58 40670 (nI 1) from rfl, xal_n (by decide) (by decide), hs 1 (by decide)]
  by_cases z4 : a1 = 4
  · subst z4
    refine ⟨nI (q 2), I, I, ?_, ?_, pr_mono _ _ _ _ h⟩
    · rw [if_neg (by decide), if_neg (by decide), if_neg (by decide), if_neg (by decide), if_pos rfl, xbn_e, d2]
    · rw [if_neg (by decide), if_neg (by decide), if_neg (by decide), if_neg (by decide), if_pos rfl, show xal (R := Int32 × xTI) I 58 40670 2 = xal I 58 40670 (nI 2) from rfl, xal_n (by decide) (by decide), hs 2 (by decide)]
  by_cases z5 : a1 = 5
  · subst z5
    refine ⟨fo (gSt (I 58) 0) 0 60, I, I, ?_, ?_, pr_mono _ _ _ _ h⟩
    · rw [if_neg (by decide), if_neg (by decide), if_neg (by decide), if_neg (by decide), if_neg (by decide), if_pos rfl, show ((5 : Int32) - 5) = 0 from by decide, F10_ins hB.2.2.2.1 (by decide)]; rfl
    · rw [if_neg (by decide), if_neg (by decide), if_neg (by decide), if_neg (by decide), if_neg (by decide), if_pos rfl, F11_ins]; rfl
  by_cases z6 : a1 = 6
  · subst z6
    refine ⟨fo (gSt (I 58) 1) 0 60, I, I, ?_, ?_, pr_mono _ _ _ _ h⟩
    · rw [if_neg (by decide), if_neg (by decide), if_neg (by decide), if_neg (by decide), if_neg (by decide), if_neg (by decide), if_pos rfl, show ((6 : Int32) - 5) = 1 from by decide, F10_ins hB.2.2.2.1 (by decide)]; rfl
    · rw [if_neg (by decide), if_neg (by decide), if_neg (by decide), if_neg (by decide), if_neg (by decide), if_neg (by decide), if_pos rfl, F11_ins]; rfl
  by_cases z7 : a1 = 7
  · subst z7
    refine ⟨fo (gSt (I 58) 2) 0 60, I, I, ?_, ?_, pr_mono _ _ _ _ h⟩
    · rw [if_neg (by decide), if_neg (by decide), if_neg (by decide), if_neg (by decide), if_neg (by decide), if_neg (by decide), if_neg (by decide), if_pos rfl, show ((7 : Int32) - 5) = 2 from by decide, F10_ins hB.2.2.2.1 (by decide)]; rfl
    · rw [if_neg (by decide), if_neg (by decide), if_neg (by decide), if_neg (by decide), if_neg (by decide), if_neg (by decide), if_neg (by decide), if_pos rfl, F11_ins]; rfl
  by_cases z8 : a1 = 8
  · subst z8
    refine ⟨fo (gSt (I 58) 3) 0 60, I, I, ?_, ?_, pr_mono _ _ _ _ h⟩
    · rw [if_neg (by decide), if_neg (by decide), if_neg (by decide), if_neg (by decide), if_neg (by decide), if_neg (by decide), if_neg (by decide), if_neg (by decide), if_pos rfl, show ((8 : Int32) - 5) = 3 from by decide, F10_ins hB.2.2.2.1 (by decide)]; rfl
    · rw [if_neg (by decide), if_neg (by decide), if_neg (by decide), if_neg (by decide), if_neg (by decide), if_neg (by decide), if_neg (by decide), if_neg (by decide), if_pos rfl, F11_ins]; rfl
  by_cases z9 : a1 = 9
  · subst z9
    refine ⟨nI (q 3), I, I, ?_, ?_, pr_mono _ _ _ _ h⟩
    · rw [if_neg (by decide), if_neg (by decide), if_neg (by decide), if_neg (by decide), if_neg (by decide), if_neg (by decide), if_neg (by decide), if_neg (by decide), if_neg (by decide), if_pos rfl, xbn_e, d3]
    · rw [if_neg (by decide), if_neg (by decide), if_neg (by decide), if_neg (by decide), if_neg (by decide), if_neg (by decide), if_neg (by decide), if_neg (by decide), if_neg (by decide), if_pos rfl, show xal (R := Int32 × xTI) I 58 40670 3 = xal I 58 40670 (nI 3) from rfl, xal_n (by decide) (by decide), hs 3 (by decide)]
  by_cases z10 : a1 = 10
  · subst z10
    refine ⟨nI (q 4), I, I, ?_, ?_, pr_mono _ _ _ _ h⟩
    · rw [if_neg (by decide), if_neg (by decide), if_neg (by decide), if_neg (by decide), if_neg (by decide), if_neg (by decide), if_neg (by decide), if_neg (by decide), if_neg (by decide), if_neg (by decide), if_pos rfl, xbn_e, d4]
    · rw [if_neg (by decide), if_neg (by decide), if_neg (by decide), if_neg (by decide), if_neg (by decide), if_neg (by decide), if_neg (by decide), if_neg (by decide), if_neg (by decide), if_neg (by decide), if_pos rfl, show xal (R := Int32 × xTI) I 58 40670 4 = xal I 58 40670 (nI 4) from rfl, xal_n (by decide) (by decide), hs 4 (by decide)]
  by_cases z11 : a1 = 11
  · subst z11
    refine ⟨nI tp, I, I, ?_, ?_, pr_mono _ _ _ _ h⟩
    · rw [if_neg (by decide), if_neg (by decide), if_neg (by decide), if_neg (by decide), if_neg (by decide), if_neg (by decide), if_neg (by decide), if_neg (by decide), if_neg (by decide), if_neg (by decide), if_neg (by decide), if_pos rfl, xbn_e, t1]
    · rw [if_neg (by decide), if_neg (by decide), if_neg (by decide), if_neg (by decide), if_neg (by decide), if_neg (by decide), if_neg (by decide), if_neg (by decide), if_neg (by decide), if_neg (by decide), if_neg (by decide), if_pos rfl, xbn_e, t2]
  by_cases z12 : a1 = 12
  · subst z12
    refine ⟨nI (q 1) - fo (gUp (I 58)) 0 (q 1), I, I, ?_, ?_, pr_mono _ _ _ _ h⟩
    · rw [if_neg (by decide), if_neg (by decide), if_neg (by decide), if_neg (by decide), if_neg (by decide), if_neg (by decide), if_neg (by decide), if_neg (by decide), if_neg (by decide), if_neg (by decide), if_neg (by decide), if_neg (by decide), if_pos rfl, xbn_e, d1, F10_ups hB.2.1 hV.2.1 c9 c5 c1]; rfl
    · rw [if_neg (by decide), if_neg (by decide), if_neg (by decide), if_neg (by decide), if_neg (by decide), if_neg (by decide), if_neg (by decide), if_neg (by decide), if_neg (by decide), if_neg (by decide), if_neg (by decide), if_neg (by decide), if_pos rfl, show xal (R := Int32 × xTI) I 58 40670 1 = xal I 58 40670 (nI 1) from rfl, xal_n (by decide) (by decide), c3, F11_ups c5 c3]; rfl
  by_cases z13 : a1 = 13
  · subst z13
    refine ⟨nI (q 6), I, I, ?_, ?_, pr_mono _ _ _ _ h⟩
    · rw [if_neg (by decide), if_neg (by decide), if_neg (by decide), if_neg (by decide), if_neg (by decide), if_neg (by decide), if_neg (by decide), if_neg (by decide), if_neg (by decide), if_neg (by decide), if_neg (by decide), if_neg (by decide), if_neg (by decide), if_pos rfl, xbn_e, d6]
    · rw [if_neg (by decide), if_neg (by decide), if_neg (by decide), if_neg (by decide), if_neg (by decide), if_neg (by decide), if_neg (by decide), if_neg (by decide), if_neg (by decide), if_neg (by decide), if_neg (by decide), if_neg (by decide), if_neg (by decide), if_pos rfl, show xal (R := Int32 × xTI) I 58 40670 6 = xal I 58 40670 (nI 6) from rfl, xal_n (by decide) (by decide), hs 6 (by decide)]
  by_cases z14 : a1 = 14
  · subst z14
    refine ⟨nI (q 7), I, I, ?_, ?_, pr_mono _ _ _ _ h⟩
    · rw [if_neg (by decide), if_neg (by decide), if_neg (by decide), if_neg (by decide), if_neg (by decide), if_neg (by decide), if_neg (by decide), if_neg (by decide), if_neg (by decide), if_neg (by decide), if_neg (by decide), if_neg (by decide), if_neg (by decide), if_neg (by decide), if_pos rfl, xbn_e, d7]
    · rw [if_neg (by decide), if_neg (by decide), if_neg (by decide), if_neg (by decide), if_neg (by decide), if_neg (by decide), if_neg (by decide), if_neg (by decide), if_neg (by decide), if_neg (by decide), if_neg (by decide), if_neg (by decide), if_neg (by decide), if_neg (by decide), if_pos rfl, show xal (R := Int32 × xTI) I 58 40670 7 = xal I 58 40670 (nI 7) from rfl, xal_n (by decide) (by decide), hs 7 (by decide)]
  by_cases z15 : a1 = 15
  · subst z15
    refine ⟨nI (q 5), I, I, ?_, ?_, pr_mono _ _ _ _ h⟩
    · rw [if_neg (by decide), if_neg (by decide), if_neg (by decide), if_neg (by decide), if_neg (by decide), if_neg (by decide), if_neg (by decide), if_neg (by decide), if_neg (by decide), if_neg (by decide), if_neg (by decide), if_neg (by decide), if_neg (by decide), if_neg (by decide), if_neg (by decide), if_pos rfl, xbn_e, d5]
    · rw [if_neg (by decide), if_neg (by decide), if_neg (by decide), if_neg (by decide), if_neg (by decide), if_neg (by decide), if_neg (by decide), if_neg (by decide), if_neg (by decide), if_neg (by decide), if_neg (by decide), if_neg (by decide), if_neg (by decide), if_neg (by decide), if_neg (by decide), if_pos rfl, show xal (R := Int32 × xTI) I 58 40670 5 = xal I 58 40670 (nI 5) from rfl, xal_n (by decide) (by decide), hs 5 (by decide)]
  obtain ⟨I1, I2, r1, r2, r3, r4⟩ := ref2k h (-7) 7 (by decide) (by decide)
  refine ⟨-7, I1, I2, ?_, ?_, r3⟩
  · rw [if_neg z0, if_neg z1, if_neg z2, if_neg z3, if_neg z4, if_neg z5, if_neg z6, if_neg z7, if_neg z8, if_neg z9, if_neg z10, if_neg z11, if_neg z12, if_neg z13, if_neg z14, if_neg z15, r1]; rfl
  · rw [if_neg z0, if_neg z1, if_neg z2, if_neg z3, if_neg z4, if_neg z5, if_neg z6, if_neg z7, if_neg z8, if_neg z9, if_neg z10, if_neg z11, if_neg z12, if_neg z13, if_neg z14, if_neg z15, r2]; rfl
