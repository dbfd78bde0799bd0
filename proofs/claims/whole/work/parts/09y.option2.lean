theorem i64_sub {x : Int64} {p : Nat} (hp : p ≤ 9999) (h : (nI p).toInt64 ≤ x) (h2 : x.toInt < 2 ^ 62) : (x - (nI p).toInt64).toInt = x.toInt - p ∧ (p : Int) ≤ x.toInt := by
  have e : (nI p).toInt64.toInt = p := by rw [Int32.toInt_toInt64, nI_toInt (by omega)]
  have h1 := Int64.le_iff_toInt_le.mp h
  rw [e] at h1
  refine ⟨?_, h1⟩
  rw [Int64.toInt_sub, e]
  apply Int.bmod_eq_of_le <;> omega
def oL (L : xTL) (c a b : Nat) (x : Int64) : xTL := xup (xup L c a (L c a - x)) c b (L c b + x)
theorem oL_ne {L : xTL} {c a b : Nat} {x : Int64} {k : Nat} (h : k ≠ c) : oL L c a b x k = L k := by unfold oL; rw [xup_ne h, xup_ne h]
theorem oL_at {L : xTL} {c a b : Nat} {x : Int64} {j : Nat} : oL L c a b x c j = if j = b then L c b + x else if j = a then L c a - x else L c j := by unfold oL; rw [xup_at, xup_at]
def oI1 (I : xTI) (i : Nat) (w : Nat → Int32) : xTI := wr (xup I 20 3 (nI (i + 1))) 21 (7 * i) w 7
def oI2 (I : xTI) (i : Nat) (w : Nat → Int32) : xTI := xup (wr (oI1 I i w) 58 (912 + 7 * i) w 7) 58 3 (nI (i + 1))
/-- the class enters the option -/
theorem option_1 {I : xTI} {L : xTL} {a b i d z : Nat} {a1 a2 a3 : Int32} {p : Int32} (ha : a < 12) (hb : b < 12) (hab : a ≠ b) (ea : a1 / 100 = nI a) (eb : a1 - a1 / 100 * 100 = nI b) (hi : i < 20) (h20 : I 20 3 = nI i) (hd : I 1 0 = nI d) (hz : 1 ≤ z) (hm : F_X10_mayDeal I a1 = some 1) (hc : 0 ≤ lg_cmp (L 4 a) p.toInt64) : F_X10_option_j77 I L a1 a2 a3 (nI z) p 1 = some (nI i, oI1 I i (ow (nI a) (nI b) a2 (a3 / 10000) (a3 - a3 / 10000 * 10000) (nI (d + z - 1))), oL L 4 a b p.toInt64) := by
  have eb' : a1 - nI a * 100 = nI b := by rw [← ea]; exact eb
  unfold F_X10_option_j77 F_X8_hasRoom_20 F_X10_first F_X10_second
  simp only [xbn_e, hm, Option.bind_some, ea, eb', h20, hd]
  rw [if_neg (by decide), if_neg (by decide), xal_n ha (by decide), if_pos hc, if_neg (show ¬ (20 : Int32) ≤ nI i from nI_ge (b := 20) hi (by decide))]
  simp only [xzc_1, Option.bind_some]
  rw [if_neg (by decide), xal_n ha (by decide), xas_n ha (by decide), xal_n hb (by decide), xas_n hb (by decide), xup_at, if_neg (fun z => hab z.symm), nI_add, show (1 : Int32) = nI 1 from rfl, nI_sub (by omega), F10_eo hi h20]
  rfl
theorem pr_option : xs_option xRel := by
  intro kp n I L a1 a2 a3 a4 hn h
  obtain ⟨⟨q, hB, hV⟩, -⟩ := id h
  obtain ⟨c1, c2, c3, c4, c5, c6, c7, c8, c9⟩ := cnt hB hV
  have e3 : I 58 3 = nI (q 3) := hV.1.1 3 (by decide)
  have e5 : I 58 5 = nI (q 5) := hV.1.1 5 (by decide)
  have b3 : q 3 ≤ 20 := hV.1.2.2.2.2.1
  have b5 : q 5 ≤ 10 := hV.1.2.2.2.2.2.2.1
  have d3 : I 20 3 = nI (q 3) := hB.1.2.2.2.1
  have d5 : I 22 3 = nI (q 5) := hB.1.2.2.2.2.2.1
  unfold F_X10_option F_X11_option F_X10_option_j16 F_X11_option_j16 F_X11_option_j103
  rw [F10_am c1 c5, F10_stk c2]
  simp only [Option.bind_some, ite01, xwi_iff, xin_iff, xbn_e]
  by_cases g1 : men2 q a1
  · obtain ⟨a, b, ha, hb, ea, eb, -⟩ := men2_of c5 g1
    by_cases g2 : 0 ≤ a2 ∧ a2 ≤ nI (q 2) - 1
    · rw [it_n g1, it_n g2]
      have R : ∀ (I1 : xTI), I1 58 = I 58 → F_X11_areMen I1 a1 = some (if men2 q a1 then 1 else 0) ∧ F_X11_isStock I1 a2 = some (if 0 ≤ a2 ∧ a2 ≤ nI (q 2) - 1 then 1 else 0) ∧ F_X11_mayDeal I1 a1 = some (if deal2 (I 58) a b then 1 else 0) := fun I1 e => ⟨F11_am (by rw [e]; exact c3) c5 _, F11_stk (by rw [e]; exact c4) _, by rw [F11_md (by omega) (by omega) ea eb, e]⟩
      have MD := F10_md hB.2.1 hV.2.1 c9 c5 ha hb ea eb
      obtain ⟨J1, J2, r1, r2, r3, r4⟩ := ref2k h (-7) 7 (by decide) (by decide)
      have RJ := R J1 (r4 58 (by decide))
      have z0 : ∀ y3 y4, F_X10_option_j77 I L a1 a2 a3 y3 y4 0 = some (-7, J1, L) := fun y3 y4 => by
        unfold F_X10_option_j77 F_X10_option_j114; rw [if_pos rfl, r1]; rfl
      by_cases g3 : 1 ≤ a3 / 10000 ∧ a3 / 10000 ≤ 99
      · obtain ⟨sh, pr, s1, s2, s3, es, ep, g30⟩ := pair4 (M := 99) (by decide) (by decide) g3
        by_cases g4 : pr = 0
        · refine ⟨-7, J1, L, J2, L, ?_, ?_, r3⟩
          · rw [it_n g3, if_pos (show a3 - a3 / 10000 * 10000 ≤ 0 by rw [ep, g4]; decide), z0]
          · rw [RJ.1, RJ.2.1]
            simp only [Option.bind_some, ite01]
            rw [it_n g1, it_n g2, if_neg g30, it_n g3, if_pos (show a3 - a3 / 10000 * 10000 = 0 by rw [ep, g4]; rfl), r2]; rfl
        · have g4a : ¬ a3 - a3 / 10000 * 10000 ≤ 0 := by rw [ep]; exact nI_nle (by omega) (by omega)
          have g4b : ¬ a3 - a3 / 10000 * 10000 = 0 := by rw [ep]; exact nI_ne0 (by omega) (by omega)
          by_cases g5 : 1 ≤ a4 / 10000 ∧ a4 / 10000 ≤ 40
          · obtain ⟨z, px, z1, z2, z3, ez, epx, g50⟩ := pair4 (M := 40) (by decide) (by decide) g5
            rw [it_n g3, if_neg g4a, it_n g5]
            by_cases g6 : deal2 (I 58) a b
            · by_cases g7 : 0 ≤ lg_cmp (L 59 a) (a4 - a4 / 10000 * 10000).toInt64
              · by_cases g8 : q 3 < 20
                · sorry
                · sorry
              · sorry
            · refine ⟨-7, J1, L, J2, L, ?_, ?_, r3⟩
              · unfold F_X10_option_j77 F_X10_option_j114
                rw [MD, if_neg (by decide), Option.bind_some, if_pos (if_neg g6), r1]; rfl
              · rw [RJ.1, RJ.2.1, RJ.2.2]
                simp only [Option.bind_some, ite01]
                rw [it_n g1, it_n g2, if_neg g30, it_n g3, if_neg g4b, if_neg g50, it_n g5, it_p g6, r2]; rfl
          · refine ⟨-7, J1, L, J2, L, ?_, ?_, r3⟩
            · rw [it_n g3, if_neg g4a, it_p g5, z0]
            · rw [RJ.1, RJ.2.1]
              simp only [Option.bind_some, ite01]
              rw [it_n g1, it_n g2, if_neg g30, it_n g3, if_neg g4b]
              by_cases g50 : a4 < 0
              · rw [if_pos g50, r2]; rfl
              · rw [if_neg g50, it_p g5, r2]; rfl
      · refine ⟨-7, J1, L, J2, L, ?_, ?_, r3⟩
        · rw [it_p g3, z0]
        · rw [RJ.1, RJ.2.1]
          simp only [Option.bind_some, ite01]
          rw [it_n g1, it_n g2]
          by_cases g30 : a3 < 0
          · rw [if_pos g30, r2]; rfl
          · rw [if_neg g30, it_p g3, r2]; rfl
    · obtain ⟨I1, I2, r1, r2, r3, r4⟩ := ref2k h (-3) 3 (by decide) (by decide)
      refine ⟨-3, I1, L, I2, L, ?_, ?_, r3⟩
      · rw [it_n g1, it_p g2, r1]; rfl
      · rw [F11_am (q := q) (by rw [r4 58 (by decide)]; exact c3) c5, F11_stk (q := q) (by rw [r4 58 (by decide)]; exact c4)]
        simp only [Option.bind_some, ite01]
        rw [it_n g1, it_p g2, r2]; rfl
  · obtain ⟨I1, I2, r1, r2, r3, r4⟩ := ref2k h (-3) 3 (by decide) (by decide)
    refine ⟨-3, I1, L, I2, L, ?_, ?_, r3⟩
    · rw [it_p g1, r1]; rfl
    · rw [F11_am (q := q) (by rw [r4 58 (by decide)]; exact c3) c5]
      simp only [Option.bind_some, ite01]
      rw [it_p g1, r2]; rfl
