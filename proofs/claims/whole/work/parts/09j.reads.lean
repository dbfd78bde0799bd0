theorem nI_div {a b : Nat} (ha : a < 2 ^ 31) (hb0 : 0 < b) (hb : b < 2 ^ 31) : nI a / nI b = nI (a / b) := by
  apply Int32.toInt_inj.mp
  have e : (nI a / nI b).toInt = ((nI a).toInt.tdiv (nI b).toInt).bmod (2 ^ 32) := Int32.toInt_div _ _
  have hd : a / b ≤ a := Nat.div_le_self a b
  rw [e, nI_toInt ha, nI_toInt hb, nI_toInt (by omega), ← Int.ofNat_tdiv]
  generalize a / b = k at hd
  apply Int.bmod_eq_of_le <;> omega
theorem pr_has : xs_has xRel := by
  intro kp n I L a1 a2 a3 hn h
  obtain ⟨⟨q, hB, hV⟩, -⟩ := id h
  obtain ⟨c1, c2, c3, c4, c5, c6, c7, c8, c9⟩ := cnt hB hV
  unfold F_X10_has F_X11_has F_X10_has_j16 F_X11_has_j16 F_X1_account
  rw [F10_man c1 c5, F10_stk c2]
  simp only [Option.bind_some, ite01, xbn_e]
  by_cases g1 : 0 ≤ a1 ∧ a1 ≤ nI (q 1) - 1
  · by_cases g2 : 0 ≤ a2 ∧ a2 ≤ nI (q 2) - 1
    · obtain ⟨m, hm, rfl⟩ := (rng_iff (by omega)).mp g1
      obtain ⟨k, hk, rfl⟩ := (rng_iff (by omega)).mp g2
      have hh := hB.2.1.2.1 (5 * m + k) (by omega)
      by_cases z0 : a3 = 0
      · subst z0
        refine ⟨I 58 (64 + (5 * m + k)), I, I, ?_, ?_, pr_mono _ _ _ _ h⟩
        · rw [it_n g1, it_n g2, if_pos rfl, F3_pl, Option.bind_some, xal_n (by omega) (by decide), hh.1]
        · rw [F11_man c3, F11_stk c4]
          simp only [Option.bind_some, ite01]
          rw [it_n g1, it_n g2, if_pos trivial, show (64 : Int32) = nI 64 from rfl, ix5, xal_n (by omega) (by decide), Nat.add_assoc]
      · by_cases z1 : a3 = 1
        · subst z1
          refine ⟨fo (gNt (I 58) (nI m) (nI k) (nI (q 0) / 14)) 0 60, I, I, ?_, ?_, pr_mono _ _ _ _ h⟩
          · rw [it_n g1, it_n g2, if_neg (by decide), if_pos rfl, c7, F10_nt hB.2.2.2.1]; rfl
          · rw [F11_man c3, F11_stk c4]
            simp only [Option.bind_some, ite01]
            rw [it_n g1, it_n g2, if_neg z0, if_pos trivial, show (0 : Int32) = nI 0 from rfl, xal_n (by decide) (by decide), c8, F11_nt hV.2.2.1 c5]; rfl
        · by_cases z2 : a3 = 2
          · subst z2
            refine ⟨fo (gNt (I 58) (nI m) (nI k) (nI (q 0) / 14 + 1)) 0 60, I, I, ?_, ?_, pr_mono _ _ _ _ h⟩
            · rw [it_n g1, it_n g2, if_neg (by decide), if_neg (by decide), if_pos rfl, c7, F10_nt hB.2.2.2.1]; rfl
            · rw [F11_man c3, F11_stk c4]
              simp only [Option.bind_some, ite01]
              rw [it_n g1, it_n g2, if_neg z0, if_neg z1, if_pos trivial, show (0 : Int32) = nI 0 from rfl, xal_n (by decide) (by decide), c8, F11_nt hV.2.2.1 c5]; rfl
          · by_cases z3 : a3 = 3
            · subst z3
              refine ⟨I 58 (124 + (5 * m + k)), I, I, ?_, ?_, pr_mono _ _ _ _ h⟩
              · rw [it_n g1, it_n g2, if_neg (by decide), if_neg (by decide), if_neg (by decide), if_pos rfl, F3_pl, Option.bind_some, xal_n (by omega) (by decide), hh.2]
              · rw [F11_man c3, F11_stk c4]
                simp only [Option.bind_some, ite01]
                rw [it_n g1, it_n g2, if_neg z0, if_neg z1, if_neg z2, if_pos trivial, show (124 : Int32) = nI 124 from rfl, ix5, xal_n (by omega) (by decide), Nat.add_assoc]
            · obtain ⟨I1, I2, r1, r2, r3, r4⟩ := huz2k h (-7) 7 (by decide) (by decide)
              refine ⟨0, I1, I2, ?_, ?_, r3⟩
              · rw [it_n g1, it_n g2, if_neg z0, if_neg z1, if_neg z2, if_neg z3, r1]; rfl
              · rw [F11_man (q := q) (by rw [r4 58 (by decide)]; exact c3), F11_stk (q := q) (by rw [r4 58 (by decide)]; exact c4)]
                simp only [Option.bind_some, ite01]
                rw [it_n g1, it_n g2, if_neg z0, if_neg z1, if_neg z2, if_neg z3, r2]; rfl
    · obtain ⟨I1, I2, r1, r2, r3, r4⟩ := huz2k h (-3) 3 (by decide) (by decide)
      refine ⟨0, I1, I2, ?_, ?_, r3⟩
      · rw [it_n g1, it_p g2, r1]; rfl
      · rw [F11_man (q := q) (by rw [r4 58 (by decide)]; exact c3), F11_stk (q := q) (by rw [r4 58 (by decide)]; exact c4)]
        simp only [Option.bind_some, ite01]
        rw [it_n g1, it_p g2, r2]; rfl
  · obtain ⟨I1, I2, r1, r2, r3, r4⟩ := huz2k h (-3) 3 (by decide) (by decide)
    refine ⟨0, I1, I2, ?_, ?_, r3⟩
    · rw [it_p g1, r1]; rfl
    · rw [F11_man (q := q) (by rw [r4 58 (by decide)]; exact c3)]
      simp only [Option.bind_some, ite01]
      rw [it_p g1, r2]; rfl
theorem pr_knew : xs_knew xRel := by
  intro kp n I L a1 a2 a3 a4 hn h
  obtain ⟨⟨q, hB, hV⟩, -⟩ := id h
  obtain ⟨c1, c2, c3, c4, c5, c6, c7, c8, c9⟩ := cnt hB hV
  unfold F_X10_knew F_X11_knew F_X10_knew_j16 F_X11_knew_j16 F_X10_knew_j43 F_X11_knew_j42
  rw [F10_man c1 c5, F10_stk c2]
  simp only [Option.bind_some, ite01, xbn_e, xwi_iff, xin_iff]
  by_cases g1 : 0 ≤ a1 ∧ a1 ≤ nI (q 1) - 1
  · by_cases g2 : 0 ≤ a2 ∧ a2 ≤ nI (q 2) - 1
    · by_cases g3 : a3 < 0
      · obtain ⟨I1, I2, r1, r2, r3, r4⟩ := huz2k h (-7) 7 (by decide) (by decide)
        refine ⟨0, I1, I2, ?_, ?_, r3⟩
        · rw [it_n g1, it_n g2, if_pos g3, r1]; rfl
        · rw [F11_man (q := q) (by rw [r4 58 (by decide)]; exact c3), F11_stk (q := q) (by rw [r4 58 (by decide)]; exact c4)]
          simp only [Option.bind_some, ite01]
          rw [it_n g1, it_n g2, if_pos g3, r2]; rfl
      · by_cases g4 : 0 ≤ a4 ∧ a4 ≤ nI (q 0)
        · refine ⟨fo (gKn (I 58) a1 a2 a3 a4) 0 60, I, I, ?_, ?_, pr_mono _ _ _ _ h⟩
          · rw [it_n g1, it_n g2, if_neg g3, c7, it_n g4, F10_kn hB.2.2.2.1]; rfl
          · rw [F11_man c3, F11_stk c4, show xal I 58 40670 0 = xal I 58 40670 (nI 0) from rfl]
            simp only [Option.bind_some, ite01]
            rw [it_n g1, it_n g2, if_neg g3, xal_n (by decide) (by decide), c8, it_n g4, F11_kn hV.2.2.1 c5]
        · obtain ⟨I1, I2, r1, r2, r3, r4⟩ := huz2k h (-7) 7 (by decide) (by decide)
          refine ⟨0, I1, I2, ?_, ?_, r3⟩
          · rw [it_n g1, it_n g2, if_neg g3, c7, it_p g4, r1]; rfl
          · rw [F11_man (q := q) (by rw [r4 58 (by decide)]; exact c3), F11_stk (q := q) (by rw [r4 58 (by decide)]; exact c4), show xal I1 58 40670 0 = xal I1 58 40670 (nI 0) from rfl]
            simp only [Option.bind_some, ite01]
            rw [it_n g1, it_n g2, if_neg g3, xal_n (by decide) (by decide), r4 58 (by decide), c8, it_p g4, r2]; rfl
    · obtain ⟨I1, I2, r1, r2, r3, r4⟩ := huz2k h (-3) 3 (by decide) (by decide)
      refine ⟨0, I1, I2, ?_, ?_, r3⟩
      · rw [it_n g1, it_p g2, r1]; rfl
      · rw [F11_man (q := q) (by rw [r4 58 (by decide)]; exact c3), F11_stk (q := q) (by rw [r4 58 (by decide)]; exact c4)]
        simp only [Option.bind_some, ite01]
        rw [it_n g1, it_p g2, r2]; rfl
  · obtain ⟨I1, I2, r1, r2, r3, r4⟩ := huz2k h (-3) 3 (by decide) (by decide)
    refine ⟨0, I1, I2, ?_, ?_, r3⟩
    · rw [it_p g1, r1]; rfl
    · rw [F11_man (q := q) (by rw [r4 58 (by decide)]; exact c3)]
      simp only [Option.bind_some, ite01]
      rw [it_p g1, r2]; rfl
