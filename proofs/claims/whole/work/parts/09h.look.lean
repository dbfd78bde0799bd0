theorem in3 {a : Int32} (h : 0 ≤ a ∧ a ≤ 2) : a = 0 ∨ a = 1 ∨ a = 2 := by
  obtain ⟨j, -, h2, rfl⟩ := (rngl_iff (a := 0) (b := 2) (by decide) (by decide)).mp h
  have : j = 0 ∨ j = 1 ∨ j = 2 := by omega
  rcases this with rfl | rfl | rfl
  · exact Or.inl rfl
  · exact Or.inr (Or.inl rfl)
  · exact Or.inr (Or.inr rfl)
theorem ix4b (c a b : Nat) : ((nI c) + (4 * nI a)) + nI b = nI (c + 4 * a + b) := by
  rw [show (4 : Int32) = nI 4 from rfl, nI_mul, nI_add, nI_add]
theorem pr_look : xs_look xRel := by
  intro kp n I L a1 a2 hn h
  obtain ⟨⟨q, hB, hV⟩, -⟩ := id h
  obtain ⟨c1, c2, c3, c4, c5, c6, -, -, c9⟩ := cnt hB hV
  unfold F_X10_look F_X11_look
  rw [F10_man c1 c5]
  simp only [Option.bind_some, ite01]
  by_cases g1 : 0 ≤ a1 ∧ a1 ≤ nI (q 1) - 1
  · obtain ⟨m, hm, rfl⟩ := (rng_iff (by omega)).mp g1
    by_cases g3 : a2 = 3
    · subst g3
      refine ⟨fo (gLv (I 58) (nI m)) 0 60, I, I, ?_, ?_, pr_mono _ _ _ _ h⟩
      · rw [it_n g1, if_neg (by decide), if_neg (by decide), if_neg (by decide), if_pos rfl, F10_lo hB.2.2.2.1 hV.2.2.1]; rfl
      · rw [F11_man c3]
        simp only [Option.bind_some, ite01]
        rw [it_n g1, if_pos trivial, F11_lo hV.2.2.1]
    · by_cases g4 : 0 ≤ a2 ∧ a2 ≤ 2
      · refine ⟨I 58 (16 + 4 * m + a2.toNatClampNeg), I, I, ?_, ?_, pr_mono _ _ _ _ h⟩
        · rw [it_n g1, F10_up hB.2.1 hV.2.1 c9 c5 hm, xal_n (by omega) (by decide), xal_n (by omega) (by decide), (hB.2.1.1 m hm).1, (hB.2.1.1 m hm).2]
          rcases in3 g4 with rfl | rfl | rfl
          · simp only [Option.bind_some, ite01, if_true]
            rcases (hV.2.1.1 m hm).1 with ⟨a, b⟩ | ⟨a, b⟩
            · rw [if_neg (fun e => e a), show 16 + 4 * m + (0 : Int32).toNatClampNeg = 16 + 4 * m from rfl, a]
            · rw [if_pos (by rw [a]; decide), show 16 + 4 * m + (0 : Int32).toNatClampNeg = 16 + 4 * m from rfl, a]
          · rw [if_neg (by decide), if_pos rfl]; rfl
          · rw [if_neg (by decide), if_neg (by decide), if_pos rfl]; rfl
        · rw [F11_man c3]
          simp only [Option.bind_some, ite01, xin_iff]
          rw [it_n g1, if_neg g3, it_n g4, show (16 : Int32) = nI 16 from rfl]
          rcases in3 g4 with rfl | rfl | rfl
          · rw [show (0 : Int32) = nI 0 from rfl, ix4b, xal_n (by omega) (by decide)]; rfl
          · rw [show (1 : Int32) = nI 1 from rfl, ix4b, xal_n (by omega) (by decide)]; rfl
          · rw [show (2 : Int32) = nI 2 from rfl, ix4b, xal_n (by omega) (by decide)]; rfl
      · obtain ⟨I1, I2, r1, r2, r3, r4⟩ := ref2k h (-7) 7 (by decide) (by decide)
        refine ⟨-7, I1, I2, ?_, ?_, r3⟩
        · rw [it_n g1, if_neg (fun e => g4 (by rw [e]; decide)), if_neg (fun e => g4 (by rw [e]; decide)), if_neg (fun e => g4 (by rw [e]; decide)), if_neg g3, r1]; rfl
        · rw [F11_man (q := q) (by rw [r4 58 (by decide)]; exact c3)]
          simp only [Option.bind_some, ite01, xin_iff]
          rw [it_n g1, if_neg g3, it_p g4, r2]; rfl
  · obtain ⟨I1, I2, r1, r2, r3, r4⟩ := ref2k h (-3) 3 (by decide) (by decide)
    refine ⟨-3, I1, I2, ?_, ?_, r3⟩
    · rw [it_p g1, r1]; rfl
    · rw [F11_man (q := q) (by rw [r4 58 (by decide)]; exact c3)]
      simp only [Option.bind_some, ite01]
      rw [it_p g1, r2]; rfl
/-- what man m owes the others beyond his bargains, summed -/
def gEx (c : Nat → Int64) (m i : Nat) (x : Int64) : Int64 := x + c (24 + (12 * m + i))
theorem F10_ex {L : xTL} {s : Nat → Int32} (hB : BRc L s (L 59)) {m : Nat} (hm : m < 12) : F_X3_extraOwedBy xN L (nI m) = some (fo (gEx (L 59) m) 0 12) := by
  unfold F_X3_extraOwedBy F_X3_extraOwedBy_b5
  refine xlp_fo (gEx (L 59) m) 0 12 (fun x => some x) (fun b hb x k => ?_) (fun x k => ?_) xN (by decide)
  · show F_X3_extraOwedBy_c5 xN L (nI m) x (nI b) k = _
    unfold F_X3_extraOwedBy_c5 gEx
    rw [if_neg (n12 hb), show (12 : Int32) = nI 12 from rfl, nI_mul, nI_add, xal_n (by omega) (by decide), hB.2.1 _ (by omega), Nat.mul_comm m 12]
    simp only [xbn_e, nI_1]
  · show F_X3_extraOwedBy_c5 xN L (nI m) x (nI 12) k = _
    unfold F_X3_extraOwedBy_c5
    rw [if_pos (by decide)]
theorem F11_ex {I : xTI} {L : xTL} {m : Nat} (hm : m < 12) : xlp (F_X11_coin_b61 xN I L (nI m)) xN (0, 0) = some (fo (gEx (L 59) m) 0 12, I) := by
  unfold F_X11_coin_b61
  refine xlp_fo (gEx (L 59) m) 0 12 (fun x => some (x, I)) (fun b hb x k => ?_) (fun x k => ?_) xN (by decide)
  · show F_X11_coin_c61 xN I L (nI m) x (nI b) k = _
    unfold F_X11_coin_c61 gEx
    rw [if_neg (n12 hb), show (12 : Int32) = nI 12 from rfl, show (24 : Int32) = nI 24 from rfl, nI_mul, nI_add, nI_add, xal_n (by omega) (by decide), show 24 + 12 * m + b = 24 + (12 * m + b) by omega]
    simp only [xbn_e, nI_1]
  · show F_X11_coin_c61 xN I L (nI m) x (nI 12) k = _
    unfold F_X11_coin_c61
    rw [if_pos (by decide)]
theorem pr_coin : xs_coin xRel := by
  intro kp n I L a1 a2 hn h
  obtain ⟨⟨q, hB, hV⟩, -⟩ := id h
  obtain ⟨c1, c2, c3, c4, c5, c6, -, -, c9⟩ := cnt hB hV
  unfold F_X10_coin F_X11_coin F_X11_coin_j52
  rw [F10_man c1 c5]
  simp only [Option.bind_some, ite01]
  by_cases g1 : 0 ≤ a1 ∧ a1 ≤ nI (q 1) - 1
  · obtain ⟨m, hm, rfl⟩ := (rng_iff (by omega)).mp g1
    by_cases g4 : 0 ≤ a2 ∧ a2 ≤ 2
    · have hc := hB.2.2.1.1 m (by omega)
      rcases in3 g4 with rfl | rfl | rfl
      · refine ⟨L 59 m, I, I, ?_, ?_, pr_mono _ _ _ _ h⟩
        · rw [it_n g1, if_pos rfl, xal_n (by omega) (by decide), hc.1]
        · rw [F11_man c3]
          simp only [Option.bind_some, ite01, xin_iff]
          rw [it_n g1, it_n (by decide), if_neg (by decide), if_pos trivial, show (0 : Int32) = nI 0 from rfl, nI_add, xal_n (by omega) (by decide), Nat.zero_add]
      · refine ⟨L 59 (12 + m), I, I, ?_, ?_, pr_mono _ _ _ _ h⟩
        · rw [it_n g1, if_neg (by decide), if_pos rfl, xal_n (by omega) (by decide), hc.2]
        · rw [F11_man c3]
          simp only [Option.bind_some, ite01, xin_iff]
          rw [it_n g1, it_n (by decide), if_neg (by decide), if_neg (by decide), show (12 : Int32) = nI 12 from rfl, nI_add, xal_n (by omega) (by decide)]
      · refine ⟨fo (gEx (L 59) m) 0 12, I, I, ?_, ?_, pr_mono _ _ _ _ h⟩
        · rw [it_n g1, if_neg (by decide), if_neg (by decide), if_pos rfl, F10_ex hB.2.2.1 (by omega)]; rfl
        · rw [F11_man c3]
          simp only [Option.bind_some, ite01, xin_iff]
          rw [it_n g1, it_n (by decide), if_pos (by decide), F11_ex (by omega)]
    · obtain ⟨I1, I2, r1, r2, r3, r4⟩ := huz2k h (-7) 7 (by decide) (by decide)
      refine ⟨0, I1, I2, ?_, ?_, r3⟩
      · rw [it_n g1, if_neg (fun e => g4 (by rw [e]; decide)), if_neg (fun e => g4 (by rw [e]; decide)), if_neg (fun e => g4 (by rw [e]; decide)), r1]; rfl
      · rw [F11_man (q := q) (by rw [r4 58 (by decide)]; exact c3)]
        simp only [Option.bind_some, ite01, xin_iff]
        rw [it_n g1, it_p g4, r2]; rfl
  · obtain ⟨I1, I2, r1, r2, r3, r4⟩ := huz2k h (-3) 3 (by decide) (by decide)
    refine ⟨0, I1, I2, ?_, ?_, r3⟩
    · rw [it_p g1, r1]; rfl
    · rw [F11_man (q := q) (by rw [r4 58 (by decide)]; exact c3)]
      simp only [Option.bind_some, ite01]
      rw [it_p g1, r2]; rfl
