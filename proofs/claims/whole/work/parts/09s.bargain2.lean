theorem pr_bargain : xs_bargain xRel := by
  intro kp n I L a1 a2 a3 a4 hn h
  obtain ⟨⟨q, hB, hV⟩, -⟩ := id h
  obtain ⟨c1, c2, c3, c4, c5, c6, c7, c8, c9⟩ := cnt hB hV
  unfold F_X10_bargain F_X11_bargain F_X10_bargain_j16 F_X11_bargain_j16 F_X10_bargain_j50 F_X10_bargain_j65 F_X11_bargain_j53
  rw [F10_am c1 c5, F10_stk c2]
  simp only [Option.bind_some, ite01, xwi_iff, xin_iff, xbn_e]
  by_cases g1 : men2 q a1
  · obtain ⟨a, b, ha, hb, ea, eb, -⟩ := men2_of c5 g1
    by_cases g2 : 0 ≤ a2 ∧ a2 ≤ nI (q 2) - 1
    · rw [it_n g1, it_n g2, F10_md hB.2.1 hV.2.1 c9 c5 ha hb ea eb]
      have R : ∀ (I1 : xTI), I1 58 = I 58 → F_X11_areMen I1 a1 = some (if men2 q a1 then 1 else 0) ∧ F_X11_isStock I1 a2 = some (if 0 ≤ a2 ∧ a2 ≤ nI (q 2) - 1 then 1 else 0) ∧ F_X11_mayDeal I1 a1 = some (if deal2 (I 58) a b then 1 else 0) := fun I1 e => ⟨F11_am (by rw [e]; exact c3) c5 _, F11_stk (by rw [e]; exact c4) _, by rw [F11_md (by omega) (by omega) ea eb, e]⟩
      by_cases g3 : 1 ≤ a3 ∧ a3 ≤ 99
      · by_cases g4 : 1 ≤ a4 ∧ a4 ≤ 9999
        · rw [it_n g3, it_n g4, if_neg (by decide)]
          simp only [Option.bind_some, ite01]
          by_cases g5 : deal2 (I 58) a b
          · rw [it_n g5]
            rcases free_or hV.2.2.1 with hf | ⟨w, hw, hw0, hwl⟩
            · obtain ⟨I1, I2, r1, r2, r3, r4⟩ := ref2k h (-8) 8 (by decide) (by decide)
              have R1 := R I1 (r4 58 (by decide))
              have fn := free_n hB.2.2.2.1 hf (fun b' hb' => bst_ne hV.2.2.1 hb' (hf b' hb'))
              have fn1 : F_X11_free xN I1 0 = some 60 := by
                have := (free_n (I := I1) (fun b' hb' => ?_) (by rw [r4 58 (by decide)]; exact hf) (by rw [r4 58 (by decide)]; exact fun b' hb' => bst_ne hV.2.2.1 hb' (hf b' hb'))).2
                · exact this
                · rw [r4 58 (by decide), r4 13 (by decide)]; exact hB.2.2.2.1 b' hb'
              refine ⟨-8, I1, I2, ?_, ?_, r3⟩
              · rw [fn.1, Option.bind_some, if_pos rfl, r1]; rfl
              · rw [R1.1, R1.2.1, R1.2.2, fn1]
                simp only [Option.bind_some, ite01]
                rw [it_n g1, it_n g2, it_n g3, it_n g4, it_n g5, if_pos trivial, r2]; rfl
            · obtain ⟨k, hk, rfl⟩ := (rng_iff (by omega)).mp g2
              obtain ⟨sh, hs1, hs2, rfl⟩ := (rngl_iff (a := 1) (b := 99) (by decide) (by decide)).mp g3
              obtain ⟨pr, hp1, hp2, rfl⟩ := (rngl_iff (a := 1) (b := 9999) (by decide) (by decide)).mp g4
              have e58 : wr I 13 (11 * w) (bw (nI a) (nI b) (nI k) (nI sh) (nI pr) (nI (q 0)) (nI (acOf (q 0)))) 11 58 = I 58 := wr_ne (by decide) _
              have R1 := R _ e58
              refine ⟨nI w, wr I 13 (11 * w) (bw (nI a) (nI b) (nI k) (nI sh) (nI pr) (nI (q 0)) (nI (acOf (q 0)))) 11, wr (wr I 13 (11 * w) (bw (nI a) (nI b) (nI k) (nI sh) (nI pr) (nI (q 0)) (nI (acOf (q 0)))) 11) 58 (192 + 12 * w) (bw1 (nI a) (nI b) (nI k) (nI sh) (nI pr) (nI (q 0)) (nI (acOf (q 0)))) 12, ?_, ?_, book_new h hB hV hw ha hb g5.1 hk hs1 hs2 hp1 hp2 g5.2.1 g5.2.2⟩
              · rw [F10_fr hB.2.2.2.1 hw hwl (fun i hi => bst_ne hV.2.2.1 (by omega) (hwl i hi)) hw0]
                unfold F_X10_first F_X10_second
                rw [Option.bind_some, if_neg (nI_ne_m1 (by omega)), eb, ea, Option.bind_some, Option.bind_some, c7, F10_wr hw c9]; rfl
              · rw [R1.1, R1.2.1, R1.2.2, F11_fr hw (by rw [e58]; exact hwl) (by rw [e58]; exact hw0), show ∀ (I : xTI), xal (R := Int32 × xTI) I 58 40670 0 = xal I 58 40670 (nI 0) from fun _ => rfl]
                simp only [Option.bind_some, ite01]
                rw [it_n g1, it_n g2, it_n g3, it_n g4, it_n g5, if_neg (show ¬ nI w = (60 : Int32) from fun z => absurd ((nI_eq (b := 60) (by omega) (by decide)).mp z) (by omega)), xal_n (by decide) (by decide), e58, c8, F11_ao c9, Option.bind_some, eb, ea, F11_mk hw (by rw [e58]; exact hwl) (by rw [e58]; exact hw0) (by rw [e58]; exact c8)]; rfl
          · obtain ⟨I1, I2, r1, r2, r3, r4⟩ := ref2k h (-7) 7 (by decide) (by decide)
            have R1 := R I1 (r4 58 (by decide))
            refine ⟨-7, I1, I2, ?_, ?_, r3⟩
            · rw [it_p g5, r1]; rfl
            · rw [R1.1, R1.2.1, R1.2.2]
              simp only [Option.bind_some, ite01]
              rw [it_n g1, it_n g2, it_n g3, it_n g4, it_p g5, r2]; rfl
        · obtain ⟨I1, I2, r1, r2, r3, r4⟩ := ref2k h (-7) 7 (by decide) (by decide)
          have R1 := R I1 (r4 58 (by decide))
          refine ⟨-7, I1, I2, ?_, ?_, r3⟩
          · rw [it_n g3, it_p g4, if_pos trivial, r1]; rfl
          · rw [R1.1, R1.2.1]
            simp only [Option.bind_some, ite01]
            rw [it_n g1, it_n g2, it_n g3, it_p g4, r2]; rfl
      · obtain ⟨I1, I2, r1, r2, r3, r4⟩ := ref2k h (-7) 7 (by decide) (by decide)
        have R1 := R I1 (r4 58 (by decide))
        refine ⟨-7, I1, I2, ?_, ?_, r3⟩
        · rw [it_p g3, if_pos trivial, r1]; rfl
        · rw [R1.1, R1.2.1]
          simp only [Option.bind_some, ite01]
          rw [it_n g1, it_n g2, it_p g3, r2]; rfl
    · obtain ⟨I1, I2, r1, r2, r3, r4⟩ := ref2k h (-3) 3 (by decide) (by decide)
      refine ⟨-3, I1, I2, ?_, ?_, r3⟩
      · rw [it_n g1, it_p g2, r1]; rfl
      · rw [F11_am (q := q) (by rw [r4 58 (by decide)]; exact c3) c5, F11_stk (q := q) (by rw [r4 58 (by decide)]; exact c4)]
        simp only [Option.bind_some, ite01]
        rw [it_n g1, it_p g2, r2]; rfl
  · obtain ⟨I1, I2, r1, r2, r3, r4⟩ := ref2k h (-3) 3 (by decide) (by decide)
    refine ⟨-3, I1, I2, ?_, ?_, r3⟩
    · rw [it_p g1, r1]; rfl
    · rw [F11_am (q := q) (by rw [r4 58 (by decide)]; exact c3) c5]
      simp only [Option.bind_some, ite01]
      rw [it_p g1, r2]; rfl
