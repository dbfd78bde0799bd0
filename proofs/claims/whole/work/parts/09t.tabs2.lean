/-- options and dividends change, and coins; all else is as it was -/
theorem bookT {I I2 : xTI} {L L2 : xTL} {q : Nat → Nat} {n x y : Nat} (hB : BR I L (I 58) (L 59) q) (hV : IV (I 58) (L 59) q n) (hx : x ≤ 20) (hy : y ≤ 10) (hne : ∀ k, 1 ≤ k → k ≤ 28 → k ≠ 20 → k ≠ 21 → k ≠ 22 → k ≠ 23 → I2 k = I k) (h20 : I2 20 3 = nI x) (h22 : I2 22 3 = nI y) (hs3 : I2 58 3 = nI x) (hs5 : I2 58 5 = nI y) (hs : ∀ j, (j ≠ 3 ∧ j ≠ 5 ∧ j < 912) ∨ 1082 ≤ j → I2 58 j = I 58 j) (hc : BRc L2 (I 58) (L2 59)) (hcv : IVc (L2 59) (I 58) q n) (ho1 : ∀ i, i < x → ∀ t, t < 7 → I2 21 (7 * i + t) = I2 58 (912 + 7 * i + t)) (ho2 : ∀ i, i < y → ∀ t, t < 3 → I2 23 (3 * i + t) = I2 58 (1052 + 3 * i + t)) (hv : IVo (I2 58) (qs (qs q 3 x) 5 y)) : BR I2 L2 (I2 58) (L2 59) (qs (qs q 3 x) 5 y) ∧ IV (I2 58) (L2 59) (qs (qs q 3 x) 5 y) n := by
  obtain ⟨b1, b2, b3, b4, b5, b6⟩ := hB
  obtain ⟨v1, v2, v3, v4, v5, v6, v7⟩ := hV
  have c5 : q 1 ≤ 12 := v1.2.2.1
  have q7 := v1.2.2.2.2.2.2.2.2.1
  have hu : ∀ k, 1 ≤ k → k ≤ 19 → I2 k = I k := fun k e1 e2 => hne k e1 (by omega) (by omega) (by omega) (by omega) (by omega)
  have hu2 : ∀ k, 24 ≤ k → k ≤ 28 → I2 k = I k := fun k e1 e2 => hne k (by omega) (by omega) (by omega) (by omega) (by omega) (by omega)
  refine ⟨⟨?_, ?_, ?_, ?_, ?_, ?_⟩, ⟨?_, ?_, ?_, hv, ?_, ?_, ?_⟩⟩
  · unfold BRn
    rw [hu 1 (by decide) (by decide), hu 3 (by decide) (by decide), h20, hu 15 (by decide) (by decide), h22, hu2 24 (by decide) (by decide), hu2 26 (by decide) (by decide)]
    exact ⟨b1.1, b1.2.1, b1.2.2.1, rfl, b1.2.2.2.2.1, rfl, b1.2.2.2.2.2.2⟩
  · exact b2.fr c5 (hu 7 (by decide) (by decide)) (hu 8 (by decide) (by decide)) (hu 9 (by decide) (by decide)) (hu 10 (by decide) (by decide)) (hu 2 (by decide) (by decide)) (fun j e1 e2 => hs j (by omega))
  · refine ⟨hc.1, hc.2.1, fun m' hm' => ⟨(hc.2.2 m' hm').1, ?_⟩⟩
    rw [hs _ (by omega)]; exact (hc.2.2 m' hm').2
  · exact b4.fr (hu 13 (by decide) (by decide)) (fun j e1 e2 => hs j (by omega))
  · refine ⟨ho1, ho2, ?_, ?_⟩
    · intro i hi h3 t ht
      rw [hu2 25 (by decide) (by decide), hs _ (by omega)]; exact b5.2.2.1 i hi h3 t ht
    · intro i hi t ht
      rw [hu2 27 (by decide) (by decide), hs _ (by omega)]; exact b5.2.2.2 i hi t ht
  · exact b6.fr v1.2.2.2.2.2.1 (hu 16 (by decide) (by decide)) (hu 17 (by decide) (by decide)) (fun j e1 e2 => hs j (by omega))
  · refine ⟨fun i hi => ?_, v1.2.1, v1.2.2.1, v1.2.2.2.1, hx, v1.2.2.2.2.2.1, hy, v1.2.2.2.2.2.2.2⟩
    unfold qs
    by_cases e5 : i = 5
    · rw [if_pos e5, e5, hs5]
    · rw [if_neg e5]
      by_cases e3 : i = 3
      · rw [if_pos e3, e3, hs3]
      · rw [if_neg e3, hs _ (by omega)]; exact v1.1 i hi
  · exact v2.fr c5 (fun j e1 e2 => hs j (by omega))
  · exact v3.fr c5 (fun m' hm' => hs _ (by omega)) (fun j e1 e2 => hs j (by omega))
  · exact hcv.fr (fun m' hm' => hs _ (by omega))
  · exact v6.fr (by omega) (fun m' hm' => hs _ (by omega)) (fun j e1 e2 => hs j (by omega))
  · exact v7.fr v1.2.2.2.2.2.1 (fun j e1 e2 => hs j (by omega))
theorem put22 {I : xTI} {b t : Nat} {v : Int32} (hb : b < 10) (ht : t < 3) : F_X8_put_22 I (nI b) (nI t) v = some (xup I 23 (3 * b + t) v) := by
  unfold F_X8_put_22 F_X8_put_22_j29
  rw [if_neg (nI_pos (by omega)), if_neg (show ¬ (10 : Int32) ≤ nI b from nI_ge (b := 10) hb (by decide)), if_neg (nI_pos (by omega)), if_neg (show ¬ (3 : Int32) ≤ nI t from nI_ge (b := 3) ht (by decide)), if_neg (by decide), show (3 : Int32) = nI 3 from rfl, nI_mul, nI_add, xas_n (by omega) (by decide), Nat.mul_comm b 3]
theorem put20 {I : xTI} {b t : Nat} {v : Int32} (hb : b < 20) (ht : t < 7) : F_X8_put_20 I (nI b) (nI t) v = some (xup I 21 (7 * b + t) v) := by
  unfold F_X8_put_20 F_X8_put_20_j29
  rw [if_neg (nI_pos (by omega)), if_neg (show ¬ (20 : Int32) ≤ nI b from nI_ge (b := 20) hb (by decide)), if_neg (nI_pos (by omega)), if_neg (show ¬ (7 : Int32) ≤ nI t from nI_ge (b := 7) ht (by decide)), if_neg (by decide), show (7 : Int32) = nI 7 from rfl, nI_mul, nI_add, xas_n (by omega) (by decide), Nat.mul_comm b 7]
def dw (k d p : Int32) : Nat → Int32
  | 0 => k | 1 => d | _ => p
def dI1 (I : xTI) (i : Nat) (k d p : Int32) : xTI := wr (xup I 22 3 (nI (i + 1))) 23 (3 * i) (dw k d p) 3
def dI2 (I : xTI) (i : Nat) (k d p : Int32) : xTI := xup (wr (dI1 I i k d p) 58 (1052 + 3 * i) (dw k d p) 3) 58 5 (nI (i + 1))
theorem put22_l {I : xTI} {b : Nat} {v : Int32} (hb : b < 10) : F_X8_put_22 I (nI b) 0 v = some (xup I 23 (3 * b + 0) v) ∧ F_X8_put_22 I (nI b) 1 v = some (xup I 23 (3 * b + 1) v) ∧ F_X8_put_22 I (nI b) 2 v = some (xup I 23 (3 * b + 2) v) :=
  ⟨put22 (t := 0) hb (by decide), put22 (t := 1) hb (by decide), put22 (t := 2) hb (by decide)⟩
theorem pr_dividend : xs_dividend xRel := by
  intro kp n I L a1 a2 a3 hn h
  obtain ⟨⟨q, hB, hV⟩, -⟩ := id h
  obtain ⟨c1, c2, c3, c4, c5, c6, c7, c8, c9⟩ := cnt hB hV
  have e5 : I 58 5 = nI (q 5) := hV.1.1 5 (by decide)
  have e3 : I 58 3 = nI (q 3) := hV.1.1 3 (by decide)
  have b5 : q 5 ≤ 10 := hV.1.2.2.2.2.2.2.1
  have b3 : q 3 ≤ 20 := hV.1.2.2.2.2.1
  have d5 : I 22 3 = nI (q 5) := hB.1.2.2.2.2.2.1
  have d3 : I 20 3 = nI (q 3) := hB.1.2.2.2.1
  unfold F_X10_dividend F_X11_dividend F_X10_dividend_j43 F_X11_dividend_j42 F_X8_hasRoom_22 F_X1_enterDividend
  rw [F10_stk c2]
  have l0 : ∀ (I : xTI), xal (R := Int32 × xTI) I 58 40670 0 = xal I 58 40670 (nI 0) := fun _ => rfl
  have l5 : ∀ (I : xTI), xal (R := Int32 × xTI) I 58 40670 5 = xal I 58 40670 (nI 5) := fun _ => rfl
  have s5 : ∀ (I : xTI), xas (R := Int32 × xTI) I 58 40670 5 = xas I 58 40670 (nI 5) := fun _ => rfl
  simp only [Option.bind_some, ite01, xwi_iff, xin_iff, xbn_e, xzc_0, xzc_1, c7, d5, l0, l5, s5]
  by_cases g1 : 0 ≤ a1 ∧ a1 ≤ nI (q 2) - 1
  · have R : ∀ (I1 : xTI), I1 58 = I 58 → F_X11_isStock I1 a1 = some (if 0 ≤ a1 ∧ a1 ≤ nI (q 2) - 1 then 1 else 0) := fun I1 e => F11_stk (by rw [e]; exact c4) _
    by_cases g2 : nI (q 0) ≤ a2 ∧ a2 ≤ 699
    · by_cases g3 : 1 ≤ a3 ∧ a3 ≤ 999
      · by_cases g4 : q 5 < 10
        · obtain ⟨k, hk, rfl⟩ := (rng_iff (by omega)).mp g1
          obtain ⟨d, hd1, hd2, rfl⟩ : ∃ d, q 0 ≤ d ∧ d ≤ 699 ∧ a2 = nI d := by
            obtain ⟨j, hj, e⟩ := nI_of (fun z => absurd (Int32.lt_of_le_of_lt g2.1 z) (nI_pos (by omega)))
            subst e
            exact ⟨j, (nI_leI (by omega) hj).mp g2.1, (nI_leI (b := 699) hj (by decide)).mp g2.2, rfl⟩
          obtain ⟨p, hp1, hp2, rfl⟩ := (rngl_iff (a := 1) (b := 999) (by decide) (by decide)).mp g3
          have e58 : dI1 I (q 5) (nI k) (nI d) (nI p) 58 = I 58 := by unfold dI1; rw [wr_ne (by decide), xup_ne (by decide)]
          refine ⟨nI (q 5 + 1), dI1 I (q 5) (nI k) (nI d) (nI p), dI2 I (q 5) (nI k) (nI d) (nI p), ?_, ?_, ?_⟩
          · rw [it_n g1, it_n g2, it_n g3, if_neg (show ¬ (10 : Int32) ≤ nI (q 5) from nI_ge (b := 10) g4 (by decide)), Option.bind_some, if_neg (by decide), nI_1]
            simp only [(put22_l g4).1, (put22_l g4).2.1, (put22_l g4).2.2, Option.bind_some]
            show some (dI1 I (q 5) (nI k) (nI d) (nI p) 22 3, dI1 I (q 5) (nI k) (nI d) (nI p)) = _
            rw [show dI1 I (q 5) (nI k) (nI d) (nI p) 22 3 = nI (q 5 + 1) by unfold dI1; rw [wr_ne (by decide), xup_at, if_pos rfl]]
          · have y0 : (1052 : Int32) + 3 * nI (q 5) = nI (1052 + 3 * q 5) := by rw [show (1052 : Int32) = nI 1052 from rfl, show (3 : Int32) = nI 3 from rfl, nI_mul, nI_add]
            have y1 : nI (1052 + 3 * q 5) + 1 = nI (1052 + 3 * q 5 + 1) := nI_add _ 1
            have y2 : nI (1052 + 3 * q 5) + 2 = nI (1052 + 3 * q 5 + 2) := nI_add _ 2
            rw [R _ e58]
            simp only [Option.bind_some, ite01]
            rw [it_n g1, xal_n (by decide) (by decide), e58, c8, it_n g2, it_n g3, xal_n (by decide) (by decide), e58, e5, if_neg (show ¬ nI (q 5) = (10 : Int32) from fun z => absurd ((nI_eq (b := 10) (by omega) (by decide)).mp z) (by omega)), xal_n (by decide) (by decide), e58, e5, y0, y1, y2, xas_n (by omega) (by decide), xas_n (by omega) (by decide), xas_n (by omega) (by decide), xal_n (by decide) (by decide), xup_at, if_neg (by omega), xup_at, if_neg (by omega), xup_at, if_neg (by omega), e58, e5, nI_1, xas_n (by decide) (by decide), xal_n (by decide) (by decide), xup_at, if_pos rfl]; rfl
          · have hne : ∀ k', k' ≠ 22 → k' ≠ 23 → k' ≠ 58 → dI2 I (q 5) (nI k) (nI d) (nI p) k' = I k' := fun k' z1 z2 z3 => by
              unfold dI2 dI1; rw [xup_ne z3, wr_ne z3, wr_ne z2, xup_ne z1]
            have hs : ∀ j, j ≠ 5 → (j < 1052 + 3 * q 5 ∨ 1052 + 3 * q 5 + 3 ≤ j) → dI2 I (q 5) (nI k) (nI d) (nI p) 58 j = I 58 j := fun j z1 z2 => by
              unfold dI2; rw [xup_at, if_neg z1, wr_out 3 z2, e58]
            have hn : ∀ t, t < 3 → dI2 I (q 5) (nI k) (nI d) (nI p) 58 (1052 + 3 * q 5 + t) = dw (nI k) (nI d) (nI p) t := fun t ht => by
              unfold dI2; rw [xup_at, if_neg (by omega), wr_in 3 ht]
            have hn23 : ∀ t, t < 3 → dI2 I (q 5) (nI k) (nI d) (nI p) 23 (3 * q 5 + t) = dw (nI k) (nI d) (nI p) t := fun t ht => by
              unfold dI2 dI1; rw [xup_ne (by decide), wr_ne (by decide), wr_in 3 ht]
            have ho23 : ∀ j, (j < 3 * q 5 ∨ 3 * q 5 + 3 ≤ j) → dI2 I (q 5) (nI k) (nI d) (nI p) 23 j = I 23 j := fun j hj => by
              unfold dI2 dI1; rw [xup_ne (by decide), wr_ne (by decide), wr_out 3 hj, xup_ne (by decide)]
            have z22 : dI2 I (q 5) (nI k) (nI d) (nI p) 22 3 = nI (q 5 + 1) := by
              unfold dI2 dI1; rw [xup_ne (by decide), wr_ne (by decide), wr_ne (by decide), xup_at, if_pos rfl]
            have z5 : dI2 I (q 5) (nI k) (nI d) (nI p) 58 5 = nI (q 5 + 1) := by
              unfold dI2; rw [xup_at, if_pos rfl]
            generalize dI2 I (q 5) (nI k) (nI d) (nI p) = I2 at hne hs hn hn23 ho23 z22 z5
            refine h.book (xSame.of (fun k' z1 z2 => hne k' (by omega) (by omega) z2) (fun _ _ => rfl)) ⟨qs (qs q 3 (q 3)) 5 (q 5 + 1), ?_⟩
            refine bookT hB hV.mono b3 g4 (fun k' _ _ _ _ z22 z23 => hne k' z22 z23 (by omega)) (by rw [hne 20 (by decide) (by decide) (by decide)]; exact d3) z22 (by rw [hs 3 (by decide) (by omega)]; exact e3) z5 (fun j hj => hs j (by omega) (by omega)) hB.2.2.1 hV.mono.2.2.2.2.1 (fun i hi t ht => ?_) (fun i hi t ht => ?_) ⟨fun i hi => ?_, fun i hi => ?_⟩
            · rw [hne 21 (by decide) (by decide) (by decide), hs _ (by omega) (by omega)]; exact hB.2.2.2.2.1.1 i hi t ht
            · by_cases e : i = q 5
              · rw [e, hn23 t ht, hn t ht]
              · rw [ho23 _ (by omega), hs _ (by omega) (by omega)]; exact hB.2.2.2.2.1.2.1 i (by omega) t ht
            · have hi' : i < q 3 := hi
              obtain ⟨⟨gg, tt, kk, a1, a2, a3, a4, a5, a6⟩, a7, a8, a9, a10⟩ := hV.2.2.2.1.1 i hi'
              unfold isUpP at *
              rw [hs (912 + 7 * i) (by omega) (by omega), hs (912 + 7 * i + 1) (by omega) (by omega), hs (912 + 7 * i + 2) (by omega) (by omega), hs (912 + 7 * i + 3) (by omega) (by omega), hs (912 + 7 * i + 4) (by omega) (by omega), hs (912 + 7 * i + 5) (by omega) (by omega), hs (912 + 7 * i + 6) (by omega) (by omega)]
              refine ⟨⟨gg, tt, kk, a1, a2, a3, a4, a5, a6.1, a6.2.1, ?_⟩, a7, a8, a9, a10⟩
              rw [hs (16 + 4 * gg) (by omega) (by omega), hs (16 + 4 * tt) (by omega) (by omega)]; exact a6.2.2
            · have hi' : i < q 5 + 1 := hi
              by_cases e : i = q 5
              · rw [e, hn 1 (by decide), hn 2 (by decide), show I2 58 (1052 + 3 * q 5) = nI k from hn 0 (by decide)]
                exact ⟨⟨k, hk, rfl⟩, ⟨d, hd2, rfl⟩, ⟨p, hp1, hp2, rfl⟩⟩
              · rw [hs (1052 + 3 * i) (by omega) (by omega), hs (1052 + 3 * i + 1) (by omega) (by omega), hs (1052 + 3 * i + 2) (by omega) (by omega)]
                exact hV.2.2.2.1.2 i (by omega)
        · obtain ⟨I1, I2, r1, r2, r3, r4⟩ := ref2k h (-8) 8 (by decide) (by decide)
          have e10 : q 5 = 10 := by omega
          refine ⟨-8, I1, I2, ?_, ?_, r3⟩
          · rw [it_n g1, it_n g2, it_n g3, e10, if_pos (by decide), Option.bind_some, if_pos rfl, r1]; rfl
          · rw [R _ (r4 58 (by decide))]
            simp only [Option.bind_some, ite01]
            rw [it_n g1, xal_n (by decide) (by decide), r4 58 (by decide), c8, it_n g2, it_n g3, xal_n (by decide) (by decide), r4 58 (by decide), e5, e10, if_pos (by decide), r2]; rfl
      · obtain ⟨I1, I2, r1, r2, r3, r4⟩ := ref2k h (-7) 7 (by decide) (by decide)
        refine ⟨-7, I1, I2, ?_, ?_, r3⟩
        · rw [it_n g1, it_n g2, it_p g3, r1]; rfl
        · rw [R _ (r4 58 (by decide))]
          simp only [Option.bind_some, ite01]
          rw [it_n g1, xal_n (by decide) (by decide), r4 58 (by decide), c8, it_n g2, it_p g3, r2]; rfl
    · obtain ⟨I1, I2, r1, r2, r3, r4⟩ := ref2k h (-7) 7 (by decide) (by decide)
      refine ⟨-7, I1, I2, ?_, ?_, r3⟩
      · rw [it_n g1, it_p g2, r1]; rfl
      · rw [R _ (r4 58 (by decide))]
        simp only [Option.bind_some, ite01]
        rw [it_n g1, xal_n (by decide) (by decide), r4 58 (by decide), c8, it_p g2, r2]; rfl
  · obtain ⟨I1, I2, r1, r2, r3, r4⟩ := ref2k h (-3) 3 (by decide) (by decide)
    refine ⟨-3, I1, I2, ?_, ?_, r3⟩
    · rw [it_p g1, r1]; rfl
    · rw [F11_stk (q := q) (by rw [r4 58 (by decide)]; exact c4)]
      simp only [Option.bind_some, ite01]
      rw [it_p g1, r2]; rfl
