theorem pr_putOff : xs_putOff xRel := by
  intro kp n I L a1 a2 a3 hn h
  obtain ⟨⟨q, hB, hV⟩, -⟩ := id h
  obtain ⟨c1, c2, c3, c4, c5, c6, c7, c8, c9⟩ := cnt hB hV
  have z0 : ∀ (K : xTI) (F : Int32 → Option (Int32 × xTI × xTL)), xal K 58 40670 0 F = F (K 58 0) := fun K F => xal_n (i := 0) (by decide) (by decide)
  by_cases g1 : men2 q a1
  · obtain ⟨a, b, ha, hb, ea, eb, -⟩ := men2_of c5 g1
    by_cases g2 : 0 ≤ a2 ∧ a2 ≤ nI (q 2) - 1
    · obtain ⟨k, hk, rfl⟩ := (rng_iff (by omega)).mp g2
      have hk5 : k < 5 := by omega
      have h10 : F_X10_putOff xN I a1 (nI k) a3 = Option.bind (F_X10_isWithin a3 1 99) (fun v3 => (if v3 = 0 then F_X10_putOff_j65 xN I else Option.bind (F_X10_mayDeal I a1) (fun v4 => (if v4 = 0 then F_X10_putOff_j65 xN I else Option.bind (F_X1_place I) (fun v5 => (if v5 = 10 then xal I 2 5 (nI k) (fun v6 => (if v6 = 0 then F_X10_putOff_j65 xN I else Option.bind (F_X0_leastFree xN I 0) (fun v7 => (if v7 = (-1) then F_X10_putOff_j109 xN I a1 (nI k) a3 v7 (-1) else Option.bind (F_X0_leastFree xN I (v7 + 1)) (fun v8 => F_X10_putOff_j109 xN I a1 (nI k) a3 v7 v8))))) else F_X10_putOff_j65 xN I)))))) := by
        unfold F_X10_putOff
        rw [F10_am c1 c5, if_pos g1, Option.bind_some, if_neg (by decide), F10_stk c2, if_pos g2, Option.bind_some, if_neg (by decide)]
      have h11 : ∀ (J : xTI) (M : xTL), J 58 = I 58 → F_X11_putOff xN J M a1 (nI k) a3 = Option.bind (F_X11_in a3 1 99) (fun v4 => (if v4 = 0 then F_X11_putOff_j72 xN J M else Option.bind (F_X11_mayDeal J a1) (fun v5 => (if v5 = 0 then F_X11_putOff_j72 xN J M else (if (I 58 0 - I 58 0 / 14 * 14) = 10 then (if I 58 (184 + k) = 0 then F_X11_putOff_j72 xN J M else Option.bind (F_X11_free xN J 0) (fun v7 => Option.bind (F_X11_free xN J (v7 + 1)) (fun v8 => (if v8 < 60 then Option.bind (F_X11_ruled xN J M 0 (nI k) 0) (fun (v9, I10, L11) => xbn (((I 58 (184 + k)).toInt64) + ((((I 58 (184 + k)).toInt64) * (v9.toInt64)) / 10000)) (fun y12 => xbn (a1 / 100) (fun y13 => xbn (a1 - a1 / 100 * 100) (fun y14 => xal I10 58 40670 0 (fun v15 => Option.bind (F_X11_makes xN I10 y13 y14 (nI k) a3 (I 58 (184 + k)) (v15 / 14)) (fun (v16, I17) => (if 0 ≤ (lg_cmp y12 1) then (if (lg_cmp y12 9999) ≤ 0 then F_X11_putOff_j195 xN I17 L11 v16 y14 y13 (nI k) a3 (y12.toInt32) else F_X11_putOff_j195 xN I17 L11 v16 y14 y13 (nI k) a3 9999) else F_X11_putOff_j195 xN I17 L11 v16 y14 y13 (nI k) a3 1))))))) else Option.bind (F_X11_refuse J (-8)) (fun (v18, I19) => some (v18, I19, M)))))) else F_X11_putOff_j72 xN J M))))) := by
        intro J M hJ
        unfold F_X11_putOff
        rw [F11_am (q := q) (by rw [hJ]; exact c3) c5, if_pos g1, Option.bind_some, if_neg (by decide), F11_stk (q := q) (by rw [hJ]; exact c4), if_pos g2, Option.bind_some, if_neg (by decide), show (184 : Int32) = nI 184 from rfl, nI_add, xal_n (by omega) (by decide), hJ, z0, hJ]
      have refuse7 : (F_X10_putOff xN I a1 (nI k) a3 = F_X10_putOff_j65 xN I) → (∀ (J : xTI) (M : xTL), J 58 = I 58 → F_X11_putOff xN J M a1 (nI k) a3 = F_X11_putOff_j72 xN J M) → ∃ (r : Int32) (I1 : xTI) (I2 : xTI) (L2 : xTL), F_X10_putOff xN I a1 (nI k) a3 = some (r, I1) ∧ F_X11_putOff xN I1 L a1 (nI k) a3 = some (r, I2, L2) ∧ xRel kp (n + 1) I2 L2 := fun e1 e2 => by
        obtain ⟨I1, I2, r1, r2, r3, r4⟩ := ref2k h (-7) 7 (by decide) (by decide)
        refine ⟨-7, I1, I2, L, ?_, ?_, r3⟩
        · rw [e1]; unfold F_X10_putOff_j65; rw [r1]; rfl
        · rw [e2 I1 L (r4 58 (by decide))]; unfold F_X11_putOff_j72; rw [r2]; rfl
      by_cases g3 : 1 ≤ a3 ∧ a3 ≤ 99
      · by_cases g4 : deal2 (I 58) a b
        · have d4 : F_X10_mayDeal I a1 = some 1 := by rw [F10_md hB.2.1 hV.2.1 c9 c5 ha hb ea eb, if_pos g4]
          have d4' : ∀ J : xTI, J 58 = I 58 → F_X11_mayDeal J a1 = some 1 := fun J hJ => by rw [F11_md (by omega) (by omega) ea eb, hJ, if_pos g4]
          by_cases g5 : (I 58 0 - I 58 0 / 14 * 14) = 10
          · have hpl : F_X1_place I = some 10 := by
              unfold F_X1_place
              rw [xbn_e, c7, ← c8, g5]
            have hq10 : q 0 % 14 = 10 := by
              rw [c8, rem14 c9] at g5
              exact (nI_lq (c := 10) rfl (by omega) (by decide)).mp g5
            have hmd : I 2 k = I 58 (184 + k) := hB.2.1.2.2 k hk5
            by_cases g6 : I 58 (184 + k) = 0
            · refine refuse7 ?_ ?_
              · rw [h10, xwi_iff, if_pos g3, Option.bind_some, if_neg (by decide), d4, Option.bind_some, if_neg (by decide), hpl, Option.bind_some, if_pos rfl, xal_n hk5 (by decide), hmd, if_pos g6]
              · intro J M hJ
                rw [h11 J M hJ, xin_iff, if_pos g3, Option.bind_some, if_neg (by decide), d4' J hJ, Option.bind_some, if_neg (by decide), if_pos g5, if_pos g6]
            · have hst : ∀ i, i < 60 → I 58 (192 + 12 * i) = 1 → I 58 (192 + 12 * i + 8) ≠ -1 := fun i hi h1 => bst_ne hV.2.2.1 hi h1
              have c10 : F_X10_putOff xN I a1 (nI k) a3 = Option.bind (F_X0_leastFree xN I 0) (fun v7 => (if v7 = (-1) then F_X10_putOff_j109 xN I a1 (nI k) a3 v7 (-1) else Option.bind (F_X0_leastFree xN I (v7 + 1)) (fun v8 => F_X10_putOff_j109 xN I a1 (nI k) a3 v7 v8))) := by
                rw [h10, xwi_iff, if_pos g3, Option.bind_some, if_neg (by decide), d4, Option.bind_some, if_neg (by decide), hpl, Option.bind_some, if_pos rfl, xal_n hk5 (by decide), hmd, if_neg g6]
              have refuse8 : (F_X10_putOff xN I a1 (nI k) a3 = Option.bind (F_X10_refuse I (-8)) (fun (v20, I21) => some (v20, I21))) → (∀ (J : xTI) (M : xTL), J 58 = I 58 → F_X11_putOff xN J M a1 (nI k) a3 = Option.bind (F_X11_refuse J (-8)) (fun (v18, I19) => some (v18, I19, M))) → ∃ (r : Int32) (I1 : xTI) (I2 : xTI) (L2 : xTL), F_X10_putOff xN I a1 (nI k) a3 = some (r, I1) ∧ F_X11_putOff xN I1 L a1 (nI k) a3 = some (r, I2, L2) ∧ xRel kp (n + 1) I2 L2 := fun e1 e2 => by
                obtain ⟨I1, I2, r1, r2, r3, r4⟩ := ref2k h (-8) 8 (by decide) (by decide)
                refine ⟨-8, I1, I2, L, ?_, ?_, r3⟩
                · rw [e1, r1]; rfl
                · rw [e2 I1 L (r4 58 (by decide)), r2]; rfl
              have r11 : ∀ (J : xTI) (M : xTL), J 58 = I 58 → ∀ {v7 v8 : Int32}, F_X11_free xN J 0 = some v7 → F_X11_free xN J (v7 + 1) = some v8 → F_X11_putOff xN J M a1 (nI k) a3 = (if v8 < 60 then Option.bind (F_X11_ruled xN J M 0 (nI k) 0) (fun (v9, I10, L11) => xbn (((I 58 (184 + k)).toInt64) + ((((I 58 (184 + k)).toInt64) * (v9.toInt64)) / 10000)) (fun y12 => xbn (a1 / 100) (fun y13 => xbn (a1 - a1 / 100 * 100) (fun y14 => xal I10 58 40670 0 (fun v15 => Option.bind (F_X11_makes xN I10 y13 y14 (nI k) a3 (I 58 (184 + k)) (v15 / 14)) (fun (v16, I17) => (if 0 ≤ (lg_cmp y12 1) then (if (lg_cmp y12 9999) ≤ 0 then F_X11_putOff_j195 xN I17 L11 v16 y14 y13 (nI k) a3 (y12.toInt32) else F_X11_putOff_j195 xN I17 L11 v16 y14 y13 (nI k) a3 9999) else F_X11_putOff_j195 xN I17 L11 v16 y14 y13 (nI k) a3 1))))))) else Option.bind (F_X11_refuse J (-8)) (fun (v18, I19) => some (v18, I19, M))) := by
                intro J M hJ v7 v8 f1 f2
                rw [h11 J M hJ, xin_iff, if_pos g3, Option.bind_some, if_neg (by decide), d4' J hJ, Option.bind_some, if_neg (by decide), if_pos g5, if_neg g6, f1, Option.bind_some, f2, Option.bind_some]
              obtain ⟨w1, -, hw1, hu1, hn1⟩ := run_ex (fun i => I 58 (192 + 12 * i) = 1) 60 0 60 (by omega)
              by_cases e60 : w1 = 60
              · subst e60
                refine refuse8 ?_ ?_
                · rw [c10, show F_X0_leastFree xN I 0 = some (-1) from F10_frN (a := 0) hB.2.2.2.1 (by decide) hu1 hst, Option.bind_some, if_pos rfl]
                  rfl
                · intro J M hJ
                  rw [r11 J M hJ (show F_X11_free xN J 0 = some (nI 60) from F11_frN (a := 0) (by decide) (by rw [hJ]; exact hu1)) F11_fr61, if_neg (by decide)]
              · have hw60 : w1 < 60 := by omega
                have hz1 : I 58 (192 + 12 * w1) = 0 := by
                  rcases hV.2.2.1 w1 hw60 with g | ⟨g, -⟩
                  · exact g
                  · exact absurd g (hn1 hw60)
                have cf1 : F_X0_leastFree xN I 0 = some (nI w1) := F10_frA (a := 0) hB.2.2.2.1 (by omega) hw60 hu1 (fun i hi h1 => hst i (by omega) h1) hz1
                have rf1 : ∀ J : xTI, J 58 = I 58 → F_X11_free xN J 0 = some (nI w1) := fun J hJ => F11_frA (a := 0) (by omega) hw60 (by rw [hJ]; exact hu1) (by rw [hJ]; exact hz1)
                obtain ⟨w2, hw12, hw2, hu2, hn2⟩ := run_ex (fun i => I 58 (192 + 12 * i) = 1) (60 - (w1 + 1)) (w1 + 1) 60 (by omega)
                by_cases e60' : w2 = 60
                · subst e60'
                  refine refuse8 ?_ ?_
                  · rw [c10, cf1, Option.bind_some, if_neg (nI_ne_m1 (by omega)), nI_1, F10_frN hB.2.2.2.1 (by omega) hu2 hst, Option.bind_some]
                    rfl
                  · intro J M hJ
                    rw [r11 J M hJ (rf1 J hJ) (v8 := nI 60) (by rw [nI_1]; exact F11_frN (by omega) (by rw [hJ]; exact hu2)), if_neg (by decide)]
                · have hw60' : w2 < 60 := by omega
                  have hz2 : I 58 (192 + 12 * w2) = 0 := by
                    rcases hV.2.2.1 w2 hw60' with g | ⟨g, -⟩
                    · exact g
                    · exact absurd g (hn2 hw60')
                  obtain ⟨v, I3, t1, t2, t3⟩ := tells_eq hB hV (key := 0) (by decide) hk5 none (fun bb e => by cases e)
                  obtain ⟨sh, hs1, hs2, rfl⟩ := (rngl_iff (a := 1) (b := 99) (by decide) (by decide)).mp g3
                  obtain ⟨md, hmd9, hmde⟩ := hV.2.1.2.2.2.2 k hk5
                  have hmd1 : 1 ≤ md := by
                    rcases Nat.eq_zero_or_pos md with e | e
                    · subst e; exact absurd hmde g6
                    · exact e
                  obtain ⟨pr, hp1, hp2, hp3, hp4⟩ := price_eq (((I 58 (184 + k)).toInt64) + ((((I 58 (184 + k)).toInt64) * (v.toInt64)) / 10000))
                  obtain ⟨A1, A2, x1, x2, x3, x4, x5, x6⟩ := C_po (I := I3) (w := w1) hw60 c9 (nI a) (nI b) (nI k) (nI sh) (I 58 (184 + k)) (nI (q 0 / 14))
                  obtain ⟨A3, A4, y1, y2, y3, y4, y5, y6⟩ := C_po (I := A2) (w := w2) hw60' c9 (nI b) (nI a) (nI k) (nI sh) (nI pr) (nI (q 0 / 14 + 1))
                  have hA2 : ∀ j, j ≠ 13 → j ≠ 18 → j ≠ 19 → A2 j = I j := fun j e1 e2 e3 => by rw [x4 j e1, t2 j e2 e3]
                  have hA4 : ∀ j, j ≠ 13 → j ≠ 18 → j ≠ 19 → A4 j = I j := fun j e1 e2 e3 => by rw [y4 j e1, hA2 j e1 e2 e3]
                  obtain ⟨J, M, s1, s2, s3⟩ := t3 A4 L (hA4 58 (by decide) (by decide) (by decide))
                  have hJ58 : J 58 = I 58 := by rw [s2.c (by decide) (by decide), hA4 58 (by decide) (by decide) (by decide)]
                  obtain ⟨B1, Z, z1, z2, z3, z4, z5, z6⟩ := R_po (J := J) (M := M) (w1 := w1) (w2 := w2) (d := q 0) (by omega) hw60' c9 (by rw [hJ58]; exact c8) (fun i hi hne => by
                    rw [hJ58]
                    by_cases e : i < w1
                    · exact hu1 i (Nat.zero_le _) e
                    · exact hu2 i (by omega) hi) (by rw [hJ58]; exact hz1) (by rw [hJ58]; exact hz2) (nI a) (nI b) (nI k) (nI sh) (I 58 (184 + k)) (nI pr)
                  refine ⟨nI w2, A4, Z, M, ?_, ?_, ?_⟩
                  · rw [c10, cf1, Option.bind_some, if_neg (nI_ne_m1 (by omega)), nI_1, F10_frA hB.2.2.2.1 hw12 hw60' hu2 (fun i hi h1 => hst i (by omega) h1) hz2, Option.bind_some]
                    unfold F_X10_putOff_j109 F_X10_first F_X10_second F_X1_account
                    rw [if_neg (nI_ne_m1 (by omega)), xal_n hk5 (by decide), show F_X5_tells xN I 0 (nI k) (-1) = some (v, I3) from t1, Option.bind_some]
                    show Option.bind (F_X10_putOffPrice (I 2 k) v) _ = _
                    have hpp : F_X10_putOffPrice (I 2 k) v = some (nI pr) := by
                      unfold F_X10_putOffPrice
                      rw [xbn_e, xbn_e, xbn_e, hmd]
                      exact congrArg some hp3
                    rw [hpp, Option.bind_some, eb, ea, Option.bind_some, Option.bind_some, xal_n hk5 (by decide), t2 2 (by decide) (by decide), hmd, xbn_e, t2 1 (by decide) (by decide), c7, x1, Option.bind_some, xbn_e, x2 1 (by decide), t2 1 (by decide) (by decide), c7, div14 c9, Option.bind_some, xbn_e, x3, Option.bind_some, Option.bind_some, Option.bind_some, xbn_e, hA2 1 (by decide) (by decide) (by decide), c7, y1, Option.bind_some, xbn_e, y2 1 (by decide), hA2 1 (by decide) (by decide) (by decide), c7, div14 c9, Option.bind_some, xbn_e, nI_1, y3, Option.bind_some]
                  · rw [r11 A4 L (hA4 58 (by decide) (by decide) (by decide)) (rf1 A4 (hA4 58 (by decide) (by decide) (by decide))) (v8 := nI w2) (by rw [nI_1]; exact F11_frA hw12 hw60' (by rw [hA4 58 (by decide) (by decide) (by decide)]; exact hu2) (by rw [hA4 58 (by decide) (by decide) (by decide)]; exact hz2)), if_pos (show nI w2 < 60 from nI_lt (b := 60) hw60' (by decide)), show F_X11_ruled xN A4 L 0 (nI k) 0 = some (v, J, M) from s1, Option.bind_some]
                    simp only [xbn_e, z0, hJ58, c8, div14 c9]
                    rw [eb, ea, z1, Option.bind_some]
                    dsimp only
                    rw [hp4 (fun p => F_X11_putOff_j195 xN B1 M (nI w1) (nI b) (nI a) (nI k) (nI sh) p), z2]
                  · -- the Book
                    have hq14 : q 0 = 14 * (q 0 / 14) + 10 := by omega
                    have hY : xRel kp n (fun j => if j = 13 then I 13 else if j = 58 then I 58 else Z j) M := by
                      refine h.calm (fun j i hj => ?_) (fun j hj => s3 j (fun e => hj (Or.inl e)))
                      by_cases e13 : j = 13
                      · subst e13; rfl
                      · by_cases e58 : j = 58
                        · subst e58; rfl
                        · show (if j = 13 then I 13 else if j = 58 then I 58 else Z j) i = I j i
                          rw [if_neg e13, if_neg e58, z3 j e58]
                          unfold calm at hj
                          rw [s2 j i (by omega) (by omega), hA4 j e13 (by omega) (by omega)]
                    have hZc : ∀ j, j ≠ 13 → j ≠ 58 → Z j = (fun j => if j = 13 then I 13 else if j = 58 then I 58 else Z j) j := fun j e1 e2 => by
                      show _ = (if j = 13 then I 13 else if j = 58 then I 58 else Z j)
                      rw [if_neg e1, if_neg e2]
                    have hZ13 : Z 13 = A4 13 := by rw [z3 13 (by decide), s2.c (by decide) (by decide)]
                    have hb1 : ∀ t, t < 11 → Z 13 (11 * w1 + t) = pw (nI a) (nI b) (nI k) (nI sh) (I 58 (184 + k)) (nI (q 0)) (nI (q 0 / 14)) t := fun t ht => by
                      rw [hZ13, y5 _ (by omega), x6 t ht]
                    have hb2 : ∀ t, t < 11 → Z 13 (11 * w2 + t) = pw (nI b) (nI a) (nI k) (nI sh) (nI pr) (nI (q 0)) (nI (q 0 / 14 + 1)) t := fun t ht => by
                      rw [hZ13, y6 t ht]
                    have hbo : ∀ j, (j < 11 * w1 ∨ (11 * w1 + 11 ≤ j ∧ j < 11 * w2) ∨ 11 * w2 + 11 ≤ j) → Z 13 j = I 13 j := fun j hj => by
                      rw [hZ13, y5 _ (by omega), x5 _ (by omega), t2 13 (by decide) (by decide)]
                    have hso : ∀ j, (j < 192 + 12 * w1 ∨ (192 + 12 * w1 + 12 ≤ j ∧ j < 192 + 12 * w2) ∨ 192 + 12 * w2 + 12 ≤ j) → Z 58 j = I 58 j := fun j hj => by rw [z4 j hj, hJ58]
                    obtain ⟨⟨q', hB', hV'⟩, -⟩ := id hY
                    have hbk : BR (fun j => if j = 13 then I 13 else if j = 58 then I 58 else Z j) M (I 58) (M 59) q ∧ IV (I 58) (M 59) q n := by
                      have m59 : M 59 = L 59 := s3 59 (by decide)
                      rw [m59]
                      refine ⟨?_, hV⟩
                      refine hB.ext hV.1 (calm.b (fun j i hj => ?_) (fun j hj => s3 j (fun e => hj (Or.inl e)))) (fun _ _ => rfl) (fun _ _ => rfl)
                      by_cases e13 : j = 13
                      · subst e13; rfl
                      · by_cases e58 : j = 58
                        · subst e58; rfl
                        · show (if j = 13 then I 13 else if j = 58 then I 58 else Z j) i = I j i
                          rw [if_neg e13, if_neg e58, z3 j e58]
                          unfold calm at hj
                          rw [s2 j i (by omega) (by omega), hA4 j e13 (by omega) (by omega)]
                    have hup : ∀ m, m < q 1 → Z 58 (16 + 4 * m) = I 58 (16 + 4 * m) := fun m hm => hso _ (by omega)
                    refine hY.book (xSame.of (fun j e1 e2 => hZc j (by omega) e2) (fun _ _ => rfl)) ⟨q, ?_⟩
                    refine bookB (I := fun j => if j = 13 then I 13 else if j = 58 then I 58 else Z j) hbk.1 hbk.2.mono (fun j e1 e2 e3 => hZc j e3 (by omega)) (fun j hj => hso j (by omega)) (fun bb hb60 => ?_) (fun bb hb60 => ?_)
                    · by_cases e1 : bb = w1
                      · subst e1
                        exact Or.inr ⟨z5 0 (by decide), fun t ht => by rw [hb1 t ht, show 192 + 12 * bb + 1 + t = 192 + 12 * bb + (t + 1) by omega, z5 (t + 1) (by omega)]; rfl⟩
                      · by_cases e2 : bb = w2
                        · subst e2
                          exact Or.inr ⟨z6 0 (by decide), fun t ht => by rw [hb2 t ht, show 192 + 12 * bb + 1 + t = 192 + 12 * bb + (t + 1) by omega, z6 (t + 1) (by omega)]; rfl⟩
                        · rw [hso _ (by omega)]
                          rcases hB.2.2.2.1 bb hb60 with ⟨f1, f2⟩ | ⟨f1, f2⟩
                          · exact Or.inl ⟨f1, by rw [hbo _ (by omega)]; exact f2⟩
                          · exact Or.inr ⟨f1, fun t ht => by rw [hbo _ (by omega), hso _ (by omega)]; exact f2 t ht⟩
                    · by_cases e1 : bb = w1
                      · subst e1
                        exact Or.inr (IV_po (sl := a) (by_ := b) (st := k) (sh := sh) (pr := md) (ac := q 0 / 14) (fun t ht => by rw [z5 t ht, hmde]) c9 ha hb g4.1 hk hs1 hs2 hmd1 hmd9 (by omega) (by omega) (by rw [hup a ha]; exact g4.2.1) (by rw [hup b hb]; exact g4.2.2))
                      · by_cases e2 : bb = w2
                        · subst e2
                          exact Or.inr (IV_po (sl := b) (by_ := a) (st := k) (sh := sh) (pr := pr) (ac := q 0 / 14 + 1) (fun t ht => z6 t ht) c9 hb ha (fun e => g4.1 e.symm) hk hs1 hs2 hp1 hp2 (by omega) (by omega) (by rw [hup b hb]; exact g4.2.2) (by rw [hup a ha]; exact g4.2.1))
                        · rcases hV.2.2.1 bb hb60 with f | ⟨f1, f2⟩
                          · exact Or.inl (by rw [hso _ (by omega)]; exact f)
                          · exact Or.inr ⟨by rw [hso _ (by omega)]; exact f1, f2.one c5 hup (fun t ht => hso _ (by omega))⟩
          · refine refuse7 ?_ ?_
            · have hpl : F_X1_place I = some (I 58 0 - I 58 0 / 14 * 14) := by
                unfold F_X1_place
                rw [xbn_e, c7, ← c8]
              rw [h10, xwi_iff, if_pos g3, Option.bind_some, if_neg (by decide), d4, Option.bind_some, if_neg (by decide), hpl, Option.bind_some, if_neg g5]
            · intro J M hJ
              rw [h11 J M hJ, xin_iff, if_pos g3, Option.bind_some, if_neg (by decide), d4' J hJ, Option.bind_some, if_neg (by decide), if_neg g5]
        · refine refuse7 ?_ ?_
          · rw [h10, xwi_iff, if_pos g3, Option.bind_some, if_neg (by decide), F10_md hB.2.1 hV.2.1 c9 c5 ha hb ea eb, if_neg g4, Option.bind_some, if_pos rfl]
          · intro J M hJ
            rw [h11 J M hJ, xin_iff, if_pos g3, Option.bind_some, if_neg (by decide), F11_md (by omega) (by omega) ea eb, hJ, if_neg g4, Option.bind_some, if_pos rfl]
      · refine refuse7 ?_ ?_
        · rw [h10, xwi_iff, if_neg g3, Option.bind_some, if_pos rfl]
        · intro J M hJ
          rw [h11 J M hJ, xin_iff, if_neg g3, Option.bind_some, if_pos rfl]
    · obtain ⟨I1, I2, r1, r2, r3, r4⟩ := ref2k h (-3) 3 (by decide) (by decide)
      refine ⟨-3, I1, I2, L, ?_, ?_, r3⟩
      · unfold F_X10_putOff F_X10_putOff_j16
        rw [F10_am c1 c5, if_pos g1, Option.bind_some, if_neg (by decide), F10_stk c2, if_neg g2, Option.bind_some, if_pos rfl, r1]; rfl
      · unfold F_X11_putOff F_X11_putOff_j16
        rw [F11_am (q := q) (by rw [r4 58 (by decide)]; exact c3) c5, if_pos g1, Option.bind_some, if_neg (by decide), F11_stk (q := q) (by rw [r4 58 (by decide)]; exact c4), if_neg g2, Option.bind_some, if_pos rfl, r2]; rfl
  · obtain ⟨I1, I2, r1, r2, r3, r4⟩ := ref2k h (-3) 3 (by decide) (by decide)
    refine ⟨-3, I1, I2, L, ?_, ?_, r3⟩
    · unfold F_X10_putOff F_X10_putOff_j16
      rw [F10_am c1 c5, if_neg g1, Option.bind_some, if_pos rfl, r1]; rfl
    · unfold F_X11_putOff F_X11_putOff_j16
      rw [F11_am (q := q) (by rw [r4 58 (by decide)]; exact c3) c5, if_neg g1, Option.bind_some, if_pos rfl, r2]; rfl
