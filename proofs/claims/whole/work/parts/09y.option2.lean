theorem i64_sub {x : Int64} {p : Nat} (hp : p ≤ 9999) (h : (nI p).toInt64 ≤ x) (h2 : x.toInt < 2 ^ 62) : (x - (nI p).toInt64).toInt = x.toInt - p ∧ (p : Int) ≤ x.toInt := by
  have e : (nI p).toInt64.toInt = p := by rw [Int32.toInt_toInt64, nI_toInt (by omega)]
  have h1 := Int64.le_iff_toInt_le.mp h
  rw [e] at h1
  refine ⟨?_, h1⟩
  rw [Int64.toInt_sub, e]
  apply Int.bmod_eq_of_le <;> omega
def oL (L : xTL) (c a b : Nat) (x : Int64) : xTL := xup (xup L c a (L c a - x)) c b (L c b + x)
theorem oL_ne {L : xTL} {c a b : Nat} {x : Int64} {k : Nat} (h : k ≠ c) : oL L c a b x k = L k := by unfold oL; rw [xup_ne h, xup_ne h]
theorem oL_at {L : xTL} {c a b : Nat} {x : Int64} {j : Nat} : oL L c a b x c j = if j = b then L c b + x else if j = a then L c a - x else L c j := by unfold oL; rw [xup_at, xup_at]
def oI1 (I : xTI) (i : Nat) (w : Nat → Int32) : xTI := wr (xup I 20 3 (nI (i + 1))) 21 (7 * i) w 7
def oI2 (I : xTI) (i : Nat) (w : Nat → Int32) : xTI := xup (wr (oI1 I i w) 58 (912 + 7 * i) w 7) 58 3 (nI (i + 1))
/-- the class enters the option -/
theorem option_1 {I : xTI} {L : xTL} {a b i d z : Nat} {a1 a2 a3 : Int32} {p : Int32} (ha : a < 12) (hb : b < 12) (hab : a ≠ b) (ea : a1 / 100 = nI a) (eb : a1 - a1 / 100 * 100 = nI b) (hi : i < 20) (h20 : I 20 3 = nI i) (hd : I 1 0 = nI d) (hz : 1 ≤ z) (hm : F_X10_mayDeal I a1 = some 1) (hc : 0 ≤ lg_cmp (L 4 a) p.toInt64) : F_X10_option_j77 I L a1 a2 a3 (nI z) p 1 = some (nI i, oI1 I i (ow (nI a) (nI b) a2 (a3 / 10000) (a3 - a3 / 10000 * 10000) (nI (d + z - 1))), oL L 4 a b p.toInt64) := by
  have eb' : a1 - nI a * 100 = nI b := by rw [← ea]; exact eb
  unfold F_X10_option_j77 F_X8_hasRoom_20 F_X10_first F_X10_second
  simp only [xbn_e, hm, Option.bind_some, ea, eb', h20, hd]
  rw [if_neg (by decide), if_neg (by decide), xal_n ha (by decide), if_pos hc, if_neg (show ¬ (20 : Int32) ≤ nI i from nI_ge (b := 20) hi (by decide))]
  simp only [xzc_1, Option.bind_some]
  rw [if_neg (by decide), xal_n ha (by decide), xas_n ha (by decide), xal_n hb (by decide), xas_n hb (by decide), xup_at, if_neg (fun z => hab z.symm), nI_add, show (1 : Int32) = nI 1 from rfl, nI_sub (by omega), F10_eo hi h20]
  rfl
theorem pr_option : xs_option xRel := by
  intro kp n I L a1 a2 a3 a4 hn h
  obtain ⟨⟨q, hB, hV⟩, -⟩ := id h
  obtain ⟨c1, c2, c3, c4, c5, c6, c7, c8, c9⟩ := cnt hB hV
  have e3 : I 58 3 = nI (q 3) := hV.1.1 3 (by decide)
  have e5 : I 58 5 = nI (q 5) := hV.1.1 5 (by decide)
  have b3 : q 3 ≤ 20 := hV.1.2.2.2.2.1
  have b5 : q 5 ≤ 10 := hV.1.2.2.2.2.2.2.1
  have d3 : I 20 3 = nI (q 3) := hB.1.2.2.2.1
  have d5 : I 22 3 = nI (q 5) := hB.1.2.2.2.2.2.1
  unfold F_X10_option F_X11_option F_X10_option_j16 F_X11_option_j16 F_X11_option_j103
  rw [F10_am c1 c5, F10_stk c2]
  simp only [Option.bind_some, ite01, xwi_iff, xin_iff, xbn_e]
  by_cases g1 : men2 q a1
  · obtain ⟨a, b, ha, hb, ea, eb, -⟩ := men2_of c5 g1
    by_cases g2 : 0 ≤ a2 ∧ a2 ≤ nI (q 2) - 1
    · rw [it_n g1, it_n g2]
      have R : ∀ (I1 : xTI), I1 58 = I 58 → F_X11_areMen I1 a1 = some (if men2 q a1 then 1 else 0) ∧ F_X11_isStock I1 a2 = some (if 0 ≤ a2 ∧ a2 ≤ nI (q 2) - 1 then 1 else 0) ∧ F_X11_mayDeal I1 a1 = some (if deal2 (I 58) a b then 1 else 0) := fun I1 e => ⟨F11_am (by rw [e]; exact c3) c5 _, F11_stk (by rw [e]; exact c4) _, by rw [F11_md (by omega) (by omega) ea eb, e]⟩
      have MD := F10_md hB.2.1 hV.2.1 c9 c5 ha hb ea eb
      obtain ⟨J1, J2, r1, r2, r3, r4⟩ := ref2k h (-7) 7 (by decide) (by decide)
      have RJ := R J1 (r4 58 (by decide))
      have z0 : ∀ y3 y4, F_X10_option_j77 I L a1 a2 a3 y3 y4 0 = some (-7, J1, L) := fun y3 y4 => by
        unfold F_X10_option_j77 F_X10_option_j114; rw [if_pos rfl, r1]; rfl
      by_cases g3 : 1 ≤ a3 / 10000 ∧ a3 / 10000 ≤ 99
      · obtain ⟨sh, pr, s1, s2, s3, es, ep, g30⟩ := pair4 (M := 99) (by decide) (by decide) g3
        by_cases g4 : pr = 0
        · refine ⟨-7, J1, L, J2, L, ?_, ?_, r3⟩
          · rw [it_n g3, if_pos (show a3 - a3 / 10000 * 10000 ≤ 0 by rw [ep, g4]; decide), z0]
          · rw [RJ.1, RJ.2.1]
            simp only [Option.bind_some, ite01]
            rw [it_n g1, it_n g2, if_neg g30, it_n g3, if_pos (show a3 - a3 / 10000 * 10000 = 0 by rw [ep, g4]; rfl), r2]; rfl
        · have g4a : ¬ a3 - a3 / 10000 * 10000 ≤ 0 := by rw [ep]; exact nI_nle (by omega) (by omega)
          have g4b : ¬ a3 - a3 / 10000 * 10000 = 0 := by rw [ep]; exact nI_ne0 (by omega) (by omega)
          by_cases g5 : 1 ≤ a4 / 10000 ∧ a4 / 10000 ≤ 40
          · obtain ⟨z, px, z1, z2, z3, ez, epx, g50⟩ := pair4 (M := 40) (by decide) (by decide) g5
            rw [it_n g3, if_neg g4a, it_n g5, epx, ez]
            have g5' : 1 ≤ nI z ∧ nI z ≤ 40 := by rw [← ez]; exact g5
            have hL4 : L 4 a = L 59 a := (hB.2.2.1.1 a (by omega)).1
            by_cases g6 : deal2 (I 58) a b
            · by_cases g7 : 0 ≤ lg_cmp (L 59 a) (nI px).toInt64
              · have g7' : 0 ≤ lg_cmp (L 4 a) (nI px).toInt64 := by rw [hL4]; exact g7
                by_cases g8 : q 3 < 20
                · skip
                  have O1 := option_1 (a2 := a2) (a3 := a3) (z := z) (show a < 12 by omega) (show b < 12 by omega) g6.1 ea eb g8 d3 c7 z1 (by rw [MD, if_pos g6]) g7'
                  rw [ep, es] at O1
                  obtain ⟨k, hk, rfl⟩ := (rng_iff (by omega)).mp g2
                  have e58 : oI1 I (q 3) (ow (nI a) (nI b) (nI k) (nI sh) (nI pr) (nI (q 0 + z - 1))) 58 = I 58 := by unfold oI1; rw [wr_ne (by decide), xup_ne (by decide)]
                  have e59 : oL L 4 a b (nI px).toInt64 59 = L 59 := oL_ne (by decide)
                  have RI := R _ e58
                  refine ⟨nI (q 3), _, _, oI2 I (q 3) (ow (nI a) (nI b) (nI k) (nI sh) (nI pr) (nI (q 0 + z - 1))), oL (oL L 4 a b (nI px).toInt64) 59 a b (nI px).toInt64, O1, ?_, ?_⟩
                  · have y0 : (912 : Int32) + 7 * nI (q 3) = nI (912 + 7 * q 3) := by rw [show (912 : Int32) = nI 912 from rfl, show (7 : Int32) = nI 7 from rfl, nI_mul, nI_add]
                    have kk : ∀ t : Nat, nI (912 + 7 * q 3) + nI t = nI (912 + 7 * q 3 + t) := fun t => nI_add _ t
                    have l3 : ∀ (I : xTI), xal (R := Int32 × xTI × xTL) I 58 40670 3 = xal I 58 40670 (nI 3) := fun _ => rfl
                    have l0 : ∀ (I : xTI), xal (R := Int32 × xTI × xTL) I 58 40670 0 = xal I 58 40670 (nI 0) := fun _ => rfl
                    have s3' : ∀ (I : xTI), xas (R := Int32 × xTI × xTL) I 58 40670 3 = xas I 58 40670 (nI 3) := fun _ => rfl
                    have ka : (0 : Int32) + nI a = nI a := by rw [show (0 : Int32) = nI 0 from rfl, nI_add, Nat.zero_add]
                    have kb : (0 : Int32) + nI b = nI b := by rw [show (0 : Int32) = nI 0 from rfl, nI_add, Nat.zero_add]
                    have dz : nI (q 0) + nI z - 1 = nI (q 0 + z - 1) := by rw [nI_add, show (1 : Int32) = nI 1 from rfl, nI_sub (by omega)]
                    rw [RI.1, RI.2.1, RI.2.2]
                    simp only [Option.bind_some, ite01, l3, l0, s3']
                    rw [it_n g1, it_n g2, if_neg g30, it_n g3, if_neg g4b, if_neg g50, it_n g5', it_n g6, eb, ea, ep, es, ka, kb, xal_n (by omega) (by decide), e59, if_pos g7, xal_n (by decide) (by decide), e58, e3, if_neg (show ¬ nI (q 3) = (20 : Int32) from fun z => absurd ((nI_eq (b := 20) (by omega) (by decide)).mp z) (by omega)), xal_n (by omega) (by decide), e59, xas_n (by omega) (by decide), xal_n (by omega) (by decide), xas_n (by omega) (by decide), xal_n (by decide) (by decide), e58, e3, y0, show nI (912 + 7 * q 3) + 1 = nI (912 + 7 * q 3 + 1) from kk 1, show nI (912 + 7 * q 3) + 2 = nI (912 + 7 * q 3 + 2) from kk 2, show nI (912 + 7 * q 3) + 3 = nI (912 + 7 * q 3 + 3) from kk 3, show nI (912 + 7 * q 3) + 4 = nI (912 + 7 * q 3 + 4) from kk 4, show nI (912 + 7 * q 3) + 5 = nI (912 + 7 * q 3 + 5) from kk 5, show nI (912 + 7 * q 3) + 6 = nI (912 + 7 * q 3 + 6) from kk 6]
                    rw [xas_n (by omega) (by decide), xas_n (by omega) (by decide), xas_n (by omega) (by decide), xas_n (by omega) (by decide), xas_n (by omega) (by decide), xal_n (by decide) (by decide), xup_at, if_neg (show ¬ 0 = 912 + 7 * q 3 + 4 by omega), xup_at, if_neg (show ¬ 0 = 912 + 7 * q 3 + 3 by omega), xup_at, if_neg (show ¬ 0 = 912 + 7 * q 3 + 2 by omega), xup_at, if_neg (show ¬ 0 = 912 + 7 * q 3 + 1 by omega), xup_at, if_neg (show ¬ 0 = 912 + 7 * q 3 by omega), e58, c8, dz, xas_n (by omega) (by decide), xas_n (by omega) (by decide), xal_n (by decide) (by decide), xup_at, if_neg (show ¬ 3 = 912 + 7 * q 3 + 6 by omega), xup_at, if_neg (show ¬ 3 = 912 + 7 * q 3 + 5 by omega), xup_at, if_neg (show ¬ 3 = 912 + 7 * q 3 + 4 by omega), xup_at, if_neg (show ¬ 3 = 912 + 7 * q 3 + 3 by omega), xup_at, if_neg (show ¬ 3 = 912 + 7 * q 3 + 2 by omega), xup_at, if_neg (show ¬ 3 = 912 + 7 * q 3 + 1 by omega), xup_at, if_neg (show ¬ 3 = 912 + 7 * q 3 by omega), e58, e3, nI_1, xas_n (by decide) (by decide), xal_n (by decide) (by decide), xup_at, if_pos rfl, nI_pred, xup_at, if_neg (fun z => g6.1 z.symm), e59]
                    unfold oL oI2
                    rw [xup_ne (I := xup L 4 a (L 4 a - (nI px).toInt64)) (k' := 59) (by decide), xup_ne (I := L) (k' := 59) (by decide)]
                    rfl
                  · have hne : ∀ k', k' ≠ 20 → k' ≠ 21 → k' ≠ 58 → oI2 I (q 3) (ow (nI a) (nI b) (nI k) (nI sh) (nI pr) (nI (q 0 + z - 1))) k' = I k' := fun k' z1 z2 z3 => by
                      unfold oI2 oI1; rw [xup_ne z3, wr_ne z3, wr_ne z2, xup_ne z1]
                    have hs : ∀ j, j ≠ 3 → (j < 912 + 7 * q 3 ∨ 912 + 7 * q 3 + 7 ≤ j) → oI2 I (q 3) (ow (nI a) (nI b) (nI k) (nI sh) (nI pr) (nI (q 0 + z - 1))) 58 j = I 58 j := fun j z1 z2 => by
                      unfold oI2; rw [xup_at, if_neg z1, wr_out 7 z2, e58]
                    have hnw : ∀ t, t < 7 → oI2 I (q 3) (ow (nI a) (nI b) (nI k) (nI sh) (nI pr) (nI (q 0 + z - 1))) 58 (912 + 7 * q 3 + t) = ow (nI a) (nI b) (nI k) (nI sh) (nI pr) (nI (q 0 + z - 1)) t := fun t ht => by
                      unfold oI2; rw [xup_at, if_neg (by omega), wr_in 7 ht]
                    have hn21 : ∀ t, t < 7 → oI2 I (q 3) (ow (nI a) (nI b) (nI k) (nI sh) (nI pr) (nI (q 0 + z - 1))) 21 (7 * q 3 + t) = ow (nI a) (nI b) (nI k) (nI sh) (nI pr) (nI (q 0 + z - 1)) t := fun t ht => by
                      unfold oI2 oI1; rw [xup_ne (by decide), wr_ne (by decide), wr_in 7 ht]
                    have ho21 : ∀ j, (j < 7 * q 3 ∨ 7 * q 3 + 7 ≤ j) → oI2 I (q 3) (ow (nI a) (nI b) (nI k) (nI sh) (nI pr) (nI (q 0 + z - 1))) 21 j = I 21 j := fun j hj => by
                      unfold oI2 oI1; rw [xup_ne (by decide), wr_ne (by decide), wr_out 7 hj, xup_ne (by decide)]
                    have z20 : oI2 I (q 3) (ow (nI a) (nI b) (nI k) (nI sh) (nI pr) (nI (q 0 + z - 1))) 20 3 = nI (q 3 + 1) := by
                      unfold oI2 oI1; rw [xup_ne (by decide), wr_ne (by decide), wr_ne (by decide), xup_at, if_pos rfl]
                    have z58 : oI2 I (q 3) (ow (nI a) (nI b) (nI k) (nI sh) (nI pr) (nI (q 0 + z - 1))) 58 3 = nI (q 3 + 1) := by
                      unfold oI2; rw [xup_at, if_pos rfl]
                    generalize oI2 I (q 3) (ow (nI a) (nI b) (nI k) (nI sh) (nI pr) (nI (q 0 + z - 1))) = I2 at hne hs hnw hn21 ho21 z20 z58
                    have m59 : ∀ j, oL (oL L 4 a b (nI px).toInt64) 59 a b (nI px).toInt64 59 j = if j = b then L 59 b + (nI px).toInt64 else if j = a then L 59 a - (nI px).toInt64 else L 59 j := fun j => by rw [oL_at, e59]
                    have m4 : ∀ j, oL (oL L 4 a b (nI px).toInt64) 59 a b (nI px).toInt64 4 j = if j = b then L 4 b + (nI px).toInt64 else if j = a then L 4 a - (nI px).toInt64 else L 4 j := fun j => by rw [oL_ne (by decide), oL_at]
                    have mL : ∀ k', k' ≠ 4 → k' ≠ 59 → oL (oL L 4 a b (nI px).toInt64) 59 a b (nI px).toInt64 k' = L k' := fun k' w1 w2 => by rw [oL_ne w2, oL_ne w1]
                    generalize oL (oL L 4 a b (nI px).toInt64) 59 a b (nI px).toInt64 = L2 at m59 m4 mL
                    have hcb : BRc L2 (I 58) (L2 59) := by
                      refine ⟨fun m' hm' => ?_, fun j hj => ?_, fun m' hm' => ⟨fun t ht => ?_, ?_⟩⟩
                      · rw [m4, m59, m59 (12 + m'), if_neg (show ¬ 12 + m' = b by omega), if_neg (show ¬ 12 + m' = a by omega), mL 5 (by decide) (by decide), (hB.2.2.1.1 b (by omega)).1, (hB.2.2.1.1 a (by omega)).1, (hB.2.2.1.1 m' hm').1]
                        exact ⟨rfl, (hB.2.2.1.1 m' hm').2⟩
                      · rw [m59, if_neg (show ¬ 24 + j = b by omega), if_neg (show ¬ 24 + j = a by omega), mL 6 (by decide) (by decide)]; exact hB.2.2.1.2.1 j hj
                      · rw [m59, if_neg (show ¬ 168 + 4 * m' + t = b by omega), if_neg (show ¬ 168 + 4 * m' + t = a by omega), mL 28 (by decide) (by decide)]; exact (hB.2.2.1.2.2 m' hm').1 t ht
                      · rw [mL 28 (by decide) (by decide)]; exact (hB.2.2.1.2.2 m' hm').2
                    have hcv : IVc (L2 59) (I 58) q (n + 1) := by
                      obtain ⟨w1, w2, w3⟩ := hV.2.2.2.2.1
                      obtain ⟨v1, v2, v3⟩ := hV.mono.2.2.2.2.1
                      refine ⟨fun m' hm' => ?_, fun x y hx hy => ?_, fun m' h1 h2 t ht => ?_, ?_⟩
                      · rw [m59]
                        by_cases eb' : m' = b
                        · obtain ⟨u1, u2, u3⟩ := w1 b (by omega)
                          have y1 : (nI px).toInt = px := nI_toInt (by omega)
                          rw [if_pos eb', i64_add (a := 10 ^ 14 * n) (b := 9999) u1 u2 (by omega) (by omega) (by omega), y1]
                          exact ⟨by omega, by omega, fun w => absurd w (by omega)⟩
                        · rw [if_neg eb']
                          by_cases ea' : m' = a
                          · obtain ⟨u1, u2, u3⟩ := w1 a (by omega)
                            obtain ⟨y1, y2⟩ := i64_sub (x := L 59 a) z3 ((lg_cmp_ge _ _).mp g7) (by omega)
                            rw [if_pos ea', y1]
                            exact ⟨by omega, by omega, fun w => absurd w (by omega)⟩
                          · rw [if_neg ea']; exact v1 m' hm'
                      · rw [m59, if_neg (show ¬ 24 + (12 * x + y) = b by omega), if_neg (show ¬ 24 + (12 * x + y) = a by omega)]; exact v2 x y hx hy
                      · rw [m59, if_neg (show ¬ 168 + 4 * m' + t = b by omega), if_neg (show ¬ 168 + 4 * m' + t = a by omega)]; exact v3.1 m' h1 h2 t ht
                      · rw [exS_congr (c := L 59) 144 (fun j hj => by rw [m59, if_neg (by omega), if_neg (by omega)])]; exact v3.2
                    refine h.book (xSame.of (fun k' w1 w2 => hne k' (by omega) (by omega) w2) (fun k' w => mL k' (by omega) (by omega))) ⟨qs (qs q 3 (q 3 + 1)) 5 (q 5), ?_⟩
                    refine bookT hB hV.mono g8 b5 (fun k' _ _ w20 w21 _ _ => hne k' w20 w21 (by omega)) z20 (by rw [hne 22 (by decide) (by decide) (by decide)]; exact d5) z58 (by rw [hs 5 (by decide) (by omega)]; exact e5) (fun j hj => hs j (by omega) (by omega)) hcb hcv (fun i hi t ht => ?_) (fun i hi t ht => ?_) ⟨fun i hi => ?_, fun i hi => ?_⟩
                    · by_cases e : i = q 3
                      · rw [e, hn21 t ht, hnw t ht]
                      · rw [ho21 _ (by omega), hs _ (by omega) (by omega)]; exact hB.2.2.2.2.1.1 i (by omega) t ht
                    · rw [hne 23 (by decide) (by decide) (by decide), hs _ (by omega) (by omega)]; exact hB.2.2.2.2.1.2.1 i hi t ht
                    · have hi' : i < q 3 + 1 := hi
                      unfold isUpP
                      by_cases e : i = q 3
                      · rw [e, show I2 58 (912 + 7 * q 3) = nI a from hnw 0 (by decide), hnw 1 (by decide), hnw 2 (by decide), hnw 3 (by decide), hnw 4 (by decide), hnw 5 (by decide), hnw 6 (by decide)]
                        refine ⟨⟨a, b, k, rfl, rfl, rfl, ha, hb, g6.1, hk, fun _ => ?_⟩, ⟨sh, s1, s2, rfl⟩, ⟨pr, by omega, s3, rfl⟩, ⟨q 0 + z - 1, by omega, rfl⟩, ⟨0, by decide, rfl⟩⟩
                        rw [hs (16 + 4 * a) (by omega) (by omega), hs (16 + 4 * b) (by omega) (by omega)]; exact g6.2
                      · obtain ⟨⟨gg, tt, kk, a1, a2, a3, a4, a5, a6⟩, a7, a8, a9, a10⟩ := hV.2.2.2.1.1 i (by omega)
                        unfold isUpP at *
                        rw [hs (912 + 7 * i) (by omega) (by omega), hs (912 + 7 * i + 1) (by omega) (by omega), hs (912 + 7 * i + 2) (by omega) (by omega), hs (912 + 7 * i + 3) (by omega) (by omega), hs (912 + 7 * i + 4) (by omega) (by omega), hs (912 + 7 * i + 5) (by omega) (by omega), hs (912 + 7 * i + 6) (by omega) (by omega)]
                        refine ⟨⟨gg, tt, kk, a1, a2, a3, a4, a5, a6.1, a6.2.1, ?_⟩, a7, a8, a9, a10⟩
                        rw [hs (16 + 4 * gg) (by omega) (by omega), hs (16 + 4 * tt) (by omega) (by omega)]; exact a6.2.2
                    · have hi5 : i < q 5 := hi
                      rw [hs (1052 + 3 * i) (by omega) (by omega), hs (1052 + 3 * i + 1) (by omega) (by omega), hs (1052 + 3 * i + 2) (by omega) (by omega)]
                      exact hV.2.2.2.1.2 i hi5
                · obtain ⟨I1, I2, f1, f2, f3, f4⟩ := ref2k h (-8) 8 (by decide) (by decide)
                  have RI := R I1 (f4 58 (by decide))
                  have e20 : q 3 = 20 := by omega
                  refine ⟨-8, I1, L, I2, L, ?_, ?_, f3⟩
                  · unfold F_X10_option_j77 F_X8_hasRoom_20 F_X10_first
                    rw [MD, if_neg (by decide), Option.bind_some, if_neg (show ¬ (if deal2 (I 58) a b then (1 : Int32) else 0) = 0 by rw [if_pos g6]; decide), ea, Option.bind_some, xal_n (by omega) (by decide), if_pos g7', xbn_e, d3, e20, if_pos (by decide), xzc_0, Option.bind_some, if_pos rfl, f1]; rfl
                  · rw [RI.1, RI.2.1, RI.2.2]
                    simp only [Option.bind_some, ite01, show ∀ (I : xTI), xal (R := Int32 × xTI × xTL) I 58 40670 3 = xal I 58 40670 (nI 3) from fun _ => rfl]
                    rw [it_n g1, it_n g2, if_neg g30, it_n g3, if_neg g4b, if_neg g50, it_n g5', it_n g6, ea, show (0 : Int32) + nI a = nI (0 + a) from nI_add 0 a, xal_n (by omega) (by decide), Nat.zero_add, if_pos g7, xal_n (by decide) (by decide), f4 58 (by decide), e3, e20, if_pos (by decide), f2]; rfl
              · refine ⟨-7, J1, L, J2, L, ?_, ?_, r3⟩
                · unfold F_X10_option_j77 F_X10_option_j114 F_X10_first
                  rw [MD, if_neg (by decide), Option.bind_some, if_neg (show ¬ (if deal2 (I 58) a b then (1 : Int32) else 0) = 0 by rw [if_pos g6]; decide), ea, Option.bind_some, xal_n (by omega) (by decide), hL4, if_neg g7, r1]; rfl
                · rw [RJ.1, RJ.2.1, RJ.2.2]
                  simp only [Option.bind_some, ite01]
                  rw [it_n g1, it_n g2, if_neg g30, it_n g3, if_neg g4b, if_neg g50, it_n g5', it_n g6, ea, show (0 : Int32) + nI a = nI (0 + a) from nI_add 0 a, xal_n (by omega) (by decide), Nat.zero_add, if_neg g7, r2]; rfl
            · refine ⟨-7, J1, L, J2, L, ?_, ?_, r3⟩
              · unfold F_X10_option_j77 F_X10_option_j114
                rw [MD, if_neg (by decide), Option.bind_some, if_pos (if_neg g6), r1]; rfl
              · rw [RJ.1, RJ.2.1, RJ.2.2]
                simp only [Option.bind_some, ite01]
                rw [it_n g1, it_n g2, if_neg g30, it_n g3, if_neg g4b, if_neg g50, it_n g5', it_p g6, r2]; rfl
          · refine ⟨-7, J1, L, J2, L, ?_, ?_, r3⟩
            · rw [it_n g3, if_neg g4a, it_p g5, z0]
            · rw [RJ.1, RJ.2.1]
              simp only [Option.bind_some, ite01]
              rw [it_n g1, it_n g2, if_neg g30, it_n g3, if_neg g4b]
              by_cases g50 : a4 < 0
              · rw [if_pos g50, r2]; rfl
              · rw [if_neg g50, it_p g5, r2]; rfl
      · refine ⟨-7, J1, L, J2, L, ?_, ?_, r3⟩
        · rw [it_p g3, z0]
        · rw [RJ.1, RJ.2.1]
          simp only [Option.bind_some, ite01]
          rw [it_n g1, it_n g2]
          by_cases g30 : a3 < 0
          · rw [if_pos g30, r2]; rfl
          · rw [if_neg g30, it_p g3, r2]; rfl
    · obtain ⟨I1, I2, r1, r2, r3, r4⟩ := ref2k h (-3) 3 (by decide) (by decide)
      refine ⟨-3, I1, L, I2, L, ?_, ?_, r3⟩
      · rw [it_n g1, it_p g2, r1]; rfl
      · rw [F11_am (q := q) (by rw [r4 58 (by decide)]; exact c3) c5, F11_stk (q := q) (by rw [r4 58 (by decide)]; exact c4)]
        simp only [Option.bind_some, ite01]
        rw [it_n g1, it_p g2, r2]; rfl
  · obtain ⟨I1, I2, r1, r2, r3, r4⟩ := ref2k h (-3) 3 (by decide) (by decide)
    refine ⟨-3, I1, L, I2, L, ?_, ?_, r3⟩
    · rw [it_p g1, r1]; rfl
    · rw [F11_am (q := q) (by rw [r4 58 (by decide)]; exact c3) c5]
      simp only [Option.bind_some, ite01]
      rw [it_p g1, r2]; rfl
