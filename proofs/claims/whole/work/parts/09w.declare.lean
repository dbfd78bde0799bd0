/-- a bargain just written is made to stand -/
def stC (I : xTI) (k base p7 p8 p9 : Nat) (d : Int32) : xTI := xup (xup (xup I k (base + p8) d) k (base + p9) d) k (base + p7) 1
theorem stC_ne {I : xTI} {k base p7 p8 p9 : Nat} {d : Int32} {k' : Nat} (h : k' ≠ k) : stC I k base p7 p8 p9 d k' = I k' := by
  unfold stC; rw [xup_ne h, xup_ne h, xup_ne h]
theorem stC_at {I : xTI} {k base p7 p8 p9 : Nat} {d : Int32} {j : Nat} : stC I k base p7 p8 p9 d k j = if j = base + p7 then 1 else if j = base + p9 then d else if j = base + p8 then d else I k j := by
  unfold stC; rw [xup_at, xup_at, xup_at]
theorem F10_ms {I : xTI} {w : Nat} {d : Int32} (hw : w < 60) (h8 : I 13 (11 * w + 8) = -1) (h9 : I 13 (11 * w + 9) = -1) : F_X0_makeStand I (nI w) d = some (stC I 13 (11 * w) 7 8 9 d) := by
  unfold F_X0_makeStand F_X0_makeStand_j25 F_X0_makeStand_j50
  simp only [(put12_l hw).2.2.2.2.2.2.2.1, (put12_l hw).2.2.2.2.2.2.2.2.1, (put12_l hw).2.2.2.2.2.2.2.2.2.1, at12_8 hw, at12_9 hw, Option.bind_some]
  rw [h8, if_pos rfl, xup_at, if_neg (show ¬ 11 * w + 9 = 11 * w + 8 by omega), h9, if_pos rfl]; rfl
theorem F11_sd {I : xTI} {w d : Nat} (hw : w < 60) (hd : I 58 0 = nI d) (h9 : I 58 (192 + 12 * w + 9) = -1) (h10 : I 58 (192 + 12 * w + 10) = -1) : F_X11_stand I (nI w) = some (stC I 58 (192 + 12 * w) 8 9 10 (nI d)) := by
  unfold F_X11_stand F_X11_stand_j37 F_X11_stand_j65
  have x0 : (192 : Int32) + 12 * nI w = nI (192 + 12 * w) := by rw [show (192 : Int32) = nI 192 from rfl, show (12 : Int32) = nI 12 from rfl, nI_mul, nI_add]
  have l0 : ∀ (I : xTI), xal (R := xTI) I 58 40670 0 = xal I 58 40670 (nI 0) := fun _ => rfl
  have k8 : nI (192 + 12 * w) + 8 = nI (192 + 12 * w + 8) := nI_add _ 8
  have k9 : nI (192 + 12 * w) + 9 = nI (192 + 12 * w + 9) := nI_add _ 9
  have k10 : nI (192 + 12 * w) + 10 = nI (192 + 12 * w + 10) := nI_add _ 10
  simp only [xbn_e, x0, k8, k9, k10, l0]
  rw [xal_n (by omega) (by decide), h9, if_pos rfl, xal_n (by decide) (by decide), hd, xas_n (by omega) (by decide), xal_n (by omega) (by decide), xup_at, if_neg (show ¬ 192 + 12 * w + 10 = 192 + 12 * w + 9 by omega), h10, if_pos rfl, xal_n (by decide) (by decide), xup_at, if_neg (show ¬ 0 = 192 + 12 * w + 9 by omega), hd, xas_n (by omega) (by decide), xas_n (by omega) (by decide)]
  rfl
theorem at20_l {I : xTI} {b : Nat} (hb : b < 20) : F_X8_at_20 I (nI b) 0 = some (I 21 (7 * b)) ∧ F_X8_at_20 I (nI b) 1 = some (I 21 (7 * b + 1)) ∧ F_X8_at_20 I (nI b) 2 = some (I 21 (7 * b + 2)) ∧ F_X8_at_20 I (nI b) 3 = some (I 21 (7 * b + 3)) ∧ F_X8_at_20 I (nI b) 4 = some (I 21 (7 * b + 4)) ∧ F_X8_at_20 I (nI b) 6 = some (I 21 (7 * b + 6)) :=
  ⟨at20 (t := 0) hb (by decide), at20 (t := 1) hb (by decide), at20 (t := 2) hb (by decide), at20 (t := 3) hb (by decide), at20 (t := 4) hb (by decide), at20 (t := 6) hb (by decide)⟩
theorem op11 {I : xTI} {b t : Nat} (hb : b < 20) (ht : t < 7) : F_X11_op I (nI b) (nI t) = some (I 58 (912 + 7 * b + t)) := by
  unfold F_X11_op
  rw [show (912 : Int32) = nI 912 from rfl, show (7 : Int32) = nI 7 from rfl, ixc, xal_n (by omega) (by decide)]
theorem op11_l {I : xTI} {b : Nat} (hb : b < 20) : F_X11_op I (nI b) 0 = some (I 58 (912 + 7 * b)) ∧ F_X11_op I (nI b) 1 = some (I 58 (912 + 7 * b + 1)) ∧ F_X11_op I (nI b) 2 = some (I 58 (912 + 7 * b + 2)) ∧ F_X11_op I (nI b) 3 = some (I 58 (912 + 7 * b + 3)) ∧ F_X11_op I (nI b) 4 = some (I 58 (912 + 7 * b + 4)) ∧ F_X11_op I (nI b) 6 = some (I 58 (912 + 7 * b + 6)) :=
  ⟨op11 (t := 0) hb (by decide), op11 (t := 1) hb (by decide), op11 (t := 2) hb (by decide), op11 (t := 3) hb (by decide), op11 (t := 4) hb (by decide), op11 (t := 6) hb (by decide)⟩
def deI1 (I : xTI) (w i : Nat) (x : Nat → Int32) (d : Int32) : xTI := xup (stC (wr I 13 (11 * w) x 11) 13 (11 * w) 7 8 9 d) 21 (7 * i + 6) 1
def deS (I : xTI) (w i : Nat) (y : Nat → Int32) (d : Int32) : xTI := xup (stC (wr I 58 (192 + 12 * w) y 12) 58 (192 + 12 * w) 8 9 10 d) 58 (912 + 7 * i + 6) 1
theorem deI1_58 {I : xTI} {w i : Nat} {x : Nat → Int32} {d : Int32} {k : Nat} (h1 : k ≠ 13) (h2 : k ≠ 21) : deI1 I w i x d k = I k := by
  unfold deI1; rw [xup_ne h2, stC_ne h1, wr_ne h1]
theorem pr_declare_1 {I : xTI} {w i d : Nat} (hw : w < 60) (hi : i < 20) (hd : d ≤ 700) (c7 : I 1 0 = nI d) {sl by_ st sh pr : Int32} (h0 : I 21 (7 * i) = by_) (h1 : I 21 (7 * i + 1) = sl) (h2 : I 21 (7 * i + 2) = st) (h3 : I 21 (7 * i + 3) = sh) (h4 : I 21 (7 * i + 4) = pr) : F_X1_declareInto I (nI i) (nI w) = some (deI1 I w i (bw sl by_ st sh pr (nI d) (nI (acOf d))) (nI d)) := by
  unfold F_X1_declareInto
  rw [(at20_l hi).1, (at20_l hi).2.1, (at20_l hi).2.2.1, (at20_l hi).2.2.2.1, (at20_l hi).2.2.2.2.1, h0, h1, h2, h3, h4]
  simp only [Option.bind_some, xbn_e, c7]
  rw [F10_wr hw hd, Option.bind_some, wr_ne (k' := 1) (by decide), c7, F10_ms hw (wr_in 11 (by decide)) (wr_in 11 (by decide)), Option.bind_some, show ∀ I : xTI, F_X8_put_20 I (nI i) 6 1 = F_X8_put_20 I (nI i) (nI 6) 1 from fun _ => rfl, put20 hi (by decide)]
  rfl
theorem pr_declare : xs_declare xRel := by
  intro kp n I L a1 hn h
  obtain ⟨⟨q, hB, hV⟩, -⟩ := id h
  obtain ⟨c1, c2, c3, c4, c5, c6, c7, c8, c9⟩ := cnt hB hV
  have e3 : I 58 3 = nI (q 3) := hV.1.1 3 (by decide)
  have e5 : I 58 5 = nI (q 5) := hV.1.1 5 (by decide)
  have b3 : q 3 ≤ 20 := hV.1.2.2.2.2.1
  have b5 : q 5 ≤ 10 := hV.1.2.2.2.2.2.2.1
  have d3 : I 20 3 = nI (q 3) := hB.1.2.2.2.1
  have d5 : I 22 3 = nI (q 5) := hB.1.2.2.2.2.2.1
  unfold F_X10_declare F_X11_declare
  simp only [show ∀ (I : xTI), xal (R := Int32 × xTI) I 58 40670 3 = xal I 58 40670 (nI 3) from fun _ => rfl, show ∀ (I : xTI), xal (R := Int32 × xTI) I 58 40670 0 = xal I 58 40670 (nI 0) from fun _ => rfl, xin_iff]
  by_cases g1 : ∃ j, j < q 3 ∧ j < 20 ∧ a1 = nI j
  · obtain ⟨i, hi, hi2, rfl⟩ := g1
    have g1' : 0 ≤ nI i ∧ nI i ≤ nI (q 3) - 1 := (rng_iff (by omega)).mpr ⟨i, hi, rfl⟩
    have hc := fun t ht => hB.2.2.2.2.1.1 i hi t ht
    obtain ⟨⟨g, t, k, o0, o1, o2, o3, o4, o5, o6, o7⟩, ⟨sh, s1, s2, s3⟩, ⟨pr, p1, p2, p3⟩, o8, o9⟩ := hV.2.2.2.1.1 i hi
    rw [nt20_y d3 (by omega) hi hi2, (at20_l hi2).2.2.2.2.2, hc 6 (by decide)]
    simp only [Option.bind_some]
    rw [if_neg (by decide)]
    by_cases g2 : I 58 (912 + 7 * i + 6) = 0
    · rw [if_pos g2]
      rcases free_or hV.2.2.1 with hf | ⟨w, hw, hw0, hwl⟩
      · obtain ⟨I1, I2, r1, r2, r3, r4⟩ := ref2k h (-8) 8 (by decide) (by decide)
        have fn := free_n hB.2.2.2.1 hf (fun b' hb' => bst_ne hV.2.2.1 hb' (hf b' hb'))
        have fn1 : F_X11_free xN I1 0 = some 60 := by
          have := (free_n (I := I1) (fun b' hb' => ?_) (by rw [r4 58 (by decide)]; exact hf) (by rw [r4 58 (by decide)]; exact fun b' hb' => bst_ne hV.2.2.1 hb' (hf b' hb'))).2
          · exact this
          · rw [r4 58 (by decide), r4 13 (by decide)]; exact hB.2.2.2.1 b' hb'
        refine ⟨-8, I1, I2, ?_, ?_, r3⟩
        · rw [fn.1, Option.bind_some, if_pos rfl, r1]; rfl
        · rw [xal_n (by decide) (by decide), r4 58 (by decide), e3]
          simp only [Option.bind_some, ite01]
          rw [it_n g1', (op11_l hi2).2.2.2.2.2, r4 58 (by decide), Option.bind_some, if_pos g2, fn1, Option.bind_some, if_pos rfl, r2]; rfl
      · obtain ⟨u1, u2⟩ := o7 g2
        have c0 : I 21 (7 * i) = nI g := by rw [show 7 * i = 7 * i + 0 from rfl, hc 0 (by decide)]; exact o0
        have cc1 : I 21 (7 * i + 1) = nI t := by rw [hc 1 (by decide)]; exact o1
        have cc2 : I 21 (7 * i + 2) = nI k := by rw [hc 2 (by decide)]; exact o2
        have cc3 : I 21 (7 * i + 3) = nI sh := by rw [hc 3 (by decide)]; exact s3
        have cc4 : I 21 (7 * i + 4) = nI pr := by rw [hc 4 (by decide)]; exact p3
        have D1 := pr_declare_1 (I := I) (w := w) (i := i) hw hi2 c9 c7 c0 cc1 cc2 cc3 cc4
        have F1 := F10_fr hB.2.2.2.1 hw hwl (fun i hi => bst_ne hV.2.2.1 (by omega) (hwl i hi)) hw0
        have x13 := fun j => (show deI1 I w i (bw (nI t) (nI g) (nI k) (nI sh) (nI pr) (nI (q 0)) (nI (acOf (q 0)))) (nI (q 0)) 13 j = _ by unfold deI1; rw [xup_ne (by decide), stC_at])
        have x21 := fun j => (show deI1 I w i (bw (nI t) (nI g) (nI k) (nI sh) (nI pr) (nI (q 0)) (nI (acOf (q 0)))) (nI (q 0)) 21 j = _ by unfold deI1; rw [xup_at, stC_ne (by decide), wr_ne (by decide)])
        have xne := fun k' h1 h2 => deI1_58 (I := I) (w := w) (i := i) (x := bw (nI t) (nI g) (nI k) (nI sh) (nI pr) (nI (q 0)) (nI (acOf (q 0)))) (d := nI (q 0)) (k := k') h1 h2
        generalize deI1 I w i (bw (nI t) (nI g) (nI k) (nI sh) (nI pr) (nI (q 0)) (nI (acOf (q 0)))) (nI (q 0)) = I1 at D1 x13 x21 xne
        have e58 : I1 58 = I 58 := xne 58 (by decide) (by decide)
        have M1 := F11_mk (I := I1) hw (by rw [e58]; exact hwl) (by rw [e58]; exact hw0) (by rw [e58]; exact c8) (nI t) (nI g) (nI k) (nI sh) (nI pr) (nI (acOf (q 0)))
        refine ⟨nI w, I1, deS I1 w i (bw1 (nI t) (nI g) (nI k) (nI sh) (nI pr) (nI (q 0)) (nI (acOf (q 0)))) (nI (q 0)), ?_, ?_, ?_⟩
        · rw [F1, Option.bind_some, if_neg (nI_ne_m1 (by omega)), D1]; rfl
        · rw [xal_n (by decide) (by decide), e58, e3]
          simp only [Option.bind_some, ite01]
          rw [it_n g1', (op11_l hi2).2.2.2.2.2, e58, Option.bind_some, if_pos g2, F11_fr hw (by rw [e58]; exact hwl) (by rw [e58]; exact hw0), Option.bind_some, if_neg (show ¬ nI w = (60 : Int32) from fun z => absurd ((nI_eq (b := 60) (by omega) (by decide)).mp z) (by omega)), (op11_l hi2).1, (op11_l hi2).2.1, (op11_l hi2).2.2.1, (op11_l hi2).2.2.2.1, (op11_l hi2).2.2.2.2.1, e58, o0, o1, o2, s3, p3]
          simp only [Option.bind_some]
          rw [xal_n (by decide) (by decide), e58, c8, F11_ao c9, Option.bind_some, M1]
          simp only [Option.bind_some]
          rw [F11_sd (d := q 0) hw (by rw [wr_out 12 (by omega), e58]; exact c8) (wr_in (t := 9) 12 (by decide)) (wr_in (t := 10) 12 (by decide)), Option.bind_some, show (912 : Int32) = nI 912 from rfl, show (7 : Int32) = nI 7 from rfl, show (6 : Int32) = nI 6 from rfl, ixc, xas_n (by omega) (by decide)]; rfl
        · have y58 := fun j => (show deS I1 w i (bw1 (nI t) (nI g) (nI k) (nI sh) (nI pr) (nI (q 0)) (nI (acOf (q 0)))) (nI (q 0)) 58 j = _ by unfold deS; rw [xup_at, stC_at])
          have yne := fun k' (h1 : k' ≠ 58) => (show deS I1 w i (bw1 (nI t) (nI g) (nI k) (nI sh) (nI pr) (nI (q 0)) (nI (acOf (q 0)))) (nI (q 0)) k' = I1 k' by unfold deS; rw [xup_ne h1, stC_ne h1, wr_ne h1])
          generalize deS I1 w i (bw1 (nI t) (nI g) (nI k) (nI sh) (nI pr) (nI (q 0)) (nI (acOf (q 0)))) (nI (q 0)) = I2 at y58 yne
          have hu2 : ∀ k', k' ≠ 13 → k' ≠ 21 → k' ≠ 58 → I2 k' = I k' := fun k' h1 h2 h3 => by rw [yne k' h3, xne k' h1 h2]
          -- outside the bargain's cells and the option's state nothing of s changed
          have s_o : ∀ j, (j < 192 + 12 * w ∨ 192 + 12 * w + 12 ≤ j) → j ≠ 912 + 7 * i + 6 → I2 58 j = I 58 j := fun j h1 h2 => by
            rw [y58, if_neg h2, if_neg (show ¬ j = 192 + 12 * w + 8 by omega), if_neg (show ¬ j = 192 + 12 * w + 10 by omega), if_neg (show ¬ j = 192 + 12 * w + 9 by omega), wr_out 12 (by omega), e58]
          have s_i : I2 58 (912 + 7 * i + 6) = 1 := by rw [y58, if_pos rfl]
          have s_8 : I2 58 (192 + 12 * w + 8) = 1 := by rw [y58, if_neg (show ¬ 192 + 12 * w + 8 = 912 + 7 * i + 6 by omega), if_pos rfl]
          have s_9 : I2 58 (192 + 12 * w + 9) = nI (q 0) := by rw [y58, if_neg (show ¬ 192 + 12 * w + 9 = 912 + 7 * i + 6 by omega), if_neg (show ¬ 192 + 12 * w + 9 = 192 + 12 * w + 8 by omega), if_neg (show ¬ 192 + 12 * w + 9 = 192 + 12 * w + 10 by omega), if_pos rfl]
          have s_10 : I2 58 (192 + 12 * w + 10) = nI (q 0) := by rw [y58, if_neg (show ¬ 192 + 12 * w + 10 = 912 + 7 * i + 6 by omega), if_neg (show ¬ 192 + 12 * w + 10 = 192 + 12 * w + 8 by omega), if_pos rfl]
          have s_t : ∀ u, u < 12 → u ≠ 8 → u ≠ 9 → u ≠ 10 → I2 58 (192 + 12 * w + u) = bw1 (nI t) (nI g) (nI k) (nI sh) (nI pr) (nI (q 0)) (nI (acOf (q 0))) u := fun u h0 h1 h2 h3 => by
            rw [y58, if_neg (show ¬ 192 + 12 * w + u = 912 + 7 * i + 6 by omega), if_neg (show ¬ 192 + 12 * w + u = 192 + 12 * w + 8 by omega), if_neg (show ¬ 192 + 12 * w + u = 192 + 12 * w + 10 by omega), if_neg (show ¬ 192 + 12 * w + u = 192 + 12 * w + 9 by omega), wr_in 12 h0]
          let J : xTI := fun k' => if k' = 21 then I 21 else if k' = 58 then (fun j => if j = 912 + 7 * i + 6 then I 58 j else I2 58 j) else I2 k'
          have J58 : ∀ j, j ≠ 912 + 7 * i + 6 → J 58 j = I2 58 j := fun j hj => by show (if j = 912 + 7 * i + 6 then I 58 j else I2 58 j) = _; rw [if_neg hj]
          have J58i : J 58 (912 + 7 * i + 6) = I 58 (912 + 7 * i + 6) := by show (if 912 + 7 * i + 6 = 912 + 7 * i + 6 then I 58 (912 + 7 * i + 6) else I2 58 (912 + 7 * i + 6)) = _; rw [if_pos rfl]
          have Jne : ∀ k', k' ≠ 21 → k' ≠ 58 → J k' = I2 k' := fun k' h1 h2 => by show (if k' = 21 then I 21 else if k' = 58 then (fun j => if j = 912 + 7 * i + 6 then I 58 j else I2 58 j) else I2 k') = _; rw [if_neg h1, if_neg h2]
          have J21 : J 21 = I 21 := rfl
          have J13 : J 13 = I1 13 := by rw [Jne 13 (by decide) (by decide), yne 13 (by decide)]
          generalize J = J at J58 J58i Jne J21 J13
          have hJ : BR J L (J 58) (L 59) q ∧ IV (J 58) (L 59) q (n + 1) := by
            refine bookB1 hw hB hV.mono (fun k' h1 h2 h3 => ?_) (fun j hj => ?_) (fun j hj => ?_) (Or.inr ⟨?_, fun u hu => ?_, ?_⟩)
            · by_cases e : k' = 21
              · rw [e, J21]
              · rw [Jne k' e (by omega), hu2 k' h3 e (by omega)]
            · by_cases e : j = 912 + 7 * i + 6
              · rw [e, J58i]
              · rw [J58 j e, s_o j hj e]
            · rw [J13, x13, if_neg (show ¬ j = 11 * w + 7 by omega), if_neg (show ¬ j = 11 * w + 9 by omega), if_neg (show ¬ j = 11 * w + 8 by omega), wr_out 11 (by omega)]
            · rw [J58 _ (by omega)]; exact s_t 0 (by decide) (by decide) (by decide) (by decide)
            · rw [J58 _ (by omega), J13, x13]
              by_cases e7 : u = 7
              · subst e7; rw [if_pos rfl]; exact s_8.symm
              · by_cases e9 : u = 9
                · subst e9; rw [if_neg (show ¬ 11 * w + 9 = 11 * w + 7 by omega), if_pos rfl]; exact s_10.symm
                · by_cases e8 : u = 8
                  · subst e8; rw [if_neg (show ¬ 11 * w + 8 = 11 * w + 7 by omega), if_neg (show ¬ 11 * w + 8 = 11 * w + 9 by omega), if_pos rfl]; exact s_9.symm
                  · rw [if_neg (show ¬ 11 * w + u = 11 * w + 7 by omega), if_neg (show ¬ 11 * w + u = 11 * w + 9 by omega), if_neg (show ¬ 11 * w + u = 11 * w + 8 by omega), wr_in 11 hu, show 192 + 12 * w + 1 + u = 192 + 12 * w + (u + 1) by omega, s_t (u + 1) (by omega) (by omega) (by omega) (by omega)]; rfl
            · refine ⟨t, g, k, sh, pr, q 0, acOf (q 0), 1, ?_⟩
              unfold isUpP
              rw [J58 (192 + 12 * w + 1) (by omega), J58 (192 + 12 * w + 2) (by omega), J58 (192 + 12 * w + 3) (by omega), J58 (192 + 12 * w + 4) (by omega), J58 (192 + 12 * w + 5) (by omega), J58 (192 + 12 * w + 6) (by omega), J58 (192 + 12 * w + 7) (by omega), J58 (192 + 12 * w + 8) (by omega), J58 (192 + 12 * w + 9) (by omega), J58 (192 + 12 * w + 10) (by omega), J58 (192 + 12 * w + 11) (by omega), J58 (16 + 4 * t) (by omega), J58 (16 + 4 * g) (by omega), s_8, s_9, s_10, s_t 1 (by decide) (by decide) (by decide) (by decide), s_t 2 (by decide) (by decide) (by decide) (by decide), s_t 3 (by decide) (by decide) (by decide) (by decide), s_t 4 (by decide) (by decide) (by decide) (by decide), s_t 5 (by decide) (by decide) (by decide) (by decide), s_t 6 (by decide) (by decide) (by decide) (by decide), s_t 7 (by decide) (by decide) (by decide) (by decide), s_t 11 (by decide) (by decide) (by decide) (by decide), s_o (16 + 4 * t) (by omega) (by omega), s_o (16 + 4 * g) (by omega) (by omega)]
              have nm : nI (q 0) ≠ -1 := nI_ne_m1 (by omega)
              refine ⟨rfl, rfl, rfl, rfl, rfl, rfl, rfl, rfl, o4, o3, fun z => o5 z.symm, o6, s1, s2, p1, p2, Nat.le_refl _, ?_, ?_, by decide, Or.inr ⟨q 0, Nat.le_refl _, rfl⟩, Or.inr ⟨q 0, Nat.le_refl _, rfl⟩, ⟨0, by decide, rfl⟩, fun z => absurd z (by decide), fun _ => ⟨nm, nm⟩, fun _ => ⟨u2, u1⟩⟩
              · unfold acOf; by_cases z : q 0 % 14 < 10
                · rw [if_pos z]; omega
                · rw [if_neg z]; omega
              · unfold acOf; by_cases z : q 0 % 14 < 10
                · rw [if_pos z]; omega
                · rw [if_neg z]; omega
          refine h.book (xSame.of (fun k' z1 z2 => hu2 k' (by omega) (by omega) z2) (fun _ _ => rfl)) ⟨qs (qs q 3 (q 3)) 5 (q 5), ?_⟩
          refine bookT hJ.1 hJ.2 b3 b5 (fun k' _ _ _ h21 _ _ => (Jne k' h21 (by omega)).symm) (by rw [hu2 20 (by decide) (by decide) (by decide)]; exact d3) (by rw [hu2 22 (by decide) (by decide) (by decide)]; exact d5) (by rw [s_o 3 (by omega) (by omega)]; exact e3) (by rw [s_o 5 (by omega) (by omega)]; exact e5) (fun j hj => (J58 j (by omega)).symm) hJ.1.2.2.1 hJ.2.2.2.2.2.1 (fun i' hi' t' ht' => ?_) (fun i' hi' t' ht' => ?_) ⟨fun i' hi' => ?_, fun i' hi' => ?_⟩
          · rw [yne 21 (by decide), x21]
            by_cases e : i' = i ∧ t' = 6
            · rw [e.1, e.2, if_pos rfl, s_i]
            · rw [if_neg (show ¬ 7 * i' + t' = 7 * i + 6 by omega), s_o _ (by omega) (by omega)]; exact hB.2.2.2.2.1.1 i' hi' t' ht'
          · rw [hu2 23 (by decide) (by decide) (by decide), s_o _ (by omega) (by omega)]; exact hB.2.2.2.2.1.2.1 i' hi' t' ht'
          · have hi3 : i' < q 3 := hi'
            obtain ⟨⟨gg, tt, kk, a1, a2, a3, a4, a5, a6⟩, a7, a8, a9, a10⟩ := hV.2.2.2.1.1 i' hi3
            unfold isUpP at *
            rw [s_o (912 + 7 * i') (by omega) (by omega), s_o (912 + 7 * i' + 1) (by omega) (by omega), s_o (912 + 7 * i' + 2) (by omega) (by omega), s_o (912 + 7 * i' + 3) (by omega) (by omega), s_o (912 + 7 * i' + 4) (by omega) (by omega), s_o (912 + 7 * i' + 5) (by omega) (by omega)]
            by_cases e : i' = i
            · rw [e, s_i]
              rw [e] at a1 a2 a3 a7 a8 a9
              exact ⟨⟨gg, tt, kk, a1, a2, a3, a4, a5, a6.1, a6.2.1, fun z => absurd z (by decide)⟩, a7, a8, a9, ⟨1, by decide, rfl⟩⟩
            · rw [s_o (912 + 7 * i' + 6) (by omega) (by omega)]
              refine ⟨⟨gg, tt, kk, a1, a2, a3, a4, a5, a6.1, a6.2.1, ?_⟩, a7, a8, a9, a10⟩
              rw [s_o (16 + 4 * gg) (by omega) (by omega), s_o (16 + 4 * tt) (by omega) (by omega)]; exact a6.2.2
          · have hi5 : i' < q 5 := hi'
            rw [s_o (1052 + 3 * i') (by omega) (by omega), s_o (1052 + 3 * i' + 1) (by omega) (by omega), s_o (1052 + 3 * i' + 2) (by omega) (by omega)]
            exact hV.2.2.2.1.2 i' hi5
    · obtain ⟨I1, I2, r1, r2, r3, r4⟩ := ref2k h (-7) 7 (by decide) (by decide)
      refine ⟨-7, I1, I2, ?_, ?_, r3⟩
      · rw [if_neg g2, r1]; rfl
      · rw [xal_n (by decide) (by decide), r4 58 (by decide), e3]
        simp only [Option.bind_some, ite01]
        rw [it_n g1', (op11_l hi2).2.2.2.2.2, r4 58 (by decide), Option.bind_some, if_neg g2, r2]; rfl
  · obtain ⟨I1, I2, r1, r2, r3, r4⟩ := ref2k h (-3) 3 (by decide) (by decide)
    have g1' : ¬ (0 ≤ a1 ∧ a1 ≤ nI (q 3) - 1) := fun z => by
      obtain ⟨j, hj, e⟩ := (rng_iff (by omega)).mp z
      exact g1 ⟨j, hj, by omega, e⟩
    refine ⟨-3, I1, I2, ?_, ?_, r3⟩
    · rw [nt20_n d3 (by omega) g1, r1]; rfl
    · rw [xal_n (by decide) (by decide), r4 58 (by decide), e3]
      simp only [Option.bind_some, ite01]
      rw [it_p g1', r2]; rfl
