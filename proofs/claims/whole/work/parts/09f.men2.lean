theorem upEq {I : xTI} {q : Nat → Nat} {n m : Nat} (h1 : BRm I (I 58) q) (h2 : IVm (I 58) q n) (hq : q 0 ≤ 700) (hm : m < q 1) : (I 8 m = -1) ↔ (I 58 (16 + 4 * m) = 1) := by
  rw [(h1.1 m hm).2]
  rcases (h2.1 m hm).1 with ⟨a, b⟩ | ⟨a, j, hj, b⟩
  · simp [a, b]
  · rw [a, b]
    constructor
    · intro g
      exact absurd g (nI_ne_m1 (by omega))
    · intro g
      exact absurd g (by decide)
theorem F10_up {I : xTI} {q : Nat → Nat} {n m : Nat} (h1 : BRm I (I 58) q) (h2 : IVm (I 58) q n) (hq : q 0 ≤ 700) (hq1 : q 1 ≤ 12) (hm : m < q 1) : F_X3_isUp I (nI m) = some (if I 58 (16 + 4 * m) = 1 then 1 else 0) := by
  unfold F_X3_isUp
  rw [xal_n (by omega) (by decide)]
  simp only [xzc_0, xzc_1, upEq h1 h2 hq hm]
  by_cases e : I 58 (16 + 4 * m) = 1 <;> simp [e]
theorem ix4 (c a : Nat) : (nI c) + (4 * nI a) = nI (c + 4 * a) := by
  rw [show (4 : Int32) = nI 4 from rfl, nI_mul, nI_add]
theorem F11_up {I : xTI} {m : Nat} (hm : m < 12) : F_X11_isUp I (nI m) = some (if I 58 (16 + 4 * m) = 1 then 1 else 0) := by
  unfold F_X11_isUp
  rw [show (16 : Int32) = nI 16 from rfl, ix4, xal_n (by omega) (by decide)]
  simp only [xzc_0, xzc_1]
  by_cases e : I 58 (16 + 4 * m) = 1
  · rw [if_pos e, if_pos (by exact e)]
  · rw [if_neg e, if_neg (by exact e)]
/-- a cell of the reference's men, stocks and holds (places 16 .. 191) and the Book's cells of them change; all else of the Book is as it was -/
theorem bookM {I I2 : xTI} {L : xTL} {q : Nat → Nat} {n : Nat} (hB : BR I L (I 58) (L 59) q) (hV : IV (I 58) (L 59) q n) (hne : ∀ k, 1 ≤ k → k ≤ 28 → k ≠ 2 → k ≠ 7 → k ≠ 8 → k ≠ 9 → k ≠ 10 → I2 k = I k) (hs : ∀ j, (j < 64 ∨ 192 ≤ j) → I2 58 j = I 58 j) (hm : BRm I2 (I2 58) q) (hv : IVm (I2 58) q n) : BR I2 L (I2 58) (L 59) q ∧ IV (I2 58) (L 59) q n := by
  obtain ⟨b1, b2, b3, b4, b5, b6⟩ := hB
  obtain ⟨v1, v2, v3, v4, v5, v6, v7⟩ := hV
  have c5 : q 1 ≤ 12 := v1.2.2.1
  refine ⟨⟨?_, hm, ?_, ?_, ?_, ?_⟩, ⟨?_, hv, ?_, ?_, ?_, ?_, ?_⟩⟩
  · unfold BRn
    rw [hne 1 (by decide) (by decide) (by decide) (by decide) (by decide) (by decide) (by decide), hne 3 (by decide) (by decide) (by decide) (by decide) (by decide) (by decide) (by decide), hne 20 (by decide) (by decide) (by decide) (by decide) (by decide) (by decide) (by decide), hne 15 (by decide) (by decide) (by decide) (by decide) (by decide) (by decide) (by decide), hne 22 (by decide) (by decide) (by decide) (by decide) (by decide) (by decide) (by decide), hne 24 (by decide) (by decide) (by decide) (by decide) (by decide) (by decide) (by decide), hne 26 (by decide) (by decide) (by decide) (by decide) (by decide) (by decide) (by decide)]
    exact b1
  · refine ⟨b3.1, b3.2.1, fun m' hm' => ⟨(b3.2.2 m' hm').1, ?_⟩⟩
    rw [hs _ (by omega)]; exact (b3.2.2 m' hm').2
  · exact b4.fr (hne 13 (by decide) (by decide) (by decide) (by decide) (by decide) (by decide) (by decide)) (fun j e1 e2 => hs j (by omega))
  · exact b5.fr v1.2.2.2.2.1 v1.2.2.2.2.2.2.1 (by have := v1.2.2.2.2.2.2.2.2.1; omega) (hne 21 (by decide) (by decide) (by decide) (by decide) (by decide) (by decide) (by decide)) (hne 23 (by decide) (by decide) (by decide) (by decide) (by decide) (by decide) (by decide)) (hne 25 (by decide) (by decide) (by decide) (by decide) (by decide) (by decide) (by decide)) (hne 27 (by decide) (by decide) (by decide) (by decide) (by decide) (by decide) (by decide)) (fun j e1 e2 => hs j (by omega)) (fun j e1 e2 => hs j (by omega))
  · exact b6.fr v1.2.2.2.2.2.1 (hne 16 (by decide) (by decide) (by decide) (by decide) (by decide) (by decide) (by decide)) (hne 17 (by decide) (by decide) (by decide) (by decide) (by decide) (by decide) (by decide)) (fun j e1 e2 => hs j (by omega))
  · exact ⟨fun i hi => by rw [hs _ (by omega)]; exact v1.1 i hi, v1.2⟩
  · exact v3.fr c5 (fun m' hm' => hs _ (by omega)) (fun j e1 e2 => hs j (by omega))
  · exact v4.fr v1.2.2.2.2.1 v1.2.2.2.2.2.2.1 c5 (fun m' hm' => hs _ (by omega)) (fun j e1 e2 => hs j (by omega))
  · exact v5.fr (fun m' hm' => hs _ (by omega))
  · exact v6.fr (by have := v1.2.2.2.2.2.2.2.2.1; omega) (fun m' hm' => hs _ (by omega)) (fun j e1 e2 => hs j (by omega))
  · exact v7.fr v1.2.2.2.2.2.1 (fun j e1 e2 => hs j (by omega))
theorem pr_hold : xs_hold xRel := by
  intro kp n I L a1 a2 a3 hn h
  obtain ⟨⟨q, hB, hV⟩, -⟩ := id h
  obtain ⟨c1, c2, c3, c4, c5, c6, -, -, c9⟩ := cnt hB hV
  unfold F_X10_hold F_X11_hold F_X10_hold_j16 F_X11_hold_j16 F_X10_hold_j48 F_X11_hold_j42
  rw [F10_man c1 c5, F10_stk c2]
  simp only [Option.bind_some, ite01, xwi_iff, xin_iff]
  by_cases g1 : 0 ≤ a1 ∧ a1 ≤ nI (q 1) - 1
  · by_cases g2 : 0 ≤ a2 ∧ a2 ≤ nI (q 2) - 1
    · by_cases g3 : 0 ≤ a3 ∧ a3 ≤ 9999
      · obtain ⟨m, hm, rfl⟩ := (rng_iff (by omega)).mp g1
        obtain ⟨k, hk, rfl⟩ := (rng_iff (by omega)).mp g2
        obtain ⟨p, -, hp, rfl⟩ := (rngl_iff (a := 0) (b := 9999) (by decide) (by decide)).mp g3
        rw [F10_up hB.2.1 hV.2.1 c9 c5 hm]
        by_cases g4 : I 58 (16 + 4 * m) = 1
        · have hv5 : I 9 (5 * m + k) = I 58 (64 + (5 * m + k)) := (hB.2.1.2.1 (5 * m + k) (by omega)).1
          obtain ⟨x, hx, hxe⟩ := (hV.2.1.2.2.1 (5 * m + k) (by omega)).1
          have hne : ∀ k', k' ≠ 9 → k' ≠ 58 → xup (xup I 9 (5 * m + k) (nI (x + p))) 58 (64 + 5 * m + k) (nI (x + p)) k' = I k' := fun k' e1 e2 => by rw [xup_ne e2, xup_ne e1]
          refine ⟨nI (x + p), xup I 9 (5 * m + k) (nI (x + p)), xup (xup I 9 (5 * m + k) (nI (x + p))) 58 (64 + 5 * m + k) (nI (x + p)), ?_, ?_, ?_⟩
          · simp only [Option.bind_some, ite01]
            rw [it_n g1, it_n g2, it_n g3, it_n g4, F3_pl, Option.bind_some, xal_n (by omega) (by decide), xas_n (by omega) (by decide), xal_n (by omega) (by decide), hv5, hxe, nI_add, xup_at, if_pos rfl]
          · have c3' : xup I 9 (5 * m + k) (nI (x + p)) 58 1 = nI (q 1) := by rw [xup_ne (by decide)]; exact c3
            have c4' : xup I 9 (5 * m + k) (nI (x + p)) 58 2 = nI (q 2) := by rw [xup_ne (by decide)]; exact c4
            have g4' : xup I 9 (5 * m + k) (nI (x + p)) 58 (16 + 4 * m) = 1 := by rw [xup_ne (by decide)]; exact g4
            rw [F11_man c3', F11_stk c4', F11_up (by omega)]
            simp only [Option.bind_some, ite01]
            rw [it_n g1, it_n g2, it_n g3, it_n g4', show (64 : Int32) = nI 64 from rfl, ix5, xal_n (by omega) (by decide), xas_n (by omega) (by decide), xal_n (by omega) (by decide), xup_at, if_pos rfl, xup_ne (I := I) (k' := 58) (by decide), show I 58 (64 + 5 * m + k) = nI x by rw [show 64 + 5 * m + k = 64 + (5 * m + k) by omega, hxe], nI_add]
          · refine h.book (xSame.of (fun k' e1 e2 => hne k' (by omega) e2) (fun _ _ => rfl)) ⟨q, ?_⟩
            have hs : ∀ j, j < 64 ∨ 124 ≤ j → xup (xup I 9 (5 * m + k) (nI (x + p))) 58 (64 + 5 * m + k) (nI (x + p)) 58 j = I 58 j := by
              intro j hj
              rw [xup_at, if_neg (by omega), xup_ne (by decide)]
            have hs2 : ∀ j, j < 60 → xup (xup I 9 (5 * m + k) (nI (x + p))) 58 (64 + 5 * m + k) (nI (x + p)) 58 (64 + j) = if j = 5 * m + k then nI (x + p) else I 58 (64 + j) := by
              intro j hj
              rw [xup_at, xup_ne (k' := 58) (by decide)]
              by_cases e : j = 5 * m + k
              · rw [if_pos (by omega), if_pos e]
              · rw [if_neg (by omega), if_neg e]
            refine bookM hB hV.mono (fun k' _ _ _ _ _ e9 _ => hne k' e9 (by omega)) (fun j hj => hs j (by omega)) ?_ ?_
            · have b2 := hB.2.1
              unfold BRm
              rw [hne 7 (by decide) (by decide), hne 8 (by decide) (by decide), hne 10 (by decide) (by decide), hne 2 (by decide) (by decide)]
              refine ⟨fun m' hm' => ?_, fun j hj => ?_, fun k' hk' => ?_⟩
              · rw [hs _ (by omega), hs _ (by omega)]; exact b2.1 m' hm'
              · rw [hs (124 + j) (by omega), hs2 j hj, xup_ne (k' := 9) (by decide), xup_at]
                refine ⟨?_, (b2.2.1 j hj).2⟩
                by_cases e : j = 5 * m + k
                · rw [if_pos e, if_pos e]
                · rw [if_neg e, if_neg e]; exact (b2.2.1 j hj).1
              · rw [hs _ (by omega)]; exact b2.2.2 k' hk'
            · obtain ⟨a1, a2, a3, a4, a5⟩ := hV.mono.2.1
              refine ⟨fun m' hm' => ?_, fun m' hm' h12 => ?_, fun j hj => ?_, fun m' k' hm' hk' g => ?_, fun k' hk' => ?_⟩
              · rw [hs _ (by omega), hs _ (by omega), hs _ (by omega), hs _ (by omega)]; exact a1 m' hm'
              · rw [hs _ (by omega), hs _ (by omega)]; exact a2 m' hm' h12
              · rw [hs (124 + j) (by omega), hs2 j hj]
                refine ⟨?_, (a3 j hj).2⟩
                by_cases e : j = 5 * m + k
                · rw [if_pos e]; exact ⟨x + p, by omega, rfl⟩
                · rw [if_neg e]; exact (a3 j hj).1
              · rw [hs2 _ (by omega), if_neg (by omega)]; exact a4 m' k' hm' hk' g
              · rw [hs _ (by omega)]; exact a5 k' hk'
        · obtain ⟨I1, I2, r1, r2, r3, r4⟩ := ref2k h (-7) 7 (by decide) (by decide)
          refine ⟨-7, I1, I2, ?_, ?_, r3⟩
          · simp only [Option.bind_some, ite01]
            rw [it_n g1, it_n g2, it_n g3, it_p g4, r1]; rfl
          · rw [F11_man (q := q) (by rw [r4 58 (by decide)]; exact c3), F11_stk (q := q) (by rw [r4 58 (by decide)]; exact c4), F11_up (by omega), r4 58 (by decide)]
            simp only [Option.bind_some, ite01]
            rw [it_n g1, it_n g2, it_n g3, it_p g4, r2]; rfl
      · obtain ⟨I1, I2, r1, r2, r3, r4⟩ := ref2k h (-7) 7 (by decide) (by decide)
        refine ⟨-7, I1, I2, ?_, ?_, r3⟩
        · rw [it_n g1, it_n g2, it_p g3, r1]; rfl
        · rw [F11_man (q := q) (by rw [r4 58 (by decide)]; exact c3), F11_stk (q := q) (by rw [r4 58 (by decide)]; exact c4)]
          simp only [Option.bind_some, ite01]
          rw [it_n g1, it_n g2, it_p g3, r2]; rfl
    · obtain ⟨I1, I2, r1, r2, r3, r4⟩ := ref2k h (-3) 3 (by decide) (by decide)
      refine ⟨-3, I1, I2, ?_, ?_, r3⟩
      · rw [it_n g1, it_p g2, r1]; rfl
      · rw [F11_man (q := q) (by rw [r4 58 (by decide)]; exact c3), F11_stk (q := q) (by rw [r4 58 (by decide)]; exact c4)]
        simp only [Option.bind_some, ite01]
        rw [it_n g1, it_p g2, r2]; rfl
  · obtain ⟨I1, I2, r1, r2, r3, r4⟩ := ref2k h (-3) 3 (by decide) (by decide)
    refine ⟨-3, I1, I2, ?_, ?_, r3⟩
    · rw [it_p g1, r1]; rfl
    · rw [F11_man (q := q) (by rw [r4 58 (by decide)]; exact c3)]
      simp only [Option.bind_some, ite01]
      rw [it_p g1, r2]; rfl
/-- coins change, nothing else -/
theorem bookC {I : xTI} {L L2 : xTL} {q : Nat → Nat} {n : Nat} (hB : BR I L (I 58) (L 59) q) (hV : IV (I 58) (L 59) q n) (hc : BRc L2 (I 58) (L2 59)) (hv : IVc (L2 59) (I 58) q n) : BR I L2 (I 58) (L2 59) q ∧ IV (I 58) (L2 59) q n :=
  ⟨⟨hB.1, hB.2.1, hc, hB.2.2.2⟩, ⟨hV.1, hV.2.1, hV.2.2.1, hV.2.2.2.1, hv, hV.2.2.2.2.2⟩⟩
theorem i64_add {x : Int64} {y : Int32} {a b : Int} (h1 : 0 ≤ x.toInt) (h2 : x.toInt ≤ a) (h3 : 0 ≤ y.toInt) (h4 : y.toInt ≤ b) (h5 : a + b < 2 ^ 62) : (x + y.toInt64).toInt = x.toInt + y.toInt := by
  rw [Int64.toInt_add, Int32.toInt_toInt64]
  apply Int.bmod_eq_of_le <;> omega
theorem i64_ge {y : Int32} {k : Nat} (h : (0 : Int32) ≤ y ∧ y ≤ nI k) (hk : k ≤ 1000000000) : 0 ≤ y.toInt ∧ y.toInt ≤ k := by
  obtain ⟨j, -, h2, rfl⟩ := (rngl_iff (a := 0) (b := k) (by omega) hk).mp h
  rw [nI_toInt (by omega)]
  omega
theorem pr_lend : xs_lend xRel := by
  intro kp n I L a1 a2 hn h
  obtain ⟨⟨q, hB, hV⟩, -⟩ := id h
  obtain ⟨c1, c2, c3, c4, c5, c6, -, -, c9⟩ := cnt hB hV
  unfold F_X10_lend F_X11_lend F_X10_lend_j39 F_X11_lend_j33
  rw [F10_man c1 c5]
  simp only [Option.bind_some, ite01, xwi_iff, xin_iff]
  by_cases g1 : 0 ≤ a1 ∧ a1 ≤ nI (q 1) - 1
  · by_cases g3 : 0 ≤ a2 ∧ a2 ≤ 100000000
    · obtain ⟨m, hm, rfl⟩ := (rng_iff (by omega)).mp g1
      rw [F10_up hB.2.1 hV.2.1 c9 c5 hm]
      by_cases g4 : I 58 (16 + 4 * m) = 1
      · refine ⟨1, I, xup L 4 m (L 4 m + a2.toInt64), I, xup (xup L 4 m (L 4 m + a2.toInt64)) 59 m (L 59 m + a2.toInt64), ?_, ?_, ?_⟩
        · simp only [Option.bind_some, ite01]
          rw [it_n g1, it_n g3, it_n g4, xal_n (by omega) (by decide), xas_n (by omega) (by decide)]
        · rw [F11_man c3, F11_up (by omega)]
          simp only [Option.bind_some, ite01]
          rw [it_n g1, it_n g3, it_n g4, show (0 : Int32) = nI 0 from rfl, nI_add, Nat.zero_add, xal_n (by omega) (by decide), xas_n (by omega) (by decide), xup_ne (I := L) (k' := 59) (by decide)]
        · refine h.book (xSame.of (fun k' e1 e2 => rfl) (fun k' hk' => by rw [xup_ne (by omega), xup_ne (by omega)])) ⟨q, ?_⟩
          have e59 : ∀ j, xup (xup L 4 m (L 4 m + a2.toInt64)) 59 m (L 59 m + a2.toInt64) 59 j = if j = m then L 59 m + a2.toInt64 else L 59 j := by
            intro j; rw [xup_at, xup_ne (k' := 59) (by decide)]
          have e4 : ∀ j, xup (xup L 4 m (L 4 m + a2.toInt64)) 59 m (L 59 m + a2.toInt64) 4 j = if j = m then L 4 m + a2.toInt64 else L 4 j := by
            intro j; rw [xup_ne (by decide), xup_at]
          have hm12 : m < 12 := by omega
          refine bookC hB hV.mono ⟨fun m' hm' => ?_, fun j hj => ?_, fun m' hm' => ⟨fun t ht => ?_, ?_⟩⟩ ⟨fun m' hm' => ?_, fun a b ha hb => ?_, fun m' h1 h2 t ht => ?_, ?_⟩
          · rw [e4, e59, e59 (12 + m'), if_neg (show ¬ 12 + m' = m by omega), xup_ne (k' := 5) (by decide), xup_ne (k' := 5) (by decide)]
            refine ⟨?_, (hB.2.2.1.1 m' hm').2⟩
            rw [(hB.2.2.1.1 m hm12).1, (hB.2.2.1.1 m' hm').1]
          · rw [e59, if_neg (by omega), xup_ne (by decide), xup_ne (by decide)]; exact hB.2.2.1.2.1 j hj
          · rw [e59, if_neg (by omega), xup_ne (by decide), xup_ne (by decide)]; exact (hB.2.2.1.2.2 m' hm').1 t ht
          · rw [xup_ne (by decide), xup_ne (by decide)]; exact (hB.2.2.1.2.2 m' hm').2
          · rw [e59]
            by_cases e : m' = m
            · subst e
              obtain ⟨z1, z2, z3⟩ := hV.2.2.2.2.1.1 m' hm'
              obtain ⟨y1, y2⟩ := i64_ge (k := 100000000) g3 (by decide)
              rw [if_pos rfl, i64_add (a := 10 ^ 14 * n) (b := 100000000) z1 z2 y1 (by omega) (by omega)]
              exact ⟨by omega, by omega, fun z => absurd z (by omega)⟩
            · rw [if_neg e]; exact hV.mono.2.2.2.2.1.1 m' hm'
          · rw [e59, if_neg (by omega)]; exact hV.2.2.2.2.1.2.1 a b ha hb
          · rw [e59, if_neg (by omega)]; exact hV.2.2.2.2.1.2.2.1 m' h1 h2 t ht
          · rw [exS_congr (c := L 59) 144 (fun j hj => by rw [e59, if_neg (by omega)])]; exact hV.2.2.2.2.1.2.2.2
      · obtain ⟨I1, I2, r1, r2, r3, r4⟩ := ref2k h (-7) 7 (by decide) (by decide)
        refine ⟨-7, I1, L, I2, L, ?_, ?_, r3⟩
        · simp only [Option.bind_some, ite01]
          rw [it_n g1, it_n g3, it_p g4, r1]; rfl
        · rw [F11_man (q := q) (by rw [r4 58 (by decide)]; exact c3), F11_up (by omega), r4 58 (by decide)]
          simp only [Option.bind_some, ite01]
          rw [it_n g1, it_n g3, it_p g4, r2]; rfl
    · obtain ⟨I1, I2, r1, r2, r3, r4⟩ := ref2k h (-7) 7 (by decide) (by decide)
      refine ⟨-7, I1, L, I2, L, ?_, ?_, r3⟩
      · rw [it_n g1, it_p g3, r1]; rfl
      · rw [F11_man (q := q) (by rw [r4 58 (by decide)]; exact c3)]
        simp only [Option.bind_some, ite01]
        rw [it_n g1, it_p g3, r2]; rfl
  · obtain ⟨I1, I2, r1, r2, r3, r4⟩ := ref2k h (-3) 3 (by decide) (by decide)
    refine ⟨-3, I1, L, I2, L, ?_, ?_, r3⟩
    · rw [it_p g1, r1]; rfl
    · rw [F11_man (q := q) (by rw [r4 58 (by decide)]; exact c3)]
      simp only [Option.bind_some, ite01]
      rw [it_p g1, r2]; rfl
