section CORNER
variable {I : xTI} {L : xTL} {s : Nat → Int32} {c : Nat → Int64} {q : Nat → Nat} {n : Nat}
theorem F7_need (hB : BR I L s c q) (hV : IV s c q n) (hn : n ≤ 512) {k man : Nat} (hk : k < 5) (hm : man < 12) : ∃ I2, F_X7_needOfOthers xN I (nI k) (nI man) = some (fo (gSum ndV (PS s (q 1) k) man) 0 12, I2) ∧ (∀ j, j ≠ 47 → j ≠ 53 → I2 j = I j) ∧ ∀ m, m < 12 → I2 53 m = PS s (q 1) k m := by
  obtain ⟨I2, e1, e2, e3⟩ := takePos hB hV hk
  refine ⟨I2, ?_, e2, e3⟩
  unfold F_X7_needOfOthers
  rw [e1, Option.bind_some]
  refine xlp_fo (gSum ndV (PS s (q 1) k) man) 0 12 (fun x => some (x, I2)) (fun i hi x K => ?_) (fun x K => ?_) xN (by decide)
  · show F_X7_needOfOthers_c12 xN I2 (nI man) x (nI i) K = _
    unfold F_X7_needOfOthers_c12 F_X7_needOfOthers_j43 gSum
    rw [if_neg (n12 hi)]
    by_cases g : i = man
    · rw [if_pos (by rw [g]), if_pos g, xbn_e, xbn_e, nI_1, Int32.add_zero]
    · rw [if_neg (fun e => g ((nI_eq (by omega) (by omega)).mp e)), if_neg g, xal_n hi (by decide), e3 i hi, xbn_e, xbn_e, xbn_e, nI_1, ndV_eq (PS_bd hV hn hk hi).1]
  · show F_X7_needOfOthers_c12 xN I2 (nI man) x (nI 12) K = _
    unfold F_X7_needOfOthers_c12
    rw [if_pos (by decide)]
theorem F7_have (hB : BR I L s c q) (hV : IV s c q n) {k man : Nat} (hk : k < 5) (hm : man < 12) : ∃ I2, F_X7_haveOfOthers xN I (nI k) (nI man) = some (fo (gSum hvV (PS s (q 1) k) man) 0 12, I2) ∧ (∀ j, j ≠ 47 → j ≠ 53 → I2 j = I j) := by
  obtain ⟨I2, e1, e2, e3⟩ := takePos hB hV hk
  refine ⟨I2, ?_, e2⟩
  unfold F_X7_haveOfOthers
  rw [e1, Option.bind_some]
  refine xlp_fo (gSum hvV (PS s (q 1) k) man) 0 12 (fun x => some (x, I2)) (fun i hi x K => ?_) (fun x K => ?_) xN (by decide)
  · show F_X7_haveOfOthers_c12 xN I2 (nI man) x (nI i) K = _
    unfold F_X7_haveOfOthers_c12 F_X7_haveOfOthers_j42 gSum
    rw [if_neg (n12 hi)]
    by_cases g : i = man
    · rw [if_pos (by rw [g]), if_pos g, xbn_e, xbn_e, nI_1, Int32.add_zero]
    · rw [if_neg (fun e => g ((nI_eq (by omega) (by omega)).mp e)), if_neg g, xal_n hi (by decide), e3 i hi, xbn_e, xbn_e, xbn_e, nI_1, hvV_eq]
  · show F_X7_haveOfOthers_c12 xN I2 (nI man) x (nI 12) K = _
    unfold F_X7_haveOfOthers_c12
    rw [if_pos (by decide)]
end CORNER
theorem F11_there {J : xTI} {q : Nat → Nat} (hV : IVb (J 58) q) (hq : q 1 ≤ 12) {m k : Nat} (hm : m < 12) (hk : k < 5) : F_X11_there xN J (nI m) (nI k) = some (J 58 (64 + (5 * m + k)) + NT (J 58) m (nI k) (J 58 0 / 14)) := by
  unfold F_X11_there
  have e : (64 + 5 * nI m) + nI k = nI (64 + (5 * m + k)) := by rw [show (64 + 5 * nI m) + nI k = _ from ixc 64 5 m k, Nat.add_assoc]
  rw [e, xal_n (by omega) (by decide), show xal (R := Int32) J 58 40670 0 = xal (R := Int32) J 58 40670 (nI 0) from rfl, xal_n (by decide) (by decide), F11_nt hV hq, Option.bind_some]
  rfl
theorem F11_sum {J : xTI} {q : Nat → Nat} (hV : IVb (J 58) q) (h1 : J 58 1 = nI (q 1)) (hq : q 1 ≤ 12) {k man : Nat} (hk : k < 5) (hm : man < 12) (below : Bool) : F_X11_sumOf xN J (nI k) (nI man) (if below then 1 else 0) = some (fo (gSum (if below then ndV else hvV) (PS (J 58) (q 1) k) man) 0 12) := by
  have hf0 : (if below then ndV else hvV) 0 = 0 := by cases below <;> rfl
  rw [show 12 = q 1 + (12 - q 1) by omega, fo_tail (12 - q 1) (fun i h1 h2 x => by
    unfold gSum
    split
    · rfl
    · have : PS (J 58) (q 1) k i = 0 := by unfold PS; rw [if_neg (fun e => absurd e.1 (by omega))]
      rw [this, hf0, Int32.add_zero])]
  unfold F_X11_sumOf
  refine xlp_fo (gSum (if below then ndV else hvV) (PS (J 58) (q 1) k) man) 0 (q 1) (fun x => some x) (fun i hi x K => ?_) (fun x K => ?_) xN (by show q 1 < 100000; omega)
  · show F_X11_sumOf_c6 xN J (nI k) (nI man) (if below then 1 else 0) x (nI i) K = _
    unfold F_X11_sumOf_c6 F_X11_sumOf_j76 gSum
    rw [show xal (R := Int32) J 58 40670 1 = xal (R := Int32) J 58 40670 (nI 1) from rfl, xal_n (by decide) (by decide), h1, if_neg (nI_ge hi (by omega))]
    by_cases g : i = man
    · rw [if_pos (by rw [g]), if_pos g, xbn_e, nI_1]
    · rw [if_neg (fun e => g ((nI_eq (by omega) (by omega)).mp e)), if_neg g, F11_up (by omega), Option.bind_some]
      by_cases gu : J 58 (16 + 4 * i) = 1
      · have hps : PS (J 58) (q 1) k i = J 58 (64 + (5 * i + k)) + NT (J 58) i (nI k) (J 58 0 / 14) := by unfold PS; rw [if_pos ⟨hi, gu⟩]
        rw [if_pos gu, if_neg (by decide), F11_there hV hq (by omega) hk, Option.bind_some, ← hps]
        cases below with
        | true =>
          show (if (1 : Int32) = 0 then _ else if 0 ≤ PS (J 58) (q 1) k i then _ else _) = K (x + ndV (PS (J 58) (q 1) k i), nI (i + 1))
          rw [if_neg (by decide)]
          unfold ndV
          by_cases gv : 0 ≤ PS (J 58) (q 1) k i
          · rw [if_pos gv, if_pos gv, xbn_e, xbn_e, nI_1]
          · rw [if_neg gv, if_neg gv, xbn_e, xbn_e, nI_1]
        | false =>
          show (if (0 : Int32) = 0 then (if PS (J 58) (q 1) k i ≤ 0 then _ else _) else _) = K (x + hvV (PS (J 58) (q 1) k i), nI (i + 1))
          rw [if_pos rfl]
          unfold hvV
          by_cases gv : PS (J 58) (q 1) k i ≤ 0
          · rw [if_pos gv, if_pos gv, xbn_e, xbn_e, nI_1]
          · rw [if_neg gv, if_neg gv, xbn_e, xbn_e, nI_1]
      · have hps : PS (J 58) (q 1) k i = 0 := by unfold PS; rw [if_neg (fun e => gu e.2)]
        rw [if_neg gu, if_pos rfl, xbn_e, nI_1, hps, hf0, Int32.add_zero]
  · show F_X11_sumOf_c6 xN J (nI k) (nI man) (if below then 1 else 0) x (nI (q 1)) K = _
    unfold F_X11_sumOf_c6
    rw [show xal (R := Int32) J 58 40670 1 = xal (R := Int32) J 58 40670 (nI 1) from rfl, xal_n (by decide) (by decide), h1, if_pos (nI_le (Nat.le_refl _) (by omega))]
theorem ndV_bd {v : Int32} (h1 : -5940 ≤ v.toInt) (h2 : v.toInt ≤ 102500000) : 0 ≤ (ndV v).toInt ∧ (ndV v).toInt ≤ 150000000 := by
  unfold ndV
  split
  · decide
  · rename_i g
    have : ¬ (0 : Int) ≤ v.toInt := fun e => g (Int32.le_iff_toInt_le.mpr (by rw [show (0 : Int32).toInt = 0 by decide]; exact e))
    rw [Int32.toInt_neg, Int.bmod_eq_of_le (by omega) (by omega)]; omega
theorem hvV_bd {v : Int32} (h1 : -5940 ≤ v.toInt) (h2 : v.toInt ≤ 102500000) : 0 ≤ (hvV v).toInt ∧ (hvV v).toInt ≤ 150000000 := by
  unfold hvV
  split
  · decide
  · rename_i g
    have : ¬ v.toInt ≤ 0 := fun e => g (Int32.le_iff_toInt_le.mpr (by rw [show (0 : Int32).toInt = 0 by decide]; exact e))
    omega
theorem calm_47 {kp : Bool} {n : Nat} {I J : xTI} {L M : xTL} (h : xRel kp n I L) (h1 : ∀ k, (k < 33 ∨ 54 < k) → (k < 62 ∨ 83 < k) → J k = I k) (h2 : ∀ k, (k < 33 ∨ 54 < k) → (k < 62 ∨ 83 < k) → M k = L k) : xRel kp (n + 1) J M := by
  refine pr_mono _ _ _ _ (h.calm (fun k j hk => ?_) (fun k hk => ?_))
  · unfold calm at hk
    rw [h1 k (by omega) (by omega)]
  · unfold calmL at hk
    exact h2 k (by omega) (by omega)
theorem pr_corner : xs_corner xRel := by
  intro kp n I L a1 a2 a3 hn h
  obtain ⟨⟨q, hB, hV⟩, -⟩ := id h
  obtain ⟨c1, c2, c3, c4, c5, c6, c7, c8, c9⟩ := cnt hB hV
  by_cases g1 : 0 ≤ a1 ∧ a1 ≤ nI (q 2) - 1
  · by_cases g2 : 0 ≤ a2 ∧ a2 ≤ nI (q 1) - 1
    · by_cases g3 : 0 ≤ a3 ∧ a3 ≤ 2
      · obtain ⟨k, hk, rfl⟩ := (rng_iff (by omega)).mp g1
        obtain ⟨man, hm, rfl⟩ := (rng_iff (by omega)).mp g2
        obtain ⟨I2, e1, e2, -⟩ := F7_need hB hV (by omega) (show k < 5 by omega) (show man < 12 by omega)
        have hB2 : BR I2 L (I 58) (L 59) q := hB.ext hV.1 (calm.b (fun j i hj => by unfold calm at hj; rw [e2 j (by omega) (by omega)]) (fun _ _ => rfl)) (fun _ _ => rfl) (fun _ _ => rfl)
        obtain ⟨I3, f1, f2⟩ := F7_have hB2 hV (show k < 5 by omega) (show man < 12 by omega)
        have hI3 : ∀ j, j ≠ 47 → j ≠ 53 → I3 j = I j := fun j z1 z2 => by rw [f2 j z1 z2, e2 j z1 z2]
        have b58 := hI3 58 (by decide) (by decide)
        have s1 := F11_sum (J := I3) (q := q) (by rw [b58]; exact hV.2.2.1) (by rw [b58]; exact c3) c5 (show k < 5 by omega) (show man < 12 by omega) true
        have s2 := F11_sum (J := I3) (q := q) (by rw [b58]; exact hV.2.2.1) (by rw [b58]; exact c3) c5 (show k < 5 by omega) (show man < 12 by omega) false
        rw [b58] at s1 s2
        have s1 : F_X11_sumOf xN I3 (nI k) (nI man) 1 = some (fo (gSum ndV (PS (I 58) (q 1) k) man) 0 12) := s1
        have s2 : F_X11_sumOf xN I3 (nI k) (nI man) 0 = some (fo (gSum hvV (PS (I 58) (q 1) k) man) 0 12) := s2
        have bn := sum_bd (man := man) (C := 150000000) (by decide) (by decide) (fun i hi => ndV_bd (PS_bd hV (by omega) (show k < 5 by omega) hi).1 (PS_bd hV (by omega) (show k < 5 by omega) hi).2) 12 (Nat.le_refl _)
        have bh := sum_bd (man := man) (C := 150000000) (by decide) (by decide) (fun i hi => hvV_bd (PS_bd hV (by omega) (show k < 5 by omega) hi).1 (PS_bd hV (by omega) (show k < 5 by omega) hi).2) 12 (Nat.le_refl _)
        generalize fo (gSum ndV (PS (I 58) (q 1) k) man) 0 12 = nd at e1 s1 bn
        generalize fo (gSum hvV (PS (I 58) (q 1) k) man) 0 12 = hv at f1 s2 bh
        have hR : xRel kp (n + 1) I3 L := calm_47 h (fun j z1 z2 => hI3 j (by omega) (by omega)) (fun _ _ _ => rfl)
        have hc : F_X10_corner xN I (nI k) (nI man) a3 = (if a3 = 0 then some ((if (nd - hv) < 0 then 0 else (nd - hv)), I3) else if a3 = 1 then some (nd, I3) else some (hv, I3)) := by
          unfold F_X10_corner
          rw [F10_stk c2, if_pos g1, Option.bind_some, if_neg (by decide), F10_man c1 c5, if_pos g2, Option.bind_some, if_neg (by decide), xwi_iff, if_pos g3, Option.bind_some, if_neg (by decide), e1, Option.bind_some]
          show Option.bind (F_X7_haveOfOthers xN I2 (nI k) (nI man)) _ = _
          rw [f1, Option.bind_some]
          rfl
        have hr : F_X11_corner xN I3 (nI k) (nI man) a3 = (if a3 = 1 then some (nd, I3) else if a3 = 2 then some (hv, I3) else if nd ≤ hv then some (0, I3) else some (nd - hv, I3)) := by
          unfold F_X11_corner
          rw [F11_stk (q := q) (by rw [b58]; exact c4), if_pos g1, Option.bind_some, if_neg (by decide), F11_man (q := q) (by rw [b58]; exact c3), if_pos g2, Option.bind_some, if_neg (by decide), xin_iff, if_pos g3, Option.bind_some, if_neg (by decide), s1, Option.bind_some, s2, Option.bind_some]
        rcases in3 g3 with rfl | rfl | rfl
        · refine ⟨if (nd - hv) < 0 then 0 else (nd - hv), I3, I3, by rw [hc, if_pos rfl], ?_, hR⟩
          rw [hr, if_neg (by decide), if_neg (by decide)]
          have hsub : (nd - hv).toInt = nd.toInt - hv.toInt := by
            rw [Int32.toInt_sub, Int.bmod_eq_of_le (by omega) (by omega)]
          have h0 : (0 : Int32).toInt = 0 := by decide
          by_cases g : nd ≤ hv
          · rw [if_pos g]
            have g' := Int32.le_iff_toInt_le.mp g
            by_cases g2 : (nd - hv) < 0
            · rw [if_pos g2]
            · rw [if_neg g2]
              have : ¬ (nd - hv).toInt < 0 := fun e => g2 (Int32.lt_iff_toInt_lt.mpr (by rw [h0]; exact e))
              have : nd - hv = 0 := Int32.toInt_inj.mp (by rw [h0]; omega)
              rw [this]
          · rw [if_neg g, if_neg]
            intro g2
            have g2' := Int32.lt_iff_toInt_lt.mp g2
            rw [h0, hsub] at g2'
            exact g (Int32.le_iff_toInt_le.mpr (by omega))
        · exact ⟨nd, I3, I3, by rw [hc]; rfl, by rw [hr]; rfl, hR⟩
        · exact ⟨hv, I3, I3, by rw [hc]; rfl, by rw [hr]; rfl, hR⟩
      · obtain ⟨I1, I2, r1, r2, r3, r4⟩ := ref2k h (-7) 7 (by decide) (by decide)
        refine ⟨-7, I1, I2, ?_, ?_, r3⟩
        · unfold F_X10_corner
          rw [F10_stk c2, if_pos g1, Option.bind_some, if_neg (by decide), F10_man c1 c5, if_pos g2, Option.bind_some, if_neg (by decide), xwi_iff, if_neg g3, Option.bind_some, if_pos rfl, r1]; rfl
        · unfold F_X11_corner
          rw [F11_stk (q := q) (by rw [r4 58 (by decide)]; exact c4), if_pos g1, Option.bind_some, if_neg (by decide), F11_man (q := q) (by rw [r4 58 (by decide)]; exact c3), if_pos g2, Option.bind_some, if_neg (by decide), xin_iff, if_neg g3, Option.bind_some, if_pos rfl, r2]; rfl
    · obtain ⟨I1, I2, r1, r2, r3, r4⟩ := ref2k h (-3) 3 (by decide) (by decide)
      refine ⟨-3, I1, I2, ?_, ?_, r3⟩
      · unfold F_X10_corner F_X10_corner_j16
        rw [F10_stk c2, if_pos g1, Option.bind_some, if_neg (by decide), F10_man c1 c5, if_neg g2, Option.bind_some, if_pos rfl, r1]; rfl
      · unfold F_X11_corner F_X11_corner_j16
        rw [F11_stk (q := q) (by rw [r4 58 (by decide)]; exact c4), if_pos g1, Option.bind_some, if_neg (by decide), F11_man (q := q) (by rw [r4 58 (by decide)]; exact c3), if_neg g2, Option.bind_some, if_pos rfl, r2]; rfl
  · obtain ⟨I1, I2, r1, r2, r3, r4⟩ := ref2k h (-3) 3 (by decide) (by decide)
    refine ⟨-3, I1, I2, ?_, ?_, r3⟩
    · unfold F_X10_corner F_X10_corner_j16
      rw [F10_stk c2, if_neg g1, Option.bind_some, if_pos rfl, r1]; rfl
    · unfold F_X11_corner F_X11_corner_j16
      rw [F11_stk (q := q) (by rw [r4 58 (by decide)]; exact c4), if_neg g1, Option.bind_some, if_pos rfl, r2]; rfl
