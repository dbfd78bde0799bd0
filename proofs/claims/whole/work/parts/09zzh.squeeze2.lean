theorem pr_squeeze : xs_squeeze xRel := by
  intro kp n I L a1 a2 hn h
  obtain ⟨⟨q, hB, hV⟩, -⟩ := id h
  obtain ⟨c1, c2, c3, c4, c5, c6, c7, c8, c9⟩ := cnt hB hV
  by_cases g1 : 0 ≤ a1 ∧ a1 ≤ nI (q 2) - 1
  · by_cases g2 : 0 ≤ a2 ∧ a2 ≤ nI (q 1) - 1
    · obtain ⟨k, hk, rfl⟩ := (rng_iff (by omega)).mp g1
      obtain ⟨man, hm, rfl⟩ := (rng_iff (by omega)).mp g2
      have hk5 : k < 5 := by omega
      obtain ⟨I2, e1, e2, e3⟩ := F7_need hB hV (by omega) hk5 (show man < 12 by omega)
      obtain ⟨res, r1, r2⟩ := sq_run hB hV hk5 (q 1) (fo (gSum ndV (PS (I 58) (q 1) k) man) 0 12) 0 (PS (I 58) (q 1) k) (cpos_le _ _)
      obtain ⟨J2, f1, f2⟩ := r1 I2 0 xN e2 e3 (by omega) (by show q 1 < 100000; omega)
      have b58 := f2 58 (by decide) (by decide)
      have s1 := F11_sum (J := J2) (q := q) (by rw [b58]; exact hV.2.2.1) (by rw [b58]; exact c3) c5 hk5 (show man < 12 by omega) true
      rw [b58] at s1
      have s1 : F_X11_sumOf xN J2 (nI k) (nI man) 1 = some (fo (gSum ndV (PS (I 58) (q 1) k) man) 0 12) := s1
      generalize hnd : fo (gSum ndV (PS (I 58) (q 1) k) man) 0 12 = nd at e1 s1 f1 r2
      have hlp : ∃ r, xlp (F_X11_squeeze_b35 xN (nI k) nd) xN (0, J2) = r ∧ ∃ K2, r = some (res, K2) ∧ ∀ j, j ≠ 78 → K2 j = J2 j := by
        refine xlp_inv (b := F_X11_squeeze_b35 xN (nI k) nd) (fun i (x : Int32 × xTI) => x.1 = nI i ∧ (∀ j, j ≠ 78 → x.2 j = J2 j) ∧ ∀ m, m < i → x.2 78 m = hvV (PS (I 58) (q 1) k m)) (q 1) (fun r => ∃ K2, r = some (res, K2) ∧ ∀ j, j ≠ 78 → K2 j = J2 j) ?_ ?_ xN (by show q 1 < 100000; omega) (0, J2) ⟨rfl, fun _ _ => rfl, fun m hm => absurd hm (Nat.not_lt_zero _)⟩
        · rintro i hi ⟨x, K⟩ ⟨z1, z2, z3⟩
          have z1 : x = nI i := z1
          subst z1
          have z2 : ∀ j, j ≠ 78 → K j = J2 j := z2
          have z3 : ∀ m, m < i → K 78 m = hvV (PS (I 58) (q 1) k m) := z3
          have k58 : K 58 = I 58 := by rw [z2 58 (by decide), b58]
          refine ⟨(nI (i + 1), xup K 78 i (hvV (PS (I 58) (q 1) k i))), fun F => ?_, rfl, fun j hj => ?_, fun m hm' => ?_⟩
          · show F_X11_squeeze_c35 xN (nI k) nd (nI i) K F = _
            unfold F_X11_squeeze_c35 F_X11_squeeze_j81
            rw [show xal (R := Int64 × xTI) K 58 40670 1 = xal (R := Int64 × xTI) K 58 40670 (nI 1) from rfl, xal_n (by decide) (by decide), k58, c3, if_neg (nI_ge hi (by omega)), F11_there (q := q) (by rw [k58]; exact hV.2.2.1) c5 (by omega) hk5, Option.bind_some, F11_up (by omega), Option.bind_some, k58]
            by_cases gu : I 58 (16 + 4 * i) = 1
            · have hps : PS (I 58) (q 1) k i = I 58 (64 + (5 * i + k)) + NT (I 58) i (nI k) (I 58 0 / 14) := by unfold PS; rw [if_pos ⟨hi, gu⟩]
              rw [if_pos gu, if_neg (by decide), ← hps]
              unfold hvV
              by_cases gv : PS (I 58) (q 1) k i ≤ 0
              · rw [if_pos gv, if_pos gv, xas_n (by omega) (by decide), xbn_e, nI_1]
              · rw [if_neg gv, if_neg gv, xas_n (by omega) (by decide), xbn_e, nI_1]
            · have hps : PS (I 58) (q 1) k i = 0 := by unfold PS; rw [if_neg (fun e => gu e.2)]
              rw [if_neg gu, if_pos rfl, hps, xas_n (by omega) (by decide), xbn_e, nI_1]
              rfl
          · show xup K 78 i (hvV (PS (I 58) (q 1) k i)) j = _
            rw [xup_ne hj]; exact z2 j hj
          · show xup K 78 i (hvV (PS (I 58) (q 1) k i)) 78 m = _
            rw [xup_at]
            by_cases e : m = i
            · rw [if_pos e, e]
            · rw [if_neg e]; exact z3 m (by omega)
        · rintro ⟨x, K⟩ ⟨z1, z2, z3⟩
          have z1 : x = nI (q 1) := z1
          subst z1
          have z2 : ∀ j, j ≠ 78 → K j = J2 j := z2
          have z3 : ∀ m, m < q 1 → K 78 m = hvV (PS (I 58) (q 1) k m) := z3
          have k58 : K 58 = I 58 := by rw [z2 58 (by decide), b58]
          obtain ⟨K2, w1, w2⟩ := r2 K xN k58 z3 (by show q 1 < 100000; omega)
          refine ⟨some (res, K2), fun F => ?_, K2, rfl, fun j hj => by rw [w2 j hj, z2 j hj]⟩
          show F_X11_squeeze_c35 xN (nI k) nd (nI (q 1)) K F = _
          unfold F_X11_squeeze_c35
          rw [show xal (R := Int64 × xTI) K 58 40670 1 = xal (R := Int64 × xTI) K 58 40670 (nI 1) from rfl, xal_n (by decide) (by decide), k58, c3, if_pos (nI_le (Nat.le_refl _) (by omega))]
          exact w1
      obtain ⟨r, h1, K2, h2, h3⟩ := hlp
      refine ⟨res, J2, K2, ?_, ?_, calm_47 h (fun j z1 z2 => ?_) (fun _ _ _ => rfl)⟩
      · unfold F_X10_squeeze F_X7_leastCost
        rw [F10_stk c2, if_pos g1, Option.bind_some, if_neg (by decide), F10_man c1 c5, if_pos g2, Option.bind_some, if_neg (by decide), e1, Option.bind_some]
        show Option.bind (xlp (F_X7_leastCost_b15 xN (nI k)) xN (nd, 0, nI 0, I2)) _ = _
        rw [f1, Option.bind_some]
      · unfold F_X11_squeeze
        rw [F11_stk (q := q) (by rw [b58]; exact c4), if_pos g1, Option.bind_some, if_neg (by decide), F11_man (q := q) (by rw [b58]; exact c3), if_pos g2, Option.bind_some, if_neg (by decide), s1, Option.bind_some, h1, h2]
      · rw [h3 j (by omega), f2 j (by omega) (by omega)]
    · obtain ⟨I1, I2, r1, r2, r3, r4⟩ := huz2k h (-3) 3 (by decide) (by decide)
      refine ⟨0, I1, I2, ?_, ?_, r3⟩
      · unfold F_X10_squeeze F_X10_squeeze_j16
        rw [F10_stk c2, if_pos g1, Option.bind_some, if_neg (by decide), F10_man c1 c5, if_neg g2, Option.bind_some, if_pos rfl, r1]; rfl
      · unfold F_X11_squeeze F_X11_squeeze_j16
        rw [F11_stk (q := q) (by rw [r4 58 (by decide)]; exact c4), if_pos g1, Option.bind_some, if_neg (by decide), F11_man (q := q) (by rw [r4 58 (by decide)]; exact c3), if_neg g2, Option.bind_some, if_pos rfl, r2]; rfl
  · obtain ⟨I1, I2, r1, r2, r3, r4⟩ := huz2k h (-3) 3 (by decide) (by decide)
    refine ⟨0, I1, I2, ?_, ?_, r3⟩
    · unfold F_X10_squeeze F_X10_squeeze_j16
      rw [F10_stk c2, if_neg g1, Option.bind_some, if_pos rfl, r1]; rfl
    · unfold F_X11_squeeze F_X11_squeeze_j16
      rw [F11_stk (q := q) (by rw [r4 58 (by decide)]; exact c4), if_neg g1, Option.bind_some, if_pos rfl, r2]; rfl
