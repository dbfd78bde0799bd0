theorem F11_roll0 {J : xTI} {M : xTL} {q : Nat → Nat} (hV : IVb (J 58) q) (hq0 : q 0 ≤ 700) (hq : q 1 ≤ 12) {ac nn : Nat} (hac : ac < 2 ^ 31) (hn : nn ≤ 28) : ∃ K2 M2, xlp (F_X11_rolling_b23 xN (nI ac) (nI nn)) xN (0, J, M) = some (nI (finR (J 58) ac (60 * (28 - nn)) 0 (M 59, 0, 0)).2.2, K2, M2) ∧ (∀ j, j ≠ 82 → j ≠ 83 → K2 j = J j) ∧ ∀ j, j ≠ 81 → M2 j = M j := by
  suffices hinv : ∃ r, xlp (F_X11_rolling_b23 xN (nI ac) (nI nn)) xN (0, J, M) = r ∧ ∃ K2 M2, r = some (nI (finR (J 58) ac (60 * (28 - nn)) 0 (M 59, 0, 0)).2.2, K2, M2) ∧ (∀ j, j ≠ 82 → j ≠ 83 → K2 j = J j) ∧ ∀ j, j ≠ 81 → M2 j = M j by
    obtain ⟨r, h1, K2, M2, h2, h3⟩ := hinv
    exact ⟨K2, M2, by rw [h1, h2], h3⟩
  refine xlp_inv (b := F_X11_rolling_b23 xN (nI ac) (nI nn)) (fun i (x : Int32 × xTI × xTL) => x.1 = nI i ∧ (∀ j, j ≠ 82 → j ≠ 83 → x.2.1 j = J j) ∧ (∀ j, j ≠ 81 → x.2.2 j = M j) ∧ (∀ m, m < i → x.2.1 82 m = 0) ∧ ∀ m, m < i → x.2.2 81 m = M 59 m) 12 (fun r => ∃ K2 M2, r = some (nI (finR (J 58) ac (60 * (28 - nn)) 0 (M 59, 0, 0)).2.2, K2, M2) ∧ (∀ j, j ≠ 82 → j ≠ 83 → K2 j = J j) ∧ ∀ j, j ≠ 81 → M2 j = M j) ?_ ?_ xN (by decide) (0, J, M) ⟨rfl, fun _ _ _ => rfl, fun _ _ => rfl, fun m h => absurd h (Nat.not_lt_zero _), fun m h => absurd h (Nat.not_lt_zero _)⟩
  · rintro i hi ⟨x, K, N⟩ ⟨z1, z2, z3, z4, z5⟩
    have z1 : x = nI i := z1
    subst z1
    have z2 : ∀ j, j ≠ 82 → j ≠ 83 → K j = J j := z2
    have z3 : ∀ j, j ≠ 81 → N j = M j := z3
    have z4 : ∀ m, m < i → K 82 m = 0 := z4
    have z5 : ∀ m, m < i → N 81 m = M 59 m := z5
    refine ⟨(nI (i + 1), xup K 82 i 0, xup N 81 i (M 59 i)), fun F => ?_, rfl, fun j y1 y2 => ?_, fun j y => ?_, fun m hm => ?_, fun m hm => ?_⟩
    · show F_X11_rolling_c23 xN (nI ac) (nI nn) (nI i) K N F = _
      unfold F_X11_rolling_c23
      rw [if_neg (n12 hi), show (0 : Int32) + nI i = nI i from Int32.zero_add _, xal_n (by omega) (by decide), z3 59 (by decide), xas_n hi (by decide), xzc_0, xas_n hi (by decide), xbn_e, nI_1]
    · show xup K 82 i 0 j = _
      rw [xup_ne y1]; exact z2 j y1 y2
    · show xup N 81 i (M 59 i) j = _
      rw [xup_ne y]; exact z3 j y
    · show xup K 82 i 0 82 m = _
      rw [xup_at]
      by_cases e : m = i
      · rw [if_pos e]
      · rw [if_neg e]; exact z4 m (by omega)
    · show xup N 81 i (M 59 i) 81 m = _
      rw [xup_at]
      by_cases e : m = i
      · rw [if_pos e, e]
      · rw [if_neg e]; exact z5 m (by omega)
  · rintro ⟨x, K, N⟩ ⟨z1, z2, z3, z4, z5⟩
    have z1 : x = nI 12 := z1
    subst z1
    have z2 : ∀ j, j ≠ 82 → j ≠ 83 → K j = J j := z2
    have z3 : ∀ j, j ≠ 81 → N j = M j := z3
    have z4 : ∀ m, m < 12 → K 82 m = 0 := z4
    have z5 : ∀ m, m < 12 → N 81 m = M 59 m := z5
    suffices hinv : ∃ r, xlp (F_X11_rolling_b58 xN N (nI ac) (nI nn)) xN (0, K) = r ∧ ∃ K2 M2, r = some (nI (finR (J 58) ac (60 * (28 - nn)) 0 (M 59, 0, 0)).2.2, K2, M2) ∧ (∀ j, j ≠ 82 → j ≠ 83 → K2 j = J j) ∧ ∀ j, j ≠ 81 → M2 j = M j by
      obtain ⟨r, y1, y2⟩ := hinv
      refine ⟨r, fun F => ?_, y2⟩
      show F_X11_rolling_c23 xN (nI ac) (nI nn) (nI 12) K N F = _
      unfold F_X11_rolling_c23
      rw [if_pos (by decide), y1]
    refine xlp_inv (b := F_X11_rolling_b58 xN N (nI ac) (nI nn)) (fun b (x : Int32 × xTI) => x.1 = nI b ∧ (∀ j, j ≠ 83 → x.2 j = K j) ∧ ∀ b', b' < b → x.2 83 b' = if dueB (J 58) ac nn b' then 0 else 1) 60 (fun r => ∃ K2 M2, r = some (nI (finR (J 58) ac (60 * (28 - nn)) 0 (M 59, 0, 0)).2.2, K2, M2) ∧ (∀ j, j ≠ 82 → j ≠ 83 → K2 j = J j) ∧ ∀ j, j ≠ 81 → M2 j = M j) ?_ ?_ xN (by decide) (0, K) ⟨rfl, fun _ _ => rfl, fun m h => absurd h (Nat.not_lt_zero _)⟩
    · rintro b hb ⟨x, G⟩ ⟨y1, y2, y3⟩
      have y1 : x = nI b := y1
      subst y1
      have y2 : ∀ j, j ≠ 83 → G j = K j := y2
      have y3 : ∀ b', b' < b → G 83 b' = if dueB (J 58) ac nn b' then 0 else 1 := y3
      have g58 : G 58 = J 58 := by rw [y2 58 (by decide), z2 58 (by decide) (by decide)]
      refine ⟨(nI (b + 1), xup G 83 b (if dueB (J 58) ac nn b then 0 else 1)), fun F => ?_, rfl, fun j y => ?_, fun b' hb' => ?_⟩
      · show F_X11_rolling_c58 xN N (nI ac) (nI nn) (nI b) G F = _
        unfold F_X11_rolling_c58 F_X11_rolling_j117
        rw [if_neg (n60 hb), F11_stn hb, Option.bind_some, g58]
        by_cases g : J 58 (192 + 12 * b) = 1 ∧ J 58 (192 + 12 * b + 8) = 1
        · rw [if_pos g, if_neg (by decide), bg11_7 hb, Option.bind_some, g58]
          by_cases g7 : J 58 (192 + 12 * b + 7) = nI ac
          · obtain ⟨dy, d1, d2, d3, d4, d5, -⟩ := due_dy hV hq0 hq hac hb ⟨g.1, g.2, g7⟩
            have hiff : lg_cmp ((nI dy + nI nn).toInt64) (14 * (nI ac).toInt64 + 13) ≤ 0 ↔ dyN (J 58) b + nn ≤ 14 * ac + 13 := by
              rw [lg_cmp_le, d2, nI_add, nI_i64 (by omega), nI_i64 hac, show (14 : Int64) = Int64.ofNat 14 from rfl, show (13 : Int64) = Int64.ofNat 13 from rfl, ← Int64.ofNat_mul, ← Int64.ofNat_add, Int64.le_iff_toInt_le, Int64.toInt_ofNat_of_lt (by omega), Int64.toInt_ofNat_of_lt (by omega)]
              omega
            rw [if_pos g7, bg11_6 hb, Option.bind_some, g58, d1]
            by_cases gd : dyN (J 58) b + nn ≤ 14 * ac + 13
            · rw [if_pos (hiff.mpr gd), if_pos ⟨⟨g.1, g.2, g7⟩, gd⟩, xzc_0, xas_n hb (by decide), xbn_e, nI_1]
            · rw [if_neg (fun e => gd (hiff.mp e)), if_neg (fun e => gd e.2), xzc_1, xas_n hb (by decide), xbn_e, nI_1]
          · rw [if_neg g7, if_neg (fun e => g7 e.1.2.2), xzc_1, xas_n hb (by decide), xbn_e, nI_1]
        · rw [if_neg g, if_pos rfl, if_neg (fun e => g ⟨e.1.1, e.1.2.1⟩), xzc_1, xas_n hb (by decide), xbn_e, nI_1]
      · show xup G 83 b _ j = _
        rw [xup_ne y]; exact y2 j y
      · show xup G 83 b (if dueB (J 58) ac nn b then 0 else 1) 83 b' = _
        rw [xup_at]
        by_cases e : b' = b
        · rw [if_pos e, e]
        · rw [if_neg e]; exact y3 b' (by omega)
    · rintro ⟨x, G⟩ ⟨y1, y2, y3⟩
      have y1 : x = nI 60 := y1
      subst y1
      have y2 : ∀ j, j ≠ 83 → G j = K j := y2
      have y3 : ∀ b', b' < 60 → G 83 b' = if dueB (J 58) ac nn b' then 0 else 1 := y3
      have hRM : RM (J 58) ac nn 0 (M 59, 0, 0) G N := by
        refine ⟨by rw [y2 58 (by decide), z2 58 (by decide) (by decide)], z5, fun m hm => ?_, fun b hb => ?_⟩
        · rw [y2 82 (by decide), z4 m hm]
          show 0 = if bt 0 m = true then 1 else 0
          rw [bt_0 hm]; rfl
        · rw [y3 b hb]
          by_cases g : dueB (J 58) ac nn b
          · rw [if_pos g, if_pos ⟨g, Nat.zero_le _⟩]
          · rw [if_neg g, if_neg (fun e => g e.1)]
      obtain ⟨K2, M2, r1, r2, r3⟩ := F11_roll hV hq0 hq hac hn (60 * (28 - nn)) 0 (M 59, 0, 0) G N xN (by omega) hRM (by show 60 * (28 - nn) < 100000; omega)
      refine ⟨some (nI (finR (J 58) ac (60 * (28 - nn)) 0 (M 59, 0, 0)).2.2, K2, M2), fun F => ?_, K2, M2, rfl, fun j w1 w2 => by rw [r2 j w1 w2, y2 j w2, z2 j w1 w2], fun j w => by rw [r3 j w, z3 j w]⟩
      show F_X11_rolling_c58 xN N (nI ac) (nI nn) (nI 60) G F = _
      unfold F_X11_rolling_c58
      rw [if_pos (by decide), fo_RM hRM, Option.bind_some]
      exact r1
theorem pr_rolling : xs_rolling xRel := by
  intro kp n I L a1 a2 hn h
  obtain ⟨⟨q, hB, hV⟩, -⟩ := id h
  obtain ⟨c1, c2, c3, c4, c5, c6, c7, c8, c9⟩ := cnt hB hV
  by_cases g1 : a1 < 0
  · obtain ⟨I1, I2, r1, r2, r3, r4⟩ := ref2k h (-7) 7 (by decide) (by decide)
    refine ⟨-7, I1, L, I2, L, ?_, ?_, r3⟩
    · unfold F_X10_rolling F_X10_rolling_j14
      rw [if_pos g1, r1]; rfl
    · unfold F_X11_rolling F_X11_rolling_j14
      rw [if_neg (Int32.not_le.mpr g1), r2, xin_iff, Option.bind_some, ite_self]
      rfl
  · obtain ⟨ac, hac, rfl⟩ := nI_of g1
    by_cases g2 : 0 ≤ a2 ∧ a2 ≤ 28
    · obtain ⟨nn, -, hnn, rfl⟩ := (rngl_iff (a := 0) (b := 28) (by decide) (by decide)).mp g2
      by_cases g3 : ac ≤ 700
      · have hcp : cp L 4 54 12 = Lf L (L 59) := by
          funext k j
          unfold cp Lf
          by_cases e : k = 54
          · subst e
            by_cases e2 : j < 12
            · rw [if_pos rfl, if_pos e2, if_pos ⟨rfl, e2⟩, (hB.2.2.1.1 j e2).1]
            · rw [if_pos rfl, if_neg e2, if_neg (fun z => e2 z.2)]
          · rw [if_neg e, if_neg (fun z => e z.1)]
        have hr := F7_roll (I := I) (L := L) (s := I 58) hB.2.2.2.1 hV.2.2.1 c5 c9 (nn := nn) g3 hnn (L 59, 0, 0)
        generalize hx : finR (I 58) ac (60 * (28 - nn)) 0 (L 59, 0, 0) = x at hr
        have hLf : ∀ j, j ≠ 54 → Lf L x.1 j = L j := fun j hj => by
          funext i; unfold Lf; rw [if_neg (fun z => hj z.1)]
        have i58 : xup I 46 8 x.2.1 58 = I 58 := xup_ne (by decide)
        obtain ⟨K2, M2, e1, e2, e3⟩ := F11_roll0 (J := xup I 46 8 x.2.1) (M := Lf L x.1) (q := q) (by rw [i58]; exact hV.2.2.1) c9 c5 hac hnn
        rw [i58, hLf 59 (by decide), hx] at e1
        refine ⟨nI x.2.2, xup I 46 8 x.2.1, Lf L x.1, K2, M2, ?_, ?_, calm_47 h (fun j y1 y2 => ?_) (fun j y1 y2 => ?_)⟩
        · unfold F_X10_rolling F_X7_failingByRolling
          rw [if_neg g1, xwi_iff, if_pos g2, Option.bind_some, if_neg (by decide), if_pos (show nI ac ≤ 700 from nI_le (b := 700) g3 (by decide)), xcp_12, xbn_e, xbn_e, xbn_e, hcp]
          show Option.bind (xlp (F_X7_failingByRolling_b60 xN (nI ac) (nI ac * 14 + 14 - 1 - nI nn)) xN (nI 0, (nI ac - 1) * 14, xup I 46 8 0, Lf L (L 59))) _ = _
          rw [show xlp (F_X7_failingByRolling_b60 xN (nI ac) (nI ac * 14 + 14 - 1 - nI nn)) xN (nI 0, (nI ac - 1) * 14, xup I 46 8 0, Lf L (L 59)) = _ from hr]
          rfl
        · unfold F_X11_rolling
          rw [xin_iff, if_pos g2, Option.bind_some, if_neg (by decide), if_pos (Int32.not_lt.mp g1), e1]
        · rw [e2 j (by omega) (by omega), xup_ne (by omega)]
        · rw [e3 j (by omega), hLf j (by omega)]
      · obtain ⟨K2, M2, e1, e2, e3⟩ := F11_roll0 (J := I) (M := L) (q := q) hV.2.2.1 c9 c5 hac hnn
        have hz : finR (I 58) ac (60 * (28 - nn)) 0 (L 59, 0, 0) = (L 59, 0, 0) := by
          refine finR_id (I 58) ac _ 0 _ (fun p' h1 h2 hd => ?_)
          obtain ⟨dy, d1, d2, d3, d4, d5, -⟩ := due_dy hV.2.2.1 c9 c5 hac (Nat.mod_lt p' (by decide)) hd.1
          omega
        rw [hz] at e1
        refine ⟨0, I, L, K2, M2, ?_, ?_, calm_47 h (fun j y1 y2 => e2 j (by omega) (by omega)) (fun j y1 y2 => e3 j (by omega))⟩
        · unfold F_X10_rolling F_X7_failingByRolling
          rw [if_neg g1, xwi_iff, if_pos g2, Option.bind_some, if_neg (by decide), if_neg (show ¬ nI ac ≤ 700 from nI_ge (a := 700) (by omega) hac)]
          rfl
        · unfold F_X11_rolling
          rw [xin_iff, if_pos g2, Option.bind_some, if_neg (by decide), if_pos (Int32.not_lt.mp g1), e1]
          rfl
    · obtain ⟨I1, I2, r1, r2, r3, r4⟩ := ref2k h (-7) 7 (by decide) (by decide)
      refine ⟨-7, I1, L, I2, L, ?_, ?_, r3⟩
      · unfold F_X10_rolling F_X10_rolling_j14
        rw [if_neg g1, xwi_iff, if_neg g2, Option.bind_some, if_pos rfl, r1]; rfl
      · unfold F_X11_rolling F_X11_rolling_j14
        rw [xin_iff, if_neg g2, Option.bind_some, if_pos rfl, r2]; rfl
