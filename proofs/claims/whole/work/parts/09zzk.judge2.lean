theorem fill51 (L : xTL) : F_J7_fill_d0a16_51 xN L 0 = some (wr L 51 0 (fun _ => 0) 12) := by
  unfold F_J7_fill_d0a16_51
  rw [show ((0 : Int32), L) = (fun i => (nI i, wr L 51 0 (fun _ => 0) i)) 0 from rfl]
  refine xlp_for (fun i => (nI i, wr L 51 0 (fun _ => 0) i)) 12 _ (fun i hi k => ?_) (fun k => ?_) xN (by decide)
  · show F_J7_fill_d0a16_51_c6 xN 0 12 (nI i) (wr L 51 0 (fun _ => 0) i) k = k (nI (i + 1), wr L 51 0 (fun _ => 0) (i + 1))
    unfold F_J7_fill_d0a16_51_c6
    rw [if_neg (n12 hi), xas_n hi (by decide), xbn_e, nI_1]
    show _ = k (nI (i + 1), xup (wr L 51 0 (fun _ => 0) i) 51 (0 + i) 0)
    rw [Nat.zero_add]
  · show F_J7_fill_d0a16_51_c6 xN 0 12 (nI 12) (wr L 51 0 (fun _ => 0) 12) k = _
    unfold F_J7_fill_d0a16_51_c6
    rw [if_pos (by decide)]
theorem fill52 (L : xTL) : F_J7_fill_d0a16_52 xN L 0 = some (wr L 52 0 (fun _ => 0) 12) := by
  unfold F_J7_fill_d0a16_52
  rw [show ((0 : Int32), L) = (fun i => (nI i, wr L 52 0 (fun _ => 0) i)) 0 from rfl]
  refine xlp_for (fun i => (nI i, wr L 52 0 (fun _ => 0) i)) 12 _ (fun i hi k => ?_) (fun k => ?_) xN (by decide)
  · show F_J7_fill_d0a16_52_c6 xN 0 12 (nI i) (wr L 52 0 (fun _ => 0) i) k = k (nI (i + 1), wr L 52 0 (fun _ => 0) (i + 1))
    unfold F_J7_fill_d0a16_52_c6
    rw [if_neg (n12 hi), xas_n hi (by decide), xbn_e, nI_1]
    show _ = k (nI (i + 1), xup (wr L 52 0 (fun _ => 0) i) 52 (0 + i) 0)
    rw [Nat.zero_add]
  · show F_J7_fill_d0a16_52_c6 xN 0 12 (nI 12) (wr L 52 0 (fun _ => 0) 12) k = _
    unfold F_J7_fill_d0a16_52_c6
    rw [if_pos (by decide)]
theorem wr0z {α : Type} {I : Nat → Nat → α} {k n m : Nat} {z : α} (hm : m < n) : wr I k 0 (fun _ => z) n k m = z := by
  have := wr_in (I := I) (k := k) (base := 0) (w := fun _ => z) (t := m) n hm
  rw [Nat.zero_add] at this; exact this
/-- the class's judgement -/
theorem F7_good {I : xTI} {L : xTL} {s : Nat → Int32} {c : Nat → Int64} {q : Nat → Nat} {n : Nat} (hB : BR I L s c q) (hV : IV s c q n) {t : Nat} (ht : t ≤ 20) {row : Nat → Int32} (hrow : ∀ i, i < 3 * t → I 55 i = row i) (k ac : Int32) : ∃ v I2 L2, F_X7_isGood_55 xN I L k ac (nI (3 * t)) = some (v, I2, L2) ∧ ((v = 1 ∧ GoodC row (fun m => (NT s m k ac).toInt) (q 1) t) ∨ (v = 0 ∧ ¬ GoodC row (fun m => (NT s m k ac).toInt) (q 1) t)) ∧ (∀ j, j ≠ 47 → I2 j = I j) ∧ ∀ j, j ≠ 51 → j ≠ 52 → L2 j = L j := by
  have c5 : q 1 ≤ 12 := hV.1.2.2.1
  have h0 : (0 : Int64).toInt = 0 := by decide
  unfold F_X7_isGood_55
  rw [fill51, Option.bind_some, fill52, Option.bind_some]
  suffices hinv : ∃ r, xlp (F_X7_isGood_55_b19 xN I k ac (nI (3 * t))) xN (0, wr (wr L 51 0 (fun _ => 0) 12) 52 0 (fun _ => 0) 12) = r ∧ ∃ v I2 L2, r = some (v, I2, L2) ∧ ((v = 1 ∧ GoodC row (fun m => (NT s m k ac).toInt) (q 1) t) ∨ (v = 0 ∧ ¬ GoodC row (fun m => (NT s m k ac).toInt) (q 1) t)) ∧ (∀ j, j ≠ 47 → I2 j = I j) ∧ ∀ j, j ≠ 51 → j ≠ 52 → L2 j = L j by
    obtain ⟨r, h1, v, I2, L2, h2, h3⟩ := hinv
    exact ⟨v, I2, L2, by rw [h1, h2], h3⟩
  refine xlp_ex (b := F_X7_isGood_55_b19 xN I k ac (nI (3 * t))) (fun i (x : Int32 × xTL) => x.1 = nI (3 * i) ∧ (∀ j, j ≠ 51 → j ≠ 52 → x.2 j = L j) ∧ (∀ m, m < 12 → (x.2 51 m).toInt = Ga row i m ∧ (x.2 52 m).toInt = Go row i m) ∧ ∀ i', i' < i → Vd row (q 1) i') t (fun r => ∃ v I2 L2, r = some (v, I2, L2) ∧ ((v = 1 ∧ GoodC row (fun m => (NT s m k ac).toInt) (q 1) t) ∨ (v = 0 ∧ ¬ GoodC row (fun m => (NT s m k ac).toInt) (q 1) t)) ∧ (∀ j, j ≠ 47 → I2 j = I j) ∧ ∀ j, j ≠ 51 → j ≠ 52 → L2 j = L j) ?_ ?_ xN (by show t < 100000; omega) (0, wr (wr L 51 0 (fun _ => 0) 12) 52 0 (fun _ => 0) 12) ⟨rfl, fun j h1 h2 => ?_, fun m hm => ⟨?_, ?_⟩, fun i' h => absurd h (Nat.not_lt_zero _)⟩
  · rintro i hi ⟨x, M⟩ ⟨e1, e2, e3, e4⟩
    have e1 : x = nI (3 * i) := e1
    subst e1
    have e2 : ∀ j, j ≠ 51 → j ≠ 52 → M j = L j := e2
    have e3 : ∀ m, m < 12 → (M 51 m).toInt = Ga row i m ∧ (M 52 m).toInt = Go row i m := e3
    have e4 : ∀ i', i' < i → Vd row (q 1) i' := e4
    have i2 : nI (3 * i) + 2 = nI (3 * i + 2) := nI_add _ 2
    have i3 : nI (3 * i) + 3 = nI (3 * (i + 1)) := by rw [show nI (3 * i) + 3 = nI (3 * i + 3) from nI_add _ 3]; congr 1
    have r0 := hrow (3 * i) (by omega)
    have r1 := hrow (3 * i + 1) (by omega)
    have r2 := hrow (3 * i + 2) (by omega)
    have bad : ¬ Vd row (q 1) i → (∀ K, F_X7_isGood_55_c19 xN I k ac (nI (3 * t)) (nI (3 * i)) M K = some (0, I, M)) → ∃ r, (∀ K, F_X7_isGood_55_b19 xN I k ac (nI (3 * t)) (nI (3 * i), M) K = r) ∧ ∃ v I2 L2, r = some (v, I2, L2) ∧ ((v = 1 ∧ GoodC row (fun m => (NT s m k ac).toInt) (q 1) t) ∨ (v = 0 ∧ ¬ GoodC row (fun m => (NT s m k ac).toInt) (q 1) t)) ∧ (∀ j, j ≠ 47 → I2 j = I j) ∧ ∀ j, j ≠ 51 → j ≠ 52 → L2 j = L j := fun hb hk => ⟨some (0, I, M), hk, 0, I, M, rfl, Or.inr ⟨rfl, fun g => hb (g.1 i hi)⟩, fun _ _ => rfl, e2⟩
    have hc : ∀ K, F_X7_isGood_55_c19 xN I k ac (nI (3 * t)) (nI (3 * i)) M K = (if row (3 * i) < 0 then some (0, I, M) else if nI (q 1) ≤ row (3 * i) then some (0, I, M) else if row (3 * i + 1) < 0 then some (0, I, M) else if nI (q 1) ≤ row (3 * i + 1) then some (0, I, M) else F_X7_isGood_55_j83 K xN I M k ac (nI (3 * t)) (nI (3 * i)) (row (3 * i)) (row (3 * i + 1)) 1) := fun K => by
      unfold F_X7_isGood_55_c19
      have j0 : F_X7_isGood_55_j83 K xN I M k ac (nI (3 * t)) (nI (3 * i)) (row (3 * i)) (row (3 * i + 1)) 0 = some (0, I, M) := by unfold F_X7_isGood_55_j83; rw [if_pos rfl]; rfl
      rw [i2, if_neg (nI_ge (show 3 * i + 2 < 3 * t by omega) (by omega)), xal_n (by omega) (by decide), r0, nI_1, xal_n (by omega) (by decide), r1, j0, xbn_e, hB.1.2.1, xbn_e]
    by_cases v1 : row (3 * i) < 0
    · refine Or.inr (bad ?_ (fun K => by rw [hc, if_pos v1]))
      rintro ⟨⟨a, ha, ea⟩, -⟩
      rw [ea] at v1; exact nI_pos (by omega) v1
    · by_cases v2 : nI (q 1) ≤ row (3 * i)
      · refine Or.inr (bad ?_ (fun K => by rw [hc, if_neg v1, if_pos v2]))
        rintro ⟨⟨a, ha, ea⟩, -⟩
        rw [ea] at v2; exact nI_ge ha (by omega) v2
      · by_cases v3 : row (3 * i + 1) < 0
        · refine Or.inr (bad ?_ (fun K => by rw [hc, if_neg v1, if_neg v2, if_pos v3]))
          rintro ⟨-, ⟨a, ha, ea⟩, -⟩
          rw [ea] at v3; exact nI_pos (by omega) v3
        · by_cases v4 : nI (q 1) ≤ row (3 * i + 1)
          · refine Or.inr (bad ?_ (fun K => by rw [hc, if_neg v1, if_neg v2, if_neg v3, if_pos v4]))
            rintro ⟨-, ⟨a, ha, ea⟩, -⟩
            rw [ea] at v4; exact nI_ge ha (by omega) v4
          · obtain ⟨a, ha31, ea⟩ := nI_of v1
            obtain ⟨b, hb31, eb⟩ := nI_of v3
            have ha : a < q 1 := by
              rcases Nat.lt_or_ge a (q 1) with z | z
              · exact z
              · rw [ea] at v2; exact absurd (nI_le z ha31) v2
            have hb : b < q 1 := by
              rcases Nat.lt_or_ge b (q 1) with z | z
              · exact z
              · rw [eb] at v4; exact absurd (nI_le z hb31) v4
            have hc1 : ∀ K, F_X7_isGood_55_c19 xN I k ac (nI (3 * t)) (nI (3 * i)) M K = (if nI a = nI b then some (0, I, M) else if 0 < row (3 * i + 2) then K (nI (3 * (i + 1)), xup (xup M 51 a (M 51 a + (row (3 * i + 2)).toInt64)) 52 b (xup M 51 a (M 51 a + (row (3 * i + 2)).toInt64) 52 b + (row (3 * i + 2)).toInt64)) else some (0, I, M)) := fun K => by
              rw [hc, if_neg v1, if_neg v2, if_neg v3, if_neg v4, ea, eb]
              unfold F_X7_isGood_55_j83
              rw [if_neg (by decide), i2, i3, xal_n (by omega) (by decide), r2, xal_n (by omega) (by decide), xal_n (by omega) (by decide), xas_n (by omega) (by decide), xal_n (by omega) (by decide), xal_n (by omega) (by decide), xas_n (by omega) (by decide), xbn_e, r2]
              rfl
            by_cases v5 : nI a = nI b
            · refine Or.inr (bad ?_ (fun K => by rw [hc1, if_pos v5]))
              rintro ⟨-, -, hne, -⟩
              exact hne (by rw [ea, eb, v5])
            · have hab : a ≠ b := fun e => v5 (by rw [e])
              by_cases v6 : 0 < row (3 * i + 2)
              · have hpos : 0 < (row (3 * i + 2)).toInt := by
                  have := Int32.lt_iff_toInt_lt.mp v6
                  rw [show (0 : Int32).toInt = 0 by decide] at this; exact this
                have hvd : Vd row (q 1) i := ⟨⟨a, ha, ea⟩, ⟨b, hb, eb⟩, by rw [ea, eb]; exact v5, hpos⟩
                refine Or.inl ⟨(nI (3 * (i + 1)), xup (xup M 51 a (M 51 a + (row (3 * i + 2)).toInt64)) 52 b (xup M 51 a (M 51 a + (row (3 * i + 2)).toInt64) 52 b + (row (3 * i + 2)).toInt64)), fun K => by
                  show F_X7_isGood_55_c19 xN I k ac (nI (3 * t)) (nI (3 * i)) M K = _
                  rw [hc1, if_neg v5, if_pos v6], rfl, fun j z1 z2 => ?_, fun m hm => ?_, fun i' hi' => ?_⟩
                · show xup (xup M 51 a _) 52 b _ j = _
                  rw [xup_ne z2, xup_ne z1]; exact e2 j z1 z2
                · have b1 := Ga_bd (m := m) e4
                  have b2 := Go_bd (m := m) e4
                  have hlt := Int32.toInt_lt (row (3 * i + 2))
                  obtain ⟨m1, m2⟩ := e3 m hm
                  show (xup (xup M 51 a (M 51 a + (row (3 * i + 2)).toInt64)) 52 b (xup M 51 a (M 51 a + (row (3 * i + 2)).toInt64) 52 b + (row (3 * i + 2)).toInt64) 51 m).toInt = Ga row i m + (if row (3 * i) = nI m then (row (3 * i + 2)).toInt else 0) ∧ (xup (xup M 51 a (M 51 a + (row (3 * i + 2)).toInt64)) 52 b (xup M 51 a (M 51 a + (row (3 * i + 2)).toInt64) 52 b + (row (3 * i + 2)).toInt64) 52 m).toInt = Go row i m + (if row (3 * i + 1) = nI m then (row (3 * i + 2)).toInt else 0)
                  rw [xup_ne (k' := 51) (by decide), xup_at, xup_at, xup_ne (k' := 52) (by decide), ea, eb]
                  refine ⟨?_, ?_⟩
                  · by_cases em : m = a
                    · subst em
                      rw [if_pos rfl, if_pos rfl, Int64.toInt_add, Int32.toInt_toInt64, m1, Int.bmod_eq_of_le (by omega) (by omega)]
                    · rw [if_neg em, if_neg (fun e => em ((nI_eq (by omega) (by omega)).mp e).symm), m1]; omega
                  · by_cases em : m = b
                    · subst em
                      rw [if_pos rfl, if_pos rfl, Int64.toInt_add, Int32.toInt_toInt64, m2, Int.bmod_eq_of_le (by omega) (by omega)]
                    · rw [if_neg em, if_neg (fun e => em ((nI_eq (by omega) (by omega)).mp e).symm), m2]; omega
                · by_cases e : i' = i
                  · subst e; exact hvd
                  · exact e4 i' (by omega)
              · refine Or.inr (bad ?_ (fun K => by rw [hc1, if_neg v5, if_neg v6]))
                rintro ⟨-, -, -, hp⟩
                exact v6 (Int32.lt_iff_toInt_lt.mpr (by rw [show (0 : Int32).toInt = 0 by decide]; exact hp))
  · rintro ⟨x, M⟩ ⟨e1, e2, e3, e4⟩
    have e1 : x = nI (3 * t) := e1
    subst e1
    have e2 : ∀ j, j ≠ 51 → j ≠ 52 → M j = L j := e2
    have e3 : ∀ m, m < 12 → (M 51 m).toInt = Ga row t m ∧ (M 52 m).toInt = Go row t m := e3
    have e4 : ∀ i', i' < t → Vd row (q 1) i' := e4
    obtain ⟨I2, f1, f2, f3⟩ := nets47 hB.2.2.2.1 hV.2.2.1 c5 k ac
    have hw : ∃ r, xlp (F_X7_isWhole_b16 xN I2 M) xN 0 = r ∧ ∃ v, r = some (v, I2) ∧ ((v = 1 ∧ GoodC row (fun m => (NT s m k ac).toInt) (q 1) t) ∨ (v = 0 ∧ ¬ GoodC row (fun m => (NT s m k ac).toInt) (q 1) t)) := by
      refine xlp_ex (b := F_X7_isWhole_b16 xN I2 M) (fun m (x : Int32) => x = nI m ∧ ∀ m', m' < m → ¬ (0 < Ga row t m' ∧ 0 < Go row t m') ∧ Go row t m' - Ga row t m' = (NT s m' k ac).toInt) 12 (fun r => ∃ v, r = some (v, I2) ∧ ((v = 1 ∧ GoodC row (fun m => (NT s m k ac).toInt) (q 1) t) ∨ (v = 0 ∧ ¬ GoodC row (fun m => (NT s m k ac).toInt) (q 1) t))) ?_ ?_ xN (by decide) 0 ⟨rfl, fun m' h => absurd h (Nat.not_lt_zero _)⟩
      · rintro m hm x ⟨z1, z2⟩
        subst z1
        obtain ⟨m1, m2⟩ := e3 m hm
        have b1 := Ga_bd (m := m) e4
        have b2 := Go_bd (m := m) e4
        have hle1 : lg_cmp (M 51 m) 0 ≤ 0 ↔ ¬ 0 < Ga row t m := by
          rw [lg_cmp_le, Int64.le_iff_toInt_le, h0, m1]; omega
        have hle2 : lg_cmp (M 52 m) 0 ≤ 0 ↔ ¬ 0 < Go row t m := by
          rw [lg_cmp_le, Int64.le_iff_toInt_le, h0, m2]; omega
        have heq : lg_cmp (M 52 m - M 51 m) ((NT s m k ac).toInt64) = 0 ↔ Go row t m - Ga row t m = (NT s m k ac).toInt := by
          rw [lgc]
          have : (M 52 m - M 51 m).toInt = Go row t m - Ga row t m := by
            rw [Int64.toInt_sub, m1, m2, Int.bmod_eq_of_le (by omega) (by omega)]
          constructor
          · intro e
            rw [← this, e, Int32.toInt_toInt64]
          · intro e
            apply Int64.toInt_inj.mp
            rw [this, Int32.toInt_toInt64, e]
        have hc : ∀ K, F_X7_isWhole_c16 xN I2 M (nI m) K = (if lg_cmp (M 51 m) 0 ≤ 0 then F_X7_isWhole_j52 K xN I2 M (nI m) 0 else if lg_cmp (M 52 m) 0 ≤ 0 then F_X7_isWhole_j52 K xN I2 M (nI m) 0 else F_X7_isWhole_j52 K xN I2 M (nI m) 1) := fun K => by
          unfold F_X7_isWhole_c16
          rw [if_neg (n12 hm), xal_n hm (by decide), xal_n hm (by decide)]
        by_cases both : 0 < Ga row t m ∧ 0 < Go row t m
        · refine Or.inr ⟨some (0, I2), fun K => ?_, 0, rfl, Or.inr ⟨rfl, fun g => (g.2 m hm).1 both⟩⟩
          show F_X7_isWhole_c16 xN I2 M (nI m) K = _
          rw [hc, if_neg (fun e => hle1.mp e both.1), if_neg (fun e => hle2.mp e both.2)]
          rfl
        · have hc0 : ∀ K, F_X7_isWhole_c16 xN I2 M (nI m) K = F_X7_isWhole_j52 K xN I2 M (nI m) 0 := fun K => by
            rw [hc]
            by_cases g1 : 0 < Ga row t m
            · rw [if_neg (fun e => hle1.mp e g1), if_pos (hle2.mpr (fun g2 => both ⟨g1, g2⟩))]
            · rw [if_pos (hle1.mpr g1)]
          by_cases he : Go row t m - Ga row t m = (NT s m k ac).toInt
          · refine Or.inl ⟨nI (m + 1), fun K => ?_, rfl, fun m' hm' => ?_⟩
            · show F_X7_isWhole_c16 xN I2 M (nI m) K = _
              rw [hc0]
              unfold F_X7_isWhole_j52
              rw [if_pos rfl, xal_n hm (by decide), xal_n hm (by decide), xal_n hm (by decide), f3 m hm, if_pos (heq.mpr he), xbn_e, nI_1]
            · by_cases e : m' = m
              · subst e; exact ⟨both, he⟩
              · exact z2 m' (by omega)
          · refine Or.inr ⟨some (0, I2), fun K => ?_, 0, rfl, Or.inr ⟨rfl, fun g => he (g.2 m hm).2⟩⟩
            show F_X7_isWhole_c16 xN I2 M (nI m) K = _
            rw [hc0]
            unfold F_X7_isWhole_j52
            rw [if_pos rfl, xal_n hm (by decide), xal_n hm (by decide), xal_n hm (by decide), f3 m hm, if_neg (fun e => he (heq.mp e))]
            rfl
      · rintro x ⟨z1, z2⟩
        subst z1
        refine ⟨some (1, I2), fun K => ?_, 1, rfl, Or.inl ⟨rfl, e4, z2⟩⟩
        show F_X7_isWhole_c16 xN I2 M (nI 12) K = _
        unfold F_X7_isWhole_c16
        rw [if_pos (by decide)]
        rfl
    obtain ⟨r, h1, v, h2, h3⟩ := hw
    refine ⟨some (v, I2, M), fun K => ?_, v, I2, M, rfl, h3, f2, e2⟩
    show F_X7_isGood_55_c19 xN I k ac (nI (3 * t)) (nI (3 * t)) M K = _
    unfold F_X7_isGood_55_c19 F_X7_isWhole
    rw [show nI (3 * t) + 2 = nI (3 * t + 2) from nI_add _ 2, if_pos (nI_le (by omega) (by omega)), f1, Option.bind_some, h1, h2, Option.bind_some]
    show xzc v _ = _
    rcases h3 with ⟨z, -⟩ | ⟨z, -⟩ <;> (rw [z]; rfl)
  · show wr (wr L 51 0 (fun _ => 0) 12) 52 0 (fun _ => 0) 12 j = _
    rw [wr_ne h2, wr_ne h1]
  · show (wr (wr L 51 0 (fun _ => 0) 12) 52 0 (fun _ => 0) 12 51 m).toInt = 0
    rw [wr_ne (by decide), wr0z hm, h0]
  · show (wr (wr L 51 0 (fun _ => 0) 12) 52 0 (fun _ => 0) 12 52 m).toInt = 0
    rw [wr0z hm, h0]
