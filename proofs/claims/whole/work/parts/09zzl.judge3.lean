/-- the reference's judgement -/
theorem F11_good {J : xTI} {q : Nat → Nat} (hV : IVb (J 58) q) (h1 : J 58 1 = nI (q 1)) (c5 : q 1 ≤ 12) {t : Nat} (ht : t ≤ 20) (h46 : J 57 46 = nI (3 * t)) (k ac : Int32) : ∃ v J2, xlp (F_X11_judge_b58 xN k ac) xN (0, J) = some (v, J2) ∧ ((v = nI (3 * t) / 3 ∧ GoodR (J 86) (fun m => (NT (J 58) m k ac).toInt) (q 1) t) ∨ (v = -1 ∧ ¬ GoodR (J 86) (fun m => (NT (J 58) m k ac).toInt) (q 1) t)) ∧ ∀ j, j ≠ 77 → j ≠ 78 → J2 j = J j := by
  have h0 : (0 : Int32).toInt = 0 := by decide
  suffices hinv : ∃ r, xlp (F_X11_judge_b58 xN k ac) xN (0, J) = r ∧ ∃ v J2, r = some (v, J2) ∧ ((v = nI (3 * t) / 3 ∧ GoodR (J 86) (fun m => (NT (J 58) m k ac).toInt) (q 1) t) ∨ (v = -1 ∧ ¬ GoodR (J 86) (fun m => (NT (J 58) m k ac).toInt) (q 1) t)) ∧ ∀ j, j ≠ 77 → j ≠ 78 → J2 j = J j by
    obtain ⟨r, h1, v, J2, h2, h3⟩ := hinv
    exact ⟨v, J2, by rw [h1, h2], h3⟩
  refine xlp_inv (b := F_X11_judge_b58 xN k ac) (fun m (x : Int32 × xTI) => x.1 = nI m ∧ (∀ j, j ≠ 77 → j ≠ 78 → x.2 j = J j) ∧ ∀ m', m' < m → x.2 77 m' = NT (J 58) m' k ac) 12 (fun r => ∃ v J2, r = some (v, J2) ∧ ((v = nI (3 * t) / 3 ∧ GoodR (J 86) (fun m => (NT (J 58) m k ac).toInt) (q 1) t) ∨ (v = -1 ∧ ¬ GoodR (J 86) (fun m => (NT (J 58) m k ac).toInt) (q 1) t)) ∧ ∀ j, j ≠ 77 → j ≠ 78 → J2 j = J j) ?_ ?_ xN (by decide) (0, J) ⟨rfl, fun _ _ _ => rfl, fun m' h => absurd h (Nat.not_lt_zero _)⟩
  · rintro m hm ⟨x, K⟩ ⟨z1, z2, z3⟩
    have z1 : x = nI m := z1
    subst z1
    have z2 : ∀ j, j ≠ 77 → j ≠ 78 → K j = J j := z2
    have z3 : ∀ m', m' < m → K 77 m' = NT (J 58) m' k ac := z3
    have k58 := z2 58 (by decide) (by decide)
    refine ⟨(nI (m + 1), xup K 77 m (NT (J 58) m k ac)), fun F => ?_, rfl, fun j y1 y2 => ?_, fun m' hm' => ?_⟩
    · show F_X11_judge_c58 xN k ac (nI m) K F = _
      unfold F_X11_judge_c58 F_X11_judge_j88
      rw [if_neg (n12 hm), F11_man (q := q) (by rw [k58]; exact h1), Option.bind_some]
      by_cases g : m < q 1
      · rw [if_pos ((rng_iff (by omega)).mpr ⟨m, g, rfl⟩), if_neg (by decide), F11_nt (q := q) (by rw [k58]; exact hV) c5, Option.bind_some, xas_n hm (by decide), xbn_e, nI_1, k58]
        rfl
      · rw [if_neg (show ¬ (0 ≤ nI m ∧ nI m ≤ nI (q 1) - 1) from fun e => g (by obtain ⟨j, j1, j2⟩ := (rng_iff (by omega)).mp e; have := (nI_eq (by omega) (by omega)).mp j2; omega)), if_pos rfl, xas_n hm (by decide), xbn_e, nI_1, NT_out hV c5 (by omega) hm]
    · show xup K 77 m _ j = _
      rw [xup_ne y1]; exact z2 j y1 y2
    · show xup K 77 m (NT (J 58) m k ac) 77 m' = _
      rw [xup_at]
      by_cases e : m' = m
      · rw [if_pos e, e]
      · rw [if_neg e]; exact z3 m' (by omega)
  · rintro ⟨x, K⟩ ⟨z1, z2, z3⟩
    have z1 : x = nI 12 := z1
    subst z1
    have z2 : ∀ j, j ≠ 77 → j ≠ 78 → K j = J j := z2
    have z3 : ∀ m', m' < 12 → K 77 m' = NT (J 58) m' k ac := z3
    suffices hinv : ∃ r, xlp (F_X11_judge_b97 xN) xN (0, K) = r ∧ ∃ v J2, r = some (v, J2) ∧ ((v = nI (3 * t) / 3 ∧ GoodR (J 86) (fun m => (NT (J 58) m k ac).toInt) (q 1) t) ∨ (v = -1 ∧ ¬ GoodR (J 86) (fun m => (NT (J 58) m k ac).toInt) (q 1) t)) ∧ ∀ j, j ≠ 77 → j ≠ 78 → J2 j = J j by
      obtain ⟨r, y1, y2⟩ := hinv
      refine ⟨r, fun F => ?_, y2⟩
      show F_X11_judge_c58 xN k ac (nI 12) K F = _
      unfold F_X11_judge_c58
      rw [if_pos (by decide), y1]
    refine xlp_inv (b := F_X11_judge_b97 xN) (fun m (x : Int32 × xTI) => x.1 = nI m ∧ (∀ j, j ≠ 77 → j ≠ 78 → x.2 j = J j) ∧ (∀ m', m' < 12 → x.2 77 m' = NT (J 58) m' k ac) ∧ ∀ m', m' < m → x.2 78 m' = NT (J 58) m' k ac) 12 (fun r => ∃ v J2, r = some (v, J2) ∧ ((v = nI (3 * t) / 3 ∧ GoodR (J 86) (fun m => (NT (J 58) m k ac).toInt) (q 1) t) ∨ (v = -1 ∧ ¬ GoodR (J 86) (fun m => (NT (J 58) m k ac).toInt) (q 1) t)) ∧ ∀ j, j ≠ 77 → j ≠ 78 → J2 j = J j) ?_ ?_ xN (by decide) (0, K) ⟨rfl, z2, z3, fun m' h => absurd h (Nat.not_lt_zero _)⟩
    · rintro m hm ⟨x, K⟩ ⟨z1, z2, z3, z4⟩
      have z1 : x = nI m := z1
      subst z1
      have z2 : ∀ j, j ≠ 77 → j ≠ 78 → K j = J j := z2
      have z3 : ∀ m', m' < 12 → K 77 m' = NT (J 58) m' k ac := z3
      have z4 : ∀ m', m' < m → K 78 m' = NT (J 58) m' k ac := z4
      refine ⟨(nI (m + 1), xup K 78 m (NT (J 58) m k ac)), fun F => ?_, rfl, fun j y1 y2 => ?_, fun m' hm' => ?_, fun m' hm' => ?_⟩
      · show F_X11_judge_c97 xN (nI m) K F = _
        unfold F_X11_judge_c97
        rw [if_neg (n12 hm), xal_n hm (by decide), z3 m hm, xas_n hm (by decide), xbn_e, nI_1]
      · show xup K 78 m _ j = _
        rw [xup_ne y2]; exact z2 j y1 y2
      · show xup K 78 m (NT (J 58) m k ac) 77 m' = _
        rw [xup_ne (by decide)]; exact z3 m' hm'
      · show xup K 78 m (NT (J 58) m k ac) 78 m' = _
        rw [xup_at]
        by_cases e : m' = m
        · rw [if_pos e, e]
        · rw [if_neg e]; exact z4 m' (by omega)
    · rintro ⟨x, K⟩ ⟨z1, z2, z3, z4⟩
      have z1 : x = nI 12 := z1
      subst z1
      have z2 : ∀ j, j ≠ 77 → j ≠ 78 → K j = J j := z2
      have z3 : ∀ m', m' < 12 → K 77 m' = NT (J 58) m' k ac := z3
      have z4 : ∀ m', m' < 12 → K 78 m' = NT (J 58) m' k ac := z4
      suffices hinv : ∃ r, xlp (F_X11_judge_b123 xN) xN (0, K) = r ∧ ∃ v J2, r = some (v, J2) ∧ ((v = nI (3 * t) / 3 ∧ GoodR (J 86) (fun m => (NT (J 58) m k ac).toInt) (q 1) t) ∨ (v = -1 ∧ ¬ GoodR (J 86) (fun m => (NT (J 58) m k ac).toInt) (q 1) t)) ∧ ∀ j, j ≠ 77 → j ≠ 78 → J2 j = J j by
        obtain ⟨r, y1, y2⟩ := hinv
        refine ⟨r, fun F => ?_, y2⟩
        show F_X11_judge_c97 xN (nI 12) K F = _
        unfold F_X11_judge_c97
        rw [if_pos (by decide), y1]
      refine xlp_ex (b := F_X11_judge_b123 xN) (fun i (x : Int32 × xTI) => x.1 = nI (3 * i) ∧ (∀ j, j ≠ 77 → j ≠ 78 → x.2 j = J j) ∧ (∀ m', m' < 12 → x.2 77 m' = NT (J 58) m' k ac) ∧ (∀ m', m' < 12 → (x.2 78 m').toInt = (NT (J 58) m' k ac).toInt + Ga (J 86) i m' - Go (J 86) i m' ∧ -5940 ≤ (x.2 78 m').toInt ∧ (x.2 78 m').toInt ≤ 5940) ∧ ∀ i', i' < i → OkR (J 86) (fun m => (NT (J 58) m k ac).toInt) (q 1) i') t (fun r => ∃ v J2, r = some (v, J2) ∧ ((v = nI (3 * t) / 3 ∧ GoodR (J 86) (fun m => (NT (J 58) m k ac).toInt) (q 1) t) ∨ (v = -1 ∧ ¬ GoodR (J 86) (fun m => (NT (J 58) m k ac).toInt) (q 1) t)) ∧ ∀ j, j ≠ 77 → j ≠ 78 → J2 j = J j) ?_ ?_ xN (by show t < 100000; omega) (0, K) ⟨rfl, z2, z3, fun m' hm' => ⟨?_, ?_⟩, fun i' h => absurd h (Nat.not_lt_zero _)⟩
      · rintro i hi ⟨x, K⟩ ⟨z1, z2, z3, z4, z5⟩
        have z1 : x = nI (3 * i) := z1
        subst z1
        have z2 : ∀ j, j ≠ 77 → j ≠ 78 → K j = J j := z2
        have z3 : ∀ m', m' < 12 → K 77 m' = NT (J 58) m' k ac := z3
        have z4 : ∀ m', m' < 12 → (K 78 m').toInt = (NT (J 58) m' k ac).toInt + Ga (J 86) i m' - Go (J 86) i m' ∧ -5940 ≤ (K 78 m').toInt ∧ (K 78 m').toInt ≤ 5940 := z4
        have z5 : ∀ i', i' < i → OkR (J 86) (fun m => (NT (J 58) m k ac).toInt) (q 1) i' := z5
        have k58 := z2 58 (by decide) (by decide)
        have k86 := z2 86 (by decide) (by decide)
        have i2 : nI (3 * i) + 2 = nI (3 * i + 2) := nI_add _ 2
        have i3 : nI (3 * i) + 3 = nI (3 * (i + 1)) := by rw [show nI (3 * i) + 3 = nI (3 * i + 3) from nI_add _ 3]; congr 1
        have bad : ¬ OkR (J 86) (fun m => (NT (J 58) m k ac).toInt) (q 1) i → (∀ F, F_X11_judge_c123 xN (nI (3 * i)) K F = some (-1, K)) → ∃ r, (∀ F, F_X11_judge_b123 xN (nI (3 * i), K) F = r) ∧ ∃ v J2, r = some (v, J2) ∧ ((v = nI (3 * t) / 3 ∧ GoodR (J 86) (fun m => (NT (J 58) m k ac).toInt) (q 1) t) ∨ (v = -1 ∧ ¬ GoodR (J 86) (fun m => (NT (J 58) m k ac).toInt) (q 1) t)) ∧ ∀ j, j ≠ 77 → j ≠ 78 → J2 j = J j := fun hb hf => ⟨some (-1, K), hf, -1, K, rfl, Or.inr ⟨rfl, fun g => hb (g.1 i hi)⟩, z2⟩
        have hc : ∀ F, F_X11_judge_c123 xN (nI (3 * i)) K F = (if ¬ (0 ≤ J 86 (3 * i) ∧ J 86 (3 * i) ≤ nI (q 1) - 1) then some (-1, K) else if ¬ (0 ≤ J 86 (3 * i + 1) ∧ J 86 (3 * i + 1) ≤ nI (q 1) - 1) then some (-1, K) else if J 86 (3 * i + 2) < 1 then some (-1, K) else xal K 77 12 (J 86 (3 * i)) (fun v7 => (if 0 ≤ v7 then some (-1, K) else xal K 77 12 (J 86 (3 * i + 1)) (fun v8 => (if v8 ≤ 0 then some (-1, K) else xal K 78 12 (J 86 (3 * i)) (fun v9 => (if (-v9) < J 86 (3 * i + 2) then some (-1, K) else xal K 78 12 (J 86 (3 * i + 1)) (fun v10 => (if J 86 (3 * i + 2) ≤ v10 then xal K 78 12 (J 86 (3 * i)) (fun v11 => xas K 78 12 (J 86 (3 * i)) (v11 + J 86 (3 * i + 2)) (fun I12 => xal I12 78 12 (J 86 (3 * i + 1)) (fun v13 => xas I12 78 12 (J 86 (3 * i + 1)) (v13 - J 86 (3 * i + 2)) (fun I14 => F (nI (3 * (i + 1)), I14))))) else some (-1, K)))))))))) := fun F => by
          unfold F_X11_judge_c123
          rw [xbn_e, z2 57 (by decide) (by decide), h46, if_neg (nI_ge (show 3 * i < 3 * t by omega) (by omega)), xal_n (by omega) (by decide), k86, nI_1, xal_n (by omega) (by decide), k86, i2, xal_n (by omega) (by decide), k86, F11_man (q := q) (by rw [k58]; exact h1), F11_man (q := q) (by rw [k58]; exact h1)]
          simp only [Option.bind_some, ite01, xbn_e, i3]
        by_cases v1 : 0 ≤ J 86 (3 * i) ∧ J 86 (3 * i) ≤ nI (q 1) - 1
        · by_cases v2 : 0 ≤ J 86 (3 * i + 1) ∧ J 86 (3 * i + 1) ≤ nI (q 1) - 1
          · obtain ⟨a, ha, ea⟩ := (rng_iff (by omega)).mp v1
            obtain ⟨b, hb, eb⟩ := (rng_iff (by omega)).mp v2
            obtain ⟨na1, na2, na3⟩ := z4 a (by omega)
            obtain ⟨nb1, nb2, nb3⟩ := z4 b (by omega)
            have hOk : OkR (J 86) (fun m => (NT (J 58) m k ac).toInt) (q 1) i ↔ (0 < (J 86 (3 * i + 2)).toInt ∧ (NT (J 58) a k ac).toInt < 0 ∧ 0 < (NT (J 58) b k ac).toInt ∧ (J 86 (3 * i + 2)).toInt ≤ -(K 78 a).toInt ∧ (J 86 (3 * i + 2)).toInt ≤ (K 78 b).toInt) := by
              constructor
              · rintro ⟨a', b', y1, y2, y3, y4, y5, y6, y7, y8, y9⟩
                rw [ea] at y3
                rw [eb] at y4
                have e1 := (nI_eq (by omega) (by omega)).mp y3
                have e2 := (nI_eq (by omega) (by omega)).mp y4
                subst e1; subst e2
                exact ⟨y5, y6, y7, by rw [na1]; exact y8, by rw [nb1]; exact y9⟩
              · rintro ⟨y5, y6, y7, y8, y9⟩
                exact ⟨a, b, ha, hb, ea, eb, y5, y6, y7, by rw [na1] at y8; exact y8, by rw [nb1] at y9; exact y9⟩
            have hneg : (-(K 78 a)).toInt = -(K 78 a).toInt := by rw [Int32.toInt_neg, Int.bmod_eq_of_le (by omega) (by omega)]
            have hc1 : ∀ F, F_X11_judge_c123 xN (nI (3 * i)) K F = (if J 86 (3 * i + 2) < 1 then some (-1, K) else if 0 ≤ NT (J 58) a k ac then some (-1, K) else if NT (J 58) b k ac ≤ 0 then some (-1, K) else if (-(K 78 a)) < J 86 (3 * i + 2) then some (-1, K) else if J 86 (3 * i + 2) ≤ K 78 b then F (nI (3 * (i + 1)), xup (xup K 78 a (K 78 a + J 86 (3 * i + 2))) 78 b (xup K 78 a (K 78 a + J 86 (3 * i + 2)) 78 b - J 86 (3 * i + 2))) else some (-1, K)) := fun F => by
              rw [hc, it_n v1, it_n v2, ea, eb, xal_n (by omega) (by decide), z3 a (by omega), xal_n (by omega) (by decide), z3 b (by omega), xal_n (by omega) (by decide), xal_n (by omega) (by decide), xal_n (by omega) (by decide), xas_n (by omega) (by decide), xal_n (by omega) (by decide), xas_n (by omega) (by decide)]
            have q1' : J 86 (3 * i + 2) < 1 ↔ ¬ 0 < (J 86 (3 * i + 2)).toInt := by
              rw [Int32.lt_iff_toInt_lt, show (1 : Int32).toInt = 1 by decide]; omega
            have q2' : 0 ≤ NT (J 58) a k ac ↔ ¬ (NT (J 58) a k ac).toInt < 0 := by
              rw [Int32.le_iff_toInt_le, h0]; omega
            have q3' : NT (J 58) b k ac ≤ 0 ↔ ¬ 0 < (NT (J 58) b k ac).toInt := by
              rw [Int32.le_iff_toInt_le, h0]; omega
            have q4' : (-(K 78 a)) < J 86 (3 * i + 2) ↔ ¬ (J 86 (3 * i + 2)).toInt ≤ -(K 78 a).toInt := by
              rw [Int32.lt_iff_toInt_lt, hneg]; omega
            have q5' : J 86 (3 * i + 2) ≤ K 78 b ↔ (J 86 (3 * i + 2)).toInt ≤ (K 78 b).toInt := Int32.le_iff_toInt_le
            by_cases w1 : 0 < (J 86 (3 * i + 2)).toInt
            · by_cases w2 : (NT (J 58) a k ac).toInt < 0
              · by_cases w3 : 0 < (NT (J 58) b k ac).toInt
                · by_cases w4 : (J 86 (3 * i + 2)).toInt ≤ -(K 78 a).toInt
                  · by_cases w5 : (J 86 (3 * i + 2)).toInt ≤ (K 78 b).toInt
                    · have hok := hOk.mpr ⟨w1, w2, w3, w4, w5⟩
                      have hab : a ≠ b := fun e => by subst e; omega
                      refine Or.inl ⟨(nI (3 * (i + 1)), xup (xup K 78 a (K 78 a + J 86 (3 * i + 2))) 78 b (xup K 78 a (K 78 a + J 86 (3 * i + 2)) 78 b - J 86 (3 * i + 2))), fun F => ?_, rfl, fun j y1 y2 => ?_, fun m' hm' => ?_, fun m' hm' => ?_, fun i' hi' => ?_⟩
                      · show F_X11_judge_c123 xN (nI (3 * i)) K F = _
                        rw [hc1, if_neg (fun e => q1'.mp e w1), if_neg (fun e => q2'.mp e w2), if_neg (fun e => q3'.mp e w3), if_neg (fun e => q4'.mp e w4), if_pos (q5'.mpr w5)]
                      · show xup (xup K 78 a (K 78 a + J 86 (3 * i + 2))) 78 b (xup K 78 a (K 78 a + J 86 (3 * i + 2)) 78 b - J 86 (3 * i + 2)) j = _
                        rw [xup_ne y2, xup_ne y2]; exact z2 j y1 y2
                      · show xup (xup K 78 a (K 78 a + J 86 (3 * i + 2))) 78 b (xup K 78 a (K 78 a + J 86 (3 * i + 2)) 78 b - J 86 (3 * i + 2)) 77 m' = _
                        rw [xup_ne (by decide), xup_ne (by decide)]; exact z3 m' hm'
                      · obtain ⟨y1, y2, y3⟩ := z4 m' hm'
                        show (xup (xup K 78 a (K 78 a + J 86 (3 * i + 2))) 78 b (xup K 78 a (K 78 a + J 86 (3 * i + 2)) 78 b - J 86 (3 * i + 2)) 78 m').toInt = (NT (J 58) m' k ac).toInt + (Ga (J 86) i m' + (if J 86 (3 * i) = nI m' then (J 86 (3 * i + 2)).toInt else 0)) - (Go (J 86) i m' + (if J 86 (3 * i + 1) = nI m' then (J 86 (3 * i + 2)).toInt else 0)) ∧ -5940 ≤ (xup (xup K 78 a (K 78 a + J 86 (3 * i + 2))) 78 b (xup K 78 a (K 78 a + J 86 (3 * i + 2)) 78 b - J 86 (3 * i + 2)) 78 m').toInt ∧ (xup (xup K 78 a (K 78 a + J 86 (3 * i + 2))) 78 b (xup K 78 a (K 78 a + J 86 (3 * i + 2)) 78 b - J 86 (3 * i + 2)) 78 m').toInt ≤ 5940
                        rw [ea, eb, xup_nj (fun e => hab e.symm), xup_at]
                        by_cases em : m' = b
                        · subst em
                          have e1 : (K 78 m' - J 86 (3 * i + 2)).toInt = (K 78 m').toInt - (J 86 (3 * i + 2)).toInt := by rw [Int32.toInt_sub, Int.bmod_eq_of_le (by omega) (by omega)]
                          rw [if_pos rfl, e1, if_neg (fun e => hab ((nI_eq (by omega) (by omega)).mp e)), if_pos rfl]
                          omega
                        · rw [if_neg em, xup_at, if_neg (fun e => em ((nI_eq (by omega) (by omega)).mp e).symm)]
                          by_cases em2 : m' = a
                          · subst em2
                            have e1 : (K 78 m' + J 86 (3 * i + 2)).toInt = (K 78 m').toInt + (J 86 (3 * i + 2)).toInt := by rw [Int32.toInt_add, Int.bmod_eq_of_le (by omega) (by omega)]
                            rw [if_pos rfl, e1, if_pos rfl]
                            omega
                          · rw [if_neg em2, if_neg (fun e => em2 ((nI_eq (by omega) (by omega)).mp e).symm)]
                            omega
                      · by_cases e : i' = i
                        · subst e; exact hok
                        · exact z5 i' (by omega)
                    · exact Or.inr (bad (fun e => w5 (hOk.mp e).2.2.2.2) (fun F => by rw [hc1, if_neg (fun e => q1'.mp e w1), if_neg (fun e => q2'.mp e w2), if_neg (fun e => q3'.mp e w3), if_neg (fun e => q4'.mp e w4), if_neg (fun e => w5 (q5'.mp e))]))
                  · exact Or.inr (bad (fun e => w4 (hOk.mp e).2.2.2.1) (fun F => by rw [hc1, if_neg (fun e => q1'.mp e w1), if_neg (fun e => q2'.mp e w2), if_neg (fun e => q3'.mp e w3), if_pos (q4'.mpr w4)]))
                · exact Or.inr (bad (fun e => w3 (hOk.mp e).2.2.1) (fun F => by rw [hc1, if_neg (fun e => q1'.mp e w1), if_neg (fun e => q2'.mp e w2), if_pos (q3'.mpr w3)]))
              · exact Or.inr (bad (fun e => w2 (hOk.mp e).2.1) (fun F => by rw [hc1, if_neg (fun e => q1'.mp e w1), if_pos (q2'.mpr w2)]))
            · exact Or.inr (bad (fun e => w1 (hOk.mp e).1) (fun F => by rw [hc1, if_pos (q1'.mpr w1)]))
          · refine Or.inr (bad ?_ (fun F => by rw [hc, it_n v1, it_p v2]))
            rintro ⟨a, b, y1, y2, y3, y4, -⟩
            exact v2 ((rng_iff (by omega)).mpr ⟨b, y2, y4⟩)
        · refine Or.inr (bad ?_ (fun F => by rw [hc, it_p v1]))
          rintro ⟨a, b, y1, y2, y3, -⟩
          exact v1 ((rng_iff (by omega)).mpr ⟨a, y1, y3⟩)
      · rintro ⟨x, K⟩ ⟨z1, z2, z3, z4, z5⟩
        have z1 : x = nI (3 * t) := z1
        subst z1
        have z2 : ∀ j, j ≠ 77 → j ≠ 78 → K j = J j := z2
        have z4 : ∀ m', m' < 12 → (K 78 m').toInt = (NT (J 58) m' k ac).toInt + Ga (J 86) t m' - Go (J 86) t m' ∧ -5940 ≤ (K 78 m').toInt ∧ (K 78 m').toInt ≤ 5940 := z4
        have z5 : ∀ i', i' < t → OkR (J 86) (fun m => (NT (J 58) m k ac).toInt) (q 1) i' := z5
        have hw : ∃ r, xlp (F_X11_judge_b262 xN K) xN 0 = r ∧ ∃ v J2, r = some (v, J2) ∧ ((v = nI (3 * t) / 3 ∧ GoodR (J 86) (fun m => (NT (J 58) m k ac).toInt) (q 1) t) ∨ (v = -1 ∧ ¬ GoodR (J 86) (fun m => (NT (J 58) m k ac).toInt) (q 1) t)) ∧ ∀ j, j ≠ 77 → j ≠ 78 → J2 j = J j := by
          refine xlp_ex (b := F_X11_judge_b262 xN K) (fun m (x : Int32) => x = nI m ∧ ∀ m', m' < m → (NT (J 58) m' k ac).toInt + Ga (J 86) t m' - Go (J 86) t m' = 0) 12 (fun r => ∃ v J2, r = some (v, J2) ∧ ((v = nI (3 * t) / 3 ∧ GoodR (J 86) (fun m => (NT (J 58) m k ac).toInt) (q 1) t) ∨ (v = -1 ∧ ¬ GoodR (J 86) (fun m => (NT (J 58) m k ac).toInt) (q 1) t)) ∧ ∀ j, j ≠ 77 → j ≠ 78 → J2 j = J j) ?_ ?_ xN (by decide) 0 ⟨rfl, fun m' h => absurd h (Nat.not_lt_zero _)⟩
          · rintro m hm x ⟨y1, y2⟩
            subst y1
            have hz : K 78 m = 0 ↔ (NT (J 58) m k ac).toInt + Ga (J 86) t m - Go (J 86) t m = 0 := by
              have := (z4 m hm).1
              constructor
              · intro e; rw [e, h0] at this; omega
              · intro e; apply Int32.toInt_inj.mp; rw [h0]; omega
            by_cases g : K 78 m = 0
            · refine Or.inl ⟨nI (m + 1), fun F => ?_, rfl, fun m' hm' => ?_⟩
              · show F_X11_judge_c262 xN K (nI m) F = _
                unfold F_X11_judge_c262
                rw [if_neg (n12 hm), xal_n hm (by decide), if_pos g, xbn_e, nI_1]
              · by_cases e : m' = m
                · subst e; exact hz.mp g
                · exact y2 m' (by omega)
            · refine Or.inr ⟨some (-1, K), fun F => ?_, -1, K, rfl, Or.inr ⟨rfl, fun e => g (hz.mpr (e.2 m hm))⟩, z2⟩
              show F_X11_judge_c262 xN K (nI m) F = _
              unfold F_X11_judge_c262
              rw [if_neg (n12 hm), xal_n hm (by decide), if_neg g]
          · rintro x ⟨y1, y2⟩
            subst y1
            refine ⟨some (nI (3 * t) / 3, K), fun F => ?_, _, K, rfl, Or.inl ⟨rfl, z5, y2⟩, z2⟩
            show F_X11_judge_c262 xN K (nI 12) F = _
            unfold F_X11_judge_c262
            rw [if_pos (by decide), xbn_e, z2 57 (by decide) (by decide), h46]
        obtain ⟨r, y1, y2⟩ := hw
        refine ⟨r, fun F => ?_, y2⟩
        show F_X11_judge_c123 xN (nI (3 * t)) K F = _
        unfold F_X11_judge_c123
        rw [xbn_e, z2 57 (by decide) (by decide), h46, if_pos (nI_le (Nat.le_refl _) (by omega)), y1]
      · show (K 78 m').toInt = (NT (J 58) m' k ac).toInt + 0 - 0
        rw [z4 m' hm']; omega
      · have := NT_bd hV m' k ac
        show -5940 ≤ (K 78 m').toInt ∧ (K 78 m').toInt ≤ 5940
        rw [z4 m' hm']; exact this
theorem pr_judge : xs_judge xRel := by
  intro kp n I L a1 a2 hn h
  obtain ⟨⟨q, hB, hV⟩, -, h4, -⟩ := id h
  obtain ⟨c1, c2, c3, c4, c5, c6, c7, c8, c9⟩ := cnt hB hV
  by_cases g1 : 0 ≤ a1 ∧ a1 ≤ nI (q 2) - 1
  · by_cases g2 : 0 ≤ a2
    · have h10 : F_X10_judge xN I L a1 a2 = (if I 0 8 = (-1) then Option.bind (F_X10_refuse I (-2)) (fun (v11, I12) => some (v11, I12, L)) else (if (I 0 8 - I 0 8 / 3 * 3) = 0 then Option.bind (F_X7_isGood_55 xN I L a1 a2 (I 0 8)) (fun (v5, I6, L7) => (if v5 = 0 then some ((-1), I6, L7) else xbn (I6 0 8) (fun v8 => some (v8 / 3, I6, L7)))) else Option.bind (F_X10_refuse I (-5)) (fun (v9, I10) => some (v9, I10, L)))) := by
        unfold F_X10_judge
        rw [F10_stk c2, if_pos g1, Option.bind_some, if_neg (by decide), if_pos g2, xbn_e, xbn_e, xbn_e]
      have h11 : ∀ J : xTI, J 58 = I 58 → J 57 = I 57 → F_X11_judge xN J a1 a2 = (if I 57 47 = 0 then Option.bind (F_X11_refuse J (-2)) (fun (v6, I7) => some (v6, I7)) else (if (I 57 46 - I 57 46 / 3 * 3) = 0 then xlp (F_X11_judge_b58 xN a1 a2 ) xN (0, J) else Option.bind (F_X11_refuse J (-5)) (fun (v4, I5) => some (v4, I5)))) := fun J hJ hJ2 => by
        unfold F_X11_judge
        rw [F11_stk (q := q) (by rw [hJ]; exact c4), if_pos g1, Option.bind_some, if_neg (by decide), if_pos g2, xbn_e, xbn_e, hJ2]
      rcases h4 with ⟨b1, b2⟩ | ⟨b1, z, hz, b2, b3, b4⟩
      · obtain ⟨I1, I2, r1, r2, r3, r4⟩ := ref2k h (-2) 2 (by decide) (by decide)
        refine ⟨-2, I1, L, I2, ?_, ?_, r3⟩
        · rw [h10, if_pos b2, r1]; rfl
        · rw [h11 I1 (r4 58 (by decide)) (r4 57 (by decide)), if_pos b1, r2]; rfl
      · have n47 : ¬ I 57 47 = 0 := by rw [b1]; decide
        have n8 : ¬ I 0 8 = -1 := by rw [b2]; exact nI_ne_m1 (by omega)
        have rem3 : nI z - nI z / 3 * 3 = nI (z % 3) := by
          rw [show (3 : Int32) = nI 3 from rfl, nI_div (by omega) (by decide) (by decide), nI_mul, nI_sub (by omega)]
          congr 1; omega
        by_cases g3 : z % 3 = 0
        · obtain ⟨t, rfl⟩ : ∃ t, z = 3 * t := ⟨z / 3, by omega⟩
          have e0 : nI (3 * t) - nI (3 * t) / 3 * 3 = 0 := by rw [rem3, g3]; rfl
          obtain ⟨v, I2, L2, e1, e2, e3, e4⟩ := F7_good hB hV (t := t) (by omega) (row := I 86) (fun i hi => b4 i hi) a1 a2
          have i57 := e3 57 (by decide)
          have i58 := e3 58 (by decide)
          have i86 := e3 86 (by decide)
          obtain ⟨v2, J2, f1, f2, f3⟩ := F11_good (J := I2) (q := q) (by rw [i58]; exact hV.2.2.1) (by rw [i58]; exact c3) c5 (t := t) (by omega) (by rw [i57]; exact b3) a1 a2
          rw [i58, i86] at f2
          refine ⟨v2, I2, L2, J2, ?_, ?_, calm_47 h (fun j y1 y2 => by rw [f3 j (by omega) (by omega), e3 j (by omega)]) (fun j y1 y2 => e4 j (by omega) (by omega))⟩
          · rw [h10, if_neg n8, b2, if_pos e0, e1, Option.bind_some]
            show (if v = 0 then some ((-1), I2, L2) else xbn (I2 0 8) (fun v8 => some (v8 / 3, I2, L2))) = _
            rcases e2 with ⟨y1, y2⟩ | ⟨y1, y2⟩
            · rcases f2 with ⟨y3, -⟩ | ⟨-, y4⟩
              · rw [y1, if_neg (by decide), xbn_e, e3 0 (by decide), b2, y3]
              · exact absurd ((good_iff c5).mp y2) y4
            · rcases f2 with ⟨-, y4⟩ | ⟨y3, -⟩
              · exact absurd ((good_iff c5).mpr y4) y2
              · rw [y1, if_pos rfl, y3]
          · rw [h11 I2 i58 i57, if_neg n47, b3, if_pos e0, f1]
        · have e0 : ¬ nI z - nI z / 3 * 3 = 0 := by
            rw [rem3]; exact nI_ne0 (by omega) (by omega)
          obtain ⟨I1, I2, r1, r2, r3, r4⟩ := ref2k h (-5) 5 (by decide) (by decide)
          refine ⟨-5, I1, L, I2, ?_, ?_, r3⟩
          · rw [h10, if_neg n8, b2, if_neg e0, r1]; rfl
          · rw [h11 I1 (r4 58 (by decide)) (r4 57 (by decide)), if_neg n47, b3, if_neg e0, r2]; rfl
    · obtain ⟨I1, I2, r1, r2, r3, r4⟩ := ref2k h (-7) 7 (by decide) (by decide)
      refine ⟨-7, I1, L, I2, ?_, ?_, r3⟩
      · unfold F_X10_judge
        rw [F10_stk c2, if_pos g1, Option.bind_some, if_neg (by decide), if_neg g2, r1]; rfl
      · unfold F_X11_judge
        rw [F11_stk (q := q) (by rw [r4 58 (by decide)]; exact c4), if_pos g1, Option.bind_some, if_neg (by decide), if_neg g2, r2]; rfl
  · obtain ⟨I1, I2, r1, r2, r3, r4⟩ := ref2k h (-3) 3 (by decide) (by decide)
    refine ⟨-3, I1, L, I2, ?_, ?_, r3⟩
    · unfold F_X10_judge
      rw [F10_stk c2, if_neg g1, Option.bind_some, if_pos rfl, r1]; rfl
    · unfold F_X11_judge
      rw [F11_stk (q := q) (by rw [r4 58 (by decide)]; exact c4), if_neg g1, Option.bind_some, if_pos rfl, r2]; rfl
