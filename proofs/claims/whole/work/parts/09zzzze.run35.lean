/-! run -/
theorem pr_run : xs_run xRel := by
  intro kp n I L a1 hn h
  obtain ⟨⟨q, hB, hV⟩, -⟩ := id h
  have i0 : I 1 0 = nI (q 0) := hB.1.1
  have s0 : I 58 0 = nI (q 0) := hV.1.1 0 (by decide)
  have s1 : I 58 1 = nI (q 1) := hV.1.1 1 (by decide)
  have hq0 : q 0 ≤ 700 := hV.1.2.1
  have hq1 : q 1 ≤ 12 := hV.1.2.2.1
  by_cases c0 : 0 ≤ a1
  · by_cases c1 : 1 ≤ a1 ∧ a1 ≤ 28
    · by_cases c2 : nI (q 0) + a1 ≤ 700
      · obtain ⟨d, hd, hd28⟩ : ∃ d, a1 = nI d ∧ d ≤ 28 := by
          refine ⟨a1.toInt.toNat, ?_, ?_⟩
          · apply Int32.toInt_inj.mp
            have e1 := c1.1
            have e2 := c1.2
            rw [Int32.le_iff_toInt_le] at e1 e2
            have z1 : (1 : Int32).toInt = 1 := by decide
            have z2 : (28 : Int32).toInt = 28 := by decide
            rw [nI_toInt (by omega)]; omega
          · have e2 := c1.2
            rw [Int32.le_iff_toInt_le] at e2
            have z2 : (28 : Int32).toInt = 28 := by decide
            omega
        subst hd
        have h7 : q 0 + d ≤ 700 := by
          rw [nI_add] at c2
          exact (nI_leI (b := 700) (by omega) (by decide)).mp c2
        obtain ⟨I', L', Jx, Mx, qx, cx, e1, -, -, -, e5, -⟩ := run_sim (I := I) (L := L) (J := I) (M := L) hB hV hn hd28 h7
        have k58 : I' 58 = I 58 := e5.1 58 (by omega)
        have k59 : L' 59 = L 59 := e5.2 59 (by decide)
        obtain ⟨I'', L'', J2, M2, q2, cnt, f1, f2, f3, f4, f5, f6⟩ := run_sim (I := I) (L := L) (J := I') (M := L') (by rw [k58, k59]; exact hB) (by rw [k58, k59]; exact hV) hn hd28 h7
        rw [e1] at f1
        have f1' := Option.some.inj f1
        have p1 : nI cx = nI cnt := congrArg (fun z => z.1) f1'
        have p2 : I' = I'' := congrArg (fun z => z.2.1) f1'
        have p3 : L' = L'' := congrArg (fun z => z.2.2) f1'
        subst p2 p3
        refine ⟨nI cnt, I', L', J2, M2, ?_, ?_, ?_⟩
        · unfold F_X10_run
          rw [if_pos c0, xwi_iff, if_pos c1, Option.bind_some, if_neg (by decide), xbn_e, i0, if_pos c2, e1, p1]
        · unfold F_X11_run
          rw [if_pos c0, xin_iff, if_pos c1, Option.bind_some, if_neg (by decide), s58_0, k58, s0, if_pos c2, F11_mu (m := q 1) (by rw [k58]; exact s1) hq1, Option.bind_some]
          exact f2
        · have r1 : ∀ k, k ≤ 56 → J2 k = I' k := fun k hk => by funext j; exact f6.1 k j (Or.inl hk)
          have r2 : ∀ k, k = 60 ∨ k = 61 ∨ 84 ≤ k → J2 k = I' k := fun k hk => by funext j; exact f6.1 k j (by omega)
          have r3 : ∀ j, j = 5 ∨ j = 44 ∨ j = 46 ∨ j = 47 → J2 57 j = I' 57 j := fun j hj => f6.1 57 j (by omega)
          have i55 : ∀ k, k = 0 ∨ k = 29 ∨ k = 30 ∨ 55 ≤ k → I' k = I k := e5.1
          have l55 : ∀ k, 55 ≤ k → L' k = L k := e5.2
          refine h.book ⟨?_, ?_, ?_, ?_, ?_, ?_, ?_, ?_, ?_, ?_, ?_, ?_, ?_, ?_, fun k hk => ?_, fun k hk => ?_⟩ ⟨q2, f3.frame (fun k _ hk => r1 k (by omega)) (fun k _ hk => f6.2 k (by omega)), f4⟩
          · rw [r1 0 (by decide), i55 0 (by decide)]
          · rw [r1 29 (by decide), i55 29 (by decide)]
          · rw [r1 30 (by decide), i55 30 (by decide)]
          · rw [r1 55 (by decide), i55 55 (by decide)]
          · rw [r1 56 (by decide), i55 56 (by decide)]
          · rw [r3 5 (by decide), i55 57 (by decide)]
          · rw [r3 44 (by decide), i55 57 (by decide)]
          · rw [r3 46 (by decide), i55 57 (by decide)]
          · rw [r3 47 (by decide), i55 57 (by decide)]
          · rw [r2 60 (by decide), i55 60 (by decide)]
          · rw [r2 61 (by decide), i55 61 (by decide)]
          · rw [r2 84 (by decide), i55 84 (by decide)]
          · rw [r2 86 (by decide), i55 86 (by decide)]
          · rw [f6.2 85 (by decide), l55 85 (by decide)]
          · rw [r2 k (by omega), i55 k (by omega)]
          · rw [f6.2 k (by omega), l55 k (by omega)]
      · obtain ⟨I1, I2, r1, r2, r3, r4⟩ := ref2k h (-8) 8 rfl (by decide)
        refine ⟨-8, I1, L, I2, L, ?_, ?_, r3⟩
        · unfold F_X10_run
          rw [if_pos c0, xwi_iff, if_pos c1, Option.bind_some, if_neg (by decide), xbn_e, i0, if_neg c2, r1, Option.bind_some]
        · unfold F_X11_run
          rw [if_pos c0, xin_iff, if_pos c1, Option.bind_some, if_neg (by decide), s58_0, r4 58 (by decide), s0, if_neg c2, r2, Option.bind_some]
    · obtain ⟨I1, I2, r1, r2, r3, r4⟩ := ref2k h (-7) 7 rfl (by decide)
      refine ⟨-7, I1, L, I2, L, ?_, ?_, r3⟩
      · unfold F_X10_run
        rw [if_pos c0, xwi_iff, if_neg c1, Option.bind_some, if_pos rfl, r1, Option.bind_some]
      · unfold F_X11_run
        rw [if_pos c0, xin_iff, if_neg c1, Option.bind_some, if_pos rfl, r2, Option.bind_some]
  · obtain ⟨I1, I2, r1, r2, r3, r4⟩ := ref2k h (-4) 4 rfl (by decide)
    refine ⟨-4, I1, L, I2, L, ?_, ?_, r3⟩
    · unfold F_X10_run
      rw [if_neg c0, r1, Option.bind_some]
    · unfold F_X11_run
      rw [if_neg c0, r2, Option.bind_some]
