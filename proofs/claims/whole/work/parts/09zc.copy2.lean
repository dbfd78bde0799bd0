theorem sub_rng {k c : Nat} {x : Int32} (hk : k ≤ 60) (hc : c < 2 ^ 31) (h : 0 ≤ x ∧ x ≤ nI k - nI c) : ∃ a, a + c ≤ k ∧ x = nI a := by
  have e : (nI k - nI c).toInt = (k : Int) - c := by
    rw [Int32.toInt_sub, nI_toInt (by omega), nI_toInt hc]
    apply Int.bmod_eq_of_le <;> omega
  obtain ⟨a, ha, rfl⟩ := nI_of (Int32.not_lt.mpr h.1)
  have := Int32.le_iff_toInt_le.mp h.2
  rw [e, nI_toInt ha] at this
  exact ⟨a, by omega, rfl⟩
theorem pr_copy : xs_copy xRel := by
  intro kp n I L a1 a2 a3 hn h
  obtain ⟨⟨q, hB, hV⟩, h3, h4, h5, h6⟩ := pr_mono _ _ _ _ h
  unfold F_X10_copy F_X11_copy F_X10_copy_j54 F_X11_copy_j53
  simp only [xbn_e, xwi_iff, Option.bind_some, ite01]
  rcases h4 with ⟨w1, w2⟩ | ⟨w1, k, hk, w2, w3, w4⟩
  · obtain ⟨I1, I2, r1, r2, r3, r4⟩ := ref2k h (-2) 2 (by decide) (by decide)
    refine ⟨-2, I1, I2, ?_, ?_, r3⟩
    · rw [w2, if_pos rfl, r1]; rfl
    · rw [r4 57 (by decide), w1, if_pos rfl, r2]; rfl
  · rw [w2, if_neg (nI_ne_m1 (by omega))]
    by_cases g3 : 0 ≤ a3
    · rw [if_pos g3]
      obtain ⟨J1, J2, r1, r2, r3, r4⟩ := ref2k h (-6) 6 (by decide) (by decide)
      by_cases g1 : 0 ≤ a1 ∧ a1 ≤ nI k - a3
      · by_cases g2 : 0 ≤ a2 ∧ a2 ≤ nI k - a3
        · obtain ⟨c, hc, rfl⟩ := nI_of (Int32.not_lt.mpr g3)
          obtain ⟨a, ha, rfl⟩ := sub_rng hk hc g1
          obtain ⟨b, hb, rfl⟩ := sub_rng hk hc g2
          let I1 : xTI := fun k' j => if k' = 55 then va_cpy (I 55) (I 55) a b c j else I k' j
          have e1 : ∀ k', k' ≠ 55 → I1 k' = I k' := fun k' hk' => by
            funext j; show (if k' = 55 then va_cpy (I 55) (I 55) a b c j else I k' j) = I k' j; rw [if_neg hk']
          have e55 : ∀ j, I1 55 j = if b ≤ j ∧ j < b + c then I 55 (a + (j - b)) else I 55 j := fun j => rfl
          obtain ⟨J, j1, j2, j3⟩ := F11_cp (I := I1) (a := a) (b := b) (c := c) (by omega) (by omega)
          refine ⟨nI c, I1, J, ?_, ?_, ?_⟩
          · rw [it_n g1, it_n g2]
            unfold xcp
            rw [nI_clamp (by omega), nI_clamp (by omega), nI_clamp (by omega), if_neg]
            rintro (z | z | z | z | z)
            · exact nI_pos (by omega) z
            · exact nI_pos (by omega) z
            · exact nI_pos (by omega) z
            · omega
            · omega
          · rw [e1 57 (by decide), w1, if_neg (by decide), if_pos g3, if_neg (nI_pos (by omega)), if_neg (nI_pos (by omega)), w3, if_neg (Int32.not_lt.mpr g1.2), if_pos g2.2, j1]
          · have hne : ∀ k', k' ≠ 55 → k' ≠ 86 → J k' = I k' := fun k' z1 z2 => by rw [j2 k' z2, e1 k' z1]
            have x86 : ∀ j, J 86 j = if b ≤ j ∧ j < b + c then I 86 (a + (j - b)) else I 86 j := fun j => by rw [j3, e1 86 (by decide)]
            have x55 : ∀ j, J 55 j = if b ≤ j ∧ j < b + c then I 55 (a + (j - b)) else I 55 j := fun j => by rw [j2 55 (by decide), e55]
            have e58 : J 58 = I 58 := hne 58 (by decide) (by decide)
            refine ⟨⟨q, ?_, ?_⟩, ?_, Or.inr ⟨?_, k, hk, ?_, ?_, fun i hi => ?_⟩, ?_, ?_⟩
            · rw [e58]; exact hB.frame (fun k z1 z2 => hne k (by omega) (by omega)) (fun _ _ _ => rfl)
            · rw [e58]; exact hV
            · exact h3.frame (by rw [hne 29 (by decide) (by decide)]) (by rw [hne 57 (by decide) (by decide)]) (hne 30 (by decide) (by decide)) (hne 61 (by decide) (by decide))
            · rw [hne 57 (by decide) (by decide)]; exact w1
            · rw [hne 0 (by decide) (by decide)]; exact w2
            · rw [hne 57 (by decide) (by decide)]; exact w3
            · rw [x55, x86]
              by_cases z : b ≤ i ∧ i < b + c
              · rw [if_pos z, if_pos z]; exact w4 _ (by omega)
              · rw [if_neg z, if_neg z]; exact w4 i hi
            · intro i z1 z2
              rw [hne 56 (by decide) (by decide), hne 60 (by decide) (by decide)]; exact h5 i z1 z2
            · exact h6.frame (by rw [hne 57 (by decide) (by decide)]) (hne 84 (by decide) (by decide)) rfl (fun k z1 z2 => hne k (by omega) (by omega)) (fun _ _ _ => rfl)
        · refine ⟨-6, J1, J2, ?_, ?_, r3⟩
          · rw [it_n g1, it_p g2, r1]; rfl
          · rw [r4 57 (by decide), w1, if_neg (by decide), if_pos g3, if_neg (Int32.not_lt.mpr g1.1)]
            by_cases z : a2 < 0
            · rw [if_pos z, r2]; rfl
            · rw [if_neg z, w3, if_neg (Int32.not_lt.mpr g1.2), if_neg (fun y => g2 ⟨Int32.not_lt.mp z, y⟩), r2]; rfl
      · refine ⟨-6, J1, J2, ?_, ?_, r3⟩
        · rw [it_p g1, r1]; rfl
        · rw [r4 57 (by decide), w1, if_neg (by decide), if_pos g3]
          by_cases z : a1 < 0
          · rw [if_pos z, r2]; rfl
          · rw [if_neg z]
            by_cases y : a2 < 0
            · rw [if_pos y, r2]; rfl
            · rw [if_neg y, w3, if_pos (Int32.not_le.mp (fun v => g1 ⟨Int32.not_lt.mp z, v⟩)), r2]; rfl
    · obtain ⟨I1, I2, r1, r2, r3, r4⟩ := ref2k h (-4) 4 (by decide) (by decide)
      refine ⟨-4, I1, I2, ?_, ?_, r3⟩
      · rw [if_neg g3, r1]; rfl
      · rw [r4 57 (by decide), w1, if_neg (by decide), if_neg g3, r2]; rfl
