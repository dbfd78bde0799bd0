theorem pr_feed : xs_feed xRel := by
  intro kp n I L a1 a2 hn h
  obtain ⟨⟨q, hB, hV⟩, ⟨t, ht, t1, t2, t3⟩, h4, h5, h6⟩ := pr_mono _ _ _ _ h
  unfold F_X10_feed F_X11_feed
  simp only [xbn_e]
  by_cases g1 : 0 ≤ a2
  · by_cases g2 : a2 ≤ 4
    · obtain ⟨z, -, hz, rfl⟩ := (rngl_iff (a := 0) (b := 4) (by decide) (by decide)).mp ⟨g1, g2⟩
      by_cases g3 : t + z ≤ 120
      · have e57 : fI 30 29 0 a1 z t I z 57 = I 57 := fI_ne (by decide) (by decide) _
        have hne : ∀ k, k ≠ 30 → k ≠ 29 → k ≠ 61 → k ≠ 57 → fI 61 57 5 a1 z t (fI 30 29 0 a1 z t I z) z k = I k := fun k z1 z2 z3 z4 => by rw [fI_ne z3 z4, fI_ne z1 z2]
        refine ⟨nI (t + z), fI 30 29 0 a1 z t I z, fI 61 57 5 a1 z t (fI 30 29 0 a1 z t I z) z, ?_, ?_, ?_⟩
        · rw [if_pos g1, if_pos g2, t1, nI_add, if_pos (show nI (t + z) ≤ (120 : Int32) from nI_le (b := 120) g3 (by decide)), F10_ap hz g3 t1, Option.bind_some, fI_ct t1]
        · rw [if_pos g1, if_pos g2, e57, t2, nI_add, if_pos (show nI (t + z) ≤ (120 : Int32) from nI_le (b := 120) g3 (by decide)), F11_ap hz g3 (by rw [e57]; exact t2)]
        · have c29 : fI 61 57 5 a1 z t (fI 30 29 0 a1 z t I z) z 29 0 = nI (t + z) := by rw [fI_ne (by decide) (by decide), fI_ct t1]
          have c57 : fI 61 57 5 a1 z t (fI 30 29 0 a1 z t I z) z 57 5 = nI (t + z) := fI_ct (by rw [e57]; exact t2) _
          have o57 : ∀ j, j ≠ 5 → fI 61 57 5 a1 z t (fI 30 29 0 a1 z t I z) z 57 j = I 57 j := fun j hj => by rw [fI_co (by decide) hj, e57]
          have c30 : ∀ j, fI 61 57 5 a1 z t (fI 30 29 0 a1 z t I z) z 30 j = if t ≤ j ∧ j < t + z then (a1 >>> ((8 * nI (z - 1 - (j - t))) &&& 31)) &&& 255 else I 30 j := fun j => by rw [fI_ne (by decide) (by decide), fI_ar (by decide)]
          have c61 : ∀ j, fI 61 57 5 a1 z t (fI 30 29 0 a1 z t I z) z 61 j = if t ≤ j ∧ j < t + z then (a1 >>> ((8 * nI (z - 1 - (j - t))) &&& 31)) &&& 255 else I 61 j := fun j => by rw [fI_ar (by decide), fI_ne (k := 61) (by decide) (by decide)]
          generalize fI 61 57 5 a1 z t (fI 30 29 0 a1 z t I z) z = I2 at hne c29 c57 o57 c30 c61
          have e58 : I2 58 = I 58 := hne 58 (by decide) (by decide) (by decide) (by decide)
          refine ⟨⟨q, ?_, ?_⟩, ⟨t + z, g3, c29, c57, fun i hi => ?_⟩, ?_, ?_, ?_⟩
          · rw [e58]; exact hB.frame (fun k z1 z2 => hne k (by omega) (by omega) (by omega) (by omega)) (fun _ _ _ => rfl)
          · rw [e58]; exact hV
          · rw [c30, c61]
            by_cases g : t ≤ i ∧ i < t + z
            · rw [if_pos g, if_pos g]; exact ⟨rfl, and255 _⟩
            · rw [if_neg g, if_neg g]; exact t3 i (by omega)
          · exact h4.frame (o57 47 (by decide)) (o57 46 (by decide)) (by rw [hne 0 (by decide) (by decide) (by decide) (by decide)]) (hne 55 (by decide) (by decide) (by decide) (by decide)) (hne 86 (by decide) (by decide) (by decide) (by decide))
          · intro i z1 z2
            rw [hne 56 (by decide) (by decide) (by decide) (by decide), hne 60 (by decide) (by decide) (by decide) (by decide)]; exact h5 i z1 z2
          · exact h6.frame (o57 44 (by decide)) (hne 84 (by decide) (by decide) (by decide) (by decide)) rfl (fun k z1 z2 => hne k (by omega) (by omega) (by omega) (by omega)) (fun _ _ _ => rfl)
      · obtain ⟨I1, I2, r1, r2, r3, r4⟩ := ref2k h (-8) 8 (by decide) (by decide)
        have g3' : ¬ nI (t + z) ≤ (120 : Int32) := nI_ge (a := 120) (by omega) (by omega)
        refine ⟨-8, I1, I2, ?_, ?_, r3⟩
        · rw [if_pos g1, if_pos g2, t1, nI_add, if_neg g3', r1]; rfl
        · rw [if_pos g1, if_pos g2, r4 57 (by decide), t2, nI_add, if_neg g3', r2]; rfl
    · obtain ⟨I1, I2, r1, r2, r3, r4⟩ := ref2k h (-7) 7 (by decide) (by decide)
      refine ⟨-7, I1, I2, ?_, ?_, r3⟩
      · rw [if_pos g1, if_neg g2, r1]; rfl
      · rw [if_pos g1, if_neg g2, r2]; rfl
  · obtain ⟨I1, I2, r1, r2, r3, r4⟩ := ref2k h (-4) 4 (by decide) (by decide)
    refine ⟨-4, I1, I2, ?_, ?_, r3⟩
    · rw [if_neg g1, r1]; rfl
    · rw [if_neg g1, r2]; rfl
