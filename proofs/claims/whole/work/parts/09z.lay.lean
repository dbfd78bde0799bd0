theorem F10_fill {I : xTI} : F_J7_fill_53178_55 xN I 0 = some (wr I 55 0 (fun _ => 0) 60) := by
  unfold F_J7_fill_53178_55 F_J7_fill_53178_55_b5
  refine xlp_for (fun i => (nI i, wr I 55 0 (fun _ => 0) i)) 60 _ (fun i hi k => ?_) (fun k => ?_) xN (by decide)
  · show F_J7_fill_53178_55_c5 xN 0 60 (nI i) (wr I 55 0 (fun _ => 0) i) k = k (nI (i + 1), wr I 55 0 (fun _ => 0) (i + 1))
    unfold F_J7_fill_53178_55_c5
    rw [if_neg (n60 hi), xas_n hi (by decide), xbn_e, nI_1]
    show k (nI (i + 1), xup (wr I 55 0 (fun _ => 0) i) 55 i 0) = k (nI (i + 1), xup (wr I 55 0 (fun _ => 0) i) 55 (0 + i) 0)
    rw [Nat.zero_add]
  · show F_J7_fill_53178_55_c5 xN 0 60 (nI 60) (wr I 55 0 (fun _ => 0) 60) k = _
    unfold F_J7_fill_53178_55_c5
    rw [if_pos (by decide)]
theorem F11_lay {I : xTI} {z : Nat} (hz : z ≤ 60) : xlp (F_X11_lay_b36 xN (nI z)) xN (0, I) = some (nI z, wr I 86 0 (fun _ => 0) z) := by
  unfold F_X11_lay_b36
  refine xlp_for (fun i => (nI i, wr I 86 0 (fun _ => 0) i)) z _ (fun i hi k => ?_) (fun k => ?_) xN (by show z < 100000; omega)
  · show F_X11_lay_c36 xN (nI z) (nI i) (wr I 86 0 (fun _ => 0) i) k = k (nI (i + 1), wr I 86 0 (fun _ => 0) (i + 1))
    unfold F_X11_lay_c36
    rw [if_neg (nI_ge hi (by omega)), xas_n (by omega) (by decide), xbn_e, nI_1]
    show k (nI (i + 1), xup (wr I 86 0 (fun _ => 0) i) 86 i 0) = k (nI (i + 1), xup (wr I 86 0 (fun _ => 0) i) 86 (0 + i) 0)
    rw [Nat.zero_add]
  · show F_X11_lay_c36 xN (nI z) (nI z) (wr I 86 0 (fun _ => 0) z) k = _
    unfold F_X11_lay_c36
    rw [if_pos (nI_le (Nat.le_refl _) (by omega))]
theorem pr_lay : xs_lay xRel := by
  intro kp n I L a1 hn h
  obtain ⟨⟨q, hB, hV⟩, h3, h4, h5, h6⟩ := pr_mono _ _ _ _ h
  unfold F_X10_lay F_X11_lay
  simp only [xbn_e, xzc_1]
  by_cases g1 : 0 ≤ a1
  · by_cases g2 : a1 ≤ 60
    · obtain ⟨z, -, hz, rfl⟩ := (rngl_iff (a := 0) (b := 60) (by decide) (by decide)).mp ⟨g1, g2⟩
      let I1 : xTI := xup (wr I 55 0 (fun _ => 0) 60) 0 8 (nI z)
      refine ⟨nI z, I1, wr (xup (xup I1 57 47 1) 57 46 (nI z)) 86 0 (fun _ => 0) z, ?_, ?_, ?_⟩
      · rw [if_pos g1, if_pos g2, F10_fill]; rfl
      · rw [if_pos g1, if_pos g2, F11_lay hz]
      · have hne : ∀ k, k ≠ 0 → k ≠ 55 → k ≠ 57 → k ≠ 86 → wr (xup (xup I1 57 47 1) 57 46 (nI z)) 86 0 (fun _ => 0) z k = I k := fun k z1 z2 z3 z4 => by
          rw [wr_ne z4, xup_ne z3, xup_ne z3]
          show xup (wr I 55 0 (fun _ => 0) 60) 0 8 (nI z) k = I k
          rw [xup_ne z1, wr_ne z2]
        have x08 : wr (xup (xup I1 57 47 1) 57 46 (nI z)) 86 0 (fun _ => 0) z 0 8 = nI z := by
          rw [wr_ne (by decide), xup_ne (by decide), xup_ne (by decide)]
          show xup (wr I 55 0 (fun _ => 0) 60) 0 8 (nI z) 0 8 = nI z
          rw [xup_at, if_pos rfl]
        have x57 : ∀ j, wr (xup (xup I1 57 47 1) 57 46 (nI z)) 86 0 (fun _ => 0) z 57 j = if j = 46 then nI z else if j = 47 then 1 else I 57 j := fun j => by
          rw [wr_ne (by decide), xup_at, xup_at]
          show _ = if j = 46 then nI z else if j = 47 then 1 else I 57 j
          rw [show I1 57 = I 57 from by show xup (wr I 55 0 (fun _ => 0) 60) 0 8 (nI z) 57 = I 57; rw [xup_ne (by decide), wr_ne (by decide)]]
        have x55 : ∀ j, j < z → wr (xup (xup I1 57 47 1) 57 46 (nI z)) 86 0 (fun _ => 0) z 55 j = 0 := fun j hj => by
          rw [wr_ne (by decide), xup_ne (by decide), xup_ne (by decide)]
          show xup (wr I 55 0 (fun _ => 0) 60) 0 8 (nI z) 55 j = 0
          rw [xup_ne (by decide)]
          have := wr_in (I := I) (k := 55) (base := 0) (w := fun _ => 0) (t := j) 60 (by omega)
          rw [Nat.zero_add] at this
          exact this
        have x86 : ∀ j, j < z → wr (xup (xup I1 57 47 1) 57 46 (nI z)) 86 0 (fun _ => 0) z 86 j = 0 := fun j hj => by
          have := wr_in (I := xup (xup I1 57 47 1) 57 46 (nI z)) (k := 86) (base := 0) (w := fun _ => 0) (t := j) z hj
          rw [Nat.zero_add] at this
          exact this
        generalize wr (xup (xup I1 57 47 1) 57 46 (nI z)) 86 0 (fun _ => 0) z = I2 at hne x08 x57 x55 x86
        have e58 : I2 58 = I 58 := hne 58 (by decide) (by decide) (by decide) (by decide)
        refine ⟨⟨q, ?_, ?_⟩, ?_, Or.inr ⟨?_, z, hz, x08, ?_, fun i hi => ?_⟩, ?_, ?_⟩
        · rw [e58]; exact hB.frame (fun k z1 z2 => hne k (by omega) (by omega) (by omega) (by omega)) (fun _ _ _ => rfl)
        · rw [e58]; exact hV
        · exact h3.frame (by rw [hne 29 (by decide) (by decide) (by decide) (by decide)]) (by rw [x57]; rfl) (hne 30 (by decide) (by decide) (by decide) (by decide)) (hne 61 (by decide) (by decide) (by decide) (by decide))
        · rw [x57]; rfl
        · rw [x57]; rfl
        · rw [x55 i hi, x86 i hi]
        · intro i z1 z2
          rw [hne 56 (by decide) (by decide) (by decide) (by decide), hne 60 (by decide) (by decide) (by decide) (by decide)]; exact h5 i z1 z2
        · exact h6.frame (by rw [x57]; rfl) (hne 84 (by decide) (by decide) (by decide) (by decide)) rfl (fun k z1 z2 => hne k (by omega) (by omega) (by omega) (by omega)) (fun _ _ _ => rfl)
    · obtain ⟨I1, I2, r1, r2, r3, r4⟩ := ref2k h (-7) 7 (by decide) (by decide)
      refine ⟨-7, I1, I2, ?_, ?_, r3⟩
      · rw [if_pos g1, if_neg g2, r1]; rfl
      · rw [if_pos g1, if_neg g2, r2]; rfl
  · obtain ⟨I1, I2, r1, r2, r3, r4⟩ := ref2k h (-4) 4 (by decide) (by decide)
    refine ⟨-4, I1, I2, ?_, ?_, r3⟩
    · rw [if_neg g1, r1]; rfl
    · rw [if_neg g1, r2]; rfl
