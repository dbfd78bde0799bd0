/-- whether x is a man's number, a stock's -/
theorem F10_man {I : xTI} {q : Nat → Nat} (h : I 3 0 = nI (q 1)) (hq : q 1 ≤ 12) (x : Int32) : F_X10_isMan I x = some (if 0 ≤ x ∧ x ≤ nI (q 1) - 1 then 1 else 0) := by
  unfold F_X10_isMan
  simp only [xbn_e, xwi_iff, Option.bind_some, h, xzc_ite]
theorem F10_stk {I : xTI} {q : Nat → Nat} (h : I 1 1 = nI (q 2)) (x : Int32) : F_X10_isStock I x = some (if 0 ≤ x ∧ x ≤ nI (q 2) - 1 then 1 else 0) := by
  unfold F_X10_isStock
  simp only [xbn_e, xwi_iff, Option.bind_some, h, xzc_ite]
theorem F11_man {I : xTI} {q : Nat → Nat} (h : I 58 1 = nI (q 1)) (x : Int32) : F_X11_isMan I x = some (if 0 ≤ x ∧ x ≤ nI (q 1) - 1 then 1 else 0) := by
  unfold F_X11_isMan
  rw [show (1 : Int32) = nI 1 from rfl, xal_n (by decide) (by decide)]
  simp only [xin_iff, Option.bind_some, h, xzc_ite]
  rfl
theorem F11_stk {I : xTI} {q : Nat → Nat} (h : I 58 2 = nI (q 2)) (x : Int32) : F_X11_isStock I x = some (if 0 ≤ x ∧ x ≤ nI (q 2) - 1 then 1 else 0) := by
  unfold F_X11_isStock
  rw [show (2 : Int32) = nI 2 from rfl, xal_n (by decide) (by decide)]
  simp only [xin_iff, Option.bind_some, h, xzc_ite]
/-- what both refuse: the same answer, the same count -/
theorem ref2 {kp : Bool} {n : Nat} {I : xTI} {L : xTL} (h : xRel kp n I L) (y : Int32) (j : Nat) (hy : -y = nI j) (hj : j < 9) : ∃ I1 I2 : xTI, F_X10_refuse I y = some (y, I1) ∧ F_X11_refuse I1 y = some (y, I2) ∧ xRel kp (n + 1) I2 L := by
  refine ⟨_, _, F10_rf I y j hy hj, F11_rf _ y j hy hj, ?_⟩
  rw [rf_eq]
  exact h.rf j
theorem huz2 {kp : Bool} {n : Nat} {I : xTI} {L : xTL} (h : xRel kp n I L) (y : Int32) (j : Nat) (hy : -y = nI j) (hj : j < 9) : ∃ I1 I2 : xTI, F_X10_refuseAsZero I y = some (0, I1) ∧ F_X11_hush I1 y = some (0, I2) ∧ xRel kp (n + 1) I2 L := by
  refine ⟨_, _, F10_rz I y j hy hj, F11_hu _ y j hy hj, ?_⟩
  rw [rf_eq]
  exact h.rf j
/-- the refusals' rows alone differ between I and what the class leaves of a refused call -/
theorem ref2k {kp : Bool} {n : Nat} {I : xTI} {L : xTL} (h : xRel kp n I L) (y : Int32) (j : Nat) (hy : -y = nI j) (hj : j < 9) : ∃ I1 I2 : xTI, F_X10_refuse I y = some (y, I1) ∧ F_X11_refuse I1 y = some (y, I2) ∧ xRel kp (n + 1) I2 L ∧ ∀ k, k ≠ 56 → I1 k = I k := by
  refine ⟨_, _, F10_rf I y j hy hj, F11_rf _ y j hy hj, ?_, fun k hk => xup_ne hk⟩
  rw [rf_eq]
  exact h.rf j
theorem huz2k {kp : Bool} {n : Nat} {I : xTI} {L : xTL} (h : xRel kp n I L) (y : Int32) (j : Nat) (hy : -y = nI j) (hj : j < 9) : ∃ I1 I2 : xTI, F_X10_refuseAsZero I y = some (0, I1) ∧ F_X11_hush I1 y = some (0, I2) ∧ xRel kp (n + 1) I2 L ∧ ∀ k, k ≠ 56 → I1 k = I k := by
  refine ⟨_, _, F10_rz I y j hy hj, F11_hu _ y j hy hj, ?_, fun k hk => xup_ne hk⟩
  rw [rf_eq]
  exact h.rf j
theorem nI_ne_m1 {k : Nat} (hk : k < 2 ^ 31) : nI k ≠ -1 := by
  intro g
  have := congrArg Int32.toInt g
  rw [nI_toInt hk] at this
  have e : (-1 : Int32).toInt = -1 := by decide
  rw [e] at this
  omega
/-- a call that changes nothing that counts, and isn't refused -/
theorem pr_status : xs_status xRel := by
  intro kp n I L a1 hn h
  unfold F_X10_status F_X11_status
  simp only [xwi_iff, xin_iff, Option.bind_some, ite01]
  by_cases hc : -8 ≤ a1 ∧ a1 ≤ -2
  · have g1 := Int32.le_iff_toInt_le.mp hc.1
    have g2 := Int32.le_iff_toInt_le.mp hc.2
    have e1 : (-8 : Int32).toInt = -8 := by decide
    have e2 : (-2 : Int32).toInt = -2 := by decide
    rw [e1] at g1
    rw [e2] at g2
    have hj : -a1 = nI (-a1.toInt).toNat := by
      apply Int32.toInt_inj.mp
      rw [nI_toInt (by omega), Int32.toInt_neg]
      have : (-a1.toInt).bmod (2 ^ 32) = -a1.toInt := by apply Int.bmod_eq_of_le <;> omega
      rw [this]
      omega
    simp only [it_n hc]
    rw [hj, xal_n (by omega) (by decide)]
    refine ⟨_, _, _, rfl, ?_, pr_mono _ _ _ _ h⟩
    rw [xal_n (by omega) (by decide)]
    rw [h.2.2.2.1 _ (by omega) (by omega)]
  · obtain ⟨I1, I2, g1, g2, g3, g4⟩ := ref2k h (-7) 7 (by decide) (by decide)
    refine ⟨-7, I1, I2, ?_, ?_, g3⟩
    · rw [it_p hc, g1]; rfl
    · rw [it_p hc, g2]; rfl
theorem pr_row : xs_row xRel := by
  intro kp n I L a1 hn h
  unfold F_X10_row F_X11_row
  simp only [xbn_e, xwi_iff, xin_iff, Option.bind_some, ite01]
  rcases h.2.2.1 with ⟨a, b⟩ | ⟨a, k, hk, b, c, d⟩
  · obtain ⟨I1, I2, g1, g2, g3, g4⟩ := huz2k h (-2) 2 (by decide) (by decide)
    refine ⟨0, I1, I2, ?_, ?_, g3⟩
    · rw [if_pos b, g1]; rfl
    · rw [if_pos (by rw [g4 57 (by decide)]; exact a), g2]; rfl
  · have hb : ¬ I 0 8 = -1 := by rw [b]; exact nI_ne_m1 (by omega)
    have ha : ¬ I 57 47 = 0 := by rw [a]; decide
    by_cases hc : 0 ≤ a1 ∧ a1 ≤ nI k - 1
    · obtain ⟨j, hj, rfl⟩ := (rng_iff (by omega)).mp hc
      refine ⟨I 55 j, I, I, ?_, ?_, pr_mono _ _ _ _ h⟩
      · rw [if_neg hb, b, it_n hc, xal_n (by omega) (by decide)]
      · rw [if_neg ha, c, it_n hc, xal_n (by omega) (by decide), d j hj]
    · obtain ⟨I1, I2, g1, g2, g3, g4⟩ := huz2k h (-3) 3 (by decide) (by decide)
      refine ⟨0, I1, I2, ?_, ?_, g3⟩
      · rw [if_neg hb, b, it_p hc, g1]; rfl
      · rw [g4 57 (by decide), if_neg ha, c, it_p hc, g2]; rfl
theorem pr_set : xs_set xRel := by
  intro kp n I L a1 a2 hn h
  unfold F_X10_set F_X11_set
  simp only [xbn_e, xwi_iff, xin_iff, Option.bind_some, ite01]
  rcases id h.2.2.1 with ⟨a, b⟩ | ⟨a, k, hk, b, c, d⟩
  · obtain ⟨I1, I2, g1, g2, g3, g4⟩ := huz2k h (-2) 2 (by decide) (by decide)
    refine ⟨0, I1, I2, ?_, ?_, g3⟩
    · rw [if_pos b, g1]; rfl
    · rw [if_pos (by rw [g4 57 (by decide)]; exact a), g2]; rfl
  · have hb : ¬ I 0 8 = -1 := by rw [b]; exact nI_ne_m1 (by omega)
    have ha : ¬ I 57 47 = 0 := by rw [a]; decide
    by_cases hc : 0 ≤ a1 ∧ a1 ≤ nI k - 1
    · obtain ⟨j, hj, rfl⟩ := (rng_iff (by omega)).mp hc
      refine ⟨I 55 j, xup I 55 j a2, xup (xup I 55 j a2) 86 j a2, ?_, ?_, ?_⟩
      · rw [if_neg hb, b, it_n hc, xal_n (by omega) (by decide), xas_n (by omega) (by decide)]
      · rw [xup_ne (k' := 57) (by decide), if_neg ha, c, it_n hc, xal_n (by omega) (by decide), xas_n (by omega) (by decide), xup_ne (k' := 86) (by decide), d j hj]
      · obtain ⟨⟨q, h1, h2⟩, h3, h4, h5, h6⟩ := pr_mono _ _ _ _ h
        have hne : ∀ k', k' ≠ 55 → k' ≠ 86 → xup (xup I 55 j a2) 86 j a2 k' = I k' := fun k' e1 e2 => by rw [xup_ne e2, xup_ne e1]
        refine ⟨⟨q, ?_, ?_⟩, ?_, ?_, ?_, ?_⟩
        · rw [hne 58 (by decide) (by decide)]
          exact h1.frame (fun k a b => hne k (by omega) (by omega)) (fun _ _ _ => rfl)
        · rw [hne 58 (by decide) (by decide)]
          exact h2
        · exact h3.frame (by rw [hne 29 (by decide) (by decide)]) (by rw [hne 57 (by decide) (by decide)]) (hne _ (by decide) (by decide)) (hne _ (by decide) (by decide))
        · refine Or.inr ⟨by rw [hne 57 (by decide) (by decide)]; exact a, k, hk, by rw [hne 0 (by decide) (by decide)]; exact b, by rw [hne 57 (by decide) (by decide)]; exact c, fun i hi => ?_⟩
          have := d i hi
          simp only [xup]
          by_cases e : i = j
          · simp [e]
          · simp [e, this]
        · intro i e1 e2
          rw [hne 56 (by decide) (by decide), hne 60 (by decide) (by decide)]
          exact h5 i e1 e2
        · exact h6.frame (by rw [hne 57 (by decide) (by decide)]) (hne _ (by decide) (by decide)) rfl (fun k a b => hne k (by omega) (by omega)) (fun _ _ _ => rfl)
    · obtain ⟨I1, I2, g1, g2, g3, g4⟩ := huz2k h (-3) 3 (by decide) (by decide)
      refine ⟨0, I1, I2, ?_, ?_, g3⟩
      · rw [if_neg hb, b, it_p hc, g1]; rfl
      · rw [g4 57 (by decide), if_neg ha, c, it_p hc, g2]; rfl
theorem pr_wipe : xs_wipe xRel := by
  intro kp n I L hn h
  unfold F_X10_wipe F_X11_wipe
  simp only [xbn_e]
  obtain ⟨⟨q, h1, h2⟩, ⟨t, t1, t2, t3, t4⟩, h4, h5, h6⟩ := pr_mono _ _ _ _ h
  have hne : ∀ k', k' ≠ 29 → k' ≠ 57 → xup (xup I 29 0 0) 57 5 0 k' = I k' := fun k' e1 e2 => by rw [xup_ne e2, xup_ne e1]
  refine ⟨I 29 0, _, _, rfl, by rw [xup_ne (k' := 57) (by decide), t2, t3], ?_⟩
  refine ⟨⟨q, ?_, ?_⟩, ⟨0, by decide, by simp [xup]; rfl, by simp [xup]; rfl, fun i hi => by omega⟩, ?_, ?_, ?_⟩
  · rw [hne 58 (by decide) (by decide)]
    exact h1.frame (fun k a b => by
      by_cases e : k = 29
      · omega
      · exact hne k (by omega) (by omega)) (fun _ _ _ => rfl)
  · rw [hne 58 (by decide) (by decide)]
    exact h2
  · exact h4.frame (by simp [xup]) (by simp [xup]) (by rw [hne 0 (by decide) (by decide)]) (hne _ (by decide) (by decide)) (hne _ (by decide) (by decide))
  · intro i e1 e2
    rw [hne 56 (by decide) (by decide), hne 60 (by decide) (by decide)]
    exact h5 i e1 e2
  · exact h6.frame (by simp [xup]) (hne _ (by decide) (by decide)) rfl (fun k a b => hne k (by omega) (by omega)) (fun _ _ _ => rfl)
theorem pr_made : xs_made xRel := by
  intro kp n I L a1 hn h
  obtain ⟨⟨q, h1, h2⟩, -⟩ := id h
  have e2 : I 58 2 = nI (q 2) := h2.1.1 2 (by decide)
  have b2 : q 2 ≤ 5 := h2.1.2.2.2.1
  unfold F_X10_made F_X11_made
  rw [F10_stk (q := q) h1.1.2.2.1]
  simp only [Option.bind_some, ite01]
  by_cases hc : 0 ≤ a1 ∧ a1 ≤ nI (q 2) - 1
  · obtain ⟨j, hj, rfl⟩ := (rng_iff (by omega)).mp hc
    refine ⟨I 2 j, I, I, ?_, ?_, pr_mono _ _ _ _ h⟩
    · rw [it_n hc, xal_n (by omega) (by decide)]
    · rw [F11_stk (q := q) e2]
      simp only [Option.bind_some, ite01]
      rw [it_n hc, show (184 : Int32) = nI 184 from rfl, nI_add, xal_n (by omega) (by decide), h1.2.1.2.2 j (by omega)]
  · obtain ⟨I1, I2, g1, g2, g3, g4⟩ := ref2k h (-3) 3 (by decide) (by decide)
    refine ⟨-3, I1, I2, ?_, ?_, g3⟩
    · rw [it_p hc, g1]; rfl
    · rw [F11_stk (q := q) (by rw [g4 58 (by decide)]; exact e2)]
      simp only [Option.bind_some, ite01]
      rw [it_p hc, g2]; rfl
