/-- bargains change, all else is as it was -/
theorem bookB {I I2 : xTI} {L : xTL} {q : Nat → Nat} {n : Nat} (hB : BR I L (I 58) (L 59) q) (hV : IV (I 58) (L 59) q n) (hne : ∀ k, 1 ≤ k → k ≤ 28 → k ≠ 13 → I2 k = I k) (hs : ∀ j, (j < 192 ∨ 912 ≤ j) → I2 58 j = I 58 j) (hb : BRb I2 (I2 58)) (hv : IVb (I2 58) q) : BR I2 L (I2 58) (L 59) q ∧ IV (I2 58) (L 59) q n := by
  obtain ⟨b1, b2, b3, b4, b5, b6⟩ := hB
  obtain ⟨v1, v2, v3, v4, v5, v6, v7⟩ := hV
  have c5 : q 1 ≤ 12 := v1.2.2.1
  refine ⟨⟨?_, ?_, ?_, hb, ?_, ?_⟩, ⟨?_, ?_, hv, ?_, ?_, ?_, ?_⟩⟩
  · unfold BRn
    rw [hne 1 (by decide) (by decide) (by decide), hne 3 (by decide) (by decide) (by decide), hne 20 (by decide) (by decide) (by decide), hne 15 (by decide) (by decide) (by decide), hne 22 (by decide) (by decide) (by decide), hne 24 (by decide) (by decide) (by decide), hne 26 (by decide) (by decide) (by decide)]
    exact b1
  · exact b2.fr c5 (hne 7 (by decide) (by decide) (by decide)) (hne 8 (by decide) (by decide) (by decide)) (hne 9 (by decide) (by decide) (by decide)) (hne 10 (by decide) (by decide) (by decide)) (hne 2 (by decide) (by decide) (by decide)) (fun j e1 e2 => hs j (by omega))
  · refine ⟨b3.1, b3.2.1, fun m' hm' => ⟨(b3.2.2 m' hm').1, ?_⟩⟩
    rw [hs _ (by omega)]; exact (b3.2.2 m' hm').2
  · exact b5.fr v1.2.2.2.2.1 v1.2.2.2.2.2.2.1 (by have := v1.2.2.2.2.2.2.2.2.1; omega) (hne 21 (by decide) (by decide) (by decide)) (hne 23 (by decide) (by decide) (by decide)) (hne 25 (by decide) (by decide) (by decide)) (hne 27 (by decide) (by decide) (by decide)) (fun j e1 e2 => hs j (by omega)) (fun j e1 e2 => hs j (by omega))
  · exact b6.fr v1.2.2.2.2.2.1 (hne 16 (by decide) (by decide) (by decide)) (hne 17 (by decide) (by decide) (by decide)) (fun j e1 e2 => hs j (by omega))
  · exact ⟨fun i hi => by rw [hs _ (by omega)]; exact v1.1 i hi, v1.2⟩
  · exact v2.fr c5 (fun j e1 e2 => hs j (by omega))
  · exact v4.fr v1.2.2.2.2.1 v1.2.2.2.2.2.2.1 c5 (fun m' hm' => hs _ (by omega)) (fun j e1 e2 => hs j (by omega))
  · exact v5.fr (fun m' hm' => hs _ (by omega))
  · exact v6.fr (by have := v1.2.2.2.2.2.2.2.2.1; omega) (fun m' hm' => hs _ (by omega)) (fun j e1 e2 => hs j (by omega))
  · exact v7.fr v1.2.2.2.2.2.1 (fun j e1 e2 => hs j (by omega))
theorem put12 {I : xTI} {b t : Nat} {v : Int32} (hb : b < 60) (ht : t < 11) : F_X8_put_12 I (nI b) (nI t) v = some (xup I 13 (11 * b + t) v) := by
  unfold F_X8_put_12 F_X8_put_12_j29
  rw [if_neg (nI_pos (by omega)), if_neg (n60 hb), if_neg (nI_pos (by omega)), if_neg (n11 ht), if_neg (by decide), show (11 : Int32) = nI 11 from rfl, nI_mul, nI_add, xas_n (by omega) (by decide), Nat.mul_comm b 11]
/-- the clauses of one bargain read only its cells, and who is UP -/
theorem IVbg.one {s s2 : Nat → Int32} {q : Nat → Nat} {b : Nat} (h : IVbg s q b) (hq : q 1 ≤ 12) (hu : ∀ m, m < q 1 → s2 (16 + 4 * m) = s (16 + 4 * m)) (hs : ∀ t, t < 12 → s2 (192 + 12 * b + t) = s (192 + 12 * b + t)) : IVbg s2 q b := by
  obtain ⟨sl, by_, st, sh, pr, dy, ac, sta, g1, g2, g3, g4, g5, g6, g7, g8, f1, f2, f3, f4, f5, f6, f7, f8, f9, f10, f11, f12, m1, m2, m3, m4, m5, m6⟩ := h
  refine ⟨sl, by_, st, sh, pr, dy, ac, sta, ?_⟩
  unfold isUpP at *
  rw [hs 1 (by decide), hs 2 (by decide), hs 3 (by decide), hs 4 (by decide), hs 5 (by decide), hs 6 (by decide), hs 7 (by decide), hs 8 (by decide), hs 9 (by decide), hs 10 (by decide), hs 11 (by decide), hu sl f1, hu by_ f2]
  exact ⟨g1, g2, g3, g4, g5, g6, g7, g8, f1, f2, f3, f4, f5, f6, f7, f8, f9, f10, f11, f12, m1, m2, m3, m4, m5, m6⟩
/-- only bargain b changes -/
theorem bookB1 {I I2 : xTI} {L : xTL} {q : Nat → Nat} {n b : Nat} (hb60 : b < 60) (hB : BR I L (I 58) (L 59) q) (hV : IV (I 58) (L 59) q n) (hne : ∀ k, 1 ≤ k → k ≤ 28 → k ≠ 13 → I2 k = I k) (hs : ∀ j, (j < 192 + 12 * b ∨ 192 + 12 * b + 12 ≤ j) → I2 58 j = I 58 j) (hc : ∀ j, (j < 11 * b ∨ 11 * b + 11 ≤ j) → I2 13 j = I 13 j) (hb : (I2 58 (192 + 12 * b) = 0 ∧ I2 13 (11 * b + 7) = -1) ∨ (I2 58 (192 + 12 * b) = 1 ∧ (∀ t, t < 11 → I2 13 (11 * b + t) = I2 58 (192 + 12 * b + 1 + t)) ∧ IVbg (I2 58) q b)) : BR I2 L (I2 58) (L 59) q ∧ IV (I2 58) (L 59) q n := by
  refine bookB hB hV hne (fun j hj => hs j (by omega)) (fun b' hb' => ?_) (fun b' hb' => ?_)
  · by_cases e : b' = b
    · subst e
      rcases hb with h | h
      · exact Or.inl h
      · exact Or.inr ⟨h.1, h.2.1⟩
    · rw [hs _ (by omega)]
      rcases hB.2.2.2.1 b' hb' with ⟨h1, h2⟩ | ⟨h1, h2⟩
      · exact Or.inl ⟨h1, by rw [hc _ (by omega)]; exact h2⟩
      · exact Or.inr ⟨h1, fun t ht => by rw [hc _ (by omega), hs _ (by omega)]; exact h2 t ht⟩
  · by_cases e : b' = b
    · subst e
      rcases hb with h | h
      · exact Or.inl h.1
      · exact Or.inr ⟨h.1, h.2.2⟩
    · rcases hV.2.2.1 b' hb' with h | ⟨h1, h2⟩
      · exact Or.inl (by rw [hs _ (by omega)]; exact h)
      · exact Or.inr ⟨by rw [hs _ (by omega)]; exact h1, h2.one hV.1.2.2.1 (fun m hm => by have := hV.1.2.2.1; exact hs _ (by omega)) (fun t ht => hs _ (by omega))⟩
theorem pr_clear : xs_clear xRel := by
  intro kp n I L a1 hn h
  obtain ⟨⟨q, hB, hV⟩, -⟩ := id h
  unfold F_X10_clear F_X11_clear F_X0_at F_X0_putState
  by_cases g1 : ∃ b, b < 60 ∧ a1 = nI b ∧ I 58 (192 + 12 * b) = 1
  · obtain ⟨b, hb, rfl, h1⟩ := g1
    by_cases g2 : lv (I 58) b
    · obtain ⟨I1, I2, r1, r2, r3, r4⟩ := ref2k h (-7) 7 (by decide) (by decide)
      refine ⟨-7, I1, I2, ?_, ?_, r3⟩
      · rw [th_y hB.2.2.2.1 hV.2.2.1 hb h1, F10_lv hB.2.2.2.1 hV.2.2.1 hb]
        simp only [Option.bind_some, ite01]
        rw [if_neg (by decide), it_n g2, r1]; rfl
      · rw [bn_y hb (by rw [r4 58 (by decide)]; exact h1), F11_lv (q := q) (by rw [r4 58 (by decide)]; exact hV.2.2.1) hb, r4 58 (by decide)]
        simp only [Option.bind_some, ite01]
        rw [if_neg (by decide), it_n g2, r2]; rfl
    · have hne : ∀ k, k ≠ 13 → k ≠ 58 → xup (xup I 13 (11 * b + 7) (-1)) 58 (192 + 12 * b) 0 k = I k := fun k e1 e2 => by rw [xup_ne e2, xup_ne e1]
      have e58 : xup I 13 (11 * b + 7) (-1) 58 = I 58 := xup_ne (by decide)
      refine ⟨I 58 (192 + 12 * b + 8), xup I 13 (11 * b + 7) (-1), xup (xup I 13 (11 * b + 7) (-1)) 58 (192 + 12 * b) 0, ?_, ?_, ?_⟩
      · rw [th_y hB.2.2.2.1 hV.2.2.1 hb h1, F10_lv hB.2.2.2.1 hV.2.2.1 hb, at12_7 hb, show F_X8_put_12 I (nI b) 7 (-1) = F_X8_put_12 I (nI b) (nI 7) (-1) from rfl, put12 hb (by decide), bcell hB.2.2.2.1 hb h1 (by decide)]
        simp only [Option.bind_some, ite01]
        rw [if_neg (by decide), it_p g2]
      · rw [bn_y hb (by rw [e58]; exact h1), F11_lv (q := q) (by rw [e58]; exact hV.2.2.1) hb, e58]
        simp only [Option.bind_some, ite01]
        rw [if_neg (by decide), it_p g2, show (192 : Int32) = nI 192 from rfl, show (12 : Int32) = nI 12 from rfl, nI_mul, nI_add, xas_n (by omega) (by decide), bg11_8 hb, xup_at, if_neg (by omega), e58]; rfl
      · refine h.book (xSame.of (fun k' e1 e2 => hne k' (by omega) e2) (fun _ _ => rfl)) ⟨q, ?_⟩
        refine bookB1 hb hB hV.mono (fun k _ _ e => hne k e (by omega)) (fun j hj => ?_) (fun j hj => ?_) (Or.inl ⟨?_, ?_⟩)
        · rw [xup_at, if_neg (by omega), e58]
        · rw [xup_ne (by decide), xup_at, if_neg (by omega)]
        · rw [xup_at, if_pos rfl]
        · rw [xup_ne (by decide), xup_at, if_pos rfl]
  · obtain ⟨I1, I2, r1, r2, r3, r4⟩ := ref2k h (-3) 3 (by decide) (by decide)
    refine ⟨-3, I1, I2, ?_, ?_, r3⟩
    · rw [th_n hB.2.2.2.1 g1, r1]; rfl
    · rw [bn_n (q := q) (by rw [r4 58 (by decide)]; exact hV.2.2.1) (by rw [r4 58 (by decide)]; exact g1), r2]; rfl
