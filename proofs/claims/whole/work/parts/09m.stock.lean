/-- a count changed -/
def qs (q : Nat → Nat) (i v : Nat) : Nat → Nat := fun j => if j = i then v else q j
theorem IVb.st {s : Nat → Int32} {q : Nat → Nat} {v : Nat} (h : IVb s q) (hv : q 2 ≤ v) : IVb s (qs q 2 v) := by
  intro b hb
  rcases h b hb with g | ⟨g, sl, by_, st, sh, pr, dy, ac, sta, g1, g2, g3, g4, g5, g6, g7, g8, f1, f2, f3, f4, f5⟩
  · exact Or.inl g
  · exact Or.inr ⟨g, sl, by_, st, sh, pr, dy, ac, sta, g1, g2, g3, g4, g5, g6, g7, g8, f1, f2, f3, Nat.lt_of_lt_of_le f4 hv, f5⟩
theorem IVo.st {s : Nat → Int32} {q : Nat → Nat} {v : Nat} (h : IVo s q) (hv : q 2 ≤ v) : IVo s (qs q 2 v) := by
  refine ⟨fun i hi => ?_, fun i hi => ?_⟩
  · obtain ⟨⟨g, t, k, a1, a2, a3, a4, a5, a6, a7, a8⟩, b⟩ := h.1 i hi
    exact ⟨⟨g, t, k, a1, a2, a3, a4, a5, a6, Nat.lt_of_lt_of_le a7 hv, a8⟩, b⟩
  · obtain ⟨⟨k, a1, a2⟩, b⟩ := h.2 i hi
    exact ⟨⟨k, Nat.lt_of_lt_of_le a1 hv, a2⟩, b⟩
theorem IVd.st {s : Nat → Int32} {q : Nat → Nat} {v : Nat} (h : IVd s q) (hv : q 2 ≤ v) : IVd s (qs q 2 v) := by
  refine ⟨fun i hi => ?_, h.2.1, h.2.2⟩
  obtain ⟨k, f, t, sh, a1, a2, a3, a4, a5, b⟩ := h.1 i hi
  exact ⟨k, f, t, sh, a1, a2, a3, a4, Nat.lt_of_lt_of_le a5 hv, b⟩
theorem pr_stock : xs_stock xRel := by
  intro kp n I L hn h
  obtain ⟨⟨q, hB, hV⟩, -⟩ := id h
  obtain ⟨c1, c2, c3, c4, c5, c6, c7, c8, c9⟩ := cnt hB hV
  unfold F_X10_stock F_X11_stock
  simp only [xbn_e]
  by_cases g : q 2 < 5
  · have hne : ∀ k, k ≠ 1 → k ≠ 58 → xup (xup I 1 1 (nI (q 2 + 1))) 58 2 (nI (q 2 + 1)) k = I k := fun k e1 e2 => by rw [xup_ne e2, xup_ne e1]
    have hs : ∀ j, xup (xup I 1 1 (nI (q 2 + 1))) 58 2 (nI (q 2 + 1)) 58 j = if j = 2 then nI (q 2 + 1) else I 58 j := fun j => by rw [xup_at, xup_ne (k' := 58) (by decide)]
    have hb : ∀ j, xup (xup I 1 1 (nI (q 2 + 1))) 58 2 (nI (q 2 + 1)) 1 j = if j = 1 then nI (q 2 + 1) else I 1 j := fun j => by rw [xup_ne (by decide), xup_at]
    refine ⟨nI (q 2), xup I 1 1 (nI (q 2 + 1)), xup (xup I 1 1 (nI (q 2 + 1))) 58 2 (nI (q 2 + 1)), ?_, ?_, ?_⟩
    · rw [c2, if_pos (show nI (q 2) < (5 : Int32) from nI_lt (b := 5) g (by decide)), nI_1, xup_at, if_pos rfl, nI_pred]
    · simp only [show ∀ (I : xTI), xal (R := Int32 × xTI) I 58 40670 2 = xal I 58 40670 (nI 2) from fun _ => rfl, show ∀ (I : xTI), xas (R := Int32 × xTI) I 58 40670 2 = xas I 58 40670 (nI 2) from fun _ => rfl]
      rw [xal_n (by decide) (by decide), xup_ne (k' := 58) (by decide), c4, if_neg (show ¬ nI (q 2) = (5 : Int32) from fun z => absurd ((nI_eq (b := 5) (by omega) (by decide)).mp z) (by omega)), xal_n (by decide) (by decide), xup_ne (k' := 58) (by decide), c4, nI_1, xas_n (by decide) (by decide), xal_n (by decide) (by decide), xup_at, if_pos rfl, nI_pred]
    · refine h.book (xSame.of (fun k' e1 e2 => hne k' (by omega) e2) (fun _ _ => rfl)) ⟨qs q 2 (q 2 + 1), ?_⟩
      generalize xup (xup I 1 1 (nI (q 2 + 1))) 58 2 (nI (q 2 + 1)) = I2 at hne hs hb
      have hs2 : ∀ j, 16 ≤ j → I2 58 j = I 58 j := fun j hj => by rw [hs, if_neg (by omega)]
      obtain ⟨b1, b2, b3, b4, b5, b6⟩ := hB
      obtain ⟨v1, v2, v3, v4, v5, v6, v7⟩ := hV.mono
      refine ⟨⟨?_, ?_, ?_, ?_, ?_, ?_⟩, ⟨?_, ?_, ?_, ?_, ?_, ?_, ?_⟩⟩
      · unfold BRn
        rw [hb, hb, hb, hb, hne 3 (by decide) (by decide), hne 20 (by decide) (by decide), hne 15 (by decide) (by decide), hne 22 (by decide) (by decide), hne 24 (by decide) (by decide), hne 26 (by decide) (by decide)]
        exact ⟨b1.1, b1.2.1, rfl, b1.2.2.2⟩
      · exact b2.fr c5 (hne 7 (by decide) (by decide)) (hne 8 (by decide) (by decide)) (hne 9 (by decide) (by decide)) (hne 10 (by decide) (by decide)) (hne 2 (by decide) (by decide)) (fun j e1 e2 => hs2 j e1)
      · refine ⟨b3.1, b3.2.1, fun m' hm' => ⟨(b3.2.2 m' hm').1, ?_⟩⟩
        rw [hs2 _ (by omega)]; exact (b3.2.2 m' hm').2
      · exact b4.fr (hne 13 (by decide) (by decide)) (fun j e1 e2 => hs2 j (by omega))
      · exact b5.fr v1.2.2.2.2.1 v1.2.2.2.2.2.2.1 (by have := v1.2.2.2.2.2.2.2.2.1; omega) (hne 21 (by decide) (by decide)) (hne 23 (by decide) (by decide)) (hne 25 (by decide) (by decide)) (hne 27 (by decide) (by decide)) (fun j e1 e2 => hs2 j (by omega)) (fun j e1 e2 => hs2 j (by omega))
      · exact b6.fr v1.2.2.2.2.2.1 (hne 16 (by decide) (by decide)) (hne 17 (by decide) (by decide)) (fun j e1 e2 => hs2 j (by omega))
      · refine ⟨fun i hi => ?_, v1.2.1, v1.2.2.1, g, v1.2.2.2.2⟩
        rw [hs]
        unfold qs
        by_cases e : i = 2
        · rw [if_pos e, if_pos e]
        · rw [if_neg e, if_neg e]; exact v1.1 i hi
      · obtain ⟨a1, a2, a3, a4, a5⟩ := v2.fr c5 (fun j e1 e2 => hs2 j e1) (s2 := I2 58)
        exact ⟨a1, a2, a3, fun m k hm hk z => a4 m k hm hk (z.imp id (fun z => Nat.le_of_succ_le z)), a5⟩
      · exact (v3.fr c5 (fun m' hm' => hs2 _ (by omega)) (fun j e1 e2 => hs2 j (by omega))).st (Nat.le_succ _)
      · exact (v4.fr v1.2.2.2.2.1 v1.2.2.2.2.2.2.1 c5 (fun m' hm' => hs2 _ (by omega)) (fun j e1 e2 => hs2 j (by omega))).st (Nat.le_succ _)
      · exact v5.fr (fun m' hm' => hs2 _ (by omega))
      · exact (v6.fr (by have := v1.2.2.2.2.2.2.2.2.1; omega) (fun m' hm' => hs2 _ (by omega)) (fun j e1 e2 => hs2 j (by omega))).st (Nat.le_succ _)
      · exact v7.fr v1.2.2.2.2.2.1 (fun j e1 e2 => hs2 j (by omega))
  · obtain ⟨I1, I2, r1, r2, r3, r4⟩ := ref2k h (-8) 8 (by decide) (by decide)
    have e5 : q 2 = 5 := by omega
    refine ⟨-8, I1, I2, ?_, ?_, r3⟩
    · rw [c2, e5, if_neg (by decide), r1]; rfl
    · rw [show xal (R := Int32 × xTI) I1 58 40670 2 = xal I1 58 40670 (nI 2) from rfl, xal_n (by decide) (by decide), r4 58 (by decide), c4, e5, if_pos (by decide), r2]; rfl
