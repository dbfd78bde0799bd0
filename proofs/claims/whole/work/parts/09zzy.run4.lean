section
/-! run: the dividends' table -/
theorem bkD {I I2 : xTI} {s s2 : Nat → Int32} {q : Nat → Nat} {n w : Nat} (hI : BRi I s q) (hV : IVi s q n) (hw : w ≤ 10) (hne : ∀ k, 1 ≤ k → k ≤ 28 → k ≠ 22 → k ≠ 23 → k ≠ 18 → k ≠ 19 → I2 k = I k) (h22 : I2 22 3 = nI w) (h5 : s2 5 = nI w) (hs : ∀ j, j ≠ 5 → (j < 1052 ∨ 1082 ≤ j) → s2 j = s j) (hr : ∀ i, i < w → ∃ i', i' < q 5 ∧ ∀ t, t < 3 → I2 23 (3 * i + t) = I 23 (3 * i' + t) ∧ s2 (1052 + 3 * i + t) = s (1052 + 3 * i' + t)) : BRi I2 s2 (qs q 5 w) ∧ IVi s2 (qs q 5 w) n := by
  obtain ⟨b1, b2, b4, b5, b6⟩ := hI
  obtain ⟨v1, v2, v3, v4, v6, v7⟩ := hV
  have c5 : q 1 ≤ 12 := v1.2.2.1
  have hu : ∀ m, m < q 1 → s2 (16 + 4 * m) = s (16 + 4 * m) := fun m hm => hs _ (by omega) (by omega)
  refine ⟨⟨?_, ?_, ?_, ⟨?_, ?_, ?_, ?_⟩, ?_⟩, ⟨?_, ?_, ?_, ⟨?_, ?_⟩, ?_, ?_⟩⟩
  · unfold BRn
    rw [hne 1 (by decide) (by decide) (by decide) (by decide) (by decide) (by decide), hne 3 (by decide) (by decide) (by decide) (by decide) (by decide) (by decide), hne 20 (by decide) (by decide) (by decide) (by decide) (by decide) (by decide), hne 15 (by decide) (by decide) (by decide) (by decide) (by decide) (by decide), h22, hne 24 (by decide) (by decide) (by decide) (by decide) (by decide) (by decide), hne 26 (by decide) (by decide) (by decide) (by decide) (by decide) (by decide)]
    exact ⟨b1.1, b1.2.1, b1.2.2.1, b1.2.2.2.1, b1.2.2.2.2.1, rfl, b1.2.2.2.2.2.2⟩
  · exact b2.fr c5 (hne 7 (by decide) (by decide) (by decide) (by decide) (by decide) (by decide)) (hne 8 (by decide) (by decide) (by decide) (by decide) (by decide) (by decide)) (hne 9 (by decide) (by decide) (by decide) (by decide) (by decide) (by decide)) (hne 10 (by decide) (by decide) (by decide) (by decide) (by decide) (by decide)) (hne 2 (by decide) (by decide) (by decide) (by decide) (by decide) (by decide)) (fun j e1 e2 => hs j (by omega) (by omega))
  · exact b4.fr (hne 13 (by decide) (by decide) (by decide) (by decide) (by decide) (by decide)) (fun j e1 e2 => hs j (by omega) (by omega))
  · intro i hi t ht
    have hi' : i < q 3 := hi
    have q3 := v1.2.2.2.2.1
    rw [hne 21 (by decide) (by decide) (by decide) (by decide) (by decide) (by decide), hs _ (by omega) (by omega)]; exact b5.1 i hi t ht
  · intro i hi t ht
    have hi' : i < w := hi
    obtain ⟨i', g1, g2⟩ := hr i hi'
    rw [(g2 t ht).1, (g2 t ht).2]; exact b5.2.1 i' g1 t ht
  · intro i hi h3 t ht
    rw [hne 25 (by decide) (by decide) (by decide) (by decide) (by decide) (by decide), hs _ (by omega) (by omega)]; exact b5.2.2.1 i hi h3 t ht
  · intro i hi t ht
    rw [hne 27 (by decide) (by decide) (by decide) (by decide) (by decide) (by decide), hs _ (by omega) (by omega)]; exact b5.2.2.2 i hi t ht
  · exact b6.fr v1.2.2.2.2.2.1 (hne 16 (by decide) (by decide) (by decide) (by decide) (by decide) (by decide)) (hne 17 (by decide) (by decide) (by decide) (by decide) (by decide) (by decide)) (fun j e1 e2 => hs j (by omega) (by omega))
  · refine ⟨fun i hi => ?_, v1.2.1, v1.2.2.1, v1.2.2.2.1, v1.2.2.2.2.1, v1.2.2.2.2.2.1, hw, v1.2.2.2.2.2.2.2⟩
    by_cases e : i = 5
    · subst e; rw [h5]; rfl
    · rw [hs i e (by omega), v1.1 i hi]
      unfold qs; rw [if_neg e]
  · exact v2.fr c5 (fun j e1 e2 => hs j (by omega) (by omega))
  · exact v3.fr c5 hu (fun j e1 e2 => hs j (by omega) (by omega))
  · intro i hi
    have hi' : i < q 3 := hi
    have q3 := v1.2.2.2.2.1
    have ht : ∀ t, t < 7 → s2 (912 + 7 * i + t) = s (912 + 7 * i + t) := fun t ht => hs _ (by omega) (by omega)
    have ht0 : s2 (912 + 7 * i) = s (912 + 7 * i) := ht 0 (by decide)
    obtain ⟨⟨g, t, k, a1, a2, a3, a4, a5, a6, a7, a8⟩, a9⟩ := v4.1 i hi'
    rw [ht0, ht 1 (by decide), ht 2 (by decide), ht 3 (by decide), ht 4 (by decide), ht 5 (by decide), ht 6 (by decide)]
    refine ⟨⟨g, t, k, a1, a2, a3, a4, a5, a6, a7, fun z => ?_⟩, a9⟩
    unfold isUpP
    rw [hu g a4, hu t a5]; exact a8 z
  · intro i hi
    have hi' : i < w := hi
    obtain ⟨i', g1, g2⟩ := hr i hi'
    have r0 := (g2 0 (by decide)).2
    have r1 := (g2 1 (by decide)).2
    have r2 := (g2 2 (by decide)).2
    rw [Nat.add_zero, Nat.add_zero] at r0
    rw [r0, r1, r2]; exact v4.2 i' g1
  · exact v6.fr (by have := v1.2.2.2.2.2.2.2.2.1; omega) hu (fun j e1 e2 => hs j (by omega) (by omega))
  · exact v7.fr v1.2.2.2.2.2.1 (fun j e1 e2 => hs j (by omega) (by omega))
theorem qs_self (q : Nat → Nat) (i : Nat) : qs q i (q i) = q := by
  funext j; unfold qs; split
  · rename_i h; rw [h]
  · rfl
theorem CE.fr {c : Nat → Int64} {s s2 : Nat → Int32} {q : Nat → Nat} {C E : Nat} (h : CE c s q C E) (hu : ∀ m, m < q 1 → s2 (16 + 4 * m) = s (16 + 4 * m)) : CE c s2 q C E := by
  refine ⟨h.1, fun a b ha hb => ⟨(h.2.1 a b ha hb).1, fun z => (h.2.1 a b ha hb).2 ?_⟩, h.2.2⟩
  by_cases ea : q 1 ≤ a
  · exact Or.inr (Or.inl ea)
  · by_cases eb : q 1 ≤ b
    · exact Or.inr (Or.inr (Or.inl eb))
    · unfold isUpP at z ⊢
      rw [hu a (by omega), hu b (by omega)] at z
      exact z
theorem BRc.fr {L : xTL} {c : Nat → Int64} {s s2 : Nat → Int32} (h : BRc L s c) (hu : ∀ m, m < 12 → s2 (16 + 4 * m + 3) = s (16 + 4 * m + 3)) : BRc L s2 c := by
  refine ⟨h.1, h.2.1, fun m hm => ⟨(h.2.2 m hm).1, ?_⟩⟩
  rw [hu m hm]; exact (h.2.2 m hm).2
theorem at22 {I : xTI} {b t : Nat} (hb : b < 10) (ht : t < 3) : F_X8_at_22 I (nI b) (nI t) = some (I 23 (3 * b + t)) := by
  unfold F_X8_at_22 F_X8_at_22_j29
  rw [if_neg (nI_pos (by omega)), if_neg (show ¬ (10 : Int32) ≤ nI b from nI_ge (b := 10) hb (by decide)), if_neg (nI_pos (by omega)), if_neg (show ¬ (3 : Int32) ≤ nI t from nI_ge (b := 3) ht (by decide)), if_neg (by decide), show (3 : Int32) = nI 3 from rfl, nI_mul, nI_add, xal_n (by omega) (by decide), Nat.mul_comm b 3]
theorem at22_l {I : xTI} {b : Nat} (hb : b < 10) : F_X8_at_22 I (nI b) 0 = some (I 23 (3 * b + 0)) ∧ F_X8_at_22 I (nI b) 1 = some (I 23 (3 * b + 1)) ∧ F_X8_at_22 I (nI b) 2 = some (I 23 (3 * b + 2)) := ⟨at22 (t := 0) hb (by decide), at22 (t := 1) hb (by decide), at22 (t := 2) hb (by decide)⟩
end
