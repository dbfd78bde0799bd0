section
/-! run: settling. Deliveries -/
abbrev bgc (j : Nat) : Prop := 16 ≤ j ∧ j < 64 ∧ j % 4 = 3
theorem bw_of {I0 I : xTI} {s s2 : Nat → Int32} {q : Nat → Nat} {n : Nat} (hI : BRi I0 s q) (hV : IVi s q n) (hne : ∀ k, k ≠ 1 → k ≠ 9 → k ≠ 18 → k ≠ 19 → I k = I0 k) (hn1 : ∀ j, j ≠ 12 → I 1 j = I0 1 j) (hs : ∀ j, ¬ bgc j → s2 j = s j) : BRw I s2 q := by
  obtain ⟨b1, b2, b4, b5, b6⟩ := hI
  obtain ⟨v1, v2, v3, v4, v6, v7⟩ := hV
  have c5 : q 1 ≤ 12 := v1.2.2.1
  refine ⟨⟨?_, ?_, ?_, ?_, ?_, ?_, ?_, ?_, ?_, ?_⟩, ⟨fun m hm => ?_, fun j hj => ⟨rfl, ?_⟩, fun k hk => ?_⟩, ?_, ?_, ?_⟩
  · show I 1 0 = _
    rw [hn1 0 (by decide)]; exact b1.1
  · show I 3 0 = _
    rw [hne 3 (by decide) (by decide) (by decide) (by decide)]; exact b1.2.1
  · show I 1 1 = _
    rw [hn1 1 (by decide)]; exact b1.2.2.1
  · show I 20 3 = _
    rw [hne 20 (by decide) (by decide) (by decide) (by decide)]; exact b1.2.2.2.1
  · show I 15 3 = _
    rw [hne 15 (by decide) (by decide) (by decide) (by decide)]; exact b1.2.2.2.2.1
  · show I 22 3 = _
    rw [hne 22 (by decide) (by decide) (by decide) (by decide)]; exact b1.2.2.2.2.2.1
  · show I 24 3 = _
    rw [hne 24 (by decide) (by decide) (by decide) (by decide)]; exact b1.2.2.2.2.2.2.1
  · show I 26 3 = _
    rw [hne 26 (by decide) (by decide) (by decide) (by decide)]; exact b1.2.2.2.2.2.2.2.1
  · show I 1 11 = _
    rw [hn1 11 (by decide)]; exact b1.2.2.2.2.2.2.2.2.1
  · show s2 9 = _
    rw [hs 9 (by omega)]; exact v1.1 9 (by decide)
  · show I 7 m = _ ∧ I 8 m = _
    rw [hne 7 (by decide) (by decide) (by decide) (by decide), hne 8 (by decide) (by decide) (by decide) (by decide), hs _ (by omega), hs _ (by omega)]; exact b2.1 m hm
  · show I 10 j = _
    rw [hne 10 (by decide) (by decide) (by decide) (by decide), hs _ (by omega)]; exact (b2.2.1 j hj).2
  · show I 2 k = _
    rw [hne 2 (by decide) (by decide) (by decide) (by decide), hs _ (by omega)]; exact b2.2.2 k hk
  · show BRb I s2
    exact b4.fr (hne 13 (by decide) (by decide) (by decide) (by decide)) (fun j e1 e2 => hs j (by omega))
  · show BRo I s2 q
    exact b5.fr v1.2.2.2.2.1 v1.2.2.2.2.2.2.1 (by have := v1.2.2.2.2.2.2.2.2.1; omega) (hne 21 (by decide) (by decide) (by decide) (by decide)) (hne 23 (by decide) (by decide) (by decide) (by decide)) (hne 25 (by decide) (by decide) (by decide) (by decide)) (hne 27 (by decide) (by decide) (by decide) (by decide)) (fun j e1 e2 => hs j (by omega)) (fun j e1 e2 => hs j (by omega))
  · show BRr I s2 q
    exact b6.fr v1.2.2.2.2.2.1 (hne 16 (by decide) (by decide) (by decide) (by decide)) (hne 17 (by decide) (by decide) (by decide) (by decide)) (fun j e1 e2 => hs j (by omega))
theorem iv_of {s s2 : Nat → Int32} {q : Nat → Nat} {n : Nat} (hV : IVi s q n) (hs : ∀ j, ¬ bgc j → s2 j = s j) (hb : ∀ m, m < 12 → ∃ b, b ≤ 6000 ∧ s2 (16 + 4 * m + 3) = nI b ∧ (q 1 ≤ m → b = 0)) : IVi s2 q n := by
  obtain ⟨v1, v2, v3, v4, v6, v7⟩ := hV
  have c5 : q 1 ≤ 12 := v1.2.2.1
  have hu : ∀ m, m < q 1 → s2 (16 + 4 * m) = s (16 + 4 * m) := fun m hm => hs _ (by omega)
  refine ⟨⟨fun i hi => ?_, v1.2⟩, ⟨fun m hm => ?_, fun m h1 h2 => ?_, fun j hj => ?_, fun m k h1 h2 h3 => ?_, fun k hk => ?_⟩, v3.fr c5 hu (fun j e1 e2 => hs j (by omega)), v4.fr v1.2.2.2.2.1 v1.2.2.2.2.2.2.1 c5 hu (fun j e1 e2 => hs j (by omega)), v6.fr (by have := v1.2.2.2.2.2.2.2.2.1; omega) hu (fun j e1 e2 => hs j (by omega)), v7.fr v1.2.2.2.2.2.1 (fun j e1 e2 => hs j (by omega))⟩
  · rw [hs _ (by omega)]; exact v1.1 i hi
  · obtain ⟨b, hb1, hb2, -⟩ := hb m (by omega)
    rw [hs (16 + 4 * m) (by omega), hs (16 + 4 * m + 1) (by omega), hs (16 + 4 * m + 2) (by omega)]
    exact ⟨(v2.1 m hm).1, (v2.1 m hm).2.1, b, hb1, hb2⟩
  · obtain ⟨b, hb1, hb2, hb3⟩ := hb m h2
    rw [hs (16 + 4 * m) (by omega), hb2, hb3 h1]; exact ⟨(v2.2.1 m h1 h2).1, rfl⟩
  · rw [hs _ (by omega), hs _ (by omega)]; exact v2.2.2.1 j hj
  · rw [hs _ (by omega)]; exact v2.2.2.2.1 m k h1 h2 h3
  · rw [hs _ (by omega)]; exact v2.2.2.2.2 k hk
/-- after i deliveries -/
def dSt (Ia I : xTI) (La L : xTL) (Ja J : xTI) (Ma M : xTL) (q : Nat → Nat) (H : Nat) (ex rf : Nat → Nat → Nat) (mk : Nat → Nat) (B i : Nat) : Prop := (∀ k, k ≠ 9 → k ≠ 18 → k ≠ 19 → I k = Ia k) ∧ (∀ k, k ≠ 42 → k ≠ 28 → L k = La k) ∧ (∀ j, ¬ bgc j → J 58 j = Ja 58 j) ∧ (∀ k j, k ≠ 58 → k ≠ 62 → k ≠ 76 → ¬ (k = 57 ∧ 7 ≤ j ∧ j ≤ 19) → J k j = Ja k j) ∧ (∀ k, k ≠ 57 → k ≠ 70 → k ≠ 71 → M k = Ma k) ∧ (∀ j, j < 60 → ∃ h, h ≤ H ∧ (Ja 58 (64 + j) = 0 → h = 0) ∧ J 76 j = nI h ∧ I 9 j = nI (h + rcv (Ja 58) i j)) ∧ (∀ m, m < 12 → ∃ b, b ≤ dvS (Ja 58) i ∧ J 58 (16 + 4 * m + 3) = nI b ∧ L 28 (5 * m + 4) = lN b ∧ (q 1 ≤ m → b = 0)) ∧ (∀ m t, m < 12 → t < 4 → L 28 (5 * m + t) = 0) ∧ OWs L M (Ja 58) q ex rf mk (B + 219978 * dvS (Ja 58) i)
end
