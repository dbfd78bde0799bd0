/-- all that xRel reads beside the Book and s, c is the same -/
def xSame (I I2 : xTI) (L L2 : xTL) : Prop := I2 0 8 = I 0 8 ∧ I2 29 0 = I 29 0 ∧ I2 30 = I 30 ∧ I2 55 = I 55 ∧ I2 56 = I 56 ∧ I2 57 5 = I 57 5 ∧ I2 57 44 = I 57 44 ∧ I2 57 46 = I 57 46 ∧ I2 57 47 = I 57 47 ∧ I2 60 = I 60 ∧ I2 61 = I 61 ∧ I2 84 = I 84 ∧ I2 86 = I 86 ∧ L2 85 = L 85 ∧ (∀ k, 87 ≤ k → I2 k = I k) ∧ (∀ k, 87 ≤ k → L2 k = L k)
theorem xRel.book {kp : Bool} {n : Nat} {I I2 : xTI} {L L2 : xTL} (h : xRel kp n I L) (hs : xSame I I2 L L2) (hb : ∃ q, BR I2 L2 (I2 58) (L2 59) q ∧ IV (I2 58) (L2 59) q (n + 1)) : xRel kp (n + 1) I2 L2 := by
  obtain ⟨-, h3, h4, h5, h6⟩ := pr_mono _ _ _ _ h
  obtain ⟨e1, e2, e3, e4, e5, e6, e7, e8, e9, e10, e11, e12, e13, e14, e15, e16⟩ := hs
  refine ⟨hb, h3.frame e2 e6 e3 e11, h4.frame e9 e8 e1 e4 e13, ?_, h6.frame e7 e12 e14 (fun k a _ => e15 k a) (fun k a _ => e16 k a)⟩
  intro i a b
  rw [e5, e10]
  exact h5 i a b
/-- same cells but for the Book's and the reference's -/
theorem xSame.of {I I2 : xTI} {L L2 : xTL} (hI : ∀ k, (k = 0 ∨ 29 ≤ k) → k ≠ 58 → I2 k = I k) (hL : ∀ k, 60 ≤ k → L2 k = L k) : xSame I I2 L L2 := by
  refine ⟨?_, ?_, hI 30 (by decide) (by decide), hI 55 (by decide) (by decide), hI 56 (by decide) (by decide), ?_, ?_, ?_, ?_, hI 60 (by decide) (by decide), hI 61 (by decide) (by decide), hI 84 (by decide) (by decide), hI 86 (by decide) (by decide), hL 85 (by decide), fun k h => hI k (by omega) (by omega), fun k h => hL k (by omega)⟩
  · rw [hI 0 (by decide) (by decide)]
  · rw [hI 29 (by decide) (by decide)]
  · rw [hI 57 (by decide) (by decide)]
  · rw [hI 57 (by decide) (by decide)]
  · rw [hI 57 (by decide) (by decide)]
  · rw [hI 57 (by decide) (by decide)]
/-! IMAGES. s and c are read below 40670 and 216 alone. -/
theorem RefR.ext {t t2 : Nat → Int32} {sz : Nat} {cs1 cs2 : List Int32} (h : RefR t sz cs1 cs2) (ht : ∀ i, i < sz → t2 i = t i) : RefR t2 sz cs1 cs2 := by
  intro I L nm k b h1 h2 h3
  exact h I L nm k b h1 h2 (fun i hi => by rw [h3 i hi, ht i hi])
theorem RuleOK.ext {t t2 : Nat → Int32} {sz : Nat} {key : Int32} {cd cd2 : Nat → Int32} {ve ie : Nat} (h : RuleOK t sz key cd ve ie) (ht : ∀ i, i < 120 → t2 i = t i) (hc : ∀ i, i < 120 → cd2 i = cd i) : RuleOK t2 sz key cd2 ve ie := by
  obtain ⟨h1, h2, cs1, cs2, h3, h4, h5, h6⟩ := h
  exact ⟨h1, h2, cs1, cs2, h3, h4, fun i hi => by rw [hc i (by omega)]; exact h5 i hi, h6.ext (fun i hi => ht i (by omega))⟩
theorem BRm.fr {I I2 : xTI} {s s2 : Nat → Int32} {q : Nat → Nat} (h : BRm I s q) (hq : q 1 ≤ 12) (h7 : I2 7 = I 7) (h8 : I2 8 = I 8) (h9 : I2 9 = I 9) (h10 : I2 10 = I 10) (h2 : I2 2 = I 2) (hs : ∀ j, 16 ≤ j → j < 192 → s2 j = s j) : BRm I2 s2 q := by
  unfold BRm
  rw [h7, h8, h9, h10, h2]
  refine ⟨fun m hm => ?_, fun j hj => ?_, fun k hk => ?_⟩
  · rw [hs _ (by omega) (by omega), hs _ (by omega) (by omega)]; exact h.1 m hm
  · rw [hs _ (by omega) (by omega), hs _ (by omega) (by omega)]; exact h.2.1 j hj
  · rw [hs _ (by omega) (by omega)]; exact h.2.2 k hk
theorem BRb.fr {I I2 : xTI} {s s2 : Nat → Int32} (h : BRb I s) (h13 : I2 13 = I 13) (hs : ∀ j, 192 ≤ j → j < 912 → s2 j = s j) : BRb I2 s2 := by
  intro b hb
  rw [h13, hs _ (by omega) (by omega)]
  rcases h b hb with g | ⟨g1, g2⟩
  · exact Or.inl g
  · exact Or.inr ⟨g1, fun t ht => by rw [hs _ (by omega) (by omega)]; exact g2 t ht⟩
theorem BRo.fr {I I2 : xTI} {s s2 : Nat → Int32} {q : Nat → Nat} (h : BRo I s q) (hq3 : q 3 ≤ 20) (hq5 : q 5 ≤ 10) (hq7 : q 7 ≤ 6000) (h21 : I2 21 = I 21) (h23 : I2 23 = I 23) (h25 : I2 25 = I 25) (h27 : I2 27 = I 27) (hs : ∀ j, 912 ≤ j → j < 1082 → s2 j = s j) (hs2 : ∀ j, 2570 ≤ j → j < 40670 → s2 j = s j) : BRo I2 s2 q := by
  unfold BRo
  rw [h21, h23, h25, h27]
  refine ⟨fun i hi t ht => ?_, fun i hi t ht => ?_, fun i hi h3 t ht => ?_, fun i hi t ht => ?_⟩
  · rw [hs _ (by omega) (by omega)]; exact h.1 i hi t ht
  · rw [hs _ (by omega) (by omega)]; exact h.2.1 i hi t ht
  · rw [hs2 _ (by omega) (by omega)]; exact h.2.2.1 i hi h3 t ht
  · rw [hs2 _ (by omega) (by omega)]; exact h.2.2.2 i hi t ht
theorem BRr.fr {I I2 : xTI} {s s2 : Nat → Int32} {q : Nat → Nat} (h : BRr I s q) (hq4 : q 4 ≤ 12) (h16 : I2 16 = I 16) (h17 : I2 17 = I 17) (hs : ∀ j, 1082 ≤ j → j < 2570 → s2 j = s j) : BRr I2 s2 q := by
  intro r hr
  obtain ⟨a1, a2, a3, sz, ve, ie, b1, b2, b3, b4⟩ := h r hr
  rw [h16, h17, hs _ (by omega) (by omega), hs _ (by omega) (by omega), hs _ (by omega) (by omega)]
  exact ⟨a1, a2, a3, sz, ve, ie, by rw [hs _ (by omega) (by omega)]; exact b1, b2, b3, b4.ext (fun i hi => hs _ (by omega) (by omega)) (fun i hi => rfl)⟩
theorem IVm.fr {s s2 : Nat → Int32} {q : Nat → Nat} {n : Nat} (h : IVm s q n) (hq : q 1 ≤ 12) (hs : ∀ j, 16 ≤ j → j < 192 → s2 j = s j) : IVm s2 q n := by
  obtain ⟨a1, a2, a3, a4, a5⟩ := h
  refine ⟨fun m hm => ?_, fun m hm h12 => ?_, fun j hj => ?_, fun m k hm hk h => ?_, fun k hk => ?_⟩
  · rw [hs _ (by omega) (by omega), hs _ (by omega) (by omega), hs _ (by omega) (by omega), hs _ (by omega) (by omega)]; exact a1 m hm
  · rw [hs _ (by omega) (by omega), hs _ (by omega) (by omega)]; exact a2 m hm h12
  · rw [hs _ (by omega) (by omega), hs _ (by omega) (by omega)]; exact a3 j hj
  · rw [hs _ (by omega) (by omega)]; exact a4 m k hm hk h
  · rw [hs _ (by omega) (by omega)]; exact a5 k hk
theorem IVbg.fr {s s2 : Nat → Int32} {q : Nat → Nat} {b : Nat} (h : IVbg s q b) (hb : b < 60) (hq : q 1 ≤ 12) (hu : ∀ m, m < q 1 → s2 (16 + 4 * m) = s (16 + 4 * m)) (hs : ∀ j, 192 ≤ j → j < 912 → s2 j = s j) : IVbg s2 q b := by
  obtain ⟨sl, by_, st, sh, pr, dy, ac, sta, g1, g2, g3, g4, g5, g6, g7, g8, f1, f2, f3, f4, f5, f6, f7, f8, f9, f10, f11, f12, m1, m2, m3, m4, m5, m6⟩ := h
  refine ⟨sl, by_, st, sh, pr, dy, ac, sta, ?_⟩
  unfold isUpP at *
  rw [hs (192 + 12 * b + 1) (by omega) (by omega), hs (192 + 12 * b + 2) (by omega) (by omega), hs (192 + 12 * b + 3) (by omega) (by omega), hs (192 + 12 * b + 4) (by omega) (by omega), hs (192 + 12 * b + 5) (by omega) (by omega), hs (192 + 12 * b + 6) (by omega) (by omega), hs (192 + 12 * b + 7) (by omega) (by omega), hs (192 + 12 * b + 8) (by omega) (by omega), hs (192 + 12 * b + 9) (by omega) (by omega), hs (192 + 12 * b + 10) (by omega) (by omega), hs (192 + 12 * b + 11) (by omega) (by omega), hu sl f1, hu by_ f2]
  exact ⟨g1, g2, g3, g4, g5, g6, g7, g8, f1, f2, f3, f4, f5, f6, f7, f8, f9, f10, f11, f12, m1, m2, m3, m4, m5, m6⟩
theorem IVb.fr {s s2 : Nat → Int32} {q : Nat → Nat} (h : IVb s q) (hq : q 1 ≤ 12) (hu : ∀ m, m < q 1 → s2 (16 + 4 * m) = s (16 + 4 * m)) (hs : ∀ j, 192 ≤ j → j < 912 → s2 j = s j) : IVb s2 q := by
  intro b hb
  rw [hs _ (by omega) (by omega)]
  rcases h b hb with g | ⟨g1, g2⟩
  · exact Or.inl g
  · exact Or.inr ⟨g1, g2.fr hb hq hu hs⟩
theorem IVo.fr {s s2 : Nat → Int32} {q : Nat → Nat} (h : IVo s q) (hq3 : q 3 ≤ 20) (hq5 : q 5 ≤ 10) (hq : q 1 ≤ 12) (hu : ∀ m, m < q 1 → s2 (16 + 4 * m) = s (16 + 4 * m)) (hs : ∀ j, 912 ≤ j → j < 1082 → s2 j = s j) : IVo s2 q := by
  refine ⟨fun i hi => ?_, fun i hi => ?_⟩
  · obtain ⟨⟨g, t, k, a1, a2, a3, a4, a5, a6, a7, a12⟩, a8, a9, a10, a11⟩ := h.1 i hi
    rw [hs (912 + 7 * i) (by omega) (by omega), hs (912 + 7 * i + 1) (by omega) (by omega), hs (912 + 7 * i + 2) (by omega) (by omega), hs (912 + 7 * i + 3) (by omega) (by omega), hs (912 + 7 * i + 4) (by omega) (by omega), hs (912 + 7 * i + 5) (by omega) (by omega), hs (912 + 7 * i + 6) (by omega) (by omega)]
    refine ⟨⟨g, t, k, a1, a2, a3, a4, a5, a6, a7, fun e => ?_⟩, a8, a9, a10, a11⟩
    unfold isUpP at *
    rw [hu g a4, hu t a5]
    exact a12 e
  · rw [hs (1052 + 3 * i) (by omega) (by omega), hs (1052 + 3 * i + 1) (by omega) (by omega), hs (1052 + 3 * i + 2) (by omega) (by omega)]
    exact h.2 i hi
theorem IVc.fr {c : Nat → Int64} {s s2 : Nat → Int32} {q : Nat → Nat} {n : Nat} (h : IVc c s q n) (hu : ∀ m, m < q 1 → s2 (16 + 4 * m) = s (16 + 4 * m)) : IVc c s2 q n := by
  refine ⟨h.1, fun a b ha hb => ⟨(h.2.1 a b ha hb).1, (h.2.1 a b ha hb).2.1, fun g => (h.2.1 a b ha hb).2.2 ?_⟩, h.2.2⟩
  rcases g with g | g | g | g | g
  · exact Or.inl g
  · exact Or.inr (Or.inl g)
  · exact Or.inr (Or.inr (Or.inl g))
  · by_cases e : q 1 ≤ a
    · exact Or.inr (Or.inl e)
    · exact Or.inr (Or.inr (Or.inr (Or.inl (by unfold isUpP at *; rw [← hu a (by omega)]; exact g))))
  · by_cases e : q 1 ≤ b
    · exact Or.inr (Or.inr (Or.inl e))
    · exact Or.inr (Or.inr (Or.inr (Or.inr (by unfold isUpP at *; rw [← hu b (by omega)]; exact g))))
theorem IVd.fr {s s2 : Nat → Int32} {q : Nat → Nat} (h : IVd s q) (hq7 : q 7 ≤ 6000) (hu : ∀ m, m < q 1 → s2 (16 + 4 * m) = s (16 + 4 * m)) (hs : ∀ j, 4670 ≤ j → j < 40670 → s2 j = s j) : IVd s2 q := by
  have hdv : ∀ n, n ≤ 6000 → dvS s2 n = dvS s n := by
    intro n
    induction n with
    | zero => intro _; rfl
    | succ n ih =>
      intro hn
      show dvS s2 n + (s2 (4670 + 6 * n + 3)).toNatClampNeg = dvS s n + (s (4670 + 6 * n + 3)).toNatClampNeg
      rw [ih (by omega), hs _ (by omega) (by omega)]
  refine ⟨fun i hi => ?_, by rw [hdv _ hq7]; exact h.2.1, fun i j hi hj => ?_⟩
  · obtain ⟨k, f, t, sh, a1, a2, a3, a4, a5, a6, a7, a8, a9, a10, a11, a12⟩ := h.1 i hi
    refine ⟨k, f, t, sh, ?_⟩
    unfold isUpP at *
    rw [hs (4670 + 6 * i) (by omega) (by omega), hs (4670 + 6 * i + 1) (by omega) (by omega), hs (4670 + 6 * i + 2) (by omega) (by omega), hs (4670 + 6 * i + 3) (by omega) (by omega), hs (4670 + 6 * i + 5) (by omega) (by omega), hu f a6, hu t a7]
    exact ⟨a1, a2, a3, a4, a5, a6, a7, a8, a9, a10, a11.imp id (fun ⟨m, h1, h2, h3⟩ => ⟨m, h1, h2, fun e => by rw [hu m h1]; exact h3 e⟩), a12⟩
  · rw [hs (4670 + 6 * i) (by omega) (by omega), hs (4670 + 6 * j) (by omega) (by omega), hs (4670 + 6 * i + 1) (by omega) (by omega), hs (4670 + 6 * j + 2) (by omega) (by omega)]
    exact h.2.2 i j hi hj
theorem IVr.fr {s s2 : Nat → Int32} {q : Nat → Nat} (h : IVr s q) (hq4 : q 4 ≤ 12) (hs : ∀ j, 1082 ≤ j → j < 2570 → s2 j = s j) : IVr s2 q := by
  intro r hr
  rw [hs _ (by omega) (by omega), hs _ (by omega) (by omega), hs _ (by omega) (by omega), hs _ (by omega) (by omega)]
  exact h r hr
