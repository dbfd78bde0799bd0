section
/-! run: options end, the day ends -/
/-- what holds whether or not those who deliver are still up -/
def IVj (s : Nat → Int32) (q : Nat → Nat) (n : Nat) : Prop := IVn s q ∧ IVm s q n ∧ IVb s q ∧ IVo s q ∧ IVr s q
def RSu (I : xTI) (L : xTL) (J : xTI) (M : xTL) (q : Nat → Nat) (n H C E : Nat) : Prop := BRi I (J 58) q ∧ IVj (J 58) q n ∧ Hb (J 58) H ∧ BRc L (J 58) (M 59) ∧ CE (M 59) (J 58) q C E
theorem RSt.u {I : xTI} {L : xTL} {J : xTI} {M : xTL} {q : Nat → Nat} {n H C E : Nat} (h : RSt I L J M q n H C E) : RSu I L J M q n H C E := ⟨h.1, ⟨h.2.1.1, h.2.1.2.1, h.2.1.2.2.1, h.2.1.2.2.2.1, h.2.1.2.2.2.2.2⟩, h.2.2⟩
theorem bkO {I : xTI} {s s2 : Nat → Int32} {q : Nat → Nat} {n i : Nat} (hI : BRi I s q) (hV : IVj s q n) (hi : i < q 3) (hs : ∀ j, s2 j = if j = 912 + 7 * i + 6 then 2 else s j) : BRi (xup I 21 (7 * i + 6) 2) s2 q ∧ IVj s2 q n := by
  obtain ⟨b1, b2, b4, b5, b6⟩ := hI
  obtain ⟨v1, v2, v3, v4, v7⟩ := hV
  have c5 : q 1 ≤ 12 := v1.2.2.1
  have q3 := v1.2.2.2.2.1
  have hne : ∀ k, k ≠ 21 → xup I 21 (7 * i + 6) 2 k = I k := fun k h => xup_ne h
  have ho : ∀ j, (j < 912 ∨ 1052 ≤ j) → s2 j = s j := fun j hj => by rw [hs, if_neg (by omega)]
  have hu : ∀ m, m < q 1 → s2 (16 + 4 * m) = s (16 + 4 * m) := fun m hm => ho _ (by omega)
  refine ⟨⟨b1, ?_, ?_, ⟨fun i' hi' t ht => ?_, fun i' hi' t ht => ?_, fun i' hi' h3 t ht => ?_, fun i' hi' t ht => ?_⟩, ?_⟩, ⟨⟨fun i hi => ?_, v1.2⟩, ?_, ?_, ⟨fun i' hi' => ?_, fun i' hi' => ?_⟩, ?_⟩⟩
  · exact b2.fr c5 (hne 7 (by decide)) (hne 8 (by decide)) (hne 9 (by decide)) (hne 10 (by decide)) (hne 2 (by decide)) (fun j e1 e2 => ho j (by omega))
  · exact b4.fr (hne 13 (by decide)) (fun j e1 e2 => ho j (by omega))
  · rw [xup_at, hs]
    by_cases e : i' = i ∧ t = 6
    · rw [if_pos (by omega), if_pos (by omega)]
    · rw [if_neg (by omega), if_neg (by omega)]; exact b5.1 i' hi' t ht
  · rw [hne 23 (by decide), ho _ (by omega)]; exact b5.2.1 i' hi' t ht
  · rw [hne 25 (by decide), ho _ (by omega)]; exact b5.2.2.1 i' hi' h3 t ht
  · rw [hne 27 (by decide), ho _ (by omega)]; exact b5.2.2.2 i' hi' t ht
  · exact b6.fr v1.2.2.2.2.2.1 (hne 16 (by decide)) (hne 17 (by decide)) (fun j e1 e2 => ho j (by omega))
  · rw [ho _ (by omega)]; exact v1.1 i hi
  · exact v2.fr c5 (fun j e1 e2 => ho j (by omega))
  · exact v3.fr c5 hu (fun j e1 e2 => ho j (by omega))
  · obtain ⟨⟨g, t, k, a1, a2, a3, a4, a5, a6, a7, a8⟩, a9, a10, a11, a12⟩ := v4.1 i' hi'
    have ht : ∀ t, t < 6 → s2 (912 + 7 * i' + t) = s (912 + 7 * i' + t) := fun t ht => by rw [hs, if_neg (by omega)]
    have ht0 : s2 (912 + 7 * i') = s (912 + 7 * i') := ht 0 (by decide)
    rw [ht0, ht 1 (by decide), ht 2 (by decide), ht 3 (by decide), ht 4 (by decide), ht 5 (by decide), hs (912 + 7 * i' + 6)]
    by_cases e : i' = i
    · rw [if_pos (by omega)]
      exact ⟨⟨g, t, k, a1, a2, a3, a4, a5, a6, a7, fun z => absurd z (by decide)⟩, a9, a10, a11, 2, by decide, rfl⟩
    · rw [if_neg (by omega)]
      refine ⟨⟨g, t, k, a1, a2, a3, a4, a5, a6, a7, fun z => ?_⟩, a9, a10, a11, a12⟩
      unfold isUpP
      rw [hu g a4, hu t a5]; exact a8 z
  · rw [ho _ (by omega), ho _ (by omega), ho _ (by omega)]; exact v4.2 i' hi'
  · exact v7.fr v1.2.2.2.2.2.1 (fun j e1 e2 => ho j (by omega))
/-- where the reference goes on when the options are over -/
def clZ (J : xTI) (M : xTL) : Option (xTI × xTL) := some (xup J 58 0 (J 58 0 + 1), M)
theorem ends_sim {I : xTI} {L : xTL} {J : xTI} {M : xTL} {q : Nat → Nat} {n H C E : Nat} (hS : RSu I L J M q n H C E) (hd : IVd (J 58) (qs q 0 (q 0 + 1))) : ∃ I2 J2, F_X2_endOptions xN I = some I2 ∧ xlp (F_X11_close_b303 xN M (nI (q 0))) xN (0, J) = clZ J2 M ∧ RSu I2 L J2 M q n H C E ∧ IVd (J2 58) (qs q 0 (q 0 + 1)) ∧ RFc I I2 L L ∧ RFm J J2 M M := by
  have q3 := hS.2.1.1.2.2.2.2.1
  have c9 := hS.2.1.1.2.1
  unfold F_X2_endOptions
  refine xlp_sim (P := fun i x y => x.1 = nI i ∧ y.1 = nI i ∧ RSu x.2 L y.2 M q n H C E ∧ IVd (y.2 58) (qs q 0 (q 0 + 1)) ∧ RFc I x.2 L L ∧ RFm J y.2 M M) (q 3) (fun r1 r2 => ∃ (I2 J2 : xTI), r1 = some I2 ∧ r2 = clZ J2 M ∧ RSu I2 L J2 M q n H C E ∧ IVd (J2 58) (qs q 0 (q 0 + 1)) ∧ RFc I I2 L L ∧ RFm J J2 M M) ?_ ?_ xN xN (by show q 3 < 100000; omega) (by show q 3 < 100000; omega) (0, I) (0, J) ⟨rfl, rfl, hS, hd, RFc.rfl' _ _, RFm.rfl' _ _⟩
  · rintro i hi ⟨x, I'⟩ ⟨y, J'⟩ ⟨e1, e2, hR, hd', hf, hg⟩
    dsimp only at e1 e2 hR hd' hf hg
    subst e1 e2
    obtain ⟨hI, hV, hH, hc, hC⟩ := id hR
    have hi20 : i < 20 := by omega
    have a6 : F_X8_at_20 I' (nI i) 6 = some (J' 58 (912 + 7 * i + 6)) := by rw [← hI.2.2.2.1.1 i hi 6 (by decide)]; exact at20 (t := 6) hi20 (by decide)
    have a5 : F_X8_at_20 I' (nI i) 5 = some (J' 58 (912 + 7 * i + 5)) := by rw [← hI.2.2.2.1.1 i hi 5 (by decide)]; exact at20 (t := 5) hi20 (by decide)
    have b6 : F_X11_op J' (nI i) 6 = some (J' 58 (912 + 7 * i + 6)) := op11 (t := 6) hi20 (by decide)
    have b5 : F_X11_op J' (nI i) 5 = some (J' 58 (912 + 7 * i + 5)) := op11 (t := 5) hi20 (by decide)
    have p6 : F_X8_put_20 I' (nI i) 6 2 = some (xup I' 21 (7 * i + 6) 2) := put20 (t := 6) hi20 (by decide)
    have u : ∀ K, F_X2_endOptions_b7 xN (nI i, I') K = (if J' 58 (912 + 7 * i + 6) = 0 then (if J' 58 (912 + 7 * i + 5) = nI (q 0) then K (nI (i + 1), xup I' 21 (7 * i + 6) 2) else K (nI (i + 1), I')) else K (nI (i + 1), I')) := by
      intro K
      show F_X2_endOptions_c7 xN (nI i) I' K = _
      unfold F_X2_endOptions_c7 F_X2_endOptions_j43
      rw [xbn_e, hI.1.2.2.2.1, if_neg (nI_ge hi (by omega)), a6, a5, p6]
      simp only [Option.bind_some, xbn_e, nI_1, hI.1.1]; rfl
    have w : ∀ K, F_X11_close_b303 xN M (nI (q 0)) (nI i, J') K = (if J' 58 (912 + 7 * i + 6) = 0 then (if J' 58 (912 + 7 * i + 5) = nI (q 0) then K (nI (i + 1), xup J' 58 (912 + 7 * i + 6) 2) else K (nI (i + 1), J')) else K (nI (i + 1), J')) := by
      intro K
      show F_X11_close_c303 xN M (nI (q 0)) (nI i) J' K = _
      unfold F_X11_close_c303
      rw [s58_3, hV.1.1 3 (by decide), if_neg (nI_ge hi (by omega)), b6, b5, xas_i (i := 912 + 7 * i + 6) (by rw [show (912 : Int32) = nI 912 from rfl, show (7 : Int32) = nI 7 from rfl, show (6 : Int32) = nI 6 from rfl, ixc]) (by omega) (by decide)]
      simp only [Option.bind_some, xbn_e, nI_1]
    by_cases e6 : J' 58 (912 + 7 * i + 6) = 0
    · by_cases e5 : J' 58 (912 + 7 * i + 5) = nI (q 0)
      · have hs : ∀ j, xup J' 58 (912 + 7 * i + 6) 2 58 j = if j = 912 + 7 * i + 6 then 2 else J' 58 j := fun j => xup_at
        have X := bkO hI hV hi hs
        refine ⟨(nI (i + 1), xup I' 21 (7 * i + 6) 2), (nI (i + 1), xup J' 58 (912 + 7 * i + 6) 2), fun K => by rw [u, if_pos e6, if_pos e5], fun K => by rw [w, if_pos e6, if_pos e5], rfl, rfl, ?_, ?_, ?_, ?_⟩
        · exact ⟨X.1, X.2, fun j hj => by dsimp only; rw [hs, if_neg (by omega)]; exact hH j hj, hc.fr (fun m hm => by dsimp only; rw [hs, if_neg (by omega)]), hC.fr (fun m hm => by have := hV.1.2.2.1; dsimp only; rw [hs, if_neg (by omega)])⟩
        · have := hV.1.2.2.2.2.2.2.2.2.1
          have c5 := hV.1.2.2.1
          exact hd'.fr (by show q 7 ≤ 6000; omega) (fun m hm => by have hm' : m < q 1 := hm; dsimp only; rw [hs, if_neg (by omega)]) (fun j h1 h2 => by dsimp only; rw [hs, if_neg (by omega)])
        · exact hf.trans ⟨fun k' hk' => by dsimp only; rw [xup_ne (by omega)], fun _ _ => rfl⟩
        · exact hg.trans ⟨⟨fun k' j hk' => by dsimp only; rw [xup_ne (by omega)], fun _ _ => rfl⟩, fun j h1 h2 => by dsimp only; rw [xup_at, if_neg (by omega)]⟩
      · exact ⟨(nI (i + 1), I'), (nI (i + 1), J'), fun K => by rw [u, if_pos e6, if_neg e5], fun K => by rw [w, if_pos e6, if_neg e5], rfl, rfl, hR, hd', hf, hg⟩
    · exact ⟨(nI (i + 1), I'), (nI (i + 1), J'), fun K => by rw [u, if_neg e6], fun K => by rw [w, if_neg e6], rfl, rfl, hR, hd', hf, hg⟩
  · rintro ⟨x, I'⟩ ⟨y, J'⟩ ⟨e1, e2, hR, hd', hf, hg⟩
    dsimp only at e1 e2 hR hd' hf hg
    subst e1 e2
    refine ⟨some I', clZ J' M, fun K => ?_, fun K => ?_, I', J', rfl, rfl, hR, hd', hf, hg⟩
    · show F_X2_endOptions_c7 xN (nI (q 3)) I' K = _
      unfold F_X2_endOptions_c7
      rw [xbn_e, hR.1.1.2.2.2.1, if_pos (nI_le (Nat.le_refl _) (by omega))]
    · show F_X11_close_c303 xN M (nI (q 0)) (nI (q 3)) J' K = _
      unfold F_X11_close_c303
      rw [s58_3, hR.2.1.1.1 3 (by decide), if_pos (nI_le (Nat.le_refl _) (by omega)), s58_0, xas_i (x := 0) (i := 0) rfl (by decide) (by decide)]; rfl
/-- the next day -/
theorem day_up {I : xTI} {L : xTL} {J : xTI} {M : xTL} {q : Nat → Nat} {n H C E : Nat} (hS : RSu I L J M q n H C E) (hd : IVd (J 58) (qs q 0 (q 0 + 1))) (h7 : q 0 + 1 ≤ 700) (hC2 : C ≤ 10 ^ 14 * n) (hE : E ≤ 59340600 * ((q 0 + 2) % 14)) : RSim (xup I 1 0 (nI (q 0) + 1)) L (xup J 58 0 (J 58 0 + 1)) M (qs q 0 (q 0 + 1)) n H C := by
  obtain ⟨hI, hV, hH, hc, hC⟩ := hS
  obtain ⟨b1, b2, b4, b5, b6⟩ := hI
  obtain ⟨v1, v2, v3, v4, v7⟩ := hV
  have c5 : q 1 ≤ 12 := v1.2.2.1
  have hs : ∀ j, xup J 58 0 (J 58 0 + 1) 58 j = if j = 0 then nI (q 0 + 1) else J 58 j := fun j => by rw [xup_at, v1.1 0 (by decide), nI_1]
  have ho : ∀ j, 0 < j → xup J 58 0 (J 58 0 + 1) 58 j = J 58 j := fun j hj => by rw [hs, if_neg (by omega)]
  have hne : ∀ k, k ≠ 1 → xup I 1 0 (nI (q 0) + 1) k = I k := fun k h => xup_ne h
  have h1t : ∀ t, t ≠ 0 → xup I 1 0 (nI (q 0) + 1) 1 t = I 1 t := fun t h => by rw [xup_at, if_neg h]
  have hu : ∀ m, m < q 1 → xup J 58 0 (J 58 0 + 1) 58 (16 + 4 * m) = J 58 (16 + 4 * m) := fun m hm => ho _ (by omega)
  have nn := CE.nn hC
  refine ⟨⟨?_, ?_, ?_, ?_, ?_, ?_⟩, ⟨?_, ?_, ?_, ?_, ?_, ?_, ?_⟩, fun j hj => by rw [ho _ (by omega)]; exact hH j hj, fun m hm => (hC.1 m hm).2.1⟩
  · unfold BRn
    rw [h1t 1 (by decide), h1t 11 (by decide), h1t 12 (by decide)]
    exact ⟨by rw [xup_at, if_pos rfl, nI_1]; rfl, b1.2⟩
  · exact b2.fr c5 (hne 7 (by decide)) (hne 8 (by decide)) (hne 9 (by decide)) (hne 10 (by decide)) (hne 2 (by decide)) (fun j e1 e2 => ho j (by omega))
  · exact hc.fr (fun m hm => ho _ (by omega))
  · exact b4.fr (hne 13 (by decide)) (fun j e1 e2 => ho j (by omega))
  · exact b5.fr v1.2.2.2.2.1 v1.2.2.2.2.2.2.1 (by have := v1.2.2.2.2.2.2.2.2.1; omega) (hne 21 (by decide)) (hne 23 (by decide)) (hne 25 (by decide)) (hne 27 (by decide)) (fun j e1 e2 => ho j (by omega)) (fun j e1 e2 => ho j (by omega))
  · exact b6.fr v1.2.2.2.2.2.1 (hne 16 (by decide)) (hne 17 (by decide)) (fun j e1 e2 => ho j (by omega))
  · refine ⟨fun i hi => ?_, h7, v1.2.2⟩
    by_cases e : i = 0
    · subst e; rw [hs, if_pos rfl]; rfl
    · rw [ho _ (by omega), v1.1 i hi]; unfold qs; rw [if_neg e]
  · have := v2.fr c5 (s2 := xup J 58 0 (J 58 0 + 1) 58) (fun j e1 e2 => ho j (by omega))
    refine ⟨fun m hm => ⟨?_, (this.1 m hm).2⟩, this.2⟩
    rcases (this.1 m hm).1 with g | g
    · exact Or.inl g
    · exact Or.inr ⟨g.1, g.2.mono (Nat.le_succ _)⟩
  · have := v3.fr c5 hu (fun j e1 e2 => ho j (by omega))
    intro b hb
    rcases this b hb with g | ⟨g, sl, by_, st, sh, pr, dy, ac, sta, g1, g2, g3, g4, g5, g6, g7, g8, f1, f2, f3, f4, f5, f6, f7, f8, f9, f10, f11, f12, m1, m2, m3, m4, m5, m6⟩
    · exact Or.inl g
    · refine Or.inr ⟨g, sl, by_, st, sh, pr, dy, ac, sta, g1, g2, g3, g4, g5, g6, g7, g8, f1, f2, f3, f4, f5, f6, f7, f8, Nat.le_succ_of_le f9, f10, f11, f12, ?_, ?_, m3, m4, m5, m6⟩
      · rcases m1 with m1 | m1
        · exact Or.inl m1
        · exact Or.inr (m1.mono (Nat.le_succ _))
      · rcases m2 with m2 | m2
        · exact Or.inl m2
        · exact Or.inr (m2.mono (Nat.le_succ _))
  · exact v4.fr v1.2.2.2.2.1 v1.2.2.2.2.2.2.1 c5 hu (fun j e1 e2 => ho j (by omega))
  · have hC' := hC.fr (s2 := xup J 58 0 (J 58 0 + 1) 58) hu
    have hx : exS (M 59) 144 ≤ 59340600 * (((q 0 : Int) + 2) % 14) := by have := hC.2.2.2; omega
    refine ⟨fun m hm => ⟨(hC'.1 m hm).1, ?_, (hC'.1 m hm).2.2⟩, fun a b ha hb => ⟨(hC'.2.1 a b ha hb).1, ?_, (hC'.2.1 a b ha hb).2⟩, hC'.2.2.1, ?_⟩
    · have := (hC'.1 m hm).2.1; omega
    · have := exS_le (c := M 59) (j := 12 * a + b) 144 nn (by omega)
      show (M 59 (24 + (12 * a + b))).toInt ≤ 59340600 * ((((q 0 + 1 : Nat) : Int) + 1) % 14)
      omega
    · show exS (M 59) 144 ≤ 59340600 * ((((q 0 + 1 : Nat) : Int) + 1) % 14)
      omega
  · exact hd.fr (by have := v1.2.2.2.2.2.2.2.2.1; show q 7 ≤ 6000; omega) hu (fun j e1 e2 => ho j (by omega))
  · exact v7.fr v1.2.2.2.2.2.1 (fun j e1 e2 => ho j (by omega))
end
