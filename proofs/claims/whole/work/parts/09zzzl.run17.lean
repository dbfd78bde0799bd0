section
/-! run: names -/
theorem nm_start {I J : xTI} {q : Nat → Nat} {n : Nat} (hI : BRi I (J 58) q) (hV : IVi (J 58) q n) : BRi (xup (xup (xup I 1 11 1) 24 3 0) 26 3 0) (xup (xup (xup J 58 6 0) 58 7 0) 58 8 1 58) (qs (qs (qs q 8 1) 6 0) 7 0) ∧ IVi (xup (xup (xup J 58 6 0) 58 7 0) 58 8 1 58) (qs (qs (qs q 8 1) 6 0) 7 0) n := by
  obtain ⟨b1, b2, b4, b5, b6⟩ := hI
  obtain ⟨v1, v2, v3, v4, v6, v7⟩ := hV
  have c5 : q 1 ≤ 12 := v1.2.2.1
  have hne : ∀ k, k ≠ 1 → k ≠ 24 → k ≠ 26 → xup (xup (xup I 1 11 1) 24 3 0) 26 3 0 k = I k := fun k a1 a2 a3 => by rw [xup_ne a3, xup_ne a2, xup_ne a1]
  have h1 : ∀ j, xup (xup (xup I 1 11 1) 24 3 0) 26 3 0 1 j = if j = 11 then 1 else I 1 j := fun j => by rw [xup_ne (by decide), xup_ne (by decide), xup_at]
  have h24 : xup (xup (xup I 1 11 1) 24 3 0) 26 3 0 24 3 = 0 := by rw [xup_ne (by decide), xup_at, if_pos rfl]
  have h26 : xup (xup (xup I 1 11 1) 24 3 0) 26 3 0 26 3 = 0 := by rw [xup_at, if_pos rfl]
  have hs : ∀ j, xup (xup (xup J 58 6 0) 58 7 0) 58 8 1 58 j = if j = 8 then 1 else if j = 7 then 0 else if j = 6 then 0 else J 58 j := fun j => by rw [xup_at, xup_at, xup_at]
  have ho : ∀ j, (j < 6 ∨ 8 < j) → xup (xup (xup J 58 6 0) 58 7 0) 58 8 1 58 j = J 58 j := fun j hj => by rw [hs, if_neg (by omega), if_neg (by omega), if_neg (by omega)]
  generalize xup (xup (xup I 1 11 1) 24 3 0) 26 3 0 = I2 at *
  generalize xup (xup (xup J 58 6 0) 58 7 0) 58 8 1 58 = s2 at *
  have hu : ∀ m, m < q 1 → s2 (16 + 4 * m) = J 58 (16 + 4 * m) := fun m hm => ho _ (by omega)
  refine ⟨⟨?_, ?_, ?_, ⟨fun i hi t ht => ?_, fun i hi t ht => ?_, fun i hi => absurd hi (Nat.not_lt_zero _), fun i hi => absurd hi (Nat.not_lt_zero _)⟩, ?_⟩, ⟨⟨fun i hi => ?_, v1.2.1, v1.2.2.1, v1.2.2.2.1, v1.2.2.2.2.1, v1.2.2.2.2.2.1, v1.2.2.2.2.2.2.1, Nat.zero_le _, Nat.zero_le _, Nat.le_refl _, v1.2.2.2.2.2.2.2.2.2.2⟩, ?_, ?_, ?_, ⟨fun i hi => absurd hi (Nat.not_lt_zero _), Nat.zero_le _, fun i j hi => absurd hi (Nat.not_lt_zero _)⟩, ?_⟩⟩
  · unfold BRn
    rw [h1 0, h1 1, h1 11, h1 12, hne 3 (by decide) (by decide) (by decide), hne 20 (by decide) (by decide) (by decide), hne 15 (by decide) (by decide) (by decide), hne 22 (by decide) (by decide) (by decide), h24, h26, if_neg (by decide), if_neg (by decide), if_pos rfl, if_neg (by decide)]
    exact ⟨b1.1, b1.2.1, b1.2.2.1, b1.2.2.2.1, b1.2.2.2.2.1, b1.2.2.2.2.2.1, rfl, rfl, rfl, b1.2.2.2.2.2.2.2.2.2⟩
  · exact b2.fr c5 (hne 7 (by decide) (by decide) (by decide)) (hne 8 (by decide) (by decide) (by decide)) (hne 9 (by decide) (by decide) (by decide)) (hne 10 (by decide) (by decide) (by decide)) (hne 2 (by decide) (by decide) (by decide)) (fun j e1 e2 => ho j (by omega))
  · exact b4.fr (hne 13 (by decide) (by decide) (by decide)) (fun j e1 e2 => ho j (by omega))
  · rw [hne 21 (by decide) (by decide) (by decide), ho _ (by omega)]; exact b5.1 i hi t ht
  · rw [hne 23 (by decide) (by decide) (by decide), ho _ (by omega)]; exact b5.2.1 i hi t ht
  · exact b6.fr v1.2.2.2.2.2.1 (hne 16 (by decide) (by decide) (by decide)) (hne 17 (by decide) (by decide) (by decide)) (fun j e1 e2 => ho j (by omega))
  · rw [hs]
    by_cases e8 : i = 8
    · subst e8; rfl
    · rw [if_neg e8]
      by_cases e7 : i = 7
      · subst e7; rfl
      · rw [if_neg e7]
        by_cases e6 : i = 6
        · subst e6; rfl
        · rw [if_neg e6, v1.1 i hi]; unfold qs; rw [if_neg e7, if_neg e6, if_neg e8]
  · exact v2.fr c5 (fun j e1 e2 => ho j (by omega))
  · exact v3.fr c5 hu (fun j e1 e2 => ho j (by omega))
  · exact v4.fr v1.2.2.2.2.1 v1.2.2.2.2.2.2.1 c5 hu (fun j e1 e2 => ho j (by omega))
  · exact v7.fr v1.2.2.2.2.2.1 (fun j e1 e2 => ho j (by omega))
theorem name_sim {I : xTI} {L : xTL} {J : xTI} {M : xTL} {q : Nat → Nat} {n H C E : Nat} (hS : RSt I L J M q n H C E) : ∃ I2 J2 M2 q2, F_X4_nameAccount xN I (nI (q 0) / 14) = some I2 ∧ xas J 58 40670 6 0 (fun I1 => xas I1 58 40670 7 0 (fun I2 => xas I2 58 40670 8 1 (fun I3 => xlp (F_X11_close_b259 xN (nI (q 0))) xN (0, I3, M)))) = F_X11_close_j284 xN J2 M2 (nI (q 0)) ∧ RSt I2 L J2 M2 q2 n H C E ∧ IVd (J2 58) (qs q2 0 (q 0 + 1)) ∧ q2 0 = q 0 ∧ q2 1 = q 1 ∧ (∀ j, 16 ≤ j → j < 64 → J2 58 j = J 58 j) ∧ RFc I I2 L L ∧ RFr J J2 M M2 := by
  obtain ⟨hI, hV, hH, hc, hC⟩ := hS
  obtain ⟨hI0, hV0⟩ := nm_start hI hV
  rw [xas_i (x := 6) (i := 6) rfl (by decide) (by decide), xas_i (x := 7) (i := 7) rfl (by decide) (by decide), xas_i (x := 8) (i := 8) rfl (by decide) (by decide)]
  unfold F_X4_nameAccount
  rw [xzc_1, xbn_e, xbn_e, xbn_e]
  have q2b := hV.1.2.2.2.1
  have c5 := hV.1.2.2.1
  have hs0 : ∀ j, 9 ≤ j → xup (xup (xup J 58 6 0) 58 7 0) 58 8 1 58 j = J 58 j := fun j hj => by rw [xup_at, if_neg (by omega), xup_at, if_neg (by omega), xup_at, if_neg (by omega)]
  have hfI0 : ∀ k, k ≠ 1 → k ≠ 24 → k ≠ 26 → xup (xup (xup I 1 11 1) 24 3 0) 26 3 0 k = I k := fun k a1 a2 a3 => by rw [xup_ne a3, xup_ne a2, xup_ne a1]
  have hfJ0 : ∀ k, k ≠ 58 → xup (xup (xup J 58 6 0) 58 7 0) 58 8 1 k = J k := fun k a => by rw [xup_ne a, xup_ne a, xup_ne a]
  have tab0 : nTab (xup (xup (xup I 1 11 1) 24 3 0) 26 3 0) (xup (xup (xup J 58 6 0) 58 7 0) 58 8 1) 0 0 := by
    refine ⟨?_, ?_, ?_, ?_, fun i hi => absurd hi (Nat.not_lt_zero _), fun i hi => absurd hi (Nat.not_lt_zero _)⟩
    · rw [xup_ne (by decide), xup_at, if_pos rfl]; rfl
    · rw [xup_at, if_pos rfl]; rfl
    · rw [xup_at, if_neg (by decide), xup_at, if_neg (by decide), xup_at, if_pos rfl]; rfl
    · rw [xup_at, if_neg (by decide), xup_at, if_pos rfl]; rfl
  generalize xup (xup (xup I 1 11 1) 24 3 0) 26 3 0 = I0 at *
  generalize xup (xup (xup J 58 6 0) 58 7 0) 58 8 1 = J0 at *
  have hq2 : qs (qs (qs q 8 1) 6 0) 7 0 2 = q 2 := rfl
  refine xlp_sim (P := fun k x y => ∃ p d, x.1 = nI k ∧ y.1 = nI k ∧ nAll I0 J0 x.2 y.2.1 (qs (qs (qs q 8 1) 6 0) 7 0) (nI (q 0) / 14) k p d ∧ FrL M y.2.2) (q 2) (fun r1 r2 => ∃ (I2 J2 : xTI) (M2 : xTL) (q2 : Nat → Nat), r1 = some I2 ∧ r2 = F_X11_close_j284 xN J2 M2 (nI (q 0)) ∧ RSt I2 L J2 M2 q2 n H C E ∧ IVd (J2 58) (qs q2 0 (q 0 + 1)) ∧ q2 0 = q 0 ∧ q2 1 = q 1 ∧ (∀ j, 16 ≤ j → j < 64 → J2 58 j = J 58 j) ∧ RFc I I2 L L ∧ RFr J J2 M M2) ?_ ?_ xN xN (by show q 2 < 100000; omega) (by show q 2 < 100000; omega) (0, I0) (0, J0, M) ⟨0, 0, rfl, rfl, ⟨⟨fun _ _ _ _ _ _ _ _ => rfl, fun _ _ _ _ => rfl, fun _ _ _ => rfl⟩, tab0, fun i hi => absurd hi (Nat.not_lt_zero _), Nat.zero_le _, Nat.zero_le _, Nat.zero_le _⟩, FrL.rfl' _⟩
  · rintro k hk ⟨x, I'⟩ ⟨y, J', M'⟩ ⟨p, d, e1, e2, hN, hL⟩
    dsimp only at e1 e2 hN hL
    subst e1 e2
    obtain ⟨I2, J2, M2, p2, d2, a1, a2, a3, a4⟩ := stock_sim hN hI0 hV0 (by rw [hq2]; exact hk) M'
    refine ⟨(nI (k + 1), I2), (nI (k + 1), J2, M2), a2, fun K => ?_, p2, d2, rfl, rfl, a1, hL.trans a4⟩
    show F_X11_close_c259 xN (nI (q 0)) (nI k) J' M' K = _
    unfold F_X11_close_c259
    rw [s58_2, hN.1.2.1 2 (by decide) (by decide) (by decide), hV0.1.1 2 (by decide), hq2, if_neg (nI_ge hk (by omega)), a3, Option.bind_some]
    dsimp only
    rw [xbn_e, nI_1]
  · rintro ⟨x, I'⟩ ⟨y, J', M'⟩ ⟨p, d, e1, e2, hN, hL⟩
    dsimp only at e1 e2 hN hL
    subst e1 e2
    obtain ⟨hF, hT, hD, n1, n2, n3⟩ := hN
    have b1 := lf0_sum (ac := nI (q 0) / 14) hV0.2.2.1 (q 2) (by omega)
    have nb := nm_book hI0 hV0 hF hT hD (by omega) (by omega) (by omega)
    have hsj : ∀ j, 9 ≤ j → j < 2570 → J' 58 j = J 58 j := fun j a1 a2 => (hF.2.1 j (by omega) (by omega) a2).trans (hs0 j a1)
    have e59 : M' 59 = M 59 := hL 59 (by decide)
    refine ⟨some I', F_X11_close_j284 xN J' M' (nI (q 0)), fun K => ?_, fun K => ?_, I', J', M', qs (qs (qs (qs (qs q 8 1) 6 0) 7 0) 6 p) 7 d, rfl, rfl, ⟨nb.1, nb.2, fun j hj => ?_, ?_, ?_⟩, ?_, rfl, rfl, fun j a1 a2 => hsj j (by omega) (by omega), ⟨fun k hk => ?_, fun _ _ => rfl⟩, ⟨fun k j hk => ?_, fun k hk => hL k (by omega)⟩⟩
    · show F_X4_nameAccount_c23 xN (nI (q 0) / 14) (nI (q 2)) I' K = _
      unfold F_X4_nameAccount_c23
      rw [xbn_e, hF.1 1 (by decide) (by decide) (by decide) (by decide) (by decide) (by decide) (by decide), hI0.1.2.2.1, hq2, if_pos (nI_le (Nat.le_refl _) (by omega))]
    · show F_X11_close_c259 xN (nI (q 0)) (nI (q 2)) J' M' K = _
      unfold F_X11_close_c259
      rw [s58_2, hF.2.1 2 (by decide) (by decide) (by decide), hV0.1.1 2 (by decide), hq2, if_pos (nI_le (Nat.le_refl _) (by omega))]
    · rw [hsj _ (by omega) (by omega)]; exact hH j hj
    · rw [e59]; exact hc.fr (fun m hm => hsj _ (by omega) (by omega))
    · rw [e59]; exact CE.fr (q := qs (qs (qs (qs (qs q 8 1) 6 0) 7 0) 6 p) 7 d) hC (fun m hm => hsj _ (by omega) (by have hm' : m < q 1 := hm; omega))
    · exact nd_IVd hD (by omega) (fun m hm => by have hm' : m < q 1 := hm; exact hF.2.1 _ (by omega) (by omega) (by omega)) rfl rfl rfl
    · rw [hF.1 k (by omega) (by omega) (by omega) (by omega) (by omega) (by omega) (by omega)]; exact hfI0 k (by omega) (by omega) (by omega)
    · rw [hF.2.2 k j hk, hfJ0 k (by omega)]
end
