section
/-! run: prices are made up -/
theorem bkM {I I2 : xTI} {s s2 : Nat → Int32} {q : Nat → Nat} {n : Nat} (hI : BRi I s q) (hV : IVi s q n) (hne : ∀ k, 1 ≤ k → k ≤ 28 → k ≠ 2 → I2 k = I k) (hs : ∀ j, (j < 184 ∨ 189 ≤ j) → s2 j = s j) (hm : ∀ k, k < 5 → I2 2 k = s2 (184 + k) ∧ isN (s2 (184 + k)) 9999) : BRi I2 s2 q ∧ IVi s2 q n := by
  obtain ⟨b1, b2, b4, b5, b6⟩ := hI
  obtain ⟨v1, v2, v3, v4, v6, v7⟩ := hV
  have c5 : q 1 ≤ 12 := v1.2.2.1
  have hu : ∀ m, m < q 1 → s2 (16 + 4 * m) = s (16 + 4 * m) := fun m hm => hs _ (by omega)
  refine ⟨⟨?_, ⟨fun m hm => ?_, fun j hj => ?_, fun k hk => (hm k hk).1⟩, ?_, ?_, ?_⟩, ⟨⟨fun i hi => ?_, v1.2⟩, ⟨fun m hm => ?_, fun m h1 h2 => ?_, fun j hj => ?_, fun m k h1 h2 h3 => ?_, fun k hk => (hm k hk).2⟩, ?_, ?_, ?_, ?_⟩⟩
  · unfold BRn
    rw [hne 1 (by decide) (by decide) (by decide), hne 3 (by decide) (by decide) (by decide), hne 20 (by decide) (by decide) (by decide), hne 15 (by decide) (by decide) (by decide), hne 22 (by decide) (by decide) (by decide), hne 24 (by decide) (by decide) (by decide), hne 26 (by decide) (by decide) (by decide)]
    exact b1
  · rw [hne 7 (by decide) (by decide) (by decide), hne 8 (by decide) (by decide) (by decide), hs _ (by omega), hs _ (by omega)]; exact b2.1 m hm
  · rw [hne 9 (by decide) (by decide) (by decide), hne 10 (by decide) (by decide) (by decide), hs _ (by omega), hs _ (by omega)]; exact b2.2.1 j hj
  · exact b4.fr (hne 13 (by decide) (by decide) (by decide)) (fun j e1 e2 => hs j (by omega))
  · exact b5.fr v1.2.2.2.2.1 v1.2.2.2.2.2.2.1 (by have := v1.2.2.2.2.2.2.2.2.1; omega) (hne 21 (by decide) (by decide) (by decide)) (hne 23 (by decide) (by decide) (by decide)) (hne 25 (by decide) (by decide) (by decide)) (hne 27 (by decide) (by decide) (by decide)) (fun j e1 e2 => hs j (by omega)) (fun j e1 e2 => hs j (by omega))
  · exact b6.fr v1.2.2.2.2.2.1 (hne 16 (by decide) (by decide) (by decide)) (hne 17 (by decide) (by decide) (by decide)) (fun j e1 e2 => hs j (by omega))
  · rw [hs _ (by omega)]; exact v1.1 i hi
  · rw [hs _ (by omega), hs _ (by omega), hs _ (by omega), hs _ (by omega)]; exact v2.1 m hm
  · rw [hs _ (by omega), hs _ (by omega)]; exact v2.2.1 m h1 h2
  · rw [hs _ (by omega), hs _ (by omega)]; exact v2.2.2.1 j hj
  · rw [hs _ (by omega)]; exact v2.2.2.2.1 m k h1 h2 h3
  · exact v3.fr c5 hu (fun j e1 e2 => hs j (by omega))
  · exact v4.fr v1.2.2.2.2.1 v1.2.2.2.2.2.2.1 c5 hu (fun j e1 e2 => hs j (by omega))
  · exact v6.fr (by have := v1.2.2.2.2.2.2.2.2.1; omega) hu (fun j e1 e2 => hs j (by omega))
  · exact v7.fr v1.2.2.2.2.2.1 (fun j e1 e2 => hs j (by omega))
/-- a bargain that is there, or none -/
def noB (s : Nat → Int32) (x : Int32) : Prop := x = -1 ∨ ∃ b, b < 60 ∧ x = nI b ∧ s (192 + 12 * b) = 1
theorem last_sim {I : xTI} {J : xTI} {q : Nat → Nat} (hb : BRb I (J 58)) (k ac : Int32) (K2 : Int32 × xTI → Option xTI) : ∃ v, noB (J 58) v ∧ F_X2_lastMade xN I k ac = some v ∧ xlp (F_X11_marksUp_b17 K2 xN J ac k) xN (-1, 0) = (if v = -1 then K2 (k + 1, J) else Option.bind (F_X11_bg J v 5) (fun v2 => xas J 58 40670 (184 + k) v2 (fun I3 => K2 (k + 1, I3)))) := by
  unfold F_X2_lastMade
  rw [xbn_e]
  refine xlp_sim (P := fun i x y => noB (J 58) x.1 ∧ y.1 = x.1 ∧ x.2 = nI i ∧ y.2 = nI i) 60 (fun r1 r2 => ∃ v : Int32, noB (J 58) v ∧ r1 = some v ∧ r2 = (if v = -1 then K2 (k + 1, J) else Option.bind (F_X11_bg J v 5) (fun v2 => xas J 58 40670 (184 + k) v2 (fun I3 => K2 (k + 1, I3))))) ?_ ?_ xN xN (by decide) (by decide) (-1, 0) (-1, 0) ⟨Or.inl rfl, rfl, rfl, rfl⟩
  · rintro i hi ⟨x, x5⟩ ⟨y, y4⟩ ⟨h1, e1, e2, e3⟩
    dsimp only at h1 e1 e2 e3
    subst e1 e2 e3
    have u : ∀ K, F_X2_lastMade_b6 xN I k ac (y, nI i) K = (if stn (J 58) i k ac then (if I 13 (11 * i + 10) = 0 then (if y = -1 then K (nI i, nI (i + 1)) else Option.bind (F_X0_at I y 5) (fun v6 => if I 13 (11 * i + 5) < v6 then K (y, nI (i + 1)) else K (nI i, nI (i + 1)))) else K (y, nI (i + 1))) else K (y, nI (i + 1))) := by
      intro K
      show F_X2_lastMade_c6 xN I k ac y (nI i) K = _
      unfold F_X2_lastMade_c6 F_X2_lastMade_j63
      rw [if_neg (n60 hi), F10_st2 hb hi, show F_X0_at I (nI i) 10 = some (I 13 (11 * i + 10)) by unfold F_X0_at; rw [at12_10 hi]; rfl, show F_X0_at I (nI i) 5 = some (I 13 (11 * i + 5)) by unfold F_X0_at; rw [at12_5 hi]; rfl]
      simp only [Option.bind_some, xbn_e, nI_1]
      by_cases e : stn (J 58) i k ac
      · rw [if_pos e, if_pos e, if_neg (by decide)]; rfl
      · rw [if_neg e, if_neg e, if_pos rfl]
    have w : ∀ K, F_X11_marksUp_b17 K2 xN J ac k (y, nI i) K = (if stn (J 58) i k ac then (if J 58 (192 + 12 * i + 11) = 0 then (if y = -1 then K (nI i, nI (i + 1)) else Option.bind (F_X11_bg J y 6) (fun v15 => if J 58 (192 + 12 * i + 6) < v15 then K (y, nI (i + 1)) else K (nI i, nI (i + 1)))) else K (y, nI (i + 1))) else K (y, nI (i + 1))) := by
      intro K
      show F_X11_marksUp_c17 K2 xN J ac k y (nI i) K = _
      unfold F_X11_marksUp_c17
      rw [if_neg (n60 hi), F11_stn hi, bg11_3 hi, bg11_7 hi, bg11_11 hi, bg11_6 hi]
      simp only [Option.bind_some, xbn_e, nI_1]
      by_cases e : J 58 (192 + 12 * i) = 1 ∧ J 58 (192 + 12 * i + 8) = 1
      · rw [if_pos e, if_neg (by decide)]
        by_cases e2 : J 58 (192 + 12 * i + 3) = k
        · rw [if_pos e2]
          by_cases e3 : J 58 (192 + 12 * i + 7) = ac
          · rw [if_pos e3, if_pos (show stn (J 58) i k ac from ⟨e.1, e.2, e2, e3⟩)]
          · rw [if_neg e3, if_neg (show ¬ stn (J 58) i k ac from fun h => e3 h.2.2.2)]
        · rw [if_neg e2, if_neg (show ¬ stn (J 58) i k ac from fun h => e2 h.2.2.1)]
      · rw [if_neg e, if_pos rfl, if_neg (show ¬ stn (J 58) i k ac from fun h => e ⟨h.1, h.2.1⟩)]
    by_cases e : stn (J 58) i k ac
    · have hn : noB (J 58) (nI i) := Or.inr ⟨i, hi, rfl, e.1⟩
      have c10 : I 13 (11 * i + 10) = J 58 (192 + 12 * i + 11) := bcell2 hb hi e.1 (by decide)
      have c5 : I 13 (11 * i + 5) = J 58 (192 + 12 * i + 6) := bcell2 hb hi e.1 (by decide)
      by_cases e0 : J 58 (192 + 12 * i + 11) = 0
      · rcases h1 with h1 | ⟨b, hb60, h1, h2⟩
        · exact ⟨(nI i, nI (i + 1)), (nI i, nI (i + 1)), fun K => by rw [u, if_pos e, c10, if_pos e0, if_pos h1], fun K => by rw [w, if_pos e, if_pos e0, if_pos h1], hn, rfl, rfl, rfl⟩
        · have hne : ¬ y = -1 := by rw [h1]; exact nI_ne_m1 (by omega)
          have cb : I 13 (11 * b + 5) = J 58 (192 + 12 * b + 6) := bcell2 hb hb60 h2 (by decide)
          have f1 : F_X0_at I y 5 = some (J 58 (192 + 12 * b + 6)) := by rw [h1]; unfold F_X0_at; rw [at12_5 hb60, cb]; rfl
          have f2 : F_X11_bg J y 6 = some (J 58 (192 + 12 * b + 6)) := by rw [h1]; exact bg11_6 hb60
          by_cases ed : J 58 (192 + 12 * i + 6) < J 58 (192 + 12 * b + 6)
          · exact ⟨(y, nI (i + 1)), (y, nI (i + 1)), fun K => by rw [u, if_pos e, c10, if_pos e0, if_neg hne, f1, Option.bind_some, c5, if_pos ed], fun K => by rw [w, if_pos e, if_pos e0, if_neg hne, f2, Option.bind_some, if_pos ed], Or.inr ⟨b, hb60, h1, h2⟩, rfl, rfl, rfl⟩
          · exact ⟨(nI i, nI (i + 1)), (nI i, nI (i + 1)), fun K => by rw [u, if_pos e, c10, if_pos e0, if_neg hne, f1, Option.bind_some, c5, if_neg ed], fun K => by rw [w, if_pos e, if_pos e0, if_neg hne, f2, Option.bind_some, if_neg ed], hn, rfl, rfl, rfl⟩
      · exact ⟨(y, nI (i + 1)), (y, nI (i + 1)), fun K => by rw [u, if_pos e, c10, if_neg e0], fun K => by rw [w, if_pos e, if_neg e0], h1, rfl, rfl, rfl⟩
    · exact ⟨(y, nI (i + 1)), (y, nI (i + 1)), fun K => by rw [u, if_neg e], fun K => by rw [w, if_neg e], h1, rfl, rfl, rfl⟩
  · rintro ⟨x, x5⟩ ⟨y, y4⟩ ⟨h1, e1, e2, e3⟩
    dsimp only at h1 e1 e2 e3
    subst e1 e2 e3
    refine ⟨some y, _, fun K => ?_, fun K => ?_, y, h1, rfl, rfl⟩
    · show F_X2_lastMade_c6 xN I k ac y (nI 60) K = _
      unfold F_X2_lastMade_c6
      rw [if_pos (by decide)]
    · show F_X11_marksUp_c17 K2 xN J ac k y (nI 60) K = _
      unfold F_X11_marksUp_c17
      rw [if_pos (by decide)]; rfl
theorem make_sim {I : xTI} {L : xTL} {J : xTI} {M : xTL} {q : Nat → Nat} {n H C E : Nat} (hS : RSt I L J M q n H C E) : ∃ I2 J2, F_X2_makeUp xN I = some I2 ∧ F_X11_marksUp xN J (nI (q 0) / 14) = some J2 ∧ RSt I2 L J2 M q n H C E ∧ RFc I I2 L L ∧ RFm J J2 M M := by
  have q2 := hS.2.1.1.2.2.2.1
  unfold F_X2_makeUp F_X11_marksUp
  refine xlp_sim (P := fun i x y => x.1 = nI i ∧ y.1 = nI i ∧ RSt x.2 L y.2 M q n H C E ∧ RFc I x.2 L L ∧ RFm J y.2 M M) (q 2) (fun r1 r2 => ∃ (I2 J2 : xTI), r1 = some I2 ∧ r2 = some J2 ∧ RSt I2 L J2 M q n H C E ∧ RFc I I2 L L ∧ RFm J J2 M M) ?_ ?_ xN xN (by show q 2 < 100000; omega) (by show q 2 < 100000; omega) (0, I) (0, J) ⟨rfl, rfl, hS, RFc.rfl' _ _, RFm.rfl' _ _⟩
  · rintro k hk ⟨x, I'⟩ ⟨y, J'⟩ ⟨e1, e2, hR, hf, hg⟩
    dsimp only at e1 e2 hR hf hg
    subst e1 e2
    obtain ⟨hI, hV, hH, hc, hC⟩ := id hR
    have key : ∃ v, noB (J' 58) v ∧ F_X2_lastMade xN I' (nI k) (nI (q 0) / 14) = some v ∧ ∀ K2, xlp (F_X11_marksUp_b17 K2 xN J' (nI (q 0) / 14) (nI k)) xN (-1, 0) = (if v = -1 then K2 (nI k + 1, J') else Option.bind (F_X11_bg J' v 5) (fun v2 => xas J' 58 40670 (184 + nI k) v2 (fun I3 => K2 (nI k + 1, I3)))) := by
      obtain ⟨v, g1, g2, g3⟩ := last_sim (q := q) hI.2.2.1 (nI k) (nI (q 0) / 14) (fun _ => none)
      refine ⟨v, g1, g2, fun K2 => ?_⟩
      obtain ⟨v', g1', g2', g3'⟩ := last_sim (q := q) hI.2.2.1 (nI k) (nI (q 0) / 14) K2
      rw [g2'] at g2
      cases g2
      exact g3'
    obtain ⟨v, g1, g2, g3⟩ := key
    have u : ∀ K, F_X2_makeUp_b2 xN (nI k, I') K = (if v = -1 then K (nI (k + 1), I') else Option.bind (F_X0_at I' v 4) (fun v5 => xas I' 2 5 (nI k) v5 (fun I6 => K (nI (k + 1), I6)))) := by
      intro K
      show F_X2_makeUp_c2 xN (nI k) I' K = _
      unfold F_X2_makeUp_c2 F_X1_account
      rw [xbn_e, hI.1.2.2.1, if_neg (nI_ge hk (by omega)), xbn_e, Option.bind_some, hI.1.1, g2, Option.bind_some]
      simp only [xbn_e, nI_1]
    have w : ∀ K, F_X11_marksUp_b2 xN (nI (q 0) / 14) (nI k, J') K = (if v = -1 then K (nI (k + 1), J') else Option.bind (F_X11_bg J' v 5) (fun v2 => xas J' 58 40670 (184 + nI k) v2 (fun I3 => K (nI (k + 1), I3)))) := by
      intro K
      show F_X11_marksUp_c2 xN (nI (q 0) / 14) (nI k) J' K = _
      unfold F_X11_marksUp_c2
      rw [s58_2, hV.1.1 2 (by decide), if_neg (nI_ge hk (by omega)), xbn_e, g3, nI_1]
    rcases g1 with h1 | ⟨b, hb60, h1, h2⟩
    · exact ⟨(nI (k + 1), I'), (nI (k + 1), J'), fun K => by rw [u, if_pos h1], fun K => by rw [w, if_pos h1], rfl, rfl, hR, hf, hg⟩
    · have hne : ¬ v = -1 := by rw [h1]; exact nI_ne_m1 (by omega)
      have cb : I' 13 (11 * b + 4) = J' 58 (192 + 12 * b + 5) := bcell2 hI.2.2.1 hb60 h2 (by decide)
      have f1 : F_X0_at I' v 4 = some (J' 58 (192 + 12 * b + 5)) := by rw [h1]; unfold F_X0_at; rw [at12_4 hb60, cb]; rfl
      have f2 : F_X11_bg J' v 5 = some (J' 58 (192 + 12 * b + 5)) := by rw [h1]; exact bg11_5 hb60
      have pN : isN (J' 58 (192 + 12 * b + 5)) 9999 := by
        rcases hV.2.2.1 b hb60 with h0 | ⟨h0, sl, by_, st, sh, pr, dy, ac, sta, g1, g2, g3, g4, g5, g6, g7, g8, f1, f2, f3, f4, f5, f6, f7, f8, -⟩
        · rw [h0] at h2; exact absurd h2 (by decide)
        · exact ⟨pr, f8, g5⟩
      refine ⟨(nI (k + 1), xup I' 2 k (J' 58 (192 + 12 * b + 5))), (nI (k + 1), xup J' 58 (184 + k) (J' 58 (192 + 12 * b + 5))), fun K => ?_, fun K => ?_, rfl, rfl, ?_, ?_, ?_⟩
      · rw [u, if_neg hne, f1, Option.bind_some, xas_n (by omega) (by decide)]
      · rw [w, if_neg hne, f2, Option.bind_some, xas_i (i := 184 + k) (by rw [show (184 : Int32) = nI 184 from rfl, nI_add]) (by omega) (by decide)]
      · have hs : ∀ j, xup J' 58 (184 + k) (J' 58 (192 + 12 * b + 5)) 58 j = if j = 184 + k then J' 58 (192 + 12 * b + 5) else J' 58 j := fun j => xup_at
        have X := bkM (I2 := xup I' 2 k (J' 58 (192 + 12 * b + 5))) (s2 := xup J' 58 (184 + k) (J' 58 (192 + 12 * b + 5)) 58) hI hV (fun k' _ _ h => xup_ne h) (fun j hj => by rw [hs, if_neg (by omega)]) (fun k' hk' => ?_)
        · exact ⟨X.1, X.2, fun j hj => by dsimp only; rw [hs, if_neg (by omega)]; exact hH j hj, hc.fr (fun m hm => by dsimp only; rw [hs, if_neg (by omega)]), hC.fr (fun m hm => by have := hV.1.2.2.1; dsimp only; rw [hs, if_neg (by omega)])⟩
        · rw [xup_at, hs]
          by_cases e : k' = k
          · rw [if_pos e, if_pos (by omega)]; exact ⟨rfl, pN⟩
          · rw [if_neg e, if_neg (by omega)]; exact ⟨hI.2.1.2.2 k' hk', hV.2.1.2.2.2.2 k' hk'⟩
      · exact hf.trans ⟨fun k' hk' => by dsimp only; rw [xup_ne (by omega)], fun _ _ => rfl⟩
      · exact hg.trans ⟨⟨fun k' j hk' => by dsimp only; rw [xup_ne (by omega)], fun _ _ => rfl⟩, fun j h1 h2 => by dsimp only; rw [xup_at, if_neg (by omega)]⟩
  · rintro ⟨x, I'⟩ ⟨y, J'⟩ ⟨e1, e2, hR, hf, hg⟩
    dsimp only at e1 e2 hR hf hg
    subst e1 e2
    refine ⟨some I', some J', fun K => ?_, fun K => ?_, I', J', rfl, rfl, hR, hf, hg⟩
    · show F_X2_makeUp_c2 xN (nI (q 2)) I' K = _
      unfold F_X2_makeUp_c2
      rw [xbn_e, hR.1.1.2.2.1, if_pos (nI_le (Nat.le_refl _) (by omega))]
    · show F_X11_marksUp_c2 xN (nI (q 0) / 14) (nI (q 2)) J' K = _
      unfold F_X11_marksUp_c2
      rw [s58_2, hR.2.1.1.1 2 (by decide), if_pos (nI_le (Nat.le_refl _) (by omega))]
end
