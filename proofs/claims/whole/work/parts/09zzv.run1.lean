section
/-! run: what is open is judged -/
/-- and the men stay as they are -/
def RFm (J J2 : xTI) (M M2 : xTL) : Prop := RFr J J2 M M2 ∧ ∀ j, 16 ≤ j → j < 64 → J2 58 j = J 58 j
theorem RFm.rfl' (I : xTI) (L : xTL) : RFm I I L L := ⟨RFr.rfl' I L, fun _ _ _ => rfl⟩
theorem RFm.trans {I I2 I3 : xTI} {L L2 L3 : xTL} (h : RFm I I2 L L2) (g : RFm I2 I3 L2 L3) : RFm I I3 L L3 := ⟨h.1.trans g.1, fun j h1 h2 => (g.2 j h1 h2).trans (h.2 j h1 h2)⟩
theorem RFm.ru {J J2 : xTI} {M M2 : xTL} (h : FrU J J2) (g : FrL M M2) : RFm J J2 M M2 := ⟨RFr.ru h g, fun j _ _ => h 58 j (by decide) (by omega)⟩
theorem judge_sim {I : xTI} {L : xTL} {J : xTI} {M : xTL} {q : Nat → Nat} {n H C : Nat} (hS : RSim I L J M q n H C) : ∃ I2 J2 M2, F_X2_judgeOpen xN I = some I2 ∧ xlp (F_X11_close_b9 xN (nI (q 0))) xN (0, J, M) = xlp (F_X11_close_b96 xN (nI (q 0))) xN (0, 0, J2, M2) ∧ RSim I2 L J2 M2 q n H C ∧ RFc I I2 L L ∧ RFm J J2 M M2 := by
  unfold F_X2_judgeOpen
  refine xlp_sim (P := fun i x y => x.1 = nI i ∧ y.1 = nI i ∧ RSim x.2 L y.2.1 y.2.2 q n H C ∧ RFc I x.2 L L ∧ RFm J y.2.1 M y.2.2) 60 (fun r1 r2 => ∃ I2 J2 M2, r1 = some I2 ∧ r2 = xlp (F_X11_close_b96 xN (nI (q 0))) xN (0, 0, J2, M2) ∧ RSim I2 L J2 M2 q n H C ∧ RFc I I2 L L ∧ RFm J J2 M M2) ?_ ?_ xN xN (by decide) (by decide) (0, I) (0, J, M) ⟨rfl, rfl, hS, RFc.rfl' _ _, RFm.rfl' _ _⟩
  · rintro b hb ⟨x, I⟩ ⟨y, J, M⟩ ⟨e1, e2, ⟨hB, hV, hH, hC⟩, hf, hg⟩
    dsimp only at e1 e2 hB hV hH hC hf hg
    subst e1 e2
    have skip : (∀ k, F_X2_judgeOpen_b7 xN (nI b, I) k = k (nI (b + 1), I)) → (∀ k, F_X11_close_b9 xN (nI (q 0)) (nI b, J, M) k = k (nI (b + 1), J, M)) → ∃ x' y', (∀ k, F_X2_judgeOpen_b7 xN (nI b, I) k = k x') ∧ (∀ k, F_X11_close_b9 xN (nI (q 0)) (nI b, J, M) k = k y') ∧ (x'.1 = nI (b + 1) ∧ y'.1 = nI (b + 1) ∧ RSim x'.2 L y'.2.1 y'.2.2 q n H C ∧ RFc _ x'.2 L L ∧ RFm _ y'.2.1 _ y'.2.2) := fun h1 h2 => ⟨(nI (b + 1), I), (nI (b + 1), J, M), h1, h2, rfl, rfl, ⟨hB, hV, hH, hC⟩, hf, hg⟩
    have u1 : ∀ k, F_X2_judgeOpen_b7 xN (nI b, I) k = (if I 13 (11 * b + 7) = 0 then (if I 1 0 ≤ I 13 (11 * b + 5) then F_X2_judgeOpen_j41 k xN I (nI b) 0 else F_X2_judgeOpen_j41 k xN I (nI b) 1) else F_X2_judgeOpen_j41 k xN I (nI b) 0) := by
      intro k
      show F_X2_judgeOpen_c7 xN (nI b) I k = _
      unfold F_X2_judgeOpen_c7 F_X0_at
      rw [if_neg (n60 hb), at12_7 hb, at12_5 hb]; rfl
    have u0 : ∀ k, F_X2_judgeOpen_j41 k xN I (nI b) 0 = k (nI (b + 1), I) := by
      intro k
      unfold F_X2_judgeOpen_j41
      rw [if_pos rfl, nI_1]; rfl
    have w1 : ∀ k, F_X11_close_b9 xN (nI (q 0)) (nI b, J, M) k = (if J 58 (192 + 12 * b) = 0 then k (nI (b + 1), J, M) else if J 58 (192 + 12 * b + 8) = 0 then (if J 58 (192 + 12 * b + 6) < nI (q 0) then Option.bind (F_X11_ruled xN J M 4 (100 + (nI b)) 0) (fun (v6, I7, L8) => (if v6 = 0 then xas I7 58 40670 ((192 + (12 * (nI b))) + 8) 3 (fun I9 => xbn ((nI b) + 1) (fun y10 => k (y10, I9, L8))) else Option.bind (F_X11_stand I7 (nI b)) (fun I11 => xbn ((nI b) + 1) (fun y12 => k (y12, I11, L8))))) else k (nI (b + 1), J, M)) else k (nI (b + 1), J, M)) := by
      intro k
      show F_X11_close_c9 xN (nI (q 0)) (nI b) J M k = _
      unfold F_X11_close_c9
      rw [if_neg (n60 hb), bg11_0 hb, bg11_8 hb, bg11_6 hb, nI_1]; rfl
    rcases hV.2.2.1 b hb with h0 | ⟨h0, sl, by_, st, sh, pr, dy, ac, sta, g1, g2, g3, g4, g5, g6, g7, g8, f1, f2, f3, f4, f5, f6, f7, f8, f9, f10, f11, f12, m1, m2, m3, m4, m5, m6⟩
    · have z : I 13 (11 * b + 7) = -1 := by
        rcases hB.2.2.2.1 b hb with h | h
        · exact h.2
        · rw [h0] at h; exact absurd h.1 (by decide)
      exact skip (fun k => by rw [u1, z, if_neg (by decide), u0]) (fun k => by rw [w1, if_pos h0])
    · have z7 : I 13 (11 * b + 7) = nI sta := by rw [bcell2 hB.2.2.2.1 hb h0 (by decide)]; exact g8
      have z5 : I 13 (11 * b + 5) = nI dy := by rw [bcell2 hB.2.2.2.1 hb h0 (by decide)]; exact g6
      have h01 : ¬ J 58 (192 + 12 * b) = 0 := by rw [h0]; decide
      by_cases es : sta = 0
      · subst es
        have c9 := hV.1.2.1
        by_cases ed : dy < q 0
        · have q2 := hV.1.2.2.2.1
          obtain ⟨v, I1, t1, t2, t3⟩ := tells_eq hB hV (key := 4) (by decide) (kk := st) (by omega) (some b) (fun bb h => by cases h; exact ⟨hb, h0, g3⟩)
          obtain ⟨J2, M2, r1, r2, r3⟩ := t3 J M rfl
          have hf2 : RFc I I1 L L := RFc.tl L t2
          have hg2 : RFm J J2 M M2 := RFm.ru r2 r3
          have e58 : J2 58 = J 58 := r2.c (by decide) (by decide)
          have e59 : M2 59 = M 59 := r3 59 (by decide)
          have t1' : F_X5_tells xN I 4 (nI st) (nI b) = some (v, I1) := t1
          have r1' : F_X11_ruled xN J M 4 (100 + nI b) 0 = some (v, J2, M2) := by
            rw [show (100 : Int32) + nI b = nI (100 + b) by rw [show (100 : Int32) = nI 100 from rfl, nI_add]]; exact r1
          have hB1 : BR I1 L (J2 58) (M2 59) q := by rw [e58, e59]; exact hB.tl t2
          have hV1 : IV (J2 58) (M2 59) q n := by rw [e58, e59]; exact hV
          have hc1 : F_X8_at_12 I (nI b) 2 = some (nI st) := by rw [at12_2 hb, bcell2 hB.2.2.2.1 hb h0 (by decide)]; exact congrArg some g3
          have U : ∀ k, F_X2_judgeOpen_b7 xN (nI b, I) k = (if v = 0 then k (nI (b + 1), xup I1 13 (11 * b + 7) 3) else k (nI (b + 1), stG I1 13 (11 * b) 7 8 9 (I1 1 0))) := by
            intro k
            rw [u1, z7, if_pos (show nI 0 = 0 from rfl), z5, hB.1.1, if_neg (nI_ge ed (by omega))]
            unfold F_X2_judgeOpen_j41 F_X0_at F_X0_putState
            rw [if_neg (by decide), hc1]
            simp only [Option.bind_some]
            rw [t1']
            simp only [Option.bind_some, xbn_e, F10_msG hb, (put12_l hb).2.2.2.2.2.2.2.1, nI_1]
          have W : ∀ k, F_X11_close_b9 xN (nI (q 0)) (nI b, J, M) k = (if v = 0 then k (nI (b + 1), xup J2 58 (192 + 12 * b + 8) 3, M2) else k (nI (b + 1), stG J2 58 (192 + 12 * b) 8 9 10 (J2 58 0), M2)) := by
            intro k
            have hx : ∀ (F : xTI → Option (xTI × xTL)), xas J2 58 40670 (192 + 12 * nI b + 8) 3 F = F (xup J2 58 (192 + 12 * b + 8) 3) := fun F => by
              rw [show (192 : Int32) + 12 * nI b + 8 = nI (192 + 12 * b + 8) by rw [show (192 : Int32) = nI 192 from rfl, show (12 : Int32) = nI 12 from rfl, show (8 : Int32) = nI 8 from rfl, nI_mul, nI_add, nI_add]]
              exact xas_n (by omega) (by decide)
            rw [w1, if_neg h01, g8, if_pos (show nI 0 = 0 from rfl), g6, if_pos (nI_lt ed (by omega)), r1']
            simp only [Option.bind_some, xbn_e, F11_sdG hb, nI_1, hx]
          have d0 : I1 1 0 = nI (q 0) := by rw [t2 1 (by decide) (by decide)]; exact hB.1.1
          have d0' : J2 58 0 = nI (q 0) := by rw [e58]; exact hV.1.1 0 (by decide)
          have h0' : J2 58 (192 + 12 * b) = 1 := by rw [e58]; exact h0
          have cl : ∀ t, t < 11 → I1 13 (11 * b + t) = J2 58 (192 + 12 * b + (t + 1)) := fun t ht => bcell2 hB1.2.2.2.1 hb h0' ht
          by_cases ev : v = 0
          · refine ⟨(nI (b + 1), xup I1 13 (11 * b + 7) 3), (nI (b + 1), xup J2 58 (192 + 12 * b + 8) 3, M2), fun k => by rw [U, if_pos ev], fun k => by rw [W, if_pos ev], rfl, rfl, ?_, ?_, ?_⟩
            · have hs : ∀ j, xup J2 58 (192 + 12 * b + 8) 3 58 j = if j = 192 + 12 * b + 8 then 3 else J2 58 j := fun j => xup_at
              have X := bkB1 (I2 := xup I1 13 (11 * b + 7) 3) (s2 := xup J2 58 (192 + 12 * b + 8) 3 58) hb hB1 hV1 (fun k h1 h2 h3 h4 h5 => xup_ne h3) (fun j hj => by rw [hs, if_neg (by omega)]) (fun j hj => by rw [xup_at, if_neg (by omega)]) (Or.inr ⟨by rw [hs, if_neg (by omega)]; exact h0', fun t ht => ?_, ?_⟩)
              · refine ⟨X.1, X.2, fun j hj => ?_, fun m hm => ?_⟩
                · dsimp only; rw [hs, if_neg (by omega), e58]; exact hH j hj
                · dsimp only; rw [e59]; exact hC m hm
              · rw [xup_at, hs]
                by_cases et : t = 7
                · subst et; rw [if_pos rfl, if_pos (by omega)]
                · rw [if_neg (by omega), if_neg (by omega), cl t ht, show 192 + 12 * b + (t + 1) = 192 + 12 * b + 1 + t by omega]
              · have hu : ∀ m, m < 12 → xup J2 58 (192 + 12 * b + 8) 3 58 (16 + 4 * m) = J 58 (16 + 4 * m) := fun m hm => by rw [hs, if_neg (by omega), e58]
                have ht : ∀ t, t < 12 → t ≠ 8 → xup J2 58 (192 + 12 * b + 8) 3 58 (192 + 12 * b + t) = J 58 (192 + 12 * b + t) := fun t h1 h2 => by rw [hs, if_neg (by omega), e58]
                refine ⟨sl, by_, st, sh, pr, dy, ac, 3, ?_⟩
                rw [ht 1 (by decide) (by decide), ht 2 (by decide) (by decide), ht 3 (by decide) (by decide), ht 4 (by decide) (by decide), ht 5 (by decide) (by decide), ht 6 (by decide) (by decide), ht 7 (by decide) (by decide), ht 9 (by decide) (by decide), ht 10 (by decide) (by decide), ht 11 (by decide) (by decide)]
                exact ⟨g1, g2, g3, g4, g5, g6, g7, by rw [hs, if_pos rfl]; rfl, f1, f2, f3, f4, f5, f6, f7, f8, f9, f10, f11, by decide, m1, m2, m3, fun h => absurd h (by decide), fun h => absurd h (by decide), fun h => absurd h (by decide)⟩
            · refine hf.trans (hf2.trans ⟨fun k hk => xup_ne (by omega), fun _ _ => rfl⟩)
            · exact hg.trans (hg2.trans ⟨⟨fun k j hk => by dsimp only; rw [xup_ne (by omega)], fun _ _ => rfl⟩, fun j h1 h2 => by dsimp only; rw [xup_at, if_neg (by omega)]⟩)
          · refine ⟨(nI (b + 1), stG I1 13 (11 * b) 7 8 9 (I1 1 0)), (nI (b + 1), stG J2 58 (192 + 12 * b) 8 9 10 (J2 58 0), M2), fun k => by rw [U, if_neg ev], fun k => by rw [W, if_neg ev], rfl, rfl, ?_, ?_, ?_⟩
            · rw [d0, d0']
              have hs : ∀ j, stG J2 58 (192 + 12 * b) 8 9 10 (nI (q 0)) 58 j = _ := fun j => stG_at
              have X := bkB1 (I2 := stG I1 13 (11 * b) 7 8 9 (nI (q 0))) (s2 := stG J2 58 (192 + 12 * b) 8 9 10 (nI (q 0)) 58) hb hB1 hV1 (fun k h1 h2 h3 h4 h5 => stG_ne h3) (fun j hj => by rw [hs, if_neg (by omega), if_neg (by omega), if_neg (by omega)]) (fun j hj => by rw [stG_at, if_neg (by omega), if_neg (by omega), if_neg (by omega)]) (Or.inr ⟨by rw [hs, if_neg (by omega), if_neg (by omega), if_neg (by omega)]; exact h0', fun t ht => ?_, ?_⟩)
              · refine ⟨X.1, X.2, fun j hj => ?_, fun m hm => ?_⟩
                · dsimp only; rw [hs, if_neg (by omega), if_neg (by omega), if_neg (by omega), e58]; exact hH j hj
                · dsimp only; rw [e59]; exact hC m hm
              · rw [stG_at, hs, cl 8 (by decide), cl 9 (by decide)]
                by_cases e7 : t = 7
                · subst e7; rw [if_pos rfl, if_pos (by omega)]
                · rw [if_neg (by omega), if_neg (show ¬ 192 + 12 * b + 1 + t = 192 + 12 * b + 8 by omega)]
                  by_cases e9 : t = 9
                  · subst e9; rw [if_pos rfl, if_pos (show 192 + 12 * b + 1 + 9 = 192 + 12 * b + 10 by omega)]
                  · rw [if_neg (by omega), if_neg (show ¬ 192 + 12 * b + 1 + t = 192 + 12 * b + 10 by omega)]
                    by_cases e8 : t = 8
                    · subst e8; rw [if_pos rfl, if_pos (show 192 + 12 * b + 1 + 8 = 192 + 12 * b + 9 by omega)]
                    · rw [if_neg (by omega), if_neg (show ¬ 192 + 12 * b + 1 + t = 192 + 12 * b + 9 by omega), cl t ht, show 192 + 12 * b + (t + 1) = 192 + 12 * b + 1 + t by omega]
              · have hu : ∀ m, m < 12 → stG J2 58 (192 + 12 * b) 8 9 10 (nI (q 0)) 58 (16 + 4 * m) = J 58 (16 + 4 * m) := fun m hm => by rw [hs, if_neg (by omega), if_neg (by omega), if_neg (by omega), e58]
                have ht : ∀ t, t < 8 → stG J2 58 (192 + 12 * b) 8 9 10 (nI (q 0)) 58 (192 + 12 * b + t) = J 58 (192 + 12 * b + t) := fun t h1 => by rw [hs, if_neg (by omega), if_neg (by omega), if_neg (by omega), e58]
                have t8 : stG J2 58 (192 + 12 * b) 8 9 10 (nI (q 0)) 58 (192 + 12 * b + 8) = 1 := by rw [hs, if_pos rfl]
                have t9 : stG J2 58 (192 + 12 * b) 8 9 10 (nI (q 0)) 58 (192 + 12 * b + 9) = if J 58 (192 + 12 * b + 9) = -1 then nI (q 0) else J 58 (192 + 12 * b + 9) := by rw [hs, if_neg (by omega), if_neg (by omega), if_pos rfl, e58]
                have t10 : stG J2 58 (192 + 12 * b) 8 9 10 (nI (q 0)) 58 (192 + 12 * b + 10) = if J 58 (192 + 12 * b + 10) = -1 then nI (q 0) else J 58 (192 + 12 * b + 10) := by rw [hs, if_neg (by omega), if_pos rfl, e58]
                have t11 : stG J2 58 (192 + 12 * b) 8 9 10 (nI (q 0)) 58 (192 + 12 * b + 11) = J 58 (192 + 12 * b + 11) := by rw [hs, if_neg (by omega), if_neg (by omega), if_neg (by omega), e58]
                have nq : nI (q 0) ≠ -1 := nI_ne_m1 (by omega)
                refine ⟨sl, by_, st, sh, pr, dy, ac, 1, ?_⟩
                unfold isUpP
                rw [ht 1 (by decide), ht 2 (by decide), ht 3 (by decide), ht 4 (by decide), ht 5 (by decide), ht 6 (by decide), ht 7 (by decide), t8, t9, t10, t11, hu sl (by have := hV.1.2.2.1; omega), hu by_ (by have := hV.1.2.2.1; omega)]
                refine ⟨g1, g2, g3, g4, g5, g6, g7, rfl, f1, f2, f3, f4, f5, f6, f7, f8, f9, f10, f11, by decide, Or.inr ?_, Or.inr ?_, m3, fun h => absurd h (by decide), fun _ => ⟨?_, ?_⟩, fun _ => m6 (by decide)⟩
                · split
                  · exact ⟨q 0, Nat.le_refl _, rfl⟩
                  · rename_i z; exact m1.resolve_left z
                · split
                  · exact ⟨q 0, Nat.le_refl _, rfl⟩
                  · rename_i z; exact m2.resolve_left z
                · split
                  · exact nq
                  · assumption
                · split
                  · exact nq
                  · assumption
            · refine hf.trans (hf2.trans ⟨fun k hk => stG_ne (by omega), fun _ _ => rfl⟩)
            · exact hg.trans (hg2.trans ⟨⟨fun k j hk => by dsimp only; rw [stG_ne (by omega)], fun _ _ => rfl⟩, fun j h1 h2 => by dsimp only; rw [stG_at, if_neg (by omega), if_neg (by omega), if_neg (by omega)]⟩)
        · exact skip (fun k => by rw [u1, z7, if_pos (show nI 0 = 0 from rfl), z5, hB.1.1, if_pos (nI_le (by omega) (by omega)), u0]) (fun k => by rw [w1, if_neg h01, g8, if_pos (show nI 0 = 0 from rfl), g6, if_neg (nI_nlt (by omega) (by omega))])
      · have en : ¬ nI sta = 0 := fun h => es ((nI_eq (b := 0) (by omega) (by omega)).mp h)
        exact skip (fun k => by rw [u1, z7, if_neg en, u0]) (fun k => by rw [w1, if_neg h01, g8, if_neg en])
  · rintro ⟨x, I⟩ ⟨y, J, M⟩ ⟨e1, e2, hS, hf, hg⟩
    dsimp only at e1 e2 hS hf hg
    subst e1 e2
    refine ⟨some I, xlp (F_X11_close_b96 xN (nI (q 0))) xN (0, 0, J, M), fun k => ?_, fun k => ?_, I, J, M, rfl, rfl, hS, hf, hg⟩
    · show F_X2_judgeOpen_c7 xN (nI 60) I k = _
      unfold F_X2_judgeOpen_c7
      rw [if_pos (by decide)]
    · show F_X11_close_c9 xN (nI (q 0)) (nI 60) J M k = _
      unfold F_X11_close_c9
      rw [if_pos (by decide)]
end
