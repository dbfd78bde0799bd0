/-- marking: t is the mark's column (8 the seller's, 9 the buyer's), o the other's -/
theorem mark_core {kp : Bool} {n : Nat} {I : xTI} {L : xTL} (h : xRel kp n I L) {b t o : Nat} (hb : b < 60) (h1 : I 58 (192 + 12 * b) = 1) (hto : (t = 8 ∧ o = 9) ∨ (t = 9 ∧ o = 8)) : ∃ (r : Int32) (I1 I2 : xTI), (Option.bind (F_X0_at I (nI b) 7) (fun v4 => (if v4 = 0 then Option.bind (F_X0_at I (nI b) (nI t)) (fun v5 => (if v5 = (-1) then xbn (I 1 0) (fun v6 => Option.bind (F_X0_markBy I (nI b) (nI t) v6) (fun (v7, I8) => (if v7 = 0 then some ((0 : Int32), I8) else some (1, I8)))) else F_X10_mark_j86 I )) else F_X10_mark_j86 I ))) = some (r, I1) ∧ F_X11_mark_j75 I1 (nI b) (192 + (12 * nI b)) (nI (t + 1)) = some (r, I2) ∧ xRel kp (n + 1) I2 L ∧ I1 58 = I 58 := by
  obtain ⟨⟨q, hB, hV⟩, -⟩ := id h
  obtain ⟨c1, c2, c3, c4, c5, c6, c7, c8, c9⟩ := cnt hB hV
  have hBb := hB.2.2.2.1
  have ht : t < 11 := by omega
  have ho : o < 11 := by omega
  have xy : (192 : Int32) + 12 * nI b + nI (t + 1) = nI (192 + 12 * b + (t + 1)) := ixc 192 12 b (t + 1)
  have x8 : (192 : Int32) + 12 * nI b + 8 = nI (192 + 12 * b + 8) := ixc 192 12 b 8
  unfold F_X0_at F_X10_mark_j86 F_X11_mark_j75 F_X11_mark_j97 F_X0_markBy F_X0_markBy_j43
  simp only [xbn_e, xy, x8]
  rw [at12_7 hb, at12 hb ht, bcell hBb hb h1 (by decide), bcell hBb hb h1 ht, c7]
  simp only [Option.bind_some]
  by_cases g1 : I 58 (192 + 12 * b + 8) = 0
  · by_cases g2 : I 58 (192 + 12 * b + (t + 1)) = -1
    · rw [if_pos g1, if_pos g2, put12 hb ht]
      simp only [Option.bind_some]
      -- the other's mark
      have oc : I 13 (11 * b + o) = I 58 (192 + 12 * b + (o + 1)) := bcell hBb hb h1 ho
      have r13 : ∀ j, xup I 13 (11 * b + t) (nI (q 0)) 13 j = if j = 11 * b + t then nI (q 0) else I 13 j := fun j => xup_at
      have nm : nI (q 0) ≠ -1 := nI_ne_m1 (by omega)
      have l0 : ∀ (I : xTI), xal (R := Int32 × xTI) I 58 40670 0 = xal I 58 40670 (nI 0) := fun _ => rfl
      obtain ⟨-, sl, by_, st, sh, pr, dy, ac, sta, z1, z2, z3, z4, z5, z6, z7, z8, f1, f2, f3, f4, f5, f6, f7, f8, f9, f10, f11, f12, m1, m2, m3, m4, m5, m6⟩ := (hV.2.2.1 b hb).resolve_left (by rw [h1]; decide)
      have hsta : sta = 0 := (nI_eq (b := 0) (by omega) (by decide)).mp (by rw [← z8]; exact g1)
      by_cases g3 : I 58 (192 + 12 * b + (o + 1)) = -1
      · have e58 : xup I 13 (11 * b + t) (nI (q 0)) 58 = I 58 := xup_ne (by decide)
        have hs : ∀ j, xup (xup I 13 (11 * b + t) (nI (q 0))) 58 (192 + 12 * b + (t + 1)) (nI (q 0)) 58 j = if j = 192 + 12 * b + (t + 1) then nI (q 0) else I 58 j := fun j => by rw [xup_at, e58]
        refine ⟨0, xup I 13 (11 * b + t) (nI (q 0)), xup (xup I 13 (11 * b + t) (nI (q 0))) 58 (192 + 12 * b + (t + 1)) (nI (q 0)), ?_, ?_, ?_, e58⟩
        · rw [at12_8 hb, at12_9 hb]
          simp only [Option.bind_some]
          rcases hto with ⟨rfl, rfl⟩ | ⟨rfl, rfl⟩
          · have A : xup I 13 (11 * b + 8) (nI (q 0)) 13 (11 * b + 8) = nI (q 0) := by rw [r13, if_pos rfl]
            have B : xup I 13 (11 * b + 8) (nI (q 0)) 13 (11 * b + 9) = I 58 (192 + 12 * b + (9 + 1)) := by rw [r13, if_neg (by omega), oc]
            rw [A, B, if_neg nm, if_pos g3]; rfl
          · have A : xup I 13 (11 * b + 9) (nI (q 0)) 13 (11 * b + 9) = nI (q 0) := by rw [r13, if_pos rfl]
            have B : xup I 13 (11 * b + 9) (nI (q 0)) 13 (11 * b + 8) = I 58 (192 + 12 * b + (8 + 1)) := by rw [r13, if_neg (by omega), oc]
            rw [A, B, if_pos g3]; rfl
        · rw [bg11_8 hb, e58]
          simp only [Option.bind_some]
          rw [if_pos g1, xal_n (by omega) (by decide), e58, if_pos g2, l0, xal_n (by decide) (by decide), e58, c8, xas_n (by omega) (by decide), bg11_9 hb, bg11_10 hb]
          simp only [Option.bind_some]
          rcases hto with ⟨rfl, rfl⟩ | ⟨rfl, rfl⟩
          · have A : xup (xup I 13 (11 * b + 8) (nI (q 0))) 58 (192 + 12 * b + (8 + 1)) (nI (q 0)) 58 (192 + 12 * b + 9) = nI (q 0) := by rw [hs, if_pos rfl]
            have B : xup (xup I 13 (11 * b + 8) (nI (q 0))) 58 (192 + 12 * b + (8 + 1)) (nI (q 0)) 58 (192 + 12 * b + 10) = I 58 (192 + 12 * b + (9 + 1)) := by rw [hs, if_neg (by omega)]
            rw [A, B, if_neg nm, if_pos g3]
          · have A : xup (xup I 13 (11 * b + 9) (nI (q 0))) 58 (192 + 12 * b + (9 + 1)) (nI (q 0)) 58 (192 + 12 * b + 10) = nI (q 0) := by rw [hs, if_pos rfl]
            have B : xup (xup I 13 (11 * b + 9) (nI (q 0))) 58 (192 + 12 * b + (9 + 1)) (nI (q 0)) 58 (192 + 12 * b + 9) = I 58 (192 + 12 * b + (8 + 1)) := by rw [hs, if_neg (by omega)]
            rw [A, B, if_pos g3]
        · refine h.book (xSame.of (fun k' e1 e2 => by rw [xup_ne e2, xup_ne (by omega)]) (fun _ _ => rfl)) ⟨q, ?_⟩
          refine bookB1 hb hB hV.mono (fun k _ _ e => by rw [xup_ne (by omega), xup_ne e]) (fun j hj => ?_) (fun j hj => ?_) (Or.inr ⟨?_, fun t' ht' => ?_, ?_⟩)
          · rw [hs, if_neg (by omega)]
          · rw [xup_ne (by decide), r13, if_neg (by omega)]
          · rw [hs, if_neg (by omega)]; exact h1
          · rw [hs, xup_ne (by decide), r13]
            by_cases e : t' = t
            · rw [if_pos (by omega), if_pos (by omega)]
            · rw [if_neg (by omega), if_neg (by omega), bcell hBb hb h1 ht', show 192 + 12 * b + 1 + t' = 192 + 12 * b + (t' + 1) by omega]
          · refine ⟨sl, by_, st, sh, pr, dy, ac, sta, ?_⟩
            unfold isUpP at *
            have hk : ∀ j, j ≠ 192 + 12 * b + (t + 1) → xup (xup I 13 (11 * b + t) (nI (q 0))) 58 (192 + 12 * b + (t + 1)) (nI (q 0)) 58 j = I 58 j := fun j e2 => by rw [hs, if_neg e2]
            rw [hk (192 + 12 * b + 1) (by omega), hk (192 + 12 * b + 2) (by omega), hk (192 + 12 * b + 3) (by omega), hk (192 + 12 * b + 4) (by omega), hk (192 + 12 * b + 5) (by omega), hk (192 + 12 * b + 6) (by omega), hk (192 + 12 * b + 7) (by omega), hk (192 + 12 * b + 8) (by omega), hk (192 + 12 * b + 11) (by omega), hk (16 + 4 * sl) (by omega), hk (16 + 4 * by_) (by omega), hs (192 + 12 * b + 9), hs (192 + 12 * b + 10)]
            refine ⟨z1, z2, z3, z4, z5, z6, z7, z8, f1, f2, f3, f4, f5, f6, f7, f8, f9, f10, f11, f12, ?_, ?_, m3, fun _ => ?_, fun e => absurd e (by omega), m6⟩
            · by_cases e : t = 8
              · subst e; rw [if_pos rfl]; exact Or.inr ⟨q 0, Nat.le_refl _, rfl⟩
              · rw [if_neg (by omega)]; exact m1
            · by_cases e : t = 9
              · subst e; rw [if_pos rfl]; exact Or.inr ⟨q 0, Nat.le_refl _, rfl⟩
              · rw [if_neg (by omega)]; exact m2
            · rcases hto with ⟨rfl, rfl⟩ | ⟨rfl, rfl⟩
              · exact Or.inr (by rw [if_neg (by omega)]; exact g3)
              · exact Or.inl (by rw [if_neg (by omega)]; exact g3)
      · have e58 : xup (xup I 13 (11 * b + t) (nI (q 0))) 13 (11 * b + 7) 1 58 = I 58 := by rw [xup_ne (by decide), xup_ne (by decide)]
        have e58b : xup (xup (xup I 13 (11 * b + t) (nI (q 0))) 13 (11 * b + 7) 1) 58 (192 + 12 * b + (t + 1)) (nI (q 0)) 58 (192 + 12 * b + 8) = I 58 (192 + 12 * b + 8) := by rw [xup_at, if_neg (by omega), e58]
        have r13b : ∀ j, xup (xup I 13 (11 * b + t) (nI (q 0))) 13 (11 * b + 7) 1 13 j = if j = 11 * b + 7 then 1 else if j = 11 * b + t then nI (q 0) else I 13 j := fun j => by rw [xup_at, xup_at]
        have hs0 : ∀ j, xup (xup (xup I 13 (11 * b + t) (nI (q 0))) 13 (11 * b + 7) 1) 58 (192 + 12 * b + (t + 1)) (nI (q 0)) 58 j = if j = 192 + 12 * b + (t + 1) then nI (q 0) else I 58 j := fun j => by rw [xup_at, e58]
        have hs : ∀ j, xup (xup (xup (xup I 13 (11 * b + t) (nI (q 0))) 13 (11 * b + 7) 1) 58 (192 + 12 * b + (t + 1)) (nI (q 0))) 58 (192 + 12 * b + 8) 1 58 j = if j = 192 + 12 * b + 8 then 1 else if j = 192 + 12 * b + (t + 1) then nI (q 0) else I 58 j := fun j => by rw [xup_at, hs0]
        refine ⟨1, xup (xup I 13 (11 * b + t) (nI (q 0))) 13 (11 * b + 7) 1, xup (xup (xup (xup I 13 (11 * b + t) (nI (q 0))) 13 (11 * b + 7) 1) 58 (192 + 12 * b + (t + 1)) (nI (q 0))) 58 (192 + 12 * b + 8) 1, ?_, ?_, ?_, e58⟩
        · rw [at12_8 hb, at12_9 hb, show F_X8_put_12 (xup I 13 (11 * b + t) (nI (q 0))) (nI b) 7 1 = F_X8_put_12 (xup I 13 (11 * b + t) (nI (q 0))) (nI b) (nI 7) 1 from rfl, put12 hb (by decide)]
          simp only [Option.bind_some]
          rcases hto with ⟨rfl, rfl⟩ | ⟨rfl, rfl⟩
          · have A : xup I 13 (11 * b + 8) (nI (q 0)) 13 (11 * b + 8) = nI (q 0) := by rw [r13, if_pos rfl]
            have B : xup I 13 (11 * b + 8) (nI (q 0)) 13 (11 * b + 9) = I 58 (192 + 12 * b + (9 + 1)) := by rw [r13, if_neg (by omega), oc]
            rw [A, B, if_neg nm, if_neg g3]; rfl
          · have A : xup I 13 (11 * b + 9) (nI (q 0)) 13 (11 * b + 9) = nI (q 0) := by rw [r13, if_pos rfl]
            have B : xup I 13 (11 * b + 9) (nI (q 0)) 13 (11 * b + 8) = I 58 (192 + 12 * b + (8 + 1)) := by rw [r13, if_neg (by omega), oc]
            rw [A, B, if_neg g3, if_neg nm]; rfl
        · rw [bg11_8 hb, e58]
          simp only [Option.bind_some]
          rw [if_pos g1, xal_n (by omega) (by decide), e58, if_pos g2, l0, xal_n (by decide) (by decide), e58, c8, xas_n (by omega) (by decide), bg11_9 hb, bg11_10 hb, xas_n (by omega) (by decide)]
          simp only [Option.bind_some]
          rcases hto with ⟨rfl, rfl⟩ | ⟨rfl, rfl⟩
          · have A : xup (xup (xup I 13 (11 * b + 8) (nI (q 0))) 13 (11 * b + 7) 1) 58 (192 + 12 * b + (8 + 1)) (nI (q 0)) 58 (192 + 12 * b + 9) = nI (q 0) := by rw [hs0, if_pos rfl]
            have B : xup (xup (xup I 13 (11 * b + 8) (nI (q 0))) 13 (11 * b + 7) 1) 58 (192 + 12 * b + (8 + 1)) (nI (q 0)) 58 (192 + 12 * b + 10) = I 58 (192 + 12 * b + (9 + 1)) := by rw [hs0, if_neg (by omega)]
            rw [A, B, if_neg nm, if_neg g3]
          · have A : xup (xup (xup I 13 (11 * b + 9) (nI (q 0))) 13 (11 * b + 7) 1) 58 (192 + 12 * b + (9 + 1)) (nI (q 0)) 58 (192 + 12 * b + 10) = nI (q 0) := by rw [hs0, if_pos rfl]
            have B : xup (xup (xup I 13 (11 * b + 9) (nI (q 0))) 13 (11 * b + 7) 1) 58 (192 + 12 * b + (9 + 1)) (nI (q 0)) 58 (192 + 12 * b + 9) = I 58 (192 + 12 * b + (8 + 1)) := by rw [hs0, if_neg (by omega)]
            rw [A, B, if_neg g3, if_neg nm]
        · refine h.book (xSame.of (fun k' e1 e2 => by rw [xup_ne e2, xup_ne e2, xup_ne (by omega), xup_ne (by omega)]) (fun _ _ => rfl)) ⟨q, ?_⟩
          refine bookB1 hb hB hV.mono (fun k _ _ e => by rw [xup_ne (by omega), xup_ne (by omega), xup_ne e, xup_ne e]) (fun j hj => ?_) (fun j hj => ?_) (Or.inr ⟨?_, fun t' ht' => ?_, ?_⟩)
          · rw [hs, if_neg (by omega), if_neg (by omega)]
          · rw [xup_ne (by decide), xup_ne (by decide), r13b, if_neg (by omega), if_neg (by omega)]
          · rw [hs, if_neg (by omega), if_neg (by omega)]; exact h1
          · rw [hs, xup_ne (by decide), xup_ne (by decide), r13b]
            by_cases e7 : t' = 7
            · rw [if_pos (show 11 * b + t' = 11 * b + 7 by omega), if_pos (show 192 + 12 * b + 1 + t' = 192 + 12 * b + 8 by omega)]
            · rw [if_neg (show ¬ 11 * b + t' = 11 * b + 7 by omega), if_neg (show ¬ 192 + 12 * b + 1 + t' = 192 + 12 * b + 8 by omega)]
              by_cases e : t' = t
              · rw [if_pos (show 11 * b + t' = 11 * b + t by omega), if_pos (show 192 + 12 * b + 1 + t' = 192 + 12 * b + (t + 1) by omega)]
              · rw [if_neg (show ¬ 11 * b + t' = 11 * b + t by omega), if_neg (show ¬ 192 + 12 * b + 1 + t' = 192 + 12 * b + (t + 1) by omega), bcell hBb hb h1 ht', show 192 + 12 * b + 1 + t' = 192 + 12 * b + (t' + 1) by omega]
          · refine ⟨sl, by_, st, sh, pr, dy, ac, 1, ?_⟩
            unfold isUpP at *
            have hk : ∀ j, j ≠ 192 + 12 * b + 8 → j ≠ 192 + 12 * b + (t + 1) → xup (xup (xup (xup I 13 (11 * b + t) (nI (q 0))) 13 (11 * b + 7) 1) 58 (192 + 12 * b + (t + 1)) (nI (q 0))) 58 (192 + 12 * b + 8) 1 58 j = I 58 j := fun j e1 e2 => by rw [hs, if_neg e1, if_neg e2]
            rw [hk (192 + 12 * b + 1) (by omega) (by omega), hk (192 + 12 * b + 2) (by omega) (by omega), hk (192 + 12 * b + 3) (by omega) (by omega), hk (192 + 12 * b + 4) (by omega) (by omega), hk (192 + 12 * b + 5) (by omega) (by omega), hk (192 + 12 * b + 6) (by omega) (by omega), hk (192 + 12 * b + 7) (by omega) (by omega), hk (192 + 12 * b + 11) (by omega) (by omega), hk (16 + 4 * sl) (by omega) (by omega), hk (16 + 4 * by_) (by omega) (by omega), hs (192 + 12 * b + 8), if_pos rfl, hs (192 + 12 * b + 9), hs (192 + 12 * b + 10), if_neg (show ¬ 192 + 12 * b + 9 = 192 + 12 * b + 8 by omega), if_neg (show ¬ 192 + 12 * b + 10 = 192 + 12 * b + 8 by omega)]
            refine ⟨z1, z2, z3, z4, z5, z6, z7, rfl, f1, f2, f3, f4, f5, f6, f7, f8, f9, f10, f11, by decide, ?_, ?_, m3, fun e => absurd e (by decide), fun _ => ?_, fun _ => m6 (by omega)⟩
            · by_cases e : t = 8
              · subst e; rw [if_pos rfl]; exact Or.inr ⟨q 0, Nat.le_refl _, rfl⟩
              · rw [if_neg (by omega)]; exact m1
            · by_cases e : t = 9
              · subst e; rw [if_pos rfl]; exact Or.inr ⟨q 0, Nat.le_refl _, rfl⟩
              · rw [if_neg (by omega)]; exact m2
            · rcases hto with ⟨rfl, rfl⟩ | ⟨rfl, rfl⟩
              · rw [if_pos rfl, if_neg (by omega)]; exact ⟨nm, g3⟩
              · rw [if_pos rfl, if_neg (by omega)]; exact ⟨g3, nm⟩
    · obtain ⟨I1, I2, r1, r2, r3, r4⟩ := ref2k h (-7) 7 (by decide) (by decide)
      refine ⟨-7, I1, I2, ?_, ?_, r3, r4 58 (by decide)⟩
      · rw [if_pos g1, if_neg g2, r1]; rfl
      · rw [bg11_8 hb, r4 58 (by decide)]
        simp only [Option.bind_some]
        rw [if_pos g1, xal_n (by omega) (by decide), r4 58 (by decide), if_neg g2, r2]; rfl
  · obtain ⟨I1, I2, r1, r2, r3, r4⟩ := ref2k h (-7) 7 (by decide) (by decide)
    refine ⟨-7, I1, I2, ?_, ?_, r3, r4 58 (by decide)⟩
    · rw [if_neg g1, r1]; rfl
    · rw [bg11_8 hb, r4 58 (by decide)]
      simp only [Option.bind_some]
      rw [if_neg g1, r2]; rfl
theorem pr_mark : xs_mark xRel := by
  intro kp n I L a1 a2 hn h
  obtain ⟨⟨q, hB, hV⟩, -⟩ := id h
  obtain ⟨c1, c2, c3, c4, c5, c6, c7, c8, c9⟩ := cnt hB hV
  unfold F_X10_mark F_X11_mark F_X10_mark_j22 F_X11_mark_j16 F_X11_mark_j50 F_X0_markColumnOf
  rw [F10_man c1 c5]
  by_cases g1 : ∃ b, b < 60 ∧ a1 = nI b ∧ I 58 (192 + 12 * b) = 1
  · obtain ⟨b, hb, rfl, h1⟩ := g1
    have hBb := hB.2.2.2.1
    rw [th_y hBb hV.2.2.1 hb h1, at12_0 hb, at12_1 hb, bcell hBb hb h1 (by decide), bcell hBb hb h1 (by decide)]
    simp only [Option.bind_some, ite01]
    rw [if_neg (by decide)]
    by_cases g2 : 0 ≤ a2 ∧ a2 ≤ nI (q 1) - 1
    · rw [it_n g2]
      by_cases g3 : I 58 (192 + 12 * b + 1) = a2
      · obtain ⟨r, I1, I2, k1, k2, k3, k4⟩ := mark_core h hb h1 (Or.inl ⟨rfl, rfl⟩)
        refine ⟨r, I1, I2, ?_, ?_, k3⟩
        · rw [if_pos g3, Option.bind_some, if_neg (by decide)]; exact k1
        · rw [bn_y hb (by rw [k4]; exact h1), F11_man (q := q) (by rw [k4]; exact c3), bg11_1 hb, k4]
          simp only [Option.bind_some, ite01]
          rw [if_neg (by decide), it_n g2, if_pos g3, if_pos g3]; exact k2
      · by_cases g4 : I 58 (192 + 12 * b + 2) = a2
        · obtain ⟨r, I1, I2, k1, k2, k3, k4⟩ := mark_core h hb h1 (Or.inr ⟨rfl, rfl⟩)
          refine ⟨r, I1, I2, ?_, ?_, k3⟩
          · rw [if_neg g3, if_pos g4, Option.bind_some, if_neg (by decide)]; exact k1
          · rw [bn_y hb (by rw [k4]; exact h1), F11_man (q := q) (by rw [k4]; exact c3), bg11_1 hb, bg11_2 hb, k4]
            simp only [Option.bind_some, ite01]
            rw [if_neg (by decide), it_n g2, if_neg g3, if_pos g4, if_neg g3]; exact k2
        · obtain ⟨I1, I2, r1, r2, r3, r4⟩ := ref2k h (-5) 5 (by decide) (by decide)
          refine ⟨-5, I1, I2, ?_, ?_, r3⟩
          · rw [if_neg g3, if_neg g4, Option.bind_some, if_pos rfl, r1]; rfl
          · rw [bn_y hb (by rw [r4 58 (by decide)]; exact h1), F11_man (q := q) (by rw [r4 58 (by decide)]; exact c3), bg11_1 hb, bg11_2 hb, r4 58 (by decide)]
            simp only [Option.bind_some, ite01]
            rw [if_neg (by decide), it_n g2, if_neg g3, if_neg g4, r2]; rfl
    · obtain ⟨I1, I2, r1, r2, r3, r4⟩ := ref2k h (-3) 3 (by decide) (by decide)
      refine ⟨-3, I1, I2, ?_, ?_, r3⟩
      · rw [it_p g2, r1]; rfl
      · rw [bn_y hb (by rw [r4 58 (by decide)]; exact h1), F11_man (q := q) (by rw [r4 58 (by decide)]; exact c3)]
        simp only [Option.bind_some, ite01]
        rw [if_neg (by decide), it_p g2, r2]; rfl
  · obtain ⟨I1, I2, r1, r2, r3, r4⟩ := ref2k h (-3) 3 (by decide) (by decide)
    refine ⟨-3, I1, I2, ?_, ?_, r3⟩
    · rw [th_n hB.2.2.2.1 g1, r1]; rfl
    · rw [bn_n (q := q) (by rw [r4 58 (by decide)]; exact hV.2.2.1) (by rw [r4 58 (by decide)]; exact g1), r2]; rfl
