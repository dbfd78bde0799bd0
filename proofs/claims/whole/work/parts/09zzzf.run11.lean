section
/-! run: names. A ticket is passed on -/
theorem passOn_sim {I0 J0 I J : xTI} {q : Nat → Nat} {k : Nat} {ac nm has x6 x8 h : Int32} {i T p d : Nat} {lf g : Nat → Nat} {wd D S P : Nat} (hM : nMid I0 J0 I J q k ac nm has i T p d lf g wd D S P) (hB : BRb I0 (J0 58)) (hV : IVb (J0 58) q) (hwd : wd ≤ 5940) (hP : P < 2 ^ 30) (hnm : ∃ a, a < q 1 ∧ nm = nI a ∧ isUpP (J0 58) a ∧ 0 < NT (J0 58) a (nI k) ac) (hx8 : x8 = -1 ∨ manU (J0 58) q x8) (L : xTL) : ∃ I2 J2 T2 p2 lf2 wd2, nMid I0 J0 I2 J2 q k ac nm has i T2 p2 d lf2 g wd2 D S P ∧ xlp (F_X4_passOn_b95 xN (nI k) (nI (i % 128)) has x6 x8) xN (nI wd, 0, I) = some I2 ∧ ∀ K, xlp (F_X11_names_b321 K xN L (nI k) h (nI i) has x6 x8) xN (nI wd, 0, J) = K (nI (i + 1), J2) := by
  have key := xlp_wh (κ1 := Unit) (κ2 := Int32 × xTI → Option (xTI × xTL)) (b1 := fun _ => F_X4_passOn_b95 xN (nI k) (nI (i % 128)) has x6 x8) (b2 := fun K => F_X11_names_b321 K xN L (nI k) h (nI i) has x6 x8) (P := fun dd x y => ∃ b T2 p2 lf2 wd2, b + dd = 61 ∧ b ≤ 60 ∧ x.2.1 = nI b ∧ y.2.1 = nI b ∧ x.1 = nI wd2 ∧ y.1 = nI wd2 ∧ wd2 ≤ 5940 ∧ nMid I0 J0 x.2.2 y.2.2 q k ac nm has i T2 p2 d lf2 g wd2 D S P) (Z := fun x y => ∃ T2 p2 lf2 wd2, nMid I0 J0 x.2.2 y.2.2 q k ac nm has i T2 p2 d lf2 g wd2 D S P) (o1 := fun _ x => some x.2.2) (o2 := fun K y => K (nI (i + 1), y.2.2)) ?_ 61 xN xN (nI wd, 0, I) (nI wd, 0, J) (by decide) (by decide) ⟨0, T, p, lf, wd, rfl, by decide, rfl, rfl, rfl, rfl, hwd, hM⟩
  · obtain ⟨x, y, ⟨T2, p2, lf2, wd2, hz⟩, e1, e2⟩ := key
    exact ⟨x.2.2, y.2.2, T2, p2, lf2, wd2, hz, e1 (), e2⟩
  · rintro dd ⟨x9, x10, I⟩ ⟨y6, y9, J⟩ ⟨b, T2, p2, lf2, wd2, hbd, hb60, e1, e2, e3, e4, hw, hm⟩
    dsimp only at e1 e2 e3 e4 hm
    subst e1 e2 e3 e4
    by_cases hb : b = 60
    · subst hb
      refine Or.inl ⟨fun K k' => ?_, fun K k' => ?_, T2, p2, lf2, wd2, hm⟩
      · show F_X4_passOn_c95 xN (nI k) (nI (i % 128)) has x6 x8 (nI wd2) (nI 60) I k' = _
        unfold F_X4_passOn_c95
        rw [if_pos (by decide)]
      · show F_X11_names_c321 K xN L (nI k) h (nI i) has x6 x8 (nI wd2) (nI 60) J k' = _
        unfold F_X11_names_c321
        rw [if_pos (by decide), xbn_e, nI_1]
    · have hb' : b < 60 := by omega
      by_cases h0 : wd2 = 0
      · subst h0
        refine Or.inl ⟨fun K k' => ?_, fun K k' => ?_, T2, p2, lf2, 0, hm⟩
        · show F_X4_passOn_c95 xN (nI k) (nI (i % 128)) has x6 x8 (nI 0) (nI b) I k' = _
          unfold F_X4_passOn_c95
          rw [if_neg (n60 hb'), if_pos (by decide)]
        · show F_X11_names_c321 K xN L (nI k) h (nI i) has x6 x8 (nI 0) (nI b) J k' = _
          unfold F_X11_names_c321
          rw [if_neg (n60 hb'), if_pos (by decide), xbn_e, nI_1]
      · obtain ⟨hF, hT, hD, hQ, hL, hG, ⟨hiT, h335, h336, h57⟩, ⟨hnm34, hnm63, hhas⟩, hC⟩ := id hm
        obtain ⟨l1, l2, l3, l4⟩ := hL b hb'
        have w0 : ¬ nI wd2 ≤ 0 := nI_nle (by omega) (by omega)
        have e13 : I 13 = I0 13 := hF.1 13 (by decide) (by decide) (by decide) (by decide) (by decide) (by decide) (by decide)
        have eb : ∀ t, t < 12 → J 58 (192 + 12 * b + t) = J0 58 (192 + 12 * b + t) := fun t ht => hF.2.1 _ (by omega) (by omega) (by omega)
        have skip : (∀ k', F_X4_passOn_b95 xN (nI k) (nI (i % 128)) has x6 x8 (nI wd2, nI b, I) k' = k' (nI wd2, nI (b + 1), I)) → (∀ K k', F_X11_names_b321 K xN L (nI k) h (nI i) has x6 x8 (nI wd2, nI b, J) k' = k' (nI wd2, nI (b + 1), J)) → (∃ d' x' y', d' < dd ∧ (∀ (K : Unit) k', F_X4_passOn_b95 xN (nI k) (nI (i % 128)) has x6 x8 (nI wd2, nI b, I) k' = k' x') ∧ (∀ K k', F_X11_names_b321 K xN L (nI k) h (nI i) has x6 x8 (nI wd2, nI b, J) k' = k' y') ∧ ∃ b T2 p2 lf2 wd2, b + d' = 61 ∧ b ≤ 60 ∧ x'.2.1 = nI b ∧ y'.2.1 = nI b ∧ x'.1 = nI wd2 ∧ y'.1 = nI wd2 ∧ wd2 ≤ 5940 ∧ nMid I0 J0 x'.2.2 y'.2.2 q k ac nm has i T2 p2 d lf2 g wd2 D S P) := fun f1 f2 => ⟨dd - 1, (nI wd2, nI (b + 1), I), (nI wd2, nI (b + 1), J), by omega, fun K k' => f1 k', fun K k' => f2 K k', b + 1, T2, p2, lf2, wd2, by omega, by omega, rfl, rfl, rfl, rfl, hw, hm⟩
        have u : ∀ k', F_X4_passOn_b95 xN (nI k) (nI (i % 128)) has x6 x8 (nI wd2, nI b, I) k' = (if nI (min (lf2 b) wd2) ≤ 0 then k' (nI wd2, nI (b + 1), I) else (if I0 13 (11 * b + 1) = has then xal (xup I 40 b (nI (lf2 b) - nI (min (lf2 b) wd2))) 34 128 (nI (i % 128)) (fun v9 => Option.bind (F_X0_at (xup I 40 b (nI (lf2 b) - nI (min (lf2 b) wd2))) (nI b) 0) (fun v10 => Option.bind (F_X4_line (xup I 40 b (nI (lf2 b) - nI (min (lf2 b) wd2))) v9 v10 (nI (min (lf2 b) wd2)) x6 x8) (fun (v11, I12) => Option.bind (F_X4_notePass_24 I12 (nI k) has v11) (fun I13 => k' (nI wd2 - nI (min (lf2 b) wd2), nI (b + 1), I13))))) else k' (nI wd2, nI (b + 1), I))) := by
          intro k'
          show F_X4_passOn_c95 xN (nI k) (nI (i % 128)) has x6 x8 (nI wd2) (nI b) I k' = _
          unfold F_X4_passOn_c95
          have hmin : (if nI wd2 < nI (lf2 b) then nI wd2 else nI (lf2 b)) = nI (min (lf2 b) wd2) := by
            by_cases e : wd2 < lf2 b
            · rw [if_pos (nI_lt e (by omega)), Nat.min_eq_right (by omega)]
            · rw [if_neg (nI_nlt (by omega) (by omega)), Nat.min_eq_left (by omega)]
          rw [if_neg (n60 hb'), if_neg w0, xal_n hb' (by decide), xbn_e, l1, hmin, show F_X0_at I (nI b) 1 = some (I0 13 (11 * b + 1)) by unfold F_X0_at; rw [at12_1 hb', e13]; rfl]
          simp only [Option.bind_some, xbn_e, nI_1]
          rw [xal_n hb' (by decide), xas_n hb' (by decide), l1]
        have w : ∀ K k', F_X11_names_b321 K xN L (nI k) h (nI i) has x6 x8 (nI wd2, nI b, J) k' = (if nI (lf2 b) = 0 then k' (nI wd2, nI (b + 1), J) else (if J0 58 (192 + 12 * b + 2) = has then Option.bind (F_X11_passes (xup J 69 b (nI (lf2 b) - nI (min (lf2 b) wd2))) (nI k) (nI i) (J0 58 (192 + 12 * b + 1)) (nI (min (lf2 b) wd2)) x6 x8) (fun I5 => k' (nI wd2 - nI (min (lf2 b) wd2), nI (b + 1), I5)) else k' (nI wd2, nI (b + 1), J))) := by
          intro K k'
          show F_X11_names_c321 K xN L (nI k) h (nI i) has x6 x8 (nI wd2) (nI b) J k' = _
          unfold F_X11_names_c321 F_X11_names_j382
          have hj : ∀ t0 : Int32, Option.bind (F_X11_bg (xup J 69 b (nI (lf2 b) - t0)) (nI b) 1) (fun v4 => Option.bind (F_X11_passes (xup J 69 b (nI (lf2 b) - t0)) (nI k) (nI i) v4 t0 x6 x8) (fun I5 => xbn (nI b + 1) (fun y6 => k' (nI wd2 - t0, y6, I5)))) = Option.bind (F_X11_passes (xup J 69 b (nI (lf2 b) - t0)) (nI k) (nI i) (J0 58 (192 + 12 * b + 1)) t0 x6 x8) (fun I5 => k' (nI wd2 - t0, nI (b + 1), I5)) := by
            intro t0
            rw [bg11_1 hb', xup_ne (by decide), eb 1 (by decide), Option.bind_some]
            simp only [xbn_e, nI_1]
          have ex : ∀ (F : Int32 → Option (xTI × xTL)), xal J 69 60 (nI b) F = F (nI (lf2 b)) := fun F => by rw [xal_n hb' (by decide), l2]
          have es : ∀ (v : Int32) (F : xTI → Option (xTI × xTL)), xas J 69 60 (nI b) v F = F (xup J 69 b v) := fun v F => xas_n hb' (by decide)
          simp only [ex, es, xbn_e (R := xTI × xTL)]
          rw [if_neg (n60 hb'), if_neg w0, bg11_2 hb', eb 2 (by decide), Option.bind_some]
          by_cases e : lf2 b ≤ wd2
          · rw [Nat.min_eq_left e, if_pos (nI_le e (by omega))]
            have := hj (nI (lf2 b))
            simp only [xbn_e] at this
            rw [this, nI_1]
          · rw [Nat.min_eq_right (by omega), if_neg (nI_ge (by omega) (by omega))]
            have := hj (nI wd2)
            simp only [xbn_e] at this
            rw [this, nI_1]
        by_cases hl : lf2 b = 0
        · exact Or.inr <| skip (fun k' => by rw [u, hl, Nat.zero_min, if_pos (by decide)]) (fun K k' => by rw [w, hl, if_pos (by decide)])
        · have hst := l4 (by omega)
          have cl : ∀ t, t < 11 → I0 13 (11 * b + t) = J0 58 (192 + 12 * b + (t + 1)) := fun t ht => bcell2 hB hb' hst.1 ht
          have hmn : ¬ nI (min (lf2 b) wd2) ≤ 0 := nI_nle (by omega) (by omega)
          have hln : ¬ nI (lf2 b) = 0 := nI_ne0 (by omega) (by omega)
          by_cases hh : J0 58 (192 + 12 * b + 2) = has
          · have hp2 : p2 < 2 ^ 30 := by have := hC.2.2.2.2; omega
            have hT8 : T2 < 8000 := by have := hC.2.1; omega
            have hw72 := hC.1
            have st := pass_step (x6 := x6) (x8 := x8) hm hV hb' (by omega) rfl (by omega) hP hnm hx8
            refine Or.inr ⟨dd - 1, (nI (wd2 - min (lf2 b) wd2), nI (b + 1), psI I b (T2 % 128) (T2 - (i + 1)) p2 (nI (lf2 b - min (lf2 b) wd2)) (nI k) has nm (J0 58 (192 + 12 * b + 1)) (nI (min (lf2 b) wd2)) x6 x8), (nI (wd2 - min (lf2 b) wd2), nI (b + 1), psJ (xup J 69 b (nI (lf2 b - min (lf2 b) wd2))) i p2 T2 (nI k) (J0 58 (192 + 12 * b + 1)) (nI (min (lf2 b) wd2)) x6 x8), by omega, fun K k' => ?_, fun K k' => ?_, b + 1, T2 + 1, p2 + 1, _, wd2 - min (lf2 b) wd2, by omega, by omega, rfl, rfl, rfl, rfl, by omega, st⟩
            · skip
              rw [u, if_neg hmn, cl 1 (by decide), if_pos hh, nI_sub (by omega), nI_sub (by omega), xal_n (by omega) (by decide), xup_ne (by decide), hnm34, show F_X0_at (xup I 40 b (nI (lf2 b - min (lf2 b) wd2))) (nI b) 0 = some (J0 58 (192 + 12 * b + 1)) by unfold F_X0_at; rw [at12_0 hb', xup_ne (by decide), e13, cl 0 (by decide)]; rfl, Option.bind_some, line_e (h := (i + 1) % 128) (w := T2 - (i + 1)) (o := T2 % 128) (by rw [xup_ne (by decide)]; exact h335) (by rw [xup_ne (by decide)]; exact h336) (by omega) (by omega) (by omega), Option.bind_some]
              have hla := lnI_at (I := xup I 40 b (nI (lf2 b - min (lf2 b) wd2))) (o := T2 % 128) (w := T2 - (i + 1)) (x1 := nm) (x2 := J0 58 (192 + 12 * b + 1)) (x3 := nI (min (lf2 b) wd2)) (x4 := x6) (x5 := x8) (j := T2 % 128)
              rw [if_pos rfl, if_pos rfl, if_pos rfl, if_pos rfl, if_pos rfl] at hla
              try dsimp only
              rw [noteP (p := p2) (by omega) hp2 (by rw [lnI_ne (by decide), xup_ne (by decide)]; exact hT.1), hla.1, hla.2.1, hla.2.2.1, hla.2.2.2.1, hla.2.2.2.2.1]
              rfl
            · skip
              rw [w, if_neg hln, if_pos hh, nI_sub (by omega), nI_sub (by omega), pass_e (p := p2) (T := T2) (by omega) hp2 (by rw [xup_ne (by decide)]; exact hT.2.2.1) (by rw [xup_ne (by decide)]; exact h57) hT8]
              rfl
          · exact Or.inr <| skip (fun k' => by rw [u, if_neg hmn, cl 1 (by decide), if_neg hh]) (fun K k' => by rw [w, if_neg hln, if_neg hh])
end
