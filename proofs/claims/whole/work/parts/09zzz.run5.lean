section
/-! run: dividends are paid -/
/-- class and reference between: ints, holds, coins -/
def RSt (I : xTI) (L : xTL) (J : xTI) (M : xTL) (q : Nat → Nat) (n H C E : Nat) : Prop := BRi I (J 58) q ∧ IVi (J 58) q n ∧ Hb (J 58) H ∧ BRc L (J 58) (M 59) ∧ CE (M 59) (J 58) q C E
/-- where the reference goes on when the dividends are paid -/
def clA (d : Int32) (J : xTI) (M : xTL) : Option (xTI × xTL) := if (d - d / 14 * 14) = 9 then Option.bind (F_X11_marksUp xN J (d / 14)) (fun I3 => F_X11_close_j224 xN I3 M d) else F_X11_close_j224 xN J M d
theorem div_sim {I : xTI} {L : xTL} {J : xTI} {M : xTL} {q : Nat → Nat} {n H C E : Nat} (hS : RSt I L J M q n H C E) (hbd : C + 9990 * H < 2 ^ 60) (hH2 : H < 2 ^ 31) (hbe : E + 59340600 < 2 ^ 60) : ∃ I2 L2 J2 M2 w, F_X2_payDividends xN I L = some (I2, L2) ∧ xlp (F_X11_close_b96 xN (nI (q 0))) xN (0, 0, J, M) = clA (nI (q 0)) J2 M2 ∧ RSt I2 L2 J2 M2 (qs q 5 w) n H (C + 9990 * H) (E + 59340600) ∧ RFc I I2 L L2 ∧ RFm J J2 M M2 := by
  have c5 : q 1 ≤ 12 := hS.2.1.1.2.2.1
  have q5 : q 5 ≤ 10 := hS.2.1.1.2.2.2.2.2.2.1
  unfold F_X2_payDividends
  rw [xbn_e, hS.1.1.2.2.2.2.2.1, if_neg (show ¬ (10 : Int32) < nI (q 5) from nI_nlt (a := 10) q5 (by decide)), xbn_e]
  refine xlp_sim (P := fun i x y => ∃ w, w ≤ i ∧ x.1 = nI w ∧ x.2.1 = nI i ∧ y.1 = nI w ∧ y.2.1 = nI i ∧ RSt x.2.2.1 x.2.2.2 y.2.2.1 y.2.2.2 q n H (C + 999 * H * i) (E + 5934060 * i) ∧ RFc I x.2.2.1 L x.2.2.2 ∧ RFm J y.2.2.1 M y.2.2.2) (q 5) (fun r1 r2 => ∃ (I2 : xTI) (L2 : xTL) (J2 : xTI) (M2 : xTL) (w : Nat), r1 = some (I2, L2) ∧ r2 = clA (nI (q 0)) J2 M2 ∧ RSt I2 L2 J2 M2 (qs q 5 w) n H (C + 9990 * H) (E + 59340600) ∧ RFc I I2 L L2 ∧ RFm J J2 M M2) ?_ ?_ xN xN (by show q 5 < 100000; omega) (by show q 5 < 100000; omega) (0, 0, I, L) (0, 0, J, M) ⟨0, Nat.le_refl _, rfl, rfl, rfl, rfl, hS, RFc.rfl' _ _, RFm.rfl' _ _⟩
  · rintro i hi ⟨x3, x5, I', L'⟩ ⟨y2, y3, J', M'⟩ ⟨w, hw, e1, e2, e3, e4, hR, hf, hg⟩
    dsimp only at e1 e2 e3 e4 hR hf hg
    subst e1 e2 e3 e4
    obtain ⟨hI, hV, hH, hc, hC⟩ := hR
    have c9 := hV.1.2.1
    have hi10 : i < 10 := by omega
    have rw_ : ∀ t, t < 3 → I' 23 (3 * i + t) = J' 58 (1052 + 3 * i + t) := fun t ht => hI.2.2.2.1.2.1 i hi t ht
    obtain ⟨⟨k, hk, ek⟩, ⟨dd, hdd, ed⟩, p, hp1, hp2, ep⟩ := hV.2.2.2.1.2 i hi
    have q2 := hV.1.2.2.2.1
    have a0 : I' 23 (3 * i + 0) = nI k := by rw [rw_ 0 (by decide)]; exact ek
    have a1 : I' 23 (3 * i + 1) = nI dd := by rw [rw_ 1 (by decide)]; exact ed
    have a2 : I' 23 (3 * i + 2) = nI p := by rw [rw_ 2 (by decide)]; exact ep
    have u1 : ∀ K, F_X2_payDividends_b21 xN (nI (q 5)) (nI w, nI i, I', L') K = (if nI dd = nI (q 0) then Option.bind (F_X2_payHolders xN I' L' (nI k) (nI p)) (fun L11 => Option.bind (F_X2_oweExtra xN I' L11 (nI k) (nI p)) (fun (I12, L13) => K (nI w, nI (i + 1), I12, L13))) else K (nI (w + 1), nI (i + 1), xup (xup (xup I' 23 (3 * w + 0) (nI k)) 23 (3 * w + 1) (nI dd)) 23 (3 * w + 2) (nI p), L')) := by
      intro K
      show F_X2_payDividends_c21 xN (nI (q 5)) (nI w) (nI i) I' L' K = _
      unfold F_X2_payDividends_c21
      rw [if_neg (nI_ge hi (by omega)), (at22_l hi10).1, (at22_l hi10).2.1, (at22_l hi10).2.2, a0, a1, a2]
      simp only [Option.bind_some, xbn_e, (put22_l (show w < 10 by omega)).1, (put22_l (show w < 10 by omega)).2.1, (put22_l (show w < 10 by omega)).2.2, nI_1, hI.1.1]
    have w1 : ∀ K, F_X11_close_b96 xN (nI (q 0)) (nI w, nI i, J', M') K = (if nI dd = nI (q 0) then Option.bind (F_X11_paysOut xN J' M' (nI k) (nI p)) (fun (I8, L9) => K (nI w, nI (i + 1), I8, L9)) else K (nI (w + 1), nI (i + 1), wr J' 58 (1052 + 3 * w) (fun t => J' 58 (1052 + 3 * i + t)) 3, M')) := by
      intro K
      show F_X11_close_c96 xN (nI (q 0)) (nI w) (nI i) J' M' K = _
      unfold F_X11_close_c96
      have y4 : (1052 : Int32) + 3 * nI i = nI (1052 + 3 * i) := by rw [show (1052 : Int32) = nI 1052 from rfl, show (3 : Int32) = nI 3 from rfl, nI_mul, nI_add]
      rw [s58_5, hV.1.1 5 (by decide), if_neg (nI_ge hi (by omega)), xbn_e, y4]
      rw [xal_i (i := 1052 + 3 * i + 1) (by rw [nI_1]) (by omega) (by decide), ed]
      by_cases e : nI dd = nI (q 0)
      · rw [if_pos e, if_pos e, xal_i (i := 1052 + 3 * i) rfl (by omega) (by decide), ek, xal_i (i := 1052 + 3 * i + 2) (by rw [show (2 : Int32) = nI 2 from rfl, nI_add]) (by omega) (by decide), ep, nI_1]; rfl
      · rw [if_neg e, if_neg e]
        rw [show ((0 : Int32), J') = (fun t => (nI t, wr J' 58 (1052 + 3 * w) (fun t => J' 58 (1052 + 3 * i + t)) t)) 0 from rfl]
        refine xlp_for (fun t => (nI t, wr J' 58 (1052 + 3 * w) (fun t => J' 58 (1052 + 3 * i + t)) t)) 3 _ (fun t ht K' => ?_) (fun K' => ?_) xN (by decide)
        · show F_X11_close_c154 K xN M' (nI (q 0)) (nI w) (nI i) (nI (1052 + 3 * i)) (nI t) (wr J' 58 (1052 + 3 * w) (fun t => J' 58 (1052 + 3 * i + t)) t) K' = _
          unfold F_X11_close_c154
          rw [if_neg (show ¬ (3 : Int32) ≤ nI t from nI_ge (b := 3) ht (by decide)), nI_add, xal_n (by omega) (by decide), wr_out t (by omega), xas_i (i := 1052 + 3 * w + t) (by rw [show (1052 : Int32) = nI 1052 from rfl, show (3 : Int32) = nI 3 from rfl, ixc]) (by omega) (by decide), xbn_e, nI_1]; rfl
        · show F_X11_close_c154 K xN M' (nI (q 0)) (nI w) (nI i) (nI (1052 + 3 * i)) (nI 3) (wr J' 58 (1052 + 3 * w) (fun t => J' 58 (1052 + 3 * i + t)) 3) K' = _
          unfold F_X11_close_c154
          rw [if_pos (by decide), xbn_e, xbn_e, nI_1, nI_1]
    have hHi : 999 * H * i ≤ 999 * H * 9 := Nat.mul_le_mul_left _ (by omega)
    by_cases e : dd = q 0
    · obtain ⟨L2, M2, x1, x2, x3, x4, x5, x6⟩ := holders_sim (k := k) (p := p) hI hV hH hc hC (by omega) hp2 (by omega) hH2
      obtain ⟨I3, L3, J3, M3, z1, z2, z3, z4, z5, z6, z7, z8⟩ := owe_sim (k := k) (p := p) hI hV x3 x4 (by omega) hp2 (by omega)
      have e58 : J3 58 = J' 58 := z7.c (by decide) (by decide)
      refine ⟨(nI w, nI (i + 1), I3, L3), (nI w, nI (i + 1), J3, M3), fun K => by rw [u1, if_pos (by rw [e]), x1, Option.bind_some, z1, Option.bind_some], fun K => by rw [w1, if_pos (by rw [e]), x2, z2, Option.bind_some], w, by omega, rfl, rfl, rfl, rfl, ?_, ?_, ?_⟩
      · unfold RSt
        dsimp only
        rw [e58]
        refine ⟨hI.tl z5, hV, hH, z3, ?_⟩
        rw [show 999 * H * (i + 1) = 999 * H * i + 999 * H from Nat.mul_succ _ _, show 5934060 * (i + 1) = 5934060 * i + 5934060 by omega, ← Nat.add_assoc, ← Nat.add_assoc]
        exact z4
      · exact hf.trans ⟨fun k hk => z5 k (by omega) (by omega), fun k hk => (z6 k hk).trans (x5 k hk)⟩
      · exact hg.trans ⟨⟨fun k j hk => z7 k j (by omega) (by omega), fun k hk => (z8 k (by omega) (by omega)).trans (x6 k (by omega))⟩, fun j h1 h2 => z7 58 j (by decide) (by omega)⟩
    · have en : ¬ nI dd = nI (q 0) := fun h => e ((nI_eq (by omega) (by omega)).mp h)
      refine ⟨(nI (w + 1), nI (i + 1), xup (xup (xup I' 23 (3 * w + 0) (nI k)) 23 (3 * w + 1) (nI dd)) 23 (3 * w + 2) (nI p), L'), (nI (w + 1), nI (i + 1), wr J' 58 (1052 + 3 * w) (fun t => J' 58 (1052 + 3 * i + t)) 3, M'), fun K => by rw [u1, if_neg en], fun K => by rw [w1, if_neg en], w + 1, by omega, rfl, rfl, rfl, rfl, ?_, ?_, ?_⟩
      · unfold RSt
        dsimp only
        have hne : ∀ k', k' ≠ 23 → xup (xup (xup I' 23 (3 * w + 0) (nI k)) 23 (3 * w + 1) (nI dd)) 23 (3 * w + 2) (nI p) k' = I' k' := fun k' h => by rw [xup_ne h, xup_ne h, xup_ne h]
        have hso : ∀ j, (j < 1052 + 3 * w ∨ 1052 + 3 * w + 3 ≤ j) → wr J' 58 (1052 + 3 * w) (fun t => J' 58 (1052 + 3 * i + t)) 3 58 j = J' 58 j := fun j hj => wr_out 3 (by omega)
        have hsi : ∀ t, t < 3 → wr J' 58 (1052 + 3 * w) (fun t => J' 58 (1052 + 3 * i + t)) 3 58 (1052 + 3 * w + t) = J' 58 (1052 + 3 * i + t) := fun t ht => wr_in 3 ht
        have X := bkD (I2 := xup (xup (xup I' 23 (3 * w + 0) (nI k)) 23 (3 * w + 1) (nI dd)) 23 (3 * w + 2) (nI p)) (s2 := wr J' 58 (1052 + 3 * w) (fun t => J' 58 (1052 + 3 * i + t)) 3 58) (w := q 5) hI hV q5 (fun k' _ _ _ h _ _ => hne k' h) (by rw [hne 22 (by decide)]; exact hI.1.2.2.2.2.2.1) (by rw [hso 5 (by omega)]; exact hV.1.1 5 (by decide)) (fun j _ h => hso j (by omega)) (fun r hr => ?_)
        · rw [qs_self] at X
          refine ⟨X.1, X.2, fun j hj => by rw [hso _ (by omega)]; exact hH j hj, hc.fr (fun m hm => hso _ (by omega)), ?_⟩
          refine CE.fr ?_ (fun m hm => hso _ (by omega))
          refine ⟨fun m hm => ⟨(hC.1 m hm).1, ?_, (hC.1 m hm).2.2⟩, hC.2.1, hC.2.2.1, by have := hC.2.2.2; omega⟩
          have := (hC.1 m hm).2.1
          rw [show 999 * H * (i + 1) = 999 * H * i + 999 * H from Nat.mul_succ _ _]
          omega
        · by_cases er : r = w
          · subst er
            refine ⟨i, hi, fun t ht => ⟨?_, hsi t ht⟩⟩
            rw [xup_at, xup_at, xup_at]
            have : t = 0 ∨ t = 1 ∨ t = 2 := by omega
            rcases this with rfl | rfl | rfl
            · rw [if_neg (by omega), if_neg (by omega), if_pos rfl, a0]
            · rw [if_neg (by omega), if_pos rfl, a1]
            · rw [if_pos rfl, a2]
          · refine ⟨r, hr, fun t ht => ⟨?_, hso _ (by omega)⟩⟩
            rw [xup_at, xup_at, xup_at, if_neg (by omega), if_neg (by omega), if_neg (by omega)]
      · exact hf.trans ⟨fun k' hk' => by dsimp only; rw [xup_ne (by omega), xup_ne (by omega), xup_ne (by omega)], fun _ _ => rfl⟩
      · exact hg.trans ⟨⟨fun k' j hk' => by dsimp only; rw [wr_ne (by omega)], fun _ _ => rfl⟩, fun j h1 h2 => by dsimp only; rw [wr_out _ (by omega)]⟩
  · rintro ⟨x3, x5, I', L'⟩ ⟨y2, y3, J', M'⟩ ⟨w, hw, e1, e2, e3, e4, hR, hf, hg⟩
    dsimp only at e1 e2 e3 e4 hR hf hg
    subst e1 e2 e3 e4
    obtain ⟨hI, hV, hH, hc, hC⟩ := hR
    have hHi : 999 * H * q 5 ≤ 999 * H * 10 := Nat.mul_le_mul_left _ (by omega)
    have hso : ∀ j, xup J' 58 5 (nI w) 58 j = if j = 5 then nI w else J' 58 j := fun j => xup_at
    refine ⟨some (xup I' 22 3 (nI w), L'), clA (nI (q 0)) (xup J' 58 5 (nI w)) M', fun K => ?_, fun K => ?_, xup I' 22 3 (nI w), L', xup J' 58 5 (nI w), M', w, rfl, rfl, ?_, ?_, ?_⟩
    · show F_X2_payDividends_c21 xN (nI (q 5)) (nI w) (nI (q 5)) I' L' K = _
      unfold F_X2_payDividends_c21
      rw [if_pos (nI_le (Nat.le_refl _) (by omega))]; rfl
    · show F_X11_close_c96 xN (nI (q 0)) (nI w) (nI (q 5)) J' M' K = _
      unfold F_X11_close_c96
      rw [s58_5, hV.1.1 5 (by decide), if_pos (nI_le (Nat.le_refl _) (by omega)), xas_i (x := 5) (i := 5) rfl (by omega) (by decide)]; rfl
    · have X := bkD (I2 := xup I' 22 3 (nI w)) (s2 := xup J' 58 5 (nI w) 58) (w := w) hI hV (by omega) (fun k' _ _ h _ _ _ => xup_ne h) (by rw [xup_at, if_pos rfl]) (by rw [hso, if_pos rfl]) (fun j h _ => by rw [hso, if_neg h]) (fun r hr => ⟨r, by omega, fun t ht => ⟨by rw [xup_ne (by decide)], by rw [hso, if_neg (by omega)]⟩⟩)
      refine ⟨X.1, X.2, fun j hj => by rw [hso, if_neg (by omega)]; exact hH j hj, hc.fr (fun m hm => by rw [hso, if_neg (by omega)]), ?_⟩
      refine CE.fr (q := qs q 5 w) (s := J' 58) ?_ (fun m hm => by rw [hso, if_neg (by omega)])
      refine ⟨fun m hm => ⟨(hC.1 m hm).1, ?_, (hC.1 m hm).2.2⟩, hC.2.1, hC.2.2.1, by have := hC.2.2.2; omega⟩
      have := (hC.1 m hm).2.1
      omega
    · exact hf.trans ⟨fun k' hk' => by rw [xup_ne (by omega)], fun _ _ => rfl⟩
    · exact hg.trans ⟨⟨fun k' j hk' => by rw [xup_ne (by omega)], fun _ _ => rfl⟩, fun j h1 h2 => by rw [xup_at, if_neg (by omega)]⟩
end
