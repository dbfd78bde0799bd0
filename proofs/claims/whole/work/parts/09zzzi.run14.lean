section
/-! run: names. The row of a stock -/
theorem nd_IVd {s s0 : Nat → Int32} {q q2 : Nat → Nat} {ac : Int32} {d : Nat} (h : nDel s s0 q ac d) (hd : dvS s d ≤ 5940) (hu : ∀ m, m < q 1 → s (16 + 4 * m) = s0 (16 + 4 * m)) (h1 : q2 1 = q 1) (h2 : q2 2 = q 2) (h7 : q2 7 = d) : IVd s q2 := by
  refine ⟨fun i hi => ?_, by rw [h7]; exact hd, fun i j hi hj e => ?_⟩
  · rw [h7] at hi
    obtain ⟨kk, f, t, sh, a0, a1, a2, a3, a4, a5, a6, a7, a8, a9, a10, a11, a12, a13, a14⟩ := h i hi
    rw [h1, h2]
    refine ⟨kk, f, t, sh, a0, a1, a2, a3, a4, a5, a6, a7, a8, a9, ?_, fun _ => ?_⟩
    · rcases a10 with z | ⟨m, z1, z2, z3⟩
      · exact Or.inl z
      · refine Or.inr ⟨m, z1, z2, fun _ => ?_⟩
        unfold isUpP at z3 ⊢
        rw [hu m z1]; exact z3
    · unfold isUpP at a11 a12 ⊢
      rw [hu f a5, hu t a6]; exact ⟨a11, a12⟩
  · rw [h7] at hi hj
    obtain ⟨kk, f, t, sh, a0, a1, a2, a3, a4, a5, a6, a7, a8, a9, a10, a11, a12, a13, a14⟩ := h i hi
    obtain ⟨kk', f', t', sh', b0, b1, b2, b3, b4, b5, b6, b7, b8, b9, b10, b11, b12, b13, b14⟩ := h j hj
    intro z
    rw [a1, b2] at z
    rw [a0, b0] at e
    have e1 : NT s0 f (nI kk) ac = NT s0 t' (nI kk') ac := by
      unfold NT; rw [z, e]
    rw [← e1] at b14
    rw [Int32.lt_iff_toInt_lt] at a13 b14
    omega
theorem nm_book {I0 J0 I J : xTI} {q : Nat → Nat} {n p d : Nat} {ac : Int32} (hI : BRi I0 (J0 58) q) (hV : IVi (J0 58) q n) (hF : nFr I0 I J0 J) (hT : nTab I J p d) (hD : nDel (J 58) (J0 58) q ac d) (hd : dvS (J 58) d ≤ 5940) (hd2 : d ≤ 120) (hp : p ≤ 30000) : BRi I (J 58) (qs (qs q 6 p) 7 d) ∧ IVi (J 58) (qs (qs q 6 p) 7 d) n := by
  obtain ⟨b1, b2, b4, b5, b6⟩ := hI
  obtain ⟨v1, v2, v3, v4, v6, v7⟩ := hV
  have c5 : q 1 ≤ 12 := v1.2.2.1
  have hne : ∀ k, 1 ≤ k → k ≤ 28 → k ≠ 18 → k ≠ 19 → k ≠ 24 → k ≠ 25 → k ≠ 26 → k ≠ 27 → I k = I0 k := fun k h1 h2 h3 h4 h5 h6 h7 h8 => hF.1 k h3 h4 h5 h6 h7 h8 (by omega)
  have hs : ∀ j, j ≠ 6 → j ≠ 7 → j < 2570 → J 58 j = J0 58 j := hF.2.1
  have hu : ∀ m, m < q 1 → J 58 (16 + 4 * m) = J0 58 (16 + 4 * m) := fun m hm => hs _ (by omega) (by omega) (by omega)
  refine ⟨⟨?_, ?_, ?_, ⟨fun i hi t ht => ?_, fun i hi t ht => ?_, fun i hi h3 t ht => ?_, fun i hi t ht => ?_⟩, ?_⟩, ⟨⟨fun i hi => ?_, v1.2.1, v1.2.2.1, v1.2.2.2.1, v1.2.2.2.2.1, v1.2.2.2.2.2.1, v1.2.2.2.2.2.2.1, hp, hd2, v1.2.2.2.2.2.2.2.2.2⟩, ?_, ?_, ?_, ?_, ?_⟩⟩
  · unfold BRn
    rw [hne 1 (by decide) (by decide) (by decide) (by decide) (by decide) (by decide) (by decide) (by decide), hne 3 (by decide) (by decide) (by decide) (by decide) (by decide) (by decide) (by decide) (by decide), hne 20 (by decide) (by decide) (by decide) (by decide) (by decide) (by decide) (by decide) (by decide), hne 15 (by decide) (by decide) (by decide) (by decide) (by decide) (by decide) (by decide) (by decide), hne 22 (by decide) (by decide) (by decide) (by decide) (by decide) (by decide) (by decide) (by decide)]
    exact ⟨b1.1, b1.2.1, b1.2.2.1, b1.2.2.2.1, b1.2.2.2.2.1, b1.2.2.2.2.2.1, hT.1, hT.2.1, b1.2.2.2.2.2.2.2.2⟩
  · exact b2.fr c5 (hne 7 (by decide) (by decide) (by decide) (by decide) (by decide) (by decide) (by decide) (by decide)) (hne 8 (by decide) (by decide) (by decide) (by decide) (by decide) (by decide) (by decide) (by decide)) (hne 9 (by decide) (by decide) (by decide) (by decide) (by decide) (by decide) (by decide) (by decide)) (hne 10 (by decide) (by decide) (by decide) (by decide) (by decide) (by decide) (by decide) (by decide)) (hne 2 (by decide) (by decide) (by decide) (by decide) (by decide) (by decide) (by decide) (by decide)) (fun j e1 e2 => hs j (by omega) (by omega) (by omega))
  · exact b4.fr (hne 13 (by decide) (by decide) (by decide) (by decide) (by decide) (by decide) (by decide) (by decide)) (fun j e1 e2 => hs j (by omega) (by omega) (by omega))
  · have hi' : i < q 3 := hi
    have q3 := v1.2.2.2.2.1
    rw [hne 21 (by decide) (by decide) (by decide) (by decide) (by decide) (by decide) (by decide) (by decide), hs _ (by omega) (by omega) (by omega)]; exact b5.1 i hi' t ht
  · have hi' : i < q 5 := hi
    have q5 := v1.2.2.2.2.2.2.1
    rw [hne 23 (by decide) (by decide) (by decide) (by decide) (by decide) (by decide) (by decide) (by decide), hs _ (by omega) (by omega) (by omega)]; exact b5.2.1 i hi' t ht
  · exact hT.2.2.2.2.1 i hi h3 t ht
  · exact hT.2.2.2.2.2 i hi t ht
  · exact b6.fr v1.2.2.2.2.2.1 (hne 16 (by decide) (by decide) (by decide) (by decide) (by decide) (by decide) (by decide) (by decide)) (hne 17 (by decide) (by decide) (by decide) (by decide) (by decide) (by decide) (by decide) (by decide)) (fun j e1 e2 => hs j (by omega) (by omega) (by omega))
  · by_cases e7 : i = 7
    · subst e7; rw [hT.2.2.2.1]; rfl
    · by_cases e6 : i = 6
      · subst e6; rw [hT.2.2.1]; rfl
      · rw [hs i e6 e7 (by omega), v1.1 i hi]
        unfold qs; rw [if_neg e7, if_neg e6]
  · exact v2.fr c5 (fun j e1 e2 => hs j (by omega) (by omega) (by omega))
  · exact v3.fr c5 hu (fun j e1 e2 => hs j (by omega) (by omega) (by omega))
  · exact v4.fr v1.2.2.2.2.1 v1.2.2.2.2.2.2.1 c5 hu (fun j e1 e2 => hs j (by omega) (by omega) (by omega))
  · exact nd_IVd hD hd hu rfl rfl rfl
  · exact v7.fr v1.2.2.2.2.2.1 (fun j e1 e2 => hs j (by omega) (by omega) (by omega))
/-- the tickets are taken, one by one -/
theorem row_sim {I0 J0 I J : xTI} {q : Nat → Nat} {k : Nat} {ac hour : Int32} {T p d : Nat} {lf g : Nat → Nat} {D S P : Nat} (h : nSt I0 J0 I J q k ac 0 T p d lf g D S P) (hm : BRm I0 (J0 58) q) (hB : BRb I0 (J0 58)) (hV : IVb (J0 58) q) (hP : P < 2 ^ 30) (hD : D ≤ 120) (hq : q 1 ≤ 12) (hk : k < q 2) (hk2 : q 2 ≤ 5) (L : xTL) : ∃ I2 J2 T2 p2 d2 lf2 g2, nSt I0 J0 I2 J2 q k ac T2 T2 p2 d2 lf2 g2 D S P ∧ (∀ K, xlp (F_X4_nameAccount_b54 K xN ac (nI k) hour) xN (0, I) = K (nI (k + 1), I2)) ∧ xlp (F_X11_names_b149 xN L (nI k) hour) xN (0, J) = some (J2, L) := by
  have key := xlp_wh (κ1 := Int32 × xTI → Option xTI) (κ2 := Unit) (b1 := fun K => F_X4_nameAccount_b54 K xN ac (nI k) hour) (b2 := fun _ => F_X11_names_b149 xN L (nI k) hour) (P := fun dd x y => ∃ i T p d lf g, i + dd = 5953 ∧ x.1 = nI i ∧ y.1 = nI i ∧ nSt I0 J0 x.2 y.2 q k ac i T p d lf g D S P) (Z := fun x y => ∃ T p d lf g, nSt I0 J0 x.2 y.2 q k ac T T p d lf g D S P) (o1 := fun K x => K (nI (k + 1), x.2)) (o2 := fun _ y => some (y.2, L)) ?_ 5953 xN xN (0, I) (0, J) (by decide) (by decide) ⟨0, T, p, d, lf, g, rfl, rfl, rfl, h⟩
  · obtain ⟨x, y, ⟨T2, p2, d2, lf2, g2, hz⟩, e1, e2⟩ := key
    exact ⟨x.2, y.2, T2, p2, d2, lf2, g2, hz, e1, e2 ()⟩
  · rintro dd ⟨x5, I⟩ ⟨y4, J⟩ ⟨i, T, p, d, lf, g, hdd, e1, e2, hs⟩
    dsimp only at e1 e2 hs
    subst e1 e2
    have hTb := hs.2.2.2.2.2.2.2.2.1
    obtain ⟨hiT, h335, h336, h57⟩ := hs.2.2.2.2.2.2.1
    by_cases hi : i < T
    · obtain ⟨I2, J2, T2, p2, d2, lf2, g2, a1, a2, a3⟩ := take_sim (hour := hour) hs hi hm hB hV hP hD hq hk hk2 L
      refine Or.inr ⟨dd - 1, (nI (i + 1), I2), (nI (i + 1), J2), by omega, fun K k' => ?_, fun K k' => a3 k', i + 1, T2, p2, d2, lf2, g2, by omega, rfl, rfl, a1⟩
      show F_X4_nameAccount_c54 K xN ac (nI k) hour (nI i) I k' = _
      unfold F_X4_nameAccount_c54
      rw [if_neg (show ¬ (5952 : Int32) ≤ nI i from nI_ge (b := 5952) (by omega) (by decide)), xbn_e, h336, if_neg (nI_nle (by omega) (by omega)), a2, Option.bind_some, xbn_e, nI_1]
    · have e : i = T := by omega
      subst e
      refine Or.inl ⟨fun K k' => ?_, fun K k' => ?_, i, p, d, lf, g, hs⟩
      · show F_X4_nameAccount_c54 K xN ac (nI k) hour (nI i) I k' = _
        unfold F_X4_nameAccount_c54
        rw [xbn_e, xbn_e, h336, Nat.sub_self, if_pos (show nI 0 ≤ 0 by decide), nI_1]
        split <;> rfl
      · show F_X11_names_c149 xN L (nI k) hour (nI i) J k' = _
        unfold F_X11_names_c149
        rw [xbn_e, h57, if_pos (nI_le (Nat.le_refl _) (by omega))]
theorem left10 {I : xTI} {s : Nat → Int32} {q : Nat → Nat} (hB : BRb I s) (hV : IVb s q) (k : Nat) (ac : Int32) : xlp (F_X4_layOut_b16 xN (nI k) ac) xN (0, I) = xlp (F_X4_layOut_b81 xN) xN (0, xup (xup (wr I 40 0 (fun b => nI (lf0 s ac k b)) 60) 33 5 0) 33 6 0) := by
  rw [show ((0 : Int32), I) = (fun i => (nI i, wr I 40 0 (fun b => nI (lf0 s ac k b)) i)) 0 from rfl]
  refine xlp_for (fun i => (nI i, wr I 40 0 (fun b => nI (lf0 s ac k b)) i)) 60 _ (fun b hb K => ?_) (fun K => ?_) xN (by decide)
  · have hB' : BRb (wr I 40 0 (fun b => nI (lf0 s ac k b)) b) s := hB.fr (wr_ne (by decide) _) (fun _ _ _ => rfl)
    show F_X4_layOut_c16 xN (nI k) ac (nI b) (wr I 40 0 (fun b => nI (lf0 s ac k b)) b) K = _
    unfold F_X4_layOut_c16 F_X4_layOut_j61
    rw [if_neg (n60 hb), F10_st2 hB' hb]
    have hw : ∀ v, v = nI (lf0 s ac k b) → xup (wr I 40 0 (fun b => nI (lf0 s ac k b)) b) 40 b v = wr I 40 0 (fun b => nI (lf0 s ac k b)) (b + 1) := fun v e => by
      rw [e]; show _ = xup (wr I 40 0 (fun b => nI (lf0 s ac k b)) b) 40 (0 + b) _; rw [Nat.zero_add]
    by_cases h : stn s b (nI k) ac
    · obtain ⟨y1, y2, y3⟩ := lf0_y hV hb h
      rw [if_pos h, Option.bind_some, if_neg (by decide), show F_X0_at (wr I 40 0 (fun b => nI (lf0 s ac k b)) b) (nI b) 3 = some (nI (lf0 s ac k b)) by unfold F_X0_at; rw [at12_3 hb, bcell2 hB' hb h.1 (by decide), y3]; rfl, Option.bind_some, xas_n hb (by decide), xbn_e, nI_1, hw _ rfl]
    · rw [if_neg h, Option.bind_some, if_pos rfl, xas_n hb (by decide), xbn_e, nI_1, hw 0 (by rw [lf0_n h]; rfl)]
  · show F_X4_layOut_c16 xN (nI k) ac (nI 60) (wr I 40 0 (fun b => nI (lf0 s ac k b)) 60) K = _
    unfold F_X4_layOut_c16
    rw [if_pos (by decide), xbn_e, xbn_e]
theorem left11 {J : xTI} {s : Nat → Int32} {q : Nat → Nat} (hV : IVb s q) (hs : ∀ j, 192 ≤ j → j < 912 → J 58 j = s j) (k : Nat) (ac hour : Int32) (L : xTL) : xlp (F_X11_names_b17 xN L (nI k) ac hour) xN (0, J) = xlp (F_X11_names_b83 xN L (nI k) ac hour) xN (0, wr J 69 0 (fun b => nI (lf0 s ac k b)) 60) := by
  rw [show ((0 : Int32), J) = (fun i => (nI i, wr J 69 0 (fun b => nI (lf0 s ac k b)) i)) 0 from rfl]
  refine xlp_for (fun i => (nI i, wr J 69 0 (fun b => nI (lf0 s ac k b)) i)) 60 _ (fun b hb K => ?_) (fun K => ?_) xN (by decide)
  · show F_X11_names_c17 xN L (nI k) ac hour (nI b) (wr J 69 0 (fun b => nI (lf0 s ac k b)) b) K = _
    unfold F_X11_names_c17 F_X11_names_j73
    have hc : ∀ t, t < 12 → wr J 69 0 (fun b => nI (lf0 s ac k b)) b 58 (192 + 12 * b + t) = s (192 + 12 * b + t) := fun t ht => by rw [wr_ne (by decide)]; exact hs _ (by omega) (by omega)
    have hc0 : wr J 69 0 (fun b => nI (lf0 s ac k b)) b 58 (192 + 12 * b) = s (192 + 12 * b) := hc 0 (by decide)
    rw [if_neg (n60 hb), F11_stn hb, bg11_3 hb, bg11_7 hb, bg11_4 hb, hc0, hc 8 (by decide), hc 3 (by decide), hc 7 (by decide), hc 4 (by decide)]
    have hw : ∀ v, v = nI (lf0 s ac k b) → xup (wr J 69 0 (fun b => nI (lf0 s ac k b)) b) 69 b v = wr J 69 0 (fun b => nI (lf0 s ac k b)) (b + 1) := fun v e => by
      rw [e]; show _ = xup (wr J 69 0 (fun b => nI (lf0 s ac k b)) b) 69 (0 + b) _; rw [Nat.zero_add]
    have hx : ∀ v, v = nI (lf0 s ac k b) → xas (R := xTI × xTL) (wr J 69 0 (fun b => nI (lf0 s ac k b)) b) 69 60 (nI b) v (fun I1 => xbn (nI b + 1) (fun y2 => K (y2, I1))) = K (nI (b + 1), wr J 69 0 (fun b => nI (lf0 s ac k b)) (b + 1)) := fun v e => by
      rw [xas_n hb (by decide), xbn_e, nI_1, hw v e]
    simp only [Option.bind_some]
    by_cases h : stn s b (nI k) ac
    · obtain ⟨y1, y2, y3⟩ := lf0_y hV hb h
      rw [if_pos (show s (192 + 12 * b) = 1 ∧ s (192 + 12 * b + 8) = 1 from ⟨h.1, h.2.1⟩), if_neg (by decide), if_pos h.2.2.1, if_pos h.2.2.2, hx _ y3]
    · have z := hx 0 (by rw [lf0_n h]; rfl)
      by_cases e : s (192 + 12 * b) = 1 ∧ s (192 + 12 * b + 8) = 1
      · rw [if_pos e, if_neg (by decide)]
        by_cases e2 : s (192 + 12 * b + 3) = nI k
        · rw [if_pos e2, if_neg (fun e3 => h ⟨e.1, e.2, e2, e3⟩), z]
        · rw [if_neg e2, z]
      · rw [if_neg e, if_pos rfl, z]
  · show F_X11_names_c17 xN L (nI k) ac hour (nI 60) (wr J 69 0 (fun b => nI (lf0 s ac k b)) 60) K = _
    unfold F_X11_names_c17
    rw [if_pos (by decide)]
end
