/-- the NAMES of stock kk and bargain bo -/
def nmO (s : Nat → Int32) (m kk : Nat) (bo : Option Nat) : Nat → Int32
  | 0 => nI kk
  | 1 => s (184 + kk)
  | 2 => s 0
  | 3 => s 0 - s 0 / 14 * 14
  | 4 => nI (upn s m)
  | j + 5 => match bo with
    | none => 0
    | some bb => if j = 0 then s (192 + 12 * bb + 4) else if j = 1 then s (192 + 12 * bb + 5) else if j = 2 then s (192 + 12 * bb + 1) else if j = 3 then s (192 + 12 * bb + 2) else (if s (192 + 12 * bb + 9) = -1 then 0 else 1) + (if s (192 + 12 * bb + 10) = -1 then 0 else 2)
theorem env_n {I : xTI} {m kk : Nat} (h1 : I 58 1 = nI m) (hm : m ≤ 12) (hk : kk < 5) : xEnv I (nmO (I 58) m kk none) (nI kk) (-1) :=
  ⟨rfl, ⟨kk, hk, rfl, rfl⟩, rfl, rfl, F11_mu h1 hm, Or.inl ⟨rfl, rfl, rfl, rfl, rfl, rfl⟩⟩
theorem env_b {I : xTI} {m kk bb : Nat} (h1 : I 58 1 = nI m) (hm : m ≤ 12) (hk : kk < 5) (hb : bb < 60) : xEnv I (nmO (I 58) m kk (some bb)) (nI kk) (nI bb) :=
  ⟨rfl, ⟨kk, hk, rfl, rfl⟩, rfl, rfl, F11_mu h1 hm, Or.inr ⟨bb, hb, rfl, rfl, rfl, rfl, rfl, rfl⟩⟩
/-- a rule is entered; all else is as it was -/
theorem bookR {I I2 : xTI} {L : xTL} {q : Nat → Nat} {n : Nat} (hB : BR I L (I 58) (L 59) q) (hV : IV (I 58) (L 59) q n) (hr : q 4 < 12) (hne : ∀ k, 1 ≤ k → k ≤ 28 → k ≠ 15 → k ≠ 16 → k ≠ 17 → I2 k = I k) (h15 : I2 15 3 = nI (q 4 + 1)) (hs4 : I2 58 4 = nI (q 4 + 1)) (hs : ∀ j, (j ≠ 4 ∧ j < 1082 + 124 * q 4) ∨ 1082 + 124 * q 4 + 124 ≤ j → I2 58 j = I 58 j) (h16 : ∀ j, j < 5 * q 4 → I2 16 j = I 16 j) (h17 : ∀ j, j < 120 * q 4 → I2 17 j = I 17 j)
    (hn : I2 16 (5 * q 4) = I2 58 (1082 + 124 * q 4) ∧ I2 16 (5 * q 4 + 1) = I2 58 (1082 + 124 * q 4 + 1) ∧ I2 16 (5 * q 4 + 2) = I2 58 (1082 + 124 * q 4 + 2) ∧ ∃ sz ve ie : Nat, I2 58 (1082 + 124 * q 4 + 3) = nI sz ∧ I2 16 (5 * q 4 + 3) = nI ve ∧ I2 16 (5 * q 4 + 4) = nI ie ∧ RuleOK (fun i => I2 58 (1082 + 124 * q 4 + 4 + i)) sz (I2 58 (1082 + 124 * q 4)) (fun i => I2 17 (120 * q 4 + i)) ve ie)
    (hv : (∃ k, k < 6 ∧ I2 58 (1082 + 124 * q 4) = nI k) ∧ isN (I2 58 (1082 + 124 * q 4 + 1)) 1000 ∧ isN (I2 58 (1082 + 124 * q 4 + 2)) 1000 ∧ isN (I2 58 (1082 + 124 * q 4 + 3)) 120) : BR I2 L (I2 58) (L 59) (qs q 4 (q 4 + 1)) ∧ IV (I2 58) (L 59) (qs q 4 (q 4 + 1)) n := by
  obtain ⟨b1, b2, b3, b4, b5, b6⟩ := hB
  obtain ⟨v1, v2, v3, v4, v5, v6, v7⟩ := hV
  have c5 : q 1 ≤ 12 := v1.2.2.1
  have q7 := v1.2.2.2.2.2.2.2.2.1
  have hu : ∀ k, 1 ≤ k → k ≤ 14 → I2 k = I k := fun k e1 e2 => hne k e1 (by omega) (by omega) (by omega) (by omega)
  have hu2 : ∀ k, 18 ≤ k → k ≤ 28 → I2 k = I k := fun k e1 e2 => hne k (by omega) (by omega) (by omega) (by omega) (by omega)
  refine ⟨⟨?_, ?_, ?_, ?_, ?_, ?_⟩, ⟨?_, ?_, ?_, ?_, ?_, ?_, ?_⟩⟩
  · unfold BRn
    rw [hu 1 (by decide) (by decide), hu 3 (by decide) (by decide), hu2 20 (by decide) (by decide), h15, hu2 22 (by decide) (by decide), hu2 24 (by decide) (by decide), hu2 26 (by decide) (by decide)]
    exact ⟨b1.1, b1.2.1, b1.2.2.1, b1.2.2.2.1, rfl, b1.2.2.2.2.2⟩
  · exact b2.fr c5 (hu 7 (by decide) (by decide)) (hu 8 (by decide) (by decide)) (hu 9 (by decide) (by decide)) (hu 10 (by decide) (by decide)) (hu 2 (by decide) (by decide)) (fun j e1 e2 => hs j (by omega))
  · refine ⟨b3.1, b3.2.1, fun m' hm' => ⟨(b3.2.2 m' hm').1, ?_⟩⟩
    rw [hs _ (by omega)]; exact (b3.2.2 m' hm').2
  · exact b4.fr (hu 13 (by decide) (by decide)) (fun j e1 e2 => hs j (by omega))
  · exact b5.fr v1.2.2.2.2.1 v1.2.2.2.2.2.2.1 (show q 7 ≤ 6000 by omega) (hu2 21 (by decide) (by decide)) (hu2 23 (by decide) (by decide)) (hu2 25 (by decide) (by decide)) (hu2 27 (by decide) (by decide)) (fun j e1 e2 => hs j (by omega)) (fun j e1 e2 => hs j (by omega))
  · intro r hr'
    have hr' : r < q 4 + 1 := hr'
    by_cases e : r = q 4
    · subst e; exact hn
    · obtain ⟨a1, a2, a3, sz, ve, ie, d1, d2, d3, d4⟩ := b6 r (by omega)
      rw [h16 _ (by omega), h16 _ (by omega), h16 _ (by omega), hs _ (by omega), hs _ (by omega), hs _ (by omega)]
      exact ⟨a1, a2, a3, sz, ve, ie, by rw [hs _ (by omega)]; exact d1, by rw [h16 _ (by omega)]; exact d2, by rw [h16 _ (by omega)]; exact d3, d4.ext (fun i hi => hs _ (by omega)) (fun i hi => h17 _ (by omega))⟩
  · refine ⟨fun i hi => ?_, v1.2.1, v1.2.2.1, v1.2.2.2.1, v1.2.2.2.2.1, (show q 4 + 1 ≤ 12 by omega), v1.2.2.2.2.2.2⟩
    unfold qs
    by_cases e4 : i = 4
    · rw [if_pos e4, e4, hs4]
    · rw [if_neg e4, hs _ (by omega)]; exact v1.1 i hi
  · exact v2.fr c5 (fun j e1 e2 => hs j (by omega))
  · exact v3.fr c5 (fun m' hm' => hs _ (by omega)) (fun j e1 e2 => hs j (by omega))
  · exact v4.fr v1.2.2.2.2.1 v1.2.2.2.2.2.2.1 c5 (fun m' hm' => hs _ (by omega)) (fun j e1 e2 => hs j (by omega))
  · exact v5.fr (fun m' hm' => hs _ (by omega))
  · exact v6.fr (show q 7 ≤ 6000 by omega) (fun m' hm' => hs _ (by omega)) (fun j e1 e2 => hs j (by omega))
  · intro r hr'
    have hr' : r < q 4 + 1 := hr'
    by_cases e : r = q 4
    · subst e; exact hv
    · rw [hs _ (by omega), hs _ (by omega), hs _ (by omega), hs _ (by omega)]
      exact v7 r (by omega)
theorem isN_c {x : Int32} {M : Nat} (h : isN x M) (hM : M < 2 ^ 31) : x = nI x.toNatClampNeg ∧ x.toNatClampNeg ≤ M := by
  obtain ⟨j, hj, rfl⟩ := h
  rw [nI_clamp (by omega)]
  exact ⟨rfl, hj⟩
/-- the reference lays the tape out and reads it -/
theorem F11_layT {I : xTI} {L : xTL} {sz : Nat} (hsz : sz ≤ 120) (h5 : I 57 5 = nI sz) (h7 : I 57 7 = nI sz) (x1 x2 : Int32) {J : xTI} {M : xTL} (hJ : F_X11_readRule xN (wr I 62 0 (I 61) sz) L 0 (-1) = some (J, M)) : xlp (F_X11_rule_b62 xN L x1 x2) xN (0, I) = (if J 57 13 = 0 then xal J 58 40670 4 (fun v5 => xbn (1082 + (124 * v5)) (fun y6 => xbn (J 57 17) (fun v7 => xas J 58 40670 y6 v7 (fun I8 => xas I8 58 40670 (y6 + 1) x1 (fun I9 => xas I9 58 40670 (y6 + 2) x2 (fun I10 => xbn (I10 57 5) (fun v11 => xas I10 58 40670 (y6 + 3) v11 (fun I12 => xlp (F_X11_rule_b166 xN M y6 ) xN (0, I12))))))))) else some ((-10) - J 57 14, J, M)) := by
  rw [show ((0 : Int32), I) = (fun i => (nI i, wr I 62 0 (I 61) i)) 0 from rfl]
  refine xlp_for (fun i => (nI i, wr I 62 0 (I 61) i)) sz _ (fun i hi k => ?_) (fun k => ?_) xN (by show sz < 100000; omega)
  · show F_X11_rule_c62 xN L x1 x2 (nI i) (wr I 62 0 (I 61) i) k = k (nI (i + 1), wr I 62 0 (I 61) (i + 1))
    unfold F_X11_rule_c62
    rw [xbn_e, wr_ne (by decide), h5, if_neg (nI_ge hi (by omega)), xal_n (by omega) (by decide), xas_n (by omega) (by decide), xbn_e, nI_1, wr0_s (by decide)]
  · show F_X11_rule_c62 xN L x1 x2 (nI sz) (wr I 62 0 (I 61) sz) k = _
    unfold F_X11_rule_c62
    rw [xbn_e, wr_ne (by decide), h5, if_pos (nI_le (Nat.le_refl _) (by omega)), hJ, Option.bind_some]
    rfl
/-- the cells of a new rule -/
def ruF (key x1 x2 : Int32) (sz : Nat) (t : Nat → Int32) : Nat → Int32
  | 0 => key
  | 1 => x1
  | 2 => x2
  | 3 => nI sz
  | i + 4 => t i
theorem F11_new {J : xTI} {M : xTL} {sz r : Nat} (hsz : sz ≤ 120) (hr : r < 12) (h5 : J 57 5 = nI sz) (h4 : J 58 4 = nI r) (x1 x2 : Int32) : xal J 58 40670 4 (fun v5 => xbn (1082 + (124 * v5)) (fun y6 => xbn (J 57 17) (fun v7 => xas J 58 40670 y6 v7 (fun I8 => xas I8 58 40670 (y6 + 1) x1 (fun I9 => xas I9 58 40670 (y6 + 2) x2 (fun I10 => xbn (I10 57 5) (fun v11 => xas I10 58 40670 (y6 + 3) v11 (fun I12 => xlp (F_X11_rule_b166 xN M y6 ) xN (0, I12))))))))) = some (nI r, xup (xup (wr J 58 (1082 + 124 * r) (ruF (J 57 17) x1 x2 sz (J 61)) (sz + 4)) 57 5 0) 58 4 (nI (r + 1)), M) := by
  rw [show (4 : Int32) = nI 4 from rfl, xal_n (by decide) (by decide), h4, xbn_e, xbn_e]
  have e0 : 1082 + 124 * nI r = nI (1082 + 124 * r) := by
    rw [show (1082 : Int32) = nI 1082 from rfl, show (124 : Int32) = nI 124 from rfl, nI_mul, nI_add]
  have e2 : nI (1082 + 124 * r) + 2 = nI (1082 + 124 * r + 2) := nI_add _ 2
  have e3 : nI (1082 + 124 * r) + 3 = nI (1082 + 124 * r + 3) := nI_add _ 3
  have e4 : nI (1082 + 124 * r) + nI 4 = nI (1082 + 124 * r + 4) := nI_add _ 4
  rw [e0, xas_n (by omega) (by decide), nI_1, xas_n (by omega) (by decide), e2, xas_n (by omega) (by decide), e3, xbn_e, xup_ne (k' := 57) (by decide), xup_ne (k' := 57) (by decide), xup_ne (k' := 57) (by decide), h5, xas_n (by omega) (by decide)]
  show xlp (F_X11_rule_b166 xN M (nI (1082 + 124 * r))) xN ((fun i => (nI i, wr J 58 (1082 + 124 * r) (ruF (J 57 17) x1 x2 sz (J 61)) (i + 4))) 0) = _
  refine xlp_for (fun i => (nI i, wr J 58 (1082 + 124 * r) (ruF (J 57 17) x1 x2 sz (J 61)) (i + 4))) sz _ (fun i hi k => ?_) (fun k => ?_) xN (by show sz < 100000; omega)
  · show F_X11_rule_c166 xN M (nI (1082 + 124 * r)) (nI i) (wr J 58 (1082 + 124 * r) (ruF (J 57 17) x1 x2 sz (J 61)) (i + 4)) k = k (nI (i + 1), wr J 58 (1082 + 124 * r) (ruF (J 57 17) x1 x2 sz (J 61)) (i + 1 + 4))
    unfold F_X11_rule_c166
    have ex : (nI (1082 + 124 * r) + 4) + nI i = nI (1082 + 124 * r + (i + 4)) := by
      rw [show (4 : Int32) = nI 4 from rfl, nI_add, nI_add]; congr 1; omega
    rw [xbn_e, wr_ne (k' := 57) (by decide), h5, if_neg (nI_ge hi (by omega)), xal_n (by omega) (by decide), wr_ne (k' := 61) (by decide), ex, xas_n (by omega) (by decide), xbn_e, nI_1]
    rw [show i + 1 + 4 = (i + 4) + 1 by omega]
    rfl
  · show F_X11_rule_c166 xN M (nI (1082 + 124 * r)) (nI sz) (wr J 58 (1082 + 124 * r) (ruF (J 57 17) x1 x2 sz (J 61)) (sz + 4)) k = _
    unfold F_X11_rule_c166
    have e58 : xup (wr J 58 (1082 + 124 * r) (ruF (J 57 17) x1 x2 sz (J 61)) (sz + 4)) 57 5 0 58 4 = nI r := by
      rw [xup_ne (by decide), wr_out _ (by omega), h4]
    rw [xbn_e, wr_ne (k' := 57) (by decide), h5, if_pos (nI_le (Nat.le_refl _) (by omega)), xbn_e, show ∀ (I : xTI), xal (R := Int32 × xTI × xTL) I 58 40670 4 = xal I 58 40670 (nI 4) from fun _ => rfl, xal_n (by decide) (by decide), show ∀ (I : xTI), xas (R := Int32 × xTI × xTL) I 58 40670 4 = xas I 58 40670 (nI 4) from fun _ => rfl, xas_n (by decide) (by decide), show ∀ (I : xTI), xal (R := Int32 × xTI × xTL) I 58 40670 4 = xal I 58 40670 (nI 4) from fun _ => rfl, xal_n (by decide) (by decide), xup_eq, e58, nI_1, nI_pred]
