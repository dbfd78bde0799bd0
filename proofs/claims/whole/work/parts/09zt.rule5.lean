theorem pr_rule : xs_rule xRel := by
  intro kp n I L a1 a2 hn h
  have h0 := h
  obtain ⟨⟨q, hB, hV⟩, ⟨sz, hsz, t1, t2, t3⟩, h4, h5, h6⟩ := h0
  obtain ⟨c1, c2, c3, c4, c5, c6, c7, c8, c9⟩ := cnt hB hV
  have d4 : I 15 3 = nI (q 4) := hB.1.2.2.2.2.1
  have e4 : I 58 4 = nI (q 4) := hV.1.1 4 (by decide)
  have q4 : q 4 ≤ 12 := hV.1.2.2.2.2.2.1
  have hcond : (¬ a1 < 0 ∧ ¬ a2 ≤ a1 ∧ a2 ≤ 1000) ↔ ((0 ≤ a1 ∧ a1 ≤ 1000) ∧ (0 ≤ a2 ∧ a2 ≤ 1000) ∧ a1 < a2) := by
    simp only [Int32.le_iff_toInt_le, Int32.lt_iff_toInt_lt, show (0 : Int32).toInt = 0 by decide, show (1000 : Int32).toInt = 1000 by decide]
    omega
  by_cases g : (0 ≤ a1 ∧ a1 ≤ 1000) ∧ (0 ≤ a2 ∧ a2 ≤ 1000) ∧ a1 < a2
  · obtain ⟨k1, k2, k3⟩ := hcond.mpr g
    obtain ⟨g1, g2, g3⟩ := g
    have h10 : ∀ J : xTI, F_X10_rule xN J a1 a2 = Option.bind (F_X8_hasRoom_15 J) (fun v1 => (if v1 = 0 then Option.bind (F_X10_refuse J (-8)) (fun (v8, I9) => some (v8, I9)) else Option.bind (F_X9_isRule xN J) (fun (v2, I3) => (if v2 = 0 then Option.bind (F_X9_fault I3) (fun v7 => some ((-10) - v7, I3)) else Option.bind (F_X5_enter I3 a1 a2) (fun (v4, I5) => xbn (xup I5 29 0 0) (fun I6 => some (v4, I6))))))) := fun J => by
      unfold F_X10_rule
      rw [if_neg k1, if_neg k2, if_pos k3]
    have h11 : ∀ (J : xTI) (M : xTL), F_X11_rule xN J M a1 a2 = xal J 58 40670 4 (fun v3 => (if v3 = 12 then Option.bind (F_X11_refuse J (-8)) (fun (v6, I7) => some (v6, I7, M)) else xbn (J 57 5) (fun v4 => xbn (xup J 57 7 v4) (fun I5 => xlp (F_X11_rule_b62 xN M a1 a2 ) xN (0, I5))))) := fun J M => by
      unfold F_X11_rule
      rw [xin_iff, if_pos g1, Option.bind_some, if_neg (by decide), xin_iff, if_pos g2, Option.bind_some, if_neg (by decide), if_pos g3]
    by_cases gr : q 4 < 12
    · -- room
      let tb : Nat → Nat := fun i => (I 61 i).toNatClampNeg
      have htb : ∀ i, i < sz → I 61 i = nI (tb i) ∧ tb i ≤ 255 := fun i hi => by
        have := (t3 i hi).2
        rw [(t3 i hi).1] at this
        exact isN_c this (by decide)
      have hCT : CT tb sz I := ⟨t1, fun i hi => by rw [(t3 i hi).1]; exact (htb i hi).1⟩
      obtain ⟨ok, cs1, cs2, key, f, hf, hok, rC, rR⟩ := rule_sim (tb := tb) hsz (fun i hi => (htb i hi).2)
      obtain ⟨I3, e1, e2, e3, e5⟩ := rC I hCT
      have hroom : F_X8_hasRoom_15 I = some 1 := by
        unfold F_X8_hasRoom_15
        rw [xbn_e, d4, if_neg (show ¬ (12 : Int32) ≤ nI (q 4) from nI_ge (b := 12) gr (by decide))]
        rfl
      have n12 : ¬ nI (q 4) = 12 := fun e => by have := (nI_lq (c := 12) rfl (by omega) (by decide)).mp e; omega
      -- the reference from a memory K whose 57, 58, 61 are I's
      have hRf : ∀ (K : xTI), K 57 = I 57 → K 58 = I 58 → K 61 = I 61 → ∃ J M, F_X11_readRule xN (wr (xup K 57 7 (nI sz)) 62 0 ((xup K 57 7 (nI sz)) 61) sz) L 0 (-1) = some (J, M) ∧ F_X11_rule xN K L a1 a2 = (if J 57 13 = 0 then some (nI (q 4), xup (xup (wr J 58 (1082 + 124 * q 4) (ruF (J 57 17) a1 a2 sz (J 61)) (sz + 4)) 57 5 0) 58 4 (nI (q 4 + 1)), M) else some ((-10) - J 57 14, J, M)) ∧ (∀ k j, k ≠ 62 → ¬ (k = 57 ∧ 7 ≤ j ∧ j ≤ 19) → J k j = K k j) ∧ FrL L M ∧ (ok = true → J 57 13 = 0 ∧ J 57 17 = nI key) ∧ (ok = false → J 57 13 = 1 ∧ J 57 14 = nI f) := by
        intro K k57 k58 k61
        have x61 : (xup K 57 7 (nI sz)) 61 = I 61 := by rw [xup_ne (by decide)]; exact k61
        have hW : ∀ k, k ≠ 62 → wr (xup K 57 7 (nI sz)) 62 0 ((xup K 57 7 (nI sz)) 61) sz k = (xup K 57 7 (nI sz)) k := fun k hk => wr_ne hk _
        have hRT : RT tb sz (wr (xup K 57 7 (nI sz)) 62 0 ((xup K 57 7 (nI sz)) 61) sz) := by
          refine ⟨by rw [hW 57 (by decide), xup_eq], fun i hi => ?_⟩
          rw [wr0 (by decide) hi, x61]
          exact (htb i hi).1
        have hE := env_n (I := wr (xup K 57 7 (nI sz)) 62 0 ((xup K 57 7 (nI sz)) 61) sz) (m := q 1) (kk := 0) (by rw [hW 58 (by decide), xup_ne (by decide), k58]; exact c3) c5 (by decide)
        obtain ⟨J, M, f1, f2, f3, f4, f5⟩ := rR _ L _ _ _ hE hRT
        have hfr : ∀ k j, k ≠ 62 → ¬ (k = 57 ∧ 7 ≤ j ∧ j ≤ 19) → J k j = K k j := fun k j h1 h2 => by
          rw [f2 k j (by omega), hW k h1]
          unfold xup
          rw [if_neg (by omega)]
        refine ⟨J, M, f1, ?_, hfr, f3, fun g => ⟨(f4 g).1, (f4 g).2.1⟩, f5⟩
        have j5 : J 57 5 = nI sz := by rw [hfr 57 5 (by decide) (by decide), k57]; exact t2
        have j4 : J 58 4 = nI (q 4) := by rw [hfr 58 4 (by decide) (by decide), k58]; exact e4
        rw [h11, show ∀ (I : xTI), xal (R := Int32 × xTI × xTL) I 58 40670 4 = xal I 58 40670 (nI 4) from fun _ => rfl, xal_n (by decide) (by decide), k58, e4, if_neg n12, xbn_e, xbn_e, k57, t2]
        rw [F11_layT hsz (by rw [xup_nj (by decide), k57]; exact t2) xup_eq a1 a2 f1]
        by_cases gj : J 57 13 = 0
        · rw [if_pos gj, if_pos gj, F11_new hsz gr j5 j4 a1 a2]
        · rw [if_neg gj, if_neg gj]
      cases ok with
      | false =>
        have k57 : I3 57 = I 57 := by funext j; exact e2 57 j (by omega)
        have k58 : I3 58 = I 58 := by funext j; exact e2 58 j (by omega)
        have k61 : I3 61 = I 61 := by funext j; exact e2 61 j (by omega)
        obtain ⟨J, M, -, f2, f3, f4, -, f6⟩ := hRf I3 k57 k58 k61
        obtain ⟨f7, f8⟩ := f6 rfl
        refine ⟨(-10) - nI f, I3, J, M, ?_, ?_, ?_⟩
        · rw [h10, hroom, Option.bind_some, if_neg (by decide), e1, Option.bind_some]
          show (if bi false = 0 then Option.bind (F_X9_fault I3) (fun v7 => some ((-10) - v7, I3)) else _) = _
          unfold F_X9_fault
          rw [if_pos (by decide), xbn_e, Option.bind_some, e5 rfl]
        · rw [f2, if_neg (by rw [f7]; decide), f8]
        · refine pr_mono _ _ _ _ (h.calm (fun k j hk => ?_) (fun k hk => f4 k (fun e => hk (Or.inl e))))
          unfold calm at hk
          rw [f3 k j (by omega) (by omega), e2 k j (by omega)]
      | true =>
        obtain ⟨u1, u2, u3, u4⟩ := e3 rfl
        obtain ⟨hkey, hlen⟩ := hok rfl
        obtain ⟨I5, y1, y2, y3, y4, y5, y6, y7, y8, y9, y10, y11⟩ := F5_en (I := I3) gr (by rw [e2 15 3 (by omega)]; exact d4) a1 a2
        have k3 : ∀ k, k ≠ 29 → k ≠ 31 → I3 k = I k := fun k z1 z2 => by funext j; exact e2 k j (by omega)
        have k6 : ∀ k, k ≠ 15 → k ≠ 16 → k ≠ 17 → k ≠ 29 → k ≠ 31 → xup I5 29 0 0 k = I k := fun k z1 z2 z3 z4 z5 => by
          rw [xup_ne z4, y3 k z1 z2 z3, k3 k z4 z5]
        obtain ⟨J, M, -, f2, f3, f4, f5, -⟩ := hRf (xup I5 29 0 0) (k6 57 (by decide) (by decide) (by decide) (by decide) (by decide)) (k6 58 (by decide) (by decide) (by decide) (by decide) (by decide)) (k6 61 (by decide) (by decide) (by decide) (by decide) (by decide))
        obtain ⟨f7, f8⟩ := f5 rfl
        have j61 : J 61 = I 61 := by
          funext j
          rw [f3 61 j (by decide) (by omega), k6 61 (by decide) (by decide) (by decide) (by decide) (by decide)]
        refine ⟨nI (q 4), xup I5 29 0 0, xup (xup (wr J 58 (1082 + 124 * q 4) (ruF (J 57 17) a1 a2 sz (J 61)) (sz + 4)) 57 5 0) 58 4 (nI (q 4 + 1)), M, ?_, ?_, ?_⟩
        · rw [h10, hroom, Option.bind_some, if_neg (by decide), e1, Option.bind_some]
          show (if bi true = 0 then _ else Option.bind (F_X5_enter I3 a1 a2) (fun (v4, I5) => xbn (xup I5 29 0 0) (fun I6 => some (v4, I6)))) = _
          rw [if_neg (by decide), y1, Option.bind_some]
          rfl
        · rw [f2, if_pos f7]
        · rw [j61, f8]
          have z58 : ∀ j, j ≠ 4 → (j < 1082 + 124 * q 4 ∨ 1082 + 124 * q 4 + 124 ≤ j) → xup (xup (wr J 58 (1082 + 124 * q 4) (ruF (nI key) a1 a2 sz (I 61)) (sz + 4)) 57 5 0) 58 4 (nI (q 4 + 1)) 58 j = I 58 j := fun j h1 h2 => by
            rw [xup_at, if_neg h1, xup_ne (by decide), wr_out _ (by omega), f3 58 j (by decide) (by omega), k6 58 (by decide) (by decide) (by decide) (by decide) (by decide)]
          have z584 : xup (xup (wr J 58 (1082 + 124 * q 4) (ruF (nI key) a1 a2 sz (I 61)) (sz + 4)) 57 5 0) 58 4 (nI (q 4 + 1)) 58 4 = nI (q 4 + 1) := xup_eq
          have zn : ∀ t, t < sz + 4 → xup (xup (wr J 58 (1082 + 124 * q 4) (ruF (nI key) a1 a2 sz (I 61)) (sz + 4)) 57 5 0) 58 4 (nI (q 4 + 1)) 58 (1082 + 124 * q 4 + t) = ruF (nI key) a1 a2 sz (I 61) t := fun t ht => by
            rw [xup_at, if_neg (by omega), xup_ne (by decide), wr_in _ ht]
          have z57 : ∀ j, (j < 7 ∨ 19 < j) → j ≠ 5 → xup (xup (wr J 58 (1082 + 124 * q 4) (ruF (nI key) a1 a2 sz (I 61)) (sz + 4)) 57 5 0) 58 4 (nI (q 4 + 1)) 57 j = I 57 j := fun j h1 h2 => by
            rw [xup_ne (by decide), xup_at, if_neg h2, wr_ne (by decide), f3 57 j (by decide) (by omega), k6 57 (by decide) (by decide) (by decide) (by decide) (by decide)]
          have z575 : xup (xup (wr J 58 (1082 + 124 * q 4) (ruF (nI key) a1 a2 sz (I 61)) (sz + 4)) 57 5 0) 58 4 (nI (q 4 + 1)) 57 5 = 0 := by
            rw [xup_ne (by decide), xup_eq]
          have zk : ∀ k, k ≠ 57 → k ≠ 58 → k ≠ 62 → xup (xup (wr J 58 (1082 + 124 * q 4) (ruF (nI key) a1 a2 sz (I 61)) (sz + 4)) 57 5 0) 58 4 (nI (q 4 + 1)) k = xup I5 29 0 0 k := fun k h1 h2 h3 => by
            rw [xup_ne h2, xup_ne h1, wr_ne h2]
            funext j
            exact f3 k j h3 (by omega)
          generalize xup (xup (wr J 58 (1082 + 124 * q 4) (ruF (nI key) a1 a2 sz (I 61)) (sz + 4)) 57 5 0) 58 4 (nI (q 4 + 1)) = Z at z58 z584 zn z57 z575 zk ⊢
          have zi : ∀ k, k ≠ 15 → k ≠ 16 → k ≠ 17 → k ≠ 29 → k ≠ 31 → k ≠ 57 → k ≠ 58 → k ≠ 62 → Z k = I k := fun k a b c d e f g h => by
            rw [zk k f g h, k6 k a b c d e]
          have z5 : ∀ k, k ≠ 57 → k ≠ 58 → k ≠ 62 → k ≠ 29 → Z k = I5 k := fun k a b c d => by rw [zk k a b c, xup_ne d]
          obtain ⟨h0, h3', h4', h5', h6'⟩ := pr_mono _ _ _ _ h
          have m59 : M 59 = L 59 := f4 59 (by decide)
          obtain ⟨jx1, hx1a, hx1b, hx1⟩ := (rngl_iff (a := 0) (b := 1000) (by decide) (by decide)).mp g1
          obtain ⟨jx2, hx2a, hx2b, hx2⟩ := (rngl_iff (a := 0) (b := 1000) (by decide) (by decide)).mp g2
          have zn0 : Z 58 (1082 + 124 * q 4) = nI key := zn 0 (by omega)
          have zn1 : Z 58 (1082 + 124 * q 4 + 1) = a1 := zn 1 (by omega)
          have zn2 : Z 58 (1082 + 124 * q 4 + 2) = a2 := zn 2 (by omega)
          have zn3 : Z 58 (1082 + 124 * q 4 + 3) = nI sz := zn 3 (by omega)
          have znt : ∀ i, i < sz → Z 58 (1082 + 124 * q 4 + 4 + i) = I 61 i := fun i hi => by
            rw [show 1082 + 124 * q 4 + 4 + i = 1082 + 124 * q 4 + (i + 4) by omega]
            exact zn (i + 4) (by omega)
          have hbook : BR Z L (Z 58) (L 59) (qs q 4 (q 4 + 1)) ∧ IV (Z 58) (L 59) (qs q 4 (q 4 + 1)) (n + 1) := by
            refine bookR hB hV.mono gr (fun k a b c d e => zi k c d e (by omega) (by omega) (by omega) (by omega) (by omega)) (by rw [z5 15 (by decide) (by decide) (by decide) (by decide)]; exact y2) z584 (fun j hj => z58 j (by omega) (by omega)) (fun j hj => ?_) (fun j hj => ?_) ?_ ?_
            · rw [z5 16 (by decide) (by decide) (by decide) (by decide), y4 j (Or.inl hj), k3 16 (by decide) (by decide)]
            · rw [z5 17 (by decide) (by decide) (by decide) (by decide), y10 j (Or.inl hj), k3 17 (by decide) (by decide)]
            · rw [z5 16 (by decide) (by decide) (by decide) (by decide), z5 17 (by decide) (by decide) (by decide) (by decide), zn0, zn1, zn2, y5, y6, y7, y8, y9]
              refine ⟨u1, rfl, rfl, sz, cs1.length, cs1.length + cs2.length, zn3, u2, u3, hsz, hlen, cs1, cs2, rfl, rfl, fun i hi => ?_, ?_⟩
              · show I5 17 (120 * q 4 + i) = _
                rw [y11 i (by omega), u4 i hi]
              · intro K KL nm k b hE h7 h62
                have hRT : RT tb sz K := ⟨h7, fun i hi => by rw [h62 i hi]; exact (znt i hi).trans (htb i hi).1⟩
                obtain ⟨K2, L2, w1, w2, w3, w4, -⟩ := rR K KL nm k b hE hRT
                obtain ⟨w5, w6, w7, w8⟩ := w4 rfl
                exact ⟨K2, L2, w1, w5, w7, w8, fun j hj => by funext i; exact w2 j i (by omega), fun j hj => w2 57 j (by omega), w3⟩
            · rw [zn0, zn1, zn2, zn3]
              exact ⟨⟨key, hkey, rfl⟩, ⟨jx1, hx1b, hx1⟩, ⟨jx2, hx2b, hx2⟩, ⟨sz, hsz, rfl⟩⟩
          refine ⟨⟨qs q 4 (q 4 + 1), ?_, ?_⟩, ⟨0, by decide, ?_, z575, fun i hi => absurd hi (Nat.not_lt_zero _)⟩, ?_, ?_, ?_⟩
          · rw [m59]
            exact hbook.1.frame (fun _ _ _ => rfl) (fun k a b => f4 k (by omega))
          · rw [m59]; exact hbook.2
          · rw [zk 29 (by decide) (by decide) (by decide), xup_eq]; rfl
          · exact h4'.frame (z57 47 (by omega) (by decide)) (z57 46 (by omega) (by decide)) (by rw [zi 0 (by decide) (by decide) (by decide) (by decide) (by decide) (by decide) (by decide) (by decide)]) (zi 55 (by decide) (by decide) (by decide) (by decide) (by decide) (by decide) (by decide) (by decide)) (zi 86 (by decide) (by decide) (by decide) (by decide) (by decide) (by decide) (by decide) (by decide))
          · intro i a b
            rw [zi 56 (by decide) (by decide) (by decide) (by decide) (by decide) (by decide) (by decide) (by decide), zi 60 (by decide) (by decide) (by decide) (by decide) (by decide) (by decide) (by decide) (by decide)]
            exact h5' i a b
          · exact h6'.frame (z57 44 (by omega) (by decide)) (zi 84 (by decide) (by decide) (by decide) (by decide) (by decide) (by decide) (by decide) (by decide)) (f4 85 (by decide)) (fun k a b => zi k (by omega) (by omega) (by omega) (by omega) (by omega) (by omega) (by omega) (by omega)) (fun k a b => f4 k (by omega))
    · obtain ⟨I1, I2, r1, r2, r3, r4⟩ := ref2k h (-8) 8 (by decide) (by decide)
      have e12 : q 4 = 12 := by omega
      refine ⟨-8, I1, I2, L, ?_, ?_, r3⟩
      · rw [h10]
        unfold F_X8_hasRoom_15
        rw [xbn_e, d4, e12, if_pos (by decide), xzc_0, Option.bind_some, if_pos rfl, r1]
        rfl
      · rw [h11, show ∀ (I : xTI), xal (R := Int32 × xTI × xTL) I 58 40670 4 = xal I 58 40670 (nI 4) from fun _ => rfl, xal_n (by decide) (by decide), r4 58 (by decide), e4, e12, if_pos (by decide), r2]
        rfl
  · have g' : ¬ (¬ a1 < 0 ∧ ¬ a2 ≤ a1 ∧ a2 ≤ 1000) := fun e => g (hcond.mp e)
    obtain ⟨I1, I2, r1, r2, r3, r4⟩ := ref2k h (-7) 7 (by decide) (by decide)
    refine ⟨-7, I1, I2, L, ?_, ?_, r3⟩
    · have hj : F_X10_rule_j16 xN I = some (-7, I1) := by
        unfold F_X10_rule_j16
        rw [r1]; rfl
      unfold F_X10_rule
      rw [hj]
      by_cases k1 : a1 < 0
      · rw [if_pos k1]
      · rw [if_neg k1]
        by_cases k2 : a2 ≤ a1
        · rw [if_pos k2]
        · rw [if_neg k2, if_neg (fun k3 => g' ⟨k1, k2, k3⟩)]
    · have hj : F_X11_rule_j27 xN I1 L = some (-7, I2, L) := by
        unfold F_X11_rule_j27
        rw [r2]; rfl
      unfold F_X11_rule
      rw [hj, xin_iff, xin_iff]
      by_cases k1 : 0 ≤ a1 ∧ a1 ≤ 1000
      · rw [if_pos k1, Option.bind_some, if_neg (by decide)]
        by_cases k2 : 0 ≤ a2 ∧ a2 ≤ 1000
        · rw [if_pos k2, Option.bind_some, if_neg (by decide), if_neg (fun k3 => g ⟨k1, k2, k3⟩)]
        · rw [if_neg k2, Option.bind_some, if_pos rfl]
      · rw [if_neg k1, Option.bind_some, if_pos rfl]
