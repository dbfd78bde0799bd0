theorem IVb.mn {s : Nat → Int32} {q : Nat → Nat} {v : Nat} (h : IVb s q) (hv : q 1 ≤ v) : IVb s (qs q 1 v) := by
  intro b hb
  rcases h b hb with g | ⟨g, sl, by_, st, sh, pr, dy, ac, sta, g1, g2, g3, g4, g5, g6, g7, g8, f1, f2, f3⟩
  · exact Or.inl g
  · exact Or.inr ⟨g, sl, by_, st, sh, pr, dy, ac, sta, g1, g2, g3, g4, g5, g6, g7, g8, Nat.lt_of_lt_of_le f1 hv, Nat.lt_of_lt_of_le f2 hv, f3⟩
theorem IVo.mn {s : Nat → Int32} {q : Nat → Nat} {v : Nat} (h : IVo s q) (hv : q 1 ≤ v) : IVo s (qs q 1 v) := by
  refine ⟨fun i hi => ?_, fun i hi => h.2 i hi⟩
  obtain ⟨⟨g, t, k, a1, a2, a3, a4, a5, a6⟩, b⟩ := h.1 i hi
  exact ⟨⟨g, t, k, a1, a2, a3, Nat.lt_of_lt_of_le a4 hv, Nat.lt_of_lt_of_le a5 hv, a6⟩, b⟩
theorem IVd.mn {s : Nat → Int32} {q : Nat → Nat} {v : Nat} (h : IVd s q) (hv : q 1 ≤ v) : IVd s (qs q 1 v) := by
  refine ⟨fun i hi => ?_, h.2.1, h.2.2⟩
  obtain ⟨k, f, t, sh, a1, a2, a3, a4, a5, a6, a7, a8, a9, a10, a11, b⟩ := h.1 i hi
  exact ⟨k, f, t, sh, a1, a2, a3, a4, a5, Nat.lt_of_lt_of_le a6 hv, Nat.lt_of_lt_of_le a7 hv, a8, a9, a10, a11.imp id (fun ⟨m, h1, h2⟩ => ⟨m, Nat.lt_of_lt_of_le h1 hv, h2⟩), b⟩
/-- the memory once man m is entered: the class's, and then the reference's -/
def mI1 (I : xTI) (m : Nat) (p : Int32) : xTI := xup (xup (xup I 3 0 (nI (m + 1))) 7 m p) 8 m (-1)
def mI2 (I : xTI) (m : Nat) (p : Int32) : xTI := xup (xup (xup (xup (xup (mI1 I m p) 58 (16 + 4 * m) 1) 58 (16 + 4 * m + 1) p) 58 (16 + 4 * m + 2) (-1)) 58 (16 + 4 * m + 3) 0) 58 1 (nI (m + 1))
theorem mI1_ne {I : xTI} {m : Nat} {p : Int32} {k : Nat} (h3 : k ≠ 3) (h7 : k ≠ 7) (h8 : k ≠ 8) : mI1 I m p k = I k := by
  unfold mI1; rw [xup_ne h8, xup_ne h7, xup_ne h3]
theorem mI2_ne {I : xTI} {m : Nat} {p : Int32} {k : Nat} (h3 : k ≠ 3) (h7 : k ≠ 7) (h8 : k ≠ 8) (h58 : k ≠ 58) : mI2 I m p k = I k := by
  unfold mI2; rw [xup_ne h58, xup_ne h58, xup_ne h58, xup_ne h58, xup_ne h58, mI1_ne h3 h7 h8]
theorem mI2_s {I : xTI} {m : Nat} {p : Int32} (j : Nat) : mI2 I m p 58 j = if j = 1 then nI (m + 1) else if j = 16 + 4 * m + 3 then 0 else if j = 16 + 4 * m + 2 then -1 else if j = 16 + 4 * m + 1 then p else if j = 16 + 4 * m then 1 else I 58 j := by
  unfold mI2; rw [xup_at, xup_at, xup_at, xup_at, xup_at, mI1_ne (k := 58) (by decide) (by decide) (by decide)]
theorem mI2_c {I : xTI} {m : Nat} {p : Int32} : mI2 I m p 3 0 = nI (m + 1) ∧ (∀ j, mI2 I m p 7 j = if j = m then p else I 7 j) ∧ (∀ j, mI2 I m p 8 j = if j = m then -1 else I 8 j) := by
  unfold mI2 mI1
  refine ⟨?_, fun j => ?_, fun j => ?_⟩
  · rw [xup_ne (by decide), xup_ne (by decide), xup_ne (by decide), xup_ne (by decide), xup_ne (by decide), xup_ne (by decide), xup_ne (by decide), xup_at, if_pos rfl]
  · rw [xup_ne (by decide), xup_ne (by decide), xup_ne (by decide), xup_ne (by decide), xup_ne (by decide), xup_ne (by decide), xup_at, xup_ne (by decide)]
  · rw [xup_ne (by decide), xup_ne (by decide), xup_ne (by decide), xup_ne (by decide), xup_ne (by decide), xup_at, xup_ne (by decide), xup_ne (by decide)]
theorem nI_min {a : Nat} (h : a ≤ 12) (h2 : ¬ a < 12) : a = 12 := by omega
theorem pr_man : xs_man xRel := by
  intro kp n I L a1 a2 hn h
  obtain ⟨⟨q, hB, hV⟩, -⟩ := id h
  obtain ⟨c1, c2, c3, c4, c5, c6, c7, c8, c9⟩ := cnt hB hV
  unfold F_X10_man F_X11_man F_X10_man_j20 F_X11_man_j20 F_X3_enter
  simp only [xwi_iff, xin_iff, Option.bind_some, ite01, xbn_e]
  by_cases g1 : 0 ≤ a1 ∧ a1 ≤ 100000000
  · by_cases g2 : 0 ≤ a2 ∧ a2 ≤ 99
    · by_cases g : q 1 < 12
      · have hne : ∀ k, k ≠ 3 → k ≠ 7 → k ≠ 8 → k ≠ 58 → mI2 I (q 1) a2 k = I k := fun k => mI2_ne
        refine ⟨nI (q 1), mI1 I (q 1) a2, xup L 4 (q 1) a1.toInt64, mI2 I (q 1) a2, xup (xup L 4 (q 1) a1.toInt64) 59 (q 1) a1.toInt64, ?_, ?_, ?_⟩
        · rw [it_n g1, it_n g2, c1, if_pos (show nI (q 1) < (12 : Int32) from nI_lt (b := 12) g (by decide)), xas_n (by omega) (by decide), xas_n (by omega) (by decide), xas_n (by omega) (by decide), nI_1]; rfl
        · have e58 : mI1 I (q 1) a2 58 = I 58 := mI1_ne (by decide) (by decide) (by decide)
          have x16 : (16 : Int32) + 4 * nI (q 1) = nI (16 + 4 * q 1) := ix4 16 (q 1)
          have l1 : ∀ (I : xTI), xal (R := Int32 × xTI × xTL) I 58 40670 1 = xal I 58 40670 (nI 1) := fun _ => rfl
          have s1 : ∀ (I : xTI), xas (R := Int32 × xTI × xTL) I 58 40670 1 = xas I 58 40670 (nI 1) := fun _ => rfl
          have k1 : nI (16 + 4 * q 1) + 1 = nI (16 + 4 * q 1 + 1) := nI_add _ 1
          have k2 : nI (16 + 4 * q 1) + 2 = nI (16 + 4 * q 1 + 2) := nI_add _ 2
          have k3 : nI (16 + 4 * q 1) + 3 = nI (16 + 4 * q 1 + 3) := nI_add _ 3
          have k0 : (0 : Int32) + nI (q 1) = nI (0 + q 1) := nI_add 0 _
          rw [it_n g1, it_n g2, l1, xal_n (by decide) (by decide), e58, c3, if_neg (show ¬ nI (q 1) = (12 : Int32) from fun z => absurd ((nI_eq (b := 12) (by omega) (by decide)).mp z) (by omega)), xal_n (by decide) (by decide), e58, c3, x16, k1, k2, k3, k0, xas_n (by omega) (by decide), xas_n (by omega) (by decide), xas_n (by omega) (by decide), xas_n (by omega) (by decide), xas_n (by omega) (by decide), l1, xal_n (by decide) (by decide), s1, xas_n (by decide) (by decide), xup_at, if_neg (by omega), xup_at, if_neg (by omega), xup_at, if_neg (by omega), xup_at, if_neg (by omega), e58, c3, nI_1, Nat.zero_add]; rfl
        · refine h.book (xSame.of (fun k' e1 e2 => hne k' (by omega) (by omega) (by omega) e2) (fun k' hk' => by rw [xup_ne (by omega), xup_ne (by omega)])) ⟨qs q 1 (q 1 + 1), ?_⟩
          have hs := mI2_s (I := I) (m := q 1) (p := a2)
          obtain ⟨w3, w7, w8⟩ := mI2_c (I := I) (m := q 1) (p := a2)
          generalize mI2 I (q 1) a2 = I2 at hne hs w3 w7 w8
          have e59 : ∀ j, xup (xup L 4 (q 1) a1.toInt64) 59 (q 1) a1.toInt64 59 j = if j = q 1 then a1.toInt64 else L 59 j := by
            intro j; rw [xup_at, xup_ne (k' := 59) (by decide)]
          have e4 : ∀ j, xup (xup L 4 (q 1) a1.toInt64) 59 (q 1) a1.toInt64 4 j = if j = q 1 then a1.toInt64 else L 4 j := by
            intro j; rw [xup_ne (by decide), xup_at]
          have eL : ∀ k, k ≠ 4 → k ≠ 59 → xup (xup L 4 (q 1) a1.toInt64) 59 (q 1) a1.toInt64 k = L k := fun k h1 h2 => by rw [xup_ne h2, xup_ne h1]
          generalize xup (xup L 4 (q 1) a1.toInt64) 59 (q 1) a1.toInt64 = L2 at e59 e4 eL
          have hs64 : ∀ j, 64 ≤ j → I2 58 j = I 58 j := fun j hj => by rw [hs, if_neg (by omega), if_neg (by omega), if_neg (by omega), if_neg (by omega), if_neg (by omega)]
          have hsm : ∀ m' t, m' < 12 → t < 4 → m' ≠ q 1 → I2 58 (16 + 4 * m' + t) = I 58 (16 + 4 * m' + t) := fun m' t h1 h2 h3 => by rw [hs, if_neg (by omega), if_neg (by omega), if_neg (by omega), if_neg (by omega), if_neg (by omega)]
          have n0 : I2 58 (16 + 4 * q 1) = 1 := by rw [hs, if_neg (by omega), if_neg (by omega), if_neg (by omega), if_neg (by omega), if_pos rfl]
          have n1 : I2 58 (16 + 4 * q 1 + 1) = a2 := by rw [hs, if_neg (by omega), if_neg (by omega), if_neg (by omega), if_pos rfl]
          have n2 : I2 58 (16 + 4 * q 1 + 2) = -1 := by rw [hs, if_neg (by omega), if_neg (by omega), if_pos rfl]
          have n3 : I2 58 (16 + 4 * q 1 + 3) = 0 := by rw [hs, if_neg (by omega), if_pos rfl]
          obtain ⟨b1, b2, b3, b4, b5, b6⟩ := hB
          obtain ⟨v1, v2, v3, v4, v5, v6, v7⟩ := hV.mono
          have hup : ∀ m', m' < q 1 → I2 58 (16 + 4 * m') = I 58 (16 + 4 * m') := fun m' hm' => hsm m' 0 (by omega) (by decide) (by omega)
          refine ⟨⟨?_, ⟨fun m' hm' => ?_, fun j hj => ?_, fun k hk => ?_⟩, ⟨fun m' hm' => ?_, fun j hj => ?_, fun m' hm' => ⟨fun t ht => ?_, ?_⟩⟩, ?_, ?_, ?_⟩, ⟨?_, ⟨fun m' hm' => ?_, fun m' hm' h12 => ?_, fun j hj => ?_, fun m' k hm' hk z => ?_, fun k hk => ?_⟩, ?_, ?_, ⟨fun m' hm' => ?_, fun a b ha hb => ?_, fun m' h1 h2 t ht => ?_, ?_⟩, ?_, ?_⟩⟩
          · unfold BRn
            rw [w3, hne 1 (by decide) (by decide) (by decide) (by decide), hne 20 (by decide) (by decide) (by decide) (by decide), hne 15 (by decide) (by decide) (by decide) (by decide), hne 22 (by decide) (by decide) (by decide) (by decide), hne 24 (by decide) (by decide) (by decide) (by decide), hne 26 (by decide) (by decide) (by decide) (by decide)]
            exact ⟨b1.1, rfl, b1.2.2⟩
          · rw [w7, w8]
            by_cases e : m' = q 1
            · rw [if_pos e, if_pos e, e, n1, n2]; exact ⟨rfl, rfl⟩
            · have : m' < q 1 + 1 := hm'
              rw [if_neg e, if_neg e, hsm m' 1 (by omega) (by decide) e, hsm m' 2 (by omega) (by decide) e]; exact b2.1 m' (by omega)
          · rw [hs64 _ (by omega), hs64 _ (by omega), hne 9 (by decide) (by decide) (by decide) (by decide), hne 10 (by decide) (by decide) (by decide) (by decide)]; exact b2.2.1 j hj
          · rw [hs64 _ (by omega), hne 2 (by decide) (by decide) (by decide) (by decide)]; exact b2.2.2 k hk
          · rw [e4, e59, e59 (12 + m'), if_neg (show ¬ 12 + m' = q 1 by omega), eL 5 (by decide) (by decide)]
            refine ⟨?_, (b3.1 m' hm').2⟩
            rw [(b3.1 m' hm').1]
          · rw [e59, if_neg (by omega), eL 6 (by decide) (by decide)]; exact b3.2.1 j hj
          · rw [e59, if_neg (by omega), eL 28 (by decide) (by decide)]; exact (b3.2.2 m' hm').1 t ht
          · rw [eL 28 (by decide) (by decide), (b3.2.2 m' hm').2]
            by_cases e : m' = q 1
            · rw [e, n3, (v2.2.1 (q 1) (Nat.le_refl _) g).2]
            · rw [hsm m' 3 hm' (by decide) e]
          · exact b4.fr (hne 13 (by decide) (by decide) (by decide) (by decide)) (fun j e1 e2 => hs64 j (by omega))
          · exact b5.fr v1.2.2.2.2.1 v1.2.2.2.2.2.2.1 (by have := v1.2.2.2.2.2.2.2.2.1; omega) (hne 21 (by decide) (by decide) (by decide) (by decide)) (hne 23 (by decide) (by decide) (by decide) (by decide)) (hne 25 (by decide) (by decide) (by decide) (by decide)) (hne 27 (by decide) (by decide) (by decide) (by decide)) (fun j e1 e2 => hs64 j (by omega)) (fun j e1 e2 => hs64 j (by omega))
          · exact b6.fr v1.2.2.2.2.2.1 (hne 16 (by decide) (by decide) (by decide) (by decide)) (hne 17 (by decide) (by decide) (by decide) (by decide)) (fun j e1 e2 => hs64 j (by omega))
          · refine ⟨fun i hi => ?_, v1.2.1, g, v1.2.2.2⟩
            rw [hs]
            unfold qs
            by_cases e : i = 1
            · rw [if_pos e, if_pos e]
            · rw [if_neg e, if_neg e, if_neg (by omega), if_neg (by omega), if_neg (by omega), if_neg (by omega)]; exact v1.1 i hi
          · by_cases e : m' = q 1
            · rw [e, n0, n1, n2, n3]
              obtain ⟨p, -, hp, rfl⟩ := (rngl_iff (a := 0) (b := 99) (by decide) (by decide)).mp g2
              exact ⟨Or.inl ⟨rfl, rfl⟩, ⟨p, hp, rfl⟩, ⟨0, by decide, rfl⟩⟩
            · have : m' < q 1 + 1 := hm'
              rw [hup m' (by omega), hsm m' 1 (by omega) (by decide) e, hsm m' 2 (by omega) (by decide) e, hsm m' 3 (by omega) (by decide) e]; exact v2.1 m' (by omega)
          · have : q 1 + 1 ≤ m' := hm'
            rw [hsm m' 3 h12 (by decide) (by omega), show 16 + 4 * m' = 16 + 4 * m' + 0 from rfl, hsm m' 0 h12 (by decide) (by omega)]; exact v2.2.1 m' (by omega) h12
          · rw [hs64 _ (by omega), hs64 _ (by omega)]; exact v2.2.2.1 j hj
          · rw [hs64 _ (by omega)]; exact v2.2.2.2.1 m' k hm' hk (z.imp (fun z => Nat.le_of_succ_le z) id)
          · rw [hs64 _ (by omega)]; exact v2.2.2.2.2 k hk
          · exact (v3.fr c5 hup (fun j e1 e2 => hs64 j (by omega))).mn (Nat.le_succ _)
          · exact (v4.fr v1.2.2.2.2.1 v1.2.2.2.2.2.2.1 c5 hup (fun j e1 e2 => hs64 j (by omega))).mn (Nat.le_succ _)
          · rw [e59]
            by_cases e : m' = q 1
            · obtain ⟨y1, y2⟩ := i64_ge (k := 100000000) g1 (by decide)
              rw [if_pos e, Int32.toInt_toInt64]
              have y3 : a1.toInt ≤ 100000000 := y2
              exact ⟨y1, by omega, fun z => absurd (show q 1 + 1 ≤ m' from z) (by omega)⟩
            · rw [if_neg e]
              exact ⟨(v5.1 m' hm').1, (v5.1 m' hm').2.1, fun z => (v5.1 m' hm').2.2 (Nat.le_of_succ_le z)⟩
          · rw [e59, if_neg (by omega)]
            refine ⟨(v5.2.1 a b ha hb).1, (v5.2.1 a b ha hb).2.1, fun z => (v5.2.1 a b ha hb).2.2 ?_⟩
            by_cases ea : q 1 ≤ a
            · exact Or.inr (Or.inl ea)
            · by_cases eb : q 1 ≤ b
              · exact Or.inr (Or.inr (Or.inl eb))
              · unfold isUpP at z ⊢
                rw [hup a (by omega), hup b (by omega)] at z
                rcases z with z | z | z | z
                · exact Or.inl z
                · exact Or.inr (Or.inl (Nat.le_of_succ_le z))
                · exact Or.inr (Or.inr (Or.inl (Nat.le_of_succ_le z)))
                · exact Or.inr (Or.inr (Or.inr z))
          · rw [e59, if_neg (by omega)]; exact v5.2.2.1 m' (Nat.le_of_succ_le h1) h2 t ht
          · rw [exS_congr (c := L 59) 144 (fun j hj => by rw [e59, if_neg (by omega)])]; exact v5.2.2.2
          · exact (v6.fr (by have := v1.2.2.2.2.2.2.2.2.1; omega) hup (fun j e1 e2 => hs64 j (by omega))).mn (Nat.le_succ _)
          · exact v7.fr v1.2.2.2.2.2.1 (fun j e1 e2 => hs64 j (by omega))
      · obtain ⟨I1, I2, r1, r2, r3, r4⟩ := ref2k h (-8) 8 (by decide) (by decide)
        have e5 : q 1 = 12 := by omega
        refine ⟨-8, I1, L, I2, L, ?_, ?_, r3⟩
        · rw [it_n g1, it_n g2, c1, e5, if_neg (by decide), r1]; rfl
        · rw [it_n g1, it_n g2, show xal (R := Int32 × xTI × xTL) I1 58 40670 1 = xal I1 58 40670 (nI 1) from rfl, xal_n (by decide) (by decide), r4 58 (by decide), c3, e5, if_pos (by decide), r2]; rfl
    · obtain ⟨I1, I2, r1, r2, r3, r4⟩ := ref2k h (-7) 7 (by decide) (by decide)
      refine ⟨-7, I1, L, I2, L, ?_, ?_, r3⟩
      · rw [it_n g1, it_p g2, r1]; rfl
      · rw [it_n g1, it_p g2, r2]; rfl
  · obtain ⟨I1, I2, r1, r2, r3, r4⟩ := ref2k h (-7) 7 (by decide) (by decide)
    refine ⟨-7, I1, L, I2, L, ?_, ?_, r3⟩
    · rw [it_p g1, r1]; rfl
    · rw [it_p g1, r2]; rfl
