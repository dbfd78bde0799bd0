/-- the counts, as both sides read them -/
theorem cnt {I : xTI} {L : xTL} {q : Nat → Nat} {n : Nat} (hB : BR I L (I 58) (L 59) q) (hV : IV (I 58) (L 59) q n) : I 3 0 = nI (q 1) ∧ I 1 1 = nI (q 2) ∧ I 58 1 = nI (q 1) ∧ I 58 2 = nI (q 2) ∧ q 1 ≤ 12 ∧ q 2 ≤ 5 ∧ I 1 0 = nI (q 0) ∧ I 58 0 = nI (q 0) ∧ q 0 ≤ 700 :=
  ⟨hB.1.2.1, hB.1.2.2.1, hV.1.1 1 (by decide), hV.1.1 2 (by decide), hV.1.2.2.1, hV.1.2.2.2.1, hB.1.1, hV.1.1 0 (by decide), hV.1.2.1⟩
theorem F3_pl (a b : Nat) : F_X3_place (nI a) (nI b) = some (nI (5 * a + b)) := by
  unfold F_X3_place
  rw [show (5 : Int32) = nI 5 from rfl, nI_mul, nI_add, Nat.mul_comm]
theorem ix5 (c a b : Nat) : ((nI c) + (5 * nI a)) + nI b = nI (c + 5 * a + b) := by
  rw [show (5 : Int32) = nI 5 from rfl, nI_mul, nI_add, nI_add]
theorem xup_at {α : Type} {I : Nat → Nat → α} {k i j : Nat} {v : α} : xup I k i v k j = if j = i then v else I k j := by simp [xup]
theorem pr_asks : xs_asks xRel := by
  intro kp n I L a1 a2 a3 hn h
  obtain ⟨⟨q, hB, hV⟩, -⟩ := id h
  obtain ⟨c1, c2, c3, c4, c5, c6, -⟩ := cnt hB hV
  unfold F_X10_asks F_X11_asks F_X10_asks_j16 F_X11_asks_j16
  rw [F10_man c1 c5, F10_stk c2]
  simp only [Option.bind_some, ite01, xwi_iff, xin_iff]
  by_cases g1 : 0 ≤ a1 ∧ a1 ≤ nI (q 1) - 1
  · by_cases g2 : 0 ≤ a2 ∧ a2 ≤ nI (q 2) - 1
    · by_cases g3 : 0 ≤ a3 ∧ a3 ≤ 9999
      · obtain ⟨m, hm, rfl⟩ := (rng_iff (by omega)).mp g1
        obtain ⟨k, hk, rfl⟩ := (rng_iff (by omega)).mp g2
        obtain ⟨p, -, hp, rfl⟩ := (rngl_iff (a := 0) (b := 9999) (by decide) (by decide)).mp g3
        have hne : ∀ k', k' ≠ 10 → k' ≠ 58 → xup (xup I 10 (5 * m + k) (nI p)) 58 (124 + 5 * m + k) (nI p) k' = I k' := fun k' e1 e2 => by rw [xup_ne e2, xup_ne e1]
        refine ⟨I 10 (5 * m + k), xup I 10 (5 * m + k) (nI p), xup (xup I 10 (5 * m + k) (nI p)) 58 (124 + 5 * m + k) (nI p), ?_, ?_, ?_⟩
        · rw [it_n g1, it_n g2, it_n g3, F3_pl, Option.bind_some, xal_n (by omega) (by decide), xas_n (by omega) (by decide)]
        · have c3' : xup I 10 (5 * m + k) (nI p) 58 1 = nI (q 1) := by rw [xup_ne (by decide)]; exact c3
          have c4' : xup I 10 (5 * m + k) (nI p) 58 2 = nI (q 2) := by rw [xup_ne (by decide)]; exact c4
          rw [F11_man c3', F11_stk c4']
          simp only [Option.bind_some, ite01]
          rw [it_n g1, it_n g2, it_n g3, show (124 : Int32) = nI 124 from rfl, ix5, xal_n (by omega) (by decide), xas_n (by omega) (by decide), xup_ne (k' := 58) (by decide), (hB.2.1.2.1 (5 * m + k) (by omega)).2, show 124 + (5 * m + k) = 124 + 5 * m + k by omega]
        · refine h.book (xSame.of (fun k' e1 e2 => hne k' (by omega) e2) (fun _ _ => rfl)) ⟨q, ?_⟩
          obtain ⟨b1, b2, b3, b4, b5, b6⟩ := hB
          obtain ⟨v1, v2, v3, v4, v5, v6, v7⟩ := hV.mono
          have hs : ∀ j, j < 124 ∨ 184 ≤ j → xup (xup I 10 (5 * m + k) (nI p)) 58 (124 + 5 * m + k) (nI p) 58 j = I 58 j := by
            intro j hj
            rw [xup_at, if_neg (by omega), xup_ne (by decide)]
          have hs2 : ∀ j, j < 60 → xup (xup I 10 (5 * m + k) (nI p)) 58 (124 + 5 * m + k) (nI p) 58 (124 + j) = if j = 5 * m + k then nI p else I 58 (124 + j) := by
            intro j hj
            rw [xup_at, xup_ne (k' := 58) (by decide)]
            by_cases e : j = 5 * m + k
            · rw [if_pos (by omega), if_pos e]
            · rw [if_neg (by omega), if_neg e]
          refine ⟨⟨?_, ?_, ?_, ?_, ?_, ?_⟩, ⟨?_, ?_, ?_, ?_, ?_, ?_, ?_⟩⟩
          · unfold BRn
            rw [hne 1 (by decide) (by decide), hne 3 (by decide) (by decide), hne 20 (by decide) (by decide), hne 15 (by decide) (by decide), hne 22 (by decide) (by decide), hne 24 (by decide) (by decide), hne 26 (by decide) (by decide)]
            exact b1
          · unfold BRm
            rw [hne 7 (by decide) (by decide), hne 8 (by decide) (by decide), hne 9 (by decide) (by decide), hne 2 (by decide) (by decide)]
            refine ⟨fun m' hm' => ?_, fun j hj => ?_, fun k' hk' => ?_⟩
            · rw [hs _ (by omega), hs _ (by omega)]; exact b2.1 m' hm'
            · rw [hs _ (by omega), hs2 j hj, xup_ne (k' := 10) (by decide), xup_at]
              refine ⟨(b2.2.1 j hj).1, ?_⟩
              by_cases e : j = 5 * m + k
              · rw [if_pos e, if_pos e]
              · rw [if_neg e, if_neg e]; exact (b2.2.1 j hj).2
            · rw [hs _ (by omega)]; exact b2.2.2 k' hk'
          · refine ⟨b3.1, b3.2.1, fun m' hm' => ⟨(b3.2.2 m' hm').1, ?_⟩⟩
            rw [hs _ (by omega)]; exact (b3.2.2 m' hm').2
          · exact b4.fr (hne _ (by decide) (by decide)) (fun j e1 e2 => hs j (by omega))
          · exact b5.fr v1.2.2.2.2.1 v1.2.2.2.2.2.2.1 (by have := v1.2.2.2.2.2.2.2.2.1; omega) (hne _ (by decide) (by decide)) (hne _ (by decide) (by decide)) (hne _ (by decide) (by decide)) (hne _ (by decide) (by decide)) (fun j e1 e2 => hs j (by omega)) (fun j e1 e2 => hs j (by omega))
          · exact b6.fr v1.2.2.2.2.2.1 (hne _ (by decide) (by decide)) (hne _ (by decide) (by decide)) (fun j e1 e2 => hs j (by omega))
          · exact ⟨fun i hi => by rw [hs _ (by omega)]; exact v1.1 i hi, v1.2⟩
          · obtain ⟨a1, a2, a3, a4, a5⟩ := v2
            refine ⟨fun m' hm' => ?_, fun m' hm' h12 => ?_, fun j hj => ?_, fun m' k' hm' hk' g => ?_, fun k' hk' => ?_⟩
            · rw [hs _ (by omega), hs _ (by omega), hs _ (by omega), hs _ (by omega)]; exact a1 m' hm'
            · rw [hs _ (by omega), hs _ (by omega)]; exact a2 m' hm' h12
            · rw [hs _ (by omega), hs2 j hj]
              refine ⟨(a3 j hj).1, ?_⟩
              by_cases e : j = 5 * m + k
              · rw [if_pos e]; exact ⟨p, hp, rfl⟩
              · rw [if_neg e]; exact (a3 j hj).2
            · rw [hs _ (by omega)]; exact a4 m' k' hm' hk' g
            · rw [hs _ (by omega)]; exact a5 k' hk'
          · exact v3.fr c5 (fun m' hm' => hs _ (by omega)) (fun j e1 e2 => hs j (by omega))
          · exact v4.fr v1.2.2.2.2.1 v1.2.2.2.2.2.2.1 c5 (fun m' hm' => hs _ (by omega)) (fun j e1 e2 => hs j (by omega))
          · exact v5.fr (fun m' hm' => hs _ (by omega))
          · exact v6.fr (by have := v1.2.2.2.2.2.2.2.2.1; omega) (fun m' hm' => hs _ (by omega)) (fun j e1 e2 => hs j (by omega))
          · exact v7.fr v1.2.2.2.2.2.1 (fun j e1 e2 => hs j (by omega))
      · obtain ⟨I1, I2, r1, r2, r3, r4⟩ := ref2k h (-7) 7 (by decide) (by decide)
        refine ⟨-7, I1, I2, ?_, ?_, r3⟩
        · rw [it_n g1, it_n g2, it_p g3, r1]; rfl
        · rw [F11_man (q := q) (by rw [r4 58 (by decide)]; exact c3), F11_stk (q := q) (by rw [r4 58 (by decide)]; exact c4)]
          simp only [Option.bind_some, ite01]
          rw [it_n g1, it_n g2, it_p g3, r2]; rfl
    · obtain ⟨I1, I2, r1, r2, r3, r4⟩ := ref2k h (-3) 3 (by decide) (by decide)
      refine ⟨-3, I1, I2, ?_, ?_, r3⟩
      · rw [it_n g1, it_p g2, r1]; rfl
      · rw [F11_man (q := q) (by rw [r4 58 (by decide)]; exact c3), F11_stk (q := q) (by rw [r4 58 (by decide)]; exact c4)]
        simp only [Option.bind_some, ite01]
        rw [it_n g1, it_p g2, r2]; rfl
  · obtain ⟨I1, I2, r1, r2, r3, r4⟩ := ref2k h (-3) 3 (by decide) (by decide)
    refine ⟨-3, I1, I2, ?_, ?_, r3⟩
    · rw [it_p g1, r1]; rfl
    · rw [F11_man (q := q) (by rw [r4 58 (by decide)]; exact c3)]
      simp only [Option.bind_some, ite01]
      rw [it_p g1, r2]; rfl
