section
/-! run: what is owed beyond -/
theorem owe_sim {I : xTI} {L : xTL} {J : xTI} {M : xTL} {q : Nat → Nat} {n C E k p : Nat} (hI : BRi I (J 58) q) (hV : IVi (J 58) q n) (hc : BRc L (J 58) (M 59)) (hC : CE (M 59) (J 58) q C E) (hk : k < 5) (hp : p ≤ 999) (hbd : E + 5934060 < 2 ^ 60) : ∃ I2 L2 J2 M2, F_X2_oweExtra xN I L (nI k) (nI p) = some (I2, L2) ∧ xlp (F_X11_paysOut_b56 xN (nI k) (nI p)) xN (0, J, M) = some (J2, M2) ∧ BRc L2 (J 58) (M2 59) ∧ CE (M2 59) (J 58) q C (E + 5934060) ∧ (∀ k, k ≠ 18 → k ≠ 19 → I2 k = I k) ∧ (∀ k, 55 ≤ k → L2 k = L k) ∧ FrU J J2 ∧ (∀ k, k ≠ 57 → k ≠ 59 → M2 k = M k) := by
  have c9 := hV.1.2.1
  have c5 : q 1 ≤ 12 := hV.1.2.2.1
  unfold F_X2_oweExtra
  refine xlp_sim (P := fun i x y => x.1 = nI i ∧ y.1 = nI i ∧ BRc x.2.2 (J 58) (y.2.2 59) ∧ CE (y.2.2 59) (J 58) q C (E + 98901 * i) ∧ (∀ k, k ≠ 18 → k ≠ 19 → x.2.1 k = I k) ∧ (∀ k, 55 ≤ k → x.2.2 k = L k) ∧ FrU J y.2.1 ∧ (∀ k, k ≠ 57 → k ≠ 59 → y.2.2 k = M k)) 60 (fun r1 r2 => ∃ (I2 : xTI) (L2 : xTL) (J2 : xTI) (M2 : xTL), r1 = some (I2, L2) ∧ r2 = some (J2, M2) ∧ BRc L2 (J 58) (M2 59) ∧ CE (M2 59) (J 58) q C (E + 5934060) ∧ (∀ k, k ≠ 18 → k ≠ 19 → I2 k = I k) ∧ (∀ k, 55 ≤ k → L2 k = L k) ∧ FrU J J2 ∧ (∀ k, k ≠ 57 → k ≠ 59 → M2 k = M k)) ?_ ?_ xN xN (by decide) (by decide) (0, I, L) (0, J, M) ⟨rfl, rfl, hc, hC, fun _ _ _ => rfl, fun _ _ => rfl, FrU.rfl' _, fun _ _ _ => rfl⟩
  · rintro b hb ⟨x, I', L'⟩ ⟨y, J', M'⟩ ⟨e1, e2, h1, h2, h3, h4, h5, h6⟩
    dsimp only at e1 e2 h1 h2 h3 h4 h5 h6
    subst e1 e2
    have e58 : J' 58 = J 58 := h5.c (by decide) (by decide)
    have hI' : BRi I' (J 58) q := hI.tl h3
    have h2' : CE (M' 59) (J 58) q C (E + 98901 * (b + 1)) := ⟨h2.1, h2.2.1, h2.2.2.1, by have := h2.2.2.2; omega⟩
    have skip : (∀ K, F_X2_oweExtra_b9 xN (nI k) (nI p) (nI b, I', L') K = K (nI (b + 1), I', L')) → (∀ K, F_X11_paysOut_b56 xN (nI k) (nI p) (nI b, J', M') K = K (nI (b + 1), J', M')) → ∃ x' y', (∀ K, F_X2_oweExtra_b9 xN (nI k) (nI p) (nI b, I', L') K = K x') ∧ (∀ K, F_X11_paysOut_b56 xN (nI k) (nI p) (nI b, J', M') K = K y') ∧ (x'.1 = nI (b + 1) ∧ y'.1 = nI (b + 1) ∧ BRc x'.2.2 (J 58) (y'.2.2 59) ∧ CE (y'.2.2 59) (J 58) q C (E + 98901 * (b + 1)) ∧ (∀ k, k ≠ 18 → k ≠ 19 → x'.2.1 k = I k) ∧ (∀ k, 55 ≤ k → x'.2.2 k = L k) ∧ FrU J y'.2.1 ∧ (∀ k, k ≠ 57 → k ≠ 59 → y'.2.2 k = M k)) := fun g1 g2 => ⟨(nI (b + 1), I', L'), (nI (b + 1), J', M'), g1, g2, rfl, rfl, h1, h2', h3, h4, h5, h6⟩
    have u0 : ∀ K, F_X2_oweExtra_j61 K xN I' L' (nI k) (nI p) (nI b) 0 = K (nI (b + 1), I', L') := by
      intro K
      unfold F_X2_oweExtra_j61
      rw [if_pos rfl, nI_1]; rfl
    have u1 : ∀ K, F_X2_oweExtra_b9 xN (nI k) (nI p) (nI b, I', L') K = (if I' 13 (11 * b + 7) = 1 then (if I' 13 (11 * b + 2) = nI k then (if I' 1 0 ≤ I' 13 (11 * b + 5) then K (nI (b + 1), I', L') else F_X2_oweExtra_j61 K xN I' L' (nI k) (nI p) (nI b) 1) else K (nI (b + 1), I', L')) else K (nI (b + 1), I', L')) := by
      intro K
      show F_X2_oweExtra_c9 xN (nI k) (nI p) (nI b) I' L' K = _
      unfold F_X2_oweExtra_c9 F_X0_at
      rw [if_neg (n60 hb), at12_7 hb, at12_2 hb, at12_5 hb, u0]; rfl
    have w1 : ∀ K, F_X11_paysOut_b56 xN (nI k) (nI p) (nI b, J', M') K = (if J 58 (192 + 12 * b) = 1 ∧ J 58 (192 + 12 * b + 8) = 1 then (if J 58 (192 + 12 * b + 3) = nI k then (if J 58 0 ≤ J 58 (192 + 12 * b + 6) then K (nI (b + 1), J', M') else Option.bind (F_X11_ruled xN J' M' 5 (100 + nI b) 1) (fun (v8, I9, L10) => (if v8 = 0 then xbn (nI b + 1) (fun y11 => K (y11, I9, L10)) else Option.bind (F_X11_bg I9 (nI b) 1) (fun v12 => Option.bind (F_X11_bg I9 (nI b) 2) (fun v13 => xal L10 59 216 ((24 + (12 * v12)) + v13) (fun v14 => Option.bind (F_X11_bg I9 (nI b) 4) (fun v15 => xas L10 59 216 ((24 + (12 * v12)) + v13) (v14 + ((v15.toInt64) * ((nI p).toInt64))) (fun L16 => xbn (nI b + 1) (fun y17 => K (y17, I9, L16)))))))))) else K (nI (b + 1), J', M')) else K (nI (b + 1), J', M')) := by
      intro K
      show F_X11_paysOut_c56 xN (nI k) (nI p) (nI b) J' M' K = _
      unfold F_X11_paysOut_c56
      rw [if_neg (n60 hb), F11_stn hb, bg11_3 hb, bg11_6 hb, nI_1, e58]
      simp only [Option.bind_some, xbn_e, s58_0]
      rw [e58]
      by_cases e : J 58 (192 + 12 * b) = 1 ∧ J 58 (192 + 12 * b + 8) = 1
      · rw [if_pos e, if_pos e, if_neg (by decide)]
      · rw [if_neg e, if_neg e, if_pos rfl]
    rcases hV.2.2.1 b hb with h0 | ⟨h0, sl, by_, st, sh, pr, dy, ac, sta, g1, g2, g3, g4, g5, g6, g7, g8, f1, f2, f3, f4, f5, f6, f7, f8, f9, f10, f11, f12, m1, m2, m3, m4, m5, m6⟩
    · have z : I' 13 (11 * b + 7) = -1 := by
        rcases hI'.2.2.1 b hb with h | h
        · exact h.2
        · rw [h0] at h; exact absurd h.1 (by decide)
      exact skip (fun K => by rw [u1, z, if_neg (by decide)]) (fun K => by rw [w1, if_neg (fun h => by rw [h0] at h; exact absurd h.1 (by decide))])
    · have cl : ∀ t, t < 11 → I' 13 (11 * b + t) = J 58 (192 + 12 * b + (t + 1)) := fun t ht => bcell2 hI'.2.2.1 hb h0 ht
      by_cases es : sta = 1
      · subst es
        by_cases ek : st = k
        · subst ek
          by_cases ed : q 0 ≤ dy
          · exact skip (fun K => by rw [u1, cl 7 (by decide), g8, if_pos (show nI 1 = 1 from rfl), cl 2 (by decide), g3, if_pos rfl, cl 5 (by decide), g6, hI'.1.1, if_pos (nI_le ed (by omega))]) (fun K => by rw [w1, if_pos ⟨h0, g8⟩, g3, if_pos rfl, g6, hV.1.1 0 (by decide), if_pos (nI_le ed (by omega))])
          · obtain ⟨v, I1, t1, t2, t3⟩ := tells_i hI' hV (key := 5) (by decide) (kk := st) hk (some b) (fun bb h => by cases h; exact ⟨hb, h0, g3⟩)
            obtain ⟨J2, M2, r1, r2, r3⟩ := t3 J' M' e58
            have e58' : J2 58 = J 58 := (r2.c (by decide) (by decide)).trans e58
            have e59 : M2 59 = M' 59 := r3 59 (by decide)
            have t1' : F_X5_tells xN I' 5 (nI st) (nI b) = some (v, I1) := t1
            have r1' : F_X11_ruled xN J' M' 5 (100 + nI b) 1 = some (v, J2, M2) := by
              rw [show (100 : Int32) + nI b = nI (100 + b) by rw [show (100 : Int32) = nI 100 from rfl, nI_add]]; exact r1
            have hfI : ∀ k, k ≠ 18 → k ≠ 19 → I1 k = I k := fun k a1 a2 => (t2 k a1 a2).trans (h3 k a1 a2)
            have hfM : ∀ k, k ≠ 57 → k ≠ 59 → M2 k = M k := fun k a1 a2 => (r3 k a1).trans (h6 k a1 a2)
            have U : ∀ K, F_X2_oweExtra_b9 xN (nI st) (nI p) (nI b, I', L') K = (if v = 0 then K (nI (b + 1), I1, L') else K (nI (b + 1), I1, xup L' 6 (12 * sl + by_) (L' 6 (12 * sl + by_) + (nI sh).toInt64 * (nI p).toInt64))) := by
              intro K
              rw [u1, cl 7 (by decide), g8, if_pos (show nI 1 = 1 from rfl), cl 2 (by decide), g3, if_pos rfl, cl 5 (by decide), g6, hI'.1.1, if_neg (nI_ge (by omega) (by omega))]
              unfold F_X2_oweExtra_j61 F_X0_at
              rw [if_neg (by decide), t1']
              simp only [Option.bind_some, xbn_e, at12_0 hb, at12_1 hb, at12_3 hb, nI_1]
              rw [t2 13 (by decide) (by decide), cl 0 (by decide), cl 1 (by decide), cl 3 (by decide), g1, g2, g4, xal_i (i := 12 * sl + by_) (by rw [show (12 : Int32) = nI 12 from rfl, nI_mul, nI_add, Nat.mul_comm]) (by omega) (by decide), xas_i (i := 12 * sl + by_) (by rw [show (12 : Int32) = nI 12 from rfl, nI_mul, nI_add, Nat.mul_comm]) (by omega) (by decide)]
            have W : ∀ K, F_X11_paysOut_b56 xN (nI st) (nI p) (nI b, J', M') K = (if v = 0 then K (nI (b + 1), J2, M2) else K (nI (b + 1), J2, xup M2 59 (24 + (12 * sl + by_)) (M2 59 (24 + (12 * sl + by_)) + (nI sh).toInt64 * (nI p).toInt64))) := by
              intro K
              rw [w1, if_pos ⟨h0, g8⟩, g3, if_pos rfl, g6, hV.1.1 0 (by decide), if_neg (nI_ge (by omega) (by omega)), r1']
              simp only [Option.bind_some, xbn_e, bg11_1 hb, bg11_2 hb, bg11_4 hb, nI_1]
              rw [e58', g1, g2, g4, xal_i (i := 24 + (12 * sl + by_)) (by rw [show (24 : Int32) = nI 24 from rfl, show (12 : Int32) = nI 12 from rfl, ixc, Nat.add_assoc]) (by omega) (by decide), xas_i (i := 24 + (12 * sl + by_)) (by rw [show (24 : Int32) = nI 24 from rfl, show (12 : Int32) = nI 12 from rfl, ixc, Nat.add_assoc]) (by omega) (by decide)]
            by_cases ev : v = 0
            · exact ⟨(nI (b + 1), I1, L'), (nI (b + 1), J2, M2), fun K => by rw [U, if_pos ev], fun K => by rw [W, if_pos ev], rfl, rfl, by dsimp only; rw [e59]; exact h1, by dsimp only; rw [e59]; exact h2', hfI, h4, h5.trans r2, hfM⟩
            · refine ⟨(nI (b + 1), I1, xup L' 6 (12 * sl + by_) (L' 6 (12 * sl + by_) + (nI sh).toInt64 * (nI p).toInt64)), (nI (b + 1), J2, xup M2 59 (24 + (12 * sl + by_)) (M2 59 (24 + (12 * sl + by_)) + (nI sh).toInt64 * (nI p).toInt64)), fun K => by rw [U, if_neg ev], fun K => by rw [W, if_neg ev], rfl, rfl, ?_, ?_, hfI, ?_, h5.trans r2, ?_⟩
              · dsimp only
                have hx : ∀ j, xup M2 59 (24 + (12 * sl + by_)) (M2 59 (24 + (12 * sl + by_)) + (nI sh).toInt64 * (nI p).toInt64) 59 j = if j = 24 + (12 * sl + by_) then M' 59 (24 + (12 * sl + by_)) + (nI sh).toInt64 * (nI p).toInt64 else M' 59 j := fun j => by rw [xup_at, e59]
                refine ⟨fun m' hm' => ?_, fun j hj => ?_, fun m' hm' => ⟨fun t ht => ?_, ?_⟩⟩
                · rw [hx, hx, if_neg (by omega), if_neg (by omega), xup_ne (by decide), xup_ne (by decide)]; exact h1.1 m' hm'
                · rw [hx, xup_at]
                  by_cases e : j = 12 * sl + by_
                  · subst e; rw [if_pos rfl, if_pos rfl, h1.2.1 _ hj]
                  · rw [if_neg e, if_neg (by omega)]; exact h1.2.1 j hj
                · rw [hx, if_neg (by omega), xup_ne (by decide)]; exact (h1.2.2 m' hm').1 t ht
                · rw [xup_ne (by decide)]; exact (h1.2.2 m' hm').2
              · dsimp only
                have hx : ∀ j, xup M2 59 (24 + (12 * sl + by_)) (M2 59 (24 + (12 * sl + by_)) + (nI sh).toInt64 * (nI p).toInt64) 59 j = if j = 24 + (12 * sl + by_) then M' 59 (24 + (12 * sl + by_)) + (nI sh).toInt64 * (nI p).toInt64 else M' 59 j := fun j => by rw [xup_at, e59]
                have ml := i32mul (a := sh) (b := p) (by omega) (by omega)
                have mb : sh * p ≤ 99 * 999 := Nat.mul_le_mul f6 hp
                have mc : ((sh * p : Nat) : Int) = (sh : Int) * p := Int.natCast_mul sh p
                have le := exS_le (c := M' 59) (j := 12 * sl + by_) 144 h2.nn (by omega)
                have lb := h2.2.2.2
                have nn := (h2.2.1 sl by_ (by omega) (by omega)).1
                have hadd := i64add (x := M' 59 (24 + (12 * sl + by_))) (y := (nI sh).toInt64 * (nI p).toInt64) rfl ml (by omega) (by omega)
                refine ⟨fun m' hm' => ?_, fun a b' ha hb' => ?_, fun m' a1 a2 t ht => ?_, ?_⟩
                · rw [hx, if_neg (by omega)]; exact h2.1 m' hm'
                · rw [hx]
                  by_cases e : a = sl ∧ b' = by_
                  · obtain ⟨rfl, rfl⟩ := e
                    rw [if_pos rfl, hadd]
                    refine ⟨by omega, fun z => ?_⟩
                    have := m6 (by decide)
                    rcases z with z | z | z | z | z
                    · exact absurd z f3
                    · omega
                    · omega
                    · exact absurd this.1 z
                    · exact absurd this.2 z
                  · rw [if_neg (by omega)]; exact h2.2.1 a b' ha hb'
                · rw [hx, if_neg (by omega)]; exact h2.2.2.1 m' a1 a2 t ht
                · rw [exS_up (c := M' 59) (j := 12 * sl + by_) 144 (fun i hi hne => by rw [hx, if_neg (by omega)]), if_pos (by omega), hx, if_pos rfl, hadd]
                  omega
              · intro k' hk'
                dsimp only
                rw [xup_ne (by omega)]; exact h4 k' hk'
              · intro k' a1 a2
                dsimp only
                rw [xup_ne a2]; exact hfM k' a1 a2
        · have en : ¬ nI st = nI k := fun h => ek ((nI_eq (by have := hV.1.2.2.2.1; omega) (by omega)).mp h)
          exact skip (fun K => by rw [u1, cl 7 (by decide), g8, if_pos (show nI 1 = 1 from rfl), cl 2 (by decide), g3, if_neg en]) (fun K => by rw [w1, if_pos ⟨h0, g8⟩, g3, if_neg en])
      · have en : ¬ nI sta = 1 := fun h => es ((nI_eq (b := 1) (by omega) (by omega)).mp h)
        exact skip (fun K => by rw [u1, cl 7 (by decide), g8, if_neg en]) (fun K => by rw [w1, if_neg (by rw [g8]; exact fun h => en h.2)])
  · rintro ⟨x, I', L'⟩ ⟨y, J', M'⟩ ⟨e1, e2, h1, h2, h3, h4, h5, h6⟩
    dsimp only at e1 e2 h1 h2 h3 h4 h5 h6
    subst e1 e2
    refine ⟨some (I', L'), some (J', M'), fun K => ?_, fun K => ?_, I', L', J', M', rfl, rfl, h1, h2, h3, h4, h5, h6⟩
    · show F_X2_oweExtra_c9 xN (nI k) (nI p) (nI 60) I' L' K = _
      unfold F_X2_oweExtra_c9
      rw [if_pos (by decide)]
    · show F_X11_paysOut_c56 xN (nI k) (nI p) (nI 60) J' M' K = _
      unfold F_X11_paysOut_c56
      rw [if_pos (by decide)]
end
