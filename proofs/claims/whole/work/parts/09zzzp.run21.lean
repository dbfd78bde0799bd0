section
/-! run: settling. Differences -/
theorem neg_l {k : Nat} (hk : k < 2 ^ 31) (h0 : 0 < k) : (-nI k).toInt64 = -lN k := by
  apply Int64.toInt_inj.mp
  rw [Int32.toInt_toInt64, Int32.toInt_neg, nI_toInt hk, Int64.toInt_neg, pk_lT (by omega), Int.bmod_eq_of_le (by omega) (by omega), Int.bmod_eq_of_le (by omega) (by omega)]
theorem neg_sub_n {a b : Nat} (h : a ≤ b) (hb : b < 2 ^ 31) : nI a - nI b = -nI (b - a) := by
  apply Int32.toInt_inj.mp
  rw [Int32.toInt_sub, Int32.toInt_neg, nI_toInt (by omega), nI_toInt hb, nI_toInt (by omega)]
  congr 1
  omega
theorem dif_x {sh pr md : Nat} (h1 : 1 ≤ sh) (h2 : sh ≤ 99) (h3 : pr ≤ 9999) (h4 : md ≤ 9999) : ∃ X, X ≤ 989901 ∧ ((nI sh).toInt64 * (nI pr - nI md).toInt64 = lN X ∨ ((nI sh).toInt64 * (nI pr - nI md).toInt64 = -lN X ∧ 0 < X)) := by
  by_cases h : md ≤ pr
  · refine ⟨sh * (pr - md), ?_, Or.inl ?_⟩
    · have := Nat.mul_le_mul h2 (show pr - md ≤ 9999 by omega); omega
    · rw [nI_sub h, nI_l (by omega), nI_l (by omega), lN_mul]
  · refine ⟨sh * (md - pr), ?_, Or.inr ⟨?_, Nat.mul_pos (by omega) (by omega)⟩⟩
    · have := Nat.mul_le_mul h2 (show md - pr ≤ 9999 by omega); omega
    · rw [neg_sub_n (by omega) (by omega), neg_l (by omega) (by omega), nI_l (by omega), Int64.mul_neg, lN_mul]
theorem stF_all {s : Nat → Int32} {q : Nat → Nat} {b : Nat} {ac : Int32} (hV : IVb s q) (hb : b < 60) (h : stF s b ac) : ∃ sl by_ sh pr st, manA s q sl ∧ manA s q by_ ∧ sl ≠ by_ ∧ 1 ≤ sh ∧ sh ≤ 99 ∧ pr ≤ 9999 ∧ st < q 2 ∧ s (192 + 12 * b + 1) = nI sl ∧ s (192 + 12 * b + 2) = nI by_ ∧ s (192 + 12 * b + 4) = nI sh ∧ s (192 + 12 * b + 5) = nI pr ∧ s (192 + 12 * b + 3) = nI st := by
  rcases hV b hb with g | ⟨-, sl, by_, st, sh, pr, dy, ac, sta, g1, g2, g3, g4, g5, g6, g7, g8, f1, f2, f3, f4, f5, f6, f7, f8, f9, f10, f11, f12, m1, m2, m3, m4, m5, m6⟩
  · have := h.1; rw [g] at this; exact absurd this (by decide)
  · have hs : nI sta = nI 1 := g8.symm.trans h.2.1
    have : sta = 1 := (nI_eq (by omega) (by decide)).mp hs
    exact ⟨sl, by_, sh, pr, st, ⟨f1, (m6 (by omega)).1⟩, ⟨f2, (m6 (by omega)).2⟩, f3, f5, f6, f8, f4, g1, g2, g4, g5, g3⟩
theorem diff_sim {I J : xTI} {L M : xTL} {s : Nat → Int32} {q : Nat → Nat} {ex rf : Nat → Nat → Nat} {mk : Nat → Nat} {B : Nat} (h : OWs L M s q ex rf mk B) (hB : BRb I s) (hV : IVb s q) (hm : ∀ k, k < 5 → I 2 k = s (184 + k) ∧ isN (s (184 + k)) 9999) (hs : ∀ j, 64 ≤ j → J 58 j = s j) (hq : q 1 ≤ 12) (hq2 : q 2 ≤ 5) (ac x2 : Int32) : ∃ L2 M2 rf2, F_X6_oweDifferences xN I L ac = some L2 ∧ xlp (F_X11_owed_b74 xN J ac x2) xN (0, M) = xlp (F_X11_owed_b154 xN M2 x2) xN (0, J) ∧ OWs L2 M2 s q ex rf2 mk (B + 59394060) ∧ (∀ k, k ≠ 42 → L2 k = L k) ∧ (∀ k, k ≠ 70 → M2 k = M k) := by
  unfold F_X6_oweDifferences
  refine xlp_sim (P := fun i x y => x.1 = nI i ∧ y.1 = nI i ∧ ∃ rf2, OWs x.2 y.2 s q ex rf2 mk (B + 989901 * i) ∧ (∀ k, k ≠ 42 → x.2 k = L k) ∧ (∀ k, k ≠ 70 → y.2 k = M k)) 60 (fun r1 r2 => ∃ (L2 M2 : xTL) (rf2 : Nat → Nat → Nat), r1 = some L2 ∧ r2 = xlp (F_X11_owed_b154 xN M2 x2) xN (0, J) ∧ OWs L2 M2 s q ex rf2 mk (B + 59394060) ∧ (∀ k, k ≠ 42 → L2 k = L k) ∧ (∀ k, k ≠ 70 → M2 k = M k)) ?_ ?_ xN xN (by decide) (by decide) (0, L) (0, M) ⟨rfl, rfl, rf, h, fun _ _ => rfl, fun _ _ => rfl⟩
  · rintro b hb ⟨x, L'⟩ ⟨y, M'⟩ ⟨e1, e2, rf', hO, fL, fM⟩
    dsimp only at e1 e2 hO fL fM
    subst e1 e2
    have eb : ∀ t, t < 12 → J 58 (192 + 12 * b + t) = s (192 + 12 * b + t) := fun t ht => hs _ (by omega)
    have eb0 : J 58 (192 + 12 * b) = s (192 + 12 * b) := eb 0 (by decide)
    by_cases hst : stF s b ac
    · obtain ⟨sl, by_, sh, pr, st, a1, a2, a3, a4, a5, a6, a7, g1, g2, g4, g5, g3⟩ := stF_all hV hb hst
      obtain ⟨hm1, md, hmd, hm2⟩ := hm st (by omega)
      obtain ⟨X, hX, hx⟩ := dif_x a4 a5 a6 hmd
      obtain ⟨L2, M2, rf2, o1, o2, o3, o4, o5⟩ := owe_step hO hq a2 a1 hx (by omega)
      have cl : ∀ t, t < 11 → I 13 (11 * b + t) = s (192 + 12 * b + (t + 1)) := fun t ht => bcell2 hB hb hst.1 ht
      refine ⟨(nI (b + 1), L2), (nI (b + 1), M2), fun K => ?_, fun K => ?_, rfl, rfl, rf2, o3.le (by omega), fun k hk => (o4 k hk).trans (fL k hk), fun k hk => (o5 k hk).trans (fM k hk)⟩
      · show F_X6_oweDifferences_c8 xN I ac (nI b) L' K = _
        unfold F_X6_oweDifferences_c8 F_X0_at
        rw [if_neg (n60 hb), F10_sf hB hb, if_pos hst, at12_4 hb, at12_2 hb, at12_1 hb, at12_0 hb, at12_3 hb, cl 4 (by decide), cl 2 (by decide), cl 1 (by decide), cl 0 (by decide), cl 3 (by decide), g5, g3, g2, g1, g4]
        simp only [Option.bind_some]
        rw [if_neg (by decide), xal_n (by omega) (by decide), hm1, hm2, xbn_e, o1, Option.bind_some, xbn_e, nI_1]
      · show F_X11_owed_c74 xN J ac x2 (nI b) M' K = _
        unfold F_X11_owed_c74
        rw [if_neg (n60 hb), F11_stn hb, bg11_7 hb, bg11_2 hb, bg11_1 hb, bg11_4 hb, bg11_5 hb, bg11_3 hb, eb0, eb 8 (by decide), eb 7 (by decide), eb 2 (by decide), eb 1 (by decide), eb 4 (by decide), eb 5 (by decide), eb 3 (by decide), if_pos ⟨hst.1, hst.2.1⟩, g2, g1, g4, g5, g3]
        simp only [Option.bind_some]
        rw [if_neg (by decide), if_pos hst.2.2, xal_i (i := 184 + st) (by rw [show (184 : Int32) = nI 184 from rfl, nI_add]) (by omega) (by decide), hs _ (by omega), hm2, o2, Option.bind_some, xbn_e, nI_1]
    · refine ⟨(nI (b + 1), L'), (nI (b + 1), M'), fun K => ?_, fun K => ?_, rfl, rfl, rf', hO.le (by omega), fL, fM⟩
      · show F_X6_oweDifferences_c8 xN I ac (nI b) L' K = _
        unfold F_X6_oweDifferences_c8
        rw [if_neg (n60 hb), F10_sf hB hb, if_neg hst, Option.bind_some, if_pos rfl, xbn_e, nI_1]
      · show F_X11_owed_c74 xN J ac x2 (nI b) M' K = _
        unfold F_X11_owed_c74
        rw [if_neg (n60 hb), F11_stn hb, bg11_7 hb, eb0, eb 8 (by decide), eb 7 (by decide)]
        simp only [Option.bind_some, xbn_e, nI_1]
        by_cases e : s (192 + 12 * b) = 1 ∧ s (192 + 12 * b + 8) = 1
        · rw [if_pos e, if_neg (by decide), if_neg (fun z => hst ⟨e.1, e.2, z⟩)]
        · rw [if_neg e, if_pos rfl]
  · rintro ⟨x, L'⟩ ⟨y, M'⟩ ⟨e1, e2, rf', hO, fL, fM⟩
    dsimp only at e1 e2 hO fL fM
    subst e1 e2
    refine ⟨some L', _, fun K => ?_, fun K => ?_, L', M', rf', rfl, rfl, hO, fL, fM⟩
    · show F_X6_oweDifferences_c8 xN I ac (nI 60) L' K = _
      unfold F_X6_oweDifferences_c8
      rw [if_pos (by decide)]
    · show F_X11_owed_c74 xN J ac x2 (nI 60) M' K = _
      unfold F_X11_owed_c74
      rw [if_pos (by decide)]
/-- the reference lays its holds beside -/
theorem holds_e (J : xTI) (M : xTL) (x2 : Int32) : xlp (F_X11_owed_b154 xN M x2) xN (0, J) = xlp (F_X11_owed_b183 xN x2) xN (0, wr J 76 0 (fun j => J 58 (64 + j)) 60, M) := by
  rw [show ((0 : Int32), J) = (fun i => (nI i, wr J 76 0 (fun j => J 58 (64 + j)) i)) 0 from rfl]
  refine xlp_for (fun i => (nI i, wr J 76 0 (fun j => J 58 (64 + j)) i)) 60 _ (fun i hi K => ?_) (fun K => ?_) xN (by decide)
  · show F_X11_owed_c154 xN M x2 (nI i) (wr J 76 0 (fun j => J 58 (64 + j)) i) K = K (nI (i + 1), wr J 76 0 (fun j => J 58 (64 + j)) (i + 1))
    unfold F_X11_owed_c154
    rw [if_neg (n60 hi), xal_i (i := 64 + i) (by rw [show (64 : Int32) = nI 64 from rfl, nI_add]) (by omega) (by decide), wr_ne (by decide), xas_n hi (by decide), xbn_e, nI_1, ← wrs i]
  · show F_X11_owed_c154 xN M x2 (nI 60) (wr J 76 0 (fun j => J 58 (64 + j)) 60) K = _
    unfold F_X11_owed_c154
    rw [if_pos (by decide)]
end
