section
/-! run: settling begins: what is extra; differences -/
theorem wrZ {α : Type} {I : Nat → Nat → α} {k : Nat} {w : Nat → α} {n j : Nat} (hj : j < n) : wr I k 0 w n k j = w j := by
  have := wr_in (I := I) (k := k) (base := 0) (w := w) n hj
  rw [Nat.zero_add] at this; exact this
theorem wrs {α : Type} {I : Nat → Nat → α} {k : Nat} {w : Nat → α} (i : Nat) : xup (wr I k 0 w i) k i (w i) = wr I k 0 w (i + 1) := by
  show _ = xup (wr I k 0 w i) k (0 + i) (w i); rw [Nat.zero_add]
theorem fillL42 (L : xTL) : F_J7_fill_d0a16_42 xN L 0 = some (wr L 42 0 (fun _ => 0) 156) := by
  unfold F_J7_fill_d0a16_42
  rw [show ((0 : Int32), L) = (fun i => (nI i, wr L 42 0 (fun _ => 0) i)) 0 from rfl]
  refine xlp_for (fun i => (nI i, wr L 42 0 (fun _ => 0) i)) 156 _ (fun i hi K => ?_) (fun K => ?_) xN (by decide)
  · show F_J7_fill_d0a16_42_c6 xN 0 156 (nI i) (wr L 42 0 (fun _ => 0) i) K = K (nI (i + 1), wr L 42 0 (fun _ => 0) (i + 1))
    unfold F_J7_fill_d0a16_42_c6
    rw [if_neg (show ¬ (156 : Int32) ≤ nI i from nI_ge (b := 156) hi (by decide)), xas_n hi (by decide), xbn_e, nI_1, ← wrs i]
  · show F_J7_fill_d0a16_42_c6 xN 0 156 (nI 156) (wr L 42 0 (fun _ => 0) 156) K = _
    unfold F_J7_fill_d0a16_42_c6
    rw [if_pos (by decide)]
theorem fillL28 (L : xTL) : F_J7_fill_d0a16_28 xN L 0 = some (wr L 28 0 (fun _ => 0) 60) := by
  unfold F_J7_fill_d0a16_28
  rw [show ((0 : Int32), L) = (fun i => (nI i, wr L 28 0 (fun _ => 0) i)) 0 from rfl]
  refine xlp_for (fun i => (nI i, wr L 28 0 (fun _ => 0) i)) 60 _ (fun i hi K => ?_) (fun K => ?_) xN (by decide)
  · show F_J7_fill_d0a16_28_c6 xN 0 60 (nI i) (wr L 28 0 (fun _ => 0) i) K = K (nI (i + 1), wr L 28 0 (fun _ => 0) (i + 1))
    unfold F_J7_fill_d0a16_28_c6
    rw [if_neg (show ¬ (60 : Int32) ≤ nI i from nI_ge (b := 60) hi (by decide)), xas_n hi (by decide), xbn_e, nI_1, ← wrs i]
  · show F_J7_fill_d0a16_28_c6 xN 0 60 (nI 60) (wr L 28 0 (fun _ => 0) 60) K = _
    unfold F_J7_fill_d0a16_28_c6
    rw [if_pos (by decide)]
theorem fillL6 (L : xTL) : F_J7_fill_d0a16_6 xN L 0 = some (wr L 6 0 (fun _ => 0) 144) := by
  unfold F_J7_fill_d0a16_6
  rw [show ((0 : Int32), L) = (fun i => (nI i, wr L 6 0 (fun _ => 0) i)) 0 from rfl]
  refine xlp_for (fun i => (nI i, wr L 6 0 (fun _ => 0) i)) 144 _ (fun i hi K => ?_) (fun K => ?_) xN (by decide)
  · show F_J7_fill_d0a16_6_c6 xN 0 144 (nI i) (wr L 6 0 (fun _ => 0) i) K = K (nI (i + 1), wr L 6 0 (fun _ => 0) (i + 1))
    unfold F_J7_fill_d0a16_6_c6
    rw [if_neg (show ¬ (144 : Int32) ≤ nI i from nI_ge (b := 144) hi (by decide)), xas_n hi (by decide), xbn_e, nI_1, ← wrs i]
  · show F_J7_fill_d0a16_6_c6 xN 0 144 (nI 144) (wr L 6 0 (fun _ => 0) 144) K = _
    unfold F_J7_fill_d0a16_6_c6
    rw [if_pos (by decide)]
theorem fillL43 (L : xTL) : F_J7_fill_d0a16_43 xN L 0 = some (wr L 43 0 (fun _ => 0) 156) := by
  unfold F_J7_fill_d0a16_43
  rw [show ((0 : Int32), L) = (fun i => (nI i, wr L 43 0 (fun _ => 0) i)) 0 from rfl]
  refine xlp_for (fun i => (nI i, wr L 43 0 (fun _ => 0) i)) 156 _ (fun i hi K => ?_) (fun K => ?_) xN (by decide)
  · show F_J7_fill_d0a16_43_c6 xN 0 156 (nI i) (wr L 43 0 (fun _ => 0) i) K = K (nI (i + 1), wr L 43 0 (fun _ => 0) (i + 1))
    unfold F_J7_fill_d0a16_43_c6
    rw [if_neg (show ¬ (156 : Int32) ≤ nI i from nI_ge (b := 156) hi (by decide)), xas_n hi (by decide), xbn_e, nI_1, ← wrs i]
  · show F_J7_fill_d0a16_43_c6 xN 0 156 (nI 156) (wr L 43 0 (fun _ => 0) 156) K = _
    unfold F_J7_fill_d0a16_43_c6
    rw [if_pos (by decide)]
theorem SF_app {f : Nat → Nat} {m : Nat} : ∀ d, SF f (m + d) = SF f m + SF (fun b => f (m + b)) d
  | 0 => rfl
  | d + 1 => by rw [show m + (d + 1) = (m + d) + 1 by omega, SF, SF_app d, SF]; omega
theorem SF_12 {f : Nat → Nat} : ∀ n, SF f (12 * n) = SF (fun a => SF (fun b => f (12 * a + b)) 12) n
  | 0 => rfl
  | n + 1 => by rw [show 12 * (n + 1) = 12 * n + 12 by omega, SF_app, SF_12 n]; rfl
/-- what man a owes man b beyond -/
def exN (c : Nat → Int64) (a b : Nat) : Nat := (c (24 + (12 * a + b))).toInt.toNat
theorem lN_of {x : Int64} (h : 0 ≤ x.toInt) : x = lN x.toInt.toNat := by
  have hb := Int64.toInt_lt x
  apply Int64.toInt_inj.mp
  rw [pk_lT (by omega)]; omega
theorem exS_SF {c : Nat → Int64} : ∀ n, (∀ i, i < n → 0 ≤ (c (24 + i)).toInt) → exS c n = (SF (fun j => (c (24 + j)).toInt.toNat) n : Int)
  | 0, _ => rfl
  | n + 1, h => by
    have := h n (Nat.lt_succ_self n)
    rw [exS, exS_SF n (fun i hi => h i (Nat.lt_succ_of_lt hi)), SF]; omega
theorem ex_tot {c : Nat → Int64} {s : Nat → Int32} {q : Nat → Nat} {C E : Nat} (h : CE c s q C E) : rfT (exN c) (fun _ => 0) ≤ E := by
  have h1 := exS_SF 144 h.nn
  have h2 := SF_12 (f := fun j => (c (24 + j)).toInt.toNat) 12
  have h3 := h.2.2.2
  have h4 : rfT (exN c) (fun _ => 0) = SF (fun j => (c (24 + j)).toInt.toNat) 144 := by
    rw [show 144 = 12 * 12 from rfl, h2]; rfl
  omega
/-- both lay what is extra, the reference's market is empty -/
theorem owed0 {I J : xTI} {L M : xTL} {q : Nat → Nat} {n H C E : Nat} (hS : RSt I L J M q n H C E) (ac : Int32) : ∃ L3 J3 M3, Option.bind (F_J7_fill_d0a16_42 xN L 0) (fun L2 => F_J7_fill_d0a16_28 xN L2 0) = some L3 ∧ F_X11_owed xN J M ac = xlp (F_X11_owed_b74 xN J3 ac (nI (q 1))) xN (0, M3) ∧ OWs L3 M3 (J 58) q (exN (M 59)) (exN (M 59)) (fun _ => 0) E ∧ (∀ j, j < 60 → L3 28 j = 0) ∧ (∀ k, k ≠ 42 → k ≠ 28 → L3 k = L k) ∧ (∀ j, J3 58 j = if 16 ≤ j ∧ j < 64 ∧ j % 4 = 3 then 0 else J 58 j) ∧ (∀ k, k ≠ 58 → J3 k = J k) ∧ (∀ k, k ≠ 70 → k ≠ 71 → M3 k = M k) := by
  obtain ⟨hI, hV, hH, hc, hC⟩ := hS
  have c5 := hV.1.2.2.1
  have nn := hC.nn
  have X1 : xlp (F_X11_owed_b9 xN J ac (nI (q 1))) xN (0, M) = xlp (F_X11_owed_b39 xN ac (nI (q 1))) xN (0, J, wr M 70 0 (fun j => M 59 (24 + j)) 144) := by
    rw [show ((0 : Int32), M) = (fun i => (nI i, wr M 70 0 (fun j => M 59 (24 + j)) i)) 0 from rfl]
    refine xlp_for (fun i => (nI i, wr M 70 0 (fun j => M 59 (24 + j)) i)) 144 _ (fun i hi K => ?_) (fun K => ?_) xN (by decide)
    · show F_X11_owed_c9 xN J ac (nI (q 1)) (nI i) (wr M 70 0 (fun j => M 59 (24 + j)) i) K = K (nI (i + 1), wr M 70 0 (fun j => M 59 (24 + j)) (i + 1))
      unfold F_X11_owed_c9
      rw [if_neg (show ¬ (144 : Int32) ≤ nI i from nI_ge (b := 144) hi (by decide)), xal_i (i := 24 + i) (by rw [show (24 : Int32) = nI 24 from rfl, nI_add]) (by omega) (by decide), wr_ne (by decide), xas_n hi (by decide), xbn_e, nI_1, ← wrs i]
    · show F_X11_owed_c9 xN J ac (nI (q 1)) (nI 144) (wr M 70 0 (fun j => M 59 (24 + j)) 144) K = _
      unfold F_X11_owed_c9
      rw [if_pos (by decide)]
  have hM1 : ∀ j, j < 144 → wr M 70 0 (fun j => M 59 (24 + j)) 144 70 j = M 59 (24 + j) := fun j hj => wrZ hj
  have hM1n : ∀ k, k ≠ 70 → wr M 70 0 (fun j => M 59 (24 + j)) 144 k = M k := fun k hk => wr_ne hk _
  generalize wr M 70 0 (fun j => M 59 (24 + j)) 144 = M1 at X1 hM1 hM1n
  -- the market, what was bought in
  have X2 : ∃ J3 M3, xlp (F_X11_owed_b39 xN ac (nI (q 1))) xN (0, J, M1) = xlp (F_X11_owed_b74 xN J3 ac (nI (q 1))) xN (0, M3) ∧ (∀ j, J3 58 j = if 16 ≤ j ∧ j < 64 ∧ j % 4 = 3 then 0 else J 58 j) ∧ (∀ k, k ≠ 58 → J3 k = J k) ∧ (∀ a, a < 12 → M3 71 a = 0) ∧ (∀ k, k ≠ 71 → M3 k = M1 k) := by
    obtain ⟨r, e1, J3, M3, e2, e3⟩ := xlp_inv (b := F_X11_owed_b39 xN ac (nI (q 1))) (fun i x => x.1 = nI i ∧ (∀ j, x.2.1 58 j = if 16 ≤ j ∧ j < 16 + 4 * i ∧ j % 4 = 3 then 0 else J 58 j) ∧ (∀ k, k ≠ 58 → x.2.1 k = J k) ∧ (∀ a, a < i → x.2.2 71 a = 0) ∧ (∀ k, k ≠ 71 → x.2.2 k = M1 k)) 12 (fun r => ∃ J3 M3, r = xlp (F_X11_owed_b74 xN J3 ac (nI (q 1))) xN (0, M3) ∧ (∀ j, J3 58 j = if 16 ≤ j ∧ j < 64 ∧ j % 4 = 3 then 0 else J 58 j) ∧ (∀ k, k ≠ 58 → J3 k = J k) ∧ (∀ a, a < 12 → M3 71 a = 0) ∧ (∀ k, k ≠ 71 → M3 k = M1 k)) (by
      rintro i hi ⟨x, J', M'⟩ ⟨f1, f2, f3, f4, f5⟩
      dsimp only at f1 f2 f3 f4 f5
      subst f1
      refine ⟨(nI (i + 1), xup J' 58 (16 + 4 * i + 3) 0, xup M' 71 i 0), fun K => ?_, rfl, fun j => ?_, fun k hk => ?_, fun a ha => ?_, fun k hk => ?_⟩
      · show F_X11_owed_c39 xN ac (nI (q 1)) (nI i) J' M' K = _
        unfold F_X11_owed_c39
        rw [if_neg (n12 hi), xas_n hi (by decide), xas_i (i := 16 + 4 * i + 3) (by rw [show (16 : Int32) = nI 16 from rfl, show (4 : Int32) = nI 4 from rfl, show (3 : Int32) = nI 3 from rfl, ixc]) (by omega) (by decide), xbn_e, nI_1]
      · dsimp only
        rw [xup_at, f2]
        by_cases z : j = 16 + 4 * i + 3
        · rw [if_pos z, if_pos (by omega)]
        · rw [if_neg z]
          by_cases z2 : 16 ≤ j ∧ j < 16 + 4 * i ∧ j % 4 = 3
          · rw [if_pos z2, if_pos (by omega)]
          · rw [if_neg z2, if_neg (by omega)]
      · dsimp only
        rw [xup_ne hk]; exact f3 k hk
      · dsimp only
        rw [xup_at]
        by_cases z : a = i
        · rw [if_pos z]
        · rw [if_neg z]; exact f4 a (by omega)
      · dsimp only
        rw [xup_ne hk]; exact f5 k hk) (by
      rintro ⟨x, J', M'⟩ ⟨f1, f2, f3, f4, f5⟩
      dsimp only at f1 f2 f3 f4 f5
      subst f1
      refine ⟨_, fun K => ?_, J', M', rfl, f2, f3, f4, f5⟩
      show F_X11_owed_c39 xN ac (nI (q 1)) (nI 12) J' M' K = _
      unfold F_X11_owed_c39
      rw [if_pos (by decide)]) xN (by decide) (0, J, M1) ⟨rfl, fun j => by rw [if_neg (by omega)], fun _ _ => rfl, fun a ha => absurd ha (Nat.not_lt_zero _), fun _ _ => rfl⟩
    exact ⟨J3, M3, by rw [e1, e2], e3⟩
  obtain ⟨J3, M3, x1, x2, x3, x4, x5⟩ := X2
  have hL42 : ∀ j, j < 156 → wr (wr L 42 0 (fun _ => 0) 156) 28 0 (fun _ => 0) 60 42 j = 0 := fun j hj => by rw [wr_ne (by decide)]; exact wrZ hj
  refine ⟨wr (wr L 42 0 (fun _ => 0) 156) 28 0 (fun _ => 0) 60, J3, M3, ?_, ?_, ?_, fun j hj => wrZ hj, fun k h1 h2 => by rw [wr_ne h2, wr_ne h1], x2, x3, fun k h1 h2 => by rw [x5 k h2, hM1n k h1]⟩
  · rw [fillL42, Option.bind_some, fillL28]
  · unfold F_X11_owed
    rw [s58_1, hV.1.1 1 (by decide), X1, x1]
  · have hm70 : ∀ a b, a < 12 → b < 12 → M3 70 (12 * a + b) = lN (exN (M 59) a b) := fun a b ha hb => by
      rw [x5 70 (by decide), hM1 _ (by omega)]
      exact lN_of (hC.2.1 a b ha hb).1
    refine ⟨fun a ha => ⟨hL42 _ (by omega), by rw [hL42 _ (by omega)]; rfl, by rw [x4 a ha]; rfl⟩, fun a b ha hb => ⟨hm70 a b ha hb, ?_⟩, fun a b ha hb z => ?_, fun _ _ _ => rfl, ex_tot hC⟩
    · rw [hL42 _ (by omega), hL42 _ (by omega)]
      grind
    · have : M 59 (24 + (12 * a + b)) = 0 := (hC.2.1 a b ha hb).2 (by
        unfold manA at z
        by_cases z1 : a = b
        · exact Or.inl z1
        · by_cases z2 : q 1 ≤ a
          · exact Or.inr (Or.inl z2)
          · by_cases z3 : q 1 ≤ b
            · exact Or.inr (Or.inr (Or.inl z3))
            · rcases z with z | z | z
              · exact absurd z z1
              · exact Or.inr (Or.inr (Or.inr (Or.inl (fun w => z ⟨by omega, w⟩))))
              · exact Or.inr (Or.inr (Or.inr (Or.inr (fun w => z ⟨by omega, w⟩)))))
      unfold exN
      rw [this]; rfl
end
