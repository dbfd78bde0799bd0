theorem IVc.ext {c c2 : Nat → Int64} {s s2 : Nat → Int32} {q : Nat → Nat} {n : Nat} (h : IVc c s q n) (hu : ∀ m, m < q 1 → s2 (16 + 4 * m) = s (16 + 4 * m)) (hc : ∀ j, j < 216 → c2 j = c j) : IVc c2 s2 q n := by
  obtain ⟨a1, a2, a3⟩ := h.fr hu
  refine ⟨fun m hm => ?_, fun a b ha hb => ?_, fun m h1 h2 t ht => ?_, ?_⟩
  · rw [hc _ (by omega)]; exact a1 m hm
  · rw [hc _ (by omega)]; exact a2 a b ha hb
  · rw [hc _ (by omega)]; exact a3.1 m h1 h2 t ht
  · rw [exS_congr 144 (fun j hj => hc _ (by omega))]; exact a3.2
theorem IV.ext {s s2 : Nat → Int32} {c c2 : Nat → Int64} {q : Nat → Nat} {n : Nat} (h : IV s c q n) (hs : ∀ j, j < 40670 → s2 j = s j) (hc : ∀ j, j < 216 → c2 j = c j) : IV s2 c2 q n := by
  obtain ⟨v1, v2, v3, v4, v5, v6, v7⟩ := h
  have c5 : q 1 ≤ 12 := v1.2.2.1
  have hu : ∀ m, m < q 1 → s2 (16 + 4 * m) = s (16 + 4 * m) := fun m hm => hs _ (by omega)
  exact ⟨⟨fun i hi => by rw [hs _ (by omega)]; exact v1.1 i hi, v1.2⟩, v2.fr c5 (fun j _ _ => hs j (by omega)), v3.fr c5 hu (fun j _ _ => hs j (by omega)), v4.fr v1.2.2.2.2.1 v1.2.2.2.2.2.2.1 c5 hu (fun j _ _ => hs j (by omega)), v5.ext hu hc, v6.fr (by have := v1.2.2.2.2.2.2.2.2.1; omega) hu (fun j _ _ => hs j (by omega)), v7.fr v1.2.2.2.2.2.1 (fun j _ _ => hs j (by omega))⟩
/-- a Book's cells are the same, as far as they are read -/
def xBkS (I I2 : xTI) (L L2 : xTL) : Prop := (I2 1 0 = I 1 0 ∧ I2 1 1 = I 1 1 ∧ I2 1 11 = I 1 11 ∧ I2 1 12 = I 1 12 ∧ I2 3 0 = I 3 0 ∧ I2 15 3 = I 15 3 ∧ I2 20 3 = I 20 3 ∧ I2 22 3 = I 22 3 ∧ I2 24 3 = I 24 3 ∧ I2 26 3 = I 26 3) ∧
  (∀ j, j < 5 → I2 2 j = I 2 j) ∧ (∀ j, j < 12 → I2 7 j = I 7 j) ∧ (∀ j, j < 12 → I2 8 j = I 8 j) ∧ (∀ j, j < 60 → I2 9 j = I 9 j) ∧ (∀ j, j < 60 → I2 10 j = I 10 j) ∧ (∀ j, j < 660 → I2 13 j = I 13 j) ∧ (∀ j, j < 60 → I2 16 j = I 16 j) ∧ (∀ j, j < 1440 → I2 17 j = I 17 j) ∧ (∀ j, j < 140 → I2 21 j = I 21 j) ∧ (∀ j, j < 30 → I2 23 j = I 23 j) ∧ (∀ j, j < 2100 → I2 25 j = I 25 j) ∧ (∀ j, j < 1200 → I2 27 j = I 27 j) ∧
  (∀ j, j < 12 → L2 4 j = L 4 j) ∧ (∀ j, j < 12 → L2 5 j = L 5 j) ∧ (∀ j, j < 144 → L2 6 j = L 6 j) ∧ (∀ j, j < 60 → L2 28 j = L 28 j)
theorem BR.ext {I I2 : xTI} {L L2 : xTL} {s s2 : Nat → Int32} {c c2 : Nat → Int64} {q : Nat → Nat} (h : BR I L s c q) (hn : IVn s q) (hb : xBkS I I2 L L2) (hs : ∀ j, j < 40670 → s2 j = s j) (hc : ∀ j, j < 216 → c2 j = c j) : BR I2 L2 s2 c2 q := by
  obtain ⟨h1, h2, h3, h4, h5, h6⟩ := h
  obtain ⟨⟨a1, a2, a3, a4, a5, a6, a7, a8, a9, a10⟩, b2, b7, b8, b9, b10, b13, b16, b17, b21, b23, b25, b27, l4, l5, l6, l28⟩ := hb
  obtain ⟨-, q0, q1, q2, q3, q4, q5, q6, q7, q8, q9⟩ := hn
  refine ⟨?_, ⟨fun m hm => ?_, fun j hj => ?_, fun k hk => ?_⟩, ⟨fun m hm => ?_, fun j hj => ?_, fun m hm => ⟨fun t ht => ?_, ?_⟩⟩, fun b hb => ?_, ⟨fun i hi t ht => ?_, fun i hi t ht => ?_, fun i hi h3 t ht => ?_, fun i hi t ht => ?_⟩, fun r hr => ?_⟩
  · unfold BRn
    rw [a1, a2, a3, a4, a5, a6, a7, a8, a9, a10]
    exact h1
  · rw [b7 _ (by omega), b8 _ (by omega), hs _ (by omega), hs _ (by omega)]; exact h2.1 m hm
  · rw [b9 _ hj, b10 _ hj, hs _ (by omega), hs _ (by omega)]; exact h2.2.1 j hj
  · rw [b2 _ hk, hs _ (by omega)]; exact h2.2.2 k hk
  · rw [l4 _ hm, l5 _ hm, hc _ (by omega), hc _ (by omega)]; exact h3.1 m hm
  · rw [l6 _ hj, hc _ (by omega)]; exact h3.2.1 j hj
  · rw [l28 _ (by omega), hc _ (by omega)]; exact (h3.2.2 m hm).1 t ht
  · rw [l28 _ (by omega), hs _ (by omega)]; exact (h3.2.2 m hm).2
  · rw [hs _ (by omega), b13 _ (by omega)]
    rcases h4 b hb with g | ⟨g1, g2⟩
    · exact Or.inl g
    · exact Or.inr ⟨g1, fun t ht => by rw [b13 _ (by omega), hs _ (by omega)]; exact g2 t ht⟩
  · rw [b21 _ (by omega), hs _ (by omega)]; exact h5.1 i hi t ht
  · rw [b23 _ (by omega), hs _ (by omega)]; exact h5.2.1 i hi t ht
  · rw [b25 _ (by omega), hs _ (by omega)]; exact h5.2.2.1 i hi h3 t ht
  · rw [b27 _ (by omega), hs _ (by omega)]; exact h5.2.2.2 i hi t ht
  · obtain ⟨e1, e2, e3, sz, ve, ie, f1, f2, f3, f4⟩ := h6 r hr
    rw [b16 _ (by omega), b16 _ (by omega), b16 _ (by omega), hs _ (by omega), hs _ (by omega), hs _ (by omega)]
    refine ⟨e1, e2, e3, sz, ve, ie, by rw [hs _ (by omega)]; exact f1, by rw [b16 _ (by omega)]; exact f2, by rw [b16 _ (by omega)]; exact f3, ?_⟩
    exact f4.ext (fun i hi => hs _ (by omega)) (fun i hi => b17 _ (by omega))
/-- n cells of k0 are copied to k1 -/
def cp {α : Type} (I : Nat → Nat → α) (k0 k1 n : Nat) : Nat → Nat → α := fun k j => if k = k1 then (if j < n then I k0 j else I k1 j) else I k j
theorem xcp_l {α R : Type} {I : Nat → Nat → α} {k0 n0 k1 n1 n : Nat} {x : Int32} {K : (Nat → Nat → α) → Option R} (hx : x = nI n) (h0 : n ≤ n0) (h1 : n ≤ n1) (hn : n < 2 ^ 31) : xcp I k0 n0 k1 n1 0 0 x K = K (cp I k0 k1 n) := by
  subst hx
  unfold xcp
  have e0 : (0 : Int32).toNatClampNeg = 0 := by decide
  have hc : (nI n).toNatClampNeg = n := nI_clamp (by omega)
  rw [e0, hc, if_neg]
  · congr 1
    funext k j
    unfold cp va_cpy
    by_cases e : k = k1
    · rw [if_pos e, if_pos e]
      simp
    · rw [if_neg e, if_neg e]
  · rintro (g | g | g | g | g)
    · exact absurd g (by decide)
    · exact absurd g (by decide)
    · exact nI_pos (by omega) g
    · omega
    · omega
theorem xcp_5 {α R : Type} {I : Nat → Nat → α} {k0 k1 : Nat} {K : (Nat → Nat → α) → Option R} : xcp I k0 5 k1 5 0 0 5 K = K (cp I k0 k1 5) := xcp_l (n := 5) rfl (by decide) (by decide) (by decide)
theorem xcp_12 {α R : Type} {I : Nat → Nat → α} {k0 k1 : Nat} {K : (Nat → Nat → α) → Option R} : xcp I k0 12 k1 12 0 0 12 K = K (cp I k0 k1 12) := xcp_l (n := 12) rfl (by decide) (by decide) (by decide)
theorem xcp_144 {α R : Type} {I : Nat → Nat → α} {k0 k1 : Nat} {K : (Nat → Nat → α) → Option R} : xcp I k0 144 k1 144 0 0 144 K = K (cp I k0 k1 144) := xcp_l (n := 144) rfl (by decide) (by decide) (by decide)
theorem xcp_60 {α R : Type} {I : Nat → Nat → α} {k0 k1 : Nat} {K : (Nat → Nat → α) → Option R} : xcp I k0 60 k1 60 0 0 60 K = K (cp I k0 k1 60) := xcp_l (n := 60) rfl (by decide) (by decide) (by decide)
theorem xcp_660 {α R : Type} {I : Nat → Nat → α} {k0 k1 : Nat} {K : (Nat → Nat → α) → Option R} : xcp I k0 660 k1 660 0 0 660 K = K (cp I k0 k1 660) := xcp_l (n := 660) rfl (by decide) (by decide) (by decide)
theorem xcp_1440 {α R : Type} {I : Nat → Nat → α} {k0 k1 : Nat} {K : (Nat → Nat → α) → Option R} : xcp I k0 1440 k1 1440 0 0 1440 K = K (cp I k0 k1 1440) := xcp_l (n := 1440) rfl (by decide) (by decide) (by decide)
theorem xcp_140 {α R : Type} {I : Nat → Nat → α} {k0 k1 : Nat} {K : (Nat → Nat → α) → Option R} : xcp I k0 140 k1 140 0 0 140 K = K (cp I k0 k1 140) := xcp_l (n := 140) rfl (by decide) (by decide) (by decide)
theorem xcp_30 {α R : Type} {I : Nat → Nat → α} {k0 k1 : Nat} {K : (Nat → Nat → α) → Option R} : xcp I k0 30 k1 30 0 0 30 K = K (cp I k0 k1 30) := xcp_l (n := 30) rfl (by decide) (by decide) (by decide)
theorem xcp_2100 {α R : Type} {I : Nat → Nat → α} {k0 k1 : Nat} {K : (Nat → Nat → α) → Option R} : xcp I k0 2100 k1 2100 0 0 2100 K = K (cp I k0 k1 2100) := xcp_l (n := 2100) rfl (by decide) (by decide) (by decide)
theorem xcp_1200 {α R : Type} {I : Nat → Nat → α} {k0 k1 : Nat} {K : (Nat → Nat → α) → Option R} : xcp I k0 1200 k1 1200 0 0 1200 K = K (cp I k0 k1 1200) := xcp_l (n := 1200) rfl (by decide) (by decide) (by decide)
def tk0 (I : xTI) : xTI := xup (I) 87 0 ((I) 1 0)
def tk1 (I : xTI) : xTI := xup (tk0 I) 87 1 ((tk0 I) 1 1)
def tk2 (I : xTI) : xTI := cp (tk1 I) 2 88 5
def tk3 (I : xTI) : xTI := xup (tk2 I) 89 0 ((tk2 I) 3 0)
def tk4 (I : xTI) : xTI := cp (tk3 I) 7 93 12
def tk5 (I : xTI) : xTI := cp (tk4 I) 8 94 12
def tk6 (I : xTI) : xTI := cp (tk5 I) 9 95 60
def tk7 (I : xTI) : xTI := cp (tk6 I) 10 96 60
def tk8 (I : xTI) : xTI := xup (tk7 I) 98 3 ((tk7 I) 12 3)
def tk9 (I : xTI) : xTI := cp (tk8 I) 13 99 660
def tk10 (I : xTI) : xTI := xup (tk9 I) 101 3 ((tk9 I) 15 3)
def tk11 (I : xTI) : xTI := cp (tk10 I) 16 102 60
def tk12 (I : xTI) : xTI := cp (tk11 I) 17 103 1440
def tk13 (I : xTI) : xTI := xup (tk12 I) 106 3 ((tk12 I) 20 3)
def tk14 (I : xTI) : xTI := cp (tk13 I) 21 107 140
def tk15 (I : xTI) : xTI := xup (tk14 I) 108 3 ((tk14 I) 22 3)
def tk16 (I : xTI) : xTI := cp (tk15 I) 23 109 30
def tk17 (I : xTI) : xTI := xup (tk16 I) 110 3 ((tk16 I) 24 3)
def tk18 (I : xTI) : xTI := cp (tk17 I) 25 111 2100
def tk19 (I : xTI) : xTI := xup (tk18 I) 112 3 ((tk18 I) 26 3)
def tk20 (I : xTI) : xTI := cp (tk19 I) 27 113 1200
def tk21 (I : xTI) : xTI := xup (tk20 I) 87 11 ((tk20 I) 1 11)
def tk22 (I : xTI) : xTI := xup (tk21 I) 87 12 ((tk21 I) 1 12)
def tkL (L : xTL) : xTL := cp (cp (cp (cp L 4 90 12) 5 91 12) 6 92 144) 28 114 60
theorem tk_eq (I : xTI) (L : xTL) (h1 : I 1 11 = 0 ∨ I 1 11 = 1) (h2 : I 1 12 = 0 ∨ I 1 12 = 1) : F_X1_takeOver_87_1 I L = some (tk22 I, tkL L) := by
  have e1 : tk20 I 1 11 = I 1 11 := by simp [tk0, tk1, tk2, tk3, tk4, tk5, tk6, tk7, tk8, tk9, tk10, tk11, tk12, tk13, tk14, tk15, tk16, tk17, tk18, tk19, tk20, tk21, tk22, cp, xup]
  have e2 : tk21 I 1 12 = I 1 12 := by simp [tk0, tk1, tk2, tk3, tk4, tk5, tk6, tk7, tk8, tk9, tk10, tk11, tk12, tk13, tk14, tk15, tk16, tk17, tk18, tk19, tk20, tk21, tk22, cp, xup]
  unfold F_X1_takeOver_87_1 F_X3_takeOver_89_3 F_X8_takeOver_98_12 F_X5_takeOver_100_14 F_X8_takeOver_101_15 F_X8_takeOver_106_20 F_X8_takeOver_108_22 F_X8_takeOver_110_24 F_X8_takeOver_112_26
  simp only [xbn_e, Option.bind_some, xcp_5, xcp_12, xcp_144, xcp_60, xcp_660, xcp_1440, xcp_140, xcp_30, xcp_2100, xcp_1200, ite_self]
  show xzc (tk20 I 1 11) (xzc (tk21 I 1 12) (some (tk22 I, tkL L))) = _
  unfold xzc
  rw [if_pos (by rw [e1]; exact h1), if_pos (by rw [e2]; exact h2)]
theorem tk_lo (I : xTI) {k : Nat} (hk : k < 87) : tk22 I k = I k := by
  funext j
  have : ∀ d, 87 ≤ d → (k = d) = False := fun d hd => eq_false (by omega)
  simp [tk0, tk1, tk2, tk3, tk4, tk5, tk6, tk7, tk8, tk9, tk10, tk11, tk12, tk13, tk14, tk15, tk16, tk17, tk18, tk19, tk20, tk21, tk22, cp, xup, this]
theorem tk_loL (L : xTL) {k : Nat} (hk : k < 87) : tkL L k = L k := by
  funext j
  have : ∀ d, 87 ≤ d → (k = d) = False := fun d hd => eq_false (by omega)
  simp [tkL, cp, xup, this]
theorem tk_bk (I : xTI) (L : xTL) : xBkS I (fun k => tk22 I (k + 86)) L (fun k => tkL L (k + 86)) := by
  refine ⟨⟨?_, ?_, ?_, ?_, ?_, ?_, ?_, ?_, ?_, ?_⟩, ?_, ?_, ?_, ?_, ?_, ?_, ?_, ?_, ?_, ?_, ?_, ?_, ?_, ?_, ?_, ?_⟩ <;> (try intro j hj) <;> simp [tk0, tk1, tk2, tk3, tk4, tk5, tk6, tk7, tk8, tk9, tk10, tk11, tk12, tk13, tk14, tk15, tk16, tk17, tk18, tk19, tk20, tk21, tk22, tkL, cp, xup, *]
def bk0 (I : xTI) : xTI := xup (I) 1 0 ((I) 87 0)
def bk1 (I : xTI) : xTI := xup (bk0 I) 1 1 ((bk0 I) 87 1)
def bk2 (I : xTI) : xTI := cp (bk1 I) 88 2 5
def bk3 (I : xTI) : xTI := xup (bk2 I) 3 0 ((bk2 I) 89 0)
def bk4 (I : xTI) : xTI := cp (bk3 I) 93 7 12
def bk5 (I : xTI) : xTI := cp (bk4 I) 94 8 12
def bk6 (I : xTI) : xTI := cp (bk5 I) 95 9 60
def bk7 (I : xTI) : xTI := cp (bk6 I) 96 10 60
def bk8 (I : xTI) : xTI := xup (bk7 I) 12 3 ((bk7 I) 98 3)
def bk9 (I : xTI) : xTI := cp (bk8 I) 99 13 660
def bk10 (I : xTI) : xTI := xup (bk9 I) 15 3 ((bk9 I) 101 3)
def bk11 (I : xTI) : xTI := cp (bk10 I) 102 16 60
def bk12 (I : xTI) : xTI := cp (bk11 I) 103 17 1440
def bk13 (I : xTI) : xTI := xup (bk12 I) 20 3 ((bk12 I) 106 3)
def bk14 (I : xTI) : xTI := cp (bk13 I) 107 21 140
def bk15 (I : xTI) : xTI := xup (bk14 I) 22 3 ((bk14 I) 108 3)
def bk16 (I : xTI) : xTI := cp (bk15 I) 109 23 30
def bk17 (I : xTI) : xTI := xup (bk16 I) 24 3 ((bk16 I) 110 3)
def bk18 (I : xTI) : xTI := cp (bk17 I) 111 25 2100
def bk19 (I : xTI) : xTI := xup (bk18 I) 26 3 ((bk18 I) 112 3)
def bk20 (I : xTI) : xTI := cp (bk19 I) 113 27 1200
def bk21 (I : xTI) : xTI := xup (bk20 I) 1 11 ((bk20 I) 87 11)
def bk22 (I : xTI) : xTI := xup (bk21 I) 1 12 ((bk21 I) 87 12)
def bkL (L : xTL) : xTL := cp (cp (cp (cp L 90 4 12) 91 5 12) 92 6 144) 114 28 60
theorem bk_eq (I : xTI) (L : xTL) (h1 : I 87 11 = 0 ∨ I 87 11 = 1) (h2 : I 87 12 = 0 ∨ I 87 12 = 1) : F_X1_takeOver_1_87 I L = some (bk22 I, bkL L) := by
  have e1 : bk20 I 87 11 = I 87 11 := by simp [bk0, bk1, bk2, bk3, bk4, bk5, bk6, bk7, bk8, bk9, bk10, bk11, bk12, bk13, bk14, bk15, bk16, bk17, bk18, bk19, bk20, bk21, bk22, cp, xup]
  have e2 : bk21 I 87 12 = I 87 12 := by simp [bk0, bk1, bk2, bk3, bk4, bk5, bk6, bk7, bk8, bk9, bk10, bk11, bk12, bk13, bk14, bk15, bk16, bk17, bk18, bk19, bk20, bk21, bk22, cp, xup]
  unfold F_X1_takeOver_1_87 F_X3_takeOver_3_89 F_X8_takeOver_12_98 F_X5_takeOver_14_100 F_X8_takeOver_15_101 F_X8_takeOver_20_106 F_X8_takeOver_22_108 F_X8_takeOver_24_110 F_X8_takeOver_26_112
  simp only [xbn_e, Option.bind_some, xcp_5, xcp_12, xcp_144, xcp_60, xcp_660, xcp_1440, xcp_140, xcp_30, xcp_2100, xcp_1200, ite_self]
  show xzc (bk20 I 87 11) (xzc (bk21 I 87 12) (some (bk22 I, bkL L))) = _
  unfold xzc
  rw [if_pos (by rw [e1]; exact h1), if_pos (by rw [e2]; exact h2)]
theorem bk_lo (I : xTI) {k : Nat} (hk : k = 0 ∨ 29 ≤ k) : bk22 I k = I k := by
  funext j
  have : ∀ d, 1 ≤ d → d < 29 → (k = d) = False := fun d h1 h2 => eq_false (by omega)
  simp [bk0, bk1, bk2, bk3, bk4, bk5, bk6, bk7, bk8, bk9, bk10, bk11, bk12, bk13, bk14, bk15, bk16, bk17, bk18, bk19, bk20, bk21, bk22, cp, xup, this]
theorem bk_loL (L : xTL) {k : Nat} (hk : k = 0 ∨ 29 ≤ k) : bkL L k = L k := by
  funext j
  have : ∀ d, 1 ≤ d → d < 29 → (k = d) = False := fun d h1 h2 => eq_false (by omega)
  simp [bkL, cp, xup, this]
theorem bk_bk (I : xTI) (L : xTL) : xBkS (fun k => I (k + 86)) (bk22 I) (fun k => L (k + 86)) (bkL L) := by
  refine ⟨⟨?_, ?_, ?_, ?_, ?_, ?_, ?_, ?_, ?_, ?_⟩, ?_, ?_, ?_, ?_, ?_, ?_, ?_, ?_, ?_, ?_, ?_, ?_, ?_, ?_, ?_, ?_⟩ <;> (try intro j hj) <;> simp [bk0, bk1, bk2, bk3, bk4, bk5, bk6, bk7, bk8, bk9, bk10, bk11, bk12, bk13, bk14, bk15, bk16, bk17, bk18, bk19, bk20, bk21, bk22, bkL, cp, xup, *]
