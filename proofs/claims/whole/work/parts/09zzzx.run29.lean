section
/-! run: settling. All bargains and options of those who fell -/
def VS (s0 s : Nat → Int32) (a : Nat) : Prop := (∀ j, ¬ (192 ≤ j ∧ j < 912 ∧ (j - 192) % 12 = 8) → s j = s0 j) ∧ (∀ b, b < 60 → s (192 + 12 * b + 8) = s0 (192 + 12 * b + 8) ∨ (s (192 + 12 * b + 8) = 3 ∧ lv s0 b)) ∧ (∀ b, b < 60 → lv s b → ∀ x, x < a → ¬ isUpP s0 x → s0 (192 + 12 * b + 1) ≠ nI x ∧ s0 (192 + 12 * b + 2) ≠ nI x)
def VR (I0 : xTI) (L0 : xTL) (J0 : xTI) (M0 : xTL) (I : xTI) (L : xTL) (J : xTI) (M : xTL) (q : Nat → Nat) (a : Nat) : Prop := WB I (J 58) q ∧ (∀ o, o < 12 → L 5 o = M 59 (12 + o)) ∧ (∀ k, k ≠ 13 → k ≠ 21 → I k = I0 k) ∧ (∀ k, k ≠ 5 → L k = L0 k) ∧ (∀ k, k ≠ 58 → J k = J0 k) ∧ (∀ k, k ≠ 59 → M k = M0 k) ∧ (∀ j, (j < 12 ∨ 24 ≤ j) → M 59 j = M0 59 j) ∧ VS (J0 58) (J 58) a
theorem lv3 {s s2 : Nat → Int32} {a b b' : Nat} (hb' : b' < 60) (h : ∀ j, s2 j = if j = 192 + 12 * b + 8 ∧ vh s a b then 3 else s j) (hl : lv s2 b') : lv s b' ∧ (b' = b → ¬ vh s a b) := by
  have h0 : s2 (192 + 12 * b') = s (192 + 12 * b') := by rw [h, if_neg (by omega)]
  by_cases e : b' = b ∧ vh s a b
  · have h8 : s2 (192 + 12 * b' + 8) = 3 := by rw [h, if_pos ⟨by omega, e.2⟩]
    rcases hl.2 with z | z
    · rw [h8] at z; exact absurd z (by decide)
    · rw [h8] at z; exact absurd z (by decide)
  · have h8 : s2 (192 + 12 * b' + 8) = s (192 + 12 * b' + 8) := by rw [h, if_neg (fun z => e ⟨by omega, z.2⟩)]
    refine ⟨⟨by rw [← h0]; exact hl.1, by rw [← h8]; exact hl.2⟩, fun z w => e ⟨z, w⟩⟩
theorem void_sim {I0 J0 I J : xTI} {L0 M0 L M : xTL} {q : Nat → Nat} {a : Nat} (hV : VR I0 L0 J0 M0 I L J M q a) (hm0 : ∀ k, k < 5 → I0 2 k = J0 58 (184 + k)) (hq1 : q 1 ≤ 12) (hq2 : q 2 ≤ 5) (ha : a < q 1) (hd : ¬ isUpP (J0 58) a) : ∃ I2 L2 J2 M2, F_X6_voidBargainsOf xN I L (nI a) = some (I2, L2) ∧ (∀ K, xlp (F_X11_settles_b515 K xN (nI a)) xN (0, J, M) = K (nI (a + 1), J2, M2)) ∧ VR I0 L0 J0 M0 I2 L2 J2 M2 q (a + 1) ∧ I2 21 = I 21 := by
  obtain ⟨x', y', hP, n1, n2⟩ := xlp_st2 (κ1 := Unit) (κ2 := Int32 × xTI × xTL → Option (xTI × xTL)) (b1 := fun _ => F_X6_voidBargainsOf_b8 xN (nI a)) (b2 := fun K => F_X11_settles_b515 K xN (nI a)) (fun b x y => x.1 = nI b ∧ y.1 = nI b ∧ VR I0 L0 J0 M0 x.2.1 x.2.2 y.2.1 y.2.2 q a ∧ x.2.1 21 = I 21 ∧ ∀ b', b' < b → lv (y.2.1 58) b' → J0 58 (192 + 12 * b' + 1) ≠ nI a ∧ J0 58 (192 + 12 * b' + 2) ≠ nI a) 60 (by
    rintro b hb ⟨x, I', L'⟩ ⟨y, J', M'⟩ ⟨e1, e2, ⟨v1, v2, v3, v4, v5, v6, v7, v8⟩, h21, hno⟩
    dsimp only at e1 e2 v1 v2 v3 v4 v5 v6 v7 v8 h21 hno
    subst e1 e2
    have hm : ∀ k, k < 5 → I' 2 k = J' 58 (184 + k) := fun k hk => by rw [v3 2 (by decide) (by decide), v8.1 _ (by omega)]; exact hm0 k hk
    have hd' : ¬ isUpP (J' 58) a := by unfold isUpP; rw [v8.1 _ (by omega)]; exact hd
    obtain ⟨I2, L2, J2, M2, c1, c2, w1, w2, w3, w4, w5, w6, w7, w8⟩ := void_step v1 hq1 hq2 hm v2 ha hd' hb
    refine ⟨(nI (b + 1), I2, L2), (nI (b + 1), J2, M2), fun _ K => c1 K, fun K K2 => c2 K K2, rfl, rfl, ⟨w1, w2, fun k h1 h2 => (w3 k h1).trans (v3 k h1 h2), fun k h1 => (w4 k h1).trans (v4 k h1), fun k h1 => (w5 k h1).trans (v5 k h1), fun k h1 => (w6 k h1).trans (v6 k h1), fun j hj => (w7 j hj).trans (v7 j hj), fun j hj => ?_, fun b' hb' => ?_, fun b' hb' hl x hx hu => ?_⟩, ?_, fun b' hb' hl => ?_⟩
    · dsimp only; rw [w8, if_neg (fun z => hj (by omega)), v8.1 j hj]
    · dsimp only; rw [w8]
      by_cases e : 192 + 12 * b' + 8 = 192 + 12 * b + 8 ∧ vh (J' 58) a b
      · rw [if_pos e]
        have eb : b' = b := by omega
        subst eb
        refine Or.inr ⟨rfl, ?_, ?_⟩
        · rw [← v8.1 _ (by omega)]; exact e.2.1.1
        · rcases v8.2.1 b' hb with g | g
          · rw [← g]; exact e.2.1.2
          · rcases e.2.1.2 with z | z
            · rw [g.1] at z; exact absurd z (by decide)
            · rw [g.1] at z; exact absurd z (by decide)
      · rw [if_neg e]; exact v8.2.1 b' hb'
    · exact v8.2.2 b' hb' (lv3 hb' w8 hl).1 x hx hu
    · dsimp only; rw [w3 21 (by decide)]; exact h21
    · have hb6 : b' < 60 := by omega
      obtain ⟨l1, l2⟩ := lv3 hb6 w8 hl
      by_cases e : b' = b
      · subst e
        have := l2 rfl
        refine ⟨fun z => this ⟨l1, Or.inl ?_⟩, fun z => this ⟨l1, Or.inr ?_⟩⟩
        · rw [v8.1 _ (by omega)]; exact z
        · rw [v8.1 _ (by omega)]; exact z
      · exact hno b' (by omega) l1) (0, I, L) (0, J, M) ⟨rfl, rfl, hV, rfl, fun b' hb' => absurd hb' (Nat.not_lt_zero _)⟩
  obtain ⟨x, I2, L2⟩ := x'
  obtain ⟨y, J2, M2⟩ := y'
  obtain ⟨e1, e2, ⟨v1, v2, v3, v4, v5, v6, v7, v8⟩, h21, hno⟩ := hP
  dsimp only at e1 e2 v1 v2 v3 v4 v5 v6 v7 v8 h21 hno
  subst e1 e2
  refine ⟨I2, L2, J2, M2, ?_, fun K => ?_, ⟨v1, v2, v3, v4, v5, v6, v7, v8.1, v8.2.1, fun b hb hl x hx hu => ?_⟩, h21⟩
  · unfold F_X6_voidBargainsOf
    refine (n1 (xN - 60) ()).trans ?_
    refine xlp_for (fun _ => (nI 60, I2, L2)) 0 _ (fun i hi => absurd hi (Nat.not_lt_zero _)) (fun k => ?_) _ (by decide)
    show F_X6_voidBargainsOf_c8 xN (nI a) (nI 60) I2 L2 k = _
    unfold F_X6_voidBargainsOf_c8
    rw [if_pos (by decide)]
  · refine (n2 (xN - 60) K).trans ?_
    refine xlp_for (fun _ => (nI 60, J2, M2)) 0 _ (fun i hi => absurd hi (Nat.not_lt_zero _)) (fun k => ?_) _ (by decide)
    show F_X11_settles_c515 K xN (nI a) (nI 60) J2 M2 k = _
    unfold F_X11_settles_c515
    rw [if_pos (by decide), xbn_e, nI_1]
  · by_cases e : x = a
    · subst e; exact hno b hb hl
    · exact v8.2.2 b hb hl x (by omega) hu
/-- the class ends the options of one man -/
def eoA (I : xTI) (x : Int32) (p : Nat) : xTI := fun k j => if k = 21 ∧ j % 7 = 6 ∧ j / 7 < p ∧ (I 21 (7 * (j / 7)) = x ∨ I 21 (7 * (j / 7) + 1) = x) ∧ I 21 j = 0 then 2 else I k j
theorem eoA_ne {I : xTI} {x : Int32} {p k : Nat} (h : k ≠ 21) : eoA I x p k = I k := by
  funext j; unfold eoA; rw [if_neg (fun z => h z.1)]
theorem eoA_o {I : xTI} {x : Int32} {p i t : Nat} (ht : t < 7) (h : p ≤ i ∨ t ≠ 6) : eoA I x p 21 (7 * i + t) = I 21 (7 * i + t) := by
  unfold eoA; rw [if_neg (fun z => by have := z.2.1; have := z.2.2.1; omega)]
theorem eoA_6 {I : xTI} {x : Int32} {p i : Nat} (h : i < p) : eoA I x p 21 (7 * i + 6) = if (I 21 (7 * i) = x ∨ I 21 (7 * i + 1) = x) ∧ I 21 (7 * i + 6) = 0 then 2 else I 21 (7 * i + 6) := by
  unfold eoA
  rw [show (7 * i + 6) / 7 = i by omega]
  by_cases c : (I 21 (7 * i) = x ∨ I 21 (7 * i + 1) = x) ∧ I 21 (7 * i + 6) = 0
  · rw [if_pos c, if_pos ⟨rfl, by omega, h, c⟩]
  · rw [if_neg c, if_neg (fun z => c z.2.2.2)]
theorem eoA_s {I : xTI} {x : Int32} {i : Nat} (h : (I 21 (7 * i) = x ∨ I 21 (7 * i + 1) = x) ∧ I 21 (7 * i + 6) = 0) : xup (eoA I x i) 21 (7 * i + 6) 2 = eoA I x (i + 1) := by
  funext k j
  by_cases hk : k = 21
  · subst hk
    rw [xup_at]
    by_cases e : j = 7 * i + 6
    · rw [if_pos e, e, eoA_6 (by omega), if_pos h]
    · rw [if_neg e]; unfold eoA
      by_cases c : j % 7 = 6 ∧ j / 7 < i ∧ (I 21 (7 * (j / 7)) = x ∨ I 21 (7 * (j / 7) + 1) = x) ∧ I 21 j = 0
      · rw [if_pos ⟨rfl, c⟩, if_pos ⟨rfl, c.1, by omega, c.2.2⟩]
      · rw [if_neg (fun z => c z.2), if_neg (fun z => c ⟨z.2.1, by have := z.2.1; have := z.2.2.1; omega, z.2.2.2⟩)]
  · rw [xup_ne hk, eoA_ne hk, eoA_ne hk]
theorem eoA_d {I : xTI} {x : Int32} {i : Nat} (h : ¬ ((I 21 (7 * i) = x ∨ I 21 (7 * i + 1) = x) ∧ I 21 (7 * i + 6) = 0)) : eoA I x i = eoA I x (i + 1) := by
  funext k j
  unfold eoA
  by_cases c : k = 21 ∧ j % 7 = 6 ∧ j / 7 < i ∧ (I 21 (7 * (j / 7)) = x ∨ I 21 (7 * (j / 7) + 1) = x) ∧ I 21 j = 0
  · rw [if_pos c, if_pos ⟨c.1, c.2.1, by omega, c.2.2.2⟩]
  · rw [if_neg c, if_neg (fun z => ?_)]
    by_cases e : j / 7 = i
    · have ej : j = 7 * i + 6 := by have := z.2.1; omega
      have := z.2.2.2
      rw [e, ej] at this; exact h this
    · exact c ⟨z.1, z.2.1, by have := z.2.2.1; omega, z.2.2.2⟩
theorem eo_e {I : xTI} {p : Nat} (hp : p ≤ 20) (h : I 20 3 = nI p) (x : Int32) : F_X6_endOptionsOf_20 xN I x = some (eoA I x p) := by
  unfold F_X6_endOptionsOf_20
  rw [show ((0 : Int32), I) = (fun i => (nI i, eoA I x i)) 0 by
    show _ = (nI 0, eoA I x 0)
    congr 1
    funext k j; unfold eoA; rw [if_neg (fun z => by have := z.2.2.1; omega)]]
  refine xlp_for (fun i => (nI i, eoA I x i)) p _ (fun i hi K => ?_) (fun K => ?_) xN (by have : xN = 100000 := rfl; omega)
  · show F_X6_endOptionsOf_20_c2 xN x (nI i) (eoA I x i) K = K (nI (i + 1), eoA I x (i + 1))
    have hi20 : i < 20 := by omega
    have a0 : F_X8_at_20 (eoA I x i) (nI i) 0 = some (I 21 (7 * i)) := (at20 (t := 0) hi20 (by decide)).trans (by rw [eoA_o (by decide) (Or.inl (Nat.le_refl _))]; rfl)
    have a1 : F_X8_at_20 (eoA I x i) (nI i) 1 = some (I 21 (7 * i + 1)) := (at20 (t := 1) hi20 (by decide)).trans (by rw [eoA_o (by decide) (Or.inl (Nat.le_refl _))])
    have a6 : F_X8_at_20 (eoA I x i) (nI i) 6 = some (I 21 (7 * i + 6)) := (at20 (t := 6) hi20 (by decide)).trans (by rw [eoA_o (by decide) (Or.inl (Nat.le_refl _))])
    have p6 : F_X8_put_20 (eoA I x i) (nI i) 6 2 = some (xup (eoA I x i) 21 (7 * i + 6) 2) := put20 (t := 6) hi20 (by decide)
    have hj1 : (I 21 (7 * i) = x ∨ I 21 (7 * i + 1) = x) → F_X6_endOptionsOf_20_j35 K xN (eoA I x i) x (nI i) 1 = K (nI (i + 1), eoA I x (i + 1)) := fun hx => by
      unfold F_X6_endOptionsOf_20_j35
      rw [if_neg (by decide), a6, Option.bind_some]
      by_cases e : I 21 (7 * i + 6) = 0
      · rw [if_pos e, p6, Option.bind_some, xbn_e, nI_1, eoA_s ⟨hx, e⟩]
      · rw [if_neg e, xbn_e, nI_1, eoA_d (fun z => e z.2)]
    unfold F_X6_endOptionsOf_20_c2
    rw [xbn_e, eoA_ne (by decide), h, if_neg (nI_ge hi (by omega)), a0, Option.bind_some]
    by_cases c0 : I 21 (7 * i) = x
    · rw [if_pos c0, hj1 (Or.inl c0)]
    · rw [if_neg c0, a1, Option.bind_some]
      by_cases c1 : I 21 (7 * i + 1) = x
      · rw [if_pos c1, hj1 (Or.inr c1)]
      · rw [if_neg c1]
        unfold F_X6_endOptionsOf_20_j35
        rw [if_pos rfl, xbn_e, nI_1, eoA_d (fun z => z.1.elim c0 c1)]
  · show F_X6_endOptionsOf_20_c2 xN x (nI p) (eoA I x p) K = _
    unfold F_X6_endOptionsOf_20_c2
    rw [xbn_e, eoA_ne (by decide), h, if_pos (Int32.le_refl _)]
/-- the reference ends them all at once -/
def oJ (J : xTI) (gi ti : Nat → Nat) (p : Nat) : xTI := fun k j => if k = 58 ∧ 912 ≤ j ∧ (j - 912) % 7 = 6 ∧ (j - 912) / 7 < p ∧ (J 58 (16 + 4 * gi ((j - 912) / 7)) ≠ 1 ∨ J 58 (16 + 4 * ti ((j - 912) / 7)) ≠ 1) ∧ J 58 j = 0 then 2 else J k j
theorem oJ_ne {J : xTI} {gi ti : Nat → Nat} {p k : Nat} (h : k ≠ 58) : oJ J gi ti p k = J k := by
  funext j; unfold oJ; rw [if_neg (fun z => h z.1)]
theorem oJ_o {J : xTI} {gi ti : Nat → Nat} {p j : Nat} (h : j < 912 ∨ 912 + 7 * p ≤ j ∨ (j - 912) % 7 ≠ 6) : oJ J gi ti p 58 j = J 58 j := by
  unfold oJ; rw [if_neg (fun z => by have := z.2.1; have := z.2.2.1; have := z.2.2.2.1; omega)]
theorem oJ_6 {J : xTI} {gi ti : Nat → Nat} {p i : Nat} (h : i < p) : oJ J gi ti p 58 (912 + 7 * i + 6) = if (J 58 (16 + 4 * gi i) ≠ 1 ∨ J 58 (16 + 4 * ti i) ≠ 1) ∧ J 58 (912 + 7 * i + 6) = 0 then 2 else J 58 (912 + 7 * i + 6) := by
  unfold oJ
  rw [show (912 + 7 * i + 6 - 912) / 7 = i by omega]
  by_cases c : (J 58 (16 + 4 * gi i) ≠ 1 ∨ J 58 (16 + 4 * ti i) ≠ 1) ∧ J 58 (912 + 7 * i + 6) = 0
  · rw [if_pos c, if_pos ⟨rfl, by omega, by omega, h, c⟩]
  · rw [if_neg c, if_neg (fun z => c z.2.2.2.2)]
theorem oJ_s {J : xTI} {gi ti : Nat → Nat} {i : Nat} (h : (J 58 (16 + 4 * gi i) ≠ 1 ∨ J 58 (16 + 4 * ti i) ≠ 1) ∧ J 58 (912 + 7 * i + 6) = 0) : xup (oJ J gi ti i) 58 (912 + 7 * i + 6) 2 = oJ J gi ti (i + 1) := by
  funext k j
  by_cases hk : k = 58
  · subst hk
    rw [xup_at]
    by_cases e : j = 912 + 7 * i + 6
    · rw [if_pos e, e, oJ_6 (by omega), if_pos h]
    · rw [if_neg e]; unfold oJ
      by_cases c : 912 ≤ j ∧ (j - 912) % 7 = 6 ∧ (j - 912) / 7 < i ∧ (J 58 (16 + 4 * gi ((j - 912) / 7)) ≠ 1 ∨ J 58 (16 + 4 * ti ((j - 912) / 7)) ≠ 1) ∧ J 58 j = 0
      · rw [if_pos ⟨rfl, c⟩, if_pos ⟨rfl, c.1, c.2.1, by omega, c.2.2.2⟩]
      · rw [if_neg (fun z => c z.2), if_neg (fun z => c ⟨z.2.1, z.2.2.1, by have := z.2.1; have := z.2.2.1; have := z.2.2.2.1; omega, z.2.2.2.2⟩)]
  · rw [xup_ne hk, oJ_ne hk, oJ_ne hk]
theorem oJ_d {J : xTI} {gi ti : Nat → Nat} {i : Nat} (h : ¬ ((J 58 (16 + 4 * gi i) ≠ 1 ∨ J 58 (16 + 4 * ti i) ≠ 1) ∧ J 58 (912 + 7 * i + 6) = 0)) : oJ J gi ti i = oJ J gi ti (i + 1) := by
  funext k j
  unfold oJ
  by_cases c : k = 58 ∧ 912 ≤ j ∧ (j - 912) % 7 = 6 ∧ (j - 912) / 7 < i ∧ (J 58 (16 + 4 * gi ((j - 912) / 7)) ≠ 1 ∨ J 58 (16 + 4 * ti ((j - 912) / 7)) ≠ 1) ∧ J 58 j = 0
  · rw [if_pos c, if_pos ⟨c.1, c.2.1, c.2.2.1, by omega, c.2.2.2.2⟩]
  · rw [if_neg c, if_neg (fun z => ?_)]
    by_cases e : (j - 912) / 7 = i
    · have ej : j = 912 + 7 * i + 6 := by have := z.2.1; have := z.2.2.1; omega
      have := z.2.2.2.2
      rw [e, ej] at this; exact h this
    · exact c ⟨z.1, z.2.1, z.2.2.1, by have := z.2.2.2.1; omega, z.2.2.2.2⟩
theorem b582_e {J : xTI} {M : xTL} {gi ti : Nat → Nat} {p : Nat} (hp : p ≤ 20) (h3 : J 58 3 = nI p) (hg : ∀ i, i < p → J 58 (912 + 7 * i) = nI (gi i) ∧ J 58 (912 + 7 * i + 1) = nI (ti i) ∧ gi i < 12 ∧ ti i < 12) : xlp (F_X11_settles_b582 xN M) xN (0, J) = some (oJ J gi ti p, M) := by
  rw [show ((0 : Int32), J) = (fun i => (nI i, oJ J gi ti i)) 0 by
    show _ = (nI 0, oJ J gi ti 0)
    congr 1
    funext k j; unfold oJ; rw [if_neg (fun z => by have := z.2.2.2.1; omega)]]
  refine xlp_for (fun i => (nI i, oJ J gi ti i)) p _ (fun i hi K => ?_) (fun K => ?_) xN (by have : xN = 100000 := rfl; omega)
  · show F_X11_settles_c582 xN M (nI i) (oJ J gi ti i) K = K (nI (i + 1), oJ J gi ti (i + 1))
    have hi20 : i < 20 := by omega
    obtain ⟨g1, g2, g3, g4⟩ := hg i hi
    have b6 : F_X11_op (oJ J gi ti i) (nI i) 6 = some (J 58 (912 + 7 * i + 6)) := (op11 (t := 6) hi20 (by decide)).trans (by rw [oJ_o (by omega)])
    have b0 : F_X11_op (oJ J gi ti i) (nI i) 0 = some (nI (gi i)) := (op11 (t := 0) hi20 (by decide)).trans (by rw [oJ_o (by omega), ← g1]; rfl)
    have b1 : F_X11_op (oJ J gi ti i) (nI i) 1 = some (nI (ti i)) := (op11 (t := 1) hi20 (by decide)).trans (by rw [oJ_o (by omega), g2])
    have ug : F_X11_isUp (oJ J gi ti i) (nI (gi i)) = some (if J 58 (16 + 4 * gi i) = 1 then 1 else 0) := by rw [F11_up g3, oJ_o (by omega)]
    have ut : F_X11_isUp (oJ J gi ti i) (nI (ti i)) = some (if J 58 (16 + 4 * ti i) = 1 then 1 else 0) := by rw [F11_up g4, oJ_o (by omega)]
    have hj : (J 58 (16 + 4 * gi i) ≠ 1 ∨ J 58 (16 + 4 * ti i) ≠ 1) ∧ J 58 (912 + 7 * i + 6) = 0 → F_X11_settles_j628 K xN (oJ J gi ti i) M (nI i) = K (nI (i + 1), oJ J gi ti (i + 1)) := fun hh => by
      unfold F_X11_settles_j628
      rw [xas_i (i := 912 + 7 * i + 6) (by rw [show (912 : Int32) = nI 912 from rfl, show (7 : Int32) = nI 7 from rfl, show (6 : Int32) = nI 6 from rfl, ixc]) (by omega) (by decide), xbn_e, nI_1, oJ_s hh]
    unfold F_X11_settles_c582
    rw [s58_3, oJ_o (by omega), h3, if_neg (nI_ge hi (by omega)), b6, Option.bind_some]
    by_cases e : J 58 (912 + 7 * i + 6) = 0
    · rw [if_pos e, b0, Option.bind_some, ug, Option.bind_some]
      by_cases c0 : J 58 (16 + 4 * gi i) = 1
      · rw [if_pos c0, if_neg (by decide), b1, Option.bind_some, ut, Option.bind_some]
        by_cases c1 : J 58 (16 + 4 * ti i) = 1
        · rw [if_pos c1, if_neg (by decide), xbn_e, nI_1, oJ_d (fun z => z.1.elim (fun w => w c0) (fun w => w c1))]
        · rw [if_neg c1, if_pos rfl, hj ⟨Or.inr c1, e⟩]
      · rw [if_neg c0, if_pos rfl, hj ⟨Or.inl c0, e⟩]
    · rw [if_neg e, xbn_e, nI_1, oJ_d (fun z => e z.2)]
  · show F_X11_settles_c582 xN M (nI p) (oJ J gi ti p) K = _
    unfold F_X11_settles_c582
    rw [s58_3, oJ_o (by omega), h3, if_pos (Int32.le_refl _)]
theorem others_sim {I J : xTI} {L M : xTL} {q : Nat → Nat} {gi ti : Nat → Nat} (hW : WB I (J 58) q) (hL : ∀ o, o < 12 → L 5 o = M 59 (12 + o)) (hm : ∀ k, k < 5 → I 2 k = J 58 (184 + k)) (hq1 : q 1 ≤ 12) (hq2 : q 2 ≤ 5) (hq3 : q 3 ≤ 20) (hI : I 3 0 = nI (q 1)) (hJ : J 58 1 = nI (q 1)) (h20 : I 20 3 = nI (q 3)) (h3 : J 58 3 = nI (q 3)) (hup : ∀ a, a < q 1 → F_X3_isUp I (nI a) = some (if J 58 (16 + 4 * a) = 1 then 1 else 0)) (ho : ∀ i, i < q 3 → ∀ t, t < 7 → I 21 (7 * i + t) = J 58 (912 + 7 * i + t)) (hg : ∀ i, i < q 3 → J 58 (912 + 7 * i) = nI (gi i) ∧ J 58 (912 + 7 * i + 1) = nI (ti i) ∧ gi i < q 1 ∧ ti i < q 1) : ∃ I2 L2 J2 M2 s2, F_X6_voidOthers xN I L = some (I2, L2) ∧ xlp (F_X11_settles_b502 xN) xN (0, J, M) = some (J2, M2) ∧ WB I2 (J2 58) q ∧ (∀ o, o < 12 → L2 5 o = M2 59 (12 + o)) ∧ (∀ k, k ≠ 13 → k ≠ 21 → I2 k = I k) ∧ (∀ k, k ≠ 5 → L2 k = L k) ∧ (∀ k, k ≠ 58 → J2 k = J k) ∧ (∀ k, k ≠ 59 → M2 k = M k) ∧ (∀ j, (j < 12 ∨ 24 ≤ j) → M2 59 j = M 59 j) ∧ VS (J 58) s2 (q 1) ∧ (∀ j, (j < 912 ∨ 1052 ≤ j ∨ (j - 912) % 7 ≠ 6) → J2 58 j = s2 j) ∧ (∀ i, i < q 3 → ∀ t, t < 7 → I2 21 (7 * i + t) = J2 58 (912 + 7 * i + t)) ∧ (∀ i, i < q 3 → J2 58 (912 + 7 * i + 6) = if (J 58 (16 + 4 * gi i) ≠ 1 ∨ J 58 (16 + 4 * ti i) ≠ 1) ∧ J 58 (912 + 7 * i + 6) = 0 then 2 else J 58 (912 + 7 * i + 6)) := by
  unfold F_X6_voidOthers
  have hu3 : ∀ (s : Nat → Int32) (a : Nat), VS (J 58) s a → ∀ j, j < 192 ∨ 912 ≤ j → s j = J 58 j := fun s a hs j hj => hs.1 j (by omega)
  refine xlp_sim (P := fun a x y => x.1 = nI a ∧ y.1 = nI a ∧ VR I L J M x.2.1 x.2.2 y.2.1 y.2.2 q a ∧ ∀ i, i < q 3 → ∀ t, t < 7 → x.2.1 21 (7 * i + t) = if t = 6 ∧ J 58 (912 + 7 * i + 6) = 0 ∧ ((gi i < a ∧ J 58 (16 + 4 * gi i) ≠ 1) ∨ (ti i < a ∧ J 58 (16 + 4 * ti i) ≠ 1)) then 2 else J 58 (912 + 7 * i + t)) (q 1) (fun r1 r2 => ∃ (I2 : xTI) (L2 : xTL) (J2 : xTI) (M2 : xTL) (s2 : Nat → Int32), r1 = some (I2, L2) ∧ r2 = some (J2, M2) ∧ WB I2 (J2 58) q ∧ (∀ o, o < 12 → L2 5 o = M2 59 (12 + o)) ∧ (∀ k, k ≠ 13 → k ≠ 21 → I2 k = I k) ∧ (∀ k, k ≠ 5 → L2 k = L k) ∧ (∀ k, k ≠ 58 → J2 k = J k) ∧ (∀ k, k ≠ 59 → M2 k = M k) ∧ (∀ j, (j < 12 ∨ 24 ≤ j) → M2 59 j = M 59 j) ∧ VS (J 58) s2 (q 1) ∧ (∀ j, (j < 912 ∨ 1052 ≤ j ∨ (j - 912) % 7 ≠ 6) → J2 58 j = s2 j) ∧ (∀ i, i < q 3 → ∀ t, t < 7 → I2 21 (7 * i + t) = J2 58 (912 + 7 * i + t)) ∧ (∀ i, i < q 3 → J2 58 (912 + 7 * i + 6) = if (J 58 (16 + 4 * gi i) ≠ 1 ∨ J 58 (16 + 4 * ti i) ≠ 1) ∧ J 58 (912 + 7 * i + 6) = 0 then 2 else J 58 (912 + 7 * i + 6))) ?_ ?_ xN xN (by have : xN = 100000 := rfl; omega) (by have : xN = 100000 := rfl; omega) (0, I, L) (0, J, M) ⟨rfl, rfl, ⟨hW, hL, fun _ _ _ => rfl, fun _ _ => rfl, fun _ _ => rfl, fun _ _ => rfl, fun _ _ => rfl, fun _ _ => rfl, fun _ _ => Or.inl rfl, fun b hb hl x hx => absurd hx (Nat.not_lt_zero _)⟩, fun i hi t ht => ?_⟩
  rotate_left
  rotate_left
  · dsimp only; rw [if_neg (fun z => by have := z.2.2; omega)]; exact ho i hi t ht
  · rintro a ha ⟨x, I', L'⟩ ⟨y, J', M'⟩ ⟨e1, e2, hR, hO⟩
    dsimp only at e1 e2 hR hO
    subst e1 e2
    have hs1 : J' 58 1 = nI (q 1) := by rw [hu3 _ _ hR.2.2.2.2.2.2.2 1 (by omega)]; exact hJ
    have hi3 : I' 3 0 = nI (q 1) := by rw [hR.2.2.1 3 (by decide) (by decide)]; exact hI
    have hiu : F_X3_isUp I' (nI a) = some (if J 58 (16 + 4 * a) = 1 then 1 else 0) := by
      rw [← hup a ha]
      unfold F_X3_isUp
      rw [xal_n (by omega) (by decide), xal_n (by omega) (by decide), hR.2.2.1 8 (by decide) (by decide)]
    by_cases hu : J 58 (16 + 4 * a) = 1
    · refine ⟨(nI (a + 1), I', L'), (nI (a + 1), J', M'), fun K => ?_, fun K => ?_, rfl, rfl, ?_, fun i hi t ht => ?_⟩
      · show F_X6_voidOthers_c2 xN (nI a) I' L' K = _
        unfold F_X6_voidOthers_c2
        rw [xbn_e, hi3, if_neg (nI_ge ha (by omega)), hiu, if_pos hu, Option.bind_some, if_neg (by decide), xbn_e, nI_1]
      · show F_X11_settles_c502 xN (nI a) J' M' K = _
        unfold F_X11_settles_c502
        rw [s58_1, hs1, if_neg (nI_ge ha (by omega))]
        refine xlp_for (fun _ => (0, J', M')) 0 _ (fun i hi => absurd hi (Nat.not_lt_zero _)) (fun k => ?_) _ (by decide)
        show F_X11_settles_c515 K xN (nI a) 0 J' M' k = _
        unfold F_X11_settles_c515
        rw [if_neg (by decide), F11_up (by omega), hu3 _ _ hR.2.2.2.2.2.2.2 _ (by omega), if_pos hu, Option.bind_some, if_neg (by decide), xbn_e, nI_1]
      · obtain ⟨v1, v2, v3, v4, v5, v6, v7, v8⟩ := hR
        refine ⟨v1, v2, v3, v4, v5, v6, v7, v8.1, v8.2.1, fun b hb hl x hx hux => ?_⟩
        by_cases e : x = a
        · exact absurd hu (by rw [e] at hux; exact hux)
        · exact v8.2.2 b hb hl x (by omega) hux
      · dsimp only; rw [hO i hi t ht]
        by_cases c : t = 6 ∧ J 58 (912 + 7 * i + 6) = 0 ∧ ((gi i < a ∧ J 58 (16 + 4 * gi i) ≠ 1) ∨ (ti i < a ∧ J 58 (16 + 4 * ti i) ≠ 1))
        · rw [if_pos c, if_pos ⟨c.1, c.2.1, c.2.2.imp (fun z => ⟨by omega, z.2⟩) (fun z => ⟨by omega, z.2⟩)⟩]
        · rw [if_neg c, if_neg (fun z => c ⟨z.1, z.2.1, z.2.2.imp (fun w => ⟨by have e : gi i ≠ a := fun e => w.2 (by rw [e]; exact hu); have := w.1; omega, w.2⟩) (fun w => ⟨by have e : ti i ≠ a := fun e => w.2 (by rw [e]; exact hu); have := w.1; omega, w.2⟩)⟩)]
    · obtain ⟨I2, L2, J2, M2, c1, c2, c3, c4⟩ := void_sim hR hm hq1 hq2 ha hu
      have h20' : I2 20 3 = nI (q 3) := by rw [c3.2.2.1 20 (by decide) (by decide)]; exact h20
      refine ⟨(nI (a + 1), eoA I2 (nI a) (q 3), L2), (nI (a + 1), J2, M2), fun K => ?_, fun K => ?_, rfl, rfl, ?_, fun i hi t ht => ?_⟩
      · show F_X6_voidOthers_c2 xN (nI a) I' L' K = _
        unfold F_X6_voidOthers_c2
        rw [xbn_e, hi3, if_neg (nI_ge ha (by omega)), hiu, if_neg hu, Option.bind_some, if_pos rfl, c1, Option.bind_some]
        dsimp only
        rw [eo_e hq3 h20', Option.bind_some, xbn_e, nI_1]
      · show F_X11_settles_c502 xN (nI a) J' M' K = _
        unfold F_X11_settles_c502
        rw [s58_1, hs1, if_neg (nI_ge ha (by omega))]; exact c2 K
      · obtain ⟨v1, v2, v3, v4, v5, v6, v7, v8⟩ := c3
        refine ⟨?_, v2, fun k h1 h2 => ?_, v4, v5, v6, v7, v8⟩
        · intro b hb
          dsimp only
          rw [eoA_ne (by decide)]; exact v1 b hb
        · dsimp only; rw [eoA_ne h2]; exact v3 k h1 h2
      · dsimp only
        obtain ⟨g1, g2, g3, g4⟩ := hg i hi
        have r : ∀ t, t < 6 → I' 21 (7 * i + t) = J 58 (912 + 7 * i + t) := fun t ht => by rw [hO i hi t (by omega), if_neg (fun z => by omega)]
        have r0 : I' 21 (7 * i) = nI (gi i) := (r 0 (by decide)).trans g1
        by_cases e6 : t = 6
        · subst e6
          rw [eoA_6 hi, c4, hO i hi 6 (by decide), r0, r 1 (by decide), g2]
          by_cases c : J 58 (912 + 7 * i + 6) = 0
          · by_cases d : (gi i < a ∧ J 58 (16 + 4 * gi i) ≠ 1) ∨ (ti i < a ∧ J 58 (16 + 4 * ti i) ≠ 1)
            · rw [if_pos (show (6 = 6 ∧ J 58 (912 + 7 * i + 6) = 0 ∧ ((gi i < a ∧ J 58 (16 + 4 * gi i) ≠ 1) ∨ (ti i < a ∧ J 58 (16 + 4 * ti i) ≠ 1))) from ⟨rfl, c, d⟩), if_neg (fun z => absurd z.2 (by decide)), if_pos ⟨rfl, c, d.imp (fun z => ⟨by omega, z.2⟩) (fun z => ⟨by omega, z.2⟩)⟩]
            · rw [if_neg (show ¬ (6 = 6 ∧ J 58 (912 + 7 * i + 6) = 0 ∧ ((gi i < a ∧ J 58 (16 + 4 * gi i) ≠ 1) ∨ (ti i < a ∧ J 58 (16 + 4 * ti i) ≠ 1))) from fun z => d z.2.2)]
              by_cases w : gi i = a ∨ ti i = a
              · rw [if_pos ⟨w.imp (fun z => by rw [z]) (fun z => by rw [z]), c⟩, if_pos ⟨rfl, c, w.imp (fun z => ⟨by omega, by rw [z]; exact hu⟩) (fun z => ⟨by omega, by rw [z]; exact hu⟩)⟩]
              · rw [if_neg (fun z => w (z.1.imp (fun y => (nI_eq (by omega) (by omega)).mp y) (fun y => (nI_eq (by omega) (by omega)).mp y))), if_neg (fun z => d (z.2.2.imp (fun y => ⟨by omega, y.2⟩) (fun y => ⟨by omega, y.2⟩)))]
          · rw [if_neg (show ¬ (6 = 6 ∧ J 58 (912 + 7 * i + 6) = 0 ∧ ((gi i < a ∧ J 58 (16 + 4 * gi i) ≠ 1) ∨ (ti i < a ∧ J 58 (16 + 4 * ti i) ≠ 1))) from fun z => c z.2.1), if_neg (fun z => c z.2), if_neg (fun z => c z.2.1)]
        · rw [eoA_o ht (Or.inr e6), c4, r t (by omega), if_neg (fun z => e6 z.1)]
  · rintro ⟨x, I', L'⟩ ⟨y, J', M'⟩ ⟨e1, e2, hR, hO⟩
    dsimp only at e1 e2 hR hO
    subst e1 e2
    have hVS := hR.2.2.2.2.2.2.2
    have hs1 : J' 58 1 = nI (q 1) := by rw [hu3 _ _ hVS 1 (by omega)]; exact hJ
    have hs3 : J' 58 3 = nI (q 3) := by rw [hu3 _ _ hVS 3 (by omega)]; exact h3
    have hi3 : I' 3 0 = nI (q 1) := by rw [hR.2.2.1 3 (by decide) (by decide)]; exact hI
    have h6 : ∀ i, i < q 3 → oJ J' gi ti (q 3) 58 (912 + 7 * i + 6) = if (J 58 (16 + 4 * gi i) ≠ 1 ∨ J 58 (16 + 4 * ti i) ≠ 1) ∧ J 58 (912 + 7 * i + 6) = 0 then 2 else J 58 (912 + 7 * i + 6) := fun i hi => by
      obtain ⟨g1, g2, g3, g4⟩ := hg i hi
      rw [oJ_6 hi, hu3 _ _ hVS _ (by omega), hu3 _ _ hVS _ (by omega), hu3 _ _ hVS _ (by omega)]
    refine ⟨some (I', L'), some (oJ J' gi ti (q 3), M'), fun K => ?_, fun K => ?_, I', L', oJ J' gi ti (q 3), M', J' 58, rfl, rfl, ?_, hR.2.1, hR.2.2.1, hR.2.2.2.1, fun k hk => by rw [oJ_ne hk]; exact hR.2.2.2.2.1 k hk, hR.2.2.2.2.2.1, hR.2.2.2.2.2.2.1, hVS, fun j hj => oJ_o (by omega), fun i hi t ht => ?_, h6⟩
    · show F_X6_voidOthers_c2 xN (nI (q 1)) I' L' K = _
      unfold F_X6_voidOthers_c2
      rw [xbn_e, hi3, if_pos (Int32.le_refl _)]
    · show F_X11_settles_c502 xN (nI (q 1)) J' M' K = _
      unfold F_X11_settles_c502
      rw [s58_1, hs1, if_pos (Int32.le_refl _), b582_e hq3 hs3 (fun i hi => ?_)]
      obtain ⟨g1, g2, g3, g4⟩ := hg i hi
      exact ⟨by rw [hu3 _ _ hVS _ (by omega)]; exact g1, by rw [hu3 _ _ hVS _ (by omega)]; exact g2, by omega, by omega⟩
    · intro b hb
      have hw := hR.1 b hb
      have hc : ∀ t, t < 12 → oJ J' gi ti (q 3) 58 (192 + 12 * b + t) = J' 58 (192 + 12 * b + t) := fun t ht => oJ_o (by omega)
      have hc0 : oJ J' gi ti (q 3) 58 (192 + 12 * b) = J' 58 (192 + 12 * b) := hc 0 (by decide)
      rw [hc0, hc 1 (by decide), hc 2 (by decide), hc 3 (by decide), hc 8 (by decide)]
      rcases hw with g | ⟨g1, g2, g3⟩
      · exact Or.inl g
      · exact Or.inr ⟨g1, fun t ht => by rw [show 192 + 12 * b + 1 + t = 192 + 12 * b + (1 + t) by omega, hc (1 + t) (by omega), ← Nat.add_assoc]; exact g2 t ht, g3⟩
    · rw [hO i hi t ht]
      obtain ⟨g1, g2, g3, g4⟩ := hg i hi
      by_cases e6 : t = 6
      · subst e6
        rw [h6 i hi]
        by_cases c : (J 58 (16 + 4 * gi i) ≠ 1 ∨ J 58 (16 + 4 * ti i) ≠ 1) ∧ J 58 (912 + 7 * i + 6) = 0
        · rw [if_pos c, if_pos ⟨rfl, c.2, c.1.imp (fun z => ⟨g3, z⟩) (fun z => ⟨g4, z⟩)⟩]
        · rw [if_neg c, if_neg (fun z => c ⟨z.2.2.imp (fun w => w.2) (fun w => w.2), z.2.1⟩)]
      · rw [if_neg (fun z => e6 z.1), oJ_o (by omega), hu3 _ _ hVS _ (by omega)]
end
