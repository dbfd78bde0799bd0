section
/-! run: settling. Bargains end; those who fell: their bargains are void, their options end -/
def WB (I : xTI) (s : Nat → Int32) (q : Nat → Nat) : Prop := ∀ b, b < 60 → (s (192 + 12 * b) = 0 ∧ I 13 (11 * b + 7) = -1) ∨ (s (192 + 12 * b) = 1 ∧ (∀ t, t < 11 → I 13 (11 * b + t) = s (192 + 12 * b + 1 + t)) ∧ ∃ sl by_ st sta, s (192 + 12 * b + 1) = nI sl ∧ s (192 + 12 * b + 2) = nI by_ ∧ s (192 + 12 * b + 3) = nI st ∧ s (192 + 12 * b + 8) = nI sta ∧ sl < q 1 ∧ by_ < q 1 ∧ sl ≠ by_ ∧ st < q 2 ∧ sta ≤ 3)
theorem WB.b {I : xTI} {s : Nat → Int32} {q : Nat → Nat} (h : WB I s q) : BRb I s := fun b hb => by
  rcases h b hb with g | ⟨g1, g2, -⟩
  · exact Or.inl g
  · exact Or.inr ⟨g1, g2⟩
theorem WB.of {I : xTI} {s : Nat → Int32} {q : Nat → Nat} (hB : BRb I s) (hV : IVb s q) : WB I s q := fun b hb => by
  rcases hB b hb with g | ⟨g1, g2⟩
  · exact Or.inl g
  · rcases hV b hb with h | ⟨h, sl, by_, st, sh, pr, dy, ac, sta, a1, a2, a3, a4, a5, a6, a7, a8, f1, f2, f3, f4, f5, f6, f7, f8, f9, f10, f11, f12, -⟩
    · rw [h] at g1; exact absurd g1 (by decide)
    · exact Or.inr ⟨g1, g2, sl, by_, st, sta, a1, a2, a3, a8, f1, f2, f3, f4, f12⟩
theorem WB.put {I I2 : xTI} {s s2 : Nat → Int32} {q : Nat → Nat} {b v : Nat} (h : WB I s q) (hb : b < 60) (h1 : s (192 + 12 * b) = 1) (hv : v ≤ 3) (hI : ∀ j, I2 13 j = if j = 11 * b + 7 then nI v else I 13 j) (hs : ∀ j, 192 ≤ j → j < 912 → s2 j = if j = 192 + 12 * b + 8 then nI v else s j) : WB I2 s2 q := fun b' hb' => by
  have hs' : ∀ t, t < 12 → (b' ≠ b ∨ t ≠ 8) → s2 (192 + 12 * b' + t) = s (192 + 12 * b' + t) := fun t ht hh => by rw [hs _ (by omega) (by omega), if_neg (by omega)]
  have hs0 : s2 (192 + 12 * b') = s (192 + 12 * b') := hs' 0 (by decide) (by omega)
  rw [hs0]
  by_cases e : b' = b
  · subst e
    rcases h b' hb' with g | ⟨g1, g2, sl, by_, st, sta, a1, a2, a3, a8, f1, f2, f3, f4, f5⟩
    · rw [h1] at g; exact absurd g.1 (by decide)
    · refine Or.inr ⟨g1, fun t ht => ?_, sl, by_, st, v, ?_, ?_, ?_, ?_, f1, f2, f3, f4, hv⟩
      · rw [hI, hs _ (by omega) (by omega)]
        by_cases e : t = 7
        · rw [if_pos (by omega), if_pos (by omega)]
        · rw [if_neg (by omega), if_neg (by omega)]; exact g2 t ht
      · rw [hs' 1 (by decide) (by omega)]; exact a1
      · rw [hs' 2 (by decide) (by omega)]; exact a2
      · rw [hs' 3 (by decide) (by omega)]; exact a3
      · rw [hs _ (by omega) (by omega), if_pos rfl]
  · rcases h b' hb' with ⟨g1, g2⟩ | ⟨g1, g2, sl, by_, st, sta, a1, a2, a3, a8, f1, f2, f3, f4, f5⟩
    · exact Or.inl ⟨g1, by rw [hI, if_neg (by omega)]; exact g2⟩
    · refine Or.inr ⟨g1, fun t ht => ?_, sl, by_, st, sta, ?_, ?_, ?_, ?_, f1, f2, f3, f4, f5⟩
      · rw [hI, if_neg (by omega), hs _ (by omega) (by omega), if_neg (by omega)]; exact g2 t ht
      · rw [hs' 1 (by decide) (by omega)]; exact a1
      · rw [hs' 2 (by decide) (by omega)]; exact a2
      · rw [hs' 3 (by decide) (by omega)]; exact a3
      · rw [hs' 8 (by decide) (by omega)]; exact a8
theorem WB.l11 {I J : xTI} {q : Nat → Nat} {b : Nat} (h : WB I (J 58) q) (hb : b < 60) : F_X11_isLive J (nI b) = some (if lv (J 58) b then 1 else 0) := by
  unfold F_X11_isLive lv
  rw [bg11_0 hb, bg11_8 hb]
  simp only [Option.bind_some]
  rcases h b hb with ⟨h, -⟩ | ⟨h, -, sl, by_, st, sta, -, -, -, h2, -, -, -, -, h5⟩
  · rw [h]; rfl
  · rw [h, h2]
    have : sta = 0 ∨ sta = 1 ∨ sta = 2 ∨ sta = 3 := by omega
    rcases this with rfl | rfl | rfl | rfl <;> rfl
theorem WB.l10 {I : xTI} {s : Nat → Int32} {q : Nat → Nat} {b : Nat} (h : WB I s q) (hb : b < 60) : F_X0_isLiving I (nI b) = some (if lv s b then 1 else 0) := by
  unfold F_X0_isLiving lv
  rw [at12_7 hb]
  simp only [Option.bind_some]
  rcases h b hb with ⟨h1, h2⟩ | ⟨h1, h2, sl, by_, st, sta, -, -, -, h4, -, -, -, -, h5⟩
  · rw [h1, h2]; rfl
  · rw [h2 7 (by decide), show 192 + 12 * b + 1 + 7 = 192 + 12 * b + 8 by omega, h1, h4]
    have : sta = 0 ∨ sta = 1 ∨ sta = 2 ∨ sta = 3 := by omega
    rcases this with rfl | rfl | rfl | rfl <;> rfl
theorem j133_e {J : xTI} {M : xTL} {o : Nat} (ho : o < 12) (t0 : Int64) (t1 : Int32) : F_X11_voids_j133 J M (nI o) t0 t1 = some (J, xup M 59 (12 + o) (M 59 (12 + o) + posL (t0 * t1.toInt64))) := by
  unfold F_X11_voids_j133
  rw [xbn_e]
  generalize t0 * t1.toInt64 = y
  have e1 : 12 + nI o = nI (12 + o) := by rw [show (12 : Int32) = nI 12 from rfl, nI_add]
  unfold posL
  by_cases e : 0 < y
  · rw [if_neg (fun z => Int64.not_le.mpr e ((lg_cmp_le _ _).mp z)), e1, xal_n (by omega) (by decide), xas_n (by omega) (by decide), if_pos e]
  · rw [if_pos ((lg_cmp_le _ _).mpr (Int64.not_lt.mp e)), if_neg e, Int64.add_zero, xup_same]
theorem j114_e {I : xTI} {L : xTL} {o b : Nat} (ho : o < 12) (hb : b < 60) (x2 : Int32) (t0 : Int64) (t1 : Int32) (K : Int32 × xTI × xTL → Option (xTI × xTL)) : F_X6_voidBargainsOf_j114 K xN I L x2 (nI b) (nI o) t0 t1 = K (nI (b + 1), xup I 13 (11 * b + 7) 3, xup L 5 o (L 5 o + posL (t0 * t1.toInt64))) := by
  unfold F_X6_voidBargainsOf_j114 F_X0_putState
  rw [xbn_e, xal_n ho (by decide), xbn_e, xas_n ho (by decide), show F_X8_put_12 I (nI b) 7 3 = _ from put12 (t := 7) hb (by decide)]
  simp only [Option.bind_some, xbn_e, nI_1]; rfl
theorem neg_i (x y : Int32) : -(x - y) = y - x := by grind
abbrev vh (s : Nat → Int32) (a b : Nat) : Prop := lv s b ∧ (s (192 + 12 * b + 1) = nI a ∨ s (192 + 12 * b + 2) = nI a)
theorem void_step {I J : xTI} {L M : xTL} {q : Nat → Nat} {a b : Nat} (hW : WB I (J 58) q) (hq1 : q 1 ≤ 12) (hq2 : q 2 ≤ 5) (hm : ∀ k, k < 5 → I 2 k = J 58 (184 + k)) (hL : ∀ o, o < 12 → L 5 o = M 59 (12 + o)) (ha : a < q 1) (hd : ¬ isUpP (J 58) a) (hb : b < 60) : ∃ I2 L2 J2 M2, (∀ K, F_X6_voidBargainsOf_c8 xN (nI a) (nI b) I L K = K (nI (b + 1), I2, L2)) ∧ (∀ K K2, F_X11_settles_c515 K xN (nI a) (nI b) J M K2 = K2 (nI (b + 1), J2, M2)) ∧ WB I2 (J2 58) q ∧ (∀ o, o < 12 → L2 5 o = M2 59 (12 + o)) ∧ (∀ k, k ≠ 13 → I2 k = I k) ∧ (∀ k, k ≠ 5 → L2 k = L k) ∧ (∀ k, k ≠ 58 → J2 k = J k) ∧ (∀ k, k ≠ 59 → M2 k = M k) ∧ (∀ j, (j < 12 ∨ 24 ≤ j) → M2 59 j = M 59 j) ∧ (∀ j, J2 58 j = if j = 192 + 12 * b + 8 ∧ vh (J 58) a b then 3 else J 58 j) := by
  have hup : F_X11_isUp J (nI a) = some 0 := by rw [F11_up (by omega), if_neg (show ¬ J 58 (16 + 4 * a) = 1 from hd)]
  by_cases hl : lv (J 58) b
  · rcases hW b hb with ⟨w1, -⟩ | ⟨w1, w2, sl, by_, st, sta, g1, g2, g3, g8, f1, f2, f3, f4, f5⟩
    · have := hl.1; rw [w1] at this; exact absurd this (by decide)
    have cl : ∀ t, t < 11 → I 13 (11 * b + t) = J 58 (192 + 12 * b + (t + 1)) := fun t ht => bcell2 hW.b hb w1 ht
    have ei : ∀ t, t < 12 → (192 + 12 * nI b + nI t : Int32) = nI (192 + 12 * b + t) := fun t ht => by rw [show (192 : Int32) = nI 192 from rfl, show (12 : Int32) = nI 12 from rfl, nI_mul, nI_add, nI_add]
    have e0 : (192 + 12 * nI b : Int32) = nI (192 + 12 * b) := by rw [show (192 : Int32) = nI 192 from rfl, show (12 : Int32) = nI 12 from rfl, nI_mul, nI_add]
    have hc0 : ∀ K, F_X6_voidBargainsOf_c8 xN (nI a) (nI b) I L K = (if nI sl = nI a then F_X6_voidBargainsOf_j51 K xN I L (nI a) (nI b) 1 else if nI by_ = nI a then F_X6_voidBargainsOf_j51 K xN I L (nI a) (nI b) 0 else K (nI (b + 1), I, L)) := fun K => by
      unfold F_X6_voidBargainsOf_c8 F_X0_markColumnOf F_X0_at
      rw [if_neg (n60 hb), hW.l10 hb, if_pos hl, Option.bind_some, if_neg (by decide), at12_0 hb, at12_1 hb, cl 0 (by decide), cl 1 (by decide), g1, g2]
      simp only [Option.bind_some, xbn_e, nI_1]
      by_cases h1 : nI sl = nI a
      · rw [if_pos h1, if_pos h1, if_pos h1]; rfl
      · rw [if_neg h1, if_neg h1, if_neg h1]
        by_cases h2 : nI by_ = nI a
        · rw [if_pos h2, if_pos h2]; rfl
        · rw [if_neg h2, if_neg h2]; rfl
    have hr0 : ∀ K K2, F_X11_settles_c515 K xN (nI a) (nI b) J M K2 = (if nI sl = nI a then F_X11_settles_j561 K K2 xN J M (nI a) (nI b) else if nI by_ = nI a then F_X11_settles_j561 K K2 xN J M (nI a) (nI b) else K2 (nI (b + 1), J, M)) := fun K K2 => by
      unfold F_X11_settles_c515
      rw [if_neg (n60 hb), hup, Option.bind_some, if_pos rfl, hW.l11 hb, if_pos hl, Option.bind_some, if_neg (by decide), bg11_1 hb, bg11_2 hb, g1, g2]
      simp only [Option.bind_some, xbn_e, nI_1]
    have hgo : ∀ (o : Nat) (y : Int64), o < 12 → vh (J 58) a b → (∀ K, F_X6_voidBargainsOf_c8 xN (nI a) (nI b) I L K = K (nI (b + 1), xup I 13 (11 * b + 7) 3, xup L 5 o (L 5 o + posL y))) → (∀ K K2, F_X11_settles_c515 K xN (nI a) (nI b) J M K2 = K2 (nI (b + 1), xup J 58 (192 + 12 * b + 8) 3, xup M 59 (12 + o) (M 59 (12 + o) + posL y))) → ∃ I2 L2 J2 M2, (∀ K, F_X6_voidBargainsOf_c8 xN (nI a) (nI b) I L K = K (nI (b + 1), I2, L2)) ∧ (∀ K K2, F_X11_settles_c515 K xN (nI a) (nI b) J M K2 = K2 (nI (b + 1), J2, M2)) ∧ WB I2 (J2 58) q ∧ (∀ o, o < 12 → L2 5 o = M2 59 (12 + o)) ∧ (∀ k, k ≠ 13 → I2 k = I k) ∧ (∀ k, k ≠ 5 → L2 k = L k) ∧ (∀ k, k ≠ 58 → J2 k = J k) ∧ (∀ k, k ≠ 59 → M2 k = M k) ∧ (∀ j, (j < 12 ∨ 24 ≤ j) → M2 59 j = M 59 j) ∧ (∀ j, J2 58 j = if j = 192 + 12 * b + 8 ∧ vh (J 58) a b then 3 else J 58 j) := fun o y ho hv z1 z2 => by
      refine ⟨_, _, _, _, z1, z2, hW.put (v := 3) hb w1 (by decide) (fun j => by rw [xup_at]; rfl) (fun j _ _ => by rw [xup_at]; rfl), fun o' ho' => ?_, fun k hk => xup_ne hk, fun k hk => xup_ne hk, fun k hk => xup_ne hk, fun k hk => xup_ne hk, fun j hj => ?_, fun j => ?_⟩
      · rw [xup_at, xup_at]
        by_cases e : o' = o
        · rw [if_pos e, if_pos (by omega), hL o ho]
        · rw [if_neg e, if_neg (by omega)]; exact hL o' ho'
      · rw [xup_at, if_neg (by omega)]
      · rw [xup_at]
        by_cases e : j = 192 + 12 * b + 8
        · rw [if_pos e, if_pos ⟨e, hv⟩]
        · rw [if_neg e, if_neg (fun z => e z.1)]
    have hst : st < 5 := by omega
    by_cases h1 : sl = a
    · subst h1
      refine hgo by_ ((J 58 (192 + 12 * b + 4)).toInt64 * (J 58 (184 + st) - J 58 (192 + 12 * b + 5)).toInt64) (by omega) ⟨hl, Or.inl g1⟩ (fun K => ?_) (fun K K2 => ?_)
      · rw [hc0, if_pos rfl]
        unfold F_X6_voidBargainsOf_j51 F_X6_voidBargainsOf_j66 F_X0_at
        rw [if_neg (by decide), at12_1 hb, at12_2 hb, at12_4 hb, at12_3 hb, cl 1 (by decide), cl 2 (by decide), cl 4 (by decide), cl 3 (by decide), g2, g3]
        simp only [Option.bind_some]
        rw [xal_n hst (by decide), hm st hst, xbn_e, if_neg (by decide), j114_e (by omega) hb]
      · rw [hr0, if_pos rfl]
        unfold F_X11_settles_j561 F_X11_voids F_X11_voids_j36 F_X11_voids_j62
        rw [xbn_e, xas_i (show (192 + 12 * nI b + 8 : Int32) = nI (192 + 12 * b + 8) from ei 8 (by decide)) (by omega) (by decide), xal_i (show (192 + 12 * nI b + 1 : Int32) = nI (192 + 12 * b + 1) from ei 1 (by decide)) (by omega) (by decide), xup_nj (by omega), g1, if_pos rfl, if_neg (by decide), xal_i (show (192 + 12 * nI b + 2 : Int32) = nI (192 + 12 * b + 2) from ei 2 (by decide)) (by omega) (by decide), xup_nj (by omega), g2, xal_i (show (192 + 12 * nI b + 4 : Int32) = nI (192 + 12 * b + 4) from ei 4 (by decide)) (by omega) (by decide), xup_nj (by omega), if_neg (by decide), xal_i (show (192 + 12 * nI b + 3 : Int32) = nI (192 + 12 * b + 3) from ei 3 (by decide)) (by omega) (by decide), xup_nj (by omega), g3, xal_i (i := 184 + st) (by rw [show (184 : Int32) = nI 184 from rfl, nI_add]) (by omega) (by decide), xup_nj (by omega), xal_i (show (192 + 12 * nI b + 5 : Int32) = nI (192 + 12 * b + 5) from ei 5 (by decide)) (by omega) (by decide), xup_nj (by omega), j133_e (by omega), Option.bind_some]
        dsimp only
        rw [xbn_e, nI_1]
    · have n1 : ¬ nI sl = nI a := fun z => h1 ((nI_eq (by omega) (by omega)).mp z)
      by_cases h2 : by_ = a
      · subst h2
        refine hgo sl ((J 58 (192 + 12 * b + 4)).toInt64 * (J 58 (192 + 12 * b + 5) - J 58 (184 + st)).toInt64) (by omega) ⟨hl, Or.inr g2⟩ (fun K => ?_) (fun K K2 => ?_)
        · rw [hc0, if_neg n1, if_pos rfl]
          unfold F_X6_voidBargainsOf_j51 F_X6_voidBargainsOf_j66 F_X0_at
          rw [if_pos rfl, at12_0 hb, at12_2 hb, at12_4 hb, at12_3 hb, cl 0 (by decide), cl 2 (by decide), cl 4 (by decide), cl 3 (by decide), g1, g3]
          simp only [Option.bind_some]
          rw [xal_n hst (by decide), hm st hst, xbn_e, if_pos trivial, j114_e (by omega) hb, neg_i]
        · rw [hr0, if_neg n1, if_pos rfl]
          unfold F_X11_settles_j561 F_X11_voids F_X11_voids_j36 F_X11_voids_j62
          rw [xbn_e, xas_i (show (192 + 12 * nI b + 8 : Int32) = nI (192 + 12 * b + 8) from ei 8 (by decide)) (by omega) (by decide), xal_i (show (192 + 12 * nI b + 1 : Int32) = nI (192 + 12 * b + 1) from ei 1 (by decide)) (by omega) (by decide), xup_nj (by omega), g1, if_neg n1, if_pos rfl, xal_i (show (192 + 12 * nI b + 1 : Int32) = nI (192 + 12 * b + 1) from ei 1 (by decide)) (by omega) (by decide), xup_nj (by omega), g1, xal_i (show (192 + 12 * nI b + 4 : Int32) = nI (192 + 12 * b + 4) from ei 4 (by decide)) (by omega) (by decide), xup_nj (by omega), if_pos rfl, xal_i (show (192 + 12 * nI b + 5 : Int32) = nI (192 + 12 * b + 5) from ei 5 (by decide)) (by omega) (by decide), xup_nj (by omega), xal_i (show (192 + 12 * nI b + 3 : Int32) = nI (192 + 12 * b + 3) from ei 3 (by decide)) (by omega) (by decide), xup_nj (by omega), g3, xal_i (i := 184 + st) (by rw [show (184 : Int32) = nI 184 from rfl, nI_add]) (by omega) (by decide), xup_nj (by omega), j133_e (by omega), Option.bind_some]
          dsimp only
          rw [xbn_e, nI_1]
      · have n2 : ¬ nI by_ = nI a := fun z => h2 ((nI_eq (by omega) (by omega)).mp z)
        refine ⟨I, L, J, M, fun K => by rw [hc0, if_neg n1, if_neg n2], fun K K2 => by rw [hr0, if_neg n1, if_neg n2], hW, hL, fun _ _ => rfl, fun _ _ => rfl, fun _ _ => rfl, fun _ _ => rfl, fun _ _ => rfl, fun j => ?_⟩
        rw [if_neg (fun z => z.2.2.elim (fun w => n1 (g1.symm.trans w)) (fun w => n2 (g2.symm.trans w)))]
  · refine ⟨I, L, J, M, fun K => ?_, fun K K2 => ?_, hW, hL, fun _ _ => rfl, fun _ _ => rfl, fun _ _ => rfl, fun _ _ => rfl, fun _ _ => rfl, fun j => by rw [if_neg (fun z => hl z.2.1)]⟩
    · unfold F_X6_voidBargainsOf_c8
      rw [if_neg (n60 hb), hW.l10 hb, if_neg hl, Option.bind_some, if_pos rfl, xbn_e, nI_1]
    · unfold F_X11_settles_c515
      rw [if_neg (n60 hb), hup, Option.bind_some, if_pos rfl, hW.l11 hb, if_neg hl, Option.bind_some, if_pos rfl, xbn_e, nI_1]
end
