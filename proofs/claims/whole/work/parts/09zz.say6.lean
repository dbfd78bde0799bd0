section TOLD
variable {I : xTI} {L : xTL} {q : Nat → Nat} {n : Nat}
theorem told_y (hB : BR I L (I 58) (L 59) q) (hV : IV (I 58) (L 59) q n) {x : Int32} {kk : Nat} {bo : Option Nat} (h : isWhoP (I 58) q x kk bo) : F_X10_isToldOf I x = some 1 ∧ F_X10_stockToldOf I x = some (nI kk) ∧ F_X10_bargainToldOf I x = some (bI bo) ∧ x = whoI kk bo ∧ kk < 5 ∧ (∀ bb, bo = some bb → bb < 60 ∧ I 58 (192 + 12 * bb) = 1 ∧ I 58 (192 + 12 * bb + 3) = nI kk) := by
  obtain ⟨c1, c2, c3, c4, c5, c6, c7, c8, c9⟩ := cnt hB hV
  rcases h with ⟨j, h1, h2, rfl, rfl⟩ | ⟨b, hb, h2, hs, h3, hk, rfl⟩
  · have hbt := bt_n hB (stk_lt (I := I) h1 c6 h2)
    refine ⟨?_, ?_, hbt, h2, by omega, fun bb e => by cases e⟩
    · unfold F_X10_isToldOf
      rw [F10_stk c2, if_pos ((rng_iff (by omega)).mpr ⟨kk, h1, h2⟩), Option.bind_some, if_neg (by decide)]
      rfl
    · unfold F_X10_stockToldOf
      rw [hbt, Option.bind_some, if_pos rfl, h2]
  · have hbt := bt_y hB hV hb h2 hs
    have hbc : ∀ t, t < 11 → I 13 (11 * b + t) = I 58 (192 + 12 * b + 1 + t) := by
      rcases hB.2.2.2.1 b hb with ⟨g, -⟩ | ⟨-, g⟩
      · rw [g] at hs; exact absurd hs (by decide)
      · exact g
    have hn : ¬ (0 ≤ x ∧ x ≤ nI (q 2) - 1) := fun e => by
      obtain ⟨j, j1, j2⟩ := (rng_iff (by omega)).mp e
      rw [h2] at j2
      have := (nI_eq (by omega) (by omega)).mp j2
      omega
    refine ⟨?_, ?_, hbt, h2, by omega, fun bb e => ?_⟩
    · unfold F_X10_isToldOf
      rw [F10_stk c2, if_neg hn, Option.bind_some, if_pos rfl, hbt, Option.bind_some, if_neg (nI_ne_m1 (by omega))]
      rfl
    · unfold F_X10_stockToldOf F_X0_at
      rw [hbt, Option.bind_some, if_neg (nI_ne_m1 (by omega)), at12_2 hb, Option.bind_some, Option.bind_some, hbc 2 (by decide), h3]
    · cases e
      exact ⟨hb, hs, h3⟩
theorem told_n (hB : BR I L (I 58) (L 59) q) (hV : IV (I 58) (L 59) q n) {x : Int32} (h1 : ¬ ∃ j, j < q 2 ∧ x = nI j) (h2 : ¬ ∃ b, b < 60 ∧ x = nI (100 + b) ∧ I 58 (192 + 12 * b) = 1) : F_X10_isToldOf I x = some 0 := by
  obtain ⟨c1, c2, c3, c4, c5, c6, c7, c8, c9⟩ := cnt hB hV
  unfold F_X10_isToldOf
  rw [F10_stk c2, if_neg (fun e => h1 ((rng_iff (by omega)).mp e)), Option.bind_some, if_pos rfl, bt_n hB h2, Option.bind_some, if_pos rfl]
  rfl
theorem isWho_y (hV : IV (I 58) (L 59) q n) {J : xTI} (hJ : J 58 = I 58) {key : Int32} (hk : 0 ≤ key ∧ key ≤ 5) {x : Int32} {kk : Nat} {bo : Option Nat} (h : isWhoP (I 58) q x kk bo) : F_X11_isWho J key x = some 1 := by
  have c4 : J 58 2 = nI (q 2) := by rw [hJ]; exact hV.1.1 2 (by decide)
  have c6 : q 2 ≤ 5 := hV.1.2.2.2.1
  unfold F_X11_isWho
  rw [xin_iff, if_pos hk, Option.bind_some, if_neg (by decide), F11_stk c4]
  rcases h with ⟨j, h1, h2, -⟩ | ⟨b, hb, h2, hs, -⟩
  · rw [if_pos ((rng_iff (by omega)).mpr ⟨j, h1, h2⟩), Option.bind_some, if_neg (by decide)]
    rfl
  · have hn : ¬ (0 ≤ x ∧ x ≤ nI (q 2) - 1) := fun e => by
      obtain ⟨j, j1, j2⟩ := (rng_iff (by omega)).mp e
      rw [h2] at j2
      have := (nI_eq (by omega) (by omega)).mp j2
      omega
    rw [if_neg hn, Option.bind_some, if_pos rfl, (sub100 hb).mpr h2, bn_y hb (by rw [hJ]; exact hs), Option.bind_some, if_neg (by decide)]
    rfl
theorem isWho_n (hV : IV (I 58) (L 59) q n) {J : xTI} (hJ : J 58 = I 58) {key x : Int32} (h : ¬ (0 ≤ key ∧ key ≤ 5) ∨ ((¬ ∃ j, j < q 2 ∧ x = nI j) ∧ ¬ ∃ b, b < 60 ∧ x = nI (100 + b) ∧ I 58 (192 + 12 * b) = 1)) : F_X11_isWho J key x = some 0 := by
  have c4 : J 58 2 = nI (q 2) := by rw [hJ]; exact hV.1.1 2 (by decide)
  have c6 : q 2 ≤ 5 := hV.1.2.2.2.1
  unfold F_X11_isWho
  rw [xin_iff]
  by_cases hk : 0 ≤ key ∧ key ≤ 5
  · obtain ⟨h1, h2⟩ := h.resolve_left (fun g => g hk)
    rw [if_pos hk, Option.bind_some, if_neg (by decide), F11_stk c4, if_neg (fun e => h1 ((rng_iff (by omega)).mp e)), Option.bind_some, if_pos rfl, bn_n (q := q) (by rw [hJ]; exact hV.2.2.1) (fun ⟨b, a1, a2, a3⟩ => h2 ⟨b, a1, (sub100 a1).mp a2, by rw [← hJ]; exact a3⟩), Option.bind_some, if_pos rfl]
    rfl
  · rw [if_neg hk, Option.bind_some, if_pos rfl]
    rfl
end TOLD
theorem dflt_eq {key : Nat} (h : key < 6) : F_X11_defaultOf (nI key) = some (xwo key) := by
  have : key = 0 ∨ key = 1 ∨ key = 2 ∨ key = 3 ∨ key = 4 ∨ key = 5 := by omega
  rcases this with rfl | rfl | rfl | rfl | rfl | rfl <;> rfl
theorem calm_say {kp : Bool} {n : Nat} {I I1 J : xTI} {L M : xTL} (h : xRel kp n I L) (h1 : ∀ k, k ≠ 18 → k ≠ 19 → I1 k = I k) (h2 : FrU I1 J) (h3 : FrL L M) : xRel kp (n + 1) J M := by
  refine pr_mono _ _ _ _ (h.calm (fun k j hk => ?_) (fun k hk => h3 k (fun e => hk (Or.inl e))))
  unfold calm at hk
  rw [h2 k j (by omega) (by omega), h1 k (by omega) (by omega)]
theorem pr_says : xs_says xRel := by
  intro kp n I L a1 a2 hn h
  obtain ⟨⟨q, hB, hV⟩, -⟩ := id h
  by_cases hk : 0 ≤ a1 ∧ a1 ≤ 5
  · obtain ⟨key, -, hkey, rfl⟩ := (rngl_iff (a := 0) (b := 5) (by decide) (by decide)).mp hk
    rcases who_or hV.2.2.1 a2 with ⟨kk, bo, hw⟩ | ⟨w1, w2⟩
    · obtain ⟨t1, t2, t3, t4, t5, t6⟩ := told_y hB hV hw
      obtain ⟨v, I1, e1, e2, e3⟩ := tells_eq hB hV (key := key) (by omega) t5 bo t6
      obtain ⟨J2, M2, f1, f2, f3⟩ := e3 I1 L (e2 58 (by decide) (by decide))
      refine ⟨v, I1, J2, M2, ?_, ?_, calm_say h e2 f2 f3⟩
      · unfold F_X10_says
        rw [xwi_iff, if_pos hk, Option.bind_some, if_neg (by decide), t1, Option.bind_some, if_neg (by decide), t2, Option.bind_some, t3, Option.bind_some, e1]
        rfl
      · unfold F_X11_says
        rw [isWho_y hV (e2 58 (by decide) (by decide)) hk hw, Option.bind_some, if_neg (by decide), dflt_eq (by omega), Option.bind_some, t4, f1]
        rfl
    · obtain ⟨I1, I2, r1, r2, r3, r4⟩ := huz2k h (-3) 3 (by decide) (by decide)
      refine ⟨0, I1, I2, L, ?_, ?_, r3⟩
      · unfold F_X10_says F_X10_says_j17
        rw [xwi_iff, if_pos hk, Option.bind_some, if_neg (by decide), told_n hB hV w1 w2, Option.bind_some, if_pos rfl, r1]
        rfl
      · unfold F_X11_says
        rw [isWho_n hV (r4 58 (by decide)) (Or.inr ⟨w1, w2⟩), Option.bind_some, if_pos rfl, r2]
        rfl
  · obtain ⟨I1, I2, r1, r2, r3, r4⟩ := huz2k h (-3) 3 (by decide) (by decide)
    refine ⟨0, I1, I2, L, ?_, ?_, r3⟩
    · unfold F_X10_says F_X10_says_j17
      rw [xwi_iff, if_neg hk, Option.bind_some, if_pos rfl, r1]
      rfl
    · unfold F_X11_says
      rw [isWho_n hV (r4 58 (by decide)) (Or.inl hk), Option.bind_some, if_pos rfl, r2]
      rfl
theorem pr_why : xs_why xRel := by
  intro kp n I L a1 a2 hn h
  obtain ⟨⟨q, hB, hV⟩, -⟩ := id h
  by_cases hk : 0 ≤ a1 ∧ a1 ≤ 5
  · rcases who_or hV.2.2.1 a2 with ⟨kk, bo, hw⟩ | ⟨w1, w2⟩
    · obtain ⟨t1, t2, t3, t4, t5, t6⟩ := told_y hB hV hw
      obtain ⟨a, v, I1, e1, e2, -, e3⟩ := find_eq hB hV a1 t5 bo t6
      obtain ⟨J2, M2, f1, f2, f3, -⟩ := e3 I1 L (e2 58 (by decide) (by decide))
      refine ⟨a, I1, J2, M2, ?_, ?_, calm_say h e2 f2 f3⟩
      · unfold F_X10_why
        rw [xwi_iff, if_pos hk, Option.bind_some, if_neg (by decide), t1, Option.bind_some, if_neg (by decide), t2, Option.bind_some, t3, Option.bind_some, e1]
        rfl
      · unfold F_X11_why
        rw [isWho_y hV (e2 58 (by decide) (by decide)) hk hw, Option.bind_some, if_neg (by decide), t4, f1]
        rfl
    · obtain ⟨I1, I2, r1, r2, r3, r4⟩ := ref2k h (-3) 3 (by decide) (by decide)
      refine ⟨-3, I1, I2, L, ?_, ?_, r3⟩
      · unfold F_X10_why F_X10_why_j17
        rw [xwi_iff, if_pos hk, Option.bind_some, if_neg (by decide), told_n hB hV w1 w2, Option.bind_some, if_pos rfl, r1]
        rfl
      · unfold F_X11_why
        rw [isWho_n hV (r4 58 (by decide)) (Or.inr ⟨w1, w2⟩), Option.bind_some, if_pos rfl, r2]
        rfl
  · obtain ⟨I1, I2, r1, r2, r3, r4⟩ := ref2k h (-3) 3 (by decide) (by decide)
    refine ⟨-3, I1, I2, L, ?_, ?_, r3⟩
    · unfold F_X10_why F_X10_why_j17
      rw [xwi_iff, if_neg hk, Option.bind_some, if_pos rfl, r1]
      rfl
    · unfold F_X11_why
      rw [isWho_n hV (r4 58 (by decide)) (Or.inl hk), Option.bind_some, if_pos rfl, r2]
      rfl
