/-! the bargains as both read them; loops that gather -/
theorem n60 {b : Nat} (hb : b < 60) : ¬ (60 : Int32) ≤ nI b := nI_ge (b := 60) hb (by decide)
theorem n12 {b : Nat} (hb : b < 12) : ¬ (12 : Int32) ≤ nI b := nI_ge (b := 12) hb (by decide)
theorem n11 {b : Nat} (hb : b < 11) : ¬ (11 : Int32) ≤ nI b := nI_ge (b := 11) hb (by decide)
theorem n5 {b : Nat} (hb : b < 5) : ¬ (5 : Int32) ≤ nI b := nI_ge (b := 5) hb (by decide)
theorem at12 {I : xTI} {b t : Nat} (hb : b < 60) (ht : t < 11) : F_X8_at_12 I (nI b) (nI t) = some (I 13 (11 * b + t)) := by
  unfold F_X8_at_12 F_X8_at_12_j29
  rw [if_neg (nI_pos (by omega)), if_neg (n60 hb), if_neg (nI_pos (by omega)), if_neg (n11 ht), if_neg (by decide), show (11 : Int32) = nI 11 from rfl, nI_mul, nI_add, xal_n (by omega) (by decide), Nat.mul_comm b 11]
theorem bg11 {I : xTI} {b t : Nat} (hb : b < 60) (ht : t < 12) : F_X11_bg I (nI b) (nI t) = some (I 58 (192 + 12 * b + t)) := by
  unfold F_X11_bg
  rw [show (192 : Int32) = nI 192 from rfl, show (12 : Int32) = nI 12 from rfl, nI_mul, nI_add, nI_add, xal_n (by omega) (by decide)]
theorem at12_0 {I : xTI} {b : Nat} (hb : b < 60) : F_X8_at_12 I (nI b) 0 = some (I 13 (11 * b + 0)) := at12 (t := 0) hb (by decide)
theorem at12_1 {I : xTI} {b : Nat} (hb : b < 60) : F_X8_at_12 I (nI b) 1 = some (I 13 (11 * b + 1)) := at12 (t := 1) hb (by decide)
theorem at12_2 {I : xTI} {b : Nat} (hb : b < 60) : F_X8_at_12 I (nI b) 2 = some (I 13 (11 * b + 2)) := at12 (t := 2) hb (by decide)
theorem at12_3 {I : xTI} {b : Nat} (hb : b < 60) : F_X8_at_12 I (nI b) 3 = some (I 13 (11 * b + 3)) := at12 (t := 3) hb (by decide)
theorem at12_4 {I : xTI} {b : Nat} (hb : b < 60) : F_X8_at_12 I (nI b) 4 = some (I 13 (11 * b + 4)) := at12 (t := 4) hb (by decide)
theorem at12_5 {I : xTI} {b : Nat} (hb : b < 60) : F_X8_at_12 I (nI b) 5 = some (I 13 (11 * b + 5)) := at12 (t := 5) hb (by decide)
theorem at12_6 {I : xTI} {b : Nat} (hb : b < 60) : F_X8_at_12 I (nI b) 6 = some (I 13 (11 * b + 6)) := at12 (t := 6) hb (by decide)
theorem at12_7 {I : xTI} {b : Nat} (hb : b < 60) : F_X8_at_12 I (nI b) 7 = some (I 13 (11 * b + 7)) := at12 (t := 7) hb (by decide)
theorem at12_8 {I : xTI} {b : Nat} (hb : b < 60) : F_X8_at_12 I (nI b) 8 = some (I 13 (11 * b + 8)) := at12 (t := 8) hb (by decide)
theorem at12_9 {I : xTI} {b : Nat} (hb : b < 60) : F_X8_at_12 I (nI b) 9 = some (I 13 (11 * b + 9)) := at12 (t := 9) hb (by decide)
theorem at12_10 {I : xTI} {b : Nat} (hb : b < 60) : F_X8_at_12 I (nI b) 10 = some (I 13 (11 * b + 10)) := at12 (t := 10) hb (by decide)
theorem bg11_0 {I : xTI} {b : Nat} (hb : b < 60) : F_X11_bg I (nI b) 0 = some (I 58 (192 + 12 * b)) := bg11 (t := 0) hb (by decide)
theorem bg11_1 {I : xTI} {b : Nat} (hb : b < 60) : F_X11_bg I (nI b) 1 = some (I 58 (192 + 12 * b + 1)) := bg11 (t := 1) hb (by decide)
theorem bg11_2 {I : xTI} {b : Nat} (hb : b < 60) : F_X11_bg I (nI b) 2 = some (I 58 (192 + 12 * b + 2)) := bg11 (t := 2) hb (by decide)
theorem bg11_3 {I : xTI} {b : Nat} (hb : b < 60) : F_X11_bg I (nI b) 3 = some (I 58 (192 + 12 * b + 3)) := bg11 (t := 3) hb (by decide)
theorem bg11_4 {I : xTI} {b : Nat} (hb : b < 60) : F_X11_bg I (nI b) 4 = some (I 58 (192 + 12 * b + 4)) := bg11 (t := 4) hb (by decide)
theorem bg11_5 {I : xTI} {b : Nat} (hb : b < 60) : F_X11_bg I (nI b) 5 = some (I 58 (192 + 12 * b + 5)) := bg11 (t := 5) hb (by decide)
theorem bg11_6 {I : xTI} {b : Nat} (hb : b < 60) : F_X11_bg I (nI b) 6 = some (I 58 (192 + 12 * b + 6)) := bg11 (t := 6) hb (by decide)
theorem bg11_7 {I : xTI} {b : Nat} (hb : b < 60) : F_X11_bg I (nI b) 7 = some (I 58 (192 + 12 * b + 7)) := bg11 (t := 7) hb (by decide)
theorem bg11_8 {I : xTI} {b : Nat} (hb : b < 60) : F_X11_bg I (nI b) 8 = some (I 58 (192 + 12 * b + 8)) := bg11 (t := 8) hb (by decide)
theorem bg11_9 {I : xTI} {b : Nat} (hb : b < 60) : F_X11_bg I (nI b) 9 = some (I 58 (192 + 12 * b + 9)) := bg11 (t := 9) hb (by decide)
theorem bg11_10 {I : xTI} {b : Nat} (hb : b < 60) : F_X11_bg I (nI b) 10 = some (I 58 (192 + 12 * b + 10)) := bg11 (t := 10) hb (by decide)
theorem bg11_11 {I : xTI} {b : Nat} (hb : b < 60) : F_X11_bg I (nI b) 11 = some (I 58 (192 + 12 * b + 11)) := bg11 (t := 11) hb (by decide)
def fo {α : Type} (g : Nat → α → α) (a : α) : Nat → α
  | 0 => a
  | i + 1 => g i (fo g a i)
theorem fo_congr {α : Type} {g g' : Nat → α → α} {a : α} : ∀ {m : Nat}, (∀ i, i < m → ∀ x, g i x = g' i x) → fo g a m = fo g' a m := by
  intro m
  induction m with
  | zero => intro _; rfl
  | succ m ih =>
    intro h
    show g m (fo g a m) = g' m (fo g' a m)
    rw [ih (fun i hi => h i (by omega)), h m (by omega)]
theorem xlp_fo {α R : Type} {b : α × Int32 → (α × Int32 → Option R) → Option R} (g : Nat → α → α) (a : α) (m : Nat) (out : α → Option R) (hs : ∀ i, i < m → ∀ x k, b (x, nI i) k = k (g i x, nI (i + 1))) (he : ∀ x k, b (x, nI m) k = out x) (N : Nat) (hN : m < N) : xlp b N (a, 0) = out (fo g a m) :=
  xlp_for (fun i => (fo g a i, nI i)) m (out (fo g a m)) (fun i hi k => hs i hi _ k) (fun k => he _ k) N hN
/-- a bargain of s that is MADE or STANDS -/
abbrev lv (s : Nat → Int32) (b : Nat) : Prop := s (192 + 12 * b) = 1 ∧ (s (192 + 12 * b + 8) = 0 ∨ s (192 + 12 * b + 8) = 1)
theorem bstate {s : Nat → Int32} {q : Nat → Nat} {b : Nat} (hV : IVb s q) (hb : b < 60) : s (192 + 12 * b) = 0 ∨ (s (192 + 12 * b) = 1 ∧ ∃ sta, sta ≤ 3 ∧ s (192 + 12 * b + 8) = nI sta) := by
  rcases hV b hb with h | ⟨h, sl, by_, st, sh, pr, dy, ac, sta, g1, g2, g3, g4, g5, g6, g7, g8, f1, f2, f3, f4, f5, f6, f7, f8, f9, f10, f11, f12, -⟩
  · exact Or.inl h
  · exact Or.inr ⟨h, sta, f12, g8⟩
theorem F11_lv {I : xTI} {q : Nat → Nat} {b : Nat} (hV : IVb (I 58) q) (hb : b < 60) : F_X11_isLive I (nI b) = some (if lv (I 58) b then 1 else 0) := by
  unfold F_X11_isLive lv
  rw [bg11_0 hb, bg11_8 hb]
  simp only [Option.bind_some]
  rcases bstate hV hb with h | ⟨h, sta, h1, h2⟩
  · rw [h]; rfl
  · rw [h, h2]
    have : sta = 0 ∨ sta = 1 ∨ sta = 2 ∨ sta = 3 := by omega
    rcases this with rfl | rfl | rfl | rfl <;> rfl
theorem F10_lv {I : xTI} {q : Nat → Nat} {b : Nat} (hB : BRb I (I 58)) (hV : IVb (I 58) q) (hb : b < 60) : F_X0_isLiving I (nI b) = some (if lv (I 58) b then 1 else 0) := by
  unfold F_X0_isLiving lv
  rw [at12_7 hb]
  simp only [Option.bind_some]
  rcases hB b hb with ⟨h1, h2⟩ | ⟨h1, h2⟩
  · rw [h1, h2]; rfl
  · rcases bstate hV hb with h | ⟨h, sta, h3, h4⟩
    · rw [h] at h1; exact absurd h1 (by decide)
    · rw [h2 7 (by decide), show 192 + 12 * b + 1 + 7 = 192 + 12 * b + 8 by omega, h, h4]
      have : sta = 0 ∨ sta = 1 ∨ sta = 2 ∨ sta = 3 := by omega
      rcases this with rfl | rfl | rfl | rfl <;> rfl
/-- the class's cell of a bargain that is there -/
theorem bcell {I : xTI} {b t : Nat} (hB : BRb I (I 58)) (hb : b < 60) (h : I 58 (192 + 12 * b) = 1) (ht : t < 11) : I 13 (11 * b + t) = I 58 (192 + 12 * b + (t + 1)) := by
  rcases hB b hb with ⟨h1, h2⟩ | ⟨h1, h2⟩
  · rw [h] at h1; exact absurd h1 (by decide)
  · rw [h2 t ht, show 192 + 12 * b + 1 + t = 192 + 12 * b + (t + 1) by omega]
/-- what man a gains by bargain b, as the reference reads it -/
abbrev gn (s : Nat → Int32) (b : Nat) (a : Int32) : Int32 := if s (192 + 12 * b + 2) = a then s (192 + 12 * b + 4) else if s (192 + 12 * b + 1) = a then - s (192 + 12 * b + 4) else 0
theorem F10_gn {I : xTI} {b : Nat} (hB : BRb I (I 58)) (hb : b < 60) (h : I 58 (192 + 12 * b) = 1) (a : Int32) : F_X0_gainOf I (nI b) a = some (gn (I 58) b a) := by
  unfold F_X0_gainOf gn
  rw [at12_1 hb, at12_3 hb, at12_0 hb, bcell hB hb h (by decide), bcell hB hb h (by decide), bcell hB hb h (by decide)]
  simp only [Option.bind_some]
  by_cases e1 : I 58 (192 + 12 * b + 2) = a
  · simp [e1]
  · by_cases e2 : I 58 (192 + 12 * b + 1) = a <;> simp [e1, e2]
/-- how many living bargains man a has: both count it -/
def gLv (s : Nat → Int32) (a : Int32) (b : Nat) (x : Int32) : Int32 := if lv s b ∧ (s (192 + 12 * b + 1) = a ∨ s (192 + 12 * b + 2) = a) then x + 1 else x
theorem shp {s : Nat → Int32} {q : Nat → Nat} {b : Nat} (hV : IVb s q) (hb : b < 60) (h : s (192 + 12 * b) = 1) : ∃ sh, 1 ≤ sh ∧ sh ≤ 99 ∧ s (192 + 12 * b + 4) = nI sh := by
  rcases hV b hb with g | ⟨-, sl, by_, st, sh, pr, dy, ac, sta, g1, g2, g3, g4, g5, g6, g7, g8, f1, f2, f3, f4, f5, f6, -⟩
  · rw [h] at g; exact absurd g (by decide)
  · exact ⟨sh, f5, f6, g4⟩
theorem neg_ne0 {k : Nat} (h : 1 ≤ k) (h2 : k ≤ 99) : - nI k ≠ 0 := by
  intro e
  have : (- nI k).toInt = (0 : Int32).toInt := by rw [e]
  rw [Int32.toInt_neg, nI_toInt (by omega)] at this
  have e0 : (0 : Int32).toInt = 0 := by decide
  rw [e0] at this
  have : (-(k : Int)).bmod (2 ^ 32) = -(k : Int) := by apply Int.bmod_eq_of_le <;> omega
  omega
theorem gn_0 {s : Nat → Int32} {q : Nat → Nat} {b : Nat} (hV : IVb s q) (hb : b < 60) (h : s (192 + 12 * b) = 1) (a : Int32) : gn s b a = 0 ↔ ¬ (s (192 + 12 * b + 1) = a ∨ s (192 + 12 * b + 2) = a) := by
  obtain ⟨sh, h1, h2, h3⟩ := shp hV hb h
  unfold gn
  rw [h3]
  by_cases e1 : s (192 + 12 * b + 2) = a
  · rw [if_pos e1]
    exact ⟨fun g => absurd g (nI_ne0 (by omega) (by omega)), fun g => absurd (Or.inr e1) g⟩
  · rw [if_neg e1]
    by_cases e2 : s (192 + 12 * b + 1) = a
    · rw [if_pos e2]
      exact ⟨fun g => absurd g (neg_ne0 h1 h2), fun g => absurd (Or.inl e2) g⟩
    · rw [if_neg e2]
      exact ⟨fun _ g => g.elim e2 e1, fun _ => rfl⟩
theorem F10_lo {I : xTI} {q : Nat → Nat} (hB : BRb I (I 58)) (hV : IVb (I 58) q) (a : Int32) : F_X0_livingOf xN I a = some (fo (gLv (I 58) a) 0 60) := by
  unfold F_X0_livingOf F_X0_livingOf_b4
  refine xlp_fo (gLv (I 58) a) 0 60 (fun x => some x) (fun b hb x k => ?_) (fun x k => ?_) xN (by decide)
  · show F_X0_livingOf_c4 xN I a x (nI b) k = _
    unfold F_X0_livingOf_c4 gLv
    rw [if_neg (n60 hb), F10_lv hB hV hb]
    simp only [Option.bind_some, ite01, xbn_e, nI_1]
    by_cases e : lv (I 58) b
    · rw [it_n e, F10_gn hB hb e.1]
      simp only [Option.bind_some, gn_0 hV hb e.1]
      by_cases e2 : I 58 (192 + 12 * b + 1) = a ∨ I 58 (192 + 12 * b + 2) = a
      · rw [if_neg (fun g => g e2), if_pos ⟨e, e2⟩]
      · rw [if_pos e2, if_neg (fun g => e2 g.2)]
    · rw [it_p e, if_neg (fun g => e g.1)]
  · show F_X0_livingOf_c4 xN I a x (nI 60) k = _
    unfold F_X0_livingOf_c4
    rw [if_pos (by decide)]
theorem F11_lo {I : xTI} {q : Nat → Nat} (hV : IVb (I 58) q) (a : Int32) : xlp (F_X11_look_b25 xN I a) xN (0, 0) = some (fo (gLv (I 58) a) 0 60, I) := by
  unfold F_X11_look_b25
  refine xlp_fo (gLv (I 58) a) 0 60 (fun x => some (x, I)) (fun b hb x k => ?_) (fun x k => ?_) xN (by decide)
  · show F_X11_look_c25 xN I a x (nI b) k = _
    unfold F_X11_look_c25 F_X11_look_j69 gLv
    rw [if_neg (n60 hb), F11_lv hV hb]
    simp only [Option.bind_some, ite01, xbn_e, nI_1]
    by_cases e : lv (I 58) b
    · rw [it_n e, bg11_1 hb, bg11_2 hb]
      simp only [Option.bind_some]
      by_cases e1 : I 58 (192 + 12 * b + 1) = a
      · rw [if_pos e1, if_pos ⟨e, Or.inl e1⟩]
      · rw [if_neg e1]
        by_cases e2 : I 58 (192 + 12 * b + 2) = a
        · rw [if_pos e2, if_pos ⟨e, Or.inr e2⟩]
        · rw [if_neg e2, if_neg (fun g => g.2.elim e1 e2), Int32.add_zero]
    · rw [it_p e, if_neg (fun g => e g.1), Int32.add_zero]
  · show F_X11_look_c25 xN I a x (nI 60) k = _
    unfold F_X11_look_c25
    rw [if_pos (by decide)]
