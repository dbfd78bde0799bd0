/-! nets: of an account, and as known on a day -/
theorem parties {s : Nat → Int32} {q : Nat → Nat} {b : Nat} (hV : IVb s q) (hq : q 1 ≤ 12) (hb : b < 60) (h : s (192 + 12 * b) = 1) : s (192 + 12 * b + 1) ≠ s (192 + 12 * b + 2) := by
  rcases hV b hb with g | ⟨-, sl, by_, st, sh, pr, dy, ac, sta, g1, g2, g3, g4, g5, g6, g7, g8, f1, f2, f3, -⟩
  · rw [h] at g; exact absurd g (by decide)
  · rw [g1, g2, Ne, nI_eq (by omega) (by omega)]; exact f3
/-- living and both marks there is standing -/
theorem marks {s : Nat → Int32} {q : Nat → Nat} {b : Nat} (hV : IVb s q) (hb : b < 60) : (lv s b ∧ s (192 + 12 * b + 9) ≠ -1 ∧ s (192 + 12 * b + 10) ≠ -1) ↔ (s (192 + 12 * b) = 1 ∧ s (192 + 12 * b + 8) = 1) := by
  rcases hV b hb with g | ⟨h, sl, by_, st, sh, pr, dy, ac, sta, g1, g2, g3, g4, g5, g6, g7, g8, f1, f2, f3, f4, f5, f6, f7, f8, f9, f10, f11, f12, k1, k2, k3, k4, k5, k6⟩
  · unfold lv; rw [g]
    exact ⟨fun e => absurd e.1.1 (by decide), fun e => absurd e.1 (by decide)⟩
  · unfold lv
    rw [h, g8]
    constructor
    · rintro ⟨⟨-, e | e⟩, e2, e3⟩
      · have : sta = 0 := (nI_eq (b := 0) (by omega) (by decide)).mp e
        rcases k4 this with z | z
        · exact absurd z e2
        · exact absurd z e3
      · exact ⟨rfl, e⟩
    · rintro ⟨-, e⟩
      have : sta = 1 := (nI_eq (b := 1) (by omega) (by decide)).mp e
      exact ⟨⟨rfl, Or.inr e⟩, k5 this⟩
abbrev stn (s : Nat → Int32) (b : Nat) (k ac : Int32) : Prop := s (192 + 12 * b) = 1 ∧ s (192 + 12 * b + 8) = 1 ∧ s (192 + 12 * b + 3) = k ∧ s (192 + 12 * b + 7) = ac
theorem F10_st {I : xTI} {b : Nat} (hB : BRb I (I 58)) (hb : b < 60) (k ac : Int32) : F_X0_standsIn I (nI b) k ac = some (if stn (I 58) b k ac then 1 else 0) := by
  unfold F_X0_standsIn stn
  rw [at12_2 hb, at12_7 hb, at12_6 hb]
  simp only [Option.bind_some, xzc_0, xzc_1]
  rcases hB b hb with ⟨h1, h2⟩ | ⟨h1, h2⟩
  · rw [h1, h2, if_neg (show ¬ ((-1 : Int32) = 1) by decide), if_neg (show ¬ ((0 : Int32) = 1 ∧ _) from fun e => absurd e.1 (by decide)), ite_self]
  · rw [bcell hB hb h1 (by decide), bcell hB hb h1 (by decide), bcell hB hb h1 (by decide)]
    simp only [h1, true_and]
    by_cases e1 : I 58 (192 + 12 * b + (2 + 1)) = k
    · by_cases e2 : I 58 (192 + 12 * b + (7 + 1)) = 1
      · by_cases e3 : I 58 (192 + 12 * b + (6 + 1)) = ac <;> simp [e1, e2, e3]
      · simp [e1, e2]
    · simp [e1]
def gNt (s : Nat → Int32) (a k ac : Int32) (b : Nat) (x : Int32) : Int32 := if stn s b k ac then x + gn s b a else x
def gKn (s : Nat → Int32) (a k ac d : Int32) (b : Nat) (x : Int32) : Int32 := if stn s b k ac ∧ s (192 + 12 * b + 9) ≤ d ∧ s (192 + 12 * b + 10) ≤ d then x + gn s b a else x
theorem F10_nt {I : xTI} (hB : BRb I (I 58)) (a k ac : Int32) : F_X0_netOf xN I a k ac = some (fo (gNt (I 58) a k ac) 0 60) := by
  unfold F_X0_netOf F_X0_netOf_b6
  refine xlp_fo (gNt (I 58) a k ac) 0 60 (fun x => some x) (fun b hb x K => ?_) (fun x K => ?_) xN (by decide)
  · show F_X0_netOf_c6 xN I a k ac x (nI b) K = _
    unfold F_X0_netOf_c6 gNt
    rw [if_neg (n60 hb), F10_st hB hb]
    simp only [Option.bind_some, ite01, xbn_e, nI_1]
    by_cases e : stn (I 58) b k ac
    · rw [it_n e, F10_gn hB hb e.1, if_pos e]; rfl
    · rw [it_p e, if_neg e]
  · show F_X0_netOf_c6 xN I a k ac x (nI 60) K = _
    unfold F_X0_netOf_c6
    rw [if_pos (by decide)]
/-- adding what he buys and taking what he sells is adding the gain -/
theorem gn_2 {s : Nat → Int32} {b : Nat} (h : s (192 + 12 * b + 1) ≠ s (192 + 12 * b + 2)) (a x : Int32) {R : Type} (K : Int32 → R) : (if s (192 + 12 * b + 2) = a then (if s (192 + 12 * b + 1) = a then K (x + s (192 + 12 * b + 4) - s (192 + 12 * b + 4)) else K (x + s (192 + 12 * b + 4) - 0)) else (if s (192 + 12 * b + 1) = a then K (x + 0 - s (192 + 12 * b + 4)) else K (x + 0 - 0))) = K (x + gn s b a) := by
  unfold gn
  by_cases e2 : s (192 + 12 * b + 2) = a
  · have e1 : ¬ s (192 + 12 * b + 1) = a := fun e => h (e.trans e2.symm)
    rw [if_pos e2, if_neg e1, if_pos e2, Int32.sub_zero]
  · rw [if_neg e2, if_neg e2]
    by_cases e1 : s (192 + 12 * b + 1) = a
    · rw [if_pos e1, if_pos e1, Int32.add_zero, Int32.sub_eq_add_neg]
    · rw [if_neg e1, if_neg e1, Int32.sub_zero]
theorem F11_stn {I : xTI} {b : Nat} (hb : b < 60) : F_X11_stands I (nI b) = some (if I 58 (192 + 12 * b) = 1 ∧ I 58 (192 + 12 * b + 8) = 1 then 1 else 0) := by
  unfold F_X11_stands
  rw [bg11_0 hb, bg11_8 hb]
  simp only [Option.bind_some, xzc_0, xzc_1]
  by_cases e1 : I 58 (192 + 12 * b) = 1 <;> by_cases e2 : I 58 (192 + 12 * b + 8) = 1 <;> simp [e1, e2]
theorem F11_nt {I : xTI} {q : Nat → Nat} (hV : IVb (I 58) q) (hq : q 1 ≤ 12) (a k ac : Int32) : F_X11_net xN I a k ac = some (fo (gNt (I 58) a k ac) 0 60) := by
  unfold F_X11_net F_X11_net_b6
  refine xlp_fo (gNt (I 58) a k ac) 0 60 (fun x => some x) (fun b hb x K => ?_) (fun x K => ?_) xN (by decide)
  · show F_X11_net_c6 xN I a k ac x (nI b) K = _
    unfold F_X11_net_c6 F_X11_net_j72 F_X11_net_j99 gNt
    rw [if_neg (n60 hb), F11_stn hb, bg11_3 hb, bg11_7 hb, bg11_2 hb, bg11_1 hb, bg11_4 hb]
    simp only [Option.bind_some, ite01, xbn_e, nI_1]
    by_cases e : I 58 (192 + 12 * b) = 1 ∧ I 58 (192 + 12 * b + 8) = 1
    · rw [it_n e]
      by_cases e3 : I 58 (192 + 12 * b + 3) = k
      · by_cases e4 : I 58 (192 + 12 * b + 7) = ac
        · rw [if_pos e3, if_pos e4, if_pos (show stn (I 58) b k ac from ⟨e.1, e.2, e3, e4⟩), gn_2 (parties hV hq hb e.1) a x (fun y => K (y, nI (b + 1)))]
        · rw [if_pos e3, if_neg e4, if_neg (fun z => e4 z.2.2.2)]
      · rw [if_neg e3, if_neg (fun z => e3 z.2.2.1)]
    · rw [it_p e, if_neg (fun z => e ⟨z.1, z.2.1⟩)]
  · show F_X11_net_c6 xN I a k ac x (nI 60) K = _
    unfold F_X11_net_c6
    rw [if_pos (by decide)]
theorem i32_max_le {x y d : Int32} : ¬ (d < (if x < y then y else x)) ↔ x ≤ d ∧ y ≤ d := by
  rw [Int32.not_lt]
  by_cases h : x < y
  · rw [if_pos h]
    exact ⟨fun g => ⟨Int32.le_trans (Int32.le_of_lt h) g, g⟩, fun g => g.2⟩
  · rw [if_neg h]
    exact ⟨fun g => ⟨g, Int32.le_trans (Int32.not_lt.mp h) g⟩, fun g => g.1⟩
theorem F10_kn {I : xTI} (hB : BRb I (I 58)) (a k ac d : Int32) : F_X0_netKnownOf xN I a k ac d = some (fo (gKn (I 58) a k ac d) 0 60) := by
  unfold F_X0_netKnownOf F_X0_netKnownOf_b6
  refine xlp_fo (gKn (I 58) a k ac d) 0 60 (fun x => some x) (fun b hb x K => ?_) (fun x K => ?_) xN (by decide)
  · show F_X0_netKnownOf_c6 xN I a k ac d x (nI b) K = _
    unfold F_X0_netKnownOf_c6 gKn
    rw [if_neg (n60 hb), at12_8 hb, at12_9 hb, F10_st hB hb]
    simp only [Option.bind_some, ite01, xbn_e, nI_1]
    by_cases e : stn (I 58) b k ac
    · rw [it_n e, bcell hB hb e.1 (by decide), bcell hB hb e.1 (by decide), F10_gn hB hb e.1]
      by_cases g : I 58 (192 + 12 * b + 9) ≤ d ∧ I 58 (192 + 12 * b + 10) ≤ d
      · rw [if_neg (i32_max_le.mpr g), if_pos ⟨e, g⟩]; rfl
      · rw [if_pos (Decidable.not_not.mp (fun z => g (i32_max_le.mp z))), if_neg (fun z => g z.2)]
    · rw [it_p e, if_neg (fun z => e z.1)]
  · show F_X0_netKnownOf_c6 xN I a k ac d x (nI 60) K = _
    unfold F_X0_netKnownOf_c6
    rw [if_pos (by decide)]
theorem F11_kn {I : xTI} {q : Nat → Nat} (hV : IVb (I 58) q) (hq : q 1 ≤ 12) (a k ac d : Int32) : xlp (F_X11_knew_b55 xN I a k ac d) xN (0, 0) = some (fo (gKn (I 58) a k ac d) 0 60, I) := by
  unfold F_X11_knew_b55
  refine xlp_fo (gKn (I 58) a k ac d) 0 60 (fun x => some (x, I)) (fun b hb x K => ?_) (fun x K => ?_) xN (by decide)
  · show F_X11_knew_c55 xN I a k ac d x (nI b) K = _
    unfold F_X11_knew_c55 F_X11_knew_j171 F_X11_knew_j198 gKn
    rw [if_neg (n60 hb), F11_lv hV hb, bg11_3 hb, bg11_7 hb, bg11_9 hb, bg11_10 hb, bg11_2 hb, bg11_1 hb, bg11_4 hb]
    simp only [Option.bind_some, ite01, xbn_e, nI_1]
    by_cases e : lv (I 58) b
    · rw [it_n e]
      by_cases e3 : I 58 (192 + 12 * b + 3) = k
      · by_cases e4 : I 58 (192 + 12 * b + 7) = ac
        · rw [if_pos e3, if_pos e4]
          by_cases m1 : I 58 (192 + 12 * b + 9) = -1
          · rw [if_pos m1, if_neg (fun z => ((marks hV hb).mpr ⟨z.1.1, z.1.2.1⟩).2.1 m1)]
          · by_cases d1 : I 58 (192 + 12 * b + 9) ≤ d
            · rw [if_neg m1, if_neg (Int32.not_lt.mpr d1)]
              by_cases m2 : I 58 (192 + 12 * b + 10) = -1
              · rw [if_pos m2, if_neg (fun z => ((marks hV hb).mpr ⟨z.1.1, z.1.2.1⟩).2.2 m2)]
              · by_cases d2 : I 58 (192 + 12 * b + 10) ≤ d
                · have e2 := (marks hV hb).mp ⟨e, m1, m2⟩
                  rw [if_neg m2, if_pos d2, if_pos (show stn (I 58) b k ac ∧ I 58 (192 + 12 * b + 9) ≤ d ∧ I 58 (192 + 12 * b + 10) ≤ d from ⟨⟨e2.1, e2.2, e3, e4⟩, d1, d2⟩), gn_2 (parties hV hq hb e.1) a x (fun y => K (y, nI (b + 1)))]
                · rw [if_neg m2, if_neg d2, if_neg (fun z => d2 z.2.2)]
            · rw [if_neg m1, if_pos (Int32.not_le.mp d1), if_neg (fun z => d1 z.2.1)]
        · rw [if_pos e3, if_neg e4, if_neg (fun z => e4 z.1.2.2.2)]
      · rw [if_neg e3, if_neg (fun z => e3 z.1.2.2.1)]
    · rw [it_p e, if_neg (fun z => e ⟨z.1.1, Or.inr z.1.2.1⟩)]
  · show F_X11_knew_c55 xN I a k ac d x (nI 60) K = _
    unfold F_X11_knew_c55
    rw [if_pos (by decide)]
