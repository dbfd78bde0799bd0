theorem i64_ss (a b d : Int64) : a - b - d = a - (b + d) := by
  rw [Int64.sub_eq_add_neg (a - b), Int64.sub_eq_add_neg a b, Int64.sub_eq_add_neg a (b + d), Int64.neg_add, Int64.sub_eq_add_neg (-b), Int64.add_assoc]
theorem i64_sa (a b d : Int64) : a - b + d = a - (b - d) := by
  rw [Int64.sub_eq_add_neg b d, ← i64_ss, Int64.sub_eq_add_neg (a - b), Int64.neg_neg]
abbrev stF (s : Nat → Int32) (b : Nat) (ac : Int32) : Prop := s (192 + 12 * b) = 1 ∧ s (192 + 12 * b + 8) = 1 ∧ s (192 + 12 * b + 7) = ac
theorem F10_sf {I : xTI} {s : Nat → Int32} {b : Nat} (hB : BRb I s) (hb : b < 60) (ac : Int32) : F_X0_standsFor I (nI b) ac = some (if stF s b ac then 1 else 0) := by
  unfold F_X0_standsFor
  rw [at12_7 hb, at12_6 hb]
  simp only [Option.bind_some, xzc_0, xzc_1]
  rcases hB b hb with ⟨h1, h2⟩ | ⟨h1, h2⟩
  · rw [h2, if_neg (by decide), if_neg (fun e => by have := e.1; rw [h1] at this; exact absurd this (by decide))]
  · rw [bcell2 hB hb h1 (by decide), bcell2 hB hb h1 (by decide)]
    by_cases e2 : s (192 + 12 * b + 8) = 1
    · by_cases e3 : s (192 + 12 * b + 7) = ac
      · rw [if_pos e2, if_pos e3, if_pos ⟨h1, e2, e3⟩]
      · rw [if_pos e2, if_neg e3, if_neg (fun e => e3 e.2.2)]
    · rw [if_neg e2, if_neg (fun e => e2 e.2.1)]
/-- what a bargain is worth -/
def wo (s : Nat → Int32) (b : Nat) : Int64 := (s (192 + 12 * b + 4)).toInt64 * (s (192 + 12 * b + 5)).toInt64
theorem F7_wo {I : xTI} {s : Nat → Int32} {b : Nat} (hB : BRb I s) (hb : b < 60) (h : s (192 + 12 * b) = 1) : F_X7_worth I (nI b) = some (wo s b) := by
  unfold F_X7_worth F_X0_at
  rw [at12_3 hb, at12_4 hb, bcell2 hB hb h (by decide), bcell2 hB hb h (by decide)]
  rfl
theorem wo_bd {s : Nat → Int32} {q : Nat → Nat} {b : Nat} (hV : IVb s q) (hb : b < 60) (h : s (192 + 12 * b) = 1) : ∃ z : Nat, 1 ≤ z ∧ z ≤ 989901 ∧ wo s b = Int64.ofNat z := by
  obtain ⟨sl, by_, st, sh, pr, dy, ac, g1, g2, g3, g4, g5, g6, g7, f1, f2, f3, f4, f5, f6, f7, f8, -⟩ := bg_all hV hb h
  refine ⟨sh * pr, Nat.mul_le_mul f5 f7, Nat.mul_le_mul f6 f8, ?_⟩
  unfold wo
  rw [g4, g5, nI_i64 (by omega), nI_i64 (by omega), ← Int64.ofNat_mul]
theorem wo_int {s : Nat → Int32} {q : Nat → Nat} {b : Nat} (hV : IVb s q) (hb : b < 60) (h : s (192 + 12 * b) = 1) : 1 ≤ (wo s b).toInt ∧ (wo s b).toInt ≤ 989901 := by
  obtain ⟨z, h1, h2, h3⟩ := wo_bd hV hb h
  rw [h3, Int64.toInt_ofNat_of_lt (by omega)]; omega
/-- what a man has to pay for an account, less what he gets -/
def gCl (s : Nat → Int32) (m : Nat) (ac : Int32) (b : Nat) (x : Int64) : Int64 := if stF s b ac then (x + (if s (192 + 12 * b + 2) = nI m then wo s b else 0)) - (if s (192 + 12 * b + 1) = nI m then wo s b else 0) else x
theorem cl_bd {s : Nat → Int32} {q : Nat → Nat} (hV : IVb s q) (m : Nat) (ac : Int32) : ∀ i : Nat, i ≤ 60 → -989901 * (i : Int) ≤ (fo (gCl s m ac) 0 i).toInt ∧ (fo (gCl s m ac) 0 i).toInt ≤ 989901 * (i : Int)
  | 0, _ => by show -989901 * ((0 : Nat) : Int) ≤ (0 : Int64).toInt ∧ (0 : Int64).toInt ≤ 989901 * ((0 : Nat) : Int); decide
  | i + 1, h => by
    have ih := cl_bd hV m ac i (by omega)
    show -989901 * ((i + 1 : Nat) : Int) ≤ (gCl s m ac i (fo (gCl s m ac) 0 i)).toInt ∧ (gCl s m ac i (fo (gCl s m ac) 0 i)).toInt ≤ 989901 * ((i + 1 : Nat) : Int)
    generalize fo (gCl s m ac) 0 i = x at ih ⊢
    unfold gCl
    by_cases g : stF s i ac
    · rw [if_pos g]
      have hw := wo_int hV (by omega) g.1
      generalize wo s i = w at hw
      have h0 : (0 : Int64).toInt = 0 := by decide
      have a1 : 0 ≤ (if s (192 + 12 * i + 2) = nI m then w else 0).toInt ∧ (if s (192 + 12 * i + 2) = nI m then w else 0).toInt ≤ 989901 := by split <;> omega
      have a2 : 0 ≤ (if s (192 + 12 * i + 1) = nI m then w else 0).toInt ∧ (if s (192 + 12 * i + 1) = nI m then w else 0).toInt ≤ 989901 := by split <;> omega
      generalize (if s (192 + 12 * i + 2) = nI m then w else 0) = u at a1 ⊢
      generalize (if s (192 + 12 * i + 1) = nI m then w else 0) = v at a2 ⊢
      have e1 : (x + u).toInt = x.toInt + u.toInt := by rw [Int64.toInt_add, Int.bmod_eq_of_le (by omega) (by omega)]
      rw [Int64.toInt_sub, e1, Int.bmod_eq_of_le (by omega) (by omega)]
      omega
    · rw [if_neg g]; omega
/-- how many can't -/
def gFl (c : Nat → Int64) (S : Nat → Int64) (m : Nat) (x : Int32) : Int32 := if S m ≤ c m then x else x + 1
theorem F7_cl {I : xTI} {L : xTL} {s : Nat → Int32} {c : Nat → Int64} {q : Nat → Nat} {n : Nat} (hB : BR I L s c q) (hV : IV s c q n) (hn : n ≤ 512) (ac : Int32) : ∃ L2, F_X7_failingByClearing xN I L ac = some (fo (gFl c (fun m => fo (gCl s m ac) 0 60)) 0 (q 1), L2) ∧ ∀ j, j ≠ 54 → L2 j = L j := by
  have c5 : q 1 ≤ 12 := hV.1.2.2.1
  unfold F_X7_failingByClearing
  rw [xcp_12]
  suffices hinv : ∃ r, xlp (F_X7_failingByClearing_b20 xN I ac) xN (0, cp L 4 54 12) = r ∧ ∃ L2, r = some (fo (gFl c (fun m => fo (gCl s m ac) 0 60)) 0 (q 1), L2) ∧ ∀ j, j ≠ 54 → L2 j = L j by
    obtain ⟨r, h1, L2, h2, h3⟩ := hinv
    exact ⟨L2, by rw [h1, h2], h3⟩
  refine xlp_inv (b := F_X7_failingByClearing_b20 xN I ac) (fun i (x : Int32 × xTL) => x.1 = nI i ∧ (∀ j, j ≠ 54 → x.2 j = L j) ∧ ∀ m, m < 12 → x.2 54 m = c m - fo (gCl s m ac) 0 i) 60 (fun r => ∃ L2, r = some (fo (gFl c (fun m => fo (gCl s m ac) 0 60)) 0 (q 1), L2) ∧ ∀ j, j ≠ 54 → L2 j = L j) ?_ ?_ xN (by decide) (0, cp L 4 54 12) ⟨rfl, fun j hj => ?_, fun m hm => ?_⟩
  · rintro i hi ⟨x, M⟩ ⟨e1, e2, e3⟩
    have e1 : x = nI i := e1
    subst e1
    have e2 : ∀ j, j ≠ 54 → M j = L j := e2
    have e3 : ∀ m, m < 12 → M 54 m = c m - fo (gCl s m ac) 0 i := e3
    by_cases g : stF s i ac
    · obtain ⟨sl, by_, st, sh, pr, dy, aa, g1, g2, g3, g4, g5, g6, g7, f1, f2, f3, -⟩ := bg_all hV.2.2.1 hi g.1
      have hbb := hB.2.2.2.1
      have a0 : F_X0_at I (nI i) 0 = some (nI sl) := by unfold F_X0_at; rw [at12_0 hi, bcell2 hbb hi g.1 (by decide)]; exact congrArg some g1
      have a1 : F_X0_at I (nI i) 1 = some (nI by_) := by unfold F_X0_at; rw [at12_1 hi, bcell2 hbb hi g.1 (by decide)]; exact congrArg some g2
      refine ⟨(nI (i + 1), xup (xup M 54 by_ (M 54 by_ - wo s i)) 54 sl (xup M 54 by_ (M 54 by_ - wo s i) 54 sl + wo s i)), fun K => ?_, rfl, fun j hj => ?_, fun m hm => ?_⟩
      · show F_X7_failingByClearing_c20 xN I ac (nI i) M K = _
        unfold F_X7_failingByClearing_c20
        rw [if_neg (n60 hi), F10_sf hbb hi, if_pos g, Option.bind_some, if_neg (by decide), a1, Option.bind_some, xal_n (by omega) (by decide), F7_wo hbb hi g.1, Option.bind_some, xas_n (by omega) (by decide), a0, Option.bind_some, xal_n (by omega) (by decide), Option.bind_some, xas_n (by omega) (by decide), xbn_e, nI_1]
      · show xup (xup M 54 by_ (M 54 by_ - wo s i)) 54 sl (xup M 54 by_ (M 54 by_ - wo s i) 54 sl + wo s i) j = _
        rw [xup_ne hj, xup_ne hj]; exact e2 j hj
      · show xup (xup M 54 by_ (M 54 by_ - wo s i)) 54 sl (xup M 54 by_ (M 54 by_ - wo s i) 54 sl + wo s i) 54 m = c m - gCl s m ac i (fo (gCl s m ac) 0 i)
        have e3m := e3 m hm
        generalize fo (gCl s m ac) 0 i = x at e3m ⊢
        unfold gCl
        rw [if_pos g, g1, g2, xup_at]
        by_cases em : m = sl
        · subst em
          rw [if_pos rfl, xup_nj f3, e3m, if_neg (fun e => f3 ((nI_eq (by omega) (by omega)).mp e).symm), if_pos rfl, Int64.add_zero]
          rw [i64_sa]
        · rw [if_neg em, xup_at]
          by_cases em2 : m = by_
          · subst em2
            rw [if_pos rfl, e3m, if_pos rfl, if_neg (fun e => em ((nI_eq (by omega) (by omega)).mp e).symm), Int64.sub_zero]
            rw [i64_ss]
          · rw [if_neg em2, e3m, if_neg (fun e => em2 ((nI_eq (by omega) (by omega)).mp e).symm), if_neg (fun e => em ((nI_eq (by omega) (by omega)).mp e).symm), Int64.sub_zero, Int64.add_zero]
    · refine ⟨(nI (i + 1), M), fun K => ?_, rfl, e2, fun m hm => ?_⟩
      · show F_X7_failingByClearing_c20 xN I ac (nI i) M K = _
        unfold F_X7_failingByClearing_c20
        rw [if_neg (n60 hi), F10_sf hB.2.2.2.1 hi, if_neg g, Option.bind_some, if_pos rfl, xbn_e, nI_1]
      · show M 54 m = c m - gCl s m ac i (fo (gCl s m ac) 0 i)
        unfold gCl
        rw [if_neg g]
        exact e3 m hm
  · rintro ⟨x, M⟩ ⟨e1, e2, e3⟩
    have e1 : x = nI 60 := e1
    subst e1
    have e2 : ∀ j, j ≠ 54 → M j = L j := e2
    have e3 : ∀ m, m < 12 → M 54 m = c m - fo (gCl s m ac) 0 60 := e3
    refine ⟨some (fo (gFl c (fun m => fo (gCl s m ac) 0 60)) 0 (q 1), M), fun K => ?_, M, rfl, e2⟩
    show F_X7_failingByClearing_c20 xN I ac (nI 60) M K = _
    unfold F_X7_failingByClearing_c20
    rw [if_pos (by decide)]
    refine xlp_fo (gFl c (fun m => fo (gCl s m ac) 0 60)) 0 (q 1) (fun x => some (x, M)) (fun i hi x K => ?_) (fun x K => ?_) xN (by show q 1 < 100000; omega)
    · show F_X7_failingByClearing_c99 xN I M x (nI i) K = _
      unfold F_X7_failingByClearing_c99
      rw [xbn_e, hB.1.2.1, if_neg (nI_ge hi (by omega)), xal_n (by omega) (by decide), e3 i (by omega)]
      have hc := hV.2.2.2.2.1.1 i (by omega)
      have hs := cl_bd hV.2.2.1 i ac 60 (Nat.le_refl _)
      have hn' : (10 ^ 14 * (n : Int)) ≤ 10 ^ 14 * 512 := by omega
      have hsub : (c i - fo (gCl s i ac) 0 60).toInt = (c i).toInt - (fo (gCl s i ac) 0 60).toInt := by
        rw [Int64.toInt_sub, Int.bmod_eq_of_le (by omega) (by omega)]
      have hiff : 0 ≤ lg_cmp (c i - fo (gCl s i ac) 0 60) 0 ↔ fo (gCl s i ac) 0 60 ≤ c i := by
        rw [lg_cmp_ge, Int64.le_iff_toInt_le, Int64.le_iff_toInt_le, hsub, show (0 : Int64).toInt = 0 by decide]
        omega
      unfold gFl
      by_cases gg : fo (gCl s i ac) 0 60 ≤ c i
      · rw [if_pos (hiff.mpr gg), if_pos gg, xbn_e, nI_1]
      · rw [if_neg (fun e => gg (hiff.mp e)), if_neg gg, xbn_e, xbn_e, nI_1]
    · show F_X7_failingByClearing_c99 xN I M x (nI (q 1)) K = _
      unfold F_X7_failingByClearing_c99
      rw [xbn_e, hB.1.2.1, if_pos (nI_le (Nat.le_refl _) (by omega))]
  · show cp L 4 54 12 j = _
    funext i
    unfold cp
    rw [if_neg hj]
  · show cp L 4 54 12 54 m = _
    unfold cp
    rw [if_pos rfl, if_pos hm, (hB.2.2.1.1 m hm).1]
    show _ = c m - 0
    rw [Int64.sub_zero]
theorem F11_cl {J : xTI} {M : xTL} {q : Nat → Nat} (hV : IVb (J 58) q) (h1 : J 58 1 = nI (q 1)) (hq : q 1 ≤ 12) {ac : Int32} (h0 : 0 ≤ ac) : F_X11_clearing xN J M ac = some (fo (gFl (M 59) (fun m => fo (gCl (J 58) m ac) 0 60)) 0 (q 1), J) := by
  unfold F_X11_clearing
  rw [if_pos h0]
  refine xlp_fo (gFl (M 59) (fun m => fo (gCl (J 58) m ac) 0 60)) 0 (q 1) (fun x => some (x, J)) (fun i hi x K => ?_) (fun x K => ?_) xN (by show q 1 < 100000; omega)
  · show F_X11_clearing_c15 xN J M ac x (nI i) K = _
    unfold F_X11_clearing_c15
    rw [show xal (R := Int32 × xTI) J 58 40670 1 = xal (R := Int32 × xTI) J 58 40670 (nI 1) from rfl, xal_n (by decide) (by decide), h1, if_neg (nI_ge hi (by omega))]
    refine (xlp_fo (gCl (J 58) i ac) 0 60 (fun y => K ((if y ≤ M 59 i then x else x + 1), nI (i + 1))) (fun b hb y KK => ?_) (fun y KK => ?_) xN (by decide)).trans rfl
    · show F_X11_clearing_c31 K xN J M ac x (nI i) y (nI b) KK = _
      unfold F_X11_clearing_c31 F_X11_clearing_j100 F_X11_clearing_j122 gCl
      rw [if_neg (n60 hb), F11_stn hb, Option.bind_some]
      by_cases g : J 58 (192 + 12 * b) = 1 ∧ J 58 (192 + 12 * b + 8) = 1
      · rw [if_pos g, if_neg (by decide), bg11_7 hb, Option.bind_some]
        by_cases g7 : J 58 (192 + 12 * b + 7) = ac
        · rw [if_pos g7, bg11_4 hb, Option.bind_some, bg11_5 hb, Option.bind_some, xbn_e, bg11_2 hb, Option.bind_some, if_pos (show stF (J 58) b ac from ⟨g.1, g.2, g7⟩), bg11_1 hb]
          simp only [xbn_e, Option.bind_some, nI_1]
          unfold wo
          by_cases e2 : J 58 (192 + 12 * b + 2) = nI i <;> by_cases e1 : J 58 (192 + 12 * b + 1) = nI i <;> simp only [e1, e2, if_true, if_false]
        · rw [if_neg g7, if_neg (fun e => g7 e.2.2), xbn_e, nI_1]
      · rw [if_neg g, if_pos rfl, if_neg (fun e => g ⟨e.1, e.2.1⟩), xbn_e, nI_1]
    · show F_X11_clearing_c31 K xN J M ac x (nI i) y (nI 60) KK = _
      unfold F_X11_clearing_c31 F_X11_clearing_j151
      rw [if_pos (by decide), show (0 : Int32) + nI i = nI i from Int32.zero_add _, xal_n (by omega) (by decide)]
      by_cases g : y ≤ M 59 i
      · rw [if_pos ((lg_cmp_ge _ _).mpr g), if_pos g, xbn_e, xbn_e, nI_1, Int32.add_zero]
      · rw [if_neg (fun e => g ((lg_cmp_ge _ _).mp e)), if_neg g, xbn_e, xbn_e, nI_1]
  · show F_X11_clearing_c15 xN J M ac x (nI (q 1)) K = _
    unfold F_X11_clearing_c15
    rw [show xal (R := Int32 × xTI) J 58 40670 1 = xal (R := Int32 × xTI) J 58 40670 (nI 1) from rfl, xal_n (by decide) (by decide), h1, if_pos (nI_le (Nat.le_refl _) (by omega))]
theorem pr_clearing : xs_clearing xRel := by
  intro kp n I L a1 hn h
  obtain ⟨⟨q, hB, hV⟩, -⟩ := id h
  obtain ⟨c1, c2, c3, c4, c5, c6, c7, c8, c9⟩ := cnt hB hV
  by_cases g : 0 ≤ a1
  · obtain ⟨L2, e1, e2⟩ := F7_cl hB hV (by omega) a1
    have r := F11_cl (J := I) (M := L2) (q := q) hV.2.2.1 c3 c5 g
    rw [e2 59 (by decide)] at r
    refine ⟨_, I, L2, I, ?_, r, calm_47 h (fun _ _ _ => rfl) (fun j z1 z2 => e2 j (by omega))⟩
    unfold F_X10_clearing
    rw [if_pos g, e1]
    rfl
  · obtain ⟨I1, I2, r1, r2, r3, r4⟩ := ref2k h (-7) 7 (by decide) (by decide)
    refine ⟨-7, I1, L, I2, ?_, ?_, r3⟩
    · unfold F_X10_clearing
      rw [if_neg g, r1]; rfl
    · unfold F_X11_clearing
      rw [if_neg g, r2]; rfl
