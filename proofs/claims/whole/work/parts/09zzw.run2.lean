section
/-! run: ints and coins apart; dividends -/
def BRi (I : xTI) (s : Nat → Int32) (q : Nat → Nat) : Prop := BRn I q ∧ BRm I s q ∧ BRb I s ∧ BRo I s q ∧ BRr I s q
def IVi (s : Nat → Int32) (q : Nat → Nat) (n : Nat) : Prop := IVn s q ∧ IVm s q n ∧ IVb s q ∧ IVo s q ∧ IVd s q ∧ IVr s q
/-- the coins between: at most C, what is EXTRA comes to E at most -/
def CE (c : Nat → Int64) (s : Nat → Int32) (q : Nat → Nat) (C E : Nat) : Prop := (∀ m, m < 12 → 0 ≤ (c m).toInt ∧ (c m).toInt ≤ C ∧ (q 1 ≤ m → c m = 0)) ∧ (∀ a b, a < 12 → b < 12 → 0 ≤ (c (24 + (12 * a + b))).toInt ∧ (a = b ∨ q 1 ≤ a ∨ q 1 ≤ b ∨ ¬ isUpP s a ∨ ¬ isUpP s b → c (24 + (12 * a + b)) = 0)) ∧ (∀ m, q 1 ≤ m → m < 12 → ∀ t, t < 4 → c (168 + 4 * m + t) = 0) ∧ exS c 144 ≤ E
def Hb (s : Nat → Int32) (H : Nat) : Prop := ∀ j, j < 60 → isN (s (64 + j)) H
theorem BRc_ex (s : Nat → Int32) (c : Nat → Int64) : ∃ L, BRc L s c := by
  refine ⟨fun k j => if k = 4 then c j else if k = 5 then c (12 + j) else if k = 6 then c (24 + j) else if j % 5 = 4 then (s (16 + 4 * (j / 5) + 3)).toInt64 else c (168 + 4 * (j / 5) + j % 5), fun m hm => ⟨rfl, rfl⟩, fun j hj => rfl, fun m hm => ⟨fun t ht => ?_, ?_⟩⟩
  · show (if (5 * m + t) % 5 = 4 then _ else c (168 + 4 * ((5 * m + t) / 5) + (5 * m + t) % 5)) = _
    rw [if_neg (by omega), show (5 * m + t) / 5 = m by omega, show (5 * m + t) % 5 = t by omega]
  · show (if (5 * m + 4) % 5 = 4 then (s (16 + 4 * ((5 * m + 4) / 5) + 3)).toInt64 else _) = _
    rw [if_pos (by omega), show (5 * m + 4) / 5 = m by omega]
theorem IVc_0 (s : Nat → Int32) (q : Nat → Nat) (n : Nat) : IVc (fun _ => 0) s q n := by
  refine ⟨fun m hm => ⟨show 0 ≤ (0 : Int64).toInt by decide, ?_, fun _ => rfl⟩, fun a b ha hb => ⟨show 0 ≤ (0 : Int64).toInt by decide, ?_, fun _ => rfl⟩, fun _ _ _ _ _ => rfl, ?_⟩
  · show (0 : Int64).toInt ≤ _; rw [show (0 : Int64).toInt = 0 by decide]; omega
  · show (0 : Int64).toInt ≤ _; rw [show (0 : Int64).toInt = 0 by decide]; omega
  · rw [exS_zero 144 (fun j _ => rfl)]; omega
theorem tells_i {I : xTI} {s : Nat → Int32} {q : Nat → Nat} {n : Nat} (hB : BRi I s q) (hV : IVi s q n) {key : Nat} (hkey : key < 6) {kk : Nat} (hk : kk < 5) (bo : Option Nat) (hbo : ∀ bb, bo = some bb → bb < 60 ∧ s (192 + 12 * bb) = 1 ∧ s (192 + 12 * bb + 3) = nI kk) : ∃ v I1, F_X5_tells xN I (nI key) (nI kk) (bI bo) = some (v, I1) ∧ (∀ k, k ≠ 18 → k ≠ 19 → I1 k = I k) ∧ ∀ (J : xTI) (M : xTL), J 58 = s → ∃ J2 M2, F_X11_ruled xN J M (nI key) (whoI kk bo) (xwo key) = some (v, J2, M2) ∧ FrU J J2 ∧ FrL M M2 := by
  obtain ⟨L, hL⟩ := BRc_ex s (fun _ => 0)
  exact tells_eq (L := L) (c := fun _ => 0) ⟨hB.1, hB.2.1, hL, hB.2.2.1, hB.2.2.2.1, hB.2.2.2.2⟩ ⟨hV.1, hV.2.1, hV.2.2.1, hV.2.2.2.1, IVc_0 _ _ _, hV.2.2.2.2.1, hV.2.2.2.2.2⟩ hkey hk bo hbo
theorem BRi.tl {I I2 : xTI} {s : Nat → Int32} {q : Nat → Nat} (hB : BRi I s q) (h : ∀ k, k ≠ 18 → k ≠ 19 → I2 k = I k) : BRi I2 s q := by
  obtain ⟨h1, h2, h4, h5, h6⟩ := hB
  unfold BRi BRn BRm BRb BRo BRr
  rw [h 1 (by decide) (by decide), h 3 (by decide) (by decide), h 20 (by decide) (by decide), h 15 (by decide) (by decide), h 22 (by decide) (by decide), h 24 (by decide) (by decide), h 26 (by decide) (by decide), h 7 (by decide) (by decide), h 8 (by decide) (by decide), h 9 (by decide) (by decide), h 10 (by decide) (by decide), h 2 (by decide) (by decide), h 13 (by decide) (by decide), h 21 (by decide) (by decide), h 23 (by decide) (by decide), h 25 (by decide) (by decide), h 27 (by decide) (by decide), h 16 (by decide) (by decide), h 17 (by decide) (by decide)]
  exact ⟨h1, h2, h4, h5, h6⟩
theorem exS_up {c c2 : Nat → Int64} {j : Nat} : ∀ n, (∀ i, i < n → i ≠ j → c2 (24 + i) = c (24 + i)) → exS c2 n = exS c n + (if j < n then (c2 (24 + j)).toInt - (c (24 + j)).toInt else 0)
  | 0, _ => rfl
  | n + 1, h => by
    rw [exS, exS, exS_up n (fun i hi => h i (Nat.lt_succ_of_lt hi))]
    by_cases e : n = j
    · subst e; rw [if_neg (by omega), if_pos (by omega)]; omega
    · rw [h n (Nat.lt_succ_self n) e]
      by_cases e2 : j < n
      · rw [if_pos e2, if_pos (by omega)]; omega
      · rw [if_neg e2, if_neg (by omega)]; omega
theorem exS_nn {c : Nat → Int64} : ∀ n, (∀ i, i < n → 0 ≤ (c (24 + i)).toInt) → 0 ≤ exS c n
  | 0, _ => Int.le_refl _
  | n + 1, h => by
    rw [exS]; have := exS_nn n (fun i hi => h i (Nat.lt_succ_of_lt hi)); have := h n (Nat.lt_succ_self n); omega
theorem exS_le {c : Nat → Int64} {j : Nat} : ∀ n, (∀ i, i < n → 0 ≤ (c (24 + i)).toInt) → j < n → (c (24 + j)).toInt ≤ exS c n
  | 0, _, h => absurd h (Nat.not_lt_zero _)
  | n + 1, h, hj => by
    rw [exS]
    have h0 := exS_nn n (fun i hi => h i (Nat.lt_succ_of_lt hi))
    by_cases e : j = n
    · subst e; omega
    · have := exS_le n (fun i hi => h i (Nat.lt_succ_of_lt hi)) (by omega : j < n)
      have := h n (Nat.lt_succ_self n); omega
theorem CE.nn {c : Nat → Int64} {s : Nat → Int32} {q : Nat → Nat} {C E : Nat} (h : CE c s q C E) : ∀ i, i < 144 → 0 ≤ (c (24 + i)).toInt := fun i hi => by
  have := (h.2.1 (i / 12) (i % 12) (by omega) (by omega)).1
  rw [show 12 * (i / 12) + i % 12 = i by omega] at this
  exact this
theorem i32mul {a b : Nat} (ha : a < 2 ^ 31) (hb : b < 2 ^ 31) : ((nI a).toInt64 * (nI b).toInt64).toInt = a * b := by
  have h1 : ((nI a).toInt64).toInt = a := by rw [Int32.toInt_toInt64, nI_toInt ha]
  have h2 : ((nI b).toInt64).toInt = b := by rw [Int32.toInt_toInt64, nI_toInt hb]
  have hm : a * b < 2 ^ 31 * 2 ^ 31 := Nat.mul_lt_mul'' ha hb
  rw [Int64.toInt_mul, h1, h2, Int.bmod_eq_of_le]
  · have : (0 : Int) ≤ (a : Int) * b := Int.mul_nonneg (by omega) (by omega)
    omega
  · have : ((a * b : Nat) : Int) = (a : Int) * b := Int.natCast_mul a b
    omega
theorem i64add {x y : Int64} {z w : Int} (hx : x.toInt = z) (hy : y.toInt = w) (h1 : -(2 ^ 63) ≤ z + w) (h2 : z + w < 2 ^ 63) : (x + y).toInt = z + w := by
  rw [Int64.toInt_add, hx, hy, Int.bmod_eq_of_le (by omega) (by omega)]
theorem xal_i {α R : Type} {I : Nat → Nat → α} {k n i : Nat} {x : Int32} {K : α → Option R} (e : x = nI i) (h : i < n) (hn : n < 2 ^ 31) : xal I k n x K = K (I k i) := by rw [e]; exact xal_n h hn
theorem xas_i {α R : Type} {I : Nat → Nat → α} {k n i : Nat} {x : Int32} {v : α} {K : (Nat → Nat → α) → Option R} (e : x = nI i) (h : i < n) (hn : n < 2 ^ 31) : xas I k n x v K = K (xup I k i v) := by rw [e]; exact xas_n h hn
theorem s58_0 {R : Type} {I : xTI} {K : Int32 → Option R} : xal I 58 40670 0 K = K (I 58 0) := xal_n (i := 0) (by decide) (by decide)
theorem s58_1 {R : Type} {I : xTI} {K : Int32 → Option R} : xal I 58 40670 1 K = K (I 58 1) := xal_n (i := 1) (by decide) (by decide)
theorem s58_2 {R : Type} {I : xTI} {K : Int32 → Option R} : xal I 58 40670 2 K = K (I 58 2) := xal_n (i := 2) (by decide) (by decide)
theorem s58_3 {R : Type} {I : xTI} {K : Int32 → Option R} : xal I 58 40670 3 K = K (I 58 3) := xal_n (i := 3) (by decide) (by decide)
theorem s58_4 {R : Type} {I : xTI} {K : Int32 → Option R} : xal I 58 40670 4 K = K (I 58 4) := xal_n (i := 4) (by decide) (by decide)
theorem s58_5 {R : Type} {I : xTI} {K : Int32 → Option R} : xal I 58 40670 5 K = K (I 58 5) := xal_n (i := 5) (by decide) (by decide)
theorem s58_6 {R : Type} {I : xTI} {K : Int32 → Option R} : xal I 58 40670 6 K = K (I 58 6) := xal_n (i := 6) (by decide) (by decide)
theorem s58_7 {R : Type} {I : xTI} {K : Int32 → Option R} : xal I 58 40670 7 K = K (I 58 7) := xal_n (i := 7) (by decide) (by decide)
theorem s58_8 {R : Type} {I : xTI} {K : Int32 → Option R} : xal I 58 40670 8 K = K (I 58 8) := xal_n (i := 8) (by decide) (by decide)
theorem s58_9 {R : Type} {I : xTI} {K : Int32 → Option R} : xal I 58 40670 9 K = K (I 58 9) := xal_n (i := 9) (by decide) (by decide)
/-- those who hold are paid -/
theorem holders_sim {I : xTI} {L : xTL} {J : xTI} {M : xTL} {q : Nat → Nat} {n H C E k p : Nat} (hI : BRi I (J 58) q) (hV : IVi (J 58) q n) (hH : Hb (J 58) H) (hc : BRc L (J 58) (M 59)) (hC : CE (M 59) (J 58) q C E) (hk : k < 5) (hp : p ≤ 999) (hbd : C + 999 * H < 2 ^ 60) (hH2 : H < 2 ^ 31) : ∃ L2 M2, F_X2_payHolders xN I L (nI k) (nI p) = some L2 ∧ F_X11_paysOut xN J M (nI k) (nI p) = xlp (F_X11_paysOut_b56 xN (nI k) (nI p)) xN (0, J, M2) ∧ BRc L2 (J 58) (M2 59) ∧ CE (M2 59) (J 58) q (C + 999 * H) E ∧ (∀ k, 55 ≤ k → L2 k = L k) ∧ (∀ k, k ≠ 59 → M2 k = M k) := by
  have c9 := hV.1.2.1
  have c5 : q 1 ≤ 12 := hV.1.2.2.1
  unfold F_X2_payHolders F_X11_paysOut
  refine xlp_sim (P := fun i x y => x.1 = nI i ∧ y.1 = nI i ∧ BRc x.2 (J 58) (y.2 59) ∧ (∀ m, m < 12 → 0 ≤ (y.2 59 m).toInt ∧ (y.2 59 m).toInt ≤ ((if m < i then C + 999 * H else C : Nat) : Int) ∧ (q 1 ≤ m → y.2 59 m = 0)) ∧ (∀ j, 12 ≤ j → y.2 59 j = M 59 j) ∧ (∀ k, 55 ≤ k → x.2 k = L k) ∧ (∀ k, k ≠ 59 → y.2 k = M k)) (q 1) (fun r1 r2 => ∃ L2 M2, r1 = some L2 ∧ r2 = xlp (F_X11_paysOut_b56 xN (nI k) (nI p)) xN (0, J, M2) ∧ BRc L2 (J 58) (M2 59) ∧ CE (M2 59) (J 58) q (C + 999 * H) E ∧ (∀ k, 55 ≤ k → L2 k = L k) ∧ (∀ k, k ≠ 59 → M2 k = M k)) ?_ ?_ xN xN (by show q 1 < 100000; omega) (by show q 1 < 100000; omega) (0, L) (0, M) ⟨rfl, rfl, hc, fun m hm => ⟨(hC.1 m hm).1, by rw [if_neg (Nat.not_lt_zero _)]; exact (hC.1 m hm).2.1, (hC.1 m hm).2.2⟩, fun _ _ => rfl, fun _ _ => rfl, fun _ _ => rfl⟩
  · rintro m hm ⟨x, L'⟩ ⟨y, M'⟩ ⟨e1, e2, h1, h2, h3, h4, h5⟩
    dsimp only at e1 e2 h1 h2 h3 h4 h5
    subst e1 e2
    have hm12 : m < 12 := by omega
    obtain ⟨hv, hv2, hve⟩ := hH (5 * m + k) (by omega)
    have h9 : I 9 (m * 5 + k) = nI hv := by rw [show m * 5 + k = 5 * m + k by omega, (hI.2.1.2.1 (5 * m + k) (by omega)).1]; exact hve
    have e58 : J 58 (64 + 5 * m + k) = nI hv := by rw [show 64 + 5 * m + k = 64 + (5 * m + k) by omega]; exact hve
    have ml := i32mul (a := hv) (b := p) (by omega) (by omega)
    have mb : hv * p ≤ H * 999 := Nat.mul_le_mul hv2 hp
    by_cases up : J 58 (16 + 4 * m) = 1
    · obtain ⟨z1, z2, z3⟩ := h2 m hm12
      rw [if_neg (Nat.lt_irrefl _)] at z2
      have hadd := i64add (x := M' 59 m) (y := (nI hv).toInt64 * (nI p).toInt64) rfl ml (by omega) (by omega)
      refine ⟨(nI (m + 1), xup L' 4 m (L' 4 m + (nI hv).toInt64 * (nI p).toInt64)), (nI (m + 1), xup M' 59 m (M' 59 m + (nI hv).toInt64 * (nI p).toInt64)), fun K => ?_, fun K => ?_, rfl, rfl, ?_, ?_, ?_, ?_, ?_⟩
      · show F_X2_payHolders_c3 xN I (nI k) (nI p) (nI m) L' K = _
        unfold F_X2_payHolders_c3 F_X3_place
        rw [xbn_e, hI.1.2.1, if_neg (nI_ge hm (by omega)), F10_up2 hI.2.1 hV.2.1 c9 c5 hm, if_pos up]
        simp only [Option.bind_some]
        rw [if_neg (by decide), xal_n hm12 (by decide), xal_i (i := m * 5 + k) (by rw [show (5 : Int32) = nI 5 from rfl, nI_mul, nI_add]) (by omega) (by decide), h9, xas_n hm12 (by decide), xbn_e, nI_1]
      · show F_X11_paysOut_c2 xN J (nI k) (nI p) (nI m) M' K = _
        unfold F_X11_paysOut_c2
        rw [s58_1, hV.1.1 1 (by decide), if_neg (nI_ge hm (by omega)), F11_up hm12, if_pos up]
        simp only [Option.bind_some]
        rw [if_neg (by decide), xal_i (i := m) (by rw [show (0 : Int32) = nI 0 from rfl, nI_add, Nat.zero_add]) (by omega) (by decide), xal_i (i := 64 + 5 * m + k) (by rw [show (64 : Int32) = nI 64 from rfl, show (5 : Int32) = nI 5 from rfl, ixc]) (by omega) (by decide), e58, xas_i (i := m) (by rw [show (0 : Int32) = nI 0 from rfl, nI_add, Nat.zero_add]) (by omega) (by decide), xbn_e, nI_1]
      · refine ⟨fun m' hm' => ?_, fun j hj => ?_, fun m' hm' => ⟨fun t ht => ?_, ?_⟩⟩
        · dsimp only
          rw [xup_at, xup_at, xup_ne (by decide), xup_at, if_neg (show ¬ 12 + m' = m by omega)]
          refine ⟨?_, (h1.1 m' hm').2⟩
          by_cases e : m' = m
          · rw [if_pos e, if_pos e, (h1.1 m hm12).1]
          · rw [if_neg e, if_neg e, (h1.1 m' hm').1]
        · dsimp only
          rw [xup_ne (by decide), xup_at, if_neg (by omega)]; exact h1.2.1 j hj
        · dsimp only
          rw [xup_ne (by decide), xup_at, if_neg (by omega)]; exact (h1.2.2 m' hm').1 t ht
        · dsimp only
          rw [xup_ne (by decide)]; exact (h1.2.2 m' hm').2
      · intro m' hm'
        dsimp only
        rw [xup_at]
        by_cases e : m' = m
        · subst e
          rw [if_pos rfl, if_pos (Nat.lt_succ_self _), hadd]
          have : ((hv * p : Nat) : Int) = (hv : Int) * p := Int.natCast_mul hv p
          exact ⟨by omega, by omega, fun h => absurd h (by omega)⟩
        · rw [if_neg e]
          obtain ⟨y1, y2, y3⟩ := h2 m' hm'
          refine ⟨y1, ?_, y3⟩
          by_cases e2 : m' < m
          · rw [if_pos e2] at y2; rw [if_pos (by omega)]; exact y2
          · rw [if_neg e2] at y2; rw [if_neg (by omega)]; exact y2
      · intro j hj
        dsimp only
        rw [xup_at, if_neg (by omega)]; exact h3 j hj
      · intro k hk
        dsimp only
        rw [xup_ne (by omega)]; exact h4 k hk
      · intro k hk
        dsimp only
        rw [xup_ne hk]; exact h5 k hk
    · refine ⟨(nI (m + 1), L'), (nI (m + 1), M'), fun K => ?_, fun K => ?_, rfl, rfl, h1, ?_, h3, h4, h5⟩
      · show F_X2_payHolders_c3 xN I (nI k) (nI p) (nI m) L' K = _
        unfold F_X2_payHolders_c3 F_X3_place
        rw [xbn_e, hI.1.2.1, if_neg (nI_ge hm (by omega)), F10_up2 hI.2.1 hV.2.1 c9 c5 hm, if_neg up]
        simp only [Option.bind_some]
        rw [if_pos trivial, xbn_e, nI_1]
      · show F_X11_paysOut_c2 xN J (nI k) (nI p) (nI m) M' K = _
        unfold F_X11_paysOut_c2
        rw [s58_1, hV.1.1 1 (by decide), if_neg (nI_ge hm (by omega)), F11_up hm12, if_neg up]
        simp only [Option.bind_some]
        rw [if_pos trivial, xbn_e, nI_1]
      · intro m' hm'
        obtain ⟨y1, y2, y3⟩ := h2 m' hm'
        refine ⟨y1, ?_, y3⟩
        dsimp only
        by_cases e2 : m' < m
        · rw [if_pos e2] at y2; rw [if_pos (by omega)]; exact y2
        · rw [if_neg e2] at y2
          split
          · omega
          · exact y2
  · rintro ⟨x, L'⟩ ⟨y, M'⟩ ⟨e1, e2, h1, h2, h3, h4, h5⟩
    dsimp only at e1 e2 h1 h2 h3 h4 h5
    subst e1 e2
    refine ⟨some L', xlp (F_X11_paysOut_b56 xN (nI k) (nI p)) xN (0, J, M'), fun K => ?_, fun K => ?_, L', M', rfl, rfl, h1, ⟨fun m hm => ?_, fun a b ha hb => ?_, fun m h6 h7 t ht => ?_, ?_⟩, h4, h5⟩
    · show F_X2_payHolders_c3 xN I (nI k) (nI p) (nI (q 1)) L' K = _
      unfold F_X2_payHolders_c3
      rw [xbn_e, hI.1.2.1, if_pos (nI_le (Nat.le_refl _) (by omega))]
    · show F_X11_paysOut_c2 xN J (nI k) (nI p) (nI (q 1)) M' K = _
      unfold F_X11_paysOut_c2
      rw [s58_1, hV.1.1 1 (by decide), if_pos (nI_le (Nat.le_refl _) (by omega))]
    · obtain ⟨y1, y2, y3⟩ := h2 m hm
      refine ⟨y1, ?_, y3⟩
      split at y2 <;> omega
    · rw [h3 _ (by omega)]; exact hC.2.1 a b ha hb
    · rw [h3 _ (by omega)]; exact hC.2.2.1 m h6 h7 t ht
    · rw [exS_congr (c := M 59) 144 (fun j hj => h3 _ (by omega))]; exact hC.2.2.2
end
