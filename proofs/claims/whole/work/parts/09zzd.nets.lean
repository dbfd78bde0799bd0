/-! loops, by what holds on the way -/
theorem xlp_inv {S R : Type} {b : S → (S → Option R) → Option R} (P : Nat → S → Prop) (m : Nat) (Q : Option R → Prop) (hs : ∀ i, i < m → ∀ x, P i x → ∃ x', (∀ k, b x k = k x') ∧ P (i + 1) x') (he : ∀ x, P m x → ∃ r, (∀ k, b x k = r) ∧ Q r) : ∀ N, m < N → ∀ x, P 0 x → ∃ r, xlp b N x = r ∧ Q r := by
  have key : ∀ d i N, i + d = m → d < N → ∀ x, P i x → ∃ r, xlp b N x = r ∧ Q r := by
    intro d
    induction d with
    | zero =>
      intro i N hi hN x hx
      obtain ⟨N', rfl⟩ : ∃ N', N = N' + 1 := ⟨N - 1, by omega⟩
      have : i = m := by omega
      subst this
      obtain ⟨r, h1, h2⟩ := he x hx
      exact ⟨r, by rw [xlp_s, h1], h2⟩
    | succ d ih =>
      intro i N hi hN x hx
      obtain ⟨N', rfl⟩ : ∃ N', N = N' + 1 := ⟨N - 1, by omega⟩
      obtain ⟨x', h1, h2⟩ := hs i (by omega) x hx
      obtain ⟨r, h3, h4⟩ := ih (i + 1) N' (by omega) (by omega) x' h2
      exact ⟨r, by rw [xlp_s, h1, h3], h4⟩
  intro N hN x hx
  exact key m 0 N (by omega) hN x hx
/-- what a man's NET comes to -/
def NT (s : Nat → Int32) (m : Nat) (k ac : Int32) : Int32 := fo (gNt s (nI m) k ac) 0 60
theorem gn_bd {s : Nat → Int32} {q : Nat → Nat} {b : Nat} (hV : IVb s q) (hb : b < 60) (h : s (192 + 12 * b) = 1) (a : Int32) : -99 ≤ (gn s b a).toInt ∧ (gn s b a).toInt ≤ 99 := by
  rcases hV b hb with g | ⟨-, sl, by_, st, sh, pr, dy, ac, sta, g1, g2, g3, g4, g5, g6, g7, g8, f1, f2, f3, f4, f5, f6, -⟩
  · rw [h] at g; exact absurd g (by decide)
  · have e : (s (192 + 12 * b + 4)).toInt = sh := by rw [g4, nI_toInt (by omega)]
    unfold gn
    split
    · omega
    · split
      · rw [Int32.toInt_neg, e, Int.bmod_eq_of_le (by omega) (by omega)]; omega
      · decide
theorem nt_bd {s : Nat → Int32} {q : Nat → Nat} (hV : IVb s q) (a k ac : Int32) : ∀ i : Nat, i ≤ 60 → -99 * (i : Int) ≤ (fo (gNt s a k ac) 0 i).toInt ∧ (fo (gNt s a k ac) 0 i).toInt ≤ 99 * (i : Int)
  | 0, _ => by show -99 * ((0 : Nat) : Int) ≤ (0 : Int32).toInt ∧ (0 : Int32).toInt ≤ 99 * ((0 : Nat) : Int); decide
  | i + 1, h => by
    have ih := nt_bd hV a k ac i (by omega)
    show -99 * ((i + 1 : Nat) : Int) ≤ (gNt s a k ac i (fo (gNt s a k ac) 0 i)).toInt ∧ (gNt s a k ac i (fo (gNt s a k ac) 0 i)).toInt ≤ 99 * ((i + 1 : Nat) : Int)
    generalize fo (gNt s a k ac) 0 i = x at ih ⊢
    unfold gNt
    by_cases g : stn s i k ac
    · rw [if_pos g, Int32.toInt_add]
      have := gn_bd hV (by omega) g.1 a
      rw [Int.bmod_eq_of_le (by omega) (by omega)]
      omega
    · rw [if_neg g]; omega
theorem NT_bd {s : Nat → Int32} {q : Nat → Nat} (hV : IVb s q) (m : Nat) (k ac : Int32) : -5940 ≤ (NT s m k ac).toInt ∧ (NT s m k ac).toInt ≤ 5940 := by
  have := nt_bd hV (nI m) k ac 60 (Nat.le_refl _)
  unfold NT
  omega
theorem bg_all {s : Nat → Int32} {q : Nat → Nat} {b : Nat} (hV : IVb s q) (hb : b < 60) (h : s (192 + 12 * b) = 1) : ∃ sl by_ st sh pr dy ac : Nat, s (192 + 12 * b + 1) = nI sl ∧ s (192 + 12 * b + 2) = nI by_ ∧ s (192 + 12 * b + 3) = nI st ∧ s (192 + 12 * b + 4) = nI sh ∧ s (192 + 12 * b + 5) = nI pr ∧ s (192 + 12 * b + 6) = nI dy ∧ s (192 + 12 * b + 7) = nI ac ∧ sl < q 1 ∧ by_ < q 1 ∧ sl ≠ by_ ∧ st < q 2 ∧ 1 ≤ sh ∧ sh ≤ 99 ∧ 1 ≤ pr ∧ pr ≤ 9999 ∧ dy ≤ q 0 ∧ 14 * ac ≤ dy + 14 ∧ dy ≤ 14 * ac + 13 := by
  rcases hV b hb with g | ⟨-, sl, by_, st, sh, pr, dy, ac, sta, g1, g2, g3, g4, g5, g6, g7, g8, f1, f2, f3, f4, f5, f6, f7, f8, f9, f10, f11, -⟩
  · rw [h] at g; exact absurd g (by decide)
  · exact ⟨sl, by_, st, sh, pr, dy, ac, g1, g2, g3, g4, g5, g6, g7, f1, f2, f3, f4, f5, f6, f7, f8, f9, f10, f11⟩
theorem F10_st2 {I : xTI} {s : Nat → Int32} {b : Nat} (hB : BRb I s) (hb : b < 60) (k ac : Int32) : F_X0_standsIn I (nI b) k ac = some (if stn s b k ac then 1 else 0) := F10_st (I := mix I s) hB hb k ac
theorem bcell2 {I : xTI} {s : Nat → Int32} {b t : Nat} (hB : BRb I s) (hb : b < 60) (h : s (192 + 12 * b) = 1) (ht : t < 11) : I 13 (11 * b + t) = s (192 + 12 * b + (t + 1)) := bcell (I := mix I s) hB hb h ht
theorem fill47 (I : xTI) : F_J7_fill_53178_47 xN I 0 = some (wr I 47 0 (fun _ => 0) 12) := by
  unfold F_J7_fill_53178_47
  rw [show ((0 : Int32), I) = (fun i => (nI i, wr I 47 0 (fun _ => 0) i)) 0 from rfl]
  refine xlp_for (fun i => (nI i, wr I 47 0 (fun _ => 0) i)) 12 _ (fun i hi k => ?_) (fun k => ?_) xN (by decide)
  · show F_J7_fill_53178_47_c5 xN 0 12 (nI i) (wr I 47 0 (fun _ => 0) i) k = k (nI (i + 1), wr I 47 0 (fun _ => 0) (i + 1))
    unfold F_J7_fill_53178_47_c5
    rw [if_neg (n12 hi), xas_n hi (by decide), xbn_e, nI_1]
    show _ = k (nI (i + 1), xup (wr I 47 0 (fun _ => 0) i) 47 (0 + i) 0)
    rw [Nat.zero_add]
  · show F_J7_fill_53178_47_c5 xN 0 12 (nI 12) (wr I 47 0 (fun _ => 0) 12) k = _
    unfold F_J7_fill_53178_47_c5
    rw [if_pos (by decide)]
theorem nets47 {I : xTI} {s : Nat → Int32} {q : Nat → Nat} (hB : BRb I s) (hV : IVb s q) (hq : q 1 ≤ 12) (k ac : Int32) : ∃ I2, F_X0_netsInto_47 xN I k ac = some I2 ∧ (∀ j, j ≠ 47 → I2 j = I j) ∧ ∀ m, m < 12 → I2 47 m = NT s m k ac := by
  unfold F_X0_netsInto_47
  rw [fill47, Option.bind_some]
  suffices hinv : ∃ r, xlp (F_X0_netsInto_47_b8 xN k ac) xN (0, wr I 47 0 (fun _ => 0) 12) = r ∧ ∃ I2, r = some I2 ∧ (∀ j, j ≠ 47 → I2 j = I j) ∧ ∀ m, m < 12 → I2 47 m = NT s m k ac by
    obtain ⟨r, h1, I2, h2, h3, h4⟩ := hinv
    exact ⟨I2, by rw [h1, h2], h3, h4⟩
  refine xlp_inv (b := F_X0_netsInto_47_b8 xN k ac) (fun i (x : Int32 × xTI) => x.1 = nI i ∧ (∀ j, j ≠ 47 → x.2 j = I j) ∧ ∀ m, m < 12 → x.2 47 m = fo (gNt s (nI m) k ac) 0 i) 60 (fun r => ∃ I2, r = some I2 ∧ (∀ j, j ≠ 47 → I2 j = I j) ∧ ∀ m, m < 12 → I2 47 m = NT s m k ac) ?_ ?_ xN (by decide) (0, wr I 47 0 (fun _ => 0) 12) ⟨rfl, fun j hj => wr_ne hj _, fun m hm => by
    have := wr_in (I := I) (k := 47) (base := 0) (w := fun _ => (0 : Int32)) (t := m) 12 hm
    rw [Nat.zero_add] at this; exact this⟩
  · rintro i hi ⟨x, J⟩ ⟨e1, e2, e3⟩
    have e1 : x = nI i := e1
    subst e1
    have hB2 : BRb J s := by
      intro b hb
      rw [show J 13 = I 13 from e2 13 (by decide)]
      exact hB b hb
    by_cases g : stn s i k ac
    · obtain ⟨sl, by_, st, sh, pr, dy, aa, g1, g2, g3, g4, g5, g6, g7, f1, f2, f3, f4, f5, f6, -⟩ := bg_all hV hi g.1
      have c0 : ∀ K : xTI, (∀ j, j ≠ 47 → K j = I j) → F_X8_at_12 K (nI i) 0 = some (nI sl) := fun K hK => by
        rw [at12_0 hi, hK 13 (by decide), bcell2 hB hi g.1 (by decide)]; exact congrArg some g1
      have c1 : ∀ K : xTI, (∀ j, j ≠ 47 → K j = I j) → F_X8_at_12 K (nI i) 1 = some (nI by_) := fun K hK => by
        rw [at12_1 hi, hK 13 (by decide), bcell2 hB hi g.1 (by decide)]; exact congrArg some g2
      have c3 : ∀ K : xTI, (∀ j, j ≠ 47 → K j = I j) → F_X8_at_12 K (nI i) 3 = some (nI sh) := fun K hK => by
        rw [at12_3 hi, hK 13 (by decide), bcell2 hB hi g.1 (by decide)]; exact congrArg some g4
      have hJ1 : ∀ v, ∀ j, j ≠ 47 → xup J 47 by_ v j = I j := fun v j hj => by rw [xup_ne hj]; exact e2 j hj
      refine ⟨(nI (i + 1), xup (xup J 47 by_ (J 47 by_ + nI sh)) 47 sl (xup J 47 by_ (J 47 by_ + nI sh) 47 sl - nI sh)), fun K => ?_, rfl, fun j hj => by
        show xup _ 47 sl _ j = _
        rw [xup_ne hj]; exact hJ1 _ j hj, fun m hm => ?_⟩
      · show F_X0_netsInto_47_c8 xN k ac (nI i) J K = _
        unfold F_X0_netsInto_47_c8
        rw [if_neg (n60 hi), F10_st2 hB2 hi, if_pos g, Option.bind_some, if_neg (by decide), c1 J e2, Option.bind_some, xal_n (by omega) (by decide), c3 J e2, Option.bind_some, xas_n (by omega) (by decide), c0 _ (hJ1 _), Option.bind_some, xal_n (by omega) (by decide), c3 _ (hJ1 _), Option.bind_some, xas_n (by omega) (by decide), xbn_e, nI_1]
      · show xup (xup J 47 by_ (J 47 by_ + nI sh)) 47 sl (xup J 47 by_ (J 47 by_ + nI sh) 47 sl - nI sh) 47 m = gNt s (nI m) k ac i (fo (gNt s (nI m) k ac) 0 i)
        have e3m := e3 m hm
        have e3m : J 47 m = fo (gNt s (nI m) k ac) 0 i := e3m
        rw [← e3m]
        unfold gNt gn
        rw [if_pos g, g1, g2, g4, xup_at]
        by_cases em : m = sl
        · subst em
          rw [if_pos rfl, xup_nj f3, if_neg (fun e => f3 ((nI_eq (by omega) (by omega)).mp e).symm), if_pos rfl, Int32.sub_eq_add_neg]
        · rw [if_neg em, xup_at]
          by_cases em2 : m = by_
          · subst em2
            rw [if_pos rfl, if_pos rfl]
          · rw [if_neg em2, if_neg (fun e => em2 ((nI_eq (by omega) (by omega)).mp e).symm), if_neg (fun e => em ((nI_eq (by omega) (by omega)).mp e).symm), Int32.add_zero]
    · refine ⟨(nI (i + 1), J), fun K => ?_, rfl, e2, fun m hm => ?_⟩
      · show F_X0_netsInto_47_c8 xN k ac (nI i) J K = _
        unfold F_X0_netsInto_47_c8
        rw [if_neg (n60 hi), F10_st2 hB2 hi, if_neg g, Option.bind_some, if_pos rfl, xbn_e, nI_1]
      · show J 47 m = gNt s (nI m) k ac i (fo (gNt s (nI m) k ac) 0 i)
        unfold gNt
        rw [if_neg g]
        exact e3 m hm
  · rintro ⟨x, J⟩ ⟨e1, e2, e3⟩
    have e1 : x = nI 60 := e1
    subst e1
    refine ⟨some J, fun K => ?_, J, rfl, e2, e3⟩
    show F_X0_netsInto_47_c8 xN k ac (nI 60) J K = _
    unfold F_X0_netsInto_47_c8
    rw [if_pos (by decide)]
theorem fill39 (I : xTI) : F_J7_fill_53178_39 xN I 0 = some (wr I 39 0 (fun _ => 0) 12) := by
  unfold F_J7_fill_53178_39
  rw [show ((0 : Int32), I) = (fun i => (nI i, wr I 39 0 (fun _ => 0) i)) 0 from rfl]
  refine xlp_for (fun i => (nI i, wr I 39 0 (fun _ => 0) i)) 12 _ (fun i hi k => ?_) (fun k => ?_) xN (by decide)
  · show F_J7_fill_53178_39_c5 xN 0 12 (nI i) (wr I 39 0 (fun _ => 0) i) k = k (nI (i + 1), wr I 39 0 (fun _ => 0) (i + 1))
    unfold F_J7_fill_53178_39_c5
    rw [if_neg (n12 hi), xas_n hi (by decide), xbn_e, nI_1]
    show _ = k (nI (i + 1), xup (wr I 39 0 (fun _ => 0) i) 39 (0 + i) 0)
    rw [Nat.zero_add]
  · show F_J7_fill_53178_39_c5 xN 0 12 (nI 12) (wr I 39 0 (fun _ => 0) 12) k = _
    unfold F_J7_fill_53178_39_c5
    rw [if_pos (by decide)]
theorem nets39 {I : xTI} {s : Nat → Int32} {q : Nat → Nat} (hB : BRb I s) (hV : IVb s q) (hq : q 1 ≤ 12) (k ac : Int32) : ∃ I2, F_X0_netsInto_39 xN I k ac = some I2 ∧ (∀ j, j ≠ 39 → I2 j = I j) ∧ ∀ m, m < 12 → I2 39 m = NT s m k ac := by
  unfold F_X0_netsInto_39
  rw [fill39, Option.bind_some]
  suffices hinv : ∃ r, xlp (F_X0_netsInto_39_b8 xN k ac) xN (0, wr I 39 0 (fun _ => 0) 12) = r ∧ ∃ I2, r = some I2 ∧ (∀ j, j ≠ 39 → I2 j = I j) ∧ ∀ m, m < 12 → I2 39 m = NT s m k ac by
    obtain ⟨r, h1, I2, h2, h3, h4⟩ := hinv
    exact ⟨I2, by rw [h1, h2], h3, h4⟩
  refine xlp_inv (b := F_X0_netsInto_39_b8 xN k ac) (fun i (x : Int32 × xTI) => x.1 = nI i ∧ (∀ j, j ≠ 39 → x.2 j = I j) ∧ ∀ m, m < 12 → x.2 39 m = fo (gNt s (nI m) k ac) 0 i) 60 (fun r => ∃ I2, r = some I2 ∧ (∀ j, j ≠ 39 → I2 j = I j) ∧ ∀ m, m < 12 → I2 39 m = NT s m k ac) ?_ ?_ xN (by decide) (0, wr I 39 0 (fun _ => 0) 12) ⟨rfl, fun j hj => wr_ne hj _, fun m hm => by
    have := wr_in (I := I) (k := 39) (base := 0) (w := fun _ => (0 : Int32)) (t := m) 12 hm
    rw [Nat.zero_add] at this; exact this⟩
  · rintro i hi ⟨x, J⟩ ⟨e1, e2, e3⟩
    have e1 : x = nI i := e1
    subst e1
    have hB2 : BRb J s := by
      intro b hb
      rw [show J 13 = I 13 from e2 13 (by decide)]
      exact hB b hb
    by_cases g : stn s i k ac
    · obtain ⟨sl, by_, st, sh, pr, dy, aa, g1, g2, g3, g4, g5, g6, g7, f1, f2, f3, f4, f5, f6, -⟩ := bg_all hV hi g.1
      have c0 : ∀ K : xTI, (∀ j, j ≠ 39 → K j = I j) → F_X8_at_12 K (nI i) 0 = some (nI sl) := fun K hK => by
        rw [at12_0 hi, hK 13 (by decide), bcell2 hB hi g.1 (by decide)]; exact congrArg some g1
      have c1 : ∀ K : xTI, (∀ j, j ≠ 39 → K j = I j) → F_X8_at_12 K (nI i) 1 = some (nI by_) := fun K hK => by
        rw [at12_1 hi, hK 13 (by decide), bcell2 hB hi g.1 (by decide)]; exact congrArg some g2
      have c3 : ∀ K : xTI, (∀ j, j ≠ 39 → K j = I j) → F_X8_at_12 K (nI i) 3 = some (nI sh) := fun K hK => by
        rw [at12_3 hi, hK 13 (by decide), bcell2 hB hi g.1 (by decide)]; exact congrArg some g4
      have hJ1 : ∀ v, ∀ j, j ≠ 39 → xup J 39 by_ v j = I j := fun v j hj => by rw [xup_ne hj]; exact e2 j hj
      refine ⟨(nI (i + 1), xup (xup J 39 by_ (J 39 by_ + nI sh)) 39 sl (xup J 39 by_ (J 39 by_ + nI sh) 39 sl - nI sh)), fun K => ?_, rfl, fun j hj => by
        show xup _ 39 sl _ j = _
        rw [xup_ne hj]; exact hJ1 _ j hj, fun m hm => ?_⟩
      · show F_X0_netsInto_39_c8 xN k ac (nI i) J K = _
        unfold F_X0_netsInto_39_c8
        rw [if_neg (n60 hi), F10_st2 hB2 hi, if_pos g, Option.bind_some, if_neg (by decide), c1 J e2, Option.bind_some, xal_n (by omega) (by decide), c3 J e2, Option.bind_some, xas_n (by omega) (by decide), c0 _ (hJ1 _), Option.bind_some, xal_n (by omega) (by decide), c3 _ (hJ1 _), Option.bind_some, xas_n (by omega) (by decide), xbn_e, nI_1]
      · show xup (xup J 39 by_ (J 39 by_ + nI sh)) 39 sl (xup J 39 by_ (J 39 by_ + nI sh) 39 sl - nI sh) 39 m = gNt s (nI m) k ac i (fo (gNt s (nI m) k ac) 0 i)
        have e3m := e3 m hm
        have e3m : J 39 m = fo (gNt s (nI m) k ac) 0 i := e3m
        rw [← e3m]
        unfold gNt gn
        rw [if_pos g, g1, g2, g4, xup_at]
        by_cases em : m = sl
        · subst em
          rw [if_pos rfl, xup_nj f3, if_neg (fun e => f3 ((nI_eq (by omega) (by omega)).mp e).symm), if_pos rfl, Int32.sub_eq_add_neg]
        · rw [if_neg em, xup_at]
          by_cases em2 : m = by_
          · subst em2
            rw [if_pos rfl, if_pos rfl]
          · rw [if_neg em2, if_neg (fun e => em2 ((nI_eq (by omega) (by omega)).mp e).symm), if_neg (fun e => em ((nI_eq (by omega) (by omega)).mp e).symm), Int32.add_zero]
    · refine ⟨(nI (i + 1), J), fun K => ?_, rfl, e2, fun m hm => ?_⟩
      · show F_X0_netsInto_39_c8 xN k ac (nI i) J K = _
        unfold F_X0_netsInto_39_c8
        rw [if_neg (n60 hi), F10_st2 hB2 hi, if_neg g, Option.bind_some, if_pos rfl, xbn_e, nI_1]
      · show J 39 m = gNt s (nI m) k ac i (fo (gNt s (nI m) k ac) 0 i)
        unfold gNt
        rw [if_neg g]
        exact e3 m hm
  · rintro ⟨x, J⟩ ⟨e1, e2, e3⟩
    have e1 : x = nI 60 := e1
    subst e1
    refine ⟨some J, fun K => ?_, J, rfl, e2, e3⟩
    show F_X0_netsInto_39_c8 xN k ac (nI 60) J K = _
    unfold F_X0_netsInto_39_c8
    rw [if_pos (by decide)]
