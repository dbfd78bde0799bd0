/-- a refusal, with calm cells changed -/
theorem ref_calm {kp : Bool} {n : Nat} {I Z : xTI} {L : xTL} (h : xRel kp n I L) (j : Nat) (h56 : ∀ i, Z 56 i = if i = j then I 56 j + 1 else I 56 i) (h60 : ∀ i, Z 60 i = if i = j then I 60 j + 1 else I 60 i) (hZ : ∀ k i, k ≠ 56 → k ≠ 60 → ¬ calm k i → Z k i = I k i) : xRel kp (n + 1) Z L := by
  have hY : xRel kp n (fun k => if k = 56 then I 56 else if k = 60 then I 60 else Z k) L := by
    refine h.calm (fun k i hk => ?_) (fun _ _ => rfl)
    show (if k = 56 then I 56 else if k = 60 then I 60 else Z k) i = I k i
    by_cases e1 : k = 56
    · rw [if_pos e1, e1]
    · rw [if_neg e1]
      by_cases e2 : k = 60
      · rw [if_pos e2, e2]
      · rw [if_neg e2]; exact hZ k i e1 e2 hk
  have he : rf (fun k => if k = 56 then I 56 else if k = 60 then I 60 else Z k) j = Z := by
    funext k i
    unfold rf
    by_cases e1 : k = 60
    · subst e1
      rw [xup_at, h60 i]
      by_cases e : i = j
      · rw [if_pos e, if_pos e]; rfl
      · rw [if_neg e, if_neg e, xup_ne (by decide)]; rfl
    · rw [xup_ne e1]
      by_cases e2 : k = 56
      · subst e2
        rw [xup_at, h56 i]
        by_cases e : i = j
        · rw [if_pos e, if_pos e]; rfl
        · rw [if_neg e, if_neg e]; rfl
      · rw [xup_ne e2]
        show (if k = 56 then I 56 else if k = 60 then I 60 else Z k) i = _
        rw [if_neg e2, if_neg e1]
  rw [← he]
  exact hY.rf j
/-- the NETS that are not 0 -/
def NL (net : Nat → Int32) : Nat → List Int32
  | 0 => []
  | i + 1 => if net i = 0 then NL net i else NL net i ++ [net i]
theorem NL_mono (net : Nat → Int32) : ∀ {i j : Nat}, i ≤ j → (NL net i).length ≤ (NL net j).length
  | i, 0, h => by have : i = 0 := by omega
                  subst this; exact Nat.le_refl _
  | i, j + 1, h => by
    by_cases e : i = j + 1
    · subst e; exact Nat.le_refl _
    · have := NL_mono net (i := i) (j := j) (by omega)
      show (NL net i).length ≤ (if net j = 0 then NL net j else NL net j ++ [net j]).length
      by_cases g : net j = 0
      · rw [if_pos g]; exact this
      · rw [if_neg g, List.length_append]; omega
theorem NL_le (net : Nat → Int32) : ∀ i, (NL net i).length ≤ i
  | 0 => Nat.le_refl _
  | i + 1 => by
    have := NL_le net i
    unfold NL
    split
    · omega
    · rw [List.length_append]
      have : [net i].length = 1 := rfl
      omega
theorem NL_tail (net : Nat → Int32) {m : Nat} : ∀ d, (∀ i, m ≤ i → i < m + d → net i = 0) → NL net (m + d) = NL net m
  | 0, _ => rfl
  | d + 1, h => by
    show (if net (m + d) = 0 then NL net (m + d) else _) = _
    rw [if_pos (h _ (by omega) (by omega)), NL_tail net d (fun i h1 h2 => h i h1 (by omega))]
theorem getD_app {l : List Int32} {x : Int32} {t : Nat} (h : t < l.length) : (l ++ [x]).getD t 0 = l.getD t 0 := by
  rw [List.getD_eq_getElem?_getD, List.getD_eq_getElem?_getD, List.getElem?_append_left h]
theorem getD_last {l : List Int32} {x : Int32} : (l ++ [x]).getD l.length 0 = x := by simp
/-- the fewest passes -/
def fwP (net : Nat → Int32) : Int32 := nI (NL net 12).length - nI (AR (fun t => (NL net 12).getD t 0) (NL net 12).length (2 ^ (NL net 12).length) (2 ^ (NL net 12).length - 1))
theorem fwP_ne (net : Nat → Int32) (h : (NL net 12).length ≤ 10) : fwP net ≠ -1 := by
  have h1 : 1 ≤ 2 ^ (NL net 12).length := Nat.one_le_two_pow
  have h2 := AR_le (nz := fun t => (NL net 12).getD t 0) h (2 ^ (NL net 12).length) (Nat.le_refl _) (2 ^ (NL net 12).length - 1) (by omega)
  have h3 := ppB_le (2 ^ (NL net 12).length - 1) (NL net 12).length
  unfold fwP
  rw [nI_sub (by omega)]
  exact nI_ne_m1 (by omega)
section LEAST
variable {I : xTI} {L : xTL} {s : Nat → Int32} {c : Nat → Int64} {q : Nat → Nat} {n : Nat}
theorem F7_fw (hB : BR I L s c q) (hV : IV s c q n) (k ac : Int32) : ∃ v I2, F_X7_fewestPasses xN I k ac = some (v, I2) ∧ ((10 < (NL (fun m => NT s m k ac) 12).length ∧ v = -1) ∨ ((NL (fun m => NT s m k ac) 12).length ≤ 10 ∧ v = fwP (fun m => NT s m k ac))) ∧ ∀ j, (j < 47 ∨ 50 < j) → I2 j = I j := by
  obtain ⟨I1, e1, e2, e3⟩ := nets47 hB.2.2.2.1 hV.2.2.1 hV.1.2.2.1 k ac
  unfold F_X7_fewestPasses
  rw [e1, Option.bind_some]
  generalize hnet : (fun m => NT s m k ac) = net
  have e3 : ∀ m, m < 12 → I1 47 m = net m := fun m hm => by rw [e3 m hm, ← hnet]
  suffices hinv : ∃ r, xlp (F_X7_fewestPasses_b19 xN) xN (0, 0, I1) = r ∧ ∃ v I2, r = some (v, I2) ∧ ((10 < (NL net 12).length ∧ v = -1) ∨ ((NL net 12).length ≤ 10 ∧ v = fwP net)) ∧ ∀ j, (j < 47 ∨ 50 < j) → I2 j = I j by
    obtain ⟨r, h1, v, I2, h2, h3⟩ := hinv
    exact ⟨v, I2, by rw [h1, h2], h3⟩
  refine xlp_ex (b := F_X7_fewestPasses_b19 xN) (fun i (x : Int32 × Int32 × xTI) => x.1 = nI (NL net i).length ∧ x.2.1 = nI i ∧ (∀ j, j ≠ 48 → x.2.2 j = I1 j) ∧ (NL net i).length ≤ 10 ∧ ∀ t, t < (NL net i).length → x.2.2 48 t = (NL net i).getD t 0) 12 (fun r => ∃ v I2, r = some (v, I2) ∧ ((10 < (NL net 12).length ∧ v = -1) ∨ ((NL net 12).length ≤ 10 ∧ v = fwP net)) ∧ ∀ j, (j < 47 ∨ 50 < j) → I2 j = I j) ?_ ?_ xN (by decide) (0, 0, I1) ⟨rfl, rfl, fun _ _ => rfl, Nat.zero_le _, fun t h => absurd h (Nat.not_lt_zero _)⟩
  · rintro i hi ⟨x, y, K⟩ ⟨z1, z2, z3, z4, z5⟩
    have z1 : x = nI (NL net i).length := z1
    have z2 : y = nI i := z2
    subst z1; subst z2
    have z3 : ∀ j, j ≠ 48 → K j = I1 j := z3
    have z5 : ∀ t, t < (NL net i).length → K 48 t = (NL net i).getD t 0 := z5
    have k47 : K 47 i = net i := by rw [z3 47 (by decide)]; exact e3 i hi
    by_cases g : net i = 0
    · have hs : NL net (i + 1) = NL net i := by show (if net i = 0 then _ else _) = _; rw [if_pos g]
      refine Or.inl ⟨(nI (NL net i).length, nI (i + 1), K), fun F => ?_, by rw [hs], rfl, z3, by rw [hs]; exact z4, by rw [hs]; exact z5⟩
      show F_X7_fewestPasses_c19 xN (nI (NL net i).length) (nI i) K F = _
      unfold F_X7_fewestPasses_c19
      rw [if_neg (n12 hi), xal_n hi (by decide), k47, if_pos g, xbn_e, nI_1]
    · have hs : NL net (i + 1) = NL net i ++ [net i] := by show (if net i = 0 then _ else _) = _; rw [if_neg g]
      have hl : (NL net (i + 1)).length = (NL net i).length + 1 := by rw [hs, List.length_append]; rfl
      by_cases g2 : (NL net i).length < 10
      · refine Or.inl ⟨(nI ((NL net i).length + 1), nI (i + 1), xup K 48 (NL net i).length (net i)), fun F => ?_, by rw [hl], rfl, fun j hj => ?_, by omega, fun t ht => ?_⟩
        · show F_X7_fewestPasses_c19 xN (nI (NL net i).length) (nI i) K F = _
          unfold F_X7_fewestPasses_c19
          rw [if_neg (n12 hi), xal_n hi (by decide), k47, if_neg g, if_pos (show nI (NL net i).length < 10 from nI_lt (b := 10) g2 (by decide)), xal_n hi (by decide), k47, xas_n (by omega) (by decide), xbn_e, xbn_e, nI_1, nI_1]
        · show xup K 48 _ _ j = _
          rw [xup_ne hj]; exact z3 j hj
        · show xup K 48 (NL net i).length (net i) 48 t = _
          rw [hs, xup_at]
          by_cases e : t = (NL net i).length
          · rw [if_pos e, e, getD_last]
          · rw [if_neg e, getD_app (by omega)]
            exact z5 t (by omega)
      · refine Or.inr ⟨some (-1, K), fun F => ?_, -1, K, rfl, Or.inl ⟨?_, rfl⟩, fun j hj => by rw [z3 j (by omega), e2 j (by omega)]⟩
        · show F_X7_fewestPasses_c19 xN (nI (NL net i).length) (nI i) K F = _
          unfold F_X7_fewestPasses_c19
          rw [if_neg (n12 hi), xal_n hi (by decide), k47, if_neg g, if_neg (show ¬ nI (NL net i).length < 10 from nI_nlt (b := 10) (by omega) (by omega))]
        · have := NL_mono net (show i + 1 ≤ 12 by omega)
          omega
  · rintro ⟨x, y, K⟩ ⟨z1, z2, z3, z4, z5⟩
    have z1 : x = nI (NL net 12).length := z1
    have z2 : y = nI 12 := z2
    subst z1; subst z2
    have z3 : ∀ j, j ≠ 48 → K j = I1 j := z3
    have z4 : (NL net 12).length ≤ 10 := z4
    have z5 : ∀ t, t < (NL net 12).length → K 48 t = (NL net 12).getD t 0 := z5
    have h1 : 1 ≤ 2 ^ (NL net 12).length := Nat.one_le_two_pow
    have h1024 : 2 ^ (NL net 12).length ≤ 2 ^ 10 := Nat.pow_le_pow_right (by decide) z4
    have h1024 : 2 ^ (NL net 12).length ≤ 1024 := h1024
    obtain ⟨J2, r1, r2⟩ := mp_run (nz := fun t => (NL net 12).getD t 0) (f := (NL net 12).length) z4 (2 ^ (NL net 12).length - 1) 1 (xup (xup K 49 0 0) 50 0 0) xN (by omega) (Nat.le_refl _) (by show _ < 100000; omega) (fun i hi => by rw [xup_ne (by decide), xup_ne (by decide)]; exact z5 i hi) (fun t ht => by
      have : t = 0 := by omega
      subst this
      refine ⟨?_, ?_⟩
      · rw [xup_ne (by decide), xup_eq]; exact sm_0.symm
      · rw [xup_eq]; rfl)
    refine ⟨some (fwP net, J2), fun F => ?_, fwP net, J2, rfl, Or.inr ⟨z4, rfl⟩, fun j hj => ?_⟩
    · show F_X7_fewestPasses_c19 xN (nI (NL net 12).length) (nI 12) K F = _
      unfold F_X7_fewestPasses_c19 F_X7_mostParts
      rw [if_pos (by decide), b2f _ (by omega), xbn_e, show xas (R := Int32 × xTI) K 49 1024 0 0 = xas (R := Int32 × xTI) K 49 1024 (nI 0) 0 from rfl, xas_n (by decide) (by decide), show ∀ (K : xTI), xas (R := Int32 × xTI) K 50 1024 0 0 = xas (R := Int32 × xTI) K 50 1024 (nI 0) 0 from fun _ => rfl, xas_n (by decide) (by decide)]
      show Option.bind (xlp (F_X7_mostParts_b20 xN (nI (NL net 12).length) (nI (2 ^ (NL net 12).length))) xN (nI 1, xup (xup K 49 0 0) 50 0 0)) _ = _
      rw [r1, Option.bind_some]
      rfl
    · rw [r2 j (by omega) (by omega), xup_ne (by omega), xup_ne (by omega), z3 j (by omega), e2 j (by omega)]
end LEAST
theorem F11_fw {J : xTI} {q : Nat → Nat} (hV : IVb (J 58) q) (h1 : J 58 1 = nI (q 1)) (c5 : q 1 ≤ 12) (k ac : Int32) : ∃ K, (∀ j, (j < 78 ∨ 80 < j) → K j = J j) ∧ ((10 < (NL (fun m => NT (J 58) m k ac) 12).length ∧ xlp (F_X11_least_b31 xN k ac) xN (0, 0, J) = Option.bind (F_X11_refuse K (-5)) (fun (v2, I3) => some (v2, I3))) ∨ ((NL (fun m => NT (J 58) m k ac) 12).length ≤ 10 ∧ xlp (F_X11_least_b31 xN k ac) xN (0, 0, J) = some (fwP (fun m => NT (J 58) m k ac), K))) := by
  have hnetz : ∀ m, q 1 ≤ m → m < 12 → NT (J 58) m k ac = 0 := fun m a b => NT_out hV c5 a b k ac
  have hnl : NL (fun m => NT (J 58) m k ac) 12 = NL (fun m => NT (J 58) m k ac) (q 1) := by
    have := NL_tail (fun m => NT (J 58) m k ac) (m := q 1) (12 - q 1) (fun i a b => hnetz i a (by omega))
    rw [show q 1 + (12 - q 1) = 12 by omega] at this
    exact this
  generalize hnet : (fun m => NT (J 58) m k ac) = net at hnl
  have hn : ∀ m, NT (J 58) m k ac = net m := fun m => by rw [← hnet]
  suffices hinv : ∃ r, xlp (F_X11_least_b31 xN k ac) xN (0, 0, J) = r ∧ ∃ K, (∀ j, (j < 78 ∨ 80 < j) → K j = J j) ∧ ((10 < (NL net 12).length ∧ r = Option.bind (F_X11_refuse K (-5)) (fun (v2, I3) => some (v2, I3))) ∨ ((NL net 12).length ≤ 10 ∧ r = some (fwP net, K))) by
    obtain ⟨r, y1, K, y2, y3⟩ := hinv
    refine ⟨K, y2, ?_⟩
    rw [y1]; exact y3
  refine xlp_ex (b := F_X11_least_b31 xN k ac) (fun i (x : Int32 × Int32 × xTI) => x.1 = nI (NL net i).length ∧ x.2.1 = nI i ∧ (∀ j, j ≠ 78 → x.2.2 j = J j) ∧ (NL net i).length ≤ 11 ∧ ∀ t, t < (NL net i).length → x.2.2 78 t = (NL net i).getD t 0) (q 1) (fun r => ∃ K, (∀ j, (j < 78 ∨ 80 < j) → K j = J j) ∧ ((10 < (NL net 12).length ∧ r = Option.bind (F_X11_refuse K (-5)) (fun (v2, I3) => some (v2, I3))) ∨ ((NL net 12).length ≤ 10 ∧ r = some (fwP net, K)))) ?_ ?_ xN (by show q 1 < 100000; omega) (0, 0, J) ⟨rfl, rfl, fun _ _ => rfl, Nat.zero_le _, fun t h => absurd h (Nat.not_lt_zero _)⟩
  · rintro i hi ⟨x, y, K⟩ ⟨z1, z2, z3, z4, z5⟩
    have z1 : x = nI (NL net i).length := z1
    have z2 : y = nI i := z2
    subst z1; subst z2
    have z3 : ∀ j, j ≠ 78 → K j = J j := z3
    have z4 : (NL net i).length ≤ 11 := z4
    have z5 : ∀ t, t < (NL net i).length → K 78 t = (NL net i).getD t 0 := z5
    have k58 := z3 58 (by decide)
    have hnt : F_X11_net xN K (nI i) k ac = some (net i) := by
      rw [F11_nt (q := q) (by rw [k58]; exact hV) c5, k58]
      exact congrArg some (hn i)
    have hc : ∀ F, F_X11_least_c31 xN k ac (nI (NL net i).length) (nI i) K F = (if net i = 0 then F (nI (NL net i).length, nI (i + 1), xup K 78 (NL net i).length (net i)) else if (NL net i).length + 1 = 12 then Option.bind (F_X11_refuse (xup K 78 (NL net i).length (net i)) (-5)) (fun (v2, I3) => some (v2, I3)) else F (nI ((NL net i).length + 1), nI (i + 1), xup K 78 (NL net i).length (net i))) := fun F => by
      unfold F_X11_least_c31 F_X11_least_j68
      rw [show xal (R := Int32 × xTI) K 58 40670 1 = xal (R := Int32 × xTI) K 58 40670 (nI 1) from rfl, xal_n (by decide) (by decide), k58, h1, if_neg (nI_ge hi (by omega)), hnt, Option.bind_some, xas_n (by omega) (by decide), xal_n (by omega) (by decide), xup_eq]
      by_cases g : net i = 0
      · rw [if_pos g, if_pos g, if_neg (fun e => by have := (nI_lq (c := 12) rfl (by omega) (by decide)).mp e; omega), xbn_e, nI_1]
      · rw [if_neg g, if_neg g, xbn_e, nI_1]
        by_cases g2 : (NL net i).length + 1 = 12
        · rw [if_pos (show nI ((NL net i).length + 1) = 12 from (nI_lq (c := 12) rfl (by omega) (by decide)).mpr g2), if_pos g2]
        · rw [if_neg (show ¬ nI ((NL net i).length + 1) = 12 from fun e => g2 ((nI_lq (c := 12) rfl (by omega) (by decide)).mp e)), if_neg g2, xbn_e, nI_1]
    by_cases g : net i = 0
    · have hs : NL net (i + 1) = NL net i := by show (if net i = 0 then _ else _) = _; rw [if_pos g]
      refine Or.inl ⟨(nI (NL net i).length, nI (i + 1), xup K 78 (NL net i).length (net i)), fun F => ?_, by rw [hs], rfl, fun j hj => ?_, by rw [hs]; exact z4, fun t ht => ?_⟩
      · show F_X11_least_c31 xN k ac (nI (NL net i).length) (nI i) K F = _
        rw [hc, if_pos g]
      · show xup K 78 _ _ j = _
        rw [xup_ne hj]; exact z3 j hj
      · rw [hs] at ht ⊢
        show xup K 78 (NL net i).length (net i) 78 t = _
        rw [xup_nj (by omega)]; exact z5 t ht
    · have hs : NL net (i + 1) = NL net i ++ [net i] := by show (if net i = 0 then _ else _) = _; rw [if_neg g]
      have hl : (NL net (i + 1)).length = (NL net i).length + 1 := by rw [hs, List.length_append]; rfl
      by_cases g2 : (NL net i).length + 1 = 12
      · refine Or.inr ⟨Option.bind (F_X11_refuse (xup K 78 (NL net i).length (net i)) (-5)) (fun (v2, I3) => some (v2, I3)), fun F => ?_, xup K 78 (NL net i).length (net i), fun j hj => ?_, Or.inl ⟨?_, rfl⟩⟩
        · show F_X11_least_c31 xN k ac (nI (NL net i).length) (nI i) K F = _
          rw [hc, if_neg g, if_pos g2]
        · rw [xup_ne (by omega)]; exact z3 j (by omega)
        · have := NL_mono net (show i + 1 ≤ 12 by omega)
          omega
      · refine Or.inl ⟨(nI ((NL net i).length + 1), nI (i + 1), xup K 78 (NL net i).length (net i)), fun F => ?_, by rw [hl], rfl, fun j hj => ?_, by omega, fun t ht => ?_⟩
        · show F_X11_least_c31 xN k ac (nI (NL net i).length) (nI i) K F = _
          rw [hc, if_neg g, if_neg g2]
        · show xup K 78 _ _ j = _
          rw [xup_ne hj]; exact z3 j hj
        · show xup K 78 (NL net i).length (net i) 78 t = _
          rw [hs, xup_at]
          by_cases e : t = (NL net i).length
          · rw [if_pos e, e, getD_last]
          · rw [if_neg e, getD_app (by omega)]
            exact z5 t (by omega)
  · rintro ⟨x, y, K⟩ ⟨z1, z2, z3, z4, z5⟩
    have z1 : x = nI (NL net (q 1)).length := z1
    have z2 : y = nI (q 1) := z2
    subst z1; subst z2
    rw [← hnl] at z4 z5 ⊢
    have z3 : ∀ j, j ≠ 78 → K j = J j := z3
    have z4 : (NL net 12).length ≤ 11 := z4
    have z5 : ∀ t, t < (NL net 12).length → K 78 t = (NL net 12).getD t 0 := z5
    have k58 := z3 58 (by decide)
    by_cases g : (NL net 12).length ≤ 10
    · have h1' : 1 ≤ 2 ^ (NL net 12).length := Nat.one_le_two_pow
      have h1024 : 2 ^ (NL net 12).length ≤ 2 ^ 10 := Nat.pow_le_pow_right (by decide) g
      have h1024 : 2 ^ (NL net 12).length ≤ 1024 := h1024
      obtain ⟨J2, r1, r2⟩ := rp_run (nz := fun t => (NL net 12).getD t 0) (f := (NL net 12).length) g (2 ^ (NL net 12).length - 1) 1 (xup (xup K 79 0 0) 80 0 0) xN (by omega) (Nat.le_refl _) (by show _ < 100000; omega) (fun i hi => by rw [xup_ne (by decide), xup_ne (by decide)]; exact z5 i hi) (fun t ht => by
        have : t = 0 := by omega
        subst this
        refine ⟨?_, ?_⟩
        · rw [xup_ne (by decide), xup_eq]; exact sm_0.symm
        · rw [xup_eq]; rfl)
      refine ⟨some (fwP net, J2), fun F => ?_, J2, fun j hj => ?_, Or.inr ⟨g, rfl⟩⟩
      · show F_X11_least_c31 xN k ac (nI (NL net 12).length) (nI (q 1)) K F = _
        unfold F_X11_least_c31
        rw [show xal (R := Int32 × xTI) K 58 40670 1 = xal (R := Int32 × xTI) K 58 40670 (nI 1) from rfl, xal_n (by decide) (by decide), k58, h1, if_pos (nI_le (Nat.le_refl _) (by omega)), if_pos (show nI (NL net 12).length ≤ 10 from nI_le (b := 10) g (by decide)), show xas (R := Int32 × xTI) K 79 1024 0 0 = xas (R := Int32 × xTI) K 79 1024 (nI 0) 0 from rfl, xas_n (by decide) (by decide), show ∀ (K : xTI), xas (R := Int32 × xTI) K 80 1024 0 0 = xas (R := Int32 × xTI) K 80 1024 (nI 0) 0 from fun _ => rfl, xas_n (by decide) (by decide)]
        exact r1
      · rw [r2 j (by omega) (by omega), xup_ne (by omega), xup_ne (by omega), z3 j (by omega)]
    · refine ⟨Option.bind (F_X11_refuse K (-5)) (fun (v2, I3) => some (v2, I3)), fun F => ?_, K, fun j hj => z3 j (by omega), Or.inl ⟨by omega, rfl⟩⟩
      show F_X11_least_c31 xN k ac (nI (NL net 12).length) (nI (q 1)) K F = _
      unfold F_X11_least_c31
      rw [show xal (R := Int32 × xTI) K 58 40670 1 = xal (R := Int32 × xTI) K 58 40670 (nI 1) from rfl, xal_n (by decide) (by decide), k58, h1, if_pos (nI_le (Nat.le_refl _) (by omega)), if_neg (show ¬ nI (NL net 12).length ≤ 10 from nI_ge (a := 10) (by omega) (by omega))]
theorem pr_least : xs_least xRel := by
  intro kp n I L a1 a2 hn h
  obtain ⟨⟨q, hB, hV⟩, -⟩ := id h
  obtain ⟨c1, c2, c3, c4, c5, c6, c7, c8, c9⟩ := cnt hB hV
  by_cases g1 : 0 ≤ a1 ∧ a1 ≤ nI (q 2) - 1
  · by_cases g2 : 0 ≤ a2
    · obtain ⟨v, I2, e1, e2, e3⟩ := F7_fw hB hV a1 a2
      rcases e2 with ⟨e2, e4⟩ | ⟨e2, e4⟩
      · have f1 := F10_rf I2 (-5) 5 (by decide) (by decide)
        have i58 : xup I2 56 5 (I2 56 5 + 1) 58 = I 58 := by rw [xup_ne (by decide)]; exact e3 58 (by omega)
        obtain ⟨K, k1, k2⟩ := F11_fw (J := xup I2 56 5 (I2 56 5 + 1)) (q := q) (by rw [i58]; exact hV.2.2.1) (by rw [i58]; exact c3) c5 a1 a2
        rw [i58] at k2
        rcases k2 with ⟨-, k2⟩ | ⟨k3, -⟩
        · refine ⟨-5, xup I2 56 5 (I2 56 5 + 1), xup K 60 5 (K 60 5 + 1), ?_, ?_, ?_⟩
          · unfold F_X10_least
            rw [F10_stk c2, if_pos g1, Option.bind_some, if_neg (by decide), if_pos g2, e1, Option.bind_some]
            show (if v = (-1) then Option.bind (F_X10_refuse I2 (-5)) (fun (v4, I5) => some (v4, I5)) else _) = _
            rw [if_pos e4, f1]
            rfl
          · unfold F_X11_least
            rw [F11_stk (q := q) (by rw [i58]; exact c4), if_pos g1, Option.bind_some, if_neg (by decide), if_pos g2, k2, F11_rf K (-5) 5 (by decide) (by decide)]
            rfl
          · have k56 : K 56 = xup I2 56 5 (I2 56 5 + 1) 56 := k1 56 (by omega)
            have k60 : K 60 = I 60 := by rw [k1 60 (by omega), xup_ne (by decide)]; exact e3 60 (by omega)
            refine ref_calm h 5 (fun i => ?_) (fun i => ?_) (fun j i y1 y2 y3 => ?_)
            · rw [xup_ne (by decide), k56, xup_at, e3 56 (by omega)]
            · rw [xup_at, k60]
            · unfold calm at y3
              rw [xup_ne y2, k1 j (by omega), xup_ne y1, e3 j (by omega)]
        · omega
      · have i58 : I2 58 = I 58 := e3 58 (by omega)
        obtain ⟨K, k1, k2⟩ := F11_fw (J := I2) (q := q) (by rw [i58]; exact hV.2.2.1) (by rw [i58]; exact c3) c5 a1 a2
        rw [i58] at k2
        rcases k2 with ⟨k3, -⟩ | ⟨-, k2⟩
        · omega
        · refine ⟨v, I2, K, ?_, ?_, calm_47 h (fun j y1 y2 => by rw [k1 j (by omega), e3 j (by omega)]) (fun _ _ _ => rfl)⟩
          · unfold F_X10_least
            rw [F10_stk c2, if_pos g1, Option.bind_some, if_neg (by decide), if_pos g2, e1, Option.bind_some]
            show (if v = (-1) then _ else some (v, I2)) = _
            rw [if_neg (by rw [e4]; exact fwP_ne _ e2)]
          · unfold F_X11_least
            rw [F11_stk (q := q) (by rw [i58]; exact c4), if_pos g1, Option.bind_some, if_neg (by decide), if_pos g2, k2, e4]
    · obtain ⟨I1, I2, r1, r2, r3, r4⟩ := ref2k h (-7) 7 (by decide) (by decide)
      refine ⟨-7, I1, I2, ?_, ?_, r3⟩
      · unfold F_X10_least
        rw [F10_stk c2, if_pos g1, Option.bind_some, if_neg (by decide), if_neg g2, r1]; rfl
      · unfold F_X11_least
        rw [F11_stk (q := q) (by rw [r4 58 (by decide)]; exact c4), if_pos g1, Option.bind_some, if_neg (by decide), if_neg g2, r2]; rfl
  · obtain ⟨I1, I2, r1, r2, r3, r4⟩ := ref2k h (-3) 3 (by decide) (by decide)
    refine ⟨-3, I1, I2, ?_, ?_, r3⟩
    · unfold F_X10_least
      rw [F10_stk c2, if_neg g1, Option.bind_some, if_pos rfl, r1]; rfl
    · unfold F_X11_least
      rw [F11_stk (q := q) (by rw [r4 58 (by decide)]; exact c4), if_neg g1, Option.bind_some, if_pos rfl, r2]; rfl
