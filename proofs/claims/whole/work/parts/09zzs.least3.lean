section MP
variable {nz : Nat → Int32} {f : Nat}
theorem AR_new (n : Nat) (hn : n ≠ 0) : AR nz f (n + 1) n = mxB (AR nz f n) n f + if smB nz n f = 0 then 1 else 0 := by
  show up1 (AR nz f n) n _ n = _
  unfold up1
  rw [if_pos rfl, if_neg hn]
theorem AR_old {n t : Nat} (h : t ≠ n) : AR nz f (n + 1) t = AR nz f n t := by
  show up1 (AR nz f n) n _ t = _
  unfold up1
  rw [if_neg h]
theorem mx_s (A : Nat → Nat) (t i : Nat) : mxB A t (i + 1) = if t.testBit i = true then (if mxB A t i < A (t ^^^ 2 ^ i) then A (t ^^^ 2 ^ i) else mxB A t i) else mxB A t i := rfl
theorem sm_0 : smB nz 0 f = 0 := by
  induction f with
  | zero => rfl
  | succ f ih =>
    show smB nz 0 f + _ = 0
    rw [ih, Nat.zero_testBit]; rfl
theorem mx_bd (hf : f ≤ 10) {n : Nat} (hn : n < 2 ^ f) {i : Nat} (hi : i ≤ f) : mxB (AR nz f n) n i ≤ 10 := by
  have h1024 : 2 ^ f ≤ 2 ^ 10 := Nat.pow_le_pow_right (by decide) hf
  have := mxB_le (t := n) (f := f) (by omega) hf (AR_le (nz := nz) hf n (by omega)) i hi
  have := ppB_le n f
  omega
/-- the class's table of parts -/
theorem mp_run (hf : f ≤ 10) : ∀ (d n : Nat) (J : xTI) (M : Nat), n + d = 2 ^ f → 1 ≤ n → d < M → (∀ i, i < f → J 48 i = nz i) → (∀ t, t < n → J 49 t = smB nz t f ∧ J 50 t = nI (AR nz f n t)) → ∃ J2, xlp (F_X7_mostParts_b20 xN (nI f) (nI (2 ^ f))) M (nI n, J) = some (nI (AR nz f (2 ^ f) (2 ^ f - 1)), J2) ∧ ∀ j, j ≠ 49 → j ≠ 50 → J2 j = J j := by
  have h1024 : 2 ^ f ≤ 2 ^ 10 := Nat.pow_le_pow_right (by decide) hf
  have h1024 : 2 ^ f ≤ 1024 := h1024
  intro d
  induction d with
  | zero =>
    intro n J M hn h1 hM h48 hT
    obtain ⟨M', rfl⟩ : ∃ M', M = M' + 1 := ⟨M - 1, by omega⟩
    have : n = 2 ^ f := by omega
    subst this
    refine ⟨J, ?_, fun _ _ _ => rfl⟩
    rw [xlp_s]
    show F_X7_mostParts_c20 xN (nI f) (nI (2 ^ f)) (nI (2 ^ f)) J _ = _
    unfold F_X7_mostParts_c20
    rw [if_pos (nI_le (Nat.le_refl _) (by omega)), show nI (2 ^ f) - 1 = nI (2 ^ f - 1) from nI_sub (b := 1) h1, xal_n (by omega) (by decide), (hT _ (by omega)).2]
  | succ d ih =>
    intro n J M hn h1 hM h48 hT
    obtain ⟨M', rfl⟩ : ∃ M', M = M' + 1 := ⟨M - 1, by omega⟩
    have hn2 : n < 2 ^ f := by omega
    have hbits : 1 ≤ ppB n f := ppB_pos (by omega) hf (by rw [Nat.mod_eq_of_lt hn2]; omega)
    have hARb : ∀ u, u < n → AR nz f n u ≤ 10 := fun u hu => by
      have := AR_le (nz := nz) hf n (by omega) u hu
      have := ppB_le u f
      omega
    rw [xlp_s]
    show ∃ J2, F_X7_mostParts_c20 xN (nI f) (nI (2 ^ f)) (nI n) J (xlp (F_X7_mostParts_b20 xN (nI f) (nI (2 ^ f))) M') = _ ∧ _
    unfold F_X7_mostParts_c20
    rw [if_neg (nI_ge hn2 (by omega))]
    have hin : ∃ r, xlp (F_X7_mostParts_b31 (xlp (F_X7_mostParts_b20 xN (nI f) (nI (2 ^ f))) M') xN (nI f) (nI (2 ^ f)) (nI n)) xN (0, 0, J) = r ∧ ∃ J2, r = xlp (F_X7_mostParts_b20 xN (nI f) (nI (2 ^ f))) M' (nI (n + 1), J2) ∧ (∀ j, j ≠ 49 → j ≠ 50 → J2 j = J j) ∧ ∀ t, t < n + 1 → J2 49 t = smB nz t f ∧ J2 50 t = nI (AR nz f (n + 1) t) := by
      refine xlp_inv (b := F_X7_mostParts_b31 (xlp (F_X7_mostParts_b20 xN (nI f) (nI (2 ^ f))) M') xN (nI f) (nI (2 ^ f)) (nI n)) (fun i (x : Int32 × Int32 × xTI) => x.1 = nI (mxB (AR nz f n) n i) ∧ x.2.1 = nI i ∧ (∀ j, j ≠ 49 → x.2.2 j = J j) ∧ (∀ t, t ≠ n → x.2.2 49 t = J 49 t) ∧ (1 ≤ ppB n i → x.2.2 49 n = smB nz n f)) f (fun r => ∃ J2, r = xlp (F_X7_mostParts_b20 xN (nI f) (nI (2 ^ f))) M' (nI (n + 1), J2) ∧ (∀ j, j ≠ 49 → j ≠ 50 → J2 j = J j) ∧ ∀ t, t < n + 1 → J2 49 t = smB nz t f ∧ J2 50 t = nI (AR nz f (n + 1) t)) ?_ ?_ xN (by show f < 100000; omega) (0, 0, J) ⟨rfl, rfl, fun _ _ => rfl, fun _ _ => rfl, fun h => absurd h (by show ¬ 1 ≤ 0; decide)⟩
      · rintro i hi ⟨x, y, K⟩ ⟨z1, z2, z3, z4, z5⟩
        have z1 : x = nI (mxB (AR nz f n) n i) := z1
        have z2 : y = nI i := z2
        subst z1; subst z2
        have z3 : ∀ j, j ≠ 49 → K j = J j := z3
        have z4 : ∀ t, t ≠ n → K 49 t = J 49 t := z4
        have z5 : 1 ≤ ppB n i → K 49 n = smB nz n f := z5
        by_cases g : n.testBit i = true
        · have hlt := bS n (by omega) i (by omega) g
          have ey : nI n ^^^ (1 <<< (nI i &&& 31)) = nI (n ^^^ 2 ^ i) := bX n (by omega) i (by omega)
          have nb : ¬ ((nI n >>> (nI i &&& 31)) &&& 1 = 0) := fun e => by have := (bA n (by omega) i (by omega)).mp e; rw [g] at this; cases this
          have hmb := mx_bd (nz := nz) hf hn2 (i := i) (by omega)
          have hab := hARb _ hlt
          refine ⟨(nI (mxB (AR nz f n) n (i + 1)), nI (i + 1), xup K 49 n (smB nz n f)), fun F => ?_, rfl, rfl, fun j hj => ?_, fun t ht => ?_, fun _ => ?_⟩
          · show F_X7_mostParts_c31 _ xN (nI f) (nI (2 ^ f)) (nI n) (nI (mxB (AR nz f n) n i)) (nI i) K F = _
            unfold F_X7_mostParts_c31
            rw [if_neg (nI_ge hi (by omega)), if_neg nb, xbn_e, ey, xal_n (by omega) (by decide), z4 _ (by omega), (hT _ hlt).1, xal_n (by omega) (by decide), z3 48 (by decide), h48 i hi, smB_x nz n i g f hi, xas_n (by omega) (by decide), xal_n (by omega) (by decide), xup_ne (k' := 50) (by decide), z3 50 (by decide), (hT _ hlt).2, xbn_e, xbn_e, nI_1, mx_s, if_pos g]
            by_cases gg : mxB (AR nz f n) n i < AR nz f n (n ^^^ 2 ^ i)
            · rw [if_pos (nI_lt gg (by omega)), if_pos gg]
            · rw [if_neg (nI_nlt (by omega) (by omega)), if_neg gg]
          · show xup K 49 n _ j = _
            rw [xup_ne hj]; exact z3 j hj
          · show xup K 49 n _ 49 t = _
            rw [xup_nj ht]; exact z4 t ht
          · exact xup_eq
        · have gf : n.testBit i = false := by cases hh : n.testBit i with
            | true => exact absurd hh g
            | false => rfl
          refine ⟨(nI (mxB (AR nz f n) n (i + 1)), nI (i + 1), K), fun F => ?_, rfl, rfl, z3, z4, fun hp => z5 ?_⟩
          · show F_X7_mostParts_c31 _ xN (nI f) (nI (2 ^ f)) (nI n) (nI (mxB (AR nz f n) n i)) (nI i) K F = _
            unfold F_X7_mostParts_c31
            rw [if_neg (nI_ge hi (by omega)), if_pos ((bA n (by omega) i (by omega)).mpr gf), xbn_e, nI_1, mx_s, if_neg g]
          · have hp : 1 ≤ ppB n i + (if n.testBit i = true then 1 else 0) := hp
            rw [if_neg g] at hp
            omega
      · rintro ⟨x, y, K⟩ ⟨z1, z2, z3, z4, z5⟩
        have z1 : x = nI (mxB (AR nz f n) n f) := z1
        have z2 : y = nI f := z2
        subst z1; subst z2
        have z3 : ∀ j, j ≠ 49 → K j = J j := z3
        have z4 : ∀ t, t ≠ n → K 49 t = J 49 t := z4
        have z5 : K 49 n = smB nz n f := z5 hbits
        have hnew : (if smB nz n f = 0 then nI (mxB (AR nz f n) n f + 1) else nI (mxB (AR nz f n) n f)) = nI (AR nz f (n + 1) n) := by
          rw [AR_new n (by omega)]
          split <;> rfl
        refine ⟨_, fun F => ?_, xup K 50 n (nI (AR nz f (n + 1) n)), rfl, fun j y1 y2 => ?_, fun t ht => ?_⟩
        · show F_X7_mostParts_c31 (xlp (F_X7_mostParts_b20 xN (nI f) (nI (2 ^ f))) M') xN (nI f) (nI (2 ^ f)) (nI n) (nI (mxB (AR nz f n) n f)) (nI f) K F = _
          unfold F_X7_mostParts_c31 F_X7_mostParts_j118
          rw [if_pos (nI_le (Nat.le_refl _) (by omega)), xal_n (by omega) (by decide), z5, ← hnew]
          by_cases g : smB nz n f = 0
          · rw [if_pos g, if_pos g, nI_1, xas_n (by omega) (by decide), xbn_e, nI_1]
          · rw [if_neg g, if_neg g, xas_n (by omega) (by decide), xbn_e, nI_1]
        · rw [xup_ne y2]; exact z3 j y1
        · rw [xup_ne (k' := 49) (by decide), xup_at]
          by_cases e : t = n
          · subst e; rw [if_pos rfl]; exact ⟨z5, rfl⟩
          · rw [if_neg e, z4 t e, z3 50 (by decide), AR_old e]
            exact hT t (by omega)
    obtain ⟨r, e1, J2, e2, e3, e4⟩ := hin
    rw [e1, e2]
    obtain ⟨J3, f1, f2⟩ := ih (n + 1) J2 M' (by omega) (by omega) (by omega) (fun i hi => by rw [e3 48 (by decide) (by decide)]; exact h48 i hi) e4
    exact ⟨J3, f1, fun j y1 y2 => by rw [f2 j y1 y2, e3 j y1 y2]⟩
/-- the reference's -/
theorem rp_run (hf : f ≤ 10) : ∀ (d n : Nat) (J : xTI) (M : Nat), n + d = 2 ^ f → 1 ≤ n → d < M → (∀ i, i < f → J 78 i = nz i) → (∀ t, t < n → J 79 t = smB nz t f ∧ J 80 t = nI (AR nz f n t)) → ∃ J2, xlp (F_X11_least_b117 xN (nI f)) M (nI n, J) = some (nI f - nI (AR nz f (2 ^ f) (2 ^ f - 1)), J2) ∧ ∀ j, j ≠ 79 → j ≠ 80 → J2 j = J j := by
  have h1024 : 2 ^ f ≤ 2 ^ 10 := Nat.pow_le_pow_right (by decide) hf
  have h1024 : 2 ^ f ≤ 1024 := h1024
  intro d
  induction d with
  | zero =>
    intro n J M hn h1 hM h48 hT
    obtain ⟨M', rfl⟩ : ∃ M', M = M' + 1 := ⟨M - 1, by omega⟩
    have : n = 2 ^ f := by omega
    subst this
    refine ⟨J, ?_, fun _ _ _ => rfl⟩
    rw [xlp_s]
    show F_X11_least_c117 xN (nI f) (nI (2 ^ f)) J _ = _
    unfold F_X11_least_c117
    rw [b2f f (by omega), if_pos (nI_le (Nat.le_refl _) (by omega)), show nI (2 ^ f) - 1 = nI (2 ^ f - 1) from nI_sub (b := 1) h1, xal_n (by omega) (by decide), (hT _ (by omega)).2]
  | succ d ih =>
    intro n J M hn h1 hM h48 hT
    obtain ⟨M', rfl⟩ : ∃ M', M = M' + 1 := ⟨M - 1, by omega⟩
    have hn2 : n < 2 ^ f := by omega
    have hARb : ∀ u, u < n → AR nz f n u ≤ 10 := fun u hu => by
      have := AR_le (nz := nz) hf n (by omega) u hu
      have := ppB_le u f
      omega
    -- its lowest bit
    obtain ⟨lw, -, hlw, hz, hone⟩ := run_ex (fun i => n.testBit i = false) f 0 f (by omega)
    have hmod : ∀ i, i ≤ lw → n % 2 ^ i = 0 := by
      intro i
      induction i with
      | zero => intro _; exact Nat.mod_one n
      | succ i ihh => intro hi; exact mod_s n (by omega) i (by omega) (ihh (by omega)) (hz i (Nat.zero_le _) (by omega))
    have hlf : lw < f := by
      rcases Nat.lt_or_ge lw f with z | z
      · exact z
      · have : lw = f := by omega
        have h := hmod f (by omega)
        rw [Nat.mod_eq_of_lt hn2] at h
        omega
    have hbit : n.testBit lw = true := by
      cases hh : n.testBit lw with
      | true => rfl
      | false => exact absurd hh (hone hlf)
    have hlt0 := bS n (by omega) lw (by omega) hbit
    rw [xlp_s]
    show ∃ J2, F_X11_least_c117 xN (nI f) (nI n) J (xlp (F_X11_least_b117 xN (nI f)) M') = _ ∧ _
    unfold F_X11_least_c117
    rw [b2f f (by omega), if_neg (nI_ge hn2 (by omega))]
    have hK0 : ∀ j, j ≠ 79 → j ≠ 80 → xup (xup J 79 n (smB nz n f)) 80 n 0 j = J j := fun j y1 y2 => by rw [xup_ne y2, xup_ne y1]
    have hin : ∃ r, xlp (F_X11_least_b182 (xlp (F_X11_least_b117 xN (nI f)) M') xN (nI f) (nI n)) xN (0, xup (xup J 79 n (smB nz n f)) 80 n 0) = r ∧ ∃ J2, r = xlp (F_X11_least_b117 xN (nI f)) M' (nI (n + 1), J2) ∧ (∀ j, j ≠ 79 → j ≠ 80 → J2 j = J j) ∧ ∀ t, t < n + 1 → J2 79 t = smB nz t f ∧ J2 80 t = nI (AR nz f (n + 1) t) := by
      refine xlp_inv (b := F_X11_least_b182 (xlp (F_X11_least_b117 xN (nI f)) M') xN (nI f) (nI n)) (fun i (x : Int32 × xTI) => x.1 = nI i ∧ (∀ j, j ≠ 80 → x.2 j = xup (xup J 79 n (smB nz n f)) 80 n 0 j) ∧ (∀ t, t ≠ n → x.2 80 t = J 80 t) ∧ x.2 80 n = nI (mxB (AR nz f n) n i)) f (fun r => ∃ J2, r = xlp (F_X11_least_b117 xN (nI f)) M' (nI (n + 1), J2) ∧ (∀ j, j ≠ 79 → j ≠ 80 → J2 j = J j) ∧ ∀ t, t < n + 1 → J2 79 t = smB nz t f ∧ J2 80 t = nI (AR nz f (n + 1) t)) ?_ ?_ xN (by show f < 100000; omega) (0, xup (xup J 79 n (smB nz n f)) 80 n 0) ⟨rfl, fun _ _ => rfl, fun t ht => ?_, ?_⟩
      · rintro i hi ⟨x, K⟩ ⟨z1, z2, z3, z4⟩
        have z1 : x = nI i := z1
        subst z1
        have z2 : ∀ j, j ≠ 80 → K j = xup (xup J 79 n (smB nz n f)) 80 n 0 j := z2
        have z3 : ∀ t, t ≠ n → K 80 t = J 80 t := z3
        have z4 : K 80 n = nI (mxB (AR nz f n) n i) := z4
        by_cases g : n.testBit i = true
        · have hlt := bS n (by omega) i (by omega) g
          have ec := bC n (by omega) i (by omega) g
          have hmb := mx_bd (nz := nz) hf hn2 (i := i) (by omega)
          have hab := hARb _ hlt
          have hv : K 80 (n ^^^ 2 ^ i) = nI (AR nz f n (n ^^^ 2 ^ i)) := by rw [z3 _ (by omega)]; exact (hT _ hlt).2
          by_cases gg : mxB (AR nz f n) n i < AR nz f n (n ^^^ 2 ^ i)
          · refine ⟨(nI (i + 1), xup K 80 n (nI (AR nz f n (n ^^^ 2 ^ i)))), fun F => ?_, rfl, fun j hj => ?_, fun t ht => ?_, ?_⟩
            · show F_X11_least_c182 _ xN (nI f) (nI n) (nI i) K F = _
              unfold F_X11_least_c182
              rw [if_neg (nI_ge hi (by omega)), if_pos ((bE n (by omega) i (by omega)).mpr g), ec, xal_n (by omega) (by decide), hv, xal_n (by omega) (by decide), z4, if_neg (nI_ge gg (by omega)), xal_n (by omega) (by decide), hv, xas_n (by omega) (by decide), xbn_e, nI_1]
            · show xup K 80 n _ j = _
              rw [xup_ne hj]; exact z2 j hj
            · show xup K 80 n _ 80 t = _
              rw [xup_nj ht]; exact z3 t ht
            · show xup K 80 n (nI (AR nz f n (n ^^^ 2 ^ i))) 80 n = _
              rw [xup_eq, mx_s, if_pos g, if_pos gg]
          · refine ⟨(nI (i + 1), K), fun F => ?_, rfl, z2, z3, ?_⟩
            · show F_X11_least_c182 _ xN (nI f) (nI n) (nI i) K F = _
              unfold F_X11_least_c182
              rw [if_neg (nI_ge hi (by omega)), if_pos ((bE n (by omega) i (by omega)).mpr g), ec, xal_n (by omega) (by decide), hv, xal_n (by omega) (by decide), z4, if_pos (nI_le (by omega) (by omega)), xbn_e, nI_1]
            · show K 80 n = _
              rw [z4, mx_s, if_pos g, if_neg gg]
        · refine ⟨(nI (i + 1), K), fun F => ?_, rfl, z2, z3, ?_⟩
          · show F_X11_least_c182 _ xN (nI f) (nI n) (nI i) K F = _
            unfold F_X11_least_c182
            rw [if_neg (nI_ge hi (by omega)), if_neg (fun e => g ((bE n (by omega) i (by omega)).mp e)), xbn_e, nI_1]
          · show K 80 n = _
            rw [z4, mx_s, if_neg g]
      · rintro ⟨x, K⟩ ⟨z1, z2, z3, z4⟩
        have z1 : x = nI f := z1
        subst z1
        have z2 : ∀ j, j ≠ 80 → K j = xup (xup J 79 n (smB nz n f)) 80 n 0 j := z2
        have z3 : ∀ t, t ≠ n → K 80 t = J 80 t := z3
        have z4 : K 80 n = nI (mxB (AR nz f n) n f) := z4
        have hnew : (if smB nz n f = 0 then nI (mxB (AR nz f n) n f + 1) else nI (mxB (AR nz f n) n f)) = nI (AR nz f (n + 1) n) := by
          rw [AR_new n (by omega)]
          split <;> rfl
        have k79 : K 79 n = smB nz n f := by rw [z2 79 (by decide), xup_ne (by decide), xup_eq]
        refine ⟨_, fun F => ?_, xup K 80 n (nI (AR nz f (n + 1) n)), rfl, fun j y1 y2 => ?_, fun t ht => ?_⟩
        · show F_X11_least_c182 (xlp (F_X11_least_b117 xN (nI f)) M') xN (nI f) (nI n) (nI f) K F = _
          unfold F_X11_least_c182 F_X11_least_j273
          rw [if_pos (nI_le (Nat.le_refl _) (by omega)), xal_n (by omega) (by decide), z4, xal_n (by omega) (by decide), k79, ← hnew]
          by_cases g : smB nz n f = 0
          · rw [if_pos g, if_pos g, nI_1, xas_n (by omega) (by decide), xbn_e, nI_1]
          · rw [if_neg g, if_neg g, Int32.add_zero, xas_n (by omega) (by decide), xbn_e, nI_1]
        · rw [xup_ne y2, z2 j y2]; exact hK0 j y1 y2
        · rw [xup_ne (k' := 79) (by decide), xup_at, z2 79 (by decide), xup_ne (by decide), xup_at]
          by_cases e : t = n
          · subst e; rw [if_pos rfl, if_pos rfl]; exact ⟨rfl, rfl⟩
          · rw [if_neg e, if_neg e, z3 t e, AR_old e]
            exact hT t (by omega)
      · show xup (xup J 79 n (smB nz n f)) 80 n 0 80 t = _
        rw [xup_nj ht, xup_ne (by decide)]
      · show xup (xup J 79 n (smB nz n f)) 80 n 0 80 n = nI 0
        rw [xup_eq]; rfl
    obtain ⟨r, e1, J2, e2, e3, e4⟩ := hin
    have hlow : xlp (F_X11_least_b128 (xlp (F_X11_least_b117 xN (nI f)) M') xN J (nI f) (nI n)) xN 0 = r := by
      rw [show (0 : Int32) = (fun i => nI i) 0 from rfl]
      refine xlp_for (fun i => nI i) lw _ (fun i hi F => ?_) (fun F => ?_) xN (by show lw < 100000; omega)
      · show F_X11_least_c128 _ xN J (nI f) (nI n) (nI i) F = _
        unfold F_X11_least_c128
        rw [if_pos ((bA n (by omega) i (by omega)).mpr (hz i (Nat.zero_le _) hi)), xbn_e, nI_1]
      · show F_X11_least_c128 _ xN J (nI f) (nI n) (nI lw) F = _
        unfold F_X11_least_c128
        rw [if_neg (fun e => by have := (bA n (by omega) lw (by omega)).mp e; rw [hbit] at this; cases this), bL n (by omega) lw (by omega) hbit (hmod lw (Nat.le_refl _)), xal_n (by omega) (by decide), (hT _ hlt0).1, xal_n (by omega) (by decide), h48 lw hlf, smB_x nz n lw hbit f hlf, xas_n (by omega) (by decide), xas_n (by omega) (by decide)]
        exact e1
    rw [hlow, e2]
    obtain ⟨J3, f1, f2⟩ := ih (n + 1) J2 M' (by omega) (by omega) (by omega) (fun i hi => by rw [e3 78 (by decide) (by decide)]; exact h48 i hi) e4
    exact ⟨J3, f1, fun j y1 y2 => by rw [f2 j y1 y2, e3 j y1 y2]⟩
end MP
