/-- the reference writes both -/
theorem R_po {J : xTI} {M : xTL} {w1 w2 d : Nat} (h12 : w1 < w2) (h60 : w2 < 60) (hd : d ≤ 700) (h0 : J 58 0 = nI d) (hu : ∀ i, i < w2 → i ≠ w1 → J 58 (192 + 12 * i) = 1) (hf1 : J 58 (192 + 12 * w1) = 0) (hf2 : J 58 (192 + 12 * w2) = 0) (a b st sh p1 p2 : Int32) : ∃ A Z, F_X11_makes xN J a b st sh p1 (nI (d / 14)) = some (nI w1, A) ∧ F_X11_putOff_j195 xN A M (nI w1) b a st sh p2 = some (nI w2, Z, M) ∧ (∀ k, k ≠ 58 → Z k = J k) ∧ (∀ j, (j < 192 + 12 * w1 ∨ (192 + 12 * w1 + 12 ≤ j ∧ j < 192 + 12 * w2) ∨ 192 + 12 * w2 + 12 ≤ j) → Z 58 j = J 58 j) ∧ (∀ t, t < 12 → Z 58 (192 + 12 * w1 + t) = pw1 a b st sh p1 (nI d) (nI (d / 14)) t) ∧ ∀ t, t < 12 → Z 58 (192 + 12 * w2 + t) = pw1 b a st sh p2 (nI d) (nI (d / 14 + 1)) t := by
  have mk1 := F11_mk (I := J) (b := w1) (d := d) (by omega) (fun i hi => hu i (by omega) (by omega)) hf1 h0 a b st sh p1 (nI (d / 14))
  have a1in : ∀ t, t < 12 → wr J 58 (192 + 12 * w1) (bw1 a b st sh p1 (nI d) (nI (d / 14))) 12 58 (192 + 12 * w1 + t) = bw1 a b st sh p1 (nI d) (nI (d / 14)) t := fun t ht => wr_in 12 ht
  have a1out : ∀ j, j < 192 + 12 * w1 ∨ 192 + 12 * w1 + 12 ≤ j → wr J 58 (192 + 12 * w1) (bw1 a b st sh p1 (nI d) (nI (d / 14))) 12 58 j = J 58 j := fun j hj => wr_out 12 (by omega)
  have a1ne : ∀ k, k ≠ 58 → wr J 58 (192 + 12 * w1) (bw1 a b st sh p1 (nI d) (nI (d / 14))) 12 k = J k := fun k hk => wr_ne hk 12
  generalize wr J 58 (192 + 12 * w1) (bw1 a b st sh p1 (nI d) (nI (d / 14))) 12 = A at mk1 a1in a1out a1ne
  have a0 : A 58 0 = nI d := by rw [a1out 0 (by omega)]; exact h0
  have mk2 := F11_mk (I := A) (b := w2) (d := d) h60 (fun i hi => by
    by_cases e : i = w1
    · subst e; exact a1in 0 (by decide)
    · rw [a1out _ (by omega)]; exact hu i hi e) (by rw [a1out _ (by omega)]; exact hf2) a0 b a st sh p2 (nI (d / 14 + 1))
  have a2in : ∀ t, t < 12 → wr A 58 (192 + 12 * w2) (bw1 b a st sh p2 (nI d) (nI (d / 14 + 1))) 12 58 (192 + 12 * w2 + t) = bw1 b a st sh p2 (nI d) (nI (d / 14 + 1)) t := fun t ht => wr_in 12 ht
  have a2out : ∀ j, j < 192 + 12 * w2 ∨ 192 + 12 * w2 + 12 ≤ j → wr A 58 (192 + 12 * w2) (bw1 b a st sh p2 (nI d) (nI (d / 14 + 1))) 12 58 j = A 58 j := fun j hj => wr_out 12 (by omega)
  have a2ne : ∀ k, k ≠ 58 → wr A 58 (192 + 12 * w2) (bw1 b a st sh p2 (nI d) (nI (d / 14 + 1))) 12 k = A k := fun k hk => wr_ne hk 12
  generalize wr A 58 (192 + 12 * w2) (bw1 b a st sh p2 (nI d) (nI (d / 14 + 1))) 12 = B at mk2 a2in a2out a2ne
  have e1 : (192 + 12 * nI w1) + 11 = nI (192 + 12 * w1 + 11) := ixc 192 12 w1 11
  have e2 : (192 + 12 * nI w2) + 11 = nI (192 + 12 * w2 + 11) := ixc 192 12 w2 11
  have s1 : F_X11_stand (xup (xup B 58 (192 + 12 * w1 + 11) 1) 58 (192 + 12 * w2 + 11) 1) (nI w1) = some (stC (xup (xup B 58 (192 + 12 * w1 + 11) 1) 58 (192 + 12 * w2 + 11) 1) 58 (192 + 12 * w1) 8 9 10 (nI d)) := by
    refine F11_sd (by omega) ?_ ?_ ?_
    · rw [xup_nj (by omega), xup_nj (by omega), a2out 0 (by omega)]; exact a0
    · rw [xup_nj (by omega), xup_nj (by omega), a2out _ (by omega), a1in 9 (by decide)]; rfl
    · rw [xup_nj (by omega), xup_nj (by omega), a2out _ (by omega), a1in 10 (by decide)]; rfl
  have s2 : F_X11_stand (stC (xup (xup B 58 (192 + 12 * w1 + 11) 1) 58 (192 + 12 * w2 + 11) 1) 58 (192 + 12 * w1) 8 9 10 (nI d)) (nI w2) = some (stC (stC (xup (xup B 58 (192 + 12 * w1 + 11) 1) 58 (192 + 12 * w2 + 11) 1) 58 (192 + 12 * w1) 8 9 10 (nI d)) 58 (192 + 12 * w2) 8 9 10 (nI d)) := by
    refine F11_sd h60 ?_ ?_ ?_
    · rw [stC_at, if_neg (by omega), if_neg (by omega), if_neg (by omega), xup_nj (by omega), xup_nj (by omega), a2out 0 (by omega)]; exact a0
    · rw [stC_at, if_neg (by omega), if_neg (by omega), if_neg (by omega), xup_nj (by omega), xup_nj (by omega), a2in 9 (by decide)]; rfl
    · rw [stC_at, if_neg (by omega), if_neg (by omega), if_neg (by omega), xup_nj (by omega), xup_nj (by omega), a2in 10 (by decide)]; rfl
  refine ⟨A, stC (stC (xup (xup B 58 (192 + 12 * w1 + 11) 1) 58 (192 + 12 * w2 + 11) 1) 58 (192 + 12 * w1) 8 9 10 (nI d)) 58 (192 + 12 * w2) 8 9 10 (nI d), mk1, ?_, ?_, ?_, ?_, ?_⟩
  · unfold F_X11_putOff_j195
    rw [show xal (R := Int32 × xTI × xTL) A 58 40670 0 = xal (R := Int32 × xTI × xTL) A 58 40670 (nI 0) from rfl, xal_n (by decide) (by decide), a0, div14 hd, nI_1, mk2, Option.bind_some]
    show xas B 58 40670 ((192 + 12 * nI w1) + 11) 1 _ = _
    rw [e1, xas_n (by omega) (by decide), e2, xas_n (by omega) (by decide), s1, Option.bind_some, s2, Option.bind_some]
  · intro k hk
    rw [stC_ne hk, stC_ne hk, xup_ne hk, xup_ne hk, a2ne k hk, a1ne k hk]
  · intro j hj
    rw [stC_at, if_neg (by omega), if_neg (by omega), if_neg (by omega), stC_at, if_neg (by omega), if_neg (by omega), if_neg (by omega), xup_nj (by omega), xup_nj (by omega), a2out j (by omega), a1out j (by omega)]
  · intro t ht
    rw [stC_at, if_neg (by omega), if_neg (by omega), if_neg (by omega), stC_at]
    have : t = 0 ∨ t = 1 ∨ t = 2 ∨ t = 3 ∨ t = 4 ∨ t = 5 ∨ t = 6 ∨ t = 7 ∨ t = 8 ∨ t = 9 ∨ t = 10 ∨ t = 11 := by omega
    rcases this with h | h | h | h | h | h | h | h | h | h | h | h
    all_goals first
      | (rw [if_neg (by omega), if_neg (by omega), if_neg (by omega), xup_nj (by omega), xup_nj (by omega), a2out _ (by omega), a1in t ht, h]; rfl)
      | (rw [if_neg (by omega), if_neg (by omega), if_neg (by omega), xup_nj (by omega), xup_at, if_pos (by omega), h]; rfl)
      | (rw [if_pos (by omega), h]; rfl)
      | (rw [if_neg (by omega), if_pos (by omega), h]; rfl)
      | (rw [if_neg (by omega), if_neg (by omega), if_pos (by omega), h]; rfl)
  · intro t ht
    rw [stC_at]
    have : t = 0 ∨ t = 1 ∨ t = 2 ∨ t = 3 ∨ t = 4 ∨ t = 5 ∨ t = 6 ∨ t = 7 ∨ t = 8 ∨ t = 9 ∨ t = 10 ∨ t = 11 := by omega
    rcases this with h | h | h | h | h | h | h | h | h | h | h | h
    all_goals first
      | (rw [if_neg (by omega), if_neg (by omega), if_neg (by omega), stC_at, if_neg (by omega), if_neg (by omega), if_neg (by omega), xup_nj (by omega), xup_nj (by omega), a2in t ht, h]; rfl)
      | (rw [if_neg (by omega), if_neg (by omega), if_neg (by omega), stC_at, if_neg (by omega), if_neg (by omega), if_neg (by omega), xup_at, if_pos (by omega), h]; rfl)
      | (rw [if_pos (by omega), h]; rfl)
      | (rw [if_neg (by omega), if_pos (by omega), h]; rfl)
      | (rw [if_neg (by omega), if_neg (by omega), if_pos (by omega), h]; rfl)
/-- a bargain that is put off is as it should be -/
theorem IV_po {s : Nat → Int32} {q : Nat → Nat} {w sl by_ st sh pr ac : Nat} (h : ∀ t, t < 12 → s (192 + 12 * w + t) = pw1 (nI sl) (nI by_) (nI st) (nI sh) (nI pr) (nI (q 0)) (nI ac) t) (hq : q 0 ≤ 700) (f1 : sl < q 1) (f2 : by_ < q 1) (f3 : sl ≠ by_) (f4 : st < q 2) (f5 : 1 ≤ sh) (f6 : sh ≤ 99) (f7 : 1 ≤ pr) (f8 : pr ≤ 9999) (ha : 14 * ac ≤ q 0 + 14) (ha2 : q 0 ≤ 14 * ac + 13) (u1 : s (16 + 4 * sl) = 1) (u2 : s (16 + 4 * by_) = 1) : s (192 + 12 * w) = 1 ∧ IVbg s q w := by
  have h9 : s (192 + 12 * w + 9) = nI (q 0) := h 9 (by decide)
  have h10 : s (192 + 12 * w + 10) = nI (q 0) := h 10 (by decide)
  refine ⟨h 0 (by decide), sl, by_, st, sh, pr, q 0, ac, 1, h 1 (by decide), h 2 (by decide), h 3 (by decide), h 4 (by decide), h 5 (by decide), h 6 (by decide), h 7 (by decide), h 8 (by decide), f1, f2, f3, f4, f5, f6, f7, f8, Nat.le_refl _, ha, ha2, by decide, Or.inr ⟨q 0, Nat.le_refl _, h9⟩, Or.inr ⟨q 0, Nat.le_refl _, h10⟩, ⟨1, by decide, h 11 (by decide)⟩, fun e => absurd e (by decide), fun _ => ⟨?_, ?_⟩, fun _ => ⟨u1, u2⟩⟩
  · rw [h9]; exact nI_ne_m1 (by omega)
  · rw [h10]; exact nI_ne_m1 (by omega)
