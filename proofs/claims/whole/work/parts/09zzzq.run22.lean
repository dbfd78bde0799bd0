section
/-! run: settling. What a delivery takes -/
theorem at26_l {I : xTI} {b : Nat} (hb : b < 200) : F_X8_at_26 I (nI b) 0 = some (I 27 (6 * b + 0)) ∧ F_X8_at_26 I (nI b) 1 = some (I 27 (6 * b + 1)) ∧ F_X8_at_26 I (nI b) 2 = some (I 27 (6 * b + 2)) ∧ F_X8_at_26 I (nI b) 3 = some (I 27 (6 * b + 3)) ∧ F_X8_at_26 I (nI b) 5 = some (I 27 (6 * b + 5)) := ⟨at26 (t := 0) hb (by decide), at26 (t := 1) hb (by decide), at26 (t := 2) hb (by decide), at26 (t := 3) hb (by decide), at26 (t := 5) hb (by decide)⟩
theorem pct (x : Int32) : ∃ pc, pc ≤ 1000 ∧ F_X6_percent x = some (nI pc) ∧ F_X11_within x 0 1000 = some (nI pc) := by
  unfold F_X6_percent F_X11_within
  have z0 : (0 : Int32).toInt = 0 := by decide
  have z1 : (1000 : Int32).toInt = 1000 := by decide
  by_cases h0 : 0 ≤ x
  · by_cases h1 : x ≤ 1000
    · have hx : x = nI x.toInt.toNat := by
        apply Int32.toInt_inj.mp
        rw [Int32.le_iff_toInt_le] at h0 h1
        rw [nI_toInt (by omega)]; omega
      refine ⟨x.toInt.toNat, ?_, ?_, ?_⟩
      · rw [Int32.le_iff_toInt_le] at h0 h1; omega
      · rw [xbn_e, if_neg (Int32.not_lt.mpr h1), xbn_e]
        by_cases h2 : 0 < x
        · rw [if_pos h2, ← hx]
        · have : x = 0 := by
            apply Int32.toInt_inj.mp
            rw [Int32.le_iff_toInt_le] at h0; rw [Int32.lt_iff_toInt_lt] at h2; omega
          rw [if_neg h2, this]; rfl
      · rw [if_pos h0, if_pos h1, ← hx]
    · exact ⟨1000, by decide, by rw [xbn_e, if_pos (Int32.not_le.mp h1), xbn_e, if_pos (by decide)]; rfl, by rw [if_pos h0, if_neg h1]; rfl⟩
  · have h1 : ¬ (1000 : Int32) < x := by
      rw [Int32.le_iff_toInt_le] at h0; rw [Int32.lt_iff_toInt_lt]; omega
    refine ⟨0, by decide, ?_, by rw [if_neg h0]; rfl⟩
    rw [xbn_e, if_neg h1, xbn_e, if_neg (fun z => h0 (by rw [Int32.le_iff_toInt_le]; rw [Int32.lt_iff_toInt_lt] at z; omega))]; rfl
theorem amt_m {ms md pc : Nat} (h1 : ms ≤ 5940) (h2 : md ≤ 9999) (h3 : pc ≤ 1000) : ((nI ms).toInt64 * (nI md).toInt64 * (100 + nI pc).toInt64) / 100 = lN (ms * md * (100 + pc) / 100) ∧ ms * md * (100 + pc) / 100 ≤ 109989 * ms := by
  have b1 : ms * md ≤ ms * 9999 := Nat.mul_le_mul_left _ h2
  have b2 : ms * md * (100 + pc) ≤ ms * 9999 * 1100 := Nat.mul_le_mul b1 (by omega)
  constructor
  · rw [show (100 : Int32) + nI pc = nI (100 + pc) by rw [show (100 : Int32) = nI 100 from rfl, nI_add], nI_l (by omega), nI_l (by omega), nI_l (by omega), lN_mul, lN_mul, show (100 : Int64) = lN 100 from rfl, pk_lDiv (by omega) (by decide) (by decide)]
  · omega
theorem amt_l {sh md pc : Nat} (h1 : sh ≤ 5940) (h2 : md ≤ 9999) (h3 : pc ≤ 1000) : (lN (sh * md) * (nI pc).toInt64) / 100 = lN (sh * md * pc / 100) ∧ sh * md * pc / 100 ≤ 99990 * sh := by
  have b1 : sh * md ≤ sh * 9999 := Nat.mul_le_mul_left _ h2
  have b2 : sh * md * pc ≤ sh * 9999 * 1000 := Nat.mul_le_mul b1 h3
  constructor
  · rw [nI_l (by omega), lN_mul, show (100 : Int64) = lN 100 from rfl, pk_lDiv (by omega) (by decide) (by decide)]
  · omega
theorem mv_e {I : xTI} {k f t sh h g : Nat} (hk : k < 5) (hf : f < 12) (ht : t < 12) (hft : f ≠ t) (h1 : I 9 (5 * f + k) = nI h) (h2 : I 9 (5 * t + k) = nI g) (hh : h < 2 ^ 31) (hsh : sh ≤ 5940) : F_X6_moveShares I (nI k) (nI f) (nI t) (nI sh) = some (nI (sh - min h sh), xup (xup I 9 (5 * f + k) (nI (h - min h sh))) 9 (5 * t + k) (nI (g + sh))) := by
  unfold F_X6_moveShares F_X3_place
  have pf : nI f * 5 + nI k = nI (5 * f + k) := by rw [show (5 : Int32) = nI 5 from rfl, nI_mul, nI_add, Nat.mul_comm]
  have pt : nI t * 5 + nI k = nI (5 * t + k) := by rw [show (5 : Int32) = nI 5 from rfl, nI_mul, nI_add, Nat.mul_comm]
  have hm : (if nI h < nI sh then nI h else nI sh) = nI (min h sh) := by
    by_cases e : h < sh
    · rw [if_pos (nI_lt e (by omega)), Nat.min_eq_left (by omega)]
    · rw [if_neg (nI_nlt (by omega) hh), Nat.min_eq_right (by omega)]
  simp only [Option.bind_some]
  rw [pf, pt, xal_n (by omega) (by decide), h1, hm, xbn_e, xal_n (by omega) (by decide), h1, xas_n (by omega) (by decide), xal_n (by omega) (by decide), xup_at, if_neg (by omega), h2, xas_n (by omega) (by decide), nI_sub (by omega), nI_sub (by omega), nI_add]
/-- what the cell j of HOLD gets by the first i deliveries -/
def rcv (s : Nat → Int32) : Nat → Nat → Nat
  | 0, _ => 0
  | i + 1, j => rcv s i j + (if nI j = nI 5 * s (4670 + 6 * i + 2) + s (4670 + 6 * i) then (s (4670 + 6 * i + 3)).toNatClampNeg else 0)
theorem rcv_le {s : Nat → Int32} : ∀ i j, rcv s i j ≤ dvS s i
  | 0, _ => Nat.le_refl _
  | i + 1, j => by
    rw [rcv, dvS]
    have := rcv_le (s := s) i j
    split <;> omega
theorem rcv_0 {s : Nat → Int32} {q : Nat → Nat} (hd : IVd s q) (hq : q 1 ≤ 12) (hq2 : q 2 ≤ 5) {i0 k f : Nat} (hi0 : i0 < q 7) (hk : s (4670 + 6 * i0) = nI k) (hf : s (4670 + 6 * i0 + 1) = nI f) (hk5 : k < 5) (hf12 : f < 12) : ∀ i, i ≤ q 7 → rcv s i (5 * f + k) = 0
  | 0, _ => rfl
  | i + 1, hi => by
    rw [rcv, rcv_0 hd hq hq2 hi0 hk hf hk5 hf12 i (by omega), if_neg]
    intro z
    obtain ⟨k', f', t', sh', a0, a1, a2, a3, a4, a5, a6, a7, -⟩ := hd.1 i (by omega)
    rw [a0, a2, nI_mul, nI_add] at z
    have z' := (nI_eq (by omega) (by omega)).mp z
    have e1 : k' = k := by omega
    have e2 : t' = f := by omega
    subst e1 e2
    exact hd.2.2 i0 i hi0 (by omega) (by rw [hk, a0]) (by rw [hf, a2])
end
