theorem and255 (y : Int32) : isN (y &&& 255) 255 := by
  have hle : (y &&& 255).toBitVec.toNat ≤ 255 := by
    show (y.toBitVec &&& (255 : Int32).toBitVec).toNat ≤ 255
    rw [BitVec.toNat_and]
    exact Nat.and_le_right
  refine ⟨(y &&& 255).toBitVec.toNat, hle, ?_⟩
  apply Int32.toBitVec_inj.mp
  unfold nI
  rw [Int32.toBitVec_ofNat', BitVec.ofNat_toNat, BitVec.setWidth_eq]
theorem bv255 (v : BitVec 32) (k : Nat) (hk : k ≤ 24) : (v >>> k) &&& 255#32 = (v.sshiftRight k) &&& 255#32 := by
  apply BitVec.eq_of_getLsbD_eq
  intro i hi
  rw [BitVec.getLsbD_and, BitVec.getLsbD_and]
  by_cases h8 : i < 8
  · rw [BitVec.getLsbD_ushiftRight, BitVec.getLsbD_sshiftRight, if_pos (by omega)]
    have : decide (32 ≤ i) = false := decide_eq_false (by omega)
    rw [this]; rfl
  · have : ∀ i, i < 32 → 8 ≤ i → (255#32).getLsbD i = false := by decide
    rw [this i hi (by omega), Bool.and_false, Bool.and_false]
theorem shr255 (x : Int32) (j : Nat) (hj : j < 4) : ((x.toUInt32 >>> ((8 * nI j).toUInt32 &&& Int32.toUInt32 31)).toInt32) &&& 255 = (x >>> ((8 * nI j) &&& 31)) &&& 255 := by
  have : j = 0 ∨ j = 1 ∨ j = 2 ∨ j = 3 := by omega
  rcases this with rfl | rfl | rfl | rfl <;> apply Int32.toBitVec_inj.mp
  · exact bv255 x.toBitVec 0 (by decide)
  · exact bv255 x.toBitVec 8 (by decide)
  · exact bv255 x.toBitVec 16 (by decide)
  · exact bv255 x.toBitVec 24 (by decide)
/-- i bytes of x are written behind t others, in array arr; the count lies in cell kc, place pc -/
def fI (arr kc pc : Nat) (x : Int32) (z t : Nat) (I : xTI) : Nat → xTI
  | 0 => I
  | i + 1 => xup (xup (fI arr kc pc x z t I i) arr (t + i) ((x >>> ((8 * nI (z - 1 - i)) &&& 31)) &&& 255)) kc pc (nI (t + (i + 1)))
theorem fI_ne {arr kc pc : Nat} {x : Int32} {z t : Nat} {I : xTI} {k : Nat} (h1 : k ≠ arr) (h2 : k ≠ kc) : ∀ i, fI arr kc pc x z t I i k = I k
  | 0 => rfl
  | i + 1 => by
    show xup (xup (fI arr kc pc x z t I i) arr (t + i) _) kc pc _ k = I k
    rw [xup_ne h2, xup_ne h1, fI_ne h1 h2 i]
theorem fI_ct {arr kc pc : Nat} {x : Int32} {z t : Nat} {I : xTI} (h0 : I kc pc = nI t) : ∀ i, fI arr kc pc x z t I i kc pc = nI (t + i)
  | 0 => h0
  | i + 1 => by
    show xup (xup (fI arr kc pc x z t I i) arr (t + i) _) kc pc _ kc pc = _
    rw [xup_at, if_pos rfl]
theorem fI_co {arr kc pc : Nat} {x : Int32} {z t : Nat} {I : xTI} (ha : kc ≠ arr) {j : Nat} (hj : j ≠ pc) : ∀ i, fI arr kc pc x z t I i kc j = I kc j
  | 0 => rfl
  | i + 1 => by
    show xup (xup (fI arr kc pc x z t I i) arr (t + i) _) kc pc _ kc j = _
    rw [xup_at, if_neg hj, xup_ne ha, fI_co ha hj i]
theorem fI_ar {arr kc pc : Nat} {x : Int32} {z t : Nat} {I : xTI} (ha : arr ≠ kc) (j : Nat) : ∀ i, fI arr kc pc x z t I i arr j = if t ≤ j ∧ j < t + i then (x >>> ((8 * nI (z - 1 - (j - t))) &&& 31)) &&& 255 else I arr j
  | 0 => by rw [if_neg (by omega)]; rfl
  | i + 1 => by
    show xup (xup (fI arr kc pc x z t I i) arr (t + i) _) kc pc _ arr j = _
    rw [xup_ne ha, xup_at, fI_ar ha j i]
    by_cases e : j = t + i
    · rw [if_pos e, if_pos (by omega), show j - t = i by omega]
    · rw [if_neg e]
      by_cases g : t ≤ j ∧ j < t + i
      · rw [if_pos g, if_pos (by omega)]
      · rw [if_neg g, if_neg (by omega)]
theorem nI_dec {a : Nat} (h : 1 ≤ a) : nI a + -1 = nI (a - 1) := by
  rw [← Int32.sub_eq_add_neg, show (1 : Int32) = nI 1 from rfl, nI_sub h]
/-- the counter: z - 1 downto -1 -/
def dn (z i : Nat) : Int32 := if i < z then nI (z - 1 - i) else -1
theorem dn_s {z i : Nat} (hi : i < z) : dn z i + -1 = dn z (i + 1) := by
  unfold dn
  rw [if_pos hi]
  by_cases g : i + 1 < z
  · rw [if_pos g, nI_dec (by omega)]; congr 1
  · rw [if_neg g, show z - 1 - i = 0 by omega]; decide
theorem F10_ap {I : xTI} {x : Int32} {z t : Nat} (hz : z ≤ 4) (ht : t + z ≤ 120) (h0 : I 29 0 = nI t) : F_X9_append xN I x (nI z) = some (fI 30 29 0 x z t I z) := by
  unfold F_X9_append F_X9_append_b4
  have e : nI z - 1 = dn z 0 := by
    unfold dn
    by_cases g : 0 < z
    · rw [if_pos g, show (1 : Int32) = nI 1 from rfl, nI_sub (by omega)]; rfl
    · rw [if_neg g, show z = 0 by omega]; decide
  rw [xbn_e, e]
  refine xlp_for (fun i => (dn z i, fI 30 29 0 x z t I i)) z _ (fun i hi k => ?_) (fun k => ?_) xN (by show z < 100000; omega)
  · show F_X9_append_c4 xN x (dn z i) (fI 30 29 0 x z t I i) k = k (dn z (i + 1), fI 30 29 0 x z t I (i + 1))
    unfold F_X9_append_c4
    rw [← dn_s hi, show dn z i = nI (z - 1 - i) from if_pos hi, if_neg (nI_pos (by omega))]
    simp only [xbn_e]
    rw [fI_ct h0, if_neg (show ¬ (120 : Int32) ≤ nI (t + i) from nI_ge (b := 120) (by omega) (by decide)), xas_n (by omega) (by decide), xup_ne (k' := 29) (by decide), fI_ct h0, nI_1, shr255 x _ (by omega)]
    rfl
  · show F_X9_append_c4 xN x (dn z z) (fI 30 29 0 x z t I z) k = _
    unfold F_X9_append_c4
    rw [show dn z z = -1 from if_neg (by omega), if_pos (by decide)]
theorem F11_ap {I : xTI} {x : Int32} {z t : Nat} (hz : z ≤ 4) (ht : t + z ≤ 120) (h0 : I 57 5 = nI t) : xlp (F_X11_feed_b45 xN x) xN (nI z - 1, I) = some (nI (t + z), fI 61 57 5 x z t I z) := by
  unfold F_X11_feed_b45
  have e : nI z - 1 = dn z 0 := by
    unfold dn
    by_cases g : 0 < z
    · rw [if_pos g, show (1 : Int32) = nI 1 from rfl, nI_sub (by omega)]; rfl
    · rw [if_neg g, show z = 0 by omega]; decide
  rw [e]
  refine xlp_for (fun i => (dn z i, fI 61 57 5 x z t I i)) z _ (fun i hi k => ?_) (fun k => ?_) xN (by show z < 100000; omega)
  · show F_X11_feed_c45 xN x (dn z i) (fI 61 57 5 x z t I i) k = k (dn z (i + 1), fI 61 57 5 x z t I (i + 1))
    unfold F_X11_feed_c45
    rw [← dn_s hi, show dn z i = nI (z - 1 - i) from if_pos hi, if_neg (nI_pos (by omega))]
    simp only [xbn_e]
    rw [fI_ct h0, xas_n (by omega) (by decide), xup_ne (k' := 57) (by decide), fI_ct h0, nI_1]
    rfl
  · show F_X11_feed_c45 xN x (dn z z) (fI 61 57 5 x z t I z) k = _
    unfold F_X11_feed_c45
    rw [show dn z z = -1 from if_neg (by omega), if_pos (by decide), xbn_e, fI_ct h0]
