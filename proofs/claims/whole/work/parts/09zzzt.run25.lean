section
/-! run: settling. What is extra comes in; only the rest is owed -/
def exA (L : xTL) (p : Nat) : xTL := fun k j => if k = 42 ∧ j < 156 ∧ j % 13 < 12 ∧ j / 13 ≠ j % 13 ∧ 12 * (j / 13) + j % 13 < p then L 42 j + L 6 (12 * (j / 13) + j % 13) else L k j
theorem exA_ne {L : xTL} {p k : Nat} (h : k ≠ 42) : exA L p k = L k := by
  funext j; unfold exA; rw [if_neg (fun z => h z.1)]
theorem exA_o {L : xTL} {p a b : Nat} (hb : b < 13) (h : p ≤ 12 * a + b ∨ b = 12 ∨ a = b) : exA L p 42 (13 * a + b) = L 42 (13 * a + b) := by
  unfold exA; rw [if_neg]
  rintro ⟨-, h1, h2, h3, h4⟩
  omega
theorem exA_i {L : xTL} {p a b : Nat} (ha : a < 12) (hb : b < 12) (hab : a ≠ b) (h : 12 * a + b < p) : exA L p 42 (13 * a + b) = L 42 (13 * a + b) + L 6 (12 * a + b) := by
  unfold exA
  rw [if_pos ⟨rfl, by omega, by omega, by omega, by omega⟩, show 12 * ((13 * a + b) / 13) + (13 * a + b) % 13 = 12 * a + b by omega]
theorem exA_s {L : xTL} {a b : Nat} (ha : a < 12) (hb : b < 12) (hab : a ≠ b) : xup (exA L (12 * a + b)) 42 (13 * a + b) (L 42 (13 * a + b) + L 6 (12 * a + b)) = exA L (12 * a + b + 1) := by
  funext k j
  by_cases hk : k = 42
  · subst hk
    rw [xup_at]
    by_cases e : j = 13 * a + b
    · rw [if_pos e, e, exA_i ha hb hab (by omega)]
    · rw [if_neg e]
      unfold exA
      by_cases c : j < 156 ∧ j % 13 < 12 ∧ j / 13 ≠ j % 13 ∧ 12 * (j / 13) + j % 13 < 12 * a + b
      · rw [if_pos ⟨rfl, c⟩, if_pos ⟨rfl, c.1, c.2.1, c.2.2.1, by omega⟩]
      · rw [if_neg (fun z => c z.2), if_neg (fun z => c ⟨z.2.1, z.2.2.1, z.2.2.2.1, by omega⟩)]
  · rw [xup_ne hk, exA_ne hk, exA_ne hk]
theorem exA_d {L : xTL} {a : Nat} : exA L (12 * a + a) = exA L (12 * a + a + 1) := by
  funext k j
  unfold exA
  by_cases c : k = 42 ∧ j < 156 ∧ j % 13 < 12 ∧ j / 13 ≠ j % 13 ∧ 12 * (j / 13) + j % 13 < 12 * a + a
  · rw [if_pos c, if_pos ⟨c.1, c.2.1, c.2.2.1, c.2.2.2.1, by omega⟩]
  · rw [if_neg c, if_neg (fun z => c ⟨z.1, z.2.1, z.2.2.1, z.2.2.2.1, by have := z.2; omega⟩)]
theorem exA_0 {L : xTL} : exA L 0 = L := by
  funext k j; unfold exA; rw [if_neg (fun z => by omega)]
theorem extra_e (L : xTL) : F_X6_oweExtra xN L = some (wr (exA L 144) 6 0 (fun _ => 0) 144) := by
  unfold F_X6_oweExtra
  rw [show ((0 : Int32), L) = (fun a => (nI a, exA L (12 * a))) 0 by show _ = (nI 0, exA L (12 * 0)); rw [exA_0]; rfl]
  refine xlp_for (fun a => (nI a, exA L (12 * a))) 12 _ (fun a ha K => ?_) (fun K => ?_) xN (by decide)
  · show F_X6_oweExtra_c2 xN (nI a) (exA L (12 * a)) K = K (nI (a + 1), exA L (12 * a + 12))
    unfold F_X6_oweExtra_c2
    rw [if_neg (n12 ha), show ((0 : Int32), exA L (12 * a)) = (fun b => (nI b, exA L (12 * a + b))) 0 from rfl]
    refine xlp_for (fun b => (nI b, exA L (12 * a + b))) 12 _ (fun b hb K2 => ?_) (fun K2 => ?_) xN (by decide)
    · show F_X6_oweExtra_c10 K xN (nI a) (nI b) (exA L (12 * a + b)) K2 = K2 (nI (b + 1), exA L (12 * a + b + 1))
      unfold F_X6_oweExtra_c10 F_X6_owe
      rw [if_neg (n12 hb), xal_i (i := 12 * a + b) (by rw [show (12 : Int32) = nI 12 from rfl, nI_mul, nI_add, Nat.mul_comm]) (by omega) (by decide), exA_ne (by decide)]
      by_cases e : a = b
      · subst e
        rw [if_pos rfl, Option.bind_some, xbn_e, nI_1, exA_d]
      · rw [if_neg (fun z => e ((nI_eq (by omega) (by omega)).mp z)), xal_i (i := 13 * a + b) (by rw [show (13 : Int32) = nI 13 from rfl, nI_mul, nI_add, Nat.mul_comm]) (by omega) (by decide), xas_i (i := 13 * a + b) (by rw [show (13 : Int32) = nI 13 from rfl, nI_mul, nI_add, Nat.mul_comm]) (by omega) (by decide), exA_o (by omega) (Or.inl (Nat.le_refl _)), exA_s ha hb e, Option.bind_some, xbn_e, nI_1]
    · show F_X6_oweExtra_c10 K xN (nI a) (nI 12) (exA L (12 * a + 12)) K2 = _
      unfold F_X6_oweExtra_c10
      rw [if_pos (by decide), xbn_e, nI_1]
  · show F_X6_oweExtra_c2 xN (nI 12) (exA L (12 * 12)) K = _
    unfold F_X6_oweExtra_c2
    rw [if_pos (by decide), fillL6, Option.bind_some]
/-- what is above nought -/
def posL (v : Int64) : Int64 := if 0 < v then v else 0
abbrev lvD (a b x y : Nat) : Prop := (y < x ∧ (x < a ∨ (x = a ∧ y < b))) ∨ (x < y ∧ (y < a ∨ (y = a ∧ x < b)))
def lvA (L : xTL) (a b : Nat) : xTL := fun k j => if k = 42 ∧ j < 156 ∧ j % 13 < 12 ∧ lvD a b (j / 13) (j % 13) then posL (L 42 j - L 42 (13 * (j % 13) + j / 13)) else L k j
theorem lvA_ne {L : xTL} {a b k : Nat} (h : k ≠ 42) : lvA L a b k = L k := by
  funext j; unfold lvA; rw [if_neg (fun z => h z.1)]
theorem lvA_o {L : xTL} {a b x y : Nat} (hy : y < 13) (h : y = 12 ∨ ¬ lvD a b x y) : lvA L a b 42 (13 * x + y) = L 42 (13 * x + y) := by
  unfold lvA; rw [if_neg]
  rintro ⟨-, h1, h2, h3⟩
  rw [show (13 * x + y) / 13 = x by omega, show (13 * x + y) % 13 = y by omega] at h3
  rcases h with h | h
  · omega
  · exact h h3
theorem lvA_i {L : xTL} {a b x y : Nat} (hx : x < 12) (hy : y < 12) (h : lvD a b x y) : lvA L a b 42 (13 * x + y) = posL (L 42 (13 * x + y) - L 42 (13 * y + x)) := by
  unfold lvA
  rw [show (13 * x + y) / 13 = x by omega, show (13 * x + y) % 13 = y by omega, if_pos ⟨rfl, by omega, hy, h⟩]
theorem lvA_cg {L : xTL} {a b a' b' : Nat} (h : ∀ x y, x < 12 → y < 12 → (lvD a b x y ↔ lvD a' b' x y)) : lvA L a b = lvA L a' b' := by
  funext k j
  unfold lvA
  by_cases c : k = 42 ∧ j < 156 ∧ j % 13 < 12
  · have hh := h (j / 13) (j % 13) (by omega) c.2.2
    by_cases d : lvD a b (j / 13) (j % 13)
    · rw [if_pos ⟨c.1, c.2.1, c.2.2, d⟩, if_pos ⟨c.1, c.2.1, c.2.2, hh.mp d⟩]
    · rw [if_neg (fun z => d z.2.2.2), if_neg (fun z => d (hh.mpr z.2.2.2))]
  · rw [if_neg (fun z => c ⟨z.1, z.2.1, z.2.2.1⟩), if_neg (fun z => c ⟨z.1, z.2.1, z.2.2.1⟩)]
theorem neg_s (x y : Int64) : -(x - y) = y - x := by grind
theorem lvA_s {L : xTL} {a b : Nat} (ha : a < 12) (hb : b < a) : xup (xup (lvA L a b) 42 (13 * a + b) (posL (L 42 (13 * a + b) - L 42 (13 * b + a)))) 42 (13 * b + a) (posL (L 42 (13 * b + a) - L 42 (13 * a + b))) = lvA L a (b + 1) := by
  funext k j
  by_cases hk : k = 42
  · subst hk
    rw [xup_at, xup_at]
    by_cases e : j = 13 * b + a
    · rw [if_pos e, e, lvA_i (by omega) ha (by omega)]
    · rw [if_neg e]
      by_cases e2 : j = 13 * a + b
      · rw [if_pos e2, e2, lvA_i ha (by omega) (by omega)]
      · rw [if_neg e2]
        unfold lvA
        by_cases c : j < 156 ∧ j % 13 < 12 ∧ lvD a b (j / 13) (j % 13)
        · rw [if_pos ⟨rfl, c⟩, if_pos ⟨rfl, c.1, c.2.1, by have := c.2.2; omega⟩]
        · rw [if_neg (fun z => c z.2), if_neg (fun z => c ⟨z.2.1, z.2.2.1, by have := z.2.2.2; omega⟩)]
  · rw [xup_ne hk, xup_ne hk, lvA_ne hk, lvA_ne hk]
theorem sumOf42 {L : xTL} {ow : Nat → Nat → Nat} {a : Nat} (ha : a < 12) (h : ∀ c, c < 13 → L 42 (13 * a + c) = lN (ow a c)) : F_X6_sumOf_42 xN L (nI a) = some (lN (SF (ow a) 13)) := by
  unfold F_X6_sumOf_42
  rw [show ((0 : Int64), (0 : Int32)) = (fun c => (lN (SF (ow a) c), nI c)) 0 from rfl]
  refine xlp_for (fun c => (lN (SF (ow a) c), nI c)) 13 _ (fun c hc K => ?_) (fun K => ?_) xN (by decide)
  · show F_X6_sumOf_42_c5 xN L (nI a) (lN (SF (ow a) c)) (nI c) K = K (lN (SF (ow a) (c + 1)), nI (c + 1))
    unfold F_X6_sumOf_42_c5
    rw [if_neg (show ¬ (13 : Int32) ≤ nI c from nI_ge (b := 13) hc (by decide)), xal_i (i := 13 * a + c) (by rw [show (13 : Int32) = nI 13 from rfl, nI_mul, nI_add, Nat.mul_comm]) (by omega) (by decide), h c hc, xbn_e, xbn_e, lN_add, nI_1]; rfl
  · show F_X6_sumOf_42_c5 xN L (nI a) (lN (SF (ow a) 13)) (nI 13) K = _
    unfold F_X6_sumOf_42_c5
    rw [if_pos (by decide)]
theorem rest_e {L : xTL} {ow : Nat → Nat → Nat} (h : ∀ a c, a < 12 → c < 13 → lvA L 12 0 42 (13 * a + c) = lN (ow a c)) : F_X6_leaveTheRest xN L = some (wr (lvA L 12 0) 45 0 (fun a => lN (SF (ow a) 13)) 12) := by
  unfold F_X6_leaveTheRest
  rw [show ((0 : Int32), L) = (fun a => (nI a, lvA L a 0)) 0 by
    show _ = (nI 0, lvA L 0 0)
    congr 1
    funext k j; unfold lvA; rw [if_neg (fun z => by omega)]]
  refine xlp_for (fun a => (nI a, lvA L a 0)) 12 _ (fun a ha K => ?_) (fun K => ?_) xN (by decide)
  · show F_X6_leaveTheRest_c2 xN (nI a) (lvA L a 0) K = K (nI (a + 1), lvA L (a + 1) 0)
    unfold F_X6_leaveTheRest_c2
    rw [if_neg (n12 ha), show ((0 : Int32), lvA L a 0) = (fun b => (nI b, lvA L a b)) 0 from rfl]
    refine xlp_for (fun b => (nI b, lvA L a b)) a _ (fun b hb K2 => ?_) (fun K2 => ?_) xN (by have : xN = 100000 := rfl; omega)
    · show F_X6_leaveTheRest_c10 K xN (nI a) (nI b) (lvA L a b) K2 = K2 (nI (b + 1), lvA L a (b + 1))
      have e1 : nI a * 13 + nI b = nI (13 * a + b) := by rw [show (13 : Int32) = nI 13 from rfl, nI_mul, nI_add, Nat.mul_comm]
      have e2 : nI b * 13 + nI a = nI (13 * b + a) := by rw [show (13 : Int32) = nI 13 from rfl, nI_mul, nI_add, Nat.mul_comm]
      unfold F_X6_leaveTheRest_c10
      rw [if_neg (nI_ge hb (by omega)), e1, e2, xal_n (by omega) (by decide), xal_n (by omega) (by decide), lvA_o (by omega) (Or.inr (by omega)), lvA_o (by omega) (Or.inr (by omega)), xbn_e, xbn_e, xas_n (by omega) (by decide), xbn_e, xas_n (by omega) (by decide), xbn_e, nI_1, neg_s, ← lvA_s ha hb]
      rfl
    · show F_X6_leaveTheRest_c10 K xN (nI a) (nI a) (lvA L a a) K2 = _
      unfold F_X6_leaveTheRest_c10
      rw [if_pos (Int32.le_refl _), xbn_e, nI_1, lvA_cg (a' := a + 1) (b' := 0) (fun x y hx hy => by omega)]
  · show F_X6_leaveTheRest_c2 xN (nI 12) (lvA L 12 0) K = _
    unfold F_X6_leaveTheRest_c2
    rw [if_pos (by decide), show ((0 : Int32), lvA L 12 0) = (fun a => (nI a, wr (lvA L 12 0) 45 0 (fun a => lN (SF (ow a) 13)) a)) 0 from rfl]
    refine xlp_for (fun a => (nI a, wr (lvA L 12 0) 45 0 (fun a => lN (SF (ow a) 13)) a)) 12 _ (fun a ha K2 => ?_) (fun K2 => ?_) xN (by decide)
    · show F_X6_leaveTheRest_c86 xN (nI a) (wr (lvA L 12 0) 45 0 (fun a => lN (SF (ow a) 13)) a) K2 = K2 (nI (a + 1), wr (lvA L 12 0) 45 0 (fun a => lN (SF (ow a) 13)) (a + 1))
      unfold F_X6_leaveTheRest_c86
      rw [if_neg (n12 ha), sumOf42 (ow := ow) ha (fun c hc => by rw [wr_ne (by decide)]; exact h a c ha hc), Option.bind_some, xas_n ha (by decide), xbn_e, nI_1, ← wrs a]
    · show F_X6_leaveTheRest_c86 xN (nI 12) (wr (lvA L 12 0) 45 0 (fun a => lN (SF (ow a) 13)) 12) K2 = _
      unfold F_X6_leaveTheRest_c86
      rw [if_pos (by decide)]
/-- the reference takes the smaller from both -/
abbrev ntD (m a b x y : Nat) : Prop := (x < y ∧ y < m ∧ (x < a ∨ (x = a ∧ y < b))) ∨ (y < x ∧ x < m ∧ (y < a ∨ (y = a ∧ x < b)))
def ntA (rf : Nat → Nat → Nat) (m : Nat) (M : xTL) (a b : Nat) : xTL := fun k j => if k = 70 ∧ j < 144 ∧ ntD m a b (j / 12) (j % 12) then lN (rf (j / 12) (j % 12) - rf (j % 12) (j / 12)) else M k j
theorem ntA_ne {rf : Nat → Nat → Nat} {m : Nat} {M : xTL} {a b k : Nat} (h : k ≠ 70) : ntA rf m M a b k = M k := by
  funext j; unfold ntA; rw [if_neg (fun z => h z.1)]
theorem ntA_o {rf : Nat → Nat → Nat} {m : Nat} {M : xTL} {a b x y : Nat} (hy : y < 12) (h : ¬ ntD m a b x y) : ntA rf m M a b 70 (12 * x + y) = M 70 (12 * x + y) := by
  unfold ntA; rw [if_neg]
  rintro ⟨-, h1, h3⟩
  rw [show (12 * x + y) / 12 = x by omega, show (12 * x + y) % 12 = y by omega] at h3
  exact h h3
theorem ntA_i {rf : Nat → Nat → Nat} {m : Nat} {M : xTL} {a b x y : Nat} (hx : x < 12) (hy : y < 12) (h : ntD m a b x y) : ntA rf m M a b 70 (12 * x + y) = lN (rf x y - rf y x) := by
  unfold ntA
  rw [show (12 * x + y) / 12 = x by omega, show (12 * x + y) % 12 = y by omega, if_pos ⟨rfl, by omega, h⟩]
theorem ntA_cg {rf : Nat → Nat → Nat} {m : Nat} {M : xTL} {a b a' b' : Nat} (h : ∀ x y, x < 12 → y < 12 → (ntD m a b x y ↔ ntD m a' b' x y)) : ntA rf m M a b = ntA rf m M a' b' := by
  funext k j
  unfold ntA
  by_cases c : k = 70 ∧ j < 144
  · have hh := h (j / 12) (j % 12) (by omega) (by omega)
    by_cases d : ntD m a b (j / 12) (j % 12)
    · rw [if_pos ⟨c.1, c.2, d⟩, if_pos ⟨c.1, c.2, hh.mp d⟩]
    · rw [if_neg (fun z => d z.2.2), if_neg (fun z => d (hh.mpr z.2.2))]
  · rw [if_neg (fun z => c ⟨z.1, z.2.1⟩), if_neg (fun z => c ⟨z.1, z.2.1⟩)]
theorem ntA_s {rf : Nat → Nat → Nat} {m : Nat} {M : xTL} {a b : Nat} (hm : m ≤ 12) (hb : b < m) (hab : a < b) : xup (xup (ntA rf m M a b) 70 (12 * a + b) (lN (rf a b - rf b a))) 70 (12 * b + a) (lN (rf b a - rf a b)) = ntA rf m M a (b + 1) := by
  funext k j
  by_cases hk : k = 70
  · subst hk
    rw [xup_at, xup_at]
    by_cases e : j = 12 * b + a
    · rw [if_pos e, e, ntA_i (by omega) (by omega) (by omega)]
    · rw [if_neg e]
      by_cases e2 : j = 12 * a + b
      · rw [if_pos e2, e2, ntA_i (by omega) (by omega) (by omega)]
      · rw [if_neg e2]
        unfold ntA
        by_cases c : j < 144 ∧ ntD m a b (j / 12) (j % 12)
        · rw [if_pos ⟨rfl, c⟩, if_pos ⟨rfl, c.1, by have := c.2; omega⟩]
        · rw [if_neg (fun z => c z.2), if_neg (fun z => c ⟨z.2.1, by have := z.2.2; omega⟩)]
  · rw [xup_ne hk, xup_ne hk, ntA_ne hk, ntA_ne hk]
theorem net_e {J : xTI} {M : xTL} {rf ow : Nat → Nat → Nat} {m : Nat} (hm : m ≤ 12) (h : ∀ a b, a < 12 → b < 12 → M 70 (12 * a + b) = lN (rf a b)) (hB : ∀ a b, a < 12 → b < 12 → rf a b < 2 ^ 62) (ho : ∀ a b, a < 12 → b < 12 → ow a b = rf a b - rf b a) (h70 : ∀ a b, a < 12 → b < 12 → ntA rf m M m (m + 1) 70 (12 * a + b) = lN (ow a b)) (h71 : ∀ a, a < 12 → M 71 a = lN (ow a 12)) : xlp (F_X11_owed_b462 xN J (nI m)) xN (0, M) = some (J, wr (ntA rf m M m (m + 1)) 72 0 (fun a => lN (ow a 12 + SF (ow a) m)) m) := by
  rw [show ((0 : Int32), M) = (fun a => (nI a, ntA rf m M a (a + 1))) 0 by
    show _ = (nI 0, ntA rf m M 0 (0 + 1))
    congr 1
    funext k j; unfold ntA; rw [if_neg (fun z => by have := z.2.2; omega)]]
  refine xlp_for (fun a => (nI a, ntA rf m M a (a + 1))) m _ (fun a ha K => ?_) (fun K => ?_) xN (by have : xN = 100000 := rfl; omega)
  · show F_X11_owed_c462 xN J (nI m) (nI a) (ntA rf m M a (a + 1)) K = K (nI (a + 1), ntA rf m M (a + 1) (a + 1 + 1))
    unfold F_X11_owed_c462
    rw [if_neg (nI_ge ha (by omega)), xbn_e, nI_1, show (nI (a + 1), ntA rf m M a (a + 1)) = (fun t => (nI (a + 1 + t), ntA rf m M a (a + 1 + t))) 0 from rfl]
    refine xlp_for (fun t => (nI (a + 1 + t), ntA rf m M a (a + 1 + t))) (m - (a + 1)) _ (fun t ht K2 => ?_) (fun K2 => ?_) xN (by have : xN = 100000 := rfl; omega)
    · show F_X11_owed_c472 K xN J (nI m) (nI a) (nI (a + 1 + t)) (ntA rf m M a (a + 1 + t)) K2 = K2 (nI (a + 1 + t + 1), ntA rf m M a (a + 1 + t + 1))
      have hb : a + 1 + t < m := by omega
      have hab : a < a + 1 + t := by omega
      generalize a + 1 + t = b at hb hab ⊢
      have e1 : 12 * nI a + nI b = nI (12 * a + b) := by rw [show (12 : Int32) = nI 12 from rfl, nI_mul, nI_add]
      have e2 : 12 * nI b + nI a = nI (12 * b + a) := by rw [show (12 : Int32) = nI 12 from rfl, nI_mul, nI_add]
      have r1 : ntA rf m M a b 70 (12 * a + b) = lN (rf a b) := by rw [ntA_o (by omega) (by omega)]; exact h a b (by omega) (by omega)
      have r2 : ntA rf m M a b 70 (12 * b + a) = lN (rf b a) := by rw [ntA_o (by omega) (by omega)]; exact h b a (by omega) (by omega)
      have q1 := hB a b (by omega) (by omega)
      have q2 := hB b a (by omega) (by omega)
      unfold F_X11_owed_c472
      rw [if_neg (nI_ge hb (by omega)), e1, e2, xal_n (by omega) (by decide), xal_n (by omega) (by decide), r1, r2, ← ntA_s hm hb hab]
      have hj : ∀ w, w = min (rf a b) (rf b a) → F_X11_owed_j533 K K2 xN J (ntA rf m M a b) (nI m) (nI a) (nI b) (lN w) = K2 (nI (b + 1), xup (xup (ntA rf m M a b) 70 (12 * a + b) (lN (rf a b - rf b a))) 70 (12 * b + a) (lN (rf b a - rf a b))) := fun w hw => by
        unfold F_X11_owed_j533
        rw [e1, e2, xal_n (by omega) (by decide), r1, xas_n (by omega) (by decide), xal_n (by omega) (by decide), xup_at, if_neg (by omega), r2, xas_n (by omega) (by decide), xbn_e, nI_1, lN_sub (by omega), lN_sub (by omega), show rf a b - w = rf a b - rf b a by omega, show rf b a - w = rf b a - rf a b by omega]
      by_cases e : rf b a ≤ rf a b
      · rw [if_pos ((lg_cmp_ge _ _).mpr ((pk_lLE (by omega) (by omega)).mpr e)), xal_n (by omega) (by decide), r2, hj _ (by omega)]
      · rw [if_neg (fun z => e ((pk_lLE (by omega) (by omega)).mp ((lg_cmp_ge _ _).mp z))), xal_n (by omega) (by decide), r1, hj _ (by omega)]
    · show F_X11_owed_c472 K xN J (nI m) (nI a) (nI (a + 1 + (m - (a + 1)))) (ntA rf m M a (a + 1 + (m - (a + 1)))) K2 = _
      rw [show a + 1 + (m - (a + 1)) = m by omega]
      unfold F_X11_owed_c472
      rw [if_pos (Int32.le_refl _), xbn_e, nI_1, ntA_cg (a' := a + 1) (b' := a + 1 + 1) (fun x y hx hy => by omega)]
  · show F_X11_owed_c462 xN J (nI m) (nI m) (ntA rf m M m (m + 1)) K = _
    unfold F_X11_owed_c462
    rw [if_pos (Int32.le_refl _), show ((0 : Int32), ntA rf m M m (m + 1)) = (fun a => (nI a, wr (ntA rf m M m (m + 1)) 72 0 (fun a => lN (ow a 12 + SF (ow a) m)) a)) 0 from rfl]
    refine xlp_for (fun a => (nI a, wr (ntA rf m M m (m + 1)) 72 0 (fun a => lN (ow a 12 + SF (ow a) m)) a)) m _ (fun a ha K2 => ?_) (fun K2 => ?_) xN (by have : xN = 100000 := rfl; omega)
    · show F_X11_owed_c583 xN J (nI m) (nI a) (wr (ntA rf m M m (m + 1)) 72 0 (fun a => lN (ow a 12 + SF (ow a) m)) a) K2 = K2 (nI (a + 1), wr (ntA rf m M m (m + 1)) 72 0 (fun a => lN (ow a 12 + SF (ow a) m)) (a + 1))
      unfold F_X11_owed_c583
      rw [if_neg (nI_ge ha (by omega)), xal_n (by omega) (by decide), wr_ne (by decide), ntA_ne (by decide), h71 a (by omega), xas_n (by omega) (by decide)]
      have h70' : ∀ b, b < 12 → wr (ntA rf m M m (m + 1)) 72 0 (fun a => lN (ow a 12 + SF (ow a) m)) a 70 (12 * a + b) = lN (ow a b) := fun b hb => by rw [wr_ne (by decide)]; exact h70 a b (by omega) hb
      rw [← wrs a]
      generalize wr (ntA rf m M m (m + 1)) 72 0 (fun a => lN (ow a 12 + SF (ow a) m)) a = M' at h70' ⊢
      rw [show ((0 : Int32), xup M' 72 a (lN (ow a 12))) = (fun b => (nI b, xup M' 72 a (lN (ow a 12 + SF (ow a) b)))) 0 from rfl]
      refine xlp_for (fun b => (nI b, xup M' 72 a (lN (ow a 12 + SF (ow a) b)))) m _ (fun b hb K3 => ?_) (fun K3 => ?_) xN (by have : xN = 100000 := rfl; omega)
      · show F_X11_owed_c603 K2 xN J (nI m) (nI a) (nI b) (xup M' 72 a (lN (ow a 12 + SF (ow a) b))) K3 = K3 (nI (b + 1), xup M' 72 a (lN (ow a 12 + SF (ow a) (b + 1))))
        unfold F_X11_owed_c603
        rw [if_neg (nI_ge hb (by omega)), xal_n (by omega) (by decide), xup_at, if_pos rfl, xal_i (i := 12 * a + b) (by rw [show (12 : Int32) = nI 12 from rfl, nI_mul, nI_add]) (by omega) (by decide), xup_ne (by decide), h70' b (by omega), xas_n (by omega) (by decide), xbn_e, nI_1, lN_add, xup_xup, SF, Nat.add_assoc]
      · show F_X11_owed_c603 K2 xN J (nI m) (nI a) (nI m) (xup M' 72 a (lN (ow a 12 + SF (ow a) m))) K3 = _
        unfold F_X11_owed_c603
        rw [if_pos (Int32.le_refl _), xbn_e, nI_1]
    · show F_X11_owed_c583 xN J (nI m) (nI m) (wr (ntA rf m M m (m + 1)) 72 0 (fun a => lN (ow a 12 + SF (ow a) m)) m) K2 = _
      unfold F_X11_owed_c583
      rw [if_pos (Int32.le_refl _)]
/-- what each owes each, and the market (12), in the end -/
def OWn (L M : xTL) (s : Nat → Int32) (q : Nat → Nat) (ow : Nat → Nat → Nat) (B : Nat) : Prop := (∀ a c, a < 12 → c < 13 → L 42 (13 * a + c) = lN (ow a c)) ∧ (∀ a b, a < 12 → b < 12 → M 70 (12 * a + b) = lN (ow a b)) ∧ (∀ a, a < 12 → M 71 a = lN (ow a 12)) ∧ (∀ a, a < 12 → L 45 a = lN (SF (ow a) 13)) ∧ (∀ a, a < q 1 → M 72 a = lN (SF (ow a) 13)) ∧ (∀ a c, a < 12 → c < 13 → (¬ manA s q a ∨ (c < 12 ∧ ¬ manA s q c) ∨ a = c) → ow a c = 0) ∧ SF (fun a => SF (ow a) 13) 12 ≤ B
theorem posL_n {x y : Nat} (hx : x < 2 ^ 62) (hy : y < 2 ^ 62) : posL (lN x - lN y) = lN (x - y) := by
  unfold posL
  have e : (lN x - lN y).toInt = (x : Int) - y := by
    rw [Int64.toInt_sub, pk_lT (by omega), pk_lT (by omega), Int.bmod_eq_of_le (by omega) (by omega)]
  have z : (0 : Int64).toInt = 0 := by decide
  by_cases h : y < x
  · rw [if_pos (by rw [Int64.lt_iff_toInt_lt, e]; omega), lN_sub (by omega)]
  · rw [if_neg (by rw [Int64.lt_iff_toInt_lt, e]; omega), show x - y = 0 by omega]; rfl
theorem rest_sim {J : xTI} {L M : xTL} {s : Nat → Int32} {q : Nat → Nat} {ex rf : Nat → Nat → Nat} {mk : Nat → Nat} {B : Nat} (h : OWs L M s q ex rf mk B) (hq : q 1 ≤ 12) (hB : B < 2 ^ 62) (h6 : ∀ a b, a < 12 → b < 12 → L 6 (12 * a + b) = lN (ex a b)) : ∃ L2 M2 ow, Option.bind (F_X6_oweExtra xN L) (fun L7 => F_X6_leaveTheRest xN L7) = some L2 ∧ xlp (F_X11_owed_b462 xN J (nI (q 1))) xN (0, M) = some (J, M2) ∧ OWn L2 M2 s q ow B ∧ (∀ j, j < 144 → L2 6 j = 0) ∧ (∀ k, k ≠ 42 → k ≠ 6 → k ≠ 45 → L2 k = L k) ∧ (∀ k, k ≠ 70 → k ≠ 72 → M2 k = M k) := by
  obtain ⟨h1, h2, h3, h4, h5⟩ := h
  have hle : ∀ a b, a < 12 → b < 12 → rf a b < 2 ^ 62 := fun a b ha hb => by
    have := rfT_le (rf := rf) (mk := mk) ha hb; omega
  let ow : Nat → Nat → Nat := fun a c => if c = 12 then mk a else rf a c - rf c a
  have ow12 : ∀ a, ow a 12 = mk a := fun a => if_pos rfl
  have owb : ∀ a b, b < 12 → ow a b = rf a b - rf b a := fun a b hb => if_neg (by omega)
  have hz : ∀ a c, a < 12 → c < 13 → (¬ manA s q a ∨ (c < 12 ∧ ¬ manA s q c) ∨ a = c) → ow a c = 0 := fun a c ha hc hh => by
    by_cases e : c = 12
    · subst e
      rw [ow12]
      rcases hh with hh | hh | hh
      · exact h4 a ha hh
      · exact absurd hh.1 (by decide)
      · omega
    · rw [owb a c (by omega), h3 a c ha (by omega) (by
        rcases hh with hh | hh | hh
        · exact Or.inr (Or.inl hh)
        · exact Or.inr (Or.inr hh.2)
        · exact Or.inl hh), Nat.zero_sub]
  have hex : ∀ k, k ≠ 6 → wr (exA L 144) 6 0 (fun _ => 0) 144 k = exA L 144 k := fun k hk => wr_ne hk _
  have hx42 : ∀ a b, a < 12 → b < 12 → a ≠ b → exA L 144 42 (13 * a + b) - exA L 144 42 (13 * b + a) = lN (rf a b) - lN (rf b a) := fun a b ha hb hab => by
    rw [exA_i ha hb hab (by omega), exA_i hb ha (Ne.symm hab) (by omega), h6 a b ha hb, h6 b a hb ha]
    have := (h2 a b ha hb).2
    grind
  have hlv : ∀ a c, a < 12 → c < 13 → lvA (wr (exA L 144) 6 0 (fun _ => 0) 144) 12 0 42 (13 * a + c) = lN (ow a c) := fun a c ha hc => by
    by_cases e : c = 12
    · subst e
      rw [lvA_o (by decide) (Or.inl rfl), hex 42 (by decide), exA_o (by decide) (Or.inr (Or.inl rfl)), ow12]
      exact (h1 a ha).2.1
    · by_cases e2 : a = c
      · subst e2
        rw [lvA_o (by omega) (Or.inr (by omega)), hex 42 (by decide), exA_o (by omega) (Or.inr (Or.inr rfl)), (h1 a ha).1, hz a a ha hc (Or.inr (Or.inr rfl))]; rfl
      · rw [lvA_i ha (by omega) (by omega), hex 42 (by decide), hx42 a c ha (by omega) e2, posL_n (hle a c ha (by omega)) (hle c a (by omega) ha), owb a c (by omega)]
  have hnt : ∀ a b, a < 12 → b < 12 → ntA rf (q 1) M (q 1) (q 1 + 1) 70 (12 * a + b) = lN (ow a b) := fun a b ha hb => by
    by_cases d : ntD (q 1) (q 1) (q 1 + 1) a b
    · rw [ntA_i ha hb d, owb a b hb]
    · rw [ntA_o hb d, (h2 a b ha hb).1]
      have : a = b ∨ ¬ manA s q a ∨ ¬ manA s q b := by
        by_cases e : a = b
        · exact Or.inl e
        · by_cases e2 : a < q 1
          · right; right; intro z; have := z.1; omega
          · right; left; intro z; exact e2 z.1
      rw [h3 a b ha hb this, hz a b ha (by omega) (by
        rcases this with hh | hh | hh
        · exact Or.inr (Or.inr hh)
        · exact Or.inl hh
        · exact Or.inr (Or.inl ⟨hb, hh⟩))]
  have hsum : ∀ a, a < 12 → ow a 12 + SF (ow a) (q 1) = SF (ow a) 13 := fun a ha => by
    rw [show SF (ow a) 13 = SF (ow a) 12 + ow a 12 from rfl]
    have := SF_tail (f := ow a) (m := q 1) (12 - q 1) (fun i e1 e2 => hz a i ha (by omega) (Or.inr (Or.inl ⟨by omega, fun z => by have := z.1; omega⟩)))
    rw [show q 1 + (12 - q 1) = 12 by omega] at this
    omega
  have hne := net_e (J := J) (M := M) (rf := rf) (ow := ow) (m := q 1) hq (fun a b ha hb => (h2 a b ha hb).1) hle (fun a b ha hb => owb a b hb) hnt (fun a ha => by rw [ow12]; exact (h1 a ha).2.2)
  refine ⟨_, _, ow, by rw [extra_e, Option.bind_some]; exact rest_e hlv, hne, ⟨fun a c ha hc => ?_, fun a b ha hb => ?_, fun a ha => ?_, fun a ha => ?_, fun a ha => ?_, hz, ?_⟩, fun j hj => ?_, fun k e1 e2 e3 => ?_, fun k e1 e2 => ?_⟩
  · rw [wr_ne (by decide)]; exact hlv a c ha hc
  · rw [wr_ne (by decide)]; exact hnt a b ha hb
  · rw [wr_ne (by decide), ntA_ne (by decide), (h1 a ha).2.2, ow12]
  · rw [wrZ ha]
  · rw [wrZ ha, hsum a (by omega)]
  · refine Nat.le_trans (SF_mono 12 (fun a ha => ?_)) h5
    show SF (ow a) 12 + ow a 12 ≤ SF (rf a) 12 + mk a
    rw [ow12]
    have := SF_mono (f := ow a) (g := rf a) 12 (fun b hb => by rw [owb a b hb]; omega)
    omega
  · rw [wr_ne (by decide), lvA_ne (by decide), wrZ hj]
  · rw [wr_ne e3, lvA_ne e1, hex k e2, exA_ne e1]
  · rw [wr_ne e2, ntA_ne e1]
end
