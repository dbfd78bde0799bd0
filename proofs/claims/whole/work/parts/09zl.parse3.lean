section PARSE3
variable {tb : Nat → Nat} {sz : Nat}
theorem wNum_q : ∀ v, v < 20 → ∀ v', v' < 20 → wNum v = wNum v' → v = v' := by decide +kernel
theorem wNum_lt : ∀ v, v < 20 → wNum v < 2 ^ 63 := by decide
theorem sgn_b {b : Nat} (h : sgn b) : 37 ≤ b ∧ b ≤ 62 := by unfold sgn at h; omega
theorem wk {c : Cu} (hc : CuOK sz c) {w : Nat} (h1 : 16 ≤ w) (h2 : w < 20) : (cR c = 1 ∧ cW c = Int64.ofNat (wNum w)) ↔ cK c = nI (w - 12) := by
  obtain ⟨-, -, -, t⟩ := hc
  constructor
  · rintro ⟨r, x⟩
    rcases t with ⟨-, b⟩ | ⟨-, b | ⟨-, b⟩⟩ | ⟨-, b, -⟩ | ⟨-, w', b1, b2, b3, -⟩ | ⟨b, -⟩
    · rw [r] at b; exact absurd b (by decide)
    · rw [r] at b; exact absurd b (by decide)
    · exact absurd x (b w h2)
    · rw [r] at b; exact absurd b (by decide)
    · rw [x] at b2
      have := wNum_q w h2 w' b1 ((i64n (wNum_lt w h2) (wNum_lt w' b1)).mp b2)
      subst this
      rw [b3]; unfold wKd; rw [if_neg (by omega), if_neg (by omega)]
    · rw [r] at b; exact absurd b (by decide)
  · intro x
    rcases t with ⟨a, -⟩ | ⟨a, -⟩ | ⟨a, -, -⟩ | ⟨r, w', b1, b2, b3, -⟩ | ⟨-, b, b1, b2, -⟩
    · rw [x] at a; have := (nI_lq (c := 8) rfl (by omega) (by decide)).mp a; omega
    · rw [x] at a; have := (nI_lq (c := 9) rfl (by omega) (by decide)).mp a; omega
    · rw [x] at a; have := (nI_lq (c := 3) rfl (by omega) (by decide)).mp a; omega
    · rw [x] at b3
      unfold wKd at b3
      by_cases g : w' < 6
      · rw [if_pos g] at b3; have := (nI_lq (c := 1) rfl (by omega) (by decide)).mp b3; omega
      · rw [if_neg g] at b3
        by_cases g2 : w' < 16
        · rw [if_pos g2] at b3; have := (nI_lq (c := 2) rfl (by omega) (by decide)).mp b3; omega
        · rw [if_neg g2] at b3
          have := (nI_eq (by omega) (by omega)).mp b3
          have e : w = w' := by omega
          subst e
          exact ⟨r, b2⟩
    · have := sgn_b b1
      rw [x] at b2
      have := (nI_eq (by omega) (by omega)).mp b2
      omega
theorem sk {c : Cu} (hc : CuOK sz c) {b : Nat} (hs : sgn b) : (cR c = 3 ∧ cW c = Int64.ofNat b) ↔ cK c = nI b := by
  obtain ⟨-, -, -, t⟩ := hc
  have hb := sgn_b hs
  constructor
  · rintro ⟨r, x⟩
    rcases t with ⟨-, b⟩ | ⟨-, b | ⟨b, -⟩⟩ | ⟨-, b, -⟩ | ⟨b, -⟩ | ⟨-, b', b1, b2, b3⟩
    · rw [r] at b; exact absurd b (by decide)
    · rw [r] at b; exact absurd b (by decide)
    · rw [r] at b; exact absurd b (by decide)
    · rw [r] at b; exact absurd b (by decide)
    · rw [r] at b; exact absurd b (by decide)
    · have := sgn_b b1
      rw [x] at b3
      have := (i64n (by omega) (by omega)).mp b3
      subst this
      exact b2
  · intro x
    rcases t with ⟨a, -⟩ | ⟨a, -⟩ | ⟨a, -, -⟩ | ⟨-, w', b1, -, b3, -⟩ | ⟨r, b', b1, b2, b3⟩
    · rw [x] at a; have := (nI_lq (c := 8) rfl (by omega) (by decide)).mp a; omega
    · rw [x] at a; have := (nI_lq (c := 9) rfl (by omega) (by decide)).mp a; omega
    · rw [x] at a; have := (nI_lq (c := 3) rfl (by omega) (by decide)).mp a; omega
    · rw [x] at b3
      unfold wKd at b3
      by_cases g : w' < 6
      · rw [if_pos g] at b3; have := (nI_lq (c := 1) rfl (by omega) (by decide)).mp b3; omega
      · rw [if_neg g] at b3
        by_cases g2 : w' < 16
        · rw [if_pos g2] at b3; have := (nI_lq (c := 2) rfl (by omega) (by decide)).mp b3; omega
        · rw [if_neg g2] at b3; have := (nI_eq (by omega) (by omega)).mp b3; omega
    · have := sgn_b b1
      rw [x] at b2
      have := (nI_eq (by omega) (by omega)).mp b2
      subst this
      exact ⟨r, b3⟩
theorem qW {c : Cu} {o : Nat} {nm : Nat → Int32} {k b : Int32} {I : xTI} {L : xTL} (hc : CuOK sz c) (h : AtR tb sz c o nm k b I L) {x : Int64} {y : Int32} {w : Nat} (hx : x = Int64.ofNat (wNum w)) (hy : y = nI (w - 12)) (h1 : 16 ≤ w) (h2 : w < 20) : F_X11_isWord I L x = some (if cK c = y then 1 else 0) := by
  obtain ⟨-, -, -, a8, a10, -, a13, -⟩ := h
  have hk := wk hc h1 h2
  subst hx; subst hy
  by_cases g : cR c = 1
  · rw [isW a13 (by rw [a8, g]), a10 (Or.inl g)]
    by_cases g2 : cW c = Int64.ofNat (wNum w)
    · rw [if_pos g2, if_pos (hk.mp ⟨g, g2⟩)]
    · rw [if_neg g2, if_neg (fun e => g2 (hk.mpr e).2)]
  · rw [isW_n (Or.inr (by rw [a8]; exact g)), if_neg (fun e => g (hk.mpr e).1)]
theorem qS {c : Cu} {o : Nat} {nm : Nat → Int32} {k b : Int32} {I : xTI} {L : xTL} (hc : CuOK sz c) (h : AtR tb sz c o nm k b I L) {x : Int32} {w : Nat} (hx : x = nI w) (hs : sgn w) : F_X11_isSign I L x = some (if cK c = x then 1 else 0) := by
  obtain ⟨-, -, -, a8, a10, -, a13, -⟩ := h
  have hk := sk hc hs
  have hw := sgn_b hs
  subst hx
  by_cases g : cR c = 3
  · rw [isS a13 (by rw [a8, g]), a10 (Or.inr (Or.inr g)), nI_i64 (by omega)]
    by_cases g2 : cW c = Int64.ofNat w
    · rw [if_pos g2, if_pos (hk.mp ⟨g, g2⟩)]
    · rw [if_neg g2, if_neg (fun e => g2 (hk.mpr e).2)]
  · rw [isS_n (Or.inr (by rw [a8]; exact g)), if_neg (fun e => g (hk.mpr e).1)]
/-- the worth of a sign at hand -/
theorem qV {c : Cu} {o : Nat} {nm : Nat → Int32} {k b : Int32} {I : xTI} {L : xTL} (hc : CuOK sz c) (h : AtR tb sz c o nm k b I L) {w : Nat} (hs : sgn w) (hk : cK c = nI w) : L 57 10 = Int64.ofNat w := by
  obtain ⟨-, -, -, a8, a10, -⟩ := h
  have := (sk hc hs).mpr hk
  rw [a10 (Or.inr (Or.inr this.1)), this.2]
/-! the four levels that join many -/
theorem div_m1 (x : Int32) : x / (-1) = -x := by
  apply Int32.toInt_inj.mp
  rw [Int32.toInt_div, show (-1 : Int32).toInt = -1 by decide, Int32.toInt_neg, Int.tdiv_neg, Int.tdiv_one]
theorem rem_m1 (x : Int32) : x - x / (-1) * (-1) = 0 := by
  rw [div_m1, Int32.neg_mul_neg, Int32.mul_one, Int32.sub_self]
end PARSE3
