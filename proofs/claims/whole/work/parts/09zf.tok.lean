/-! THE TEXT of a rule, token by token: tb its bytes, sz how many; p where reading goes on. -/
theorem run_ex (P : Nat → Prop) : ∀ (d p e : Nat), e = p + d → ∃ m, p ≤ m ∧ m ≤ e ∧ (∀ i, p ≤ i → i < m → P i) ∧ (m < e → ¬ P m)
  | 0, p, e, h => ⟨p, by omega, by omega, fun i _ _ => by omega, fun _ => by omega⟩
  | d + 1, p, e, h => by
    by_cases hp : P p
    · obtain ⟨m, a, b, c, f⟩ := run_ex P d (p + 1) e (by omega)
      refine ⟨m, by omega, b, fun i h1 h2 => ?_, f⟩
      by_cases e1 : i = p
      · subst e1; exact hp
      · exact c i (by omega) h2
    · exact ⟨p, by omega, by omega, fun i _ _ => by omega, fun _ => hp⟩
theorem xup_id {α : Type} {I : Nat → Nat → α} {k i : Nat} {v : α} (h : I k i = v) : xup I k i v = I := by
  funext k' i'
  unfold xup
  by_cases e : k' = k ∧ i' = i
  · rw [if_pos e, e.1, e.2, h]
  · rw [if_neg e]
theorem xup_eq {α : Type} {I : Nat → Nat → α} {k i : Nat} {v : α} : xup I k i v k i = v := by simp [xup]
theorem xup_nj {α : Type} {I : Nat → Nat → α} {k i j : Nat} {v : α} (h : j ≠ i) : xup I k i v k j = I k j := by simp [xup, h]
theorem xup_xup {α : Type} {I : Nat → Nat → α} {k i : Nat} {v w : α} : xup (xup I k i v) k i w = xup I k i w := by
  funext k' i'
  unfold xup
  by_cases e : k' = k ∧ i' = i
  · rw [if_pos e, if_pos e]
  · rw [if_neg e, if_neg e, if_neg e]
theorem xlp_st {S R : Type} {b : S → (S → Option R) → Option R} (st : Nat → S) : ∀ (m : Nat), (∀ i, i < m → ∀ k, b (st i) k = k (st (i + 1))) → ∀ N, xlp b (N + m) (st 0) = xlp b N (st m)
  | 0, _, _ => rfl
  | m + 1, h, N => by
    have ih := xlp_st st m (fun i hi => h i (by omega)) (N + 1)
    rw [show N + (m + 1) = N + 1 + m by omega, ih, xlp_s]
    exact h m (by omega) _
theorem n120 {p : Nat} (h : p < 120) : ¬ (120 : Int32) ≤ nI p := nI_ge (b := 120) h (by decide)
theorem p120 {p : Nat} (h : 120 ≤ p) (h2 : p < 2 ^ 31) : (120 : Int32) ≤ nI p := nI_le (a := 120) h h2
/-- the class's TAPE, the reference's text -/
def CT (tb : Nat → Nat) (sz : Nat) (I : xTI) : Prop := I 29 0 = nI sz ∧ ∀ i, i < sz → I 30 i = nI (tb i)
def RT (tb : Nat → Nat) (sz : Nat) (I : xTI) : Prop := I 57 7 = nI sz ∧ ∀ i, i < sz → I 62 i = nI (tb i)
theorem CT.up {tb : Nat → Nat} {sz : Nat} {I : xTI} (h : CT tb sz I) {j : Nat} (hj : j ≠ 0) (v : Int32) : CT tb sz (xup I 29 j v) := by
  refine ⟨?_, fun i hi => ?_⟩
  · rw [xup_nj (fun e => hj e.symm)]; exact h.1
  · rw [xup_ne (by decide)]; exact h.2 i hi
theorem RT.up {tb : Nat → Nat} {sz : Nat} {I : xTI} (h : RT tb sz I) {j : Nat} (hj : j ≠ 7) (v : Int32) : RT tb sz (xup I 57 j v) := by
  refine ⟨?_, fun i hi => ?_⟩
  · rw [xup_nj (fun e => hj e.symm)]; exact h.1
  · rw [xup_ne (by decide)]; exact h.2 i hi
theorem b9_in {tb : Nat → Nat} {sz p : Nat} {I : xTI} (h : CT tb sz I) (hsz : sz ≤ 120) (hp : p < sz) : F_X9_byteAt I (nI p) = some (nI (tb p)) := by
  unfold F_X9_byteAt
  rw [if_neg (nI_pos (by omega)), xbn_e, h.1, if_neg (nI_ge hp (by omega)), if_neg (n120 (by omega)), xal_n (by omega) (by decide), h.2 p hp]
theorem b9_out {tb : Nat → Nat} {sz p : Nat} {I : xTI} (h : CT tb sz I) (hp : sz ≤ p) (h2 : p < 2 ^ 31) : F_X9_byteAt I (nI p) = some 0 := by
  unfold F_X9_byteAt
  rw [if_neg (nI_pos (by omega)), xbn_e, h.1, if_pos (nI_le hp h2)]
theorem b11_in {tb : Nat → Nat} {sz p : Nat} {I : xTI} (h : RT tb sz I) (hsz : sz ≤ 120) (hp : p < sz) : F_X11_byteAt I (nI p) = some (nI (tb p)) := by
  unfold F_X11_byteAt
  rw [xbn_e, h.1, if_neg (nI_ge hp (by omega)), xal_n (by omega) (by decide), h.2 p hp]
theorem b11_out {tb : Nat → Nat} {sz p : Nat} {I : xTI} (h : RT tb sz I) (hp : sz ≤ p) (h2 : p < 2 ^ 31) : F_X11_byteAt I (nI p) = some (-1) := by
  unfold F_X11_byteAt
  rw [xbn_e, h.1, if_pos (nI_le hp h2)]
theorem nI_lq {a : Nat} {x : Int32} {c : Nat} (hx : x = nI c) (ha : a < 2 ^ 31) (hc : c < 2 ^ 31) : (nI a = x ↔ a = c) := by rw [hx]; exact nI_eq ha hc
/-- the class skips spaces -/
theorem c_skip {tb : Nat → Nat} {sz p m : Nat} {I : xTI} (h : CT tb sz I) (hsz : sz ≤ 120) (hb : ∀ i, i < sz → tb i ≤ 255) (h3 : I 29 3 = nI p) (hpm : p ≤ m) (hm : m ≤ sz) (hr : ∀ i, p ≤ i → i < m → tb i = 32) (he : m < sz → ¬ tb m = 32) : F_X9_takeToken xN I = F_X9_takeToken_j37 xN (xup I 29 3 (nI m)) := by
  unfold F_X9_takeToken
  have e : ((0 : Int32), I) = (fun i => (nI i, xup I 29 3 (nI (p + i)))) 0 := by
    show ((0 : Int32), I) = (nI 0, xup I 29 3 (nI (p + 0)))
    rw [xup_id (by rw [h3]; rfl)]; rfl
  rw [e]
  refine xlp_for (fun i => (nI i, xup I 29 3 (nI (p + i)))) (m - p) _ (fun i hi k => ?_) (fun k => ?_) xN (by show m - p < 100000; omega)
  · show F_X9_takeToken_c2 xN (nI i) (xup I 29 3 (nI (p + i))) k = k (nI (i + 1), xup I 29 3 (nI (p + (i + 1))))
    unfold F_X9_takeToken_c2
    rw [if_neg (n120 (by omega)), xbn_e, xup_eq, b9_in (h.up (by decide) _) hsz (by omega), Option.bind_some, hr (p + i) (by omega) (by omega), if_pos (show nI 32 = 32 from rfl), xbn_e, xbn_e, xbn_e, nI_1, nI_1, xup_xup]
    rfl
  · show F_X9_takeToken_c2 xN (nI (m - p)) (xup I 29 3 (nI (p + (m - p)))) k = _
    rw [show p + (m - p) = m by omega]
    unfold F_X9_takeToken_c2
    by_cases e1 : 120 ≤ m - p
    · rw [if_pos (p120 e1 (by omega))]
    · rw [if_neg (n120 (by omega)), xbn_e, xup_eq]
      by_cases e2 : m < sz
      · rw [b9_in (h.up (by decide) _) hsz e2, Option.bind_some, if_neg]
        intro g
        have := hb m e2
        exact he e2 ((nI_lq (c := 32) rfl (by omega) (by decide)).mp g)
      · rw [b9_out (h.up (by decide) _) (by omega) (by omega), Option.bind_some, if_neg (by decide)]
/-- the reference skips spaces -/
theorem r_skip {tb : Nat → Nat} {sz p m : Nat} {I : xTI} {L : xTL} {out : Option (xTI × xTL)} (h : RT tb sz I) (hsz : sz ≤ 120) (h3 : I 57 11 = nI p) (hpm : p ≤ m) (hm : m ≤ sz) (hr : ∀ i, p ≤ i → i < m → tb i = 32) (ho : ∀ k, F_X11_next_c0 xN L (xup I 57 11 (nI m)) k = out) : F_X11_next xN I L = out := by
  unfold F_X11_next
  have e : I = (fun i => xup I 57 11 (nI (p + i))) 0 := (xup_id (by rw [h3]; rfl)).symm
  rw [show xlp (F_X11_next_b0 xN L) xN I = xlp (F_X11_next_b0 xN L) xN ((fun i => xup I 57 11 (nI (p + i))) 0) from congrArg _ e]
  refine xlp_for (fun i => xup I 57 11 (nI (p + i))) (m - p) _ (fun i hi k => ?_) (fun k => ?_) xN (by show m - p < 100000; omega)
  · show F_X11_next_c0 xN L (xup I 57 11 (nI (p + i))) k = k (xup I 57 11 (nI (p + (i + 1))))
    unfold F_X11_next_c0
    rw [xbn_e, xup_eq, b11_in (h.up (by decide) _) hsz (by omega), Option.bind_some, hr (p + i) (by omega) (by omega), if_pos (show nI 32 = 32 from rfl), xbn_e, xbn_e, nI_1, xup_xup]
    rfl
  · show F_X11_next_c0 xN L (xup I 57 11 (nI (p + (m - p)))) k = _
    rw [show p + (m - p) = m by omega]
    exact ho k
/-- what a token changes: the class, the reference -/
def FrT (I I2 : xTI) : Prop := ∀ k j, ¬ (k = 29 ∧ (j = 2 ∨ j = 3 ∨ j = 4 ∨ j = 5)) → I2 k j = I k j
def FrR (I I2 : xTI) : Prop := ∀ k j, ¬ (k = 57 ∧ (j = 8 ∨ j = 9 ∨ j = 11)) → I2 k j = I k j
def FrL (L L2 : xTL) : Prop := ∀ k, k ≠ 57 → L2 k = L k
def TokC (tb : Nat → Nat) (sz p m e : Nat) (kd vl : Int32) : Prop := ∀ I, CT tb sz I → I 29 3 = nI p → ∃ I2, F_X9_takeToken xN I = some I2 ∧ I2 29 2 = nI m ∧ I2 29 3 = nI e ∧ I2 29 4 = kd ∧ (kd = 1 ∨ kd = 2 ∨ kd = 3 → I2 29 5 = vl) ∧ FrT I I2
def TokR (tb : Nat → Nat) (sz p m e : Nat) (rk : Int32) (rw_ : Int64) : Prop := ∀ I L, RT tb sz I → I 57 11 = nI p → ∃ I2 L2, F_X11_next xN I L = some (I2, L2) ∧ I2 57 9 = nI m ∧ (rk ≠ 4 → I2 57 11 = nI e) ∧ I2 57 8 = rk ∧ (rk = 1 ∨ rk = 2 ∨ rk = 3 → L2 57 10 = rw_) ∧ FrR I I2 ∧ FrL L L2
theorem FrT.up {I I2 : xTI} (h : FrT I I2) {j : Nat} (hj : j = 2 ∨ j = 3 ∨ j = 4 ∨ j = 5) (v : Int32) : FrT I (xup I2 29 j v) := by
  intro k j' hk
  rw [← h k j' hk]
  unfold xup
  rw [if_neg]
  rintro ⟨e1, e2⟩
  exact hk ⟨e1, by omega⟩
theorem FrT.rfl' (I : xTI) : FrT I I := fun _ _ _ => rfl
theorem FrR.up {I I2 : xTI} (h : FrR I I2) {j : Nat} (hj : j = 8 ∨ j = 9 ∨ j = 11) (v : Int32) : FrR I (xup I2 57 j v) := by
  intro k j' hk
  rw [← h k j' hk]
  unfold xup
  rw [if_neg]
  rintro ⟨e1, e2⟩
  exact hk ⟨e1, by omega⟩
theorem FrR.rfl' (I : xTI) : FrR I I := fun _ _ _ => rfl
theorem FrL.up (L : xTL) (j : Nat) (v : Int64) : FrL L (xup L 57 j v) := fun k hk => xup_ne hk
/-- END -/
theorem tok_end {tb : Nat → Nat} {sz p : Nat} (hsz : sz ≤ 120) (hb : ∀ i, i < sz → tb i ≤ 255) (hp : p ≤ sz) (hr : ∀ i, p ≤ i → i < sz → tb i = 32) : TokC tb sz p sz sz 8 0 ∧ TokR tb sz p sz sz 0 0 := by
  refine ⟨fun I h h3 => ?_, fun I L h h3 => ?_⟩
  · refine ⟨xup (xup (xup I 29 3 (nI sz)) 29 2 (nI sz)) 29 4 8, ?_, ?_, ?_, ?_, ?_, ?_⟩
    · rw [c_skip h hsz hb h3 hp (Nat.le_refl _) hr (fun g => absurd g (Nat.lt_irrefl _))]
      unfold F_X9_takeToken_j37
      rw [xbn_e, xup_eq, xbn_e, xbn_e, xup_eq, b9_out ((h.up (by decide) _).up (by decide) _) (Nat.le_refl _) (by omega), Option.bind_some, xbn_e, xbn_e, xup_nj (by decide), xup_nj (by decide), h.1, if_neg (nI_nlt (Nat.le_refl _) (by omega)), xbn_e]
    · simp [xup]
    · simp [xup]
    · simp [xup]
    · intro g; exact absurd g (by decide)
    · exact (((FrT.rfl' I).up (by omega) _).up (by omega) _).up (by omega) _
  · refine ⟨xup (xup (xup (xup (xup I 57 11 (nI sz)) 57 9 (nI sz)) 57 8 4) 57 8 0) 57 9 (nI sz), L, ?_, ?_, ?_, ?_, ?_, ?_, fun _ _ => rfl⟩
    · refine r_skip h hsz h3 hp (Nat.le_refl _) hr (fun k => ?_)
      unfold F_X11_next_c0
      have h1 := h.up (j := 11) (by decide) (nI sz)
      have e7 : xup (xup (xup (xup I 57 11 (nI sz)) 57 9 (nI sz)) 57 8 4) 57 8 0 57 7 = nI sz := by
        rw [xup_nj (by decide), xup_nj (by decide), xup_nj (by decide), xup_nj (by decide), h.1]
      rw [xbn_e, xup_eq, b11_out h1 (Nat.le_refl _) (by omega), Option.bind_some, if_neg (by decide), xbn_e, xbn_e, xbn_e, xup_nj (by decide), xup_eq, b11_out (h1.up (by decide) _) (Nat.le_refl _) (by omega), Option.bind_some, xbn_e, if_neg (by decide), xbn_e, xbn_e, e7, xbn_e]
    · simp [xup]
    · intro _; simp [xup]
    · simp [xup]
    · intro g; exact absurd g (by decide)
    · exact (((((FrR.rfl' I).up (by omega) _).up (by omega) _).up (by omega) _).up (by omega) _).up (by omega) _
/-- a byte that begins neither a word nor a number -/
abbrev sgn (b : Nat) : Prop := b = 40 ∨ b = 41 ∨ b = 43 ∨ b = 45 ∨ b = 42 ∨ b = 47 ∨ b = 37 ∨ b = 61 ∨ b = 60 ∨ b = 62
theorem isSign_y {b : Nat} (h : sgn b) : F_X9_isSign (nI b) = some 1 := by
  rcases h with h | h | h | h | h | h | h | h | h | h <;> (subst h; decide)
theorem isSign_n {b : Nat} (hb : b ≤ 255) (h : ¬ sgn b) : F_X9_isSign (nI b) = some 0 := by
  unfold sgn at h
  unfold F_X9_isSign
  rw [if_neg (fun g => h (by have := (nI_lq (c := 40) rfl (by omega) (by decide)).mp g; omega)), if_neg (fun g => h (by have := (nI_lq (c := 41) rfl (by omega) (by decide)).mp g; omega)), if_neg (fun g => h (by have := (nI_lq (c := 43) rfl (by omega) (by decide)).mp g; omega)), if_neg (fun g => h (by have := (nI_lq (c := 45) rfl (by omega) (by decide)).mp g; omega)), if_neg (fun g => h (by have := (nI_lq (c := 42) rfl (by omega) (by decide)).mp g; omega)), if_neg (fun g => h (by have := (nI_lq (c := 47) rfl (by omega) (by decide)).mp g; omega)), if_neg (fun g => h (by have := (nI_lq (c := 37) rfl (by omega) (by decide)).mp g; omega)), if_neg (fun g => h (by have := (nI_lq (c := 61) rfl (by omega) (by decide)).mp g; omega)), if_neg (fun g => h (by have := (nI_lq (c := 60) rfl (by omega) (by decide)).mp g; omega)), if_neg (fun g => h (by have := (nI_lq (c := 62) rfl (by omega) (by decide)).mp g; omega)), xzc_0]
theorem nI_i64 {b : Nat} (hb : b < 2 ^ 31) : (nI b).toInt64 = Int64.ofNat b := by
  apply Int64.toInt_inj.mp
  rw [Int32.toInt_toInt64, nI_toInt hb, Int64.toInt_ofNat_of_lt (by omega)]
