/-- a SIGN, or a byte that is none -/
theorem tok_sign {tb : Nat → Nat} {sz p m : Nat} (hsz : sz ≤ 120) (hb : ∀ i, i < sz → tb i ≤ 255) (hp : p ≤ m) (hm : m < sz) (hr : ∀ i, p ≤ i → i < m → tb i = 32) (h32 : tb m ≠ 32) (hl : ¬ (97 ≤ tb m ∧ tb m ≤ 122)) (hd : ¬ (48 ≤ tb m ∧ tb m ≤ 57)) : TokC tb sz p m (m + 1) (if sgn (tb m) then nI (tb m) else 9) 0 ∧ TokR tb sz p m (m + 1) (if sgn (tb m) then 3 else 4) (Int64.ofNat (tb m)) := by
  have hbm := hb m hm
  refine ⟨fun I h h3 => ?_, fun I L h h3 => ?_⟩
  · refine ⟨xup (xup (xup (xup I 29 3 (nI m)) 29 2 (nI m)) 29 4 (if sgn (tb m) then nI (tb m) else 9)) 29 3 (nI (m + 1)), ?_, ?_, ?_, ?_, ?_, ?_⟩
    · rw [c_skip h hsz hb h3 hp (Nat.le_of_lt hm) hr (fun _ => h32)]
      have h1 := (h.up (j := 3) (by decide) (nI m)).up (j := 2) (by decide) (nI m)
      have e0 : xup (xup I 29 3 (nI m)) 29 2 (nI m) 29 0 = nI sz := by rw [xup_nj (by decide), xup_nj (by decide), h.1]
      have e3 : ∀ v : Int32, xup (xup (xup I 29 3 (nI m)) 29 2 (nI m)) 29 4 v 29 3 = nI m := fun v => by rw [xup_nj (by decide), xup_nj (by decide), xup_eq]
      have key : F_X9_takeToken_j101 xN (xup (xup I 29 3 (nI m)) 29 2 (nI m)) (nI (tb m)) = F_X9_takeToken_j120 xN (xup (xup I 29 3 (nI m)) 29 2 (nI m)) (nI (tb m)) := by
        unfold F_X9_takeToken_j101
        by_cases g : tb m < 48
        · rw [if_pos (show nI (tb m) < 48 from nI_lt (b := 48) g (by decide))]
        · rw [if_neg (show ¬ nI (tb m) < 48 from nI_nlt (b := 48) (by omega) (by omega)), if_pos (show (57 : Int32) < nI (tb m) from nI_lt (a := 57) (by omega) (by omega))]
      unfold F_X9_takeToken_j37
      rw [xbn_e, xup_eq, xbn_e, xbn_e, xup_eq, b9_in h1 hsz hm, Option.bind_some, xbn_e, xbn_e, e0, if_pos (nI_lt hm (by omega))]
      have key2 : (if nI (tb m) < 97 then F_X9_takeToken_j101 xN (xup (xup I 29 3 (nI m)) 29 2 (nI m)) (nI (tb m)) else if (122 : Int32) < nI (tb m) then F_X9_takeToken_j101 xN (xup (xup I 29 3 (nI m)) 29 2 (nI m)) (nI (tb m)) else Option.bind (F_X9_skipLetters xN (xup (xup I 29 3 (nI m)) 29 2 (nI m))) (fun I7 => Option.bind (F_X9_wordAtHand xN I7) (fun v8 => Option.bind (F_X9_takeWord I7 v8) (fun I9 => some I9)))) = F_X9_takeToken_j101 xN (xup (xup I 29 3 (nI m)) 29 2 (nI m)) (nI (tb m)) := by
        by_cases g : tb m < 97
        · rw [if_pos (show nI (tb m) < 97 from nI_lt (b := 97) g (by decide))]
        · rw [if_neg (show ¬ nI (tb m) < 97 from nI_nlt (b := 97) (by omega) (by omega)), if_pos (show (122 : Int32) < nI (tb m) from nI_lt (a := 122) (by omega) (by omega))]
      rw [key2, key]
      unfold F_X9_takeToken_j120 F_X9_takeToken_j134
      by_cases g : sgn (tb m)
      · rw [isSign_y g, Option.bind_some, if_neg (by decide), if_pos g, xbn_e, xbn_e, e3, xbn_e, nI_1]
      · rw [isSign_n hbm g, Option.bind_some, if_pos rfl, if_neg g, xbn_e, xbn_e, e3, xbn_e, nI_1]
    · simp [xup]
    · simp [xup]
    · simp [xup]
    · intro g
      exfalso
      by_cases e : sgn (tb m)
      · rw [if_pos e] at g
        rcases g with g | g | g
        · have := (nI_lq (c := 1) rfl (by omega) (by decide)).mp g; unfold sgn at e; omega
        · have := (nI_lq (c := 2) rfl (by omega) (by decide)).mp g; unfold sgn at e; omega
        · have := (nI_lq (c := 3) rfl (by omega) (by decide)).mp g; unfold sgn at e; omega
      · rw [if_neg e] at g; exact absurd g (by decide)
    · exact ((((FrT.rfl' I).up (by omega) _).up (by omega) _).up (by omega) _).up (by omega) _
  · have h1 := h.up (j := 11) (by decide) (nI m)
    have h2 := h1.up (j := 9) (by decide) (nI m)
    have hin1 : F_X11_in (nI (tb m)) 97 122 = some 0 := by
      rw [xin_iff, if_neg (fun g => hl ?_)]
      obtain ⟨j, a, b, c⟩ := (rngl_iff (a := 97) (b := 122) (by decide) (by decide)).mp g
      have := (nI_eq (by omega) (by omega)).mp c
      omega
    have hin2 : F_X11_in (nI (tb m)) 48 57 = some 0 := by
      rw [xin_iff, if_neg (fun g => hd ?_)]
      obtain ⟨j, a, b, c⟩ := (rngl_iff (a := 48) (b := 57) (by decide) (by decide)).mp g
      have := (nI_eq (by omega) (by omega)).mp c
      omega
    have e11 : xup (xup (xup (xup I 57 11 (nI m)) 57 9 (nI m)) 57 8 4) 57 8 3 57 11 = nI m := by
      rw [xup_nj (by decide), xup_nj (by decide), xup_nj (by decide), xup_eq]
    by_cases g : sgn (tb m)
    · rw [if_pos g]
      refine ⟨xup (xup (xup (xup (xup I 57 11 (nI m)) 57 9 (nI m)) 57 8 4) 57 8 3) 57 11 (nI (m + 1)), xup L 57 10 (Int64.ofNat (tb m)), ?_, ?_, ?_, ?_, ?_, ?_, FrL.up _ _ _⟩
      · refine r_skip h hsz h3 hp (Nat.le_of_lt hm) hr (fun k => ?_)
        unfold F_X11_next_c0
        rw [xbn_e, xup_eq, b11_in h1 hsz hm, Option.bind_some, if_neg (show ¬ nI (tb m) = 32 from fun e => h32 ((nI_lq (c := 32) rfl (by omega) (by decide)).mp e)), xbn_e, xbn_e, xbn_e, xup_nj (by decide), xup_eq, b11_in h2 hsz hm, Option.bind_some, xbn_e, if_pos (show (0 : Int32) ≤ nI (tb m) from nI_le (a := 0) (by omega) (by omega)), hin1, Option.bind_some, if_pos rfl, hin2, Option.bind_some, if_pos rfl]
        have fin : F_X11_next_j338 xN (xup (xup (xup I 57 11 (nI m)) 57 9 (nI m)) 57 8 4) L (nI (tb m)) = some (xup (xup (xup (xup (xup I 57 11 (nI m)) 57 9 (nI m)) 57 8 4) 57 8 3) 57 11 (nI (m + 1)), xup L 57 10 (Int64.ofNat (tb m))) := by
          unfold F_X11_next_j338
          rw [xbn_e, xbn_e, xbn_e, e11, xbn_e, nI_1, nI_i64 (by omega)]
        rw [fin]
        rcases g with g | g | g | g | g | g | g | g | g | g <;> rw [g] <;> rfl
      · simp [xup]
      · intro _; simp [xup]
      · simp [xup]
      · intro _; simp [xup]
      · exact (((((FrR.rfl' I).up (by omega) _).up (by omega) _).up (by omega) _).up (by omega) _).up (by omega) _
    · rw [if_neg g]
      refine ⟨xup (xup (xup I 57 11 (nI m)) 57 9 (nI m)) 57 8 4, L, ?_, ?_, ?_, ?_, ?_, ?_, fun _ _ => rfl⟩
      · refine r_skip h hsz h3 hp (Nat.le_of_lt hm) hr (fun k => ?_)
        unfold F_X11_next_c0
        unfold sgn at g
        rw [xbn_e, xup_eq, b11_in h1 hsz hm, Option.bind_some, if_neg (show ¬ nI (tb m) = 32 from fun e => h32 ((nI_lq (c := 32) rfl (by omega) (by decide)).mp e)), xbn_e, xbn_e, xbn_e, xup_nj (by decide), xup_eq, b11_in h2 hsz hm, Option.bind_some, xbn_e, if_pos (show (0 : Int32) ≤ nI (tb m) from nI_le (a := 0) (by omega) (by omega)), hin1, Option.bind_some, if_pos rfl, hin2, Option.bind_some, if_pos rfl]
        rw [if_neg (show ¬ nI (tb m) = 40 from fun e => g (by have := (nI_lq (c := 40) rfl (by omega) (by decide)).mp e; omega)), if_neg (show ¬ nI (tb m) = 41 from fun e => g (by have := (nI_lq (c := 41) rfl (by omega) (by decide)).mp e; omega)), if_neg (show ¬ nI (tb m) = 43 from fun e => g (by have := (nI_lq (c := 43) rfl (by omega) (by decide)).mp e; omega)), if_neg (show ¬ nI (tb m) = 45 from fun e => g (by have := (nI_lq (c := 45) rfl (by omega) (by decide)).mp e; omega)), if_neg (show ¬ nI (tb m) = 42 from fun e => g (by have := (nI_lq (c := 42) rfl (by omega) (by decide)).mp e; omega)), if_neg (show ¬ nI (tb m) = 47 from fun e => g (by have := (nI_lq (c := 47) rfl (by omega) (by decide)).mp e; omega)), if_neg (show ¬ nI (tb m) = 37 from fun e => g (by have := (nI_lq (c := 37) rfl (by omega) (by decide)).mp e; omega)), if_neg (show ¬ nI (tb m) = 61 from fun e => g (by have := (nI_lq (c := 61) rfl (by omega) (by decide)).mp e; omega)), if_neg (show ¬ nI (tb m) = 60 from fun e => g (by have := (nI_lq (c := 60) rfl (by omega) (by decide)).mp e; omega)), if_neg (show ¬ nI (tb m) = 62 from fun e => g (by have := (nI_lq (c := 62) rfl (by omega) (by decide)).mp e; omega))]
      · simp [xup]
      · intro e; exact absurd rfl e
      · simp [xup]
      · intro g; exact absurd g (by decide)
      · exact (((FrR.rfl' I).up (by omega) _).up (by omega) _).up (by omega) _
/-- a NUMBER: its digits -/
def dig (f : Nat → Nat) : Nat → Nat
  | 0 => 0
  | i + 1 => 10 * dig f i + f i
theorem dig_le {f : Nat → Nat} : ∀ n, (∀ i, i < n → f i ≤ 9) → dig f n < 10 ^ n
  | 0, _ => Nat.zero_lt_one
  | n + 1, h => by
    have ih := dig_le n (fun i hi => h i (by omega))
    have := h n (by omega)
    show 10 * dig f n + f n < 10 ^ (n + 1)
    rw [Nat.pow_succ]
    omega
theorem dig_le5 {f : Nat → Nat} {n : Nat} (hn : n ≤ 5) (h : ∀ i, i < n → f i ≤ 9) : dig f n < 100000 :=
  Nat.lt_of_lt_of_le (dig_le n h) (Nat.pow_le_pow_right (by decide) hn)
def digI (tb : Nat → Nat) (m : Nat) : Nat → Int32
  | 0 => 0
  | i + 1 => digI tb m i * 10 + nI (tb (m + i)) - 48
theorem digI_eq {tb : Nat → Nat} {m : Nat} : ∀ n, n ≤ 5 → (∀ i, i < n → 48 ≤ tb (m + i) ∧ tb (m + i) ≤ 57) → digI tb m n = nI (dig (fun i => tb (m + i) - 48) n)
  | 0, _, _ => rfl
  | n + 1, hn, h => by
    have ih := digI_eq n (by omega) (fun i hi => h i (by omega))
    have h9 := h n (by omega)
    show digI tb m n * 10 + nI (tb (m + n)) - 48 = nI (10 * dig (fun i => tb (m + i) - 48) n + (tb (m + n) - 48))
    rw [ih, show (10 : Int32) = nI 10 from rfl, show (48 : Int32) = nI 48 from rfl, nI_mul, nI_add, nI_sub (by omega)]
    congr 1
    omega
theorem tok_num {tb : Nat → Nat} {sz p m e : Nat} (hsz : sz ≤ 120) (hb : ∀ i, i < sz → tb i ≤ 255) (hp : p ≤ m) (hm : m < sz) (hr : ∀ i, p ≤ i → i < m → tb i = 32) (hme : m < e) (hes : e ≤ sz) (hdg : ∀ i, m ≤ i → i < e → 48 ≤ tb i ∧ tb i ≤ 57) (hend : e < sz → ¬ (48 ≤ tb e ∧ tb e ≤ 57)) : TokC tb sz p m e (if e - m ≤ 5 then 3 else 9) (nI (dig (fun i => tb (m + i) - 48) (e - m))) ∧ TokR tb sz p m e (if e - m ≤ 5 then 2 else 4) (Int64.ofNat (dig (fun i => tb (m + i) - 48) (e - m))) := by
  have hd0 := hdg m (Nat.le_refl _) hme
  refine ⟨fun I h h3 => ?_, fun I L h h3 => ?_⟩
  · refine ⟨xup (xup (xup (xup (xup I 29 3 (nI m)) 29 2 (nI m)) 29 5 (digI tb m (e - m))) 29 3 (nI e)) 29 4 (if e - m ≤ 5 then 3 else 9), ?_, ?_, ?_, ?_, ?_, ?_⟩
    · rw [c_skip h hsz hb h3 hp (Nat.le_of_lt hm) hr (fun _ => by omega)]
      have h1 := (h.up (j := 3) (by decide) (nI m)).up (j := 2) (by decide) (nI m)
      have e0 : xup (xup I 29 3 (nI m)) 29 2 (nI m) 29 0 = nI sz := by rw [xup_nj (by decide), xup_nj (by decide), h.1]
      have e2 : xup (xup I 29 3 (nI m)) 29 2 (nI m) 29 2 = nI m := xup_eq
      have e3 : xup (xup I 29 3 (nI m)) 29 2 (nI m) 29 3 = nI m := by rw [xup_nj (by decide), xup_eq]
      unfold F_X9_takeToken_j37
      rw [xbn_e, xup_eq, xbn_e, xbn_e, xup_eq, b9_in h1 hsz hm, Option.bind_some, xbn_e, xbn_e, e0, if_pos (nI_lt hm (by omega)), if_pos (show nI (tb m) < 97 from nI_lt (b := 97) (by omega) (by decide))]
      unfold F_X9_takeToken_j101
      rw [if_neg (show ¬ nI (tb m) < 48 from nI_nlt (b := 48) (by omega) (by omega)), if_neg (show ¬ (57 : Int32) < nI (tb m) from nI_nlt (a := 57) (by omega) (by decide))]
      generalize xup (xup I 29 3 (nI m)) 29 2 (nI m) = J at h1 e0 e2 e3 ⊢
      unfold F_X9_takeNumber
      rw [xbn_e]
      have es : ((0 : Int32), xup J 29 5 0) = (fun i => (nI i, xup (xup J 29 5 (digI tb m i)) 29 3 (nI (m + i)))) 0 := by
        show ((0 : Int32), xup J 29 5 0) = (nI 0, xup (xup J 29 5 0) 29 3 (nI m))
        rw [xup_id (I := xup J 29 5 0) (by rw [xup_nj (by decide)]; exact e3)]
        rfl
      rw [es, xlp_for (fun i => (nI i, xup (xup J 29 5 (digI tb m i)) 29 3 (nI (m + i)))) (e - m) (some (xup (xup (xup J 29 5 (digI tb m (e - m))) 29 3 (nI e)) 29 4 (if e - m ≤ 5 then 3 else 9))) ?_ ?_ xN (by show e - m < 100000; omega)]
      · rfl
      · intro i hi k
        have hdi := hdg (m + i) (by omega) (by omega)
        show F_X9_takeNumber_c7 xN (nI i) (xup (xup J 29 5 (digI tb m i)) 29 3 (nI (m + i))) k = k (nI (i + 1), xup (xup J 29 5 (digI tb m (i + 1))) 29 3 (nI (m + (i + 1))))
        have hJ := (h1.up (j := 5) (by decide) (digI tb m i)).up (j := 3) (by decide) (nI (m + i))
        have ex : xup (xup (xup (xup J 29 5 (digI tb m i)) 29 3 (nI (m + i))) 29 5 (digI tb m i * 10 + nI (tb (m + i)) - 48)) 29 3 (nI (m + i + 1)) = xup (xup J 29 5 (digI tb m (i + 1))) 29 3 (nI (m + (i + 1))) := by
          funext k' j'
          show _ = xup (xup J 29 5 (digI tb m i * 10 + nI (tb (m + i)) - 48)) 29 3 (nI (m + i + 1)) k' j'
          unfold xup
          by_cases g3 : k' = 29 ∧ j' = 3
          · rw [if_pos g3, if_pos g3]
          · rw [if_neg g3, if_neg g3]
            by_cases g5 : k' = 29 ∧ j' = 5
            · rw [if_pos g5, if_neg g3, if_pos g5]
            · rw [if_neg g5, if_neg g3, if_neg g5, if_neg g5]
        unfold F_X9_takeNumber_c7
        rw [if_neg (n120 (by omega)), xbn_e, xup_eq, b9_in hJ hsz (by omega), Option.bind_some, if_neg (show ¬ nI (tb (m + i)) < 48 from nI_nlt (b := 48) (by omega) (by omega)), xbn_e, b9_in hJ hsz (by omega), Option.bind_some, if_neg (show ¬ (57 : Int32) < nI (tb (m + i)) from nI_nlt (a := 57) (by omega) (by decide)), xbn_e, xbn_e, b9_in hJ hsz (by omega), Option.bind_some, xbn_e, xbn_e, xbn_e, xbn_e, xup_nj (i := 5) (j := 3) (by decide), xup_eq, xup_nj (i := 3) (j := 5) (by decide), xup_eq, nI_1, nI_1, ex]
      · intro k
        show F_X9_takeNumber_c7 xN (nI (e - m)) (xup (xup J 29 5 (digI tb m (e - m))) 29 3 (nI (m + (e - m)))) k = _
        rw [show m + (e - m) = e by omega]
        have hJ := (h1.up (j := 5) (by decide) (digI tb m (e - m))).up (j := 3) (by decide) (nI e)
        have fin : F_X9_takeNumber_j78 xN (xup (xup J 29 5 (digI tb m (e - m))) 29 3 (nI e)) = some (xup (xup (xup J 29 5 (digI tb m (e - m))) 29 3 (nI e)) 29 4 (if e - m ≤ 5 then 3 else 9)) := by
          unfold F_X9_takeNumber_j78 F_X9_takeNumber_j98
          rw [xbn_e, xbn_e, xup_eq, xup_nj (i := 3) (j := 2) (by decide), xup_nj (i := 5) (j := 2) (by decide), e2, nI_sub (by omega)]
          by_cases g : e - m ≤ 5
          · rw [if_pos (show nI (e - m) ≤ 5 from nI_le (b := 5) g (by decide)), if_pos g, xbn_e]
          · rw [if_neg (show ¬ nI (e - m) ≤ 5 from nI_ge (a := 5) (by omega) (by omega)), if_neg g, xbn_e]
        unfold F_X9_takeNumber_c7
        rw [fin]
        by_cases g1 : 120 ≤ e - m
        · rw [if_pos (p120 g1 (by omega))]
        · rw [if_neg (n120 (by omega)), xbn_e, xup_eq]
          by_cases g2 : e < sz
          · have hx := hend g2
            have hbe := hb e g2
            rw [b9_in hJ hsz g2, Option.bind_some]
            by_cases g3 : tb e < 48
            · rw [if_pos (show nI (tb e) < 48 from nI_lt (b := 48) g3 (by decide))]
            · rw [if_neg (show ¬ nI (tb e) < 48 from nI_nlt (b := 48) (by omega) (by omega)), xbn_e, b9_in hJ hsz g2, Option.bind_some, if_pos (show (57 : Int32) < nI (tb e) from nI_lt (a := 57) (by omega) (by omega))]
          · rw [b9_out hJ (by omega) (by omega), Option.bind_some, if_pos (by decide)]
    · simp [xup]
    · simp [xup]
    · simp [xup]
    · intro g
      by_cases g5 : e - m ≤ 5
      · rw [← digI_eq (m := m) (e - m) g5 (fun i hi => hdg _ (by omega) (by omega))]
        simp [xup]
      · rw [if_neg g5] at g; exact absurd g (by decide)
    · exact (((((FrT.rfl' I).up (by omega) _).up (by omega) _).up (by omega) _).up (by omega) _).up (by omega) _
  · have h1 := h.up (j := 11) (by decide) (nI m)
    have h2 := h1.up (j := 9) (by decide) (nI m)
    have hin1 : F_X11_in (nI (tb m)) 97 122 = some 0 := by
      rw [xin_iff, if_neg]
      intro g
      obtain ⟨j, a, b, c⟩ := (rngl_iff (a := 97) (b := 122) (by decide) (by decide)).mp g
      have := (nI_eq (by omega) (by omega)).mp c
      omega
    have hin2 : ∀ i, m ≤ i → i < e → F_X11_in (nI (tb i)) 48 57 = some 1 := fun i a b => by
      have hdi := hdg i a b
      rw [xin_iff, if_pos (show (48 : Int32) ≤ nI (tb i) ∧ nI (tb i) ≤ 57 from (rngl_iff (a := 48) (b := 57) (by decide) (by decide)).mpr ⟨tb i, hdi.1, hdi.2, rfl⟩)]
    have h4 := ((h2.up (j := 8) (by decide) 4).up (j := 8) (by decide) 2)
    refine ⟨xup (xup (xup (xup (xup (xup I 57 11 (nI m)) 57 9 (nI m)) 57 8 4) 57 8 2) 57 11 (nI e)) 57 8 (if e - m ≤ 5 then 2 else 4), xup L 57 10 (Int64.ofNat (dig (fun i => tb (m + i) - 48) (min (e - m) 5))), ?_, ?_, ?_, ?_, ?_, ?_, FrL.up _ _ _⟩
    · refine r_skip h hsz h3 hp (Nat.le_of_lt hm) hr (fun k => ?_)
      unfold F_X11_next_c0
      rw [xbn_e, xup_eq, b11_in h1 hsz hm, Option.bind_some, if_neg (show ¬ nI (tb m) = 32 from fun e => by have := (nI_lq (c := 32) rfl (by omega) (by decide)).mp e; omega), xbn_e, xbn_e, xbn_e, xup_nj (by decide), xup_eq, b11_in h2 hsz hm, Option.bind_some, xbn_e, if_pos (show (0 : Int32) ≤ nI (tb m) from nI_le (a := 0) (by omega) (by omega)), hin1, Option.bind_some, if_pos rfl, hin2 m (Nat.le_refl _) hme, Option.bind_some, if_neg (by decide), xbn_e, xbn_e]
      have e11 : xup (xup (xup (xup I 57 11 (nI m)) 57 9 (nI m)) 57 8 4) 57 8 2 57 11 = nI m := by
        rw [xup_nj (by decide), xup_nj (by decide), xup_nj (by decide), xup_eq]
      generalize xup (xup (xup (xup I 57 11 (nI m)) 57 9 (nI m)) 57 8 4) 57 8 2 = J at h4 e11 ⊢
      have es : ((0 : Int32), J, xup L 57 10 (0 : Int64)) = (fun i => (nI i, xup J 57 11 (nI (m + i)), xup L 57 10 (Int64.ofNat (dig (fun i => tb (m + i) - 48) (min i 5))))) 0 := by
        show ((0 : Int32), J, xup L 57 10 (0 : Int64)) = (nI 0, xup J 57 11 (nI m), xup L 57 10 (Int64.ofNat (dig (fun i => tb (m + i) - 48) (min 0 5))))
        rw [xup_id (I := J) e11]; rfl
      rw [es]
      refine xlp_for (fun i => (nI i, xup J 57 11 (nI (m + i)), xup L 57 10 (Int64.ofNat (dig (fun i => tb (m + i) - 48) (min i 5))))) (e - m) _ (fun i hi k => ?_) (fun k => ?_) xN (by show e - m < 100000; omega)
      · have hdi := hdg (m + i) (by omega) (by omega)
        show F_X11_next_c189 xN (nI i) (xup J 57 11 (nI (m + i))) (xup L 57 10 (Int64.ofNat (dig (fun i => tb (m + i) - 48) (min i 5)))) k = k (nI (i + 1), xup J 57 11 (nI (m + (i + 1))), xup L 57 10 (Int64.ofNat (dig (fun i => tb (m + i) - 48) (min (i + 1) 5))))
        have hJ := h4.up (j := 11) (by decide) (nI (m + i))
        unfold F_X11_next_c189 F_X11_next_j242
        rw [xbn_e, xup_eq, b11_in hJ hsz (by omega), Option.bind_some, hin2 _ (by omega) (by omega), Option.bind_some, if_neg (by decide)]
        by_cases g : 5 ≤ i
        · rw [if_pos (show (5 : Int32) ≤ nI i from nI_le (a := 5) g (by omega)), xbn_e, xup_eq, xbn_e, xbn_e, xbn_e, xbn_e, nI_1, nI_1, xup_xup, xup_xup, show min i 5 = min (i + 1) 5 by omega]
          rfl
        · rw [if_neg (show ¬ (5 : Int32) ≤ nI i from nI_ge (b := 5) (by omega) (by decide)), xbn_e, xup_eq, xbn_e, b11_in hJ hsz (by omega), Option.bind_some, xbn_e, xbn_e, xbn_e, xbn_e, nI_1, nI_1, xup_xup, xup_xup, show min i 5 = i by omega, show min (i + 1) 5 = i + 1 by omega, nI_i64 (by omega), show (10 : Int64) = Int64.ofNat 10 from rfl, show (48 : Int64) = Int64.ofNat 48 from rfl, ← Int64.ofNat_mul, ← Int64.ofNat_add, ← Int64.ofNat_sub _ _ (by omega)]
          have : 10 * dig (fun i => tb (m + i) - 48) i + tb (m + i) - 48 = dig (fun i => tb (m + i) - 48) (i + 1) := by
            show _ = 10 * dig (fun i => tb (m + i) - 48) i + (tb (m + i) - 48)
            omega
          rw [this]
          rfl
      · show F_X11_next_c189 xN (nI (e - m)) (xup J 57 11 (nI (m + (e - m)))) (xup L 57 10 (Int64.ofNat (dig (fun i => tb (m + i) - 48) (min (e - m) 5)))) k = _
        rw [show m + (e - m) = e by omega]
        have hJ := h4.up (j := 11) (by decide) (nI e)
        have hb0 : ∃ x, F_X11_byteAt (xup J 57 11 (nI e)) (nI e) = some x ∧ F_X11_in x 48 57 = some 0 := by
          by_cases g2 : e < sz
          · refine ⟨_, b11_in hJ hsz g2, ?_⟩
            have hbe := hb e g2
            rw [xin_iff, if_neg]
            intro g
            obtain ⟨j, a, b, c⟩ := (rngl_iff (a := 48) (b := 57) (by decide) (by decide)).mp g
            have := (nI_eq (by omega) (by omega)).mp c
            exact hend g2 (by omega)
          · exact ⟨_, b11_out hJ (by omega) (by omega), by decide⟩
        obtain ⟨x, hx1, hx2⟩ := hb0
        unfold F_X11_next_c189 F_X11_next_j272
        rw [xbn_e, xup_eq, hx1, Option.bind_some, hx2, Option.bind_some, if_pos rfl]
        by_cases g : e - m ≤ 5
        · rw [if_pos (show nI (e - m) ≤ 5 from nI_le (b := 5) g (by decide)), if_pos g, xbn_e]
        · rw [if_neg (show ¬ nI (e - m) ≤ 5 from nI_ge (a := 5) (by omega) (by omega)), if_neg g, xbn_e]
    · simp [xup]
    · intro _; simp [xup]
    · simp [xup]
    · intro g
      by_cases g5 : e - m ≤ 5
      · rw [show min (e - m) 5 = e - m by omega]; simp [xup]
      · rw [if_neg g5] at g; exact absurd g (by decide)
    · exact ((((((FrR.rfl' I).up (by omega) _).up (by omega) _).up (by omega) _).up (by omega) _).up (by omega) _).up (by omega) _
