/-! WHAT A RULE SAYS: the class works the code. -/
theorem joined_eq (x a b : Int32) : F_X5_joined x a b = some (jn x a b) := by
  unfold F_X5_joined jn xnz
  by_cases h1 : x = 5
  · rw [if_pos h1, if_pos h1]; by_cases g : a = 0 <;> by_cases g2 : b = 0 <;> simp [g, g2]
  rw [if_neg h1, if_neg h1]
  by_cases h2 : x = 37
  · rw [if_pos h2, if_pos h2]; by_cases g : b = 0 <;> simp [g]
  rw [if_neg h2, if_neg h2]
  by_cases h3 : x = 42
  · rw [if_pos h3, if_pos h3]
  rw [if_neg h3, if_neg h3]
  by_cases h4 : x = 43
  · rw [if_pos h4, if_pos h4]
  rw [if_neg h4, if_neg h4]
  by_cases h5 : x = 45
  · rw [if_pos h5, if_pos h5]
  rw [if_neg h5, if_neg h5]
  by_cases h6 : x = 47
  · rw [if_pos h6, if_pos h6]; by_cases g : b = 0 <;> simp [g]
  rw [if_neg h6, if_neg h6]
  by_cases h7 : x = 60
  · rw [if_pos h7, if_pos h7]; by_cases g : b ≤ a <;> simp [g]
  rw [if_neg h7, if_neg h7]
  by_cases h8 : x = 61
  · rw [if_pos h8, if_pos h8]; by_cases g : a = b <;> simp [g]
  rw [if_neg h8, if_neg h8]
  by_cases h9 : x = 62
  · rw [if_pos h9, if_pos h9]; by_cases g : a ≤ b <;> simp [g]
  rw [if_neg h9, if_neg h9]
  by_cases g : a = 0 <;> by_cases g2 : b = 0 <;> simp [g, g2]
/-- the stack in cell 19 -/
def Stk (I : xTI) : List Int32 → Prop
  | [] => True
  | x :: r => I 19 r.length = x ∧ Stk I r
theorem Stk.up {I : xTI} {j : Nat} {v : Int32} : ∀ {S : List Int32}, Stk I S → S.length ≤ j → Stk (xup I 19 j v) S
  | [], _, _ => trivial
  | x :: r, h, hj => by
    have hj' : r.length + 1 ≤ j := hj
    exact ⟨by rw [xup_nj (by omega)]; exact h.1, Stk.up h.2 (by omega)⟩
def tpv : Nat → Int32
  | 0 => -1
  | n + 1 => nI n
theorem tpv_s (n : Nat) : tpv n + 1 = nI n := by
  cases n with
  | zero => decide
  | succ n => exact nI_1 n
theorem tpv_p (n : Nat) : tpv (n + 1) + -1 = tpv n := by
  cases n with
  | zero => decide
  | succ n => exact nI_dec (by omega)
/-- n steps of code from a on -/
def cdl (cd : Nat → Int32) (a n : Nat) : List Int32 := (List.range n).map (fun i => cd (a + i))
theorem cdl_len (cd : Nat → Int32) (a n : Nat) : (cdl cd a n).length = n := by simp [cdl]
theorem cdl_s (cd : Nat → Int32) (a n : Nat) : cdl cd a (n + 1) = cd a :: cdl cd (a + 1) n := by
  unfold cdl
  rw [List.range_succ_eq_map, List.map_cons, List.map_map]
  congr 1
  apply List.map_congr_left
  intro i _
  show cd (a + (i + 1)) = cd (a + 1 + i)
  congr 1; omega
theorem cdl_eq {cd : Nat → Int32} {a n : Nat} {cs : List Int32} (hl : cs.length = n) (h : ∀ i, i < n → cd (a + i) = cs.getD i 0) : cdl cd a n = cs := by
  apply List.ext_getElem
  · rw [cdl_len, hl]
  · intro i h1 h2
    rw [cdl_len] at h1
    have := h i h1
    rw [List.getD_eq_getElem?_getD, List.getElem?_eq_getElem h2] at this
    simp [cdl, this]
theorem work_run {nm : Nat → Int32} {r z : Nat} (hr : r < 12) (hz : z ≤ 120) : ∀ (d : Nat) (S : List Int32) (I : xTI) (i M : Nat), i + d = z → S.length ≤ i → d < M → Stk I S → (∀ j, j < 10 → I 18 j = nm j) → ∃ I2, xlp (F_X5_work_b6 xN (nI r) (nI z)) M (tpv S.length, nI i, I) = some ((evl nm (cdl (fun t => I 17 (120 * r + t)) i d) S).headD 0, I2) ∧ ∀ k, k ≠ 19 → I2 k = I k := by
  intro d
  induction d with
  | zero =>
    intro S I i M hi hS hM hK hnm
    obtain ⟨M', rfl⟩ : ∃ M', M = M' + 1 := ⟨M - 1, by omega⟩
    refine ⟨I, ?_, fun _ _ => rfl⟩
    rw [xlp_s]
    show F_X5_work_c6 xN (nI r) (nI z) (tpv S.length) (nI i) I _ = _
    unfold F_X5_work_c6 F_X5_work_j187
    rw [if_pos (nI_le (by omega) (by omega))]
    match S, hK, hS with
    | [], _, _ => rfl
    | x :: S', hK, hS =>
      have hS : S'.length + 1 ≤ i := hS
      show (if nI S'.length < 0 then _ else xal I 19 120 (nI S'.length) _) = some (x, I)
      rw [if_neg (nI_pos (by omega)), xal_n (by omega) (by decide), hK.1]
  | succ d ih =>
    intro S I i M hi hS hM hK hnm
    obtain ⟨M', rfl⟩ : ∃ M', M = M' + 1 := ⟨M - 1, by omega⟩
    rw [cdl_s]
    show ∃ I2, xlp _ (M' + 1) _ = some ((evl nm (cdl (fun t => I 17 (120 * r + t)) (i + 1) d) (st1 nm S (I 17 (120 * r + i)))).headD 0, I2) ∧ _
    have hix : nI r * 120 + nI i = nI (120 * r + i) := by
      rw [show (120 : Int32) = nI 120 from rfl, nI_mul, nI_add, Nat.mul_comm]
    rw [xlp_s]
    show ∃ I2, F_X5_work_c6 xN (nI r) (nI z) (tpv S.length) (nI i) I _ = _ ∧ _
    unfold F_X5_work_c6
    rw [if_neg (nI_ge (show i < z by omega) (by omega)), if_neg (n120 (by omega)), hix, xal_n (by omega) (by decide)]
    have hc17 : ∀ (j : Nat) (v : Int32), (fun t => xup I 19 j v 17 (120 * r + t)) = fun t => I 17 (120 * r + t) := fun j v => by
      funext t; rw [xup_ne (by decide)]
    have go : ∀ (S2 : List Int32) (I2 : xTI), S2.length ≤ i + 1 → Stk I2 S2 → (∀ k, k ≠ 19 → I2 k = I k) → ∃ I3, xlp (F_X5_work_b6 xN (nI r) (nI z)) M' (tpv S2.length, nI (i + 1), I2) = some ((evl nm (cdl (fun t => I 17 (120 * r + t)) (i + 1) d) S2).headD 0, I3) ∧ ∀ k, k ≠ 19 → I3 k = I k := by
      intro S2 I2 h1 h2 h3
      obtain ⟨I3, e1, e2⟩ := ih S2 I2 (i + 1) M' (by omega) h1 (by omega) h2 (fun j hj => by rw [h3 18 (by decide)]; exact hnm j hj)
      rw [h3 17 (by decide)] at e1
      exact ⟨I3, e1, fun k hk => by rw [e2 k hk, h3 k hk]⟩
    generalize I 17 (120 * r + i) = c
    unfold st1
    by_cases g1 : c ≤ -11
    · rw [if_pos g1, if_pos g1]
      by_cases g2 : c = -20
      · rw [if_pos g2, if_pos g2]
        unfold F_X5_work_j93 F_X5_work_j137
        match S, hK, hS with
        | [], _, _ =>
          rw [if_pos (show tpv ([] : List Int32).length < 0 by decide), xbn_e, nI_1]
          exact go [] I (by simp) trivial (fun _ _ => rfl)
        | x :: S', hK, hS =>
          have hS : S'.length + 1 ≤ i := hS
          rw [show tpv (x :: S').length = nI S'.length from rfl, if_neg (nI_pos (by omega)), if_neg (by rw [g2]; decide), xal_n (by omega) (by decide), hK.1]
          by_cases gx : x = 0
          · rw [if_pos gx, xas_n (by omega) (by decide), xbn_e, nI_1]
            show ∃ I2, xlp _ M' (tpv ((1 : Int32) :: S').length, nI (i + 1), xup I 19 S'.length 1) = some ((evl nm _ ((if x = 0 then 1 else 0) :: S')).headD 0, I2) ∧ _
            rw [if_pos gx]
            exact go (1 :: S') (xup I 19 S'.length 1) (by show S'.length + 1 ≤ i + 1; omega) ⟨xup_eq, hK.2.up (Nat.le_refl _)⟩ (fun k hk => xup_ne hk)
          · rw [if_neg gx, xas_n (by omega) (by decide), xbn_e, nI_1]
            show ∃ I2, xlp _ M' (tpv ((0 : Int32) :: S').length, nI (i + 1), xup I 19 S'.length 0) = some ((evl nm _ ((if x = 0 then 1 else 0) :: S')).headD 0, I2) ∧ _
            rw [if_neg gx]
            exact go (0 :: S') (xup I 19 S'.length 0) (by show S'.length + 1 ≤ i + 1; omega) ⟨xup_eq, hK.2.up (Nat.le_refl _)⟩ (fun k hk => xup_ne hk)
      · rw [if_neg g2, if_neg g2]
        by_cases g3 : c = -21
        · rw [if_pos g3, if_pos g3]
          unfold F_X5_work_j93 F_X5_work_j137
          match S, hK, hS with
          | [], _, _ =>
            rw [if_pos (show tpv ([] : List Int32).length < 0 by decide), xbn_e, nI_1]
            exact go [] I (by simp) trivial (fun _ _ => rfl)
          | x :: S', hK, hS =>
            have hS : S'.length + 1 ≤ i := hS
            rw [show tpv (x :: S').length = nI S'.length from rfl, if_neg (nI_pos (by omega)), if_pos g3, xal_n (by omega) (by decide), hK.1, xas_n (by omega) (by decide), xbn_e, nI_1]
            exact go ((-x) :: S') (xup I 19 S'.length (-x)) (by show S'.length + 1 ≤ i + 1; omega) ⟨xup_eq, hK.2.up (Nat.le_refl _)⟩ (fun k hk => xup_ne hk)
        · rw [if_neg g3, if_neg g3]
          match S, hK, hS with
          | [], _, _ =>
            rw [if_pos (show tpv ([] : List Int32).length < 1 by decide), xbn_e, nI_1]
            exact go [] I (by simp) trivial (fun _ _ => rfl)
          | [x], hK, hS =>
            rw [if_pos (show tpv ([x] : List Int32).length < 1 by show nI 0 < 1; decide), xbn_e, nI_1]
            exact go [x] I (by show 1 ≤ i + 1; omega) hK (fun _ _ => rfl)
          | y :: x :: S', hK, hS =>
            have hS : S'.length + 1 + 1 ≤ i := hS
            obtain ⟨k1, k2, k3⟩ := hK
            show ∃ I2, (if nI (S'.length + 1) < 1 then _ else xbn (nI (S'.length + 1) + -1) _) = _ ∧ _
            rw [if_neg (show ¬ nI (S'.length + 1) < 1 from nI_nlt (b := 1) (by omega) (by omega)), xbn_e, nI_dec (by omega), show S'.length + 1 - 1 = S'.length by omega, xal_n (by omega) (by decide), k2, nI_1, xal_n (by omega) (by decide), show I 19 (S'.length + 1) = y from k1, joined_eq, Option.bind_some, xas_n (by omega) (by decide), xbn_e, nI_1]
            exact go (jn (-100 - c) x y :: S') (xup I 19 S'.length (jn (-100 - c) x y)) (by show S'.length + 1 ≤ i + 1; omega) ⟨xup_eq, k3.up (Nat.le_refl _)⟩ (fun k hk => xup_ne hk)
    · rw [if_neg g1, if_neg g1]
      have h119 : ¬ (119 : Int32) ≤ tpv S.length := by
        match S, hS with
        | [], _ => decide
        | x :: S', hS =>
          have hS : S'.length + 1 ≤ i := hS
          exact nI_ge (b := 119) (show S'.length < 119 by omega) (by decide)
      rw [if_neg h119, tpv_s, xbn_e]
      unfold F_X5_work_j75
      by_cases g2 : c < 0
      · rw [if_pos g2, if_pos g2]
        have hj : ∃ j, j < 10 ∧ (-1) - c = nI j := by
          have a1 : -11 < c.toInt := by
            have := Int32.not_le.mp g1
            rw [Int32.lt_iff_toInt_lt] at this
            rw [show (-11 : Int32).toInt = -11 by decide] at this
            exact this
          have a2 : c.toInt < 0 := by
            rw [Int32.lt_iff_toInt_lt] at g2
            rw [show (0 : Int32).toInt = 0 by decide] at g2
            exact g2
          refine ⟨(-1 - c.toInt).toNat, by omega, ?_⟩
          apply Int32.toInt_inj.mp
          rw [nI_toInt (by omega), Int32.toInt_sub, show (-1 : Int32).toInt = -1 by decide]
          rw [Int.bmod_eq_of_le (by omega) (by omega)]
          omega
        obtain ⟨j, hj10, hje⟩ := hj
        rw [hje, nI_clamp (by omega), xal_n hj10 (by decide), hnm j hj10, xas_n (by omega) (by decide), xbn_e, nI_1]
        exact go (nm j :: S) (xup I 19 S.length (nm j)) (by show S.length + 1 ≤ i + 1; omega) ⟨xup_eq, hK.up (Nat.le_refl _)⟩ (fun k hk => xup_ne hk)
      · rw [if_neg g2, if_neg g2, xas_n (by omega) (by decide), xbn_e, nI_1]
        exact go (c :: S) (xup I 19 S.length c) (by show S.length + 1 ≤ i + 1; omega) ⟨xup_eq, hK.up (Nat.le_refl _)⟩ (fun k hk => xup_ne hk)
theorem work_eq {nm : Nat → Int32} {r a z : Nat} {I : xTI} (hr : r < 12) (hz : z ≤ 120) (ha : a ≤ z) (hnm : ∀ j, j < 10 → I 18 j = nm j) : ∃ I2, F_X5_work xN I (nI r) (nI a) (nI z) = some (evt nm (cdl (fun t => I 17 (120 * r + t)) a (z - a)), I2) ∧ ∀ k, k ≠ 19 → I2 k = I k := by
  unfold F_X5_work
  rw [xbn_e]
  exact work_run hr hz (z - a) [] I a xN (by omega) (Nat.zero_le _) (by show z - a < 100000; omega) trivial hnm
