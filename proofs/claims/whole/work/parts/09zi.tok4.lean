/-- kind and value of word w, as the class takes it -/
def wKd (w : Nat) : Int32 := if w < 6 then 1 else if w < 16 then 2 else nI (w - 12)
def wVl (w : Nat) : Int32 := if w < 6 then nI w else nI (w - 6)
theorem takeWord_y {I : xTI} {w : Nat} (hw : w < 20) : ∃ I2, F_X9_takeWord I (nI w) = some I2 ∧ I2 29 2 = I 29 2 ∧ I2 29 3 = I 29 3 ∧ I2 29 4 = wKd w ∧ (wKd w = 1 ∨ wKd w = 2 ∨ wKd w = 3 → I2 29 5 = wVl w) ∧ FrT I I2 := by
  unfold F_X9_takeWord wKd wVl
  rw [if_neg (nI_ne_m1 (by omega))]
  by_cases g : w < 6
  · rw [if_neg (show ¬ (6 : Int32) ≤ nI w from nI_ge (b := 6) g (by decide)), if_pos g, if_pos g]
    exact ⟨_, rfl, by simp [xup], by simp [xup], by simp [xup], fun _ => by simp [xup], ((FrT.rfl' I).up (by omega) _).up (by omega) _⟩
  · rw [if_pos (show (6 : Int32) ≤ nI w from nI_le (a := 6) (by omega) (by omega)), if_neg g, if_neg g]
    by_cases g2 : w < 16
    · rw [if_neg (show ¬ (16 : Int32) ≤ nI w from nI_ge (b := 16) g2 (by decide)), if_pos g2, show nI w - 6 = nI (w - 6) from nI_sub (b := 6) (by omega)]
      exact ⟨_, rfl, by simp [xup], by simp [xup], by simp [xup], fun _ => by simp [xup], ((FrT.rfl' I).up (by omega) _).up (by omega) _⟩
    · rw [if_pos (show (16 : Int32) ≤ nI w from nI_le (a := 16) (by omega) (by omega)), if_neg g2]
      have e : 4 + nI w - 16 = nI (w - 12) := by
        rw [show (4 : Int32) = nI 4 from rfl, show (16 : Int32) = nI 16 from rfl, nI_add, nI_sub (by omega)]
        congr 1; omega
      rw [e]
      refine ⟨_, rfl, by simp [xup], by simp [xup], by simp [xup], fun h => ?_, (FrT.rfl' I).up (by omega) _⟩
      exfalso
      rcases h with h | h | h
      · have := (nI_lq (c := 1) rfl (by omega) (by decide)).mp h; omega
      · have := (nI_lq (c := 2) rfl (by omega) (by decide)).mp h; omega
      · have := (nI_lq (c := 3) rfl (by omega) (by decide)).mp h; omega
theorem takeWord_n {I : xTI} : F_X9_takeWord I (-1) = some (xup I 29 4 9) := by
  unfold F_X9_takeWord
  rw [if_pos rfl, xbn_e]
/-- what class and reference make of the same token -/
def TRel (kd vl rk : Int32) (rw_ : Int64) : Prop := (kd = 8 ∧ rk = 0) ∨ (kd = 9 ∧ (rk = 4 ∨ (rk = 1 ∧ ∀ v, v < 20 → rw_ ≠ Int64.ofNat (wNum v)))) ∨ (kd = 3 ∧ rk = 2 ∧ ∃ v, v < 100000 ∧ vl = nI v ∧ rw_ = Int64.ofNat v) ∨ (rk = 1 ∧ ∃ w, w < 20 ∧ rw_ = Int64.ofNat (wNum w) ∧ kd = wKd w ∧ vl = wVl w) ∨ (rk = 3 ∧ ∃ b, sgn b ∧ kd = nI b ∧ rw_ = Int64.ofNat b)
theorem tok_word {tb : Nat → Nat} {sz p m e : Nat} (hsz : sz ≤ 120) (hb : ∀ i, i < sz → tb i ≤ 255) (hp : p ≤ m) (hm : m < sz) (hr : ∀ i, p ≤ i → i < m → tb i = 32) (hme : m < e) (hes : e ≤ sz) (hl : ∀ i, m ≤ i → i < e → 97 ≤ tb i ∧ tb i ≤ 122) (hend : e < sz → ¬ (97 ≤ tb e ∧ tb e ≤ 122)) : ∃ kd vl, TokC tb sz p m e kd vl ∧ TokR tb sz p m e 1 (wth tb m e) ∧ TRel kd vl 1 (wth tb m e) := by
  have hd0 := hl m (Nat.le_refl _) hme
  have hC : ∀ I, CT tb sz I → I 29 3 = nI p → ∃ J, F_X9_takeToken xN I = Option.bind (F_X9_wordAtHand xN J) (fun v8 => Option.bind (F_X9_takeWord J v8) (fun I9 => some I9)) ∧ CT tb sz J ∧ J 29 2 = nI m ∧ J 29 3 = nI e ∧ FrT I J := by
    intro I h h3
    refine ⟨xup (xup (xup I 29 3 (nI m)) 29 2 (nI m)) 29 3 (nI e), ?_, ((h.up (by decide) _).up (by decide) _).up (by decide) _, by simp [xup], by simp [xup], (((FrT.rfl' I).up (by omega) _).up (by omega) _).up (by omega) _⟩
    rw [c_skip h hsz hb h3 hp (Nat.le_of_lt hm) hr (fun _ => by omega)]
    have h1 := (h.up (j := 3) (by decide) (nI m)).up (j := 2) (by decide) (nI m)
    have e0 : xup (xup I 29 3 (nI m)) 29 2 (nI m) 29 0 = nI sz := by rw [xup_nj (by decide), xup_nj (by decide), h.1]
    have e3 : xup (xup I 29 3 (nI m)) 29 2 (nI m) 29 3 = nI m := by rw [xup_nj (by decide), xup_eq]
    unfold F_X9_takeToken_j37
    rw [xbn_e, xup_eq, xbn_e, xbn_e, xup_eq, b9_in h1 hsz hm, Option.bind_some, xbn_e, xbn_e, e0, if_pos (nI_lt hm (by omega)), if_neg (show ¬ nI (tb m) < 97 from nI_nlt (b := 97) (by omega) (by omega)), if_neg (show ¬ (122 : Int32) < nI (tb m) from nI_nlt (a := 122) (by omega) (by decide))]
    generalize xup (xup I 29 3 (nI m)) 29 2 (nI m) = J at h1 e0 e3 ⊢
    have sk : F_X9_skipLetters xN J = some (xup J 29 3 (nI e)) := by
      unfold F_X9_skipLetters
      have es : ((0 : Int32), J) = (fun i => (nI i, xup J 29 3 (nI (m + i)))) 0 := by
        show ((0 : Int32), J) = (nI 0, xup J 29 3 (nI m))
        rw [xup_id e3]; rfl
      rw [es]
      refine xlp_for (fun i => (nI i, xup J 29 3 (nI (m + i)))) (e - m) _ (fun i hi k => ?_) (fun k => ?_) xN (by show e - m < 100000; omega)
      · have hli := hl (m + i) (by omega) (by omega)
        show F_X9_skipLetters_c2 xN (nI i) (xup J 29 3 (nI (m + i))) k = k (nI (i + 1), xup J 29 3 (nI (m + (i + 1))))
        have hJ := h1.up (j := 3) (by decide) (nI (m + i))
        unfold F_X9_skipLetters_c2
        rw [if_neg (n120 (by omega)), xbn_e, xup_eq, b9_in hJ hsz (by omega), Option.bind_some, if_neg (show ¬ nI (tb (m + i)) < 97 from nI_nlt (b := 97) (by omega) (by omega)), xbn_e, b9_in hJ hsz (by omega), Option.bind_some, if_neg (show ¬ (122 : Int32) < nI (tb (m + i)) from nI_nlt (a := 122) (by omega) (by decide)), xbn_e, xbn_e, xbn_e, nI_1, nI_1, xup_xup]
        rfl
      · show F_X9_skipLetters_c2 xN (nI (e - m)) (xup J 29 3 (nI (m + (e - m)))) k = _
        rw [show m + (e - m) = e by omega]
        have hJ := h1.up (j := 3) (by decide) (nI e)
        unfold F_X9_skipLetters_c2
        by_cases g1 : 120 ≤ e - m
        · rw [if_pos (p120 g1 (by omega))]
        · rw [if_neg (n120 (by omega)), xbn_e, xup_eq]
          by_cases g2 : e < sz
          · have hx := hend g2
            have hbe := hb e g2
            rw [b9_in hJ hsz g2, Option.bind_some]
            by_cases g3 : tb e < 97
            · rw [if_pos (show nI (tb e) < 97 from nI_lt (b := 97) g3 (by decide))]
            · rw [if_neg (show ¬ nI (tb e) < 97 from nI_nlt (b := 97) (by omega) (by omega)), xbn_e, b9_in hJ hsz g2, Option.bind_some, if_pos (show (122 : Int32) < nI (tb e) from nI_lt (a := 122) (by omega) (by omega))]
          · rw [b9_out hJ (by omega) (by omega), Option.bind_some, if_pos (by decide)]
    rw [sk, Option.bind_some]
  have hR : TokR tb sz p m e 1 (wth tb m e) := by
    intro I L h h3
    have h1 := h.up (j := 11) (by decide) (nI m)
    have h2 := h1.up (j := 9) (by decide) (nI m)
    have hin : ∀ i, m ≤ i → i < e → F_X11_in (nI (tb i)) 97 122 = some 1 := fun i a b => by
      have hdi := hl i a b
      rw [xin_iff, if_pos (show (97 : Int32) ≤ nI (tb i) ∧ nI (tb i) ≤ 122 from (rngl_iff (a := 97) (b := 122) (by decide) (by decide)).mpr ⟨tb i, hdi.1, hdi.2, rfl⟩)]
    have h4 := ((h2.up (j := 8) (by decide) 4).up (j := 8) (by decide) 1)
    refine ⟨xup (xup (xup (xup (xup I 57 11 (nI m)) 57 9 (nI m)) 57 8 4) 57 8 1) 57 11 (nI e), xup L 57 10 (wth tb m e), ?_, ?_, ?_, ?_, ?_, ?_, FrL.up _ _ _⟩
    · refine r_skip h hsz h3 hp (Nat.le_of_lt hm) hr (fun k => ?_)
      unfold F_X11_next_c0
      rw [xbn_e, xup_eq, b11_in h1 hsz hm, Option.bind_some, if_neg (show ¬ nI (tb m) = 32 from fun e => by have := (nI_lq (c := 32) rfl (by omega) (by decide)).mp e; omega), xbn_e, xbn_e, xbn_e, xup_nj (by decide), xup_eq, b11_in h2 hsz hm, Option.bind_some, xbn_e, if_pos (show (0 : Int32) ≤ nI (tb m) from nI_le (a := 0) (by omega) (by omega)), hin m (Nat.le_refl _) hme, Option.bind_some, if_neg (by decide), xbn_e, xbn_e]
      have e11 : xup (xup (xup (xup I 57 11 (nI m)) 57 9 (nI m)) 57 8 4) 57 8 1 57 11 = nI m := by
        rw [xup_nj (by decide), xup_nj (by decide), xup_nj (by decide), xup_eq]
      generalize xup (xup (xup (xup I 57 11 (nI m)) 57 9 (nI m)) 57 8 4) 57 8 1 = J at h4 e11 ⊢
      have es : ((0 : Int32), J, xup L 57 10 (0 : Int64)) = (fun i => (nI i, xup J 57 11 (nI (m + i)), xup L 57 10 (wth tb m (m + i)))) 0 := by
        show ((0 : Int32), J, xup L 57 10 (0 : Int64)) = (nI 0, xup J 57 11 (nI m), xup L 57 10 (wth tb m (m + 0)))
        rw [xup_id (I := J) e11]
        unfold wth
        rw [if_pos (by omega), show m + 0 - m = 0 by omega]
        rfl
      rw [es]
      refine xlp_for (fun i => (nI i, xup J 57 11 (nI (m + i)), xup L 57 10 (wth tb m (m + i)))) (e - m) _ (fun i hi k => ?_) (fun k => ?_) xN (by show e - m < 100000; omega)
      · have hli := hl (m + i) (by omega) (by omega)
        show F_X11_next_c91 xN (nI i) (xup J 57 11 (nI (m + i))) (xup L 57 10 (wth tb m (m + i))) k = k (nI (i + 1), xup J 57 11 (nI (m + (i + 1))), xup L 57 10 (wth tb m (m + (i + 1))))
        have hJ := h4.up (j := 11) (by decide) (nI (m + i))
        unfold F_X11_next_c91 F_X11_next_j144
        rw [xbn_e, xup_eq, b11_in hJ hsz (by omega), Option.bind_some, hin _ (by omega) (by omega), Option.bind_some, if_neg (show ¬ (1 : Int32) = 0 by decide)]
        by_cases g : 7 ≤ i
        · have e1 : wth tb m (m + (i + 1)) = -1 := by unfold wth; rw [if_neg (by omega)]
          rw [if_pos (show (7 : Int32) ≤ nI i from nI_le (a := 7) g (by omega)), xbn_e, xbn_e, xbn_e, xbn_e, nI_1, nI_1, xup_xup, xup_xup, e1]
          rfl
        · have e1 : wth tb m (m + i) = Int64.ofNat (hsh (fun i => tb (m + i) - 96) i) := by unfold wth; rw [if_pos (by omega), show m + i - m = i by omega]
          have e2 : wth tb m (m + (i + 1)) = Int64.ofNat (hsh (fun i => tb (m + i) - 96) (i + 1)) := by unfold wth; rw [if_pos (by omega), show m + (i + 1) - m = i + 1 by omega]
          rw [if_neg (show ¬ (7 : Int32) ≤ nI i from nI_ge (b := 7) (by omega) (by decide)), xbn_e, xup_eq, xbn_e, b11_in hJ hsz (by omega), Option.bind_some, xbn_e, xbn_e, xbn_e, xbn_e, nI_1, nI_1, xup_xup, xup_xup, e1, e2, nI_i64 (by omega), show (27 : Int64) = Int64.ofNat 27 from rfl, show (96 : Int64) = Int64.ofNat 96 from rfl, ← Int64.ofNat_mul, ← Int64.ofNat_add, ← Int64.ofNat_sub _ _ (by omega)]
          have : 27 * hsh (fun i => tb (m + i) - 96) i + tb (m + i) - 96 = hsh (fun i => tb (m + i) - 96) (i + 1) := by
            show _ = 27 * hsh (fun i => tb (m + i) - 96) i + (tb (m + i) - 96)
            omega
          rw [this]
          rfl
      · show F_X11_next_c91 xN (nI (e - m)) (xup J 57 11 (nI (m + (e - m)))) (xup L 57 10 (wth tb m (m + (e - m)))) k = _
        rw [show m + (e - m) = e by omega]
        have hJ := h4.up (j := 11) (by decide) (nI e)
        have hb0 : ∃ x, F_X11_byteAt (xup J 57 11 (nI e)) (nI e) = some x ∧ F_X11_in x 97 122 = some 0 := by
          by_cases g2 : e < sz
          · refine ⟨_, b11_in hJ hsz g2, ?_⟩
            have hbe := hb e g2
            rw [xin_iff, if_neg]
            intro g
            obtain ⟨j, a, b, c⟩ := (rngl_iff (a := 97) (b := 122) (by decide) (by decide)).mp g
            have := (nI_eq (by omega) (by omega)).mp c
            exact hend g2 (by omega)
          · exact ⟨_, b11_out hJ (by omega) (by omega), by decide⟩
        obtain ⟨x, hx1, hx2⟩ := hb0
        unfold F_X11_next_c91
        rw [xbn_e, xup_eq, hx1, Option.bind_some, hx2, Option.bind_some, if_pos rfl]
    · simp [xup]
    · intro _; simp [xup]
    · simp [xup]
    · intro _; simp [xup]
    · exact (((((FrR.rfl' I).up (by omega) _).up (by omega) _).up (by omega) _).up (by omega) _).up (by omega) _
  by_cases hw : ∃ v, v < 20 ∧ wth tb m e = Int64.ofNat (wNum v)
  · obtain ⟨v, hv, hv2⟩ := hw
    refine ⟨wKd v, wVl v, fun I h h3 => ?_, hR, Or.inr (Or.inr (Or.inr (Or.inl ⟨rfl, v, hv, hv2, rfl, rfl⟩)))⟩
    obtain ⟨J, j1, j2, j3, j4, j5⟩ := hC I h h3
    have hwd : F_X9_wordAtHand xN J = some (nI v) := by
      rcases wd_end j2 hsz hes hb (Nat.le_of_lt hme) j3 j4 hl with ⟨v', a1, a2, a3⟩ | ⟨a1, -⟩
      · have hq : ∀ v, v < 20 → ∀ v', v' < 20 → wNum v = wNum v' → v = v' := by decide +kernel
        have hlt : ∀ v, v < 20 → wNum v < 2 ^ 63 := by decide
        have e1 := congrArg Int64.toInt (hv2.symm.trans a2)
        rw [Int64.toInt_ofNat_of_lt (hlt v hv), Int64.toInt_ofNat_of_lt (hlt v' a1)] at e1
        rw [a3, hq v hv v' a1 (by omega)]
      · exact absurd hv2 (a1 v hv)
    obtain ⟨I2, t1, t2, t3, t4, t5, t6⟩ := takeWord_y (I := J) hv
    refine ⟨I2, ?_, by rw [t2, j3], by rw [t3, j4], t4, t5, fun k j hk => by rw [t6 k j hk, j5 k j hk]⟩
    rw [j1, hwd, Option.bind_some, t1, Option.bind_some]
  · have hw' : ∀ v, v < 20 → wth tb m e ≠ Int64.ofNat (wNum v) := fun v hv h => hw ⟨v, hv, h⟩
    refine ⟨9, 0, fun I h h3 => ?_, hR, Or.inr (Or.inl ⟨rfl, Or.inr ⟨rfl, hw'⟩⟩)⟩
    obtain ⟨J, j1, j2, j3, j4, j5⟩ := hC I h h3
    have hwd : F_X9_wordAtHand xN J = some (-1) := by
      rcases wd_end j2 hsz hes hb (Nat.le_of_lt hme) j3 j4 hl with ⟨v', a1, a2, a3⟩ | ⟨-, a1⟩
      · exact absurd a2 (hw' v' a1)
      · exact a1
    refine ⟨xup J 29 4 9, ?_, by simp [xup, j3], by simp [xup, j4], by simp [xup], fun g => absurd g (by decide), j5.up (by omega) _⟩
    rw [j1, hwd, Option.bind_some, takeWord_n, Option.bind_some]
/-- ONE TOKEN: from p both come to the same, and further on -/
theorem tok_ex {tb : Nat → Nat} {sz p : Nat} (hsz : sz ≤ 120) (hb : ∀ i, i < sz → tb i ≤ 255) (hp : p ≤ sz) : ∃ m e kd vl rk rw_, p ≤ m ∧ m ≤ sz ∧ e ≤ sz ∧ (kd ≠ 8 → m < e) ∧ TRel kd vl rk rw_ ∧ TokC tb sz p m e kd vl ∧ TokR tb sz p m e rk rw_ := by
  obtain ⟨m, hpm, hms, hr, he⟩ := run_ex (fun i => tb i = 32) (sz - p) p sz (by omega)
  by_cases g : m = sz
  · subst g
    obtain ⟨a, b⟩ := tok_end hsz hb hp hr
    exact ⟨m, m, 8, 0, 0, 0, hpm, Nat.le_refl _, Nat.le_refl _, fun h => absurd rfl h, Or.inl ⟨rfl, rfl⟩, a, b⟩
  · have hm : m < sz := by omega
    have h32 := he hm
    by_cases gl : 97 ≤ tb m ∧ tb m ≤ 122
    · obtain ⟨e, h1, h2, h3, h4⟩ := run_ex (fun i => 97 ≤ tb i ∧ tb i ≤ 122) (sz - (m + 1)) (m + 1) sz (by omega)
      obtain ⟨kd, vl, a, b, c⟩ := tok_word (p := p) (m := m) (e := e) hsz hb hpm hm hr (by omega) h2 (fun i i1 i2 => by
        by_cases e1 : i = m
        · subst e1; exact gl
        · exact h3 i (by omega) i2) h4
      exact ⟨m, e, kd, vl, 1, _, hpm, hms, h2, fun _ => by omega, c, a, b⟩
    · by_cases gd : 48 ≤ tb m ∧ tb m ≤ 57
      · obtain ⟨e, h1, h2, h3, h4⟩ := run_ex (fun i => 48 ≤ tb i ∧ tb i ≤ 57) (sz - (m + 1)) (m + 1) sz (by omega)
        have hdg : ∀ i, m ≤ i → i < e → 48 ≤ tb i ∧ tb i ≤ 57 := fun i i1 i2 => by
          by_cases e1 : i = m
          · subst e1; exact gd
          · exact h3 i (by omega) i2
        obtain ⟨a, b⟩ := tok_num (p := p) (m := m) (e := e) hsz hb hpm hm hr (by omega) h2 hdg h4
        refine ⟨m, e, _, _, _, _, hpm, hms, h2, fun _ => by omega, ?_, a, b⟩
        by_cases g5 : e - m ≤ 5
        · rw [if_pos g5, if_pos g5]
          exact Or.inr (Or.inr (Or.inl ⟨rfl, rfl, _, dig_le5 g5 (fun i hi => by have := hdg (m + i) (by omega) (by omega); omega), rfl, rfl⟩))
        · rw [if_neg g5, if_neg g5]
          exact Or.inr (Or.inl ⟨rfl, Or.inl rfl⟩)
      · obtain ⟨a, b⟩ := tok_sign (p := p) (m := m) hsz hb hpm hm hr h32 gl gd
        refine ⟨m, m + 1, _, _, _, _, hpm, hms, by omega, fun _ => by omega, ?_, a, b⟩
        by_cases gs : sgn (tb m)
        · rw [if_pos gs, if_pos gs]
          exact Or.inr (Or.inr (Or.inr (Or.inr ⟨rfl, tb m, gs, rfl, rfl⟩)))
        · rw [if_neg gs, if_neg gs]
          exact Or.inr (Or.inl ⟨rfl, Or.inl rfl⟩)
