theorem F11_mk {I : xTI} {b d : Nat} (hb : b < 60) (h : ∀ i, i < b → I 58 (192 + 12 * i) = 1) (h0 : I 58 (192 + 12 * b) = 0) (hd : I 58 0 = nI d) (sl by_ st sh pr ac : Int32) : F_X11_makes xN I sl by_ st sh pr ac = some (nI b, wr I 58 (192 + 12 * b) (bw1 sl by_ st sh pr (nI d) ac) 12) := by
  unfold F_X11_makes
  have x0 : (192 : Int32) + 12 * nI b = nI (192 + 12 * b) := by rw [show (192 : Int32) = nI 192 from rfl, show (12 : Int32) = nI 12 from rfl, nI_mul, nI_add]
  have l0 : ∀ (I : xTI), xal (R := Int32 × xTI) I 58 40670 0 = xal I 58 40670 (nI 0) := fun _ => rfl
  have kk : ∀ t : Nat, nI (192 + 12 * b) + nI t = nI (192 + 12 * b + t) := fun t => nI_add _ t
  rw [F11_fr hb h h0, Option.bind_some, xbn_e, x0]
  rw [show nI (192 + 12 * b) + 1 = nI (192 + 12 * b + 1) from kk 1, show nI (192 + 12 * b) + 2 = nI (192 + 12 * b + 2) from kk 2, show nI (192 + 12 * b) + 3 = nI (192 + 12 * b + 3) from kk 3, show nI (192 + 12 * b) + 4 = nI (192 + 12 * b + 4) from kk 4, show nI (192 + 12 * b) + 5 = nI (192 + 12 * b + 5) from kk 5, show nI (192 + 12 * b) + 6 = nI (192 + 12 * b + 6) from kk 6, show nI (192 + 12 * b) + 7 = nI (192 + 12 * b + 7) from kk 7, show nI (192 + 12 * b) + 8 = nI (192 + 12 * b + 8) from kk 8, show nI (192 + 12 * b) + 9 = nI (192 + 12 * b + 9) from kk 9, show nI (192 + 12 * b) + 10 = nI (192 + 12 * b + 10) from kk 10, show nI (192 + 12 * b) + 11 = nI (192 + 12 * b + 11) from kk 11]
  rw [xas_n (by omega) (by decide), xas_n (by omega) (by decide), xas_n (by omega) (by decide), xas_n (by omega) (by decide), xas_n (by omega) (by decide), xas_n (by omega) (by decide), l0, xal_n (by decide) (by decide), xup_at, if_neg (by omega), xup_at, if_neg (by omega), xup_at, if_neg (by omega), xup_at, if_neg (by omega), xup_at, if_neg (by omega), xup_at, if_neg (by omega), hd, xas_n (by omega) (by decide), xas_n (by omega) (by decide), xas_n (by omega) (by decide), xas_n (by omega) (by decide), xas_n (by omega) (by decide), xas_n (by omega) (by decide)]
  rfl
/-- two men in one number -/
abbrev men2 (q : Nat → Nat) (x : Int32) : Prop := (0 ≤ x / 100 ∧ x / 100 ≤ nI (q 1) - 1) ∧ (0 ≤ x - x / 100 * 100 ∧ x - x / 100 * 100 ≤ nI (q 1) - 1)
theorem F10_am {I : xTI} {q : Nat → Nat} (h : I 3 0 = nI (q 1)) (hq : q 1 ≤ 12) (x : Int32) : F_X10_areMen I x = some (if men2 q x then 1 else 0) := by
  unfold F_X10_areMen F_X10_first F_X10_second men2
  rw [Option.bind_some, Option.bind_some, F10_man h hq, F10_man h hq]
  simp only [Option.bind_some, ite01, xzc_0, xzc_1]
  by_cases g1 : 0 ≤ x / 100 ∧ x / 100 ≤ nI (q 1) - 1
  · by_cases g2 : 0 ≤ x - x / 100 * 100 ∧ x - x / 100 * 100 ≤ nI (q 1) - 1
    · rw [it_n g1, it_n g2, if_pos ⟨g1, g2⟩]
    · rw [it_n g1, it_p g2, if_neg (fun z => g2 z.2)]
  · rw [it_p g1, if_neg (fun z => g1 z.1)]
theorem men2_of {q : Nat → Nat} (hq : q 1 ≤ 12) {x : Int32} (h : men2 q x) : ∃ a b, a < q 1 ∧ b < q 1 ∧ x / 100 = nI a ∧ x - x / 100 * 100 = nI b ∧ x = nI (100 * a + b) := by
  obtain ⟨a, ha, ea⟩ := (rng_iff (by omega)).mp h.1
  obtain ⟨b, hb, eb⟩ := (rng_iff (by omega)).mp h.2
  refine ⟨a, b, ha, hb, ea, eb, ?_⟩
  have : x = nI b + nI a * 100 := by
    rw [← eb, ← ea, Int32.sub_add_cancel]
  rw [this, show (100 : Int32) = nI 100 from rfl, nI_mul, nI_add]
  congr 1; omega
theorem F11_am {I : xTI} {q : Nat → Nat} (h : I 58 1 = nI (q 1)) (hq : q 1 ≤ 12) (x : Int32) : F_X11_areMen I x = some (if men2 q x then 1 else 0) := by
  unfold F_X11_areMen
  rw [F11_man h, F11_man h]
  simp only [Option.bind_some, ite01, xzc_0, xzc_1]
  by_cases g0 : x < 0
  · rw [if_pos g0, if_neg]
    intro z
    obtain ⟨a, b, ha, hb, -, -, e⟩ := men2_of hq z
    rw [e] at g0
    exact nI_pos (by omega) g0
  · rw [if_neg g0]
    by_cases g1 : 0 ≤ x / 100 ∧ x / 100 ≤ nI (q 1) - 1
    · by_cases g2 : 0 ≤ x - x / 100 * 100 ∧ x - x / 100 * 100 ≤ nI (q 1) - 1
      · rw [it_n g1, it_n g2, if_pos ⟨g1, g2⟩]
      · rw [it_n g1, it_p g2, if_neg (fun z => g2 z.2)]
    · rw [it_p g1, if_neg (fun z => g1 z.1)]
abbrev deal2 (s : Nat → Int32) (a b : Nat) : Prop := a ≠ b ∧ s (16 + 4 * a) = 1 ∧ s (16 + 4 * b) = 1
theorem F10_md {I : xTI} {q : Nat → Nat} {n a b : Nat} {x : Int32} (h1 : BRm I (I 58) q) (h2 : IVm (I 58) q n) (hq : q 0 ≤ 700) (hq1 : q 1 ≤ 12) (ha : a < q 1) (hb : b < q 1) (ea : x / 100 = nI a) (eb : x - x / 100 * 100 = nI b) : F_X10_mayDeal I x = some (if deal2 (I 58) a b then 1 else 0) := by
  unfold F_X10_mayDeal F_X10_first F_X10_second deal2
  rw [eb, ea]
  simp only [Option.bind_some]
  rw [F10_up h1 h2 hq hq1 ha, F10_up h1 h2 hq hq1 hb]
  simp only [Option.bind_some, ite01, xzc_0, xzc_1, nI_eq (show a < 2 ^ 31 by omega) (show b < 2 ^ 31 by omega)]
  by_cases e1 : a = b
  · simp [e1]
  · by_cases e2 : I 58 (16 + 4 * a) = 1 <;> by_cases e3 : I 58 (16 + 4 * b) = 1 <;> simp [e1, e2, e3]
theorem F11_md {I : xTI} {a b : Nat} {x : Int32} (ha : a < 12) (hb : b < 12) (ea : x / 100 = nI a) (eb : x - x / 100 * 100 = nI b) : F_X11_mayDeal I x = some (if deal2 (I 58) a b then 1 else 0) := by
  unfold F_X11_mayDeal deal2
  rw [eb, ea, F11_up ha, F11_up hb]
  simp only [Option.bind_some, ite01, xzc_0, xzc_1, nI_eq (show a < 2 ^ 31 by omega) (show b < 2 ^ 31 by omega)]
  by_cases e1 : a = b
  · simp [e1]
  · by_cases e2 : I 58 (16 + 4 * a) = 1 <;> by_cases e3 : I 58 (16 + 4 * b) = 1 <;> simp [e1, e2, e3]
/-- a bargain is written at b: the Book is still as it should be -/
theorem book_new {kp : Bool} {n : Nat} {I : xTI} {L : xTL} (h : xRel kp n I L) {q : Nat → Nat} (hB : BR I L (I 58) (L 59) q) (hV : IV (I 58) (L 59) q n) {b sl by_ st sh pr : Nat} (hb : b < 60) (f1 : sl < q 1) (f2 : by_ < q 1) (f3 : sl ≠ by_) (f4 : st < q 2) (f5 : 1 ≤ sh) (f6 : sh ≤ 99) (f7 : 1 ≤ pr) (f8 : pr ≤ 9999) (u1 : I 58 (16 + 4 * sl) = 1) (u2 : I 58 (16 + 4 * by_) = 1) : xRel kp (n + 1) (wr (wr I 13 (11 * b) (bw (nI sl) (nI by_) (nI st) (nI sh) (nI pr) (nI (q 0)) (nI (acOf (q 0)))) 11) 58 (192 + 12 * b) (bw1 (nI sl) (nI by_) (nI st) (nI sh) (nI pr) (nI (q 0)) (nI (acOf (q 0)))) 12) L := by
  have c5 : q 1 ≤ 12 := hV.1.2.2.1
  refine h.book (xSame.of (fun k' e1 e2 => by rw [wr_ne e2, wr_ne (by omega)]) (fun _ _ => rfl)) ⟨q, ?_⟩
  have e58 : ∀ w, wr I 13 (11 * b) w 11 58 = I 58 := fun w => wr_ne (by decide) _
  refine bookB1 hb hB hV.mono (fun k _ _ e => by rw [wr_ne (by omega), wr_ne e]) (fun j hj => ?_) (fun j hj => ?_) (Or.inr ⟨?_, fun t ht => ?_, ?_⟩)
  · rw [wr_out 12 (by omega), e58]
  · rw [wr_ne (by decide), wr_out 11 (by omega)]
  · exact wr_in (t := 0) 12 (by decide)
  · rw [wr_ne (by decide), wr_in 11 ht, show 192 + 12 * b + 1 + t = 192 + 12 * b + (t + 1) by omega, wr_in 12 (by omega)]; rfl
  · refine ⟨sl, by_, st, sh, pr, q 0, acOf (q 0), 0, ?_⟩
    unfold isUpP
    rw [wr_in (t := 1) 12 (by decide), wr_in (t := 2) 12 (by decide), wr_in (t := 3) 12 (by decide), wr_in (t := 4) 12 (by decide), wr_in (t := 5) 12 (by decide), wr_in (t := 6) 12 (by decide), wr_in (t := 7) 12 (by decide), wr_in (t := 8) 12 (by decide), wr_in (t := 9) 12 (by decide), wr_in (t := 10) 12 (by decide), wr_in (t := 11) 12 (by decide), wr_out (j := 16 + 4 * sl) 12 (by omega), wr_out (j := 16 + 4 * by_) 12 (by omega), e58]
    refine ⟨rfl, rfl, rfl, rfl, rfl, rfl, rfl, rfl, f1, f2, f3, f4, f5, f6, f7, f8, Nat.le_refl _, ?_, ?_, by decide, Or.inl rfl, Or.inl rfl, ⟨0, by decide, rfl⟩, fun _ => Or.inl rfl, fun e => absurd e (by decide), fun _ => ⟨u1, u2⟩⟩
    · unfold acOf; by_cases g : q 0 % 14 < 10
      · rw [if_pos g]; omega
      · rw [if_neg g]; omega
    · unfold acOf; by_cases g : q 0 % 14 < 10
      · rw [if_pos g]; omega
      · rw [if_neg g]; omega
