section PARSE6
variable {tb : Nat → Nat} {sz : Nat}
/-- a NAME -/
theorem name_y {c : Cu} {o : Nat} {nm : Nat → Int32} {k b : Int32} {I : xTI} {L : xTL} (h : AtR tb sz c o nm k b I L) {w : Nat} (h1 : 6 ≤ w) (h2 : w < 16) (hr : cR c = 1) (hw : cW c = Int64.ofNat (wNum w)) : F_X11_name xN I L = some (nm (w - 6), I) := by
  obtain ⟨-, -, -, a8, a10, -, a13, a15, a16, ⟨n0, ⟨kk, hk5, hk, n1⟩, n2, n3, n4, hbb⟩⟩ := h
  have a10 := a10 (Or.inl hr)
  have q : ∀ v, v < 20 → F_X11_isWord I L (Int64.ofNat (wNum v)) = some (if w = v then 1 else 0) := fun v hv => by
    rw [isW a13 (by rw [a8, hr]), a10, hw]
    by_cases g : w = v
    · subst g; rw [if_pos rfl, if_pos rfl]
    · rw [if_neg g, if_neg]
      intro e
      exact g (wNum_q w (by omega) v hv ((i64n (wNum_lt w (by omega)) (wNum_lt v hv)).mp e))
  have q6 : F_X11_isWord I L 10502066 = some (if w = 6 then 1 else 0) := q 6 (by decide)
  have q7 : F_X11_isWord I L 256721 = some (if w = 7 then 1 else 0) := q 7 (by decide)
  have q8 : F_X11_isWord I L 2968 = some (if w = 8 then 1 else 0) := q 8 (by decide)
  have q9 : F_X11_isWord I L 8740067 = some (if w = 9 then 1 else 0) := q 9 (by decide)
  have q10 : F_X11_isWord I L 9626 = some (if w = 10 then 1 else 0) := q 10 (by decide)
  have q11 : F_X11_isWord I L 276913720 = some (if w = 11 then 1 else 0) := q 11 (by decide)
  have q12 : F_X11_isWord I L 8863997 = some (if w = 12 then 1 else 0) := q 12 (by decide)
  have q13 : F_X11_isWord I L 275531535 = some (if w = 13 then 1 else 0) := q 13 (by decide)
  have q14 : F_X11_isWord I L 1494603 = some (if w = 14 then 1 else 0) := q 14 (by decide)
  have q15 : F_X11_isWord I L 6941854 = some (if w = 15 then 1 else 0) := q 15 (by decide)
  unfold F_X11_name
  rw [q6, q7, q8, q9, q10, q11, q12, q13, q14, q15]
  have hj : ∀ (t : Int32) (j : Nat), t = nI j → 1 ≤ j → j < 9 → (b = -1 → nm (w - 6) = 0) → (∀ bb, bb < 60 → b = nI bb → nm (w - 6) = I 58 (192 + 12 * bb + j)) → F_X11_name_j163 xN I L t = some (nm (w - 6), I) := by
    intro t j ht hj1 hj9 hb1 hb2
    subst ht
    unfold F_X11_name_j163
    rw [if_neg (nI_ne_m1 (by omega)), xbn_e, a16]
    rcases hbb with ⟨e, -⟩ | ⟨bb, hb60, e, -⟩
    · rw [if_pos e, hb1 e]
    · rw [if_neg (by rw [e]; exact nI_ne_m1 (by omega)), if_neg (fun g => by have := (nI_lq (c := 9) rfl (by omega) (by decide)).mp g; omega), xbn_e, e]
      unfold F_X11_bg
      rw [show (192 : Int32) = nI 192 from rfl, show (12 : Int32) = nI 12 from rfl, ixc, xal_n (by omega) (by decide), Option.bind_some, hb2 bb hb60 e]
  have hw16 : w = 6 ∨ w = 7 ∨ w = 8 ∨ w = 9 ∨ w = 10 ∨ w = 11 ∨ w = 12 ∨ w = 13 ∨ w = 14 ∨ w = 15 := by omega
  rcases hw16 with rfl | rfl | rfl | rfl | rfl | rfl | rfl | rfl | rfl | rfl
  · simp only [Option.bind_some, Nat.reduceEqDiff, if_true, if_false, reduceIte]
    rw [if_neg (by decide), xbn_e, a15]
    show some (k, I) = some (nm 0, I)
    rw [n0]
  · simp only [Option.bind_some, Nat.reduceEqDiff, if_true, if_false, reduceIte]
    rw [if_neg (by decide), xbn_e, a15, hk, show (184 : Int32) = nI 184 from rfl, nI_add, xal_n (by omega) (by decide)]
    show some (I 58 (184 + kk), I) = some (nm 1, I)
    rw [n1]
  · simp only [Option.bind_some, Nat.reduceEqDiff, if_true, if_false, reduceIte]
    rw [if_neg (by decide), show (0 : Int32) = nI 0 from rfl, xal_n (by omega) (by decide)]
    show some (I 58 0, I) = some (nm 2, I)
    rw [n2]
  · simp only [Option.bind_some, Nat.reduceEqDiff, if_true, if_false, reduceIte]
    rw [if_neg (by decide), show xal (R := Int32 × xTI) I 58 40670 0 = xal (R := Int32 × xTI) I 58 40670 (nI 0) from rfl, xal_n (by omega) (by decide)]
    show some (I 58 0 - I 58 0 / 14 * 14, I) = some (nm 3, I)
    rw [n3]
  · simp only [Option.bind_some, Nat.reduceEqDiff, if_true, if_false, reduceIte]
    rw [if_neg (by decide), n4, Option.bind_some]
  · simp only [Option.bind_some, Nat.reduceEqDiff, if_true, if_false, reduceIte]
    rw [if_neg (by decide)]
    refine hj 4 4 rfl (by decide) (by decide) (fun e => ?_) (fun bb h60 e => ?_)
    · rcases hbb with ⟨-, g5, -⟩ | ⟨bb, h60, e2, -⟩
      · exact g5
      · rw [e] at e2; exact absurd e2.symm (nI_ne_m1 (by omega))
    · rcases hbb with ⟨e2, -⟩ | ⟨bb2, h60', e2, g5, -⟩
      · rw [e] at e2; exact absurd e2 (nI_ne_m1 (by omega))
      · rw [e] at e2; have := (nI_eq (by omega) (by omega)).mp e2; subst this; exact g5
  · simp only [Option.bind_some, Nat.reduceEqDiff, if_true, if_false, reduceIte]
    rw [if_neg (by decide)]
    refine hj 5 5 rfl (by decide) (by decide) (fun e => ?_) (fun bb h60 e => ?_)
    · rcases hbb with ⟨-, -, g5, -⟩ | ⟨bb, h60, e2, -⟩
      · exact g5
      · rw [e] at e2; exact absurd e2.symm (nI_ne_m1 (by omega))
    · rcases hbb with ⟨e2, -⟩ | ⟨bb2, h60', e2, -, g5, -⟩
      · rw [e] at e2; exact absurd e2 (nI_ne_m1 (by omega))
      · rw [e] at e2; have := (nI_eq (by omega) (by omega)).mp e2; subst this; exact g5
  · simp only [Option.bind_some, Nat.reduceEqDiff, if_true, if_false, reduceIte]
    rw [if_neg (by decide)]
    refine hj 1 1 rfl (by decide) (by decide) (fun e => ?_) (fun bb h60 e => ?_)
    · rcases hbb with ⟨-, -, -, g5, -⟩ | ⟨bb, h60, e2, -⟩
      · exact g5
      · rw [e] at e2; exact absurd e2.symm (nI_ne_m1 (by omega))
    · rcases hbb with ⟨e2, -⟩ | ⟨bb2, h60', e2, -, -, g5, -⟩
      · rw [e] at e2; exact absurd e2 (nI_ne_m1 (by omega))
      · rw [e] at e2; have := (nI_eq (by omega) (by omega)).mp e2; subst this; exact g5
  · simp only [Option.bind_some, Nat.reduceEqDiff, if_true, if_false, reduceIte]
    rw [if_neg (by decide)]
    refine hj 2 2 rfl (by decide) (by decide) (fun e => ?_) (fun bb h60 e => ?_)
    · rcases hbb with ⟨-, -, -, -, g5, -⟩ | ⟨bb, h60, e2, -⟩
      · exact g5
      · rw [e] at e2; exact absurd e2.symm (nI_ne_m1 (by omega))
    · rcases hbb with ⟨e2, -⟩ | ⟨bb2, h60', e2, -, -, -, g5, -⟩
      · rw [e] at e2; exact absurd e2 (nI_ne_m1 (by omega))
      · rw [e] at e2; have := (nI_eq (by omega) (by omega)).mp e2; subst this; exact g5
  · simp only [Option.bind_some, Nat.reduceEqDiff, if_true, if_false, reduceIte]
    rw [if_neg (by decide)]
    unfold F_X11_name_j163
    rw [if_neg (by decide), xbn_e, a16]
    rcases hbb with ⟨e, -, -, -, -, g9⟩ | ⟨bb, hb60, e, -, -, -, -, g9⟩
    · rw [if_pos e]
      show some (0, I) = some (nm 9, I)
      rw [g9]
    · rw [if_neg (by rw [e]; exact nI_ne_m1 (by omega)), if_pos rfl, xbn_e, e]
      have hbg : ∀ t : Nat, t < 12 → F_X11_bg I (nI bb) (nI t) = some (I 58 (192 + 12 * bb + t)) := fun t ht => by
        unfold F_X11_bg
        rw [show (192 : Int32) = nI 192 from rfl, show (12 : Int32) = nI 12 from rfl, ixc, xal_n (by omega) (by decide)]
      rw [show (9 : Int32) = nI 9 from rfl, hbg 9 (by decide), Option.bind_some]
      show _ = some (nm 9, I)
      rw [g9]
      have hj2 : ∀ t, F_X11_name_j210 xN I L t = some (t + (if I 58 (192 + 12 * bb + 10) = -1 then 0 else 2), I) := fun t => by
        unfold F_X11_name_j210 F_X11_name_j229
        rw [xbn_e, a16, e, show (10 : Int32) = nI 10 from rfl, hbg 10 (by decide), Option.bind_some]
        by_cases g : I 58 (192 + 12 * bb + 10) = -1
        · rw [if_pos g, if_pos g]
        · rw [if_neg g, if_neg g]
      rw [hj2, hj2]
      by_cases g : I 58 (192 + 12 * bb + 9) = -1
      · rw [if_pos g, if_pos g]
      · rw [if_neg g, if_neg g]
theorem name_n {c : Cu} {o : Nat} {nm : Nat → Int32} {k b : Int32} {I : xTI} {L : xTL} (h : AtR tb sz c o nm k b I L) (hr : cR c = 1) (hw : ∀ v, 6 ≤ v → v < 16 → cW c ≠ Int64.ofNat (wNum v)) : F_X11_name xN I L = some (0, xup (xup I 57 13 1) 57 14 (I 57 9)) := by
  obtain ⟨-, -, -, a8, a10, -, a13, -⟩ := h
  have a10 := a10 (Or.inl hr)
  have q : ∀ v, 6 ≤ v → v < 16 → F_X11_isWord I L (Int64.ofNat (wNum v)) = some 0 := fun v h1 hv => by
    rw [isW a13 (by rw [a8, hr]), a10, if_neg (hw v h1 hv)]
  have q6 : F_X11_isWord I L 10502066 = some 0 := q 6 (by decide) (by decide)
  have q7 : F_X11_isWord I L 256721 = some 0 := q 7 (by decide) (by decide)
  have q8 : F_X11_isWord I L 2968 = some 0 := q 8 (by decide) (by decide)
  have q9 : F_X11_isWord I L 8740067 = some 0 := q 9 (by decide) (by decide)
  have q10 : F_X11_isWord I L 9626 = some 0 := q 10 (by decide) (by decide)
  have q11 : F_X11_isWord I L 276913720 = some 0 := q 11 (by decide) (by decide)
  have q12 : F_X11_isWord I L 8863997 = some 0 := q 12 (by decide) (by decide)
  have q13 : F_X11_isWord I L 275531535 = some 0 := q 13 (by decide) (by decide)
  have q14 : F_X11_isWord I L 1494603 = some 0 := q 14 (by decide) (by decide)
  have q15 : F_X11_isWord I L 6941854 = some 0 := q 15 (by decide) (by decide)
  unfold F_X11_name
  rw [q6, q7, q8, q9, q10, q11, q12, q13, q14, q15]
  simp only [Option.bind_some, if_true]
  unfold F_X11_name_j163
  rw [if_pos rfl, fail_y a13, Option.bind_some]
theorem lev5 (d : Nat) (I : xTI) (x2 : Int32) : (F_X9_R xN (d + 1 + 1)).1 I (nI 5) x2 = Option.bind (F_X9_readOne_B (F_X9_R xN d).1 (F_X9_R xN d).2.1 (F_X9_R xN d).2.2 xN I x2) (fun (v4, I5) => xzc v4 (some (v4, I5))) := by
  show F_X9_readLevel_B (F_X9_R xN (d + 1)).1 (F_X9_R xN (d + 1)).2.1 (F_X9_R xN (d + 1)).2.2 xN I (nI 5) x2 = _
  unfold F_X9_readLevel_B
  rw [if_neg (by decide)]
  rfl
theorem one_bad {d : Nat} {c : Cu} {o : Nat} {nm : Nat → Int32} {k b : Int32} {I : xTI} {L : xTL} (hc : CuOK sz c) (h : AtR tb sz c o nm k b I L) (h45 : cK c ≠ 45) (h40 : cK c ≠ 40) (h2 : cR c ≠ 2) (hw : cR c = 1 → ∀ v, 6 ≤ v → v < 16 → cW c ≠ Int64.ofNat (wNum v)) : F11l (d + 1) 5 I L = some (0, xup (xup I 57 13 1) 57 14 (I 57 9), L) := by
  show F_X11_one_B _ _ _ _ _ _ xN I L = _
  have a13 := h.2.2.2.2.2.2.1
  have a8 := h.2.2.2.1
  unfold F_X11_one_B
  rw [qS hc h (x := 45) (w := 45) rfl (by decide), if_neg h45, Option.bind_some, if_pos rfl, qS hc h (x := 40) (w := 40) rfl (by decide), if_neg h40, Option.bind_some, if_pos rfl, xbn_e, if_pos a13, xbn_e, a8, if_neg h2]
  unfold F_X11_one_j123
  rw [xbn_e, if_pos a13, xbn_e, a8]
  by_cases g : cR c = 1
  · rw [if_pos g, name_n h g (hw g), Option.bind_some]
    show (if xup (xup I 57 13 1) 57 14 (I 57 9) 57 13 = 0 then Option.bind (F_X11_next xN (xup (xup I 57 13 1) 57 14 (I 57 9)) L) (fun (I6, L7) => some ((0 : Int32), I6, L7)) else some ((0 : Int32), xup (xup I 57 13 1) 57 14 (I 57 9), L)) = _
    rw [if_neg (by rw [xup_nj (by decide), xup_eq]; decide)]
  · rw [if_neg g]
    unfold F_X11_one_j157
    rw [fail_y a13, Option.bind_some]
theorem one_fail (hsz : sz ≤ 120) {o : Nat} {c : Cu} (hc : CuOK sz c) (n3 : cK c ≠ 3) (n2 : cK c ≠ 2) (h45 : cK c ≠ 45) (h40 : cK c ≠ 40) (h2 : cR c ≠ 2) (hw : cR c = 1 → ∀ v, 6 ≤ v → v < 16 → cW c ≠ Int64.ofNat (wNum v)) : Sim tb sz 5 o c := by
  refine ⟨false, [], c, hc, Nat.le_refl _, (fun g => by cases g), ?_, ?_⟩
  · intro d I cd hd hA hcd
    obtain ⟨d', rfl⟩ : ∃ d', d = d' + 1 + 1 := ⟨d - 2, by omega⟩
    refine ⟨I, ?_, FrC.rfl' I, (fun g => by cases g), fun _ => ⟨hA.2.1, cd.length, ?_, hA.2.2.2.2.2.1⟩⟩
    · have a4 := hA.2.2.2.1
      rw [lev5]
      unfold F_X9_readOne_B
      rw [xbn_e, a4, if_neg n3, xbn_e, if_neg n2, xbn_e, if_neg h45, xbn_e, if_neg h40]
      rfl
    · have := hc.1
      omega
  · intro d I L nm k b hd hA
    obtain ⟨d', rfl⟩ : ∃ d', d = d' + 1 := ⟨d - 1, by omega⟩
    exact ⟨0, xup (xup I 57 13 1) 57 14 (I 57 9), L, one_bad hc hA h45 h40 h2 hw, fail_fr I, FrL.rfl' L, (fun g => by cases g), fun _ => ⟨by rw [xup_nj (by decide), xup_eq], by rw [xup_eq]; exact hA.2.1⟩⟩
/-- ONE -/
theorem sim_one (hsz : sz ≤ 120) (hb : ∀ i, i < sz → tb i ≤ 255) {o : Nat} (ho : o ≤ 6) {c : Cu} (hc : CuOK sz c) (hS0 : o < 6 → ∀ c2, CuOK sz c2 → cS c < cS c2 → Sim tb sz 0 (o + 1) c2) (hS5 : o < 6 → ∀ c2, CuOK sz c2 → cS c < cS c2 → Sim tb sz 5 (o + 1) c2) : Sim tb sz 5 o c := by
  have hN := hc.2.1
  obtain ⟨c2, hc2, hp2, tC, tR⟩ := adv_ex hsz hb hN
  rcases hc.2.2.2 with ⟨a, r⟩ | ⟨a, r⟩ | ⟨a, r, v, hv, hvl, hw⟩ | ⟨r, w, hw20, hw, hk, hvl⟩ | ⟨r, x, hx, hk, hw⟩
  · exact one_fail hsz hc (by rw [a]; decide) (by rw [a]; decide) (by rw [a]; decide) (by rw [a]; decide) (by rw [r]; decide) (fun g => absurd (r.symm.trans g) (by decide))
  · refine one_fail hsz hc (by rw [a]; decide) (by rw [a]; decide) (by rw [a]; decide) (by rw [a]; decide) ?_ ?_
    · rcases r with r | ⟨r, -⟩ <;> (rw [r]; decide)
    · intro g v h1 h2
      rcases r with r | ⟨-, r⟩
      · rw [g] at r; exact absurd r (by decide)
      · exact r v (by omega)
  · have hlt := hc.2.2.1 (by rw [a]; decide)
    refine ⟨true, [cV c], c2, hc2, by omega, (fun _ => by rw [List.length_singleton]; omega), ?_, ?_⟩
    · intro d I cd hd hA hcd
      obtain ⟨d', rfl⟩ : ∃ d', d = d' + 1 + 1 := ⟨d - 2, by omega⟩
      obtain ⟨I1, e1, e2, e3⟩ := emC hA (by omega) (cV c)
      obtain ⟨I2, f1, f2, f3⟩ := advC e2 tC
      refine ⟨I2, ?_, e3.trans f3, (fun _ => f2), (fun g => by cases g)⟩
      have a4 := hA.2.2.2.1
      have a5 := hA.2.2.2.2.1 (Or.inr (Or.inr a))
      rw [lev5]
      unfold F_X9_readOne_B F_X9_readOne_j16 F_X9_readOne_j38
      rw [xbn_e, a4, if_pos a, xbn_e, if_pos a, xbn_e, a5, e1, Option.bind_some, f1, Option.bind_some]
      rfl
    · intro d I L nm k b hd hA
      obtain ⟨d', rfl⟩ : ∃ d', d = d' + 1 := ⟨d - 1, by omega⟩
      obtain ⟨I2, L2, f1, f2, f3, f4⟩ := advR hA (by rw [r]; decide) tR
      refine ⟨cV c, I2, L2, ?_, f3, f4, (fun _ => ⟨f2, fun st => ?_⟩), (fun g => by cases g)⟩
      · have a13 := hA.2.2.2.2.2.2.1
        have a8 := hA.2.2.2.1
        have a10 := hA.2.2.2.2.1 (Or.inr (Or.inl r))
        show F_X11_one_B _ _ _ _ _ _ xN I L = _
        unfold F_X11_one_B
        rw [qS hc hA (x := 45) (w := 45) rfl (by decide), if_neg (by rw [a]; decide), Option.bind_some, if_pos rfl, qS hc hA (x := 40) (w := 40) rfl (by decide), if_neg (by rw [a]; decide), Option.bind_some, if_pos rfl, xbn_e, if_pos a13, xbn_e, a8, if_pos r, xbn_e, a10, xbn_e, f1, Option.bind_some, hw, hvl]
        have : (Int64.ofNat v).toInt32 = nI v := by
          unfold nI
          exact Int64.toInt32_ofNat' 
        show some ((Int64.ofNat v).toInt32, I2, L2) = _
        rw [this]
      · rw [evl_one, hvl]
        unfold st1
        rw [if_neg, if_neg (nI_pos (by omega))]
        intro g
        have := Int32.le_iff_toInt_le.mp g
        rw [nI_toInt (by omega), show (-11 : Int32).toInt = -11 by decide] at this
        omega
  · by_cases g6 : w < 6
    · have hk1 : cK c = 1 := by rw [hk]; unfold wKd; rw [if_pos g6]
      refine one_fail hsz hc (by rw [hk1]; decide) (by rw [hk1]; decide) (by rw [hk1]; decide) (by rw [hk1]; decide) (by rw [r]; decide) (fun _ v h1 h2 e => ?_)
      rw [hw] at e
      have := wNum_q w hw20 v (by omega) ((i64n (wNum_lt w hw20) (wNum_lt v (by omega))).mp e)
      omega
    · by_cases g16 : w < 16
      · have hk2 : cK c = 2 := by rw [hk]; unfold wKd; rw [if_neg g6, if_pos g16]
        have hv2 : cV c = nI (w - 6) := by rw [hvl]; unfold wVl; rw [if_neg g6]
        have hlt := hc.2.2.1 (by rw [hk2]; decide)
        refine ⟨true, [(-1) - cV c], c2, hc2, by omega, (fun _ => by rw [List.length_singleton]; omega), ?_, ?_⟩
        · intro d I cd hd hA hcd
          obtain ⟨d', rfl⟩ : ∃ d', d = d' + 1 + 1 := ⟨d - 2, by omega⟩
          obtain ⟨I1, e1, e2, e3⟩ := emC hA (by omega) ((-1) - cV c)
          obtain ⟨I2, f1, f2, f3⟩ := advC e2 tC
          refine ⟨I2, ?_, e3.trans f3, (fun _ => f2), (fun g => by cases g)⟩
          have a4 := hA.2.2.2.1
          have a5 := hA.2.2.2.2.1 (Or.inr (Or.inl hk2))
          rw [lev5]
          unfold F_X9_readOne_B F_X9_readOne_j16 F_X9_readOne_j38
          rw [xbn_e, a4, if_neg (by rw [hk2]; decide), xbn_e, if_pos hk2, xbn_e, if_neg (by rw [hk2]; decide), xbn_e, a5, e1, Option.bind_some, f1, Option.bind_some]
          rfl
        · intro d I L nm k b hd hA
          obtain ⟨d', rfl⟩ : ∃ d', d = d' + 1 := ⟨d - 1, by omega⟩
          obtain ⟨I2, L2, f1, f2, f3, f4⟩ := advR hA (by rw [r]; decide) tR
          refine ⟨nm (w - 6), I2, L2, ?_, f3, f4, (fun _ => ⟨f2, fun st => ?_⟩), (fun g => by cases g)⟩
          · have a13 := hA.2.2.2.2.2.2.1
            have a8 := hA.2.2.2.1
            show F_X11_one_B _ _ _ _ _ _ xN I L = _
            unfold F_X11_one_B
            rw [qS hc hA (x := 45) (w := 45) rfl (by decide), if_neg (by rw [hk2]; decide), Option.bind_some, if_pos rfl, qS hc hA (x := 40) (w := 40) rfl (by decide), if_neg (by rw [hk2]; decide), Option.bind_some, if_pos rfl, xbn_e, if_pos a13, xbn_e, a8, if_neg (by rw [r]; decide)]
            unfold F_X11_one_j123
            rw [xbn_e, if_pos a13, xbn_e, a8, if_pos r, name_y hA (by omega) g16 r hw, Option.bind_some]
            show (if I 57 13 = 0 then Option.bind (F_X11_next xN I L) (fun (I6, L7) => some (nm (w - 6), I6, L7)) else some (nm (w - 6), I, L)) = _
            rw [if_pos a13, f1, Option.bind_some]
          · rw [evl_one, hv2]
            unfold st1
            have hw10 : w = 6 ∨ w = 7 ∨ w = 8 ∨ w = 9 ∨ w = 10 ∨ w = 11 ∨ w = 12 ∨ w = 13 ∨ w = 14 ∨ w = 15 := by omega
            have h1 : ¬ ((-1) - nI (w - 6)) ≤ -11 := by rcases hw10 with rfl | rfl | rfl | rfl | rfl | rfl | rfl | rfl | rfl | rfl <;> decide
            have h2 : ((-1) - nI (w - 6)) < 0 := by rcases hw10 with rfl | rfl | rfl | rfl | rfl | rfl | rfl | rfl | rfl | rfl <;> decide
            have h3 : ((-1) - ((-1) - nI (w - 6))).toNatClampNeg = w - 6 := by rcases hw10 with rfl | rfl | rfl | rfl | rfl | rfl | rfl | rfl | rfl | rfl <;> decide
            rw [if_neg h1, if_pos h2, h3]
      · have hk1 : cK c = nI (w - 12) := by rw [hk]; unfold wKd; rw [if_neg g6, if_neg g16]
        have hwq : w = 16 ∨ w = 17 ∨ w = 18 ∨ w = 19 := by omega
        refine one_fail hsz hc ?_ ?_ ?_ ?_ (by rw [r]; decide) (fun _ v h1 h2 e => ?_)
        · rw [hk1]; rcases hwq with rfl | rfl | rfl | rfl <;> decide
        · rw [hk1]; rcases hwq with rfl | rfl | rfl | rfl <;> decide
        · rw [hk1]; rcases hwq with rfl | rfl | rfl | rfl <;> decide
        · rw [hk1]; rcases hwq with rfl | rfl | rfl | rfl <;> decide
        · rw [hw] at e
          have := wNum_q w hw20 v (by omega) ((i64n (wNum_lt w hw20) (wNum_lt v (by omega))).mp e)
          omega
  · have hxb := sgn_b hx
    have hlt := hc.2.2.1 (by rw [hk]; intro e; have := (nI_lq (c := 8) rfl (by omega) (by decide)).mp e; omega)
    have n3 : cK c ≠ 3 := by rw [hk]; intro e; have := (nI_lq (c := 3) rfl (by omega) (by decide)).mp e; omega
    have n2 : cK c ≠ 2 := by rw [hk]; intro e; have := (nI_lq (c := 2) rfl (by omega) (by decide)).mp e; omega
    by_cases g45 : cK c = 45
    · by_cases h6 : o < 6
      · obtain ⟨ok2, cs2, c3, hc3, h23, hlen, sC, sR⟩ := hS5 h6 c2 hc2 (by omega)
        refine ⟨ok2, cs2 ++ [-21], c3, hc3, by omega, (fun g => by have := hlen g; rw [List.length_append, List.length_singleton]; omega), ?_, ?_⟩
        · intro d I cd hd hA hcd
          obtain ⟨d', rfl⟩ : ∃ d', d = d' + 1 + 1 + 1 := ⟨d - 3, by omega⟩
          obtain ⟨I2, e1, e2, e3⟩ := advC hA tC
          obtain ⟨I3, f1, f2, f3, f4⟩ := sC d' I2 cd (by omega) e2 (by omega)
          have hem : ∃ I4, F_X9_emit I3 (-21) = some I4 ∧ FrC I3 I4 ∧ (ok2 = true → AtC tb sz c3 (cd ++ (cs2 ++ [-21])) I4) ∧ (ok2 = false → I4 29 2 = nI (cS c3) ∧ ∃ z, z ≤ 120 ∧ I4 29 8 = nI z) := by
            cases ok2 with
            | true =>
              have := hlen rfl
              have := hc3.1
              obtain ⟨I4, g1, g2, g3⟩ := emC (f3 rfl) (by rw [List.length_append]; omega) (-21)
              exact ⟨I4, g1, g3, fun _ => by rw [← List.append_assoc]; exact g2, fun g => by cases g⟩
            | false =>
              obtain ⟨f5, z, hz, f6⟩ := f4 rfl
              obtain ⟨I4, z', g1, g2, g3, g4, g5⟩ := em_any f6 hz (-21)
              exact ⟨I4, g1, g2, (fun g => by cases g), fun _ => ⟨by rw [g3, f5], z', g5, g4⟩⟩
          obtain ⟨I4, g1, g2, g3, g4⟩ := hem
          refine ⟨I4, ?_, (e3.trans f2).trans g2, g3, g4⟩
          have a4 := hA.2.2.2.1
          rw [lev5]
          unfold F_X9_readOne_B
          rw [xbn_e, a4, if_neg n3, xbn_e, if_neg n2, xbn_e, if_pos g45]
          show Option.bind (Option.bind (F_X9_readOpened_B (F_X9_R xN d').1 (F_X9_R xN d').2.1 (F_X9_R xN d').2.2 xN I 5 (nI o) (-21)) _) _ = _
          unfold F_X9_readOpened_B
          rw [if_pos (show nI o < 6 from nI_lt (b := 6) h6 (by decide)), e1, Option.bind_some, nI_1, show (5 : Int32) = nI 5 from rfl, f1, Option.bind_some]
          show Option.bind (Option.bind (Option.bind (F_X9_emit I3 (-21)) (fun I4 => xzc (bi ok2) (some (bi ok2, I4)))) _) _ = _
          rw [g1, Option.bind_some, xzc_bi, Option.bind_some]
          show Option.bind (xzc (bi ok2) (some (bi ok2, I4))) _ = _
          rw [xzc_bi, Option.bind_some]
          show xzc (bi ok2) _ = _
          rw [xzc_bi]
        · intro d I L nm k b hd hA
          obtain ⟨d', rfl⟩ : ∃ d', d = d' + 1 := ⟨d - 1, by omega⟩
          obtain ⟨I2, L2, e1, e2, e3, e4⟩ := opens_y hA h6 (by rw [r]; decide) tR
          obtain ⟨v, I3, L3, f1, f2, f3, f4, f5⟩ := sR d' I2 L2 nm k b (by omega) e2
          refine ⟨-v, xup I3 57 12 (I3 57 12 - 1), L3, ?_, (e3.trans f2).trans ((FrP.rfl' I3).up (by omega) _), e4.trans f3, (fun g => ⟨?_, fun st => ?_⟩), (fun g => ?_)⟩
          · show F_X11_one_B _ _ _ _ _ _ xN I L = _
            unfold F_X11_one_B
            rw [qS hc hA (x := 45) (w := 45) rfl (by decide), if_pos g45, Option.bind_some, if_neg (by decide), e1, Option.bind_some]
            show (if (1 : Int32) = 0 then some (0, I2, L2) else Option.bind (F11l d' 5 I2 L2) _) = _
            rw [if_neg (by decide), f1, Option.bind_some]
            rfl
          · have h1 := (f4 g).1
            rw [h1.2.2.2.2.2.1, nI_pred]
            exact h1.op
          · rw [evl_app, (f4 g).2, evl_one, st1_neg]
          · obtain ⟨a, b⟩ := f5 g
            exact ⟨by rw [xup_nj (by decide)]; exact a, by rw [xup_nj (by decide)]; exact b⟩
      · have h6' : o = 6 := by omega
        subst h6'
        refine ⟨false, [], c, hc, Nat.le_refl _, (fun g => by cases g), ?_, ?_⟩
        · intro d I cd hd hA hcd
          obtain ⟨d', rfl⟩ : ∃ d', d = d' + 1 + 1 + 1 := ⟨d - 3, by omega⟩
          refine ⟨I, ?_, FrC.rfl' I, (fun g => by cases g), fun _ => ⟨hA.2.1, cd.length, by have := hc.1; omega, hA.2.2.2.2.2.1⟩⟩
          have a4 := hA.2.2.2.1
          rw [lev5]
          unfold F_X9_readOne_B
          rw [xbn_e, a4, if_neg n3, xbn_e, if_neg n2, xbn_e, if_pos g45]
          show Option.bind (Option.bind (F_X9_readOpened_B (F_X9_R xN d').1 (F_X9_R xN d').2.1 (F_X9_R xN d').2.2 xN I 5 (nI 6) (-21)) _) _ = _
          unfold F_X9_readOpened_B
          rw [if_neg (by decide)]
          rfl
        · intro d I L nm k b hd hA
          obtain ⟨d', rfl⟩ : ∃ d', d = d' + 1 := ⟨d - 1, by omega⟩
          refine ⟨0, xup (xup I 57 13 1) 57 14 (I 57 9), L, ?_, fail_fr I, FrL.rfl' L, (fun g => by cases g), fun _ => ⟨by rw [xup_nj (by decide), xup_eq], by rw [xup_eq]; exact hA.2.1⟩⟩
          show F_X11_one_B _ _ _ _ _ _ xN I L = _
          unfold F_X11_one_B
          rw [qS hc hA (x := 45) (w := 45) rfl (by decide), if_pos g45, Option.bind_some, if_neg (by decide), opens_n hA.2.2.2.2.2.1 hA.2.2.2.2.2.2.1, Option.bind_some]
          rfl
    · by_cases g40 : cK c = 40
      · by_cases h6 : o < 6
        · obtain ⟨ok2, cs2, c3, hc3, h23, hlen, sC, sR⟩ := hS0 h6 c2 hc2 (by omega)
          obtain ⟨c4, hc4, hp4, tC4, tR4⟩ := adv_ex hsz hb hc3.2.1
          have hclA : ∀ (d : Nat) (I : xTI), I 29 4 = cK c → (F_X9_R xN (d + 1 + 1)).1 I (nI 5) (nI o) = Option.bind (Option.bind (F_X9_takeToken xN I) (fun I5 => Option.bind ((F_X9_R xN d).1 I5 (nI 0) (nI (o + 1))) (fun (v6, I7) => (if v6 = 0 then xzc 0 (some ((0 : Int32), I7)) else xbn (I7 29 4) (fun v8 => (if v8 = 41 then Option.bind (F_X9_takeToken xN I7) (fun I9 => xzc 1 (some ((1 : Int32), I9))) else xzc 0 (some ((0 : Int32), I7)))))))) (fun (v4, I5) => xzc v4 (some (v4, I5))) := by
            intro d I a4
            rw [lev5]
            unfold F_X9_readOne_B
            rw [xbn_e, a4, if_neg n3, xbn_e, if_neg n2, xbn_e, if_neg g45, xbn_e, if_pos g40, if_pos (show nI o < 6 from nI_lt (b := 6) h6 (by decide)), nI_1]
            rfl
          have hrfA : ∀ {d : Nat} {nm : Nat → Int32} {k b : Int32} {I : xTI} {L : xTL}, AtR tb sz c o nm k b I L → F11l (d + 1) 5 I L = Option.bind (F_X11_opens xN I L) (fun (v9, I10, L11) => (if v9 = 0 then some (0, I10, L11) else Option.bind (F11l d 0 I10 L11) (fun (v12, I13, L14) => Option.bind (F_X11_isSign I13 L14 41) (fun v15 => (if v15 = 0 then Option.bind (F_X11_fail I13) (fun I16 => F_X11_one_j71 (F_X11_R xN d).1 (F_X11_R xN d).2.1 (F_X11_R xN d).2.2.1 (F_X11_R xN d).2.2.2.1 (F_X11_R xN d).2.2.2.2.1 (F_X11_R xN d).2.2.2.2.2 xN I16 L14 v12) else F_X11_one_j71 (F_X11_R xN d).1 (F_X11_R xN d).2.1 (F_X11_R xN d).2.2.1 (F_X11_R xN d).2.2.2.1 (F_X11_R xN d).2.2.2.2.1 (F_X11_R xN d).2.2.2.2.2 xN I13 L14 v12))))) := by
            intro d nm k b I L hA
            show F_X11_one_B _ _ _ _ _ _ xN I L = _
            unfold F_X11_one_B
            rw [qS hc hA (x := 45) (w := 45) rfl (by decide), if_neg g45, Option.bind_some, if_pos rfl, qS hc hA (x := 40) (w := 40) rfl (by decide), if_pos g40, Option.bind_some, if_neg (by decide)]
            rfl
          have hj71b : ∀ (d : Nat) (I : xTI) (L : xTL) (v : Int32), I 57 13 = 1 → F_X11_one_j71 (F_X11_R xN d).1 (F_X11_R xN d).2.1 (F_X11_R xN d).2.2.1 (F_X11_R xN d).2.2.2.1 (F_X11_R xN d).2.2.2.2.1 (F_X11_R xN d).2.2.2.2.2 xN I L v = some (v, xup I 57 12 (I 57 12 - 1), L) := by
            intro d I L v h
            unfold F_X11_one_j71
            rw [xbn_e, xbn_e, xbn_e, if_neg (by rw [xup_nj (by decide), h]; decide)]
          cases ok2 with
          | false =>
            refine ⟨false, [], c3, hc3, by omega, (fun g => by cases g), ?_, ?_⟩
            · intro d I cd hd hA hcd
              obtain ⟨d', rfl⟩ : ∃ d', d = d' + 1 + 1 := ⟨d - 2, by omega⟩
              obtain ⟨I2, e1, e2, e3⟩ := advC hA tC
              obtain ⟨I3, f1, f2, f3, f4⟩ := sC d' I2 cd (by omega) e2 (by omega)
              refine ⟨I3, ?_, e3.trans f2, (fun g => by cases g), f4⟩
              rw [hclA _ _ hA.2.2.2.1, e1, Option.bind_some, f1, Option.bind_some]
              rfl
            · intro d I L nm k b hd hA
              obtain ⟨d', rfl⟩ : ∃ d', d = d' + 1 := ⟨d - 1, by omega⟩
              obtain ⟨I2, L2, e1, e2, e3, e4⟩ := opens_y hA h6 (by rw [r]; decide) tR
              obtain ⟨v, I3, L3, f1, f2, f3, f4, f5⟩ := sR d' I2 L2 nm k b (by omega) e2
              obtain ⟨f6, f7⟩ := f5 rfl
              refine ⟨v, xup I3 57 12 (I3 57 12 - 1), L3, ?_, (e3.trans f2).trans ((FrP.rfl' I3).up (by omega) _), e4.trans f3, (fun g => by cases g), fun _ => ⟨by rw [xup_nj (by decide)]; exact f6, by rw [xup_nj (by decide)]; exact f7⟩⟩
              rw [hrfA hA, e1, Option.bind_some]
              show (if (1 : Int32) = 0 then some (0, I2, L2) else Option.bind (F11l d' 0 I2 L2) _) = _
              rw [if_neg (by decide), f1, Option.bind_some]
              show Option.bind (F_X11_isSign I3 L3 41) _ = _
              rw [isS_n (Or.inl (by rw [f6]; decide)), Option.bind_some, if_pos rfl, fail_n f6, Option.bind_some, hj71b _ _ _ _ f6]
          | true =>
            have hlen := hlen rfl
            by_cases g41 : cK c3 = 41
            · have hlt3 := hc3.2.2.1 (by rw [g41]; decide)
              have hr3 : cR c3 ≠ 4 := by
                have := (sk hc3 (b := 41) (by decide)).mpr g41
                rw [this.1]; decide
              refine ⟨true, cs2, c4, hc4, by omega, (fun _ => by omega), ?_, ?_⟩
              · intro d I cd hd hA hcd
                obtain ⟨d', rfl⟩ : ∃ d', d = d' + 1 + 1 := ⟨d - 2, by omega⟩
                obtain ⟨I2, e1, e2, e3⟩ := advC hA tC
                obtain ⟨I3, f1, f2, f3, f4⟩ := sC d' I2 cd (by omega) e2 (by omega)
                have f3 := f3 rfl
                obtain ⟨I4, h1, h2, h3⟩ := advC f3 tC4
                refine ⟨I4, ?_, (e3.trans f2).trans h3, (fun _ => h2), (fun g => by cases g)⟩
                rw [hclA _ _ hA.2.2.2.1, e1, Option.bind_some, f1, Option.bind_some]
                show Option.bind (if bi true = 0 then xzc 0 (some ((0 : Int32), I3)) else if I3 29 4 = 41 then Option.bind (F_X9_takeToken xN I3) (fun I9 => xzc 1 (some ((1 : Int32), I9))) else xzc 0 (some ((0 : Int32), I3))) _ = _
                rw [if_neg (by decide), if_pos (by rw [f3.2.2.2.1]; exact g41), h1]
                rfl
              · intro d I L nm k b hd hA
                obtain ⟨d', rfl⟩ : ∃ d', d = d' + 1 := ⟨d - 1, by omega⟩
                obtain ⟨I2, L2, e1, e2, e3, e4⟩ := opens_y hA h6 (by rw [r]; decide) tR
                obtain ⟨v, I3, L3, f1, f2, f3, f4, f5⟩ := sR d' I2 L2 nm k b (by omega) e2
                obtain ⟨f6, f7⟩ := f4 rfl
                obtain ⟨I4, L4, h1, h2, h3, h4⟩ := advR (f6.op (o2 := o)) hr3 tR4
                refine ⟨v, I4, L4, ?_, ((e3.trans f2).trans ((FrP.rfl' I3).up (by omega) _)).trans h3, (e4.trans f3).trans h4, (fun _ => ⟨h2, f7⟩), (fun g => by cases g)⟩
                rw [hrfA hA, e1, Option.bind_some]
                show (if (1 : Int32) = 0 then some (0, I2, L2) else Option.bind (F11l d' 0 I2 L2) _) = _
                rw [if_neg (by decide), f1, Option.bind_some]
                show Option.bind (F_X11_isSign I3 L3 41) _ = _
                rw [qS hc3 f6 (x := 41) (w := 41) rfl (by decide), if_pos g41, Option.bind_some, if_neg (by decide)]
                unfold F_X11_one_j71
                rw [xbn_e, f6.2.2.2.2.2.1, nI_pred, xbn_e, xbn_e, if_pos (by rw [xup_nj (by decide)]; exact f6.2.2.2.2.2.2.1), h1, Option.bind_some]
            · refine ⟨false, [], c3, hc3, by omega, (fun g => by cases g), ?_, ?_⟩
              · intro d I cd hd hA hcd
                obtain ⟨d', rfl⟩ : ∃ d', d = d' + 1 + 1 := ⟨d - 2, by omega⟩
                obtain ⟨I2, e1, e2, e3⟩ := advC hA tC
                obtain ⟨I3, f1, f2, f3, f4⟩ := sC d' I2 cd (by omega) e2 (by omega)
                have f3 := f3 rfl
                refine ⟨I3, ?_, e3.trans f2, (fun g => by cases g), fun _ => ⟨f3.2.1, _, ?_, f3.2.2.2.2.2.1⟩⟩
                · rw [hclA _ _ hA.2.2.2.1, e1, Option.bind_some, f1, Option.bind_some]
                  show Option.bind (if bi true = 0 then xzc 0 (some ((0 : Int32), I3)) else if I3 29 4 = 41 then Option.bind (F_X9_takeToken xN I3) (fun I9 => xzc 1 (some ((1 : Int32), I9))) else xzc 0 (some ((0 : Int32), I3))) _ = _
                  rw [if_neg (by decide), if_neg (by rw [f3.2.2.2.1]; exact g41)]
                  rfl
                · rw [List.length_append]
                  have := hc3.1
                  omega
              · intro d I L nm k b hd hA
                obtain ⟨d', rfl⟩ : ∃ d', d = d' + 1 := ⟨d - 1, by omega⟩
                obtain ⟨I2, L2, e1, e2, e3, e4⟩ := opens_y hA h6 (by rw [r]; decide) tR
                obtain ⟨v, I3, L3, f1, f2, f3, f4, f5⟩ := sR d' I2 L2 nm k b (by omega) e2
                obtain ⟨f6, f7⟩ := f4 rfl
                have b13 : xup (xup I3 57 13 1) 57 14 (I3 57 9) 57 13 = 1 := by rw [xup_nj (by decide), xup_eq]
                refine ⟨v, xup (xup (xup I3 57 13 1) 57 14 (I3 57 9)) 57 12 (xup (xup I3 57 13 1) 57 14 (I3 57 9) 57 12 - 1), L3, ?_, (e3.trans f2).trans ((fail_fr I3).up (by omega) _), e4.trans f3, (fun g => by cases g), fun _ => ⟨by rw [xup_nj (by decide)]; exact b13, by rw [xup_nj (by decide), xup_eq]; exact f6.2.1⟩⟩
                rw [hrfA hA, e1, Option.bind_some]
                show (if (1 : Int32) = 0 then some (0, I2, L2) else Option.bind (F11l d' 0 I2 L2) _) = _
                rw [if_neg (by decide), f1, Option.bind_some]
                show Option.bind (F_X11_isSign I3 L3 41) _ = _
                rw [qS hc3 f6 (x := 41) (w := 41) rfl (by decide), if_neg g41, Option.bind_some, if_pos rfl, fail_y f6.2.2.2.2.2.2.1, Option.bind_some, hj71b _ _ _ _ b13]
        · have h6' : o = 6 := by omega
          subst h6'
          refine ⟨false, [], c, hc, Nat.le_refl _, (fun g => by cases g), ?_, ?_⟩
          · intro d I cd hd hA hcd
            obtain ⟨d', rfl⟩ : ∃ d', d = d' + 1 + 1 := ⟨d - 2, by omega⟩
            refine ⟨I, ?_, FrC.rfl' I, (fun g => by cases g), fun _ => ⟨hA.2.1, cd.length, by have := hc.1; omega, hA.2.2.2.2.2.1⟩⟩
            have a4 := hA.2.2.2.1
            rw [lev5]
            unfold F_X9_readOne_B
            rw [xbn_e, a4, if_neg n3, xbn_e, if_neg n2, xbn_e, if_neg g45, xbn_e, if_pos g40, if_neg (by decide)]
            rfl
          · intro d I L nm k b hd hA
            obtain ⟨d', rfl⟩ : ∃ d', d = d' + 1 := ⟨d - 1, by omega⟩
            refine ⟨0, xup (xup I 57 13 1) 57 14 (I 57 9), L, ?_, fail_fr I, FrL.rfl' L, (fun g => by cases g), fun _ => ⟨by rw [xup_nj (by decide), xup_eq], by rw [xup_eq]; exact hA.2.1⟩⟩
            show F_X11_one_B _ _ _ _ _ _ xN I L = _
            unfold F_X11_one_B
            rw [qS hc hA (x := 45) (w := 45) rfl (by decide), if_neg g45, Option.bind_some, if_pos rfl, qS hc hA (x := 40) (w := 40) rfl (by decide), if_pos g40, Option.bind_some, if_neg (by decide), opens_n hA.2.2.2.2.2.1 hA.2.2.2.2.2.2.1, Option.bind_some]
            rfl
      · exact one_fail hsz hc n3 n2 g45 g40 (by rw [r]; decide) (fun g => absurd (r.symm.trans g) (by decide))
/-- EVERY LEVEL -/
theorem sim_all (hsz : sz ≤ 120) (hb : ∀ i, i < sz → tb i ≤ 255) : ∀ (M l o : Nat) (c : Cu), (sz - cS c) * 8 + (6 - l) ≤ M → l ≤ 5 → o ≤ 6 → CuOK sz c → Sim tb sz l o c := by
  intro M
  induction M with
  | zero => intro l o c hM hl ho hc; omega
  | succ M ih =>
    intro l o c hM hl ho hc
    have hsc := hc.1
    have up : l < 5 → Sim tb sz (l + 1) o c := fun h => ih (l + 1) o c (by omega) (by omega) ho hc
    have fw : ∀ l2 o2, l2 ≤ 5 → o2 ≤ 6 → ∀ c2, CuOK sz c2 → cS c < cS c2 → Sim tb sz l2 o2 c2 := fun l2 o2 h1 h2 c2 hc2 h => by
      have := hc2.1
      exact ih l2 o2 c2 (by omega) h1 h2 hc2
    have : l = 0 ∨ l = 1 ∨ l = 2 ∨ l = 3 ∨ l = 4 ∨ l = 5 := by omega
    rcases this with rfl | rfl | rfl | rfl | rfl | rfl
    · exact sim_lev hsz hb (by decide) (by decide) hc rbE (fun d I L => rfl) (rl0 o) (up (by decide)) (fw 1 o (by decide) ho)
    · exact sim_lev hsz hb (by decide) (by decide) hc rbB (fun d I L => rfl) (rl1 o) (up (by decide)) (fw 2 o (by decide) ho)
    · exact sim_not hsz hb ho hc (up (by decide)) (fw 3 o (by decide) ho) (fun h => fw 2 (o + 1) (by decide) (by omega))
    · exact sim_lev hsz hb (by decide) (by decide) hc rbA (fun d I L => rfl) (rl3 o) (up (by decide)) (fw 4 o (by decide) ho)
    · exact sim_lev hsz hb (by decide) (by decide) hc rbT (fun d I L => rfl) (rl4 o) (up (by decide)) (fw 5 o (by decide) ho)
    · exact sim_one hsz hb ho hc (fun h => fw 0 (o + 1) (by decide) (by omega)) (fun h => fw 5 (o + 1) (by decide) (by omega))
end PARSE6
