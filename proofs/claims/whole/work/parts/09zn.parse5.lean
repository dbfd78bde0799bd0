section PARSE5
variable {tb : Nat → Nat} {sz : Nat}
theorem AtR.op {c : Cu} {o o2 : Nat} {nm : Nat → Int32} {k b : Int32} {I : xTI} {L : xTL} (h : AtR tb sz c o nm k b I L) : AtR tb sz c o2 nm k b (xup I 57 12 (nI o2)) L := by
  obtain ⟨h1, h2, h3, h4, h5, h6, h7, h8, h9, h10⟩ := h
  exact ⟨h1.up (by decide) _, by rw [xup_nj (by decide)]; exact h2, fun g => by rw [xup_nj (by decide)]; exact h3 g, by rw [xup_nj (by decide)]; exact h4, h5, xup_eq, by rw [xup_nj (by decide)]; exact h7, by rw [xup_nj (by decide)]; exact h8, by rw [xup_nj (by decide)]; exact h9, h10.fr (xup_ne (by decide))⟩
theorem opens_n {I : xTI} {L : xTL} (h : I 57 12 = nI 6) (h13 : I 57 13 = 0) : F_X11_opens xN I L = some (0, xup (xup I 57 13 1) 57 14 (I 57 9), L) := by
  unfold F_X11_opens
  rw [xbn_e, h, if_pos (by decide), fail_y h13, Option.bind_some, xzc_0]
theorem opens_y {c c2 : Cu} {o : Nat} {nm : Nat → Int32} {k b : Int32} {I : xTI} {L : xTL} (h : AtR tb sz c o nm k b I L) (ho : o < 6) (h4 : cR c ≠ 4) (ht : TokR tb sz (cN c) (cS c2) (cN c2) (cR c2) (cW c2)) : ∃ I2 L2, F_X11_opens xN I L = some (1, I2, L2) ∧ AtR tb sz c2 (o + 1) nm k b I2 L2 ∧ FrP I I2 ∧ FrL L L2 := by
  obtain ⟨I2, L2, e1, e2, e3, e4⟩ := advR (h.op (o2 := o + 1)) h4 ht
  refine ⟨I2, L2, ?_, e2, ((FrP.rfl' I).up (by omega) _).trans e3, e4⟩
  unfold F_X11_opens
  rw [xbn_e, h.2.2.2.2.2.1, if_neg (fun e => by have := (nI_lq (c := 6) rfl (by omega) (by decide)).mp e; omega), xbn_e, xbn_e, nI_1, e1, Option.bind_some]
  rfl
theorem fail_fr (I : xTI) : FrP I (xup (xup I 57 13 1) 57 14 (I 57 9)) := ((FrP.rfl' I).up (by omega) _).up (by omega) _
theorem xzc_bi {R : Type} (ok : Bool) (K : Option R) : xzc (bi ok) K = K := by cases ok <;> rfl
theorem st1_not {nm : Nat → Int32} {v : Int32} {st : List Int32} : st1 nm (v :: st) (-20) = (if v = 0 then 1 else 0) :: st := rfl
theorem st1_neg {nm : Nat → Int32} {v : Int32} {st : List Int32} : st1 nm (v :: st) (-21) = (-v) :: st := rfl
theorem lev2_y (d : Nat) (I : xTI) (x2 : Int32) (h : I 29 4 = 7) : (F_X9_R xN (d + 1 + 1)).1 I (nI 2) x2 = Option.bind (F_X9_readOpened_B (F_X9_R xN d).1 (F_X9_R xN d).2.1 (F_X9_R xN d).2.2 xN I 2 x2 (-20)) (fun (v2, I3) => xzc v2 (some (v2, I3))) := by
  show F_X9_readLevel_B _ _ _ xN I (nI 2) x2 = _
  unfold F_X9_readLevel_B
  rw [if_pos (by decide), if_pos (by decide), xbn_e, if_pos h]
  rfl
theorem lev2_n (d : Nat) (I : xTI) (x2 : Int32) (h : I 29 4 ≠ 7) : (F_X9_R xN (d + 1)).1 I (nI 2) x2 = Option.bind ((F_X9_R xN d).1 I (nI 3) x2) (fun (v1, I2) => xlp (F_X9_readLevel_b59 (F_X9_R xN d).1 (F_X9_R xN d).2.1 (F_X9_R xN d).2.2 xN (nI 2) x2 1) xN (v1, 0, I2)) := by
  show F_X9_readLevel_B _ _ _ xN I (nI 2) x2 = _
  unfold F_X9_readLevel_B
  rw [if_pos (by decide), if_pos (by decide), xbn_e, if_neg h]
  rfl
/-- comparisons, and not -/
theorem sim_not (hsz : sz ≤ 120) (hb : ∀ i, i < sz → tb i ≤ 255) {o : Nat} (ho : o ≤ 6) {c : Cu} (hc : CuOK sz c) (h3 : Sim tb sz 3 o c) (hS3 : ∀ c2, CuOK sz c2 → cS c < cS c2 → Sim tb sz 3 o c2) (hS2 : o < 6 → ∀ c2, CuOK sz c2 → cS c < cS c2 → Sim tb sz 2 (o + 1) c2) : Sim tb sz 2 o c := by
  by_cases h7 : cK c = 7
  · have h7' : cR c ≠ 4 := by
      have := (wk hc (w := 19) (by decide) (by decide)).mpr h7
      rw [this.1]; decide
    have qn : ∀ {nm : Nat → Int32} {k b : Int32} {I : xTI} {L : xTL}, AtR tb sz c o nm k b I L → F_X11_isWord I L 10631 = some 1 := fun h => by
      rw [qW hc h (x := 10631) (y := 7) (w := 19) rfl rfl (by decide) (by decide), if_pos h7]
    by_cases h6 : o < 6
    · have hlt := hc.2.2.1 (by rw [h7]; decide)
      have hN := hc.2.1
      obtain ⟨c2, hc2, hp2, tC, tR⟩ := adv_ex hsz hb hN
      obtain ⟨ok2, cs2, c3, hc3, h23, hlen, sC, sR⟩ := hS2 h6 c2 hc2 (by omega)
      refine ⟨ok2, cs2 ++ [-20], c3, hc3, by omega, (fun g => by have := hlen g; rw [List.length_append, List.length_singleton]; omega), ?_, ?_⟩
      · intro d I cd hd hA hcd
        obtain ⟨d', rfl⟩ : ∃ d', d = d' + 1 + 1 := ⟨d - 2, by omega⟩
        obtain ⟨I2, e1, e2, e3⟩ := advC hA tC
        obtain ⟨I3, f1, f2, f3, f4⟩ := sC d' I2 cd (by omega) e2 (by omega)
        have hem : ∃ I4, F_X9_emit I3 (-20) = some I4 ∧ FrC I3 I4 ∧ (ok2 = true → AtC tb sz c3 (cd ++ (cs2 ++ [-20])) I4) ∧ (ok2 = false → I4 29 2 = nI (cS c3) ∧ ∃ z, z ≤ 120 ∧ I4 29 8 = nI z) := by
          cases ok2 with
          | true =>
            have := hlen rfl
            have := hc3.1
            obtain ⟨I4, g1, g2, g3⟩ := emC (f3 rfl) (by rw [List.length_append]; omega) (-20)
            exact ⟨I4, g1, g3, fun _ => by rw [← List.append_assoc]; exact g2, fun g => by cases g⟩
          | false =>
            obtain ⟨f5, z, hz, f6⟩ := f4 rfl
            obtain ⟨I4, z', g1, g2, g3, g4, g5⟩ := em_any f6 hz (-20)
            exact ⟨I4, g1, g2, (fun g => by cases g), fun _ => ⟨by rw [g3, f5], z', g5, g4⟩⟩
        obtain ⟨I4, g1, g2, g3, g4⟩ := hem
        refine ⟨I4, ?_, (e3.trans f2).trans g2, g3, g4⟩
        rw [lev2_y _ _ _ (by rw [hA.2.2.2.1]; exact h7)]
        unfold F_X9_readOpened_B
        rw [if_pos (show nI o < 6 from nI_lt (b := 6) h6 (by decide)), e1, Option.bind_some, nI_1, show (2 : Int32) = nI 2 from rfl, f1, Option.bind_some]
        show Option.bind (Option.bind (F_X9_emit I3 (-20)) (fun I4 => xzc (bi ok2) (some (bi ok2, I4)))) _ = _
        rw [g1, Option.bind_some, xzc_bi, Option.bind_some]
        show xzc (bi ok2) _ = _
        rw [xzc_bi]
      · intro d I L nm k b hd hA
        obtain ⟨d', rfl⟩ : ∃ d', d = d' + 1 := ⟨d - 1, by omega⟩
        obtain ⟨I2, L2, e1, e2, e3, e4⟩ := opens_y hA h6 h7' tR
        obtain ⟨v, I3, L3, f1, f2, f3, f4, f5⟩ := sR d' I2 L2 nm k b (by omega) e2
        refine ⟨if v = 0 then 1 else 0, xup I3 57 12 (I3 57 12 - 1), L3, ?_, (e3.trans f2).trans ((FrP.rfl' I3).up (by omega) _), e4.trans f3, (fun g => ⟨?_, fun st => ?_⟩), (fun g => ?_)⟩
        · show F_X11_not_B _ _ _ _ _ _ xN I L = _
          unfold F_X11_not_B
          rw [qn hA, Option.bind_some, if_neg (by decide), e1, Option.bind_some]
          show (if (1 : Int32) = 0 then _ else Option.bind (F11l d' 2 I2 L2) _) = _
          rw [if_neg (by decide), f1, Option.bind_some]
          show (if v = 0 then some (1, xup I3 57 12 (I3 57 12 - 1), L3) else some (0, xup I3 57 12 (I3 57 12 - 1), L3)) = _
          by_cases g : v = 0
          · rw [if_pos g, if_pos g]
          · rw [if_neg g, if_neg g]
        · have h1 := (f4 g).1
          rw [h1.2.2.2.2.2.1, nI_pred]
          exact h1.op
        · rw [evl_app, (f4 g).2, evl_one, st1_not]
        · obtain ⟨a, b⟩ := f5 g
          exact ⟨by rw [xup_nj (by decide)]; exact a, by rw [xup_nj (by decide)]; exact b⟩
    · have h6' : o = 6 := by omega
      subst h6'
      refine ⟨false, [], c, hc, Nat.le_refl _, (fun g => by cases g), ?_, ?_⟩
      · intro d I cd hd hA hcd
        obtain ⟨d', rfl⟩ : ∃ d', d = d' + 1 + 1 := ⟨d - 2, by omega⟩
        refine ⟨I, ?_, FrC.rfl' I, (fun g => by cases g), fun _ => ⟨hA.2.1, cd.length, by have := hc.1; omega, hA.2.2.2.2.2.1⟩⟩
        rw [lev2_y _ _ _ (by rw [hA.2.2.2.1]; exact h7)]
        unfold F_X9_readOpened_B
        rw [if_neg (by decide), xzc_0, Option.bind_some]
        rfl
      · intro d I L nm k b hd hA
        obtain ⟨d', rfl⟩ : ∃ d', d = d' + 1 := ⟨d - 1, by omega⟩
        refine ⟨0, xup (xup I 57 13 1) 57 14 (I 57 9), L, ?_, fail_fr I, FrL.rfl' L, (fun g => by cases g), fun _ => ⟨by rw [xup_nj (by decide), xup_eq], by rw [xup_eq]; exact hA.2.1⟩⟩
        show F_X11_not_B _ _ _ _ _ _ xN I L = _
        unfold F_X11_not_B
        rw [qn hA, Option.bind_some, if_neg (by decide), opens_n hA.2.2.2.2.2.1 hA.2.2.2.2.2.2.1, Option.bind_some]
        rfl
  · have qn : ∀ {nm : Nat → Int32} {k b : Int32} {I : xTI} {L : xTL}, AtR tb sz c o nm k b I L → F_X11_isWord I L 10631 = some 0 := fun h => by
      rw [qW hc h (x := 10631) (y := 7) (w := 19) rfl rfl (by decide) (by decide), if_neg h7]
    obtain ⟨ok1, cs1, c1, hc1, h01, hlen1, sC, sR⟩ := h3
    cases ok1 with
    | false =>
      refine ⟨false, [], c1, hc1, h01, (fun g => by cases g), ?_, ?_⟩
      · intro d I cd hd hA hcd
        obtain ⟨d', rfl⟩ : ∃ d', d = d' + 1 := ⟨d - 1, by omega⟩
        obtain ⟨I2, e1, e2, -, e4⟩ := sC d' I cd (by omega) hA hcd
        refine ⟨I2, ?_, e2, (fun g => by cases g), e4⟩
        rw [lev2_n _ _ _ (by rw [hA.2.2.2.1]; exact h7), e1, Option.bind_some]
        show xlp _ (99999 + 1) (bi false, 0, I2) = _
        rw [xlp_s]
        show F_X9_readLevel_c59 _ _ _ xN (nI 2) (nI o) 1 0 0 I2 _ = _
        unfold F_X9_readLevel_c59
        rw [if_pos (show (0 : Int32) = 0 from rfl), ite_self, xzc_0]
        rfl
      · intro d I L nm k b hd hA
        obtain ⟨d', rfl⟩ : ∃ d', d = d' + 1 := ⟨d - 1, by omega⟩
        obtain ⟨v, I2, L2, e1, e2, e3, -, e5⟩ := sR d' I L nm k b (by omega) hA
        refine ⟨v, I2, L2, ?_, e2, e3, (fun g => by cases g), e5⟩
        have hn : ∀ x, F_X11_isSign I2 L2 x = some 0 := fun x => isS_n (Or.inl (by rw [(e5 rfl).1]; decide))
        show F_X11_not_B _ _ _ _ _ _ xN I L = _
        unfold F_X11_not_B
        rw [qn hA, Option.bind_some, if_pos rfl]
        show Option.bind (F11l d' 3 I L) _ = _
        rw [e1, Option.bind_some]
        show Option.bind (F_X11_isSign I2 L2 60) _ = _
        rw [hn, Option.bind_some, if_pos rfl, hn, Option.bind_some, if_pos rfl, hn, Option.bind_some, if_pos rfl]
    | true =>
      have hlen1 := hlen1 rfl
      by_cases hj : jo 2 (cK c1)
      · have hlt := hc1.2.2.1 (jo_ne8 hj)
        have hN := hc1.2.1
        obtain ⟨c2, hc2, hp2, tC, tR⟩ := adv_ex hsz hb hN
        obtain ⟨ok3, cs3, c3, hc3, h23, hlen3, sC3, sR3⟩ := hS3 c2 hc2 (by omega)
        refine ⟨ok3, cs1 ++ (cs3 ++ [-100 - cK c1]), c3, hc3, by omega, (fun g => by have := hlen3 g; rw [List.length_append, List.length_append, List.length_singleton]; omega), ?_, ?_⟩
        · intro d I cd hd hA hcd
          obtain ⟨d', rfl⟩ : ∃ d', d = d' + 1 := ⟨d - 1, by omega⟩
          obtain ⟨I1, a1, a2, a3, -⟩ := sC d' I cd (by omega) hA hcd
          have a3 := a3 rfl
          obtain ⟨I2, e1, e2, e3⟩ := advC a3 tC
          obtain ⟨I3, f1, f2, f3, f4⟩ := sC3 d' I2 (cd ++ cs1) (by omega) e2 (by rw [List.length_append]; omega)
          have hem : ∃ I4, F_X9_emit I3 (-100 - cK c1) = some I4 ∧ FrC I3 I4 ∧ (ok3 = true → AtC tb sz c3 (cd ++ (cs1 ++ (cs3 ++ [-100 - cK c1]))) I4) ∧ (ok3 = false → I4 29 2 = nI (cS c3) ∧ ∃ z, z ≤ 120 ∧ I4 29 8 = nI z) := by
            cases ok3 with
            | true =>
              have := hlen3 rfl
              have := hc3.1
              obtain ⟨I4, g1, g2, g3⟩ := emC (f3 rfl) (by rw [List.length_append, List.length_append]; omega) (-100 - cK c1)
              exact ⟨I4, g1, g3, fun _ => by rw [show cd ++ (cs1 ++ (cs3 ++ [-100 - cK c1])) = cd ++ cs1 ++ cs3 ++ [-100 - cK c1] by simp]; exact g2, fun g => by cases g⟩
            | false =>
              obtain ⟨f5, z, hz, f6⟩ := f4 rfl
              obtain ⟨I4, z', g1, g2, g3, g4, g5⟩ := em_any f6 hz (-100 - cK c1)
              exact ⟨I4, g1, g2, (fun g => by cases g), fun _ => ⟨by rw [g3, f5], z', g5, g4⟩⟩
          obtain ⟨I4, g1, g2, g3, g4⟩ := hem
          refine ⟨I4, ?_, ((a2.trans e3).trans f2).trans g2, g3, g4⟩
          rw [lev2_n _ _ _ (by rw [hA.2.2.2.1]; exact h7), a1, Option.bind_some]
          show xlp _ (99998 + 1 + 1) (1, 0, I1) = _
          rw [xlp_s]
          show F_X9_readLevel_c59 _ _ _ xN (nI 2) (nI o) 1 1 0 I1 _ = _
          unfold F_X9_readLevel_c59
          rw [if_neg (by decide), if_neg (by decide), joins_y (by decide) (by rw [a3.2.2.2.1]; exact hj), Option.bind_some, if_neg (by decide), xbn_e, a3.2.2.2.1, e1, Option.bind_some, nI_1, f1, Option.bind_some]
          show Option.bind (F_X9_emit I3 (-100 - cK c1)) _ = _
          rw [g1, Option.bind_some, xbn_e, xlp_s]
          show F_X9_readLevel_c59 _ _ _ xN (nI 2) (nI o) 1 (bi ok3) (0 + 1) I4 _ = _
          unfold F_X9_readLevel_c59
          rw [if_pos (by decide), xzc_bi]
        · intro d I L nm k b hd hA
          obtain ⟨d', rfl⟩ : ∃ d', d = d' + 1 := ⟨d - 1, by omega⟩
          obtain ⟨v, I1, L1, a1, a2, a3, a4, -⟩ := sR d' I L nm k b (by omega) hA
          obtain ⟨a5, a6⟩ := a4 rfl
          obtain ⟨I2, L2, e1, e2, e3, e4⟩ := advR a5 (jo_R hc1 hj) tR
          obtain ⟨w, I3, L3, f1, f2, f3, f4, f5⟩ := sR3 d' I2 L2 nm k b (by omega) e2
          refine ⟨jn (cK c1) v w, I3, L3, ?_, (a2.trans e3).trans f2, (a3.trans e4).trans f3, (fun g => ⟨(f4 g).1, fun st => by rw [evl_app, evl_app, a6, (f4 g).2, evl_one, st1_jn (jo_in hj)]⟩), f5⟩
          show F_X11_not_B _ _ _ _ _ _ xN I L = _
          unfold F_X11_not_B
          rw [qn hA, Option.bind_some, if_pos rfl]
          show Option.bind (F11l d' 3 I L) _ = _
          rw [a1, Option.bind_some]
          show Option.bind (F_X11_isSign I1 L1 60) _ = _
          rw [qS hc1 a5 (x := 60) (w := 60) rfl (by decide), qS hc1 a5 (x := 61) (w := 61) rfl (by decide), qS hc1 a5 (x := 62) (w := 62) rfl (by decide)]
          unfold F_X11_not_j78
          rcases (show cK c1 = 61 ∨ cK c1 = 60 ∨ cK c1 = 62 from hj) with g | g | g
          · rw [if_neg (by rw [g]; decide), Option.bind_some, if_pos rfl, if_pos g, Option.bind_some, if_neg (by decide), xbn_e, qV hc1 a5 (w := 61) (by decide) g, e1, Option.bind_some]
            show Option.bind (F11l d' 3 I2 L2) _ = _
            rw [f1, Option.bind_some, g]
            show (if lg_cmp (Int64.ofNat 61) 60 = 0 then _ else if lg_cmp (Int64.ofNat 61) 61 = 0 then (if v = w then some (1, I3, L3) else some (0, I3, L3)) else _) = some (if v = w then 1 else 0, I3, L3)
            rw [if_neg (fun e => absurd (lgc.mp e) (by decide)), if_pos (show lg_cmp (Int64.ofNat 61) 61 = 0 from lgc.mpr rfl)]
            by_cases g2 : v = w
            · rw [if_pos g2, if_pos g2]
            · rw [if_neg g2, if_neg g2]
          · rw [if_pos g, Option.bind_some, if_neg (by decide), xbn_e, qV hc1 a5 (w := 60) (by decide) g, e1, Option.bind_some]
            show Option.bind (F11l d' 3 I2 L2) _ = _
            rw [f1, Option.bind_some, g]
            show (if lg_cmp (Int64.ofNat 60) 60 = 0 then (if w ≤ v then some (0, I3, L3) else some (1, I3, L3)) else _) = some (if w ≤ v then 0 else 1, I3, L3)
            rw [if_pos (show lg_cmp (Int64.ofNat 60) 60 = 0 from lgc.mpr rfl)]
            by_cases g2 : w ≤ v
            · rw [if_pos g2, if_pos g2]
            · rw [if_neg g2, if_neg g2]
          · rw [if_neg (by rw [g]; decide), Option.bind_some, if_pos rfl, if_neg (by rw [g]; decide), Option.bind_some, if_pos rfl, if_pos g, Option.bind_some, if_neg (by decide), xbn_e, qV hc1 a5 (w := 62) (by decide) g, e1, Option.bind_some]
            show Option.bind (F11l d' 3 I2 L2) _ = _
            rw [f1, Option.bind_some, g]
            show (if lg_cmp (Int64.ofNat 62) 60 = 0 then _ else if lg_cmp (Int64.ofNat 62) 61 = 0 then _ else (if v ≤ w then some (0, I3, L3) else some (1, I3, L3))) = some (if v ≤ w then 0 else 1, I3, L3)
            rw [if_neg (fun e => absurd (lgc.mp e) (by decide)), if_neg (fun e => absurd (lgc.mp e) (by decide))]
            by_cases g2 : v ≤ w
            · rw [if_pos g2, if_pos g2]
            · rw [if_neg g2, if_neg g2]
      · refine ⟨true, cs1, c1, hc1, h01, (fun _ => hlen1), ?_, ?_⟩
        · intro d I cd hd hA hcd
          obtain ⟨d', rfl⟩ : ∃ d', d = d' + 1 := ⟨d - 1, by omega⟩
          obtain ⟨I1, a1, a2, a3, -⟩ := sC d' I cd (by omega) hA hcd
          refine ⟨I1, ?_, a2, a3, (fun g => by cases g)⟩
          have a3 := a3 rfl
          rw [lev2_n _ _ _ (by rw [hA.2.2.2.1]; exact h7), a1, Option.bind_some]
          show xlp _ (99999 + 1) (1, 0, I1) = _
          rw [xlp_s]
          show F_X9_readLevel_c59 _ _ _ xN (nI 2) (nI o) 1 1 0 I1 _ = _
          unfold F_X9_readLevel_c59
          rw [if_neg (by decide), if_neg (by decide), joins_n (by decide) (by rw [a3.2.2.2.1]; exact hj), Option.bind_some, if_pos rfl, xzc_1]
          rfl
        · intro d I L nm k b hd hA
          obtain ⟨d', rfl⟩ : ∃ d', d = d' + 1 := ⟨d - 1, by omega⟩
          obtain ⟨v, I1, L1, a1, a2, a3, a4, -⟩ := sR d' I L nm k b (by omega) hA
          refine ⟨v, I1, L1, ?_, a2, a3, a4, (fun g => by cases g)⟩
          obtain ⟨a5, a6⟩ := a4 rfl
          show F_X11_not_B _ _ _ _ _ _ xN I L = _
          unfold F_X11_not_B
          rw [qn hA, Option.bind_some, if_pos rfl]
          show Option.bind (F11l d' 3 I L) _ = _
          rw [a1, Option.bind_some]
          show Option.bind (F_X11_isSign I1 L1 60) _ = _
          rw [qS hc1 a5 (x := 60) (w := 60) rfl (by decide), if_neg (fun e => hj (Or.inr (Or.inl e))), Option.bind_some, if_pos rfl, qS hc1 a5 (x := 61) (w := 61) rfl (by decide), if_neg (fun e => hj (Or.inl e)), Option.bind_some, if_pos rfl, qS hc1 a5 (x := 62) (w := 62) rfl (by decide), if_neg (fun e => hj (Or.inr (Or.inr e))), Option.bind_some, if_pos rfl]
end PARSE5
