section RULE2
variable {tb : Nat → Nat} {sz : Nat}
theorem key_w {c : Cu} (hc : CuOK sz c) (hk : cK c = 1) : ∃ w, w < 6 ∧ cV c = nI w ∧ cR c ≠ 4 := by
  rcases hc.2.2.2 with ⟨a, r⟩ | ⟨a, r⟩ | ⟨a, r, -⟩ | ⟨r, w, h20, hw, hk2, hv⟩ | ⟨r, x, hx, hk2, -⟩
  · rw [hk] at a; exact absurd a (by decide)
  · rw [hk] at a; exact absurd a (by decide)
  · rw [hk] at a; exact absurd a (by decide)
  · have h6 : w < 6 := by
      have : ∀ w, w < 20 → wKd w = 1 → w < 6 := by decide
      exact this w h20 (hk2.symm.trans hk)
    exact ⟨w, h6, by rw [hv]; unfold wVl; rw [if_pos h6], by rw [r]; decide⟩
  · have := sgn_b hx
    rw [hk] at hk2
    have := (nI_lq (c := 1) rfl (by omega) (by decide)).mp hk2.symm
    omega
theorem j72_bad {I : xTI} {L : xTL} {v : Int32} (h : I 57 13 = 1) : F_X11_readRule_j72 xN I L v = some (xup (xup I 57 18 v) 57 19 1, L) := by
  have h' : xup (xup I 57 18 v) 57 19 1 57 13 = 1 := by rw [xup_nj (by decide), xup_nj (by decide)]; exact h
  unfold F_X11_readRule_j72
  rw [xbn_e, xzc_1, xbn_e, isW_n (Or.inl (by rw [h']; decide)), Option.bind_some, if_pos rfl, tailB h']
theorem j72_n {c : Cu} {o : Nat} {nm : Nat → Int32} {k b : Int32} {I : xTI} {L : xTL} {v : Int32} (hc : CuOK sz c) (h : AtR tb sz c o nm k b I L) (h4 : cK c ≠ 4) : F_X11_readRule_j72 xN I L v = F_X11_readRule_j110 xN (xup (xup I 57 18 v) 57 19 1) L := by
  unfold F_X11_readRule_j72
  rw [xbn_e, xzc_1, xbn_e, qW hc ((h.up (by decide) _).up (by decide) _) (x := 249) (y := 4) (w := 16) rfl rfl (by decide) (by decide), if_neg h4, Option.bind_some, if_pos rfl]
theorem j72_y {c : Cu} {o : Nat} {nm : Nat → Int32} {k b : Int32} {I : xTI} {L : xTL} {v : Int32} (hc : CuOK sz c) (h : AtR tb sz c o nm k b I L) (h4 : cK c = 4) {I4 : xTI} {L5 : xTL} (hn : F_X11_next xN (xup (xup I 57 18 v) 57 19 1) L = some (I4, L5)) {v6 : Int32} {I7 : xTI} {L8 : xTL} (he : F11l 80 0 I4 L5 = some (v6, I7, L8)) : F_X11_readRule_j72 xN I L v = F_X11_readRule_j110 xN (xup I7 57 19 (if v6 = 0 then 0 else 1)) L8 := by
  unfold F_X11_readRule_j72
  rw [xbn_e, xzc_1, xbn_e, qW hc ((h.up (by decide) _).up (by decide) _) (x := 249) (y := 4) (w := 16) rfl rfl (by decide) (by decide), if_pos h4, Option.bind_some, if_neg (by decide), hn, Option.bind_some]
  show Option.bind (F11l 80 0 I4 L5) _ = _
  rw [he, Option.bind_some]
  show (if v6 = 0 then F_X11_readRule_j107 xN I7 L8 0 else F_X11_readRule_j107 xN I7 L8 1) = _
  unfold F_X11_readRule_j107
  by_cases g : v6 = 0
  · rw [if_pos g, if_pos g, xzc_0, xbn_e]
  · rw [if_neg g, if_neg g, xzc_1, xbn_e]
/-- the reference from the KEY on -/
theorem key_R {c c1 : Cu} (hc : CuOK sz c) (hk : cK c = 1) {w : Nat} (hw : w < 6) (hv : cV c = nI w) (tR : TokR tb sz 0 (cS c) (cN c) (cR c) (cW c)) (tR1 : TokR tb sz (cN c) (cS c1) (cN c1) (cR c1) (cW c1)) {I : xTI} {L : xTL} {nm : Nat → Int32} {k b : Int32} (he : xEnv I nm k b) (h : RT tb sz I) : ∃ I6 L6, AtR tb sz c1 0 nm k b I6 L6 ∧ I6 57 17 = nI w ∧ FrQ I I6 ∧ FrL L L6 ∧ F_X11_readRule xN I L k b = Option.bind (F11l 80 0 I6 L6) (fun (v2, I3, L4) => F_X11_readRule_j72 xN I3 L4 v2) := by
  obtain ⟨J, M, a1, a2, a3, a4⟩ := start_R hc tR he h
  obtain ⟨w', b1, b2, b3, b4⟩ := key_y hc a1 hk
  have : w' = w := (nI_eq (by omega) (by omega)).mp (b2.symm.trans hv)
  subst this
  obtain ⟨I6, L6, e1, e2, e3, e4⟩ := advR (a1.up (j := 17) (by decide) (nI w')) b3 tR1
  refine ⟨I6, L6, e2, ?_, (a2.trans ((FrQ.rfl' J).up (by decide) (by decide) _)).trans e3.toQ, a3.trans e4, ?_⟩
  · rw [e3 57 17 (by decide), xup_eq]
  · rw [a4, b4, Option.bind_some, xbn_e, xbn_e, xup_eq, if_neg (nI_ne_m1 (by omega)), e1, Option.bind_some]
    show F_X11_readRule_j56 xN I6 L6 = _
    unfold F_X11_readRule_j56
    rw [xbn_e, if_pos e2.2.2.2.2.2.2.1]
    rfl
/-- the class from the KEY on -/
theorem key_C {c c1 : Cu} (hk : cK c = 1) {w : Nat} (hv : cV c = nI w) (tC : TokC tb sz 0 (cS c) (cN c) (cK c) (cV c)) (tC1 : TokC tb sz (cN c) (cS c1) (cN c1) (cK c1) (cV c1)) {I : xTI} (h : CT tb sz I) : ∃ I7, AtC tb sz c1 [] I7 ∧ I7 29 6 = nI w ∧ FrD I I7 ∧ F_X9_isRule xN I = Option.bind ((F_X9_R xN 80).1 I7 (nI 0) (nI 0)) (fun (v8, I9) => (if v8 = 0 then xzc 0 (some (0, I9)) else xbn (I9 29 8) (fun v10 => xbn (xup I9 29 9 v10) (fun I11 => xbn (I11 29 4) (fun v12 => (if v12 = 4 then Option.bind (F_X9_takeToken xN I11) (fun I13 => Option.bind ((F_X9_R xN 80).1 I13 (nI 0) (nI 0)) (fun (v14, I15) => (if v14 = 0 then xzc 0 (some (0, I15)) else F_X9_isRule_j78 xN I15))) else F_X9_isRule_j78 xN I11)))))) := by
  obtain ⟨I3, a1, a2, a3⟩ := start_C tC h
  obtain ⟨I7, e1, e2, e3⟩ := advC (a1.up (j := 6) (by omega) (nI w)) tC1
  refine ⟨I7, e2, by rw [e3 29 6 (by decide), xup_eq], (a2.trans ((FrD.rfl' I3).up (by decide) _)).trans e3.toD, ?_⟩
  unfold F_X9_isRule
  rw [xbn_e, xbn_e, a3, Option.bind_some, xbn_e, a1.2.2.2.1, if_pos hk, xbn_e, a1.2.2.2.2.1 (Or.inl hk), hv, xbn_e, e1, Option.bind_some]
  rfl
theorem rule_sim (hsz : sz ≤ 120) (hb : ∀ i, i < sz → tb i ≤ 255) : ∃ ok cs1 cs2 key f, f ≤ 120 ∧ (ok = true → key < 6 ∧ cs1.length + cs2.length ≤ 120) ∧ RuC tb sz ok cs1 cs2 key f ∧ RuR tb sz ok cs1 cs2 key f := by
  obtain ⟨c0, hc0, -, tC0, tR0⟩ := adv_ex hsz hb (Nat.zero_le sz)
  have hf0 : cS c0 ≤ 120 := Nat.le_trans hc0.1 hsz
  by_cases k1 : cK c0 = 1
  · obtain ⟨w, hw, hv, hr4⟩ := key_w hc0 k1
    obtain ⟨c1, hc1, hp1, tC1, tR1⟩ := adv_ex hsz hb hc0.2.1
    obtain ⟨ok1, cs1, c2, hc2, h12, hlen, sC, sR⟩ := sim_all hsz hb _ 0 0 c1 (Nat.le_refl _) (by decide) (by decide) hc1
    have hf2 : cS c2 ≤ 120 := Nat.le_trans hc2.1 hsz
    cases ok1 with
    | false =>
      refine ⟨false, [], [], 0, cS c2, hf2, (fun g => by cases g), ?_, ?_⟩
      · intro I h
        obtain ⟨I7, a1, a2, a3, a4⟩ := key_C k1 hv tC0 tC1 h
        obtain ⟨I9, b1, b2, -, b4⟩ := sC 80 I7 [] (by decide) a1 (by simp)
        refine ⟨I9, ?_, a3.trans b2.toD, (fun g => by cases g), fun _ => (b4 rfl).1⟩
        rw [a4, b1, Option.bind_some]
        rfl
      · intro I L nm k b he h
        obtain ⟨I6, L6, a1, a2, a3, a4, a5⟩ := key_R hc0 k1 hw hv tR0 tR1 he h
        obtain ⟨v, I3, L3, b1, b2, b3, -, b5⟩ := sR 80 I6 L6 nm k b (by decide) a1
        obtain ⟨b6, b7⟩ := b5 rfl
        refine ⟨xup (xup I3 57 18 v) 57 19 1, L3, ?_, ((a3.trans b2.toQ).trans ((FrQ.rfl' I3).up (by decide) (by decide) _)).trans ((FrQ.rfl' _).up (by decide) (by decide) _), a4.trans b3, (fun g => by cases g), fun _ => ⟨?_, ?_⟩⟩
        · rw [a5, b1, Option.bind_some]
          exact j72_bad b6
        · rw [xup_nj (by decide), xup_nj (by decide)]; exact b6
        · rw [xup_nj (by decide), xup_nj (by decide)]; exact b7
    | true =>
      have hlen := hlen rfl
      -- the class after its value
      have hC1 : ∀ I, CT tb sz I → ∃ I11, AtC tb sz c2 cs1 I11 ∧ I11 29 6 = nI w ∧ I11 29 9 = nI cs1.length ∧ FrD I I11 ∧ F_X9_isRule xN I = (if cK c2 = 4 then Option.bind (F_X9_takeToken xN I11) (fun I13 => Option.bind ((F_X9_R xN 80).1 I13 (nI 0) (nI 0)) (fun (v14, I15) => (if v14 = 0 then xzc 0 (some (0, I15)) else F_X9_isRule_j78 xN I15))) else F_X9_isRule_j78 xN I11) := by
        intro I h
        obtain ⟨I7, a1, a2, a3, a4⟩ := key_C k1 hv tC0 tC1 h
        obtain ⟨I9, b1, b2, b3, -⟩ := sC 80 I7 [] (by decide) a1 (by simp)
        have b3 := b3 rfl
        rw [List.nil_append] at b3
        refine ⟨xup I9 29 9 (nI cs1.length), b3.up (by omega) _, ?_, xup_eq, (a3.trans b2.toD).trans ((FrD.rfl' I9).up (by decide) _), ?_⟩
        · rw [xup_nj (by decide), b2 29 6 (by decide)]; exact a2
        · rw [a4, b1, Option.bind_some]
          show (if bi true = 0 then _ else xbn (I9 29 8) _) = _
          rw [if_neg (by decide), xbn_e, b3.2.2.2.2.2.1, xbn_e, xbn_e, xup_nj (by decide), b3.2.2.2.1]
      have hR1 : ∀ (I : xTI) (L : xTL) (nm : Nat → Int32) (k b : Int32), xEnv I nm k b → RT tb sz I → ∃ v I3 L3, AtR tb sz c2 0 nm k b I3 L3 ∧ I3 57 17 = nI w ∧ FrQ I I3 ∧ FrL L L3 ∧ (∀ st, evl nm cs1 st = v :: st) ∧ F_X11_readRule xN I L k b = F_X11_readRule_j72 xN I3 L3 v := by
        intro I L nm k b he h
        obtain ⟨I6, L6, a1, a2, a3, a4, a5⟩ := key_R hc0 k1 hw hv tR0 tR1 he h
        obtain ⟨v, I3, L3, b1, b2, b3, b4, -⟩ := sR 80 I6 L6 nm k b (by decide) a1
        obtain ⟨b6, b7⟩ := b4 rfl
        refine ⟨v, I3, L3, b6, by rw [b2 57 17 (by decide)]; exact a2, a3.trans b2.toQ, a4.trans b3, b7, ?_⟩
        rw [a5, b1, Option.bind_some]
      by_cases k4 : cK c2 = 4
      · obtain ⟨c3, hc3, hp3, tC3, tR3⟩ := adv_ex hsz hb hc2.2.1
        have hr2 : cR c2 ≠ 4 := by
          have := (wk hc2 (w := 16) (by decide) (by decide)).mpr k4
          rw [this.1]; decide
        have hlt2 := hc2.2.2.1 (by rw [k4]; decide)
        obtain ⟨ok4, cs4, c4, hc4, h34, hlen4, sC4, sR4⟩ := sim_all hsz hb _ 0 0 c3 (Nat.le_refl _) (by decide) (by decide) hc3
        have hf4 : cS c4 ≤ 120 := Nat.le_trans hc4.1 hsz
        cases ok4 with
        | false =>
          refine ⟨false, [], [], 0, cS c4, hf4, (fun g => by cases g), ?_, ?_⟩
          · intro I h
            obtain ⟨I11, a1, a2, a3, a4, a5⟩ := hC1 I h
            obtain ⟨I13, e1, e2, e3⟩ := advC a1 tC3
            obtain ⟨I15, b1, b2, -, b4⟩ := sC4 80 I13 cs1 (by decide) e2 (by omega)
            refine ⟨I15, ?_, (a4.trans e3.toD).trans b2.toD, (fun g => by cases g), fun _ => (b4 rfl).1⟩
            rw [a5, if_pos k4, e1, Option.bind_some, b1, Option.bind_some]
            rfl
          · intro I L nm k b he h
            obtain ⟨v, I3, L3, a1, a2, a3, a4, a5, a6⟩ := hR1 I L nm k b he h
            obtain ⟨I4, L4, e1, e2, e3, e4⟩ := advR ((a1.up (j := 18) (by decide) v).up (j := 19) (by decide) 1) hr2 tR3
            obtain ⟨v6, I7, L7, b1, b2, b3, -, b5⟩ := sR4 80 I4 L4 nm k b (by decide) e2
            obtain ⟨b6, b7⟩ := b5 rfl
            have hbad : xup I7 57 19 (if v6 = 0 then 0 else 1) 57 13 = 1 := by rw [xup_nj (by decide)]; exact b6
            refine ⟨xup I7 57 19 (if v6 = 0 then 0 else 1), L7, ?_, ((((a3.trans ((FrQ.rfl' I3).up (by decide) (by decide) _)).trans ((FrQ.rfl' _).up (by decide) (by decide) _)).trans e3.toQ).trans b2.toQ).trans ((FrQ.rfl' _).up (by decide) (by decide) _), (a4.trans e4).trans b3, (fun g => by cases g), fun _ => ⟨hbad, by rw [xup_nj (by decide)]; exact b7⟩⟩
            rw [a6, j72_y hc2 a1 k4 e1 b1, tailB hbad]
        | true =>
          have hlen4 := hlen4 rfl
          have hC2 : ∀ I, CT tb sz I → ∃ I15, AtC tb sz c4 (cs1 ++ cs4) I15 ∧ I15 29 6 = nI w ∧ I15 29 9 = nI cs1.length ∧ FrD I I15 ∧ F_X9_isRule xN I = some (if cK c4 = 8 then 1 else 0, I15) := by
            intro I h
            obtain ⟨I11, a1, a2, a3, a4, a5⟩ := hC1 I h
            obtain ⟨I13, e1, e2, e3⟩ := advC a1 tC3
            obtain ⟨I15, b1, b2, b3, -⟩ := sC4 80 I13 cs1 (by decide) e2 (by omega)
            have b3 := b3 rfl
            refine ⟨I15, b3, ?_, ?_, (a4.trans e3.toD).trans b2.toD, ?_⟩
            · rw [b2 29 6 (by decide), e3 29 6 (by decide)]; exact a2
            · rw [b2 29 9 (by decide), e3 29 9 (by decide)]; exact a3
            · rw [a5, if_pos k4, e1, Option.bind_some, b1, Option.bind_some]
              show (if bi true = 0 then _ else F_X9_isRule_j78 xN I15) = _
              rw [if_neg (by decide), tailC b3]
          have hR2 : ∀ (I : xTI) (L : xTL) (nm : Nat → Int32) (k b : Int32), xEnv I nm k b → RT tb sz I → ∃ v v6 I7 L7, AtR tb sz c4 0 nm k b I7 L7 ∧ I7 57 17 = nI w ∧ I7 57 18 = v ∧ FrQ I I7 ∧ FrL L L7 ∧ (∀ st, evl nm cs1 st = v :: st) ∧ (∀ st, evl nm cs4 st = v6 :: st) ∧ F_X11_readRule xN I L k b = F_X11_readRule_j110 xN (xup I7 57 19 (if v6 = 0 then 0 else 1)) L7 := by
            intro I L nm k b he h
            obtain ⟨v, I3, L3, a1, a2, a3, a4, a5, a6⟩ := hR1 I L nm k b he h
            obtain ⟨I4, L4, e1, e2, e3, e4⟩ := advR ((a1.up (j := 18) (by decide) v).up (j := 19) (by decide) 1) hr2 tR3
            obtain ⟨v6, I7, L7, b1, b2, b3, b4, -⟩ := sR4 80 I4 L4 nm k b (by decide) e2
            obtain ⟨b6, b7⟩ := b4 rfl
            refine ⟨v, v6, I7, L7, b6, ?_, ?_, (((a3.trans ((FrQ.rfl' I3).up (by decide) (by decide) _)).trans ((FrQ.rfl' _).up (by decide) (by decide) _)).trans e3.toQ).trans b2.toQ, (a4.trans e4).trans b3, a5, b7, ?_⟩
            · rw [b2 57 17 (by decide), e3 57 17 (by decide), xup_nj (by decide), xup_nj (by decide)]; exact a2
            · rw [b2 57 18 (by decide), e3 57 18 (by decide), xup_nj (by decide), xup_eq]
            · rw [a6, j72_y hc2 a1 k4 e1 b1]
          by_cases k8 : cK c4 = 8
          · refine ⟨true, cs1, cs4, w, 0, by decide, (fun _ => ⟨hw, by omega⟩), ?_, ?_⟩
            · intro I h
              obtain ⟨I15, a1, a2, a3, a4, a5⟩ := hC2 I h
              refine ⟨I15, by rw [a5, if_pos k8]; rfl, a4, (fun _ => ⟨a2, a3, ?_, fun i hi => ?_⟩), (fun g => by cases g)⟩
              · rw [a1.2.2.2.2.2.1, List.length_append]
              · exact a1.2.2.2.2.2.2 i (by rw [List.length_append]; exact hi)
            · intro I L nm k b he h
              obtain ⟨v, v6, I7, L7, a1, a2, a3, a4, a5, a6, a7, a8⟩ := hR2 I L nm k b he h
              refine ⟨xup I7 57 19 (if v6 = 0 then 0 else 1), L7, ?_, a4.trans ((FrQ.rfl' _).up (by decide) (by decide) _), a5, (fun _ => ⟨?_, ?_, ?_, ?_⟩), (fun g => by cases g)⟩
              · rw [a8, tailR hc4 (a1.up (by decide) _), if_pos k8]
              · rw [xup_nj (by decide)]; exact a1.2.2.2.2.2.2.1
              · rw [xup_nj (by decide)]; exact a2
              · rw [xup_nj (by decide), a3, evt_of a6]
              · have hne : cs4 ≠ [] := by
                  intro e
                  have := a7 []
                  rw [e] at this
                  cases this
                rw [xup_eq, if_neg hne, evt_of a7]
          · refine ⟨false, [], [], 0, cS c4, hf4, (fun g => by cases g), ?_, ?_⟩
            · intro I h
              obtain ⟨I15, a1, a2, a3, a4, a5⟩ := hC2 I h
              exact ⟨I15, by rw [a5, if_neg k8]; rfl, a4, (fun g => by cases g), fun _ => a1.2.1⟩
            · intro I L nm k b he h
              obtain ⟨v, v6, I7, L7, a1, a2, a3, a4, a5, a6, a7, a8⟩ := hR2 I L nm k b he h
              have a1' := a1.up (j := 19) (by decide) (if v6 = 0 then 0 else 1)
              refine ⟨xup (xup (xup I7 57 19 (if v6 = 0 then 0 else 1)) 57 13 1) 57 14 (xup I7 57 19 (if v6 = 0 then 0 else 1) 57 9), L7, ?_, (a4.trans ((FrQ.rfl' _).up (by decide) (by decide) _)).trans (fail_fr _).toQ, a5, (fun g => by cases g), fun _ => ⟨?_, ?_⟩⟩
              · rw [a8, tailR hc4 a1', if_neg k8]
              · rw [xup_nj (by decide), xup_eq]
              · rw [xup_eq]; exact a1'.2.1
      · by_cases k8 : cK c2 = 8
        · refine ⟨true, cs1, [], w, 0, by decide, (fun _ => ⟨hw, by simp; omega⟩), ?_, ?_⟩
          · intro I h
            obtain ⟨I11, a1, a2, a3, a4, a5⟩ := hC1 I h
            refine ⟨I11, by rw [a5, if_neg k4, tailC a1, if_pos k8]; rfl, a4, (fun _ => ⟨a2, a3, ?_, fun i hi => ?_⟩), (fun g => by cases g)⟩
            · rw [a1.2.2.2.2.2.1]; rfl
            · rw [List.append_nil]; exact a1.2.2.2.2.2.2 i hi
          · intro I L nm k b he h
            obtain ⟨v, I3, L3, a1, a2, a3, a4, a5, a6⟩ := hR1 I L nm k b he h
            have a1' := (a1.up (j := 18) (by decide) v).up (j := 19) (by decide) 1
            refine ⟨xup (xup I3 57 18 v) 57 19 1, L3, ?_, (a3.trans ((FrQ.rfl' I3).up (by decide) (by decide) _)).trans ((FrQ.rfl' _).up (by decide) (by decide) _), a4, (fun _ => ⟨a1'.2.2.2.2.2.2.1, ?_, ?_, ?_⟩), (fun g => by cases g)⟩
            · rw [a6, j72_n hc2 a1 k4, tailR hc2 a1', if_pos k8]
            · rw [xup_nj (by decide), xup_nj (by decide)]; exact a2
            · rw [xup_nj (by decide), xup_eq, evt_of a5]
            · rw [xup_eq, if_pos rfl]
        · refine ⟨false, [], [], 0, cS c2, hf2, (fun g => by cases g), ?_, ?_⟩
          · intro I h
            obtain ⟨I11, a1, a2, a3, a4, a5⟩ := hC1 I h
            exact ⟨I11, by rw [a5, if_neg k4, tailC a1, if_neg k8]; rfl, a4, (fun g => by cases g), fun _ => a1.2.1⟩
          · intro I L nm k b he h
            obtain ⟨v, I3, L3, a1, a2, a3, a4, a5, a6⟩ := hR1 I L nm k b he h
            have a1' := (a1.up (j := 18) (by decide) v).up (j := 19) (by decide) 1
            refine ⟨xup (xup (xup (xup I3 57 18 v) 57 19 1) 57 13 1) 57 14 (xup (xup I3 57 18 v) 57 19 1 57 9), L3, ?_, ((a3.trans ((FrQ.rfl' I3).up (by decide) (by decide) _)).trans ((FrQ.rfl' _).up (by decide) (by decide) _)).trans (fail_fr _).toQ, a4, (fun g => by cases g), fun _ => ⟨?_, ?_⟩⟩
            · rw [a6, j72_n hc2 a1 k4, tailR hc2 a1', if_neg k8]
            · rw [xup_nj (by decide), xup_eq]
            · rw [xup_eq]; exact a1'.2.1
  · refine ⟨false, [], [], 0, cS c0, hf0, (fun g => by cases g), ?_, ?_⟩
    · intro I h
      obtain ⟨I3, a1, a2, a3⟩ := start_C tC0 h
      refine ⟨I3, ?_, a2, (fun g => by cases g), fun _ => a1.2.1⟩
      unfold F_X9_isRule
      rw [xbn_e, xbn_e, a3, Option.bind_some, xbn_e, a1.2.2.2.1, if_neg k1]
      rfl
    · intro I L nm k b he h
      obtain ⟨J, M, a1, a2, a3, a4⟩ := start_R hc0 tR0 he h
      have a1' := a1.up (j := 17) (by decide) (-1)
      have b13 : xup (xup (xup J 57 17 (-1)) 57 13 1) 57 14 (xup J 57 17 (-1) 57 9) 57 13 = 1 := by rw [xup_nj (by decide), xup_eq]
      refine ⟨xup (xup (xup (xup (xup J 57 17 (-1)) 57 13 1) 57 14 (xup J 57 17 (-1) 57 9)) 57 18 0) 57 19 1, M, ?_, (((a2.trans ((FrQ.rfl' J).up (by decide) (by decide) _)).trans (fail_fr _).toQ).trans ((FrQ.rfl' _).up (by decide) (by decide) _)).trans ((FrQ.rfl' _).up (by decide) (by decide) _), a3, (fun g => by cases g), fun _ => ⟨?_, ?_⟩⟩
      · rw [a4, key_n hc0 a1 k1, Option.bind_some, xbn_e, xbn_e, xup_eq, if_pos rfl, fail_y a1'.2.2.2.2.2.2.1, Option.bind_some]
        unfold F_X11_readRule_j56
        rw [xbn_e, if_neg (by rw [b13]; decide), j72_bad b13]
      · rw [xup_nj (by decide), xup_nj (by decide)]; exact b13
      · rw [xup_nj (by decide), xup_nj (by decide), xup_eq]; exact a1'.2.1
end RULE2
