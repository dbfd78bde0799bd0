section PARSE4
variable {tb : Nat → Nat} {sz : Nat}
theorem bind2 {d l : Nat} {v kd : Int32} {A : Option (xTI × xTL)} {K : Int32 × xTI × xTL → Option (Int32 × xTI × xTL)} {f : xTI × xTL → Option (Int32 × xTI × xTL)} (h : ∀ I1 L1, f (I1, L1) = Option.bind (F11l d l I1 L1) (fun (w, I2, L2) => K (jn kd v w, I2, L2))) : Option.bind A f = Option.bind A (fun (I1, L1) => Option.bind (F11l d l I1 L1) (fun (w, I2, L2) => K (jn kd v w, I2, L2))) := by
  congr 1
  funext x
  exact h x.1 x.2
theorem bind3 {A : Option (Int32 × xTI × xTL)} {f g : Int32 × xTI × xTL → Option (Int32 × xTI × xTL)} (h : ∀ w I L, f (w, I, L) = g (w, I, L)) : Option.bind A f = Option.bind A g := by
  congr 1
  funext x
  exact h x.1 x.2.1 x.2.2
abbrev rbE (d : Nat) := F_X11_either_b5 (F_X11_R xN d).1 (F_X11_R xN d).2.1 (F_X11_R xN d).2.2.1 (F_X11_R xN d).2.2.2.1 (F_X11_R xN d).2.2.2.2.1 (F_X11_R xN d).2.2.2.2.2 xN
abbrev rbB (d : Nat) := F_X11_both_b5 (F_X11_R xN d).1 (F_X11_R xN d).2.1 (F_X11_R xN d).2.2.1 (F_X11_R xN d).2.2.2.1 (F_X11_R xN d).2.2.2.2.1 (F_X11_R xN d).2.2.2.2.2 xN
abbrev rbA (d : Nat) := F_X11_added_b5 (F_X11_R xN d).1 (F_X11_R xN d).2.1 (F_X11_R xN d).2.2.1 (F_X11_R xN d).2.2.2.1 (F_X11_R xN d).2.2.2.2.1 (F_X11_R xN d).2.2.2.2.2 xN
abbrev rbT (d : Nat) := F_X11_term_b5 (F_X11_R xN d).1 (F_X11_R xN d).2.1 (F_X11_R xN d).2.2.1 (F_X11_R xN d).2.2.2.1 (F_X11_R xN d).2.2.2.2.1 (F_X11_R xN d).2.2.2.2.2 xN
theorem rl0 (o d : Nat) : RLoop tb sz 0 o d (rbE d) := by
  refine ⟨fun c nm k b I L v K hc h hj => ?_, fun c nm k b I L v K hc h hj => ?_, fun I L v K h => ?_⟩
  · show F_X11_either_c5 _ _ _ _ _ _ xN v I L K = _
    unfold F_X11_either_c5
    rw [qW hc h (x := 423) (y := 5) (w := 17) rfl rfl (by decide) (by decide), if_neg (show ¬ cK c = 5 from hj), Option.bind_some, if_pos rfl]
  · show F_X11_either_c5 _ _ _ _ _ _ xN v I L K = _
    have hj : cK c = 5 := hj
    unfold F_X11_either_c5
    rw [qW hc h (x := 423) (y := 5) (w := 17) rfl rfl (by decide) (by decide), if_pos hj, Option.bind_some, if_neg (by decide), hj]
    refine bind2 (fun I1 L1 => ?_)
    show Option.bind (F11l d 1 I1 L1) _ = _
    refine bind3 (fun w I2 L2 => ?_)
    show (if v = 0 then (if w = 0 then K (0, I2, L2) else K (1, I2, L2)) else K (1, I2, L2)) = K (jn 5 v w, I2, L2)
    unfold jn
    rw [if_pos rfl]
    by_cases g : v = 0
    · rw [if_pos g, if_pos g]
      by_cases g2 : w = 0
      · rw [if_pos g2, if_pos g2]
      · rw [if_neg g2, if_neg g2]
    · rw [if_neg g, if_neg g]
  · show F_X11_either_c5 _ _ _ _ _ _ xN v I L K = _
    unfold F_X11_either_c5
    rw [isW_n (Or.inl (by rw [h]; decide)), Option.bind_some, if_pos rfl]
theorem rl1 (o d : Nat) : RLoop tb sz 1 o d (rbB d) := by
  refine ⟨fun c nm k b I L v K hc h hj => ?_, fun c nm k b I L v K hc h hj => ?_, fun I L v K h => ?_⟩
  · show F_X11_both_c5 _ _ _ _ _ _ xN v I L K = _
    unfold F_X11_both_c5
    rw [qW hc h (x := 1111) (y := 6) (w := 18) rfl rfl (by decide) (by decide), if_neg (show ¬ cK c = 6 from hj), Option.bind_some, if_pos rfl]
  · show F_X11_both_c5 _ _ _ _ _ _ xN v I L K = _
    have hj : cK c = 6 := hj
    unfold F_X11_both_c5
    rw [qW hc h (x := 1111) (y := 6) (w := 18) rfl rfl (by decide) (by decide), if_pos hj, Option.bind_some, if_neg (by decide), hj]
    refine bind2 (fun I1 L1 => ?_)
    show Option.bind (F11l d 2 I1 L1) _ = _
    refine bind3 (fun w I2 L2 => ?_)
    show (if v = 0 then K (0, I2, L2) else (if w = 0 then K (0, I2, L2) else K (1, I2, L2))) = K (jn 6 v w, I2, L2)
    have e : jn 6 v w = if v = 0 then 0 else (if w = 0 then 0 else 1) := rfl
    rw [e]
    by_cases g : v = 0
    · rw [if_pos g, if_pos g]
    · rw [if_neg g, if_neg g]
      by_cases g2 : w = 0
      · rw [if_pos g2, if_pos g2]
      · rw [if_neg g2, if_neg g2]
  · show F_X11_both_c5 _ _ _ _ _ _ xN v I L K = _
    unfold F_X11_both_c5
    rw [isW_n (Or.inl (by rw [h]; decide)), Option.bind_some, if_pos rfl]
theorem rl3 (o d : Nat) : RLoop tb sz 3 o d (rbA d) := by
  refine ⟨fun c nm k b I L v K hc h hj => ?_, fun c nm k b I L v K hc h hj => ?_, fun I L v K h => ?_⟩
  · show F_X11_added_c5 _ _ _ _ _ _ xN v I L K = _
    unfold F_X11_added_c5
    rw [qS hc h (x := 43) (w := 43) rfl (by decide), if_neg (fun e => hj (Or.inl e)), Option.bind_some, if_pos rfl, qS hc h (x := 45) (w := 45) rfl (by decide), if_neg (fun e => hj (Or.inr e)), Option.bind_some, if_pos rfl]
  · show F_X11_added_c5 _ _ _ _ _ _ xN v I L K = _
    unfold F_X11_added_c5 F_X11_added_j23
    rw [qS hc h (x := 43) (w := 43) rfl (by decide), qS hc h (x := 45) (w := 45) rfl (by decide)]
    by_cases g : cK c = 43
    · rw [if_pos g, Option.bind_some, if_neg (by decide), xbn_e, qV hc h (w := 43) (by decide) g, if_pos (show lg_cmp (Int64.ofNat 43) 43 = 0 from lgc.mpr rfl), g]
      unfold F_X11_added_j39
      refine bind2 (fun I1 L1 => ?_)
      show Option.bind (F11l d 4 I1 L1) _ = _
      refine bind3 (fun w I2 L2 => ?_)
      rfl
    · have g2 : cK c = 45 := (show cK c = 43 ∨ cK c = 45 from hj).resolve_left g
      rw [if_neg g, Option.bind_some, if_pos rfl, if_pos g2, Option.bind_some, if_neg (by decide), xbn_e, qV hc h (w := 45) (by decide) g2, if_neg (fun e => absurd (lgc.mp e) (by decide)), g2]
      unfold F_X11_added_j39
      refine bind2 (fun I1 L1 => ?_)
      show Option.bind (F11l d 4 I1 L1) _ = _
      refine bind3 (fun w I2 L2 => ?_)
      rfl
  · show F_X11_added_c5 _ _ _ _ _ _ xN v I L K = _
    unfold F_X11_added_c5
    rw [isS_n (Or.inl (by rw [h]; decide)), Option.bind_some, if_pos rfl, isS_n (Or.inl (by rw [h]; decide)), Option.bind_some, if_pos rfl]
theorem rl4 (o d : Nat) : RLoop tb sz 4 o d (rbT d) := by
  refine ⟨fun c nm k b I L v K hc h hj => ?_, fun c nm k b I L v K hc h hj => ?_, fun I L v K h => ?_⟩
  · show F_X11_term_c5 _ _ _ _ _ _ xN v I L K = _
    unfold F_X11_term_c5
    rw [qS hc h (x := 42) (w := 42) rfl (by decide), if_neg (fun e => hj (Or.inl e)), Option.bind_some, if_pos rfl, qS hc h (x := 47) (w := 47) rfl (by decide), if_neg (fun e => hj (Or.inr (Or.inl e))), Option.bind_some, if_pos rfl, qS hc h (x := 37) (w := 37) rfl (by decide), if_neg (fun e => hj (Or.inr (Or.inr e))), Option.bind_some, if_pos rfl]
  · show F_X11_term_c5 _ _ _ _ _ _ xN v I L K = _
    unfold F_X11_term_c5
    rw [qS hc h (x := 42) (w := 42) rfl (by decide), qS hc h (x := 47) (w := 47) rfl (by decide), qS hc h (x := 37) (w := 37) rfl (by decide)]
    unfold F_X11_term_j32
    rcases (show cK c = 42 ∨ cK c = 47 ∨ cK c = 37 from hj) with g | g | g
    · rw [if_pos g, Option.bind_some, if_neg (by decide), xbn_e, qV hc h (w := 42) (by decide) g, g]
      refine bind2 (fun I1 L1 => ?_)
      show Option.bind (F11l d 5 I1 L1) _ = _
      refine bind3 (fun w I2 L2 => ?_)
      show (if lg_cmp (Int64.ofNat 42) 42 = 0 then _ else _) = _
      rw [if_pos (show lg_cmp (Int64.ofNat 42) 42 = 0 from lgc.mpr rfl)]
      rfl
    · rw [if_neg (by rw [g]; decide), Option.bind_some, if_pos rfl, if_pos g, Option.bind_some, if_neg (by decide), xbn_e, qV hc h (w := 47) (by decide) g, g]
      refine bind2 (fun I1 L1 => ?_)
      show Option.bind (F11l d 5 I1 L1) _ = _
      refine bind3 (fun w I2 L2 => ?_)
      show (if lg_cmp (Int64.ofNat 47) 42 = 0 then _ else if w = 0 then K (0, I2, L2) else if w = -1 then (if lg_cmp (Int64.ofNat 47) 47 = 0 then xbn (-v) (fun y9 => K (y9, I2, L2)) else K (0, I2, L2)) else if lg_cmp (Int64.ofNat 47) 47 = 0 then xnz (v / w) w (fun v8 => K (v8, I2, L2)) else xnz (v - v / w * w) w (fun v7 => K (v7, I2, L2))) = K (jn 47 v w, I2, L2)
      have e : jn 47 v w = if w = 0 then 0 else v / w := rfl
      rw [if_neg (fun e => absurd (lgc.mp e) (by decide)), e]
      by_cases g0 : w = 0
      · rw [if_pos g0, if_pos g0]
      · rw [if_neg g0, if_neg g0]
        by_cases g1 : w = -1
        · rw [if_pos g1, if_pos (show lg_cmp (Int64.ofNat 47) 47 = 0 from lgc.mpr rfl), xbn_e, g1, div_m1]
        · rw [if_neg g1, if_pos (show lg_cmp (Int64.ofNat 47) 47 = 0 from lgc.mpr rfl)]
          unfold xnz
          rw [if_neg g0]
    · rw [if_neg (by rw [g]; decide), Option.bind_some, if_pos rfl, if_neg (by rw [g]; decide), Option.bind_some, if_pos rfl, if_pos g, Option.bind_some, if_neg (by decide), xbn_e, qV hc h (w := 37) (by decide) g, g]
      refine bind2 (fun I1 L1 => ?_)
      show Option.bind (F11l d 5 I1 L1) _ = _
      refine bind3 (fun w I2 L2 => ?_)
      show (if lg_cmp (Int64.ofNat 37) 42 = 0 then _ else if w = 0 then K (0, I2, L2) else if w = -1 then (if lg_cmp (Int64.ofNat 37) 47 = 0 then xbn (-v) (fun y9 => K (y9, I2, L2)) else K (0, I2, L2)) else if lg_cmp (Int64.ofNat 37) 47 = 0 then xnz (v / w) w (fun v8 => K (v8, I2, L2)) else xnz (v - v / w * w) w (fun v7 => K (v7, I2, L2))) = K (jn 37 v w, I2, L2)
      have e : jn 37 v w = if w = 0 then 0 else v - v / w * w := rfl
      rw [if_neg (fun e => absurd (lgc.mp e) (by decide)), e]
      by_cases g0 : w = 0
      · rw [if_pos g0, if_pos g0]
      · rw [if_neg g0, if_neg g0]
        by_cases g1 : w = -1
        · rw [if_pos g1, if_neg (fun e => absurd (lgc.mp e) (by decide)), g1, rem_m1]
        · rw [if_neg g1, if_neg (fun e => absurd (lgc.mp e) (by decide))]
          unfold xnz
          rw [if_neg g0]
  · show F_X11_term_c5 _ _ _ _ _ _ xN v I L K = _
    unfold F_X11_term_c5
    rw [isS_n (Or.inl (by rw [h]; decide)), Option.bind_some, if_pos rfl, isS_n (Or.inl (by rw [h]; decide)), Option.bind_some, if_pos rfl, isS_n (Or.inl (by rw [h]; decide)), Option.bind_some, if_pos rfl]
/-- a level that joins many -/
theorem sim_lev (hsz : sz ≤ 120) (hb : ∀ i, i < sz → tb i ≤ 255) {l o : Nat} (hl : l ≤ 4) (hl2 : l ≠ 2) {c : Cu} (hc : CuOK sz c) (rb : Nat → Int32 × xTI × xTL → (Int32 × xTI × xTL → Option (Int32 × xTI × xTL)) → Option (Int32 × xTI × xTL)) (hF : ∀ d I L, F11l (d + 1) l I L = Option.bind (F11l d (l + 1) I L) (fun (v1, I2, L3) => xlp (rb d) xN (v1, I2, L3))) (hr : ∀ d, RLoop tb sz l o d (rb d)) (h1 : Sim tb sz (l + 1) o c) (hS : ∀ c2, CuOK sz c2 → cS c < cS c2 → Sim tb sz (l + 1) o c2) : Sim tb sz l o c := by
  obtain ⟨ok1, cs1, c1, hc1, h01, hlen1, sC, sR⟩ := h1
  have hcl : ∀ (d : Nat) (I : xTI), (F_X9_R xN (d + 1)).1 I (nI l) (nI o) = Option.bind ((F_X9_R xN d).1 I (nI (l + 1)) (nI o)) (fun (v1, I2) => xlp (F_X9_readLevel_b59 (F_X9_R xN d).1 (F_X9_R xN d).2.1 (F_X9_R xN d).2.2 xN (nI l) (nI o) 120) xN (v1, 0, I2)) := by
    intro d I
    show F_X9_readLevel_B _ _ _ xN I (nI l) (nI o) = _
    unfold F_X9_readLevel_B F_X9_readLevel_j34
    have n2 : ¬ nI l = 2 := fun e => hl2 ((nI_lq (c := 2) rfl (by omega) (by decide)).mp e)
    rw [if_pos (show nI l < 5 from nI_lt (b := 5) (by omega) (by decide)), if_neg n2, nI_1]
    simp only [if_neg n2]
  cases ok1 with
  | false =>
    refine ⟨false, [], c1, hc1, h01, (fun g => by cases g), ?_, ?_⟩
    · intro d I cd hd hA hcd
      obtain ⟨d', rfl⟩ : ∃ d', d = d' + 1 := ⟨d - 1, by omega⟩
      obtain ⟨I2, e1, e2, -, e4⟩ := sC d' I cd (by omega) hA hcd
      refine ⟨I2, ?_, e2, (fun g => by cases g), e4⟩
      rw [hcl, e1, Option.bind_some]
      show xlp _ (99999 + 1) (bi false, 0, I2) = _
      rw [xlp_s]
      show F_X9_readLevel_c59 _ _ _ xN (nI l) (nI o) 120 0 0 I2 _ = _
      unfold F_X9_readLevel_c59
      rw [if_pos (show (0 : Int32) = 0 from rfl), ite_self, xzc_0]
      rfl
    · intro d I L nm k b hd hA
      obtain ⟨d', rfl⟩ : ∃ d', d = d' + 1 := ⟨d - 1, by omega⟩
      obtain ⟨v, I2, L2, e1, e2, e3, -, e5⟩ := sR d' I L nm k b (by omega) hA
      refine ⟨v, I2, L2, ?_, e2, e3, (fun g => by cases g), e5⟩
      rw [hF, e1, Option.bind_some]
      show xlp _ (99999 + 1) (v, I2, L2) = _
      rw [xlp_s, (hr d').2.2 _ _ _ _ (e5 rfl).1]
  | true =>
    have hlen1 := hlen1 rfl
    obtain ⟨ok2, cs2, c2, hc2, h12, hlen2, lC, lR⟩ := loop_sim hsz hb hl (cS c) hS (sz - cS c1) c1 (Nat.le_refl _) hc1 h01
    refine ⟨ok2, cs1 ++ cs2, c2, hc2, by omega, (fun g => by have := hlen2 g; rw [List.length_append]; omega), ?_, ?_⟩
    · intro d I cd hd hA hcd
      obtain ⟨d', rfl⟩ : ∃ d', d = d' + 1 := ⟨d - 1, by omega⟩
      obtain ⟨I2, e1, e2, e3, -⟩ := sC d' I cd (by omega) hA hcd
      obtain ⟨I3, f1, f2, f3, f4⟩ := lC d' xN 0 I2 (cd ++ cs1) (by omega) (e3 rfl) (by rw [List.length_append]; omega) (by omega) (by show sz - cS c1 < 100000; omega)
      refine ⟨I3, ?_, e2.trans f2, (fun g => by rw [← List.append_assoc]; exact f3 g), f4⟩
      rw [hcl, e1, Option.bind_some]
      exact f1
    · intro d I L nm k b hd hA
      obtain ⟨d', rfl⟩ : ∃ d', d = d' + 1 := ⟨d - 1, by omega⟩
      obtain ⟨v, I2, L2, e1, e2, e3, e4, -⟩ := sR d' I L nm k b (by omega) hA
      obtain ⟨e5, e6⟩ := e4 rfl
      obtain ⟨v', I3, L3, f1, f2, f3, f4, f5⟩ := lR d' xN (rb d') I2 L2 nm k b v (by omega) (hr d') e5 (by show sz - cS c1 < 100000; omega)
      refine ⟨v', I3, L3, ?_, e2.trans f2, e3.trans f3, (fun g => ⟨(f4 g).1, fun st => by rw [evl_app, e6]; exact (f4 g).2 st⟩), f5⟩
      rw [hF, e1, Option.bind_some]
      exact f1
end PARSE4
