section
/-! run: one day -/
theorem RSim.t {I : xTI} {L : xTL} {J : xTI} {M : xTL} {q : Nat → Nat} {n H C : Nat} (h : RSim I L J M q n H C) : RSt I L J M q n H C (59340600 * ((q 0 + 1) % 14)) := by
  obtain ⟨⟨b1, b2, b3, b4, b5, b6⟩, ⟨v1, v2, v3, v4, v5, v6, v7⟩, hH, hC⟩ := h
  refine ⟨⟨b1, b2, b4, b5, b6⟩, ⟨v1, v2, v3, v4, v6, v7⟩, hH, b3, ⟨fun m hm => ⟨(v5.1 m hm).1, hC m hm, (v5.1 m hm).2.2⟩, fun a b ha hb => ⟨(v5.2.1 a b ha hb).1, (v5.2.1 a b ha hb).2.2⟩, v5.2.2.1, ?_⟩⟩
  have := v5.2.2.2
  omega
theorem RSu.mono {I : xTI} {L : xTL} {J : xTI} {M : xTL} {q : Nat → Nat} {n H C E H2 C2 : Nat} (h : RSu I L J M q n H C E) (h1 : H ≤ H2) (h2 : C ≤ C2) : RSu I L J M q n H2 C2 E := by
  obtain ⟨a1, a2, a3, a4, a5⟩ := h
  refine ⟨a1, a2, fun j hj => (a3 j hj).mono h1, a4, ⟨fun m hm => ⟨(a5.1 m hm).1, ?_, (a5.1 m hm).2.2⟩, a5.2⟩⟩
  have := (a5.1 m hm).2.1
  omega
theorem RSim.mono {I : xTI} {L : xTL} {J : xTI} {M : xTL} {q : Nat → Nat} {n H C H2 C2 : Nat} (h : RSim I L J M q n H C) (h1 : H ≤ H2) (h2 : C ≤ C2) : RSim I L J M q n H2 C2 := by
  obtain ⟨a1, a2, a3, a4⟩ := h
  refine ⟨a1, a2, fun j hj => (a3 j hj).mono h1, fun m hm => ?_⟩
  have := a4 m hm
  omega
theorem IVd.nx {s : Nat → Int32} {q : Nat → Nat} {d : Nat} (h : IVd s q) (hd : (d + 1) % 14 ≠ 12) : IVd s (qs q 0 (d + 1)) := by
  have hn : ¬ (qs q 0 (d + 1) 0 % 14 = 12) := hd
  refine ⟨fun i hi => ?_, h.2.1, h.2.2⟩
  obtain ⟨k, f, t, sh, a0, a1, a2, a3, a4, a5, a6, a7, a8, a9, aL, aU⟩ := h.1 i hi
  refine ⟨k, f, t, sh, a0, a1, a2, a3, a4, a5, a6, a7, a8, a9, ?_, fun z => absurd z hn⟩
  rcases aL with aL | ⟨m, z1, z2, -⟩
  · exact Or.inl aL
  · exact Or.inr ⟨m, z1, z2, fun z => absurd z hn⟩
/-- the place of a day in its account -/
theorem place_n {d : Nat} (hd : d ≤ 700) : (nI d - nI d / 14 * 14 : Int32) = nI (d % 14) := by
  rw [show (14 : Int32) = nI 14 from rfl, nI_div (by omega) (by decide) (by decide), nI_mul, nI_sub (by omega)]
  congr 1; omega
theorem place_c {I : xTI} {d : Nat} (h : I 1 0 = nI d) (hd : d ≤ 700) : F_X1_place I = some (nI (d % 14)) := by
  unfold F_X1_place
  rw [xbn_e, h, place_n hd]
theorem place_e {d p : Nat} (hp : p < 14) : (nI (d % 14) : Int32) = nI p ↔ d % 14 = p := nI_eq (by omega) (by omega)
theorem account_c {I : xTI} {d : Nat} (h : I 1 0 = nI d) : F_X1_account I = some (nI d / 14) := by
  unfold F_X1_account
  rw [xbn_e, h]
theorem day_sim {I : xTI} {L : xTL} {J : xTI} {M : xTL} {q : Nat → Nat} {n H C : Nat} (hS : RSim I L J M q n H C) (h7 : q 0 + 1 ≤ 700) (hH : H + 5940 ≤ 200000 * n) (hn : n ≤ 512) (hC : C + 9990 * H + 2196831780 ≤ 10 ^ 14 * n) : ∃ I2 L2 J2 M2 q2 cnt, (∀ K x1 x2 x3, F_X10_run_c54 xN x1 x2 x3 I L K = if x1 ≤ x3 then some (x2, I, L) else K (x2 + nI cnt, x3 + 1, I2, L2)) ∧ F_X11_close xN J M = some (J2, M2) ∧ RSim I2 L2 J2 M2 q2 n (H + 5940) (C + 9990 * H + 2196831780) ∧ q2 0 = q 0 + 1 ∧ q2 1 = q 1 ∧ upn (J 58) (q 1) = upn (J2 58) (q 1) + cnt ∧ RFc I I2 L L2 ∧ RFr J J2 M M2 := by
  have hq0 : q 0 ≤ 700 := by omega
  have hq1 : q 1 ≤ 12 := hS.2.1.1.2.2.1
  -- judged
  obtain ⟨I1, J1, M1, a1, a2, a3, a4, a5⟩ := judge_sim hS
  -- dividends
  obtain ⟨I2, L3, JA, MA, w, b1, b2, b3, b4, b5⟩ := div_sim a3.t (by omega) (by omega) (by omega)
  have qa0 : qs q 5 w 0 = q 0 := rfl
  have qa1 : qs q 5 w 1 = q 1 := rfl
  generalize qs q 5 w = qa at b3 qa0 qa1
  have i2 : I2 1 0 = nI (q 0) := by rw [← qa0]; exact b3.1.1.1
  -- making up
  have hB : ∃ IB JB, (∀ K x1 x2 x3, (Option.bind (F_X1_place I2) (fun v4 => (if v4 = 9 then Option.bind (F_X2_makeUp xN I2) (fun I5 => F_X10_run_j104 K xN I5 L3 x1 x2 x3) else F_X10_run_j104 K xN I2 L3 x1 x2 x3))) = F_X10_run_j104 K xN IB L3 x1 x2 x3) ∧ clA (nI (q 0)) JA MA = F_X11_close_j224 xN JB MA (nI (q 0)) ∧ RSt IB L3 JB MA qa n H (C + 9990 * H) (59340600 * ((q 0 + 1) % 14) + 59340600) ∧ RFc I2 IB L3 L3 ∧ RFm JA JB MA MA := by
    unfold clA
    rw [place_c i2 hq0, place_n hq0]
    by_cases e : q 0 % 14 = 9
    · obtain ⟨IB, JB, c1, c2, c3, c4, c5⟩ := make_sim b3
      have e' : (nI (q 0 % 14) : Int32) = 9 := (place_e (by decide)).mpr e
      rw [qa0] at c2
      exact ⟨IB, JB, fun K x1 x2 x3 => by rw [Option.bind_some, if_pos e', c1, Option.bind_some], by rw [if_pos e', c2, Option.bind_some], c3, c4, c5⟩
    · have e' : ¬ (nI (q 0 % 14) : Int32) = 9 := fun z => e ((place_e (p := 9) (by decide)).mp z)
      exact ⟨I2, JA, fun K x1 x2 x3 => by rw [Option.bind_some, if_neg e'], by rw [if_neg e'], b3, RFc.rfl' _ _, RFm.rfl' _ _⟩
  obtain ⟨IB, JB, c1, c2, c3, c4, c5⟩ := hB
  have iB : IB 1 0 = nI (q 0) := by rw [← qa0]; exact c3.1.1.1
  -- names
  have hC3 : ∃ IC JC MC qc, (∀ K x1 x2 x3, F_X10_run_j104 K xN IB L3 x1 x2 x3 = F_X10_run_j134 K xN IC L3 x1 x2 x3) ∧ F_X11_close_j224 xN JB MA (nI (q 0)) = F_X11_close_j284 xN JC MC (nI (q 0)) ∧ RSt IC L3 JC MC qc n H (C + 9990 * H) (59340600 * ((q 0 + 1) % 14) + 59340600) ∧ IVd (JC 58) (qs qc 0 (q 0 + 1)) ∧ qc 0 = q 0 ∧ qc 1 = q 1 ∧ (∀ j, 16 ≤ j → j < 64 → JC 58 j = JB 58 j) ∧ RFc IB IC L3 L3 ∧ RFr JB JC MA MC := by
    by_cases e : q 0 % 14 = 11
    · obtain ⟨IC, JC, MC, qc, d1, d2, d3, d4, d5, d6, d7, d8, d9⟩ := name_sim c3
      have e' : (nI (q 0 % 14) : Int32) = 11 := (place_e (by decide)).mpr e
      rw [qa0] at d1 d2 d4 d5
      rw [qa1] at d6
      refine ⟨IC, JC, MC, qc, fun K x1 x2 x3 => ?_, ?_, d3, d4, d5, d6, d7, d8, d9⟩
      · unfold F_X10_run_j104
        rw [place_c iB hq0, Option.bind_some, if_pos e', account_c iB, Option.bind_some, d1, Option.bind_some]
      · unfold F_X11_close_j224
        rw [place_n hq0, if_pos e']; exact d2
    · have e' : ¬ (nI (q 0 % 14) : Int32) = 11 := fun z => e ((place_e (p := 11) (by decide)).mp z)
      refine ⟨IB, JB, MA, qa, fun K x1 x2 x3 => ?_, ?_, c3, IVd.nx c3.2.1.2.2.2.2.1 (by omega), qa0, qa1, fun _ _ _ => rfl, RFc.rfl' _ _, RFr.rfl' _ _⟩
      · unfold F_X10_run_j104
        rw [place_c iB hq0, Option.bind_some, if_neg e']
      · unfold F_X11_close_j224
        rw [place_n hq0, if_neg e']
  obtain ⟨IC, JC, MC, qc, d1, d2, d3, d4, d5, d6, d7, d8, d9⟩ := hC3
  have iC : IC 1 0 = nI (q 0) := by rw [← d5]; exact d3.1.1.1
  -- settling
  have hD : ∃ ID LD JD MD qd cnt E, (∀ K x1 x2 x3, F_X10_run_j134 K xN IC L3 x1 x2 x3 = F_X10_run_j167 K xN ID LD x1 (x2 + nI cnt) x3) ∧ F_X11_close_j284 xN JC MC (nI (q 0)) = xlp (F_X11_close_b303 xN MD (nI (q 0))) xN (0, JD) ∧ RSu ID LD JD MD qd n (H + 5940) (C + 9990 * H + 2196831780) E ∧ E ≤ 59340600 * ((q 0 + 2) % 14) ∧ IVd (JD 58) (qs qd 0 (q 0 + 1)) ∧ qd 0 = q 0 ∧ qd 1 = q 1 ∧ upn (JC 58) (q 1) = upn (JD 58) (q 1) + cnt ∧ RFc IC ID L3 LD ∧ RFr JC JD MC MD := by
    by_cases e : q 0 % 14 = 12
    · obtain ⟨ID, LD, JD, MD, cnt, e1, e2, e3, e4, e5, e6, e7⟩ := settle_sim d3 (by rw [d5]; exact e) hH (by omega) (by omega) (by omega) (nI (q 0) / 14)
      have e' : (nI (q 0 % 14) : Int32) = 12 := (place_e (by decide)).mpr e
      rw [d5] at e4
      rw [d6] at e5
      refine ⟨ID, LD, JD, MD, qs qc 9 1, cnt, 0, fun K x1 x2 x3 => ?_, ?_, e3, Nat.zero_le _, e4, d5, d6, e5, e6, e7⟩
      · unfold F_X10_run_j134
        rw [place_c iC hq0, Option.bind_some, if_pos e', account_c iC, Option.bind_some, e1, Option.bind_some]; rfl
      · unfold F_X11_close_j284
        rw [place_n hq0, if_pos e', e2, Option.bind_some]
    · have e' : ¬ (nI (q 0 % 14) : Int32) = 12 := fun z => e ((place_e (p := 12) (by decide)).mp z)
      refine ⟨IC, L3, JC, MC, qc, 0, 59340600 * ((q 0 + 1) % 14) + 59340600, fun K x1 x2 x3 => ?_, ?_, d3.u.mono (by omega) (by omega), by omega, d4, d5, d6, rfl, RFc.rfl' _ _, RFr.rfl' _ _⟩
      · unfold F_X10_run_j134
        rw [place_c iC hq0, Option.bind_some, if_neg e', show (nI 0 : Int32) = 0 from rfl, Int32.add_zero]
      · unfold F_X11_close_j284
        rw [place_n hq0, if_neg e']
  obtain ⟨ID, LD, JD, MD, qd, cnt, E, e1, e2, e3, eE, e4, e5, e6, e7, e8, e9⟩ := hD
  -- options, and the day
  obtain ⟨IE, JE, f1, f2, f3, f4, f5, f6⟩ := ends_sim e3 (by rw [e5]; exact e4)
  have fin := day_up f3 f4 (by rw [e5]; exact h7) hC (by rw [e5]; exact eE)
  rw [e5] at f2 fin
  have iE : IE 1 0 = nI (q 0) := by rw [← e5]; exact f3.1.1.1
  refine ⟨_, LD, _, MD, qs qd 0 (q 0 + 1), cnt, fun K x1 x2 x3 => ?_, ?_, fin, rfl, e6, ?_, ?_, ?_⟩
  · unfold F_X10_run_c54
    by_cases hx : x1 ≤ x3
    · rw [if_pos hx, if_pos hx]
    · rw [if_neg hx, if_neg hx, a1, Option.bind_some, b1, Option.bind_some]
      dsimp only
      rw [c1, d1, e1]
      unfold F_X10_run_j167
      rw [f1, Option.bind_some, xbn_e, iE, xbn_e, xbn_e]
  · unfold F_X11_close
    rw [s58_0, hS.2.1.1.1 0 (by decide), a2, b2, c2, d2, e2, f2]; rfl
  · have u1 : upn (JC 58) (q 1) = upn (J 58) (q 1) := upn_cg (q 1) (fun x hx => by rw [d7 _ (by omega) (by omega), c5.2 _ (by omega) (by omega), b5.2 _ (by omega) (by omega), a5.2 _ (by omega) (by omega)])
    have u2 : upn (xup JE 58 0 (JE 58 0 + 1) 58) (q 1) = upn (JD 58) (q 1) := upn_cg (q 1) (fun x hx => by rw [xup_at, if_neg (by omega), f6.2 _ (by omega) (by omega)])
    rw [u2, ← u1]; exact e7
  · refine ((((a4.trans b4).trans c4).trans d8).trans e8).trans (f5.trans ⟨fun k hk => xup_ne (by omega), fun _ _ => rfl⟩)
  · refine ((((a5.1.trans b5.1).trans c5.1).trans d9).trans e9).trans (f6.1.trans ⟨fun k j hk => by rw [xup_ne (by omega)], fun _ _ => rfl⟩)
/-- all days -/
theorem run_sim {I : xTI} {L : xTL} {J : xTI} {M : xTL} {q : Nat → Nat} {n d : Nat} (hB : BR I L (J 58) (M 59) q) (hV : IV (J 58) (M 59) q n) (hn : n < 512) (hd : d ≤ 28) (h7 : q 0 + d ≤ 700) : ∃ I2 L2 J2 M2 q2 cnt, xlp (F_X10_run_b54 xN (nI d)) xN (0, 0, I, L) = some (nI cnt, I2, L2) ∧ xlp (F_X11_run_b56 xN (nI d) (nI (upn (J 58) (q 1)))) xN (0, J, M) = some (nI cnt, J2, M2) ∧ BR I2 L2 (J2 58) (M2 59) q2 ∧ IV (J2 58) (M2 59) q2 (n + 1) ∧ RFc I I2 L L2 ∧ RFr J J2 M M2 := by
  have hD : ∃ D, ∀ i, i ≤ 28 → 9990 * (200000 * n + 5940 * i) + 2196831780 ≤ D ∧ D * 28 ≤ 10 ^ 14 := ⟨9990 * (200000 * n + 5940 * 28) + 2196831780, fun i hi => ⟨by omega, by omega⟩⟩
  obtain ⟨D, hD⟩ := hD
  have hS : RSim I L J M q (n + 1) (200000 * n + 5940 * 0) (10 ^ 14 * n + D * 0) := by
    refine ⟨hB, hV.mono, fun j hj => (hV.2.1.2.2.1 j hj).1, fun m hm => ?_⟩
    have := (hV.2.2.2.2.1.1 m hm).2.1
    omega
  have hq1 : q 1 ≤ 12 := hV.1.2.2.1
  refine xlp_sim (P := fun i x y => x.2.1 = nI i ∧ y.1 = nI i ∧ ∃ q2 cnt, x.1 = nI cnt ∧ RSim x.2.2.1 x.2.2.2 y.2.1 y.2.2 q2 (n + 1) (200000 * n + 5940 * i) (10 ^ 14 * n + D * i) ∧ q2 0 = q 0 + i ∧ q2 1 = q 1 ∧ upn (J 58) (q 1) = upn (y.2.1 58) (q 1) + cnt ∧ RFc I x.2.2.1 L x.2.2.2 ∧ RFr J y.2.1 M y.2.2) d (fun r1 r2 => ∃ (I2 : xTI) (L2 : xTL) (J2 : xTI) (M2 : xTL) (q2 : Nat → Nat) (cnt : Nat), r1 = some (nI cnt, I2, L2) ∧ r2 = some (nI cnt, J2, M2) ∧ BR I2 L2 (J2 58) (M2 59) q2 ∧ IV (J2 58) (M2 59) q2 (n + 1) ∧ RFc I I2 L L2 ∧ RFr J J2 M M2) ?_ ?_ xN xN (by have : xN = 100000 := rfl; omega) (by have : xN = 100000 := rfl; omega) (0, 0, I, L) (0, J, M) ⟨rfl, rfl, q, 0, rfl, hS, rfl, rfl, rfl, RFc.rfl' _ _, RFr.rfl' _ _⟩
  · rintro i hi ⟨x, x3, I', L'⟩ ⟨y, J', M'⟩ ⟨e1, e2, q2, cnt, e3, hR, g0, g1, gu, gf, gg⟩
    dsimp only at e1 e2 e3 hR gu gf gg
    subst e1 e2 e3
    have hDi := hD i (by omega)
    have hmul : D * i + D = D * (i + 1) := (Nat.mul_succ D i).symm
    have hmul2 : D * (i + 1) ≤ D * 28 := Nat.mul_le_mul_left D (by omega)
    obtain ⟨I2, L2, J2, M2, q3, c, k1, k2, k3, k4, k5, k6, k7, k8⟩ := day_sim hR (by omega) (by omega) (by omega) (by omega)
    refine ⟨(nI (cnt + c), nI (i + 1), I2, L2), (nI (i + 1), J2, M2), fun K => ?_, fun K => ?_, rfl, rfl, q3, cnt + c, rfl, k3.mono (by omega) (by omega), by omega, by omega, ?_, gf.trans k7, gg.trans k8⟩
    · show F_X10_run_c54 xN (nI d) (nI cnt) (nI i) I' L' K = _
      rw [k1, if_neg (nI_ge hi (by omega)), nI_add, nI_1]
    · show F_X11_run_c56 xN (nI d) (nI (upn (J 58) (q 1))) (nI i) J' M' K = _
      unfold F_X11_run_c56
      rw [if_neg (nI_ge hi (by omega)), k2, Option.bind_some]
      dsimp only
      rw [xbn_e, nI_1]
    · dsimp only
      rw [g1] at k6
      omega
  · rintro ⟨x, x3, I', L'⟩ ⟨y, J', M'⟩ ⟨e1, e2, q2, cnt, e3, hR, g0, g1, gu, gf, gg⟩
    dsimp only at e1 e2 e3 hR gu gf gg
    subst e1 e2 e3
    refine ⟨some (nI cnt, I', L'), some (nI cnt, J', M'), fun K => ?_, fun K => ?_, I', L', J', M', q2, cnt, rfl, rfl, hR.1, hR.2.1, gf, gg⟩
    · show F_X10_run_c54 xN (nI d) (nI cnt) (nI d) I' L' K = _
      unfold F_X10_run_c54
      rw [if_pos (Int32.le_refl _)]
    · show F_X11_run_c56 xN (nI d) (nI (upn (J 58) (q 1))) (nI d) J' M' K = _
      unfold F_X11_run_c56
      rw [if_pos (Int32.le_refl _), F11_mu (m := q 1) (by rw [← g1]; exact hR.2.1.1.1 1 (by decide)) hq1, Option.bind_some, nI_sub (by omega), show upn (J 58) (q 1) - upn (J' 58) (q 1) = cnt by omega]
end
