section
/-! run: settling. One delivery, and all of them -/
theorem OWs.fr {L L2 M M2 : xTL} {s : Nat → Int32} {q : Nat → Nat} {ex rf : Nat → Nat → Nat} {mk : Nat → Nat} {B : Nat} (h : OWs L M s q ex rf mk B) (e1 : L2 42 = L 42) (e2 : M2 70 = M 70) (e3 : M2 71 = M 71) : OWs L2 M2 s q ex rf mk B := by
  unfold OWs at *; rw [e1, e2, e3]; exact h
theorem BRw.fr {Ia I : xTI} {s s2 : Nat → Int32} {q : Nat → Nat} {n : Nat} (hW : BRw Ia s q) (hV : IVi s q n) (hne : ∀ k, k ≠ 9 → k ≠ 18 → k ≠ 19 → I k = Ia k) (hs : ∀ j, ¬ bgc j → s2 j = s j) : BRw I s2 q := by
  refine bw_of (I0 := ovh Ia s) hW hV (fun k h1 h2 h3 h4 => ?_) (fun j hj => ?_) hs
  · rw [hne k h2 h3 h4]; unfold ovh; rw [if_neg h2, if_neg h1]
  · rw [hne 1 (by decide) (by decide) (by decide)]
    show Ia 1 j = if j = 12 then s 9 else Ia 1 j
    rw [if_neg hj]
theorem j305_e {J : xTI} {M : xTL} {k f sh md h b mkf pc : Nat} {v : Int32} (hk : k < 5) (hf : f < 12) (hsh : sh ≤ 5940) (hmd : md ≤ 9999) (hpc : pc ≤ 1000) (hh : J 76 (5 * f + k) = nI h) (h31 : h < 2 ^ 31) (hm : J 58 (184 + k) = nI md) (hb : J 58 (16 + 4 * f + 3) = nI b) (hmk : M 71 f = lN mkf) (hT : ∀ (J' : xTI) (M' : xTL), J' 58 = J 58 → ∃ J2 M2, F_X11_ruled xN J' M' 3 (nI k) 0 = some (v, J2, M2) ∧ FrU J' J2 ∧ FrL M' M2) (hw : F_X11_within v 0 1000 = some (nI pc)) (x2 x3 x4 : Int32) (x8 : Int64) : ∃ J3 M3, (∀ K, F_X11_owed_j305 K xN J M x2 x3 x4 (nI k) (nI f) (nI sh) x8 (nI (5 * f + k)) (nI (sh - min h sh)) = F_X11_owed_j396 K xN J3 M3 x2 x3 x4 (nI k) x8) ∧ (∀ j, J3 58 j = if j = 16 + 4 * f + 3 then nI (b + (sh - min h sh)) else J 58 j) ∧ (∀ j, J3 76 j = if j = 5 * f + k then nI (h - min h sh) else J 76 j) ∧ (∀ k' j, k' ≠ 58 → k' ≠ 62 → k' ≠ 76 → ¬ (k' = 57 ∧ 7 ≤ j ∧ j ≤ 19) → J3 k' j = J k' j) ∧ M3 71 = xup M 71 f (lN (mkf + (sh - min h sh) * md * (100 + pc) / 100)) 71 ∧ (∀ k', k' ≠ 57 → k' ≠ 71 → M3 k' = M k') := by
  have ems : nI h - (nI sh - nI (sh - min h sh)) = nI (h - min h sh) := by
    rw [nI_sub (by omega), nI_sub (by omega)]; congr 1; omega
  by_cases e : sh ≤ h
  · have e0 : sh - min h sh = 0 := by omega
    refine ⟨xup J 76 (5 * f + k) (nI (h - min h sh)), M, fun K => ?_, fun j => ?_, fun j => xup_at, fun k' j h1 h2 h3 h4 => by rw [xup_ne h3], ?_, fun _ _ _ => rfl⟩
    · unfold F_X11_owed_j305
      rw [xal_n (by omega) (by decide), xas_n (by omega) (by decide), hh, ems, e0, if_pos (by decide)]
    · rw [xup_ne (by decide), e0]
      by_cases ej : j = 16 + 4 * f + 3
      · rw [if_pos ej, ej, hb]; rfl
      · rw [if_neg ej]
    · rw [e0, Nat.zero_mul, Nat.zero_mul, Nat.zero_div, Nat.add_zero, ← hmk, xup_same]
  · have hX := (amt_m (ms := sh - min h sh) (by omega) hmd hpc).1
    obtain ⟨J2, M2, t1, t2, t3⟩ := hT (xup J 76 (5 * f + k) (nI (h - min h sh))) M (xup_ne (by decide))
    have t58 : ∀ j, J2 58 j = J 58 j := fun j => by rw [t2 58 j (by decide) (by omega), xup_ne (by decide)]
    refine ⟨xup J2 58 (16 + 4 * f + 3) (nI (b + (sh - min h sh))), xup M2 71 f (lN (mkf + (sh - min h sh) * md * (100 + pc) / 100)), fun K => ?_, fun j => ?_, fun j => ?_, fun k' j h1 h2 h3 h4 => ?_, ?_, fun k' h1 h2 => ?_⟩
    · unfold F_X11_owed_j305
      rw [xal_n (by omega) (by decide), xas_n (by omega) (by decide), hh, ems, if_neg (show ¬ nI (sh - min h sh) ≤ (0 : Int32) from nI_ge (b := sh - min h sh) (a := 0) (by omega) (by omega)), xal_n hf (by decide), hmk, xal_i (i := 184 + k) (by rw [show (184 : Int32) = nI 184 from rfl, nI_add]) (by omega) (by decide), xup_ne (by decide), hm, t1, Option.bind_some]
      dsimp only
      rw [hw, Option.bind_some, hX, xas_n hf (by decide), lN_add]
      have ei : 16 + 4 * nI f + 3 = nI (16 + 4 * f + 3) := by rw [show (16 : Int32) = nI 16 from rfl, show (4 : Int32) = nI 4 from rfl, show (3 : Int32) = nI 3 from rfl, nI_mul, nI_add, nI_add]
      rw [ei, xal_n (by omega) (by decide), t58, hb, xas_n (by omega) (by decide), nI_add]
    · rw [xup_at, t58]
    · rw [xup_ne (by decide), t2 76 j (by decide) (by omega), xup_at]
    · rw [xup_ne h1, t2 k' j h2 h4, xup_ne h3]
    · funext j; rw [xup_at, xup_at, t3 71 (by decide)]
    · rw [xup_ne h2, t3 k' h1]
theorem dvS_mono {s : Nat → Int32} {i : Nat} : ∀ d, dvS s i ≤ dvS s (i + d)
  | 0 => Nat.le_refl _
  | d + 1 => Nat.le_trans (dvS_mono d) (by show dvS s (i + d) ≤ dvS s (i + d) + _; omega)
theorem dSt.late {Ia I I2 Ja J J2 : xTI} {La L L2 Ma M M2 : xTL} {q : Nat → Nat} {H B i : Nat} {ex rf rf2 : Nat → Nat → Nat} {mk mk2 : Nat → Nat} (h : dSt Ia I La L Ja J Ma M q H ex rf mk B i) (e1 : ∀ k, k ≠ 18 → k ≠ 19 → I2 k = I k) (e2 : ∀ k, k ≠ 42 → L2 k = L k) (e3 : FrU J J2) (e4 : ∀ k, k ≠ 57 → k ≠ 70 → M2 k = M k) (hO : OWs L2 M2 (Ja 58) q ex rf2 mk2 (B + 219978 * dvS (Ja 58) i)) : dSt Ia I2 La L2 Ja J2 Ma M2 q H ex rf2 mk2 B i := by
  obtain ⟨f1, f2, f3, f4, f5, f6, f7, f8, -⟩ := h
  have j58 : ∀ j, J2 58 j = J 58 j := fun j => e3 58 j (by decide) (by omega)
  have j76 : ∀ j, J2 76 j = J 76 j := fun j => e3 76 j (by decide) (by omega)
  refine ⟨fun k h1 h2 h3 => (e1 k h2 h3).trans (f1 k h1 h2 h3), fun k h1 h2 => (e2 k h1).trans (f2 k h1 h2), fun j hj => (j58 j).trans (f3 j hj), fun k j h1 h2 h3 h4 => (e3 k j h2 h4).trans (f4 k j h1 h2 h3 h4), fun k h1 h2 h3 => (e4 k h1 h2).trans (f5 k h1 h2 h3), fun j hj => ?_, fun m hm => ?_, fun m t hm ht => ?_, hO⟩
  · rw [j76, e1 9 (by decide) (by decide)]; exact f6 j hj
  · rw [j58, e2 28 (by decide)]; exact f7 m hm
  · rw [e2 28 (by decide)]; exact f8 m t hm ht
theorem dlv_step {Ia I Ja J : xTI} {La L Ma M : xTL} {q : Nat → Nat} {n H B i : Nat} {ex rf : Nat → Nat → Nat} {mk : Nat → Nat} (hW : BRw Ia (Ja 58) q) (hV : IVi (Ja 58) q n) (h12 : q 0 % 14 = 12) (hH : H ≤ 2 ^ 30) (hi : i < q 7) (hS : dSt Ia I La L Ja J Ma M q H ex rf mk B i) (x2 : Int32) : ∃ I2 L2 J2 M2 rf2 mk2, (∀ K, F_X6_oweDeliveries_c19 xN (nI (q 7)) (nI i) I L K = K (nI (i + 1), I2, L2)) ∧ (∀ K, F_X11_owed_c183 xN x2 (nI i) J M K = K (nI (i + 1), J2, M2)) ∧ dSt Ia I2 La L2 Ja J2 Ma M2 q H ex rf2 mk2 B (i + 1) := by
  obtain ⟨f1, f2, f3, f4, f5, f6, f7, f8, hO⟩ := hS
  have hq1 : q 1 ≤ 12 := hV.1.2.2.1
  have hq2 : q 2 ≤ 5 := hV.1.2.2.2.1
  have hq7 : q 7 ≤ 120 := hV.1.2.2.2.2.2.2.2.2.1
  have hd : IVd (Ja 58) q := hV.2.2.2.2.1
  obtain ⟨k, f, t, sh, a0, a1, a2, a3, a4, a5, a6, a7, a8, a9, aL, aU⟩ := hd.1 i hi
  obtain ⟨uf, ut⟩ := aU h12
  have hk5 : k < 5 := by omega
  have hf12 : f < 12 := by omega
  have ht12 : t < 12 := by omega
  have hdv : dvS (Ja 58) (i + 1) = dvS (Ja 58) i + sh := by rw [dvS, a3, nI_clamp (by omega)]
  have hdm : dvS (Ja 58) (i + 1) ≤ 5940 := by
    have := dvS_mono (s := Ja 58) (i := i + 1) (q 7 - (i + 1))
    rw [show i + 1 + (q 7 - (i + 1)) = q 7 by omega] at this
    exact Nat.le_trans this hd.2.1
  have c27 : ∀ t', t' < 6 → I 27 (6 * i + t') = Ja 58 (4670 + 6 * i + t') := fun t' ht' => by
    rw [f1 27 (by decide) (by decide) (by decide)]
    exact (show BRo Ia (Ja 58) q from hW.2.2.2.1).2.2.2 i hi t' ht'
  obtain ⟨md, hmd, em⟩ := hV.2.1.2.2.2.2 k hk5
  have i2 : I 2 k = nI md := by
    rw [f1 2 (by decide) (by decide) (by decide)]
    exact (show Ia 2 k = Ja 58 (184 + k) from hW.2.1.2.2 k hk5).trans em
  have hXb : sh * md ≤ sh * 9999 := Nat.mul_le_mul_left _ hmd
  obtain ⟨L7, M9, rf2, o1, o2, o3, o4, o5⟩ := owe_step (X := sh * md) (x := lN (sh * md)) hO hq1 ⟨a6, ut⟩ ⟨a5, uf⟩ (Or.inl rfl) (by omega)
  obtain ⟨h, hh1, hh0, hh2, hh3⟩ := f6 (5 * f + k) (by omega)
  rw [rcv_0 hd hq1 hq2 hi a0 a1 hk5 hf12 i (by omega), Nat.add_zero] at hh3
  obtain ⟨g, gg1, gg0, gg2, gg3⟩ := f6 (5 * t + k) (by omega)
  have hmv := mv_e (I := I) hk5 hf12 ht12 a7 hh3 gg3 (by omega) a9
  have hI9 : ∀ k', k' ≠ 9 → xup (xup I 9 (5 * f + k) (nI (h - min h sh))) 9 (5 * t + k) (nI (g + rcv (Ja 58) i (5 * t + k) + sh)) k' = I k' := fun k' hk' => by rw [xup_ne hk', xup_ne hk']
  have hI99 : ∀ j, xup (xup I 9 (5 * f + k) (nI (h - min h sh))) 9 (5 * t + k) (nI (g + rcv (Ja 58) i (5 * t + k) + sh)) 9 j = if j = 5 * t + k then nI (g + rcv (Ja 58) i (5 * t + k) + sh) else if j = 5 * f + k then nI (h - min h sh) else I 9 j := fun j => by rw [xup_at, xup_at]
  generalize xup (xup I 9 (5 * f + k) (nI (h - min h sh))) 9 (5 * t + k) (nI (g + rcv (Ja 58) i (5 * t + k) + sh)) = I9 at hmv hI9 hI99
  have hW9 : BRw I9 (J 58) q := hW.fr hV (fun k' h1 h2 h3 => by rw [hI9 k' h1, f1 k' h1 h2 h3]) f3
  have hV9 : IVi (J 58) q n := iv_of hV f3 (fun m hm => by obtain ⟨b, b1, b2, -, b3⟩ := f7 m hm; exact ⟨b, by omega, b2, b3⟩)
  obtain ⟨v3, I11, u1, u2, u3⟩ := tells_w (key := 3) hW9 hV9 (by decide) hk5
  obtain ⟨pc, p1, p2, p3⟩ := pct v3
  obtain ⟨b, b1, b2, b3, b4⟩ := f7 f hf12
  have hmkf : M9 71 f = lN (mk f) := (o3.1 f hf12).2.2
  have hm' : J 58 (184 + k) = nI md := (f3 _ (by omega)).trans em
  obtain ⟨J3, M3, j1, j2, j3, j4, j5, j6⟩ := j305_e (J := J) (M := M9) hk5 hf12 a9 hmd p1 hh2 (by omega) hm' b2 hmkf (fun J' M' e => u3 J' M' e) p3 x2 (nI i) (nI (4670 + 6 * i)) (lN (sh * md))
  have hX := amt_m (ms := sh - min h sh) (md := md) (pc := pc) (by omega) hmd p1
  obtain ⟨k1, k2⟩ := owe_mk (X := (sh - min h sh) * md * (100 + pc) / 100) o3 hq1 ⟨a5, uf⟩
  have hX1 := hX.1
  have hX2 := hX.2
  generalize (sh - min h sh) * md * (100 + pc) / 100 = X at hX1 hX2 k1 k2 j5
  have L28 : ∀ m t', xup L7 42 (13 * f + 12) (lN (mk f + X)) 28 (5 * m + t') = L 28 (5 * m + t') := fun m t' => by rw [xup_ne (by decide), o4 28 (by decide)]
  have hO16 : OWs (xup (xup L7 42 (13 * f + 12) (lN (mk f + X))) 28 (5 * f + 4) (lN (b + (sh - min h sh)))) M3 (Ja 58) q ex rf2 (upN mk f (mk f + X)) (B + 219978 * dvS (Ja 58) i + sh * md + X) := k2.fr (xup_ne (by decide)) (by rw [j6 70 (by decide) (by decide), xup_ne (by decide)]) j5
  have hbs : dSt Ia I11 La (xup (xup L7 42 (13 * f + 12) (lN (mk f + X))) 28 (5 * f + 4) (lN (b + (sh - min h sh)))) Ja J3 Ma M3 q H ex rf2 (upN mk f (mk f + X)) B (i + 1) := by
    refine ⟨fun k' h1 h2 h3 => ?_, fun k' h1 h2 => ?_, fun j hj => ?_, fun k' j h1 h2 h3 h4 => ?_, fun k' h1 h2 h3 => ?_, fun j hj => ?_, fun m hm => ?_, fun m t' hm ht => ?_, hO16.le ?_⟩
    · rw [u2 k' h2 h3, hI9 k' h1, f1 k' h1 h2 h3]
    · rw [xup_ne h2, xup_ne h1, o4 k' h1, f2 k' h1 h2]
    · rw [j2, if_neg (fun z => hj (by omega)), f3 j hj]
    · rw [j4 k' j h1 h2 h3 h4, f4 k' j h1 h2 h3 h4]
    · rw [j6 k' h1 h3, o5 k' h2, f5 k' h1 h2 h3]
    · rw [j3, u2 9 (by decide) (by decide), hI99]
      by_cases e1 : j = 5 * f + k
      · rw [if_pos e1, if_neg (by omega), if_pos e1]
        refine ⟨h - min h sh, by omega, fun z => by have := hh0 (by rw [← e1]; exact z); omega, rfl, ?_⟩
        rw [e1, rcv_0 hd hq1 hq2 hi a0 a1 hk5 hf12 (i + 1) (by omega), Nat.add_zero]
      · rw [if_neg e1]
        by_cases e2 : j = 5 * t + k
        · rw [if_pos e2]
          refine ⟨g, gg1, fun z => gg0 (by rw [← e2]; exact z), by rw [e2]; exact gg2, ?_⟩
          rw [rcv, if_pos (by rw [a0, a2, nI_mul, nI_add, e2]), a3, nI_clamp (by omega), e2, Nat.add_assoc]
        · rw [if_neg e2, if_neg e1]
          obtain ⟨w, w1, w0, w2, w3⟩ := f6 j hj
          refine ⟨w, w1, w0, w2, ?_⟩
          rw [rcv, if_neg (fun z => e2 (by rw [a0, a2, nI_mul, nI_add] at z; exact (nI_eq (by omega) (by omega)).mp z)), Nat.add_zero]; exact w3
    · rw [j2]
      by_cases e : m = f
      · subst e
        rw [if_pos rfl, xup_at, if_pos rfl]
        exact ⟨b + (sh - min h sh), by omega, rfl, rfl, fun z => by omega⟩
      · obtain ⟨b', c1, c2, c3, c4⟩ := f7 m hm
        rw [if_neg (by omega), xup_at, if_neg (by omega), L28]
        exact ⟨b', by omega, c2, c3, c4⟩
    · rw [xup_at, if_neg (by omega), L28]; exact f8 m t' hm ht
    · omega
  have hcl : ∀ K, F_X6_oweDeliveries_c19 xN (nI (q 7)) (nI i) I L K = (if Ja 58 (4670 + 6 * i + 5) = -1 then K (nI (i + 1), I11, xup (xup L7 42 (13 * f + 12) (lN (mk f + X))) 28 (5 * f + 4) (lN (b + (sh - min h sh)))) else Option.bind (F_X5_tells xN I11 2 (nI k) (-1)) (fun (v19, I20) => Option.bind (F_X6_percent v19) (fun v21 => Option.bind (F_X6_owe (xup (xup L7 42 (13 * f + 12) (lN (mk f + X))) 28 (5 * f + 4) (lN (b + (sh - min h sh)))) (Ja 58 (4670 + 6 * i + 5)) (nI t) ((lN (sh * md) * (v21.toInt64)) / 100)) (fun L22 => K (nI (i + 1), I20, L22))))) := fun K => by
    have A := at26_l (I := I) (b := i) (by omega)
    have A5 := (at26_l (I := I11) (b := i) (by omega)).2.2.2.2
    unfold F_X6_oweDeliveries_c19
    rw [if_neg (nI_ge hi (by omega)), A.1, A.2.1, A.2.2.1, A.2.2.2.1, c27 0 (by decide), c27 1 (by decide), c27 2 (by decide), c27 3 (by decide), a1, a2, a3, show Ja 58 (4670 + 6 * i + 0) = nI k from a0]
    simp only [Option.bind_some]
    rw [xal_n hk5 (by decide), i2, xbn_e, nI_l (by omega), nI_l (by omega), lN_mul, o1, Option.bind_some, hmv, Option.bind_some]
    dsimp only
    rw [show F_X5_tells xN I9 3 (nI k) (-1) = _ from u1, Option.bind_some]
    dsimp only
    rw [p2, Option.bind_some, xal_n hk5 (by decide), u2 2 (by decide) (by decide), hI9 2 (by decide), i2, hX1, k1, Option.bind_some]
    have e5 : nI f * 5 + 4 = nI (5 * f + 4) := by rw [show (5 : Int32) = nI 5 from rfl, show (4 : Int32) = nI 4 from rfl, nI_mul, nI_add, Nat.mul_comm]
    rw [e5, xal_n (by omega) (by decide), L28, b3, xas_n (by omega) (by decide), nI_l (by omega), lN_add, A5, u2 27 (by decide) (by decide), hI9 27 (by decide), c27 5 (by decide)]
    simp only [Option.bind_some, xbn_e, nI_1]
  have hrf : ∀ K, F_X11_owed_c183 xN x2 (nI i) J M K = F_X11_owed_j396 K xN J3 M3 x2 (nI i) (nI (4670 + 6 * i)) (nI k) (lN (sh * md)) := fun K => by
    rw [← j1 K]
    have z7 : ∀ (R : Type) (K : Int32 → Option R), xal J 58 40670 7 K = K (J 58 7) := fun R K => xal_n (i := 7) (by decide) (by decide)
    have z4 : 4670 + 6 * nI i = nI (4670 + 6 * i) := by rw [show (4670 : Int32) = nI 4670 from rfl, show (6 : Int32) = nI 6 from rfl, nI_mul, nI_add]
    unfold F_X11_owed_c183
    rw [z7, f3 7 (by omega), hV.1.1 7 (by decide), if_neg (nI_ge hi (by omega)), xbn_e, z4, xal_n (by omega) (by decide), f3 _ (by omega), a0, xal_i (i := 4670 + 6 * i + 1) (by rw [show (1 : Int32) = nI 1 from rfl, nI_add]) (by omega) (by decide), f3 _ (by omega), a1, xal_i (i := 4670 + 6 * i + 3) (by rw [show (3 : Int32) = nI 3 from rfl, nI_add]) (by omega) (by decide), f3 _ (by omega), a3, xal_i (i := 184 + k) (by rw [show (184 : Int32) = nI 184 from rfl, nI_add]) (by omega) (by decide), hm', xbn_e, nI_l (by omega), nI_l (by omega), lN_mul, xal_i (i := 4670 + 6 * i + 2) (by rw [show (2 : Int32) = nI 2 from rfl, nI_add]) (by omega) (by decide), f3 _ (by omega), a2, o2, Option.bind_some, xbn_e, show 5 * nI f + nI k = nI (5 * f + k) by rw [show (5 : Int32) = nI 5 from rfl, nI_mul, nI_add], xal_n (by omega) (by decide), hh2]
    by_cases e : sh ≤ h
    · rw [if_pos (nI_le e (by omega)), show sh - min h sh = 0 by omega]; rfl
    · rw [if_neg (nI_ge (by omega) (by omega)), xal_n (by omega) (by decide), hh2, nI_sub (by omega), show sh - h = sh - min h sh by omega]
  have z5 : (nI (4670 + 6 * i) : Int32) + 5 = nI (4670 + 6 * i + 5) := by rw [show (5 : Int32) = nI 5 from rfl, nI_add]
  have z2 : (nI (4670 + 6 * i) : Int32) + 2 = nI (4670 + 6 * i + 2) := by rw [show (2 : Int32) = nI 2 from rfl, nI_add]
  have y5 : J3 58 (4670 + 6 * i + 5) = Ja 58 (4670 + 6 * i + 5) := by rw [j2, if_neg (by omega), f3 _ (by omega)]
  rcases aL with aL | ⟨m, lm1, lm2, lm3⟩
  · refine ⟨_, _, J3, M3, _, _, fun K => ?_, fun K => ?_, hbs⟩
    · rw [hcl, if_pos aL]
    · rw [hrf]
      unfold F_X11_owed_j396
      rw [z5, xal_n (by omega) (by decide), y5, aL, if_pos rfl, xbn_e, nI_1]
  · have hn : ¬ Ja 58 (4670 + 6 * i + 5) = -1 := by
      rw [lm2]; intro z
      have := congrArg Int32.toInt z
      rw [nI_toInt (by omega)] at this
      have : ((-1 : Int32)).toInt = -1 := by decide
      omega
    have hW11 : BRw I11 (J3 58) q := hW.fr hV hbs.1 hbs.2.2.1
    have hV11 : IVi (J3 58) q n := iv_of hV hbs.2.2.1 (fun m hm => by obtain ⟨b, b1, b2, -, b3⟩ := hbs.2.2.2.2.2.2.1 m hm; exact ⟨b, by omega, b2, b3⟩)
    obtain ⟨v2, I20, w1, w2, w3⟩ := tells_w (key := 2) hW11 hV11 (by decide) hk5
    obtain ⟨pc2, r1, r2, r3⟩ := pct v2
    obtain ⟨J4, M4, t1, t2, t3⟩ := w3 J3 M3 rfl
    have hY := amt_l (sh := sh) (md := md) (pc := pc2) a9 hmd r1
    have hO17 : OWs (xup (xup L7 42 (13 * f + 12) (lN (mk f + X))) 28 (5 * f + 4) (lN (b + (sh - min h sh)))) M4 (Ja 58) q ex rf2 (upN mk f (mk f + X)) (B + 219978 * dvS (Ja 58) i + sh * md + X) := hO16.fr rfl (t3 70 (by decide)) (t3 71 (by decide))
    obtain ⟨L22, M22, rf3, g1, g2, g3, g4, g5⟩ := owe_step (X := sh * md * pc2 / 100) (x := lN (sh * md * pc2 / 100)) hO17 hq1 ⟨lm1, lm3 h12⟩ ⟨a6, ut⟩ (Or.inl rfl) (by omega)
    refine ⟨I20, L22, J4, M22, rf3, _, fun K => ?_, fun K => ?_, hbs.late w2 g4 t2 (fun k' h1 h2 => (g5 k' h2).trans (t3 k' h1)) (g3.le (by omega))⟩
    · rw [hcl, if_neg hn, show F_X5_tells xN I11 2 (nI k) (-1) = _ from w1, Option.bind_some]
      dsimp only
      rw [r2, Option.bind_some, hY.1, lm2, g1, Option.bind_some]
    · rw [hrf]
      unfold F_X11_owed_j396
      rw [z5, xal_n (by omega) (by decide), y5, if_neg hn, xal_n (by omega) (by decide), y5, z2, xal_n (by omega) (by decide), j2, if_neg (by omega), f3 _ (by omega), a2, show F_X11_ruled xN J3 M3 2 (nI k) 0 = _ from t1, Option.bind_some]
      dsimp only
      rw [r3, Option.bind_some, hY.1, lm2, g2, Option.bind_some, xbn_e, nI_1]
/-- all deliveries -/
theorem dlv_sim {Ia Ja : xTI} {La Ma : xTL} {q : Nat → Nat} {n H B : Nat} {ex rf : Nat → Nat → Nat} {mk : Nat → Nat} (hW : BRw Ia (Ja 58) q) (hV : IVi (Ja 58) q n) (h12 : q 0 % 14 = 12) (hH : H ≤ 2 ^ 30) (hS : dSt Ia Ia La La Ja Ja Ma Ma q H ex rf mk B 0) (x2 : Int32) : ∃ I2 L2 J2 M2 rf2 mk2, F_X6_oweDeliveries xN Ia La = some (I2, L2) ∧ xlp (F_X11_owed_b183 xN x2) xN (0, Ja, Ma) = xlp (F_X11_owed_b462 xN J2 x2) xN (0, M2) ∧ dSt Ia I2 La L2 Ja J2 Ma M2 q H ex rf2 mk2 B (q 7) := by
  have hq7 : q 7 ≤ 120 := hV.1.2.2.2.2.2.2.2.2.1
  unfold F_X6_oweDeliveries
  rw [show Ia 26 3 = nI (q 7) from hW.1.2.2.2.2.2.2.2.1, xbn_e, if_neg (show ¬ (200 : Int32) < nI (q 7) from nI_nlt (a := 200) (by omega) (by decide)), xbn_e]
  refine xlp_sim (P := fun i x y => x.1 = nI i ∧ y.1 = nI i ∧ ∃ rf2 mk2, dSt Ia x.2.1 La x.2.2 Ja y.2.1 Ma y.2.2 q H ex rf2 mk2 B i) (q 7) (fun r1 r2 => ∃ (I2 : xTI) (L2 : xTL) (J2 : xTI) (M2 : xTL) (rf2 : Nat → Nat → Nat) (mk2 : Nat → Nat), r1 = some (I2, L2) ∧ r2 = xlp (F_X11_owed_b462 xN J2 x2) xN (0, M2) ∧ dSt Ia I2 La L2 Ja J2 Ma M2 q H ex rf2 mk2 B (q 7)) ?_ ?_ xN xN (by have : xN = 100000 := rfl; omega) (by have : xN = 100000 := rfl; omega) (0, Ia, La) (0, Ja, Ma) ⟨rfl, rfl, rf, mk, hS⟩
  · rintro i hi ⟨x, I, L⟩ ⟨y, J, M⟩ ⟨e1, e2, rf', mk', hD⟩
    dsimp only at e1 e2 hD
    subst e1 e2
    obtain ⟨I2, L2, J2, M2, rf2, mk2, g1, g2, g3⟩ := dlv_step hW hV h12 hH hi hD x2
    exact ⟨(nI (i + 1), I2, L2), (nI (i + 1), J2, M2), g1, g2, rfl, rfl, rf2, mk2, g3⟩
  · rintro ⟨x, I, L⟩ ⟨y, J, M⟩ ⟨e1, e2, rf', mk', hD⟩
    dsimp only at e1 e2 hD
    subst e1 e2
    refine ⟨some (I, L), _, fun K => ?_, fun K => ?_, I, L, J, M, rf', mk', rfl, rfl, hD⟩
    · show F_X6_oweDeliveries_c19 xN (nI (q 7)) (nI (q 7)) I L K = _
      unfold F_X6_oweDeliveries_c19
      rw [if_pos (Int32.le_refl _)]
    · show F_X11_owed_c183 xN x2 (nI (q 7)) J M K = _
      unfold F_X11_owed_c183
      rw [show xal J 58 40670 (7 : Int32) _ = _ from xal_n (i := 7) (by decide) (by decide), hD.2.2.1 7 (by omega), hV.1.1 7 (by decide), if_pos (Int32.le_refl _)]
end
