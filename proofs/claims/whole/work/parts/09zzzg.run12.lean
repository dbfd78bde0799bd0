section
/-! run: names. A ticket is taken -/
theorem on_sim {I0 J0 I J : xTI} {q : Nat → Nat} {k : Nat} {ac nm hour : Int32} {i T p d : Nat} {lf g : Nat → Nat} {wd D S P wi : Nat} (hM : nMid I0 J0 I J q k ac nm (nI wi) i T p d lf g wd D S P) (hm : BRm I0 (J0 58) q) (hB : BRb I0 (J0 58)) (hV : IVb (J0 58) q) (hwd : wd ≤ 5940) (hP : P < 2 ^ 30) (hnm : ∃ a, a < q 1 ∧ nm = nI a ∧ isUpP (J0 58) a ∧ 0 < NT (J0 58) a (nI k) ac) (hq : q 1 ≤ 12) (hwi : wi < q 1) (hup : isUpP (J0 58) wi) (h35 : I 35 (i % 128) = nI wi) (h36 : I 36 (i % 128) = nI wd) (h37 : I 37 (i % 128) = J 66 i) (h38 : I 38 (i % 128) = J 67 i) (hlt : J 67 i = -1 ∨ manU (J0 58) q (J 67 i)) (L : xTL) : ∃ I2 J2 T2 p2 lf2 wd2, nMid I0 J0 I2 J2 q k ac nm (nI wi) i T2 p2 d lf2 g wd2 D S P ∧ F_X4_passOn xN I (nI k) hour (nI (i % 128)) = some I2 ∧ ∀ K, F_X11_names_j252 K xN J L (nI k) hour (nI i) (nI wi) (nI wd) = K (nI (i + 1), J2) := by
  have hT8 : i < 8000 := by have := hM.2.2.2.2.2.2.2.2.2.1; have := hM.2.2.2.2.2.2.1.1; omega
  have hs : i % 128 < 128 := by omega
  have l : ∀ (c : Nat) (F : Int32 → Option xTI), xal I c 128 (nI (i % 128)) F = F (I c (i % 128)) := fun c F => xal_n hs (by decide)
  have r : ∀ (c : Nat) (F : Int32 → Option (xTI × xTL)), xal J c 8000 (nI i) F = F (J c i) := fun c F => xal_n hT8 (by decide)
  have pc : I 7 wi = J 58 (16 + 4 * wi + 1) := by
    rw [hM.1.1 7 (by decide) (by decide) (by decide) (by decide) (by decide) (by decide) (by decide), hM.1.2.1 _ (by omega) (by omega) (by omega)]
    exact (hm.1 wi hwi).1
  have pr : ∀ (F : Int32 → Option (xTI × xTL)), xal J 58 40670 (16 + 4 * nI wi + 1) F = F (J 58 (16 + 4 * wi + 1)) := fun F => xal_i (by rw [show (16 : Int32) = nI 16 from rfl, show (4 : Int32) = nI 4 from rfl, show (1 : Int32) = nI 1 from rfl, ixc]) (by omega) (by decide)
  have pl : ∀ (F : Int32 → Option xTI), xal I 7 12 (nI wi) F = F (J 58 (16 + 4 * wi + 1)) := fun F => by rw [xal_n (by omega) (by decide), pc]
  have go : ∀ x8, (x8 = -1 ∨ manU (J0 58) q x8) → ∀ v : Int32, (F_X4_passOn xN I (nI k) hour (nI (i % 128)) = F_X4_passOn_j81 xN I (nI k) (nI (i % 128)) (nI wi) v x8) → (∀ K, F_X11_names_j252 K xN J L (nI k) hour (nI i) (nI wi) (nI wd) = xlp (F_X11_names_b321 K xN L (nI k) hour (nI i) (nI wi) v x8) xN (nI wd, 0, J)) → ∃ I2 J2 T2 p2 lf2 wd2, nMid I0 J0 I2 J2 q k ac nm (nI wi) i T2 p2 d lf2 g wd2 D S P ∧ F_X4_passOn xN I (nI k) hour (nI (i % 128)) = some I2 ∧ ∀ K, F_X11_names_j252 K xN J L (nI k) hour (nI i) (nI wi) (nI wd) = K (nI (i + 1), J2) := by
    intro x8 hx8 v e1 e2
    obtain ⟨I2, J2, T2, p2, lf2, wd2, a1, a2, a3⟩ := passOn_sim (x6 := v) (x8 := x8) (h := hour) hM hB hV hwd hP hnm hx8 L
    refine ⟨I2, J2, T2, p2, lf2, wd2, a1, ?_, fun K => by rw [e2 K]; exact a3 K⟩
    rw [e1]
    unfold F_X4_passOn_j81
    rw [l, h36]; exact a2
  have hmU : manU (J0 58) q (nI wi) := ⟨wi, hwi, rfl, hup⟩
  by_cases c1 : hour < J 66 i
  · refine go (J 67 i) hlt (J 66 i + J 58 (16 + 4 * wi + 1)) ?_ (fun K => ?_)
    · unfold F_X4_passOn F_X4_passOn_j51 F_X4_passOn_j74
      simp only [l, h35, pl, xbn_e, h37, h38]
      rw [if_pos c1, if_pos trivial]
    · unfold F_X11_names_j252 F_X11_names_j309
      simp only [r, pr, xbn_e]
      by_cases c0 : J 67 i = -1
      · rw [if_pos c0, if_pos c1]
      · rw [if_neg c0]
  · by_cases c2 : J 66 i + J 58 (16 + 4 * wi + 1) ≤ hour
    · refine go (J 67 i) hlt (J 66 i + J 58 (16 + 4 * wi + 1)) ?_ (fun K => ?_)
      · unfold F_X4_passOn F_X4_passOn_j51 F_X4_passOn_j74
        simp only [l, h35, pl, xbn_e, h37, h38]
        rw [if_neg c1, if_pos c2, if_pos trivial]
      · unfold F_X11_names_j252 F_X11_names_j309
        simp only [r, pr, xbn_e]
        by_cases c0 : J 67 i = -1
        · rw [if_pos c0, if_neg c1, if_pos c2]
        · rw [if_neg c0]
    · by_cases c0 : J 67 i = -1
      · refine go (nI wi) (Or.inr hmU) (J 66 i + J 58 (16 + 4 * wi + 1)) ?_ (fun K => ?_)
        · unfold F_X4_passOn F_X4_passOn_j51 F_X4_passOn_j74
          simp only [l, h35, pl, xbn_e, h37, h38]
          rw [if_neg c1, if_neg c2, if_neg (by decide), if_pos c0]
        · unfold F_X11_names_j252 F_X11_names_j309
          simp only [r, pr, xbn_e]
          rw [if_pos c0, if_neg c1, if_neg c2]
      · refine go (J 67 i) hlt (J 66 i + J 58 (16 + 4 * wi + 1)) ?_ (fun K => ?_)
        · unfold F_X4_passOn F_X4_passOn_j51 F_X4_passOn_j74
          simp only [l, h35, pl, xbn_e, h37, h38]
          rw [if_neg c1, if_neg c2, if_neg (by decide), if_neg c0]
        · unfold F_X11_names_j252 F_X11_names_j309
          simp only [r, pr, xbn_e]
          rw [if_neg c0]
/-- what holds before a ticket is taken -/
def nSt (I0 J0 I J : xTI) (q : Nat → Nat) (k : Nat) (ac : Int32) (i T p d : Nat) (lf g : Nat → Nat) (D S P : Nat) : Prop := nFr I0 I J0 J ∧ nTab I J p d ∧ nDel (J 58) (J0 58) q ac d ∧ nQ I J (J0 58) q k ac i T ∧ nLf I J (J0 58) k ac lf ∧ nGv I J (J0 58) q k ac g ∧ (i ≤ T ∧ I 33 5 = nI (i % 128) ∧ I 33 6 = nI (T - i) ∧ J 57 25 = nI T) ∧ nCt (J 58) (T - i) T p d lf g D S P
theorem nMid.st {I0 J0 I J : xTI} {q : Nat → Nat} {k : Nat} {ac nm has : Int32} {i T p d : Nat} {lf g : Nat → Nat} {wd D S P : Nat} (h : nMid I0 J0 I J q k ac nm has i T p d lf g wd D S P) : nSt I0 J0 I J q k ac (i + 1) T p d lf g D S P := by
  obtain ⟨a1, a2, a3, a4, a5, a6, ⟨b1, b2, b3, b4⟩, -, c1, c2, c3, c4, c5⟩ := h
  exact ⟨a1, a2, a3, a4, a5, a6, ⟨b1, b2, b3, b4⟩, by omega, c2, by omega, c4, c5⟩
theorem neg_n {a : Nat} (ha : a ≤ 5940) : (-nI a).toInt = -(a : Int) := by
  rw [Int32.toInt_neg, nI_toInt (by omega), Int.bmod_eq_of_le (by omega) (by omega)]
theorem neg_add {a b : Nat} (h : b ≤ a) (ha : a ≤ 5940) : -nI a + nI b = -nI (a - b) := by
  apply Int32.toInt_inj.mp
  rw [Int32.toInt_add, neg_n ha, neg_n (by omega), nI_toInt (by omega), Int.bmod_eq_of_le (by omega) (by omega)]
  omega
theorem neg_neg_n {a : Nat} (ha : a ≤ 5940) : -(-nI a) = nI a := by
  apply Int32.toInt_inj.mp
  rw [Int32.toInt_neg, neg_n ha, nI_toInt (by omega), Int.bmod_eq_of_le (by omega) (by omega)]
  omega
/-- what the class asks: how much he has still to deliver -/
theorem give_e {x : Int32} {v : Nat} (hv : v ≤ 5940) (h : (0 < v ∧ x = -nI v) ∨ (v = 0 ∧ isN x 5940)) : (if -x < 0 then 0 else -x) = nI v := by
  rcases h with ⟨h1, h2⟩ | ⟨h1, j, h2, h3⟩
  · rw [h2, neg_neg_n hv, if_neg (nI_pos (by omega))]
  · rw [h1, h3]
    by_cases e : j = 0
    · rw [e]; decide
    · rw [if_pos]; rfl
      rw [Int32.lt_iff_toInt_lt, Int32.toInt_neg, nI_toInt (by omega), Int.bmod_eq_of_le (by omega) (by omega)]
      have : (0 : Int32).toInt = 0 := by decide
      omega
theorem take_sim {I0 J0 I J : xTI} {q : Nat → Nat} {k : Nat} {ac hour : Int32} {i T p d : Nat} {lf g : Nat → Nat} {D S P : Nat} (h : nSt I0 J0 I J q k ac i T p d lf g D S P) (hi : i < T) (hm : BRm I0 (J0 58) q) (hB : BRb I0 (J0 58)) (hV : IVb (J0 58) q) (hP : P < 2 ^ 30) (hD : D ≤ 120) (hq : q 1 ≤ 12) (hk : k < q 2) (hk2 : q 2 ≤ 5) (L : xTL) : ∃ I2 J2 T2 p2 d2 lf2 g2, nSt I0 J0 I2 J2 q k ac (i + 1) T2 p2 d2 lf2 g2 D S P ∧ F_X4_takeFirst xN I (nI k) hour = some I2 ∧ ∀ K, F_X11_names_b149 xN L (nI k) hour (nI i, J) K = K (nI (i + 1), J2) := by
  obtain ⟨hF, hT, hDl, hQ, hL, hG, ⟨hiT, h335, h336, h57⟩, c1, c2, c3, c4, c5⟩ := h
  obtain ⟨t34, t35, t36, t37, t38, hnm, ⟨wi, hwi, hwe, hup⟩, ⟨sh, sh1, sh2, hsh⟩, hlt⟩ := hQ i (Nat.le_refl _) hi
  have hT8 : i < 8000 := by omega
  have hs : i % 128 < 128 := by omega
  have hwi12 : wi < 12 := by omega
  obtain ⟨g1, g2, g3⟩ := hG wi hwi
  have hge : (if -(I 39 wi) < 0 then 0 else -(I 39 wi)) = nI (g wi) := give_e g2 (by
    rcases g3 with z | z
    · exact Or.inl ⟨z.1, z.2.1⟩
    · exact Or.inr z)
  have h1 : (nI (i % 128) + 1) &&& 127 = nI ((i + 1) % 128) := by rw [nI_1, and127 (by omega)]; congr 1; omega
  have h2 : nI (T - i) - 1 = nI (T - (i + 1)) := by rw [show (1 : Int32) = nI 1 from rfl, nI_sub (by omega)]; congr 1
  have hps : ps1 sh = 1 := by unfold ps1; rw [if_pos (by omega)]
  -- the class's memory when the ticket is out of the row
  have hI5 : ∀ k', k' ≠ 33 → xup (xup I 33 5 (nI ((i + 1) % 128))) 33 6 (nI (T - (i + 1))) k' = I k' := fun k' e => by rw [xup_ne e, xup_ne e]
  have hI55 : xup (xup I 33 5 (nI ((i + 1) % 128))) 33 6 (nI (T - (i + 1))) 33 5 = nI ((i + 1) % 128) := by rw [xup_at, if_neg (by decide), xup_at, if_pos rfl]
  have hI56 : xup (xup I 33 5 (nI ((i + 1) % 128))) 33 6 (nI (T - (i + 1))) 33 6 = nI (T - (i + 1)) := by rw [xup_at, if_pos rfl]
  have u : F_X4_takeFirst xN I (nI k) hour = (if nI wi = J 63 i then Option.bind (F_X4_passOn xN (xup (xup I 33 5 (nI ((i + 1) % 128))) 33 6 (nI (T - (i + 1)))) (nI k) hour (nI (i % 128))) (fun I1 => some I1) else (if nI (min (g wi) sh) ≤ 0 then Option.bind (F_X4_passOn xN (xup (xup I 33 5 (nI ((i + 1) % 128))) 33 6 (nI (T - (i + 1)))) (nI k) hour (nI (i % 128))) (fun I1 => some I1) else Option.bind (F_X4_noteDelivery (xup (xup (xup (xup I 33 5 (nI ((i + 1) % 128))) 33 6 (nI (T - (i + 1)))) 39 wi (I 39 wi + nI (min (g wi) sh))) 36 (i % 128) (nI sh - nI (min (g wi) sh))) (nI k) (nI (i % 128)) (nI (min (g wi) sh))) (fun I16 => Option.bind (F_X4_passOn xN I16 (nI k) hour (nI (i % 128))) (fun I1 => some I1)))) := by
    unfold F_X4_takeFirst F_X4_takeFirst_j113
    have l : ∀ (K : xTI) (c : Nat) (F : Int32 → Option xTI), xal K c 128 (nI (i % 128)) F = F (K c (i % 128)) := fun K c F => xal_n hs (by decide)
    have l2 : ∀ (K : xTI) (v : Int32) (F : xTI → Option xTI), xas K 36 128 (nI (i % 128)) v F = F (xup K 36 (i % 128) v) := fun K v F => xas_n hs (by decide)
    have l3 : ∀ (K : xTI) (F : Int32 → Option xTI), xal K 39 12 (nI wi) F = F (K 39 wi) := fun K F => xal_n hwi12 (by decide)
    have l4 : ∀ (K : xTI) (v : Int32) (F : xTI → Option xTI), xas K 39 12 (nI wi) v F = F (xup K 39 wi v) := fun K v F => xas_n hwi12 (by decide)
    have e336 : ∀ v : Int32, xup I 33 5 v 33 6 = nI (T - i) := fun v => by rw [xup_at, if_neg (by decide)]; exact h336
    simp only [xbn_e, h335, h1, e336, h2, l]
    simp only [hI5 35 (by decide), hI5 34 (by decide), hI5 36 (by decide), t35, t34, t36, hsh, hwe, l3, l4, hI5 39 (by decide), hge, l2]
    have hmin : (if nI (g wi) < nI sh then nI (g wi) else nI sh) = nI (min (g wi) sh) := by
      by_cases e : g wi < sh
      · rw [if_pos (nI_lt e (by omega)), Nat.min_eq_left (by omega)]
      · rw [if_neg (nI_nlt (by omega) (by omega)), Nat.min_eq_right (by omega)]
    have e36 : ∀ v : Int32, xup (xup (xup I 33 5 (nI ((i + 1) % 128))) 33 6 (nI (T - (i + 1)))) 39 wi v 36 (i % 128) = nI sh := fun v => by rw [xup_ne (by decide), hI5 36 (by decide), t36, hsh]
    simp only [hmin, l, e36, l2]
  have w : ∀ K, F_X11_names_b149 xN L (nI k) hour (nI i, J) K = (if nI wi = J 63 i then F_X11_names_j252 K xN J L (nI k) hour (nI i) (nI wi) (nI sh) else (if nI (g wi) ≤ 0 then F_X11_names_j252 K xN J L (nI k) hour (nI i) (nI wi) (nI sh) else F_X11_names_j222 K xN J L (nI k) hour (nI i) (nI wi) (nI sh) (nI (min (g wi) sh)))) := by
    intro K
    show F_X11_names_c149 xN L (nI k) hour (nI i) J K = _
    unfold F_X11_names_c149
    have r : ∀ (c : Nat) (F : Int32 → Option (xTI × xTL)), xal J c 8000 (nI i) F = F (J c i) := fun c F => xal_n hT8 (by decide)
    have r2 : ∀ (F : Int32 → Option (xTI × xTL)), xal J 68 12 (nI wi) F = F (nI (g wi)) := fun F => by rw [xal_n hwi12 (by decide), g1]
    rw [xbn_e, h57, if_neg (nI_ge hi (by omega))]
    simp only [r, hwe, hsh, r2]
    by_cases e : nI wi = J 63 i
    · rw [if_pos e, if_pos e]
    · rw [if_neg e, if_neg e]
      by_cases e0 : nI (g wi) ≤ 0
      · rw [if_pos e0, if_pos e0]
      · rw [if_neg e0, if_neg e0]
        by_cases e2 : g wi ≤ sh
        · rw [if_pos (nI_le e2 (by omega)), Nat.min_eq_left e2]
        · rw [if_neg (nI_ge (by omega) (by omega)), Nat.min_eq_right (by omega)]
  -- without a delivery
  have noD : (F_X4_takeFirst xN I (nI k) hour = Option.bind (F_X4_passOn xN (xup (xup I 33 5 (nI ((i + 1) % 128))) 33 6 (nI (T - (i + 1)))) (nI k) hour (nI (i % 128))) (fun I1 => some I1)) → (∀ K, F_X11_names_b149 xN L (nI k) hour (nI i, J) K = F_X11_names_j252 K xN J L (nI k) hour (nI i) (nI wi) (nI sh)) → ∃ I2 J2 T2 p2 d2 lf2 g2, nSt I0 J0 I2 J2 q k ac (i + 1) T2 p2 d2 lf2 g2 D S P ∧ F_X4_takeFirst xN I (nI k) hour = some I2 ∧ ∀ K, F_X11_names_b149 xN L (nI k) hour (nI i, J) K = K (nI (i + 1), J2) := by
    intro f1 f2
    have hMid : nMid I0 J0 (xup (xup I 33 5 (nI ((i + 1) % 128))) 33 6 (nI (T - (i + 1)))) J q k ac (J 63 i) (nI wi) i T p d lf g sh D S P := by
      refine ⟨⟨fun k' a1 a2 a3 a4 a5 a6 a7 => ?_, hF.2.1, hF.2.2⟩, ?_, hDl, fun t a1 a2 => ?_, fun b hb => ?_, fun m hm' => ?_, ⟨hi, hI55, hI56, h57⟩, ⟨?_, rfl, hwe⟩, ?_⟩
      · rw [hI5 k' (by omega)]; exact hF.1 k' a1 a2 a3 a4 a5 a6 a7
      · unfold nTab
        rw [hI5 24 (by decide), hI5 25 (by decide), hI5 26 (by decide), hI5 27 (by decide)]; exact hT
      · rw [hI5 34 (by decide), hI5 35 (by decide), hI5 36 (by decide), hI5 37 (by decide), hI5 38 (by decide)]; exact hQ t (by omega) a2
      · rw [hI5 40 (by decide)]; exact hL b hb
      · rw [hI5 39 (by decide)]; exact hG m hm'
      · rw [hI5 34 (by decide)]; exact t34
      · refine ⟨by omega, c2, by omega, c4, c5⟩
    obtain ⟨I2, J2, T2, p2, lf2, wd2, a1, a2, a3⟩ := on_sim (hour := hour) hMid hm hB hV sh2 hP hnm hq hwi hup (by rw [hI5 35 (by decide), t35]; exact hwe) (by rw [hI5 36 (by decide), t36]; exact hsh) (by rw [hI5 37 (by decide)]; exact t37) (by rw [hI5 38 (by decide)]; exact t38) hlt L
    exact ⟨I2, J2, T2, p2, d, lf2, g, a1.st, by rw [f1, a2]; rfl, fun K => by rw [f2]; exact a3 K⟩
  by_cases e : nI wi = J 63 i
  · exact noD (by rw [u, if_pos e]) (fun K => by rw [w, if_pos e])
  · by_cases e0 : g wi = 0
    · exact noD (by rw [u, if_neg e, e0, Nat.zero_min, if_pos (by decide)]) (fun K => by rw [w, if_neg e, e0, if_pos (by decide)])
    · have hg0 : 0 < g wi := by omega
      obtain ⟨-, g39, gNT⟩ := g3.resolve_right (fun z => e0 z.1)
      obtain ⟨n, hn⟩ : ∃ n, n = min (g wi) sh := ⟨_, rfl⟩
      have hn1 : 1 ≤ n := by omega
      have hd : d < 120 := by
        have hx := SF_le (f := fun b => ps1 (g b)) 12 hwi12
        have : ps1 (g wi) = 1 := by unfold ps1; rw [if_pos hg0]
        have hcf : CF g 12 = SF (fun b => ps1 (g b)) 12 := rfl
        omega
      have hpg : ps1 (g wi) = 1 := by unfold ps1; rw [if_pos hg0]
      have e1 := SF_set (f := g) (v := g wi - n) hwi12
      have e2 := CF_set (f := g) (v := g wi - n) hwi12
      rw [hpg] at e2
      have hSg := SF_le (f := g) 12 hwi12
      have hcnt : CF (upN g wi (g wi - n)) 12 + ps1 (sh - n) ≤ CF g 12 := by
        by_cases z : g wi ≤ sh
        · have p0 : ps1 (g wi - n) = 0 := by unfold ps1; rw [if_neg (by omega)]
          have : ps1 (sh - n) ≤ 1 := by unfold ps1; split <;> omega
          omega
        · have p0 : ps1 (sh - n) = 0 := by unfold ps1; rw [if_neg (by omega)]
          have : ps1 (g wi - n) ≤ 1 := by unfold ps1; split <;> omega
          omega
      rw [← hn] at u w
      rw [if_neg e, if_neg (nI_nle (by omega) (by omega)), g39, neg_add (by omega) g2, nI_sub (by omega)] at u
      -- both note the delivery
      have hX : ∀ k', k' ≠ 33 → k' ≠ 39 → k' ≠ 36 → xup (xup (xup (xup I 33 5 (nI ((i + 1) % 128))) 33 6 (nI (T - (i + 1)))) 39 wi (-nI (g wi - n))) 36 (i % 128) (nI (sh - n)) k' = I k' := fun k' a1 a2 a3 => by rw [xup_ne a3, xup_ne a2, hI5 k' a1]
      have hX33 : ∀ j, xup (xup (xup (xup I 33 5 (nI ((i + 1) % 128))) 33 6 (nI (T - (i + 1)))) 39 wi (-nI (g wi - n))) 36 (i % 128) (nI (sh - n)) 33 j = xup (xup I 33 5 (nI ((i + 1) % 128))) 33 6 (nI (T - (i + 1))) 33 j := fun j => by rw [xup_ne (by decide), xup_ne (by decide)]
      have hX39 : ∀ j, xup (xup (xup (xup I 33 5 (nI ((i + 1) % 128))) 33 6 (nI (T - (i + 1)))) 39 wi (-nI (g wi - n))) 36 (i % 128) (nI (sh - n)) 39 j = if j = wi then -nI (g wi - n) else I 39 j := fun j => by rw [xup_ne (by decide), xup_at, hI5 39 (by decide)]
      have hX36 : ∀ j, xup (xup (xup (xup I 33 5 (nI ((i + 1) % 128))) 33 6 (nI (T - (i + 1)))) 39 wi (-nI (g wi - n))) 36 (i % 128) (nI (sh - n)) 36 j = if j = i % 128 then nI (sh - n) else I 36 j := fun j => by rw [xup_at, xup_ne (by decide), hI5 36 (by decide)]
      generalize xup (xup (xup (xup I 33 5 (nI ((i + 1) % 128))) 33 6 (nI (T - (i + 1)))) 39 wi (-nI (g wi - n))) 36 (i % 128) (nI (sh - n)) = X at u hX hX33 hX39 hX36
      have nd := noteD (I := X) (o := i % 128) (d := d) hs (by omega) (by rw [hX 26 (by decide) (by decide) (by decide)]; exact hT.2.1) (nI k) (nI n)
      rw [hX 35 (by decide) (by decide) (by decide), hX 34 (by decide) (by decide) (by decide), hX 37 (by decide) (by decide) (by decide), hX 38 (by decide) (by decide) (by decide), t35, t34, t37, t38, hwe] at nd
      have dl := delv (J := J) (i := i) (d := d) hT8 (by omega) hT.2.2.2.1 (nI k) (nI n)
      rw [hwe] at dl
      -- the class's memory, the reference's
      have hI16 : ∀ k', k' ≠ 26 → k' ≠ 27 → wr (xup X 26 3 (nI (d + 1))) 27 (6 * d) (dlW (nI k) (nI wi) (J 63 i) (nI n) (J 66 i) (J 67 i)) 6 k' = X k' := fun k' a1 a2 => by rw [wr_ne a2, xup_ne a1]
      have hI26 : wr (xup X 26 3 (nI (d + 1))) 27 (6 * d) (dlW (nI k) (nI wi) (J 63 i) (nI n) (J 66 i) (J 67 i)) 6 26 3 = nI (d + 1) := by rw [wr_ne (by decide), xup_at, if_pos rfl]
      have hI27 : ∀ i' t, t < 6 → wr (xup X 26 3 (nI (d + 1))) 27 (6 * d) (dlW (nI k) (nI wi) (J 63 i) (nI n) (J 66 i) (J 67 i)) 6 27 (6 * i' + t) = if i' = d then dlW (nI k) (nI wi) (J 63 i) (nI n) (J 66 i) (J 67 i) t else I 27 (6 * i' + t) := fun i' t ht => by
        by_cases ei : i' = d
        · rw [if_pos ei, ei, wr_in 6 ht]
        · rw [if_neg ei, wr_out 6 (by omega), xup_ne (by decide), hX 27 (by decide) (by decide) (by decide)]
      generalize wr (xup X 26 3 (nI (d + 1))) 27 (6 * d) (dlW (nI k) (nI wi) (J 63 i) (nI n) (J 66 i) (J 67 i)) 6 = I16 at nd hI16 hI26 hI27
      have hJ1 : ∀ j, xup (wr J 58 (4670 + 6 * d) (dlW (nI k) (nI wi) (J 63 i) (nI n) (J 66 i) (J 67 i)) 6) 58 7 (nI (d + 1)) 58 j = if j = 7 then nI (d + 1) else if 4670 + 6 * d ≤ j ∧ j < 4670 + 6 * d + 6 then dlW (nI k) (nI wi) (J 63 i) (nI n) (J 66 i) (J 67 i) (j - (4670 + 6 * d)) else J 58 j := fun j => by
        rw [xup_at]
        by_cases ej : j = 7
        · rw [if_pos ej, if_pos ej]
        · rw [if_neg ej, if_neg ej]
          by_cases h2 : 4670 + 6 * d ≤ j ∧ j < 4670 + 6 * d + 6
          · rw [if_pos h2]
            obtain ⟨t, rfl⟩ : ∃ t, j = 4670 + 6 * d + t := ⟨j - (4670 + 6 * d), by omega⟩
            rw [wr_in 6 (by omega), Nat.add_sub_cancel_left]
          · rw [if_neg h2, wr_out 6 (by omega)]
      have hJn : ∀ k', k' ≠ 58 → xup (wr J 58 (4670 + 6 * d) (dlW (nI k) (nI wi) (J 63 i) (nI n) (J 66 i) (J 67 i)) 6) 58 7 (nI (d + 1)) k' = J k' := fun k' a => by rw [xup_ne a, wr_ne a]
      generalize xup (wr J 58 (4670 + 6 * d) (dlW (nI k) (nI wi) (J 63 i) (nI n) (J 66 i) (J 67 i)) 6) 58 7 (nI (d + 1)) = J1 at dl hJ1 hJn
      have w' : ∀ K, F_X11_names_b149 xN L (nI k) hour (nI i, J) K = F_X11_names_j252 K xN (xup J1 68 wi (nI (g wi - n))) L (nI k) hour (nI i) (nI wi) (nI (sh - n)) := by
        intro K
        rw [w, if_neg e, if_neg (nI_nle (by omega) (by omega))]
        unfold F_X11_names_j222
        rw [dl, Option.bind_some, xal_n hwi12 (by decide), xas_n hwi12 (by decide), hJn 68 (by decide), g1, nI_sub (by omega), xbn_e, nI_sub (by omega)]
      have hd0 : ∀ t, J1 58 (4670 + 6 * d + t) = if t < 6 then dlW (nI k) (nI wi) (J 63 i) (nI n) (J 66 i) (J 67 i) t else J 58 (4670 + 6 * d + t) := fun t => by
        rw [hJ1, if_neg (by omega)]
        by_cases ht : t < 6
        · rw [if_pos ⟨by omega, by omega⟩, if_pos ht, Nat.add_sub_cancel_left]
        · rw [if_neg (by omega), if_neg ht]
      have hJ2 : ∀ k', k' ≠ 68 → xup J1 68 wi (nI (g wi - n)) k' = J1 k' := fun k' a => xup_ne a
      have hMid : nMid I0 J0 I16 (xup J1 68 wi (nI (g wi - n))) q k ac (J 63 i) (nI wi) i T p (d + 1) lf (upN g wi (g wi - n)) (sh - n) D S P := by
        refine ⟨⟨fun k' a1 a2 a3 a4 a5 a6 a7 => ?_, fun j a1 a2 a3 => ?_, fun k' j a1 => ?_⟩, ⟨?_, hI26, ?_, ?_, fun i' a1 a2 t ht => ?_, fun i' a1 t ht => ?_⟩, fun i' hi' => ?_, fun t a1 a2 => ?_, fun b hb => ?_, fun m hm' => ?_, ⟨hi, ?_, ?_, ?_⟩, ⟨?_, ?_, ?_⟩, ?_⟩
        · rw [hI16 k' a5 a6, hX k' (by omega) (by omega) (by omega)]; exact hF.1 k' a1 a2 a3 a4 a5 a6 a7
        · rw [hJ2 58 (by decide), hJ1, if_neg a2, if_neg (by omega)]; exact hF.2.1 j a1 a2 a3
        · rw [hJ2 k' (by omega), hJn k' (by omega)]; exact hF.2.2 k' j a1
        · rw [hI16 24 (by decide) (by decide), hX 24 (by decide) (by decide) (by decide)]; exact hT.1
        · rw [hJ2 58 (by decide), hJ1, if_neg (by omega), if_neg (by omega)]; exact hT.2.2.1
        · rw [hJ2 58 (by decide), hJ1, if_pos rfl]
        · rw [hI16 25 (by decide) (by decide), hX 25 (by decide) (by decide) (by decide), hJ2 58 (by decide), hJ1, if_neg (by omega), if_neg (by omega)]; exact hT.2.2.2.2.1 i' a1 a2 t ht
        · rw [hI27 i' t ht, hJ2 58 (by decide)]
          by_cases ei : i' = d
          · subst ei; rw [if_pos rfl, hd0, if_pos ht]
          · rw [if_neg ei, hJ1, if_neg (by omega), if_neg (by omega)]; exact hT.2.2.2.2.2 i' (by omega) t ht
        · rw [hJ2 58 (by decide)]
          by_cases ei : i' = d
          · subst ei
            obtain ⟨a, ha1, ha2, ha3, ha4⟩ := hnm
            have z0 : J1 58 (4670 + 6 * i') = nI k := by have := hd0 0; rw [Nat.add_zero, if_pos (by decide)] at this; exact this
            have z1 : J1 58 (4670 + 6 * i' + 1) = nI wi := by rw [hd0, if_pos (by decide)]; rfl
            have z2 : J1 58 (4670 + 6 * i' + 2) = nI a := by rw [hd0, if_pos (by decide), ← ha2]; rfl
            have z3 : J1 58 (4670 + 6 * i' + 3) = nI n := by rw [hd0, if_pos (by decide)]; rfl
            have z5 : J1 58 (4670 + 6 * i' + 5) = J 67 i := by rw [hd0, if_pos (by decide)]; rfl
            rw [z5]
            exact ⟨k, wi, a, n, z0, z1, z2, z3, hk, hwi, ha1, fun z => e (by rw [z, ha2]), hn1, by omega, hlt, hup, ha3, gNT, ha4⟩
          · exact hDl.fr (s2 := J1 58) (fun i' t b1 b2 => by rw [hJ1, if_neg (by omega), if_neg (by omega)]) i' (by omega)
        · rw [hI16 34 (by decide) (by decide), hI16 35 (by decide) (by decide), hI16 36 (by decide) (by decide), hI16 37 (by decide) (by decide), hI16 38 (by decide) (by decide), hX 34 (by decide) (by decide) (by decide), hX 35 (by decide) (by decide) (by decide), hX36, hX 37 (by decide) (by decide) (by decide), hX 38 (by decide) (by decide) (by decide), if_neg (by omega), hJ2 63 (by decide), hJ2 64 (by decide), hJ2 65 (by decide), hJ2 66 (by decide), hJ2 67 (by decide), hJn 63 (by decide), hJn 64 (by decide), hJn 65 (by decide), hJn 66 (by decide), hJn 67 (by decide)]
          exact hQ t (by omega) a2
        · rw [hI16 40 (by decide) (by decide), hX 40 (by decide) (by decide) (by decide), hJ2 69 (by decide), hJn 69 (by decide)]; exact hL b hb
        · rw [hI16 39 (by decide) (by decide), hX39, xup_at, hJn 68 (by decide)]
          unfold upN
          by_cases em : m = wi
          · rw [if_pos em, if_pos em, if_pos em, em]
            refine ⟨rfl, by omega, ?_⟩
            by_cases ez : g wi - n = 0
            · exact Or.inr ⟨ez, 0, by omega, by rw [ez]; decide⟩
            · exact Or.inl ⟨by omega, rfl, gNT⟩
          · rw [if_neg em, if_neg em, if_neg em]; exact hG m hm'
        · rw [hI16 33 (by decide) (by decide), hX33]; exact hI55
        · rw [hI16 33 (by decide) (by decide), hX33]; exact hI56
        · rw [hJ2 57 (by decide), hJn 57 (by decide)]; exact h57
        · rw [hI16 34 (by decide) (by decide), hX 34 (by decide) (by decide) (by decide)]; exact t34
        · rw [hJ2 63 (by decide), hJn 63 (by decide)]
        · rw [hJ2 64 (by decide), hJn 64 (by decide)]; exact hwe
        · have hdv : dvS (xup J1 68 wi (nI (g wi - n)) 58) (d + 1) = dvS (J 58) d + n := by
            rw [hJ2 58 (by decide), dvS, dvS_congr (s := J 58) d (fun i' hi' => by rw [hJ1, if_neg (by omega), if_neg (by omega)]), hd0, if_pos (by decide), show dlW (nI k) (nI wi) (J 63 i) (nI n) (J 66 i) (J 67 i) 3 = nI n from rfl, nI_clamp (by omega)]
          have hps2 : ps1 (sh - n) ≤ 1 := by unfold ps1; split <;> omega
          refine ⟨by omega, c2, by omega, by omega, c5⟩
      obtain ⟨I2, J2, T2, p2, lf2, wd2, a1, a2, a3⟩ := on_sim (hour := hour) hMid hm hB hV (by omega) hP hnm hq hwi hup (by rw [hI16 35 (by decide) (by decide), hX 35 (by decide) (by decide) (by decide), t35]; exact hwe) (by rw [hI16 36 (by decide) (by decide), hX36, if_pos rfl]) (by rw [hI16 37 (by decide) (by decide), hX 37 (by decide) (by decide) (by decide), hJ2 66 (by decide), hJn 66 (by decide)]; exact t37) (by rw [hI16 38 (by decide) (by decide), hX 38 (by decide) (by decide) (by decide), hJ2 67 (by decide), hJn 67 (by decide)]; exact t38) (by rw [hJ2 67 (by decide), hJn 67 (by decide)]; exact hlt) L
      exact ⟨I2, J2, T2, p2, d + 1, lf2, _, a1.st, by rw [u, nd, Option.bind_some, a2]; rfl, fun K => by rw [w']; exact a3 K⟩
end
