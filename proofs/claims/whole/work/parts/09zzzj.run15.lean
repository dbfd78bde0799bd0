section
/-! run: names. Those who name, those who deliver -/
/-- what man m has to deliver -/
def gv0 (s : Nat → Int32) (ac : Int32) (k m : Nat) : Nat := (-(NT s m (nI k) ac).toInt).toNat
theorem SF_tail {f : Nat → Nat} {m : Nat} : ∀ d, (∀ i, m ≤ i → i < m + d → f i = 0) → SF f (m + d) = SF f m
  | 0, _ => rfl
  | d + 1, h => by
    rw [show m + (d + 1) = (m + d) + 1 by omega, SF, SF_tail d (fun i a b => h i a (by omega)), h (m + d) (by omega) (by omega)]
    rfl
theorem gv_e {s : Nat → Int32} {q : Nat → Nat} (hV : IVb s q) (ac : Int32) (k m : Nat) : gv0 s ac k m ≤ 5940 ∧ ((0 < gv0 s ac k m ∧ NT s m (nI k) ac = -nI (gv0 s ac k m) ∧ NT s m (nI k) ac < 0) ∨ (gv0 s ac k m = 0 ∧ isN (NT s m (nI k) ac) 5940 ∧ 0 ≤ NT s m (nI k) ac)) := by
  have bd := NT_bd hV m (nI k) ac
  unfold gv0
  have z0 : (0 : Int32).toInt = 0 := by decide
  refine ⟨by omega, ?_⟩
  by_cases h : (NT s m (nI k) ac).toInt < 0
  · refine Or.inl ⟨by omega, ?_, by rw [Int32.lt_iff_toInt_lt]; omega⟩
    apply Int32.toInt_inj.mp
    rw [neg_n (by omega)]; omega
  · refine Or.inr ⟨by omega, ⟨(NT s m (nI k) ac).toInt.toNat, by omega, ?_⟩, by rw [Int32.le_iff_toInt_le]; omega⟩
    apply Int32.toInt_inj.mp
    rw [nI_toInt (by omega)]; omega
theorem gv_sum {s : Nat → Int32} {q : Nat → Nat} (hV : IVb s q) (ac : Int32) (k : Nat) : SF (fun m => gv0 s ac k m) 12 ≤ SF (fun b => lf0 s ac k b) 60 := by
  refine Nat.le_trans (SF_mono 12 (fun m hm => ?_)) (sl0_sum (ac := ac) (k := k) hV)
  have := NT_ge (k := k) (ac := ac) hV hm 60 (Nat.le_refl _)
  unfold gv0 NT
  omega
/-- while the row is laid: m men seen, T tickets -/
def nLay (I0 J0 I J : xTI) (q : Nat → Nat) (k : Nat) (ac : Int32) (s1 : Nat → Int32) (m T p d : Nat) : Prop := nFr I0 I J0 J ∧ nTab I J p d ∧ nDel (J 58) (J0 58) q ac d ∧ nQ I J (J0 58) q k ac 0 T ∧ nLf I J (J0 58) k ac (lf0 (J0 58) ac k) ∧ (∀ m', m' < 12 → I 39 m' = NT (J0 58) m' (nI k) ac) ∧ (∀ m', m' < m → J 68 m' = nI (gv0 (J0 58) ac k m')) ∧ (I 33 5 = nI 0 ∧ I 33 6 = nI T ∧ J 57 25 = nI T) ∧ T + CF (gv0 (J0 58) ac k) m ≤ m ∧ J 58 = s1
theorem lay_step {I0 J0 I J : xTI} {s1 : Nat → Int32} {q : Nat → Nat} {k m T p d : Nat} {ac hour : Int32} (h : nLay I0 J0 I J q k ac s1 m T p d) (hV : IVb (J0 58) q) (hq : q 1 ≤ 12) (hm : m < q 1) (hd : d ≤ 120) (L : xTL) (h1 : J0 58 1 = nI (q 1)) : ∃ I2 J2 T2, nLay I0 J0 I2 J2 q k ac s1 (m + 1) T2 p d ∧ (∀ K, F_X4_layOut_b81 xN (nI m, I) K = K (nI (m + 1), I2)) ∧ ∀ K, F_X11_names_b83 xN L (nI k) ac hour (nI m, J) K = K (nI (m + 1), J2) := by
  obtain ⟨hF, hT, hD, hQ, hL, h39, h68, ⟨h335, h336, h57⟩, hc, hs1⟩ := h
  have hm12 : m < 12 := by omega
  obtain ⟨ge, gc⟩ := gv_e hV ac k m
  have e1 : J 58 1 = nI (q 1) := by rw [hF.2.1 1 (by decide) (by decide) (by decide)]; exact h1
  have hVJ : IVb (J 58) q := hV.fr hq (fun m hm => hF.2.1 _ (by omega) (by omega) (by omega)) (fun j a1 a2 => hF.2.1 j (by omega) (by omega) (by omega))
  have hnet : F_X11_net xN J (nI m) (nI k) ac = some (NT (J0 58) m (nI k) ac) := by
    rw [F11_nt hVJ hq]
    congr 1
    refine fo_congr (fun b hb x => ?_)
    have eb : ∀ t, t < 12 → J 58 (192 + 12 * b + t) = J0 58 (192 + 12 * b + t) := fun t ht => hF.2.1 _ (by omega) (by omega) (by omega)
    have eb0 : J 58 (192 + 12 * b) = J0 58 (192 + 12 * b) := eb 0 (by decide)
    unfold gNt gn stn
    rw [eb0, eb 8 (by decide), eb 3 (by decide), eb 7 (by decide), eb 2 (by decide), eb 4 (by decide), eb 1 (by decide)]
  have hcs : CF (gv0 (J0 58) ac k) (m + 1) = CF (gv0 (J0 58) ac k) m + ps1 (gv0 (J0 58) ac k m) := rfl
  by_cases hp : NT (J0 58) m (nI k) ac ≤ 0
  · -- no ticket
    have hg : (if 0 ≤ NT (J0 58) m (nI k) ac then (0 : Int32) else -NT (J0 58) m (nI k) ac) = nI (gv0 (J0 58) ac k m) := by
      rcases gc with ⟨g1, g2, g3⟩ | ⟨g1, g2, g3⟩
      · rw [if_neg (Int32.not_le.mpr g3), g2, neg_neg_n ge]
      · rw [if_pos g3, g1]; rfl
    refine ⟨I, xup J 68 m (nI (gv0 (J0 58) ac k m)), T, ⟨⟨hF.1, fun j a1 a2 a3 => by rw [xup_ne (by decide)]; exact hF.2.1 j a1 a2 a3, fun k' j a => by rw [xup_ne (by omega)]; exact hF.2.2 k' j a⟩, ?_, ?_, ?_, ?_, h39, ?_, ⟨h335, h336, by rw [xup_ne (by decide)]; exact h57⟩, ?_, by rw [xup_ne (by decide)]; exact hs1⟩, fun K => ?_, fun K => ?_⟩
    · unfold nTab; rw [xup_ne (by decide)]; exact hT
    · rw [xup_ne (by decide)]; exact hD
    · intro t a1 a2
      rw [xup_ne (by decide), xup_ne (by decide), xup_ne (by decide), xup_ne (by decide), xup_ne (by decide)]; exact hQ t a1 a2
    · intro b hb
      rw [xup_ne (by decide)]; exact hL b hb
    · intro m' hm'
      rw [xup_at]
      by_cases e : m' = m
      · rw [if_pos e, e]
      · rw [if_neg e]; exact h68 m' (by omega)
    · rw [hcs]
      have : ps1 (gv0 (J0 58) ac k m) ≤ 1 := by unfold ps1; split <;> omega
      omega
    · show F_X4_layOut_c81 xN (nI m) I K = _
      unfold F_X4_layOut_c81
      rw [if_neg (n12 hm12), xal_n hm12 (by decide), h39 m hm12, if_pos hp, xbn_e, nI_1]
    · show F_X11_names_c83 xN L (nI k) ac hour (nI m) J K = _
      unfold F_X11_names_c83 F_X11_names_j122
      rw [s58_1, e1, if_neg (nI_ge hm (by omega)), hnet, Option.bind_some, xas_n hm12 (by decide), xas_n hm12 (by decide), if_pos hp, if_pos hp, xbn_e, xbn_e, nI_1]
      by_cases h0 : 0 ≤ NT (J0 58) m (nI k) ac
      · rw [if_pos h0] at hg; rw [if_pos h0, hg]
      · rw [if_neg h0] at hg; rw [if_neg h0, hg]
  · have hpos : 0 < NT (J0 58) m (nI k) ac := Int32.not_le.mp hp
    have g1 : gv0 (J0 58) ac k m = 0 ∧ isN (NT (J0 58) m (nI k) ac) 5940 ∧ 0 ≤ NT (J0 58) m (nI k) ac := by
      rcases gc with ⟨g1, g2, g3⟩ | g
      · rw [Int32.lt_iff_toInt_lt] at g3 hpos; omega
      · exact g
    obtain ⟨g0, ⟨n, hn, en⟩, gp⟩ := g1
    have hn1 : 1 ≤ n := by
      by_cases z : n = 0
      · rw [en, z] at hpos; exact absurd hpos (by decide)
      · omega
    have hup := NT_up (ac := ac) (k := k) hV hq hm12 (by rw [en]; exact nI_ne0 (by omega) (by omega))
    have hTb : T < 12 := by omega
    have hl := line_e (o := T) h335 h336 (by decide) (by omega) (by omega) (nI m) (nI m) (NT (J0 58) m (nI k) ac) 0 (-1)
    have hw := wait_e (J := xup J 68 m 0) (T := T) (by rw [xup_ne (by decide)]; exact h57) (by omega) (nI m) (nI m) (NT (J0 58) m (nI k) ac) 0 (-1)
    have hla := fun j => lnI_at (I := I) (o := T) (w := T) (x1 := nI m) (x2 := nI m) (x3 := NT (J0 58) m (nI k) ac) (x4 := 0) (x5 := -1) (j := j)
    have hwa := fun j => wtJ_at (J := xup J 68 m 0) (T := T) (x1 := nI m) (x2 := nI m) (x3 := NT (J0 58) m (nI k) ac) (x4 := 0) (x5 := -1) (j := j)
    have hln : ∀ k', (k' < 33 ∨ 38 < k') → lnI I T T (nI m) (nI m) (NT (J0 58) m (nI k) ac) 0 (-1) k' = I k' := fun k' a => lnI_ne a
    have hwn : ∀ k', k' ≠ 57 → (k' < 63 ∨ 67 < k') → k' ≠ 68 → wtJ (xup J 68 m 0) T (nI m) (nI m) (NT (J0 58) m (nI k) ac) 0 (-1) k' = J k' := fun k' a b c => by rw [wtJ_ne a b, xup_ne c]
    have hw68 : ∀ j, wtJ (xup J 68 m 0) T (nI m) (nI m) (NT (J0 58) m (nI k) ac) 0 (-1) 68 j = if j = m then 0 else J 68 j := fun j => by rw [wtJ_ne (by decide) (by decide), xup_at]
    refine ⟨lnI I T T (nI m) (nI m) (NT (J0 58) m (nI k) ac) 0 (-1), wtJ (xup J 68 m 0) T (nI m) (nI m) (NT (J0 58) m (nI k) ac) 0 (-1), T + 1, ⟨⟨fun k' a1 a2 a3 a4 a5 a6 a7 => ?_, fun j a1 a2 a3 => ?_, fun k' j a => ?_⟩, ?_, ?_, fun t a1 a2 => ?_, fun b hb => ?_, fun m' hm' => ?_, fun m' hm' => ?_, ⟨?_, ?_, ?_⟩, ?_, by rw [hwn 58 (by decide) (by decide) (by decide)]; exact hs1⟩, fun K => ?_, fun K => ?_⟩
    · rw [hln k' (by omega)]; exact hF.1 k' a1 a2 a3 a4 a5 a6 a7
    · rw [hwn 58 (by decide) (by decide) (by decide)]; exact hF.2.1 j a1 a2 a3
    · by_cases e : k' = 57
      · subst e; rw [(hwa j).2.2.2.2.2, if_neg (by omega), xup_ne (by decide)]; exact hF.2.2 57 j a
      · rw [hwn k' e (by omega) (by omega)]; exact hF.2.2 k' j a
    · unfold nTab
      rw [hln 24 (by decide), hln 25 (by decide), hln 26 (by decide), hln 27 (by decide), hwn 58 (by decide) (by decide) (by decide)]; exact hT
    · rw [hwn 58 (by decide) (by decide) (by decide)]; exact hD
    · have ht : t % 128 = t := by omega
      rw [ht, (hla t).1, (hla t).2.1, (hla t).2.2.1, (hla t).2.2.2.1, (hla t).2.2.2.2.1, (hwa t).1, (hwa t).2.1, (hwa t).2.2.1, (hwa t).2.2.2.1, (hwa t).2.2.2.2.1]
      by_cases e : t = T
      · subst e
        simp only [if_true]
        exact ⟨trivial, trivial, trivial, trivial, trivial, ⟨m, hm, rfl, hup.2, hpos⟩, ⟨m, hm, rfl, hup.2⟩, ⟨n, hn1, hn, en⟩, Or.inl rfl⟩
      · have := hQ t a1 (by omega)
        rw [ht] at this
        simp only [if_neg e]
        rw [xup_ne (by decide), xup_ne (by decide), xup_ne (by decide), xup_ne (by decide), xup_ne (by decide)]
        exact this
    · rw [hln 40 (by decide), hwn 69 (by decide) (by decide) (by decide)]; exact hL b hb
    · rw [hln 39 (by decide)]; exact h39 m' hm'
    · rw [hw68]
      by_cases e : m' = m
      · rw [if_pos e, e, g0]; rfl
      · rw [if_neg e]; exact h68 m' (by omega)
    · rw [(hla 5).2.2.2.2.2, if_neg (by decide)]; exact h335
    · rw [(hla 6).2.2.2.2.2, if_pos rfl]
    · rw [(hwa 25).2.2.2.2.2, if_pos rfl]
    · rw [hcs, g0]
      have : ps1 0 = 0 := rfl
      omega
    · show F_X4_layOut_c81 xN (nI m) I K = _
      unfold F_X4_layOut_c81
      rw [if_neg (n12 hm12), xal_n hm12 (by decide), h39 m hm12, if_neg hp, xal_n hm12 (by decide), h39 m hm12, hl, Option.bind_some]
      dsimp only
      rw [xbn_e, nI_1]
    · show F_X11_names_c83 xN L (nI k) ac hour (nI m) J K = _
      unfold F_X11_names_c83 F_X11_names_j122
      rw [s58_1, e1, if_neg (nI_ge hm (by omega)), hnet, Option.bind_some, if_pos gp, xas_n hm12 (by decide), if_neg hp, hw, Option.bind_some, xbn_e, nI_1]
theorem lay_sim {I0 J0 I J : xTI} {s1 : Nat → Int32} {q : Nat → Nat} {k p d : Nat} {ac hour : Int32} (h : nLay I0 J0 I J q k ac s1 0 0 p d) (hV : IVb (J0 58) q) (hq : q 1 ≤ 12) (hd : d ≤ 120) (L : xTL) (h1 : J0 58 1 = nI (q 1)) : ∃ I2 J2 T2, nLay I0 J0 I2 J2 q k ac s1 (q 1) T2 p d ∧ xlp (F_X4_layOut_b81 xN) xN (0, I) = some I2 ∧ xlp (F_X11_names_b83 xN L (nI k) ac hour) xN (0, J) = xlp (F_X11_names_b149 xN L (nI k) hour) xN (0, J2) := by
  obtain ⟨⟨x, I2⟩, ⟨y, J2⟩, ⟨T, e1, e2, hl⟩, f1, f2⟩ := xlp_st2 (κ1 := Unit) (κ2 := Unit) (b1 := fun _ => F_X4_layOut_b81 xN) (b2 := fun _ => F_X11_names_b83 xN L (nI k) ac hour) (P := fun m x y => ∃ T, x.1 = nI m ∧ y.1 = nI m ∧ nLay I0 J0 x.2 y.2 q k ac s1 m T p d) (q 1) (by
    rintro m hm ⟨x, I⟩ ⟨y, J⟩ ⟨T, e1, e2, hl⟩
    dsimp only at e1 e2 hl
    subst e1 e2
    obtain ⟨I2, J2, T2, a1, a2, a3⟩ := lay_step (hour := hour) hl hV hq hm hd L h1
    exact ⟨(nI (m + 1), I2), (nI (m + 1), J2), fun _ K => a2 K, fun _ K => a3 K, T2, rfl, rfl, a1⟩) (0, I) (0, J) ⟨0, rfl, rfl, h⟩
  dsimp only at e1 e2 hl
  subst e1 e2
  refine ⟨I2, J2, T, hl, ?_, ?_⟩
  · have e := f1 (xN - q 1) ()
    rw [show xN - q 1 + q 1 = xN from Nat.sub_add_cancel (by show q 1 ≤ 100000; omega)] at e
    refine e.trans ?_
    obtain ⟨r, hr⟩ : ∃ r, xN - q 1 = r + 12 := ⟨99988 - q 1, by show 100000 - q 1 = _; omega⟩
    have h39 := hl.2.2.2.2.2.1
    -- those who aren't there have no NET
    have key : ∀ e m N, m + e = 12 → q 1 ≤ m → e < N → xlp (F_X4_layOut_b81 xN) N (nI m, I2) = some I2 := by
      intro e
      induction e with
      | zero =>
        intro m N hm hm2 hN
        obtain ⟨N, rfl⟩ : ∃ k, N = k + 1 := ⟨N - 1, by omega⟩
        have : m = 12 := by omega
        subst this
        show F_X4_layOut_c81 xN (nI 12) I2 (xlp (F_X4_layOut_b81 xN) N) = _
        unfold F_X4_layOut_c81
        rw [if_pos (by decide)]
      | succ e ih =>
        intro m N hm hm2 hN
        obtain ⟨N, rfl⟩ : ∃ k, N = k + 1 := ⟨N - 1, by omega⟩
        show F_X4_layOut_c81 xN (nI m) I2 (xlp (F_X4_layOut_b81 xN) N) = _
        unfold F_X4_layOut_c81
        rw [if_neg (n12 (by omega)), xal_n (by omega) (by decide), h39 m (by omega), NT_out hV hq hm2 (by omega), if_pos (by decide), xbn_e, nI_1]
        exact ih (m + 1) N (by omega) (by omega) (by omega)
    exact key (12 - q 1) (q 1) (xN - q 1) (by omega) (Nat.le_refl _) (by show _ < 100000 - q 1; omega)
  · have e := f2 (xN - q 1) ()
    rw [show xN - q 1 + q 1 = xN from Nat.sub_add_cancel (by show q 1 ≤ 100000; omega)] at e
    refine e.trans ?_
    obtain ⟨r, hr⟩ : ∃ r, xN - q 1 = r + 1 := ⟨99999 - q 1, by show 100000 - q 1 = _; omega⟩
    rw [hr]
    show F_X11_names_c83 xN L (nI k) ac hour (nI (q 1)) J2 (xlp (F_X11_names_b83 xN L (nI k) ac hour) r) = _
    unfold F_X11_names_c83
    rw [s58_1, hl.1.2.1 1 (by decide) (by decide) (by decide), h1, if_pos (nI_le (Nat.le_refl _) (by omega))]
end
