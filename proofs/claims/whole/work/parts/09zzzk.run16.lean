section
/-! run: names, all stocks -/
/-- naming: the stocks before k are done -/
def nAll (I0 J0 I J : xTI) (q : Nat → Nat) (ac : Int32) (k p d : Nat) : Prop := nFr I0 I J0 J ∧ nTab I J p d ∧ nDel (J 58) (J0 58) q ac d ∧ d ≤ 12 * k + SF (fun k => CF (fun b => lf0 (J0 58) ac k b) 60) k ∧ dvS (J 58) d ≤ SF (fun k => SF (fun b => lf0 (J0 58) ac k b) 60) k ∧ p ≤ SF (fun k => SF (fun b => lf0 (J0 58) ac k b) 60) k
theorem stock_sim {I0 J0 I J : xTI} {q : Nat → Nat} {n k p d : Nat} {ac : Int32} (h : nAll I0 J0 I J q ac k p d) (hI : BRi I0 (J0 58) q) (hV : IVi (J0 58) q n) (hk : k < q 2) (M : xTL) : ∃ I2 J2 M2 p2 d2, nAll I0 J0 I2 J2 q ac (k + 1) p2 d2 ∧ (∀ K, F_X4_nameAccount_b23 xN ac (nI k, I) K = K (nI (k + 1), I2)) ∧ F_X11_names xN J M (nI k) ac = some (J2, M2) ∧ FrL M M2 := by
  obtain ⟨hF, hT, hD, n1, n2, n3⟩ := h
  have hq : q 1 ≤ 12 := hV.1.2.2.1
  have hk2 : q 2 ≤ 5 := hV.1.2.2.2.1
  have hVb : IVb (J0 58) q := hV.2.2.1
  have b1 := lf0_sum (ac := ac) hVb (k + 1) (by omega)
  have s1 : SF (fun k => SF (fun b => lf0 (J0 58) ac k b) 60) (k + 1) = SF (fun k => SF (fun b => lf0 (J0 58) ac k b) 60) k + SF (fun b => lf0 (J0 58) ac k b) 60 := rfl
  have s2 : SF (fun k => CF (fun b => lf0 (J0 58) ac k b) 60) (k + 1) = SF (fun k => CF (fun b => lf0 (J0 58) ac k b) 60) k + CF (fun b => lf0 (J0 58) ac k b) 60 := rfl
  have hcf : CF (fun b => lf0 (J0 58) ac k b) 60 ≤ 60 := by
    have := SF_bd (f := fun b => ps1 (lf0 (J0 58) ac k b)) (v := 1) 60 (fun b hb => by show ps1 _ ≤ 1; unfold ps1; split <;> omega)
    unfold CF; omega
  have hsf : SF (fun b => lf0 (J0 58) ac k b) 60 ≤ 5940 := by
    have := SF_bd (f := fun b => lf0 (J0 58) ac k b) (v := 99) 60 (fun b hb => lf0_99 hVb hb)
    omega
  -- the class lays the row
  have hB0 : BRb I (J0 58) := hI.2.2.1.fr (hF.1 13 (by decide) (by decide) (by decide) (by decide) (by decide) (by decide) (by decide)) (fun _ _ _ => rfl)
  obtain ⟨I1, e1, e2, e3⟩ := nets39 hB0 hVb hq (nI k) ac
  have hB1 : BRb I1 (J0 58) := hB0.fr (e2 13 (by decide)) (fun _ _ _ => rfl)
  have l10 := left10 hB1 hVb k ac
  have hX : ∀ k', k' ≠ 40 → k' ≠ 33 → xup (xup (wr I1 40 0 (fun b => nI (lf0 (J0 58) ac k b)) 60) 33 5 0) 33 6 0 k' = I1 k' := fun k' a1 a2 => by rw [xup_ne a2, xup_ne a2, wr_ne a1]
  have hX40 : ∀ b, b < 60 → xup (xup (wr I1 40 0 (fun b => nI (lf0 (J0 58) ac k b)) 60) 33 5 0) 33 6 0 40 b = nI (lf0 (J0 58) ac k b) := fun b hb => by
    rw [xup_ne (by decide), xup_ne (by decide)]
    have := wr_in (I := I1) (k := 40) (base := 0) (w := fun b => nI (lf0 (J0 58) ac k b)) 60 hb
    rw [Nat.zero_add] at this; exact this
  have hX5 : xup (xup (wr I1 40 0 (fun b => nI (lf0 (J0 58) ac k b)) 60) 33 5 0) 33 6 0 33 5 = nI 0 := by rw [xup_at, if_neg (by decide), xup_at, if_pos rfl]; rfl
  have hX6 : xup (xup (wr I1 40 0 (fun b => nI (lf0 (J0 58) ac k b)) 60) 33 5 0) 33 6 0 33 6 = nI 0 := by rw [xup_at, if_pos rfl]; rfl
  generalize xup (xup (wr I1 40 0 (fun b => nI (lf0 (J0 58) ac k b)) 60) 33 5 0) 33 6 0 = X at l10 hX hX40 hX5 hX6
  -- the hour, as both read it
  have nb := nm_book hI hV hF hT hD (by omega) (by omega) (by omega)
  obtain ⟨v, I', t1, t2, t3⟩ := tells_i nb.1 nb.2 (key := 1) (by decide) (kk := k) (by omega) none (fun bb z => by cases z)
  obtain ⟨J', M', r1, r2, r3⟩ := t3 J M rfl
  have r58 : J' 58 = J 58 := r2.c (by decide) (by decide)
  have l11 := left11 (J := xup J' 57 25 0) (s := J0 58) hVb (fun j a1 a2 => by rw [xup_ne (by decide), r58]; exact hF.2.1 j (by omega) (by omega) (by omega)) k ac v M'
  have hY : ∀ k', k' ≠ 69 → k' ≠ 57 → wr (xup J' 57 25 0) 69 0 (fun b => nI (lf0 (J0 58) ac k b)) 60 k' = J' k' := fun k' a1 a2 => by rw [wr_ne a1, xup_ne a2]
  have hY57 : ∀ j, wr (xup J' 57 25 0) 69 0 (fun b => nI (lf0 (J0 58) ac k b)) 60 57 j = if j = 25 then 0 else J' 57 j := fun j => by rw [wr_ne (by decide), xup_at]
  have hY69 : ∀ b, b < 60 → wr (xup J' 57 25 0) 69 0 (fun b => nI (lf0 (J0 58) ac k b)) 60 69 b = nI (lf0 (J0 58) ac k b) := fun b hb => by
    have := wr_in (I := xup J' 57 25 0) (k := 69) (base := 0) (w := fun b => nI (lf0 (J0 58) ac k b)) 60 hb
    rw [Nat.zero_add] at this; exact this
  generalize wr (xup J' 57 25 0) 69 0 (fun b => nI (lf0 (J0 58) ac k b)) 60 = Y at l11 hY hY57 hY69
  have hY58 : Y 58 = J 58 := (hY 58 (by decide) (by decide)).trans r58
  have lay0 : nLay I0 J0 X Y q k ac (J 58) 0 0 p d := by
    refine ⟨⟨fun k' a1 a2 a3 a4 a5 a6 a7 => ?_, fun j a1 a2 a3 => ?_, fun k' j a => ?_⟩, ?_, ?_, fun t a1 a2 => absurd a2 (Nat.not_lt_zero _), fun b hb => ⟨hX40 b hb, hY69 b hb, lf0_99 hVb hb, fun z => ?_⟩, fun m' hm' => ?_, fun m' hm' => absurd hm' (Nat.not_lt_zero _), ⟨hX5, hX6, ?_⟩, Nat.le_refl _, hY58⟩
    · rw [hX k' (by omega) (by omega), e2 k' (by omega)]; exact hF.1 k' a1 a2 a3 a4 a5 a6 a7
    · rw [hY58]; exact hF.2.1 j a1 a2 a3
    · by_cases e : k' = 57
      · subst e; rw [hY57, if_neg (by omega), r2 57 j (by decide) (by omega)]; exact hF.2.2 57 j a
      · rw [hY k' (by omega) e, r2 k' j (by omega) (by omega)]; exact hF.2.2 k' j a
    · unfold nTab
      rw [hX 24 (by decide) (by decide), hX 25 (by decide) (by decide), hX 26 (by decide) (by decide), hX 27 (by decide) (by decide), e2 24 (by decide), e2 25 (by decide), e2 26 (by decide), e2 27 (by decide), hY58]; exact hT
    · rw [hY58]; exact hD
    · by_cases hz : stn (J0 58) b (nI k) ac
      · exact hz
      · rw [lf0_n hz] at z; omega
    · rw [hX 39 (by decide) (by decide)]; exact e3 m' hm'
    · rw [hY57, if_pos rfl]; rfl
  obtain ⟨I2, J2, T2, a1, a2, a3⟩ := lay_sim (hour := v) lay0 hVb hq (by omega) M' (hV.1.1 1 (by decide))
  obtain ⟨hF2, hT2, hD2, hQ2, hL2, h39, h68, ⟨h335, h336, h57⟩, hc2, e58⟩ := a1
  -- the class asks for the hour now
  have nb2 := nm_book hI hV hF2 hT2 hD2 (by rw [e58]; omega) (by omega) (by omega)
  rw [e58] at nb2
  obtain ⟨v', I3, u1, u2, u3⟩ := tells_i nb2.1 nb2.2 (key := 1) (by decide) (kk := k) (by omega) none (fun bb z => by cases z)
  obtain ⟨J'', M'', w1, -, -⟩ := u3 J M rfl
  have ev : v' = v := by
    rw [r1] at w1; cases w1; rfl
  subst ev
  have hgs := gv_sum hVb ac k
  have hcg : CF (gv0 (J0 58) ac k) 12 = CF (gv0 (J0 58) ac k) (q 1) := by
    have := SF_tail (f := fun m => ps1 (gv0 (J0 58) ac k m)) (m := q 1) (12 - q 1) (fun m z1 z2 => by
      show ps1 (gv0 (J0 58) ac k m) = 0
      unfold gv0
      rw [NT_out hVb hq z1 (by omega)]; rfl)
    rw [show q 1 + (12 - q 1) = 12 by omega] at this
    exact this
  have st0 : nSt I0 J0 I3 J2 q k ac 0 T2 p d (lf0 (J0 58) ac k) (gv0 (J0 58) ac k) (d + 12 + CF (fun b => lf0 (J0 58) ac k b) 60) (dvS (J 58) d + SF (fun b => lf0 (J0 58) ac k b) 60) (p + SF (fun b => lf0 (J0 58) ac k b) 60) := by
    refine ⟨⟨fun k' z1 z2 z3 z4 z5 z6 z7 => ?_, hF2.2.1, hF2.2.2⟩, ?_, hD2, ?_, ?_, fun m hm => ?_, ⟨Nat.zero_le _, ?_, ?_, h57⟩, ?_⟩
    · rw [u2 k' z1 z2]; exact hF2.1 k' z1 z2 z3 z4 z5 z6 z7
    · unfold nTab
      rw [u2 24 (by decide) (by decide), u2 25 (by decide) (by decide), u2 26 (by decide) (by decide), u2 27 (by decide) (by decide)]; exact hT2
    · intro t z1 z2
      rw [u2 34 (by decide) (by decide), u2 35 (by decide) (by decide), u2 36 (by decide) (by decide), u2 37 (by decide) (by decide), u2 38 (by decide) (by decide)]; exact hQ2 t z1 z2
    · intro b hb
      rw [u2 40 (by decide) (by decide)]; exact hL2 b hb
    · obtain ⟨g1, g2⟩ := gv_e hVb ac k m
      rw [u2 39 (by decide) (by decide), h39 m (by omega)]
      refine ⟨h68 m hm, g1, ?_⟩
      rcases g2 with z | z
      · exact Or.inl z
      · exact Or.inr ⟨z.1, z.2.1⟩
    · rw [u2 33 (by decide) (by decide)]; exact h335
    · rw [u2 33 (by decide) (by decide), Nat.sub_zero]; exact h336
    · refine ⟨?_, ?_, ?_, ?_, Nat.le_refl _⟩
      · show T2 - 0 + CF (fun b => lf0 (J0 58) ac k b) 60 ≤ 72; omega
      · show T2 + SF (fun b => lf0 (J0 58) ac k b) 60 ≤ 5952; omega
      · show d + (T2 - 0) + CF (fun b => lf0 (J0 58) ac k b) 60 + CF (gv0 (J0 58) ac k) 12 ≤ _; omega
      · rw [e58]
        have : SF (gv0 (J0 58) ac k) 12 ≤ SF (fun b => lf0 (J0 58) ac k b) 60 := hgs
        omega
  obtain ⟨I4, J4, T4, p4, d4, lf4, g4, y1, y2, y3⟩ := row_sim (hour := v') st0 hI.2.1 hI.2.2.1 hVb (by omega) (by omega) hq hk hk2 M'
  obtain ⟨x1, x2, x3, x4, x5, x6, x7, x8, x9, x10, x11, x12⟩ := y1
  refine ⟨I4, J4, M', p4, d4, ⟨x1, x2, x3, by omega, by omega, by omega⟩, fun K => ?_, ?_, r3⟩
  · show F_X4_nameAccount_c23 xN ac (nI k) I K = _
    unfold F_X4_nameAccount_c23 F_X4_layOut
    have u1' : F_X5_tells xN I2 1 (nI k) (-1) = some (v', I3) := u1
    rw [xbn_e, hF.1 1 (by decide) (by decide) (by decide) (by decide) (by decide) (by decide) (by decide), hI.1.2.2.1, if_neg (nI_ge hk (by omega)), e1, Option.bind_some, l10, a2, Option.bind_some, u1', Option.bind_some]
    exact y2 K
  · unfold F_X11_names
    have r1' : F_X11_ruled xN J M 1 (nI k) 120 = some (v', J', M') := r1
    rw [r1', Option.bind_some]
    dsimp only
    rw [xbn_e, l11, a3, y3]
end
