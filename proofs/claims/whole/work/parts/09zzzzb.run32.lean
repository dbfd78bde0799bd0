section
/-! run: settling, from the rounds to its end -/
theorem nI_zero {h : Nat} (hh : h < 2 ^ 31) (e : nI h = 0) : h = 0 := (nI_eq (b := 0) hh (by decide)).mp e
theorem settle_b {I J : xTI} {L M : xTL} {q : Nat → Nat} {n H C B : Nat} {ow pd : Nat → Nat → Nat} {co : Nat → Nat} (hW : BRw I (J 58) q) (hV : IVi (J 58) q n) (h12 : q 0 % 14 = 12) (hH : H + 5940 ≤ 200000 * n) (hH2 : H ≤ 2 ^ 30) (hB : B ≤ 3037000499) (hC : C ≤ 2 ^ 60) (i12 : I 1 12 = 1)
    (hh : ∀ j, j < 60 → ∃ h, h ≤ H ∧ (J 58 (64 + j) = 0 → h = 0) ∧ J 76 j = nI h ∧ I 9 j = nI (h + rcv (J 58) (q 7) j))
    (hb4 : ∀ m, m < 12 → ∃ b, b ≤ 6000 ∧ J 58 (16 + 4 * m + 3) = nI b ∧ L 28 (5 * m + 4) = lN b)
    (h28 : ∀ m t, m < 12 → t < 4 → L 28 (5 * m + t) = 0)
    (h4 : ∀ a, a < 12 → L 4 a = lN (co a) ∧ M 59 a = lN (co a) ∧ co a ≤ C ∧ (q 1 ≤ a → co a = 0))
    (h5 : ∀ o, o < 12 → L 5 o = M 59 (12 + o)) (h6 : ∀ j, j < 144 → L 6 j = 0)
    (h168 : ∀ m, q 1 ≤ m → m < 12 → ∀ t, t < 4 → M 59 (168 + 4 * m + t) = 0)
    (hO : OWn L M (J 58) q ow B) (h43 : ∀ a c, a < 12 → c < 13 → L 43 (13 * a + c) = lN (pd a c)) (h73 : ∀ a b, a < 12 → b < 12 → M 73 (12 * a + b) = lN (pd a b)) (h75 : ∀ a, a < 12 → M 75 a = lN (pd a 12)) (hP : PRn ow co pd) (ac : Int32) : ∃ I2 L2 J2 M2 cnt, Option.bind (F_X6_moveCoin xN I L) (fun L10 => Option.bind (F_X6_endBargains xN I ac) (fun I11 => Option.bind (F_X6_hammer xN I11 L10) (fun (v12, I13) => Option.bind (F_X6_voidOthers xN I13 L10) (fun (I14, L15) => some (v12, I14, L15))))) = some (nI cnt, I2, L2) ∧ xlp (F_X11_settles_b83 xN J ac) xN (0, M) = some (J2, M2) ∧ RSu I2 L2 J2 M2 (qs q 9 1) n (H + 5940) (C + B) 0 ∧ IVd (J2 58) (qs (qs q 9 1) 0 (q 0 + 1)) ∧ upn (J 58) (q 1) = upn (J2 58) (q 1) + cnt ∧ (∀ k, k ≠ 8 → k ≠ 13 → k ≠ 21 → I2 k = I k) ∧ (∀ k, k ≠ 4 → k ≠ 28 → k ≠ 5 → L2 k = L k) ∧ (∀ k, k ≠ 58 → J2 k = J k) ∧ (∀ k, k ≠ 59 → M2 k = M k) := by
  have hq1 : q 1 ≤ 12 := hV.1.2.2.1
  have hq2 : q 2 ≤ 5 := hV.1.2.2.2.1
  have hq3 : q 3 ≤ 20 := hV.1.2.2.2.2.1
  have hq7 : q 7 ≤ 120 := hV.1.2.2.2.2.2.2.2.2.1
  have hq0 : q 0 ≤ 700 := hV.1.2.1
  have hd : IVd (J 58) q := hV.2.2.2.2.1
  obtain ⟨o42, o70, o71, o45, o72, oz, oT⟩ := hO
  have ozm : ∀ a c, a < 12 → c < 13 → (q 1 ≤ a ∨ (c < 12 ∧ q 1 ≤ c)) → ow a c = 0 := fun a c ha hc h => oz a c ha hc (by
    rcases h with h | h
    · exact Or.inl (fun z => by have := z.1; omega)
    · exact Or.inr (Or.inl ⟨h.1, fun z => by have := z.1; omega⟩))
  have pz : ∀ a c, a < 12 → c < 13 → (q 1 ≤ a ∨ (c < 12 ∧ q 1 ≤ c)) → pd a c = 0 := fun a c ha hc h => by
    have := (hP.1 a c ha hc).1; have := ozm a c ha hc h; omega
  have hBa : ∀ a, a < 12 → SF (ow a) 13 ≤ B := fun a ha => Nat.le_trans (SF_le (f := fun a => SF (ow a) 13) 12 ha) oT
  have hPa : ∀ a, a < 12 → SF (pd a) 13 ≤ SF (ow a) 13 := fun a ha => SF_mono 13 (fun c hc => (hP.1 a c ha hc).1)
  have hGa : ∀ a, a < 12 → SF (fun k => pd k a) 12 ≤ B := fun a ha => Nat.le_trans (SF_mono 12 (fun k hk => Nat.le_trans (hP.1 k a hk (by omega)).1 (SF_le (f := ow k) 13 (by omega)))) oT
  have hBB : ∀ a, a < 12 → SF (ow a) 13 < 2 ^ 60 ∧ SF (pd a) 13 < 2 ^ 60 := fun a ha => by
    have := hBa a ha; have := hPa a ha; omega
  have hbm : ∀ a, a < 12 → bdB ow pd a = true → manA (J 58) q a := fun a ha hb => by
    have c : SF (pd a) 13 < SF (ow a) 13 := of_decide_eq_true hb
    by_cases hA : manA (J 58) q a
    · exact hA
    · have : SF (ow a) 13 = 0 := SF_0 13 (fun c hc => oz a c ha hc (Or.inl hA))
      omega
  have j1 : J 58 1 = nI (q 1) := hV.1.1 1 (by decide)
  have j3 : J 58 3 = nI (q 3) := hV.1.1 3 (by decide)
  have j0 : J 58 0 = nI (q 0) := hV.1.1 0 (by decide)
  have j7 : J 58 7 = nI (q 7) := hV.1.1 7 (by decide)
  have i3 : I 3 0 = nI (q 1) := hW.1.2.1
  have i0 : I 1 0 = nI (q 0) := hW.1.1
  have i20 : I 20 3 = nI (q 3) := hW.1.2.2.2.1
  have iW2 : ∀ m, m < q 1 → I 8 m = J 58 (16 + 4 * m + 2) := fun m hm => (hW.2.1.1 m hm).2
  have i2 : ∀ k, k < 5 → I 2 k = J 58 (184 + k) := hW.2.1.2.2
  have i21 : ∀ i, i < q 3 → ∀ t, t < 7 → I 21 (7 * i + t) = J 58 (912 + 7 * i + t) := hW.2.2.2.1.1
  have iB : BRb I (J 58) := hW.2.2.1
  -- class: coin
  have c1 := move_e (I := I) (L := L) (ow := ow) (pd := pd) (co := co) hq1 i3 (fun a ha => o42 a 12 ha (by decide)) o45 h43 (fun a ha => (h4 a ha).1) hP.2
  -- reference: coin
  have r1 := b83_e (J := J) (M := M) (ow := ow) (pd := pd) hq1 j1 o71 o72 h73 h75 pz ac
  have m10 : ∀ k, k ≠ 59 → wr M 59 168 (fun i => lN (sv ow pd (i / 4) (i % 4))) (4 * q 1) k = M k := fun k hk => wr_ne hk _
  have m10o : ∀ j, (j < 168 ∨ 168 + 4 * q 1 ≤ j) → wr M 59 168 (fun i => lN (sv ow pd (i / 4) (i % 4))) (4 * q 1) 59 j = M 59 j := fun j hj => wr_out _ hj
  have m10i : ∀ a t, a < q 1 → t < 4 → wr M 59 168 (fun i => lN (sv ow pd (i / 4) (i % 4))) (4 * q 1) 59 (168 + 4 * a + t) = lN (sv ow pd a t) := fun a t ha ht => by
    rw [show 168 + 4 * a + t = 168 + (4 * a + t) by omega, wr_in _ (by omega), show (4 * a + t) / 4 = a by omega, show (4 * a + t) % 4 = t by omega]
  generalize wr M 59 168 (fun i => lN (sv ow pd (i / 4) (i % 4))) (4 * q 1) = M10 at r1 m10 m10o m10i
  have j9 : ∀ j, xup J 58 9 1 58 j = if j = 9 then 1 else J 58 j := fun j => xup_at
  have j9n : ∀ k, k ≠ 58 → xup J 58 9 1 k = J k := fun k hk => xup_ne hk
  generalize xup J 58 9 1 = J7 at r1 j9 j9n
  have r2 := b227_e (J := J7) (M := M10) (ow := ow) (pd := pd) (co := co) hq1 (by rw [j9, if_neg (by decide)]; exact j1) (fun a ha => by rw [m10 72 (by decide)]; exact o72 a ha) (fun a ha => by rw [m10o a (by omega)]; exact (h4 a ha).2.1) (fun a ha => ⟨m10i a 1 ha (by decide), m10i a 2 ha (by decide)⟩) hP.2 hBB (fun a ha hb => by rw [j9, if_neg (by omega)]; exact (hbm a (by omega) hb).2) ac
  have m11 : ∀ k, k ≠ 59 → wr M10 59 0 (fun a => lN (cn co pd a)) (q 1) k = M10 k := fun k hk => wr_ne hk _
  have m11o : ∀ j, q 1 ≤ j → wr M10 59 0 (fun a => lN (cn co pd a)) (q 1) 59 j = M10 59 j := fun j hj => wr_out _ (by omega)
  have m11i : ∀ a, a < q 1 → wr M10 59 0 (fun a => lN (cn co pd a)) (q 1) 59 a = lN (cn co pd a) := fun a ha => wrZ ha
  generalize wr M10 59 0 (fun a => lN (cn co pd a)) (q 1) = M11 at r2 m11 m11o m11i
  have j70 : J7 58 0 = nI (q 0) := by rw [j9, if_neg (by decide)]; exact j0
  have hf0 : ∀ j, (j < 16 ∨ 16 + 4 * q 1 ≤ j ∨ (j - 16) % 4 = 1 ∨ (j - 16) % 4 = 3 ∨ bdB ow pd ((j - 16) / 4) = false) → fJ J7 (bdB ow pd) (J7 58 0) (q 1) 58 j = J7 58 j := fun j hj => fJ_o hj
  have hf1 : ∀ x, x < q 1 → bdB ow pd x = true → fJ J7 (bdB ow pd) (J7 58 0) (q 1) 58 (16 + 4 * x) = 0 ∧ fJ J7 (bdB ow pd) (J7 58 0) (q 1) 58 (16 + 4 * x + 2) = J7 58 0 := fun x hx hb => fJ_0 hx hb
  have hfn : ∀ k, k ≠ 58 → fJ J7 (bdB ow pd) (J7 58 0) (q 1) k = J7 k := fun k hk => fJ_ne hk
  generalize fJ J7 (bdB ow pd) (J7 58 0) (q 1) = J8 at r2 hf0 hf1 hfn
  have j8o : ∀ j, 64 ≤ j → J8 58 j = J 58 j := fun j hj => by rw [hf0 j (by omega), j9, if_neg (by omega)]
  -- holds
  have h76 : ∀ j, j < 60 → J8 76 j = nI ((J 76 j).toNatClampNeg) := fun j hj => by
    obtain ⟨h, a1, a2, a3, a4⟩ := hh j hj
    rw [hfn 76 (by decide), j9n 76 (by decide), a3, nI_clamp (by omega)]
  have r3 := holds_b (J := J8) (M := M11) (s := J 58) (h := fun j => (J 76 j).toNatClampNeg) hd hq1 hq2 hq7 (by rw [hf0 7 (by omega), j9, if_neg (by decide)]; exact j7) h76 (fun j hj => j8o j (by omega)) ac
  have j9o : ∀ j, (j < 64 ∨ 124 ≤ j) → hR J8 (J 58) (fun j => (J 76 j).toNatClampNeg) (q 7) 58 j = J8 58 j := fun j hj => hR_o hj
  have j9i : ∀ j, j < 60 → hR J8 (J 58) (fun j => (J 76 j).toNatClampNeg) (q 7) 58 (64 + j) = I 9 j := fun j hj => by
    obtain ⟨h, a1, a2, a3, a4⟩ := hh j hj
    rw [hR_i hj, a4, a3, nI_clamp (by omega)]
  have j9k : ∀ k, k ≠ 58 → hR J8 (J 58) (fun j => (J 76 j).toNatClampNeg) (q 7) k = J8 k := fun k hk => hR_ne hk
  generalize hR J8 (J 58) (fun j => (J 76 j).toNatClampNeg) (q 7) = J9 at r3 j9o j9i j9k
  -- bargains end
  have w9 : WB I (J9 58) q := (WB.of iB hV.2.2.1).fr rfl (fun j e1 e2 => by rw [j9o j (by omega), j8o j (by omega)])
  obtain ⟨I11, J10, c2, r4, w10, e1, e2, e3, e4⟩ := end_sim (I := I) (J := J9) (M := M11) w9 ac
  have m12 : ∀ k, k ≠ 59 → wr M11 59 24 (fun _ => (0 : Int64)) 144 k = M11 k := fun k hk => wr_ne hk _
  have m12o : ∀ j, (j < 24 ∨ 168 ≤ j) → wr M11 59 24 (fun _ => (0 : Int64)) 144 59 j = M11 59 j := fun j hj => wr_out _ (by omega)
  have m12i : ∀ j, j < 144 → wr M11 59 24 (fun _ => (0 : Int64)) 144 59 (24 + j) = 0 := fun j hj => wr_in _ hj
  generalize wr M11 59 24 (fun _ => (0 : Int64)) 144 = M12 at r4 m12 m12o m12i
  -- men fall
  have c3 := hammer_e (I := I11) (L := mcA L ow pd co (q 1)) (ow := ow) (pd := pd) hq1 (by rw [e1 3 (by decide)]; exact i3) (fun a ha => by rw [mcA_ne (by decide) (by decide)]; exact o45 a ha) (fun a c ha hc => by rw [mcA_ne (by decide) (by decide)]; exact h43 a c ha hc) hBB
  have i13n : ∀ k, k ≠ 8 → hI I11 (bdB ow pd) (I11 1 0) (q 1) k = I11 k := fun k hk => hI_ne hk
  have i138 : ∀ j, hI I11 (bdB ow pd) (I11 1 0) (q 1) 8 j = if j < q 1 ∧ bdB ow pd j = true then nI (q 0) else I 8 j := fun j => by
    rw [hI_8, e1 1 (by decide), i0, e1 8 (by decide)]
  generalize hI I11 (bdB ow pd) (I11 1 0) (q 1) = I13 at c3 i13n i138
  -- men's cells
  have men : ∀ m, m < 12 → J10 58 (16 + 4 * m) = (if bdB ow pd m = true then 0 else J 58 (16 + 4 * m)) ∧ J10 58 (16 + 4 * m + 1) = J 58 (16 + 4 * m + 1) ∧ J10 58 (16 + 4 * m + 2) = (if bdB ow pd m = true then nI (q 0) else J 58 (16 + 4 * m + 2)) ∧ J10 58 (16 + 4 * m + 3) = J 58 (16 + 4 * m + 3) := fun m hm => by
    rw [e3 _ (by omega), e3 _ (by omega), e3 _ (by omega), e3 _ (by omega), j9o _ (by omega), j9o _ (by omega), j9o _ (by omega), j9o _ (by omega)]
    refine ⟨?_, ?_, ?_, ?_⟩
    · by_cases c : bdB ow pd m = true
      · rw [if_pos c]; exact (hf1 m (hbm m hm c).1 c).1
      · rw [if_neg c, hf0 _ (Or.inr (Or.inr (Or.inr (Or.inr (by rw [show (16 + 4 * m - 16) / 4 = m by omega]; exact Bool.eq_false_iff.mpr c))))), j9, if_neg (by omega)]
    · rw [hf0 _ (by omega), j9, if_neg (by omega)]
    · by_cases c : bdB ow pd m = true
      · rw [if_pos c, (hf1 m (hbm m hm c).1 c).2]; exact j70
      · rw [if_neg c, hf0 _ (Or.inr (Or.inr (Or.inr (Or.inr (by rw [show (16 + 4 * m + 2 - 16) / 4 = m by omega]; exact Bool.eq_false_iff.mpr c))))), j9, if_neg (by omega)]
    · rw [hf0 _ (by omega), j9, if_neg (by omega)]
  have lo : ∀ j, j < 16 → J10 58 j = if j = 9 then 1 else J 58 j := fun j hj => by
    rw [e3 _ (by omega), j9o _ (by omega), hf0 _ (by omega), j9]
  have hi10 : ∀ j, 124 ≤ j → ¬ (192 ≤ j ∧ j < 912 ∧ (j - 192) % 12 = 8) → J10 58 j = J 58 j := fun j hj hn => by
    rw [e3 _ hn, j9o _ (by omega), j8o _ (by omega)]
  have opt : ∀ i, i < q 3 → J10 58 (912 + 7 * i) = nI ((J 58 (912 + 7 * i)).toNatClampNeg) ∧ J10 58 (912 + 7 * i + 1) = nI ((J 58 (912 + 7 * i + 1)).toNatClampNeg) ∧ (J 58 (912 + 7 * i)).toNatClampNeg < q 1 ∧ (J 58 (912 + 7 * i + 1)).toNatClampNeg < q 1 := fun i hi => by
    obtain ⟨⟨g, t, k, a1, a2, a3, a4, a5, -⟩, -⟩ := hV.2.2.2.1.1 i hi
    rw [hi10 _ (by omega) (by omega), hi10 _ (by omega) (by omega), a1, a2, nI_clamp (by omega), nI_clamp (by omega)]
    exact ⟨rfl, rfl, a4, a5⟩
  -- the rest
  obtain ⟨I14, L15, J12, M14, s2, c4, r5, w12, f5, f1, f2, f3, f4, f59, fV, fs, f21, fp⟩ := others_sim (I := I13) (J := J10) (L := mcA L ow pd co (q 1)) (M := M12) (q := q) (gi := fun i => (J 58 (912 + 7 * i)).toNatClampNeg) (ti := fun i => (J 58 (912 + 7 * i + 1)).toNatClampNeg) (w10.fr (i13n 13 (by decide)) (fun _ _ _ => rfl)) (fun o ho => by
      rw [mcA_ne (by decide) (by decide), h5 o ho, m12o _ (by omega), m11o _ (by omega), m10o _ (by omega)]) (fun k hk => by rw [i13n 2 (by decide), e1 2 (by decide), i2 k hk, hi10 _ (by omega) (by omega)]) hq1 hq2 hq3 (by rw [i13n 3 (by decide), e1 3 (by decide)]; exact i3) (by rw [lo 1 (by decide), if_neg (by decide)]; exact j1) (by rw [i13n 20 (by decide), e1 20 (by decide)]; exact i20) (by rw [lo 3 (by decide), if_neg (by decide)]; exact j3) (fun a ha => by
      have nm1 : ∀ k, k ≤ 700 → ¬ (nI k : Int32) = -1 := fun k hk z => by
        have := congrArg Int32.toInt z
        rw [nI_toInt (by omega)] at this
        have : ((-1 : Int32)).toInt = -1 := by decide
        omega
      unfold F_X3_isUp
      rw [xal_n (by omega) (by decide), (men a (by omega)).1]
      by_cases c : bdB ow pd a = true
      · have e8 : I13 8 a = nI (q 0) := by rw [i138, if_pos ⟨ha, c⟩]
        rw [e8, if_neg (nm1 _ hq0), show (if bdB ow pd a = true then (0 : Int32) else J 58 (16 + 4 * a)) = 0 from if_pos c]; rfl
      · have e8 : I13 8 a = J 58 (16 + 4 * a + 2) := by rw [i138, if_neg (fun z => c z.2), iW2 a ha]
        rw [e8, show (if bdB ow pd a = true then (0 : Int32) else J 58 (16 + 4 * a)) = J 58 (16 + 4 * a) from if_neg c]
        rcases (hV.2.1.1 a ha).1 with g | ⟨g1, k, g2, g3⟩
        · rw [if_pos g.2, if_pos g.1]; rfl
        · rw [g3, g1, if_neg (nm1 _ (by omega)), if_neg (by decide)]; rfl) (fun i hi t ht => by rw [i13n 21 (by decide), e1 21 (by decide), i21 i hi t ht, hi10 _ (by omega) (by omega)]) opt
  have z12 : ∀ j, ¬ (192 ≤ j ∧ j < 912 ∧ (j - 192) % 12 = 8) → (j < 912 ∨ 1052 ≤ j ∨ (j - 912) % 7 ≠ 6) → J12 58 j = J10 58 j := fun j h1 h2 => by rw [fs j h2, fV.1 j h1]
  have hi12 : ∀ j, 124 ≤ j → ¬ (192 ≤ j ∧ j < 912 ∧ (j - 192) % 12 = 8) → (j < 912 ∨ 1052 ≤ j ∨ (j - 912) % 7 ≠ 6) → J12 58 j = J 58 j := fun j h0 h1 h2 => by rw [z12 j h1 h2, hi10 j h0 h1]
  have men12 : ∀ m, m < 12 → J12 58 (16 + 4 * m) = (if bdB ow pd m = true then 0 else J 58 (16 + 4 * m)) ∧ J12 58 (16 + 4 * m + 1) = J 58 (16 + 4 * m + 1) ∧ J12 58 (16 + 4 * m + 2) = (if bdB ow pd m = true then nI (q 0) else J 58 (16 + 4 * m + 2)) ∧ J12 58 (16 + 4 * m + 3) = J 58 (16 + 4 * m + 3) := fun m hm => by
    rw [z12 _ (by omega) (by omega), z12 _ (by omega) (by omega), z12 _ (by omega) (by omega), z12 _ (by omega) (by omega)]; exact men m hm
  have hold : ∀ j, j < 60 → J12 58 (64 + j) = I 9 j := fun j hj => by
    rw [z12 _ (by omega) (by omega), e3 _ (by omega), j9i j hj]
  have rle : ∀ j, rcv (J 58) (q 7) j ≤ 5940 := fun j => Nat.le_trans (rcv_le (q 7) j) hd.2.1
  have fin := fin_ok (I := I) (I2 := I14) (s := J 58) (s2 := J12 58) (q := q) (n := n) (H := H) (bd := bdB ow pd) hW hV h12 hH i12 (fun j hj => by rw [z12 _ (by omega) (by omega)]; exact lo j hj) men12 (fun m hm hb => (hbm m hm hb).1) (fun j hj => by
      obtain ⟨h, a1, a2, a3, a4⟩ := hh j hj
      have := rle j
      exact ⟨h + rcv (J 58) (q 7) j, by omega, by rw [hold j hj, a4], by rw [f1 9 (by decide) (by decide), i13n 9 (by decide), e1 9 (by decide), a4]⟩) (fun m k hm hk hz => by
      obtain ⟨h, a1, a2, a3, a4⟩ := hh (5 * m + k) (by omega)
      rw [hold _ (by omega), a4, a2 (hV.2.1.2.2.2.1 m k hm hk hz), rcv_z hd hq1 hq2 hm hk hz (q 7) (Nat.le_refl _)]; rfl) (fun j g1 g2 => hi12 j g1 (by omega) (by omega)) (fun j g1 g2 g3 => hi12 j (by omega) (by omega) (by omega)) (fun b hb => by
      rw [fs _ (by omega)]
      rcases fV.2.1 b hb with z | z
      · rw [z]
        rcases e4 b hb with y | y
        · left; rw [y, j9o _ (by omega), j8o _ (by omega)]
        · exact Or.inr (Or.inl y)
      · exact Or.inr (Or.inr z.1)) (fun b hb hl x hx hu => by
      have hl' : lv s2 b := ⟨by rw [← fs _ (by omega)]; exact hl.1, by rw [← fs _ (by omega)]; exact hl.2⟩
      have := fV.2.2 b hb hl' x hx (by unfold isUpP; rw [← z12 _ (by omega) (by omega)]; exact hu)
      rw [hi10 _ (by omega) (by omega), hi10 _ (by omega) (by omega)] at this; exact this) (fun j g1 g2 g3 => hi12 j (by omega) (by omega) (by omega)) (fun i hi => by
      obtain ⟨o1, o2, o3, o4⟩ := opt i hi
      rw [fp i hi, hi10 (912 + 7 * i + 6) (by omega) (by omega)]
      constructor
      · by_cases c : (J10 58 (16 + 4 * (J 58 (912 + 7 * i)).toNatClampNeg) ≠ 1 ∨ J10 58 (16 + 4 * (J 58 (912 + 7 * i + 1)).toNatClampNeg) ≠ 1) ∧ J 58 (912 + 7 * i + 6) = 0
        · rw [if_pos c]; exact Or.inr rfl
        · rw [if_neg c]; exact Or.inl rfl
      · intro z x hx hor
        rw [z12 _ (by omega) (by omega)]
        by_cases c : (J10 58 (16 + 4 * (J 58 (912 + 7 * i)).toNatClampNeg) ≠ 1 ∨ J10 58 (16 + 4 * (J 58 (912 + 7 * i + 1)).toNatClampNeg) ≠ 1) ∧ J 58 (912 + 7 * i + 6) = 0
        · rw [if_pos c] at z; exact absurd z (by decide)
        · rw [if_neg c] at z
          by_cases y : J10 58 (16 + 4 * x) = 1
          · exact y
          · exfalso
            refine c ⟨?_, z⟩
            rcases hor with w | w
            · left; rw [w, nI_clamp (by omega)]; exact y
            · right; rw [w, nI_clamp (by omega)]; exact y) (fun j hj => hi12 j (by omega) (by omega) (by omega)) (fun m hm => by
      rw [f1 8 (by decide) (by decide), i138]
      by_cases c : bdB ow pd m = true
      · rw [if_pos ⟨hm, c⟩, if_pos c]
      · rw [if_neg (fun z => c z.2), if_neg c]) w12.b f21 (fun k k1 k2 k3 => by rw [f1 k k2 k3, i13n k k1, e1 k k2])
  have coin : ∀ a, a < 12 → M14 59 a = lN (cn co pd a) ∧ cn co pd a ≤ C + B ∧ (q 1 ≤ a → cn co pd a = 0) := fun a ha => by
    have hc := h4 a ha
    have hg := hGa a ha
    rw [f59 a (by omega), m12o a (by omega)]
    have hz0 : q 1 ≤ a → cn co pd a = 0 := fun h => by
      have e1 : SF (fun k => pd k a) 12 = 0 := SF_0 12 (fun k hk => pz k a hk (by omega) (Or.inr ⟨ha, h⟩))
      unfold cn; rw [hc.2.2.2 h, e1]; omega
    refine ⟨?_, by unfold cn; omega, hz0⟩
    by_cases h : a < q 1
    · exact m11i a h
    · rw [m11o a (by omega), m10o a (by omega), hc.2.1, hc.2.2.2 (by omega), hz0 (by omega)]
  refine ⟨I14, L15, J12, M14, SF (fun a => if bdB ow pd a = true then 1 else 0) (q 1), ?_, ?_, ⟨fin.1, fin.2.1, fin.2.2.1, ⟨fun m hm => ⟨?_, ?_⟩, fun j hj => ?_, fun m hm => ⟨fun t ht => ?_, ?_⟩⟩, ⟨fun m hm => ?_, fun a b ha hb => ?_, fun m g1 g2 t ht => ?_, ?_⟩⟩, fin.2.2.2, ?_, ?_, ?_, ?_, ?_⟩
  · rw [c1, Option.bind_some, c2, Option.bind_some, c3, Option.bind_some]
    dsimp only
    rw [c4, Option.bind_some]
  · rw [r1, r2, r3, r4, r5]
  · rw [f2 4 (by decide), mcA_4, (coin m hm).1]
    by_cases h : m < q 1
    · rw [if_pos h]
    · rw [if_neg h, (h4 m hm).1, (h4 m hm).2.2.2 (by omega), (coin m hm).2.2 (by omega)]
  · exact f5 m hm
  · rw [f2 6 (by decide), mcA_ne (by decide) (by decide), h6 j hj, f59 _ (by omega), m12i j hj]
  · rw [f2 28 (by decide), mcA_28, show (5 * m + t) / 5 = m by omega, show (5 * m + t) % 5 = t by omega, f59 _ (by omega), m12o _ (by omega), m11o _ (by omega)]
    by_cases h : m < q 1
    · rw [if_pos ⟨h, ht⟩, m10i m t h ht]
    · rw [if_neg (fun z => h z.1), m10o _ (by omega), h28 m t hm ht, h168 m (by omega) hm t ht]
  · obtain ⟨b, b1, b2, b3⟩ := hb4 m hm
    rw [f2 28 (by decide), mcA_28, if_neg (by omega), b3, (men12 m hm).2.2.2, b2, nI_l (by omega)]
  · obtain ⟨y1, y2, y3⟩ := coin m hm
    rw [y1, pk_lT (by omega)]
    exact ⟨by omega, by omega, fun h => by rw [y3 h]; rfl⟩
  · have : M14 59 (24 + (12 * a + b)) = 0 := by rw [f59 _ (by omega), m12i _ (by omega)]
    rw [this]; exact ⟨by decide, fun _ => rfl⟩
  · have g1' : q 1 ≤ m := g1
    rw [f59 _ (by omega), m12o _ (by omega), m11o _ (by omega), m10o _ (by omega)]; exact h168 m g1' g2 t ht
  · rw [exS_zero 144 (fun j hj => by rw [f59 _ (by omega), m12i j hj])]; exact Int.le_refl _
  · exact upn_bd (q 1) (fun x hx => ⟨(men12 x (by omega)).1, fun hb => (hbm x (by omega) hb).2⟩)
  · exact fun k k1 k2 k3 => by rw [f1 k k2 k3, i13n k k1, e1 k k2]
  · exact fun k k1 k2 k3 => by rw [f2 k k3, mcA_ne k1 k2]
  · exact fun k hk => by rw [f3 k hk, e2 k hk, j9k k hk, hfn k hk, j9n k hk]
  · exact fun k hk => by rw [f4 k hk, m12 k hk, m11 k hk, m10 k hk]
end
