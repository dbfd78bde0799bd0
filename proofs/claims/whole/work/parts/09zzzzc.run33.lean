section
/-! run: settling, whole -/
theorem OWs.s {L M : xTL} {s s2 : Nat → Int32} {q : Nat → Nat} {ex rf : Nat → Nat → Nat} {mk : Nat → Nat} {B : Nat} (h : OWs L M s q ex rf mk B) (hs : ∀ a, a < q 1 → s2 (16 + 4 * a) = s (16 + 4 * a)) : OWs L M s2 q ex rf mk B := by
  have hm : ∀ a, manA s2 q a ↔ manA s q a := fun a => by
    unfold manA isUpP
    exact ⟨fun z => ⟨z.1, by rw [← hs a z.1]; exact z.2⟩, fun z => ⟨z.1, by rw [hs a z.1]; exact z.2⟩⟩
  obtain ⟨h1, h2, h3, h4, h5⟩ := h
  exact ⟨h1, h2, fun a b ha hb z => h3 a b ha hb (by rw [hm, hm] at z; exact z), fun a ha z => h4 a ha (fun y => z ((hm a).mpr y)), h5⟩
theorem OWn.s {L L2 M M2 : xTL} {s s2 : Nat → Int32} {q : Nat → Nat} {ow : Nat → Nat → Nat} {B : Nat} (h : OWn L M s q ow B) (hs : ∀ a, a < q 1 → s2 (16 + 4 * a) = s (16 + 4 * a)) (l1 : L2 42 = L 42) (l2 : L2 45 = L 45) (m1 : M2 70 = M 70) (m2 : M2 71 = M 71) (m3 : M2 72 = M 72) : OWn L2 M2 s2 q ow B := by
  have hm : ∀ a, manA s2 q a ↔ manA s q a := fun a => by
    unfold manA isUpP
    exact ⟨fun z => ⟨z.1, by rw [← hs a z.1]; exact z.2⟩, fun z => ⟨z.1, by rw [hs a z.1]; exact z.2⟩⟩
  obtain ⟨h1, h2, h3, h4, h5, h6, h7⟩ := h
  unfold OWn
  rw [l1, l2, m1, m2, m3]
  exact ⟨h1, h2, h3, h4, h5, fun a c ha hc z => h6 a c ha hc (by rw [hm, hm] at z; exact z), h7⟩
theorem OWn.le_ {L M : xTL} {s : Nat → Int32} {q : Nat → Nat} {ow : Nat → Nat → Nat} {B B2 : Nat} (h : OWn L M s q ow B) (hb : B ≤ B2) : OWn L M s q ow B2 := ⟨h.1, h.2.1, h.2.2.1, h.2.2.2.1, h.2.2.2.2.1, h.2.2.2.2.2.1, Nat.le_trans h.2.2.2.2.2.2 hb⟩
theorem upn_cg {s s2 : Nat → Int32} : ∀ m, (∀ x, x < m → s2 (16 + 4 * x) = s (16 + 4 * x)) → upn s2 m = upn s m
  | 0, _ => rfl
  | m + 1, h => by
    show upn s2 m + (if s2 (16 + 4 * m) = 1 then 1 else 0) = upn s m + (if s (16 + 4 * m) = 1 then 1 else 0)
    rw [upn_cg m (fun x hx => h x (by omega)), h m (by omega)]
theorem settle_sim {I : xTI} {L : xTL} {J : xTI} {M : xTL} {q : Nat → Nat} {n H C E : Nat} (hS : RSt I L J M q n H C E) (h12 : q 0 % 14 = 12) (hH : H + 5940 ≤ 200000 * n) (hH2 : H ≤ 2 ^ 30) (hC : C ≤ 2 ^ 60) (hE : E ≤ 830768400) (ac : Int32) : ∃ I2 L2 J2 M2 cnt, F_X6_settleAccount xN I L ac = some (nI cnt, I2, L2) ∧ F_X11_settles xN J M ac = some (J2, M2) ∧ RSu I2 L2 J2 M2 (qs q 9 1) n (H + 5940) (C + 2196831780) 0 ∧ IVd (J2 58) (qs (qs q 9 1) 0 (q 0 + 1)) ∧ upn (J 58) (q 1) = upn (J2 58) (q 1) + cnt ∧ RFc I I2 L L2 ∧ RFr J J2 M M2 := by
  obtain ⟨hI, hV, hHb, hc, hCE⟩ := id hS
  have hq1 : q 1 ≤ 12 := hV.1.2.2.1
  have hq2 : q 2 ≤ 5 := hV.1.2.2.2.1
  obtain ⟨L3, J3, M3, o1, o2, oO, o28, oL, oJ, oJk, oM⟩ := owed0 hS ac
  have s3 : ∀ j, ¬ bgc j → J3 58 j = J 58 j := fun j hj => by rw [oJ, if_neg hj]
  have b3 : ∀ m, m < 12 → J3 58 (16 + 4 * m + 3) = 0 := fun m hm => by rw [oJ, if_pos (by omega)]
  have hV3 : IVi (J3 58) q n := iv_of hV s3 (fun m hm => ⟨0, by decide, b3 m hm, fun _ => rfl⟩)
  have i1n : ∀ k, k ≠ 1 → xup I 1 12 1 k = I k := fun k hk => xup_ne hk
  have i1j : ∀ j, xup I 1 12 1 1 j = if j = 12 then 1 else I 1 j := fun j => xup_at
  have hcl : F_X6_settleAccount xN I L ac = Option.bind (Option.bind (F_J7_fill_d0a16_42 xN L 0) (fun L2 => F_J7_fill_d0a16_28 xN L2 0)) (fun L3 => Option.bind (F_X6_oweDifferences xN (xup I 1 12 1) L3 ac) (fun L4 => Option.bind (F_X6_oweDeliveries xN (xup I 1 12 1) L4) (fun (I5, L6) => Option.bind (Option.bind (F_X6_oweExtra xN L6) (fun L7 => F_X6_leaveTheRest xN L7)) (fun L8 => Option.bind (F_X6_payInRounds xN I5 L8) (fun L9 => Option.bind (F_X6_moveCoin xN I5 L9) (fun L10 => Option.bind (F_X6_endBargains xN I5 ac) (fun I11 => Option.bind (F_X6_hammer xN I11 L10) (fun (v12, I13) => Option.bind (F_X6_voidOthers xN I13 L10) (fun (I14, L15) => some (v12, I14, L15)))))))))) := by
    unfold F_X6_settleAccount
    rw [xzc_1, xbn_e, Option.bind_assoc]
    simp only [Option.bind_assoc]
  generalize xup I 1 12 1 = I1 at i1n i1j hcl
  have hW3 : BRw I1 (J3 58) q := bw_of hI hV (fun k h1 _ _ _ => i1n k h1) (fun j hj => by rw [i1j, if_neg hj]) s3
  have oO3 := oO.s (s2 := J3 58) (fun a ha => s3 _ (by omega))
  obtain ⟨L4, M4, rf2, d1, d2, dO, dL, dM⟩ := diff_sim (I := I1) (J := J3) (s := J3 58) oO3 hW3.2.2.1 hV3.2.2.1 (fun k hk => ⟨hW3.2.1.2.2 k hk, hV3.2.1.2.2.2.2 k hk⟩) (fun _ _ => rfl) hq1 hq2 ac (nI (q 1))
  have a58 : wr J3 76 0 (fun j => J3 58 (64 + j)) 60 58 = J3 58 := wr_ne (by decide) _
  have a76 : ∀ j, j < 60 → wr J3 76 0 (fun j => J3 58 (64 + j)) 60 76 j = J3 58 (64 + j) := fun j hj => wrZ hj
  have an : ∀ k, k ≠ 76 → wr J3 76 0 (fun j => J3 58 (64 + j)) 60 k = J3 k := fun k hk => wr_ne hk _
  have r3 := holds_e J3 M4 (nI (q 1))
  generalize wr J3 76 0 (fun j => J3 58 (64 + j)) 60 = Ja at a58 a76 an r3
  have hSa : dSt I1 I1 L4 L4 Ja Ja M4 M4 q H (exN (M 59)) rf2 (fun _ => 0) (E + 59394060) 0 := by
    refine ⟨fun _ _ _ _ => rfl, fun _ _ _ => rfl, fun _ _ => rfl, fun _ _ _ _ _ _ => rfl, fun _ _ _ _ => rfl, fun j hj => ?_, fun m hm => ⟨0, Nat.zero_le _, ?_, ?_, fun _ => rfl⟩, fun m t hm ht => ?_, ?_⟩
    · obtain ⟨h, h1, h2⟩ := hHb j hj
      have e : J3 58 (64 + j) = nI h := by rw [s3 _ (by omega)]; exact h2
      refine ⟨h, h1, fun z => ?_, by rw [a76 j hj, e], ?_⟩
      · rw [a58, e] at z; exact nI_zero (by omega) z
      · rw [i1n 9 (by decide), (hI.2.1.2.1 j hj).1, h2]; rfl
    · rw [a58]; exact b3 m hm
    · rw [dL 28 (by decide), o28 _ (by omega)]; rfl
    · rw [dL 28 (by decide), o28 _ (by omega)]
    · rw [a58]; exact dO
  obtain ⟨I5, L6, J6, M6, rf3, mk3, v1, v2, dS⟩ := dlv_sim (Ia := I1) (Ja := Ja) (La := L4) (Ma := M4) (n := n) (by rw [a58]; exact hW3) (by rw [a58]; exact hV3) h12 hH2 hSa (nI (q 1))
  have hd3 : IVd (Ja 58) q := by rw [a58]; exact hV3.2.2.2.2.1
  obtain ⟨f1, f2, f3, f4, f5, f6, f7, f8, fO⟩ := id dS
  have hB6 : E + 59394060 + 219978 * dvS (Ja 58) (q 7) ≤ 2196831780 := by have := hd3.2.1; omega
  have l6 : ∀ k, k ≠ 42 → k ≠ 28 → L6 k = L k := fun k h1 h2 => by rw [f2 k h1 h2, dL k h1, oL k h1 h2]
  have m6 : ∀ k, k ≠ 57 → k ≠ 70 → k ≠ 71 → M6 k = M k := fun k h1 h2 h3 => by rw [f5 k h1 h2 h3, dM k h2, oM k h2 h3]
  have s6 : ∀ j, ¬ bgc j → J6 58 j = J 58 j := fun j hj => by rw [f3 j hj, a58, s3 j hj]
  have s63 : ∀ j, ¬ bgc j → J6 58 j = Ja 58 j := f3
  obtain ⟨L8, M8, ow, e1, e2, eN, e6, eL, eM⟩ := rest_sim (J := J6) (L := L6) (M := M6) fO hq1 (by omega) (fun a b ha hb => by
    rw [l6 6 (by decide) (by decide), hc.2.1 _ (by omega)]; exact lN_of (hCE.2.1 a b ha hb).1)
  have hco : ∀ a, a < 12 → M 59 a = lN (M 59 a).toInt.toNat ∧ (M 59 a).toInt.toNat ≤ C ∧ (q 1 ≤ a → (M 59 a).toInt.toNat = 0) := fun a ha => by
    obtain ⟨z1, z2, z3⟩ := hCE.1 a ha
    exact ⟨lN_of z1, by omega, fun h => by rw [z3 h]; rfl⟩
  have i53 : I5 3 0 = nI (q 1) := by rw [f1 3 (by decide) (by decide) (by decide)]; exact hW3.1.2.1
  have j61 : J6 58 1 = nI (q 1) := by rw [s6 1 (by omega)]; exact hV.1.1 1 (by decide)
  obtain ⟨L9, M9, pd, p1, p2, pR⟩ := pay_sim (I := I5) (J := J6) (co := fun a => (M 59 a).toInt.toNat) (C := C) (eN.le_ (hB6)) (by decide) hq1 i53 j61 (fun a ha => ⟨by
      rw [eL 4 (by decide) (by decide) (by decide), l6 4 (by decide) (by decide), (hc.1 a ha).1]; exact (hco a ha).1, by rw [eM 59 (by decide) (by decide), m6 59 (by decide) (by decide) (by decide)]; exact (hco a ha).1, (hco a ha).2.1⟩) (by omega) ac
  obtain ⟨p43, p73, p75, pP, pL, pM⟩ := pR
  have m9 : M9 59 = M 59 := by rw [pM 59 (by decide) (by decide) (by decide), eM 59 (by decide) (by decide), m6 59 (by decide) (by decide) (by decide)]
  have l9 : ∀ k, k ≠ 42 → k ≠ 28 → k ≠ 6 → k ≠ 45 → k ≠ 43 → k ≠ 44 → L9 k = L k := fun k h1 h2 h3 h4 h5 h6 => by rw [pL k h5 h6, eL k h1 h3 h4, l6 k h1 h2]
  have l928 : L9 28 = L6 28 := by rw [pL 28 (by decide) (by decide), eL 28 (by decide) (by decide) (by decide)]
  have hW6 : BRw I5 (J6 58) q := BRw.fr (n := n) (s := Ja 58) (Ia := I1) (by rw [a58]; exact hW3) (by rw [a58]; exact hV3) f1 s63
  have dle : dvS (Ja 58) (q 7) ≤ 5940 := hd3.2.1
  have hV6 : IVi (J6 58) q n := iv_of (s := Ja 58) (by rw [a58]; exact hV3) s63 (fun m hm => by obtain ⟨b, b1, b2, -, b4⟩ := f7 m hm; exact ⟨b, by omega, b2, b4⟩)
  obtain ⟨I2, L2, J2, M2, cnt, x1, x2, x3, x4, x5, x6, x7, x8, x9⟩ := settle_b (I := I5) (J := J6) (L := L9) (M := M9) (q := q) (n := n) (H := H) (C := C) (B := 2196831780) (ow := ow) (pd := pd) (co := fun a => (M 59 a).toInt.toNat) hW6 hV6 h12 hH hH2 (by decide) hC (by rw [f1 1 (by decide) (by decide) (by decide), i1j, if_pos rfl]) (fun j hj => by
      obtain ⟨h, z1, z2, z3, z4⟩ := f6 j hj
      refine ⟨h, z1, fun z => z2 ?_, z3, ?_⟩
      · rw [← s63 _ (by omega)]; exact z
      · rw [rcv_congr (s := Ja 58) (fun j hj => s63 j (by omega))]; exact z4) (fun m hm => by
      obtain ⟨b, z1, z2, z3, -⟩ := f7 m hm
      exact ⟨b, by omega, z2, by rw [l928]; exact z3⟩) (fun m t hm ht => by rw [l928]; exact f8 m t hm ht) (fun a ha => ⟨by
      rw [l9 4 (by decide) (by decide) (by decide) (by decide) (by decide) (by decide), (hc.1 a ha).1]; exact (hco a ha).1, by rw [m9]; exact (hco a ha).1, (hco a ha).2.1, (hco a ha).2.2⟩) (fun o ho => by
      rw [l9 5 (by decide) (by decide) (by decide) (by decide) (by decide) (by decide), m9]; exact (hc.1 o ho).2) (fun j hj => by rw [pL 6 (by decide) (by decide)]; exact e6 j hj) (fun m g1 g2 t ht => by rw [m9]; exact hCE.2.2.1 m g1 g2 t ht) ((eN.le_ hB6).s (fun a ha => s63 _ (by omega)) (pL 42 (by decide) (by decide)) (pL 45 (by decide) (by decide)) (pM 70 (by decide) (by decide) (by decide)) (pM 71 (by decide) (by decide) (by decide)) (pM 72 (by decide) (by decide) (by decide))) p43 (fun a b ha hb => (p73 a b ha hb).1) p75 pP ac
  refine ⟨I2, L2, J2, M2, cnt, ?_, ?_, x3, x4, ?_, ⟨fun k hk => ?_, fun k hk => ?_⟩, ⟨fun k j hk => ?_, fun k hk => ?_⟩⟩
  · rw [hcl, o1, Option.bind_some, d1, Option.bind_some, v1, Option.bind_some]
    dsimp only
    rw [e1, Option.bind_some, p1, Option.bind_some]; exact x1
  · unfold F_X11_settles
    rw [o2, d2, r3, v2, e2, Option.bind_some]
    dsimp only
    rw [p2]; exact x2
  · rw [← x5]
    exact (upn_cg (q 1) (fun x hx => s6 _ (by omega))).symm
  · rw [x6 k (by omega) (by omega) (by omega), f1 k (by omega) (by omega) (by omega), i1n k (by omega)]
  · rw [x7 k (by omega) (by omega) (by omega), l9 k (by omega) (by omega) (by omega) (by omega) (by omega) (by omega)]
  · rw [x8 k (by omega), f4 k j (by omega) (by omega) (by omega) (by omega), an k (by omega), oJk k (by omega)]
  · rw [x9 k (by omega), pM k (by omega) (by omega) (by omega), eM k (by omega) (by omega), m6 k (by omega) (by omega) (by omega)]
end
