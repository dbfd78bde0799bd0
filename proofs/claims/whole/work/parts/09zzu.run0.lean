section
/-! run: class (I, L) and reference (J, M) step by step -/
theorem xlp_sim {S1 R1 S2 R2 : Type} {b1 : S1 → (S1 → Option R1) → Option R1} {b2 : S2 → (S2 → Option R2) → Option R2} (P : Nat → S1 → S2 → Prop) (m : Nat) (Q : Option R1 → Option R2 → Prop) (hs : ∀ i, i < m → ∀ x y, P i x y → ∃ x' y', (∀ k, b1 x k = k x') ∧ (∀ k, b2 y k = k y') ∧ P (i + 1) x' y') (he : ∀ x y, P m x y → ∃ r1 r2, (∀ k, b1 x k = r1) ∧ (∀ k, b2 y k = r2) ∧ Q r1 r2) : ∀ N1 N2, m < N1 → m < N2 → ∀ x y, P 0 x y → Q (xlp b1 N1 x) (xlp b2 N2 y) := by
  have key : ∀ d i N1 N2, i + d = m → d < N1 → d < N2 → ∀ x y, P i x y → Q (xlp b1 N1 x) (xlp b2 N2 y) := by
    intro d
    induction d with
    | zero =>
      intro i N1 N2 h h1 h2 x y hp
      obtain ⟨N1, rfl⟩ : ∃ k, N1 = k + 1 := ⟨N1 - 1, by omega⟩
      obtain ⟨N2, rfl⟩ : ∃ k, N2 = k + 1 := ⟨N2 - 1, by omega⟩
      have h' : i = m := by omega
      subst h'
      obtain ⟨r1, r2, e1, e2, hq⟩ := he x y hp
      show Q (b1 x (xlp b1 N1)) (b2 y (xlp b2 N2))
      rw [e1, e2]; exact hq
    | succ d ih =>
      intro i N1 N2 h h1 h2 x y hp
      obtain ⟨N1, rfl⟩ : ∃ k, N1 = k + 1 := ⟨N1 - 1, by omega⟩
      obtain ⟨N2, rfl⟩ : ∃ k, N2 = k + 1 := ⟨N2 - 1, by omega⟩
      obtain ⟨x', y', e1, e2, hp'⟩ := hs i (by omega) x y hp
      show Q (b1 x (xlp b1 N1)) (b2 y (xlp b2 N2))
      rw [e1, e2]
      exact ih (i + 1) N1 N2 (by omega) (by omega) (by omega) x' y' hp'
  intro N1 N2 h1 h2 x y hp
  exact key m 0 N1 N2 (by omega) h1 h2 x y hp
def mixL (L : xTL) (c : Nat → Int64) : xTL := fun k => if k = 59 then c else L k
/-- only bargain b changes: class memory and s apart -/
theorem bkB1 {I I2 : xTI} {L : xTL} {s s2 : Nat → Int32} {c : Nat → Int64} {q : Nat → Nat} {n b : Nat} (hb60 : b < 60) (hB : BR I L s c q) (hV : IV s c q n) (hne : ∀ k, 1 ≤ k → k ≤ 28 → k ≠ 13 → k ≠ 18 → k ≠ 19 → I2 k = I k) (hs : ∀ j, (j < 192 + 12 * b ∨ 192 + 12 * b + 12 ≤ j) → s2 j = s j) (hc : ∀ j, (j < 11 * b ∨ 11 * b + 11 ≤ j) → I2 13 j = I 13 j) (hb : (s2 (192 + 12 * b) = 0 ∧ I2 13 (11 * b + 7) = -1) ∨ (s2 (192 + 12 * b) = 1 ∧ (∀ t, t < 11 → I2 13 (11 * b + t) = s2 (192 + 12 * b + 1 + t)) ∧ IVbg s2 q b)) : BR I2 L s2 c q ∧ IV s2 c q n := by
  have hB' : BR (fun k => if k = 18 ∨ k = 19 then I2 k else I k) L s c q := by
    obtain ⟨h1, h2, h3, h4, h5, h6⟩ := hB
    exact ⟨h1, h2, h3, h4, h5, h6⟩
  have := bookB1 (I := mix (fun k => if k = 18 ∨ k = 19 then I2 k else I k) s) (I2 := mix I2 s2) (L := mixL L c) hb60 hB' hV (fun k h1 h2 h3 => ?_) hs hc hb
  · exact this
  · show mix I2 s2 k = mix _ s k
    unfold mix
    rw [if_neg (by omega), if_neg (by omega)]
    dsimp only
    by_cases e : k = 18 ∨ k = 19
    · rw [if_pos e]
    · rw [if_neg e]; exact hne k h1 h2 h3 (by omega) (by omega)
/-- class and reference in step; holds are at most H, coins at most C -/
def RSim (I : xTI) (L : xTL) (J : xTI) (M : xTL) (q : Nat → Nat) (n H C : Nat) : Prop := BR I L (J 58) (M 59) q ∧ IV (J 58) (M 59) q n ∧ (∀ j, j < 60 → isN (J 58 (64 + j)) H) ∧ (∀ m, m < 12 → (M 59 m).toInt ≤ C)
/-- what a closing leaves as it was, in the class and in the reference -/
def RFc (I I2 : xTI) (L L2 : xTL) : Prop := (∀ k, (k = 0 ∨ k = 29 ∨ k = 30 ∨ 55 ≤ k) → I2 k = I k) ∧ ∀ k, 55 ≤ k → L2 k = L k
def RFr (J J2 : xTI) (M M2 : xTL) : Prop := (∀ k j, (k ≤ 56 ∨ (k = 57 ∧ (j = 5 ∨ j = 44 ∨ j = 46 ∨ j = 47)) ∨ k = 60 ∨ k = 61 ∨ 84 ≤ k) → J2 k j = J k j) ∧ ∀ k, (k ≤ 56 ∨ 84 ≤ k) → M2 k = M k
theorem RFc.rfl' (I : xTI) (L : xTL) : RFc I I L L := ⟨fun _ _ => rfl, fun _ _ => rfl⟩
theorem RFr.rfl' (I : xTI) (L : xTL) : RFr I I L L := ⟨fun _ _ _ => rfl, fun _ _ => rfl⟩
theorem RFc.trans {I I2 I3 : xTI} {L L2 L3 : xTL} (h : RFc I I2 L L2) (g : RFc I2 I3 L2 L3) : RFc I I3 L L3 := ⟨fun k hk => (g.1 k hk).trans (h.1 k hk), fun k hk => (g.2 k hk).trans (h.2 k hk)⟩
theorem RFr.trans {I I2 I3 : xTI} {L L2 L3 : xTL} (h : RFr I I2 L L2) (g : RFr I2 I3 L2 L3) : RFr I I3 L L3 := ⟨fun k j hk => (g.1 k j hk).trans (h.1 k j hk), fun k hk => (g.2 k hk).trans (h.2 k hk)⟩
theorem RFr.ru {J J2 : xTI} {M M2 : xTL} (h : FrU J J2) (g : FrL M M2) : RFr J J2 M M2 := ⟨fun k j hk => h k j (by omega) (by omega), fun k hk => g k (by omega)⟩
theorem RFc.tl {I I2 : xTI} (L : xTL) (h : ∀ k, k ≠ 18 → k ≠ 19 → I2 k = I k) : RFc I I2 L L := ⟨fun k hk => h k (by omega) (by omega), fun _ _ => rfl⟩
theorem BR.tl {I I2 : xTI} {L : xTL} {s : Nat → Int32} {c : Nat → Int64} {q : Nat → Nat} (hB : BR I L s c q) (h : ∀ k, k ≠ 18 → k ≠ 19 → I2 k = I k) : BR I2 L s c q := by
  obtain ⟨h1, h2, h3, h4, h5, h6⟩ := hB
  unfold BR BRn BRm BRc BRb BRo BRr
  rw [h 1 (by decide) (by decide), h 3 (by decide) (by decide), h 20 (by decide) (by decide), h 15 (by decide) (by decide), h 22 (by decide) (by decide), h 24 (by decide) (by decide), h 26 (by decide) (by decide), h 7 (by decide) (by decide), h 8 (by decide) (by decide), h 9 (by decide) (by decide), h 10 (by decide) (by decide), h 2 (by decide) (by decide), h 13 (by decide) (by decide), h 21 (by decide) (by decide), h 23 (by decide) (by decide), h 25 (by decide) (by decide), h 27 (by decide) (by decide), h 16 (by decide) (by decide), h 17 (by decide) (by decide)]
  exact ⟨h1, h2, h3, h4, h5, h6⟩
/-- a bargain is made to stand: marks that are wanting are set -/
def stG (I : xTI) (k base p7 p8 p9 : Nat) (d : Int32) : xTI := xup (xup (xup I k (base + p8) (if I k (base + p8) = -1 then d else I k (base + p8))) k (base + p9) (if I k (base + p9) = -1 then d else I k (base + p9))) k (base + p7) 1
theorem xup_same {α : Type} (I : Nat → Nat → α) (k j : Nat) : xup I k j (I k j) = I := by
  funext k' j'
  by_cases e : k' = k
  · subst e
    rw [xup_at]
    split
    · rename_i e; rw [e]
    · rfl
  · rw [xup_ne e]
theorem stG_ne {I : xTI} {k base p7 p8 p9 : Nat} {d : Int32} {k' : Nat} (h : k' ≠ k) : stG I k base p7 p8 p9 d k' = I k' := by
  unfold stG; rw [xup_ne h, xup_ne h, xup_ne h]
theorem stG_at {I : xTI} {k base p7 p8 p9 : Nat} {d : Int32} {j : Nat} : stG I k base p7 p8 p9 d k j = if j = base + p7 then 1 else if j = base + p9 then (if I k (base + p9) = -1 then d else I k (base + p9)) else if j = base + p8 then (if I k (base + p8) = -1 then d else I k (base + p8)) else I k j := by
  unfold stG; rw [xup_at, xup_at, xup_at]
theorem F10_msG {I : xTI} {w : Nat} {d : Int32} (hw : w < 60) : F_X0_makeStand I (nI w) d = some (stG I 13 (11 * w) 7 8 9 d) := by
  unfold F_X0_makeStand F_X0_makeStand_j25 F_X0_makeStand_j50 stG
  simp only [(put12_l hw).2.2.2.2.2.2.2.1, (put12_l hw).2.2.2.2.2.2.2.2.1, (put12_l hw).2.2.2.2.2.2.2.2.2.1, at12_8 hw, at12_9 hw, Option.bind_some]
  by_cases e8 : I 13 (11 * w + 8) = -1
  · rw [if_pos e8, if_pos e8, xup_at, if_neg (show ¬ 11 * w + 9 = 11 * w + 8 by omega)]
    by_cases e9 : I 13 (11 * w + 9) = -1
    · rw [if_pos e9, if_pos e9]
    · have h9 : xup I 13 (11 * w + 8) d 13 (11 * w + 9) = I 13 (11 * w + 9) := by rw [xup_at, if_neg (by omega)]
      rw [if_neg e9, if_neg e9, ← h9, xup_same]
  · rw [if_neg e8, if_neg e8, xup_same]
    by_cases e9 : I 13 (11 * w + 9) = -1
    · rw [if_pos e9, if_pos e9]
    · rw [if_neg e9, if_neg e9, xup_same]
theorem F11_sdG {I : xTI} {w : Nat} (hw : w < 60) : F_X11_stand I (nI w) = some (stG I 58 (192 + 12 * w) 8 9 10 (I 58 0)) := by
  unfold F_X11_stand F_X11_stand_j37 F_X11_stand_j65 stG
  have x8 : ∀ (I : xTI) (v : Int32) (F : xTI → Option xTI), xas I 58 40670 (192 + 12 * nI w + 8) v F = F (xup I 58 (192 + 12 * w + 8) v) := fun I v F => by
    rw [show (192 : Int32) + 12 * nI w + 8 = nI (192 + 12 * w + 8) by rw [show (192 : Int32) = nI 192 from rfl, show (12 : Int32) = nI 12 from rfl, show (8 : Int32) = nI 8 from rfl, nI_mul, nI_add, nI_add]]
    exact xas_n (by omega) (by decide)
  have x9 : ∀ (I : xTI) (v : Int32) (F : xTI → Option xTI), xas I 58 40670 (192 + 12 * nI w + 9) v F = F (xup I 58 (192 + 12 * w + 9) v) := fun I v F => by
    rw [show (192 : Int32) + 12 * nI w + 9 = nI (192 + 12 * w + 9) by rw [show (192 : Int32) = nI 192 from rfl, show (12 : Int32) = nI 12 from rfl, show (9 : Int32) = nI 9 from rfl, nI_mul, nI_add, nI_add]]
    exact xas_n (by omega) (by decide)
  have x10 : ∀ (I : xTI) (v : Int32) (F : xTI → Option xTI), xas I 58 40670 (192 + 12 * nI w + 10) v F = F (xup I 58 (192 + 12 * w + 10) v) := fun I v F => by
    rw [show (192 : Int32) + 12 * nI w + 10 = nI (192 + 12 * w + 10) by rw [show (192 : Int32) = nI 192 from rfl, show (12 : Int32) = nI 12 from rfl, show (10 : Int32) = nI 10 from rfl, nI_mul, nI_add, nI_add]]
    exact xas_n (by omega) (by decide)
  have l9 : ∀ (I : xTI) (F : Int32 → Option xTI), xal I 58 40670 (192 + 12 * nI w + 9) F = F (I 58 (192 + 12 * w + 9)) := fun I F => by
    rw [show (192 : Int32) + 12 * nI w + 9 = nI (192 + 12 * w + 9) by rw [show (192 : Int32) = nI 192 from rfl, show (12 : Int32) = nI 12 from rfl, show (9 : Int32) = nI 9 from rfl, nI_mul, nI_add, nI_add]]
    exact xal_n (by omega) (by decide)
  have l10 : ∀ (I : xTI) (F : Int32 → Option xTI), xal I 58 40670 (192 + 12 * nI w + 10) F = F (I 58 (192 + 12 * w + 10)) := fun I F => by
    rw [show (192 : Int32) + 12 * nI w + 10 = nI (192 + 12 * w + 10) by rw [show (192 : Int32) = nI 192 from rfl, show (12 : Int32) = nI 12 from rfl, show (10 : Int32) = nI 10 from rfl, nI_mul, nI_add, nI_add]]
    exact xal_n (by omega) (by decide)
  have l0 : ∀ (I : xTI) (F : Int32 → Option xTI), xal I 58 40670 0 F = F (I 58 0) := fun I F => xal_n (i := 0) (by decide) (by decide)
  simp only [xbn_e, x8, x9, x10, l9, l10, l0]
  by_cases e8 : I 58 (192 + 12 * w + 9) = -1
  · have h0 : xup I 58 (192 + 12 * w + 9) (I 58 0) 58 0 = I 58 0 := by rw [xup_at, if_neg (by omega)]
    rw [if_pos e8, if_pos e8, h0, xup_at, if_neg (show ¬ 192 + 12 * w + 10 = 192 + 12 * w + 9 by omega)]
    by_cases e9 : I 58 (192 + 12 * w + 10) = -1
    · rw [if_pos e9, if_pos e9]
    · have h9 : xup I 58 (192 + 12 * w + 9) (I 58 0) 58 (192 + 12 * w + 10) = I 58 (192 + 12 * w + 10) := by rw [xup_at, if_neg (by omega)]
      rw [if_neg e9, if_neg e9, ← h9, xup_same]
  · rw [if_neg e8, if_neg e8, xup_same]
    by_cases e9 : I 58 (192 + 12 * w + 10) = -1
    · rw [if_pos e9, if_pos e9]
    · rw [if_neg e9, if_neg e9, xup_same]
end
