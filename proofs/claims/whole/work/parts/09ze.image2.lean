theorem wr0 {α : Type} {I : Nat → Nat → α} {k k' : Nat} (hk : k' ≠ k) {n j : Nat} (hj : j < n) : wr I k 0 (I k') n k j = I k' j := by
  have := wr_in (I := I) (k := k) (base := 0) (w := I k') (t := j) n hj
  rw [Nat.zero_add] at this
  exact this
theorem wr0_s {α : Type} {I : Nat → Nat → α} {k k' : Nat} (hk : k' ≠ k) {i : Nat} : xup (wr I k 0 (I k') i) k i (wr I k 0 (I k') i k' i) = wr I k 0 (I k') (i + 1) := by
  rw [wr_ne hk]
  show _ = xup (wr I k 0 (I k') i) k (0 + i) (I k' i)
  rw [Nat.zero_add]
theorem n40670 {p : Nat} (h : p < 40670) : ¬ (40670 : Int32) ≤ nI p := nI_ge (b := 40670) h (by decide)
theorem n216 {p : Nat} (h : p < 216) : ¬ (216 : Int32) ≤ nI p := nI_ge (b := 216) h (by decide)
theorem p40670 : (40670 : Int32) ≤ nI 40670 := nI_le (a := 40670) (Nat.le_refl _) (by decide)
theorem p216 : (216 : Int32) ≤ nI 216 := nI_le (a := 216) (Nat.le_refl _) (by decide)
/-- the reference's image -/
theorem F11_im (I : xTI) (L : xTL) : F_X11_image xN I L = some (I 58 0, xup (wr I 84 0 (I 58) 40670) 57 44 1, wr L 85 0 (L 59) 216) := by
  have hW : ∀ i, xup (wr I 84 0 (I 58) i) 84 i (wr I 84 0 (I 58) i 58 i) = wr I 84 0 (I 58) (i + 1) := fun i => wr0_s (by decide)
  have h0 : wr I 84 0 (I 58) 0 = I := rfl
  have h58 : ∀ i, wr I 84 0 (I 58) i 58 = I 58 := fun i => wr_ne (by decide) i
  have hV : ∀ i, xup (wr L 85 0 (L 59) i) 85 i (wr L 85 0 (L 59) i 59 i) = wr L 85 0 (L 59) (i + 1) := fun i => wr0_s (by decide)
  have h0L : wr L 85 0 (L 59) 0 = L := rfl
  generalize wr I 84 0 (I 58) = W at hW h0 h58 ⊢
  generalize wr L 85 0 (L 59) = V at hV h0L ⊢
  unfold F_X11_image
  have e0 : ((0 : Int32), I) = (fun i => (nI i, W i)) 0 := by show ((0 : Int32), I) = (nI 0, W 0); rw [h0]; rfl
  have e1 : ((0 : Int32), L) = (fun i => (nI i, V i)) 0 := by show ((0 : Int32), L) = (nI 0, V 0); rw [h0L]; rfl
  rw [e0]
  refine xlp_for (fun i => (nI i, W i)) 40670 _ (fun i hi k => ?_) (fun k => ?_) xN (by decide)
  · show F_X11_image_c2 xN L (nI i) (W i) k = k (nI (i + 1), W (i + 1))
    unfold F_X11_image_c2
    rw [if_neg (n40670 hi), xal_n hi (by decide), xas_n hi (by decide), xbn_e, nI_1, hW]
  · show F_X11_image_c2 xN L (nI 40670) (W 40670) k = _
    unfold F_X11_image_c2
    rw [if_pos p40670, e1]
    refine xlp_for (fun i => (nI i, V i)) 216 _ (fun i hi k => ?_) (fun k => ?_) xN (by decide)
    · show F_X11_image_c28 xN (W 40670) (nI i) (V i) k = k (nI (i + 1), V (i + 1))
      unfold F_X11_image_c28
      rw [if_neg (n216 hi), xal_n hi (by decide), xas_n hi (by decide), xbn_e, nI_1, hV]
    · show F_X11_image_c28 xN (W 40670) (nI 216) (V 216) k = _
      unfold F_X11_image_c28
      rw [if_pos p216, xzc_1, xbn_e, show (0 : Int32) = nI 0 from rfl, xal_n (by omega) (by decide), xup_ne (k' := 58) (by decide), h58]
theorem F11_bk (I : xTI) (L : xTL) (h : I 57 44 = 1) : F_X11_back xN I L = some (wr I 58 0 (I 84) 40670 58 0, wr I 58 0 (I 84) 40670, wr L 59 0 (L 85) 216) := by
  have hW : ∀ i, xup (wr I 58 0 (I 84) i) 58 i (wr I 58 0 (I 84) i 84 i) = wr I 58 0 (I 84) (i + 1) := fun i => wr0_s (by decide)
  have h0 : wr I 58 0 (I 84) 0 = I := rfl
  have hV : ∀ i, xup (wr L 59 0 (L 85) i) 59 i (wr L 59 0 (L 85) i 85 i) = wr L 59 0 (L 85) (i + 1) := fun i => wr0_s (by decide)
  have h0L : wr L 59 0 (L 85) 0 = L := rfl
  generalize wr I 58 0 (I 84) = W at hW h0 ⊢
  generalize wr L 59 0 (L 85) = V at hV h0L ⊢
  have e0 : ((0 : Int32), I) = (fun i => (nI i, W i)) 0 := by show ((0 : Int32), I) = (nI 0, W 0); rw [h0]; rfl
  have e1 : ((0 : Int32), L) = (fun i => (nI i, V i)) 0 := by show ((0 : Int32), L) = (nI 0, V 0); rw [h0L]; rfl
  unfold F_X11_back
  rw [xbn_e, if_neg (by rw [h]; decide), e0]
  refine xlp_for (fun i => (nI i, W i)) 40670 _ (fun i hi k => ?_) (fun k => ?_) xN (by decide)
  · show F_X11_back_c16 xN L (nI i) (W i) k = k (nI (i + 1), W (i + 1))
    unfold F_X11_back_c16
    rw [if_neg (n40670 hi), xal_n hi (by decide), xas_n hi (by decide), xbn_e, nI_1, hW]
  · show F_X11_back_c16 xN L (nI 40670) (W 40670) k = _
    unfold F_X11_back_c16
    rw [if_pos p40670, e1]
    refine xlp_for (fun i => (nI i, V i)) 216 _ (fun i hi k => ?_) (fun k => ?_) xN (by decide)
    · show F_X11_back_c42 xN (W 40670) (nI i) (V i) k = k (nI (i + 1), V (i + 1))
      unfold F_X11_back_c42
      rw [if_neg (n216 hi), xal_n hi (by decide), xas_n hi (by decide), xbn_e, nI_1, hV]
    · show F_X11_back_c42 xN (W 40670) (nI 216) (V 216) k = _
      unfold F_X11_back_c42
      rw [if_pos p216, show (0 : Int32) = nI 0 from rfl, xal_n (by omega) (by decide)]
theorem is01 {x : Int32} {k : Nat} (h : x = nI k) (hk : k ≤ 1) : x = 0 ∨ x = 1 := by
  have : k = 0 ∨ k = 1 := by omega
  rcases this with rfl | rfl
  · exact Or.inl h
  · exact Or.inr h
/-- an image is made -/
theorem im_core {n : Nat} {I : xTI} {L : xTL} (hb : ∃ q, BR I L (I 58) (L 59) q ∧ IV (I 58) (L 59) q n) (h3 : xTP I) (h4 : xRW I) (h5 : xRF I) : ∃ (I1 : xTI) (L1 : xTL) (I2 : xTI) (L2 : xTL), F_X1_takeOver_87_1 I L = some (I1, L1) ∧ F_X11_image xN I1 L1 = some (I1 1 0, I2, L2) ∧ xRel true (n + 1) I2 L2 := by
  obtain ⟨q, hB, hV⟩ := hb
  have hV' := hV.mono
  obtain ⟨a0, -, -, -, -, -, -, -, a8, a9⟩ := hB.1
  have d8 : q 8 ≤ 1 := hV.1.2.2.2.2.2.2.2.2.2.1
  have d9 : q 9 ≤ 1 := hV.1.2.2.2.2.2.2.2.2.2.2
  have s0 : I 58 0 = nI (q 0) := hV.1.1 0 (by decide)
  refine ⟨tk22 I, tkL L, xup (wr (tk22 I) 84 0 (tk22 I 58) 40670) 57 44 1, wr (tkL L) 85 0 (tkL L 59) 216, tk_eq I L (is01 a8 d8) (is01 a9 d9), ?_, ?_⟩
  · rw [F11_im, tk_lo I (k := 58) (by decide), tk_lo I (k := 1) (by decide), s0, a0]
  · have lo : ∀ k, k < 87 → k ≠ 84 → k ≠ 57 → xup (wr (tk22 I) 84 0 (tk22 I 58) 40670) 57 44 1 k = I k := fun k h1 h2 h3 => by
      rw [xup_ne h3, wr_ne h2, tk_lo I h1]
    have loL : ∀ k, k < 87 → k ≠ 85 → wr (tkL L) 85 0 (tkL L 59) 216 k = L k := fun k h1 h2 => by
      rw [wr_ne h2, tk_loL L h1]
    have hi : ∀ k, 87 ≤ k → xup (wr (tk22 I) 84 0 (tk22 I 58) 40670) 57 44 1 k = tk22 I k := fun k h1 => by
      rw [xup_ne (by omega), wr_ne (by omega)]
    have hiL : ∀ k, 87 ≤ k → wr (tkL L) 85 0 (tkL L 59) 216 k = tkL L k := fun k h1 => by
      rw [wr_ne (by omega)]
    have e57 : ∀ j, j ≠ 44 → xup (wr (tk22 I) 84 0 (tk22 I 58) 40670) 57 44 1 57 j = I 57 j := fun j hj => by
      rw [xup_at, if_neg hj, wr_ne (by decide), tk_lo I (by decide)]
    have e44 : xup (wr (tk22 I) 84 0 (tk22 I 58) 40670) 57 44 1 57 44 = 1 := by rw [xup_at, if_pos rfl]
    have e84 : ∀ j, j < 40670 → xup (wr (tk22 I) 84 0 (tk22 I 58) 40670) 57 44 1 84 j = I 58 j := fun j hj => by
      rw [xup_ne (by decide), wr0 (by decide) hj, tk_lo I (by decide)]
    have e85 : ∀ j, j < 216 → wr (tkL L) 85 0 (tkL L 59) 216 85 j = L 59 j := fun j hj => by
      rw [wr0 (by decide) hj, tk_loL L (by decide)]
    generalize xup (wr (tk22 I) 84 0 (tk22 I 58) 40670) 57 44 1 = J at lo hi e57 e44 e84 ⊢
    generalize wr (tkL L) 85 0 (tkL L 59) 216 = M at loL hiL e85 ⊢
    refine ⟨⟨q, ?_, ?_⟩, ?_, ?_, ?_, Or.inr ⟨rfl, e44, q, ?_, hV'.ext e84 e85⟩⟩
    · rw [lo 58 (by decide) (by decide) (by decide), loL 59 (by decide) (by decide)]
      exact hB.frame (fun k _ _ => lo k (by omega) (by omega) (by omega)) (fun k _ _ => loL k (by omega) (by omega))
    · rw [lo 58 (by decide) (by decide) (by decide), loL 59 (by decide) (by decide)]
      exact hV'
    · exact h3.frame (by rw [lo 29 (by decide) (by decide) (by decide)]) (e57 5 (by decide)) (lo 30 (by decide) (by decide) (by decide)) (lo 61 (by decide) (by decide) (by decide))
    · exact h4.frame (e57 47 (by decide)) (e57 46 (by decide)) (by rw [lo 0 (by decide) (by decide) (by decide)]) (lo 55 (by decide) (by decide) (by decide)) (lo 86 (by decide) (by decide) (by decide))
    · intro i a b
      rw [lo 56 (by decide) (by decide) (by decide), lo 60 (by decide) (by decide) (by decide)]
      exact h5 i a b
    · have hb := tk_bk I L
      have e1 : (fun k => J (k + 86)) = fun k => if k = 0 then J 86 else tk22 I (k + 86) := by
        funext k
        by_cases e : k = 0
        · subst e; rfl
        · rw [if_neg e, hi _ (by omega)]
      have e2 : (fun k => M (k + 86)) = fun k => if k = 0 then M 86 else tkL L (k + 86) := by
        funext k
        by_cases e : k = 0
        · subst e; rfl
        · rw [if_neg e, hiL _ (by omega)]
      rw [e1, e2]
      exact hB.ext hV.1 hb e84 e85
theorem pr_image : xs_image xRel := by
  refine ⟨fun n I L hn h => ?_, fun n I L hn h => ?_⟩
  · obtain ⟨hb, h3, h4, h5, -⟩ := h
    obtain ⟨I1, L1, I2, L2, e1, e2, e3⟩ := im_core hb h3 h4 h5
    refine ⟨I1 1 0, I1, L1, I2, L2, ?_, e2, e3⟩
    unfold F_X10_image_t
    rw [e1]; rfl
  · obtain ⟨⟨q, hB, hV⟩, h3, h4, h5, -⟩ := h
    have lo : ∀ k, k < 87 → xnI I k = I k := fun k hk => by unfold xnI; rw [if_pos hk]
    have loL : ∀ k, k < 87 → xnL L k = L k := fun k hk => by unfold xnL; rw [if_pos hk]
    refine im_core ⟨q, ?_, ?_⟩ ?_ ?_ ?_
    · rw [lo 58 (by decide), loL 59 (by decide)]
      exact hB.frame (fun k _ _ => lo k (by omega)) (fun k _ _ => loL k (by omega))
    · rw [lo 58 (by decide), loL 59 (by decide)]
      exact hV
    · exact h3.frame (by rw [lo 29 (by decide)]) (by rw [lo 57 (by decide)]) (lo 30 (by decide)) (lo 61 (by decide))
    · exact h4.frame (by rw [lo 57 (by decide)]) (by rw [lo 57 (by decide)]) (by rw [lo 0 (by decide)]) (lo 55 (by decide)) (lo 86 (by decide))
    · intro i a b
      rw [lo 56 (by decide), lo 60 (by decide)]
      exact h5 i a b
theorem pr_back : xs_back xRel := by
  refine ⟨fun n I L hn h => ?_, fun n I L hn h => ?_⟩
  · obtain ⟨-, h3, h4, h5, h6⟩ := pr_mono _ _ _ _ h
    rcases h6 with ⟨g, -⟩ | ⟨-, h44, q, hB, hV⟩
    · cases g
    obtain ⟨a0, -, -, -, -, -, -, -, a8, a9⟩ := hB.1
    have d8 : q 8 ≤ 1 := hV.1.2.2.2.2.2.2.2.2.2.1
    have d9 : q 9 ≤ 1 := hV.1.2.2.2.2.2.2.2.2.2.2
    have s0 : I 84 0 = nI (q 0) := hV.1.1 0 (by decide)
    have ex : F_X10_back_t I L = some (bk22 I 1 0, bk22 I, bkL L) := by
      unfold F_X10_back_t
      rw [bk_eq I L (is01 a8 d8) (is01 a9 d9)]; rfl
    have hk := bk_bk I L
    refine ⟨bk22 I 1 0, bk22 I, bkL L, wr (bk22 I) 58 0 (bk22 I 84) 40670, wr (bkL L) 59 0 (bkL L 85) 216, ex, F11_bk _ _ (by rw [bk_lo I (k := 57) (by decide)]; exact h44) |>.trans ?_, ?_⟩
    · rw [wr0 (by decide) (by omega), bk_lo I (k := 84) (by decide), s0]
      rw [show bk22 I 1 0 = I 87 0 from hk.1.1, show I 87 0 = nI (q 0) from a0]
    · have lo : ∀ k, (k = 0 ∨ 29 ≤ k) → k ≠ 58 → wr (bk22 I) 58 0 (bk22 I 84) 40670 k = I k := fun k h1 h2 => by
        rw [wr_ne h2, bk_lo I h1]
      have loL : ∀ k, (k = 0 ∨ 29 ≤ k) → k ≠ 59 → wr (bkL L) 59 0 (bkL L 85) 216 k = L k := fun k h1 h2 => by
        rw [wr_ne h2, bk_loL L h1]
      have hi : ∀ k, 1 ≤ k → k ≤ 28 → wr (bk22 I) 58 0 (bk22 I 84) 40670 k = bk22 I k := fun k h1 h2 => by
        rw [wr_ne (by omega)]
      have hiL : ∀ k, 1 ≤ k → k ≤ 28 → wr (bkL L) 59 0 (bkL L 85) 216 k = bkL L k := fun k h1 h2 => by
        rw [wr_ne (by omega)]
      have e58 : ∀ j, j < 40670 → wr (bk22 I) 58 0 (bk22 I 84) 40670 58 j = I 84 j := fun j hj => by
        rw [wr0 (by decide) hj, bk_lo I (by decide)]
      have e59 : ∀ j, j < 216 → wr (bkL L) 59 0 (bkL L 85) 216 59 j = L 85 j := fun j hj => by
        rw [wr0 (by decide) hj, bk_loL L (by decide)]
      generalize wr (bk22 I) 58 0 (bk22 I 84) 40670 = J at lo hi e58 ⊢
      generalize wr (bkL L) 59 0 (bkL L 85) 216 = M at loL hiL e59 ⊢
      refine h.book (xSame.of lo (fun k hk => loL k (by omega) (by omega))) ⟨q, ?_, hV.ext e58 e59⟩
      have := BR.ext hB hV.1 hk e58 e59
      exact this.frame hi hiL
  · have h0 := h
    obtain ⟨-, h3, h4, h5, h6⟩ := h
    rcases h6 with ⟨-, h44⟩ | ⟨g, -⟩
    · have e1 := F10_rf I (-2) 2 (by decide) (by decide)
      refine ⟨-2, xup I 56 2 (I 56 2 + 1), rf I 2, L, ?_, ?_, h0.rf 2⟩
      · unfold F_X10_back_f
        rw [e1]; rfl
      · unfold F_X11_back
        rw [xbn_e, if_pos (by rw [xup_ne (by decide)]; exact h44), F11_rf _ (-2) 2 (by decide) (by decide), Option.bind_some, rf_eq]
    · cases g
theorem yfB_at (j : Nat) : ∀ b, b ≤ 60 → yfB b j = if ∃ i, i < b ∧ j = 11 * i + 7 then -1 else 0
  | 0, _ => by
    rw [if_neg (by rintro ⟨i, hi, -⟩; omega)]
    rfl
  | b + 1, h => by
    have ih := yfB_at j b (by omega)
    have hc : (nI b * 11 + 7).toNatClampNeg = 11 * b + 7 := by
      rw [show (11 : Int32) = nI 11 from rfl, show (7 : Int32) = nI 7 from rfl, nI_mul, nI_add, nI_clamp (by omega)]
      omega
    show upd (yfB b) (nI b * 11 + 7).toNatClampNeg (-1) j = _
    rw [hc]
    unfold upd
    by_cases e : j = 11 * b + 7
    · rw [if_pos e, if_pos ⟨b, by omega, e⟩]
    · rw [if_neg e, ih]
      by_cases g : ∃ i, i < b ∧ j = 11 * i + 7
      · obtain ⟨i, h1, h2⟩ := g
        rw [if_pos ⟨i, h1, h2⟩, if_pos ⟨i, by omega, h2⟩]
      · rw [if_neg g, if_neg]
        rintro ⟨i, h1, h2⟩
        by_cases e2 : i = b
        · subst e2; exact e h2
        · exact g ⟨i, by omega, h2⟩
theorem x0_z {k j : Nat} (h1 : k ≠ 13) (h2 : k ≠ 99) (h3 : k ≠ 0) : x0I k j = 0 := by
  unfold x0I
  rw [if_neg (by omega), if_neg (by omega)]
theorem pr_0 : xRel false 0 x0I x0L := by
  have z58 : ∀ j, x0I 58 j = 0 := fun j => x0_z (by decide) (by decide) (by decide)
  have hz : (0 : Int32) = nI 0 := rfl
  refine ⟨⟨fun _ => 0, ⟨?_, ⟨fun m hm => absurd hm (Nat.not_lt_zero _), fun j hj => ?_, fun k hk => ?_⟩, ⟨fun m hm => ⟨rfl, rfl⟩, fun j hj => rfl, fun m hm => ⟨fun t ht => rfl, ?_⟩⟩, fun b hb => Or.inl ⟨z58 _, ?_⟩, ⟨fun i hi => absurd hi (Nat.not_lt_zero _), fun i hi => absurd hi (Nat.not_lt_zero _), fun i hi => absurd hi (Nat.not_lt_zero _), fun i hi => absurd hi (Nat.not_lt_zero _)⟩, fun r hr => absurd hr (Nat.not_lt_zero _)⟩, ?_⟩, ⟨0, by decide, ?_, ?_, fun i hi => absurd hi (Nat.not_lt_zero _)⟩, Or.inl ⟨?_, ?_⟩, fun i _ _ => ?_, Or.inl ⟨rfl, ?_⟩⟩
  · refine ⟨?_, ?_, ?_, ?_, ?_, ?_, ?_, ?_, ?_, ?_⟩ <;> exact x0_z (by decide) (by decide) (by decide)
  · exact ⟨(x0_z (by decide) (by decide) (by decide)).trans (z58 _).symm, (x0_z (by decide) (by decide) (by decide)).trans (z58 _).symm⟩
  · exact (x0_z (by decide) (by decide) (by decide)).trans (z58 _).symm
  · rw [z58]; rfl
  · unfold x0I
    rw [if_pos (Or.inl rfl), yfB_at _ 60 (by decide), if_pos ⟨b, hb, rfl⟩]
  · refine ⟨⟨fun i _ => z58 _, ?_⟩, ⟨fun m hm => absurd hm (Nat.not_lt_zero _), fun m _ _ => ⟨z58 _, z58 _⟩, fun j hj => ⟨⟨0, by omega, z58 _⟩, ⟨0, by omega, z58 _⟩⟩, fun m k _ _ _ => z58 _, fun k hk => ⟨0, by omega, z58 _⟩⟩, fun b hb => Or.inl (z58 _), ⟨fun i hi => absurd hi (Nat.not_lt_zero _), fun i hi => absurd hi (Nat.not_lt_zero _)⟩, ⟨fun m hm => ⟨?_, ?_, fun _ => rfl⟩, fun a b ha hb => ⟨?_, ?_, fun _ => rfl⟩, fun m _ _ t _ => rfl, by rw [exS_zero 144 (fun j _ => rfl)]; decide⟩, ⟨fun i hi => absurd hi (Nat.not_lt_zero _), by decide, fun i j hi => absurd hi (Nat.not_lt_zero _)⟩, fun r hr => absurd hr (Nat.not_lt_zero _)⟩
    · simp
    · show 0 ≤ (0 : Int64).toInt; decide
    · show (0 : Int64).toInt ≤ _; simp
    · show 0 ≤ (0 : Int64).toInt; decide
    · show (0 : Int64).toInt ≤ _; simp
  · exact x0_z (by decide) (by decide) (by decide)
  · exact x0_z (by decide) (by decide) (by decide)
  · exact x0_z (by decide) (by decide) (by decide)
  · unfold x0I
    rw [if_neg (by decide), if_pos ⟨rfl, rfl⟩]
  · exact (x0_z (by decide) (by decide) (by decide)).trans (x0_z (by decide) (by decide) (by decide)).symm
  · exact x0_z (by decide) (by decide) (by decide)
