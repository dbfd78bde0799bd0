/-- bargain b is due within the days; its turn -/
abbrev dueB (s : Nat → Int32) (ac nn b : Nat) : Prop := stF s b (nI ac) ∧ dyN s b + nn ≤ 14 * ac + 13
def trn (s : Nat → Int32) (ac b : Nat) : Nat := 60 * (dyN s b + 14 - 14 * ac) + b
/-- the reference's memory when all turns before p are over -/
def RM (s : Nat → Int32) (ac nn p : Nat) (x : RS) (K : xTI) (M : xTL) : Prop := K 58 = s ∧ (∀ m, m < 12 → M 81 m = x.1 m) ∧ (∀ m, m < 12 → K 82 m = if bt x.2.1 m = true then 1 else 0) ∧ ∀ b, b < 60 → K 83 b = if dueB s ac nn b ∧ p ≤ trn s ac b then 0 else 1
section ROLLR
variable {s : Nat → Int32} {q : Nat → Nat}
theorem due_dy (hV : IVb s q) (hq0 : q 0 ≤ 700) (hq : q 1 ≤ 12) {ac b : Nat} (hac : ac < 2 ^ 31) (hb : b < 60) (h : stF s b (nI ac)) : ∃ dy, s (192 + 12 * b + 6) = nI dy ∧ dyN s b = dy ∧ dy ≤ 700 ∧ 14 * ac ≤ dy + 14 ∧ dy ≤ 14 * ac + 13 ∧ ∃ sl by_, s (192 + 12 * b + 1) = nI sl ∧ s (192 + 12 * b + 2) = nI by_ ∧ slN s b = sl ∧ buN s b = by_ ∧ sl < 12 ∧ by_ < 12 ∧ sl ≠ by_ := by
  obtain ⟨sl, by_, st, sh, pr, dy, aa, g1, g2, g3, g4, g5, g6, g7, f1, f2, f3, f4, f5, f6, f7, f8, f9, f10, f11⟩ := bg_all hV hb h.1
  have eaa : aa = ac := by
    have := h.2.2
    rw [g7] at this
    exact (nI_eq (by omega) hac).mp this
  subst eaa
  exact ⟨dy, g6, by unfold dyN; rw [g6]; exact nI_clamp (by omega), by omega, f10, f11, sl, by_, g1, g2, by unfold slN; rw [g1]; exact nI_clamp (by omega), by unfold buN; rw [g2]; exact nI_clamp (by omega), by omega, by omega, f3⟩
/-- the first that is not done -/
theorem F11_fo {K : xTI} (hs : K 58 = s) {nd : Nat → Int32} (h83 : ∀ b, b < 60 → K 83 b = if nd b ≤ 0 then 1 else 0) : F_X11_firstOf xN K = some (bI (bsN nd (fun b => s (192 + 12 * b + 6)) 60)) := by
  unfold F_X11_firstOf
  rw [xbn_e, show ((-1 : Int32), (0 : Int32)) = (fun i => (bI (bsN nd (fun b => s (192 + 12 * b + 6)) i), nI i)) 0 from rfl]
  refine xlp_for (fun i => (bI (bsN nd (fun b => s (192 + 12 * b + 6)) i), nI i)) 60 _ (fun i hi KK => ?_) (fun KK => ?_) xN (by decide)
  · show F_X11_firstOf_c4 xN K (bI (bsN nd (fun b => s (192 + 12 * b + 6)) i)) (nI i) KK = KK (bI (if nd i ≤ 0 then bsN nd (fun b => s (192 + 12 * b + 6)) i else match bsN nd (fun b => s (192 + 12 * b + 6)) i with | none => some i | some j => if s (192 + 12 * j + 6) ≤ s (192 + 12 * i + 6) then some j else some i), nI (i + 1))
    unfold F_X11_firstOf_c4
    rw [if_neg (n60 hi), xal_n hi (by decide), h83 i hi]
    by_cases g : nd i ≤ 0
    · rw [if_pos g, if_pos g, if_neg (by decide), xbn_e, nI_1]
    · rw [if_neg g, if_neg g, if_pos rfl]
      cases hb : bsN nd (fun b => s (192 + 12 * b + 6)) i with
      | none => rw [if_pos (show bI none = -1 from rfl), xbn_e, nI_1]; rfl
      | some j =>
        have hj := (bsN_in hb).1
        rw [show bI (some j) = nI j from rfl, if_neg (nI_ne_m1 (by omega)), bg11_6 hi, Option.bind_some, bg11_6 (by omega), Option.bind_some, hs]
        show _ = KK (bI (if s (192 + 12 * j + 6) ≤ s (192 + 12 * i + 6) then some j else some i), _)
        by_cases g2 : s (192 + 12 * j + 6) ≤ s (192 + 12 * i + 6)
        · rw [if_pos g2, if_pos g2, xbn_e, nI_1]; rfl
        · rw [if_neg g2, if_neg g2, xbn_e, nI_1]; rfl
  · show F_X11_firstOf_c4 xN K (bI (bsN nd (fun b => s (192 + 12 * b + 6)) 60)) (nI 60) KK = _
    unfold F_X11_firstOf_c4
    rw [if_pos (by decide)]
/-- who is not done when all turns before p are over -/
def ndF (s : Nat → Int32) (ac nn p b : Nat) : Int32 := if dueB s ac nn b ∧ p ≤ trn s ac b then 1 else 0
theorem ndF_le {ac nn p b : Nat} : ndF s ac nn p b ≤ 0 ↔ ¬ (dueB s ac nn b ∧ p ≤ trn s ac b) := by
  unfold ndF
  by_cases g : dueB s ac nn b ∧ p ≤ trn s ac b
  · rw [if_pos g]; exact ⟨fun e => absurd e (by decide), fun e => absurd g e⟩
  · rw [if_neg g]; exact ⟨fun _ => g, fun _ => by decide⟩
theorem fo_RM {ac nn p : Nat} {x : RS} {K : xTI} {M : xTL} (h : RM s ac nn p x K M) : F_X11_firstOf xN K = some (bI (bsN (ndF s ac nn p) (fun b => s (192 + 12 * b + 6)) 60)) := by
  refine F11_fo h.1 (fun b hb => ?_)
  rw [h.2.2.2 b hb]
  by_cases g : dueB s ac nn b ∧ p ≤ trn s ac b
  · rw [if_pos g, if_neg (fun e => ndF_le.mp e g)]
  · rw [if_neg g, if_pos (ndF_le.mpr g)]
theorem F11_roll (hV : IVb s q) (hq0 : q 0 ≤ 700) (hq : q 1 ≤ 12) {ac nn : Nat} (hac : ac < 2 ^ 31) (hn : nn ≤ 28) : ∀ (e p : Nat) (x : RS) (K : xTI) (M : xTL) (N : Nat), p + e = 60 * (28 - nn) → RM s ac nn p x K M → e < N → ∃ K2 M2, xlp (F_X11_rolling_b132 xN) N (nI x.2.2, bI (bsN (ndF s ac nn p) (fun b => s (192 + 12 * b + 6)) 60), K, M) = some (nI (finR s ac e p x).2.2, K2, M2) ∧ (∀ j, j ≠ 82 → j ≠ 83 → K2 j = K j) ∧ ∀ j, j ≠ 81 → M2 j = M j := by
  intro e
  induction e using Nat.strongRecOn with
  | ind e ih =>
    intro p x K M N hp hR hN
    obtain ⟨N', rfl⟩ : ∃ N', N = N' + 1 := ⟨N - 1, by omega⟩
    have hturn : ∀ p', p ≤ p' → p' < p + e → due s ac (p' / 60) (p' % 60) → dueB s ac nn (p' % 60) ∧ trn s ac (p' % 60) = p' := by
      intro p' h1 h2 hd
      obtain ⟨dy, d1, d2, d3, d4, d5, -⟩ := due_dy hV hq0 hq hac (Nat.mod_lt p' (by decide)) hd.1
      have hdd := hd.2
      refine ⟨⟨hd.1, ?_⟩, ?_⟩
      · omega
      · unfold trn; omega
    cases hb : bsN (ndF s ac nn p) (fun b => s (192 + 12 * b + 6)) 60 with
    | none =>
      have hnone := (bsN_min 60).1 hb
      refine ⟨K, M, ?_, fun _ _ _ => rfl, fun _ _ => rfl⟩
      rw [finR_id s ac e p x (fun p' h1 h2 hd => by
        obtain ⟨t1, t2⟩ := hturn p' h1 h2 hd
        exact ndF_le.mp (hnone (p' % 60) (Nat.mod_lt _ (by decide))) ⟨t1, by omega⟩), xlp_s]
      show F_X11_rolling_c132 xN (nI x.2.2) (-1) K M _ = _
      unfold F_X11_rolling_c132
      rw [if_pos rfl]
    | some j =>
      obtain ⟨hj60, hjp⟩ := bsN_in hb
      have hjd : dueB s ac nn j ∧ p ≤ trn s ac j := by
        by_cases g : dueB s ac nn j ∧ p ≤ trn s ac j
        · exact g
        · exact absurd (ndF_le.mpr g) hjp
      have hmin := (bsN_min 60).2 j hb
      obtain ⟨dy, d1, d2, d3, d4, d5, sl, by_, s1, s2, s3, s4, s5, s6, s7⟩ := due_dy hV hq0 hq hac hj60 hjd.1.1
      have hdue2 := hjd.1.2
      -- nobody's turn comes earlier
      have hfirst : ∀ b, b < 60 → dueB s ac nn b → p ≤ trn s ac b → trn s ac j ≤ trn s ac b := by
        intro b hb60 hd hpb
        obtain ⟨m1, m2⟩ := hmin b hb60 (fun z => ndF_le.mp z ⟨hd, hpb⟩)
        obtain ⟨dy', d1', d2', d3', d4', d5', -⟩ := due_dy hV hq0 hq hac hb60 hd.1
        have m1' : dy ≤ dy' := by
          have m1 : s (192 + 12 * j + 6) ≤ s (192 + 12 * b + 6) := m1
          rw [d1, d1'] at m1
          have := Int32.le_iff_toInt_le.mp m1
          rw [nI_toInt (by omega), nI_toInt (by omega)] at this
          omega
        unfold trn
        rw [d2, d2']
        by_cases e1 : dy = dy'
        · have : j ≤ b := m2 (by show s (192 + 12 * b + 6) ≤ s (192 + 12 * j + 6); rw [d1, d1', e1]; exact Int32.le_refl _)
          omega
        · omega
      have htj : trn s ac j = 60 * (dy + 14 - 14 * ac) + j := by unfold trn; rw [d2]
      have hlt : trn s ac j < 60 * (28 - nn) := by rw [htj]; omega
      -- the steps up to j's turn do nothing
      have hfin : finR s ac e p x = finR s ac (e - (trn s ac j - p) - 1) (trn s ac j + 1) (proc s j x) := by
        have h1 : e = (trn s ac j - p) + ((e - (trn s ac j - p) - 1) + 1) := by omega
        rw [h1, finR_a, finR_id s ac (trn s ac j - p) p x (fun p' h1 h2 hd => by
          obtain ⟨t1, t2⟩ := hturn p' h1 (by omega) hd
          have := hfirst (p' % 60) (Nat.mod_lt _ (by decide)) t1 (by omega)
          omega), show p + (trn s ac j - p) = trn s ac j by omega]
        show finR s ac (e - (trn s ac j - p) - 1) (trn s ac j + 1) (stp s ac (trn s ac j) x) = _
        have hst : stp s ac (trn s ac j) x = proc s j x := by
          unfold stp
          rw [htj, show (60 * (dy + 14 - 14 * ac) + j) / 60 = dy + 14 - 14 * ac by omega, show (60 * (dy + 14 - 14 * ac) + j) % 60 = j by omega, if_pos ⟨hjd.1.1, by omega⟩]
        rw [hst]
        congr 1
        omega
      have hk83 : ∀ b, b < 60 → xup K 83 j 1 83 b = if dueB s ac nn b ∧ trn s ac j + 1 ≤ trn s ac b then 0 else 1 := fun b hb60 => by
        rw [xup_at]
        by_cases eb : b = j
        · subst eb
          rw [if_pos rfl, if_neg (fun z => absurd z.2 (by omega))]
        · rw [if_neg eb, hR.2.2.2 b hb60]
          by_cases g : dueB s ac nn b ∧ p ≤ trn s ac b
          · have := hfirst b hb60 g.1 g.2
            have hne : trn s ac b ≠ trn s ac j := fun z => by
              unfold trn at z
              exact eb (by omega)
            rw [if_pos g, if_pos ⟨g.1, by omega⟩]
          · rw [if_neg g, if_neg (fun z => g ⟨z.1, by omega⟩)]
      have k58 : xup K 83 j 1 58 = s := by rw [xup_ne (by decide)]; exact hR.1
      have k82 : ∀ m, m < 12 → xup K 83 j 1 82 m = if bt x.2.1 m = true then 1 else 0 := fun m hm => by rw [xup_ne (by decide)]; exact hR.2.2.1 m hm
      -- j's turn
      have hturnj : ∃ K2 M2, (∀ k132, F_X11_rolling_c132 xN (nI x.2.2) (nI j) K M k132 = Option.bind (F_X11_firstOf xN K2) (fun v1 => k132 (nI (proc s j x).2.2, v1, K2, M2))) ∧ RM s ac nn (trn s ac j + 1) (proc s j x) K2 M2 ∧ (∀ j', j' ≠ 82 → j' ≠ 83 → K2 j' = K j') ∧ ∀ j', j' ≠ 81 → M2 j' = M j' := by
        have hb1 : F_X11_bg (xup K 83 j 1) (nI j) 2 = some (nI by_) := by rw [bg11_2 hj60, k58, s2]
        have hb2 : F_X11_bg (xup K 83 j 1) (nI j) 1 = some (nI sl) := by rw [bg11_1 hj60, k58, s1]
        have hb4 : F_X11_bg (xup K 83 j 1) (nI j) 4 = some (s (192 + 12 * j + 4)) := by rw [bg11_4 hj60, k58]
        have hb5 : F_X11_bg (xup K 83 j 1) (nI j) 5 = some (s (192 + 12 * j + 5)) := by rw [bg11_5 hj60, k58]
        have hc : ∀ k132, F_X11_rolling_c132 xN (nI x.2.2) (nI j) K M k132 = (if (if bt x.2.1 by_ = true then (1 : Int32) else 0) = 0 then (if (if bt x.2.1 sl = true then (1 : Int32) else 0) = 0 then (if (lg_cmp (M 81 by_) (wo s j)) < 0 then F_X11_rolling_j254 k132 xN (xup (xup K 83 j 1) 82 by_ 1) M (nI (x.2.2 + 1)) else F_X11_rolling_j254 k132 xN (xup K 83 j 1) (xup (xup M 81 by_ (M 81 by_ - wo s j)) 81 sl (xup M 81 by_ (M 81 by_ - wo s j) 81 sl + wo s j)) (nI x.2.2)) else F_X11_rolling_j254 k132 xN (xup K 83 j 1) M (nI x.2.2)) else F_X11_rolling_j254 k132 xN (xup K 83 j 1) M (nI x.2.2)) := fun k132 => by
          unfold F_X11_rolling_c132
          rw [if_neg (nI_ne_m1 (by omega)), xzc_1, xas_n hj60 (by decide), hb1, Option.bind_some, hb2, Option.bind_some, hb4, Option.bind_some, hb5, Option.bind_some, xbn_e, xal_n (by omega) (by decide), k82 by_ s6, xal_n (by omega) (by decide), k82 sl s5, xal_n (by omega) (by decide), xzc_1, xas_n (by omega) (by decide), xbn_e, nI_1, xal_n (by omega) (by decide), xas_n (by omega) (by decide), xal_n (by omega) (by decide), xas_n (by omega) (by decide)]
          rfl
        have hpr : proc s j x = if bt x.2.1 sl = true ∨ bt x.2.1 by_ = true then x else if wo s j ≤ x.1 by_ then (up1 (up1 x.1 by_ (x.1 by_ - wo s j)) sl (up1 x.1 by_ (x.1 by_ - wo s j) sl + wo s j), x.2) else (x.1, x.2.1 ||| (1 <<< (nI by_ &&& 31)), x.2.2 + 1) := by
          unfold proc
          rw [s3, s4]
        rw [hpr]
        by_cases q1 : bt x.2.1 by_ = true
        · rw [if_pos (Or.inr q1)]
          refine ⟨xup K 83 j 1, M, fun k132 => ?_, ⟨k58, hR.2.1, k82, hk83⟩, fun j' z1 z2 => xup_ne z2, fun _ _ => rfl⟩
          rw [hc, if_neg (by rw [if_pos q1]; decide)]
          rfl
        · by_cases q2 : bt x.2.1 sl = true
          · rw [if_pos (Or.inl q2)]
            refine ⟨xup K 83 j 1, M, fun k132 => ?_, ⟨k58, hR.2.1, k82, hk83⟩, fun j' z1 z2 => xup_ne z2, fun _ _ => rfl⟩
            rw [hc, if_pos (by rw [if_neg q1]), if_neg (by rw [if_pos q2]; decide)]
            rfl
          · rw [if_neg (fun z => z.elim q2 q1)]
            by_cases q3 : wo s j ≤ x.1 by_
            · rw [if_pos q3]
              refine ⟨xup K 83 j 1, xup (xup M 81 by_ (M 81 by_ - wo s j)) 81 sl (xup M 81 by_ (M 81 by_ - wo s j) 81 sl + wo s j), fun k132 => ?_, ⟨k58, fun m hm => ?_, k82, hk83⟩, fun j' z1 z2 => xup_ne z2, fun j' z => by rw [xup_ne z, xup_ne z]⟩
              · rw [hc, if_pos (by rw [if_neg q1]), if_pos (by rw [if_neg q2]), if_neg (by
                  rw [hR.2.1 by_ s6]
                  intro z
                  have : ¬ 0 ≤ lg_cmp (x.1 by_) (wo s j) := Int32.not_le.mpr z
                  exact this ((lg_cmp_ge _ _).mpr q3))]
                rfl
              · show _ = up1 (up1 x.1 by_ (x.1 by_ - wo s j)) sl (up1 x.1 by_ (x.1 by_ - wo s j) sl + wo s j) m
                unfold up1
                rw [xup_at, xup_at, hR.2.1 by_ s6, hR.2.1 sl s5, xup_at]
                by_cases em : m = sl
                · rw [if_pos em, if_pos em]
                · rw [if_neg em, if_neg em]
                  by_cases em2 : m = by_
                  · rw [if_pos em2, if_pos em2]
                  · rw [if_neg em2, if_neg em2]; exact hR.2.1 m hm
            · rw [if_neg q3]
              refine ⟨xup (xup K 83 j 1) 82 by_ 1, M, fun k132 => ?_, ⟨?_, hR.2.1, fun m hm => ?_, fun b hb60 => ?_⟩, fun j' z1 z2 => by rw [xup_ne z1, xup_ne z2], fun _ _ => rfl⟩
              · rw [hc, if_pos (by rw [if_neg q1]), if_pos (by rw [if_neg q2]), if_pos (by
                  rw [hR.2.1 by_ s6]
                  exact Int32.not_le.mp (fun z => q3 ((lg_cmp_ge _ _).mp z)))]
                rfl
              · rw [xup_ne (by decide)]; exact k58
              · show _ = if bt (x.2.1 ||| (1 <<< (nI by_ &&& 31))) m = true then 1 else 0
                rw [bit_o _ s6 hm, xup_at]
                by_cases em : m = by_
                · rw [if_pos em, if_pos (by simp [em])]
                · rw [if_neg em, k82 m hm]
                  simp [em]
              · rw [xup_ne (by decide)]; exact hk83 b hb60
      obtain ⟨K2, M2, c1, c2, c3, c4⟩ := hturnj
      have hf2 := fo_RM c2
      obtain ⟨K3, M3, r1, r2, r3⟩ := ih (e - (trn s ac j - p) - 1) (by omega) (trn s ac j + 1) (proc s j x) K2 M2 N' (by omega) c2 (by omega)
      refine ⟨K3, M3, ?_, fun j' z1 z2 => by rw [r2 j' z1 z2, c3 j' z1 z2], fun j' z => by rw [r3 j' z, c4 j' z]⟩
      rw [hfin, xlp_s]
      show F_X11_rolling_c132 xN (nI x.2.2) (nI j) K M _ = _
      rw [c1, hf2, Option.bind_some]
      exact r1
end ROLLR
