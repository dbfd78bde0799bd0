section
/-! run: names. A pass -/
theorem dvS_congr {s s2 : Nat → Int32} : ∀ n, (∀ i, i < n → s2 (4670 + 6 * i + 3) = s (4670 + 6 * i + 3)) → dvS s2 n = dvS s n
  | 0, _ => rfl
  | n + 1, h => by rw [dvS, dvS, h n (Nat.lt_succ_self n), dvS_congr n (fun i hi => h i (Nat.lt_succ_of_lt hi))]
theorem nDel.fr {s s2 s0 : Nat → Int32} {q : Nat → Nat} {ac : Int32} {d : Nat} (h : nDel s s0 q ac d) (hs : ∀ i t, i < d → t < 6 → s2 (4670 + 6 * i + t) = s (4670 + 6 * i + t)) : nDel s2 s0 q ac d := by
  intro i hi
  have e0 : s2 (4670 + 6 * i) = s (4670 + 6 * i) := hs i 0 hi (by decide)
  rw [e0, hs i 1 hi (by decide), hs i 2 hi (by decide), hs i 3 hi (by decide), hs i 5 hi (by decide)]
  exact h i hi
def nMid (I0 J0 I J : xTI) (q : Nat → Nat) (k : Nat) (ac nm has : Int32) (i T p d : Nat) (lf g : Nat → Nat) (wd D S P : Nat) : Prop := nFr I0 I J0 J ∧ nTab I J p d ∧ nDel (J 58) (J0 58) q ac d ∧ nQ I J (J0 58) q k ac (i + 1) T ∧ nLf I J (J0 58) k ac lf ∧ nGv I J (J0 58) q k ac g ∧ (i < T ∧ I 33 5 = nI ((i + 1) % 128) ∧ I 33 6 = nI (T - (i + 1)) ∧ J 57 25 = nI T) ∧ (I 34 (i % 128) = nm ∧ J 63 i = nm ∧ J 64 i = has) ∧ nCt (J 58) (T - (i + 1) + ps1 wd) T p d lf g D S P
/-- a bargain that stands: who sells, who buys, both up -/
theorem stn_all {s : Nat → Int32} {q : Nat → Nat} {b : Nat} {k ac : Int32} (hV : IVb s q) (hb : b < 60) (h : stn s b k ac) : ∃ sl by_ sh, sl < q 1 ∧ by_ < q 1 ∧ sl ≠ by_ ∧ 1 ≤ sh ∧ sh ≤ 99 ∧ s (192 + 12 * b + 1) = nI sl ∧ s (192 + 12 * b + 2) = nI by_ ∧ s (192 + 12 * b + 4) = nI sh ∧ isUpP s sl ∧ isUpP s by_ := by
  rcases hV b hb with g | ⟨-, sl, by_, st, sh, pr, dy, ac, sta, g1, g2, g3, g4, g5, g6, g7, g8, f1, f2, f3, f4, f5, f6, f7, f8, f9, f10, f11, f12, m1, m2, m3, m4, m5, m6⟩
  · have := h.1; rw [g] at this; exact absurd this (by decide)
  · have hs : nI sta = nI 1 := g8.symm.trans h.2.1
    have : sta = 1 := (nI_eq (by omega) (by decide)).mp hs
    exact ⟨sl, by_, sh, f1, f2, f3, f5, f6, g1, g2, g4, (m6 (by omega)).1, (m6 (by omega)).2⟩
theorem pass_step {I0 J0 I J : xTI} {q : Nat → Nat} {k : Nat} {ac nm has x6 x8 : Int32} {i T p d : Nat} {lf g : Nat → Nat} {wd D S P b n : Nat} (h : nMid I0 J0 I J q k ac nm has i T p d lf g wd D S P) (hV : IVb (J0 58) q) (hb : b < 60) (hl : 0 < lf b) (hn : n = min (lf b) wd) (hw : 0 < wd) (hP : P < 2 ^ 30) (hnm : ∃ a, a < q 1 ∧ nm = nI a ∧ isUpP (J0 58) a ∧ 0 < NT (J0 58) a (nI k) ac) (hx8 : x8 = -1 ∨ manU (J0 58) q x8) : nMid I0 J0 (psI I b (T % 128) (T - (i + 1)) p (nI (lf b - n)) (nI k) has nm (J0 58 (192 + 12 * b + 1)) (nI n) x6 x8) (psJ (xup J 69 b (nI (lf b - n))) i p T (nI k) (J0 58 (192 + 12 * b + 1)) (nI n) x6 x8) q k ac nm has i (T + 1) (p + 1) d (upN lf b (lf b - n)) g (wd - n) D S P := by
  obtain ⟨hF, hT, hD, hQ, hL, hG, ⟨hiT, h335, h336, h57⟩, ⟨hnm34, hnm63, hhas⟩, c1, c2, c3, c4, c5⟩ := h
  have hl99 := (hL b hb).2.2.1
  have hst := (hL b hb).2.2.2 hl
  obtain ⟨sl, by_, sh, s1, s2, s3, s4, s5, s6, s7, s8, s9, s10⟩ := stn_all hV hb hst
  have hpw : ps1 wd = 1 := by unfold ps1; rw [if_pos hw]
  have hpl : ps1 (lf b) = 1 := by unfold ps1; rw [if_pos hl]
  have hCb := SF_le (f := fun b => ps1 (lf b)) 60 hb
  have hSb := SF_le (f := lf) 60 hb
  have e1 := SF_set (f := lf) (v := lf b - n) hb
  have e2 := CF_set (f := lf) (v := lf b - n) hb
  rw [hpl] at e2
  rw [hpw] at c1 c3
  have hn1 : 1 ≤ n := by omega
  have hnl : n ≤ lf b := by omega
  have cnt : CF (upN lf b (lf b - n)) 60 + ps1 (wd - n) ≤ CF lf 60 := by
    by_cases e : lf b ≤ wd
    · have : lf b - n = 0 := by omega
      have p0 : ps1 (lf b - n) = 0 := by unfold ps1; rw [if_neg (by omega)]
      have : ps1 (wd - n) ≤ 1 := by unfold ps1; split <;> omega
      omega
    · have p0 : ps1 (wd - n) = 0 := by unfold ps1; rw [if_neg (by omega)]
      have : ps1 (lf b - n) ≤ 1 := by unfold ps1; split <;> omega
      omega
  have hJ58 : ∀ j, psJ (xup J 69 b (nI (lf b - n))) i p T (nI k) (J0 58 (192 + 12 * b + 1)) (nI n) x6 x8 58 j = if j = 6 then nI (p + 1) else if p < 300 ∧ 2570 + 7 * p ≤ j ∧ j < 2570 + 7 * p + 7 then psW (nI k) has (J0 58 (192 + 12 * b + 1)) nm (nI n) x6 x8 (j - (2570 + 7 * p)) else J 58 j := by
    intro j
    rw [psJ_58, xup_ne (by decide), xup_ne (by decide), xup_ne (by decide), hhas, hnm63]
  have hJat := fun j => psJ_at (J := xup J 69 b (nI (lf b - n))) (i := i) (p := p) (T := T) (x1 := nI k) (x3 := J0 58 (192 + 12 * b + 1)) (x4 := nI n) (x5 := x6) (x6 := x8) (j := j)
  have hJne : ∀ k', k' ≠ 57 → k' ≠ 58 → (k' < 63 ∨ 67 < k') → k' ≠ 69 → psJ (xup J 69 b (nI (lf b - n))) i p T (nI k) (J0 58 (192 + 12 * b + 1)) (nI n) x6 x8 k' = J k' := fun k' a1 a2 a3 a4 => by rw [psJ_ne a1 a2 a3, xup_ne a4]
  have hJ69 : ∀ j, psJ (xup J 69 b (nI (lf b - n))) i p T (nI k) (J0 58 (192 + 12 * b + 1)) (nI n) x6 x8 69 j = if j = b then nI (lf b - n) else J 69 j := fun j => by rw [psJ_ne (by decide) (by decide) (by decide), xup_at]
  have hIne : ∀ k', (k' < 33 ∨ 38 < k') → k' ≠ 24 → k' ≠ 25 → k' ≠ 40 → psI I b (T % 128) (T - (i + 1)) p (nI (lf b - n)) (nI k) has nm (J0 58 (192 + 12 * b + 1)) (nI n) x6 x8 k' = I k' := fun k' a1 a2 a3 a4 => by rw [psI_25 a3, xup_ne a2, lnI_ne a1, xup_ne a4]
  have hI40 : ∀ j, psI I b (T % 128) (T - (i + 1)) p (nI (lf b - n)) (nI k) has nm (J0 58 (192 + 12 * b + 1)) (nI n) x6 x8 40 j = if j = b then nI (lf b - n) else I 40 j := fun j => by rw [psI_25 (by decide), xup_ne (by decide), lnI_ne (by decide), xup_at]
  have hI24 : psI I b (T % 128) (T - (i + 1)) p (nI (lf b - n)) (nI k) has nm (J0 58 (192 + 12 * b + 1)) (nI n) x6 x8 24 3 = nI (p + 1) := by rw [psI_25 (by decide), xup_at, if_pos rfl]
  have hIat : ∀ k' j, 33 ≤ k' → k' ≤ 38 → psI I b (T % 128) (T - (i + 1)) p (nI (lf b - n)) (nI k) has nm (J0 58 (192 + 12 * b + 1)) (nI n) x6 x8 k' j = lnI (xup I 40 b (nI (lf b - n))) (T % 128) (T - (i + 1)) nm (J0 58 (192 + 12 * b + 1)) (nI n) x6 x8 k' j := fun k' j a1 a2 => by rw [psI_25 (by omega), xup_ne (by omega)]
  have hln := fun j => lnI_at (I := xup I 40 b (nI (lf b - n))) (o := T % 128) (w := T - (i + 1)) (x1 := nm) (x2 := J0 58 (192 + 12 * b + 1)) (x3 := nI n) (x4 := x6) (x5 := x8) (j := j)
  have hI25 : ∀ i' t, t < 7 → psI I b (T % 128) (T - (i + 1)) p (nI (lf b - n)) (nI k) has nm (J0 58 (192 + 12 * b + 1)) (nI n) x6 x8 25 (7 * i' + t) = if p < 300 ∧ i' = p then psW (nI k) has (J0 58 (192 + 12 * b + 1)) nm (nI n) x6 x8 t else I 25 (7 * i' + t) := by
    intro i' t ht
    have e0 : ∀ j, xup (lnI (xup I 40 b (nI (lf b - n))) (T % 128) (T - (i + 1)) nm (J0 58 (192 + 12 * b + 1)) (nI n) x6 x8) 24 3 (nI (p + 1)) 25 j = I 25 j := fun j => by rw [xup_ne (by decide), lnI_ne (by decide), xup_ne (by decide)]
    unfold psI
    by_cases hp : p < 300
    · rw [if_pos hp]
      by_cases ei : i' = p
      · rw [if_pos ⟨hp, ei⟩, ei, wr_in 7 ht]
      · rw [if_neg (fun z => ei z.2), wr_out 7 (by omega), e0]
    · rw [if_neg hp, if_neg (fun z => hp z.1), e0]
  generalize psI I b (T % 128) (T - (i + 1)) p (nI (lf b - n)) (nI k) has nm (J0 58 (192 + 12 * b + 1)) (nI n) x6 x8 = I2 at hIne hI40 hI24 hIat hI25 ⊢
  generalize psJ (xup J 69 b (nI (lf b - n))) i p T (nI k) (J0 58 (192 + 12 * b + 1)) (nI n) x6 x8 = J2 at hJ58 hJat hJne hJ69 ⊢
  have hslot : ∀ t, i ≤ t → t < T → t % 128 ≠ T % 128 := fun t a1 a2 => by omega
  have hold : ∀ k' j, 34 ≤ k' → k' ≤ 38 → j ≠ T % 128 → I2 k' j = I k' j := by
    intro k' j a1 a2 a3
    rw [hIat k' j (by omega) a2]
    have : k' = 34 ∨ k' = 35 ∨ k' = 36 ∨ k' = 37 ∨ k' = 38 := by omega
    rcases this with rfl | rfl | rfl | rfl | rfl
    · rw [(hln j).1, if_neg a3, xup_ne (by decide)]
    · rw [(hln j).2.1, if_neg a3, xup_ne (by decide)]
    · rw [(hln j).2.2.1, if_neg a3, xup_ne (by decide)]
    · rw [(hln j).2.2.2.1, if_neg a3, xup_ne (by decide)]
    · rw [(hln j).2.2.2.2.1, if_neg a3, xup_ne (by decide)]
  have hJo : ∀ k' j, 63 ≤ k' → k' ≤ 67 → j ≠ T → J2 k' j = J k' j := by
    intro k' j a1 a2 a3
    have : k' = 63 ∨ k' = 64 ∨ k' = 65 ∨ k' = 66 ∨ k' = 67 := by omega
    rcases this with rfl | rfl | rfl | rfl | rfl
    · rw [(hJat j).1, if_neg a3, xup_ne (by decide)]
    · rw [(hJat j).2.1, if_neg a3, xup_ne (by decide)]
    · rw [(hJat j).2.2.1, if_neg a3, xup_ne (by decide)]
    · rw [(hJat j).2.2.2.1, if_neg a3, xup_ne (by decide)]
    · rw [(hJat j).2.2.2.2.1, if_neg a3, xup_ne (by decide)]
  have hp30 : p < 2 ^ 30 := by omega
  refine ⟨⟨fun k' a1 a2 a3 a4 a5 a6 a7 => ?_, fun j a1 a2 a3 => ?_, fun k' j a1 => ?_⟩, ⟨hI24, ?_, ?_, ?_, fun i' a1 a2 t ht => ?_, fun i' a1 t ht => ?_⟩, ?_, fun t a1 a2 => ?_, fun b' hb' => ?_, fun m hm => ?_, ⟨by omega, ?_, ?_, ?_⟩, ⟨?_, ?_, ?_⟩, ?_⟩
  · rw [hIne k' (by omega) a3 a4 (by omega)]; exact hF.1 k' a1 a2 a3 a4 a5 a6 a7
  · rw [hJ58, if_neg a1, if_neg (by omega)]; exact hF.2.1 j a1 a2 a3
  · by_cases e : k' = 57
    · subst e; rw [(hJat j).2.2.2.2.2, if_neg (by omega), xup_ne (by decide)]; exact hF.2.2 57 j a1
    · rw [hJne k' e (by omega) (by omega) (by omega)]; exact hF.2.2 k' j a1
  · rw [hIne 26 (by decide) (by decide) (by decide) (by decide)]; exact hT.2.1
  · rw [hJ58, if_pos rfl]
  · rw [hJ58, if_neg (by omega), if_neg (by omega)]; exact hT.2.2.2.1
  · rw [hI25 i' t ht, hJ58, if_neg (show ¬ 2570 + 7 * i' + t = 6 by omega)]
    by_cases ei : i' = p
    · subst ei
      rw [if_pos ⟨a2, rfl⟩, if_pos (show i' < 300 ∧ 2570 + 7 * i' ≤ 2570 + 7 * i' + t ∧ 2570 + 7 * i' + t < 2570 + 7 * i' + 7 from ⟨a2, by omega, by omega⟩), show 2570 + 7 * i' + t - (2570 + 7 * i') = t by omega]
    · rw [if_neg (fun z => ei z.2), if_neg (by omega)]; exact hT.2.2.2.2.1 i' (by omega) a2 t ht
  · rw [hIne 27 (by decide) (by decide) (by decide) (by decide), hJ58, if_neg (by omega), if_neg (by omega)]; exact hT.2.2.2.2.2 i' a1 t ht
  · exact hD.fr (fun i' t a1 a2 => by rw [hJ58, if_neg (by omega), if_neg (by omega)])
  · by_cases e : t = T
    · subst e
      refine ⟨?_, ?_, ?_, ?_, ?_, ?_⟩
      · rw [hIat 34 _ (by decide) (by decide), (hln _).1, if_pos rfl, (hJat t).1, if_pos rfl, xup_ne (by decide), hnm63]
      · rw [hIat 35 _ (by decide) (by decide), (hln _).2.1, if_pos rfl, (hJat t).2.1, if_pos rfl]
      · rw [hIat 36 _ (by decide) (by decide), (hln _).2.2.1, if_pos rfl, (hJat t).2.2.1, if_pos rfl]
      · rw [hIat 37 _ (by decide) (by decide), (hln _).2.2.2.1, if_pos rfl, (hJat t).2.2.2.1, if_pos rfl]
      · rw [hIat 38 _ (by decide) (by decide), (hln _).2.2.2.2.1, if_pos rfl, (hJat t).2.2.2.2.1, if_pos rfl]
      · rw [(hJat t).1, if_pos rfl, (hJat t).2.1, if_pos rfl, (hJat t).2.2.1, if_pos rfl, (hJat t).2.2.2.2.1, if_pos rfl, xup_ne (by decide), hnm63]
        exact ⟨hnm, ⟨sl, s1, s6, s9⟩, ⟨n, hn1, by omega, rfl⟩, hx8⟩
    · have a3 : t < T := by omega
      have hs := hslot t (by omega) a3
      rw [hold 34 _ (by decide) (by decide) hs, hold 35 _ (by decide) (by decide) hs, hold 36 _ (by decide) (by decide) hs, hold 37 _ (by decide) (by decide) hs, hold 38 _ (by decide) (by decide) hs, hJo 63 t (by decide) (by decide) e, hJo 64 t (by decide) (by decide) e, hJo 65 t (by decide) (by decide) e, hJo 66 t (by decide) (by decide) e, hJo 67 t (by decide) (by decide) e]
      exact hQ t a1 a3
  · rw [hI40, hJ69]
    unfold upN
    by_cases e : b' = b
    · rw [if_pos e, if_pos e, if_pos e, e]; exact ⟨rfl, rfl, by omega, fun _ => hst⟩
    · rw [if_neg e, if_neg e, if_neg e]; exact hL b' hb'
  · rw [hIne 39 (by decide) (by decide) (by decide) (by decide), hJne 68 (by decide) (by decide) (by decide) (by decide)]; exact hG m hm
  · rw [hIat 33 5 (by decide) (by decide), (hln 5).2.2.2.2.2, if_neg (by decide), xup_ne (by decide)]; exact h335
  · rw [hIat 33 6 (by decide) (by decide), (hln 6).2.2.2.2.2, if_pos rfl]; congr 1; omega
  · rw [(hJat 25).2.2.2.2.2, if_pos rfl]
  · rw [hold 34 _ (by decide) (by decide) (hslot i (Nat.le_refl _) hiT)]; exact hnm34
  · rw [hJo 63 i (by decide) (by decide) (by omega)]; exact hnm63
  · rw [hJo 64 i (by decide) (by decide) (by omega)]; exact hhas
  · refine ⟨by omega, by omega, by omega, ?_, by omega⟩
    rw [dvS_congr (s := J 58) d (fun i' hi' => by rw [hJ58, if_neg (by omega), if_neg (by omega)])]
    exact c4
end
