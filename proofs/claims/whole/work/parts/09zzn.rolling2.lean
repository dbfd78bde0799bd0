/-- the class's coins laid beside -/
def Lf (L : xTL) (co : Nat → Int64) : xTL := fun k j => if k = 54 ∧ j < 12 then co j else L k j
theorem Lf_at {L : xTL} {co : Nat → Int64} {m : Nat} (hm : m < 12) : Lf L co 54 m = co m := by unfold Lf; rw [if_pos ⟨rfl, hm⟩]
theorem Lf_up {L : xTL} {co : Nat → Int64} {m : Nat} {v : Int64} (hm : m < 12) : xup (Lf L co) 54 m v = Lf L (up1 co m v) := by
  funext k j
  unfold xup Lf up1
  by_cases e : k = 54 ∧ j = m
  · rw [if_pos e, if_pos ⟨e.1, by omega⟩, if_pos e.2]
  · rw [if_neg e]
    by_cases g : k = 54 ∧ j < 12
    · rw [if_pos g, if_pos g, if_neg (fun x => e ⟨g.1, x⟩)]
    · rw [if_neg g, if_neg g]
section ROLL
variable {I : xTI} {L : xTL} {s : Nat → Int32} {q : Nat → Nat}
theorem F7_ftp (hB : BRb I s) (hV : IVb s q) (hq : q 1 ≤ 12) {b : Nat} (hb : b < 60) (h : s (192 + 12 * b) = 1) (x : RS) : F_X7_failsToPay (xup I 46 8 x.2.1) (Lf L x.1) (nI b) = some (nI ((proc s b x).2.2 - x.2.2), xup I 46 8 (proc s b x).2.1, Lf L (proc s b x).1) ∧ x.2.2 ≤ (proc s b x).2.2 ∧ (proc s b x).2.2 ≤ x.2.2 + 1 := by
  obtain ⟨sl, by_, st, sh, pr, dy, ac, g1, g2, g3, g4, g5, g6, g7, f1, f2, f3, -⟩ := bg_all hV hb h
  have esl : slN s b = sl := by unfold slN; rw [g1]; exact nI_clamp (by omega)
  have ebu : buN s b = by_ := by unfold buN; rw [g2]; exact nI_clamp (by omega)
  have hB2 : BRb (xup I 46 8 x.2.1) s := by
    intro b' hb'
    rw [xup_ne (k' := 13) (by decide)]
    exact hB b' hb'
  have a0 : F_X0_at (xup I 46 8 x.2.1) (nI b) 0 = some (nI sl) := by unfold F_X0_at; rw [at12_0 hb, bcell2 hB2 hb h (by decide)]; exact congrArg some g1
  have a1 : F_X0_at (xup I 46 8 x.2.1) (nI b) 1 = some (nI by_) := by unfold F_X0_at; rw [at12_1 hb, bcell2 hB2 hb h (by decide)]; exact congrArg some g2
  unfold F_X7_failsToPay
  rw [a0, Option.bind_some, a1, Option.bind_some, xbn_e, xup_eq, xbn_e]
  unfold proc
  rw [esl, ebu]
  by_cases s1 : bt x.2.1 sl = true
  · rw [if_neg (fun e => by have := (bit_r x.2.1 (by omega)).mp e; rw [s1] at this; cases this), if_pos (Or.inl s1)]
    refine ⟨?_, Nat.le_refl _, by omega⟩
    rw [Nat.sub_self]; rfl
  · have s1' : bt x.2.1 sl = false := by cases hh : bt x.2.1 sl with
      | true => exact absurd hh s1
      | false => rfl
    rw [if_pos ((bit_r x.2.1 (by omega)).mpr s1')]
    by_cases s2 : bt x.2.1 by_ = true
    · rw [if_neg (fun e => by have := (bit_r x.2.1 (by omega)).mp e; rw [s2] at this; cases this), if_pos (Or.inr s2)]
      refine ⟨?_, Nat.le_refl _, by omega⟩
      rw [Nat.sub_self]; rfl
    · have s2' : bt x.2.1 by_ = false := by cases hh : bt x.2.1 by_ with
        | true => exact absurd hh s2
        | false => rfl
      rw [if_pos ((bit_r x.2.1 (by omega)).mpr s2'), if_neg (fun e => e.elim s1 s2), F7_wo hB2 hb h, Option.bind_some, xal_n (by omega) (by decide), Lf_at (by omega)]
      by_cases s3 : wo s b ≤ x.1 by_
      · rw [if_pos ((lg_cmp_ge _ _).mpr s3), if_pos s3, xal_n (by omega) (by decide), Lf_at (by omega), xas_n (by omega) (by decide), Lf_up (by omega), xal_n (by omega) (by decide), Lf_at (by omega), xas_n (by omega) (by decide), Lf_up (by omega)]
        refine ⟨?_, Nat.le_refl _, by show x.2.2 ≤ x.2.2 + 1; omega⟩
        show _ = some (nI (x.2.2 - x.2.2), _, _)
        rw [Nat.sub_self]; rfl
      · rw [if_neg (fun e => s3 ((lg_cmp_ge _ _).mp e)), if_neg s3, xbn_e, xbn_e, xup_xup]
        refine ⟨?_, by show x.2.2 ≤ x.2.2 + 1; omega, Nat.le_refl _⟩
        show _ = some (nI (x.2.2 + 1 - x.2.2), _, _)
        rw [show x.2.2 + 1 - x.2.2 = 1 by omega]; rfl
theorem F7_roll (hB : BRb I s) (hV : IVb s q) (hq : q 1 ≤ 12) (hq0 : q 0 ≤ 700) {ac nn : Nat} (hac : ac ≤ 700) (hn : nn ≤ 28) (x0 : RS) : xlp (F_X7_failingByRolling_b60 xN (nI ac) (((nI ac * 14) + 14) - 1 - nI nn)) xN (nI x0.2.2, (nI ac - 1) * 14, xup I 46 8 x0.2.1, Lf L x0.1) = some (nI (finR s ac (60 * (28 - nn)) 0 x0).2.2, xup I 46 8 (finR s ac (60 * (28 - nn)) 0 x0).2.1, Lf L (finR s ac (60 * (28 - nn)) 0 x0).1) := by
  have e14 : nI ac * 14 + 14 - 1 = nI (14 * ac + 13) := by
    rw [show (14 : Int32) = nI 14 from rfl, nI_mul, nI_add, show (1 : Int32) = nI 1 from rfl, nI_sub (by omega)]; congr 1; omega
  have hld : (nI ac * 14 + 14 - 1 - nI nn).toInt = 14 * (ac : Int) + 13 - nn := by
    rw [e14, Int32.toInt_sub, nI_toInt (by omega), nI_toInt (by omega), Int.bmod_eq_of_le (by omega) (by omega)]; omega
  have hfd0 : ((nI ac - 1) * 14).toInt = 14 * (ac : Int) - 14 := by
    have h1 : (nI ac - 1).toInt = (ac : Int) - 1 := by rw [Int32.toInt_sub, nI_toInt (by omega), show (1 : Int32).toInt = 1 by decide, Int.bmod_eq_of_le (by omega) (by omega)]
    rw [Int32.toInt_mul, h1, show (14 : Int32).toInt = 14 by decide, Int.bmod_eq_of_le (by omega) (by omega)]; omega
  have hfd : ∀ d : Nat, d ≤ 30 → ((nI ac - 1) * 14 + nI d).toInt = 14 * (ac : Int) - 14 + d := fun d hd => by
    rw [Int32.toInt_add, hfd0, nI_toInt (by omega), Int.bmod_eq_of_le (by omega) (by omega)]
  generalize hld' : nI ac * 14 + 14 - 1 - nI nn = ld at hld
  generalize hfd' : (nI ac - 1) * 14 = fd at hfd
  have hst0 : (nI x0.2.2, fd, xup I 46 8 x0.2.1, Lf L x0.1) = (fun d => (nI (finR s ac (60 * d) 0 x0).2.2, fd + nI d, xup I 46 8 (finR s ac (60 * d) 0 x0).2.1, Lf L (finR s ac (60 * d) 0 x0).1)) 0 := by
    show _ = (nI x0.2.2, fd + nI 0, xup I 46 8 x0.2.1, Lf L x0.1)
    rw [show fd + nI 0 = fd from Int32.add_zero fd]
  rw [hst0]
  refine xlp_for (fun d => (nI (finR s ac (60 * d) 0 x0).2.2, fd + nI d, xup I 46 8 (finR s ac (60 * d) 0 x0).2.1, Lf L (finR s ac (60 * d) 0 x0).1)) (28 - nn) _ (fun d hd K => ?_) (fun K => ?_) xN (by show 28 - nn < 100000; omega)
  · show F_X7_failingByRolling_c60 xN (nI ac) ld (nI (finR s ac (60 * d) 0 x0).2.2) (fd + nI d) (xup I 46 8 (finR s ac (60 * d) 0 x0).2.1) (Lf L (finR s ac (60 * d) 0 x0).1) K = K (nI (finR s ac (60 * (d + 1)) 0 x0).2.2, fd + nI (d + 1), xup I 46 8 (finR s ac (60 * (d + 1)) 0 x0).2.1, Lf L (finR s ac (60 * (d + 1)) 0 x0).1)
    unfold F_X7_failingByRolling_c60
    rw [if_neg (by rw [Int32.lt_iff_toInt_lt, hld, hfd d (by omega)]; omega)]
    have hx : ∀ b, finR s ac (60 * d + b) 0 x0 = finR s ac b (60 * d) (finR s ac (60 * d) 0 x0) := fun b => by
      rw [finR_a s ac (60 * d) b 0 x0, Nat.zero_add]
    have hst1 : (nI (finR s ac (60 * d) 0 x0).2.2, (0 : Int32), xup I 46 8 (finR s ac (60 * d) 0 x0).2.1, Lf L (finR s ac (60 * d) 0 x0).1) = (fun b => (nI (finR s ac (60 * d + b) 0 x0).2.2, nI b, xup I 46 8 (finR s ac (60 * d + b) 0 x0).2.1, Lf L (finR s ac (60 * d + b) 0 x0).1)) 0 := rfl
    rw [hst1]
    refine xlp_for (fun b => (nI (finR s ac (60 * d + b) 0 x0).2.2, nI b, xup I 46 8 (finR s ac (60 * d + b) 0 x0).2.1, Lf L (finR s ac (60 * d + b) 0 x0).1)) 60 _ (fun b hb KK => ?_) (fun KK => ?_) xN (by decide)
    · have hnx : finR s ac (60 * d + (b + 1)) 0 x0 = stp s ac (60 * d + b) (finR s ac (60 * d + b) 0 x0) := by
        rw [show 60 * d + (b + 1) = (60 * d + b) + 1 by omega, finR_a s ac (60 * d + b) 1 0 x0, Nat.zero_add]; rfl
      show F_X7_failingByRolling_c70 K xN (nI ac) ld (fd + nI d) (nI (finR s ac (60 * d + b) 0 x0).2.2) (nI b) (xup I 46 8 (finR s ac (60 * d + b) 0 x0).2.1) (Lf L (finR s ac (60 * d + b) 0 x0).1) KK = KK (nI (finR s ac (60 * d + (b + 1)) 0 x0).2.2, nI (b + 1), xup I 46 8 (finR s ac (60 * d + (b + 1)) 0 x0).2.1, Lf L (finR s ac (60 * d + (b + 1)) 0 x0).1)
      rw [hnx]
      generalize finR s ac (60 * d + b) 0 x0 = x
      have hB2 : BRb (xup I 46 8 x.2.1) s := by
        intro b' hb'
        rw [xup_ne (k' := 13) (by decide)]
        exact hB b' hb'
      unfold F_X7_failingByRolling_c70 F_X7_failingByRolling_j110 stp
      rw [show (60 * d + b) / 60 = d by omega, show (60 * d + b) % 60 = b by omega, if_neg (n60 hb), F10_sf hB2 hb]
      by_cases g : stF s b (nI ac)
      · obtain ⟨sl, by_, st, sh, pr, dy, aa, g1, g2, g3, g4, g5, g6, g7, f1, f2, f3, f4, f5, f6, f7, f8, f9, f10, f11⟩ := bg_all hV hb g.1
        have edy : dyN s b = dy := by unfold dyN; rw [g6]; exact nI_clamp (by omega)
        have a5 : F_X0_at (xup I 46 8 x.2.1) (nI b) 5 = some (nI dy) := by unfold F_X0_at; rw [at12_5 hb, bcell2 hB2 hb g.1 (by decide)]; exact congrArg some g6
        rw [if_pos g, Option.bind_some, if_neg (by decide), a5, Option.bind_some]
        have hday : nI dy = fd + nI d ↔ dyN s b + 14 = 14 * ac + d := by
          rw [edy]
          constructor
          · intro e
            have := congrArg Int32.toInt e
            rw [nI_toInt (by omega), hfd d (by omega)] at this
            omega
          · intro e
            apply Int32.toInt_inj.mp
            rw [nI_toInt (by omega), hfd d (by omega)]
            omega
        by_cases g2' : dyN s b + 14 = 14 * ac + d
        · obtain ⟨t1, t2, t3⟩ := F7_ftp (L := L) hB hV hq hb g.1 x
          rw [if_pos (hday.mpr g2'), if_neg (by decide), t1, Option.bind_some, if_pos ⟨g, g2'⟩]
          show (if nI ((proc s b x).2.2 - x.2.2) = 0 then _ else _) = _
          have hcase : (proc s b x).2.2 = x.2.2 ∨ (proc s b x).2.2 = x.2.2 + 1 := by omega
          rcases hcase with e | e
          · rw [e, Nat.sub_self, if_pos (show nI 0 = 0 from rfl), xbn_e, nI_1]
          · rw [e, show x.2.2 + 1 - x.2.2 = 1 by omega, if_neg (show ¬ nI 1 = 0 by decide), xbn_e, xbn_e, nI_1, nI_1]
        · rw [if_neg (fun e => g2' (hday.mp e)), if_pos rfl, if_neg (fun e => g2' e.2), xbn_e, nI_1]
      · rw [if_neg g, Option.bind_some, if_pos rfl, if_pos rfl, if_neg (fun e => g e.1), xbn_e, nI_1]
    · show F_X7_failingByRolling_c70 K xN (nI ac) ld (fd + nI d) (nI (finR s ac (60 * d + 60) 0 x0).2.2) (nI 60) (xup I 46 8 (finR s ac (60 * d + 60) 0 x0).2.1) (Lf L (finR s ac (60 * d + 60) 0 x0).1) KK = _
      unfold F_X7_failingByRolling_c70
      rw [if_pos (by decide), xbn_e, show 60 * d + 60 = 60 * (d + 1) by omega, Int32.add_assoc, nI_1]
  · show F_X7_failingByRolling_c60 xN (nI ac) ld (nI (finR s ac (60 * (28 - nn)) 0 x0).2.2) (fd + nI (28 - nn)) (xup I 46 8 (finR s ac (60 * (28 - nn)) 0 x0).2.1) (Lf L (finR s ac (60 * (28 - nn)) 0 x0).1) K = _
    unfold F_X7_failingByRolling_c60
    rw [if_pos (by rw [Int32.lt_iff_toInt_lt, hld, hfd (28 - nn) (by omega)]; omega)]
end ROLL
