theorem nI_m1 (m : Nat) : nI m - 1 = tpv m := by
  cases m with
  | zero => decide
  | succ m => exact nI_pred m
def whoI (kk : Nat) : Option Nat → Int32
  | none => nI kk
  | some b => nI (100 + b)
theorem F11_who {J : xTI} {M : xTL} {s : Nat → Int32} {m kk : Nat} {bo : Option Nat} (key : Int32) (hs : J 58 = s) (h4 : s 4 = nI m) (hm : m ≤ 12) (hk : kk < 5) (hbo : ∀ bb, bo = some bb → bb < 60 ∧ s (192 + 12 * bb) = 1 ∧ s (192 + 12 * bb + 3) = nI kk) : F_X11_rules xN J M key (whoI kk bo) = xlp (F_X11_rules_b43 xN key (bI bo) (nI kk)) xN (tpv m, J, M) := by
  have z4 : ∀ (F : Int32 → Option (Int32 × xTI × xTL)), xal J 58 40670 4 F = F (J 58 4) := fun F => xal_n (i := 4) (by decide) (by decide)
  unfold F_X11_rules F_X11_rules_j14 F_X11_rules_j31
  cases bo with
  | none =>
    show (if nI kk < 100 then _ else _) = _
    rw [if_pos (show nI kk < 100 from nI_lt (b := 100) (by omega) (by decide)), show whoI kk none = nI kk from rfl, if_pos (show nI kk < 100 from nI_lt (b := 100) (by omega) (by decide)), z4, hs, h4, xbn_e, nI_m1]
    rfl
  | some bb =>
    obtain ⟨hb, h1, h3⟩ := hbo bb rfl
    have e100 : nI (100 + bb) - 100 = nI bb := by
      rw [show (100 : Int32) = nI 100 from rfl, nI_sub (by omega)]; congr 1; omega
    have n100 : ¬ nI (100 + bb) < 100 := nI_nlt (b := 100) (by omega) (by omega)
    show (if nI (100 + bb) < 100 then _ else _) = _
    rw [if_neg n100, show whoI kk (some bb) = nI (100 + bb) from rfl, if_neg n100, e100, bg11_3 hb, Option.bind_some, hs, h3, z4, hs, h4, xbn_e, nI_m1]
    rfl
section TELL
variable {I : xTI} {L : xTL} {s : Nat → Int32} {c : Nat → Int64} {q : Nat → Nat} {n : Nat}
theorem xEnv_of {J : xTI} {s : Nat → Int32} {m kk : Nat} {bo : Option Nat} (hs : J 58 = s) (h1 : s 1 = nI m) (hm : m ≤ 12) (hk : kk < 5) (hbo : ∀ bb, bo = some bb → bb < 60) : xEnv J (nmO s m kk bo) (nI kk) (bI bo) := by
  subst hs
  cases bo with
  | none => exact env_n h1 hm hk
  | some bb => exact env_b h1 hm hk (hbo bb rfl)
theorem find_eq (hB : BR I L s c q) (hV : IV s c q n) (key : Int32) {kk : Nat} (hk : kk < 5) (bo : Option Nat) (hbo : ∀ bb, bo = some bb → bb < 60 ∧ s (192 + 12 * bb) = 1 ∧ s (192 + 12 * bb + 3) = nI kk) : ∃ a v I1, F_X5_find xN I key (nI kk) (bI bo) = some (a, I1) ∧ (∀ k, k ≠ 18 → k ≠ 19 → I1 k = I k) ∧ (a = -1 ∨ ∃ r, r < 12 ∧ a = nI r ∧ ∃ I2, Option.bind (F_X8_at_15 I1 a 3) (fun v3 => Option.bind (F_X5_work xN I1 a 0 v3) (fun (v4, I5) => some (v4, I5))) = some (v, I2) ∧ ∀ k, k ≠ 18 → k ≠ 19 → I2 k = I k) ∧ ∀ (J : xTI) (M : xTL), J 58 = s → ∃ J2 M2, F_X11_rules xN J M key (whoI kk bo) = some (a, J2, M2) ∧ FrU J J2 ∧ FrL M M2 ∧ (a ≠ -1 → J2 57 18 = v) := by
  obtain ⟨I0, e1, e2, e3⟩ := name_all hB hV hk bo (fun bb h => ⟨(hbo bb h).1, (hbo bb h).2.1⟩)
  have hH := Hds.of hB.2.2.2.2.2
  have q4 : q 4 ≤ 12 := hV.1.2.2.2.2.2.1
  have s0 : s 0 = nI (q 0) := hV.1.1 0 (by decide)
  have i0 : I0 1 0 = s 0 := by rw [e2 1 (by decide), s0]; exact hB.1.1
  have hH0 : Hds I0 s (fun r => (I 16 (5 * r + 3)).toNatClampNeg) (fun r => (I 16 (5 * r + 4)).toNatClampNeg) (q 4) := by
    unfold Hds
    rw [e2 16 (by decide), e2 17 (by decide)]
    exact hH
  obtain ⟨I1, f1, f2⟩ := find_run (nm := nmO s (q 1) kk bo) key q4 hH0 i0 e3 (q 4) (Nat.le_refl _) I0 xN (by show q 4 < 100000; omega) (fun _ _ => rfl)
  have hI1 : ∀ k, k ≠ 18 → k ≠ 19 → I1 k = I k := fun k h1 h2 => by rw [f2 k h2, e2 k h1]
  rw [e2 17 (by decide)] at f1
  refine ⟨ansR (hbf s (fun r t => I 17 (120 * r + t)) (fun r => (I 16 (5 * r + 3)).toNatClampNeg) (fun r => (I 16 (5 * r + 4)).toNatClampNeg) (nmO s (q 1) kk bo) key) (q 4), valR (hbf s (fun r t => I 17 (120 * r + t)) (fun r => (I 16 (5 * r + 3)).toNatClampNeg) (fun r => (I 16 (5 * r + 4)).toNatClampNeg) (nmO s (q 1) kk bo) key) (fun r => evt (nmO s (q 1) kk bo) (cdl (fun t => I 17 (120 * r + t)) 0 ((I 16 (5 * r + 3)).toNatClampNeg))) (q 4), I1, ?_, hI1, ?_, ?_⟩
  · unfold F_X5_find
    rw [e1, Option.bind_some, xbn_e, e2 15 (by decide), hB.1.2.2.2.2.1, xbn_e, nI_m1]
    exact f1
  · rcases ansR_or (hbf s (fun r t => I 17 (120 * r + t)) (fun r => (I 16 (5 * r + 3)).toNatClampNeg) (fun r => (I 16 (5 * r + 4)).toNatClampNeg) (nmO s (q 1) kk bo) key) (fun r => evt (nmO s (q 1) kk bo) (cdl (fun t => I 17 (120 * r + t)) 0 ((I 16 (5 * r + 3)).toNatClampNeg))) (q 4) with h | ⟨r, h1, h2, h3⟩
    · exact Or.inl h
    · refine Or.inr ⟨r, by omega, h2, ?_⟩
      rw [h2, h3]
      obtain ⟨-, -, -, a3, -, a5, a6, -⟩ := hH r h1
      have a5' : (I 16 (5 * r + 3)).toNatClampNeg ≤ 120 := Nat.le_trans a5 a6
      obtain ⟨I2, w1, w2⟩ := work_eq (nm := nmO s (q 1) kk bo) (r := r) (a := 0) (z := (I 16 (5 * r + 3)).toNatClampNeg) (I := I1) (by omega) a5' (Nat.zero_le _) (fun j hj => by rw [f2 18 (by decide)]; exact e3 j hj)
      refine ⟨I2, ?_, fun k h1 h2 => by rw [w2 k h2, hI1 k h1 h2]⟩
      rw [show (3 : Int32) = nI 3 from rfl, at15 (by omega) (by decide), Option.bind_some, hI1 16 (by decide) (by decide)]
      have w1' : F_X5_work xN I1 (nI r) 0 (I 16 (5 * r + 3)) = some (evt (nmO s (q 1) kk bo) (cdl (fun t => I 17 (120 * r + t)) 0 ((I 16 (5 * r + 3)).toNatClampNeg)), I2) := by
        refine (congrArg (F_X5_work xN I1 (nI r) (nI 0)) a3).trans (w1.trans ?_)
        rw [hI1 17 (by decide) (by decide), Nat.sub_zero]
      rw [w1', Option.bind_some]
  · intro J M hs
    have s4 : s 4 = nI (q 4) := hV.1.1 4 (by decide)
    have s1 : s 1 = nI (q 1) := hV.1.1 1 (by decide)
    obtain ⟨J2, M2, g1, g2, g3, g4⟩ := rules_run (nm := nmO s (q 1) kk bo) key (nI kk) (bI bo) q4 hH (q 4) (Nat.le_refl _) J M xN (by show q 4 < 100000; omega) hs (xEnv_of hs s1 hV.1.2.2.1 hk (fun bb h => (hbo bb h).1))
    refine ⟨J2, M2, ?_, g2, g3, g4⟩
    rw [F11_who key hs s4 q4 hk hbo, g1]
theorem tells_eq (hB : BR I L s c q) (hV : IV s c q n) {key : Nat} (hkey : key < 6) {kk : Nat} (hk : kk < 5) (bo : Option Nat) (hbo : ∀ bb, bo = some bb → bb < 60 ∧ s (192 + 12 * bb) = 1 ∧ s (192 + 12 * bb + 3) = nI kk) : ∃ v I1, F_X5_tells xN I (nI key) (nI kk) (bI bo) = some (v, I1) ∧ (∀ k, k ≠ 18 → k ≠ 19 → I1 k = I k) ∧ ∀ (J : xTI) (M : xTL), J 58 = s → ∃ J2 M2, F_X11_ruled xN J M (nI key) (whoI kk bo) (xwo key) = some (v, J2, M2) ∧ FrU J J2 ∧ FrL M M2 := by
  obtain ⟨a, v, I1, f1, f2, f3, f4⟩ := find_eq hB hV (nI key) hk bo hbo
  rcases f3 with f3 | ⟨r, hr, f3, I2, g1, g2⟩
  · refine ⟨xwo key, I1, ?_, f2, fun J M hs => ?_⟩
    · unfold F_X5_tells
      rw [f1, Option.bind_some]
      show (if a = -1 then xwr (nI key) (fun v6 => some (v6, I1)) else _) = _
      unfold xwr
      rw [if_pos f3, nI_clamp (by omega), if_neg]
      rintro (g | g)
      · exact nI_pos (by omega) g
      · omega
    · obtain ⟨J2, M2, h1, h2, h3, -⟩ := f4 J M hs
      refine ⟨J2, M2, ?_, h2, h3⟩
      unfold F_X11_ruled
      rw [h1, Option.bind_some]
      show (if a = -1 then some (xwo key, J2, M2) else _) = _
      rw [if_pos f3]
  · have hne : a ≠ -1 := by rw [f3]; exact nI_ne_m1 (by omega)
    refine ⟨v, I2, ?_, g2, fun J M hs => ?_⟩
    · unfold F_X5_tells
      rw [f1, Option.bind_some]
      show (if a = -1 then _ else Option.bind (F_X8_at_15 I1 a 3) (fun v3 => Option.bind (F_X5_work xN I1 a 0 v3) (fun (v4, I5) => some (v4, I5)))) = _
      rw [if_neg hne, g1]
    · obtain ⟨J2, M2, h1, h2, h3, h4⟩ := f4 J M hs
      refine ⟨J2, M2, ?_, h2, h3⟩
      unfold F_X11_ruled
      rw [h1, Option.bind_some]
      show (if a = -1 then _ else xbn (J2 57 18) (fun v4 => some (v4, J2, M2))) = _
      rw [if_neg hne, xbn_e, h4 hne]
end TELL
