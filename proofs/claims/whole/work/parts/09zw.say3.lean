/-- does rule m say: its key, its days, its if -/
def hbf (s : Nat → Int32) (cd : Nat → Nat → Int32) (ve ie : Nat → Nat) (nm : Nat → Int32) (key : Int32) (m : Nat) : Bool := decide (s (1082 + 124 * m) = key) && decide (¬ s 0 < s (1082 + 124 * m + 1)) && decide (s 0 < s (1082 + 124 * m + 2)) && (decide (ve m = ie m) || decide (evt nm (cdl (cd m) (ve m) (ie m - ve m)) ≠ 0))
/-- the last of the first m rules that says -/
def ansR (hb : Nat → Bool) : Nat → Int32
  | 0 => -1
  | m + 1 => if hb m = true then nI m else ansR hb m
def valR (hb : Nat → Bool) (vf : Nat → Int32) : Nat → Int32
  | 0 => 0
  | m + 1 => if hb m = true then vf m else valR hb vf m
theorem ansR_or (hb : Nat → Bool) (vf : Nat → Int32) : ∀ m, ansR hb m = -1 ∨ ∃ r, r < m ∧ ansR hb m = nI r ∧ valR hb vf m = vf r
  | 0 => Or.inl rfl
  | m + 1 => by
    unfold ansR valR
    by_cases g : hb m = true
    · rw [if_pos g, if_pos g]; exact Or.inr ⟨m, by omega, rfl, rfl⟩
    · rw [if_neg g, if_neg g]
      rcases ansR_or hb vf m with h | ⟨r, h1, h2, h3⟩
      · exact Or.inl h
      · exact Or.inr ⟨r, by omega, h2, h3⟩
/-- the heads of the first m rules, as both have them -/
def Hds (I : xTI) (s : Nat → Int32) (ve ie : Nat → Nat) (m : Nat) : Prop := ∀ r, r < m → I 16 (5 * r) = s (1082 + 124 * r) ∧ I 16 (5 * r + 1) = s (1082 + 124 * r + 1) ∧ I 16 (5 * r + 2) = s (1082 + 124 * r + 2) ∧ I 16 (5 * r + 3) = nI (ve r) ∧ I 16 (5 * r + 4) = nI (ie r) ∧ ve r ≤ ie r ∧ ie r ≤ 120 ∧ ∃ sz, sz ≤ 120 ∧ s (1082 + 124 * r + 3) = nI sz ∧ RefR (fun i => s (1082 + 124 * r + 4 + i)) sz (cdl (fun t => I 17 (120 * r + t)) 0 (ve r)) (cdl (fun t => I 17 (120 * r + t)) (ve r) (ie r - ve r))
theorem Hds.of {I : xTI} {s : Nat → Int32} {q : Nat → Nat} (h : BRr I s q) : Hds I s (fun r => (I 16 (5 * r + 3)).toNatClampNeg) (fun r => (I 16 (5 * r + 4)).toNatClampNeg) (q 4) := by
  intro r hr
  obtain ⟨a1, a2, a3, sz, ve, ie, b1, b2, b3, c1, c2, cs1, cs2, c3, c4, c5, c6⟩ := h r hr
  have e1 : (I 16 (5 * r + 3)).toNatClampNeg = ve := by rw [b2]; exact nI_clamp (by omega)
  have e2 : (I 16 (5 * r + 4)).toNatClampNeg = ie := by rw [b3]; exact nI_clamp (by omega)
  refine ⟨a1, a2, a3, ?_, ?_, ?_, ?_, sz, c1, b1, ?_⟩
  · show _ = nI (I 16 (5 * r + 3)).toNatClampNeg
    rw [e1]; exact b2
  · show _ = nI (I 16 (5 * r + 4)).toNatClampNeg
    rw [e2]; exact b3
  · show (I 16 (5 * r + 3)).toNatClampNeg ≤ (I 16 (5 * r + 4)).toNatClampNeg
    rw [e1, e2]; omega
  · show (I 16 (5 * r + 4)).toNatClampNeg ≤ 120
    rw [e2]; exact c2
  · show RefR _ sz (cdl _ 0 (I 16 (5 * r + 3)).toNatClampNeg) (cdl _ (I 16 (5 * r + 3)).toNatClampNeg ((I 16 (5 * r + 4)).toNatClampNeg - (I 16 (5 * r + 3)).toNatClampNeg))
    rw [e1, e2]
    have f1 : cdl (fun t => I 17 (120 * r + t)) 0 ve = cs1 := cdl_eq c3 (fun i hi => by
      have := c5 i (by omega)
      rw [Nat.zero_add]
      refine this.trans ?_
      rw [List.getD_eq_getElem?_getD, List.getD_eq_getElem?_getD, List.getElem?_append_left (by omega)])
    have f2 : cdl (fun t => I 17 (120 * r + t)) ve (ie - ve) = cs2 := cdl_eq (by omega) (fun i hi => by
      have := c5 (ve + i) (by omega)
      refine this.trans ?_
      rw [List.getD_eq_getElem?_getD, List.getD_eq_getElem?_getD, List.getElem?_append_right (by omega), show ve + i - cs1.length = i by omega])
    rw [f1, f2]
    exact c6
theorem at15 {I : xTI} {b t : Nat} (hb : b < 12) (ht : t < 5) : F_X8_at_15 I (nI b) (nI t) = some (I 16 (5 * b + t)) := by
  unfold F_X8_at_15 F_X8_at_15_j29
  rw [if_neg (nI_pos (by omega)), if_neg (n12 hb), if_neg (nI_pos (by omega)), if_neg (n5 ht), if_neg (by decide), show (5 : Int32) = nI 5 from rfl, nI_mul, nI_add, xal_n (by omega) (by decide), Nat.mul_comm b 5]
/-- the class looks for the rule -/
theorem find_run {I : xTI} {s : Nat → Int32} {ve ie : Nat → Nat} {nm : Nat → Int32} (key : Int32) {mm : Nat} (hmm : mm ≤ 12) (hH : Hds I s ve ie mm) (h10 : I 1 0 = s 0) (hnm : ∀ j, j < 10 → I 18 j = nm j) : ∀ (m : Nat), m ≤ mm → ∀ (J : xTI) (M : Nat), m < M → (∀ k, k ≠ 19 → J k = I k) → ∃ I2, xlp (F_X5_find_b19 xN key) M (tpv m, J) = some (ansR (hbf s (fun r t => I 17 (120 * r + t)) ve ie nm key) m, I2) ∧ ∀ k, k ≠ 19 → I2 k = I k := by
  intro m
  induction m with
  | zero =>
    intro hm J M hM hJ
    obtain ⟨M', rfl⟩ : ∃ M', M = M' + 1 := ⟨M - 1, by omega⟩
    exact ⟨J, rfl, hJ⟩
  | succ m ih =>
    intro hm J M hM hJ
    obtain ⟨M', rfl⟩ : ∃ M', M = M' + 1 := ⟨M - 1, by omega⟩
    obtain ⟨a0, a1, a2, a3, a4, a5, a6, -⟩ := hH m (by omega)
    have t0 : ∀ K : xTI, (∀ k, k ≠ 19 → K k = I k) → F_X8_at_15 K (nI m) 0 = some (s (1082 + 124 * m)) := fun K hK => by
      rw [show (0 : Int32) = nI 0 from rfl, at15 (by omega) (by decide), hK 16 (by decide)]; exact congrArg some a0
    have t1 : ∀ K : xTI, (∀ k, k ≠ 19 → K k = I k) → F_X8_at_15 K (nI m) 1 = some (s (1082 + 124 * m + 1)) := fun K hK => by
      rw [show (1 : Int32) = nI 1 from rfl, at15 (by omega) (by decide), hK 16 (by decide), a1]
    have t2 : ∀ K : xTI, (∀ k, k ≠ 19 → K k = I k) → F_X8_at_15 K (nI m) 2 = some (s (1082 + 124 * m + 2)) := fun K hK => by
      rw [show (2 : Int32) = nI 2 from rfl, at15 (by omega) (by decide), hK 16 (by decide), a2]
    have t3 : ∀ K : xTI, (∀ k, k ≠ 19 → K k = I k) → F_X8_at_15 K (nI m) 3 = some (nI (ve m)) := fun K hK => by
      rw [show (3 : Int32) = nI 3 from rfl, at15 (by omega) (by decide), hK 16 (by decide), a3]
    have t4 : ∀ K : xTI, (∀ k, k ≠ 19 → K k = I k) → F_X8_at_15 K (nI m) 4 = some (nI (ie m)) := fun K hK => by
      rw [show (4 : Int32) = nI 4 from rfl, at15 (by omega) (by decide), hK 16 (by decide), a4]
    have hdn : nI m + -1 = tpv m := tpv_p m
    have step : ∀ K : xTI, (∀ k, k ≠ 19 → K k = I k) → ∃ I2, xlp (F_X5_find_b19 xN key) M' (nI m + -1, K) = some (ansR (hbf s (fun r t => I 17 (120 * r + t)) ve ie nm key) m, I2) ∧ ∀ k, k ≠ 19 → I2 k = I k := fun K hK => by
      rw [hdn]; exact ih (by omega) K M' (by omega) hK
    rw [xlp_s]
    show ∃ I2, F_X5_find_c19 xN key (nI m) J _ = some ((if hbf s (fun r t => I 17 (120 * r + t)) ve ie nm key m = true then nI m else ansR (hbf s (fun r t => I 17 (120 * r + t)) ve ie nm key) m), I2) ∧ _
    unfold F_X5_find_c19 F_X5_find_j63
    rw [if_neg (nI_pos (by omega)), t1 J hJ, Option.bind_some, xbn_e, hJ 1 (by decide), h10]
    by_cases g1 : s 0 < s (1082 + 124 * m + 1)
    · rw [if_pos g1, if_pos rfl, if_neg (by simp [hbf, g1]), xbn_e]
      exact step J hJ
    · rw [if_neg g1, xbn_e, t2 J hJ, Option.bind_some]
      by_cases g2 : s (1082 + 124 * m + 2) ≤ s 0
      · have g2' : ¬ s 0 < s (1082 + 124 * m + 2) := Int32.not_lt.mpr g2
        rw [if_pos g2, if_pos rfl, if_neg (by simp [hbf, g2']), xbn_e]
        exact step J hJ
      · have g2' : s 0 < s (1082 + 124 * m + 2) := Int32.not_le.mp g2
        rw [if_neg g2, if_neg (by decide), t0 J hJ, Option.bind_some]
        by_cases g3 : s (1082 + 124 * m) = key
        · rw [if_pos g3, t3 J hJ, Option.bind_some, t4 J hJ, Option.bind_some]
          by_cases g4 : ve m = ie m
          · rw [if_pos (by rw [g4]), if_pos (by simp [hbf, g1, g2', g3, g4])]
            exact ⟨J, rfl, hJ⟩
          · rw [if_neg (fun e => g4 ((nI_eq (by omega) (by omega)).mp e))]
            obtain ⟨I7, w1, w2⟩ := work_eq (nm := nm) (r := m) (a := ve m) (z := ie m) (I := J) (by omega) a6 a5 (fun j hj => by rw [hJ 18 (by decide)]; exact hnm j hj)
            rw [w1, Option.bind_some, hJ 17 (by decide)]
            have hI7 : ∀ k, k ≠ 19 → I7 k = I k := fun k hk => by rw [w2 k hk, hJ k hk]
            show ∃ I2, (if evt nm (cdl (fun t => I 17 (120 * m + t)) (ve m) (ie m - ve m)) = 0 then xbn (nI m + -1) _ else some (nI m, I7)) = _ ∧ _
            by_cases g5 : evt nm (cdl (fun t => I 17 (120 * m + t)) (ve m) (ie m - ve m)) = 0
            · rw [if_pos g5, if_neg (by simp [hbf, g4, g5]), xbn_e]
              exact step I7 hI7
            · rw [if_neg g5, if_pos (by simp [hbf, g1, g2', g3, g5])]
              exact ⟨I7, rfl, hI7⟩
        · rw [if_neg g3, if_neg (by simp [hbf, g3]), xbn_e]
          exact step J hJ
/-- what reading rules changes in the reference -/
def FrU (I I2 : xTI) : Prop := ∀ k j, k ≠ 62 → ¬ (k = 57 ∧ 7 ≤ j ∧ j ≤ 19) → I2 k j = I k j
theorem FrU.rfl' (I : xTI) : FrU I I := fun _ _ _ _ => rfl
theorem FrU.trans {I J K : xTI} (h : FrU I J) (g : FrU J K) : FrU I K := fun k j h1 h2 => by rw [g k j h1 h2, h k j h1 h2]
theorem FrU.c {I J : xTI} (h : FrU I J) {k : Nat} (h1 : k ≠ 62) (h2 : k ≠ 57) : J k = I k := by
  funext j; exact h k j h1 (fun e => h2 e.1)
/-- the reference looks for the rule -/
theorem rules_run {I : xTI} {s : Nat → Int32} {ve ie : Nat → Nat} {nm : Nat → Int32} (key k b : Int32) {mm : Nat} (hmm : mm ≤ 12) (hH : Hds I s ve ie mm) : ∀ (m : Nat), m ≤ mm → ∀ (J : xTI) (L : xTL) (M : Nat), m < M → J 58 = s → xEnv J nm k b → ∃ J2 L2, xlp (F_X11_rules_b43 xN key b k) M (tpv m, J, L) = some (ansR (hbf s (fun r t => I 17 (120 * r + t)) ve ie nm key) m, J2, L2) ∧ FrU J J2 ∧ FrL L L2 ∧ (ansR (hbf s (fun r t => I 17 (120 * r + t)) ve ie nm key) m ≠ -1 → J2 57 18 = valR (hbf s (fun r t => I 17 (120 * r + t)) ve ie nm key) (fun r => evt nm (cdl (fun t => I 17 (120 * r + t)) 0 (ve r))) m) := by
  intro m
  induction m with
  | zero =>
    intro hm J L M hM hs hE
    obtain ⟨M', rfl⟩ : ∃ M', M = M' + 1 := ⟨M - 1, by omega⟩
    exact ⟨J, L, rfl, FrU.rfl' J, FrL.rfl' L, fun h => absurd rfl h⟩
  | succ m ih =>
    intro hm J L M hM hs hE
    obtain ⟨M', rfl⟩ : ∃ M', M = M' + 1 := ⟨M - 1, by omega⟩
    obtain ⟨-, -, -, -, -, a5, a6, sz, hsz, a7, a8⟩ := hH m (by omega)
    have hdn : nI m + -1 = tpv m := tpv_p m
    have step : ∀ (K : xTI) (N : xTL), FrU J K → FrL L N → hbf s (fun r t => I 17 (120 * r + t)) ve ie nm key m = false → ∃ J2 L2, xlp (F_X11_rules_b43 xN key b k) M' (nI m + -1, K, N) = some (ansR (hbf s (fun r t => I 17 (120 * r + t)) ve ie nm key) (m + 1), J2, L2) ∧ FrU J J2 ∧ FrL L L2 ∧ (ansR (hbf s (fun r t => I 17 (120 * r + t)) ve ie nm key) (m + 1) ≠ -1 → J2 57 18 = valR (hbf s (fun r t => I 17 (120 * r + t)) ve ie nm key) (fun r => evt nm (cdl (fun t => I 17 (120 * r + t)) 0 (ve r))) (m + 1)) := fun K N hK hN hf => by
      rw [hdn]
      obtain ⟨J2, L2, e1, e2, e3, e4⟩ := ih (by omega) K N M' (by omega) (by rw [hK.c (by decide) (by decide)]; exact hs) (hE.fr (hK.c (by decide) (by decide)))
      have ea : ansR (hbf s (fun r t => I 17 (120 * r + t)) ve ie nm key) (m + 1) = ansR (hbf s (fun r t => I 17 (120 * r + t)) ve ie nm key) m := by
        show (if hbf s (fun r t => I 17 (120 * r + t)) ve ie nm key m = true then nI m else ansR (hbf s (fun r t => I 17 (120 * r + t)) ve ie nm key) m) = _
        rw [if_neg (by rw [hf]; decide)]
      have ev : ∀ vf, valR (hbf s (fun r t => I 17 (120 * r + t)) ve ie nm key) vf (m + 1) = valR (hbf s (fun r t => I 17 (120 * r + t)) ve ie nm key) vf m := fun vf => by
        show (if hbf s (fun r t => I 17 (120 * r + t)) ve ie nm key m = true then vf m else valR (hbf s (fun r t => I 17 (120 * r + t)) ve ie nm key) vf m) = _
        rw [if_neg (by rw [hf]; decide)]
      rw [ea, ev]
      exact ⟨J2, L2, e1, hK.trans e2, hN.trans e3, e4⟩
    rw [xlp_s]
    show ∃ J2 L2, F_X11_rules_c43 xN key b k (nI m) J L _ = _ ∧ _
    unfold F_X11_rules_c43
    have ey : 1082 + 124 * nI m = nI (1082 + 124 * m) := by
      rw [show (1082 : Int32) = nI 1082 from rfl, show (124 : Int32) = nI 124 from rfl, nI_mul, nI_add]
    have ey2 : nI (1082 + 124 * m) + 2 = nI (1082 + 124 * m + 2) := nI_add _ 2
    have ey3 : nI (1082 + 124 * m) + 3 = nI (1082 + 124 * m + 3) := nI_add _ 3
    have z0 : ∀ (K : xTI) (F : Int32 → Option (Int32 × xTI × xTL)), xal K 58 40670 0 F = F (K 58 0) := fun K F => xal_n (i := 0) (by decide) (by decide)
    rw [if_neg (nI_pos (by omega)), xbn_e, ey, xal_n (by omega) (by decide), hs]
    by_cases g3 : s (1082 + 124 * m) = key
    · rw [if_pos g3, nI_1, xal_n (by omega) (by decide), hs, z0, hs]
      by_cases g1 : s 0 < s (1082 + 124 * m + 1)
      · rw [if_pos g1, xbn_e]
        exact step J L (FrU.rfl' J) (FrL.rfl' L) (by simp [hbf, g1])
      · rw [if_neg g1, ey2, xal_n (by omega) (by decide), hs, z0, hs]
        by_cases g2 : s 0 < s (1082 + 124 * m + 2)
        · rw [if_pos g2, ey3, xal_n (by omega) (by decide), hs, a7, xbn_e]
          have hW : ∀ j, j ≠ 62 → ∀ i, wr (xup J 57 7 (nI sz)) 62 0 (fun t => s (1082 + 124 * m + 4 + t)) i j = xup J 57 7 (nI sz) j := fun j hj i => wr_ne hj i
          have hK : FrU J (wr (xup J 57 7 (nI sz)) 62 0 (fun t => s (1082 + 124 * m + 4 + t)) sz) := fun j i h1 h2 => by
            rw [hW j h1]
            unfold xup
            rw [if_neg (fun e => h2 ⟨e.1, by omega, by omega⟩)]
          obtain ⟨J2, L2, r1, -, r3, r4, r5, r6, r7⟩ := a8 (wr (xup J 57 7 (nI sz)) 62 0 (fun t => s (1082 + 124 * m + 4 + t)) sz) L nm k b (hE.fr (hK.c (by decide) (by decide))) (by rw [hW 57 (by decide), xup_eq]) (fun i hi => by
            have := wr_in (I := xup J 57 7 (nI sz)) (k := 62) (base := 0) (w := fun t => s (1082 + 124 * m + 4 + t)) (t := i) sz hi
            rw [Nat.zero_add] at this; exact this)
          have hJ2 : FrU J J2 := hK.trans (fun j i h1 h2 => by
            by_cases e : j = 57
            · subst e; exact r6 i (by omega)
            · rw [r5 j e])
          have hlp : xlp (F_X11_rules_b125 (xlp (F_X11_rules_b43 xN key b k) M') xN L key b k (nI m) (nI (1082 + 124 * m))) xN (0, xup J 57 7 (nI sz)) = (if J2 57 19 = 0 then xbn (nI m + (-1)) (fun y5 => xlp (F_X11_rules_b43 xN key b k) M' (y5, J2, L2)) else some (nI m, J2, L2)) := by
            rw [show ((0 : Int32), xup J 57 7 (nI sz)) = (fun i => (nI i, wr (xup J 57 7 (nI sz)) 62 0 (fun t => s (1082 + 124 * m + 4 + t)) i)) 0 from rfl]
            refine xlp_for (fun i => (nI i, wr (xup J 57 7 (nI sz)) 62 0 (fun t => s (1082 + 124 * m + 4 + t)) i)) sz _ (fun i hi K => ?_) (fun K => ?_) xN (by show sz < 100000; omega)
            · show F_X11_rules_c125 _ xN L key b k (nI m) (nI (1082 + 124 * m)) (nI i) (wr (xup J 57 7 (nI sz)) 62 0 (fun t => s (1082 + 124 * m + 4 + t)) i) K = K (nI (i + 1), wr (xup J 57 7 (nI sz)) 62 0 (fun t => s (1082 + 124 * m + 4 + t)) (i + 1))
              unfold F_X11_rules_c125
              have ei : (nI (1082 + 124 * m) + 4) + nI i = nI (1082 + 124 * m + 4 + i) := by
                rw [show (4 : Int32) = nI 4 from rfl, nI_add, nI_add]
              rw [xbn_e, hW 57 (by decide), xup_eq, if_neg (nI_ge hi (by omega)), ei, xal_n (by omega) (by decide), hW 58 (by decide), xup_ne (k' := 58) (by decide), hs, xas_n (by omega) (by decide), xbn_e, nI_1]
              show _ = K (nI (i + 1), xup (wr (xup J 57 7 (nI sz)) 62 0 (fun t => s (1082 + 124 * m + 4 + t)) i) 62 (0 + i) (s (1082 + 124 * m + 4 + i)))
              rw [Nat.zero_add]
            · show F_X11_rules_c125 _ xN L key b k (nI m) (nI (1082 + 124 * m)) (nI sz) (wr (xup J 57 7 (nI sz)) 62 0 (fun t => s (1082 + 124 * m + 4 + t)) sz) K = _
              unfold F_X11_rules_c125
              rw [xbn_e, hW 57 (by decide), xup_eq, if_pos (nI_le (Nat.le_refl _) (by omega)), r1, Option.bind_some]
              rfl
          rw [hlp, r4]
          have hnil : cdl (fun t => I 17 (120 * m + t)) (ve m) (ie m - ve m) = [] ↔ ve m = ie m := by
            constructor
            · intro e
              have := congrArg List.length e
              rw [cdl_len] at this
              have : ie m - ve m = 0 := this
              omega
            · intro e; rw [e, Nat.sub_self]; rfl
          by_cases g4 : ve m = ie m
          · rw [if_pos (hnil.mpr g4), if_neg (by decide)]
            have ht : hbf s (fun r t => I 17 (120 * r + t)) ve ie nm key m = true := by simp [hbf, g1, g2, g3, g4]
            refine ⟨J2, L2, ?_, hJ2, r7, fun _ => ?_⟩
            · unfold ansR; rw [if_pos ht]
            · unfold valR; rw [if_pos ht]; exact r3
          · rw [if_neg (fun e => g4 (hnil.mp e))]
            by_cases g5 : evt nm (cdl (fun t => I 17 (120 * m + t)) (ve m) (ie m - ve m)) = 0
            · rw [if_pos g5, if_pos rfl, xbn_e]
              exact step J2 L2 hJ2 r7 (by simp [hbf, g4, g5])
            · rw [if_neg g5, if_neg (by decide)]
              have ht : hbf s (fun r t => I 17 (120 * r + t)) ve ie nm key m = true := by simp [hbf, g1, g2, g3, g5]
              refine ⟨J2, L2, ?_, hJ2, r7, fun _ => ?_⟩
              · unfold ansR; rw [if_pos ht]
              · unfold valR; rw [if_pos ht]; exact r3
        · rw [if_neg g2, xbn_e]
          exact step J L (FrU.rfl' J) (FrL.rfl' L) (by simp [hbf, g2])
    · rw [if_neg g3, xbn_e]
      exact step J L (FrU.rfl' J) (FrL.rfl' L) (by simp [hbf, g3])
