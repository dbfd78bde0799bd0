section
/-! run: settling. Coin moves; men fall; holds come back; bargains end -/
theorem sumOf43 {L : xTL} {pd : Nat → Nat → Nat} {a : Nat} (ha : a < 12) (h : ∀ c, c < 13 → L 43 (13 * a + c) = lN (pd a c)) : F_X6_sumOf_43 xN L (nI a) = some (lN (SF (pd a) 13)) := by
  unfold F_X6_sumOf_43
  rw [show ((0 : Int64), (0 : Int32)) = (fun c => (lN (SF (pd a) c), nI c)) 0 from rfl]
  refine xlp_for (fun c => (lN (SF (pd a) c), nI c)) 13 _ (fun c hc K => ?_) (fun K => ?_) xN (by decide)
  · show F_X6_sumOf_43_c5 xN L (nI a) (lN (SF (pd a) c)) (nI c) K = K (lN (SF (pd a) (c + 1)), nI (c + 1))
    unfold F_X6_sumOf_43_c5
    rw [if_neg (show ¬ (13 : Int32) ≤ nI c from nI_ge (b := 13) hc (by decide)), xal_i (i := 13 * a + c) (by rw [show (13 : Int32) = nI 13 from rfl, nI_mul, nI_add, Nat.mul_comm]) (by omega) (by decide), h c hc, xbn_e, xbn_e, lN_add, nI_1]; rfl
  · show F_X6_sumOf_43_c5 xN L (nI a) (lN (SF (pd a) 13)) (nI 13) K = _
    unfold F_X6_sumOf_43_c5
    rw [if_pos (by decide)]
theorem sumTo43 {L : xTL} {pd : Nat → Nat → Nat} {a : Nat} (ha : a < 12) (h : ∀ k, k < 12 → L 43 (13 * k + a) = lN (pd k a)) : F_X6_sumTo_43 xN L (nI a) = some (lN (SF (fun k => pd k a) 12)) := by
  unfold F_X6_sumTo_43
  rw [show ((0 : Int64), (0 : Int32)) = (fun c => (lN (SF (fun k => pd k a) c), nI c)) 0 from rfl]
  refine xlp_for (fun c => (lN (SF (fun k => pd k a) c), nI c)) 12 _ (fun c hc K => ?_) (fun K => ?_) xN (by decide)
  · show F_X6_sumTo_43_c5 xN L (nI a) (lN (SF (fun k => pd k a) c)) (nI c) K = K (lN (SF (fun k => pd k a) (c + 1)), nI (c + 1))
    unfold F_X6_sumTo_43_c5
    rw [if_neg (n12 hc), xal_i (i := 13 * c + a) (by rw [show (13 : Int32) = nI 13 from rfl, nI_mul, nI_add, Nat.mul_comm]) (by omega) (by decide), h c hc, xbn_e, xbn_e, lN_add, nI_1]; rfl
  · show F_X6_sumTo_43_c5 xN L (nI a) (lN (SF (fun k => pd k a) 12)) (nI 12) K = _
    unfold F_X6_sumTo_43_c5
    rw [if_pos (by decide)]
/-- what a settling tells of x -/
def sv (ow pd : Nat → Nat → Nat) (x t : Nat) : Nat := if t = 0 then SF (ow x) 13 else if t = 1 then SF (pd x) 13 else if t = 2 then SF (fun k => pd k x) 12 else ow x 12
/-- the coin of x when all have paid -/
def cn (co : Nat → Nat) (pd : Nat → Nat → Nat) (x : Nat) : Nat := co x + SF (fun k => pd k x) 12 - SF (pd x) 13
theorem cn_e {co : Nat → Nat} {pd : Nat → Nat → Nat} {x : Nat} (h : SF (pd x) 13 ≤ co x + SF (fun k => pd k x) 12) : lN (co x) + (lN (SF (fun k => pd k x) 12) - lN (SF (pd x) 13)) = lN (cn co pd x) := by
  have : ∀ a b c : Int64, a + (b - c) = (a + b) - c := fun a b c => by grind
  rw [this, lN_add, lN_sub h]; rfl
def mcA (L : xTL) (ow pd : Nat → Nat → Nat) (co : Nat → Nat) (a : Nat) : xTL := fun k j => if k = 4 ∧ j < a then lN (cn co pd j) else if k = 28 ∧ j / 5 < a ∧ j % 5 < 4 then lN (sv ow pd (j / 5) (j % 5)) else L k j
theorem mcA_ne {L : xTL} {ow pd : Nat → Nat → Nat} {co : Nat → Nat} {a k : Nat} (h : k ≠ 4) (h2 : k ≠ 28) : mcA L ow pd co a k = L k := by
  funext j; unfold mcA; rw [if_neg (fun z => h z.1), if_neg (fun z => h2 z.1)]
theorem mcA_4 {L : xTL} {ow pd : Nat → Nat → Nat} {co : Nat → Nat} {a j : Nat} : mcA L ow pd co a 4 j = if j < a then lN (cn co pd j) else L 4 j := by
  unfold mcA
  by_cases c : j < a
  · rw [if_pos ⟨rfl, c⟩, if_pos c]
  · rw [if_neg (fun z => c z.2), if_neg (fun z => absurd z.1 (by decide)), if_neg c]
theorem mcA_28 {L : xTL} {ow pd : Nat → Nat → Nat} {co : Nat → Nat} {a j : Nat} : mcA L ow pd co a 28 j = if j / 5 < a ∧ j % 5 < 4 then lN (sv ow pd (j / 5) (j % 5)) else L 28 j := by
  unfold mcA
  rw [if_neg (fun z => absurd z.1 (by decide))]
  by_cases c : j / 5 < a ∧ j % 5 < 4
  · rw [if_pos ⟨rfl, c⟩, if_pos c]
  · rw [if_neg (fun z => c z.2), if_neg c]
theorem mcA_s {L : xTL} {ow pd : Nat → Nat → Nat} {co : Nat → Nat} {a : Nat} : xup (xup (xup (xup (xup (mcA L ow pd co a) 4 a (lN (cn co pd a))) 28 (5 * a + 0) (lN (sv ow pd a 0))) 28 (5 * a + 1) (lN (sv ow pd a 1))) 28 (5 * a + 2) (lN (sv ow pd a 2))) 28 (5 * a + 3) (lN (sv ow pd a 3)) = mcA L ow pd co (a + 1) := by
  funext k j
  by_cases h28 : k = 28
  · subst h28
    rw [xup_at, xup_at, xup_at, xup_at, xup_ne (by decide), mcA_28, mcA_28]
    by_cases e3 : j = 5 * a + 3
    · rw [if_pos e3, if_pos (by omega), show j / 5 = a by omega, show j % 5 = 3 by omega]
    · rw [if_neg e3]
      by_cases e2 : j = 5 * a + 2
      · rw [if_pos e2, if_pos (by omega), show j / 5 = a by omega, show j % 5 = 2 by omega]
      · rw [if_neg e2]
        by_cases e1 : j = 5 * a + 1
        · rw [if_pos e1, if_pos (by omega), show j / 5 = a by omega, show j % 5 = 1 by omega]
        · rw [if_neg e1]
          by_cases e0 : j = 5 * a + 0
          · rw [if_pos e0, if_pos (by omega), show j / 5 = a by omega, show j % 5 = 0 by omega]
          · rw [if_neg e0]
            by_cases c : j / 5 < a ∧ j % 5 < 4
            · rw [if_pos c, if_pos (by omega)]
            · rw [if_neg c, if_neg (by omega)]
  · rw [xup_ne h28, xup_ne h28, xup_ne h28, xup_ne h28]
    by_cases h4 : k = 4
    · subst h4
      rw [xup_at, mcA_4, mcA_4]
      by_cases e : j = a
      · rw [if_pos e, if_pos (by omega), e]
      · rw [if_neg e]
        by_cases c : j < a
        · rw [if_pos c, if_pos (by omega)]
        · rw [if_neg c, if_neg (by omega)]
    · rw [xup_ne h4, mcA_ne h4 h28, mcA_ne h4 h28]
theorem move_e {I : xTI} {L : xTL} {ow pd : Nat → Nat → Nat} {co : Nat → Nat} {m : Nat} (hm : m ≤ 12) (hI : I 3 0 = nI m) (h42 : ∀ a, a < 12 → L 42 (13 * a + 12) = lN (ow a 12)) (h45 : ∀ a, a < 12 → L 45 a = lN (SF (ow a) 13)) (h43 : ∀ a c, a < 12 → c < 13 → L 43 (13 * a + c) = lN (pd a c)) (h4 : ∀ a, a < 12 → L 4 a = lN (co a)) (hp : ∀ a, a < 12 → SF (pd a) 13 ≤ co a + SF (fun k => pd k a) 12) : F_X6_moveCoin xN I L = some (mcA L ow pd co m) := by
  unfold F_X6_moveCoin
  rw [show ((0 : Int32), L) = (fun a => (nI a, mcA L ow pd co a)) 0 by
    show _ = (nI 0, mcA L ow pd co 0)
    congr 1
    funext k j; unfold mcA; rw [if_neg (fun z => by omega), if_neg (fun z => by omega)]]
  refine xlp_for (fun a => (nI a, mcA L ow pd co a)) m _ (fun a ha K => ?_) (fun K => ?_) xN (by have : xN = 100000 := rfl; omega)
  · show F_X6_moveCoin_c2 xN I (nI a) (mcA L ow pd co a) K = K (nI (a + 1), mcA L ow pd co (a + 1))
    have ha12 : a < 12 := by omega
    have e5 : ∀ t, nI a * 5 + nI t = nI (5 * a + t) := fun t => by rw [show (5 : Int32) = nI 5 from rfl, nI_mul, nI_add, Nat.mul_comm]
    unfold F_X6_moveCoin_c2
    rw [xbn_e, hI, if_neg (nI_ge ha (by omega)), sumOf43 (pd := pd) ha12 (fun c hc => by rw [mcA_ne (by decide) (by decide)]; exact h43 a c ha12 hc), Option.bind_some, sumTo43 (pd := pd) ha12 (fun k hk => by rw [mcA_ne (by decide) (by decide)]; exact h43 k a hk (by omega)), Option.bind_some, xal_n ha12 (by decide), mcA_4, if_neg (by omega), h4 a ha12, cn_e (hp a ha12), xas_n ha12 (by decide), xbn_e, xal_n ha12 (by decide), xup_ne (by decide), mcA_ne (by decide) (by decide), h45 a ha12, xas_i (show (nI a * 5 + 0 : Int32) = nI (5 * a + 0) from e5 0) (by omega) (by decide), xas_i (show (nI a * 5 + 1 : Int32) = nI (5 * a + 1) from e5 1) (by omega) (by decide), xas_i (show (nI a * 5 + 2 : Int32) = nI (5 * a + 2) from e5 2) (by omega) (by decide), xal_i (i := 13 * a + 12) (by rw [show (13 : Int32) = nI 13 from rfl, show (12 : Int32) = nI 12 from rfl, nI_mul, nI_add, Nat.mul_comm]) (by omega) (by decide), xup_ne (by decide), xup_ne (by decide), xup_ne (by decide), xup_ne (by decide), mcA_ne (by decide) (by decide), h42 a ha12, xas_i (show (nI a * 5 + 3 : Int32) = nI (5 * a + 3) from e5 3) (by omega) (by decide), xbn_e, nI_1, ← mcA_s]
    rfl
  · show F_X6_moveCoin_c2 xN I (nI m) (mcA L ow pd co m) K = _
    unfold F_X6_moveCoin_c2
    rw [xbn_e, hI, if_pos (Int32.le_refl _)]
/-- the reference tells, -/
theorem b83_e {J : xTI} {M : xTL} {ow pd : Nat → Nat → Nat} {m : Nat} (hm : m ≤ 12) (hJ : J 58 1 = nI m) (h71 : ∀ a, a < 12 → M 71 a = lN (ow a 12)) (h72 : ∀ a, a < m → M 72 a = lN (SF (ow a) 13)) (h73 : ∀ a b, a < 12 → b < 12 → M 73 (12 * a + b) = lN (pd a b)) (h75 : ∀ a, a < 12 → M 75 a = lN (pd a 12)) (hz : ∀ a c, a < 12 → c < 13 → (m ≤ a ∨ (c < 12 ∧ m ≤ c)) → pd a c = 0) (x1 : Int32) : xlp (F_X11_settles_b83 xN J x1) xN (0, M) = xlp (F_X11_settles_b227 xN x1) xN (0, xup J 58 9 1, wr M 59 168 (fun i => lN (sv ow pd (i / 4) (i % 4))) (4 * m)) := by
  rw [show ((0 : Int32), M) = (fun a => (nI a, wr M 59 168 (fun i => lN (sv ow pd (i / 4) (i % 4))) (4 * a))) 0 from rfl]
  refine xlp_for (fun a => (nI a, wr M 59 168 (fun i => lN (sv ow pd (i / 4) (i % 4))) (4 * a))) m _ (fun a ha K => ?_) (fun K => ?_) xN (by have : xN = 100000 := rfl; omega)
  · have ha12 : a < 12 := by omega
    show F_X11_settles_c83 xN J x1 (nI a) (wr M 59 168 (fun i => lN (sv ow pd (i / 4) (i % 4))) (4 * a)) K = K (nI (a + 1), xup (xup (xup (xup (wr M 59 168 (fun i => lN (sv ow pd (i / 4) (i % 4))) (4 * a)) 59 (168 + (4 * a)) (lN (sv ow pd ((4 * a) / 4) ((4 * a) % 4)))) 59 (168 + (4 * a + 1)) (lN (sv ow pd ((4 * a + 1) / 4) ((4 * a + 1) % 4)))) 59 (168 + (4 * a + 2)) (lN (sv ow pd ((4 * a + 2) / 4) ((4 * a + 2) % 4)))) 59 (168 + (4 * a + 3)) (lN (sv ow pd ((4 * a + 3) / 4) ((4 * a + 3) % 4))))
    rw [show (4 * a) / 4 = a by omega, show (4 * a) % 4 = 0 by omega, show (4 * a + 1) / 4 = a by omega, show (4 * a + 1) % 4 = 1 by omega, show (4 * a + 2) / 4 = a by omega, show (4 * a + 2) % 4 = 2 by omega, show (4 * a + 3) / 4 = a by omega, show (4 * a + 3) % 4 = 3 by omega]
    have wne : ∀ k, k ≠ 59 → wr M 59 168 (fun i => lN (sv ow pd (i / 4) (i % 4))) (4 * a) k = M k := fun k hk => wr_ne hk _
    generalize wr M 59 168 (fun i => lN (sv ow pd (i / 4) (i % 4))) (4 * a) = M' at wne ⊢
    have tl : ∀ f : Nat → Nat, (∀ i, m ≤ i → i < 12 → f i = 0) → SF f m = SF f 12 := fun f hf => by
      have := SF_tail (f := f) (m := m) (12 - m) (fun i e1 e2 => hf i e1 (by omega))
      rw [show m + (12 - m) = 12 by omega] at this; exact this.symm
    unfold F_X11_settles_c83
    rw [s58_1, hJ, if_neg (nI_ge ha (by omega)), xal_n ha12 (by decide), wne 75 (by decide), h75 a ha12, show (lN (pd a 12), (0 : Int32)) = (fun b => (lN (pd a 12 + SF (pd a) b), nI b)) 0 from rfl]
    refine xlp_for (fun b => (lN (pd a 12 + SF (pd a) b), nI b)) m _ (fun b hb K2 => ?_) (fun K2 => ?_) xN (by have : xN = 100000 := rfl; omega)
    · show F_X11_settles_c104 K xN J M' x1 (nI a) (lN (pd a 12 + SF (pd a) b)) (nI b) K2 = K2 (lN (pd a 12 + (SF (pd a) b + pd a b)), nI (b + 1))
      unfold F_X11_settles_c104
      rw [s58_1, hJ, if_neg (nI_ge hb (by omega)), xal_i (i := 12 * a + b) (by rw [show (12 : Int32) = nI 12 from rfl, nI_mul, nI_add]) (by omega) (by decide), wne 73 (by decide), h73 a b ha12 (by omega), xbn_e, xbn_e, lN_add, nI_1, Nat.add_assoc]
    · show F_X11_settles_c104 K xN J M' x1 (nI a) (lN (pd a 12 + SF (pd a) m)) (nI m) K2 = _
      have es : pd a 12 + SF (pd a) m = sv ow pd a 1 := by
        rw [tl (pd a) (fun i h1 h2 => hz a i ha12 (by omega) (Or.inr ⟨h2, h1⟩)), Nat.add_comm]; rfl
      have e0 : (168 + 4 * nI a : Int32) = nI (168 + 4 * a) := by rw [show (168 : Int32) = nI 168 from rfl, show (4 : Int32) = nI 4 from rfl, nI_mul, nI_add]
      have et : ∀ t, (168 + 4 * nI a + nI t : Int32) = nI (168 + (4 * a + t)) := fun t => by rw [e0, nI_add, Nat.add_assoc]
      unfold F_X11_settles_c104
      rw [s58_1, hJ, if_pos (Int32.le_refl _), xal_n ha12 (by decide), wne 72 (by decide), h72 a ha, xas_i e0 (by omega) (by decide), xas_i (show (168 + 4 * nI a + 1 : Int32) = nI (168 + (4 * a + 1)) from et 1) (by omega) (by decide), gotten_e (pd := pd) hJ hm ha12 (fun k hk => by rw [xup_ne (by decide), xup_ne (by decide), wne 73 (by decide)]; exact h73 k a (by omega) ha12), Option.bind_some, xas_i (show (168 + 4 * nI a + 2 : Int32) = nI (168 + (4 * a + 2)) from et 2) (by omega) (by decide), xal_n ha12 (by decide), xup_ne (by decide), xup_ne (by decide), xup_ne (by decide), wne 71 (by decide), h71 a ha12, xas_i (show (168 + 4 * nI a + 3 : Int32) = nI (168 + (4 * a + 3)) from et 3) (by omega) (by decide), xbn_e, nI_1, es, tl (fun k => pd k a) (fun i h1 h2 => hz i a h2 (by omega) (Or.inl h1))]
      rfl
  · show F_X11_settles_c83 xN J x1 (nI m) (wr M 59 168 (fun i => lN (sv ow pd (i / 4) (i % 4))) (4 * m)) K = _
    unfold F_X11_settles_c83
    rw [s58_1, hJ, if_pos (Int32.le_refl _), xas_i (x := 9) (i := 9) rfl (by decide) (by decide)]
/-- moves the coin, and men fall -/
def fJ (J : xTI) (bd : Nat → Bool) (d : Int32) (a : Nat) : xTI := fun k j => if k = 58 ∧ 16 ≤ j ∧ (j - 16) / 4 < a ∧ bd ((j - 16) / 4) = true ∧ (j - 16) % 4 = 0 then 0 else if k = 58 ∧ 16 ≤ j ∧ (j - 16) / 4 < a ∧ bd ((j - 16) / 4) = true ∧ (j - 16) % 4 = 2 then d else J k j
theorem fJ_ne {J : xTI} {bd : Nat → Bool} {d : Int32} {a k : Nat} (h : k ≠ 58) : fJ J bd d a k = J k := by
  funext j; unfold fJ; rw [if_neg (fun z => h z.1), if_neg (fun z => h z.1)]
theorem fJ_o {J : xTI} {bd : Nat → Bool} {d : Int32} {a j : Nat} (h : j < 16 ∨ 16 + 4 * a ≤ j ∨ (j - 16) % 4 = 1 ∨ (j - 16) % 4 = 3 ∨ bd ((j - 16) / 4) = false) : fJ J bd d a 58 j = J 58 j := by
  unfold fJ
  have : ¬ (16 ≤ j ∧ (j - 16) / 4 < a ∧ bd ((j - 16) / 4) = true ∧ ((j - 16) % 4 = 0 ∨ (j - 16) % 4 = 2)) := by
    rintro ⟨h1, h2, h3, h4⟩
    rcases h with h | h | h | h | h
    · omega
    · omega
    · omega
    · omega
    · rw [h3] at h; exact absurd h (by decide)
  rw [if_neg (fun z => this ⟨z.2.1, z.2.2.1, z.2.2.2.1, Or.inl z.2.2.2.2⟩), if_neg (fun z => this ⟨z.2.1, z.2.2.1, z.2.2.2.1, Or.inr z.2.2.2.2⟩)]
theorem fJ_0 {J : xTI} {bd : Nat → Bool} {d : Int32} {a x : Nat} (hx : x < a) (hb : bd x = true) : fJ J bd d a 58 (16 + 4 * x) = 0 ∧ fJ J bd d a 58 (16 + 4 * x + 2) = d := by
  unfold fJ
  rw [show (16 + 4 * x - 16) / 4 = x by omega, show (16 + 4 * x + 2 - 16) / 4 = x by omega]
  exact ⟨if_pos ⟨rfl, by omega, hx, hb, by omega⟩, by rw [if_neg (fun z => by have := z.2.2.2.2; omega), if_pos ⟨rfl, by omega, hx, hb, by omega⟩]⟩
theorem fJ_s {J : xTI} {bd : Nat → Bool} {d : Int32} {a : Nat} (hb : bd a = true) : xup (xup (fJ J bd d a) 58 (16 + 4 * a) 0) 58 (16 + 4 * a + 2) d = fJ J bd d (a + 1) := by
  funext k j
  by_cases hk : k = 58
  · subst hk
    rw [xup_at, xup_at]
    by_cases e2 : j = 16 + 4 * a + 2
    · rw [if_pos e2, e2, (fJ_0 (by omega) hb).2]
    · rw [if_neg e2]
      by_cases e0 : j = 16 + 4 * a
      · rw [if_pos e0, e0, (fJ_0 (by omega) hb).1]
      · rw [if_neg e0]; unfold fJ
        by_cases c0 : 16 ≤ j ∧ (j - 16) / 4 < a ∧ bd ((j - 16) / 4) = true ∧ (j - 16) % 4 = 0
        · rw [if_pos ⟨rfl, c0⟩, if_pos ⟨rfl, c0.1, by omega, c0.2.2⟩]
        · rw [if_neg (fun z => c0 z.2), if_neg (show ¬ (58 = 58 ∧ 16 ≤ j ∧ (j - 16) / 4 < a + 1 ∧ bd ((j - 16) / 4) = true ∧ (j - 16) % 4 = 0) from fun z => c0 ⟨z.2.1, by have := z.2.1; have := z.2.2.1; have := z.2.2.2.2; omega, z.2.2.2⟩)]
          by_cases c2 : 16 ≤ j ∧ (j - 16) / 4 < a ∧ bd ((j - 16) / 4) = true ∧ (j - 16) % 4 = 2
          · rw [if_pos ⟨rfl, c2⟩, if_pos ⟨rfl, c2.1, by omega, c2.2.2⟩]
          · rw [if_neg (fun z => c2 z.2), if_neg (fun z => c2 ⟨z.2.1, by have := z.2.1; have := z.2.2.1; have := z.2.2.2.2; omega, z.2.2.2⟩)]
  · rw [xup_ne hk, xup_ne hk, fJ_ne hk, fJ_ne hk]
theorem fJ_d {J : xTI} {bd : Nat → Bool} {d : Int32} {a : Nat} (hb : bd a = false) : fJ J bd d a = fJ J bd d (a + 1) := by
  funext k j
  by_cases hk : k = 58
  · subst hk
    by_cases e : (j - 16) / 4 = a
    · rw [fJ_o (by omega), fJ_o (Or.inr (Or.inr (Or.inr (Or.inr (by rw [e]; exact hb)))))]
    · unfold fJ
      by_cases c : (j - 16) / 4 < a
      · have c' : (j - 16) / 4 < a + 1 := by omega
        simp only [c, c']
      · have c' : ¬ (j - 16) / 4 < a + 1 := by omega
        simp only [c, c']
  · rw [fJ_ne hk, fJ_ne hk]
abbrev bdB (ow pd : Nat → Nat → Nat) (a : Nat) : Bool := decide (SF (pd a) 13 < SF (ow a) 13)
theorem b227_e {J : xTI} {M : xTL} {ow pd : Nat → Nat → Nat} {co : Nat → Nat} {m : Nat} (hm : m ≤ 12) (hJ : J 58 1 = nI m) (h72 : ∀ a, a < m → M 72 a = lN (SF (ow a) 13)) (h59 : ∀ a, a < 12 → M 59 a = lN (co a)) (hsv : ∀ a, a < m → M 59 (168 + 4 * a + 1) = lN (SF (pd a) 13) ∧ M 59 (168 + 4 * a + 2) = lN (SF (fun k => pd k a) 12)) (hp : ∀ a, a < 12 → SF (pd a) 13 ≤ co a + SF (fun k => pd k a) 12) (hB : ∀ a, a < 12 → SF (ow a) 13 < 2 ^ 60 ∧ SF (pd a) 13 < 2 ^ 60) (hu : ∀ a, a < m → bdB ow pd a = true → J 58 (16 + 4 * a) = 1) (x1 : Int32) : xlp (F_X11_settles_b227 xN x1) xN (0, J, M) = xlp (F_X11_settles_b322 xN (wr M 59 0 (fun a => lN (cn co pd a)) m) x1) xN (0, fJ J (bdB ow pd) (J 58 0) m) := by
  rw [show ((0 : Int32), J, M) = (fun a => (nI a, fJ J (bdB ow pd) (J 58 0) a, wr M 59 0 (fun a => lN (cn co pd a)) a)) 0 by
    show _ = (nI 0, fJ J (bdB ow pd) (J 58 0) 0, M)
    congr 2
    funext k j; unfold fJ; rw [if_neg (fun z => by omega), if_neg (fun z => by omega)]]
  refine xlp_for (fun a => (nI a, fJ J (bdB ow pd) (J 58 0) a, wr M 59 0 (fun a => lN (cn co pd a)) a)) m _ (fun a ha K => ?_) (fun K => ?_) xN (by have : xN = 100000 := rfl; omega)
  · have ha12 : a < 12 := by omega
    show F_X11_settles_c227 xN x1 (nI a) (fJ J (bdB ow pd) (J 58 0) a) (wr M 59 0 (fun a => lN (cn co pd a)) a) K = K (nI (a + 1), fJ J (bdB ow pd) (J 58 0) (a + 1), wr M 59 0 (fun a => lN (cn co pd a)) (a + 1))
    rw [← wrs a]
    have w1 : ∀ j, a ≤ j → wr M 59 0 (fun a => lN (cn co pd a)) a 59 j = M 59 j := fun j hj => wr_out a (by omega)
    have w2 : wr M 59 0 (fun a => lN (cn co pd a)) a 72 = M 72 := wr_ne (by decide) _
    generalize wr M 59 0 (fun a => lN (cn co pd a)) a = M' at w1 w2 ⊢
    have e0 : (168 + 4 * nI a : Int32) = nI (168 + 4 * a) := by rw [show (168 : Int32) = nI 168 from rfl, show (4 : Int32) = nI 4 from rfl, nI_mul, nI_add]
    have e1 : (168 + 4 * nI a + 1 : Int32) = nI (168 + 4 * a + 1) := by rw [e0, nI_1]
    have e2 : (168 + 4 * nI a + 2 : Int32) = nI (168 + 4 * a + 2) := by rw [e0, show (2 : Int32) = nI 2 from rfl, nI_add]
    have hf1 : fJ J (bdB ow pd) (J 58 0) a 58 1 = nI m := by rw [fJ_o (by omega)]; exact hJ
    have hfu : F_X11_isUp (fJ J (bdB ow pd) (J 58 0) a) (nI a) = some (if J 58 (16 + 4 * a) = 1 then 1 else 0) := by rw [F11_up ha12, fJ_o (by omega)]
    have hBa := hB a ha12
    unfold F_X11_settles_c227
    rw [s58_1, hf1, if_neg (nI_ge ha (by omega)), xal_i (i := a) (Int32.zero_add _) (by omega) (by decide), w1 a (Nat.le_refl _), h59 a ha12, xal_i e2 (by omega) (by decide), w1 _ (by omega), (hsv a ha).2, xal_i e1 (by omega) (by decide), w1 _ (by omega), (hsv a ha).1, cn_e (hp a ha12), xas_i (i := a) (Int32.zero_add _) (by omega) (by decide), xal_i e1 (by omega) (by decide), xup_nj (by omega), w1 _ (by omega), (hsv a ha).1, xal_n ha12 (by decide), xup_ne (by decide), w2, h72 a ha]
    by_cases c : SF (pd a) 13 < SF (ow a) 13
    · have hb : bdB ow pd a = true := decide_eq_true c
      rw [if_neg (fun z => by have := (pk_lLE (by omega) (by omega)).mp ((lg_cmp_ge _ _).mp z); omega), hfu, if_pos (hu a ha hb), Option.bind_some, if_neg (by decide)]
      unfold F_X11_falls
      have e16 : (16 + 4 * nI a : Int32) = nI (16 + 4 * a) := by rw [show (16 : Int32) = nI 16 from rfl, show (4 : Int32) = nI 4 from rfl, nI_mul, nI_add]
      rw [xas_i e16 (by omega) (by decide), s58_0, xup_nj (by omega), fJ_o (by omega), xas_i (i := 16 + 4 * a + 2) (by rw [e16, show (2 : Int32) = nI 2 from rfl, nI_add]) (by omega) (by decide), fJ_s hb, Option.bind_some, xbn_e, nI_1]
    · have hb : bdB ow pd a = false := decide_eq_false c
      rw [if_pos ((lg_cmp_ge _ _).mpr ((pk_lLE (by omega) (by omega)).mpr (by omega))), xbn_e, nI_1, ← fJ_d hb]
  · show F_X11_settles_c227 xN x1 (nI m) (fJ J (bdB ow pd) (J 58 0) m) (wr M 59 0 (fun a => lN (cn co pd a)) m) K = _
    unfold F_X11_settles_c227
    rw [s58_1, fJ_o (by omega), hJ, if_pos (Int32.le_refl _)]
/-- holds come back, with what was delivered -/
def hR (J : xTI) (s : Nat → Int32) (h : Nat → Nat) (i : Nat) : xTI := fun k j => if k = 58 ∧ 64 ≤ j ∧ j < 124 then nI (h (j - 64) + rcv s i (j - 64)) else J k j
theorem hR_ne {J : xTI} {s : Nat → Int32} {h : Nat → Nat} {i k : Nat} (hk : k ≠ 58) : hR J s h i k = J k := by
  funext j; unfold hR; rw [if_neg (fun z => hk z.1)]
theorem hR_o {J : xTI} {s : Nat → Int32} {h : Nat → Nat} {i j : Nat} (hj : j < 64 ∨ 124 ≤ j) : hR J s h i 58 j = J 58 j := by
  unfold hR; rw [if_neg (fun z => by omega)]
theorem hR_i {J : xTI} {s : Nat → Int32} {h : Nat → Nat} {i j : Nat} (hj : j < 60) : hR J s h i 58 (64 + j) = nI (h j + rcv s i j) := by
  unfold hR; rw [if_pos ⟨rfl, by omega, by omega⟩, show 64 + j - 64 = j by omega]
theorem holds_b {J : xTI} {M : xTL} {s : Nat → Int32} {q : Nat → Nat} {h : Nat → Nat} (hd : IVd s q) (hq1 : q 1 ≤ 12) (hq2 : q 2 ≤ 5) (hq7 : q 7 ≤ 120) (h7 : J 58 7 = nI (q 7)) (h76 : ∀ j, j < 60 → J 76 j = nI (h j)) (hs : ∀ j, 4670 ≤ j → J 58 j = s j) (x1 : Int32) : xlp (F_X11_settles_b322 xN M x1) xN (0, J) = xlp (F_X11_settles_b427 xN M x1) xN (0, hR J s h (q 7)) := by
  rw [show ((0 : Int32), J) = (fun i => (nI i, wr J 58 64 (fun j => J 76 j) i)) 0 from rfl]
  refine xlp_for (fun i => (nI i, wr J 58 64 (fun j => J 76 j) i)) 60 _ (fun i hi K => ?_) (fun K => ?_) xN (by decide)
  · show F_X11_settles_c322 xN M x1 (nI i) (wr J 58 64 (fun j => J 76 j) i) K = K (nI (i + 1), xup (wr J 58 64 (fun j => J 76 j) i) 58 (64 + i) (J 76 i))
    unfold F_X11_settles_c322
    rw [if_neg (n60 hi), xal_n hi (by decide), wr_ne (by decide), xas_i (i := 64 + i) (by rw [show (64 : Int32) = nI 64 from rfl, nI_add]) (by omega) (by decide), xbn_e, nI_1]
  · show F_X11_settles_c322 xN M x1 (nI 60) (wr J 58 64 (fun j => J 76 j) 60) K = _
    unfold F_X11_settles_c322
    have e0 : wr J 58 64 (fun j => J 76 j) 60 = hR J s h 0 := by
      funext k j
      by_cases hk : k = 58
      · subst hk
        by_cases hj : 64 ≤ j ∧ j < 124
        · obtain ⟨t, rfl⟩ : ∃ t, j = 64 + t := ⟨j - 64, by omega⟩
          rw [wr_in 60 (by omega), hR_i (by omega), h76 t (by omega)]; rfl
        · rw [wr_out 60 (by omega), hR_o (by omega)]
      · rw [wr_ne hk, hR_ne hk]
    rw [if_pos (by decide), e0, show ((0 : Int32), hR J s h 0) = (fun i => (nI i, hR J s h i)) 0 from rfl]
    refine xlp_for (fun i => (nI i, hR J s h i)) (q 7) _ (fun i hi K2 => ?_) (fun K2 => ?_) xN (by have : xN = 100000 := rfl; omega)
    · show F_X11_settles_c351 xN M x1 (nI i) (hR J s h i) K2 = K2 (nI (i + 1), hR J s h (i + 1))
      obtain ⟨k, f, t, sh, a0, a1, a2, a3, a4, a5, a6, a7, a8, a9, -⟩ := hd.1 i hi
      have e6 : (4670 + 6 * nI i : Int32) = nI (4670 + 6 * i) := by rw [show (4670 : Int32) = nI 4670 from rfl, show (6 : Int32) = nI 6 from rfl, nI_mul, nI_add]
      have e62 : (4670 + 6 * nI i + 2 : Int32) = nI (4670 + 6 * i + 2) := by rw [e6, show (2 : Int32) = nI 2 from rfl, nI_add]
      have e63 : (4670 + 6 * nI i + 3 : Int32) = nI (4670 + 6 * i + 3) := by rw [e6, show (3 : Int32) = nI 3 from rfl, nI_add]
      have ec : (64 + 5 * nI t + nI k : Int32) = nI (64 + (5 * t + k)) := by rw [show (64 : Int32) = nI 64 from rfl, show (5 : Int32) = nI 5 from rfl, nI_mul, nI_add, nI_add, Nat.add_assoc]
      unfold F_X11_settles_c351
      rw [s58_7, hR_o (by omega), h7, if_neg (nI_ge hi (by omega)), xal_i e62 (by omega) (by decide), hR_o (by omega), hs _ (by omega), a2, xal_i e6 (by omega) (by decide), hR_o (by omega), hs _ (by omega), a0, xal_i ec (by omega) (by decide), hR_i (by omega), xal_i e63 (by omega) (by decide), hR_o (by omega), hs _ (by omega), a3, xas_i ec (by omega) (by decide), xbn_e, nI_1, nI_add]
      congr 2
      funext k' j
      by_cases hk : k' = 58
      · subst hk
        rw [xup_at]
        by_cases e : j = 64 + (5 * t + k)
        · rw [if_pos e, e, hR_i (by omega), rcv, if_pos (by rw [a0, a2, nI_mul, nI_add]), a3, nI_clamp (by omega), Nat.add_assoc]
        · rw [if_neg e]
          by_cases hj : 64 ≤ j ∧ j < 124
          · obtain ⟨t', rfl⟩ : ∃ t', j = 64 + t' := ⟨j - 64, by omega⟩
            rw [hR_i (by omega), hR_i (by omega), rcv, if_neg (fun z => e (by rw [a0, a2, nI_mul, nI_add] at z; have := (nI_eq (by omega) (by omega)).mp z; omega)), Nat.add_zero]
          · rw [hR_o (by omega), hR_o (by omega)]
      · rw [xup_ne hk, hR_ne hk, hR_ne hk]
    · show F_X11_settles_c351 xN M x1 (nI (q 7)) (hR J s h (q 7)) K2 = _
      unfold F_X11_settles_c351
      rw [s58_7, hR_o (by omega), h7, if_pos (Int32.le_refl _)]
/-- the account's bargains end -/
theorem end_sim {I J : xTI} {M : xTL} {q : Nat → Nat} (hW : WB I (J 58) q) (ac : Int32) : ∃ I2 J2, F_X6_endBargains xN I ac = some I2 ∧ xlp (F_X11_settles_b427 xN M ac) xN (0, J) = xlp (F_X11_settles_b502 xN) xN (0, J2, wr M 59 24 (fun _ => 0) 144) ∧ WB I2 (J2 58) q ∧ (∀ k, k ≠ 13 → I2 k = I k) ∧ (∀ k, k ≠ 58 → J2 k = J k) ∧ (∀ j, ¬ (192 ≤ j ∧ j < 912 ∧ (j - 192) % 12 = 8) → J2 58 j = J 58 j) ∧ (∀ b, b < 60 → J2 58 (192 + 12 * b + 8) = J 58 (192 + 12 * b + 8) ∨ J2 58 (192 + 12 * b + 8) = 2) := by
  unfold F_X6_endBargains
  refine xlp_sim (P := fun b x y => x.1 = nI b ∧ y.1 = nI b ∧ WB x.2 (y.2 58) q ∧ (∀ k, k ≠ 13 → x.2 k = I k) ∧ (∀ k, k ≠ 58 → y.2 k = J k) ∧ (∀ j, ¬ (192 ≤ j ∧ j < 912 ∧ (j - 192) % 12 = 8) → y.2 58 j = J 58 j) ∧ (∀ b, b < 60 → y.2 58 (192 + 12 * b + 8) = J 58 (192 + 12 * b + 8) ∨ y.2 58 (192 + 12 * b + 8) = 2)) 60 (fun r1 r2 => ∃ (I2 J2 : xTI), r1 = some I2 ∧ r2 = xlp (F_X11_settles_b502 xN) xN (0, J2, wr M 59 24 (fun _ => 0) 144) ∧ WB I2 (J2 58) q ∧ (∀ k, k ≠ 13 → I2 k = I k) ∧ (∀ k, k ≠ 58 → J2 k = J k) ∧ (∀ j, ¬ (192 ≤ j ∧ j < 912 ∧ (j - 192) % 12 = 8) → J2 58 j = J 58 j) ∧ (∀ b, b < 60 → J2 58 (192 + 12 * b + 8) = J 58 (192 + 12 * b + 8) ∨ J2 58 (192 + 12 * b + 8) = 2)) ?_ ?_ xN xN (by decide) (by decide) (0, I) (0, J) ⟨rfl, rfl, hW, fun _ _ => rfl, fun _ _ => rfl, fun _ _ => rfl, fun _ _ => Or.inl rfl⟩
  · rintro b hb ⟨x, I'⟩ ⟨y, J'⟩ ⟨e1, e2, w, f1, f2, f3, f4⟩
    dsimp only at e1 e2 w f1 f2 f3 f4
    subst e1 e2
    by_cases hst : stF (J' 58) b ac
    · refine ⟨(nI (b + 1), xup I' 13 (11 * b + 7) 2), (nI (b + 1), xup J' 58 (192 + 12 * b + 8) 2), fun K => ?_, fun K => ?_, rfl, rfl, w.put (v := 2) hb hst.1 (by decide) (fun j => by dsimp only; rw [xup_at]; rfl) (fun j _ _ => by dsimp only; rw [xup_at]; rfl), fun k hk => by dsimp only; rw [xup_ne hk, f1 k hk], fun k hk => by dsimp only; rw [xup_ne hk, f2 k hk], fun j hj => by dsimp only; rw [xup_at, if_neg (fun z => hj (by omega)), f3 j hj], fun b' hb' => ?_⟩
      · show F_X6_endBargains_c2 xN ac (nI b) I' K = _
        unfold F_X6_endBargains_c2 F_X0_putState
        rw [if_neg (n60 hb), F10_sf w.b hb, if_pos hst, Option.bind_some, if_neg (by decide), show F_X8_put_12 I' (nI b) 7 2 = _ from put12 (t := 7) hb (by decide), Option.bind_some, Option.bind_some, xbn_e, nI_1]
      · show F_X11_settles_c427 xN M ac (nI b) J' K = _
        unfold F_X11_settles_c427
        rw [if_neg (n60 hb), F11_stn hb, if_pos ⟨hst.1, hst.2.1⟩, Option.bind_some, if_neg (by decide), bg11_7 hb, Option.bind_some, if_pos hst.2.2, xas_i (i := 192 + 12 * b + 8) (by rw [show (192 : Int32) = nI 192 from rfl, show (12 : Int32) = nI 12 from rfl, show (8 : Int32) = nI 8 from rfl, nI_mul, nI_add, nI_add]) (by omega) (by decide), xbn_e, nI_1]
      · dsimp only; rw [xup_at]
        by_cases e : 192 + 12 * b' + 8 = 192 + 12 * b + 8
        · rw [if_pos e]; exact Or.inr rfl
        · rw [if_neg e]; exact f4 b' hb'
    · refine ⟨(nI (b + 1), I'), (nI (b + 1), J'), fun K => ?_, fun K => ?_, rfl, rfl, w, f1, f2, f3, f4⟩
      · show F_X6_endBargains_c2 xN ac (nI b) I' K = _
        unfold F_X6_endBargains_c2
        rw [if_neg (n60 hb), F10_sf w.b hb, if_neg hst, Option.bind_some, if_pos rfl, xbn_e, nI_1]
      · show F_X11_settles_c427 xN M ac (nI b) J' K = _
        unfold F_X11_settles_c427
        rw [if_neg (n60 hb), F11_stn hb, bg11_7 hb]
        simp only [Option.bind_some, xbn_e, nI_1]
        by_cases e : J' 58 (192 + 12 * b) = 1 ∧ J' 58 (192 + 12 * b + 8) = 1
        · rw [if_pos e, if_neg (by decide), if_neg (fun z => hst ⟨e.1, e.2, z⟩)]
        · rw [if_neg e, if_pos rfl]
  · rintro ⟨x, I'⟩ ⟨y, J'⟩ ⟨e1, e2, w, f1, f2, f3, f4⟩
    dsimp only at e1 e2 w f1 f2 f3 f4
    subst e1 e2
    refine ⟨some I', _, fun K => ?_, fun K => ?_, I', J', rfl, rfl, w, f1, f2, f3, f4⟩
    · show F_X6_endBargains_c2 xN ac (nI 60) I' K = _
      unfold F_X6_endBargains_c2
      rw [if_pos (by decide)]
    · show F_X11_settles_c427 xN M ac (nI 60) J' K = _
      unfold F_X11_settles_c427
      rw [if_pos (by decide), show ((0 : Int32), M) = (fun i => (nI i, wr M 59 24 (fun _ => 0) i)) 0 from rfl]
      refine xlp_for (fun i => (nI i, wr M 59 24 (fun _ => 0) i)) 144 _ (fun i hi K2 => ?_) (fun K2 => ?_) xN (by decide)
      · show F_X11_settles_c477 xN J' (nI i) (wr M 59 24 (fun _ => 0) i) K2 = K2 (nI (i + 1), xup (wr M 59 24 (fun _ => 0) i) 59 (24 + i) 0)
        unfold F_X11_settles_c477
        rw [if_neg (show ¬ (144 : Int32) ≤ nI i from nI_ge (b := 144) hi (by decide)), xas_i (i := 24 + i) (by rw [show (24 : Int32) = nI 24 from rfl, nI_add]) (by omega) (by decide), xbn_e, nI_1]
      · show F_X11_settles_c477 xN J' (nI 144) (wr M 59 24 (fun _ => 0) 144) K2 = _
        unfold F_X11_settles_c477
        rw [if_pos (by decide)]
/-- the class takes them down -/
def hI (I : xTI) (bd : Nat → Bool) (d : Int32) (a : Nat) : xTI := fun k j => if k = 8 ∧ j < a ∧ bd j = true then d else I k j
theorem hI_ne {I : xTI} {bd : Nat → Bool} {d : Int32} {a k : Nat} (h : k ≠ 8) : hI I bd d a k = I k := by
  funext j; unfold hI; rw [if_neg (fun z => h z.1)]
theorem hI_8 {I : xTI} {bd : Nat → Bool} {d : Int32} {a j : Nat} : hI I bd d a 8 j = if j < a ∧ bd j = true then d else I 8 j := by
  unfold hI
  by_cases c : j < a ∧ bd j = true
  · rw [if_pos c, if_pos ⟨rfl, c⟩]
  · rw [if_neg c, if_neg (fun z => c z.2)]
theorem hammer_e {I : xTI} {L : xTL} {ow pd : Nat → Nat → Nat} {m : Nat} (hm : m ≤ 12) (h3 : I 3 0 = nI m) (h45 : ∀ a, a < 12 → L 45 a = lN (SF (ow a) 13)) (h43 : ∀ a c, a < 12 → c < 13 → L 43 (13 * a + c) = lN (pd a c)) (hB : ∀ a, a < 12 → SF (ow a) 13 < 2 ^ 60 ∧ SF (pd a) 13 < 2 ^ 60) : F_X6_hammer xN I L = some (nI (SF (fun a => if bdB ow pd a = true then 1 else 0) m), hI I (bdB ow pd) (I 1 0) m) := by
  unfold F_X6_hammer
  rw [show ((0 : Int32), (0 : Int32), I) = (fun a => (nI (SF (fun a => if bdB ow pd a = true then 1 else 0) a), nI a, hI I (bdB ow pd) (I 1 0) a)) 0 by
    show _ = (nI 0, nI 0, hI I (bdB ow pd) (I 1 0) 0)
    congr 2
    funext k j; unfold hI; rw [if_neg (fun z => by omega)]]
  refine xlp_for (fun a => (nI (SF (fun a => if bdB ow pd a = true then 1 else 0) a), nI a, hI I (bdB ow pd) (I 1 0) a)) m _ (fun a ha K => ?_) (fun K => ?_) xN (by have : xN = 100000 := rfl; omega)
  · have ha12 : a < 12 := by omega
    show F_X6_hammer_c4 xN L (nI (SF (fun a => if bdB ow pd a = true then 1 else 0) a)) (nI a) (hI I (bdB ow pd) (I 1 0) a) K = K (nI (SF (fun a => if bdB ow pd a = true then 1 else 0) a + if bdB ow pd a = true then 1 else 0), nI (a + 1), hI I (bdB ow pd) (I 1 0) (a + 1))
    have hBa := hB a ha12
    unfold F_X6_hammer_c4
    rw [xbn_e, hI_ne (by decide), h3, if_neg (nI_ge ha (by omega)), sumOf43 (pd := pd) ha12 (fun c hc => h43 a c ha12 hc), Option.bind_some, xal_n ha12 (by decide), h45 a ha12]
    by_cases c : SF (pd a) 13 < SF (ow a) 13
    · have hb : bdB ow pd a = true := decide_eq_true c
      rw [if_neg (fun z => by have := (pk_lLE (by omega) (by omega)).mp ((lg_cmp_ge _ _).mp z); omega), xbn_e, hI_ne (by decide), xas_n ha12 (by decide), xbn_e, xbn_e, nI_1, nI_1, if_pos hb]
      congr 3
      funext k j
      by_cases hk : k = 8
      · subst hk
        rw [xup_at, hI_8, hI_8]
        by_cases e : j = a
        · rw [if_pos e, if_pos ⟨by omega, by rw [e]; exact hb⟩]
        · rw [if_neg e]
          by_cases d : j < a ∧ bdB ow pd j = true
          · rw [if_pos d, if_pos ⟨by omega, d.2⟩]
          · rw [if_neg d, if_neg (fun z => d ⟨by omega, z.2⟩)]
      · rw [xup_ne hk, hI_ne hk, hI_ne hk]
    · have hb : bdB ow pd a = false := decide_eq_false c
      rw [if_pos ((lg_cmp_ge _ _).mpr ((pk_lLE (by omega) (by omega)).mpr (by omega))), xbn_e, nI_1, if_neg (by rw [hb]; decide), Nat.add_zero]
      congr 3
      funext k j
      by_cases hk : k = 8
      · subst hk
        rw [hI_8, hI_8]
        by_cases d : j < a ∧ bdB ow pd j = true
        · rw [if_pos d, if_pos ⟨by omega, d.2⟩]
        · rw [if_neg d, if_neg (fun z => d ⟨by
            by_cases e : j = a
            · have := z.2; rw [e, hb] at this; exact absurd this (by decide)
            · omega, z.2⟩)]
      · rw [hI_ne hk, hI_ne hk]
  · show F_X6_hammer_c4 xN L (nI (SF (fun a => if bdB ow pd a = true then 1 else 0) m)) (nI m) (hI I (bdB ow pd) (I 1 0) m) K = _
    unfold F_X6_hammer_c4
    rw [xbn_e, hI_ne (by decide), h3, if_pos (Int32.le_refl _)]
end
