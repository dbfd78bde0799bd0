section
/-! run: settling. Paying in rounds: the reference's round; all rounds -/
theorem gotten_e {J : xTI} {M : xTL} {pd : Nat → Nat → Nat} {a m : Nat} (hJ : J 58 1 = nI m) (hm : m ≤ 12) (ha : a < 12) (h : ∀ k, k < m → M 73 (12 * k + a) = lN (pd k a)) : F_X11_gotten xN J M (nI a) = some (lN (SF (fun k => pd k a) m)) := by
  have z1 : ∀ (K : Int32 → Option Int64), xal J 58 40670 1 K = K (J 58 1) := fun K => xal_n (i := 1) (by decide) (by decide)
  unfold F_X11_gotten
  rw [show ((0 : Int64), (0 : Int32)) = (fun c => (lN (SF (fun k => pd k a) c), nI c)) 0 from rfl]
  refine xlp_for (fun c => (lN (SF (fun k => pd k a) c), nI c)) m _ (fun c hc K => ?_) (fun K => ?_) xN (by have : xN = 100000 := rfl; omega)
  · show F_X11_gotten_c5 xN J M (nI a) (lN (SF (fun k => pd k a) c)) (nI c) K = K (lN (SF (fun k => pd k a) (c + 1)), nI (c + 1))
    unfold F_X11_gotten_c5
    rw [z1, hJ, if_neg (nI_ge hc (by omega)), xal_i (i := 12 * c + a) (by rw [show (12 : Int32) = nI 12 from rfl, nI_mul, nI_add]) (by omega) (by decide), h c hc, xbn_e, xbn_e, lN_add, nI_1]; rfl
  · show F_X11_gotten_c5 xN J M (nI a) (lN (SF (fun k => pd k a) m)) (nI m) K = _
    unfold F_X11_gotten_c5
    rw [z1, hJ, if_pos (Int32.le_refl _)]
def prR (M : xTL) (w : Nat → Nat → Nat) (m a : Nat) : xTL := fun k j => if k = 74 ∧ j < 12 * a ∧ j % 12 < m then lN (w (j / 12) (j % 12)) else if k = 75 ∧ j < a then lN (w j 12) else M k j
theorem prR_ne {M : xTL} {w : Nat → Nat → Nat} {m a k : Nat} (h : k ≠ 74) (h2 : k ≠ 75) : prR M w m a k = M k := by
  funext j; unfold prR; rw [if_neg (fun z => h z.1), if_neg (fun z => h2 z.1)]
theorem prR_75 {M : xTL} {w : Nat → Nat → Nat} {m a j : Nat} : prR M w m a 75 j = if j < a then lN (w j 12) else M 75 j := by
  unfold prR
  rw [if_neg (fun z => absurd z.1 (by decide))]
  by_cases c : j < a
  · rw [if_pos ⟨rfl, c⟩, if_pos c]
  · rw [if_neg (fun z => c z.2), if_neg c]
theorem prR_74 {M : xTL} {w : Nat → Nat → Nat} {m a j : Nat} : prR M w m a 74 j = if j < 12 * a ∧ j % 12 < m then lN (w (j / 12) (j % 12)) else M 74 j := by
  unfold prR
  by_cases c : j < 12 * a ∧ j % 12 < m
  · rw [if_pos ⟨rfl, c⟩, if_pos c]
  · rw [if_neg (fun z => c z.2), if_neg c, if_neg (fun z => absurd z.1 (by decide))]
theorem prR_s {M : xTL} {w : Nat → Nat → Nat} {m a : Nat} (hm : m ≤ 12) : xup (wr (prR M w m a) 74 (12 * a) (fun b => lN (w a b)) m) 75 a (lN (w a 12)) = prR M w m (a + 1) := by
  funext k j
  by_cases h75 : k = 75
  · subst h75
    rw [xup_at, prR_75]
    by_cases e : j = a
    · rw [if_pos e, if_pos (by omega), e]
    · rw [if_neg e, wr_ne (by decide), prR_75]
      by_cases c : j < a
      · rw [if_pos c, if_pos (by omega)]
      · rw [if_neg c, if_neg (by omega)]
  · rw [xup_ne h75]
    by_cases h74 : k = 74
    · subst h74
      rw [prR_74]
      by_cases h1 : j < 12 * a
      · rw [wr_out m (Or.inl h1), prR_74]
        by_cases c : j % 12 < m
        · rw [if_pos ⟨h1, c⟩, if_pos ⟨by omega, c⟩]
        · rw [if_neg (fun z => c z.2), if_neg (fun z => c z.2)]
      · by_cases h2 : j < 12 * a + m
        · obtain ⟨t, rfl⟩ : ∃ t, j = 12 * a + t := ⟨j - 12 * a, by omega⟩
          rw [wr_in m (by omega), if_pos ⟨by omega, by omega⟩, show (12 * a + t) / 12 = a by omega, show (12 * a + t) % 12 = t by omega]
        · rw [wr_out m (Or.inr (by omega)), prR_74, if_neg (fun z => h1 z.1), if_neg (fun z => by omega)]
    · rw [wr_ne h74, prR_ne h74 h75, prR_ne h74 h75]
theorem prR_0 {M : xTL} {w : Nat → Nat → Nat} {m : Nat} : prR M w m 0 = M := by
  funext k j; unfold prR; rw [if_neg (fun z => by omega), if_neg (fun z => by omega)]
theorem round_r {J : xTI} {M : xTL} {ow pd : Nat → Nat → Nat} {co : Nat → Nat} {m : Nat} (hm : m ≤ 12) (hJ : J 58 1 = nI m) (h70 : ∀ a b, a < 12 → b < 12 → M 70 (12 * a + b) = lN (ow a b)) (h71 : ∀ a, a < 12 → M 71 a = lN (ow a 12)) (h72 : ∀ a, a < m → M 72 a = lN (SF (ow a) 13)) (h73 : ∀ a b, a < 12 → b < 12 → M 73 (12 * a + b) = lN (pd a b)) (h75 : ∀ a, a < 12 → M 75 a = lN (pd a 12)) (h59 : ∀ a, a < 12 → M 59 a = lN (co a)) (hB : ∀ a, a < 12 → SF (ow a) 13 ≤ 3037000499) (hh : ∀ a, a < 12 → co a + SF (fun k => pd k a) 12 < 2 ^ 62) (hn : PRn ow co pd) (hz : ∀ a c, a < 12 → c < 13 → (m ≤ a ∨ (c < 12 ∧ m ≤ c)) → ow a c = 0) : F_X11_pays xN J M = some (fl (tot ow co pd m), wr (prR M (nxt ow co pd) m m) 73 0 (fun j => prR M (nxt ow co pd) m m 74 j) 144) := by
  have z1 : ∀ (K : Int32 → Option (Int32 × xTL)), xal J 58 40670 1 K = K (J 58 1) := fun K => xal_n (i := 1) (by decide) (by decide)
  have pz : ∀ a c, a < 12 → c < 13 → (m ≤ a ∨ (c < 12 ∧ m ≤ c)) → pd a c = 0 := fun a c ha hc hh => by have := (hn.1 a c ha hc).1; have := hz a c ha hc hh; omega
  have nz : ∀ a c, a < 12 → c < 13 → (m ≤ a ∨ (c < 12 ∧ m ≤ c)) → nxt ow co pd a c = 0 := fun a c ha hc hh => by have := nxt_le (ow := ow) (co := co) (pd := pd) (a := a) (c := c); have := hz a c ha hc hh; omega
  unfold F_X11_pays
  rw [show ((0 : Int32), (0 : Int32), M) = (fun a => (fl (tot ow co pd a), nI a, prR M (nxt ow co pd) m a)) 0 by show _ = (fl 0, nI 0, prR M (nxt ow co pd) m 0); rw [prR_0]; rfl]
  refine xlp_for (fun a => (fl (tot ow co pd a), nI a, prR M (nxt ow co pd) m a)) m _ (fun a ha K => ?_) (fun K => ?_) xN (by have : xN = 100000 := rfl; omega)
  · show F_X11_pays_c4 xN J (fl (tot ow co pd a)) (nI a) (prR M (nxt ow co pd) m a) K = K (fl (tot ow co pd a + chd ow co pd a 13), nI (a + 1), prR M (nxt ow co pd) m (a + 1))
    have ha12 : a < 12 := by omega
    have hBa := hB a ha12
    have hha := hh a ha12
    rw [← prR_s hm]
    have p75 : prR M (nxt ow co pd) m a 75 a = lN (pd a 12) := by
      unfold prR; rw [if_neg (fun z => absurd z.1 (by decide)), if_neg (fun z => by omega)]; exact h75 a ha12
    have pne : ∀ k, k ≠ 74 → k ≠ 75 → prR M (nxt ow co pd) m a k = M k := fun k h1 h2 => prR_ne h1 h2
    generalize prR M (nxt ow co pd) m a = Mr at p75 pne ⊢
    generalize tot ow co pd a = T
    have hsm : SF (fun k => pd k a) m = SF (fun k => pd k a) 12 := by
      have := SF_tail (f := fun k => pd k a) (m := m) (12 - m) (fun i e1 e2 => pz i a (by omega) (by omega) (Or.inl e1))
      rw [show m + (12 - m) = 12 by omega] at this; exact this.symm
    have hin : ∀ x5 : Int32, ((x5 = 0 ∧ ¬ SF (ow a) 13 ≤ co a + SF (fun k => pd k a) 12) ∨ (x5 = 1 ∧ SF (ow a) 13 ≤ co a + SF (fun k => pd k a) 12)) → xlp (F_X11_pays_b50 K xN J (nI a) (lN (co a + SF (fun k => pd k a) 12)) x5) xN (fl T, 0, Mr) = K (fl (T + chd ow co pd a 13), nI (a + 1), xup (wr Mr 74 (12 * a) (fun b => lN (nxt ow co pd a b)) m) 75 a (lN (nxt ow co pd a 12))) := fun x5 h5 => by
      rw [show (fl T, (0 : Int32), Mr) = (fun b => (fl (T + chd ow co pd a b), nI b, wr Mr 74 (12 * a) (fun b => lN (nxt ow co pd a b)) b)) 0 from rfl]
      refine xlp_for (fun b => (fl (T + chd ow co pd a b), nI b, wr Mr 74 (12 * a) (fun b => lN (nxt ow co pd a b)) b)) m _ (fun b hb K2 => ?_) (fun K2 => ?_) xN (by have : xN = 100000 := rfl; omega)
      · show F_X11_pays_c50 K xN J (nI a) (lN (co a + SF (fun k => pd k a) 12)) x5 (fl (T + chd ow co pd a b)) (nI b) (wr Mr 74 (12 * a) (fun b => lN (nxt ow co pd a b)) b) K2 = K2 (fl (T + (chd ow co pd a b + if nxt ow co pd a b = pd a b then 0 else 1)), nI (b + 1), xup (wr Mr 74 (12 * a) (fun b => lN (nxt ow co pd a b)) b) 74 (12 * a + b) (lN (nxt ow co pd a b)))
        have hb12 : b < 12 := by omega
        have wne : ∀ k, k ≠ 74 → wr Mr 74 (12 * a) (fun b => lN (nxt ow co pd a b)) b k = Mr k := fun k hk => wr_ne hk _
        rw [← Nat.add_assoc]
        generalize wr Mr 74 (12 * a) (fun b => lN (nxt ow co pd a b)) b = M' at wne ⊢
        generalize T + chd ow co pd a b = n
        have e1 : 12 * nI a + nI b = nI (12 * a + b) := by rw [show (12 : Int32) = nI 12 from rfl, nI_mul, nI_add]
        have hox : ow a b ≤ SF (ow a) 13 := SF_le 13 (by omega)
        have hnx := nxt_le (ow := ow) (co := co) (pd := pd) (a := a) (c := b)
        have hpc := (hn.1 a b ha12 (by omega)).1
        have hj : F_X11_pays_j107 K K2 xN J M' (fl n) (nI a) (lN (co a + SF (fun k => pd k a) 12)) x5 (nI b) (nI (12 * a + b)) (nI (12 * a + b)) (lN (nxt ow co pd a b)) = K2 (fl (n + if nxt ow co pd a b = pd a b then 0 else 1), nI (b + 1), xup M' 74 (12 * a + b) (lN (nxt ow co pd a b))) := by
          unfold F_X11_pays_j107
          rw [xas_n (by omega) (by decide)]
          by_cases hn0 : n = 0
          · subst hn0
            rw [if_pos fl_0, xal_n (by omega) (by decide), xup_at, if_pos rfl, xal_n (by omega) (by decide), xup_ne (by decide), wne 73 (by decide), pne 73 (by decide) (by decide), h73 a b ha12 hb12, xbn_e, xbn_e, nI_1, Nat.zero_add]
            by_cases e : nxt ow co pd a b = pd a b
            · rw [if_pos e, if_pos ((lg_cmp_eq _ _).mpr (by rw [e])), fl_0]
            · rw [if_neg e, if_neg (fun z => e ((pk_lEQ (by omega) (by omega)).mp ((lg_cmp_eq _ _).mp z))), fl_1 (by decide)]
          · rw [if_neg (fun z => hn0 (fl_z.mp z)), xbn_e, nI_1, fl_1 (show n + _ ≠ 0 by omega)]
        unfold F_X11_pays_c50
        rw [z1, hJ, if_neg (nI_ge hb (by omega)), xbn_e, e1]
        rcases h5 with ⟨h5, e⟩ | ⟨h5, e⟩
        · have en : nxt ow co pd a b = ow a b * (co a + SF (fun k => pd k a) 12) / SF (ow a) 13 := if_neg e
          have hmul : ow a b * (co a + SF (fun k => pd k a) 12) ≤ 3037000499 * 3037000499 := Nat.mul_le_mul (by omega) (by omega)
          rw [if_pos h5, xal_n (by omega) (by decide), wne 70 (by decide), pne 70 (by decide) (by decide), h70 a b ha12 hb12, xal_n ha12 (by decide), wne 72 (by decide), pne 72 (by decide) (by decide), h72 a ha, lN_mul, pk_lDiv (by omega) (by omega) (by omega), ← en]
          unfold xnz
          rw [if_neg (fun z => by have := (pk_lEQ (a := SF (ow a) 13) (b := 0) (by omega) (by decide)).mp z; omega)]
          exact hj
        · have en : nxt ow co pd a b = ow a b := if_pos e
          rw [if_neg (by rw [h5]; decide), xal_n (by omega) (by decide), wne 70 (by decide), pne 70 (by decide) (by decide), h70 a b ha12 hb12, ← en, hj]
      · show F_X11_pays_c50 K xN J (nI a) (lN (co a + SF (fun k => pd k a) 12)) x5 (fl (T + chd ow co pd a m)) (nI m) (wr Mr 74 (12 * a) (fun b => lN (nxt ow co pd a b)) m) K2 = _
        have wne : ∀ k, k ≠ 74 → wr Mr 74 (12 * a) (fun b => lN (nxt ow co pd a b)) m k = Mr k := fun k hk => wr_ne hk _
        generalize wr Mr 74 (12 * a) (fun b => lN (nxt ow co pd a b)) m = M' at wne ⊢
        have hch : chd ow co pd a 13 = chd ow co pd a m + if nxt ow co pd a 12 = pd a 12 then 0 else 1 := by
          have := SF_tail (f := fun c => if nxt ow co pd a c = pd a c then 0 else 1) (m := m) (12 - m) (fun i e1 e2 => by rw [nz a i ha12 (by omega) (Or.inr ⟨by omega, e1⟩), pz a i ha12 (by omega) (Or.inr ⟨by omega, e1⟩), if_pos rfl])
          rw [show m + (12 - m) = 12 by omega] at this
          unfold chd
          rw [← this]; rfl
        rw [hch, ← Nat.add_assoc]
        generalize T + chd ow co pd a m = n
        have hox : ow a 12 ≤ SF (ow a) 13 := SF_le 13 (by omega)
        have hnx := nxt_le (ow := ow) (co := co) (pd := pd) (a := a) (c := 12)
        have hpc := (hn.1 a 12 ha12 (by omega)).1
        have hj : F_X11_pays_j171 K xN J M' (fl n) (nI a) (lN (nxt ow co pd a 12)) = K (fl (n + if nxt ow co pd a 12 = pd a 12 then 0 else 1), nI (a + 1), xup M' 75 a (lN (nxt ow co pd a 12))) := by
          unfold F_X11_pays_j171 F_X11_pays_j194
          by_cases hn0 : n = 0
          · subst hn0
            rw [if_pos fl_0, xal_n ha12 (by decide), wne 75 (by decide), p75, xas_n ha12 (by decide), xas_n ha12 (by decide), xbn_e, xbn_e, nI_1, Nat.zero_add]
            by_cases e : nxt ow co pd a 12 = pd a 12
            · rw [if_pos e, if_pos ((lg_cmp_eq _ _).mpr (by rw [e])), fl_0]
            · rw [if_neg e, if_neg (fun z => e ((pk_lEQ (by omega) (by omega)).mp ((lg_cmp_eq _ _).mp z))), fl_1 (by decide)]
          · rw [if_neg (fun z => hn0 (fl_z.mp z)), xas_n ha12 (by decide), xbn_e, nI_1, fl_1 (show n + _ ≠ 0 by omega)]
        unfold F_X11_pays_c50
        rw [z1, hJ, if_pos (Int32.le_refl _)]
        rcases h5 with ⟨h5, e⟩ | ⟨h5, e⟩
        · have en : nxt ow co pd a 12 = ow a 12 * (co a + SF (fun k => pd k a) 12) / SF (ow a) 13 := if_neg e
          have hmul : ow a 12 * (co a + SF (fun k => pd k a) 12) ≤ 3037000499 * 3037000499 := Nat.mul_le_mul (by omega) (by omega)
          rw [if_pos h5, xal_n ha12 (by decide), wne 71 (by decide), pne 71 (by decide) (by decide), h71 a ha12, xal_n ha12 (by decide), wne 72 (by decide), pne 72 (by decide) (by decide), h72 a ha, lN_mul, pk_lDiv (by omega) (by omega) (by omega), ← en]
          unfold xnz
          rw [if_neg (fun z => by have := (pk_lEQ (a := SF (ow a) 13) (b := 0) (by omega) (by decide)).mp z; omega)]
          exact hj
        · have en : nxt ow co pd a 12 = ow a 12 := if_pos e
          rw [if_neg (by rw [h5]; decide), xal_n ha12 (by decide), wne 71 (by decide), pne 71 (by decide) (by decide), h71 a ha12, ← en, hj]
    unfold F_X11_pays_c4
    rw [z1, hJ, if_neg (nI_ge ha (by omega)), xal_i (i := a) (Int32.zero_add _) (by omega) (by decide), pne 59 (by decide) (by decide), h59 a ha12, gotten_e (pd := pd) hJ hm ha12 (fun k hk => by rw [pne 73 (by decide) (by decide)]; exact h73 k a (by omega) ha12), Option.bind_some, xbn_e, lN_add, hsm, xal_n ha12 (by decide), pne 72 (by decide) (by decide), h72 a ha]
    by_cases e : SF (ow a) 13 ≤ co a + SF (fun k => pd k a) 12
    · rw [if_neg (fun z => by rw [lg_cmp_lt, pk_lLT (by omega) (by omega)] at z; omega), hin 1 (Or.inr ⟨rfl, e⟩)]
    · rw [if_pos (by rw [lg_cmp_lt, pk_lLT (by omega) (by omega)]; omega), hin 0 (Or.inl ⟨rfl, e⟩)]
  · show F_X11_pays_c4 xN J (fl (tot ow co pd m)) (nI m) (prR M (nxt ow co pd) m m) K = _
    unfold F_X11_pays_c4
    rw [z1, hJ, if_pos (Int32.le_refl _)]
    generalize prR M (nxt ow co pd) m m = M'
    rw [show ((0 : Int32), M') = (fun i => (nI i, wr M' 73 0 (fun j => M' 74 j) i)) 0 from rfl]
    refine xlp_for (fun i => (nI i, wr M' 73 0 (fun j => M' 74 j) i)) 144 _ (fun i hi K2 => ?_) (fun K2 => ?_) xN (by decide)
    · show F_X11_pays_c211 xN J (fl (tot ow co pd m)) (nI i) (wr M' 73 0 (fun j => M' 74 j) i) K2 = K2 (nI (i + 1), wr M' 73 0 (fun j => M' 74 j) (i + 1))
      unfold F_X11_pays_c211
      rw [if_neg (show ¬ (144 : Int32) ≤ nI i from nI_ge (b := 144) hi (by decide)), xal_n hi (by decide), wr_ne (by decide), xas_n hi (by decide), xbn_e, nI_1, ← wrs i]
    · show F_X11_pays_c211 xN J (fl (tot ow co pd m)) (nI 144) (wr M' 73 0 (fun j => M' 74 j) 144) K2 = _
      unfold F_X11_pays_c211
      rw [if_pos (by decide), xzc_fl]
def zf (M : xTL) (i : Nat) : xTL := fun k j => if (k = 73 ∨ k = 74) ∧ j < i then 0 else M k j
theorem zf_s {M : xTL} {i : Nat} : xup (xup (zf M i) 73 i 0) 74 i 0 = zf M (i + 1) := by
  funext k j
  by_cases h : k = 74
  · subst h
    rw [xup_at]
    by_cases e : j = i
    · rw [if_pos e]; unfold zf; rw [if_pos ⟨Or.inr rfl, by omega⟩]
    · rw [if_neg e, xup_ne (by decide)]; unfold zf
      by_cases c : j < i
      · rw [if_pos ⟨Or.inr rfl, c⟩, if_pos ⟨Or.inr rfl, by omega⟩]
      · rw [if_neg (fun z => c z.2), if_neg (fun z => by have := z.2; omega)]
  · rw [xup_ne h]
    by_cases h3 : k = 73
    · subst h3
      rw [xup_at]
      by_cases e : j = i
      · rw [if_pos e]; unfold zf; rw [if_pos ⟨Or.inl rfl, by omega⟩]
      · rw [if_neg e]; unfold zf
        by_cases c : j < i
        · rw [if_pos ⟨Or.inl rfl, c⟩, if_pos ⟨Or.inl rfl, by omega⟩]
        · rw [if_neg (fun z => c z.2), if_neg (fun z => by have := z.2; omega)]
    · rw [xup_ne h3]; unfold zf
      rw [if_neg (fun z => z.1.elim h3 h), if_neg (fun z => z.1.elim h3 h)]
/-- what both hold at a round's start -/
def RR (L0 M0 L M : xTL) (ow : Nat → Nat → Nat) (co : Nat → Nat) (pd : Nat → Nat → Nat) : Prop := (∀ a c, a < 12 → c < 13 → L 43 (13 * a + c) = lN (pd a c)) ∧ (∀ a b, a < 12 → b < 12 → M 73 (12 * a + b) = lN (pd a b) ∧ M 74 (12 * a + b) = lN (pd a b)) ∧ (∀ a, a < 12 → M 75 a = lN (pd a 12)) ∧ PRn ow co pd ∧ (∀ k, k ≠ 43 → k ≠ 44 → L k = L0 k) ∧ (∀ k, k ≠ 73 → k ≠ 74 → k ≠ 75 → M k = M0 k)
theorem pay_sim {I J : xTI} {L M : xTL} {s : Nat → Int32} {q : Nat → Nat} {ow : Nat → Nat → Nat} {co : Nat → Nat} {B C : Nat} (h : OWn L M s q ow B) (hB : B ≤ 3037000499) (hq : q 1 ≤ 12) (hI : I 3 0 = nI (q 1)) (hJ : J 58 1 = nI (q 1)) (h4 : ∀ a, a < 12 → L 4 a = lN (co a) ∧ M 59 a = lN (co a) ∧ co a ≤ C) (hC : C < 2 ^ 61) (x1 : Int32) : ∃ L2 M2 pd, F_X6_payInRounds xN I L = some L2 ∧ xlp (F_X11_settles_b7 xN J x1) xN (0, M) = xlp (F_X11_settles_b83 xN J x1) xN (0, M2) ∧ RR L M L2 M2 ow co pd := by
  obtain ⟨h42, h70, h71, h45, h72, hz0, hT⟩ := h
  have hz : ∀ a c, a < 12 → c < 13 → (q 1 ≤ a ∨ (c < 12 ∧ q 1 ≤ c)) → ow a c = 0 := fun a c ha hc hh => hz0 a c ha hc (by
    rcases hh with hh | hh
    · exact Or.inl (fun z => by have := z.1; omega)
    · exact Or.inr (Or.inl ⟨hh.1, fun z => by have := z.1; omega⟩))
  have hBa : ∀ a, a < 12 → SF (ow a) 13 ≤ 3037000499 := fun a ha => by
    have := SF_le (f := fun a => SF (ow a) 13) 12 ha
    omega
  have hbd : ∀ pd, PRn ow co pd → ∀ a, a < 12 → co a + SF (fun k => pd k a) 12 < 2 ^ 62 := fun pd hp a ha => by
    have h1 : SF (fun k => pd k a) 12 ≤ SF (fun a => SF (ow a) 13) 12 := SF_mono 12 (fun k hk => Nat.le_trans (hp.1 k a hk (by omega)).1 (SF_le (f := ow k) 13 (by omega)))
    have := (h4 a ha).2.2
    omega
  have hW := xlp_wh (κ1 := Unit) (κ2 := Unit) (b1 := fun _ => F_X6_payInRounds_b12 xN I) (b2 := fun _ => F_X11_settles_b59 xN J x1) (P := fun d x y => ∃ r pd, d + r = 1000 ∧ x.2.1 = nI r ∧ y.2.1 = nI r ∧ x.1 = y.1 ∧ RR L M x.2.2 y.2.2 ow co pd) (Z := fun x y => ∃ pd, RR L M x.2.2 y.2.2 ow co pd) (o1 := fun _ x => some x.2.2) (o2 := fun _ y => xlp (F_X11_settles_b83 xN J x1) xN (0, y.2.2)) (fun d x y hP => ?_)
  · have hst : RR L M (wr L 43 0 (fun _ => 0) 156) (wr (zf M 144) 75 0 (fun _ => 0) 12) ow co (fun _ _ => 0) := by
      refine ⟨fun a c ha hc => by rw [wrZ (by omega)]; rfl, fun a b ha hb => ⟨?_, ?_⟩, fun a ha => by rw [wrZ ha]; rfl, ⟨fun a c ha hc => ⟨Nat.zero_le _, Nat.zero_le _⟩, fun a ha => by rw [SF_0 13 (fun _ _ => rfl)]; exact Nat.zero_le _⟩, fun k e1 e2 => wr_ne e1 _, fun k e1 e2 e3 => ?_⟩
      · rw [wr_ne (by decide)]; unfold zf; rw [if_pos ⟨Or.inl rfl, by omega⟩]; rfl
      · rw [wr_ne (by decide)]; unfold zf; rw [if_pos ⟨Or.inr rfl, by omega⟩]; rfl
      · rw [wr_ne e3]; funext j; unfold zf; rw [if_neg (fun z => z.1.elim e1 e2)]
    obtain ⟨x', y', ⟨pd, hR⟩, e1, e2⟩ := hW 1000 xN xN (1, 0, wr L 43 0 (fun _ => 0) 156) (1, 0, wr (zf M 144) 75 0 (fun _ => 0) 12) (by decide) (by decide) ⟨0, fun _ _ => 0, rfl, rfl, rfl, rfl, hst⟩
    refine ⟨x'.2.2, y'.2.2, pd, ?_, ?_, hR⟩
    · unfold F_X6_payInRounds
      rw [fillL43, Option.bind_some]; exact e1 ()
    · rw [← e2 ()]
      rw [show ((0 : Int32), M) = (fun i => (nI i, zf M i)) 0 by
        show _ = (nI 0, zf M 0)
        congr 1
        funext k j; unfold zf; rw [if_neg (fun z => by omega)]]
      refine xlp_for (fun i => (nI i, zf M i)) 144 _ (fun i hi K => ?_) (fun K => ?_) xN (by decide)
      · show F_X11_settles_c7 xN J x1 (nI i) (zf M i) K = K (nI (i + 1), zf M (i + 1))
        unfold F_X11_settles_c7
        rw [if_neg (show ¬ (144 : Int32) ≤ nI i from nI_ge (b := 144) hi (by decide)), xas_n hi (by decide), xas_n hi (by decide), xbn_e, nI_1, zf_s]
      · show F_X11_settles_c7 xN J x1 (nI 144) (zf M 144) K = _
        unfold F_X11_settles_c7
        rw [if_pos (by decide)]
        generalize zf M 144 = M'
        rw [show ((0 : Int32), M') = (fun i => (nI i, wr M' 75 0 (fun _ => 0) i)) 0 from rfl]
        refine xlp_for (fun i => (nI i, wr M' 75 0 (fun _ => 0) i)) 12 _ (fun i hi K2 => ?_) (fun K2 => ?_) xN (by decide)
        · show F_X11_settles_c36 xN J x1 (nI i) (wr M' 75 0 (fun _ => 0) i) K2 = K2 (nI (i + 1), wr M' 75 0 (fun _ => 0) (i + 1))
          unfold F_X11_settles_c36
          rw [if_neg (n12 hi), xas_n hi (by decide), xbn_e, nI_1, ← wrs i]
        · show F_X11_settles_c36 xN J x1 (nI 12) (wr M' 75 0 (fun _ => 0) 12) K2 = _
          unfold F_X11_settles_c36
          rw [if_pos (by decide)]
  · obtain ⟨x, r', L'⟩ := x
    obtain ⟨y, r2, M'⟩ := y
    obtain ⟨r, pd, hd, e1, e2, e3, hR⟩ := hP
    dsimp only at e1 e2 e3 hR
    subst e1 e2 e3
    by_cases c1 : r = 1000
    · left
      refine ⟨fun _ K => ?_, fun _ K => ?_, pd, hR⟩
      · show F_X6_payInRounds_c12 xN I x (nI r) L' K = some L'
        unfold F_X6_payInRounds_c12
        rw [c1, if_pos (by decide)]
      · show F_X11_settles_c59 xN J x1 x (nI r) M' K = xlp (F_X11_settles_b83 xN J x1) xN (0, M')
        unfold F_X11_settles_c59
        rw [c1, if_pos (by decide)]
    · by_cases c2 : x = 0
      · left
        refine ⟨fun _ K => ?_, fun _ K => ?_, pd, hR⟩
        · show F_X6_payInRounds_c12 xN I x (nI r) L' K = some L'
          unfold F_X6_payInRounds_c12
          rw [if_neg (show ¬ (1000 : Int32) ≤ nI r from nI_ge (b := 1000) (by omega) (by decide)), if_pos c2]
        · show F_X11_settles_c59 xN J x1 x (nI r) M' K = xlp (F_X11_settles_b83 xN J x1) xN (0, M')
          unfold F_X11_settles_c59
          rw [if_neg (show ¬ (1000 : Int32) ≤ nI r from nI_ge (b := 1000) (by omega) (by decide)), if_pos c2]
      · right
        obtain ⟨r1, r2, r3, r4, r5, r6⟩ := hR
        have hh := hbd pd r4
        have nz : ∀ a c, a < 12 → c < 13 → (q 1 ≤ a ∨ (c < 12 ∧ q 1 ≤ c)) → nxt ow co pd a c = 0 := fun a c ha hc hh => by have := nxt_le (ow := ow) (co := co) (pd := pd) (a := a) (c := c); have := hz a c ha hc hh; omega
        have pz : ∀ a c, a < 12 → c < 13 → (q 1 ≤ a ∨ (c < 12 ∧ q 1 ≤ c)) → pd a c = 0 := fun a c ha hc hh => by have := (r4.1 a c ha hc).1; have := hz a c ha hc hh; omega
        have s74 : ∀ a b, a < 12 → b < 12 → prR M' (nxt ow co pd) (q 1) (q 1) 74 (12 * a + b) = lN (nxt ow co pd a b) := fun a b ha hb => by
          unfold prR
          by_cases c : a < q 1 ∧ b < q 1
          · rw [if_pos ⟨rfl, by omega, by omega⟩, show (12 * a + b) / 12 = a by omega, show (12 * a + b) % 12 = b by omega]
          · have hor : q 1 ≤ a ∨ (b < 12 ∧ q 1 ≤ b) := by omega
            rw [if_neg (fun z => c ⟨by have := z.2.1; omega, by have := z.2.2; omega⟩), if_neg (fun z => absurd z.1 (by decide)), (r2 a b ha hb).2, nz a b ha (by omega) hor, pz a b ha (by omega) hor]
        refine ⟨d - 1, (fl (tot ow co pd (q 1)), nI (r + 1), prC (cp L' 43 44 156) (nxt ow co pd) (q 1)), (fl (tot ow co pd (q 1)), nI (r + 1), wr (prR M' (nxt ow co pd) (q 1) (q 1)) 73 0 (fun j => prR M' (nxt ow co pd) (q 1) (q 1) 74 j) 144), by omega, fun _ K => ?_, fun _ K => ?_, r + 1, nxt ow co pd, by omega, rfl, rfl, rfl, fun a c ha hc => ?_, fun a b ha hb => ⟨?_, ?_⟩, fun a ha => ?_, r4.nx, fun k e1 e2 => ?_, fun k e1 e2 e3 => ?_⟩
        · exact round_c (ow := ow) (co := co) (pd := pd) hq hI (fun a c ha hc => by rw [r5 42 (by decide) (by decide)]; exact h42 a c ha hc) (fun a ha => by rw [r5 45 (by decide) (by decide)]; exact h45 a ha) r1 (fun a ha => by rw [r5 4 (by decide) (by decide)]; exact (h4 a ha).1) (fun a ha => by have := hBa a ha; omega) hh r4 (by omega) c2 K
        · show F_X11_settles_c59 xN J x1 x (nI r) M' K = _
          unfold F_X11_settles_c59
          rw [if_neg (show ¬ (1000 : Int32) ≤ nI r from nI_ge (b := 1000) (by omega) (by decide)), if_neg c2, round_r (ow := ow) (co := co) (pd := pd) hq hJ (fun a b ha hb => by rw [r6 70 (by decide) (by decide) (by decide)]; exact h70 a b ha hb) (fun a ha => by rw [r6 71 (by decide) (by decide) (by decide)]; exact h71 a ha) (fun a ha => by rw [r6 72 (by decide) (by decide) (by decide)]; exact h72 a ha) (fun a b ha hb => (r2 a b ha hb).1) r3 (fun a ha => by rw [r6 59 (by decide) (by decide) (by decide)]; exact (h4 a ha).2.1) hBa hh r4 hz, Option.bind_some]
          dsimp only
          rw [xbn_e, nI_1]
        · dsimp only
          unfold prC
          by_cases e : a < q 1
          · rw [if_pos ⟨rfl, by omega⟩, show (13 * a + c) / 13 = a by omega, show (13 * a + c) % 13 = c by omega]
          · rw [if_neg (fun z => e (by have := z.2; omega))]
            unfold cp
            rw [if_neg (by decide), r1 a c ha hc, nz a c ha hc (Or.inl (by omega)), pz a c ha hc (Or.inl (by omega))]
        · dsimp only
          rw [wrZ (by omega)]; exact s74 a b ha hb
        · dsimp only
          rw [wr_ne (by decide)]; exact s74 a b ha hb
        · dsimp only
          rw [wr_ne (by decide)]
          unfold prR
          rw [if_neg (fun z => absurd z.1 (by decide))]
          by_cases e : a < q 1
          · rw [if_pos ⟨rfl, e⟩]
          · rw [if_neg (fun z => e z.2), r3 a ha, nz a 12 ha (by decide) (Or.inl (by omega)), pz a 12 ha (by decide) (Or.inl (by omega))]
        · dsimp only
          rw [prC_ne e1]; funext j; unfold cp; rw [if_neg e2, r5 k e1 e2]
        · dsimp only
          rw [wr_ne e1, prR_ne e2 e3, r6 k e1 e2 e3]
end
