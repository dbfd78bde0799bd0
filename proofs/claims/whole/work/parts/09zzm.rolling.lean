/-! rolling: bits -/
theorem bvbit (x : BitVec 32) (k : Nat) (hk : k < 32) : (x.sshiftRight k &&& 1#32 = 0#32) ↔ x.getLsbD k = false := by
  constructor
  · intro h
    have := congrArg (fun y => y.getLsbD 0) h
    simp only [BitVec.getLsbD_and, BitVec.getLsbD_sshiftRight] at this
    simpa [hk] using this
  · intro h
    apply BitVec.eq_of_getLsbD_eq
    intro i hi
    rw [BitVec.getLsbD_and]
    by_cases e : i = 0
    · subst e
      rw [BitVec.getLsbD_sshiftRight, if_pos (by omega), Nat.add_zero, h]
      decide
    · have : ∀ i, i < 32 → i ≠ 0 → (1#32).getLsbD i = false := by decide
      rw [this i hi e, Bool.and_false]
      have : ∀ i, i < 32 → (0#32).getLsbD i = false := by decide
      rw [this i hi]
def bt (v : Int32) (m : Nat) : Bool := v.toBitVec.getLsbD m
theorem bit_r (v : Int32) {m : Nat} (hm : m < 12) : ((v >>> (nI m &&& 31)) &&& 1 = 0) ↔ bt v m = false := by
  have key : ∀ k : Nat, (k < 32) → ((v >>> (nI m &&& 31)) &&& 1).toBitVec = (v.toBitVec.sshiftRight k &&& 1#32) → k = m → (((v >>> (nI m &&& 31)) &&& 1 = 0) ↔ bt v m = false) := by
    intro k hk e1 e2
    subst e2
    unfold bt
    rw [← bvbit v.toBitVec k hk, ← e1]
    exact Int32.toBitVec_inj.symm
  have : m = 0 ∨ m = 1 ∨ m = 2 ∨ m = 3 ∨ m = 4 ∨ m = 5 ∨ m = 6 ∨ m = 7 ∨ m = 8 ∨ m = 9 ∨ m = 10 ∨ m = 11 := by omega
  rcases this with h | h | h | h | h | h | h | h | h | h | h | h <;> subst h
  · exact key 0 (by decide) rfl rfl
  · exact key 1 (by decide) rfl rfl
  · exact key 2 (by decide) rfl rfl
  · exact key 3 (by decide) rfl rfl
  · exact key 4 (by decide) rfl rfl
  · exact key 5 (by decide) rfl rfl
  · exact key 6 (by decide) rfl rfl
  · exact key 7 (by decide) rfl rfl
  · exact key 8 (by decide) rfl rfl
  · exact key 9 (by decide) rfl rfl
  · exact key 10 (by decide) rfl rfl
  · exact key 11 (by decide) rfl rfl
theorem bit_o (v : Int32) {b m : Nat} (hb : b < 12) (hm : m < 12) : bt (v ||| (1 <<< (nI b &&& 31))) m = (bt v m || decide (m = b)) := by
  have h1 : ∀ b, b < 12 → ∀ m, m < 12 → ((1 : Int32) <<< (nI b &&& 31)).toBitVec.getLsbD m = decide (m = b) := by decide +kernel
  show (v.toBitVec ||| ((1 : Int32) <<< (nI b &&& 31)).toBitVec).getLsbD m = _
  rw [BitVec.getLsbD_or, h1 b hb m hm]
  rfl
theorem bt_0 {m : Nat} (hm : m < 12) : bt 0 m = false := by
  have : ∀ m, m < 12 → bt 0 m = false := by decide
  exact this m hm
theorem bsN_min {pos ak : Nat → Int32} : ∀ (m : Nat), (bsN pos ak m = none → ∀ i, i < m → pos i ≤ 0) ∧ (∀ j, bsN pos ak m = some j → ∀ i, i < m → ¬ pos i ≤ 0 → ak j ≤ ak i ∧ (ak i ≤ ak j → j ≤ i))
  | 0 => ⟨fun _ i h => by omega, fun j h => by cases h⟩
  | m + 1 => by
    obtain ⟨i1, i2⟩ := bsN_min (pos := pos) (ak := ak) m
    unfold bsN
    by_cases g : pos m ≤ 0
    · rw [if_pos g]
      refine ⟨fun h i hi => ?_, fun j h i hi hp => ?_⟩
      · by_cases e : i = m
        · subst e; exact g
        · exact i1 h i (by omega)
      · by_cases e : i = m
        · subst e; exact absurd g hp
        · exact i2 j h i (by omega) hp
    · rw [if_neg g]
      cases hb : bsN pos ak m with
      | none =>
        refine ⟨(fun h => by cases h), fun j h i hi hp => ?_⟩
        have h : some m = some j := h
        cases h
        by_cases e : i = m
        · subst e; exact ⟨Int32.le_refl _, fun _ => Nat.le_refl _⟩
        · exact absurd (i1 hb i (by omega)) hp
      | some j' =>
        refine ⟨fun h => ?_, fun j h i hi hp => ?_⟩
        · have h : (if ak j' ≤ ak m then some j' else some m) = none := h
          by_cases g2 : ak j' ≤ ak m
          · rw [if_pos g2] at h; cases h
          · rw [if_neg g2] at h; cases h
        · have h : (if ak j' ≤ ak m then some j' else some m) = some j := h
          by_cases g2 : ak j' ≤ ak m
          · rw [if_pos g2] at h
            cases h
            by_cases e : i = m
            · subst e; exact ⟨g2, fun _ => by have := (bsN_in hb).1; omega⟩
            · exact i2 _ hb i (by omega) hp
          · rw [if_neg g2] at h
            cases h
            by_cases e : i = m
            · subst e; exact ⟨Int32.le_refl _, fun _ => Nat.le_refl _⟩
            · have h3 := i2 j' hb i (by omega) hp
              have h4 : ak m ≤ ak i := Int32.le_trans (Int32.le_of_lt (Int32.not_le.mp g2)) h3.1
              refine ⟨h4, fun h5 => ?_⟩
              exact absurd (Int32.le_trans h3.1 h5) g2
/-! one bargain after the other -/
/-- coins, those who failed (bits), how many -/
abbrev RS : Type := (Nat → Int64) × Int32 × Nat
def buN (s : Nat → Int32) (b : Nat) : Nat := (s (192 + 12 * b + 2)).toNatClampNeg
def slN (s : Nat → Int32) (b : Nat) : Nat := (s (192 + 12 * b + 1)).toNatClampNeg
def dyN (s : Nat → Int32) (b : Nat) : Nat := (s (192 + 12 * b + 6)).toNatClampNeg
def proc (s : Nat → Int32) (b : Nat) (x : RS) : RS := if bt x.2.1 (slN s b) = true ∨ bt x.2.1 (buN s b) = true then x else if wo s b ≤ x.1 (buN s b) then (up1 (up1 x.1 (buN s b) (x.1 (buN s b) - wo s b)) (slN s b) (up1 x.1 (buN s b) (x.1 (buN s b) - wo s b) (slN s b) + wo s b), x.2) else (x.1, x.2.1 ||| (1 <<< (nI (buN s b) &&& 31)), x.2.2 + 1)
/-- bargain b falls on the d-th of the days -/
abbrev due (s : Nat → Int32) (ac : Nat) (d b : Nat) : Prop := stF s b (nI ac) ∧ dyN s b + 14 = 14 * ac + d
def stp (s : Nat → Int32) (ac p : Nat) (x : RS) : RS := if due s ac (p / 60) (p % 60) then proc s (p % 60) x else x
def finR (s : Nat → Int32) (ac : Nat) : Nat → Nat → RS → RS
  | 0, _, x => x
  | d + 1, p, x => finR s ac d (p + 1) (stp s ac p x)
theorem finR_a (s : Nat → Int32) (ac : Nat) : ∀ (e d p : Nat) (x : RS), finR s ac (e + d) p x = finR s ac d (p + e) (finR s ac e p x)
  | 0, d, p, x => by rw [Nat.zero_add]; rfl
  | e + 1, d, p, x => by
    rw [show e + 1 + d = (e + d) + 1 by omega]
    show finR s ac (e + d) (p + 1) (stp s ac p x) = finR s ac d (p + (e + 1)) (finR s ac e (p + 1) (stp s ac p x))
    rw [finR_a s ac e d (p + 1), show p + 1 + e = p + (e + 1) by omega]
theorem finR_id (s : Nat → Int32) (ac : Nat) : ∀ (d p : Nat) (x : RS), (∀ p', p ≤ p' → p' < p + d → ¬ due s ac (p' / 60) (p' % 60)) → finR s ac d p x = x
  | 0, _, _, _ => rfl
  | d + 1, p, x, h => by
    show finR s ac d (p + 1) (stp s ac p x) = x
    have : stp s ac p x = x := by unfold stp; rw [if_neg (h p (Nat.le_refl _) (by omega))]
    rw [this]
    exact finR_id s ac d (p + 1) x (fun p' h1 h2 => h p' (by omega) (by omega))
