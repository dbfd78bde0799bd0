section
/-! run: names. Sums of what is left, what each gives -/
theorem SF_mono {f g : Nat → Nat} : ∀ n, (∀ i, i < n → f i ≤ g i) → SF f n ≤ SF g n
  | 0, _ => Nat.le_refl _
  | n + 1, h => by rw [SF, SF]; have := SF_mono n (fun i hi => h i (Nat.lt_succ_of_lt hi)); have := h n (Nat.lt_succ_self n); omega
theorem SF_congr {f g : Nat → Nat} (n : Nat) (h : ∀ i, i < n → f i = g i) : SF f n = SF g n :=
  Nat.le_antisymm (SF_mono n (fun i hi => Nat.le_of_eq (h i hi))) (SF_mono n (fun i hi => Nat.le_of_eq (h i hi).symm))
theorem SF_bd {f : Nat → Nat} {v : Nat} : ∀ n, (∀ i, i < n → f i ≤ v) → SF f n ≤ v * n
  | 0, _ => Nat.le_refl _
  | n + 1, h => by rw [SF, Nat.mul_succ]; have := SF_bd n (fun i hi => h i (Nat.lt_succ_of_lt hi)); have := h n (Nat.lt_succ_self n); omega
theorem SF_0 {f : Nat → Nat} (n : Nat) (h : ∀ i, i < n → f i = 0) : SF f n = 0 := by
  have := SF_bd (v := 0) n (fun i hi => Nat.le_of_eq (h i hi))
  omega
theorem SF_add {f g : Nat → Nat} : ∀ n, SF (fun i => f i + g i) n = SF f n + SF g n
  | 0 => rfl
  | n + 1 => by rw [SF, SF, SF, SF_add n]; omega
theorem SF_swap {f : Nat → Nat → Nat} {m : Nat} : ∀ n, SF (fun a => SF (fun b => f a b) m) n = SF (fun b => SF (fun a => f a b) n) m
  | 0 => (SF_0 m (fun _ _ => rfl)).symm
  | n + 1 => by
    rw [SF, SF_swap n, ← SF_add]
    rfl
theorem SF_one {f : Nat → Nat} {v : Nat} : ∀ n, (∀ i j, i < n → j < n → f i ≠ 0 → f j ≠ 0 → i = j) → (∀ i, i < n → f i ≤ v) → SF f n ≤ v
  | 0, _, _ => Nat.zero_le _
  | n + 1, h1, h2 => by
    rw [SF]
    by_cases e : f n = 0
    · have := SF_one n (fun i j a b => h1 i j (Nat.lt_succ_of_lt a) (Nat.lt_succ_of_lt b)) (fun i hi => h2 i (Nat.lt_succ_of_lt hi)); omega
    · have : SF f n = 0 := SF_0 n (fun i hi => by
        by_cases e2 : f i = 0
        · exact e2
        · have := h1 i n (Nat.lt_succ_of_lt hi) (Nat.lt_succ_self n) e2 e; omega)
      have := h2 n (Nat.lt_succ_self n); omega
/-- what is left of bargain b in stock k at first -/
def lf0 (s : Nat → Int32) (ac : Int32) (k b : Nat) : Nat := if stn s b (nI k) ac then (s (192 + 12 * b + 4)).toNatClampNeg else 0
/-- what man m sells by it -/
def sl0 (s : Nat → Int32) (ac : Int32) (k m b : Nat) : Nat := if stn s b (nI k) ac ∧ s (192 + 12 * b + 1) = nI m then (s (192 + 12 * b + 4)).toNatClampNeg else 0
theorem lf0_y {s : Nat → Int32} {q : Nat → Nat} {ac : Int32} {k b : Nat} (hV : IVb s q) (hb : b < 60) (h : stn s b (nI k) ac) : 1 ≤ lf0 s ac k b ∧ lf0 s ac k b ≤ 99 ∧ s (192 + 12 * b + 4) = nI (lf0 s ac k b) := by
  obtain ⟨sl, by_, sh, s1, s2, s3, s4, s5, s6, s7, s8, s9, s10⟩ := stn_all hV hb h
  unfold lf0
  rw [if_pos h, s8, nI_clamp (by omega)]
  exact ⟨s4, s5, rfl⟩
theorem lf0_n {s : Nat → Int32} {ac : Int32} {k b : Nat} (h : ¬ stn s b (nI k) ac) : lf0 s ac k b = 0 := by unfold lf0; rw [if_neg h]
theorem lf0_99 {s : Nat → Int32} {q : Nat → Nat} {ac : Int32} {k b : Nat} (hV : IVb s q) (hb : b < 60) : lf0 s ac k b ≤ 99 := by
  by_cases h : stn s b (nI k) ac
  · exact (lf0_y hV hb h).2.1
  · rw [lf0_n h]; omega
theorem lf0_sum {s : Nat → Int32} {q : Nat → Nat} {ac : Int32} (hV : IVb s q) (n : Nat) (hn : n ≤ 5) : SF (fun k => SF (fun b => lf0 s ac k b) 60) n ≤ 5940 ∧ SF (fun k => CF (fun b => lf0 s ac k b) 60) n ≤ 60 := by
  have one : ∀ b k k', b < 60 → k < n → k' < n → lf0 s ac k b ≠ 0 → lf0 s ac k' b ≠ 0 → k = k' := by
    intro b k k' hb hk hk' h1 h2
    have g1 : stn s b (nI k) ac := by
      by_cases h : stn s b (nI k) ac
      · exact h
      · exact absurd (lf0_n h) h1
    have g2 : stn s b (nI k') ac := by
      by_cases h : stn s b (nI k') ac
      · exact h
      · exact absurd (lf0_n h) h2
    exact (nI_eq (by omega) (by omega)).mp (g1.2.2.1.symm.trans g2.2.2.1)
  constructor
  · rw [SF_swap n]
    have := SF_bd (f := fun b => SF (fun k => lf0 s ac k b) n) (v := 99) 60 (fun b hb => SF_one n (fun i j a1 a2 a3 a4 => one b i j hb a1 a2 a3 a4) (fun i hi => lf0_99 hV hb))
    omega
  · unfold CF
    rw [SF_swap n]
    have := SF_bd (f := fun b => SF (fun k => ps1 (lf0 s ac k b)) n) (v := 1) 60 (fun b hb => SF_one n (fun i j a1 a2 a3 a4 => one b i j hb a1 a2 (fun z => a3 (by show ps1 (lf0 s ac i b) = 0; rw [z]; rfl)) (fun z => a4 (by show ps1 (lf0 s ac j b) = 0; rw [z]; rfl))) (fun i hi => by show ps1 _ ≤ 1; unfold ps1; split <;> omega))
    omega
theorem sl0_sum {s : Nat → Int32} {q : Nat → Nat} {ac : Int32} {k : Nat} (hV : IVb s q) : SF (fun m => SF (fun b => sl0 s ac k m b) 60) 12 ≤ SF (fun b => lf0 s ac k b) 60 := by
  rw [SF_swap 12]
  refine SF_mono 60 (fun b hb => ?_)
  refine SF_one 12 (fun i j a1 a2 a3 a4 => ?_) (fun m hm => ?_)
  · unfold sl0 at a3 a4
    by_cases h : stn s b (nI k) ac ∧ s (192 + 12 * b + 1) = nI i
    · by_cases h2 : stn s b (nI k) ac ∧ s (192 + 12 * b + 1) = nI j
      · exact (nI_eq (by omega) (by omega)).mp (h.2.symm.trans h2.2)
      · rw [if_neg h2] at a4; exact absurd rfl a4
    · rw [if_neg h] at a3; exact absurd rfl a3
  · unfold sl0 lf0
    by_cases h : stn s b (nI k) ac
    · rw [if_pos h]; split <;> omega
    · rw [if_neg h, if_neg (fun z => h z.1)]; omega
/-- a man's NET is not below what he sells -/
theorem NT_ge {s : Nat → Int32} {q : Nat → Nat} {ac : Int32} {k m : Nat} (hV : IVb s q) (hm : m < 12) : ∀ n, n ≤ 60 → -(SF (fun b => sl0 s ac k m b) n : Int) ≤ (fo (gNt s (nI m) (nI k) ac) 0 n).toInt
  | 0, _ => by show -((0 : Nat) : Int) ≤ (0 : Int32).toInt; decide
  | n + 1, hn => by
    have ih := NT_ge (k := k) (ac := ac) hV hm n (by omega)
    have bd := nt_bd hV (nI m) (nI k) ac n (by omega)
    show -((SF (fun b => sl0 s ac k m b) n + sl0 s ac k m n : Nat) : Int) ≤ (gNt s (nI m) (nI k) ac n (fo (gNt s (nI m) (nI k) ac) 0 n)).toInt
    generalize fo (gNt s (nI m) (nI k) ac) 0 n = x at ih bd ⊢
    generalize SF (fun b => sl0 s ac k m b) n = S0 at ih ⊢
    unfold gNt sl0
    by_cases h : stn s n (nI k) ac
    · obtain ⟨sl, by_, sh, s1, s2, s3, s4, s5, s6, s7, s8, s9, s10⟩ := stn_all hV (by omega) h
      have e4 : (s (192 + 12 * n + 4)).toInt = sh := by rw [s8, nI_toInt (by omega)]
      have en : (-(s (192 + 12 * n + 4))).toInt = -(sh : Int) := by rw [Int32.toInt_neg, e4, Int.bmod_eq_of_le (by omega) (by omega)]
      rw [if_pos h]
      unfold gn
      by_cases e2 : s (192 + 12 * n + 2) = nI m
      · rw [if_pos e2, Int32.toInt_add, e4, Int.bmod_eq_of_le (by omega) (by omega)]; omega
      · rw [if_neg e2]
        by_cases e1 : s (192 + 12 * n + 1) = nI m
        · rw [if_pos e1, if_pos ⟨h, e1⟩, Int32.toInt_add, en, Int.bmod_eq_of_le (by omega) (by omega), s8, nI_clamp (by omega)]; omega
        · rw [if_neg e1, Int32.add_zero]; omega
    · rw [if_neg h]; omega
/-- who has a NET is a party to a bargain that stands, and up -/
theorem NT_up {s : Nat → Int32} {q : Nat → Nat} {ac : Int32} {k m : Nat} (hV : IVb s q) (hq : q 1 ≤ 12) (hm : m < 12) (hn : NT s m (nI k) ac ≠ 0) : m < q 1 ∧ isUpP s m := by
  have key : ¬ (m < q 1 ∧ isUpP s m) → ∀ n, n ≤ 60 → fo (gNt s (nI m) (nI k) ac) 0 n = 0 := by
    intro hu n
    induction n with
    | zero => intro _; rfl
    | succ n ih =>
      intro hn'
      show gNt s (nI m) (nI k) ac n (fo (gNt s (nI m) (nI k) ac) 0 n) = 0
      rw [ih (by omega)]
      unfold gNt
      by_cases h : stn s n (nI k) ac
      · obtain ⟨sl, by_, sh, s1, s2, s3, s4, s5, s6, s7, s8, s9, s10⟩ := stn_all hV (by omega) h
        rw [if_pos h]
        unfold gn
        rw [if_neg (fun z => hu ?_), if_neg (fun z => hu ?_)]; rfl
        · have : sl = m := (nI_eq (by omega) (by omega)).mp (s6.symm.trans z)
          exact this ▸ ⟨s1, s9⟩
        · have : by_ = m := (nI_eq (by omega) (by omega)).mp (s7.symm.trans z)
          exact this ▸ ⟨s2, s10⟩
      · rw [if_neg h]
  by_cases h : m < q 1 ∧ isUpP s m
  · exact h
  · exact absurd (key h 60 (Nat.le_refl _)) hn
end
