/-! judge -/
theorem xlp_ex {S R : Type} {b : S → (S → Option R) → Option R} (P : Nat → S → Prop) (m : Nat) (Q : Option R → Prop) (hs : ∀ i, i < m → ∀ x, P i x → (∃ x', (∀ k, b x k = k x') ∧ P (i + 1) x') ∨ (∃ r, (∀ k, b x k = r) ∧ Q r)) (he : ∀ x, P m x → ∃ r, (∀ k, b x k = r) ∧ Q r) : ∀ N, m < N → ∀ x, P 0 x → ∃ r, xlp b N x = r ∧ Q r := by
  have key : ∀ d i N, i + d = m → d < N → ∀ x, P i x → ∃ r, xlp b N x = r ∧ Q r := by
    intro d
    induction d with
    | zero =>
      intro i N hi hN x hx
      obtain ⟨N', rfl⟩ : ∃ N', N = N' + 1 := ⟨N - 1, by omega⟩
      have : i = m := by omega
      subst this
      obtain ⟨r, h1, h2⟩ := he x hx
      exact ⟨r, by rw [xlp_s, h1], h2⟩
    | succ d ih =>
      intro i N hi hN x hx
      obtain ⟨N', rfl⟩ : ∃ N', N = N' + 1 := ⟨N - 1, by omega⟩
      rcases hs i (by omega) x hx with ⟨x', h1, h2⟩ | ⟨r, h1, h2⟩
      · obtain ⟨r, h3, h4⟩ := ih (i + 1) N' (by omega) (by omega) x' h2
        exact ⟨r, by rw [xlp_s, h1, h3], h4⟩
      · exact ⟨r, by rw [xlp_s, h1], h2⟩
  intro N hN x hx
  exact key m 0 N (by omega) hN x hx
/-- what the first i passes of a row take from man m; what they bring him -/
def Ga (row : Nat → Int32) : Nat → Nat → Int
  | 0, _ => 0
  | i + 1, m => Ga row i m + if row (3 * i) = nI m then (row (3 * i + 2)).toInt else 0
def Go (row : Nat → Int32) : Nat → Nat → Int
  | 0, _ => 0
  | i + 1, m => Go row i m + if row (3 * i + 1) = nI m then (row (3 * i + 2)).toInt else 0
def Vd (row : Nat → Int32) (q1 i : Nat) : Prop := (∃ a, a < q1 ∧ row (3 * i) = nI a) ∧ (∃ b, b < q1 ∧ row (3 * i + 1) = nI b) ∧ row (3 * i) ≠ row (3 * i + 1) ∧ 0 < (row (3 * i + 2)).toInt
theorem Ga_bd {row : Nat → Int32} {q1 m : Nat} : ∀ {t : Nat}, (∀ i, i < t → Vd row q1 i) → 0 ≤ Ga row t m ∧ Ga row t m ≤ 2147483647 * t
  | 0, _ => ⟨Int.le_refl _, by show (0 : Int) ≤ 2147483647 * ((0 : Nat) : Int); decide⟩
  | t + 1, h => by
    have ih := Ga_bd (m := m) (t := t) (fun i hi => h i (Nat.lt_succ_of_lt hi))
    have hv := (h t (by omega)).2.2.2
    have hb := Int32.toInt_lt (row (3 * t + 2))
    unfold Ga
    split <;> omega
theorem Go_bd {row : Nat → Int32} {q1 m : Nat} : ∀ {t : Nat}, (∀ i, i < t → Vd row q1 i) → 0 ≤ Go row t m ∧ Go row t m ≤ 2147483647 * t
  | 0, _ => ⟨Int.le_refl _, by show (0 : Int) ≤ 2147483647 * ((0 : Nat) : Int); decide⟩
  | t + 1, h => by
    have ih := Go_bd (m := m) (t := t) (fun i hi => h i (Nat.lt_succ_of_lt hi))
    have hv := (h t (by omega)).2.2.2
    have hb := Int32.toInt_lt (row (3 * t + 2))
    unfold Go
    split <;> omega
theorem Ga_mono {row : Nat → Int32} {q1 m : Nat} : ∀ {t i : Nat}, (∀ i, i < t → Vd row q1 i) → i ≤ t → Ga row i m ≤ Ga row t m
  | 0, i, _, hi => by have : i = 0 := by omega
                      subst this; exact Int.le_refl _
  | t + 1, i, h, hi => by
    by_cases e : i = t + 1
    · subst e; exact Int.le_refl _
    · have ih := Ga_mono (m := m) (t := t) (i := i) (fun i hi => h i (by omega)) (by omega)
      have hv := (h t (by omega)).2.2.2
      show Ga row i m ≤ Ga row t m + _
      split <;> omega
theorem Go_mono {row : Nat → Int32} {q1 m : Nat} : ∀ {t i : Nat}, (∀ i, i < t → Vd row q1 i) → i ≤ t → Go row i m ≤ Go row t m
  | 0, i, _, hi => by have : i = 0 := by omega
                      subst this; exact Int.le_refl _
  | t + 1, i, h, hi => by
    by_cases e : i = t + 1
    · subst e; exact Int.le_refl _
    · have ih := Go_mono (m := m) (t := t) (i := i) (fun i hi => h i (by omega)) (by omega)
      have hv := (h t (by omega)).2.2.2
      show Go row i m ≤ Go row t m + _
      split <;> omega
theorem Ga_pos {row : Nat → Int32} {m : Nat} : ∀ {t : Nat}, 0 < Ga row t m → ∃ i, i < t ∧ row (3 * i) = nI m
  | 0, h => absurd h (by show ¬ (0 : Int) < 0; decide)
  | t + 1, h => by
    by_cases e : row (3 * t) = nI m
    · exact ⟨t, by omega, e⟩
    · unfold Ga at h
      rw [if_neg e] at h
      obtain ⟨i, h1, h2⟩ := Ga_pos (row := row) (m := m) (t := t) (by omega)
      exact ⟨i, by omega, h2⟩
theorem Go_pos {row : Nat → Int32} {m : Nat} : ∀ {t : Nat}, 0 < Go row t m → ∃ i, i < t ∧ row (3 * i + 1) = nI m
  | 0, h => absurd h (by show ¬ (0 : Int) < 0; decide)
  | t + 1, h => by
    by_cases e : row (3 * t + 1) = nI m
    · exact ⟨t, by omega, e⟩
    · unfold Go at h
      rw [if_neg e] at h
      obtain ⟨i, h1, h2⟩ := Go_pos (row := row) (m := m) (t := t) (by omega)
      exact ⟨i, by omega, h2⟩
/-- a row is good: as the class has it, as the reference has it; net: what each man's NET comes to -/
def GoodC (row : Nat → Int32) (net : Nat → Int) (q1 t : Nat) : Prop := (∀ i, i < t → Vd row q1 i) ∧ ∀ m, m < 12 → ¬ (0 < Ga row t m ∧ 0 < Go row t m) ∧ Go row t m - Ga row t m = net m
def OkR (row : Nat → Int32) (net : Nat → Int) (q1 i : Nat) : Prop := ∃ a b, a < q1 ∧ b < q1 ∧ row (3 * i) = nI a ∧ row (3 * i + 1) = nI b ∧ 0 < (row (3 * i + 2)).toInt ∧ net a < 0 ∧ 0 < net b ∧ (row (3 * i + 2)).toInt ≤ -(net a + Ga row i a - Go row i a) ∧ (row (3 * i + 2)).toInt ≤ net b + Ga row i b - Go row i b
def GoodR (row : Nat → Int32) (net : Nat → Int) (q1 t : Nat) : Prop := (∀ i, i < t → OkR row net q1 i) ∧ ∀ m, m < 12 → net m + Ga row t m - Go row t m = 0
theorem OkR.v {row : Nat → Int32} {net : Nat → Int} {q1 i : Nat} (hq : q1 ≤ 12) (h : OkR row net q1 i) : Vd row q1 i := by
  obtain ⟨a, b, h1, h2, h3, h4, h5, h6, h7, -⟩ := h
  refine ⟨⟨a, h1, h3⟩, ⟨b, h2, h4⟩, ?_, h5⟩
  rw [h3, h4]
  intro e
  have := (nI_eq (by omega) (by omega)).mp e
  subst this
  omega
theorem good_iff {row : Nat → Int32} {net : Nat → Int} {q1 t : Nat} (hq : q1 ≤ 12) : GoodC row net q1 t ↔ GoodR row net q1 t := by
  constructor
  · rintro ⟨h1, h2⟩
    refine ⟨fun i hi => ?_, fun m hm => by have := (h2 m hm).2; omega⟩
    obtain ⟨⟨a, ha, ea⟩, ⟨b, hb, eb⟩, hne, hpos⟩ := h1 i hi
    have a1 : Ga row (i + 1) a = Ga row i a + (row (3 * i + 2)).toInt := by
      show Ga row i a + _ = _
      rw [if_pos ea]
    have b1 : Go row (i + 1) b = Go row i b + (row (3 * i + 2)).toInt := by
      show Go row i b + _ = _
      rw [if_pos eb]
    have ma := Ga_mono (m := a) h1 (show i + 1 ≤ t by omega)
    have mb := Go_mono (m := b) h1 (show i + 1 ≤ t by omega)
    have pa := Ga_bd (m := a) (fun j (hj : j < i) => h1 j (by omega))
    have pb := Go_bd (m := b) (fun j (hj : j < i) => h1 j (by omega))
    have pa2 := Go_bd (m := a) h1
    have pb2 := Ga_bd (m := b) h1
    have pa3 := Go_bd (m := a) (fun j (hj : j < i) => h1 j (by omega))
    have pb3 := Ga_bd (m := b) (fun j (hj : j < i) => h1 j (by omega))
    have mo := Go_mono (m := a) h1 (show i ≤ t by omega)
    have mg := Ga_mono (m := b) h1 (show i ≤ t by omega)
    obtain ⟨na, da⟩ := h2 a (by omega)
    obtain ⟨nb, db⟩ := h2 b (by omega)
    have ga0 : ¬ 0 < Go row t a := fun e => na ⟨by omega, e⟩
    have gb0 : ¬ 0 < Ga row t b := fun e => nb ⟨e, by omega⟩
    exact ⟨a, b, ha, hb, ea, eb, hpos, by omega, by omega, by omega, by omega⟩
  · rintro ⟨h1, h2⟩
    have hv : ∀ i, i < t → Vd row q1 i := fun i hi => (h1 i hi).v hq
    refine ⟨hv, fun m hm => ⟨?_, by have := h2 m hm; omega⟩⟩
    rintro ⟨p1, p2⟩
    obtain ⟨i, hi, ei⟩ := Ga_pos p1
    obtain ⟨j, hj, ej⟩ := Go_pos p2
    obtain ⟨a, b, ha, hb, ea, eb, -, na, -⟩ := h1 i hi
    obtain ⟨a', b', ha', hb', ea', eb', -, -, nb', -⟩ := h1 j hj
    rw [ea] at ei
    rw [eb'] at ej
    have e1 := (nI_eq (by omega) (by omega)).mp ei
    have e2 := (nI_eq (by omega) (by omega)).mp ej
    subst e1
    subst e2
    omega
theorem NT_out {s : Nat → Int32} {q : Nat → Nat} (hV : IVb s q) (hq : q 1 ≤ 12) {m : Nat} (hm : q 1 ≤ m) (hm2 : m < 12) (k ac : Int32) : NT s m k ac = 0 := by
  unfold NT
  have : ∀ i, i ≤ 60 → fo (gNt s (nI m) k ac) 0 i = 0 := by
    intro i
    induction i with
    | zero => intro _; rfl
    | succ i ih =>
      intro hi
      show gNt s (nI m) k ac i (fo (gNt s (nI m) k ac) 0 i) = 0
      rw [ih (by omega)]
      unfold gNt
      by_cases g : stn s i k ac
      · obtain ⟨sl, by_, st, sh, pr, dy, aa, g1, g2, g3, g4, g5, g6, g7, f1, f2, -⟩ := bg_all hV (by omega) g.1
        rw [if_pos g]
        unfold gn
        rw [g1, g2, if_neg (fun e => by have := (nI_eq (by omega) (by omega)).mp e; omega), if_neg (fun e => by have := (nI_eq (by omega) (by omega)).mp e; omega)]
        rfl
      · rw [if_neg g]
  exact this 60 (Nat.le_refl _)
