section
/-! run: names. What holds while a ticket is passed on -/
def SF (f : Nat → Nat) : Nat → Nat
  | 0 => 0
  | n + 1 => SF f n + f n
theorem SF_up {f f2 : Nat → Nat} {j : Nat} : ∀ n, (∀ i, i < n → i ≠ j → f2 i = f i) → SF f2 n + (if j < n then f j else 0) = SF f n + (if j < n then f2 j else 0)
  | 0, _ => rfl
  | n + 1, h => by
    have ih := SF_up n (fun i hi => h i (Nat.lt_succ_of_lt hi))
    rw [SF, SF]
    by_cases e : n = j
    · subst e; rw [if_neg (by omega), if_neg (by omega)] at ih; rw [if_pos (by omega), if_pos (by omega)]; omega
    · rw [h n (Nat.lt_succ_self n) e]
      by_cases e2 : j < n
      · rw [if_pos e2, if_pos e2] at ih; rw [if_pos (by omega), if_pos (by omega)]; omega
      · rw [if_neg e2, if_neg e2] at ih; rw [if_neg (by omega), if_neg (by omega)]; omega
theorem SF_le {f : Nat → Nat} {j : Nat} : ∀ n, j < n → f j ≤ SF f n
  | 0, h => absurd h (Nat.not_lt_zero _)
  | n + 1, h => by
    rw [SF]
    by_cases e : j = n
    · subst e; omega
    · have := SF_le (f := f) n (by omega : j < n); omega
def ps1 (x : Nat) : Nat := if 0 < x then 1 else 0
def CF (f : Nat → Nat) (n : Nat) : Nat := SF (fun b => ps1 (f b)) n
def upN (f : Nat → Nat) (j v : Nat) : Nat → Nat := fun i => if i = j then v else f i
theorem SF_set {f : Nat → Nat} {j v n : Nat} (hj : j < n) : SF (upN f j v) n + f j = SF f n + v := by
  have := SF_up (f := f) (f2 := upN f j v) (j := j) n (fun i _ h => by unfold upN; rw [if_neg h])
  rw [if_pos hj, if_pos hj] at this
  unfold upN at this ⊢
  rw [if_pos rfl] at this
  exact this
theorem CF_set {f : Nat → Nat} {j v n : Nat} (hj : j < n) : CF (upN f j v) n + ps1 (f j) = CF f n + ps1 v := by
  have := SF_up (f := fun b => ps1 (f b)) (f2 := fun b => ps1 (upN f j v b)) (j := j) n (fun i _ h => by show ps1 (upN f j v i) = ps1 (f i); unfold upN; rw [if_neg h])
  rw [if_pos hj, if_pos hj] at this
  unfold CF
  have e : upN f j v j = v := by unfold upN; rw [if_pos rfl]
  rw [e] at this
  exact this
/-- tables of passes and deliveries -/
def nTab (I J : xTI) (p d : Nat) : Prop := I 24 3 = nI p ∧ I 26 3 = nI d ∧ J 58 6 = nI p ∧ J 58 7 = nI d ∧ (∀ i, i < p → i < 300 → ∀ t, t < 7 → I 25 (7 * i + t) = J 58 (2570 + 7 * i + t)) ∧ (∀ i, i < d → ∀ t, t < 6 → I 27 (6 * i + t) = J 58 (4670 + 6 * i + t))
/-- what naming leaves as it was -/
def nFr (I0 I J0 J : xTI) : Prop := (∀ k, k ≠ 18 → k ≠ 19 → k ≠ 24 → k ≠ 25 → k ≠ 26 → k ≠ 27 → (k < 33 ∨ 40 < k) → I k = I0 k) ∧ (∀ j, j ≠ 6 → j ≠ 7 → j < 2570 → J 58 j = J0 58 j) ∧ (∀ k j, (k ≤ 56 ∨ (k = 57 ∧ (j = 5 ∨ j = 44 ∨ j = 46 ∨ j = 47)) ∨ k = 60 ∨ k = 61 ∨ 84 ≤ k) → J k j = J0 k j)
def manU (s : Nat → Int32) (q : Nat → Nat) (x : Int32) : Prop := ∃ m, m < q 1 ∧ x = nI m ∧ isUpP s m
/-- a ticket: its name a last buyer, with one who is up -/
def tkV (s : Nat → Int32) (q : Nat → Nat) (k : Nat) (ac x1 x2 x3 x5 : Int32) : Prop := (∃ a, a < q 1 ∧ x1 = nI a ∧ isUpP s a ∧ 0 < NT s a (nI k) ac) ∧ manU s q x2 ∧ (∃ n, 1 ≤ n ∧ n ≤ 5940 ∧ x3 = nI n) ∧ (x5 = -1 ∨ manU s q x5)
def nQ (I J : xTI) (s : Nat → Int32) (q : Nat → Nat) (k : Nat) (ac : Int32) (a T : Nat) : Prop := ∀ t, a ≤ t → t < T → I 34 (t % 128) = J 63 t ∧ I 35 (t % 128) = J 64 t ∧ I 36 (t % 128) = J 65 t ∧ I 37 (t % 128) = J 66 t ∧ I 38 (t % 128) = J 67 t ∧ tkV s q k ac (J 63 t) (J 64 t) (J 65 t) (J 67 t)
def nLf (I J : xTI) (s : Nat → Int32) (k : Nat) (ac : Int32) (lf : Nat → Nat) : Prop := ∀ b, b < 60 → I 40 b = nI (lf b) ∧ J 69 b = nI (lf b) ∧ lf b ≤ 99 ∧ (0 < lf b → stn s b (nI k) ac)
def nGv (I J : xTI) (s : Nat → Int32) (q : Nat → Nat) (k : Nat) (ac : Int32) (g : Nat → Nat) : Prop := ∀ m, m < q 1 → J 68 m = nI (g m) ∧ g m ≤ 5940 ∧ ((0 < g m ∧ I 39 m = -nI (g m) ∧ NT s m (nI k) ac < 0) ∨ (g m = 0 ∧ isN (I 39 m) 5940))
/-- the deliveries so far -/
def nDel (s s0 : Nat → Int32) (q : Nat → Nat) (ac : Int32) (d : Nat) : Prop := ∀ i, i < d → ∃ (kk f t sh : Nat), s (4670 + 6 * i) = nI kk ∧ s (4670 + 6 * i + 1) = nI f ∧ s (4670 + 6 * i + 2) = nI t ∧ s (4670 + 6 * i + 3) = nI sh ∧ kk < q 2 ∧ f < q 1 ∧ t < q 1 ∧ f ≠ t ∧ 1 ≤ sh ∧ sh ≤ 5940 ∧ (s (4670 + 6 * i + 5) = -1 ∨ manU s0 q (s (4670 + 6 * i + 5))) ∧ isUpP s0 f ∧ isUpP s0 t ∧ NT s0 f (nI kk) ac < 0 ∧ 0 < NT s0 t (nI kk) ac
/-- what is counted: tickets, shares, deliveries, passes -/
def nCt (s : Nat → Int32) (w T p d : Nat) (lf g : Nat → Nat) (D S P : Nat) : Prop := w + CF lf 60 ≤ 72 ∧ T + SF lf 60 ≤ 5952 ∧ d + w + CF lf 60 + CF g 12 ≤ D ∧ dvS s d + SF g 12 ≤ S ∧ p + SF lf 60 ≤ P
/-- the class's memory after a pass -/
def psI (I : xTI) (b o w p : Nat) (v x2 x5 nm sl n x6 x8 : Int32) : xTI := if p < 300 then wr (xup (lnI (xup I 40 b v) o w nm sl n x6 x8) 24 3 (nI (p + 1))) 25 (7 * p) (psW x2 x5 sl nm n x6 x8) 7 else xup (lnI (xup I 40 b v) o w nm sl n x6 x8) 24 3 (nI (p + 1))
theorem psI_25 {I : xTI} {b o w p : Nat} {v x2 x5 nm sl n x6 x8 : Int32} {k : Nat} (h : k ≠ 25) : psI I b o w p v x2 x5 nm sl n x6 x8 k = xup (lnI (xup I 40 b v) o w nm sl n x6 x8) 24 3 (nI (p + 1)) k := by
  unfold psI; split
  · rw [wr_ne h]
  · rfl
theorem lnI_ne {I : xTI} {o w : Nat} {x1 x2 x3 x4 x5 : Int32} {k : Nat} (h : k < 33 ∨ 38 < k) : lnI I o w x1 x2 x3 x4 x5 k = I k := by
  unfold lnI; rw [xup_ne (by omega), xup_ne (by omega), xup_ne (by omega), xup_ne (by omega), xup_ne (by omega), xup_ne (by omega)]
theorem lnI_at {I : xTI} {o w : Nat} {x1 x2 x3 x4 x5 : Int32} {j : Nat} : lnI I o w x1 x2 x3 x4 x5 34 j = (if j = o then x1 else I 34 j) ∧ lnI I o w x1 x2 x3 x4 x5 35 j = (if j = o then x2 else I 35 j) ∧ lnI I o w x1 x2 x3 x4 x5 36 j = (if j = o then x3 else I 36 j) ∧ lnI I o w x1 x2 x3 x4 x5 37 j = (if j = o then x4 else I 37 j) ∧ lnI I o w x1 x2 x3 x4 x5 38 j = (if j = o then x5 else I 38 j) ∧ lnI I o w x1 x2 x3 x4 x5 33 j = (if j = 6 then nI (w + 1) else I 33 j) := by
  unfold lnI
  refine ⟨?_, ?_, ?_, ?_, ?_, ?_⟩
  · rw [xup_ne (by decide), xup_ne (by decide), xup_ne (by decide), xup_ne (by decide), xup_ne (by decide), xup_at]
  · rw [xup_ne (by decide), xup_ne (by decide), xup_ne (by decide), xup_ne (by decide), xup_at, xup_ne (by decide)]
  · rw [xup_ne (by decide), xup_ne (by decide), xup_ne (by decide), xup_at, xup_ne (by decide), xup_ne (by decide)]
  · rw [xup_ne (by decide), xup_ne (by decide), xup_at, xup_ne (by decide), xup_ne (by decide), xup_ne (by decide)]
  · rw [xup_ne (by decide), xup_at, xup_ne (by decide), xup_ne (by decide), xup_ne (by decide), xup_ne (by decide)]
  · rw [xup_at, xup_ne (by decide), xup_ne (by decide), xup_ne (by decide), xup_ne (by decide), xup_ne (by decide)]
theorem wtJ_ne {J : xTI} {T : Nat} {x1 x2 x3 x4 x5 : Int32} {k : Nat} (h : k ≠ 57) (h2 : k < 63 ∨ 67 < k) : wtJ J T x1 x2 x3 x4 x5 k = J k := by
  unfold wtJ; rw [xup_ne (by omega), xup_ne (by omega), xup_ne (by omega), xup_ne (by omega), xup_ne (by omega), xup_ne (by omega)]
theorem wtJ_at {J : xTI} {T : Nat} {x1 x2 x3 x4 x5 : Int32} {j : Nat} : wtJ J T x1 x2 x3 x4 x5 63 j = (if j = T then x1 else J 63 j) ∧ wtJ J T x1 x2 x3 x4 x5 64 j = (if j = T then x2 else J 64 j) ∧ wtJ J T x1 x2 x3 x4 x5 65 j = (if j = T then x3 else J 65 j) ∧ wtJ J T x1 x2 x3 x4 x5 66 j = (if j = T then x4 else J 66 j) ∧ wtJ J T x1 x2 x3 x4 x5 67 j = (if j = T then x5 else J 67 j) ∧ wtJ J T x1 x2 x3 x4 x5 57 j = (if j = 25 then nI (T + 1) else J 57 j) := by
  unfold wtJ
  refine ⟨?_, ?_, ?_, ?_, ?_, ?_⟩
  · rw [xup_ne (by decide), xup_ne (by decide), xup_ne (by decide), xup_ne (by decide), xup_ne (by decide), xup_at]
  · rw [xup_ne (by decide), xup_ne (by decide), xup_ne (by decide), xup_ne (by decide), xup_at, xup_ne (by decide)]
  · rw [xup_ne (by decide), xup_ne (by decide), xup_ne (by decide), xup_at, xup_ne (by decide), xup_ne (by decide)]
  · rw [xup_ne (by decide), xup_ne (by decide), xup_at, xup_ne (by decide), xup_ne (by decide), xup_ne (by decide)]
  · rw [xup_ne (by decide), xup_at, xup_ne (by decide), xup_ne (by decide), xup_ne (by decide), xup_ne (by decide)]
  · rw [xup_at, xup_ne (by decide), xup_ne (by decide), xup_ne (by decide), xup_ne (by decide), xup_ne (by decide)]
theorem psJ_58 {J : xTI} {i p T : Nat} {x1 x3 x4 x5 x6 : Int32} {j : Nat} : psJ J i p T x1 x3 x4 x5 x6 58 j = if j = 6 then nI (p + 1) else if p < 300 ∧ 2570 + 7 * p ≤ j ∧ j < 2570 + 7 * p + 7 then psW x1 (J 64 i) x3 (J 63 i) x4 x5 x6 (j - (2570 + 7 * p)) else J 58 j := by
  unfold psJ
  rw [wtJ_ne (by decide) (by decide), xup_at]
  by_cases e : j = 6
  · rw [if_pos e, if_pos e]
  · rw [if_neg e, if_neg e]
    by_cases h : p < 300
    · rw [if_pos h]
      by_cases h2 : 2570 + 7 * p ≤ j ∧ j < 2570 + 7 * p + 7
      · rw [if_pos ⟨h, h2⟩]
        obtain ⟨t, rfl⟩ : ∃ t, j = 2570 + 7 * p + t := ⟨j - (2570 + 7 * p), by omega⟩
        rw [wr_in 7 (by omega), Nat.add_sub_cancel_left]
      · rw [if_neg (fun z => h2 z.2), wr_out 7 (by omega)]
    · rw [if_neg h, if_neg (fun z => h z.1)]
theorem psJ_ne {J : xTI} {i p T : Nat} {x1 x3 x4 x5 x6 : Int32} {k : Nat} (h : k ≠ 57) (h1 : k ≠ 58) (h2 : k < 63 ∨ 67 < k) : psJ J i p T x1 x3 x4 x5 x6 k = J k := by
  unfold psJ
  rw [wtJ_ne h h2, xup_ne h1]
  split
  · rw [wr_ne h1]
  · rfl
theorem psJ_at {J : xTI} {i p T : Nat} {x1 x3 x4 x5 x6 : Int32} {j : Nat} : psJ J i p T x1 x3 x4 x5 x6 63 j = (if j = T then J 63 i else J 63 j) ∧ psJ J i p T x1 x3 x4 x5 x6 64 j = (if j = T then x3 else J 64 j) ∧ psJ J i p T x1 x3 x4 x5 x6 65 j = (if j = T then x4 else J 65 j) ∧ psJ J i p T x1 x3 x4 x5 x6 66 j = (if j = T then x5 else J 66 j) ∧ psJ J i p T x1 x3 x4 x5 x6 67 j = (if j = T then x6 else J 67 j) ∧ psJ J i p T x1 x3 x4 x5 x6 57 j = (if j = 25 then nI (T + 1) else J 57 j) := by
  unfold psJ
  have e : ∀ k, k ≠ 58 → xup (if p < 300 then wr J 58 (2570 + 7 * p) (psW x1 (J 64 i) x3 (J 63 i) x4 x5 x6) 7 else J) 58 6 (nI (p + 1)) k = J k := fun k h => by
    rw [xup_ne h]; split
    · rw [wr_ne h]
    · rfl
  have := wtJ_at (J := xup (if p < 300 then wr J 58 (2570 + 7 * p) (psW x1 (J 64 i) x3 (J 63 i) x4 x5 x6) 7 else J) 58 6 (nI (p + 1))) (T := T) (x1 := J 63 i) (x2 := x3) (x3 := x4) (x4 := x5) (x5 := x6) (j := j)
  rw [e 63 (by decide), e 64 (by decide), e 65 (by decide), e 66 (by decide), e 67 (by decide), e 57 (by decide)] at this
  exact this
end
