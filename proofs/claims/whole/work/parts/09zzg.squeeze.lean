/-- the cheapest of those who have some -/
def bsN (pos ak : Nat → Int32) : Nat → Option Nat
  | 0 => none
  | i + 1 => if pos i ≤ 0 then bsN pos ak i else match bsN pos ak i with
    | none => some i
    | some j => if ak j ≤ ak i then some j else some i
theorem bsN_in {pos ak : Nat → Int32} : ∀ {m j : Nat}, bsN pos ak m = some j → j < m ∧ ¬ pos j ≤ 0
  | 0, j, h => by cases h
  | i + 1, j, h => by
    unfold bsN at h
    by_cases g : pos i ≤ 0
    · rw [if_pos g] at h
      have := bsN_in h
      exact ⟨by omega, this.2⟩
    · rw [if_neg g] at h
      cases hp : bsN pos ak i with
      | none =>
        rw [hp] at h
        have : i = j := Option.some.inj h
        subst this
        exact ⟨by omega, g⟩
      | some j' =>
        rw [hp] at h
        have hp' := bsN_in hp
        have h : (if ak j' ≤ ak i then some j' else some i) = some j := h
        by_cases g2 : ak j' ≤ ak i
        · rw [if_pos g2] at h
          have : j' = j := Option.some.inj h
          subst this
          exact ⟨by omega, hp'.2⟩
        · rw [if_neg g2] at h
          have : i = j := Option.some.inj h
          subst this
          exact ⟨by omega, g⟩
def cpos (pos : Nat → Int32) : Nat → Nat
  | 0 => 0
  | i + 1 => cpos pos i + if pos i ≤ 0 then 0 else 1
def up1 {α : Type} (p : Nat → α) (j : Nat) (v : α) : Nat → α := fun i => if i = j then v else p i
theorem cpos_le (pos : Nat → Int32) : ∀ m, cpos pos m ≤ m
  | 0 => Nat.le_refl _
  | m + 1 => by
    have := cpos_le pos m
    show cpos pos m + (if pos m ≤ 0 then 0 else 1) ≤ m + 1
    split <;> omega
theorem cpos_ge {pos : Nat → Int32} {j : Nat} : ∀ {m : Nat}, m ≤ j → cpos (up1 pos j 0) m = cpos pos m
  | 0, _ => rfl
  | m + 1, h => by
    show cpos (up1 pos j 0) m + (if up1 pos j 0 m ≤ 0 then 0 else 1) = cpos pos m + (if pos m ≤ 0 then 0 else 1)
    rw [cpos_ge (by omega), show up1 pos j 0 m = pos m from if_neg (by omega)]
theorem cpos_up {pos : Nat → Int32} {j : Nat} (h : ¬ pos j ≤ 0) : ∀ {m : Nat}, j < m → cpos (up1 pos j 0) m + 1 = cpos pos m
  | 0, hj => by omega
  | m + 1, hj => by
    show cpos (up1 pos j 0) m + (if up1 pos j 0 m ≤ 0 then 0 else 1) + 1 = cpos pos m + (if pos m ≤ 0 then 0 else 1)
    by_cases e : j = m
    · subst e
      rw [cpos_ge (Nat.le_refl _), show up1 pos j 0 j = 0 from if_pos rfl, if_pos (by decide), if_neg h]
    · have := cpos_up (m := m) h (by omega)
      rw [show up1 pos j 0 m = pos m from if_neg (fun x => e x.symm)]
      omega
section SQ
variable {I : xTI} {L : xTL} {s : Nat → Int32} {c : Nat → Int64} {q : Nat → Nat} {n : Nat}
theorem F7_ch {J : xTI} {pos : Nat → Int32} {k : Nat} (hk : k < 5) (hq : q 1 ≤ 12) (h3 : J 3 0 = nI (q 1)) (hp : ∀ m, m < 12 → J 53 m = pos m) (ha : ∀ m, m < 12 → J 10 (5 * m + k) = s (124 + (5 * m + k))) : F_X7_cheapest xN J (nI k) = some (bI (bsN pos (fun m => s (124 + (5 * m + k))) (q 1))) := by
  unfold F_X7_cheapest
  rw [xbn_e]
  rw [show ((-1 : Int32), (0 : Int32)) = (fun i => (bI (bsN pos (fun m => s (124 + (5 * m + k))) i), nI i)) 0 from rfl]
  refine xlp_for (fun i => (bI (bsN pos (fun m => s (124 + (5 * m + k))) i), nI i)) (q 1) _ (fun i hi K => ?_) (fun K => ?_) xN (by show q 1 < 100000; omega)
  · show F_X7_cheapest_c5 xN J (nI k) (bI (bsN pos (fun m => s (124 + (5 * m + k))) i)) (nI i) K = K (bI (if pos i ≤ 0 then bsN pos (fun m => s (124 + (5 * m + k))) i else match bsN pos (fun m => s (124 + (5 * m + k))) i with | none => some i | some j => if s (124 + (5 * j + k)) ≤ s (124 + (5 * i + k)) then some j else some i), nI (i + 1))
    unfold F_X7_cheapest_c5 F_X7_cheapest_j48
    rw [xbn_e, h3, if_neg (nI_ge hi (by omega))]
    cases hb : bsN pos (fun m => s (124 + (5 * m + k))) i with
    | none =>
      rw [if_pos (show bI none = -1 from rfl), xal_n (by omega) (by decide), hp i (by omega)]
      by_cases g : pos i ≤ 0
      · rw [if_pos g, if_pos g, xbn_e, nI_1]
      · rw [if_neg g, if_neg g, if_neg (by decide), xbn_e, nI_1]; rfl
    | some j =>
      have hj := (bsN_in hb).1
      rw [show bI (some j) = nI j from rfl, if_neg (nI_ne_m1 (by omega)), F3_pl, Option.bind_some, xal_n (by omega) (by decide), ha i (by omega), F3_pl, Option.bind_some, xal_n (by omega) (by decide), ha j (by omega)]
      by_cases g2 : s (124 + (5 * j + k)) ≤ s (124 + (5 * i + k))
      · rw [if_pos g2, xal_n (by omega) (by decide), hp i (by omega)]
        by_cases g : pos i ≤ 0
        · rw [if_pos g, if_pos g, xbn_e, nI_1]; rfl
        · rw [if_neg g, if_neg g, if_pos rfl, xbn_e, nI_1]
          show _ = K (bI (if s (124 + (5 * j + k)) ≤ s (124 + (5 * i + k)) then some j else some i), _)
          rw [if_pos g2]; rfl
      · rw [if_neg g2, xal_n (by omega) (by decide), hp i (by omega)]
        by_cases g : pos i ≤ 0
        · rw [if_pos g, if_pos g, xbn_e, nI_1]; rfl
        · rw [if_neg g, if_neg g, if_neg (by decide), xbn_e, nI_1]
          show _ = K (bI (if s (124 + (5 * j + k)) ≤ s (124 + (5 * i + k)) then some j else some i), _)
          rw [if_neg g2]; rfl
  · show F_X7_cheapest_c5 xN J (nI k) (bI (bsN pos (fun m => s (124 + (5 * m + k))) (q 1))) (nI (q 1)) K = _
    unfold F_X7_cheapest_c5
    rw [xbn_e, h3, if_pos (nI_le (Nat.le_refl _) (by omega))]
theorem hvV_pos (v : Int32) : hvV v ≤ 0 ↔ v ≤ 0 := by
  unfold hvV
  by_cases g : v ≤ 0
  · rw [if_pos g]; exact ⟨fun _ => g, fun _ => by decide⟩
  · rw [if_neg g]
theorem F11_bs {K : xTI} {pos : Nat → Int32} {k : Nat} (hk : k < 5) (hq : q 1 ≤ 12) (hs : K 58 = s) (h1 : s 1 = nI (q 1)) (hp : ∀ m, m < q 1 → K 78 m = hvV (pos m)) (kk : Int32 × Int64 × xTI → Option (Int64 × xTI)) (need : Int32) (cost : Int64) : xlp (F_X11_squeeze_b101 kk xN K (nI k) need cost) xN (-1, 0) = (match bsN pos (fun m => s (124 + (5 * m + k))) (q 1) with | none => some (-1, K) | some j => kk (need - (if need ≤ hvV (pos j) then need else hvV (pos j)), cost + (if need ≤ hvV (pos j) then need else hvV (pos j)).toInt64 * (s (124 + (5 * j + k))).toInt64, xup K 78 j 0)) := by
  have ix : ∀ j : Nat, (124 + 5 * nI j) + nI k = nI (124 + (5 * j + k)) := fun j => by rw [show (124 + 5 * nI j) + nI k = _ from ixc 124 5 j k, Nat.add_assoc]
  have z1 : ∀ (F : Int32 → Option (Int64 × xTI)), xal K 58 40670 1 F = F (nI (q 1)) := fun F => by
    rw [show xal (R := Int64 × xTI) K 58 40670 1 = xal (R := Int64 × xTI) K 58 40670 (nI 1) from rfl, xal_n (by decide) (by decide), hs, h1]
  rw [show ((-1 : Int32), (0 : Int32)) = (fun i => (bI (bsN pos (fun m => s (124 + (5 * m + k))) i), nI i)) 0 from rfl]
  refine xlp_for (fun i => (bI (bsN pos (fun m => s (124 + (5 * m + k))) i), nI i)) (q 1) _ (fun i hi KK => ?_) (fun KK => ?_) xN (by show q 1 < 100000; omega)
  · show F_X11_squeeze_c101 kk xN K (nI k) need cost (bI (bsN pos (fun m => s (124 + (5 * m + k))) i)) (nI i) KK = KK (bI (if pos i ≤ 0 then bsN pos (fun m => s (124 + (5 * m + k))) i else match bsN pos (fun m => s (124 + (5 * m + k))) i with | none => some i | some j => if s (124 + (5 * j + k)) ≤ s (124 + (5 * i + k)) then some j else some i), nI (i + 1))
    unfold F_X11_squeeze_c101
    rw [z1, if_neg (nI_ge hi (by omega)), xal_n (by omega) (by decide), hp i hi]
    by_cases g : pos i ≤ 0
    · rw [if_pos ((hvV_pos _).mpr g), if_pos g, xbn_e, nI_1]
    · rw [if_neg (fun e => g ((hvV_pos _).mp e)), if_neg g]
      cases hb : bsN pos (fun m => s (124 + (5 * m + k))) i with
      | none => rw [if_pos (show bI none = -1 from rfl), xbn_e, nI_1]; rfl
      | some j =>
        have hj := (bsN_in hb).1
        rw [show bI (some j) = nI j from rfl, if_neg (nI_ne_m1 (by omega)), ix, xal_n (by omega) (by decide), hs, ix, xal_n (by omega) (by decide), hs]
        show _ = KK (bI (if s (124 + (5 * j + k)) ≤ s (124 + (5 * i + k)) then some j else some i), _)
        by_cases g2 : s (124 + (5 * j + k)) ≤ s (124 + (5 * i + k))
        · rw [if_pos g2, if_pos g2, xbn_e, nI_1]; rfl
        · rw [if_neg g2, if_neg g2, xbn_e, nI_1]; rfl
  · show F_X11_squeeze_c101 kk xN K (nI k) need cost (bI (bsN pos (fun m => s (124 + (5 * m + k))) (q 1))) (nI (q 1)) KK = _
    unfold F_X11_squeeze_c101 F_X11_squeeze_j201
    rw [z1, if_pos (nI_le (Nat.le_refl _) (by omega))]
    cases hb : bsN pos (fun m => s (124 + (5 * m + k))) (q 1) with
    | none => rw [if_pos (show bI none = -1 from rfl)]
    | some j =>
      have hj := (bsN_in hb).1
      rw [show bI (some j) = nI j from rfl, if_neg (nI_ne_m1 (by omega)), xal_n (by omega) (by decide), hp j hj]
      show _ = kk _
      by_cases g : need ≤ hvV (pos j)
      · rw [if_pos g, if_pos g, ix, xal_n (by omega) (by decide), hs, xbn_e, xbn_e, xas_n (by omega) (by decide)]
      · rw [if_neg g, if_neg g, ix, xal_n (by omega) (by decide), xal_n (by omega) (by decide), hp j hj, hs, xbn_e, xbn_e, xas_n (by omega) (by decide)]
/-- both buy from the cheapest on -/
theorem sq_run (hB : BR I L s c q) (hV : IV s c q n) {k : Nat} (hk : k < 5) : ∀ (cnt : Nat) (need : Int32) (cost : Int64) (pos : Nat → Int32), cpos pos (q 1) ≤ cnt → ∃ res : Int64,
    (∀ (J : xTI) (i M : Nat), (∀ j, j ≠ 47 → j ≠ 53 → J j = I j) → (∀ m, m < 12 → J 53 m = pos m) → i + cnt ≤ 12 → cnt < M → ∃ J2, xlp (F_X7_leastCost_b15 xN (nI k)) M (need, cost, nI i, J) = some (res, J2) ∧ ∀ j, j ≠ 47 → j ≠ 53 → J2 j = I j) ∧
    (∀ (K : xTI) (M : Nat), K 58 = s → (∀ m, m < q 1 → K 78 m = hvV (pos m)) → cnt < M → ∃ K2, xlp (F_X11_squeeze_b91 xN (nI k)) M (need, cost, K) = some (res, K2) ∧ ∀ j, j ≠ 78 → K2 j = K j) := by
  have c5 : q 1 ≤ 12 := hV.1.2.2.1
  have s1 : s 1 = nI (q 1) := hV.1.1 1 (by decide)
  have hch : ∀ (J : xTI) (pos : Nat → Int32), (∀ j, j ≠ 47 → j ≠ 53 → J j = I j) → (∀ m, m < 12 → J 53 m = pos m) → F_X7_cheapest xN J (nI k) = some (bI (bsN pos (fun m => s (124 + (5 * m + k))) (q 1))) := fun J pos h1 h2 => by
    refine F7_ch (q := q) hk c5 (by rw [h1 3 (by decide) (by decide)]; exact hB.1.2.1) h2 (fun m hm => ?_)
    rw [h1 10 (by decide) (by decide)]
    exact (hB.2.1.2.1 (5 * m + k) (by omega)).2
  have hdone : ∀ (need : Int32) (cost : Int64) (pos : Nat → Int32) (cnt : Nat), need ≤ 0 → ∃ res : Int64, (∀ (J : xTI) (i M : Nat), (∀ j, j ≠ 47 → j ≠ 53 → J j = I j) → (∀ m, m < 12 → J 53 m = pos m) → i + cnt ≤ 12 → cnt < M → ∃ J2, xlp (F_X7_leastCost_b15 xN (nI k)) M (need, cost, nI i, J) = some (res, J2) ∧ ∀ j, j ≠ 47 → j ≠ 53 → J2 j = I j) ∧ (∀ (K : xTI) (M : Nat), K 58 = s → (∀ m, m < q 1 → K 78 m = hvV (pos m)) → cnt < M → ∃ K2, xlp (F_X11_squeeze_b91 xN (nI k)) M (need, cost, K) = some (res, K2) ∧ ∀ j, j ≠ 78 → K2 j = K j) := by
    intro need cost pos cnt g
    refine ⟨cost, fun J i M h1 h2 h3 h4 => ⟨J, ?_, h1⟩, fun K M h1 h2 h3 => ⟨K, ?_, fun _ _ => rfl⟩⟩
    · obtain ⟨M', rfl⟩ : ∃ M', M = M' + 1 := ⟨M - 1, by omega⟩
      rw [xlp_s]
      show F_X7_leastCost_c15 xN (nI k) need cost (nI i) J _ = _
      unfold F_X7_leastCost_c15 F_X7_leastCost_j107
      rw [if_pos g, if_pos g, ite_self]
    · obtain ⟨M', rfl⟩ : ∃ M', M = M' + 1 := ⟨M - 1, by omega⟩
      rw [xlp_s]
      show F_X11_squeeze_c91 xN (nI k) need cost K _ = _
      unfold F_X11_squeeze_c91
      rw [if_pos g]
  have hnone : ∀ (need : Int32) (cost : Int64) (pos : Nat → Int32) (cnt : Nat), ¬ need ≤ 0 → bsN pos (fun m => s (124 + (5 * m + k))) (q 1) = none → ∃ res : Int64, (∀ (J : xTI) (i M : Nat), (∀ j, j ≠ 47 → j ≠ 53 → J j = I j) → (∀ m, m < 12 → J 53 m = pos m) → i + cnt ≤ 12 → cnt < M → ∃ J2, xlp (F_X7_leastCost_b15 xN (nI k)) M (need, cost, nI i, J) = some (res, J2) ∧ ∀ j, j ≠ 47 → j ≠ 53 → J2 j = I j) ∧ (∀ (K : xTI) (M : Nat), K 58 = s → (∀ m, m < q 1 → K 78 m = hvV (pos m)) → cnt < M → ∃ K2, xlp (F_X11_squeeze_b91 xN (nI k)) M (need, cost, K) = some (res, K2) ∧ ∀ j, j ≠ 78 → K2 j = K j) := by
    intro need cost pos cnt g hb
    refine ⟨-1, fun J i M h1 h2 h3 h4 => ⟨J, ?_, h1⟩, fun K M h1 h2 h3 => ⟨K, ?_, fun _ _ => rfl⟩⟩
    · obtain ⟨M', rfl⟩ : ∃ M', M = M' + 1 := ⟨M - 1, by omega⟩
      rw [xlp_s]
      show F_X7_leastCost_c15 xN (nI k) need cost (nI i) J _ = _
      unfold F_X7_leastCost_c15 F_X7_leastCost_j107
      rw [if_neg g, if_neg g, hch J pos h1 h2, hb, Option.bind_some, if_pos (show bI none = -1 from rfl), ite_self]
    · obtain ⟨M', rfl⟩ : ∃ M', M = M' + 1 := ⟨M - 1, by omega⟩
      rw [xlp_s]
      show F_X11_squeeze_c91 xN (nI k) need cost K _ = _
      unfold F_X11_squeeze_c91
      rw [if_neg g, xbn_e, F11_bs hk c5 h1 s1 h2, hb]
  intro cnt
  induction cnt with
  | zero =>
    intro need cost pos hc
    by_cases g : need ≤ 0
    · exact hdone need cost pos 0 g
    · cases hb : bsN pos (fun m => s (124 + (5 * m + k))) (q 1) with
      | none => exact hnone need cost pos 0 g hb
      | some j =>
        exfalso
        have hj := bsN_in hb
        have := cpos_up hj.2 hj.1
        omega
  | succ cnt ih =>
    intro need cost pos hc
    by_cases g : need ≤ 0
    · exact hdone need cost pos (cnt + 1) g
    · cases hb : bsN pos (fun m => s (124 + (5 * m + k))) (q 1) with
      | none => exact hnone need cost pos (cnt + 1) g hb
      | some j =>
        have hj := bsN_in hb
        have hcu := cpos_up hj.2 hj.1
        have hpj : hvV (pos j) = pos j := by unfold hvV; rw [if_neg hj.2]
        obtain ⟨res, r1, r2⟩ := ih (need - (if need ≤ pos j then need else pos j)) (cost + (if need ≤ pos j then need else pos j).toInt64 * (s (124 + (5 * j + k))).toInt64) (up1 pos j 0) (by omega)
        refine ⟨res, fun J i M h1 h2 h3 h4 => ?_, fun K M h1 h2 h3 => ?_⟩
        · obtain ⟨M', rfl⟩ : ∃ M', M = M' + 1 := ⟨M - 1, by omega⟩
          obtain ⟨J2, e1, e2⟩ := r1 (xup J 53 j 0) (i + 1) M' (fun j' z1 z2 => by rw [xup_ne z2]; exact h1 j' z1 z2) (fun m hm => by
            rw [xup_at]
            unfold up1
            by_cases e : m = j
            · rw [if_pos e, if_pos e]
            · rw [if_neg e, if_neg e]; exact h2 m hm) (by omega) (by omega)
          refine ⟨J2, ?_, e2⟩
          rw [xlp_s]
          show F_X7_leastCost_c15 xN (nI k) need cost (nI i) J _ = _
          unfold F_X7_leastCost_c15
          have hmin : (if pos j < need then pos j else need) = (if need ≤ pos j then need else pos j) := by
            by_cases z : need ≤ pos j
            · rw [if_pos z, if_neg (Int32.not_lt.mpr z)]
            · rw [if_neg z, if_pos (Int32.not_le.mp z)]
          rw [if_neg (n12 (by omega)), if_neg g, hch J pos h1 h2, hb, Option.bind_some, show bI (some j) = nI j from rfl, if_neg (nI_ne_m1 (by omega)), xal_n (by omega) (by decide), h2 j (by omega), xbn_e, F3_pl, Option.bind_some, xal_n (by omega) (by decide), h1 10 (by decide) (by decide), (hB.2.1.2.1 (5 * j + k) (by omega)).2, xbn_e, xbn_e, xas_n (by omega) (by decide), xbn_e, nI_1, hmin]
          exact e1
        · obtain ⟨M', rfl⟩ : ∃ M', M = M' + 1 := ⟨M - 1, by omega⟩
          obtain ⟨K2, e1, e2⟩ := r2 (xup K 78 j 0) M' (by rw [xup_ne (by decide)]; exact h1) (fun m hm => by
            rw [xup_at]
            unfold up1
            by_cases e : m = j
            · rw [if_pos e, if_pos e]; rfl
            · rw [if_neg e, if_neg e]; exact h2 m hm) (by omega)
          refine ⟨K2, ?_, fun j' z => by rw [e2 j' z, xup_ne z]⟩
          rw [xlp_s]
          show F_X11_squeeze_c91 xN (nI k) need cost K _ = _
          unfold F_X11_squeeze_c91
          rw [if_neg g, xbn_e, F11_bs hk c5 h1 s1 h2, hb]
          show xlp (F_X11_squeeze_b91 xN (nI k)) M' _ = _
          rw [hpj]
          exact e1
end SQ
