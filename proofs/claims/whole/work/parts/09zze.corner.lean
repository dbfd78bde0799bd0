/-- a man's HOLD and NET, if he is UP -/
def PS (s : Nat → Int32) (q1 k m : Nat) : Int32 := if m < q1 ∧ s (16 + 4 * m) = 1 then s (64 + (5 * m + k)) + NT s m (nI k) (s 0 / 14) else 0
theorem fill53 (I : xTI) : F_J7_fill_53178_53 xN I 0 = some (wr I 53 0 (fun _ => 0) 12) := by
  unfold F_J7_fill_53178_53
  rw [show ((0 : Int32), I) = (fun i => (nI i, wr I 53 0 (fun _ => 0) i)) 0 from rfl]
  refine xlp_for (fun i => (nI i, wr I 53 0 (fun _ => 0) i)) 12 _ (fun i hi k => ?_) (fun k => ?_) xN (by decide)
  · show F_J7_fill_53178_53_c5 xN 0 12 (nI i) (wr I 53 0 (fun _ => 0) i) k = k (nI (i + 1), wr I 53 0 (fun _ => 0) (i + 1))
    unfold F_J7_fill_53178_53_c5
    rw [if_neg (n12 hi), xas_n hi (by decide), xbn_e, nI_1]
    show _ = k (nI (i + 1), xup (wr I 53 0 (fun _ => 0) i) 53 (0 + i) 0)
    rw [Nat.zero_add]
  · show F_J7_fill_53178_53_c5 xN 0 12 (nI 12) (wr I 53 0 (fun _ => 0) 12) k = _
    unfold F_J7_fill_53178_53_c5
    rw [if_pos (by decide)]
theorem F10_up2 {I : xTI} {s : Nat → Int32} {q : Nat → Nat} {n m : Nat} (h1 : BRm I s q) (h2 : IVm s q n) (hq : q 0 ≤ 700) (hq1 : q 1 ≤ 12) (hm : m < q 1) : F_X3_isUp I (nI m) = some (if s (16 + 4 * m) = 1 then 1 else 0) := F10_up (I := mix I s) h1 h2 hq hq1 hm
theorem takePos {I : xTI} {L : xTL} {s : Nat → Int32} {c : Nat → Int64} {q : Nat → Nat} {n : Nat} (hB : BR I L s c q) (hV : IV s c q n) {k : Nat} (hk : k < 5) : ∃ I2, F_X7_takePositions xN I (nI k) = some I2 ∧ (∀ j, j ≠ 47 → j ≠ 53 → I2 j = I j) ∧ ∀ m, m < 12 → I2 53 m = PS s (q 1) k m := by
  have c9 := hV.1.2.1
  have c5 : q 1 ≤ 12 := hV.1.2.2.1
  have s0 : I 1 0 = s 0 := by rw [hV.1.1 0 (by decide)]; exact hB.1.1
  obtain ⟨I2, e1, e2, e3⟩ := nets47 hB.2.2.2.1 hV.2.2.1 c5 (nI k) (s 0 / 14)
  have hac : F_X1_account I = some (s 0 / 14) := by unfold F_X1_account; rw [xbn_e, s0]
  unfold F_X7_takePositions
  rw [hac, Option.bind_some, e1, Option.bind_some, fill53, Option.bind_some]
  suffices hinv : ∃ r, xlp (F_X7_takePositions_b26 xN (nI k)) xN (0, wr I2 53 0 (fun _ => 0) 12) = r ∧ ∃ I3, r = some I3 ∧ (∀ j, j ≠ 47 → j ≠ 53 → I3 j = I j) ∧ ∀ m, m < 12 → I3 53 m = PS s (q 1) k m by
    obtain ⟨r, h1, I3, h2, h3, h4⟩ := hinv
    exact ⟨I3, by rw [h1, h2], h3, h4⟩
  refine xlp_inv (b := F_X7_takePositions_b26 xN (nI k)) (fun i (x : Int32 × xTI) => x.1 = nI i ∧ (∀ j, j ≠ 47 → j ≠ 53 → x.2 j = I j) ∧ (∀ m, m < 12 → x.2 47 m = NT s m (nI k) (s 0 / 14)) ∧ ∀ m, m < 12 → x.2 53 m = if m < i then PS s (q 1) k m else 0) (q 1) (fun r => ∃ I3, r = some I3 ∧ (∀ j, j ≠ 47 → j ≠ 53 → I3 j = I j) ∧ ∀ m, m < 12 → I3 53 m = PS s (q 1) k m) ?_ ?_ xN (by show q 1 < 100000; omega) (0, wr I2 53 0 (fun _ => 0) 12) ⟨rfl, fun j h1 h2 => ?_, fun m hm => ?_, fun m hm => ?_⟩
  · rintro i hi ⟨x, J⟩ ⟨e1', e2', e3', e4'⟩
    have e1' : x = nI i := e1'
    subst e1'
    have e2' : ∀ j, j ≠ 47 → j ≠ 53 → J j = I j := e2'
    have e3' : ∀ m, m < 12 → J 47 m = NT s m (nI k) (s 0 / 14) := e3'
    have e4' : ∀ m, m < 12 → J 53 m = if m < i then PS s (q 1) k m else 0 := e4'
    have hup : F_X3_isUp J (nI i) = some (if s (16 + 4 * i) = 1 then 1 else 0) := by
      refine F10_up2 (n := n) ?_ hV.2.1 c9 c5 hi
      exact hB.2.1.fr c5 (e2' 7 (by decide) (by decide)) (e2' 8 (by decide) (by decide)) (e2' 9 (by decide) (by decide)) (e2' 10 (by decide) (by decide)) (e2' 2 (by decide) (by decide)) (fun _ _ _ => rfl)
    have h3 : J 3 0 = nI (q 1) := by rw [e2' 3 (by decide) (by decide)]; exact hB.1.2.1
    by_cases g : s (16 + 4 * i) = 1
    · have hv : J 9 (5 * i + k) = s (64 + (5 * i + k)) := by rw [e2' 9 (by decide) (by decide)]; exact (hB.2.1.2.1 _ (by omega)).1
      refine ⟨(nI (i + 1), xup J 53 i (PS s (q 1) k i)), fun K => ?_, rfl, fun j h1 h2 => ?_, fun m hm => ?_, fun m hm => ?_⟩
      · show F_X7_takePositions_c26 xN (nI k) (nI i) J K = _
        unfold F_X7_takePositions_c26
        rw [xbn_e, h3, if_neg (nI_ge hi (by omega)), hup, if_pos g, Option.bind_some, if_neg (by decide), F3_pl, Option.bind_some, xal_n (by omega) (by decide), hv, xal_n (by omega) (by decide), e3' i (by omega), xas_n (by omega) (by decide), xbn_e, nI_1]
        unfold PS
        rw [if_pos ⟨hi, g⟩]
      · show xup J 53 i (PS s (q 1) k i) j = _
        rw [xup_ne h2]; exact e2' j h1 h2
      · show xup J 53 i (PS s (q 1) k i) 47 m = _
        rw [xup_ne (by decide)]; exact e3' m hm
      · show xup J 53 i (PS s (q 1) k i) 53 m = _
        rw [xup_at]
        by_cases em : m = i
        · rw [if_pos em, if_pos (by omega), em]
        · rw [if_neg em, e4' m hm]
          by_cases e : m < i
          · rw [if_pos e, if_pos (by omega)]
          · rw [if_neg e, if_neg (by omega)]
    · refine ⟨(nI (i + 1), J), fun K => ?_, rfl, e2', e3', fun m hm => ?_⟩
      · show F_X7_takePositions_c26 xN (nI k) (nI i) J K = _
        unfold F_X7_takePositions_c26
        rw [xbn_e, h3, if_neg (nI_ge hi (by omega)), hup, if_neg g, Option.bind_some, if_pos rfl, xbn_e, nI_1]
      · show J 53 m = _
        rw [e4' m hm]
        by_cases em : m = i
        · rw [if_neg (by omega), if_pos (by omega), em]
          unfold PS
          rw [if_neg (fun e => g e.2)]
        · by_cases e : m < i
          · rw [if_pos e, if_pos (by omega)]
          · rw [if_neg e, if_neg (by omega)]
  · rintro ⟨x, J⟩ ⟨e1', e2', e3', e4'⟩
    have e1' : x = nI (q 1) := e1'
    subst e1'
    have e2' : ∀ j, j ≠ 47 → j ≠ 53 → J j = I j := e2'
    have h3 : J 3 0 = nI (q 1) := by rw [e2' 3 (by decide) (by decide)]; exact hB.1.2.1
    refine ⟨some J, fun K => ?_, J, rfl, e2', fun m hm => ?_⟩
    · show F_X7_takePositions_c26 xN (nI k) (nI (q 1)) J K = _
      unfold F_X7_takePositions_c26
      rw [xbn_e, h3, if_pos (nI_le (Nat.le_refl _) (by omega))]
    · have := e4' m hm
      have : J 53 m = if m < q 1 then PS s (q 1) k m else 0 := this
      rw [this]
      by_cases e : m < q 1
      · rw [if_pos e]
      · rw [if_neg e]; unfold PS; rw [if_neg (fun z => e z.1)]
  · show wr I2 53 0 (fun _ => 0) 12 j = _
    rw [wr_ne h2, e2 j h1]
  · show wr I2 53 0 (fun _ => 0) 12 47 m = _
    rw [wr_ne (by decide)]; exact e3 m hm
  · show wr I2 53 0 (fun _ => 0) 12 53 m = _
    have := wr_in (I := I2) (k := 53) (base := 0) (w := fun _ => (0 : Int32)) (t := m) 12 hm
    rw [Nat.zero_add] at this
    rw [this, if_neg (Nat.not_lt_zero _)]
theorem PS_bd {s : Nat → Int32} {c : Nat → Int64} {q : Nat → Nat} {n : Nat} (hV : IV s c q n) (hn : n ≤ 512) {k m : Nat} (hk : k < 5) (hm : m < 12) : -5940 ≤ (PS s (q 1) k m).toInt ∧ (PS s (q 1) k m).toInt ≤ 102500000 := by
  unfold PS
  split
  · obtain ⟨j, hj, e⟩ := (hV.2.1.2.2.1 (5 * m + k) (by omega)).1
    have := NT_bd hV.2.2.1 m (nI k) (s 0 / 14)
    have hj2 : j ≤ 200000 * 512 := Nat.le_trans hj (Nat.mul_le_mul_left _ hn)
    rw [Int32.toInt_add, e, nI_toInt (by omega), Int.bmod_eq_of_le (by omega) (by omega)]
    omega
  · decide
/-- what a man needs, what he has -/
def ndV (v : Int32) : Int32 := if 0 ≤ v then 0 else -v
def hvV (v : Int32) : Int32 := if v ≤ 0 then 0 else v
def gSum (f : Int32 → Int32) (p : Nat → Int32) (man : Nat) (i : Nat) (x : Int32) : Int32 := if i = man then x else x + f (p i)
theorem ndV_eq {v : Int32} (h : -5940 ≤ v.toInt) : (if -v < 0 then 0 else -v) = ndV v := by
  unfold ndV
  have h0 : (0 : Int32).toInt = 0 := by decide
  have hb := Int32.toInt_lt v
  have hneg : (-v).toInt = -v.toInt := by
    rw [Int32.toInt_neg, Int.bmod_eq_of_le (by omega) (by omega)]
  by_cases g : 0 ≤ v
  · rw [if_pos g]
    have g' := Int32.le_iff_toInt_le.mp g
    rw [h0] at g'
    by_cases g2 : -v < 0
    · rw [if_pos g2]
    · rw [if_neg g2]
      have : ¬ (-v).toInt < 0 := fun e => g2 (Int32.lt_iff_toInt_lt.mpr (by rw [h0]; exact e))
      apply Int32.toInt_inj.mp
      rw [h0]; omega
  · rw [if_neg g, if_neg]
    intro g2
    have g2' := Int32.lt_iff_toInt_lt.mp g2
    rw [h0, hneg] at g2'
    exact g (Int32.le_iff_toInt_le.mpr (by rw [h0]; omega))
theorem hvV_eq (v : Int32) : (if v < 0 then 0 else v) = hvV v := by
  unfold hvV
  by_cases g : v < 0
  · rw [if_pos g, if_pos (Int32.le_of_lt g)]
  · rw [if_neg g]
    by_cases g2 : v ≤ 0
    · rw [if_pos g2]; exact Int32.le_antisymm g2 (Int32.not_lt.mp g)
    · rw [if_neg g2]
theorem fo_tail {α : Type} {g : Nat → α → α} {a : α} {m : Nat} : ∀ d, (∀ i, m ≤ i → i < m + d → ∀ x, g i x = x) → fo g a (m + d) = fo g a m
  | 0, _ => rfl
  | d + 1, h => by
    show g (m + d) (fo g a (m + d)) = fo g a m
    rw [h (m + d) (by omega) (by omega), fo_tail d (fun i h1 h2 => h i h1 (by omega))]
theorem sum_bd {f : Int32 → Int32} {p : Nat → Int32} {man : Nat} {C : Int} (hC : 0 ≤ C) (hC2 : C ≤ 150000000) (hp : ∀ i, i < 12 → 0 ≤ (f (p i)).toInt ∧ (f (p i)).toInt ≤ C) : ∀ i : Nat, i ≤ 12 → 0 ≤ (fo (gSum f p man) 0 i).toInt ∧ (fo (gSum f p man) 0 i).toInt ≤ C * i
  | 0, _ => by show 0 ≤ (0 : Int32).toInt ∧ (0 : Int32).toInt ≤ C * ((0 : Nat) : Int); constructor <;> simp
  | i + 1, h => by
    have ih := sum_bd (man := man) hC hC2 hp i (by omega)
    have hpi := hp i (by omega)
    show 0 ≤ (gSum f p man i (fo (gSum f p man) 0 i)).toInt ∧ (gSum f p man i (fo (gSum f p man) 0 i)).toInt ≤ C * ((i + 1 : Nat) : Int)
    have hci : C * ((i + 1 : Nat) : Int) = C * (i : Int) + C := by rw [Int.natCast_add, Int.mul_add]; simp
    have hc12 : C * (i : Int) ≤ 150000000 * 12 := Int.mul_le_mul hC2 (by omega) (by omega) (by decide)
    rw [hci]
    generalize fo (gSum f p man) 0 i = x at ih ⊢
    unfold gSum
    split
    · omega
    · rw [Int32.toInt_add, Int.bmod_eq_of_le (by omega) (by omega)]
      omega
