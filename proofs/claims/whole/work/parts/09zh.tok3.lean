/-! WORDS. The class compares letters, the reference numbers to base 27. -/
def hsh (f : Nat → Nat) : Nat → Nat
  | 0 => 0
  | i + 1 => 27 * hsh f i + f i
theorem hsh_inj {f g : Nat → Nat} : ∀ i j, (∀ a, a < i → 1 ≤ f a ∧ f a ≤ 26) → (∀ a, a < j → 1 ≤ g a ∧ g a ≤ 26) → hsh f i = hsh g j → i = j ∧ ∀ a, a < i → f a = g a
  | 0, 0, _, _, _ => ⟨rfl, fun a h => by omega⟩
  | 0, j + 1, _, hg, h => by
    have := hg j (by omega)
    have h' : (0 : Nat) = 27 * hsh g j + g j := h
    omega
  | i + 1, 0, hf, _, h => by
    have := hf i (by omega)
    have h' : 27 * hsh f i + f i = (0 : Nat) := h
    omega
  | i + 1, j + 1, hf, hg, h => by
    have a1 := hf i (by omega)
    have a2 := hg j (by omega)
    have h' : 27 * hsh f i + f i = 27 * hsh g j + g j := h
    obtain ⟨e1, e2⟩ := hsh_inj i j (fun a ha => hf a (by omega)) (fun a ha => hg a (by omega)) (by omega)
    subst e1
    refine ⟨rfl, fun a ha => ?_⟩
    by_cases e : a = i
    · subst e; omega
    · exact e2 a (by omega)
theorem hsh_congr {f g : Nat → Nat} : ∀ i, (∀ a, a < i → f a = g a) → hsh f i = hsh g i
  | 0, _ => rfl
  | i + 1, h => by
    show 27 * hsh f i + f i = 27 * hsh g i + g i
    rw [hsh_congr i (fun a ha => h a (by omega)), h i (by omega)]
theorem hsh_lt {f : Nat → Nat} : ∀ n, (∀ i, i < n → f i ≤ 26) → hsh f n < 27 ^ n
  | 0, _ => Nat.zero_lt_one
  | n + 1, h => by
    have ih := hsh_lt n (fun i hi => h i (by omega))
    have := h n (by omega)
    show 27 * hsh f n + f n < 27 ^ (n + 1)
    rw [Nat.pow_succ]
    omega
/-- the text of the words: letters, where each word begins, how long it is, its number in the reference -/
def cwN (i : Nat) : Nat := ((xsb.getD 0 []).getD i 0).toNatClampNeg
def wOff (w : Nat) : Nat := [0, 5, 10, 15, 18, 23, 27, 33, 38, 42, 48, 52, 59, 65, 72, 78, 84, 87, 90, 94, 98].getD w 98
def wLen (w : Nat) : Nat := [4, 4, 4, 2, 4, 3, 5, 4, 3, 5, 3, 6, 5, 6, 5, 5, 2, 2, 3, 3].getD w 0
def wNum (w : Nat) : Nat := [355568, 168984, 237470, 257, 149125, 3181, 10502066, 256721, 2968, 8740067, 9626, 276913720, 8863997, 275531535, 1494603, 6941854, 249, 423, 1111, 10631].getD w 0
theorem cw_eq : ∀ i, i < 98 → (xsb.getD 0 []).getD i 0 = nI (cwN i) := by decide +kernel
theorem cw_sp : ∀ w, w < 20 → cwN (wOff w + wLen w) = 32 ∧ wOff (w + 1) = wOff w + wLen w + 1 ∧ wOff w + wLen w < 98 ∧ 1 ≤ wLen w ∧ wLen w ≤ 6 := by decide +kernel
theorem cw_le : ∀ w, w < 20 → ∀ i, i < wLen w → 97 ≤ cwN (wOff w + i) ∧ cwN (wOff w + i) ≤ 122 := by
  have : ∀ w, w < 20 → ∀ i, i < 6 → i < wLen w → 97 ≤ cwN (wOff w + i) ∧ cwN (wOff w + i) ≤ 122 := by decide +kernel
  intro w hw i hi
  exact this w hw i (Nat.lt_of_lt_of_le hi (cw_sp w hw).2.2.2.2) hi
theorem wNum_eq : ∀ w, w < 20 → hsh (fun i => cwN (wOff w + i) - 96) (wLen w) = wNum w := by decide +kernel
theorem xch_n {R : Type} {i : Nat} {K : Int32 → Option R} (h : i < 98) : xch (nI i) K = K (nI (cwN i)) := by
  unfold xch
  rw [nI_clamp (by omega), if_neg, cw_eq i h]
  rintro (g | g)
  · exact nI_pos (by omega) g
  · omega
/-- the worth of a word from m to e -/
def wth (tb : Nat → Nat) (m e : Nat) : Int64 := if e - m ≤ 7 then Int64.ofNat (hsh (fun i => tb (m + i) - 96) (e - m)) else -1
/-- are the first i letters those of word w -/
def fit (tb : Nat → Nat) (m e o : Nat) : Nat → Int32
  | 0 => 1
  | i + 1 => if fit tb m e o i = 0 then 0 else if m + i < e ∧ tb (m + i) = cwN (o + i) then 1 else 0
theorem fit_01 (tb : Nat → Nat) (m e o : Nat) : ∀ i, (fit tb m e o i = 1 ∧ ∀ j, j < i → m + j < e ∧ tb (m + j) = cwN (o + j)) ∨ (fit tb m e o i = 0 ∧ ∃ j, j < i ∧ ¬ (m + j < e ∧ tb (m + j) = cwN (o + j)))
  | 0 => Or.inl ⟨rfl, fun j h => by omega⟩
  | i + 1 => by
    show ((if fit tb m e o i = 0 then 0 else if m + i < e ∧ tb (m + i) = cwN (o + i) then 1 else 0) = (1 : Int32) ∧ _) ∨ ((if fit tb m e o i = 0 then 0 else if m + i < e ∧ tb (m + i) = cwN (o + i) then 1 else 0) = (0 : Int32) ∧ _)
    rcases fit_01 tb m e o i with ⟨h1, h2⟩ | ⟨h1, j, hj, h2⟩
    · rw [h1, if_neg (by decide)]
      by_cases g : m + i < e ∧ tb (m + i) = cwN (o + i)
      · rw [if_pos g]
        refine Or.inl ⟨rfl, fun j hj => ?_⟩
        by_cases e1 : j = i
        · subst e1; exact g
        · exact h2 j (by omega)
      · rw [if_neg g]
        exact Or.inr ⟨rfl, i, by omega, g⟩
    · rw [if_pos h1]
      exact Or.inr ⟨rfl, j, by omega, h2⟩
theorem wth_iff {tb : Nat → Nat} {m e w : Nat} (hw : w < 20) (hl : ∀ i, m ≤ i → i < e → 97 ≤ tb i ∧ tb i ≤ 122) (hme : m ≤ e) : wth tb m e = Int64.ofNat (wNum w) ↔ (fit tb m e (wOff w) (wLen w) = 1 ∧ m + wLen w = e) := by
  obtain ⟨-, -, -, w1, w6⟩ := cw_sp w hw
  have hlt : wNum w < 2 ^ 63 := by
    have : ∀ w, w < 20 → wNum w < 2 ^ 63 := by decide
    exact this w hw
  have hd : ∀ a, a < e - m → 1 ≤ tb (m + a) - 96 ∧ tb (m + a) - 96 ≤ 26 := fun a ha => by
    have := hl (m + a) (by omega) (by omega); omega
  have hg : ∀ a, a < wLen w → 1 ≤ cwN (wOff w + a) - 96 ∧ cwN (wOff w + a) - 96 ≤ 26 := fun a ha => by
    have := cw_le w hw a ha; omega
  constructor
  · intro h
    unfold wth at h
    by_cases g : e - m ≤ 7
    · rw [if_pos g] at h
      have hb := hsh_lt (f := fun i => tb (m + i) - 96) (e - m) (fun i hi => (hd i hi).2)
      have hb2 : 27 ^ (e - m) ≤ 27 ^ 7 := Nat.pow_le_pow_right (by decide) g
      have h2 := congrArg Int64.toInt h
      rw [Int64.toInt_ofNat_of_lt (by have : (27 : Nat) ^ 7 < 2 ^ 63 := by decide
                                      omega), Int64.toInt_ofNat_of_lt hlt] at h2
      have h3 : hsh (fun i => tb (m + i) - 96) (e - m) = hsh (fun i => cwN (wOff w + i) - 96) (wLen w) := by rw [wNum_eq w hw]; omega
      obtain ⟨e1, e2⟩ := hsh_inj _ _ hd hg h3
      refine ⟨?_, by omega⟩
      rcases fit_01 tb m e (wOff w) (wLen w) with ⟨f1, -⟩ | ⟨-, j, hj, f2⟩
      · exact f1
      · exfalso
        apply f2
        have := e2 j (by omega)
        have a1 := hl (m + j) (by omega) (by omega)
        have a2 := cw_le w hw j hj
        have this' : tb (m + j) - 96 = cwN (wOff w + j) - 96 := this
        omega
    · rw [if_neg g] at h
      have h2 := congrArg Int64.toInt h
      rw [Int64.toInt_ofNat_of_lt hlt] at h2
      have : (-1 : Int64).toInt = -1 := by decide
      rw [this] at h2
      omega
  · rintro ⟨h1, h2⟩
    unfold wth
    rw [if_pos (by omega), ← wNum_eq w hw, show e - m = wLen w by omega]
    congr 1
    apply hsh_congr
    intro a ha
    rcases fit_01 tb m e (wOff w) (wLen w) with ⟨-, f1⟩ | ⟨f1, -⟩
    · have := (f1 a ha).2
      show tb (m + a) - 96 = cwN (wOff w + a) - 96
      omega
    · rw [f1] at h1; exact absurd h1 (by decide)
/-- the class at one word -/
theorem wd_seg {tb : Nat → Nat} {sz m e w : Nat} {I : xTI} (h : CT tb sz I) (hsz : sz ≤ 120) (hes : e ≤ sz) (hb : ∀ i, i < sz → tb i ≤ 255) (hme : m ≤ e) (h2 : I 29 2 = nI m) (h3 : I 29 3 = nI e) (hw : w < 20) (N : Nat) : xlp (F_X9_wordAtHand_b12 xN I) (N + 1 + wLen w) (nI w, nI m, 1, nI (wOff w)) = if fit tb m e (wOff w) (wLen w) = 1 ∧ m + wLen w = e then some (nI w) else xlp (F_X9_wordAtHand_b12 xN I) N (nI (w + 1), nI m, 1, nI (wOff (w + 1))) := by
  obtain ⟨c1, c2, c3, c4, c5⟩ := cw_sp w hw
  rw [show (nI w, nI m, (1 : Int32), nI (wOff w)) = (fun i => (nI w, nI (m + i), fit tb m e (wOff w) i, nI (wOff w + i))) 0 from rfl]
  rw [xlp_st (fun i => (nI w, nI (m + i), fit tb m e (wOff w) i, nI (wOff w + i))) (wLen w) ?_ (N + 1), xlp_s]
  · show F_X9_wordAtHand_c12 xN I (nI w) (nI (m + wLen w)) (fit tb m e (wOff w) (wLen w)) (nI (wOff w + wLen w)) (xlp (F_X9_wordAtHand_b12 xN I) N) = _
    unfold F_X9_wordAtHand_c12
    have hj : F_X9_wordAtHand_j93 (xlp (F_X9_wordAtHand_b12 xN I) N) xN I (nI w) (nI (wOff w + wLen w)) = xlp (F_X9_wordAtHand_b12 xN I) N (nI (w + 1), nI m, 1, nI (wOff (w + 1))) := by
      unfold F_X9_wordAtHand_j93
      rw [xbn_e, xbn_e, xbn_e, h2, nI_1, nI_1, c2]
    rw [if_neg (show ¬ (98 : Int32) ≤ nI (wOff w + wLen w) from nI_ge (b := 98) c3 (by decide)), xch_n c3, c1, if_pos (show nI 32 = 32 from rfl), hj]
    rcases fit_01 tb m e (wOff w) (wLen w) with ⟨f1, -⟩ | ⟨f1, -⟩
    · rw [f1, if_neg (by decide), xbn_e, h3]
      by_cases g : m + wLen w = e
      · rw [if_pos ((nI_eq (by omega) (by omega)).mpr g), if_pos ⟨rfl, g⟩]
      · rw [if_neg (fun x => g ((nI_eq (by omega) (by omega)).mp x)), if_neg (fun x => g x.2)]
    · rw [f1, if_pos rfl, if_neg (fun x => absurd x.1 (by decide))]
  · intro i hi k
    have hc := cw_le w hw i hi
    show F_X9_wordAtHand_c12 xN I (nI w) (nI (m + i)) (fit tb m e (wOff w) i) (nI (wOff w + i)) k = k (nI w, nI (m + (i + 1)), (if fit tb m e (wOff w) i = 0 then 0 else if m + i < e ∧ tb (m + i) = cwN (wOff w + i) then 1 else 0), nI (wOff w + (i + 1)))
    unfold F_X9_wordAtHand_c12
    rw [if_neg (show ¬ (98 : Int32) ≤ nI (wOff w + i) from nI_ge (b := 98) (by omega) (by decide)), xch_n (by omega), if_neg (show ¬ nI (cwN (wOff w + i)) = 32 from fun g => by have := (nI_lq (c := 32) rfl (by omega) (by decide)).mp g; omega)]
    simp only [xbn_e, nI_1]
    rcases fit_01 tb m e (wOff w) i with ⟨f1, -⟩ | ⟨f1, -⟩
    · rw [f1, h3, if_neg (show ¬ (1 : Int32) = 0 by decide), if_neg (show ¬ (1 : Int32) = 0 by decide)]
      by_cases g : m + i < e
      · rw [if_neg (nI_ge g (by omega)), if_neg (n120 (by omega)), xal_n (by omega) (by decide), h.2 _ (by omega)]
        have hbi := hb (m + i) (by omega)
        by_cases g2 : tb (m + i) = cwN (wOff w + i)
        · rw [if_pos ((nI_eq (by omega) (by omega)).mpr g2), if_pos ⟨g, g2⟩]
          rfl
        · rw [if_neg (fun x => g2 ((nI_eq (by omega) (by omega)).mp x)), if_neg (fun x => g2 x.2)]
          rfl
      · rw [if_pos (nI_le (by omega) (by omega)), if_neg (fun x => g x.1)]
        rfl
    · rw [f1, if_pos rfl, if_pos rfl]
      rfl
theorem wd_all {tb : Nat → Nat} {sz m e : Nat} {I : xTI} (h : CT tb sz I) (hsz : sz ≤ 120) (hes : e ≤ sz) (hb : ∀ i, i < sz → tb i ≤ 255) (hme : m ≤ e) (h2 : I 29 2 = nI m) (h3 : I 29 3 = nI e) (hl : ∀ i, m ≤ i → i < e → 97 ≤ tb i ∧ tb i ≤ 122) : ∀ d w, w + d = 20 → (∀ v, v < w → wth tb m e ≠ Int64.ofNat (wNum v)) → (∃ v, v < 20 ∧ wth tb m e = Int64.ofNat (wNum v) ∧ xlp (F_X9_wordAtHand_b12 xN I) (100000 - wOff w) (nI w, nI m, 1, nI (wOff w)) = some (nI v)) ∨ ((∀ v, v < 20 → wth tb m e ≠ Int64.ofNat (wNum v)) ∧ xlp (F_X9_wordAtHand_b12 xN I) (100000 - wOff w) (nI w, nI m, 1, nI (wOff w)) = some (-1))
  | 0, w, hd, hv => by
    have : w = 20 := by omega
    subst this
    refine Or.inr ⟨hv, ?_⟩
    show xlp (F_X9_wordAtHand_b12 xN I) (99901 + 1) (nI 20, nI m, 1, nI 98) = _
    rw [xlp_s]
    show F_X9_wordAtHand_c12 xN I (nI 20) (nI m) 1 (nI 98) _ = _
    unfold F_X9_wordAtHand_c12
    rw [if_pos (by decide)]
  | d + 1, w, hd, hv => by
    have hw : w < 20 := by omega
    obtain ⟨c1, c2, c3, c4, c5⟩ := cw_sp w hw
    have hN : 100000 - wOff w = (100000 - wOff (w + 1)) + 1 + wLen w := by omega
    rw [hN, wd_seg h hsz hes hb hme h2 h3 hw]
    have hi := wth_iff (tb := tb) (m := m) (e := e) hw hl hme
    by_cases g : wth tb m e = Int64.ofNat (wNum w)
    · rw [if_pos (hi.mp g)]
      exact Or.inl ⟨w, hw, g, rfl⟩
    · rw [if_neg (fun x => g (hi.mpr x))]
      refine wd_all h hsz hes hb hme h2 h3 hl d (w + 1) (by omega) (fun v hv2 => ?_)
      by_cases e1 : v = w
      · subst e1; exact g
      · exact hv v (by omega)
theorem wd_end {tb : Nat → Nat} {sz m e : Nat} {I : xTI} (h : CT tb sz I) (hsz : sz ≤ 120) (hes : e ≤ sz) (hb : ∀ i, i < sz → tb i ≤ 255) (hme : m ≤ e) (h2 : I 29 2 = nI m) (h3 : I 29 3 = nI e) (hl : ∀ i, m ≤ i → i < e → 97 ≤ tb i ∧ tb i ≤ 122) : (∃ v, v < 20 ∧ wth tb m e = Int64.ofNat (wNum v) ∧ F_X9_wordAtHand xN I = some (nI v)) ∨ ((∀ v, v < 20 → wth tb m e ≠ Int64.ofNat (wNum v)) ∧ F_X9_wordAtHand xN I = some (-1)) := by
  have := wd_all h hsz hes hb hme h2 h3 hl 20 0 rfl (fun v hv => by omega)
  unfold F_X9_wordAtHand
  rw [xbn_e, h2]
  exact this
