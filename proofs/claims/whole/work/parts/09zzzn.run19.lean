section
/-! run: settling. Who owes whom: the class's sums have a sign, the reference's have none -/
def up2 (f : Nat → Nat → Nat) (a b v : Nat) : Nat → Nat → Nat := fun i j => if i = a ∧ j = b then v else f i j
def rfT (rf : Nat → Nat → Nat) (mk : Nat → Nat) : Nat := SF (fun a => SF (rf a) 12 + mk a) 12
theorem rfT_set {rf : Nat → Nat → Nat} {mk : Nat → Nat} {a b v : Nat} (ha : a < 12) (hb : b < 12) : rfT (up2 rf a b v) mk + rf a b = rfT rf mk + v := by
  have o := SF_up (f := fun a => SF (rf a) 12 + mk a) (f2 := fun i => SF (up2 rf a b v i) 12 + mk i) (j := a) 12 (fun i _ h => by
    show SF (up2 rf a b v i) 12 + mk i = SF (rf i) 12 + mk i
    congr 1
    refine SF_congr 12 (fun j _ => ?_)
    unfold up2; rw [if_neg (fun z => h z.1)])
  have i := SF_up (f := rf a) (f2 := up2 rf a b v a) (j := b) 12 (fun j _ h => by unfold up2; rw [if_neg (fun z => h z.2)])
  rw [if_pos ha, if_pos ha] at o
  rw [if_pos hb, if_pos hb, show up2 rf a b v a b = v by unfold up2; rw [if_pos ⟨rfl, rfl⟩]] at i
  unfold rfT
  omega
theorem rfT_le {rf : Nat → Nat → Nat} {mk : Nat → Nat} {a b : Nat} (ha : a < 12) (hb : b < 12) : rf a b ≤ rfT rf mk := by
  have h1 := SF_le (f := fun a => SF (rf a) 12 + mk a) 12 ha
  have h2 := SF_le (f := rf a) 12 hb
  unfold rfT
  omega
theorem rfT_mk {rf : Nat → Nat → Nat} {mk : Nat → Nat} {a v : Nat} (ha : a < 12) : rfT rf (upN mk a v) + mk a = rfT rf mk + v := by
  have o := SF_up (f := fun a => SF (rf a) 12 + mk a) (f2 := fun i => SF (rf i) 12 + upN mk a v i) (j := a) 12 (fun i _ h => by
    show SF (rf i) 12 + upN mk a v i = SF (rf i) 12 + mk i
    unfold upN; rw [if_neg h])
  rw [if_pos ha, if_pos ha] at o
  rw [show upN mk a v a = v by unfold upN; rw [if_pos rfl]] at o
  unfold rfT
  omega
theorem rfT_mkle {rf : Nat → Nat → Nat} {mk : Nat → Nat} {a : Nat} (ha : a < 12) : mk a ≤ rfT rf mk := by
  have h1 := SF_le (f := fun a => SF (rf a) 12 + mk a) 12 ha
  unfold rfT
  omega
/-- a man who is there, and up -/
def manA (s : Nat → Int32) (q : Nat → Nat) (a : Nat) : Prop := a < q 1 ∧ isUpP s a
def OWs (L M : xTL) (s : Nat → Int32) (q : Nat → Nat) (ex rf : Nat → Nat → Nat) (mk : Nat → Nat) (B : Nat) : Prop := (∀ a, a < 12 → L 42 (13 * a + a) = 0 ∧ L 42 (13 * a + 12) = lN (mk a) ∧ M 71 a = lN (mk a)) ∧ (∀ a b, a < 12 → b < 12 → M 70 (12 * a + b) = lN (rf a b) ∧ L 42 (13 * a + b) - L 42 (13 * b + a) = (lN (rf a b) - lN (ex a b)) - (lN (rf b a) - lN (ex b a))) ∧ (∀ a b, a < 12 → b < 12 → (a = b ∨ ¬ manA s q a ∨ ¬ manA s q b) → rf a b = 0) ∧ (∀ a, a < 12 → ¬ manA s q a → mk a = 0) ∧ rfT rf mk ≤ B
theorem OWs.le {L M : xTL} {s : Nat → Int32} {q : Nat → Nat} {ex rf : Nat → Nat → Nat} {mk : Nat → Nat} {B B2 : Nat} (h : OWs L M s q ex rf mk B) (hb : B ≤ B2) : OWs L M s q ex rf mk B2 := ⟨h.1, h.2.1, h.2.2.1, h.2.2.2.1, Nat.le_trans h.2.2.2.2 hb⟩
theorem ds1 {p q r t x : Int64} {e f : Int64} (h : p - q = (r - e) - (t - f)) : (p + x) - q = ((r + x) - e) - (t - f) := by grind
theorem ds2 {p q r t x : Int64} {e f : Int64} (h : q - p = (t - f) - (r - e)) : q - (p + x) = (t - f) - ((r + x) - e) := by grind
theorem ds3 {p q r t x : Int64} {e f : Int64} (h : p - q = (r - e) - (t - f)) : (p + -x) - q = (r - e) - ((t + x) - f) := by grind
theorem ds4 {p q r t x : Int64} {e f : Int64} (h : q - p = (t - f) - (r - e)) : q - (p + -x) = ((t + x) - f) - (r - e) := by grind
theorem ds5 (a x : Int64) : a - -x = a + x := by grind
theorem owe_step {L M : xTL} {s : Nat → Int32} {q : Nat → Nat} {ex rf : Nat → Nat → Nat} {mk : Nat → Nat} {B a b X : Nat} {x : Int64} (h : OWs L M s q ex rf mk B) (hq : q 1 ≤ 12) (ha : manA s q a) (hb : manA s q b) (hx : x = lN X ∨ (x = -lN X ∧ 0 < X)) (hX : X < 2 ^ 40) : ∃ L2 M2 rf2, F_X6_owe L (nI a) (nI b) x = some L2 ∧ F_X11_owing M (nI a) (nI b) x = some M2 ∧ OWs L2 M2 s q ex rf2 mk (B + X) ∧ (∀ k, k ≠ 42 → L2 k = L k) ∧ (∀ k, k ≠ 70 → M2 k = M k) := by
  have ha12 : a < 12 := by have := ha.1; omega
  have hb12 : b < 12 := by have := hb.1; omega
  unfold F_X6_owe F_X11_owing
  by_cases e : a = b
  · exact ⟨L, M, rf, if_pos (by rw [e]), if_pos (by rw [e]), h.le (by omega), fun _ _ => rfl, fun _ _ => rfl⟩
  · have en : ¬ nI a = nI b := fun z => e ((nI_eq (by omega) (by omega)).mp z)
    obtain ⟨h1, h2, h3, h4, h5⟩ := h
    have hL : xal L 42 156 (nI a * 13 + nI b) (fun v1 => xas L 42 156 (nI a * 13 + nI b) (v1 + x) (fun L2 => some L2)) = some (xup L 42 (13 * a + b) (L 42 (13 * a + b) + x)) := by
      have e1 : nI a * 13 + nI b = nI (13 * a + b) := by rw [show (13 : Int32) = nI 13 from rfl, nI_mul, nI_add, Nat.mul_comm]
      rw [e1, xal_n (by omega) (by decide), xas_n (by omega) (by decide)]
    rw [if_neg en, if_neg en, hL]
    have hl : ∀ j, xup L 42 (13 * a + b) (L 42 (13 * a + b) + x) 42 j = if j = 13 * a + b then L 42 (13 * a + b) + x else L 42 j := fun j => xup_at
    rcases hx with hx | ⟨hx, hX0⟩
    · have hneg : ¬ lg_cmp x 0 < 0 := by
        rw [lg_cmp_lt, hx, show (0 : Int64) = lN 0 from rfl, pk_lLT (by omega) (by decide)]; omega
      have hM : xal M 70 144 (12 * nI a + nI b) (fun v3 => xas M 70 144 (12 * nI a + nI b) (v3 + x) (fun L4 => some L4)) = some (xup M 70 (12 * a + b) (lN (rf a b + X))) := by
        have e1 : 12 * nI a + nI b = nI (12 * a + b) := by rw [show (12 : Int32) = nI 12 from rfl, nI_mul, nI_add]
        rw [e1, xal_n (by omega) (by decide), xas_n (by omega) (by decide), (h2 a b ha12 hb12).1, hx, lN_add]
      rw [if_neg hneg, hM]
      have hm : ∀ j, xup M 70 (12 * a + b) (lN (rf a b + X)) 70 j = if j = 12 * a + b then lN (rf a b + X) else M 70 j := fun j => xup_at
      refine ⟨_, _, up2 rf a b (rf a b + X), rfl, rfl, ⟨fun a' ha' => ⟨?_, ?_, ?_⟩, fun a' b' ha' hb' => ⟨?_, ?_⟩, fun a' b' ha' hb' z => ?_, h4, ?_⟩, fun k hk => xup_ne hk, fun k hk => xup_ne hk⟩
      · rw [hl, if_neg (by omega)]; exact (h1 a' ha').1
      · rw [hl, if_neg (by omega)]; exact (h1 a' ha').2.1
      · rw [xup_ne (by decide)]; exact (h1 a' ha').2.2
      · rw [hm]; unfold up2
        by_cases z : a' = a ∧ b' = b
        · rw [if_pos z, if_pos (by omega)]
        · rw [if_neg z, if_neg (by omega)]; exact (h2 a' b' ha' hb').1
      · rw [hl, hl]; unfold up2
        by_cases z : a' = a ∧ b' = b
        · obtain ⟨rfl, rfl⟩ := z
          rw [if_pos rfl, if_neg (by omega), if_pos ⟨rfl, rfl⟩, if_neg (by omega), ← lN_add, ← hx]
          exact ds1 (h2 a' b' ha' hb').2
        · by_cases z2 : b' = a ∧ a' = b
          · obtain ⟨rfl, rfl⟩ := z2
            rw [if_neg (by omega), if_pos rfl, if_neg (by omega), if_pos ⟨rfl, rfl⟩, ← lN_add, ← hx]
            exact ds2 (h2 a' b' ha' hb').2
          · rw [if_neg (by omega), if_neg (by omega), if_neg z, if_neg (fun w => z2 w)]
            exact (h2 a' b' ha' hb').2
      · unfold up2
        rw [if_neg]; exact h3 a' b' ha' hb' z
        rintro ⟨rfl, rfl⟩
        rcases z with z | z | z
        · exact e z
        · exact z ha
        · exact z hb
      · have := rfT_set (rf := rf) (mk := mk) (v := rf a b + X) ha12 hb12
        omega
    · have hneg : lg_cmp x 0 < 0 := by
        rw [lg_cmp_lt, hx, Int64.lt_iff_toInt_lt, Int64.toInt_neg, pk_lT (by omega), Int.bmod_eq_of_le (by omega) (by omega)]
        have : (0 : Int64).toInt = 0 := by decide
        omega
      have hM : xal M 70 144 (12 * nI b + nI a) (fun v3 => xas M 70 144 (12 * nI b + nI a) (v3 - x) (fun L4 => some L4)) = some (xup M 70 (12 * b + a) (lN (rf b a + X))) := by
        have e1 : 12 * nI b + nI a = nI (12 * b + a) := by rw [show (12 : Int32) = nI 12 from rfl, nI_mul, nI_add]
        rw [e1, xal_n (by omega) (by decide), xas_n (by omega) (by decide), (h2 b a hb12 ha12).1, hx, ds5, lN_add]
      rw [if_pos hneg, hM]
      have hm : ∀ j, xup M 70 (12 * b + a) (lN (rf b a + X)) 70 j = if j = 12 * b + a then lN (rf b a + X) else M 70 j := fun j => xup_at
      refine ⟨_, _, up2 rf b a (rf b a + X), rfl, rfl, ⟨fun a' ha' => ⟨?_, ?_, ?_⟩, fun a' b' ha' hb' => ⟨?_, ?_⟩, fun a' b' ha' hb' z => ?_, h4, ?_⟩, fun k hk => xup_ne hk, fun k hk => xup_ne hk⟩
      · rw [hl, if_neg (by omega)]; exact (h1 a' ha').1
      · rw [hl, if_neg (by omega)]; exact (h1 a' ha').2.1
      · rw [xup_ne (by decide)]; exact (h1 a' ha').2.2
      · rw [hm]; unfold up2
        by_cases z : a' = b ∧ b' = a
        · rw [if_pos z, if_pos (by omega)]
        · rw [if_neg z, if_neg (by omega)]; exact (h2 a' b' ha' hb').1
      · rw [hl, hl]; unfold up2
        by_cases z : a' = a ∧ b' = b
        · obtain ⟨rfl, rfl⟩ := z
          rw [if_pos rfl, if_neg (by omega), if_neg (by omega), if_pos ⟨rfl, rfl⟩, ← lN_add, hx]
          exact ds3 (h2 a' b' ha' hb').2
        · by_cases z2 : b' = a ∧ a' = b
          · obtain ⟨rfl, rfl⟩ := z2
            rw [if_neg (by omega), if_pos rfl, if_pos ⟨rfl, rfl⟩, if_neg (by omega), ← lN_add, hx]
            exact ds4 (h2 a' b' ha' hb').2
          · rw [if_neg (by omega), if_neg (by omega), if_neg (by omega), if_neg (by omega)]
            exact (h2 a' b' ha' hb').2
      · unfold up2
        rw [if_neg]; exact h3 a' b' ha' hb' z
        rintro ⟨rfl, rfl⟩
        rcases z with z | z | z
        · exact e z.symm
        · exact z hb
        · exact z ha
      · have := rfT_set (rf := rf) (mk := mk) (v := rf b a + X) hb12 ha12
        omega
/-- to the market -/
theorem owe_mk {L M : xTL} {s : Nat → Int32} {q : Nat → Nat} {ex rf : Nat → Nat → Nat} {mk : Nat → Nat} {B a X : Nat} (h : OWs L M s q ex rf mk B) (hq : q 1 ≤ 12) (ha : manA s q a) : F_X6_owe L (nI a) 12 (lN X) = some (xup L 42 (13 * a + 12) (lN (mk a + X))) ∧ OWs (xup L 42 (13 * a + 12) (lN (mk a + X))) (xup M 71 a (lN (mk a + X))) s q ex rf (upN mk a (mk a + X)) (B + X) := by
  have ha12 : a < 12 := by have := ha.1; omega
  obtain ⟨h1, h2, h3, h4, h5⟩ := h
  have hl : ∀ j, xup L 42 (13 * a + 12) (lN (mk a + X)) 42 j = if j = 13 * a + 12 then lN (mk a + X) else L 42 j := fun j => xup_at
  constructor
  · unfold F_X6_owe
    have e1 : nI a * 13 + 12 = nI (13 * a + 12) := by rw [show (13 : Int32) = nI 13 from rfl, show (12 : Int32) = nI 12 from rfl, nI_mul, nI_add, Nat.mul_comm]
    rw [if_neg (fun z => by have := (nI_eq (b := 12) (by omega) (by decide)).mp z; omega), e1, xal_n (by omega) (by decide), xas_n (by omega) (by decide), (h1 a ha12).2.1, lN_add]
  · refine ⟨fun a' ha' => ⟨?_, ?_, ?_⟩, fun a' b' ha' hb' => ⟨?_, ?_⟩, h3, fun a' ha' z => ?_, ?_⟩
    · rw [hl, if_neg (by omega)]; exact (h1 a' ha').1
    · rw [hl]; unfold upN
      by_cases e : a' = a
      · rw [if_pos (by omega), if_pos e]
      · rw [if_neg (by omega), if_neg e]; exact (h1 a' ha').2.1
    · rw [xup_at]; unfold upN
      by_cases e : a' = a
      · rw [if_pos e, if_pos e]
      · rw [if_neg e, if_neg e]; exact (h1 a' ha').2.2
    · rw [xup_ne (by decide)]; exact (h2 a' b' ha' hb').1
    · rw [hl, hl, if_neg (by omega), if_neg (by omega)]; exact (h2 a' b' ha' hb').2
    · unfold upN
      rw [if_neg (fun w : a' = a => z (by rw [w]; exact ha))]; exact h4 a' ha' z
    · have := rfT_mk (rf := rf) (mk := mk) (v := mk a + X) ha12
      omega
end
