section
/-! run: settling. Paying in rounds: numbers, and the class's round -/
theorem shr20 {a : Nat} {D : Int64} (hD : (D.toBitVec.smod 64).toNat = 20) (h : a < 2 ^ 62) : lN a >>> D = lN (a / 1048576) := by
  have hd : a / 1048576 ≤ a := Nat.div_le_self _ _
  apply Int64.toInt_inj.mp
  have e : (lN a >>> D).toInt = (lN a).toInt >>> 20 := by
    rw [← hD]; exact BitVec.toInt_sshiftRight ..
  rw [e, Int.shiftRight_eq_div_pow, pk_lT (by omega), pk_lT (by omega)]
  rfl
theorem shl20 {D : Int64} (hD : D.toBitVec.smod 64 = 20#64) (n : Nat) : lN n <<< D = lN (n * 1048576) := by
  apply Int64.toBitVec_inj.mp
  rw [Int64.toBitVec_shiftLeft, hD, show (lN n).toBitVec = BitVec.ofNat 64 n from rfl, show (lN (n * 1048576)).toBitVec = BitVec.ofNat 64 (n * 1048576) from rfl]
  apply BitVec.eq_of_toNat_eq
  rw [BitVec.shiftLeft_eq', BitVec.toNat_shiftLeft, BitVec.toNat_ofNat, BitVec.toNat_ofNat, BitVec.toNat_ofNat, show (20 : Nat) % 2 ^ 64 = 20 from rfl, Nat.shiftLeft_eq, show (2 : Nat) ^ 20 = 1048576 from rfl]
  omega
theorem msk20 {n : Nat} (hn : n < 2 ^ 62) : lN n &&& 1048575 = lN (n % 1048576) := by
  apply Int64.toBitVec_inj.mp
  rw [Int64.toBitVec_and, show (lN n).toBitVec = BitVec.ofNat 64 n from rfl, show (lN (n % 1048576)).toBitVec = BitVec.ofNat 64 (n % 1048576) from rfl]
  apply BitVec.eq_of_toNat_eq
  rw [BitVec.toNat_and, BitVec.toNat_ofNat, BitVec.toNat_ofNat, Nat.mod_eq_of_lt (show n < 2 ^ 64 by omega), show (1048575 : Int64).toBitVec.toNat = 2 ^ 20 - 1 from rfl, Nat.and_two_pow_sub_one_eq_mod, Nat.mod_eq_of_lt (show n % 1048576 < 2 ^ 64 by omega)]
theorem div_split (o h d : Nat) (hd : 0 < d) : o * (h / 1048576) / d * 1048576 + (o * (h / 1048576) % d * 1048576 + o * (h % 1048576)) / d = o * h / d := by
  have e1 : o * h = o * (h / 1048576) * 1048576 + o * (h % 1048576) := by
    rw [Nat.mul_assoc, ← Nat.mul_add]; congr 1; omega
  have e2 : o * (h / 1048576) * 1048576 = d * (o * (h / 1048576) / d * 1048576) + o * (h / 1048576) % d * 1048576 := by
    rw [← Nat.mul_assoc, ← Nat.add_mul, Nat.div_add_mod]
  rw [e1, e2, Nat.add_assoc, Nat.mul_add_div hd]
theorem part_e {o h d : Nat} (ho : o ≤ 2 ^ 32) (hh : h < 2 ^ 32) (hd : 0 < d) (hd2 : d ≤ 2 ^ 32) : F_X6_part (lN o) (lN h) (lN d) = some (lN (o * h / d)) := by
  have b1 : o * (h / 1048576) ≤ 2 ^ 32 * 4096 := Nat.mul_le_mul ho (by omega)
  have b2 : o * (h % 1048576) ≤ 2 ^ 32 * 1048576 := Nat.mul_le_mul ho (by omega)
  have b3 : o * (h / 1048576) % d < d := Nat.mod_lt _ hd
  have hne : ¬ lN d = 0 := fun z => by
    have := (pk_lEQ (a := d) (b := 0) (by omega) (by decide)).mp z; omega
  unfold F_X6_part xnz
  rw [if_pos (by rw [lg_cmp_gt, show (0 : Int64) = lN 0 from rfl, pk_lLT (by decide) (by omega)]; exact hd), shr20 (by decide) (by omega), msk20 (by omega), lN_mul, lN_mul, xbn_e, xbn_e]
  simp only [if_neg hne]
  rw [pk_lRem (by omega) hd (by omega), pk_lDiv (by omega) hd (by omega), shl20 (by decide), shl20 (by decide), lN_add, pk_lDiv (by omega) hd (by omega), lN_add, div_split o h d hd]
/-- 0 or 1 -/
def fl (n : Nat) : Int32 := if n = 0 then 0 else 1
theorem xzc_fl {R : Type} (n : Nat) (K : Option R) : xzc (fl n) K = K := by
  unfold fl; by_cases h : n = 0
  · rw [if_pos h]; rfl
  · rw [if_neg h]; rfl
theorem fl_0 : fl 0 = 0 := rfl
theorem fl_1 {n : Nat} (h : n ≠ 0) : fl n = 1 := if_neg h
theorem fl_z {n : Nat} : fl n = 0 ↔ n = 0 := by
  unfold fl; by_cases h : n = 0
  · rw [if_pos h]; exact ⟨fun _ => h, fun _ => rfl⟩
  · rw [if_neg h]; exact ⟨fun z => absurd z (by decide), fun z => absurd z h⟩
/-- what a pays c in the next round -/
def nxt (ow : Nat → Nat → Nat) (co : Nat → Nat) (pd : Nat → Nat → Nat) (a c : Nat) : Nat := if SF (ow a) 13 ≤ co a + SF (fun k => pd k a) 12 then ow a c else ow a c * (co a + SF (fun k => pd k a) 12) / SF (ow a) 13
/-- how many of the first c have changed -/
def chd (ow : Nat → Nat → Nat) (co : Nat → Nat) (pd : Nat → Nat → Nat) (a : Nat) : Nat → Nat := SF (fun c => if nxt ow co pd a c = pd a c then 0 else 1)
def tot (ow : Nat → Nat → Nat) (co : Nat → Nat) (pd : Nat → Nat → Nat) : Nat → Nat := SF (fun a => chd ow co pd a 13)
theorem dle {o h d : Nat} (h1 : h ≤ d) : o * h / d ≤ o := by
  by_cases hd : d = 0
  · subst hd; rw [Nat.div_zero]; omega
  · refine Nat.le_trans (Nat.div_le_div_right (Nat.mul_le_mul_left o h1)) ?_
    rw [Nat.mul_div_cancel _ (by omega)]; exact Nat.le_refl _
theorem nxt_le {ow : Nat → Nat → Nat} {co : Nat → Nat} {pd : Nat → Nat → Nat} {a c : Nat} : nxt ow co pd a c ≤ ow a c := by
  unfold nxt
  by_cases h : SF (ow a) 13 ≤ co a + SF (fun k => pd k a) 12
  · rw [if_pos h]; exact Nat.le_refl _
  · rw [if_neg h]; exact dle (by omega)
theorem nxt_mono {ow : Nat → Nat → Nat} {co : Nat → Nat} {pd pd2 : Nat → Nat → Nat} (h : ∀ a c, a < 12 → c < 13 → pd a c ≤ pd2 a c) {a c : Nat} (ha : a < 12) : nxt ow co pd a c ≤ nxt ow co pd2 a c := by
  have hs : SF (fun k => pd k a) 12 ≤ SF (fun k => pd2 k a) 12 := SF_mono 12 (fun k hk => h k a hk (by omega))
  by_cases e2 : SF (ow a) 13 ≤ co a + SF (fun k => pd2 k a) 12
  · have : nxt ow co pd2 a c = ow a c := if_pos e2
    rw [this]; exact nxt_le
  · have e1 : ¬ SF (ow a) 13 ≤ co a + SF (fun k => pd k a) 12 := by omega
    unfold nxt
    rw [if_neg e1, if_neg e2]
    exact Nat.div_le_div_right (Nat.mul_le_mul_left _ (by omega))
theorem SF_div {f : Nat → Nat} {h d : Nat} : ∀ n, SF (fun c => f c * h / d) n ≤ SF f n * h / d
  | 0 => Nat.zero_le _
  | n + 1 => by
    show SF (fun c => f c * h / d) n + f n * h / d ≤ (SF f n + f n) * h / d
    refine Nat.le_trans (Nat.add_le_add_right (SF_div n) _) ?_
    rw [Nat.add_mul]
    by_cases hd : d = 0
    · subst hd; rw [Nat.div_zero, Nat.div_zero, Nat.div_zero]; omega
    · rw [Nat.le_div_iff_mul_le (by omega), Nat.add_mul]
      exact Nat.add_le_add (Nat.div_mul_le_self _ _) (Nat.div_mul_le_self _ _)
theorem nxt_sum {ow : Nat → Nat → Nat} {co : Nat → Nat} {pd : Nat → Nat → Nat} {a : Nat} : SF (nxt ow co pd a) 13 ≤ co a + SF (fun k => pd k a) 12 := by
  by_cases h : SF (ow a) 13 ≤ co a + SF (fun k => pd k a) 12
  · rw [SF_congr (g := ow a) 13 (fun c _ => by unfold nxt; rw [if_pos h])]; exact h
  · rw [SF_congr (g := fun c => ow a c * (co a + SF (fun k => pd k a) 12) / SF (ow a) 13) 13 (fun c _ => by unfold nxt; rw [if_neg h])]
    refine Nat.le_trans (SF_div 13) ?_
    rw [Nat.mul_div_cancel_left _ (by omega)]; exact Nat.le_refl _
theorem sumTo44 {L : xTL} {pd : Nat → Nat → Nat} {a : Nat} (ha : a < 12) (h : ∀ k, k < 12 → L 44 (13 * k + a) = lN (pd k a)) : F_X6_sumTo_44 xN L (nI a) = some (lN (SF (fun k => pd k a) 12)) := by
  unfold F_X6_sumTo_44
  rw [show ((0 : Int64), (0 : Int32)) = (fun c => (lN (SF (fun k => pd k a) c), nI c)) 0 from rfl]
  refine xlp_for (fun c => (lN (SF (fun k => pd k a) c), nI c)) 12 _ (fun c hc K => ?_) (fun K => ?_) xN (by decide)
  · show F_X6_sumTo_44_c5 xN L (nI a) (lN (SF (fun k => pd k a) c)) (nI c) K = K (lN (SF (fun k => pd k a) (c + 1)), nI (c + 1))
    unfold F_X6_sumTo_44_c5
    rw [if_neg (n12 hc), xal_i (i := 13 * c + a) (by rw [show (13 : Int32) = nI 13 from rfl, nI_mul, nI_add, Nat.mul_comm]) (by omega) (by decide), h c hc, xbn_e, xbn_e, lN_add, nI_1]; rfl
  · show F_X6_sumTo_44_c5 xN L (nI a) (lN (SF (fun k => pd k a) 12)) (nI 12) K = _
    unfold F_X6_sumTo_44_c5
    rw [if_pos (by decide)]
theorem payOf_e {L : xTL} {ow pd : Nat → Nat → Nat} {co : Nat → Nat} {a : Nat} (ha : a < 12) (h42 : ∀ c, c < 13 → L 42 (13 * a + c) = lN (ow a c)) (h45 : L 45 a = lN (SF (ow a) 13)) (h44 : ∀ c, c < 13 → L 44 (13 * a + c) = lN (pd a c)) (hB : SF (ow a) 13 ≤ 2 ^ 31 * 2) (h0 : 0 < SF (ow a) 13) (hh : co a + SF (fun k => pd k a) 12 < 2 ^ 62) (hp : ∀ c, c < 13 → pd a c ≤ ow a c) : F_X6_payOf xN L (nI a) (lN (co a + SF (fun k => pd k a) 12)) = some (fl (chd ow co pd a 13), wr L 43 (13 * a) (fun c => lN (nxt ow co pd a c)) 13) := by
  unfold F_X6_payOf
  rw [show ((0 : Int32), (0 : Int32), L) = (fun c => (fl (chd ow co pd a c), nI c, wr L 43 (13 * a) (fun c => lN (nxt ow co pd a c)) c)) 0 from rfl]
  refine xlp_for (fun c => (fl (chd ow co pd a c), nI c, wr L 43 (13 * a) (fun c => lN (nxt ow co pd a c)) c)) 13 _ (fun c hc K => ?_) (fun K => ?_) xN (by decide)
  · show F_X6_payOf_c6 xN (nI a) (lN (co a + SF (fun k => pd k a) 12)) (fl (chd ow co pd a c)) (nI c) (wr L 43 (13 * a) (fun c => lN (nxt ow co pd a c)) c) K = K (fl (chd ow co pd a c + if nxt ow co pd a c = pd a c then 0 else 1), nI (c + 1), xup (wr L 43 (13 * a) (fun c => lN (nxt ow co pd a c)) c) 43 (13 * a + c) (lN (nxt ow co pd a c)))
    have w42 : wr L 43 (13 * a) (fun c => lN (nxt ow co pd a c)) c 42 = L 42 := wr_ne (by decide) _
    have w44 : wr L 43 (13 * a) (fun c => lN (nxt ow co pd a c)) c 44 = L 44 := wr_ne (by decide) _
    have w45 : wr L 43 (13 * a) (fun c => lN (nxt ow co pd a c)) c 45 = L 45 := wr_ne (by decide) _
    generalize wr L 43 (13 * a) (fun c => lN (nxt ow co pd a c)) c = L' at w42 w44 w45 ⊢
    have e1 : nI a * 13 + nI c = nI (13 * a + c) := by rw [show (13 : Int32) = nI 13 from rfl, nI_mul, nI_add, Nat.mul_comm]
    have hox : ow a c ≤ SF (ow a) 13 := SF_le 13 hc
    have hnx := nxt_le (ow := ow) (co := co) (pd := pd) (a := a) (c := c)
    have hpc := hp c hc
    have hj : ∀ n, F_X6_payOf_j66 K xN L' (nI a) (lN (co a + SF (fun k => pd k a) 12)) (fl n) (nI c) (nI (13 * a + c)) (nI (13 * a + c)) (lN (nxt ow co pd a c)) = K (fl (n + if nxt ow co pd a c = pd a c then 0 else 1), nI (c + 1), xup L' 43 (13 * a + c) (lN (nxt ow co pd a c))) := fun n => by
      unfold F_X6_payOf_j66
      rw [xas_n (by omega) (by decide)]
      by_cases hn : n = 0
      · subst hn
        rw [if_pos fl_0, xal_n (by omega) (by decide), xup_at, if_pos rfl, xal_n (by omega) (by decide), xup_ne (by decide), w44, h44 c hc, xbn_e, xbn_e, nI_1, Nat.zero_add]
        by_cases e : nxt ow co pd a c = pd a c
        · rw [if_pos e, if_pos ((lg_cmp_eq _ _).mpr (by rw [e])), fl_0]
        · rw [if_neg e, if_neg (fun z => e ((pk_lEQ (by omega) (by omega)).mp ((lg_cmp_eq _ _).mp z))), fl_1 (by decide)]
      · rw [if_neg (fun z => hn (fl_z.mp z)), xbn_e, nI_1, fl_1 (show n + _ ≠ 0 by omega)]
    unfold F_X6_payOf_c6
    rw [if_neg (show ¬ (13 : Int32) ≤ nI c from nI_ge (b := 13) hc (by decide)), xbn_e, e1, xal_n ha (by decide), w45, h45]
    by_cases e : SF (ow a) 13 ≤ co a + SF (fun k => pd k a) 12
    · have en : nxt ow co pd a c = ow a c := if_pos e
      rw [if_pos ((lg_cmp_ge _ _).mpr ((pk_lLE (by omega) (by omega)).mpr e)), xal_n (by omega) (by decide), w42, h42 c hc, ← en, hj]
    · have en : nxt ow co pd a c = ow a c * (co a + SF (fun k => pd k a) 12) / SF (ow a) 13 := if_neg e
      rw [if_neg (fun z => e ((pk_lLE (by omega) (by omega)).mp ((lg_cmp_ge _ _).mp z))), xal_n (by omega) (by decide), w42, h42 c hc, xal_n ha (by decide), w45, h45, part_e (by omega) (by omega) h0 (by omega), Option.bind_some, ← en, hj]
  · show F_X6_payOf_c6 xN (nI a) (lN (co a + SF (fun k => pd k a) 12)) (fl (chd ow co pd a 13)) (nI 13) (wr L 43 (13 * a) (fun c => lN (nxt ow co pd a c)) 13) K = _
    unfold F_X6_payOf_c6
    rw [if_pos (by decide), xzc_fl]
/-- the class's sums paid, when a men have had their turn -/
def prC (L : xTL) (w : Nat → Nat → Nat) (a : Nat) : xTL := fun k j => if k = 43 ∧ j < 13 * a then lN (w (j / 13) (j % 13)) else L k j
theorem prC_ne {L : xTL} {w : Nat → Nat → Nat} {a k : Nat} (h : k ≠ 43) : prC L w a k = L k := by
  funext j; unfold prC; rw [if_neg (fun z => h z.1)]
theorem prC_s {L : xTL} {w : Nat → Nat → Nat} {a : Nat} : wr (prC L w a) 43 (13 * a) (fun c => lN (w a c)) 13 = prC L w (a + 1) := by
  funext k j
  by_cases hk : k = 43
  · subst hk
    by_cases h1 : j < 13 * a
    · rw [wr_out 13 (Or.inl h1)]
      unfold prC
      rw [if_pos ⟨rfl, h1⟩, if_pos ⟨rfl, by omega⟩]
    · by_cases h2 : j < 13 * a + 13
      · obtain ⟨t, rfl⟩ : ∃ t, j = 13 * a + t := ⟨j - 13 * a, by omega⟩
        rw [wr_in 13 (by omega)]
        unfold prC
        rw [if_pos ⟨rfl, by omega⟩, show (13 * a + t) / 13 = a by omega, show (13 * a + t) % 13 = t by omega]
      · rw [wr_out 13 (Or.inr (by omega))]
        unfold prC
        rw [if_neg (fun z => h1 z.2), if_neg (fun z => h2 (by have := z.2; omega))]
  · rw [wr_ne hk, prC_ne hk, prC_ne hk]
theorem prC_0 {L : xTL} {w : Nat → Nat → Nat} : prC L w 0 = L := by
  funext k j; unfold prC; rw [if_neg (fun z => by omega)]
theorem prC_d {L : xTL} {w : Nat → Nat → Nat} {a : Nat} (h : ∀ c, c < 13 → L 43 (13 * a + c) = lN (w a c)) : prC L w a = prC L w (a + 1) := by
  funext k j
  unfold prC
  by_cases c : k = 43 ∧ j < 13 * a
  · rw [if_pos c, if_pos ⟨c.1, by omega⟩]
  · rw [if_neg c]
    by_cases c2 : k = 43 ∧ j < 13 * (a + 1)
    · rw [if_pos c2]
      obtain ⟨t, rfl⟩ : ∃ t, j = 13 * a + t := ⟨j - 13 * a, by have := c2.1; omega⟩
      rw [c2.1, h t (by omega), show (13 * a + t) / 13 = a by omega, show (13 * a + t) % 13 = t by omega]
    · rw [if_neg c2]
/-- what holds of the sums at a round -/
def PRn (ow : Nat → Nat → Nat) (co : Nat → Nat) (pd : Nat → Nat → Nat) : Prop := (∀ a c, a < 12 → c < 13 → pd a c ≤ ow a c ∧ pd a c ≤ nxt ow co pd a c) ∧ (∀ a, a < 12 → SF (pd a) 13 ≤ co a + SF (fun k => pd k a) 12)
theorem PRn.nx {ow : Nat → Nat → Nat} {co : Nat → Nat} {pd : Nat → Nat → Nat} (h : PRn ow co pd) : PRn ow co (nxt ow co pd) := by
  refine ⟨fun a c ha hc => ⟨nxt_le, nxt_mono (fun a c ha hc => (h.1 a c ha hc).2) ha⟩, fun a ha => Nat.le_trans nxt_sum (Nat.add_le_add_left (SF_mono 12 (fun k hk => (h.1 k a hk (by omega)).2)) _)⟩
theorem round_c {I : xTI} {L : xTL} {ow pd : Nat → Nat → Nat} {co : Nat → Nat} {m r : Nat} {x2 : Int32} (hm : m ≤ 12) (hI : I 3 0 = nI m) (h42 : ∀ a c, a < 12 → c < 13 → L 42 (13 * a + c) = lN (ow a c)) (h45 : ∀ a, a < 12 → L 45 a = lN (SF (ow a) 13)) (h43 : ∀ a c, a < 12 → c < 13 → L 43 (13 * a + c) = lN (pd a c)) (h4 : ∀ a, a < 12 → L 4 a = lN (co a)) (hB : ∀ a, a < 12 → SF (ow a) 13 ≤ 2 ^ 31 * 2) (hh : ∀ a, a < 12 → co a + SF (fun k => pd k a) 12 < 2 ^ 62) (hn : PRn ow co pd) (hr : r < 1000) (hx : x2 ≠ 0) (K : Int32 × Int32 × xTL → Option xTL) : F_X6_payInRounds_c12 xN I x2 (nI r) L K = K (fl (tot ow co pd m), nI (r + 1), prC (cp L 43 44 156) (nxt ow co pd) m) := by
  have hc44 : ∀ a c, a < 12 → c < 13 → cp L 43 44 156 44 (13 * a + c) = lN (pd a c) := fun a c ha hc => by
    unfold cp; rw [if_pos rfl, if_pos (by omega)]; exact h43 a c ha hc
  have hcn : ∀ k, k ≠ 44 → cp L 43 44 156 k = L k := fun k hk => by
    funext j; unfold cp; rw [if_neg hk]
  unfold F_X6_payInRounds_c12
  rw [if_neg (show ¬ (1000 : Int32) ≤ nI r from nI_ge (b := 1000) hr (by decide)), if_neg hx, show xcp L 43 156 44 156 0 0 156 _ = _ from xcp_l (n := 156) rfl (by decide) (by decide) (by decide)]
  generalize cp L 43 44 156 = L1 at hc44 hcn ⊢
  rw [show ((0 : Int32), (0 : Int32), L1) = (fun a => (fl (tot ow co pd a), nI a, prC L1 (nxt ow co pd) a)) 0 by show _ = (fl 0, nI 0, prC L1 (nxt ow co pd) 0); rw [prC_0]; rfl]
  refine xlp_for (fun a => (fl (tot ow co pd a), nI a, prC L1 (nxt ow co pd) a)) m _ (fun a ha K2 => ?_) (fun K2 => ?_) xN (by have : xN = 100000 := rfl; omega)
  · show F_X6_payInRounds_c44 K xN I (nI r) (fl (tot ow co pd a)) (nI a) (prC L1 (nxt ow co pd) a) K2 = K2 (fl (tot ow co pd a + chd ow co pd a 13), nI (a + 1), prC L1 (nxt ow co pd) (a + 1))
    have ha12 : a < 12 := by omega
    have p42 : prC L1 (nxt ow co pd) a 42 = L 42 := by rw [prC_ne (by decide), hcn 42 (by decide)]
    have p44 : prC L1 (nxt ow co pd) a 44 = L1 44 := prC_ne (by decide)
    have p45 : prC L1 (nxt ow co pd) a 45 = L 45 := by rw [prC_ne (by decide), hcn 45 (by decide)]
    have p4 : prC L1 (nxt ow co pd) a 4 = L 4 := by rw [prC_ne (by decide), hcn 4 (by decide)]
    have hBa := hB a ha12
    unfold F_X6_payInRounds_c44
    rw [xbn_e, hI, if_neg (nI_ge ha (by omega)), xal_n ha12 (by decide), p45, h45 a ha12]
    by_cases h0 : SF (ow a) 13 = 0
    · have oz : ∀ c, c < 13 → ow a c = 0 := fun c hc => by have := SF_le (f := ow a) 13 hc; omega
      have nz : ∀ c, c < 13 → nxt ow co pd a c = 0 := fun c hc => by have := nxt_le (ow := ow) (co := co) (pd := pd) (a := a) (c := c); have := oz c hc; omega
      have pz : ∀ c, c < 13 → pd a c = 0 := fun c hc => by have := (hn.1 a c ha12 hc).1; have := oz c hc; omega
      have cz : chd ow co pd a 13 = 0 := SF_0 13 (fun c hc => by rw [nz c hc, pz c hc, if_pos rfl])
      rw [if_pos (by rw [h0, lg_cmp_le]; exact Int64.le_refl _), xbn_e, nI_1, cz, Nat.add_zero (tot ow co pd a), ← prC_d (fun c hc => by rw [hcn 43 (by decide), h43 a c ha12 hc, nz c hc, pz c hc])]
    · rw [if_neg (fun z => by rw [lg_cmp_le, show (0 : Int64) = lN 0 from rfl, pk_lLE (by omega) (by decide)] at z; omega), xal_n ha12 (by decide), p4, h4 a ha12, sumTo44 (pd := pd) ha12 (fun k hk => by rw [p44]; exact hc44 k a hk (by omega)), Option.bind_some, lN_add, payOf_e (ow := ow) (pd := pd) (co := co) ha12 (fun c hc => by rw [p42]; exact h42 a c ha12 hc) (by rw [p45]; exact h45 a ha12) (fun c hc => by rw [p44]; exact hc44 a c ha12 hc) hBa (by omega) (hh a ha12) (fun c hc => (hn.1 a c ha12 hc).1), Option.bind_some, prC_s]
      dsimp only
      by_cases e1 : chd ow co pd a 13 = 0
      · rw [if_pos (fl_z.mpr e1), e1, Nat.add_zero (tot ow co pd a)]
        by_cases e2 : tot ow co pd a = 0
        · rw [if_pos (fl_z.mpr e2), xbn_e, nI_1, e2, fl_0]
        · rw [if_neg (fun z => e2 (fl_z.mp z)), xbn_e, nI_1, fl_1 e2]
      · rw [if_neg (fun z => e1 (fl_z.mp z)), xbn_e, nI_1, fl_1 (show tot ow co pd a + chd ow co pd a 13 ≠ 0 by omega)]
  · show F_X6_payInRounds_c44 K xN I (nI r) (fl (tot ow co pd m)) (nI m) (prC L1 (nxt ow co pd) m) K2 = _
    unfold F_X6_payInRounds_c44
    rw [xbn_e, hI, if_pos (Int32.le_refl _), xbn_e, nI_1]
end
