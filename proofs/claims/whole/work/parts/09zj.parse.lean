/-! READING A RULE: class and reference go through the same tokens. -/
/-- the token at hand: where it begins, where it ends, its kind and value in the class, its kind and worth in the reference -/
abbrev Cu : Type := Nat × Nat × Int32 × Int32 × Int32 × Int64
def cS (c : Cu) : Nat := c.1
def cN (c : Cu) : Nat := c.2.1
def cK (c : Cu) : Int32 := c.2.2.1
def cV (c : Cu) : Int32 := c.2.2.2.1
def cR (c : Cu) : Int32 := c.2.2.2.2.1
def cW (c : Cu) : Int64 := c.2.2.2.2.2
def CuOK (sz : Nat) (c : Cu) : Prop := cS c ≤ sz ∧ cN c ≤ sz ∧ (cK c ≠ 8 → cS c < cN c) ∧ TRel (cK c) (cV c) (cR c) (cW c)
def AtC (tb : Nat → Nat) (sz : Nat) (c : Cu) (cd : List Int32) (I : xTI) : Prop := CT tb sz I ∧ I 29 2 = nI (cS c) ∧ I 29 3 = nI (cN c) ∧ I 29 4 = cK c ∧ (cK c = 1 ∨ cK c = 2 ∨ cK c = 3 → I 29 5 = cV c) ∧ I 29 8 = nI cd.length ∧ ∀ i, i < cd.length → I 31 i = cd.getD i 0
def AtR (tb : Nat → Nat) (sz : Nat) (c : Cu) (o : Nat) (nm : Nat → Int32) (k b : Int32) (I : xTI) (L : xTL) : Prop := RT tb sz I ∧ I 57 9 = nI (cS c) ∧ (cR c ≠ 4 → I 57 11 = nI (cN c)) ∧ I 57 8 = cR c ∧ (cR c = 1 ∨ cR c = 2 ∨ cR c = 3 → L 57 10 = cW c) ∧ I 57 12 = nI o ∧ I 57 13 = 0 ∧ I 57 15 = k ∧ I 57 16 = b ∧ xEnv I nm k b
def FrC (I I2 : xTI) : Prop := ∀ k j, ¬ (k = 31 ∨ (k = 29 ∧ (j = 2 ∨ j = 3 ∨ j = 4 ∨ j = 5 ∨ j = 8))) → I2 k j = I k j
def FrP (I I2 : xTI) : Prop := ∀ k j, ¬ (k = 57 ∧ (j = 8 ∨ j = 9 ∨ j = 11 ∨ j = 12 ∨ j = 13 ∨ j = 14)) → I2 k j = I k j
theorem FrC.rfl' (I : xTI) : FrC I I := fun _ _ _ => rfl
theorem FrC.trans {I J K : xTI} (h : FrC I J) (g : FrC J K) : FrC I K := fun k j hk => by rw [g k j hk, h k j hk]
theorem FrP.rfl' (I : xTI) : FrP I I := fun _ _ _ => rfl
theorem FrP.trans {I J K : xTI} (h : FrP I J) (g : FrP J K) : FrP I K := fun k j hk => by rw [g k j hk, h k j hk]
theorem FrL.rfl' (L : xTL) : FrL L L := fun _ _ => rfl
theorem FrL.trans {I J K : xTL} (h : FrL I J) (g : FrL J K) : FrL I K := fun k hk => by rw [g k hk, h k hk]
theorem FrT.toC {I J : xTI} (h : FrT I J) : FrC I J := fun k j hk => h k j (fun e => hk (Or.inr ⟨e.1, by omega⟩))
theorem FrR.toP {I J : xTI} (h : FrR I J) : FrP I J := fun k j hk => h k j (fun e => hk ⟨e.1, by omega⟩)
theorem FrP.up {I J : xTI} (h : FrP I J) {j : Nat} (hj : j = 8 ∨ j = 9 ∨ j = 11 ∨ j = 12 ∨ j = 13 ∨ j = 14) (v : Int32) : FrP I (xup J 57 j v) := by
  intro k j' hk
  rw [← h k j' hk]
  unfold xup
  rw [if_neg]
  rintro ⟨e1, e2⟩
  exact hk ⟨e1, by omega⟩
theorem FrP.c {I J : xTI} (h : FrP I J) {k : Nat} (hk : k ≠ 57) : J k = I k := by
  funext j
  exact h k j (fun e => hk e.1)
theorem menUp_fr {I J : xTI} (h : J 58 = I 58) : F_X11_menUp xN J = F_X11_menUp xN I := by
  unfold F_X11_menUp
  have : F_X11_menUp_b4 xN J = F_X11_menUp_b4 xN I := by
    funext s k
    unfold F_X11_menUp_b4 F_X11_menUp_c4 F_X11_isUp F_X11_menUp_j28 xal
    simp only [h]
  rw [this]
theorem xEnv.fr {I J : xTI} {nm : Nat → Int32} {k b : Int32} (h : xEnv I nm k b) (e : J 58 = I 58) : xEnv J nm k b := by
  unfold xEnv
  rw [e, menUp_fr e]
  exact h
theorem CT.fr {tb : Nat → Nat} {sz : Nat} {I J : xTI} (h : CT tb sz I) (g : FrC I J) : CT tb sz J :=
  ⟨by rw [g 29 0 (by decide)]; exact h.1, fun i hi => by rw [g 30 i (by omega)]; exact h.2 i hi⟩
theorem RT.fr {tb : Nat → Nat} {sz : Nat} {I J : xTI} (h : RT tb sz I) (g : FrP I J) : RT tb sz J :=
  ⟨by rw [g 57 7 (by decide)]; exact h.1, fun i hi => by rw [g 62 i (by omega)]; exact h.2 i hi⟩
section PARSE
variable {tb : Nat → Nat} {sz : Nat}
/-- the class and the reference take the next token -/
theorem adv_ex (hsz : sz ≤ 120) (hb : ∀ i, i < sz → tb i ≤ 255) {p : Nat} (hp : p ≤ sz) : ∃ c2 : Cu, CuOK sz c2 ∧ p ≤ cS c2 ∧ TokC tb sz p (cS c2) (cN c2) (cK c2) (cV c2) ∧ TokR tb sz p (cS c2) (cN c2) (cR c2) (cW c2) := by
  obtain ⟨m, e, kd, vl, rk, rw_, h1, h2, h3, h4, h5, h6, h7⟩ := tok_ex hsz hb hp
  exact ⟨(m, e, kd, vl, rk, rw_), ⟨h2, h3, h4, h5⟩, h1, h6, h7⟩
theorem advC {c c2 : Cu} {cd : List Int32} {I : xTI} (h : AtC tb sz c cd I) (ht : TokC tb sz (cN c) (cS c2) (cN c2) (cK c2) (cV c2)) : ∃ I2, F_X9_takeToken xN I = some I2 ∧ AtC tb sz c2 cd I2 ∧ FrC I I2 := by
  obtain ⟨h1, h2, h3, h4, h5, h6, h7⟩ := h
  obtain ⟨I2, e1, e2, e3, e4, e5, e6⟩ := ht I h1 h3
  refine ⟨I2, e1, ⟨h1.fr e6.toC, e2, e3, e4, e5, ?_, fun i hi => ?_⟩, e6.toC⟩
  · rw [e6 29 8 (by decide)]; exact h6
  · rw [e6 31 i (by omega)]; exact h7 i hi
theorem advR {c c2 : Cu} {o : Nat} {nm : Nat → Int32} {k b : Int32} {I : xTI} {L : xTL} (h : AtR tb sz c o nm k b I L) (h4 : cR c ≠ 4) (ht : TokR tb sz (cN c) (cS c2) (cN c2) (cR c2) (cW c2)) : ∃ I2 L2, F_X11_next xN I L = some (I2, L2) ∧ AtR tb sz c2 o nm k b I2 L2 ∧ FrP I I2 ∧ FrL L L2 := by
  obtain ⟨h1, h2, h3, h4', h5, h6, h7, h8, h9, h10⟩ := h
  obtain ⟨I2, L2, e1, e2, e3, e4, e5, e6, e7⟩ := ht I L h1 (h3 h4)
  refine ⟨I2, L2, e1, ⟨h1.fr e6.toP, e2, e3, e4, e5, ?_, ?_, ?_, ?_, h10.fr (e6.toP.c (by decide))⟩, e6.toP, e7⟩
  · rw [e6 57 12 (by decide)]; exact h6
  · rw [e6 57 13 (by decide)]; exact h7
  · rw [e6 57 15 (by decide)]; exact h8
  · rw [e6 57 16 (by decide)]; exact h9
theorem emC {c : Cu} {cd : List Int32} {I : xTI} (h : AtC tb sz c cd I) (hl : cd.length < 120) (x : Int32) : ∃ I2, F_X9_emit I x = some I2 ∧ AtC tb sz c (cd ++ [x]) I2 ∧ FrC I I2 := by
  obtain ⟨h1, h2, h3, h4, h5, h6, h7⟩ := h
  have fr : FrC I (xup (xup I 31 cd.length x) 29 8 (nI (cd.length + 1))) := by
    intro k j hk
    unfold xup
    rw [if_neg (fun e => hk (Or.inr ⟨e.1, by omega⟩)), if_neg (fun e => hk (Or.inl e.1))]
  refine ⟨xup (xup I 31 cd.length x) 29 8 (nI (cd.length + 1)), ?_, ⟨h1.fr fr, ?_, ?_, ?_, fun g => ?_, ?_, fun i hi => ?_⟩, fr⟩
  · unfold F_X9_emit
    rw [xbn_e, h6, if_neg (n120 hl), xbn_e, xas_n hl (by decide), xbn_e, xbn_e, xup_ne (k' := 29) (by decide), h6, nI_1]
  · rw [xup_nj (by decide), xup_ne (by decide)]; exact h2
  · rw [xup_nj (by decide), xup_ne (by decide)]; exact h3
  · rw [xup_nj (by decide), xup_ne (by decide)]; exact h4
  · rw [xup_nj (by decide), xup_ne (by decide)]; exact h5 g
  · rw [xup_eq, List.length_append]; rfl
  · rw [xup_ne (by decide), xup_at]
    rw [List.length_append] at hi
    by_cases e : i = cd.length
    · rw [if_pos e, e]
      simp
    · have hi2 : i < cd.length := by
        have : [x].length = 1 := rfl
        omega
      rw [if_neg e, h7 i hi2]
      simp [List.getElem?_append_left hi2]
theorem em_any {I : xTI} {z : Nat} (h : I 29 8 = nI z) (hz : z ≤ 120) (x : Int32) : ∃ I2 z', F_X9_emit I x = some I2 ∧ FrC I I2 ∧ I2 29 2 = I 29 2 ∧ I2 29 8 = nI z' ∧ z' ≤ 120 := by
  by_cases e : z = 120
  · refine ⟨I, z, ?_, FrC.rfl' I, rfl, h, hz⟩
    unfold F_X9_emit
    rw [xbn_e, h, if_pos (p120 (by omega) (by omega))]
  · refine ⟨xup (xup I 31 z x) 29 8 (nI (z + 1)), z + 1, ?_, ?_, ?_, xup_eq, by omega⟩
    · unfold F_X9_emit
      rw [xbn_e, h, if_neg (n120 (by omega)), xbn_e, xas_n (by omega) (by decide), xbn_e, xbn_e, xup_ne (k' := 29) (by decide), h, nI_1]
    · intro k j hk
      unfold xup
      rw [if_neg (fun e => hk (Or.inr ⟨e.1, by omega⟩)), if_neg (fun e => hk (Or.inl e.1))]
    · rw [xup_nj (by decide), xup_ne (by decide)]
/-- the reference's levels -/
def F11l (d : Nat) : Nat → xTI → xTL → Option (Int32 × xTI × xTL)
  | 0 => (F_X11_R xN d).2.2.1
  | 1 => (F_X11_R xN d).2.1
  | 2 => (F_X11_R xN d).2.2.2.1
  | 3 => (F_X11_R xN d).1
  | 4 => (F_X11_R xN d).2.2.2.2.2
  | _ => (F_X11_R xN d).2.2.2.2.1
def bi (ok : Bool) : Int32 := if ok then 1 else 0
def SimC (tb : Nat → Nat) (sz l o : Nat) (c : Cu) (ok : Bool) (cs : List Int32) (c' : Cu) : Prop := ∀ (d : Nat) (I : xTI) (cd : List Int32), (6 - o) * 8 + 8 - l ≤ d → AtC tb sz c cd I → cd.length ≤ cS c → ∃ I2, (F_X9_R xN d).1 I (nI l) (nI o) = some (bi ok, I2) ∧ FrC I I2 ∧ (ok = true → AtC tb sz c' (cd ++ cs) I2) ∧ (ok = false → I2 29 2 = nI (cS c') ∧ ∃ z, z ≤ 120 ∧ I2 29 8 = nI z)
def SimR (tb : Nat → Nat) (sz l o : Nat) (c : Cu) (ok : Bool) (cs : List Int32) (c' : Cu) : Prop := ∀ (d : Nat) (I : xTI) (L : xTL) (nm : Nat → Int32) (k b : Int32), (6 - o) * 8 + 8 - l ≤ d → AtR tb sz c o nm k b I L → ∃ v I2 L2, F11l d l I L = some (v, I2, L2) ∧ FrP I I2 ∧ FrL L L2 ∧ (ok = true → AtR tb sz c' o nm k b I2 L2 ∧ ∀ st, evl nm cs st = v :: st) ∧ (ok = false → I2 57 13 = 1 ∧ I2 57 14 = nI (cS c'))
def Sim (tb : Nat → Nat) (sz l o : Nat) (c : Cu) : Prop := ∃ ok cs c', CuOK sz c' ∧ cS c ≤ cS c' ∧ (ok = true → cs.length + cS c ≤ cS c') ∧ SimC tb sz l o c ok cs c' ∧ SimR tb sz l o c ok cs c'
/-! the reference's questions -/
theorem lgc {x y : Int64} : lg_cmp x y = 0 ↔ x = y := by
  unfold lg_cmp
  by_cases g : y < x
  · rw [if_pos g]
    constructor
    · intro h; exact absurd h (by decide)
    · intro h; subst h; exact (Int64.lt_irrefl g).elim
  · rw [if_neg g]
    by_cases g2 : x = y
    · rw [if_pos g2]; exact ⟨fun _ => g2, fun _ => rfl⟩
    · rw [if_neg g2]; exact ⟨fun h => absurd h (by decide), fun h => absurd h g2⟩
theorem isW {I : xTI} {L : xTL} {x : Int64} (h13 : I 57 13 = 0) (h8 : I 57 8 = 1) : F_X11_isWord I L x = some (if L 57 10 = x then 1 else 0) := by
  unfold F_X11_isWord
  rw [xbn_e, if_pos h13, xbn_e, if_pos h8, xbn_e]
  by_cases g : L 57 10 = x
  · rw [if_pos (lgc.mpr g), if_pos g, xzc_1]
  · rw [if_neg (fun e => g (lgc.mp e)), if_neg g, xzc_0]
theorem isW_n {I : xTI} {L : xTL} {x : Int64} (h : I 57 13 ≠ 0 ∨ I 57 8 ≠ 1) : F_X11_isWord I L x = some 0 := by
  unfold F_X11_isWord
  rw [xbn_e]
  by_cases g : I 57 13 = 0
  · rw [if_pos g, xbn_e, if_neg (h.resolve_left (fun e => e g)), xzc_0]
  · rw [if_neg g, xzc_0]
theorem isS {I : xTI} {L : xTL} {x : Int32} (h13 : I 57 13 = 0) (h8 : I 57 8 = 3) : F_X11_isSign I L x = some (if L 57 10 = x.toInt64 then 1 else 0) := by
  unfold F_X11_isSign
  rw [xbn_e, if_pos h13, xbn_e, if_pos h8, xbn_e]
  by_cases g : L 57 10 = x.toInt64
  · rw [if_pos (lgc.mpr g), if_pos g, xzc_1]
  · rw [if_neg (fun e => g (lgc.mp e)), if_neg g, xzc_0]
theorem isS_n {I : xTI} {L : xTL} {x : Int32} (h : I 57 13 ≠ 0 ∨ I 57 8 ≠ 3) : F_X11_isSign I L x = some 0 := by
  unfold F_X11_isSign
  rw [xbn_e]
  by_cases g : I 57 13 = 0
  · rw [if_pos g, xbn_e, if_neg (h.resolve_left (fun e => e g)), xzc_0]
  · rw [if_neg g, xzc_0]
theorem fail_y {I : xTI} (h : I 57 13 = 0) : F_X11_fail I = some (xup (xup I 57 13 1) 57 14 (I 57 9)) := by
  unfold F_X11_fail
  rw [xbn_e, if_pos h, xzc_1, xbn_e, xbn_e, xbn_e, xup_nj (by decide)]
theorem fail_n {I : xTI} (h : I 57 13 = 1) : F_X11_fail I = some I := by
  unfold F_X11_fail
  rw [xbn_e, if_neg (by rw [h]; decide)]
theorem i64n {a b : Nat} (ha : a < 2 ^ 63) (hb : b < 2 ^ 63) : Int64.ofNat a = Int64.ofNat b ↔ a = b := by
  constructor
  · intro h
    have := congrArg Int64.toInt h
    rw [Int64.toInt_ofNat_of_lt ha, Int64.toInt_ofNat_of_lt hb] at this
    omega
  · intro h; rw [h]
end PARSE
