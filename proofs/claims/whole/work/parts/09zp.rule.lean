section RULE
variable {tb : Nat → Nat} {sz : Nat}
def FrQ (I I2 : xTI) : Prop := ∀ k j, ¬ (k = 57 ∧ 8 ≤ j ∧ j ≤ 19) → I2 k j = I k j
def FrD (I I2 : xTI) : Prop := ∀ k j, ¬ (k = 31 ∨ (k = 29 ∧ 2 ≤ j)) → I2 k j = I k j
theorem FrQ.trans {I J K : xTI} (h : FrQ I J) (g : FrQ J K) : FrQ I K := fun k j hk => by rw [g k j hk, h k j hk]
theorem FrD.trans {I J K : xTI} (h : FrD I J) (g : FrD J K) : FrD I K := fun k j hk => by rw [g k j hk, h k j hk]
theorem FrQ.rfl' (I : xTI) : FrQ I I := fun _ _ _ => rfl
theorem FrD.rfl' (I : xTI) : FrD I I := fun _ _ _ => rfl
theorem FrP.toQ {I J : xTI} (h : FrP I J) : FrQ I J := fun k j hk => h k j (fun e => hk ⟨e.1, by omega, by omega⟩)
theorem FrC.toD {I J : xTI} (h : FrC I J) : FrD I J := fun k j hk => h k j (fun e => hk (by
  rcases e with e | ⟨e1, e2⟩
  · exact Or.inl e
  · exact Or.inr ⟨e1, by omega⟩))
theorem FrQ.up {I J : xTI} (h : FrQ I J) {j : Nat} (h1 : 8 ≤ j) (h2 : j ≤ 19) (v : Int32) : FrQ I (xup J 57 j v) := by
  intro k j' hk
  rw [← h k j' hk]
  unfold xup
  rw [if_neg]
  rintro ⟨e1, e2⟩
  exact hk ⟨e1, by omega, by omega⟩
theorem FrD.up {I J : xTI} (h : FrD I J) {j : Nat} (h1 : 2 ≤ j) (v : Int32) : FrD I (xup J 29 j v) := by
  intro k j' hk
  rw [← h k j' hk]
  unfold xup
  rw [if_neg]
  rintro ⟨e1, e2⟩
  exact hk (Or.inr ⟨e1, by omega⟩)
theorem AtR.up {c : Cu} {o : Nat} {nm : Nat → Int32} {k b : Int32} {I : xTI} {L : xTL} (h : AtR tb sz c o nm k b I L) {j : Nat} (hj : 17 ≤ j) (v : Int32) : AtR tb sz c o nm k b (xup I 57 j v) L := by
  obtain ⟨h1, h2, h3, h4, h5, h6, h7, h8, h9, h10⟩ := h
  exact ⟨h1.up (by omega) _, by rw [xup_nj (by omega)]; exact h2, fun g => by rw [xup_nj (by omega)]; exact h3 g, by rw [xup_nj (by omega)]; exact h4, h5, by rw [xup_nj (by omega)]; exact h6, by rw [xup_nj (by omega)]; exact h7, by rw [xup_nj (by omega)]; exact h8, by rw [xup_nj (by omega)]; exact h9, h10.fr (xup_ne (by decide))⟩
theorem AtC.up {c : Cu} {cd : List Int32} {I : xTI} (h : AtC tb sz c cd I) {j : Nat} (hj : j = 6 ∨ j = 9) (v : Int32) : AtC tb sz c cd (xup I 29 j v) := by
  obtain ⟨h1, h2, h3, h4, h5, h6, h7⟩ := h
  exact ⟨h1.up (by omega) _, by rw [xup_nj (by omega)]; exact h2, by rw [xup_nj (by omega)]; exact h3, by rw [xup_nj (by omega)]; exact h4, fun g => by rw [xup_nj (by omega)]; exact h5 g, by rw [xup_nj (by omega)]; exact h6, fun i hi => by rw [xup_ne (by decide)]; exact h7 i hi⟩
theorem cR0 {c : Cu} (hc : CuOK sz c) : cR c = 0 ↔ cK c = 8 := by
  rcases hc.2.2.2 with ⟨a, r⟩ | ⟨a, r⟩ | ⟨a, r, -⟩ | ⟨r, w, h20, -, hk, -⟩ | ⟨r, x, hx, hk, -⟩
  · rw [a, r]; simp
  · rw [a]
    rcases r with r | ⟨r, -⟩ <;> (rw [r]; decide)
  · rw [a, r]; decide
  · rw [r, hk]
    have : ∀ w, w < 20 → ((1 : Int32) = 0 ↔ wKd w = 8) := by decide
    exact this w h20
  · have := sgn_b hx
    rw [r, hk]
    constructor
    · intro e; exact absurd e (by decide)
    · intro e; have := (nI_lq (c := 8) rfl (by omega) (by decide)).mp e; omega
theorem tailC {c : Cu} {cd : List Int32} {I : xTI} (h : AtC tb sz c cd I) : F_X9_isRule_j78 xN I = some (if cK c = 8 then 1 else 0, I) := by
  unfold F_X9_isRule_j78
  rw [xbn_e, h.2.2.2.1]
  by_cases g : cK c = 8
  · rw [if_pos g, if_pos g]; rfl
  · rw [if_neg g, if_neg g]; rfl
theorem tailR {c : Cu} {o : Nat} {nm : Nat → Int32} {k b : Int32} {I : xTI} {L : xTL} (hc : CuOK sz c) (h : AtR tb sz c o nm k b I L) : F_X11_readRule_j110 xN I L = some (if cK c = 8 then I else xup (xup I 57 13 1) 57 14 (I 57 9), L) := by
  unfold F_X11_readRule_j110
  rw [xbn_e, if_pos h.2.2.2.2.2.2.1, xbn_e, h.2.2.2.1]
  by_cases g : cK c = 8
  · rw [if_pos ((cR0 hc).mpr g), if_pos g]
  · rw [if_neg (fun e => g ((cR0 hc).mp e)), if_neg g, fail_y h.2.2.2.2.2.2.1, Option.bind_some]
theorem tailB {I : xTI} {L : xTL} (h : I 57 13 = 1) : F_X11_readRule_j110 xN I L = some (I, L) := by
  unfold F_X11_readRule_j110
  rw [xbn_e, if_neg (by rw [h]; decide)]
/-- KEYS -/
theorem key_y {c : Cu} {o : Nat} {nm : Nat → Int32} {k b : Int32} {I : xTI} {L : xTL} (hc : CuOK sz c) (h : AtR tb sz c o nm k b I L) (hk : cK c = 1) : ∃ w, w < 6 ∧ cV c = nI w ∧ cR c ≠ 4 ∧ F_X11_keyHere I L = some (nI w) := by
  rcases hc.2.2.2 with ⟨a, r⟩ | ⟨a, r⟩ | ⟨a, r, -⟩ | ⟨r, w, h20, hw, hk2, hv⟩ | ⟨r, x, hx, hk2, -⟩
  · rw [hk] at a; exact absurd a (by decide)
  · rw [hk] at a; exact absurd a (by decide)
  · rw [hk] at a; exact absurd a (by decide)
  · have h6 : w < 6 := by
      have : ∀ w, w < 20 → wKd w = 1 → w < 6 := by decide
      exact this w h20 (hk2.symm.trans hk)
    refine ⟨w, h6, by rw [hv]; unfold wVl; rw [if_pos h6], by rw [r]; decide, ?_⟩
    obtain ⟨-, -, -, a8, a10, -, a13, -⟩ := h
    have a10 := a10 (Or.inl r)
    have q : ∀ v, v < 20 → F_X11_isWord I L (Int64.ofNat (wNum v)) = some (if w = v then 1 else 0) := fun v hv => by
      rw [isW a13 (by rw [a8, r]), a10, hw]
      by_cases g : w = v
      · subst g; rw [if_pos rfl, if_pos rfl]
      · rw [if_neg g, if_neg]
        intro e
        exact g (wNum_q w (by omega) v hv ((i64n (wNum_lt w (by omega)) (wNum_lt v hv)).mp e))
    unfold F_X11_keyHere
    rw [show F_X11_isWord I L 355568 = _ from q 0 (by decide), show F_X11_isWord I L 168984 = _ from q 1 (by decide), show F_X11_isWord I L 237470 = _ from q 2 (by decide), show F_X11_isWord I L 257 = _ from q 3 (by decide), show F_X11_isWord I L 149125 = _ from q 4 (by decide), show F_X11_isWord I L 3181 = _ from q 5 (by decide)]
    have : w = 0 ∨ w = 1 ∨ w = 2 ∨ w = 3 ∨ w = 4 ∨ w = 5 := by omega
    rcases this with rfl | rfl | rfl | rfl | rfl | rfl <;> rfl
  · have := sgn_b hx
    rw [hk] at hk2
    have := (nI_lq (c := 1) rfl (by omega) (by decide)).mp hk2.symm
    omega
theorem key_n {c : Cu} {o : Nat} {nm : Nat → Int32} {k b : Int32} {I : xTI} {L : xTL} (hc : CuOK sz c) (h : AtR tb sz c o nm k b I L) (hk : cK c ≠ 1) : F_X11_keyHere I L = some (-1) := by
  have hall : ∀ v, v < 6 → F_X11_isWord I L (Int64.ofNat (wNum v)) = some 0 := by
    intro v hv
    obtain ⟨-, -, -, a8, a10, -, a13, -⟩ := h
    by_cases g : cR c = 1
    · rw [isW a13 (by rw [a8, g]), a10 (Or.inl g), if_neg]
      intro e
      rcases hc.2.2.2 with ⟨-, r⟩ | ⟨-, r⟩ | ⟨-, r, -⟩ | ⟨r, w, h20, hw, hk2, hv2⟩ | ⟨r, -⟩
      · rw [g] at r; exact absurd r (by decide)
      · rcases r with r | ⟨-, r⟩
        · rw [g] at r; exact absurd r (by decide)
        · exact r v (by omega) e
      · rw [g] at r; exact absurd r (by decide)
      · rw [hw] at e
        have := wNum_q w h20 v (by omega) ((i64n (wNum_lt w h20) (wNum_lt v (by omega))).mp e)
        subst this
        apply hk
        rw [hk2]; unfold wKd; rw [if_pos hv]
      · rw [g] at r; exact absurd r (by decide)
    · exact isW_n (Or.inr (by rw [a8]; exact g))
  unfold F_X11_keyHere
  rw [show F_X11_isWord I L 355568 = _ from hall 0 (by decide), show F_X11_isWord I L 168984 = _ from hall 1 (by decide), show F_X11_isWord I L 237470 = _ from hall 2 (by decide), show F_X11_isWord I L 257 = _ from hall 3 (by decide), show F_X11_isWord I L 149125 = _ from hall 4 (by decide), show F_X11_isWord I L 3181 = _ from hall 5 (by decide)]
  rfl
/-- what the class finds; what the reference finds -/
def RuC (tb : Nat → Nat) (sz : Nat) (ok : Bool) (cs1 cs2 : List Int32) (key f : Nat) : Prop := ∀ I, CT tb sz I → ∃ I2, F_X9_isRule xN I = some (bi ok, I2) ∧ FrD I I2 ∧ (ok = true → I2 29 6 = nI key ∧ I2 29 9 = nI cs1.length ∧ I2 29 8 = nI (cs1.length + cs2.length) ∧ ∀ i, i < cs1.length + cs2.length → I2 31 i = (cs1 ++ cs2).getD i 0) ∧ (ok = false → I2 29 2 = nI f)
def RuR (tb : Nat → Nat) (sz : Nat) (ok : Bool) (cs1 cs2 : List Int32) (key f : Nat) : Prop := ∀ (I : xTI) (L : xTL) (nm : Nat → Int32) (k b : Int32), xEnv I nm k b → RT tb sz I → ∃ I2 L2, F_X11_readRule xN I L k b = some (I2, L2) ∧ FrQ I I2 ∧ FrL L L2 ∧ (ok = true → I2 57 13 = 0 ∧ I2 57 17 = nI key ∧ I2 57 18 = evt nm cs1 ∧ I2 57 19 = (if cs2 = [] then 1 else if evt nm cs2 = 0 then 0 else 1)) ∧ (ok = false → I2 57 13 = 1 ∧ I2 57 14 = nI f)
theorem evt_of {nm : Nat → Int32} {cs : List Int32} {v : Int32} (h : ∀ st, evl nm cs st = v :: st) : evt nm cs = v := by
  unfold evt; rw [h]; rfl
/-- the reference up to the first token -/
theorem start_R {c : Cu} (hc : CuOK sz c) (tR : TokR tb sz 0 (cS c) (cN c) (cR c) (cW c)) {I : xTI} {L : xTL} {nm : Nat → Int32} {k b : Int32} (he : xEnv I nm k b) (h : RT tb sz I) : ∃ I6 L7, AtR tb sz c 0 nm k b I6 L7 ∧ FrQ I I6 ∧ FrL L L7 ∧ F_X11_readRule xN I L k b = Option.bind (F_X11_keyHere I6 L7) (fun v8 => xbn (xup I6 57 17 v8) (fun I9 => xbn (I9 57 17) (fun v10 => (if v10 = (-1) then Option.bind (F_X11_fail I9) (fun I13 => F_X11_readRule_j56 xN I13 L7) else Option.bind (F_X11_next xN I9 L7) (fun (I11, L12) => F_X11_readRule_j56 xN I11 L12))))) := by
  have h5 : RT tb sz (xup (xup (xup (xup (xup I 57 15 k) 57 16 b) 57 11 0) 57 12 0) 57 13 0) := ((((h.up (by decide) _).up (by decide) _).up (by decide) _).up (by decide) _).up (by decide) _
  have fr : FrQ I (xup (xup (xup (xup (xup I 57 15 k) 57 16 b) 57 11 0) 57 12 0) 57 13 0) := (((((FrQ.rfl' I).up (by decide) (by decide) _).up (by decide) (by decide) _).up (by decide) (by decide) _).up (by decide) (by decide) _).up (by decide) (by decide) _
  obtain ⟨I6, L7, e1, e2, e3, e4, e5, e6, e7⟩ := tR _ L h5 (by rw [xup_nj (by decide), xup_nj (by decide), xup_eq]; rfl)
  refine ⟨I6, L7, ⟨h5.fr e6.toP, e2, e3, e4, e5, ?_, ?_, ?_, ?_, ?_⟩, fr.trans e6.toP.toQ, e7, ?_⟩
  · rw [e6 57 12 (by decide), xup_nj (by decide), xup_eq]; rfl
  · rw [e6 57 13 (by decide), xup_eq]
  · rw [e6 57 15 (by decide), xup_nj (by decide), xup_nj (by decide), xup_nj (by decide), xup_nj (by decide), xup_eq]
  · rw [e6 57 16 (by decide), xup_nj (by decide), xup_nj (by decide), xup_nj (by decide), xup_eq]
  · refine he.fr ?_
    funext j
    exact (fr.trans e6.toP.toQ) 58 j (by omega)
  · unfold F_X11_readRule
    rw [xbn_e, xbn_e, xbn_e, xbn_e, xzc_0, xbn_e, e1, Option.bind_some]
theorem start_C {c : Cu} (tC : TokC tb sz 0 (cS c) (cN c) (cK c) (cV c)) {I : xTI} (h : CT tb sz I) : ∃ I3, AtC tb sz c [] I3 ∧ FrD I I3 ∧ F_X9_takeToken xN (xup (xup I 29 3 0) 29 8 0) = some I3 := by
  obtain ⟨I3, e1, e2, e3, e4, e5, e6⟩ := tC (xup (xup I 29 3 0) 29 8 0) ((h.up (by decide) _).up (by decide) _) (by rw [xup_nj (by decide), xup_eq]; rfl)
  refine ⟨I3, ⟨((h.up (by decide) _).up (by decide) _).fr e6.toC, e2, e3, e4, e5, ?_, fun i hi => absurd hi (Nat.not_lt_zero _)⟩, (((FrD.rfl' I).up (by decide) _).up (by decide) _).trans e6.toC.toD, e1⟩
  rw [e6 29 8 (by decide), xup_eq]; rfl
end RULE
