section PARSE2
variable {tb : Nat → Nat} {sz : Nat}
/-- the tokens that join, level by level -/
def jo : Nat → Int32 → Prop
  | 0, k => k = 5
  | 1, k => k = 6
  | 2, k => k = 61 ∨ k = 60 ∨ k = 62
  | 3, k => k = 43 ∨ k = 45
  | _, k => k = 42 ∨ k = 47 ∨ k = 37
theorem jo_ne8 {l : Nat} {k : Int32} (h : jo l k) : k ≠ 8 := by
  match l, h with
  | 0, h => rw [show k = 5 from h]; decide
  | 1, h => rw [show k = 6 from h]; decide
  | 2, h => rcases (show k = 61 ∨ k = 60 ∨ k = 62 from h) with h | h | h <;> (rw [h]; decide)
  | 3, h => rcases (show k = 43 ∨ k = 45 from h) with h | h <;> (rw [h]; decide)
  | l + 4, h => rcases (show k = 42 ∨ k = 47 ∨ k = 37 from h) with h | h | h <;> (rw [h]; decide)
theorem joins_y {I : xTI} {l : Nat} (hl : l ≤ 4) (h : jo l (I 29 4)) : F_X9_joins I (nI l) = some 1 := by
  have : l = 0 ∨ l = 1 ∨ l = 2 ∨ l = 3 ∨ l = 4 := by omega
  unfold F_X9_joins
  rcases this with rfl | rfl | rfl | rfl | rfl
  · rw [if_pos (by decide), xbn_e, if_pos (show I 29 4 = 5 from h)]; rfl
  · rw [if_neg (by decide), if_pos (by decide), xbn_e, if_pos (show I 29 4 = 6 from h)]; rfl
  · rw [if_neg (by decide), if_neg (by decide), if_pos (by decide)]
    rcases (show I 29 4 = 61 ∨ I 29 4 = 60 ∨ I 29 4 = 62 from h) with h | h | h <;> (simp only [xbn_e, h]; rfl)
  · rw [if_neg (by decide), if_neg (by decide), if_neg (by decide), if_pos (by decide)]
    rcases (show I 29 4 = 43 ∨ I 29 4 = 45 from h) with h | h <;> (simp only [xbn_e, h]; rfl)
  · rw [if_neg (by decide), if_neg (by decide), if_neg (by decide), if_neg (by decide)]
    rcases (show I 29 4 = 42 ∨ I 29 4 = 47 ∨ I 29 4 = 37 from h) with h | h | h <;> (simp only [xbn_e, h]; rfl)
theorem joins_n {I : xTI} {l : Nat} (hl : l ≤ 4) (h : ¬ jo l (I 29 4)) : F_X9_joins I (nI l) = some 0 := by
  have : l = 0 ∨ l = 1 ∨ l = 2 ∨ l = 3 ∨ l = 4 := by omega
  unfold F_X9_joins
  rcases this with rfl | rfl | rfl | rfl | rfl
  · rw [if_pos (by decide), xbn_e, if_neg (show ¬ I 29 4 = 5 from h)]; rfl
  · rw [if_neg (by decide), if_pos (by decide), xbn_e, if_neg (show ¬ I 29 4 = 6 from h)]; rfl
  · rw [if_neg (by decide), if_neg (by decide), if_pos (by decide), xbn_e, if_neg (fun e => h (Or.inl e)), xbn_e, if_neg (fun e => h (Or.inr (Or.inl e))), xbn_e, if_neg (fun e => h (Or.inr (Or.inr e)))]; rfl
  · rw [if_neg (by decide), if_neg (by decide), if_neg (by decide), if_pos (by decide), xbn_e, if_neg (fun e => h (Or.inl e)), xbn_e, if_neg (fun e => h (Or.inr e))]; rfl
  · rw [if_neg (by decide), if_neg (by decide), if_neg (by decide), if_neg (by decide), xbn_e, if_neg (fun e => h (Or.inl e)), xbn_e, if_neg (fun e => h (Or.inr (Or.inl e))), xbn_e, if_neg (fun e => h (Or.inr (Or.inr e)))]; rfl
theorem evl_app (nm : Nat → Int32) (a b st : List Int32) : evl nm (a ++ b) st = evl nm b (evl nm a st) := by
  unfold evl; rw [List.foldl_append]
theorem evl_one (nm : Nat → Int32) (c : Int32) (st : List Int32) : evl nm [c] st = st1 nm st c := rfl
theorem st1_jn {nm : Nat → Int32} {k v w : Int32} {st : List Int32} (h : k = 5 ∨ k = 6 ∨ k = 61 ∨ k = 60 ∨ k = 62 ∨ k = 43 ∨ k = 45 ∨ k = 42 ∨ k = 47 ∨ k = 37) : st1 nm (w :: v :: st) (-100 - k) = jn k v w :: st := by
  unfold st1
  have h1 : (-100 - k) ≤ -11 := by rcases h with h | h | h | h | h | h | h | h | h | h <;> (rw [h]; decide)
  have h2 : ¬ (-100 - k) = -20 := by rcases h with h | h | h | h | h | h | h | h | h | h <;> (rw [h]; decide)
  have h3 : ¬ (-100 - k) = -21 := by rcases h with h | h | h | h | h | h | h | h | h | h <;> (rw [h]; decide)
  have h4 : -100 - (-100 - k) = k := by rcases h with h | h | h | h | h | h | h | h | h | h <;> (rw [h]; decide)
  rw [if_pos h1, if_neg h2, if_neg h3, h4]
theorem jo_in {l : Nat} {k : Int32} (h : jo l k) : k = 5 ∨ k = 6 ∨ k = 61 ∨ k = 60 ∨ k = 62 ∨ k = 43 ∨ k = 45 ∨ k = 42 ∨ k = 47 ∨ k = 37 := by
  match l, h with
  | 0, h => exact Or.inl h
  | 1, h => exact Or.inr (Or.inl h)
  | 2, h => rcases (show k = 61 ∨ k = 60 ∨ k = 62 from h) with h | h | h <;> simp [h]
  | 3, h => rcases (show k = 43 ∨ k = 45 from h) with h | h <;> simp [h]
  | l + 4, h => rcases (show k = 42 ∨ k = 47 ∨ k = 37 from h) with h | h | h <;> simp [h]
/-- a token that joins is none that the reference can't read -/
theorem jo_R {sz l : Nat} {c : Cu} (hc : CuOK sz c) (h : jo l (cK c)) : cR c ≠ 4 := by
  obtain ⟨-, -, -, t⟩ := hc
  have hj := jo_in h
  rcases t with ⟨a, b⟩ | ⟨a, b⟩ | ⟨a, b, -⟩ | ⟨a, -⟩ | ⟨a, -⟩
  · rw [b]; decide
  · rw [a] at hj; exact absurd hj (by decide)
  · rw [b]; decide
  · rw [a]; decide
  · rw [a]; decide
/-- how the reference's loop goes at level l -/
def RLoop (tb : Nat → Nat) (sz l o d : Nat) (rb : Int32 × xTI × xTL → (Int32 × xTI × xTL → Option (Int32 × xTI × xTL)) → Option (Int32 × xTI × xTL)) : Prop :=
  (∀ (c : Cu) (nm : Nat → Int32) (k b : Int32) (I : xTI) (L : xTL) (v : Int32) K, CuOK sz c → AtR tb sz c o nm k b I L → ¬ jo l (cK c) → rb (v, I, L) K = some (v, I, L)) ∧
  (∀ (c : Cu) (nm : Nat → Int32) (k b : Int32) (I : xTI) (L : xTL) (v : Int32) K, CuOK sz c → AtR tb sz c o nm k b I L → jo l (cK c) → rb (v, I, L) K = Option.bind (F_X11_next xN I L) (fun (I1, L1) => Option.bind (F11l d (l + 1) I1 L1) (fun (w, I2, L2) => K (jn (cK c) v w, I2, L2)))) ∧
  (∀ (I : xTI) (L : xTL) (v : Int32) K, I 57 13 = 1 → rb (v, I, L) K = some (v, I, L))
theorem bi_t : bi true = 1 := rfl
theorem bi_f : bi false = 0 := rfl
theorem loop_sim (hsz : sz ≤ 120) (hb : ∀ i, i < sz → tb i ≤ 255) {l o : Nat} (hl : l ≤ 4) (B : Nat) (hS : ∀ c2, CuOK sz c2 → B < cS c2 → Sim tb sz (l + 1) o c2) : ∀ (n : Nat) (c : Cu), sz - cS c ≤ n → CuOK sz c → B ≤ cS c →
    ∃ ok cs c', CuOK sz c' ∧ cS c ≤ cS c' ∧ (ok = true → cs.length + cS c ≤ cS c') ∧
      (∀ (d M i : Nat) (I : xTI) (cd : List Int32), (6 - o) * 8 + 8 - (l + 1) ≤ d → AtC tb sz c cd I → cd.length ≤ cS c → i ≤ cS c → sz - cS c < M → ∃ I2, xlp (F_X9_readLevel_b59 (F_X9_R xN d).1 (F_X9_R xN d).2.1 (F_X9_R xN d).2.2 xN (nI l) (nI o) 120) M (1, nI i, I) = some (bi ok, I2) ∧ FrC I I2 ∧ (ok = true → AtC tb sz c' (cd ++ cs) I2) ∧ (ok = false → I2 29 2 = nI (cS c') ∧ ∃ z, z ≤ 120 ∧ I2 29 8 = nI z)) ∧
      (∀ (d M : Nat) (rb) (I : xTI) (L : xTL) (nm : Nat → Int32) (k b v : Int32), (6 - o) * 8 + 8 - (l + 1) ≤ d → RLoop tb sz l o d rb → AtR tb sz c o nm k b I L → sz - cS c < M → ∃ v' I2 L2, xlp rb M (v, I, L) = some (v', I2, L2) ∧ FrP I I2 ∧ FrL L L2 ∧ (ok = true → AtR tb sz c' o nm k b I2 L2 ∧ ∀ st, evl nm cs (v :: st) = v' :: st) ∧ (ok = false → I2 57 13 = 1 ∧ I2 57 14 = nI (cS c'))) := by
  intro n
  induction n with
  | zero => ?_
  | succ n ih => ?_
  all_goals
    intro c hn hc hB
    by_cases hj : jo l (cK c)
  · exfalso
    have := hc.2.2.1 (jo_ne8 hj)
    have := hc.2.1
    omega
  rotate_left
  · have hlt := hc.2.2.1 (jo_ne8 hj)
    have hN := hc.2.1
    obtain ⟨c2, hc2, hp2, tC, tR⟩ := adv_ex hsz hb hN
    obtain ⟨ok2, cs2, c3, hc3, h23, hlen, sC, sR⟩ := hS c2 hc2 (by omega)
    cases ok2 with
    | false =>
      refine ⟨false, [], c3, hc3, by omega, (fun g => by cases g), ?_, ?_⟩
      · intro d M i I cd hd hA hcd hi hM
        obtain ⟨M', rfl⟩ : ∃ M', M = M' + 1 + 1 := ⟨M - 2, by omega⟩
        obtain ⟨I2, e1, e2, e3⟩ := advC hA tC
        obtain ⟨I3, f1, f2, -, f4⟩ := sC d I2 cd hd e2 (by omega)
        obtain ⟨f5, z, hz, f6⟩ := f4 rfl
        obtain ⟨I4, z', g1, g2, g3, g4, g5⟩ := em_any f6 hz (-100 - cK c)
        refine ⟨I4, ?_, (e3.trans f2).trans g2, fun g => (by cases g), fun _ => ⟨by rw [g3, f5], z', g5, g4⟩⟩
        rw [xlp_s]
        show F_X9_readLevel_c59 _ _ _ xN (nI l) (nI o) 120 1 (nI i) I _ = _
        unfold F_X9_readLevel_c59
        rw [if_neg (n120 (by omega)), if_neg (by decide), joins_y hl (by rw [hA.2.2.2.1]; exact hj), Option.bind_some, if_neg (by decide), xbn_e, hA.2.2.2.1, e1, Option.bind_some, nI_1, f1, Option.bind_some]
        show Option.bind (F_X9_emit I3 (-100 - cK c)) _ = _
        rw [g1, Option.bind_some, xbn_e, xlp_s]
        show F_X9_readLevel_c59 _ _ _ xN (nI l) (nI o) 120 (bi false) (nI i + 1) I4 _ = _
        unfold F_X9_readLevel_c59
        rw [bi_f, if_pos (show (0 : Int32) = 0 from rfl), ite_self, xzc_0]
      · intro d M rb I L nm k b v hd hr hA hM
        obtain ⟨M', rfl⟩ : ∃ M', M = M' + 1 + 1 := ⟨M - 2, by omega⟩
        obtain ⟨I2, L2, e1, e2, e3, e4⟩ := advR hA (jo_R hc hj) tR
        obtain ⟨w, I3, L3, f1, f2, f3, -, f5⟩ := sR d I2 L2 nm k b hd e2
        obtain ⟨f6, f7⟩ := f5 rfl
        refine ⟨jn (cK c) v w, I3, L3, ?_, e3.trans f2, e4.trans f3, fun g => (by cases g), fun _ => ⟨f6, f7⟩⟩
        rw [xlp_s, hr.2.1 c nm k b I L v _ hc hA hj, e1, Option.bind_some]
        show Option.bind (F11l d (l + 1) I2 L2) _ = _
        rw [f1, Option.bind_some]
        show xlp rb (M' + 1) (jn (cK c) v w, I3, L3) = _
        rw [xlp_s, hr.2.2 _ _ _ _ f6]
    | true =>
      have hlen := hlen rfl
      obtain ⟨ok4, cs4, c4, hc4, h34, hlen4, lC, lR⟩ := ih c3 (by omega) hc3 (by omega)
      refine ⟨ok4, cs2 ++ [-100 - cK c] ++ cs4, c4, hc4, by omega, fun g => ?_, ?_, ?_⟩
      · have := hlen4 g
        rw [List.length_append, List.length_append, List.length_singleton]
        omega
      · intro d M i I cd hd hA hcd hi hM
        obtain ⟨M', rfl⟩ : ∃ M', M = M' + 1 := ⟨M - 1, by omega⟩
        obtain ⟨I2, e1, e2, e3⟩ := advC hA tC
        obtain ⟨I3, f1, f2, f3, -⟩ := sC d I2 cd hd e2 (by omega)
        have f3 := f3 rfl
        have hl3 : (cd ++ cs2).length < 120 := by
          rw [List.length_append]
          have := hc3.1
          omega
        obtain ⟨I4, g1, g2, g3⟩ := emC f3 hl3 (-100 - cK c)
        obtain ⟨I5, h1, h2, h3, h4⟩ := lC d M' (i + 1) I4 (cd ++ cs2 ++ [-100 - cK c]) hd g2 (by
          rw [List.length_append, List.length_append, List.length_singleton]; omega) (by omega) (by omega)
        refine ⟨I5, ?_, ((e3.trans f2).trans g3).trans h2, fun g => ?_, h4⟩
        · rw [xlp_s]
          show F_X9_readLevel_c59 _ _ _ xN (nI l) (nI o) 120 1 (nI i) I _ = _
          unfold F_X9_readLevel_c59
          rw [if_neg (n120 (by omega)), if_neg (by decide), joins_y hl (by rw [hA.2.2.2.1]; exact hj), Option.bind_some, if_neg (by decide), xbn_e, hA.2.2.2.1, e1, Option.bind_some, nI_1, f1, Option.bind_some]
          show Option.bind (F_X9_emit I3 (-100 - cK c)) _ = _
          rw [g1, Option.bind_some, xbn_e, nI_1]
          exact h1
        · have := h3 g
          rw [show cd ++ (cs2 ++ [-100 - cK c] ++ cs4) = cd ++ cs2 ++ [-100 - cK c] ++ cs4 by simp]
          exact this
      · intro d M rb I L nm k b v hd hr hA hM
        obtain ⟨M', rfl⟩ : ∃ M', M = M' + 1 := ⟨M - 1, by omega⟩
        obtain ⟨I2, L2, e1, e2, e3, e4⟩ := advR hA (jo_R hc hj) tR
        obtain ⟨w, I3, L3, f1, f2, f3, f4, -⟩ := sR d I2 L2 nm k b hd e2
        obtain ⟨f5, f6⟩ := f4 rfl
        obtain ⟨v', I5, L5, h1, h2, h3, h4, h5⟩ := lR d M' rb I3 L3 nm k b (jn (cK c) v w) hd hr f5 (by omega)
        refine ⟨v', I5, L5, ?_, (e3.trans f2).trans h2, (e4.trans f3).trans h3, fun g => ⟨(h4 g).1, fun st => ?_⟩, h5⟩
        · rw [xlp_s, hr.2.1 c nm k b I L v _ hc hA hj, e1, Option.bind_some]
          show Option.bind (F11l d (l + 1) I2 L2) _ = _
          rw [f1, Option.bind_some]
          exact h1
        · rw [evl_app, evl_app, f6, evl_one, st1_jn (jo_in hj)]
          exact (h4 g).2 st
  all_goals
    refine ⟨true, [], c, hc, Nat.le_refl _, fun _ => by simp, ?_, ?_⟩
    · intro d M i I cd hd hA hcd hi hM
      obtain ⟨M', rfl⟩ : ∃ M', M = M' + 1 := ⟨M - 1, by omega⟩
      refine ⟨I, ?_, FrC.rfl' I, fun _ => by rw [List.append_nil]; exact hA, fun g => by cases g⟩
      rw [xlp_s]
      show F_X9_readLevel_c59 _ _ _ xN (nI l) (nI o) 120 1 (nI i) I _ = _
      unfold F_X9_readLevel_c59
      rw [if_neg (show ¬ (1 : Int32) = 0 by decide), joins_n hl (by rw [hA.2.2.2.1]; exact hj), Option.bind_some, if_pos (show (0 : Int32) = 0 from rfl), ite_self, xzc_1]
      rfl
    · intro d M rb I L nm k b v hd hr hA hM
      obtain ⟨M', rfl⟩ : ∃ M', M = M' + 1 := ⟨M - 1, by omega⟩
      refine ⟨v, I, L, ?_, FrP.rfl' I, FrL.rfl' L, fun _ => ⟨hA, fun st => rfl⟩, fun g => by cases g⟩
      rw [xlp_s, hr.1 c nm k b I L v _ hc hA hj]
end PARSE2
