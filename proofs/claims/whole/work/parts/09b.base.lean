theorem xlp_for {S R : Type} {b : S → (S → Option R) → Option R} (st : Nat → S) (m : Nat) (out : Option R) (hstep : ∀ i, i < m → ∀ k, b (st i) k = k (st (i + 1))) (hexit : ∀ k, b (st m) k = out) : ∀ N, m < N → xlp b N (st 0) = out := by
  have key : ∀ d i N, i + d = m → d < N → xlp b N (st i) = out := by
    intro d
    induction d with
    | zero =>
      intro i N hi hN
      obtain ⟨N', rfl⟩ : ∃ N', N = N' + 1 := ⟨N - 1, by omega⟩
      rw [xlp_s, show i = m by omega]
      exact hexit _
    | succ d ih =>
      intro i N hi hN
      obtain ⟨N', rfl⟩ : ∃ N', N = N' + 1 := ⟨N - 1, by omega⟩
      rw [xlp_s, hstep i (by omega)]
      exact ih (i + 1) N' (by omega) (by omega)
  intro N hN
  exact key m 0 N (by omega) hN
theorem xbn_e {α R : Type} (e : α) (K : α → Option R) : xbn e K = K e := rfl
theorem xzc_0 {R : Type} (K : Option R) : xzc 0 K = K := rfl
theorem xzc_1 {R : Type} (K : Option R) : xzc 1 K = K := rfl
theorem xzc_ite {R : Type} (c : Prop) [Decidable c] (K : Option R) : xzc (if c then 1 else 0) K = K := by by_cases h : c <;> simp [h, xzc]
theorem ite01 (c : Prop) [Decidable c] : ((if c then (1 : Int32) else 0) = 0) = ¬ c := by by_cases h : c <;> simp [h]
theorem it_n {c : Prop} [Decidable c] (h : c) {α : Type} (a b : α) : (if ¬ c then a else b) = b := if_neg (fun g => g h)
theorem it_p {c : Prop} [Decidable c] (h : ¬ c) {α : Type} (a b : α) : (if ¬ c then a else b) = a := if_pos h
theorem F10_rf (I : xTI) (y : Int32) (j : Nat) (h : -y = nI j) (hj : j < 9) : F_X10_refuse I y = some (y, xup I 56 j (I 56 j + 1)) := by
  unfold F_X10_refuse
  rw [h, xal_n hj (by decide), xas_n hj (by decide)]
theorem F11_rf (I : xTI) (y : Int32) (j : Nat) (h : -y = nI j) (hj : j < 9) : F_X11_refuse I y = some (y, xup I 60 j (I 60 j + 1)) := by
  unfold F_X11_refuse
  rw [h, xal_n hj (by decide), xas_n hj (by decide)]
theorem F11_hu (I : xTI) (y : Int32) (j : Nat) (h : -y = nI j) (hj : j < 9) : F_X11_hush I y = some (0, xup I 60 j (I 60 j + 1)) := by
  unfold F_X11_hush
  rw [h, xal_n hj (by decide), xas_n hj (by decide)]
theorem F10_rz (I : xTI) (y : Int32) (j : Nat) (h : -y = nI j) (hj : j < 9) : F_X10_refuseAsZero I y = some (0, xup I 56 j (I 56 j + 1)) := by
  unfold F_X10_refuseAsZero
  rw [F10_rf I y j h hj]
  rfl
/-- both count a refusal -/
def rf (I : xTI) (j : Nat) : xTI := xup (xup I 56 j (I 56 j + 1)) 60 j (I 60 j + 1)
theorem rf_ne {I : xTI} {j k : Nat} (h1 : k ≠ 56) (h2 : k ≠ 60) : rf I j k = I k := by unfold rf; rw [xup_ne h2, xup_ne h1]
theorem rf_eq (I : xTI) (j : Nat) : xup (xup I 56 j (I 56 j + 1)) 60 j (xup I 56 j (I 56 j + 1) 60 j + 1) = rf I j := by
  unfold rf
  rw [xup_ne (k' := 60) (by decide)]
theorem xRel.rf {kp : Bool} {n : Nat} {I : xTI} {L : xTL} (h : xRel kp n I L) (j : Nat) : xRel kp (n + 1) (rf I j) L := by
  obtain ⟨⟨q, h1, h2⟩, h3, h4, h5, h6⟩ := pr_mono _ _ _ _ h
  refine ⟨⟨q, ?_, ?_⟩, ?_, ?_, ?_, ?_⟩
  · rw [rf_ne (by decide) (by decide)]
    exact h1.frame (fun k a b => rf_ne (by omega) (by omega)) (fun _ _ _ => rfl)
  · rw [rf_ne (by decide) (by decide)]
    exact h2
  · exact h3.frame (by rw [rf_ne (by decide) (by decide)]) (by rw [rf_ne (by decide) (by decide)]) (rf_ne (by decide) (by decide)) (rf_ne (by decide) (by decide))
  · exact h4.frame (by rw [rf_ne (by decide) (by decide)]) (by rw [rf_ne (by decide) (by decide)]) (by rw [rf_ne (by decide) (by decide)]) (rf_ne (by decide) (by decide)) (rf_ne (by decide) (by decide))
  · intro i a b
    have h5 := h5 i a b
    unfold Jvm.Pilot.CAccountDayLaw_law_r7630_15af01.rf
    simp only [xup]
    by_cases hi : i = j
    · subst hi
      simp [h5]
    · simp [hi, h5]
  · exact h6.frame (by rw [rf_ne (by decide) (by decide)]) (rf_ne (by decide) (by decide)) rfl (fun k a b => rf_ne (by omega) (by omega)) (fun _ _ _ => rfl)
theorem pr_tear : xs_tear xRel := by
  intro kp n I L hn h
  have h0 := pr_mono _ _ _ _ h
  obtain ⟨⟨q, h1, h2⟩, h3, h4, h5, h6⟩ := h0
  have key : xRel kp (n + 1) (xup (xup I 0 8 (-1)) 57 47 0) L := by
    refine ⟨⟨q, ?_, ?_⟩, ?_, ?_, ?_, ?_⟩
    · rw [xup_ne (k' := 58) (by decide), xup_ne (k' := 58) (by decide)]
      exact h1.frame (fun k a b => by rw [xup_ne (by omega), xup_ne (by omega)]) (fun _ _ _ => rfl)
    · rw [xup_ne (k' := 58) (by decide), xup_ne (k' := 58) (by decide)]
      exact h2
    · exact h3.frame (by simp [xup]) (by simp [xup]) (by rw [xup_ne (by decide), xup_ne (by decide)]) (by rw [xup_ne (by decide), xup_ne (by decide)])
    · exact Or.inl ⟨by simp [xup], by simp [xup]⟩
    · intro i a b
      rw [xup_ne (k' := 56) (by decide), xup_ne (k' := 56) (by decide), xup_ne (k' := 60) (by decide), xup_ne (k' := 60) (by decide)]
      exact h5 i a b
    · exact h6.frame (by simp [xup]) (by rw [xup_ne (by decide), xup_ne (by decide)]) rfl (fun k a b => by rw [xup_ne (by omega), xup_ne (by omega)]) (fun _ _ _ => rfl)
  unfold F_X10_tear F_X11_tear F_X10_tear_j13 F_X11_tear_j12
  simp only [xbn_e, xzc_0]
  rcases h4 with ⟨a, b⟩ | ⟨a, k, hk, b, c, d⟩
  · refine ⟨0, xup I 0 8 (-1), xup (xup I 0 8 (-1)) 57 47 0, by rw [if_pos b], ?_, key⟩
    rw [if_pos (by rw [xup_ne (by decide)]; exact a)]
  · refine ⟨1, xup I 0 8 (-1), xup (xup I 0 8 (-1)) 57 47 0, ?_, ?_, key⟩
    · rw [if_neg]
      rw [b]
      intro g
      have := congrArg Int32.toInt g
      rw [nI_toInt (by omega)] at this
      have e : (-1 : Int32).toInt = -1 := by decide
      rw [e] at this
      omega
    · rw [if_neg (by rw [xup_ne (by decide), a]; decide)]
