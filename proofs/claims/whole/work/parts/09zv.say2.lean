/-- the class's memory, with the reference's numbers s laid beside it -/
def mix (I : xTI) (s : Nat → Int32) : xTI := fun k => if k = 58 then s else I k
theorem F10_mu2 {I : xTI} {s : Nat → Int32} {q : Nat → Nat} {n : Nat} (h1 : BRm I s q) (h2 : IVm s q n) (hq : q 0 ≤ 700) (hq1 : q 1 ≤ 12) (h3 : I 3 0 = nI (q 1)) : F_X3_upCount xN I = some (nI (upn s (q 1))) :=
  F10_mu (I := mix I s) h1 h2 hq hq1 h3
def bI : Option Nat → Int32
  | none => -1
  | some b => nI b
theorem fill_eq (I : xTI) : F_J7_fill_53178_18 xN I 0 = some (wr I 18 0 (fun _ => 0) 10) := by
  unfold F_J7_fill_53178_18
  rw [show ((0 : Int32), I) = (fun i => (nI i, wr I 18 0 (fun _ => 0) i)) 0 from rfl]
  refine xlp_for (fun i => (nI i, wr I 18 0 (fun _ => 0) i)) 10 _ (fun i hi k => ?_) (fun k => ?_) xN (by decide)
  · show F_J7_fill_53178_18_c5 xN 0 10 (nI i) (wr I 18 0 (fun _ => 0) i) k = k (nI (i + 1), wr I 18 0 (fun _ => 0) (i + 1))
    unfold F_J7_fill_53178_18_c5
    rw [if_neg (show ¬ (10 : Int32) ≤ nI i from nI_ge (b := 10) hi (by decide)), xas_n hi (by decide), xbn_e, nI_1]
    show _ = k (nI (i + 1), xup (wr I 18 0 (fun _ => 0) i) 18 (0 + i) 0)
    rw [Nat.zero_add]
  · show F_J7_fill_53178_18_c5 xN 0 10 (nI 10) (wr I 18 0 (fun _ => 0) 10) k = _
    unfold F_J7_fill_53178_18_c5
    rw [if_pos (by decide)]
theorem name_all {I : xTI} {L : xTL} {s : Nat → Int32} {c : Nat → Int64} {q : Nat → Nat} {n : Nat} (hB : BR I L s c q) (hV : IV s c q n) {kk : Nat} (hk : kk < 5) (bo : Option Nat) (hbo : ∀ bb, bo = some bb → bb < 60 ∧ s (192 + 12 * bb) = 1) : ∃ I1, F_X5_nameAll xN I (nI kk) (bI bo) = some I1 ∧ (∀ k, k ≠ 18 → I1 k = I k) ∧ ∀ j, j < 10 → I1 18 j = nmO s (q 1) kk bo j := by
  obtain ⟨b1, b2, b3, b4, b5, b6⟩ := hB
  have s0 : s 0 = nI (q 0) := hV.1.1 0 (by decide)
  have i0 : I 1 0 = s 0 := by rw [s0]; exact b1.1
  have h0 : ∀ k, k ≠ 18 → wr I 18 0 (fun _ => 0) 10 k = I k := fun k hk => wr_ne hk _
  have h0z : ∀ j, j < 10 → wr I 18 0 (fun _ => 0) 10 18 j = 0 := fun j hj => by
    have := wr_in (I := I) (k := 18) (base := 0) (w := fun _ => (0 : Int32)) (t := j) 10 hj
    rw [Nat.zero_add] at this; exact this
  unfold F_X5_nameAll
  rw [fill_eq, Option.bind_some]
  generalize wr I 18 0 (fun _ => 0) 10 = A at h0 h0z ⊢
  have x0 : ∀ (J : xTI) (v : Int32) (K : xTI → Option xTI), xas J 18 10 0 v K = K (xup J 18 0 v) := fun J v K => xas_n (i := 0) (by decide) (by decide)
  have x1 : ∀ (J : xTI) (v : Int32) (K : xTI → Option xTI), xas J 18 10 1 v K = K (xup J 18 1 v) := fun J v K => xas_n (i := 1) (by decide) (by decide)
  have x2 : ∀ (J : xTI) (v : Int32) (K : xTI → Option xTI), xas J 18 10 2 v K = K (xup J 18 2 v) := fun J v K => xas_n (i := 2) (by decide) (by decide)
  have x3 : ∀ (J : xTI) (v : Int32) (K : xTI → Option xTI), xas J 18 10 3 v K = K (xup J 18 3 v) := fun J v K => xas_n (i := 3) (by decide) (by decide)
  have x4 : ∀ (J : xTI) (v : Int32) (K : xTI → Option xTI), xas J 18 10 4 v K = K (xup J 18 4 v) := fun J v K => xas_n (i := 4) (by decide) (by decide)
  have x5 : ∀ (J : xTI) (v : Int32) (K : xTI → Option xTI), xas J 18 10 5 v K = K (xup J 18 5 v) := fun J v K => xas_n (i := 5) (by decide) (by decide)
  have x6 : ∀ (J : xTI) (v : Int32) (K : xTI → Option xTI), xas J 18 10 6 v K = K (xup J 18 6 v) := fun J v K => xas_n (i := 6) (by decide) (by decide)
  have x7 : ∀ (J : xTI) (v : Int32) (K : xTI → Option xTI), xas J 18 10 7 v K = K (xup J 18 7 v) := fun J v K => xas_n (i := 7) (by decide) (by decide)
  have x8 : ∀ (J : xTI) (v : Int32) (K : xTI → Option xTI), xas J 18 10 8 v K = K (xup J 18 8 v) := fun J v K => xas_n (i := 8) (by decide) (by decide)
  have x9 : ∀ (J : xTI) (v : Int32) (K : xTI → Option xTI), xas J 18 10 9 v K = K (xup J 18 9 v) := fun J v K => xas_n (i := 9) (by decide) (by decide)
  have nx : ∀ {J : xTI} {i k : Nat} {v : Int32}, k ≠ 18 → xup J 18 i v k = J k := fun h => xup_ne h
  have hup : ∀ J : xTI, (∀ k, k ≠ 18 → J k = I k) → F_X3_upCount xN J = some (nI (upn s (q 1))) := fun J hJ => by
    refine F10_mu2 (n := n) ?_ hV.2.1 hV.1.2.1 hV.1.2.2.1 (by rw [hJ 3 (by decide)]; exact b1.2.1)
    exact b2.fr hV.1.2.2.1 (hJ 7 (by decide)) (hJ 8 (by decide)) (hJ 9 (by decide)) (hJ 10 (by decide)) (hJ 2 (by decide)) (fun _ _ _ => rfl)
  have h4 : ∃ J, (∀ k, k ≠ 18 → J k = I k) ∧ J 18 0 = nI kk ∧ J 18 1 = s (184 + kk) ∧ J 18 2 = s 0 ∧ J 18 3 = s 0 - s 0 / 14 * 14 ∧ J 18 4 = nI (upn s (q 1)) ∧ (∀ j, 5 ≤ j → j < 10 → J 18 j = 0) ∧ (xas A 18 10 0 (nI kk) fun I2 => xal I2 2 5 (nI kk) fun v3 => xas I2 18 10 1 v3 fun I4 => xbn (I4 1 0) fun v5 => xas I4 18 10 2 v5 fun I6 => Option.bind (F_X1_place I6) fun v7 => xas I6 18 10 3 v7 fun I8 => Option.bind (F_X3_upCount xN I8) fun v9 => xas I8 18 10 4 v9 fun I10 => if bI bo = -1 then some I10 else Option.bind (F_X0_at I10 (bI bo) 3) fun v11 => xas I10 18 10 5 v11 fun I12 => Option.bind (F_X0_at I12 (bI bo) 4) fun v13 => xas I12 18 10 6 v13 fun I14 => Option.bind (F_X0_at I14 (bI bo) 0) fun v15 => xas I14 18 10 7 v15 fun I16 => Option.bind (F_X0_at I16 (bI bo) 1) fun v17 => xas I16 18 10 8 v17 fun I18 => Option.bind (F_X0_marksOf I18 (bI bo)) fun v19 => xas I18 18 10 9 v19 fun I20 => some I20) = (if bI bo = -1 then some J else Option.bind (F_X0_at J (bI bo) 3) fun v11 => xas J 18 10 5 v11 fun I12 => Option.bind (F_X0_at I12 (bI bo) 4) fun v13 => xas I12 18 10 6 v13 fun I14 => Option.bind (F_X0_at I14 (bI bo) 0) fun v15 => xas I14 18 10 7 v15 fun I16 => Option.bind (F_X0_at I16 (bI bo) 1) fun v17 => xas I16 18 10 8 v17 fun I18 => Option.bind (F_X0_marksOf I18 (bI bo)) fun v19 => xas I18 18 10 9 v19 fun I20 => some I20) := by
    refine ⟨xup (xup (xup (xup (xup A 18 0 (nI kk)) 18 1 (s (184 + kk))) 18 2 (s 0)) 18 3 (s 0 - s 0 / 14 * 14)) 18 4 (nI (upn s (q 1))), fun k hk => ?_, by simp [xup], by simp [xup], by simp [xup], by simp [xup], by simp [xup], fun j h1 h2 => ?_, ?_⟩
    · rw [nx hk, nx hk, nx hk, nx hk, nx hk, h0 k hk]
    · rw [xup_nj (by omega), xup_nj (by omega), xup_nj (by omega), xup_nj (by omega), xup_nj (by omega), h0z j h2]
    · rw [x0, xal_n hk (by decide), nx (k := 2) (by decide), h0 2 (by decide), b2.2.2 kk hk, x1, xbn_e, nx (k := 1) (by decide), nx (k := 1) (by decide), h0 1 (by decide), i0, x2]
      have hpl : F_X1_place (xup (xup (xup A 18 0 (nI kk)) 18 1 (s (184 + kk))) 18 2 (s 0)) = some (s 0 - s 0 / 14 * 14) := by
        unfold F_X1_place
        rw [xbn_e, nx (k := 1) (by decide), nx (k := 1) (by decide), nx (k := 1) (by decide), h0 1 (by decide), i0]
      rw [hpl, Option.bind_some, x3, hup _ (fun k hk => by rw [nx hk, nx hk, nx hk, nx hk, h0 k hk]), Option.bind_some, x4]
  obtain ⟨J, j1, j2, j3, j4, j5, j6, j7, j8⟩ := h4
  rw [j8]
  cases bo with
  | none =>
    refine ⟨J, if_pos rfl, j1, fun j hj => ?_⟩
    have : j = 0 ∨ j = 1 ∨ j = 2 ∨ j = 3 ∨ j = 4 ∨ 5 ≤ j := by omega
    rcases this with rfl | rfl | rfl | rfl | rfl | h5
    · exact j2
    · exact j3
    · exact j4
    · exact j5
    · exact j6
    · obtain ⟨i, rfl⟩ : ∃ i, j = i + 5 := ⟨j - 5, by omega⟩
      rw [j7 _ h5 hj]; rfl
  | some bb =>
    obtain ⟨hb, hs⟩ := hbo bb rfl
    have hbc : ∀ t, t < 11 → I 13 (11 * bb + t) = s (192 + 12 * bb + 1 + t) := by
      rcases b4 bb hb with ⟨g, -⟩ | ⟨-, g⟩
      · rw [g] at hs; exact absurd hs (by decide)
      · exact g
    have ha : ∀ (K : xTI) (t : Nat), (∀ k, k ≠ 18 → K k = I k) → t < 11 → F_X0_at K (nI bb) (nI t) = some (s (192 + 12 * bb + 1 + t)) := fun K t hK ht => by
      unfold F_X0_at
      rw [at12 hb ht, Option.bind_some, hK 13 (by decide), hbc t ht]
    have hm : ∀ (K : xTI), (∀ k, k ≠ 18 → K k = I k) → F_X0_marksOf K (nI bb) = some ((if s (192 + 12 * bb + 9) = -1 then 0 else 1) + (if s (192 + 12 * bb + 10) = -1 then 0 else 2)) := fun K hK => by
      have a8 : F_X8_at_12 K (nI bb) 8 = some (s (192 + 12 * bb + 9)) := by rw [at12_8 hb, hK 13 (by decide), hbc 8 (by decide)]
      have a9 : F_X8_at_12 K (nI bb) 9 = some (s (192 + 12 * bb + 10)) := by rw [at12_9 hb, hK 13 (by decide), hbc 9 (by decide)]
      unfold F_X0_marksOf F_X0_marksOf_j19
      rw [a8, a9, Option.bind_some, Option.bind_some, Option.bind_some]
      by_cases g : s (192 + 12 * bb + 9) = -1 <;> by_cases g2 : s (192 + 12 * bb + 10) = -1 <;> simp [g, g2]
    have e1 : ∀ {K : xTI} {i : Nat} {v : Int32}, (∀ k, k ≠ 18 → K k = I k) → ∀ k, k ≠ 18 → xup K 18 i v k = I k := fun h k hk => by rw [xup_ne hk, h k hk]
    refine ⟨xup (xup (xup (xup (xup J 18 5 (s (192 + 12 * bb + 4))) 18 6 (s (192 + 12 * bb + 5))) 18 7 (s (192 + 12 * bb + 1))) 18 8 (s (192 + 12 * bb + 2))) 18 9 ((if s (192 + 12 * bb + 9) = -1 then 0 else 1) + (if s (192 + 12 * bb + 10) = -1 then 0 else 2)), ?_, e1 (e1 (e1 (e1 (e1 j1)))), fun j hj => ?_⟩
    · show (if nI bb = -1 then _ else Option.bind (F_X0_at J (nI bb) (nI 3)) _) = _
      rw [if_neg (nI_ne_m1 (by omega)), ha J 3 j1 (by decide), Option.bind_some, x5]
      show Option.bind (F_X0_at _ (nI bb) (nI 4)) _ = _
      rw [ha _ 4 (e1 j1) (by decide), Option.bind_some, x6]
      show Option.bind (F_X0_at _ (nI bb) (nI 0)) _ = _
      rw [ha _ 0 (e1 (e1 j1)) (by decide), Option.bind_some, x7]
      show Option.bind (F_X0_at _ (nI bb) (nI 1)) _ = _
      rw [ha _ 1 (e1 (e1 (e1 j1))) (by decide), Option.bind_some, x8]
      show Option.bind (F_X0_marksOf _ (nI bb)) _ = _
      rw [hm _ (e1 (e1 (e1 (e1 j1)))), Option.bind_some, x9]
    · have : j = 0 ∨ j = 1 ∨ j = 2 ∨ j = 3 ∨ j = 4 ∨ j = 5 ∨ j = 6 ∨ j = 7 ∨ j = 8 ∨ j = 9 := by omega
      rcases this with rfl | rfl | rfl | rfl | rfl | rfl | rfl | rfl | rfl | rfl
      · simp [xup, j2, nmO]
      · simp [xup, j3, nmO]
      · simp [xup, j4, nmO]
      · simp [xup, j5, nmO]
      · simp [xup, j6, nmO]
      · simp [xup, nmO]
      · simp [xup, nmO]
      · simp [xup, nmO]
      · simp [xup, nmO]
      · simp [xup, nmO]
