section
/-! run: what a rule says while holds are on the move -/
/-- the class's memory with the reference's holds, and its word that an account was settled, laid in -/
def ovh (I : xTI) (s : Nat → Int32) : xTI := fun k => if k = 9 then (fun j => s (64 + j)) else if k = 1 then (fun j => if j = 12 then s 9 else I 1 j) else I k
def BRw (I : xTI) (s : Nat → Int32) (q : Nat → Nat) : Prop := BRi (ovh I s) s q
theorem name_allh {I : xTI} {s : Nat → Int32} {c : Nat → Int64} {q : Nat → Nat} {n : Nat} (hB : BRw I s q) (hV : IV s c q n) {kk : Nat} (hk : kk < 5) (bo : Option Nat) (hbo : ∀ bb, bo = some bb → bb < 60 ∧ s (192 + 12 * bb) = 1) : ∃ I1, F_X5_nameAll xN I (nI kk) (bI bo) = some I1 ∧ (∀ k, k ≠ 18 → I1 k = I k) ∧ ∀ j, j < 10 → I1 18 j = nmO s (q 1) kk bo j := by
  obtain ⟨b1', b2, b4', b5, b6⟩ := hB
  have b1 : I 1 0 = nI (q 0) ∧ I 3 0 = nI (q 1) := ⟨b1'.1, b1'.2.1⟩
  have b4 : BRb I s := b4'
  have b22 : ∀ k, k < 5 → I 2 k = s (184 + k) := b2.2.2
  have s0 : s 0 = nI (q 0) := hV.1.1 0 (by decide)
  have i0 : I 1 0 = s 0 := by rw [s0]; exact b1.1
  have h0 : ∀ k, k ≠ 18 → wr I 18 0 (fun _ => 0) 10 k = I k := fun k hk => wr_ne hk _
  have h0z : ∀ j, j < 10 → wr I 18 0 (fun _ => 0) 10 18 j = 0 := fun j hj => by
    have := wr_in (I := I) (k := 18) (base := 0) (w := fun _ => (0 : Int32)) (t := j) 10 hj
    rw [Nat.zero_add] at this; exact this
  unfold F_X5_nameAll
  rw [fill_eq, Option.bind_some]
  generalize wr I 18 0 (fun _ => 0) 10 = A at h0 h0z ⊢
  have x0 : ∀ (J : xTI) (v : Int32) (K : xTI → Option xTI), xas J 18 10 0 v K = K (xup J 18 0 v) := fun J v K => xas_n (i := 0) (by decide) (by decide)
  have x1 : ∀ (J : xTI) (v : Int32) (K : xTI → Option xTI), xas J 18 10 1 v K = K (xup J 18 1 v) := fun J v K => xas_n (i := 1) (by decide) (by decide)
  have x2 : ∀ (J : xTI) (v : Int32) (K : xTI → Option xTI), xas J 18 10 2 v K = K (xup J 18 2 v) := fun J v K => xas_n (i := 2) (by decide) (by decide)
  have x3 : ∀ (J : xTI) (v : Int32) (K : xTI → Option xTI), xas J 18 10 3 v K = K (xup J 18 3 v) := fun J v K => xas_n (i := 3) (by decide) (by decide)
  have x4 : ∀ (J : xTI) (v : Int32) (K : xTI → Option xTI), xas J 18 10 4 v K = K (xup J 18 4 v) := fun J v K => xas_n (i := 4) (by decide) (by decide)
  have x5 : ∀ (J : xTI) (v : Int32) (K : xTI → Option xTI), xas J 18 10 5 v K = K (xup J 18 5 v) := fun J v K => xas_n (i := 5) (by decide) (by decide)
  have x6 : ∀ (J : xTI) (v : Int32) (K : xTI → Option xTI), xas J 18 10 6 v K = K (xup J 18 6 v) := fun J v K => xas_n (i := 6) (by decide) (by decide)
  have x7 : ∀ (J : xTI) (v : Int32) (K : xTI → Option xTI), xas J 18 10 7 v K = K (xup J 18 7 v) := fun J v K => xas_n (i := 7) (by decide) (by decide)
  have x8 : ∀ (J : xTI) (v : Int32) (K : xTI → Option xTI), xas J 18 10 8 v K = K (xup J 18 8 v) := fun J v K => xas_n (i := 8) (by decide) (by decide)
  have x9 : ∀ (J : xTI) (v : Int32) (K : xTI → Option xTI), xas J 18 10 9 v K = K (xup J 18 9 v) := fun J v K => xas_n (i := 9) (by decide) (by decide)
  have nx : ∀ {J : xTI} {i k : Nat} {v : Int32}, k ≠ 18 → xup J 18 i v k = J k := fun h => xup_ne h
  have hup : ∀ J : xTI, (∀ k, k ≠ 18 → J k = I k) → F_X3_upCount xN J = some (nI (upn s (q 1))) := fun J hJ => by
    have hb2 : BRm (ovh J s) s q := b2.fr (I2 := ovh J s) hV.1.2.2.1 (hJ 7 (by decide)) (hJ 8 (by decide)) rfl (hJ 10 (by decide)) (hJ 2 (by decide)) (fun _ _ _ => rfl)
    exact F10_mu2 (I := ovh J s) (n := n) hb2 hV.2.1 hV.1.2.1 hV.1.2.2.1 (show J 3 0 = nI (q 1) by rw [hJ 3 (by decide)]; exact b1.2)
  have h4 : ∃ J, (∀ k, k ≠ 18 → J k = I k) ∧ J 18 0 = nI kk ∧ J 18 1 = s (184 + kk) ∧ J 18 2 = s 0 ∧ J 18 3 = s 0 - s 0 / 14 * 14 ∧ J 18 4 = nI (upn s (q 1)) ∧ (∀ j, 5 ≤ j → j < 10 → J 18 j = 0) ∧ (xas A 18 10 0 (nI kk) fun I2 => xal I2 2 5 (nI kk) fun v3 => xas I2 18 10 1 v3 fun I4 => xbn (I4 1 0) fun v5 => xas I4 18 10 2 v5 fun I6 => Option.bind (F_X1_place I6) fun v7 => xas I6 18 10 3 v7 fun I8 => Option.bind (F_X3_upCount xN I8) fun v9 => xas I8 18 10 4 v9 fun I10 => if bI bo = -1 then some I10 else Option.bind (F_X0_at I10 (bI bo) 3) fun v11 => xas I10 18 10 5 v11 fun I12 => Option.bind (F_X0_at I12 (bI bo) 4) fun v13 => xas I12 18 10 6 v13 fun I14 => Option.bind (F_X0_at I14 (bI bo) 0) fun v15 => xas I14 18 10 7 v15 fun I16 => Option.bind (F_X0_at I16 (bI bo) 1) fun v17 => xas I16 18 10 8 v17 fun I18 => Option.bind (F_X0_marksOf I18 (bI bo)) fun v19 => xas I18 18 10 9 v19 fun I20 => some I20) = (if bI bo = -1 then some J else Option.bind (F_X0_at J (bI bo) 3) fun v11 => xas J 18 10 5 v11 fun I12 => Option.bind (F_X0_at I12 (bI bo) 4) fun v13 => xas I12 18 10 6 v13 fun I14 => Option.bind (F_X0_at I14 (bI bo) 0) fun v15 => xas I14 18 10 7 v15 fun I16 => Option.bind (F_X0_at I16 (bI bo) 1) fun v17 => xas I16 18 10 8 v17 fun I18 => Option.bind (F_X0_marksOf I18 (bI bo)) fun v19 => xas I18 18 10 9 v19 fun I20 => some I20) := by
    refine ⟨xup (xup (xup (xup (xup A 18 0 (nI kk)) 18 1 (s (184 + kk))) 18 2 (s 0)) 18 3 (s 0 - s 0 / 14 * 14)) 18 4 (nI (upn s (q 1))), fun k hk => ?_, by simp [xup], by simp [xup], by simp [xup], by simp [xup], by simp [xup], fun j h1 h2 => ?_, ?_⟩
    · rw [nx hk, nx hk, nx hk, nx hk, nx hk, h0 k hk]
    · rw [xup_nj (by omega), xup_nj (by omega), xup_nj (by omega), xup_nj (by omega), xup_nj (by omega), h0z j h2]
    · rw [x0, xal_n hk (by decide), nx (k := 2) (by decide), h0 2 (by decide), b22 kk hk, x1, xbn_e, nx (k := 1) (by decide), nx (k := 1) (by decide), h0 1 (by decide), i0, x2]
      have hpl : F_X1_place (xup (xup (xup A 18 0 (nI kk)) 18 1 (s (184 + kk))) 18 2 (s 0)) = some (s 0 - s 0 / 14 * 14) := by
        unfold F_X1_place
        rw [xbn_e, nx (k := 1) (by decide), nx (k := 1) (by decide), nx (k := 1) (by decide), h0 1 (by decide), i0]
      rw [hpl, Option.bind_some, x3, hup _ (fun k hk => by rw [nx hk, nx hk, nx hk, nx hk, h0 k hk]), Option.bind_some, x4]
  obtain ⟨J, j1, j2, j3, j4, j5, j6, j7, j8⟩ := h4
  rw [j8]
  cases bo with
  | none =>
    refine ⟨J, if_pos rfl, j1, fun j hj => ?_⟩
    have : j = 0 ∨ j = 1 ∨ j = 2 ∨ j = 3 ∨ j = 4 ∨ 5 ≤ j := by omega
    rcases this with rfl | rfl | rfl | rfl | rfl | h5
    · exact j2
    · exact j3
    · exact j4
    · exact j5
    · exact j6
    · obtain ⟨i, rfl⟩ : ∃ i, j = i + 5 := ⟨j - 5, by omega⟩
      rw [j7 _ h5 hj]; rfl
  | some bb =>
    obtain ⟨hb, hs⟩ := hbo bb rfl
    have hbc : ∀ t, t < 11 → I 13 (11 * bb + t) = s (192 + 12 * bb + 1 + t) := by
      rcases b4 bb hb with ⟨g, -⟩ | ⟨-, g⟩
      · rw [g] at hs; exact absurd hs (by decide)
      · exact g
    have ha : ∀ (K : xTI) (t : Nat), (∀ k, k ≠ 18 → K k = I k) → t < 11 → F_X0_at K (nI bb) (nI t) = some (s (192 + 12 * bb + 1 + t)) := fun K t hK ht => by
      unfold F_X0_at
      rw [at12 hb ht, Option.bind_some, hK 13 (by decide), hbc t ht]
    have hm : ∀ (K : xTI), (∀ k, k ≠ 18 → K k = I k) → F_X0_marksOf K (nI bb) = some ((if s (192 + 12 * bb + 9) = -1 then 0 else 1) + (if s (192 + 12 * bb + 10) = -1 then 0 else 2)) := fun K hK => by
      have a8 : F_X8_at_12 K (nI bb) 8 = some (s (192 + 12 * bb + 9)) := by rw [at12_8 hb, hK 13 (by decide), hbc 8 (by decide)]
      have a9 : F_X8_at_12 K (nI bb) 9 = some (s (192 + 12 * bb + 10)) := by rw [at12_9 hb, hK 13 (by decide), hbc 9 (by decide)]
      unfold F_X0_marksOf F_X0_marksOf_j19
      rw [a8, a9, Option.bind_some, Option.bind_some, Option.bind_some]
      by_cases g : s (192 + 12 * bb + 9) = -1 <;> by_cases g2 : s (192 + 12 * bb + 10) = -1 <;> simp [g, g2]
    have e1 : ∀ {K : xTI} {i : Nat} {v : Int32}, (∀ k, k ≠ 18 → K k = I k) → ∀ k, k ≠ 18 → xup K 18 i v k = I k := fun h k hk => by rw [xup_ne hk, h k hk]
    refine ⟨xup (xup (xup (xup (xup J 18 5 (s (192 + 12 * bb + 4))) 18 6 (s (192 + 12 * bb + 5))) 18 7 (s (192 + 12 * bb + 1))) 18 8 (s (192 + 12 * bb + 2))) 18 9 ((if s (192 + 12 * bb + 9) = -1 then 0 else 1) + (if s (192 + 12 * bb + 10) = -1 then 0 else 2)), ?_, e1 (e1 (e1 (e1 (e1 j1)))), fun j hj => ?_⟩
    · show (if nI bb = -1 then _ else Option.bind (F_X0_at J (nI bb) (nI 3)) _) = _
      rw [if_neg (nI_ne_m1 (by omega)), ha J 3 j1 (by decide), Option.bind_some, x5]
      show Option.bind (F_X0_at _ (nI bb) (nI 4)) _ = _
      rw [ha _ 4 (e1 j1) (by decide), Option.bind_some, x6]
      show Option.bind (F_X0_at _ (nI bb) (nI 0)) _ = _
      rw [ha _ 0 (e1 (e1 j1)) (by decide), Option.bind_some, x7]
      show Option.bind (F_X0_at _ (nI bb) (nI 1)) _ = _
      rw [ha _ 1 (e1 (e1 (e1 j1))) (by decide), Option.bind_some, x8]
      show Option.bind (F_X0_marksOf _ (nI bb)) _ = _
      rw [hm _ (e1 (e1 (e1 (e1 j1)))), Option.bind_some, x9]
    · have : j = 0 ∨ j = 1 ∨ j = 2 ∨ j = 3 ∨ j = 4 ∨ j = 5 ∨ j = 6 ∨ j = 7 ∨ j = 8 ∨ j = 9 := by omega
      rcases this with rfl | rfl | rfl | rfl | rfl | rfl | rfl | rfl | rfl | rfl
      · simp [xup, j2, nmO]
      · simp [xup, j3, nmO]
      · simp [xup, j4, nmO]
      · simp [xup, j5, nmO]
      · simp [xup, j6, nmO]
      · simp [xup, nmO]
      · simp [xup, nmO]
      · simp [xup, nmO]
      · simp [xup, nmO]
      · simp [xup, nmO]
section TELL
variable {I : xTI} {s : Nat → Int32} {c : Nat → Int64} {q : Nat → Nat} {n : Nat}
theorem find_eqh (hB : BRw I s q) (hV : IV s c q n) (key : Int32) {kk : Nat} (hk : kk < 5) (bo : Option Nat) (hbo : ∀ bb, bo = some bb → bb < 60 ∧ s (192 + 12 * bb) = 1 ∧ s (192 + 12 * bb + 3) = nI kk) : ∃ a v I1, F_X5_find xN I key (nI kk) (bI bo) = some (a, I1) ∧ (∀ k, k ≠ 18 → k ≠ 19 → I1 k = I k) ∧ (a = -1 ∨ ∃ r, r < 12 ∧ a = nI r ∧ ∃ I2, Option.bind (F_X8_at_15 I1 a 3) (fun v3 => Option.bind (F_X5_work xN I1 a 0 v3) (fun (v4, I5) => some (v4, I5))) = some (v, I2) ∧ ∀ k, k ≠ 18 → k ≠ 19 → I2 k = I k) ∧ ∀ (J : xTI) (M : xTL), J 58 = s → ∃ J2 M2, F_X11_rules xN J M key (whoI kk bo) = some (a, J2, M2) ∧ FrU J J2 ∧ FrL M M2 ∧ (a ≠ -1 → J2 57 18 = v) := by
  obtain ⟨I0, e1, e2, e3⟩ := name_allh hB hV hk bo (fun bb h => ⟨(hbo bb h).1, (hbo bb h).2.1⟩)
  have hH := Hds.of (show BRr I s q from hB.2.2.2.2)
  have q4 : q 4 ≤ 12 := hV.1.2.2.2.2.2.1
  have s0 : s 0 = nI (q 0) := hV.1.1 0 (by decide)
  have i0 : I0 1 0 = s 0 := by rw [e2 1 (by decide), s0]; exact (show I 1 0 = nI (q 0) from hB.1.1)
  have hH0 : Hds I0 s (fun r => (I 16 (5 * r + 3)).toNatClampNeg) (fun r => (I 16 (5 * r + 4)).toNatClampNeg) (q 4) := by
    unfold Hds
    rw [e2 16 (by decide), e2 17 (by decide)]
    exact hH
  obtain ⟨I1, f1, f2⟩ := find_run (nm := nmO s (q 1) kk bo) key q4 hH0 i0 e3 (q 4) (Nat.le_refl _) I0 xN (by show q 4 < 100000; omega) (fun _ _ => rfl)
  have hI1 : ∀ k, k ≠ 18 → k ≠ 19 → I1 k = I k := fun k h1 h2 => by rw [f2 k h2, e2 k h1]
  rw [e2 17 (by decide)] at f1
  refine ⟨ansR (hbf s (fun r t => I 17 (120 * r + t)) (fun r => (I 16 (5 * r + 3)).toNatClampNeg) (fun r => (I 16 (5 * r + 4)).toNatClampNeg) (nmO s (q 1) kk bo) key) (q 4), valR (hbf s (fun r t => I 17 (120 * r + t)) (fun r => (I 16 (5 * r + 3)).toNatClampNeg) (fun r => (I 16 (5 * r + 4)).toNatClampNeg) (nmO s (q 1) kk bo) key) (fun r => evt (nmO s (q 1) kk bo) (cdl (fun t => I 17 (120 * r + t)) 0 ((I 16 (5 * r + 3)).toNatClampNeg))) (q 4), I1, ?_, hI1, ?_, ?_⟩
  · unfold F_X5_find
    rw [e1, Option.bind_some, xbn_e, e2 15 (by decide), (show I 15 3 = nI (q 4) from hB.1.2.2.2.2.1), xbn_e, nI_m1]
    exact f1
  · rcases ansR_or (hbf s (fun r t => I 17 (120 * r + t)) (fun r => (I 16 (5 * r + 3)).toNatClampNeg) (fun r => (I 16 (5 * r + 4)).toNatClampNeg) (nmO s (q 1) kk bo) key) (fun r => evt (nmO s (q 1) kk bo) (cdl (fun t => I 17 (120 * r + t)) 0 ((I 16 (5 * r + 3)).toNatClampNeg))) (q 4) with h | ⟨r, h1, h2, h3⟩
    · exact Or.inl h
    · refine Or.inr ⟨r, by omega, h2, ?_⟩
      rw [h2, h3]
      obtain ⟨-, -, -, a3, -, a5, a6, -⟩ := hH r h1
      have a5' : (I 16 (5 * r + 3)).toNatClampNeg ≤ 120 := Nat.le_trans a5 a6
      obtain ⟨I2, w1, w2⟩ := work_eq (nm := nmO s (q 1) kk bo) (r := r) (a := 0) (z := (I 16 (5 * r + 3)).toNatClampNeg) (I := I1) (by omega) a5' (Nat.zero_le _) (fun j hj => by rw [f2 18 (by decide)]; exact e3 j hj)
      refine ⟨I2, ?_, fun k h1 h2 => by rw [w2 k h2, hI1 k h1 h2]⟩
      rw [show (3 : Int32) = nI 3 from rfl, at15 (by omega) (by decide), Option.bind_some, hI1 16 (by decide) (by decide)]
      have w1' : F_X5_work xN I1 (nI r) 0 (I 16 (5 * r + 3)) = some (evt (nmO s (q 1) kk bo) (cdl (fun t => I 17 (120 * r + t)) 0 ((I 16 (5 * r + 3)).toNatClampNeg)), I2) := by
        refine (congrArg (F_X5_work xN I1 (nI r) (nI 0)) a3).trans (w1.trans ?_)
        rw [hI1 17 (by decide) (by decide), Nat.sub_zero]
      rw [w1', Option.bind_some]
  · intro J M hs
    have s4 : s 4 = nI (q 4) := hV.1.1 4 (by decide)
    have s1 : s 1 = nI (q 1) := hV.1.1 1 (by decide)
    obtain ⟨J2, M2, g1, g2, g3, g4⟩ := rules_run (nm := nmO s (q 1) kk bo) key (nI kk) (bI bo) q4 hH (q 4) (Nat.le_refl _) J M xN (by show q 4 < 100000; omega) hs (xEnv_of hs s1 hV.1.2.2.1 hk (fun bb h => (hbo bb h).1))
    refine ⟨J2, M2, ?_, g2, g3, g4⟩
    rw [F11_who key hs s4 q4 hk hbo, g1]
theorem tells_eqh (hB : BRw I s q) (hV : IV s c q n) {key : Nat} (hkey : key < 6) {kk : Nat} (hk : kk < 5) (bo : Option Nat) (hbo : ∀ bb, bo = some bb → bb < 60 ∧ s (192 + 12 * bb) = 1 ∧ s (192 + 12 * bb + 3) = nI kk) : ∃ v I1, F_X5_tells xN I (nI key) (nI kk) (bI bo) = some (v, I1) ∧ (∀ k, k ≠ 18 → k ≠ 19 → I1 k = I k) ∧ ∀ (J : xTI) (M : xTL), J 58 = s → ∃ J2 M2, F_X11_ruled xN J M (nI key) (whoI kk bo) (xwo key) = some (v, J2, M2) ∧ FrU J J2 ∧ FrL M M2 := by
  obtain ⟨a, v, I1, f1, f2, f3, f4⟩ := find_eqh hB hV (nI key) hk bo hbo
  rcases f3 with f3 | ⟨r, hr, f3, I2, g1, g2⟩
  · refine ⟨xwo key, I1, ?_, f2, fun J M hs => ?_⟩
    · unfold F_X5_tells
      rw [f1, Option.bind_some]
      show (if a = -1 then xwr (nI key) (fun v6 => some (v6, I1)) else _) = _
      unfold xwr
      rw [if_pos f3, nI_clamp (by omega), if_neg]
      rintro (g | g)
      · exact nI_pos (by omega) g
      · omega
    · obtain ⟨J2, M2, h1, h2, h3, -⟩ := f4 J M hs
      refine ⟨J2, M2, ?_, h2, h3⟩
      unfold F_X11_ruled
      rw [h1, Option.bind_some]
      show (if a = -1 then some (xwo key, J2, M2) else _) = _
      rw [if_pos f3]
  · have hne : a ≠ -1 := by rw [f3]; exact nI_ne_m1 (by omega)
    refine ⟨v, I2, ?_, g2, fun J M hs => ?_⟩
    · unfold F_X5_tells
      rw [f1, Option.bind_some]
      show (if a = -1 then _ else Option.bind (F_X8_at_15 I1 a 3) (fun v3 => Option.bind (F_X5_work xN I1 a 0 v3) (fun (v4, I5) => some (v4, I5)))) = _
      rw [if_neg hne, g1]
    · obtain ⟨J2, M2, h1, h2, h3, h4⟩ := f4 J M hs
      refine ⟨J2, M2, ?_, h2, h3⟩
      unfold F_X11_ruled
      rw [h1, Option.bind_some]
      show (if a = -1 then _ else xbn (J2 57 18) (fun v4 => some (v4, J2, M2))) = _
      rw [if_neg hne, xbn_e, h4 hne]
end TELL
theorem tells_w {I : xTI} {s : Nat → Int32} {q : Nat → Nat} {n : Nat} (hB : BRw I s q) (hV : IVi s q n) {key : Nat} (hkey : key < 6) {kk : Nat} (hk : kk < 5) : ∃ v I1, F_X5_tells xN I (nI key) (nI kk) (-1) = some (v, I1) ∧ (∀ k, k ≠ 18 → k ≠ 19 → I1 k = I k) ∧ ∀ (J : xTI) (M : xTL), J 58 = s → ∃ J2 M2, F_X11_ruled xN J M (nI key) (nI kk) (xwo key) = some (v, J2, M2) ∧ FrU J J2 ∧ FrL M M2 :=
  tells_eqh (c := fun _ => 0) hB ⟨hV.1, hV.2.1, hV.2.2.1, hV.2.2.2.1, IVc_0 _ _ _, hV.2.2.2.2.1, hV.2.2.2.2.2⟩ hkey hk none (fun bb h => by cases h)
end
