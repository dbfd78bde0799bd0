section
/-! run: names. Loops in step; tickets are lined up, deliveries and passes are noted -/
theorem xlp_st2 {S1 R1 S2 R2 κ1 κ2 : Type} {b1 : κ1 → S1 → (S1 → Option R1) → Option R1} {b2 : κ2 → S2 → (S2 → Option R2) → Option R2} (P : Nat → S1 → S2 → Prop) (m : Nat) (hs : ∀ i, i < m → ∀ x y, P i x y → ∃ x' y', (∀ K k, b1 K x k = k x') ∧ (∀ K k, b2 K y k = k y') ∧ P (i + 1) x' y') : ∀ x y, P 0 x y → ∃ x' y', P m x' y' ∧ (∀ N K, xlp (b1 K) (N + m) x = xlp (b1 K) N x') ∧ ∀ N K, xlp (b2 K) (N + m) y = xlp (b2 K) N y' := by
  induction m with
  | zero => exact fun x y h => ⟨x, y, h, fun _ _ => rfl, fun _ _ => rfl⟩
  | succ m ih =>
    intro x y h
    obtain ⟨x1, y1, h1, e1, e2⟩ := ih (fun i hi => hs i (by omega)) x y h
    obtain ⟨x2, y2, f1, f2, h2⟩ := hs m (Nat.lt_succ_self _) x1 y1 h1
    refine ⟨x2, y2, h2, fun N K => ?_, fun N K => ?_⟩
    · rw [show N + (m + 1) = (N + 1) + m by omega, e1]
      exact f1 K _
    · rw [show N + (m + 1) = (N + 1) + m by omega, e2]
      exact f2 K _
/-- as long as it goes on: d falls -/
theorem xlp_wh {S1 R1 S2 R2 κ1 κ2 : Type} {b1 : κ1 → S1 → (S1 → Option R1) → Option R1} {b2 : κ2 → S2 → (S2 → Option R2) → Option R2} (P : Nat → S1 → S2 → Prop) (Z : S1 → S2 → Prop) (o1 : κ1 → S1 → Option R1) (o2 : κ2 → S2 → Option R2) (hs : ∀ d x y, P d x y → ((∀ K k, b1 K x k = o1 K x) ∧ (∀ K k, b2 K y k = o2 K y) ∧ Z x y) ∨ (∃ d' x' y', d' < d ∧ (∀ K k, b1 K x k = k x') ∧ (∀ K k, b2 K y k = k y') ∧ P d' x' y')) : ∀ d N1 N2 x y, d < N1 → d < N2 → P d x y → ∃ x' y', Z x' y' ∧ (∀ K, xlp (b1 K) N1 x = o1 K x') ∧ ∀ K, xlp (b2 K) N2 y = o2 K y' := by
  intro d
  induction d using Nat.strongRecOn with
  | ind d ih =>
    intro N1 N2 x y h1 h2 hp
    obtain ⟨N1, rfl⟩ : ∃ k, N1 = k + 1 := ⟨N1 - 1, by omega⟩
    obtain ⟨N2, rfl⟩ : ∃ k, N2 = k + 1 := ⟨N2 - 1, by omega⟩
    rcases hs d x y hp with ⟨f1, f2, z⟩ | ⟨d', x', y', hd, f1, f2, hp'⟩
    · exact ⟨x, y, z, fun K => f1 K _, fun K => f2 K _⟩
    · obtain ⟨x2, y2, z, g1, g2⟩ := ih d' hd N1 N2 x' y' (by omega) (by omega) hp'
      exact ⟨x2, y2, z, fun K => (f1 K _).trans (g1 K), fun K => (f2 K _).trans (g2 K)⟩
theorem and127 {a : Nat} (h : a < 256) : nI a &&& 127 = nI (a % 128) := by
  apply Int32.toBitVec_inj.mp
  unfold nI
  show (Int32.ofNat a).toBitVec &&& (127 : Int32).toBitVec = (Int32.ofNat (a % 128)).toBitVec
  rw [Int32.toBitVec_ofNat', Int32.toBitVec_ofNat']
  apply BitVec.eq_of_toNat_eq
  rw [BitVec.toNat_and, BitVec.toNat_ofNat, BitVec.toNat_ofNat, show ((127 : Int32).toBitVec).toNat = 2 ^ 7 - 1 by decide, Nat.and_two_pow_sub_one_eq_mod]
  omega
/-- the class lines a ticket up; the reference too -/
def lnI (I : xTI) (o w : Nat) (x1 x2 x3 x4 x5 : Int32) : xTI := xup (xup (xup (xup (xup (xup I 34 o x1) 35 o x2) 36 o x3) 37 o x4) 38 o x5) 33 6 (nI (w + 1))
def wtJ (J : xTI) (T : Nat) (x1 x2 x3 x4 x5 : Int32) : xTI := xup (xup (xup (xup (xup (xup J 63 T x1) 64 T x2) 65 T x3) 66 T x4) 67 T x5) 57 25 (nI (T + 1))
theorem line_e {I : xTI} {h w o : Nat} (h5 : I 33 5 = nI h) (h6 : I 33 6 = nI w) (hh : h < 128) (hw : w < 128) (ho : o = (h + w) % 128) (x1 x2 x3 x4 x5 : Int32) : F_X4_line I x1 x2 x3 x4 x5 = some (nI o, lnI I o w x1 x2 x3 x4 x5) := by
  unfold F_X4_line
  rw [xbn_e, xbn_e, xbn_e, h5, h6, nI_add, and127 (by omega), ← ho]
  have hl : o < 128 := by omega
  rw [xas_n hl (by decide), xas_n hl (by decide), xas_n hl (by decide), xas_n hl (by decide), xas_n hl (by decide), xbn_e, xbn_e]
  rw [xup_ne (by decide), xup_ne (by decide), xup_ne (by decide), xup_ne (by decide), xup_ne (by decide), h6, nI_1]
  rfl
theorem wait_e {J : xTI} {T : Nat} (h : J 57 25 = nI T) (hT : T < 8000) (x1 x2 x3 x4 x5 : Int32) : F_X11_waits J x1 x2 x3 x4 x5 = some (wtJ J T x1 x2 x3 x4 x5) := by
  unfold F_X11_waits
  have e : ∀ (k : Nat) (K : xTI) (v : Int32), k ≠ 57 → K 57 25 = nI T → xup K k T v 57 25 = nI T := fun k K v hk hK => by rw [xup_ne (by omega)]; exact hK
  have e1 := e 63 J x1 (by decide) h
  have e2 := e 64 _ x2 (by decide) e1
  have e3 := e 65 _ x3 (by decide) e2
  have e4 := e 66 _ x4 (by decide) e3
  have e5 := e 67 _ x5 (by decide) e4
  simp only [xbn_e]
  rw [h, xas_n hT (by decide), e1, xas_n hT (by decide), e2, xas_n hT (by decide), e3, xas_n hT (by decide), e4, xas_n hT (by decide), e5, nI_1]
  rfl
theorem put26 {I : xTI} {b t : Nat} {v : Int32} (hb : b < 200) (ht : t < 6) : F_X8_put_26 I (nI b) (nI t) v = some (xup I 27 (6 * b + t) v) := by
  unfold F_X8_put_26 F_X8_put_26_j29
  rw [if_neg (nI_pos (by omega)), if_neg (show ¬ (200 : Int32) ≤ nI b from nI_ge (b := 200) hb (by decide)), if_neg (nI_pos (by omega)), if_neg (show ¬ (6 : Int32) ≤ nI t from nI_ge (b := 6) ht (by decide)), if_neg (by decide), show (6 : Int32) = nI 6 from rfl, nI_mul, nI_add, xas_n (by omega) (by decide), Nat.mul_comm b 6]
theorem put24 {I : xTI} {b t : Nat} {v : Int32} (hb : b < 2 ^ 31) (ht : t < 7) : F_X8_put_24 I (nI b) (nI t) v = some (if b < 300 then xup I 25 (7 * b + t) v else I) := by
  unfold F_X8_put_24 F_X8_put_24_j29
  rw [if_neg (nI_pos hb)]
  by_cases h : b < 300
  · rw [if_neg (show ¬ (300 : Int32) ≤ nI b from nI_ge (b := 300) h (by decide)), if_neg (nI_pos (by omega)), if_neg (show ¬ (7 : Int32) ≤ nI t from nI_ge (b := 7) ht (by decide)), if_neg (by decide), show (7 : Int32) = nI 7 from rfl, nI_mul, nI_add, xas_n (by omega) (by decide), Nat.mul_comm b 7, if_pos h]
  · rw [if_pos (show (300 : Int32) ≤ nI b from nI_le (a := 300) (by omega) hb), if_pos rfl, if_neg h]
/-- a row of six: a delivery -/
def dlW (x0 x1 x2 x3 x4 x5 : Int32) (t : Nat) : Int32 := if t = 0 then x0 else if t = 1 then x1 else if t = 2 then x2 else if t = 3 then x3 else if t = 4 then x4 else x5
def psW (x0 x1 x2 x3 x4 x5 x6 : Int32) (t : Nat) : Int32 := if t = 0 then x0 else if t = 1 then x1 else if t = 2 then x2 else if t = 3 then x3 else if t = 4 then x4 else if t = 5 then x5 else x6
theorem noteD {I : xTI} {o d : Nat} (ho : o < 128) (hd : d < 200) (h26 : I 26 3 = nI d) (x2 x4 : Int32) : F_X4_noteDelivery I x2 (nI o) x4 = some (wr (xup I 26 3 (nI (d + 1))) 27 (6 * d) (dlW x2 (I 35 o) (I 34 o) x4 (I 37 o) (I 38 o)) 6) := by
  unfold F_X4_noteDelivery
  have p : ∀ (K : xTI) (v : Int32), F_X8_put_26 K (nI d) 0 v = some (xup K 27 (6 * d + 0) v) ∧ F_X8_put_26 K (nI d) 1 v = some (xup K 27 (6 * d + 1) v) ∧ F_X8_put_26 K (nI d) 2 v = some (xup K 27 (6 * d + 2) v) ∧ F_X8_put_26 K (nI d) 3 v = some (xup K 27 (6 * d + 3) v) ∧ F_X8_put_26 K (nI d) 4 v = some (xup K 27 (6 * d + 4) v) ∧ F_X8_put_26 K (nI d) 5 v = some (xup K 27 (6 * d + 5) v) := fun K v => ⟨put26 (t := 0) hd (by decide), put26 (t := 1) hd (by decide), put26 (t := 2) hd (by decide), put26 (t := 3) hd (by decide), put26 (t := 4) hd (by decide), put26 (t := 5) hd (by decide)⟩
  have l : ∀ (K : xTI) (c : Nat) (F : Int32 → Option xTI), xal K c 128 (nI o) F = F (K c o) := fun K c F => xal_n ho (by decide)
  simp only [xbn_e, h26, nI_1, (p _ _).1, (p _ _).2.1, (p _ _).2.2.1, (p _ _).2.2.2.1, (p _ _).2.2.2.2.1, (p _ _).2.2.2.2.2, Option.bind_some, l]
  simp only [xup_ne (show (35 : Nat) ≠ 27 by decide), xup_ne (show (34 : Nat) ≠ 27 by decide), xup_ne (show (37 : Nat) ≠ 27 by decide), xup_ne (show (38 : Nat) ≠ 27 by decide), xup_ne (show (35 : Nat) ≠ 26 by decide), xup_ne (show (34 : Nat) ≠ 26 by decide), xup_ne (show (37 : Nat) ≠ 26 by decide), xup_ne (show (38 : Nat) ≠ 26 by decide)]
  rfl
theorem delv {J : xTI} {i d : Nat} (hi : i < 8000) (hd : d < 6000) (h7 : J 58 7 = nI d) (x1 x3 : Int32) : F_X11_delivers J x1 (nI i) x3 = some (xup (wr J 58 (4670 + 6 * d) (dlW x1 (J 64 i) (J 63 i) x3 (J 66 i) (J 67 i)) 6) 58 7 (nI (d + 1))) := by
  unfold F_X11_delivers
  rw [s58_7, h7, xbn_e, show (4670 : Int32) + 6 * nI d = nI (4670 + 6 * d) by rw [show (4670 : Int32) = nI 4670 from rfl, show (6 : Int32) = nI 6 from rfl, nI_mul, nI_add]]
  have l : ∀ (K : xTI) (c : Nat) (F : Int32 → Option xTI), xal K c 8000 (nI i) F = F (K c i) := fun K c F => xal_n hi (by decide)
  have p : ∀ (K : xTI) (t : Nat) (v : Int32) (F : xTI → Option xTI), t < 6 → xas K 58 40670 (nI (4670 + 6 * d) + nI t) v F = F (xup K 58 (4670 + 6 * d + t) v) := fun K t v F ht => by rw [nI_add]; exact xas_n (by omega) (by decide)
  have p0 : ∀ (K : xTI) (v : Int32) (F : xTI → Option xTI), xas K 58 40670 (nI (4670 + 6 * d)) v F = F (xup K 58 (4670 + 6 * d + 0) v) := fun K v F => xas_n (by omega) (by decide)
  have p1 : ∀ (K : xTI) (v : Int32) (F : xTI → Option xTI), xas K 58 40670 (nI (4670 + 6 * d) + 1) v F = F (xup K 58 (4670 + 6 * d + 1) v) := fun K v F => p K 1 v F (by decide)
  have p2 : ∀ (K : xTI) (v : Int32) (F : xTI → Option xTI), xas K 58 40670 (nI (4670 + 6 * d) + 2) v F = F (xup K 58 (4670 + 6 * d + 2) v) := fun K v F => p K 2 v F (by decide)
  have p3 : ∀ (K : xTI) (v : Int32) (F : xTI → Option xTI), xas K 58 40670 (nI (4670 + 6 * d) + 3) v F = F (xup K 58 (4670 + 6 * d + 3) v) := fun K v F => p K 3 v F (by decide)
  have p4 : ∀ (K : xTI) (v : Int32) (F : xTI → Option xTI), xas K 58 40670 (nI (4670 + 6 * d) + 4) v F = F (xup K 58 (4670 + 6 * d + 4) v) := fun K v F => p K 4 v F (by decide)
  have p5 : ∀ (K : xTI) (v : Int32) (F : xTI → Option xTI), xas K 58 40670 (nI (4670 + 6 * d) + 5) v F = F (xup K 58 (4670 + 6 * d + 5) v) := fun K v F => p K 5 v F (by decide)
  have p7 : ∀ (K : xTI) (v : Int32) (F : xTI → Option xTI), xas K 58 40670 7 v F = F (xup K 58 7 v) := fun K v F => xas_n (i := 7) (by decide) (by decide)
  simp only [p0, p1, p2, p3, p4, p5, p7, l, s58_7]
  simp only [xup_ne (show (64 : Nat) ≠ 58 by decide), xup_ne (show (63 : Nat) ≠ 58 by decide), xup_ne (show (66 : Nat) ≠ 58 by decide), xup_ne (show (67 : Nat) ≠ 58 by decide)]
  rw [xup_at, if_neg (by omega), xup_at, if_neg (by omega), xup_at, if_neg (by omega), xup_at, if_neg (by omega), xup_at, if_neg (by omega), xup_at, if_neg (by omega), h7, nI_1]
  rfl
theorem noteP {I : xTI} {o p : Nat} (ho : o < 128) (hp : p < 2 ^ 30) (h24 : I 24 3 = nI p) (x2 x3 : Int32) : F_X4_notePass_24 I x2 x3 (nI o) = some (if p < 300 then wr (xup I 24 3 (nI (p + 1))) 25 (7 * p) (psW x2 x3 (I 35 o) (I 34 o) (I 36 o) (I 37 o) (I 38 o)) 7 else xup I 24 3 (nI (p + 1))) := by
  unfold F_X4_notePass_24
  have q : ∀ (K : xTI) (v : Int32), F_X8_put_24 K (nI p) 0 v = some (if p < 300 then xup K 25 (7 * p + 0) v else K) ∧ F_X8_put_24 K (nI p) 1 v = some (if p < 300 then xup K 25 (7 * p + 1) v else K) ∧ F_X8_put_24 K (nI p) 2 v = some (if p < 300 then xup K 25 (7 * p + 2) v else K) ∧ F_X8_put_24 K (nI p) 3 v = some (if p < 300 then xup K 25 (7 * p + 3) v else K) ∧ F_X8_put_24 K (nI p) 4 v = some (if p < 300 then xup K 25 (7 * p + 4) v else K) ∧ F_X8_put_24 K (nI p) 5 v = some (if p < 300 then xup K 25 (7 * p + 5) v else K) ∧ F_X8_put_24 K (nI p) 6 v = some (if p < 300 then xup K 25 (7 * p + 6) v else K) := fun K v => ⟨put24 (t := 0) (by omega) (by decide), put24 (t := 1) (by omega) (by decide), put24 (t := 2) (by omega) (by decide), put24 (t := 3) (by omega) (by decide), put24 (t := 4) (by omega) (by decide), put24 (t := 5) (by omega) (by decide), put24 (t := 6) (by omega) (by decide)⟩
  have l : ∀ (K : xTI) (c : Nat) (F : Int32 → Option xTI), xal K c 128 (nI o) F = F (K c o) := fun K c F => xal_n ho (by decide)
  simp only [xbn_e, h24, nI_1, (q _ _).1, (q _ _).2.1, (q _ _).2.2.1, (q _ _).2.2.2.1, (q _ _).2.2.2.2.1, (q _ _).2.2.2.2.2.1, (q _ _).2.2.2.2.2.2, Option.bind_some, l]
  by_cases h : p < 300
  · simp only [if_pos h]
    simp only [xup_ne (show (35 : Nat) ≠ 25 by decide), xup_ne (show (34 : Nat) ≠ 25 by decide), xup_ne (show (36 : Nat) ≠ 25 by decide), xup_ne (show (37 : Nat) ≠ 25 by decide), xup_ne (show (38 : Nat) ≠ 25 by decide), xup_ne (show (35 : Nat) ≠ 24 by decide), xup_ne (show (34 : Nat) ≠ 24 by decide), xup_ne (show (36 : Nat) ≠ 24 by decide), xup_ne (show (37 : Nat) ≠ 24 by decide), xup_ne (show (38 : Nat) ≠ 24 by decide)]
    rfl
  · simp only [if_neg h]
/-- the reference's memory after a pass -/
def psJ (J : xTI) (i p T : Nat) (x1 x3 x4 x5 x6 : Int32) : xTI := wtJ (xup (if p < 300 then wr J 58 (2570 + 7 * p) (psW x1 (J 64 i) x3 (J 63 i) x4 x5 x6) 7 else J) 58 6 (nI (p + 1))) T (J 63 i) x3 x4 x5 x6
theorem pass_e {J : xTI} {i p T : Nat} (hi : i < 8000) (hp : p < 2 ^ 30) (h6 : J 58 6 = nI p) (hT : J 57 25 = nI T) (hT2 : T < 8000) (x1 x3 x4 x5 x6 : Int32) : F_X11_passes J x1 (nI i) x3 x4 x5 x6 = some (psJ J i p T x1 x3 x4 x5 x6) := by
  unfold F_X11_passes
  have l : ∀ (K : xTI) (c : Nat) (F : Int32 → Option xTI), xal K c 8000 (nI i) F = F (K c i) := fun K c F => xal_n hi (by decide)
  have tail : ∀ K : xTI, K 58 6 = nI p → K 57 25 = nI T → K 63 = J 63 → F_X11_passes_j111 K (nI i) x3 x4 x5 x6 = some (wtJ (xup K 58 6 (nI (p + 1))) T (J 63 i) x3 x4 x5 x6) := by
    intro K k1 k2 k3
    unfold F_X11_passes_j111
    rw [s58_6, k1, nI_1, xas_i (x := 6) (i := 6) rfl (by decide) (by decide), l, xup_ne (by decide), k3, wait_e (T := T) (by rw [xup_ne (by decide)]; exact k2) hT2]
    rfl
  rw [s58_6, h6]
  unfold psJ
  by_cases h : p < 300
  · rw [if_neg (show ¬ (300 : Int32) ≤ nI p from nI_ge (b := 300) h (by decide)), if_pos h, s58_6, h6, xbn_e, show (2570 : Int32) + 7 * nI p = nI (2570 + 7 * p) by rw [show (2570 : Int32) = nI 2570 from rfl, show (7 : Int32) = nI 7 from rfl, nI_mul, nI_add]]
    have p' : ∀ (K : xTI) (t : Nat) (v : Int32) (F : xTI → Option xTI), t < 7 → xas K 58 40670 (nI (2570 + 7 * p) + nI t) v F = F (xup K 58 (2570 + 7 * p + t) v) := fun K t v F ht => by rw [nI_add]; exact xas_n (by omega) (by decide)
    have p0 : ∀ (K : xTI) (v : Int32) (F : xTI → Option xTI), xas K 58 40670 (nI (2570 + 7 * p)) v F = F (xup K 58 (2570 + 7 * p + 0) v) := fun K v F => xas_n (by omega) (by decide)
    have p1 : ∀ (K : xTI) (v : Int32) (F : xTI → Option xTI), xas K 58 40670 (nI (2570 + 7 * p) + 1) v F = F (xup K 58 (2570 + 7 * p + 1) v) := fun K v F => p' K 1 v F (by decide)
    have p2 : ∀ (K : xTI) (v : Int32) (F : xTI → Option xTI), xas K 58 40670 (nI (2570 + 7 * p) + 2) v F = F (xup K 58 (2570 + 7 * p + 2) v) := fun K v F => p' K 2 v F (by decide)
    have p3 : ∀ (K : xTI) (v : Int32) (F : xTI → Option xTI), xas K 58 40670 (nI (2570 + 7 * p) + 3) v F = F (xup K 58 (2570 + 7 * p + 3) v) := fun K v F => p' K 3 v F (by decide)
    have p4 : ∀ (K : xTI) (v : Int32) (F : xTI → Option xTI), xas K 58 40670 (nI (2570 + 7 * p) + 4) v F = F (xup K 58 (2570 + 7 * p + 4) v) := fun K v F => p' K 4 v F (by decide)
    have p5 : ∀ (K : xTI) (v : Int32) (F : xTI → Option xTI), xas K 58 40670 (nI (2570 + 7 * p) + 5) v F = F (xup K 58 (2570 + 7 * p + 5) v) := fun K v F => p' K 5 v F (by decide)
    have p6 : ∀ (K : xTI) (v : Int32) (F : xTI → Option xTI), xas K 58 40670 (nI (2570 + 7 * p) + 6) v F = F (xup K 58 (2570 + 7 * p + 6) v) := fun K v F => p' K 6 v F (by decide)
    simp only [p0, p1, p2, p3, p4, p5, p6, l]
    simp only [xup_ne (show (64 : Nat) ≠ 58 by decide), xup_ne (show (63 : Nat) ≠ 58 by decide)]
    exact tail (wr J 58 (2570 + 7 * p) (psW x1 (J 64 i) x3 (J 63 i) x4 x5 x6) 7) (by rw [wr_out 7 (by omega)]; exact h6) (by rw [wr_ne (by decide)]; exact hT) (wr_ne (by decide) 7)
  · rw [if_pos (show (300 : Int32) ≤ nI p from nI_le (a := 300) (by omega) (by omega)), if_neg h]
    exact tail J h6 hT rfl
end
