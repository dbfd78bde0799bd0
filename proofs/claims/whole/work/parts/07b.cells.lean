def x0I : xTI := fun k j => if k = 13 ∨ k = 99 then yfB 60 j else if k = 0 ∧ j = 8 then -1 else 0
def x0L : xTL := fun _ _ => 0
/-- a new Book's cells, as its constructor leaves them -/
def xnI (I : xTI) : xTI := fun k => if k < 87 then I k else x0I k
def xnL (L : xTL) : xTL := fun k => if k < 87 then L k else x0L k
def xEl (G : XG) (I : xTI) (L : xTL) : List va_E := (List.range 87).map (fun k => (xE G false k (I k) (L k)).getD (.inr (0, [])))
theorem xEl_len (G : XG) (I : xTI) (L : xTL) : (xEl G I L).length = 87 := by simp [xEl]
theorem xEl_at {G : XG} {I : xTI} {L : xTL} {k : Nat} {e : va_E} (h : xE G false k (I k) (L k) = some e) : (xEl G I L)[k]? = some e := by
  have hk : k < 87 := xE_lt h
  simp [xEl, List.getElem?_map, List.getElem?_range hk, h]
theorem x_toY {G : XG} {I : xTI} {L : xTL} {H : Heap} (hR : xRep G false I L H) : yRep G (xEl G I L) H := by
  refine ⟨by rw [xEl_len]; exact hR.1, fun k e he => ?_⟩
  have hk : k < 87 := by
    have := (List.getElem?_eq_some_iff.mp he).1
    rwa [xEl_len] at this
  obtain ⟨e1, h1⟩ := xE_some (G := G) (kp := false) (f := I k) (g := L k) hk
  rw [xEl_at h1] at he
  cases he
  exact hR.2 k e h1
abbrev xBk (G : XG) : List va_E := [.inr (1, [.int 0, .int 0, .ref (xz G + (87 + 1)), .ref (xz G + (87 + 2)), .ref (xz G + (87 + 10)), .ref (xz G + (87 + 13)), .ref (xz G + (87 + 19)), .ref (xz G + (87 + 21)), .ref (xz G + (87 + 23)), .ref (xz G + (87 + 25)), .ref (xz G + (87 + 27)), .int 0, .int 0]), .inl (G.2.1, (5, .inl (fun _ => 0))), .inr (3, [.int 0, .ref (xz G + ((87 + 2) + 1)), .ref (xz G + ((87 + 2) + 2)), .ref (xz G + ((87 + 2) + 3)), .ref (xz G + ((87 + 2) + 4)), .ref (xz G + ((87 + 2) + 5)), .ref (xz G + ((87 + 2) + 6)), .ref (xz G + ((87 + 2) + 7))]), .inl (G.2.2.1, (12, .inr (.inl (fun _ => 0)))), .inl (G.2.2.1, (12, .inr (.inl (fun _ => 0)))), .inl (G.2.2.1, (144, .inr (.inl (fun _ => 0)))), .inl (G.2.1, (12, .inl (fun _ => 0))), .inl (G.2.1, (12, .inl (fun _ => 0))), .inl (G.2.1, (60, .inl (fun _ => 0))), .inl (G.2.1, (60, .inl (fun _ => 0))), .inr (0, [.ref (xz G + ((87 + 10) + 1))]), .inr (8, [.int 60, .int 11, .ref (xz G + (((87 + 10) + 1) + 1)), .int 0]), .inl (G.2.1, (660, .inl (yfB 60))), .inr (5, [.ref (xz G + ((87 + 13) + 1)), .ref (xz G + ((87 + 13) + 3)), .ref (xz G + ((87 + 13) + 4)), .ref (xz G + ((87 + 13) + 5))]), .inr (8, [.int 12, .int 5, .ref (xz G + (((87 + 13) + 1) + 1)), .int 0]), .inl (G.2.1, (60, .inl (fun _ => 0))), .inl (G.2.1, (1440, .inl (fun _ => 0))), .inl (G.2.1, (10, .inl (fun _ => 0))), .inl (G.2.1, (120, .inl (fun _ => 0))), .inr (8, [.int 20, .int 7, .ref (xz G + ((87 + 19) + 1)), .int 0]), .inl (G.2.1, (140, .inl (fun _ => 0))), .inr (8, [.int 10, .int 3, .ref (xz G + ((87 + 21) + 1)), .int 0]), .inl (G.2.1, (30, .inl (fun _ => 0))), .inr (8, [.int 300, .int 7, .ref (xz G + ((87 + 23) + 1)), .int 0]), .inl (G.2.1, (2100, .inl (fun _ => 0))), .inr (8, [.int 200, .int 6, .ref (xz G + ((87 + 25) + 1)), .int 0]), .inl (G.2.1, (1200, .inl (fun _ => 0))), .inl (G.2.2.1, (60, .inr (.inl (fun _ => 0))))]
abbrev xAc (G : XG) : List va_E := [.inr (10, [.ref (xz G + (0 + 1)), .null, .ref (xz G + (0 + 29)), .ref (xz G + (0 + 32)), .ref (xz G + (0 + 33)), .ref (xz G + (0 + 41)), .ref (xz G + (0 + 46)), .ref (xz G + (0 + 55)), .int (-1), .ref (xz G + (0 + 56))]), .inr (1, [.int 0, .int 0, .ref (xz G + ((0 + 1) + 1)), .ref (xz G + ((0 + 1) + 2)), .ref (xz G + ((0 + 1) + 10)), .ref (xz G + ((0 + 1) + 13)), .ref (xz G + ((0 + 1) + 19)), .ref (xz G + ((0 + 1) + 21)), .ref (xz G + ((0 + 1) + 23)), .ref (xz G + ((0 + 1) + 25)), .ref (xz G + ((0 + 1) + 27)), .int 0, .int 0]), .inl (G.2.1, (5, .inl (fun _ => 0))), .inr (3, [.int 0, .ref (xz G + (((0 + 1) + 2) + 1)), .ref (xz G + (((0 + 1) + 2) + 2)), .ref (xz G + (((0 + 1) + 2) + 3)), .ref (xz G + (((0 + 1) + 2) + 4)), .ref (xz G + (((0 + 1) + 2) + 5)), .ref (xz G + (((0 + 1) + 2) + 6)), .ref (xz G + (((0 + 1) + 2) + 7))]), .inl (G.2.2.1, (12, .inr (.inl (fun _ => 0)))), .inl (G.2.2.1, (12, .inr (.inl (fun _ => 0)))), .inl (G.2.2.1, (144, .inr (.inl (fun _ => 0)))), .inl (G.2.1, (12, .inl (fun _ => 0))), .inl (G.2.1, (12, .inl (fun _ => 0))), .inl (G.2.1, (60, .inl (fun _ => 0))), .inl (G.2.1, (60, .inl (fun _ => 0))), .inr (0, [.ref (xz G + (((0 + 1) + 10) + 1))]), .inr (8, [.int 60, .int 11, .ref (xz G + ((((0 + 1) + 10) + 1) + 1)), .int 0]), .inl (G.2.1, (660, .inl (yfB 60))), .inr (5, [.ref (xz G + (((0 + 1) + 13) + 1)), .ref (xz G + (((0 + 1) + 13) + 3)), .ref (xz G + (((0 + 1) + 13) + 4)), .ref (xz G + (((0 + 1) + 13) + 5))]), .inr (8, [.int 12, .int 5, .ref (xz G + ((((0 + 1) + 13) + 1) + 1)), .int 0]), .inl (G.2.1, (60, .inl (fun _ => 0))), .inl (G.2.1, (1440, .inl (fun _ => 0))), .inl (G.2.1, (10, .inl (fun _ => 0))), .inl (G.2.1, (120, .inl (fun _ => 0))), .inr (8, [.int 20, .int 7, .ref (xz G + (((0 + 1) + 19) + 1)), .int 0]), .inl (G.2.1, (140, .inl (fun _ => 0))), .inr (8, [.int 10, .int 3, .ref (xz G + (((0 + 1) + 21) + 1)), .int 0]), .inl (G.2.1, (30, .inl (fun _ => 0))), .inr (8, [.int 300, .int 7, .ref (xz G + (((0 + 1) + 23) + 1)), .int 0]), .inl (G.2.1, (2100, .inl (fun _ => 0))), .inr (8, [.int 200, .int 6, .ref (xz G + (((0 + 1) + 25) + 1)), .int 0]), .inl (G.2.1, (1200, .inl (fun _ => 0))), .inl (G.2.2.1, (60, .inr (.inl (fun _ => 0)))), .inr (9, [.int 0, .ref (xz G + ((0 + 29) + 1)), .int 0, .int 0, .int 0, .int 0, .int 0, .ref (xz G + ((0 + 29) + 2)), .int 0, .int 0]), .inl (G.2.1, (120, .inl (fun _ => 0))), .inl (G.2.1, (120, .inl (fun _ => 0))), .inr (2, []), .inr (4, [.ref (xz G + ((0 + 33) + 1)), .ref (xz G + ((0 + 33) + 2)), .ref (xz G + ((0 + 33) + 3)), .ref (xz G + ((0 + 33) + 4)), .ref (xz G + ((0 + 33) + 5)), .int 0, .int 0, .ref (xz G + ((0 + 33) + 6)), .ref (xz G + ((0 + 33) + 7))]), .inl (G.2.1, (128, .inl (fun _ => 0))), .inl (G.2.1, (128, .inl (fun _ => 0))), .inl (G.2.1, (128, .inl (fun _ => 0))), .inl (G.2.1, (128, .inl (fun _ => 0))), .inl (G.2.1, (128, .inl (fun _ => 0))), .inl (G.2.1, (12, .inl (fun _ => 0))), .inl (G.2.1, (60, .inl (fun _ => 0))), .inr (6, [.ref (xz G + ((0 + 41) + 1)), .ref (xz G + ((0 + 41) + 2)), .ref (xz G + ((0 + 41) + 3)), .ref (xz G + ((0 + 41) + 4))]), .inl (G.2.2.1, (156, .inr (.inl (fun _ => 0)))), .inl (G.2.2.1, (156, .inr (.inl (fun _ => 0)))), .inl (G.2.2.1, (156, .inr (.inl (fun _ => 0)))), .inl (G.2.2.1, (12, .inr (.inl (fun _ => 0)))), .inr (7, [.ref (xz G + ((0 + 46) + 1)), .ref (xz G + ((0 + 46) + 2)), .ref (xz G + ((0 + 46) + 3)), .ref (xz G + ((0 + 46) + 4)), .ref (xz G + ((0 + 46) + 5)), .ref (xz G + ((0 + 46) + 6)), .ref (xz G + ((0 + 46) + 7)), .ref (xz G + ((0 + 46) + 8)), .int 0]), .inl (G.2.1, (12, .inl (fun _ => 0))), .inl (G.2.1, (10, .inl (fun _ => 0))), .inl (G.2.1, (1024, .inl (fun _ => 0))), .inl (G.2.1, (1024, .inl (fun _ => 0))), .inl (G.2.2.1, (12, .inr (.inl (fun _ => 0)))), .inl (G.2.2.1, (12, .inr (.inl (fun _ => 0)))), .inl (G.2.1, (12, .inl (fun _ => 0))), .inl (G.2.2.1, (12, .inr (.inl (fun _ => 0)))), .inl (G.2.1, (60, .inl (fun _ => 0))), .inl (G.2.1, (9, .inl (fun _ => 0)))]
abbrev xMo (G : XG) : List va_E := [.inr (11, [.int 0, .ref (xz G + (57 + 1)), .ref (xz G + (57 + 2)), .ref (xz G + (57 + 3)), .ref (xz G + (57 + 4)), .int 0, .ref (xz G + (57 + 5)), .int 0, .int 0, .int 0, .long 0, .int 0, .int 0, .int 0, .int 0, .int 0, .int 0, .int 0, .int 0, .int 0, .ref (xz G + (57 + 6)), .ref (xz G + (57 + 7)), .ref (xz G + (57 + 8)), .ref (xz G + (57 + 9)), .ref (xz G + (57 + 10)), .int 0, .ref (xz G + (57 + 11)), .ref (xz G + (57 + 12)), .ref (xz G + (57 + 13)), .ref (xz G + (57 + 14)), .ref (xz G + (57 + 15)), .ref (xz G + (57 + 16)), .ref (xz G + (57 + 17)), .ref (xz G + (57 + 18)), .ref (xz G + (57 + 19)), .ref (xz G + (57 + 20)), .ref (xz G + (57 + 21)), .ref (xz G + (57 + 22)), .ref (xz G + (57 + 23)), .ref (xz G + (57 + 24)), .ref (xz G + (57 + 25)), .ref (xz G + (57 + 26)), .ref (xz G + (57 + 27)), .ref (xz G + (57 + 28)), .int 0, .ref (xz G + (57 + 29)), .int 0, .int 0]), .inl (G.2.1, (40670, .inl (upd (fun _ => 0) (0 : Int32).toNatClampNeg 0))), .inl (G.2.2.1, (216, .inr (.inl (fun _ => 0)))), .inl (G.2.1, (9, .inl (fun _ => 0))), .inl (G.2.1, (120, .inl (fun _ => 0))), .inl (G.2.1, (120, .inl (fun _ => 0))), .inl (G.2.1, (8000, .inl (fun _ => 0))), .inl (G.2.1, (8000, .inl (fun _ => 0))), .inl (G.2.1, (8000, .inl (fun _ => 0))), .inl (G.2.1, (8000, .inl (fun _ => 0))), .inl (G.2.1, (8000, .inl (fun _ => 0))), .inl (G.2.1, (12, .inl (fun _ => 0))), .inl (G.2.1, (60, .inl (fun _ => 0))), .inl (G.2.2.1, (144, .inr (.inl (fun _ => 0)))), .inl (G.2.2.1, (12, .inr (.inl (fun _ => 0)))), .inl (G.2.2.1, (12, .inr (.inl (fun _ => 0)))), .inl (G.2.2.1, (144, .inr (.inl (fun _ => 0)))), .inl (G.2.2.1, (144, .inr (.inl (fun _ => 0)))), .inl (G.2.2.1, (12, .inr (.inl (fun _ => 0)))), .inl (G.2.1, (60, .inl (fun _ => 0))), .inl (G.2.1, (12, .inl (fun _ => 0))), .inl (G.2.1, (12, .inl (fun _ => 0))), .inl (G.2.1, (1024, .inl (fun _ => 0))), .inl (G.2.1, (1024, .inl (fun _ => 0))), .inl (G.2.2.1, (12, .inr (.inl (fun _ => 0)))), .inl (G.2.2.2.1, (12, .inl (fun _ => 0))), .inl (G.2.2.2.1, (60, .inl (fun _ => 0))), .inl (G.2.1, (40670, .inl (fun _ => 0))), .inl (G.2.2.1, (216, .inr (.inl (fun _ => 0)))), .inl (G.2.1, (60, .inl (fun _ => 0)))]
theorem x_bk (G : XG) : ∀ (k : Nat) (e : va_E), 87 ≤ k → xE G true k (x0I k) (x0L k) = some e → (xBk G)[k - 87]? = some e := by
  intro k e hk h
  have hk2 : k < 115 := xE_lt h
  obtain ⟨i, rfl⟩ : ∃ i, k = i + 87 := ⟨k - 87, by omega⟩
  rw [Nat.add_sub_cancel]
  match i, h with
  | 0, h => exact h
  | 1, h => exact h
  | 2, h => exact h
  | 3, h => exact h
  | 4, h => exact h
  | 5, h => exact h
  | 6, h => exact h
  | 7, h => exact h
  | 8, h => exact h
  | 9, h => exact h
  | 10, h => exact h
  | 11, h => exact h
  | 12, h => exact h
  | 13, h => exact h
  | 14, h => exact h
  | 15, h => exact h
  | 16, h => exact h
  | 17, h => exact h
  | 18, h => exact h
  | 19, h => exact h
  | 20, h => exact h
  | 21, h => exact h
  | 22, h => exact h
  | 23, h => exact h
  | 24, h => exact h
  | 25, h => exact h
  | 26, h => exact h
  | 27, h => exact h
  | i + 28, h => omega
theorem x_st (G : XG) : ∀ (k : Nat) (e : va_E), xE G false k (x0I k) (x0L k) = some e → (xAc G ++ xMo G)[k]? = some e := by
  intro k e h
  have hk2 : k < 87 := xE_lt h
  match k, h with
  | 0, h => exact h
  | 1, h => exact h
  | 2, h => exact h
  | 3, h => exact h
  | 4, h => exact h
  | 5, h => exact h
  | 6, h => exact h
  | 7, h => exact h
  | 8, h => exact h
  | 9, h => exact h
  | 10, h => exact h
  | 11, h => exact h
  | 12, h => exact h
  | 13, h => exact h
  | 14, h => exact h
  | 15, h => exact h
  | 16, h => exact h
  | 17, h => exact h
  | 18, h => exact h
  | 19, h => exact h
  | 20, h => exact h
  | 21, h => exact h
  | 22, h => exact h
  | 23, h => exact h
  | 24, h => exact h
  | 25, h => exact h
  | 26, h => exact h
  | 27, h => exact h
  | 28, h => exact h
  | 29, h => exact h
  | 30, h => exact h
  | 31, h => exact h
  | 32, h => exact h
  | 33, h => exact h
  | 34, h => exact h
  | 35, h => exact h
  | 36, h => exact h
  | 37, h => exact h
  | 38, h => exact h
  | 39, h => exact h
  | 40, h => exact h
  | 41, h => exact h
  | 42, h => exact h
  | 43, h => exact h
  | 44, h => exact h
  | 45, h => exact h
  | 46, h => exact h
  | 47, h => exact h
  | 48, h => exact h
  | 49, h => exact h
  | 50, h => exact h
  | 51, h => exact h
  | 52, h => exact h
  | 53, h => exact h
  | 54, h => exact h
  | 55, h => exact h
  | 56, h => exact h
  | 57, h => exact h
  | 58, h =>
    rw [← h]
    show some (Sum.inl (G.2.1, (40670, Sum.inl (upd (fun _ => (0 : Int32)) (0 : Int32).toNatClampNeg 0)))) = some (Sum.inl (G.2.1, (40670, Sum.inl (x0I 58))))
    have e1 : upd (fun _ => (0 : Int32)) (0 : Int32).toNatClampNeg 0 = x0I 58 := by
      funext j
      simp [upd, x0I]
    rw [e1]
  | 59, h => exact h
  | 60, h => exact h
  | 61, h => exact h
  | 62, h => exact h
  | 63, h => exact h
  | 64, h => exact h
  | 65, h => exact h
  | 66, h => exact h
  | 67, h => exact h
  | 68, h => exact h
  | 69, h => exact h
  | 70, h => exact h
  | 71, h => exact h
  | 72, h => exact h
  | 73, h => exact h
  | 74, h => exact h
  | 75, h => exact h
  | 76, h => exact h
  | 77, h => exact h
  | 78, h => exact h
  | 79, h => exact h
  | 80, h => exact h
  | 81, h => exact h
  | 82, h => exact h
  | 83, h => exact h
  | 84, h => exact h
  | 85, h => exact h
  | 86, h => exact h
  | k + 87, h => omega
