/-! THE PURE PART. What holds between the class's memory (cells 0 .. 56, kept Book 87 .. 114) and the reference's (57 .. 86). -/
/-- the Book's numbers (days, men, stocks, options, rules, dividends, passes, deliveries, named, settled), as the reference counts them: q -/
def BRn (I : xTI) (q : Nat → Nat) : Prop := I 1 0 = nI (q 0) ∧ I 3 0 = nI (q 1) ∧ I 1 1 = nI (q 2) ∧ I 20 3 = nI (q 3) ∧ I 15 3 = nI (q 4) ∧ I 22 3 = nI (q 5) ∧ I 24 3 = nI (q 6) ∧ I 26 3 = nI (q 7) ∧ I 1 11 = nI (q 8) ∧ I 1 12 = nI (q 9)
/-- men: pace, the day he was down, hold, prices asked, made -/
def BRm (I : xTI) (s : Nat → Int32) (q : Nat → Nat) : Prop := (∀ m, m < q 1 → I 7 m = s (16 + 4 * m + 1) ∧ I 8 m = s (16 + 4 * m + 2)) ∧ (∀ j, j < 60 → I 9 j = s (64 + j) ∧ I 10 j = s (124 + j)) ∧ (∀ k, k < 5 → I 2 k = s (184 + k))
/-- coin, lost, extra, what a settling told -/
def BRc (L : xTL) (s : Nat → Int32) (c : Nat → Int64) : Prop := (∀ m, m < 12 → L 4 m = c m ∧ L 5 m = c (12 + m)) ∧ (∀ j, j < 144 → L 6 j = c (24 + j)) ∧ (∀ m, m < 12 → (∀ t, t < 4 → L 28 (5 * m + t) = c (168 + 4 * m + t)) ∧ L 28 (5 * m + 4) = (s (16 + 4 * m + 3)).toInt64)
/-- bargains: a free one has STATE -1, others are the reference's -/
def BRb (I : xTI) (s : Nat → Int32) : Prop := ∀ b, b < 60 → (s (192 + 12 * b) = 0 ∧ I 13 (11 * b + 7) = -1) ∨ (s (192 + 12 * b) = 1 ∧ ∀ t, t < 11 → I 13 (11 * b + t) = s (192 + 12 * b + 1 + t))
def BRo (I : xTI) (s : Nat → Int32) (q : Nat → Nat) : Prop := (∀ i, i < q 3 → ∀ t, t < 7 → I 21 (7 * i + t) = s (912 + 7 * i + t)) ∧ (∀ i, i < q 5 → ∀ t, t < 3 → I 23 (3 * i + t) = s (1052 + 3 * i + t)) ∧ (∀ i, i < q 6 → i < 300 → ∀ t, t < 7 → I 25 (7 * i + t) = s (2570 + 7 * i + t)) ∧ (∀ i, i < q 7 → ∀ t, t < 6 → I 27 (6 * i + t) = s (4670 + 6 * i + t))
/-- what joins two, as the class works it -/
def jn (j a b : Int32) : Int32 := if j = 5 then (if a = 0 then (if b = 0 then 0 else 1) else 1) else if j = 37 then (if b = 0 then 0 else a - a / b * b) else if j = 42 then a * b else if j = 43 then a + b else if j = 45 then a - b else if j = 47 then (if b = 0 then 0 else a / b) else if j = 60 then (if b ≤ a then 0 else 1) else if j = 61 then (if a = b then 1 else 0) else if j = 62 then (if a ≤ b then 0 else 1) else (if a = 0 then 0 else (if b = 0 then 0 else 1))
/-- a step of a rule's code on a stack; nm are the NAMES -/
def st1 (nm : Nat → Int32) (st : List Int32) (c : Int32) : List Int32 :=
  if c ≤ -11 then (if c = -20 then (match st with | [] => [] | x :: r => (if x = 0 then 1 else 0) :: r) else if c = -21 then (match st with | [] => [] | x :: r => (-x) :: r) else (match st with | y :: x :: r => jn (-100 - c) x y :: r | [x] => [x] | [] => []))
  else (if c < 0 then nm ((-1) - c).toNatClampNeg else c) :: st
def evl (nm : Nat → Int32) (cs st : List Int32) : List Int32 := cs.foldl (st1 nm) st
def evt (nm : Nat → Int32) (cs : List Int32) : Int32 := (evl nm cs []).headD 0
/-- what the NAMES are in the reference's memory, of stock k and bargain b (or -1) -/
def xEnv (I : xTI) (nm : Nat → Int32) (k b : Int32) : Prop := nm 0 = k ∧ (∃ kk, kk < 5 ∧ k = nI kk ∧ nm 1 = I 58 (184 + kk)) ∧ nm 2 = I 58 0 ∧ nm 3 = I 58 0 - I 58 0 / 14 * 14 ∧ F_X11_menUp xN I = some (nm 4) ∧
  ((b = -1 ∧ nm 5 = 0 ∧ nm 6 = 0 ∧ nm 7 = 0 ∧ nm 8 = 0 ∧ nm 9 = 0) ∨ ∃ bb, bb < 60 ∧ b = nI bb ∧ nm 5 = I 58 (192 + 12 * bb + 4) ∧ nm 6 = I 58 (192 + 12 * bb + 5) ∧ nm 7 = I 58 (192 + 12 * bb + 1) ∧ nm 8 = I 58 (192 + 12 * bb + 2) ∧ nm 9 = (if I 58 (192 + 12 * bb + 9) = -1 then 0 else 1) + (if I 58 (192 + 12 * bb + 10) = -1 then 0 else 2))
/-- the reference reads the text t (sz bytes) in any memory, and it says what the code cs1 works to, its if what cs2 works to -/
def RefR (t : Nat → Int32) (sz : Nat) (cs1 cs2 : List Int32) : Prop := ∀ (I : xTI) (L : xTL) (nm : Nat → Int32) (k b : Int32), xEnv I nm k b → I 57 7 = nI sz → (∀ i, i < sz → I 62 i = t i) →
  ∃ I2 L2, F_X11_readRule xN I L k b = some (I2, L2) ∧ I2 57 13 = 0 ∧ I2 57 18 = evt nm cs1 ∧ I2 57 19 = (if cs2 = [] then 1 else if evt nm cs2 = 0 then 0 else 1) ∧ (∀ j, j ≠ 57 → I2 j = I j) ∧ (∀ j, j < 7 ∨ 19 < j → I2 57 j = I 57 j) ∧ (∀ j, j ≠ 57 → L2 j = L j)
/-- a rule's text t (sz bytes) and what the class made of it: code cd, its value up to ve, its if up to ie -/
def RuleOK (t : Nat → Int32) (sz : Nat) (key : Int32) (cd : Nat → Int32) (ve ie : Nat) : Prop := sz ≤ 120 ∧ ie ≤ 120 ∧ ∃ cs1 cs2 : List Int32, cs1.length = ve ∧ ve + cs2.length = ie ∧ (∀ i, i < ie → cd i = (cs1 ++ cs2).getD i 0) ∧ RefR t sz cs1 cs2
def BRr (I : xTI) (s : Nat → Int32) (q : Nat → Nat) : Prop := ∀ r, r < q 4 → I 16 (5 * r) = s (1082 + 124 * r) ∧ I 16 (5 * r + 1) = s (1082 + 124 * r + 1) ∧ I 16 (5 * r + 2) = s (1082 + 124 * r + 2) ∧ ∃ sz ve ie : Nat, s (1082 + 124 * r + 3) = nI sz ∧ I 16 (5 * r + 3) = nI ve ∧ I 16 (5 * r + 4) = nI ie ∧ RuleOK (fun i => s (1082 + 124 * r + 4 + i)) sz (s (1082 + 124 * r)) (fun i => I 17 (120 * r + i)) ve ie
def BR (I : xTI) (L : xTL) (s : Nat → Int32) (c : Nat → Int64) (q : Nat → Nat) : Prop := BRn I q ∧ BRm I s q ∧ BRc L s c ∧ BRb I s ∧ BRo I s q ∧ BRr I s q
/-- a number that is a count: nI of one at most M -/
def isN (x : Int32) (M : Nat) : Prop := ∃ j, j ≤ M ∧ x = nI j
/-- the reference's own state: its counts -/
def IVn (s : Nat → Int32) (q : Nat → Nat) : Prop := (∀ i, i < 10 → s i = nI (q i)) ∧ q 0 ≤ 700 ∧ q 1 ≤ 12 ∧ q 2 ≤ 5 ∧ q 3 ≤ 20 ∧ q 4 ≤ 12 ∧ q 5 ≤ 10 ∧ q 6 ≤ 30000 ∧ q 7 ≤ 120 ∧ q 8 ≤ 1 ∧ q 9 ≤ 1
/-- its men: those that are there are UP, or DOWN since a day; of others nothing -/
def IVm (s : Nat → Int32) (q : Nat → Nat) (n : Nat) : Prop := (∀ m, m < q 1 → ((s (16 + 4 * m) = 1 ∧ s (16 + 4 * m + 2) = -1) ∨ (s (16 + 4 * m) = 0 ∧ isN (s (16 + 4 * m + 2)) (q 0))) ∧ isN (s (16 + 4 * m + 1)) 99 ∧ isN (s (16 + 4 * m + 3)) 6000) ∧ (∀ m, q 1 ≤ m → m < 12 → s (16 + 4 * m) = 0 ∧ s (16 + 4 * m + 3) = 0) ∧ (∀ j, j < 60 → isN (s (64 + j)) (200000 * n) ∧ isN (s (124 + j)) 9999) ∧ (∀ m k, m < 12 → k < 5 → (q 1 ≤ m ∨ q 2 ≤ k) → s (64 + (5 * m + k)) = 0) ∧ (∀ k, k < 5 → isN (s (184 + k)) 9999)
def isUpP (s : Nat → Int32) (m : Nat) : Prop := s (16 + 4 * m) = 1
/-- a bargain that is there: who, in what, how many, at what, when, for which account, its state, its marks -/
def IVbg (s : Nat → Int32) (q : Nat → Nat) (b : Nat) : Prop := ∃ (sl by_ st sh pr dy ac sta : Nat), s (192 + 12 * b + 1) = nI sl ∧ s (192 + 12 * b + 2) = nI by_ ∧ s (192 + 12 * b + 3) = nI st ∧ s (192 + 12 * b + 4) = nI sh ∧ s (192 + 12 * b + 5) = nI pr ∧ s (192 + 12 * b + 6) = nI dy ∧ s (192 + 12 * b + 7) = nI ac ∧ s (192 + 12 * b + 8) = nI sta ∧ sl < q 1 ∧ by_ < q 1 ∧ sl ≠ by_ ∧ st < q 2 ∧ 1 ≤ sh ∧ sh ≤ 99 ∧ 1 ≤ pr ∧ pr ≤ 9999 ∧ dy ≤ q 0 ∧ 14 * ac ≤ dy + 14 ∧ dy ≤ 14 * ac + 13 ∧ sta ≤ 3 ∧
  (s (192 + 12 * b + 9) = -1 ∨ isN (s (192 + 12 * b + 9)) (q 0)) ∧ (s (192 + 12 * b + 10) = -1 ∨ isN (s (192 + 12 * b + 10)) (q 0)) ∧ isN (s (192 + 12 * b + 11)) 1 ∧
  (sta = 0 → s (192 + 12 * b + 9) = -1 ∨ s (192 + 12 * b + 10) = -1) ∧ (sta = 1 → s (192 + 12 * b + 9) ≠ -1 ∧ s (192 + 12 * b + 10) ≠ -1) ∧ (sta ≤ 1 → isUpP s sl ∧ isUpP s by_)
def IVb (s : Nat → Int32) (q : Nat → Nat) : Prop := ∀ b, b < 60 → s (192 + 12 * b) = 0 ∨ (s (192 + 12 * b) = 1 ∧ IVbg s q b)
def IVo (s : Nat → Int32) (q : Nat → Nat) : Prop := (∀ i, i < q 3 → (∃ g t k, s (912 + 7 * i) = nI g ∧ s (912 + 7 * i + 1) = nI t ∧ s (912 + 7 * i + 2) = nI k ∧ g < q 1 ∧ t < q 1 ∧ g ≠ t ∧ k < q 2 ∧ (s (912 + 7 * i + 6) = 0 → isUpP s g ∧ isUpP s t)) ∧ (∃ sh, 1 ≤ sh ∧ sh ≤ 99 ∧ s (912 + 7 * i + 3) = nI sh) ∧ (∃ pr, 1 ≤ pr ∧ pr ≤ 9999 ∧ s (912 + 7 * i + 4) = nI pr) ∧ isN (s (912 + 7 * i + 5)) 800 ∧ isN (s (912 + 7 * i + 6)) 2) ∧
  (∀ i, i < q 5 → (∃ k, k < q 2 ∧ s (1052 + 3 * i) = nI k) ∧ isN (s (1052 + 3 * i + 1)) 699 ∧ (∃ p, 1 ≤ p ∧ p ≤ 999 ∧ s (1052 + 3 * i + 2) = nI p))
/-- what the EXTRA sums come to -/
def exS (c : Nat → Int64) : Nat → Int
  | 0 => 0
  | i + 1 => exS c i + (c (24 + i)).toInt
theorem exS_congr {c c2 : Nat → Int64} : ∀ n, (∀ j, j < n → c2 (24 + j) = c (24 + j)) → exS c2 n = exS c n
  | 0, _ => rfl
  | n + 1, h => by
    rw [exS, exS, h n (Nat.lt_succ_self n), exS_congr n (fun j hj => h j (Nat.lt_succ_of_lt hj))]
theorem exS_zero {c : Nat → Int64} : ∀ n, (∀ j, j < n → c (24 + j) = 0) → exS c n = 0
  | 0, _ => rfl
  | n + 1, h => by
    rw [exS, h n (Nat.lt_succ_self n), exS_zero n (fun j hj => h j (Nat.lt_succ_of_lt hj))]; rfl
/-- its coins: none is below 0, and none grows beyond what n calls can bring; extra -/
def IVc (c : Nat → Int64) (s : Nat → Int32) (q : Nat → Nat) (n : Nat) : Prop := (∀ m, m < 12 → 0 ≤ (c m).toInt ∧ (c m).toInt ≤ 10 ^ 14 * n ∧ (q 1 ≤ m → c m = 0)) ∧ (∀ a b, a < 12 → b < 12 → 0 ≤ (c (24 + (12 * a + b))).toInt ∧ (c (24 + (12 * a + b))).toInt ≤ 59340600 * ((q 0 + 1) % 14) ∧ (a = b ∨ q 1 ≤ a ∨ q 1 ≤ b ∨ ¬ isUpP s a ∨ ¬ isUpP s b → c (24 + (12 * a + b)) = 0)) ∧ (∀ m, q 1 ≤ m → m < 12 → ∀ t, t < 4 → c (168 + 4 * m + t) = 0) ∧ exS c 144 ≤ 59340600 * ((q 0 + 1) % 14)
/-- how many shares the first i DELIVERIES come to -/
def dvS (s : Nat → Int32) : Nat → Nat
  | 0 => 0
  | i + 1 => dvS s i + (s (4670 + 6 * i + 3)).toNatClampNeg
def IVd (s : Nat → Int32) (q : Nat → Nat) : Prop := (∀ i, i < q 7 → ∃ (k f t sh : Nat), s (4670 + 6 * i) = nI k ∧ s (4670 + 6 * i + 1) = nI f ∧ s (4670 + 6 * i + 2) = nI t ∧ s (4670 + 6 * i + 3) = nI sh ∧ k < q 2 ∧ f < q 1 ∧ t < q 1 ∧ f ≠ t ∧ 1 ≤ sh ∧ sh ≤ 5940 ∧ (s (4670 + 6 * i + 5) = -1 ∨ ∃ m, m < q 1 ∧ s (4670 + 6 * i + 5) = nI m ∧ (q 0 % 14 = 12 → isUpP s m)) ∧ (q 0 % 14 = 12 → isUpP s f ∧ isUpP s t)) ∧
  dvS s (q 7) ≤ 5940 ∧ ∀ i j, i < q 7 → j < q 7 → s (4670 + 6 * i) = s (4670 + 6 * j) → s (4670 + 6 * i + 1) ≠ s (4670 + 6 * j + 2)
def IVr (s : Nat → Int32) (q : Nat → Nat) : Prop := ∀ r, r < q 4 → (∃ k, k < 6 ∧ s (1082 + 124 * r) = nI k) ∧ isN (s (1082 + 124 * r + 1)) 1000 ∧ isN (s (1082 + 124 * r + 2)) 1000 ∧ isN (s (1082 + 124 * r + 3)) 120
def IV (s : Nat → Int32) (c : Nat → Int64) (q : Nat → Nat) (n : Nat) : Prop := IVn s q ∧ IVm s q n ∧ IVb s q ∧ IVo s q ∧ IVc c s q n ∧ IVd s q ∧ IVr s q
/-- THE TAPE, THE ROW, the refusals, the image -/
def xTP (I : xTI) : Prop := ∃ t, t ≤ 120 ∧ I 29 0 = nI t ∧ I 57 5 = nI t ∧ ∀ i, i < t → I 30 i = I 61 i ∧ isN (I 30 i) 255
def xRW (I : xTI) : Prop := (I 57 47 = 0 ∧ I 0 8 = -1) ∨ (I 57 47 = 1 ∧ ∃ k, k ≤ 60 ∧ I 0 8 = nI k ∧ I 57 46 = nI k ∧ ∀ i, i < k → I 55 i = I 86 i)
def xRF (I : xTI) : Prop := ∀ i, 2 ≤ i → i ≤ 8 → I 56 i = I 60 i
def xKI (kp : Bool) (n : Nat) (I : xTI) (L : xTL) : Prop := (kp = false ∧ I 57 44 = 0) ∨ (kp = true ∧ I 57 44 = 1 ∧ ∃ q, BR (fun k => I (k + 86)) (fun k => L (k + 86)) (I 84) (L 85) q ∧ IV (I 84) (L 85) q n)
def xRel (kp : Bool) (n : Nat) (I : xTI) (L : xTL) : Prop := (∃ q, BR I L (I 58) (L 59) q ∧ IV (I 58) (L 59) q n) ∧ xTP I ∧ xRW I ∧ xRF I ∧ xKI kp n I L
/-! frames: what a clause doesn't read may change -/
theorem BR.frame {I I2 : xTI} {L L2 : xTL} {s : Nat → Int32} {c : Nat → Int64} {q : Nat → Nat} (h : BR I L s c q) (hI : ∀ k, 1 ≤ k → k ≤ 28 → I2 k = I k) (hL : ∀ k, 1 ≤ k → k ≤ 28 → L2 k = L k) : BR I2 L2 s c q := by
  obtain ⟨h1, h2, h3, h4, h5, h6⟩ := h
  unfold BR BRn BRm BRc BRb BRo BRr
  rw [hI 1 (by decide) (by decide), hI 3 (by decide) (by decide), hI 20 (by decide) (by decide), hI 15 (by decide) (by decide), hI 22 (by decide) (by decide), hI 24 (by decide) (by decide), hI 26 (by decide) (by decide), hI 7 (by decide) (by decide), hI 8 (by decide) (by decide), hI 9 (by decide) (by decide), hI 10 (by decide) (by decide), hI 2 (by decide) (by decide), hI 13 (by decide) (by decide), hI 21 (by decide) (by decide), hI 23 (by decide) (by decide), hI 25 (by decide) (by decide), hI 27 (by decide) (by decide), hI 16 (by decide) (by decide), hI 17 (by decide) (by decide), hL 4 (by decide) (by decide), hL 5 (by decide) (by decide), hL 6 (by decide) (by decide), hL 28 (by decide) (by decide)]
  exact ⟨h1, h2, h3, h4, h5, h6⟩
theorem xTP.frame {I I2 : xTI} (h : xTP I) (h1 : I2 29 0 = I 29 0) (h2 : I2 57 5 = I 57 5) (h3 : I2 30 = I 30) (h4 : I2 61 = I 61) : xTP I2 := by
  unfold xTP
  rw [h1, h2, h3, h4]
  exact h
theorem xRW.frame {I I2 : xTI} (h : xRW I) (h1 : I2 57 47 = I 57 47) (h2 : I2 57 46 = I 57 46) (h3 : I2 0 8 = I 0 8) (h4 : I2 55 = I 55) (h5 : I2 86 = I 86) : xRW I2 := by
  unfold xRW
  rw [h1, h2, h3, h4, h5]
  exact h
theorem xKI.frame {kp : Bool} {n : Nat} {I I2 : xTI} {L L2 : xTL} (h : xKI kp n I L) (h1 : I2 57 44 = I 57 44) (h2 : I2 84 = I 84) (h3 : L2 85 = L 85) (hI : ∀ k, 87 ≤ k → k ≤ 114 → I2 k = I k) (hL : ∀ k, 87 ≤ k → k ≤ 114 → L2 k = L k) : xKI kp n I2 L2 := by
  unfold xKI
  rw [h1, h2, h3]
  rcases h with h | ⟨a, b, q, c, d⟩
  · exact Or.inl h
  · exact Or.inr ⟨a, b, q, c.frame (fun k h1 h2 => hI _ (by omega) (by omega)) (fun k h1 h2 => hL _ (by omega) (by omega)), d⟩
theorem isN.mono {x : Int32} {a b : Nat} (h : isN x a) (hab : a ≤ b) : isN x b := by
  obtain ⟨j, h1, h2⟩ := h
  exact ⟨j, Nat.le_trans h1 hab, h2⟩
theorem IV.mono {s : Nat → Int32} {c : Nat → Int64} {q : Nat → Nat} {n : Nat} (h : IV s c q n) : IV s c q (n + 1) := by
  obtain ⟨h1, ⟨a1, a2, a3, a4, a5⟩, h3, h4, ⟨c1, c2, c3⟩, h6, h7⟩ := h
  refine ⟨h1, ⟨a1, a2, fun j hj => ⟨(a3 j hj).1.mono (by omega), (a3 j hj).2⟩, a4, a5⟩, h3, h4, ⟨fun m hm => ⟨(c1 m hm).1, ?_, (c1 m hm).2.2⟩, c2, c3⟩, h6, h7⟩
  have := (c1 m hm).2.1
  omega
theorem pr_mono : ∀ kp n I L, xRel kp n I L → xRel kp (n + 1) I L := by
  intro kp n I L ⟨⟨q, h1, h2⟩, h3, h4, h5, h6⟩
  refine ⟨⟨q, h1, h2.mono⟩, h3, h4, h5, ?_⟩
  rcases h6 with h | ⟨a, b, q, c, d⟩
  · exact Or.inl h
  · exact Or.inr ⟨a, b, q, c, d.mono⟩
/-! numbers -/
theorem xal_n {α R : Type} {I : Nat → Nat → α} {k n i : Nat} {K : α → Option R} (h : i < n) (hn : n < 2 ^ 31) : xal I k n (nI i) K = K (I k i) := by
  unfold xal
  have hc : (nI i).toNatClampNeg = i := nI_clamp (by omega)
  rw [hc, if_neg]
  rintro (g | g)
  · exact nI_pos (by omega) g
  · omega
theorem xas_n {α R : Type} {I : Nat → Nat → α} {k n i : Nat} {v : α} {K : (Nat → Nat → α) → Option R} (h : i < n) (hn : n < 2 ^ 31) : xas I k n (nI i) v K = K (xup I k i v) := by
  unfold xas
  have hc : (nI i).toNatClampNeg = i := nI_clamp (by omega)
  rw [hc, if_neg]
  rintro (g | g)
  · exact nI_pos (by omega) g
  · omega
theorem nI_lit (n : Nat) : (OfNat.ofNat n : Int32) = nI n := rfl
theorem nI_mul (a b : Nat) : nI a * nI b = nI (a * b) := by unfold nI; rw [Int32.ofNat_mul]
theorem xwi_iff {x a b : Int32} : F_X10_isWithin x a b = some (if a ≤ x ∧ x ≤ b then 1 else 0) := by
  unfold F_X10_isWithin xzc
  by_cases h1 : x < a
  · have : ¬ a ≤ x := Int32.not_le.mpr h1
    simp [h1, this]
  · have h1' : a ≤ x := Int32.not_lt.mp h1
    by_cases h2 : b < x
    · have : ¬ x ≤ b := Int32.not_le.mpr h2
      simp [h1, h2, this]
    · have h2' : x ≤ b := Int32.not_lt.mp h2
      simp [h1, h2, h1', h2']
theorem xin_iff {x a b : Int32} : F_X11_in x a b = some (if a ≤ x ∧ x ≤ b then 1 else 0) := by
  rw [← xwi_iff]
  rfl
/-- an int among 0 .. k - 1, as the code asks it -/
theorem rng_iff {x : Int32} {k : Nat} (hk : k ≤ 100000) : (0 ≤ x ∧ x ≤ nI k - 1) ↔ ∃ j, j < k ∧ x = nI j := by
  have e1 : (nI k - 1).toInt = (k : Int) - 1 := by
    rw [Int32.toInt_sub, nI_toInt (by omega)]
    have e : (1 : Int32).toInt = 1 := by decide
    rw [e]
    apply Int.bmod_eq_of_le <;> omega
  rw [Int32.le_iff_toInt_le, Int32.le_iff_toInt_le, e1]
  have e0 : (0 : Int32).toInt = 0 := by decide
  rw [e0]
  constructor
  · rintro ⟨h1, h2⟩
    refine ⟨x.toInt.toNat, by omega, ?_⟩
    apply Int32.toInt_inj.mp
    rw [nI_toInt (by omega)]
    omega
  · rintro ⟨j, hj, rfl⟩
    rw [nI_toInt (by omega)]
    omega
theorem rngl_iff {x : Int32} {a b : Nat} (ha : a ≤ b) (hb : b ≤ 1000000000) : (nI a ≤ x ∧ x ≤ nI b) ↔ ∃ j, a ≤ j ∧ j ≤ b ∧ x = nI j := by
  rw [Int32.le_iff_toInt_le, Int32.le_iff_toInt_le, nI_toInt (by omega), nI_toInt (by omega)]
  constructor
  · rintro ⟨h1, h2⟩
    refine ⟨x.toInt.toNat, by omega, by omega, ?_⟩
    apply Int32.toInt_inj.mp
    rw [nI_toInt (by omega)]
    omega
  · rintro ⟨j, h1, h2, rfl⟩
    rw [nI_toInt (by omega)]
    omega
