/-- the row after i cells are copied upward / downward -/
def cpU (I : xTI) (a b i : Nat) : xTI := fun k j => if k = 86 ∧ b ≤ j ∧ j < b + i then I 86 (a + (j - b)) else I k j
def cpD (I : xTI) (a b c i : Nat) : xTI := fun k j => if k = 86 ∧ b + (c - i) ≤ j ∧ j < b + c then I 86 (a + (j - b)) else I k j
theorem cpU_s {I : xTI} {a b i : Nat} (h : b ≤ a) : xup (cpU I a b i) 86 (b + i) (cpU I a b i 86 (a + i)) = cpU I a b (i + 1) := by
  funext k j
  unfold xup cpU
  have e : (if 86 = 86 ∧ b ≤ a + i ∧ a + i < b + i then I 86 (a + (a + i - b)) else I 86 (a + i)) = I 86 (a + i) := if_neg (by omega)
  rw [e]
  by_cases hk : k = 86
  · subst hk
    by_cases hj : j = b + i
    · subst hj
      rw [if_pos ⟨rfl, rfl⟩, if_pos ⟨rfl, by omega, by omega⟩, show b + i - b = i by omega]
    · rw [if_neg (fun z => hj z.2)]
      by_cases g : b ≤ j ∧ j < b + i
      · rw [if_pos ⟨rfl, g⟩, if_pos ⟨rfl, by omega, by omega⟩]
      · rw [if_neg (fun z => g z.2), if_neg (fun z => g ⟨z.2.1, by omega⟩)]
  · rw [if_neg (fun z => hk z.1), if_neg (fun z => hk z.1), if_neg (fun z => hk z.1)]
theorem cpD_s {I : xTI} {a b c i : Nat} (h : a < b) (hi : i < c) : xup (cpD I a b c i) 86 (b + (c - 1 - i)) (cpD I a b c i 86 (a + (c - 1 - i))) = cpD I a b c (i + 1) := by
  funext k j
  unfold xup cpD
  have e : (if 86 = 86 ∧ b + (c - i) ≤ a + (c - 1 - i) ∧ a + (c - 1 - i) < b + c then I 86 (a + (a + (c - 1 - i) - b)) else I 86 (a + (c - 1 - i))) = I 86 (a + (c - 1 - i)) := if_neg (by omega)
  rw [e]
  by_cases hk : k = 86
  · subst hk
    by_cases hj : j = b + (c - 1 - i)
    · subst hj
      rw [if_pos ⟨rfl, rfl⟩, if_pos ⟨rfl, by omega, by omega⟩, show b + (c - 1 - i) - b = c - 1 - i by omega]
    · rw [if_neg (fun z => hj z.2)]
      by_cases g : b + (c - i) ≤ j ∧ j < b + c
      · rw [if_pos ⟨rfl, g⟩, if_pos ⟨rfl, by omega, by omega⟩]
      · rw [if_neg (fun z => g z.2), if_neg (fun z => g ⟨by omega, z.2.2⟩)]
  · rw [if_neg (fun z => hk z.1), if_neg (fun z => hk z.1), if_neg (fun z => hk z.1)]
/-- the reference's two loops: one of them copies -/
theorem F11_cp {I : xTI} {a b c : Nat} (ha : a + c ≤ 60) (hb : b + c ≤ 60) : ∃ J : xTI, xlp (F_X11_copy_b63 xN (nI a) (nI b) (nI c)) xN (0, I) = some (nI c, J) ∧ (∀ k, k ≠ 86 → J k = I k) ∧ ∀ j, J 86 j = if b ≤ j ∧ j < b + c then I 86 (a + (j - b)) else I 86 j := by
  by_cases g : b ≤ a
  · refine ⟨cpU I a b c, ?_, fun k hk => ?_, fun j => ?_⟩
    · unfold F_X11_copy_b63
      have z : I = cpU I a b 0 := by
        funext k j; unfold cpU; rw [if_neg (by omega)]
      have e : (0, I) = (fun i => (nI i, cpU I a b i)) 0 := by
        show (0, I) = (nI 0, cpU I a b 0); rw [← z]; rfl
      rw [e]
      refine xlp_for (fun i => (nI i, cpU I a b i)) c _ (fun i hi k => ?_) (fun k => ?_) xN (by show c < 100000; omega)
      · show F_X11_copy_c63 xN (nI a) (nI b) (nI c) (nI i) (cpU I a b i) k = k (nI (i + 1), cpU I a b (i + 1))
        unfold F_X11_copy_c63
        rw [if_neg (nI_ge hi (by omega)), if_neg (nI_nlt g (by omega)), nI_add, nI_add, xal_n (by omega) (by decide), xas_n (by omega) (by decide), xbn_e, nI_1, cpU_s g]
      · show F_X11_copy_c63 xN (nI a) (nI b) (nI c) (nI c) (cpU I a b c) k = _
        unfold F_X11_copy_c63 F_X11_copy_j98 F_X11_copy_b103
        rw [if_pos (nI_le (Nat.le_refl _) (by omega)), xbn_e]
        refine xlp_for (fun _ => (nI c - 1, cpU I a b c)) 0 _ (fun i hi => absurd hi (Nat.not_lt_zero _)) (fun k => ?_) xN (by decide)
        show F_X11_copy_c103 xN (nI a) (nI b) (nI c) (nI c - 1) (cpU I a b c) k = _
        unfold F_X11_copy_c103
        by_cases w : nI c - 1 < 0
        · rw [if_pos w]
        · rw [if_neg w, if_pos (nI_le g (by omega))]
    · funext j; unfold cpU; rw [if_neg (fun z => hk z.1)]
    · unfold cpU
      by_cases w : b ≤ j ∧ j < b + c
      · rw [if_pos ⟨rfl, w⟩, if_pos w]
      · rw [if_neg (fun z => w z.2), if_neg w]
  · have g' : a < b := by omega
    refine ⟨cpD I a b c c, ?_, fun k hk => ?_, fun j => ?_⟩
    · unfold F_X11_copy_b63
      refine xlp_for (fun _ => (0, I)) 0 _ (fun i hi => absurd hi (Nat.not_lt_zero _)) (fun k => ?_) xN (by decide)
      show F_X11_copy_c63 xN (nI a) (nI b) (nI c) 0 I k = _
      have key : F_X11_copy_j98 xN I (nI a) (nI b) (nI c) = some (nI c, cpD I a b c c) := by
        unfold F_X11_copy_j98 F_X11_copy_b103
        have z : I = cpD I a b c 0 := by
          funext k j; unfold cpD; rw [if_neg (by omega)]
        have e1 : nI c - 1 = dn c 0 := by
          unfold dn
          by_cases w : 0 < c
          · rw [if_pos w, show (1 : Int32) = nI 1 from rfl, nI_sub (by omega)]; rfl
          · rw [if_neg w, show c = 0 by omega]; decide
        have e : (nI c - 1, I) = (fun i => (dn c i, cpD I a b c i)) 0 := by
          show (nI c - 1, I) = (dn c 0, cpD I a b c 0); rw [← z, e1]
        rw [xbn_e, e]
        refine xlp_for (fun i => (dn c i, cpD I a b c i)) c _ (fun i hi k => ?_) (fun k => ?_) xN (by show c < 100000; omega)
        · show F_X11_copy_c103 xN (nI a) (nI b) (nI c) (dn c i) (cpD I a b c i) k = k (dn c (i + 1), cpD I a b c (i + 1))
          unfold F_X11_copy_c103
          rw [← dn_s hi, show dn c i = nI (c - 1 - i) from if_pos hi, if_neg (nI_pos (by omega)), if_neg (nI_ge g' (by omega)), nI_add, nI_add, xal_n (by omega) (by decide), xas_n (by omega) (by decide), xbn_e, cpD_s g' hi]
        · show F_X11_copy_c103 xN (nI a) (nI b) (nI c) (dn c c) (cpD I a b c c) k = _
          unfold F_X11_copy_c103
          rw [show dn c c = -1 from if_neg (by omega), if_pos (by decide)]
      unfold F_X11_copy_c63
      rw [key]
      by_cases w : nI c ≤ 0
      · rw [if_pos w]
      · rw [if_neg w, if_pos (nI_lt g' (by omega))]
    · funext j; unfold cpD; rw [if_neg (fun z => hk z.1)]
    · unfold cpD
      by_cases w : b ≤ j ∧ j < b + c
      · rw [if_pos ⟨rfl, by omega, w.2⟩, if_pos w]
      · rw [if_neg (fun z => w ⟨by omega, z.2.2⟩), if_neg w]
