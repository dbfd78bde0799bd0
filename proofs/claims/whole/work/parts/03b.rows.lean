/-- n values of cell k0 from place sp on come to cell k1 from place dp on -/
def xcp {α R : Type} (I : Nat → Nat → α) (k0 n0 k1 n1 : Nat) (sp dp n : Int32) (K : (Nat → Nat → α) → Option R) : Option R :=
  if sp < 0 ∨ dp < 0 ∨ n < 0 ∨ n0 < sp.toNatClampNeg + n.toNatClampNeg ∨ n1 < dp.toNatClampNeg + n.toNatClampNeg then none else K (fun k j => if k = k1 then va_cpy (I k0) (I k1) sp.toNatClampNeg dp.toNatClampNeg n.toNatClampNeg j else I k j)
def xws (G : XG) (kp : Bool) (I : xTI) (L : xTL) : va_W := (List.range (xK kp)).map (fun k => (xz G + k, (xE G kp k (I k) (L k)).getD (.inr (0, []))))
theorem xE_lt {G : XG} {kp : Bool} {k : Nat} {f : Nat → Int32} {g : Nat → Int64} {e : va_E} (h : xE G kp k f g = some e) : k < xK kp := by
  unfold xE at h
  unfold xK
  split at h
  · split <;> omega
  · split at h
    · rename_i hk hp
      have hl := (List.getElem?_eq_some_iff.mp h).1
      have e1 : (xcellsK G f g).length = 28 := rfl
      rw [e1] at hl
      simp only [hp, if_true]
      omega
    · cases h
theorem xE_some {G : XG} {kp : Bool} {k : Nat} {f : Nat → Int32} {g : Nat → Int64} (h : k < xK kp) : ∃ e, xE G kp k f g = some e := by
  unfold xK at h
  unfold xE
  by_cases hk : k < 87
  · rw [if_pos hk]
    have e1 : (xcells G kp f g).length = 87 := rfl
    exact ⟨_, List.getElem?_eq_getElem (by rw [e1]; exact hk)⟩
  · rw [if_neg hk]
    cases kp with
    | false => simp at h; omega
    | true =>
      simp only [if_true] at h ⊢
      have e1 : (xcellsK G f g).length = 28 := rfl
      exact ⟨_, List.getElem?_eq_getElem (by rw [e1]; omega)⟩
theorem xws_at {G : XG} {kp : Bool} {k : Nat} {I : xTI} {L : xTL} {e : va_E} (h : xE G kp k (I k) (L k) = some e) : (xws G kp I L)[k]? = some (xz G + k, e) := by
  have hk := xE_lt h
  simp [xws, List.getElem?_map, List.getElem?_range hk, h]
theorem xws_P {G : XG} {kp : Bool} {I : xTI} {L : xTL} {H : Heap} (hR : xRep G kp I L H) : va_P G.1 xcl (xws G kp I L) H := by
  intro k q hq
  by_cases hk : k < xK kp
  · obtain ⟨e, he⟩ := xE_some (G := G) (f := I k) (g := L k) hk
    rw [xws_at he] at hq
    cases hq
    exact hR.2 k e he
  · have : (xws G kp I L).length = xK kp := by simp [xws]
    rw [List.getElem?_eq_none (by omega)] at hq
    cases hq
theorem xws_D (G : XG) (kp : Bool) (I : xTI) (L : xTL) : va_D (xfr G) (xws G kp I L) := by
  have at' : ∀ (i : Nat) (p : Nat × va_E), (xws G kp I L)[i]? = some p → p.1 = xz G + i := by
    intro i p hp
    by_cases hk : i < xK kp
    · simp [xws, List.getElem?_map, List.getElem?_range hk] at hp
      rw [← hp]
    · have : (xws G kp I L).length = xK kp := by simp [xws]
      rw [List.getElem?_eq_none (by omega)] at hp
      cases hp
  refine ⟨fun i j p q hp hq h => ?_, fun k q hq => ?_⟩
  · rw [at' i p hp, at' j q hq] at h
    omega
  · show xz G ≤ q.1
    rw [at' k q hq]
    exact Nat.le_add_right _ _
theorem x_cpn : Cond.native arraycopyName ∈ lw_tbl ∧ Cond.static arraycopyName ∈ lw_tbl ∧ Cond.initialized "java/lang/System" ∈ lw_tbl := ⟨List.mem_append_right _ (List.mem_of_getElem? (i := 811) (by decide +kernel)), List.mem_append_right _ (List.mem_of_getElem? (i := 810) (by decide +kernel)), List.mem_append_right _ (List.mem_of_getElem? (i := 19) (by decide +kernel))⟩
section XCP
variable {G : XG} {kp : Bool} {p : Program} {l : Launch} {e : Env} {R : Room} {s : State} {m : MethodId} {args : Array Value} {below : List Frame} {meth : Method} {c : Code} {H : Heap} {locs : List Loc} {cells slots : Nat} {Q : State → Prop} {cc : ByteArray} {nL pc : Nat} {own : String} {ret : Option FieldType} {ls : Array Slot} {rest : List Value} {I : xTI} {L : xTL} {Rt : Type} {r : Rt}
theorem x_cpi {k0 k1 n0 n1 idx : Nat} {sp dp n : Int32} {K : xTI → Option Rt} (hC : xC G p s m args meth c cc nL own ret) (hlk : Cond.methodLink own idx arraycopyName ∈ lw_tbl) (ce0 : xE G kp k0 (I k0) (L k0) = some (.inl (G.2.1, (n0, .inl (I k0))))) (ce1 : ∀ f : Nat → Int32, xE G kp k1 f (L k1) = some (.inl (G.2.1, (n1, .inl f)))) (hl : ls.size = nL) (hR : xRep G kp I L H) (hS : xS G s.heap H locs) (hfrm : 1 ≤ R.frames) (hlo : (rest.map fun v => v.category).sum + (nativeFrameWords "java/lang/System" "arraycopy" 5 + 11) ≤ R.locals) (hdg : decode cc pc = .ok (.invokestatic idx, 3)) (hf : xcp I k0 n0 k1 n1 sp dp n K = some r)
    (kk : ∀ (I1 : xTI), K I1 = some r → ∀ (H1 : Heap) (locs1 : List Loc), xRep G kp I1 L H1 → xS G s.heap H1 locs1 → W p l e R s m args below meth c H1 locs1 0 0 Q (F0 m (pc + 3) ls rest)) : W p l e R s m args below meth c H locs 0 0 Q (F0 m pc ls (.int n :: .int dp :: .ref (xz G + k1) :: .int sp :: .ref (xz G + k0) :: rest)) := by
  unfold xcp at hf
  split at hf
  · cases hf
  rename_i hin
  have h1 : ¬ sp < 0 := fun h => hin (Or.inl h)
  have h2 : ¬ dp < 0 := fun h => hin (Or.inr (Or.inl h))
  have h3 : ¬ n < 0 := fun h => hin (Or.inr (Or.inr (Or.inl h)))
  have h4 : sp.toNatClampNeg + n.toNatClampNeg ≤ n0 := Nat.not_lt.mp fun h => hin (Or.inr (Or.inr (Or.inr (Or.inl h))))
  have h5 : dp.toNatClampNeg + n.toNatClampNeg ≤ n1 := Nat.not_lt.mp fun h => hin (Or.inr (Or.inr (Or.inr (Or.inr h))))
  have hSv : va_S (xfr G) s.heap H locs := ⟨Nat.le_of_eq hS.1.symm, fun q _ h => hS.2.1 q (Nat.not_le.mp h), hS.2.2⟩
  refine va_copyi (D := G.1) (cl := xcl) (tys := xtys G) (ws := xws G kp I L) (A := xfr G) (H0 := s.heap) (ty := .int) hC.1 hC.2.1 (hC.2.2.1.trans hl.symm) hC.2.2.2.1 (hC.2.2.2.2.1.use hlk rfl args) (hC.2.2.2.2.1.use x_cpn.1 rfl args) (hC.2.2.2.2.1.use x_cpn.2.1 rfl args) (hC.2.2.2.2.1.use x_cpn.2.2 rfl args) hC.2.2.2.2.2.1 (xws_P hR) (xws_D G kp I L) hSv k0 k1 0 0 (xws_at ce0) (xws_at (ce1 (I k1))) rfl rfl rfl h1 h2 h3 h4 h5 (fun _ _ => rfl) hfrm hlo hdg (fun H1 locs1 hP1 _ hS1 => ?_)
  have hk1 : k1 < (xws G kp I L).length := (List.getElem?_eq_some_iff.mp (xws_at (ce1 (I k1)))).1
  intro T hT X
  have hzz : H1.size = H.size := by
    have h9 := X.heapSize
    rw [hT] at h9
    have h8 := hS1.1
    have h7 := hS.1
    omega
  refine kk _ hf H1 locs1 ⟨hzz.trans hR.1, fun k e9 he => ?_⟩ ⟨hzz.trans hS.1, fun q hq => hS1.2.1 q ?_ (Nat.not_le.mpr hq), hS1.2.2⟩ T hT X
  · by_cases hk : k = k1
    · subst hk
      simp only [if_true] at he
      rw [show (fun j => va_cpy (I k0) (I k) sp.toNatClampNeg dp.toNatClampNeg n.toNatClampNeg j) = va_cpy (I k0) (I k) sp.toNatClampNeg dp.toNatClampNeg n.toNatClampNeg from rfl, ce1] at he
      cases he
      exact hP1 k _ (by rw [List.getElem?_set_self hk1])
    · simp only [hk, if_false] at he
      exact hP1 k _ (by rw [List.getElem?_set_ne (Ne.symm hk)]; exact xws_at he)
  · have h7 := hR.1
    have h8 := hS.1
    omega
theorem x_cpl {k0 k1 n0 n1 idx : Nat} {sp dp n : Int32} {K : xTL → Option Rt} (hC : xC G p s m args meth c cc nL own ret) (hlk : Cond.methodLink own idx arraycopyName ∈ lw_tbl) (ce0 : xE G kp k0 (I k0) (L k0) = some (.inl (G.2.2.1, (n0, .inr (.inl (L k0)))))) (ce1 : ∀ f : Nat → Int64, xE G kp k1 (I k1) f = some (.inl (G.2.2.1, (n1, .inr (.inl f))))) (hl : ls.size = nL) (hR : xRep G kp I L H) (hS : xS G s.heap H locs) (hfrm : 1 ≤ R.frames) (hlo : (rest.map fun v => v.category).sum + (nativeFrameWords "java/lang/System" "arraycopy" 5 + 11) ≤ R.locals) (hdg : decode cc pc = .ok (.invokestatic idx, 3)) (hf : xcp L k0 n0 k1 n1 sp dp n K = some r)
    (kk : ∀ (L1 : xTL), K L1 = some r → ∀ (H1 : Heap) (locs1 : List Loc), xRep G kp I L1 H1 → xS G s.heap H1 locs1 → W p l e R s m args below meth c H1 locs1 0 0 Q (F0 m (pc + 3) ls rest)) : W p l e R s m args below meth c H locs 0 0 Q (F0 m pc ls (.int n :: .int dp :: .ref (xz G + k1) :: .int sp :: .ref (xz G + k0) :: rest)) := by
  unfold xcp at hf
  split at hf
  · cases hf
  rename_i hin
  have h1 : ¬ sp < 0 := fun h => hin (Or.inl h)
  have h2 : ¬ dp < 0 := fun h => hin (Or.inr (Or.inl h))
  have h3 : ¬ n < 0 := fun h => hin (Or.inr (Or.inr (Or.inl h)))
  have h4 : sp.toNatClampNeg + n.toNatClampNeg ≤ n0 := Nat.not_lt.mp fun h => hin (Or.inr (Or.inr (Or.inr (Or.inl h))))
  have h5 : dp.toNatClampNeg + n.toNatClampNeg ≤ n1 := Nat.not_lt.mp fun h => hin (Or.inr (Or.inr (Or.inr (Or.inr h))))
  have hSv : va_S (xfr G) s.heap H locs := ⟨Nat.le_of_eq hS.1.symm, fun q _ h => hS.2.1 q (Nat.not_le.mp h), hS.2.2⟩
  refine va_copyl (D := G.1) (cl := xcl) (tys := xtys G) (ws := xws G kp I L) (A := xfr G) (H0 := s.heap) (ty := .long) hC.1 hC.2.1 (hC.2.2.1.trans hl.symm) hC.2.2.2.1 (hC.2.2.2.2.1.use hlk rfl args) (hC.2.2.2.2.1.use x_cpn.1 rfl args) (hC.2.2.2.2.1.use x_cpn.2.1 rfl args) (hC.2.2.2.2.1.use x_cpn.2.2 rfl args) hC.2.2.2.2.2.1 (xws_P hR) (xws_D G kp I L) hSv k0 k1 1 1 (xws_at ce0) (xws_at (ce1 (L k1))) rfl rfl rfl h1 h2 h3 h4 h5 (fun _ _ => rfl) hfrm hlo hdg (fun H1 locs1 hP1 _ hS1 => ?_)
  have hk1 : k1 < (xws G kp I L).length := (List.getElem?_eq_some_iff.mp (xws_at (ce1 (L k1)))).1
  intro T hT X
  have hzz : H1.size = H.size := by
    have h9 := X.heapSize
    rw [hT] at h9
    have h8 := hS1.1
    have h7 := hS.1
    omega
  refine kk _ hf H1 locs1 ⟨hzz.trans hR.1, fun k e9 he => ?_⟩ ⟨hzz.trans hS.1, fun q hq => hS1.2.1 q ?_ (Nat.not_le.mpr hq), hS1.2.2⟩ T hT X
  · by_cases hk : k = k1
    · subst hk
      simp only [if_true] at he
      rw [show (fun j => va_cpy (L k0) (L k) sp.toNatClampNeg dp.toNatClampNeg n.toNatClampNeg j) = va_cpy (L k0) (L k) sp.toNatClampNeg dp.toNatClampNeg n.toNatClampNeg from rfl, ce1] at he
      cases he
      exact hP1 k _ (by rw [List.getElem?_set_self hk1])
    · simp only [hk, if_false] at he
      exact hP1 k _ (by rw [List.getElem?_set_ne (Ne.symm hk)]; exact xws_at he)
  · have h7 := hR.1
    have h8 := hS.1
    omega
theorem x_mxiw : Cond.static Lib.Math.max.name ∈ lw_tbl ∧ Cond.initialized "java/lang/Math" ∈ lw_tbl ∧ Cond.code Lib.Math.max.name Lib.Math.max.code 2 (some .int) ∈ lw_tbl := ⟨List.mem_append_right _ (List.mem_of_getElem? (i := 525) (by decide +kernel)), List.mem_append_right _ (List.mem_of_getElem? (i := 13) (by decide +kernel)), List.mem_append_right _ (List.mem_of_getElem? (i := 526) (by decide +kernel))⟩
theorem x_mxi {idx : Nat} {x y : Int32} {K : Int32 → Option Rt} (hC : xC G p s m args meth c cc nL own ret) (hlk : Cond.methodLink own idx Lib.Math.max.name ∈ lw_tbl) (hl : ls.size = nL) (hfrm : 1 ≤ R.frames) (hlo : (rest.map fun v => v.category).sum + 13 ≤ R.locals) (hdg : decode cc pc = .ok (.invokestatic idx, 3)) (hcs : cells ≤ R.cells ∧ slots ≤ R.slots) (hf : xbn (if x < y then y else x) K = some r)
    (kk : ∀ v : Int32, K v = some r → W p l e R s m args below meth c H locs cells slots Q (F0 m (pc + 3) ls (.int v :: rest))) : W p l e R s m args below meth c H locs cells slots Q (F0 m pc ls (.int y :: .int x :: rest)) :=
  va_mmax hC.1 hC.2.1 (hC.2.2.1.trans hl.symm) hC.2.2.2.1 (hC.2.2.2.2.1.use hlk rfl args) (hC.2.2.2.2.1.use x_mxiw.1 rfl args) (hC.2.2.2.2.1.use x_mxiw.2.1 rfl args) (hC.2.2.2.2.1.use x_mxiw.2.2 rfl args) hfrm hlo hcs.1 hcs.2 hdg (kk _ hf)
theorem x_mniw : Cond.static Lib.Math.min.name ∈ lw_tbl ∧ Cond.initialized "java/lang/Math" ∈ lw_tbl ∧ Cond.code Lib.Math.min.name Lib.Math.min.code 2 (some .int) ∈ lw_tbl := ⟨List.mem_append_right _ (List.mem_of_getElem? (i := 851) (by decide +kernel)), List.mem_append_right _ (List.mem_of_getElem? (i := 13) (by decide +kernel)), List.mem_append_right _ (List.mem_of_getElem? (i := 852) (by decide +kernel))⟩
theorem x_mni {idx : Nat} {x y : Int32} {K : Int32 → Option Rt} (hC : xC G p s m args meth c cc nL own ret) (hlk : Cond.methodLink own idx Lib.Math.min.name ∈ lw_tbl) (hl : ls.size = nL) (hfrm : 1 ≤ R.frames) (hlo : (rest.map fun v => v.category).sum + 13 ≤ R.locals) (hdg : decode cc pc = .ok (.invokestatic idx, 3)) (hcs : cells ≤ R.cells ∧ slots ≤ R.slots) (hf : xbn (if y < x then y else x) K = some r)
    (kk : ∀ v : Int32, K v = some r → W p l e R s m args below meth c H locs cells slots Q (F0 m (pc + 3) ls (.int v :: rest))) : W p l e R s m args below meth c H locs cells slots Q (F0 m pc ls (.int y :: .int x :: rest)) :=
  va_mmin hC.1 hC.2.1 (hC.2.2.1.trans hl.symm) hC.2.2.2.1 (hC.2.2.2.2.1.use hlk rfl args) (hC.2.2.2.2.1.use x_mniw.1 rfl args) (hC.2.2.2.2.1.use x_mniw.2.1 rfl args) (hC.2.2.2.2.1.use x_mniw.2.2 rfl args) hfrm hlo hcs.1 hcs.2 hdg (kk _ hf)
theorem x_mxlw : Cond.static Lib.MathLoose.max_long.x ∈ lw_tbl ∧ Cond.initialized "java/lang/Math" ∈ lw_tbl ∧ Cond.code Lib.MathLoose.max_long.x Lib.MathLoose.max_long.code 4 (some .long) ∈ lw_tbl := ⟨List.mem_append_right _ (List.mem_of_getElem? (i := 625) (by decide +kernel)), List.mem_append_right _ (List.mem_of_getElem? (i := 13) (by decide +kernel)), List.mem_append_right _ (List.mem_of_getElem? (i := 626) (by decide +kernel))⟩
theorem x_mxl {idx : Nat} {x y : Int64} {K : Int64 → Option Rt} (hC : xC G p s m args meth c cc nL own ret) (hlk : Cond.methodLink own idx Lib.MathLoose.max_long.x ∈ lw_tbl) (hl : ls.size = nL) (hfrm : 1 ≤ R.frames) (hlo : (rest.map fun v => v.category).sum + 15 ≤ R.locals) (hdg : decode cc pc = .ok (.invokestatic idx, 3)) (hcs : cells ≤ R.cells ∧ slots ≤ R.slots) (hf : xbn (if y < x then x else y) K = some r)
    (kk : ∀ v : Int64, K v = some r → W p l e R s m args below meth c H locs cells slots Q (F0 m (pc + 3) ls (.long v :: rest))) : W p l e R s m args below meth c H locs cells slots Q (F0 m pc ls (.long y :: .long x :: rest)) :=
  va_mmax_long hC.1 hC.2.1 (hC.2.2.1.trans hl.symm) hC.2.2.2.1 (hC.2.2.2.2.1.use hlk rfl args) (hC.2.2.2.2.1.use x_mxlw.1 rfl args) (hC.2.2.2.2.1.use x_mxlw.2.1 rfl args) (hC.2.2.2.2.1.use x_mxlw.2.2 rfl args) hfrm hlo hcs.1 hcs.2 hdg (kk _ hf)
theorem x_mnlw : Cond.static Lib.MathLoose.min_long.x ∈ lw_tbl ∧ Cond.initialized "java/lang/Math" ∈ lw_tbl ∧ Cond.code Lib.MathLoose.min_long.x Lib.MathLoose.min_long.code 4 (some .long) ∈ lw_tbl := ⟨List.mem_append_right _ (List.mem_of_getElem? (i := 622) (by decide +kernel)), List.mem_append_right _ (List.mem_of_getElem? (i := 13) (by decide +kernel)), List.mem_append_right _ (List.mem_of_getElem? (i := 623) (by decide +kernel))⟩
theorem x_mnl {idx : Nat} {x y : Int64} {K : Int64 → Option Rt} (hC : xC G p s m args meth c cc nL own ret) (hlk : Cond.methodLink own idx Lib.MathLoose.min_long.x ∈ lw_tbl) (hl : ls.size = nL) (hfrm : 1 ≤ R.frames) (hlo : (rest.map fun v => v.category).sum + 15 ≤ R.locals) (hdg : decode cc pc = .ok (.invokestatic idx, 3)) (hcs : cells ≤ R.cells ∧ slots ≤ R.slots) (hf : xbn (if y < x then y else x) K = some r)
    (kk : ∀ v : Int64, K v = some r → W p l e R s m args below meth c H locs cells slots Q (F0 m (pc + 3) ls (.long v :: rest))) : W p l e R s m args below meth c H locs cells slots Q (F0 m pc ls (.long y :: .long x :: rest)) :=
  va_mmin_long hC.1 hC.2.1 (hC.2.2.1.trans hl.symm) hC.2.2.2.1 (hC.2.2.2.2.1.use hlk rfl args) (hC.2.2.2.2.1.use x_mnlw.1 rfl args) (hC.2.2.2.2.1.use x_mnlw.2.1 rfl args) (hC.2.2.2.2.1.use x_mnlw.2.2 rfl args) hfrm hlo hcs.1 hcs.2 hdg (kk _ hf)
end XCP
