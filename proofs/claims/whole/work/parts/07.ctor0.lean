def yws (G : XG) (E : List va_E) : va_W := E.mapIdx (fun k e => (xz G + k, e))
def yRep (G : XG) (E : List va_E) (H : Heap) : Prop := H.size = xz G + E.length ∧ ∀ (k : Nat) (e : va_E), E[k]? = some e → va_at G.1 xcl (xz G + k, e) H
theorem yat {G : XG} {E : List va_E} {k : Nat} {e : va_E} (h : E[k]? = some e) : (yws G E)[k]? = some (xz G + k, e) := by simp [yws, List.getElem?_mapIdx, h]
theorem yws_len (G : XG) (E : List va_E) : (yws G E).length = E.length := by simp [yws]
theorem yws_in {G : XG} {E : List va_E} {k : Nat} {q : Nat × va_E} (h : (yws G E)[k]? = some q) : ∃ e, E[k]? = some e ∧ q = (xz G + k, e) := by
  rw [yws, List.getElem?_mapIdx] at h
  obtain ⟨e, he, hq⟩ := Option.map_eq_some_iff.mp h
  exact ⟨e, he, hq.symm⟩
theorem yRep.P {G : XG} {E : List va_E} {H : Heap} (h : yRep G E H) : va_P G.1 xcl (yws G E) H := by
  intro k q hq
  obtain ⟨e, he, rfl⟩ := yws_in hq
  exact h.2 k e he
theorem yws_D (G : XG) (E : List va_E) : va_D (xfr G) (yws G E) := by
  refine ⟨fun i j p q hp hq h => ?_, fun k q hq => ?_⟩
  · obtain ⟨e1, -, rfl⟩ := yws_in hp
    obtain ⟨e2, -, rfl⟩ := yws_in hq
    have h : xz G + i = xz G + j := h
    omega
  · obtain ⟨e, -, rfl⟩ := yws_in hq
    exact Nat.le_add_right _ _
def ynest : List Cond := [.methodLinkNest "AccountDay" 9 yX1_init "AccountDay", .methodLinkNest "AccountDay$Book" 17 yX3_init "AccountDay", .methodLinkNest "AccountDay$Book" 31 yX5_init "AccountDay", .methodLinkNest "AccountDay" 21 yX9_init "AccountDay", .methodLinkNest "AccountDay" 28 yX2_init "AccountDay", .methodLinkNest "AccountDay" 35 yX4_init "AccountDay", .methodLinkNest "AccountDay" 42 yX6_init "AccountDay", .methodLinkNest "AccountDay" 49 yX7_init "AccountDay"]
def yN (U : State) : Prop := ∀ w ∈ ynest, va_Nw w U
theorem yN.warm {s U : State} (hW : s.WarmedH U.vm) (h : yN s) : yN U := by
  intro w hw
  have h1 := h w hw
  simp only [ynest, List.mem_cons, List.not_mem_nil, or_false] at hw
  rcases hw with rfl | rfl | rfl | rfl | rfl | rfl | rfl | rfl <;> exact va_Nw.warmM hW h1
theorem yN.calling {U : State} (h : yN U) (g : JFrame) (mk : MethodId) (a : Array Value) : yN (U.calling g mk a) := yN.warm (s := U) (U := U.calling g mk a) (State.WarmedH.refl U) h
abbrev yrm (fr lo mc ms : Nat) : Room := { frames := fr, cells := mc, slots := ms, locals := lo }
def yPc (G : XG) (As : List Value) (E : List va_E) : Array Value → State → Prop := fun a U => a = As.toArray ∧ xW U ∧ va_K G.1 xcl (xtys G) U ∧ yN U ∧ yRep G E U.heap
def yQ (G : XG) (E : List va_E) : Array Value → State → Outcome → State → Prop := fun _ st o t => o = .returned none ∧ yRep G E t.heap ∧ ∀ q : Nat, q < xz G → t.heap[q]? = st.heap[q]?
def yMet (G : XG) (l : Launch) (y : MethodName) (cc : ByteArray) (nL fr lo mc ms : Nat) (As : List Value) (E E1 : List va_E) : Prop := Met l y [.code y cc nL none] (yrm fr lo mc ms) (yPc G As E) (yQ G E1) mc ms (xfr G)
theorem yPc_blind (G : XG) (As : List Value) (E : List va_E) : FrameBlind (yPc G As E) := by
  intro a U g mk ⟨h1, h2, h3, h4, h5⟩
  exact ⟨h1, h2.calling g mk a, va_K.moved (u := U) (U := U.calling g mk a) (Vm.Alike.refl U.vm) h3, h4.calling g mk a, h5⟩
/-- the surroundings of a constructor's walk -/
def yC (G : XG) (p : Program) (s : State) (m : MethodId) (args : Array Value) (meth : Method) (c : Code) (cc : ByteArray) (nL : Nat) (own : String) : Prop :=
  p.tables.exec = Jvm.exec ∧ c.code = cc ∧ c.maxLocals = nL ∧ s.vm.findClass own = some m.cls ∧ xW s ∧ va_K G.1 xcl (xtys G) s ∧ yN s ∧ xz G ≤ s.heap.size
def yEn (meth : Method) : Prop := meth.sig.returnType = none ∧ meth.locks = false ∧ meth.name = "<init>"
theorem yMet.ofW {G : XG} {l : Launch} {y : MethodName} {cc : ByteArray} {nL fr lo mc ms : Nat} {As : List Value} {E E1 : List va_E} (hy : plainName y.cls = true) (hyn : y.name = "<init>") (hn : (lg_sl As).length ≤ nL)
    (body : ∀ (p : Program) (e : Env) (s : State) (m : MethodId) (args : Array Value) (below : List Frame) (meth : Method) (c : Code), yC G p s m args meth c cc nL y.cls → yEn meth → s.heap.size = xz G + E.length → ∀ (H : Heap) (locs : List Loc) (ls : Array Slot), yRep G E H → va_S (xfr G) s.heap H locs → lv_has ls nL (lv_args 0 As) →
      W p l e (yrm fr lo mc ms) s m args below meth c H locs 0 0 (MQ below (yQ G E1) args s mc ms (xfr G)) (F0 m 0 ls [])) : yMet G l y cc nL fr lo mc ms As E E1 := by
  refine Met.ofW (cc := cc) (maxL := nL) (ret := none) hy rfl ?_
  intro p e s m args below meth c s₁ B hml hv
  obtain ⟨rfl, hW, hK, hN, hR⟩ := hv
  rw [lg_entry_eq]
  have hnm : meth.name = "<init>" := ((name_of_methodNamed B.named B.method).1).trans hyn
  exact body p e s m _ below meth c ⟨B.exec, B.bytes, hml, findClass_of_methodNamed B.named, hW, hK, hN, by have := hR.1; omega⟩ ⟨B.returns, B.notSynchronized, hnm⟩ hR.1 s.heap [] _ hR va_S.rf (lv_entry As hn)
def xFq (ci j : Nat) (ty : FieldType) : Prop := ∃ (q : vw_C) (ty0 : Nat → FieldType), xcl[ci]? = some q ∧ (q.2.1 j).2.2.2 = true ∧ parseFieldDescriptor (q.2.1 j).2.2.1 = some ty ∧ (∀ k, k < q.2.2 → parseFieldDescriptor (q.2.1 k).2.2.1 = some (ty0 k)) ∧ (∀ a, a < q.2.2 → ∀ b, b < q.2.2 → a ≠ b → (q.2.1 a).2.1 ≠ (q.2.1 b).2.1)
/-- a class that (own, idx) links can be made: its fields at the start -/
def xNw (own : String) (idx ci : Nat) (fs : List Value) : Prop := ∃ (q : vw_C) (ty0 : Nat → FieldType), xcl[ci]? = some q ∧ Cond.classLink own idx q.1 ∈ lw_tbl ∧ Cond.instantiable q.1 q.2.2 ∈ lw_tbl ∧ Cond.initialized q.1 ∈ lw_tbl ∧ (∀ w ∈ u_ws q.1 q.2.1 q.2.2, w ∈ lw_tbl ∧ goodWord w = true) ∧ (∀ k, k < q.2.2 → parseFieldDescriptor (q.2.1 k).2.2.1 = some (ty0 k)) ∧ (∀ j, j < q.2.2 → defaultValue (ty0 j) = vp_V fs j) ∧ q.2.2 = fs.length
theorem y_obw : Cond.instanceMethod objectInit ∈ lw_tbl ∧ Cond.code objectInit ⟨#[0xb1]⟩ 1 none ∈ lw_tbl := ⟨tb_1 (List.mem_of_getElem? (i := 26) (by decide +kernel)), tb_1 (List.mem_of_getElem? (i := 27) rfl)⟩
section YC
variable {G : XG} {p : Program} {l : Launch} {e : Env} {R : Room} {s : State} {m : MethodId} {args : Array Value} {below : List Frame} {meth : Method} {c : Code} {H : Heap} {locs : List Loc} {cells slots : Nat} {Q : State → Prop} {cc : ByteArray} {nL pc : Nat} {own : String} {ls : Array Slot} {rest : List Value} {E : List va_E}
theorem y_fin {E1 : List va_E} {H1 : Heap} {locs1 : List Loc} {g : JFrame} (h : ∀ (k : Nat) (e : va_E), E1[k]? = some e → va_at G.1 xcl (xz G + k, e) H1) (hne : E1 ≠ []) (hsz : s.heap.size + cells = xz G + E1.length)
    (kk : yRep G E1 H1 → W p l e R s m args below meth c H1 locs1 cells slots Q g) : W p l e R s m args below meth c H1 locs1 cells slots Q g := by
  intro T hT X
  refine kk ⟨?_, h⟩ T hT X
  have h9 := X.heapSize
  rw [hT] at h9
  have hl : E1.length - 1 < E1.length := by
    have := List.length_pos_iff.mpr hne
    omega
  have h8 := (h (E1.length - 1) _ (List.getElem?_eq_getElem hl)).lt
  have h8 : xz G + (E1.length - 1) < H1.size := h8
  omega
theorem y_new {idx ci : Nat} {fs : List Value} (hC : yC G p s m args meth c cc nL own) (hn : xNw own idx ci fs) (hR : yRep G E H) (hS : va_S (xfr G) s.heap H locs) (hsz : s.heap.size + cells = xz G + E.length) (hc1 : cells + 1 ≤ R.cells) (hs1 : slots + fs.length ≤ R.slots) (hdg : decode cc pc = .ok (.new idx, 3))
    (kk : ∀ (H1 : Heap), yRep G (E ++ [.inr (ci, fs)]) H1 → va_S (xfr G) s.heap H1 locs → W p l e R s m args below meth c H1 locs (cells + 1) (slots + fs.length) Q (F0 m (pc + 3) ls (.ref (xz G + E.length) :: rest))) : W p l e R s m args below meth c H locs cells slots Q (F0 m pc ls rest) := by
  obtain ⟨hx, hb, hml, hown, hW, hK, -, hzs⟩ := hC
  obtain ⟨⟨Cn, T, Nf⟩, ty0, hc, h1, h2, h3, h4, h5, h6, h7⟩ := hn
  have h7 : Nf = fs.length := h7
  subst h7
  refine va_new (D := G.1) (ci := ci) (fs := fs) (C := Cn) (T := T) (N := fs.length) (Ts := u_ws Cn T fs.length) hx hb (fun w hw => hW.use (h4 w hw).1 (h4 w hw).2 args) (fun _ h => h) ty0 h5 hown (hW.use h1 rfl args) (hW.use h2 rfl args) (hW.use h3 rfl args) hK hR.P (yws_D G E) hS (fun q hq => Nat.le_trans hzs hq) hc h6 hc1 hs1 hdg (fun q H1 hP1 hD1 hS1 => ?_)
  have hq : (yws G E ++ [(q, .inr (ci, fs))])[E.length]? = some (q, .inr (ci, fs)) := by
    rw [List.getElem?_append_right (by rw [yws_len]; exact Nat.le_refl _), yws_len, Nat.sub_self]
    rfl
  have hq1 : xz G ≤ q := hD1.2 _ _ hq
  have hq2 : q < H1.size := (hP1 _ _ hq).lt
  have hq3 : ∀ k, k < E.length → q ≠ xz G + k := by
    intro k hk he
    have h8 : (yws G E ++ [(q, .inr (ci, fs))])[k]? = some (xz G + k, E[k]) := by
      rw [List.getElem?_append_left (by rw [yws_len]; exact hk)]
      exact yat (List.getElem?_eq_getElem hk)
    have := hD1.1 _ _ _ _ hq h8 he
    omega
  intro T' hT' X
  have hz := X.heapSize
  rw [hT'] at hz
  have hqe : q = xz G + E.length := by
    rcases Nat.lt_or_ge q (xz G + E.length) with h | h
    · exact absurd (show q = xz G + (q - xz G) by omega) (hq3 (q - xz G) (by omega))
    · omega
  subst hqe
  refine y_fin (E1 := E ++ [.inr (ci, fs)]) (fun k e9 he => ?_) (by simp) (by simp; omega) (fun hR1 => kk H1 hR1 hS1) T' hT' X
  refine hP1 k _ ?_
  rcases Nat.lt_or_ge k E.length with h | h
  · rw [List.getElem?_append_left h] at he
    rw [List.getElem?_append_left (by rw [yws_len]; exact h)]
    exact yat he
  · have hk : k = E.length := by
      have := (List.getElem?_eq_some_iff.mp he).1
      simp at this
      omega
    subst hk
    rw [List.getElem?_append_right (Nat.le_refl _), Nat.sub_self] at he
    cases he
    exact hq
theorem y_na {atype : ArrayType} {ty : FieldType} {t0 : Nat} {cA : ClassId} {a0 : vp_A} {n : Int32} {N' : Nat} (hC : yC G p s m args meth c cc nL own) (hw : Cond.arrayClass (newarray.typeOf atype) ∈ lw_tbl) (hty : newarray.typeOf atype = ty) (ht : (xtys G)[t0]? = some (cA, ty)) (hpr : ∀ U cB, va_RA U cB ty = (U.vm.findClass ("[" ++ ty.toString) = some cB)) (ha : ∀ cA : ClassId, vp_cell cA a0 = arrV cA N' (fun _ => defaultValue ty)) (hn : ¬ n < 0) (hN : n.toNatClampNeg = N') (hbytes : N' * componentBytes ty ≤ 536870912) (hR : yRep G E H) (hS : va_S (xfr G) s.heap H locs) (hsz : s.heap.size + cells = xz G + E.length) (hc1 : cells + 1 ≤ R.cells) (hs1 : slots + N' ≤ R.slots) (hdg : decode cc pc = .ok (.newarray atype, 2))
    (kk : ∀ (H1 : Heap), yRep G (E ++ [.inl (cA, a0)]) H1 → va_S (xfr G) s.heap H1 locs → W p l e R s m args below meth c H1 locs (cells + 1) (slots + N') Q (F0 m (pc + 2) ls (.ref (xz G + E.length) :: rest))) : W p l e R s m args below meth c H locs cells slots Q (F0 m pc ls (.int n :: rest)) := by
  obtain ⟨hx, hb, hml, hown, hW, hK, -, hzs⟩ := hC
  refine va_newa (D := G.1) hx hb (hW.use hw rfl args) hty hK hR.P (yws_D G E) hS (fun q hq => Nat.le_trans hzs hq) ha hn hN hbytes hc1 hs1 hdg (fun q cB H1 hK1 hP1 hD1 hS1 => ?_)
  have hcB : cB = cA := by
    have e1 := (hK1.2 (xtys G).length (cB, ty) (by rw [List.getElem?_append_right (Nat.le_refl _), Nat.sub_self]; rfl)).2
    have e2 := (hK.2 t0 _ ht).2
    have e1 : va_RA s cB ty := e1
    have e2 : va_RA s cA ty := e2
    rw [hpr] at e1 e2
    exact Option.some.inj (e1.symm.trans e2)
  subst hcB
  have hq : (yws G E ++ [(q, .inl (cB, a0))])[E.length]? = some (q, .inl (cB, a0)) := by
    rw [List.getElem?_append_right (by rw [yws_len]; exact Nat.le_refl _), yws_len, Nat.sub_self]
    rfl
  have hq1 : xz G ≤ q := hD1.2 _ _ hq
  have hq2 : q < H1.size := (hP1 _ _ hq).lt
  have hq3 : ∀ k, k < E.length → q ≠ xz G + k := by
    intro k hk he
    have h8 : (yws G E ++ [(q, .inl (cB, a0))])[k]? = some (xz G + k, E[k]) := by
      rw [List.getElem?_append_left (by rw [yws_len]; exact hk)]
      exact yat (List.getElem?_eq_getElem hk)
    have := hD1.1 _ _ _ _ hq h8 he
    omega
  intro T' hT' X
  have hz := X.heapSize
  rw [hT'] at hz
  have hqe : q = xz G + E.length := by
    rcases Nat.lt_or_ge q (xz G + E.length) with h | h
    · exact absurd (show q = xz G + (q - xz G) by omega) (hq3 (q - xz G) (by omega))
    · omega
  subst hqe
  refine y_fin (E1 := E ++ [.inl (cB, a0)]) (fun k e9 he => ?_) (by simp) (by simp; omega) (fun hR1 => kk H1 hR1 hS1) T' hT' X
  refine hP1 k _ ?_
  rcases Nat.lt_or_ge k E.length with h | h
  · rw [List.getElem?_append_left h] at he
    rw [List.getElem?_append_left (by rw [yws_len]; exact h)]
    exact yat he
  · have hk : k = E.length := by
      have := (List.getElem?_eq_some_iff.mp he).1
      simp at this
      omega
    subst hk
    rw [List.getElem?_append_right (Nat.le_refl _), Nat.sub_self] at he
    cases he
    exact hq
theorem y_get {idx ci j k : Nat} {fs : List Value} {v : Value} (hC : yC G p s m args meth c cc nL own) (hF : xFl own idx ci j) (he : E[k]? = some (.inr (ci, fs))) (hv : fs[j]? = some v) (hR : yRep G E H) (hdg : decode cc pc = .ok (.getfield idx, 3))
    (kk : W p l e R s m args below meth c H locs cells slots Q (F0 m (pc + 3) ls (v :: rest))) : W p l e R s m args below meth c H locs cells slots Q (F0 m pc ls (.ref (xz G + k) :: rest)) := by
  obtain ⟨hx, hb, hml, hown, hW, hK, -, -⟩ := hC
  obtain ⟨⟨Cn, T, Nf⟩, hc, hj, hin, hlk, hsm⟩ := hF
  exact va_get (D := G.1) (ci := ci) (C := Cn) (T := T) (N := Nf) (Ts := u_ws Cn T Nf) hx hb (fun w hw => hW.use (hin w hw).1 (hin w hw).2 args) (fun _ h => h) hown hK hR.P k (yat he) hc j hj (hW.use hlk rfl args) (fun z hz => by have e : (T j).1 = Cn := hsm; rw [e] at hz; exact hz) hv hdg kk
theorem y_set {k : Nat} {e1 : va_E} {H1 : Heap} (hk : k < E.length) (hP1 : va_P G.1 xcl ((yws G E).set k (xz G + k, e1)) H1) : ∀ (i : Nat) (e : va_E), (E.set k e1)[i]? = some e → va_at G.1 xcl (xz G + i, e) H1 := by
  intro i e9 he
  refine hP1 i _ ?_
  by_cases h : i = k
  · subst h
    rw [List.getElem?_set_self hk] at he
    cases he
    rw [List.getElem?_set_self (by rw [yws_len]; exact hk)]
  · rw [List.getElem?_set_ne (Ne.symm h)] at he ⊢
    exact yat he
theorem y_putF {idx ci j k : Nat} {ty : FieldType} {fs : List Value} {v : Value} (hC : yC G p s m args meth c cc nL own) (hEn : yEn meth) (hF : xFl own idx ci j) (hFq : xFq ci j ty) (hdecl : (xcl[ci]?).map (fun q => q.1) = some own) (he : E[k]? = some (.inr (ci, fs))) (hn : narrow ty v = v) (hfit : fits ty v = true) (hl : j < fs.length) (hR : yRep G E H) (hS : va_S (xfr G) s.heap H locs) (hsz : s.heap.size + cells = xz G + E.length) (hdg : decode cc pc = .ok (.putfield idx, 3))
    (kk : ∀ (H1 : Heap) (locs1 : List Loc), yRep G (E.set k (.inr (ci, fs.set j v))) H1 → va_S (xfr G) s.heap H1 locs1 → W p l e R s m args below meth c H1 locs1 cells slots Q (F0 m (pc + 3) ls rest)) : W p l e R s m args below meth c H locs cells slots Q (F0 m pc ls (v :: .ref (xz G + k) :: rest)) := by
  obtain ⟨hx, hb, hml, hown, hW, hK, -, -⟩ := hC
  obtain ⟨⟨Cn, T, Nf⟩, hc, hj, hin, hlk, hsm⟩ := hF
  obtain ⟨q', ty0, hc', hfin, hd, hty, hnm⟩ := hFq
  have hq : q' = (Cn, T, Nf) := Option.some.inj (hc'.symm.trans hc)
  subst hq
  have hCo : Cn = own := by rw [hc] at hdecl; exact Option.some.inj hdecl
  have hk : k < E.length := (List.getElem?_eq_some_iff.mp he).1
  refine va_putF (D := G.1) (ci := ci) (C := Cn) (T := T) (N := Nf) (Ts := u_ws Cn T Nf) hx hb (fun w hw => hW.use (hin w hw).1 (hin w hw).2 args) (fun _ h => h) ty0 hty hnm hown hK hR.P (yws_D G E) hS k (yat he) hc j hj (hW.use hlk rfl args) (fun z hz => by have e : (T j).1 = Cn := hsm; rw [e] at hz; exact hz) hfin hEn.2.2 (show (T j).1 = own from (show (T j).1 = Cn from hsm).trans hCo) hd hn hfit hl hdg (fun H1 locs1 hP1 _ hS1 => ?_)
  exact y_fin (y_set hk hP1) (by intro h; have := congrArg List.length h; simp at this; rw [this] at hk; simp at hk) (by rw [List.length_set]; exact hsz) (fun hR1 => kk H1 locs1 hR1 hS1)
theorem y_put {idx ci j k : Nat} {ty : FieldType} {fs : List Value} {v : Value} (hC : yC G p s m args meth c cc nL own) (hF : xFl own idx ci j) (hFp : xFp ci j ty) (he : E[k]? = some (.inr (ci, fs))) (hn : narrow ty v = v) (hfit : fits ty v = true) (hl : j < fs.length) (hR : yRep G E H) (hS : va_S (xfr G) s.heap H locs) (hsz : s.heap.size + cells = xz G + E.length) (hdg : decode cc pc = .ok (.putfield idx, 3))
    (kk : ∀ (H1 : Heap) (locs1 : List Loc), yRep G (E.set k (.inr (ci, fs.set j v))) H1 → va_S (xfr G) s.heap H1 locs1 → W p l e R s m args below meth c H1 locs1 cells slots Q (F0 m (pc + 3) ls rest)) : W p l e R s m args below meth c H locs cells slots Q (F0 m pc ls (v :: .ref (xz G + k) :: rest)) := by
  obtain ⟨hx, hb, hml, hown, hW, hK, -, -⟩ := hC
  obtain ⟨⟨Cn, T, Nf⟩, hc, hj, hin, hlk, hsm⟩ := hF
  obtain ⟨q', ty0, hc', hfin, hd, hty, hnm⟩ := hFp
  have hq : q' = (Cn, T, Nf) := Option.some.inj (hc'.symm.trans hc)
  subst hq
  have hk : k < E.length := (List.getElem?_eq_some_iff.mp he).1
  refine va_put (D := G.1) (ci := ci) (C := Cn) (T := T) (N := Nf) (Ts := u_ws Cn T Nf) hx hb (fun w hw => hW.use (hin w hw).1 (hin w hw).2 args) (fun _ h => h) ty0 hty hnm hown hK hR.P (yws_D G E) hS k (yat he) hc j hj (hW.use hlk rfl args) (fun z hz => by have e : (T j).1 = Cn := hsm; rw [e] at hz; exact hz) hfin hd hn hfit hl hdg (fun H1 locs1 hP1 _ hS1 => ?_)
  exact y_fin (y_set hk hP1) (by intro h; have := congrArg List.length h; simp at this; rw [this] at hk; simp at hk) (by rw [List.length_set]; exact hsz) (fun hR1 => kk H1 locs1 hR1 hS1)
theorem y_ias {k n : Nat} {f : Nat → Int32} {i x : Int32} (hC : yC G p s m args meth c cc nL own) (he : E[k]? = some (.inl (G.2.1, (n, .inl f)))) (hin : vp_in i n) (hR : yRep G E H) (hS : va_S (xfr G) s.heap H locs) (hsz : s.heap.size + cells = xz G + E.length) (hdg : decode cc pc = .ok (.iastore, 1))
    (kk : ∀ (H1 : Heap) (locs1 : List Loc), yRep G (E.set k (.inl (G.2.1, (n, .inl (upd f i.toNatClampNeg x))))) H1 → va_S (xfr G) s.heap H1 locs1 → W p l e R s m args below meth c H1 locs1 cells slots Q (F0 m (pc + 1) ls rest)) : W p l e R s m args below meth c H locs cells slots Q (F0 m pc ls (.int x :: .int i :: .ref (xz G + k) :: rest)) := by
  have hk : k < E.length := (List.getElem?_eq_some_iff.mp he).1
  refine va_iast (D := G.1) (cl := xcl) (tys := xtys G) (ws := yws G E) hC.1 hC.2.1 hC.2.2.2.2.2.1 hR.P (yws_D G E) hS k 0 (yat he) rfl hin hdg (fun H1 locs1 hP1 _ hS1 => ?_)
  exact y_fin (y_set hk hP1) (by intro h; have := congrArg List.length h; simp at this; rw [this] at hk; simp at hk) (by rw [List.length_set]; exact hsz) (fun hR1 => kk H1 locs1 hR1 hS1)
theorem y_obj {idx : Nat} {a : Nat} (hC : yC G p s m args meth c cc nL own) (hlk : Cond.methodLink own idx objectInit ∈ lw_tbl) (hl : ls.size = nL) (hfr : 1 ≤ R.frames) (hlo : (rest.map fun v => v.category).sum + 12 ≤ R.locals) (hdg : decode cc pc = .ok (.invokespecial idx, 3))
    (kk : W p l e R s m args below meth c H locs cells slots Q (F0 m (pc + 3) ls rest)) : W p l e R s m args below meth c H locs cells slots Q (F0 m pc ls (.ref a :: rest)) :=
  W.objInit hC.1 hC.2.1 hC.2.2.2.1 (hC.2.2.2.2.1.use hlk rfl args) (hC.2.2.2.2.1.use y_obw.1 rfl args) (hC.2.2.2.2.1.use y_obw.2 rfl args) (g := F0 m pc ls (.ref a :: rest)) rfl (by rw [hC.2.2.1]; exact hl) rfl hdg hfr (by show 2 * 0 + _ + 12 ≤ _; omega) kk
theorem y_vret {E1 : List va_E} (hC : yC G p s m args meth c cc nL own) (hEn : yEn meth) (hR : yRep G E1 H) (hS : va_S (xfr G) s.heap H locs) (hdg : decode cc pc = .ok (.return_, 1)) : W p l e R s m args below meth c H locs cells slots (MQ below (yQ G E1) args s cells slots (xfr G)) (F0 m pc ls []) :=
  W.vret hC.1 hC.2.1 hEn.1 (fun t ht hW => ⟨rfl, by rw [ht]; exact hR, fun q hq => by rw [ht]; exact hS.2.1 q (Nat.lt_of_lt_of_le hq hC.2.2.2.2.2.2.2) (Nat.not_le.mpr hq)⟩) hS.2.2 hdg (hlocks := hEn.2.1)
theorem y_crun {E1 : List va_E} {a : Array Value} {st0 : List Value} {mc ms : Nat} (hr : va_Run p l e R s m args below meth c H locs cells slots mc ms (F0 m pc ls st0) rest (yQ G E1 a) (xfr G)) (hS : va_S (xfr G) s.heap H locs) (hzs : xz G ≤ s.heap.size) (hz : H.size ≤ xz G + E1.length)
    (hbel : ∀ q : Nat, xz G ≤ q → q < s.heap.size → True)
    (kk : ∀ (H1 : Heap) (locs1 : List Loc), yRep G E1 H1 → va_S (xfr G) s.heap H1 locs1 → W p l e R s m args below meth c H1 locs1 (cells + mc) (slots + ms) Q (F0 m (pc + 3) ls rest)) : W p l e R s m args below meth c H locs cells slots Q (F0 m pc ls st0) := by
  intro T hT X
  obtain ⟨v', st₀, t, T', L', h0, X', hL, e1, e2, ⟨hv, hq, hk⟩, st⟩ := hr T hT X
  cases hv
  rw [h0] at hk
  obtain ⟨t2, a1, b1⟩ := kk T'.heap (locs ++ L') (by rw [e1]; exact hq) ⟨by have h1 := hq.1; have h2 := hS.1; rw [e1]; omega, fun q h1 h2 => by rw [e1, hk q (Nat.not_le.mp h2)]; exact hS.2.1 q h1 h2, fun q hq => by
      rcases List.mem_append.mp hq with h | h
      · exact hS.2.2 q h
      · exact hL q h⟩ T' rfl X'
  exact ⟨t2, st t2 a1, b1⟩
/-- a call of a constructor, by its own link or a nest mate's -/
theorem y_ci {y : MethodName} {ccY : ByteArray} {nLY n fr lo mc ms idx b : Nat} {As st0 : List Value} {E1 : List va_E} (hC : yC G p s m args meth c cc nL own) (hY : Cond.code y ccY nLY none ∈ lw_tbl ∧ Cond.instanceMethod y ∈ lw_tbl ∧ Cond.initialized y.cls ∈ lw_tbl ∧ (y.cls ≠ "java/lang/invoke/MethodHandle" ∧ y.cls ≠ "java/lang/invoke/VarHandle") ∧ (parseMethodDescriptor y.desc).map (fun d => d.parameters.length) = some n ∧ y.name = "<init>") (hlk : Cond.methodLink own idx y ∈ lw_tbl ∨ ∃ hst, Cond.methodLinkNest own idx y hst ∈ ynest) (hM : yMet G l y ccY nLY fr lo mc ms (.ref b :: As) E E1)
    (hrm : fr + 1 ≤ R.frames ∧ 8 + (nLY + 11) + lo ≤ R.locals) (hn : As.length = n) (hst : st0 = As.reverse ++ .ref b :: rest) (hrest : (rest.map fun v => v.category).sum ≤ 8) (hl : ls.size = nL) (hR : yRep G E H) (hS : va_S (xfr G) s.heap H locs) (hz : E.length ≤ E1.length) (hdg : decode cc pc = .ok (.invokespecial idx, 3)) (hcs : cells + mc ≤ R.cells ∧ slots + ms ≤ R.slots)
    (kk : ∀ (H1 : Heap) (locs1 : List Loc), yRep G E1 H1 → va_S (xfr G) s.heap H1 locs1 → W p l e R s m args below meth c H1 locs1 (cells + mc) (slots + ms) Q (F0 m (pc + 3) ls rest)) : W p l e R s m args below meth c H locs cells slots Q (F0 m pc ls st0) := by
  obtain ⟨hx, hb, hml, hown, hW, hK, hNs, hzs⟩ := hC
  obtain ⟨h1, h2, h4, h5, h6, h7⟩ := hY
  have hlen : ∀ sig, parseMethodDescriptor y.desc = some sig → n = sig.parameters.length := fun sig h => by
    rw [h] at h6
    exact (Option.some.inj h6).symm
  have hws : ∀ w ∈ [Cond.code y ccY nLY none], ∀ (a' : Array Value) (U : State), s.WarmedH U.vm → w.before a' U = true := fun w hw a' U hWU => by
    rw [List.mem_singleton.mp hw]
    exact (hW.warm hWU).use h1 rfl a'
  have hpre : PreS s H (yPc G (.ref b :: As) E) (.ref b :: As) := ⟨yPc_blind _ _ _, fun U hU hWU => ⟨rfl, hW.warm hWU, va_K.moved hWU.alike hK, hNs.warm hWU, by rw [hU]; exact hR⟩⟩
  have hzz : H.size ≤ xz G + E1.length := by have := hR.1; omega
  rcases hlk with hlk | ⟨hst', hlk⟩
  · exact y_crun (a := (Value.ref b :: As).toArray) (va_runI (Ts := []) (As := As) (b := b) ⟨hx, hb, hml, hown, fun w h => by cases h⟩ hM ⟨⟨rfl, rfl, hrm.1, hrm.2, hws, List.mem_singleton.mpr rfl, hW.use h1 rfl args, hW.use h4 rfl args, h5, hlen, hW.use hlk rfl args⟩, h7, hW.use h2 rfl args⟩ hpre rfl hn hl hst (lv_room hrest) hdg hcs) hS hzs hzz (fun _ _ _ => trivial) kk
  · exact y_crun (a := (Value.ref b :: As).toArray) (va_runIN (Ts := []) (As := As) (b := b) (host := hst') ⟨hx, hb, hml, hown, fun w h => by cases h⟩ hM ⟨⟨⟨rfl, rfl, hrm.1, hrm.2, hws, List.mem_singleton.mpr rfl⟩, hW.use h1 rfl args, hW.use h4 rfl args, h5, hlen, va_Nw.use rfl (hNs _ hlk)⟩, h7, hW.use h2 rfl args⟩ hpre rfl hn hl hst (lv_room hrest) hdg hcs) hS hzs hzz (fun _ _ _ => trivial) kk
end YC
theorem xwl_2 : ∀ w ∈ u_ws RX2 TX2 0, w ∈ lw_tbl ∧ goodWord w = true := fun w hw => by simp [u_ws] at hw
theorem yA {pre mine : List va_E} {n0 i : Nat} {e : va_E} (h0 : pre.length = n0) (h : mine[i]? = some e) : (pre ++ mine)[n0 + i]? = some e := by
  rw [List.getElem?_append_right (by omega), ← h]
  congr 1
  omega
theorem yB {pre mine : List va_E} {n0 i : Nat} (e : va_E) (h0 : pre.length = n0) : (pre ++ mine).set (n0 + i) e = pre ++ mine.set i e := by
  rw [List.set_append, if_neg (by omega)]
  have e1 : n0 + i - pre.length = i := by omega
  rw [e1]
section ZC
variable {G : XG} {p : Program} {l : Launch} {e : Env} {R : Room} {s : State} {m : MethodId} {args : Array Value} {below : List Frame} {meth : Method} {c : Code} {H : Heap} {locs : List Loc} {cells slots : Nat} {Q : State → Prop} {cc : ByteArray} {nL pc : Nat} {own : String} {ls : Array Slot} {rest : List Value} {pre mine mine1 : List va_E} {n0 : Nat}
theorem z_len (h0 : pre.length = n0) (hs0 : s.heap.size = xz G + (n0 + 1)) (hc : cells + 1 = mine.length) : s.heap.size + cells = xz G + (pre ++ mine).length := by
  rw [List.length_append, h0, hs0]
  omega
theorem z_new {idx ci k : Nat} {fs : List Value} (h0 : pre.length = n0) (hs0 : s.heap.size = xz G + (n0 + 1)) (hc : cells + 1 = mine.length) (hC : yC G p s m args meth c cc nL own) (hn : xNw own idx ci fs) (hk : mine.length = k) (hm : mine ++ [.inr (ci, fs)] = mine1) (hR : yRep G (pre ++ mine) H) (hS : va_S (xfr G) s.heap H locs) (hc1 : cells + 1 ≤ R.cells) (hs1 : slots + fs.length ≤ R.slots) (hdg : decode cc pc = .ok (.new idx, 3))
    (kk : ∀ (H1 : Heap), yRep G (pre ++ mine1) H1 → va_S (xfr G) s.heap H1 locs → W p l e R s m args below meth c H1 locs (cells + 1) (slots + fs.length) Q (F0 m (pc + 3) ls (.ref (xz G + (n0 + k)) :: rest))) : W p l e R s m args below meth c H locs cells slots Q (F0 m pc ls rest) := by
  refine y_new hC hn hR hS (z_len h0 hs0 hc) hc1 hs1 hdg (fun H1 hR1 hS1 => ?_)
  rw [List.append_assoc, hm] at hR1
  have e1 : (pre ++ mine).length = n0 + k := by rw [List.length_append, h0, hk]
  rw [e1]
  exact kk H1 hR1 hS1
theorem z_na {atype : ArrayType} {ty : FieldType} {t0 k : Nat} {cA : ClassId} {a0 : vp_A} {n : Int32} {N' : Nat} (h0 : pre.length = n0) (hs0 : s.heap.size = xz G + (n0 + 1)) (hc : cells + 1 = mine.length) (hC : yC G p s m args meth c cc nL own) (hw : Cond.arrayClass (newarray.typeOf atype) ∈ lw_tbl) (hty : newarray.typeOf atype = ty) (ht : (xtys G)[t0]? = some (cA, ty)) (hpr : ∀ U cB, va_RA U cB ty = (U.vm.findClass ("[" ++ ty.toString) = some cB)) (ha : ∀ cA : ClassId, vp_cell cA a0 = arrV cA N' (fun _ => defaultValue ty)) (hn : ¬ n < 0) (hN : n.toNatClampNeg = N') (hbytes : N' * componentBytes ty ≤ 536870912) (hk : mine.length = k) (hm : mine ++ [.inl (cA, a0)] = mine1) (hR : yRep G (pre ++ mine) H) (hS : va_S (xfr G) s.heap H locs) (hc1 : cells + 1 ≤ R.cells) (hs1 : slots + N' ≤ R.slots) (hdg : decode cc pc = .ok (.newarray atype, 2))
    (kk : ∀ (H1 : Heap), yRep G (pre ++ mine1) H1 → va_S (xfr G) s.heap H1 locs → W p l e R s m args below meth c H1 locs (cells + 1) (slots + N') Q (F0 m (pc + 2) ls (.ref (xz G + (n0 + k)) :: rest))) : W p l e R s m args below meth c H locs cells slots Q (F0 m pc ls (.int n :: rest)) := by
  refine y_na hC hw hty ht hpr ha hn hN hbytes hR hS (z_len h0 hs0 hc) hc1 hs1 hdg (fun H1 hR1 hS1 => ?_)
  rw [List.append_assoc, hm] at hR1
  have e1 : (pre ++ mine).length = n0 + k := by rw [List.length_append, h0, hk]
  rw [e1]
  exact kk H1 hR1 hS1
theorem z_get {idx ci j i : Nat} {fs : List Value} {v : Value} (h0 : pre.length = n0) (hC : yC G p s m args meth c cc nL own) (hF : xFl own idx ci j) (he : mine[i]? = some (.inr (ci, fs))) (hv : fs[j]? = some v) (hR : yRep G (pre ++ mine) H) (hdg : decode cc pc = .ok (.getfield idx, 3))
    (kk : W p l e R s m args below meth c H locs cells slots Q (F0 m (pc + 3) ls (v :: rest))) : W p l e R s m args below meth c H locs cells slots Q (F0 m pc ls (.ref (xz G + (n0 + i)) :: rest)) := y_get hC hF (yA h0 he) hv hR hdg kk
theorem z_putF {idx ci j i : Nat} {ty : FieldType} {fs : List Value} {v : Value} (h0 : pre.length = n0) (hs0 : s.heap.size = xz G + (n0 + 1)) (hc : cells + 1 = mine.length) (hC : yC G p s m args meth c cc nL own) (hEn : yEn meth) (hF : xFl own idx ci j) (hFq : xFq ci j ty) (hdecl : (xcl[ci]?).map (fun q => q.1) = some own) (he : mine[i]? = some (.inr (ci, fs))) (hn : narrow ty v = v) (hfit : fits ty v = true) (hl : j < fs.length) (hm : mine.set i (.inr (ci, fs.set j v)) = mine1) (hR : yRep G (pre ++ mine) H) (hS : va_S (xfr G) s.heap H locs) (hdg : decode cc pc = .ok (.putfield idx, 3))
    (kk : ∀ (H1 : Heap) (locs1 : List Loc), yRep G (pre ++ mine1) H1 → va_S (xfr G) s.heap H1 locs1 → W p l e R s m args below meth c H1 locs1 cells slots Q (F0 m (pc + 3) ls rest)) : W p l e R s m args below meth c H locs cells slots Q (F0 m pc ls (v :: .ref (xz G + (n0 + i)) :: rest)) := by
  refine y_putF hC hEn hF hFq hdecl (yA h0 he) hn hfit hl hR hS (z_len h0 hs0 hc) hdg (fun H1 locs1 hR1 hS1 => ?_)
  rw [yB _ h0, hm] at hR1
  exact kk H1 locs1 hR1 hS1
theorem z_put {idx ci j i : Nat} {ty : FieldType} {fs : List Value} {v : Value} (h0 : pre.length = n0) (hs0 : s.heap.size = xz G + (n0 + 1)) (hc : cells + 1 = mine.length) (hC : yC G p s m args meth c cc nL own) (hF : xFl own idx ci j) (hFp : xFp ci j ty) (he : mine[i]? = some (.inr (ci, fs))) (hn : narrow ty v = v) (hfit : fits ty v = true) (hl : j < fs.length) (hm : mine.set i (.inr (ci, fs.set j v)) = mine1) (hR : yRep G (pre ++ mine) H) (hS : va_S (xfr G) s.heap H locs) (hdg : decode cc pc = .ok (.putfield idx, 3))
    (kk : ∀ (H1 : Heap) (locs1 : List Loc), yRep G (pre ++ mine1) H1 → va_S (xfr G) s.heap H1 locs1 → W p l e R s m args below meth c H1 locs1 cells slots Q (F0 m (pc + 3) ls rest)) : W p l e R s m args below meth c H locs cells slots Q (F0 m pc ls (v :: .ref (xz G + (n0 + i)) :: rest)) := by
  refine y_put hC hF hFp (yA h0 he) hn hfit hl hR hS (z_len h0 hs0 hc) hdg (fun H1 locs1 hR1 hS1 => ?_)
  rw [yB _ h0, hm] at hR1
  exact kk H1 locs1 hR1 hS1
theorem z_ias {i n : Nat} {f : Nat → Int32} {j x : Int32} (h0 : pre.length = n0) (hs0 : s.heap.size = xz G + (n0 + 1)) (hc : cells + 1 = mine.length) (hC : yC G p s m args meth c cc nL own) (he : mine[i]? = some (.inl (G.2.1, (n, .inl f)))) (hin : vp_in j n) (hm : mine.set i (.inl (G.2.1, (n, .inl (upd f j.toNatClampNeg x)))) = mine1) (hR : yRep G (pre ++ mine) H) (hS : va_S (xfr G) s.heap H locs) (hdg : decode cc pc = .ok (.iastore, 1))
    (kk : ∀ (H1 : Heap) (locs1 : List Loc), yRep G (pre ++ mine1) H1 → va_S (xfr G) s.heap H1 locs1 → W p l e R s m args below meth c H1 locs1 cells slots Q (F0 m (pc + 1) ls rest)) : W p l e R s m args below meth c H locs cells slots Q (F0 m pc ls (.int x :: .int j :: .ref (xz G + (n0 + i)) :: rest)) := by
  refine y_ias hC (yA h0 he) hin hR hS (z_len h0 hs0 hc) hdg (fun H1 locs1 hR1 hS1 => ?_)
  rw [yB _ h0, hm] at hR1
  exact kk H1 locs1 hR1 hS1
theorem z_ci {y : MethodName} {ccY : ByteArray} {nLY n fr lo mc ms idx b : Nat} {As st0 : List Value} {m0 news : List va_E} {obj : va_E} (hC : yC G p s m args meth c cc nL own) (hY : Cond.code y ccY nLY none ∈ lw_tbl ∧ Cond.instanceMethod y ∈ lw_tbl ∧ Cond.initialized y.cls ∈ lw_tbl ∧ (y.cls ≠ "java/lang/invoke/MethodHandle" ∧ y.cls ≠ "java/lang/invoke/VarHandle") ∧ (parseMethodDescriptor y.desc).map (fun d => d.parameters.length) = some n ∧ y.name = "<init>") (hlk : Cond.methodLink own idx y ∈ lw_tbl ∨ ∃ hst, Cond.methodLinkNest own idx y hst ∈ ynest) (hM : yMet G l y ccY nLY fr lo mc ms (.ref b :: As) ((pre ++ m0) ++ [obj]) ((pre ++ m0) ++ news))
    (hm : m0 ++ [obj] = mine) (hm1 : m0 ++ news = mine1) (hrm : fr + 1 ≤ R.frames ∧ 8 + (nLY + 11) + lo ≤ R.locals) (hn : As.length = n) (hst : st0 = As.reverse ++ .ref b :: rest) (hrest : (rest.map fun v => v.category).sum ≤ 8) (hl : ls.size = nL) (hz : mine.length ≤ mine1.length) (hR : yRep G (pre ++ mine) H) (hS : va_S (xfr G) s.heap H locs) (hdg : decode cc pc = .ok (.invokespecial idx, 3)) (hcs : cells + mc ≤ R.cells ∧ slots + ms ≤ R.slots)
    (kk : ∀ (H1 : Heap) (locs1 : List Loc), yRep G (pre ++ mine1) H1 → va_S (xfr G) s.heap H1 locs1 → W p l e R s m args below meth c H1 locs1 (cells + mc) (slots + ms) Q (F0 m (pc + 3) ls rest)) : W p l e R s m args below meth c H locs cells slots Q (F0 m pc ls st0) := by
  rw [List.append_assoc, List.append_assoc, hm, hm1] at hM
  exact y_ci hC hY hlk hM hrm hn hst hrest hl hR hS (by simp only [List.length_append]; omega) hdg hcs kk
end ZC
theorem y_raI (U : State) (cB : ClassId) : va_RA U cB .int = (U.vm.findClass ("[" ++ FieldType.int.toString) = some cB) := rfl
theorem y_raJ (U : State) (cB : ClassId) : va_RA U cB .long = (U.vm.findClass ("[" ++ FieldType.long.toString) = some cB) := rfl
theorem y_raZ (U : State) (cB : ClassId) : va_RA U cB .boolean = (U.vm.findClass ("[" ++ FieldType.boolean.toString) = some cB) := rfl
theorem y_aI (N : Nat) (cA : ClassId) : vp_cell cA (N, .inl (fun _ => 0)) = arrV cA N (fun _ => defaultValue .int) := rfl
theorem y_aJ (N : Nat) (cA : ClassId) : vp_cell cA (N, .inr (.inl (fun _ => 0))) = arrV cA N (fun _ => defaultValue .long) := rfl
theorem y_aZ (N : Nat) (cA : ClassId) : vp_cell cA (N, .inl (fun _ => 0)) = arrV cA N (fun _ => defaultValue .boolean) := rfl
theorem xn_X10_7 : xNw RX10 7 1 [.int 0, .int 0, .null, .null, .null, .null, .null, .null, .null, .null, .null, .int 0, .int 0] := ⟨_, tyX1, rfl, tb_1 (List.mem_of_getElem? (i := 28) (by decide +kernel)), tb_1 (List.mem_of_getElem? (i := 29) (by decide +kernel)), tb_1 (List.mem_of_getElem? (i := 2) (by decide +kernel)), xwl_1, tyX1_ok, by decide +kernel, rfl⟩
theorem xn_X10_19 : xNw RX10 19 9 [.int 0, .null, .int 0, .int 0, .int 0, .int 0, .int 0, .null, .int 0, .int 0] := ⟨_, tyX9, rfl, tb_1 (List.mem_of_getElem? (i := 236) (by decide +kernel)), tb_1 (List.mem_of_getElem? (i := 237) (by decide +kernel)), tb_1 (List.mem_of_getElem? (i := 7) (by decide +kernel)), xwl_9, tyX9_ok, by decide +kernel, rfl⟩
theorem xn_X10_26 : xNw RX10 26 2 [] := ⟨_, tyX2, rfl, tb_2 (List.mem_of_getElem? (i := 38) (by decide +kernel)), tb_2 (List.mem_of_getElem? (i := 39) (by decide +kernel)), tb_1 (List.mem_of_getElem? (i := 8) (by decide +kernel)), xwl_2, tyX2_ok, by decide +kernel, rfl⟩
theorem xn_X10_33 : xNw RX10 33 4 [.null, .null, .null, .null, .null, .int 0, .int 0, .null, .null] := ⟨_, tyX4, rfl, tb_2 (List.mem_of_getElem? (i := 45) (by decide +kernel)), tb_2 (List.mem_of_getElem? (i := 46) (by decide +kernel)), tb_1 (List.mem_of_getElem? (i := 9) (by decide +kernel)), xwl_4, tyX4_ok, by decide +kernel, rfl⟩
theorem xn_X10_40 : xNw RX10 40 6 [.null, .null, .null, .null] := ⟨_, tyX6, rfl, tb_2 (List.mem_of_getElem? (i := 79) (by decide +kernel)), tb_2 (List.mem_of_getElem? (i := 80) (by decide +kernel)), tb_1 (List.mem_of_getElem? (i := 10) (by decide +kernel)), xwl_6, tyX6_ok, by decide +kernel, rfl⟩
theorem xn_X10_47 : xNw RX10 47 7 [.null, .null, .null, .null, .null, .null, .null, .null, .int 0] := ⟨_, tyX7, rfl, tb_2 (List.mem_of_getElem? (i := 98) (by decide +kernel)), tb_2 (List.mem_of_getElem? (i := 99) (by decide +kernel)), tb_1 (List.mem_of_getElem? (i := 11) (by decide +kernel)), xwl_7, tyX7_ok, by decide +kernel, rfl⟩
theorem xn_X0_9 : xNw RX0 9 8 [.int 0, .int 0, .null, .int 0] := ⟨_, tyX8, rfl, tb_1 (List.mem_of_getElem? (i := 95) (by decide +kernel)), tb_1 (List.mem_of_getElem? (i := 96) (by decide +kernel)), tb_1 (List.mem_of_getElem? (i := 5) (by decide +kernel)), xwl_8, tyX8_ok, by decide +kernel, rfl⟩
theorem xn_X1_15 : xNw RX1 15 3 [.int 0, .null, .null, .null, .null, .null, .null, .null] := ⟨_, tyX3, rfl, tb_1 (List.mem_of_getElem? (i := 34) (by decide +kernel)), tb_1 (List.mem_of_getElem? (i := 35) (by decide +kernel)), tb_1 (List.mem_of_getElem? (i := 3) (by decide +kernel)), xwl_3, tyX3_ok, by decide +kernel, rfl⟩
theorem xn_X1_22 : xNw RX1 22 0 [.null] := ⟨_, tyX0, rfl, tb_1 (List.mem_of_getElem? (i := 89) (by decide +kernel)), tb_1 (List.mem_of_getElem? (i := 90) (by decide +kernel)), tb_1 (List.mem_of_getElem? (i := 4) (by decide +kernel)), xwl_0, tyX0_ok, by decide +kernel, rfl⟩
theorem xn_X1_29 : xNw RX1 29 5 [.null, .null, .null, .null] := ⟨_, tyX5, rfl, tb_1 (List.mem_of_getElem? (i := 129) (by decide +kernel)), tb_1 (List.mem_of_getElem? (i := 130) (by decide +kernel)), tb_1 (List.mem_of_getElem? (i := 6) (by decide +kernel)), xwl_5, tyX5_ok, by decide +kernel, rfl⟩
theorem xn_X1_36 : xNw RX1 36 8 [.int 0, .int 0, .null, .int 0] := ⟨_, tyX8, rfl, tb_1 (List.mem_of_getElem? (i := 151) (by decide +kernel)), tb_1 (List.mem_of_getElem? (i := 96) (by decide +kernel)), tb_1 (List.mem_of_getElem? (i := 5) (by decide +kernel)), xwl_8, tyX8_ok, by decide +kernel, rfl⟩
theorem xn_X5_9 : xNw RX5 9 8 [.int 0, .int 0, .null, .int 0] := ⟨_, tyX8, rfl, tb_1 (List.mem_of_getElem? (i := 135) (by decide +kernel)), tb_1 (List.mem_of_getElem? (i := 96) (by decide +kernel)), tb_1 (List.mem_of_getElem? (i := 5) (by decide +kernel)), xwl_8, tyX8_ok, by decide +kernel, rfl⟩
theorem xn_L_7 : xNw RL 7 10 [.null, .null, .null, .null, .null, .null, .null, .null, .int 0, .null] := ⟨_, tyX10, rfl, tb_1 (List.mem_of_getElem? (i := 20) (by decide +kernel)), tb_1 (List.mem_of_getElem? (i := 21) (by decide +kernel)), tb_1 (List.mem_of_getElem? (i := 1) (by decide +kernel)), xwl_10, tyX10_ok, by decide +kernel, rfl⟩
theorem xn_L_10 : xNw RL 10 11 [.int 0, .null, .null, .null, .null, .int 0, .null, .int 0, .int 0, .int 0, .long 0, .int 0, .int 0, .int 0, .int 0, .int 0, .int 0, .int 0, .int 0, .int 0, .null, .null, .null, .null, .null, .int 0, .null, .null, .null, .null, .null, .null, .null, .null, .null, .null, .null, .null, .null, .null, .null, .null, .null, .null, .int 0, .null, .int 0, .int 0] := ⟨_, tyX11, rfl, tb_5 (List.mem_of_getElem? (i := 219) (by decide +kernel)), tb_5 (List.mem_of_getElem? (i := 220) (by decide +kernel)), tb_1 (List.mem_of_getElem? (i := 12) (by decide +kernel)), xwl_11, tyX11_ok, by decide +kernel, rfl⟩
theorem xq_0_0 : xFq 0 0 (.object "AccountDay$Table") := ⟨_, tyX0, rfl, rfl, by decide +kernel, tyX0_ok, nmX0⟩
theorem xq_1_2 : xFq 1 2 (.array .int) := ⟨_, tyX1, rfl, rfl, by decide +kernel, tyX1_ok, nmX1⟩
theorem xq_1_3 : xFq 1 3 (.object "AccountDay$Men") := ⟨_, tyX1, rfl, rfl, by decide +kernel, tyX1_ok, nmX1⟩
theorem xq_1_4 : xFq 1 4 (.object "AccountDay$Bargains") := ⟨_, tyX1, rfl, rfl, by decide +kernel, tyX1_ok, nmX1⟩
theorem xq_1_5 : xFq 1 5 (.object "AccountDay$Rules") := ⟨_, tyX1, rfl, rfl, by decide +kernel, tyX1_ok, nmX1⟩
theorem xq_1_6 : xFq 1 6 (.object "AccountDay$Table") := ⟨_, tyX1, rfl, rfl, by decide +kernel, tyX1_ok, nmX1⟩
theorem xq_1_7 : xFq 1 7 (.object "AccountDay$Table") := ⟨_, tyX1, rfl, rfl, by decide +kernel, tyX1_ok, nmX1⟩
theorem xq_1_8 : xFq 1 8 (.object "AccountDay$Table") := ⟨_, tyX1, rfl, rfl, by decide +kernel, tyX1_ok, nmX1⟩
theorem xq_1_9 : xFq 1 9 (.object "AccountDay$Table") := ⟨_, tyX1, rfl, rfl, by decide +kernel, tyX1_ok, nmX1⟩
theorem xq_1_10 : xFq 1 10 (.array .long) := ⟨_, tyX1, rfl, rfl, by decide +kernel, tyX1_ok, nmX1⟩
theorem xq_3_1 : xFq 3 1 (.array .long) := ⟨_, tyX3, rfl, rfl, by decide +kernel, tyX3_ok, nmX3⟩
theorem xq_3_2 : xFq 3 2 (.array .long) := ⟨_, tyX3, rfl, rfl, by decide +kernel, tyX3_ok, nmX3⟩
theorem xq_3_3 : xFq 3 3 (.array .long) := ⟨_, tyX3, rfl, rfl, by decide +kernel, tyX3_ok, nmX3⟩
theorem xq_3_4 : xFq 3 4 (.array .int) := ⟨_, tyX3, rfl, rfl, by decide +kernel, tyX3_ok, nmX3⟩
theorem xq_3_5 : xFq 3 5 (.array .int) := ⟨_, tyX3, rfl, rfl, by decide +kernel, tyX3_ok, nmX3⟩
theorem xq_3_6 : xFq 3 6 (.array .int) := ⟨_, tyX3, rfl, rfl, by decide +kernel, tyX3_ok, nmX3⟩
theorem xq_3_7 : xFq 3 7 (.array .int) := ⟨_, tyX3, rfl, rfl, by decide +kernel, tyX3_ok, nmX3⟩
theorem xq_4_0 : xFq 4 0 (.array .int) := ⟨_, tyX4, rfl, rfl, by decide +kernel, tyX4_ok, nmX4⟩
theorem xq_4_1 : xFq 4 1 (.array .int) := ⟨_, tyX4, rfl, rfl, by decide +kernel, tyX4_ok, nmX4⟩
theorem xq_4_2 : xFq 4 2 (.array .int) := ⟨_, tyX4, rfl, rfl, by decide +kernel, tyX4_ok, nmX4⟩
theorem xq_4_3 : xFq 4 3 (.array .int) := ⟨_, tyX4, rfl, rfl, by decide +kernel, tyX4_ok, nmX4⟩
theorem xq_4_4 : xFq 4 4 (.array .int) := ⟨_, tyX4, rfl, rfl, by decide +kernel, tyX4_ok, nmX4⟩
theorem xq_4_7 : xFq 4 7 (.array .int) := ⟨_, tyX4, rfl, rfl, by decide +kernel, tyX4_ok, nmX4⟩
theorem xq_4_8 : xFq 4 8 (.array .int) := ⟨_, tyX4, rfl, rfl, by decide +kernel, tyX4_ok, nmX4⟩
theorem xq_5_0 : xFq 5 0 (.object "AccountDay$Table") := ⟨_, tyX5, rfl, rfl, by decide +kernel, tyX5_ok, nmX5⟩
theorem xq_5_1 : xFq 5 1 (.array .int) := ⟨_, tyX5, rfl, rfl, by decide +kernel, tyX5_ok, nmX5⟩
theorem xq_5_2 : xFq 5 2 (.array .int) := ⟨_, tyX5, rfl, rfl, by decide +kernel, tyX5_ok, nmX5⟩
theorem xq_5_3 : xFq 5 3 (.array .int) := ⟨_, tyX5, rfl, rfl, by decide +kernel, tyX5_ok, nmX5⟩
theorem xq_6_0 : xFq 6 0 (.array .long) := ⟨_, tyX6, rfl, rfl, by decide +kernel, tyX6_ok, nmX6⟩
theorem xq_6_1 : xFq 6 1 (.array .long) := ⟨_, tyX6, rfl, rfl, by decide +kernel, tyX6_ok, nmX6⟩
theorem xq_6_2 : xFq 6 2 (.array .long) := ⟨_, tyX6, rfl, rfl, by decide +kernel, tyX6_ok, nmX6⟩
theorem xq_6_3 : xFq 6 3 (.array .long) := ⟨_, tyX6, rfl, rfl, by decide +kernel, tyX6_ok, nmX6⟩
theorem xq_7_0 : xFq 7 0 (.array .int) := ⟨_, tyX7, rfl, rfl, by decide +kernel, tyX7_ok, nmX7⟩
theorem xq_7_1 : xFq 7 1 (.array .int) := ⟨_, tyX7, rfl, rfl, by decide +kernel, tyX7_ok, nmX7⟩
theorem xq_7_2 : xFq 7 2 (.array .int) := ⟨_, tyX7, rfl, rfl, by decide +kernel, tyX7_ok, nmX7⟩
theorem xq_7_3 : xFq 7 3 (.array .int) := ⟨_, tyX7, rfl, rfl, by decide +kernel, tyX7_ok, nmX7⟩
theorem xq_7_4 : xFq 7 4 (.array .long) := ⟨_, tyX7, rfl, rfl, by decide +kernel, tyX7_ok, nmX7⟩
theorem xq_7_5 : xFq 7 5 (.array .long) := ⟨_, tyX7, rfl, rfl, by decide +kernel, tyX7_ok, nmX7⟩
theorem xq_7_6 : xFq 7 6 (.array .int) := ⟨_, tyX7, rfl, rfl, by decide +kernel, tyX7_ok, nmX7⟩
theorem xq_7_7 : xFq 7 7 (.array .long) := ⟨_, tyX7, rfl, rfl, by decide +kernel, tyX7_ok, nmX7⟩
theorem xq_8_0 : xFq 8 0 .int := ⟨_, tyX8, rfl, rfl, by decide +kernel, tyX8_ok, nmX8⟩
theorem xq_8_1 : xFq 8 1 .int := ⟨_, tyX8, rfl, rfl, by decide +kernel, tyX8_ok, nmX8⟩
theorem xq_8_2 : xFq 8 2 (.array .int) := ⟨_, tyX8, rfl, rfl, by decide +kernel, tyX8_ok, nmX8⟩
theorem xq_9_1 : xFq 9 1 (.array .int) := ⟨_, tyX9, rfl, rfl, by decide +kernel, tyX9_ok, nmX9⟩
theorem xq_9_7 : xFq 9 7 (.array .int) := ⟨_, tyX9, rfl, rfl, by decide +kernel, tyX9_ok, nmX9⟩
theorem xq_10_0 : xFq 10 0 (.object "AccountDay$Book") := ⟨_, tyX10, rfl, rfl, by decide +kernel, tyX10_ok, nmX10⟩
theorem xq_10_2 : xFq 10 2 (.object "AccountDay$Tape") := ⟨_, tyX10, rfl, rfl, by decide +kernel, tyX10_ok, nmX10⟩
theorem xq_10_3 : xFq 10 3 (.object "AccountDay$Closing") := ⟨_, tyX10, rfl, rfl, by decide +kernel, tyX10_ok, nmX10⟩
theorem xq_10_4 : xFq 10 4 (.object "AccountDay$Names") := ⟨_, tyX10, rfl, rfl, by decide +kernel, tyX10_ok, nmX10⟩
theorem xq_10_5 : xFq 10 5 (.object "AccountDay$Settling") := ⟨_, tyX10, rfl, rfl, by decide +kernel, tyX10_ok, nmX10⟩
theorem xq_10_6 : xFq 10 6 (.object "AccountDay$Sums") := ⟨_, tyX10, rfl, rfl, by decide +kernel, tyX10_ok, nmX10⟩
theorem xq_10_7 : xFq 10 7 (.array .int) := ⟨_, tyX10, rfl, rfl, by decide +kernel, tyX10_ok, nmX10⟩
theorem xq_10_9 : xFq 10 9 (.array .int) := ⟨_, tyX10, rfl, rfl, by decide +kernel, tyX10_ok, nmX10⟩
theorem xq_11_1 : xFq 11 1 (.array .int) := ⟨_, tyX11, rfl, rfl, by decide +kernel, tyX11_ok, nmX11⟩
theorem xq_11_2 : xFq 11 2 (.array .long) := ⟨_, tyX11, rfl, rfl, by decide +kernel, tyX11_ok, nmX11⟩
theorem xq_11_3 : xFq 11 3 (.array .int) := ⟨_, tyX11, rfl, rfl, by decide +kernel, tyX11_ok, nmX11⟩
theorem xq_11_4 : xFq 11 4 (.array .int) := ⟨_, tyX11, rfl, rfl, by decide +kernel, tyX11_ok, nmX11⟩
theorem xq_11_6 : xFq 11 6 (.array .int) := ⟨_, tyX11, rfl, rfl, by decide +kernel, tyX11_ok, nmX11⟩
theorem xq_11_20 : xFq 11 20 (.array .int) := ⟨_, tyX11, rfl, rfl, by decide +kernel, tyX11_ok, nmX11⟩
theorem xq_11_21 : xFq 11 21 (.array .int) := ⟨_, tyX11, rfl, rfl, by decide +kernel, tyX11_ok, nmX11⟩
theorem xq_11_22 : xFq 11 22 (.array .int) := ⟨_, tyX11, rfl, rfl, by decide +kernel, tyX11_ok, nmX11⟩
theorem xq_11_23 : xFq 11 23 (.array .int) := ⟨_, tyX11, rfl, rfl, by decide +kernel, tyX11_ok, nmX11⟩
theorem xq_11_24 : xFq 11 24 (.array .int) := ⟨_, tyX11, rfl, rfl, by decide +kernel, tyX11_ok, nmX11⟩
theorem xq_11_26 : xFq 11 26 (.array .int) := ⟨_, tyX11, rfl, rfl, by decide +kernel, tyX11_ok, nmX11⟩
theorem xq_11_27 : xFq 11 27 (.array .int) := ⟨_, tyX11, rfl, rfl, by decide +kernel, tyX11_ok, nmX11⟩
theorem xq_11_28 : xFq 11 28 (.array .long) := ⟨_, tyX11, rfl, rfl, by decide +kernel, tyX11_ok, nmX11⟩
theorem xq_11_29 : xFq 11 29 (.array .long) := ⟨_, tyX11, rfl, rfl, by decide +kernel, tyX11_ok, nmX11⟩
theorem xq_11_30 : xFq 11 30 (.array .long) := ⟨_, tyX11, rfl, rfl, by decide +kernel, tyX11_ok, nmX11⟩
theorem xq_11_31 : xFq 11 31 (.array .long) := ⟨_, tyX11, rfl, rfl, by decide +kernel, tyX11_ok, nmX11⟩
theorem xq_11_32 : xFq 11 32 (.array .long) := ⟨_, tyX11, rfl, rfl, by decide +kernel, tyX11_ok, nmX11⟩
theorem xq_11_33 : xFq 11 33 (.array .long) := ⟨_, tyX11, rfl, rfl, by decide +kernel, tyX11_ok, nmX11⟩
theorem xq_11_34 : xFq 11 34 (.array .int) := ⟨_, tyX11, rfl, rfl, by decide +kernel, tyX11_ok, nmX11⟩
theorem xq_11_35 : xFq 11 35 (.array .int) := ⟨_, tyX11, rfl, rfl, by decide +kernel, tyX11_ok, nmX11⟩
theorem xq_11_36 : xFq 11 36 (.array .int) := ⟨_, tyX11, rfl, rfl, by decide +kernel, tyX11_ok, nmX11⟩
theorem xq_11_37 : xFq 11 37 (.array .int) := ⟨_, tyX11, rfl, rfl, by decide +kernel, tyX11_ok, nmX11⟩
theorem xq_11_38 : xFq 11 38 (.array .int) := ⟨_, tyX11, rfl, rfl, by decide +kernel, tyX11_ok, nmX11⟩
theorem xq_11_39 : xFq 11 39 (.array .long) := ⟨_, tyX11, rfl, rfl, by decide +kernel, tyX11_ok, nmX11⟩
theorem xq_11_40 : xFq 11 40 (.array .boolean) := ⟨_, tyX11, rfl, rfl, by decide +kernel, tyX11_ok, nmX11⟩
theorem xq_11_41 : xFq 11 41 (.array .boolean) := ⟨_, tyX11, rfl, rfl, by decide +kernel, tyX11_ok, nmX11⟩
theorem xq_11_42 : xFq 11 42 (.array .int) := ⟨_, tyX11, rfl, rfl, by decide +kernel, tyX11_ok, nmX11⟩
theorem xq_11_43 : xFq 11 43 (.array .long) := ⟨_, tyX11, rfl, rfl, by decide +kernel, tyX11_ok, nmX11⟩
theorem xq_11_45 : xFq 11 45 (.array .int) := ⟨_, tyX11, rfl, rfl, by decide +kernel, tyX11_ok, nmX11⟩
theorem xp_10_1 : xFp 10 1 (.object "AccountDay$Book") := ⟨_, tyX10, rfl, rfl, by decide +kernel, tyX10_ok, nmX10⟩
set_option maxRecDepth 20000 in
theorem xi_X8_init : Cond.code yX8_init cX8_init 3 none ∈ lw_tbl ∧ Cond.instanceMethod yX8_init ∈ lw_tbl ∧ Cond.initialized yX8_init.cls ∈ lw_tbl ∧ (yX8_init.cls ≠ "java/lang/invoke/MethodHandle" ∧ yX8_init.cls ≠ "java/lang/invoke/VarHandle") ∧ (parseMethodDescriptor yX8_init.desc).map (fun d => d.parameters.length) = some 2 ∧ yX8_init.name = "<init>" := ⟨tb_1 (List.mem_of_getElem? (i := 99) rfl), tb_1 (List.mem_of_getElem? (i := 98) (by decide +kernel)), tb_1 (List.mem_of_getElem? (i := 5) (by decide +kernel)), by decide +kernel, by decide +kernel, rfl⟩
set_option maxRecDepth 20000 in
theorem xi_X0_init : Cond.code yX0_init cX0_init 2 none ∈ lw_tbl ∧ Cond.instanceMethod yX0_init ∈ lw_tbl ∧ Cond.initialized yX0_init.cls ∈ lw_tbl ∧ (yX0_init.cls ≠ "java/lang/invoke/MethodHandle" ∧ yX0_init.cls ≠ "java/lang/invoke/VarHandle") ∧ (parseMethodDescriptor yX0_init.desc).map (fun d => d.parameters.length) = some 0 ∧ yX0_init.name = "<init>" := ⟨tb_1 (List.mem_of_getElem? (i := 93) rfl), tb_1 (List.mem_of_getElem? (i := 92) (by decide +kernel)), tb_1 (List.mem_of_getElem? (i := 4) (by decide +kernel)), by decide +kernel, by decide +kernel, rfl⟩
set_option maxRecDepth 20000 in
theorem xi_X3_init : Cond.code yX3_init cX3_init 1 none ∈ lw_tbl ∧ Cond.instanceMethod yX3_init ∈ lw_tbl ∧ Cond.initialized yX3_init.cls ∈ lw_tbl ∧ (yX3_init.cls ≠ "java/lang/invoke/MethodHandle" ∧ yX3_init.cls ≠ "java/lang/invoke/VarHandle") ∧ (parseMethodDescriptor yX3_init.desc).map (fun d => d.parameters.length) = some 0 ∧ yX3_init.name = "<init>" := ⟨tb_1 (List.mem_of_getElem? (i := 38) rfl), tb_1 (List.mem_of_getElem? (i := 37) (by decide +kernel)), tb_1 (List.mem_of_getElem? (i := 3) (by decide +kernel)), by decide +kernel, by decide +kernel, rfl⟩
set_option maxRecDepth 20000 in
theorem xi_X5_init : Cond.code yX5_init cX5_init 1 none ∈ lw_tbl ∧ Cond.instanceMethod yX5_init ∈ lw_tbl ∧ Cond.initialized yX5_init.cls ∈ lw_tbl ∧ (yX5_init.cls ≠ "java/lang/invoke/MethodHandle" ∧ yX5_init.cls ≠ "java/lang/invoke/VarHandle") ∧ (parseMethodDescriptor yX5_init.desc).map (fun d => d.parameters.length) = some 0 ∧ yX5_init.name = "<init>" := ⟨tb_1 (List.mem_of_getElem? (i := 133) rfl), tb_1 (List.mem_of_getElem? (i := 132) (by decide +kernel)), tb_1 (List.mem_of_getElem? (i := 6) (by decide +kernel)), by decide +kernel, by decide +kernel, rfl⟩
set_option maxRecDepth 20000 in
theorem xi_X1_init : Cond.code yX1_init cX1_init 1 none ∈ lw_tbl ∧ Cond.instanceMethod yX1_init ∈ lw_tbl ∧ Cond.initialized yX1_init.cls ∈ lw_tbl ∧ (yX1_init.cls ≠ "java/lang/invoke/MethodHandle" ∧ yX1_init.cls ≠ "java/lang/invoke/VarHandle") ∧ (parseMethodDescriptor yX1_init.desc).map (fun d => d.parameters.length) = some 0 ∧ yX1_init.name = "<init>" := ⟨tb_1 (List.mem_of_getElem? (i := 32) rfl), tb_1 (List.mem_of_getElem? (i := 31) (by decide +kernel)), tb_1 (List.mem_of_getElem? (i := 2) (by decide +kernel)), by decide +kernel, by decide +kernel, rfl⟩
set_option maxRecDepth 20000 in
theorem xi_X9_init : Cond.code yX9_init cX9_init 1 none ∈ lw_tbl ∧ Cond.instanceMethod yX9_init ∈ lw_tbl ∧ Cond.initialized yX9_init.cls ∈ lw_tbl ∧ (yX9_init.cls ≠ "java/lang/invoke/MethodHandle" ∧ yX9_init.cls ≠ "java/lang/invoke/VarHandle") ∧ (parseMethodDescriptor yX9_init.desc).map (fun d => d.parameters.length) = some 0 ∧ yX9_init.name = "<init>" := ⟨tb_2 (List.mem_of_getElem? (i := 0) rfl), tb_1 (List.mem_of_getElem? (i := 239) (by decide +kernel)), tb_1 (List.mem_of_getElem? (i := 7) (by decide +kernel)), by decide +kernel, by decide +kernel, rfl⟩
set_option maxRecDepth 20000 in
theorem xi_X2_init : Cond.code yX2_init cX2_init 1 none ∈ lw_tbl ∧ Cond.instanceMethod yX2_init ∈ lw_tbl ∧ Cond.initialized yX2_init.cls ∈ lw_tbl ∧ (yX2_init.cls ≠ "java/lang/invoke/MethodHandle" ∧ yX2_init.cls ≠ "java/lang/invoke/VarHandle") ∧ (parseMethodDescriptor yX2_init.desc).map (fun d => d.parameters.length) = some 0 ∧ yX2_init.name = "<init>" := ⟨tb_2 (List.mem_of_getElem? (i := 42) rfl), tb_2 (List.mem_of_getElem? (i := 41) (by decide +kernel)), tb_1 (List.mem_of_getElem? (i := 8) (by decide +kernel)), by decide +kernel, by decide +kernel, rfl⟩
set_option maxRecDepth 20000 in
theorem xi_X4_init : Cond.code yX4_init cX4_init 1 none ∈ lw_tbl ∧ Cond.instanceMethod yX4_init ∈ lw_tbl ∧ Cond.initialized yX4_init.cls ∈ lw_tbl ∧ (yX4_init.cls ≠ "java/lang/invoke/MethodHandle" ∧ yX4_init.cls ≠ "java/lang/invoke/VarHandle") ∧ (parseMethodDescriptor yX4_init.desc).map (fun d => d.parameters.length) = some 0 ∧ yX4_init.name = "<init>" := ⟨tb_2 (List.mem_of_getElem? (i := 49) rfl), tb_2 (List.mem_of_getElem? (i := 48) (by decide +kernel)), tb_1 (List.mem_of_getElem? (i := 9) (by decide +kernel)), by decide +kernel, by decide +kernel, rfl⟩
set_option maxRecDepth 20000 in
theorem xi_X6_init : Cond.code yX6_init cX6_init 1 none ∈ lw_tbl ∧ Cond.instanceMethod yX6_init ∈ lw_tbl ∧ Cond.initialized yX6_init.cls ∈ lw_tbl ∧ (yX6_init.cls ≠ "java/lang/invoke/MethodHandle" ∧ yX6_init.cls ≠ "java/lang/invoke/VarHandle") ∧ (parseMethodDescriptor yX6_init.desc).map (fun d => d.parameters.length) = some 0 ∧ yX6_init.name = "<init>" := ⟨tb_2 (List.mem_of_getElem? (i := 83) rfl), tb_2 (List.mem_of_getElem? (i := 82) (by decide +kernel)), tb_1 (List.mem_of_getElem? (i := 10) (by decide +kernel)), by decide +kernel, by decide +kernel, rfl⟩
set_option maxRecDepth 20000 in
theorem xi_X7_init : Cond.code yX7_init cX7_init 1 none ∈ lw_tbl ∧ Cond.instanceMethod yX7_init ∈ lw_tbl ∧ Cond.initialized yX7_init.cls ∈ lw_tbl ∧ (yX7_init.cls ≠ "java/lang/invoke/MethodHandle" ∧ yX7_init.cls ≠ "java/lang/invoke/VarHandle") ∧ (parseMethodDescriptor yX7_init.desc).map (fun d => d.parameters.length) = some 0 ∧ yX7_init.name = "<init>" := ⟨tb_2 (List.mem_of_getElem? (i := 102) rfl), tb_2 (List.mem_of_getElem? (i := 101) (by decide +kernel)), tb_1 (List.mem_of_getElem? (i := 11) (by decide +kernel)), by decide +kernel, by decide +kernel, rfl⟩
set_option maxRecDepth 20000 in
theorem xi_X10_init : Cond.code yX10_init cX10_init 1 none ∈ lw_tbl ∧ Cond.instanceMethod yX10_init ∈ lw_tbl ∧ Cond.initialized yX10_init.cls ∈ lw_tbl ∧ (yX10_init.cls ≠ "java/lang/invoke/MethodHandle" ∧ yX10_init.cls ≠ "java/lang/invoke/VarHandle") ∧ (parseMethodDescriptor yX10_init.desc).map (fun d => d.parameters.length) = some 0 ∧ yX10_init.name = "<init>" := ⟨tb_1 (List.mem_of_getElem? (i := 24) rfl), tb_1 (List.mem_of_getElem? (i := 23) (by decide +kernel)), tb_1 (List.mem_of_getElem? (i := 1) (by decide +kernel)), by decide +kernel, by decide +kernel, rfl⟩
set_option maxRecDepth 20000 in
theorem xi_X11_init : Cond.code yX11_init cX11_init 1 none ∈ lw_tbl ∧ Cond.instanceMethod yX11_init ∈ lw_tbl ∧ Cond.initialized yX11_init.cls ∈ lw_tbl ∧ (yX11_init.cls ≠ "java/lang/invoke/MethodHandle" ∧ yX11_init.cls ≠ "java/lang/invoke/VarHandle") ∧ (parseMethodDescriptor yX11_init.desc).map (fun d => d.parameters.length) = some 0 ∧ yX11_init.name = "<init>" := ⟨tb_5 (List.mem_of_getElem? (i := 223) rfl), tb_5 (List.mem_of_getElem? (i := 222) (by decide +kernel)), tb_1 (List.mem_of_getElem? (i := 12) (by decide +kernel)), by decide +kernel, by decide +kernel, rfl⟩
theorem y_wI : Cond.arrayClass (newarray.typeOf .int) ∈ lw_tbl := tb_1 (List.mem_of_getElem? (i := 87) (by decide +kernel))
theorem y_wJ : Cond.arrayClass (newarray.typeOf .long) ∈ lw_tbl := tb_1 (List.mem_of_getElem? (i := 88) (by decide +kernel))
theorem y_wZ : Cond.arrayClass (newarray.typeOf .boolean) ∈ lw_tbl := tb_6 (List.mem_of_getElem? (i := 130) (by decide +kernel))
