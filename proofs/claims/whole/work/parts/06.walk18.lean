set_option maxRecDepth 20000 in
theorem W_X11_gotten_l5 {G : XG} {l : Launch} {kp : Bool} {p : Program} {e : Env} {s : State} {m : MethodId} {args : Array Value} {below : List Frame} {meth : Method} {c : Code} (hC : xC G p s m args meth c cX11_gotten 5 RX11 (some .long)) (N : Nat) {I : xTI} {L : xTL} {r : Int64} {x1 : Int32} : ∀ (n : Nat) (x2 : Int64) (x4 : Int32) , xlp (F_X11_gotten_b5 N I L x1 ) n (x2, x4) = some r → ∀ (H : Heap) (locs : List Loc) (ls : Array Slot), xRep G kp I L H → xS G s.heap H locs → lv_has ls 5 [(0, .ref (xz G + 57)), (1, .int x1), (2, .long x2), (4, .int x4)] → W p l e (xrm 0 0) s m args below meth c H locs 0 0 (xMQ G kp below args s (some (.long r)) I L) (F0 m 5 ls []) := by
  intro n
  induction n with
  | zero =>
    intro x2 x4 hf
    cases hf
  | succ n hk5 =>
    intro x2 x4 hf H locs ls hR hS hl
    rw [xlp_s, E_X11_gotten_b5] at hf
    unfold F_X11_gotten_c5 at hf
    refine lv_iload hC.1 hC.2.1 dX11_gotten_5 (lv_at hl 3 rfl) ?_
    refine lv_aload_n hC.1 hC.2.1 dX11_gotten_7 rfl (lv_at hl 0 rfl) ?_
    refine x_get (v := .ref (xz G + 58)) hC xf_X11_14 (xce_57 G kp _ _) rfl hR dX11_gotten_8 ?_
    refine lv_iconst (v := 1) hC.1 hC.2.1 dX11_gotten_11 (by decide) ?_
    refine x_ial hC (xce_58 G kp _ _) hR dX11_gotten_12 hf (fun v1 hf => ?_)
    refine x_ic_ge (tgt := 37) hC dX11_gotten_13 (by decide) hf (fun hf => ?_) (fun hf => ?_)
    · refine lv_lload_n hC.1 hC.2.1 dX11_gotten_37 rfl (lv_at hl 2 rfl) ?_
      have h9 := Option.some.inj hf
      subst h9
      exact x_lret hC hR hS dX11_gotten_38
    · refine lv_lload_n hC.1 hC.2.1 dX11_gotten_16 rfl (lv_at hl 2 rfl) ?_
      refine lv_aload_n hC.1 hC.2.1 dX11_gotten_17 rfl (lv_at hl 0 rfl) ?_
      refine x_get (v := .ref (xz G + 73)) hC xf_X11_61 (xce_57 G kp _ _) rfl hR dX11_gotten_18 ?_
      refine lv_bipush (v := 12) hC.1 hC.2.1 dX11_gotten_21 (by decide) ?_
      refine lv_iload hC.1 hC.2.1 dX11_gotten_23 (lv_at hl 3 rfl) ?_
      refine lv_imul hC.1 hC.2.1 dX11_gotten_25 ?_
      refine lv_iload_n hC.1 hC.2.1 dX11_gotten_26 rfl (lv_at hl 1 rfl) ?_
      refine lv_iadd hC.1 hC.2.1 dX11_gotten_27 ?_
      refine x_lal hC (xce_73 G kp _ _) hR dX11_gotten_28 hf (fun v2 hf => ?_)
      refine lv_ladd hC.1 hC.2.1 dX11_gotten_29 ?_
      refine x_lstn (lv' := fun y3 => [(2, .long y3), (0, .ref (xz G + 57)), (1, .int x1), (4, .int x4)]) hC hl dX11_gotten_30 rfl (Nat.le_of_ble_eq_true rfl) hf (fun _ => rfl) (fun y3 hf ls hl => ?_)
      refine W.eq (g2 := F0 m 31 ls []) rfl ?_
      refine x_iinc (d := 1) (lv' := fun y4 => [(4, .int y4), (2, .long y3), (0, .ref (xz G + 57)), (1, .int x1)]) (k := 3) hC hl dX11_gotten_31 rfl (by decide) (Nat.le_of_ble_eq_true rfl) hf (fun _ => rfl) (fun y4 hf ls hl => ?_)
      refine lv_goto (tgt := 5) hC.1 hC.2.1 dX11_gotten_34 (by decide) ?_
      exact hk5 y3 y4 hf _ _ _ hR hS (lv_sub hl [2, 3, 1, 0] rfl)
set_option maxRecDepth 20000 in
theorem M_X11_gotten (G : XG) (l : Launch) (kp : Bool) (N : Nat) {I : xTI} {L : xTL} {x1 : Int32} {r : Int64} (hf : F_X11_gotten N I L x1 = some r) : xMet G l yX11_gotten cX11_gotten 5 (some .long) 0 0 kp [.ref (xz G + 57), .int x1] I L (some (.long r)) I L := by
  refine xMet.ofW (by decide +kernel) (Nat.le_of_ble_eq_true rfl) ?_
  intro p e s m args below meth c hC H locs ls hR hS hl
  replace hC : xC G p s m args meth c cX11_gotten 5 RX11 (some .long) := hC
  replace hl : lv_has ls 5 [(0, .ref (xz G + 57)), (1, .int x1)] := hl
  unfold F_X11_gotten at hf
  refine lv_lconst (v := 0) hC.1 hC.2.1 dX11_gotten_0 (by decide) ?_
  refine lv_lstore_n (lv' := [(2, .long 0), (0, .ref (xz G + 57)), (1, .int x1)]) hC.1 hC.2.1 dX11_gotten_1 rfl hl (Nat.le_of_ble_eq_true rfl) rfl (fun ls hl => ?_)
  refine lv_iconst (v := 0) hC.1 hC.2.1 dX11_gotten_2 (by decide) ?_
  refine lv_istore (lv' := [(4, .int 0), (2, .long 0), (0, .ref (xz G + 57)), (1, .int x1)]) hC.1 hC.2.1 dX11_gotten_3 hl (Nat.le_of_ble_eq_true rfl) rfl (fun ls hl => ?_)
  exact W_X11_gotten_l5 hC N _ 0 0 hf _ _ _ hR hS (lv_sub hl [2, 3, 1, 0] rfl)
set_option maxRecDepth 20000 in
theorem W_X11_pays_l211 {G : XG} {l : Launch} {kp : Bool} {p : Program} {e : Env} {s : State} {m : MethodId} {args : Array Value} {below : List Frame} {meth : Method} {c : Code} (hC : xC G p s m args meth c cX11_pays 8 RX11 (some .boolean)) (N : Nat) {I : xTI} {r : Int32} {rL : xTL} {x1 : Int32} : ∀ (n : Nat) (x2 : Int32) (L : xTL) , xlp (F_X11_pays_b211 N I x1 ) n (x2, L) = some (r, rL) → ∀ (H : Heap) (locs : List Loc) (ls : Array Slot), xRep G kp I L H → xS G s.heap H locs → lv_has ls 8 [(0, .ref (xz G + 57)), (1, .int x1), (2, .int x2)] → W p l e (xrm 1 24) s m args below meth c H locs 0 0 (xMQ G kp below args s (some (.int r)) I rL) (F0 m 211 ls []) := by
  intro n
  induction n with
  | zero =>
    intro x2 L hf
    cases hf
  | succ n hk211 =>
    intro x2 L hf H locs ls hR hS hl
    rw [xlp_s, E_X11_pays_b211] at hf
    unfold F_X11_pays_c211 at hf
    refine lv_iload_n hC.1 hC.2.1 dX11_pays_211 rfl (lv_at hl 2 rfl) ?_
    refine lv_sipush (v := 144) hC.1 hC.2.1 dX11_pays_212 (by decide) ?_
    refine x_ic_ge (tgt := 236) hC dX11_pays_215 (by decide) hf (fun hf => ?_) (fun hf => ?_)
    · refine lv_iload_n hC.1 hC.2.1 dX11_pays_236 rfl (lv_at hl 1 rfl) ?_
      obtain ⟨h01, hf⟩ := xzc_some hf
      obtain ⟨h91, h92⟩ := Prod.mk.inj (Option.some.inj hf)
      subst h91
      subst h92
      exact x_zret h01 hC hR hS dX11_pays_237
    · refine lv_aload_n hC.1 hC.2.1 dX11_pays_218 rfl (lv_at hl 0 rfl) ?_
      refine x_get (v := .ref (xz G + 73)) hC xf_X11_61 (xce_57 G kp _ _) rfl hR dX11_pays_219 ?_
      refine lv_iload_n hC.1 hC.2.1 dX11_pays_222 rfl (lv_at hl 2 rfl) ?_
      refine lv_aload_n hC.1 hC.2.1 dX11_pays_223 rfl (lv_at hl 0 rfl) ?_
      refine x_get (v := .ref (xz G + 74)) hC xf_X11_64 (xce_57 G kp _ _) rfl hR dX11_pays_224 ?_
      refine lv_iload_n hC.1 hC.2.1 dX11_pays_227 rfl (lv_at hl 2 rfl) ?_
      refine x_lal hC (xce_74 G kp _ _) hR dX11_pays_228 hf (fun v1 hf => ?_)
      refine x_las hC (fun f => (xce_73 G kp _ f)) hR hS dX11_pays_229 hf (fun L2 hf H locs hR hS => ?_)
      refine x_iinc (d := 1) (lv' := fun y3 => [(2, .int y3), (0, .ref (xz G + 57)), (1, .int x1)]) (k := 2) hC hl dX11_pays_230 rfl (by decide) (Nat.le_of_ble_eq_true rfl) hf (fun _ => rfl) (fun y3 hf ls hl => ?_)
      refine lv_goto (tgt := 211) hC.1 hC.2.1 dX11_pays_233 (by decide) ?_
      exact hk211 y3 L2 hf _ _ _ hR hS (lv_sub hl [1, 2, 0] rfl)
set_option maxRecDepth 20000 in
theorem W_X11_pays_j194 {G : XG} {l : Launch} {kp : Bool} {p : Program} {e : Env} {s : State} {m : MethodId} {args : Array Value} {below : List Frame} {meth : Method} {c : Code} (hC : xC G p s m args meth c cX11_pays 8 RX11 (some .boolean)) (N : Nat) {I : xTI} {L : xTL} {r : Int32} {rL : xTL} {x2 : Int32} {x6 : Int64} {t0 : Int32} (k4 : Int32 × Int32 × xTL → Option (Int32 × xTL)) (hk4 : ∀ (x1 : Int32) (x2 : Int32) (L : xTL) , k4 (x1, x2, L) = some (r, rL) → ∀ (H : Heap) (locs : List Loc) (ls : Array Slot), xRep G kp I L H → xS G s.heap H locs → lv_has ls 8 [(0, .ref (xz G + 57)), (1, .int x1), (2, .int x2)] → W p l e (xrm 1 24) s m args below meth c H locs 0 0 (xMQ G kp below args s (some (.int r)) I rL) (F0 m 4 ls [])) (hf : F_X11_pays_j194 k4 N I L x2 x6 t0 = some (r, rL)) : ∀ (H : Heap) (locs : List Loc) (ls : Array Slot), xRep G kp I L H → xS G s.heap H locs → lv_has ls 8 [(0, .ref (xz G + 57)), (2, .int x2), (6, .long x6)] → W p l e (xrm 1 24) s m args below meth c H locs 0 0 (xMQ G kp below args s (some (.int r)) I rL) (F0 m 194 ls [.int t0]) := by
  intro H locs ls hR hS hl
  unfold F_X11_pays_j194 at hf
  refine lv_istore_n (lv' := [(1, .int t0), (0, .ref (xz G + 57)), (2, .int x2), (6, .long x6)]) hC.1 hC.2.1 dX11_pays_194 rfl hl (Nat.le_of_ble_eq_true rfl) rfl (fun ls hl => ?_)
  refine lv_aload_n hC.1 hC.2.1 dX11_pays_195 rfl (lv_at hl 1 rfl) ?_
  refine x_get (v := .ref (xz G + 75)) hC xf_X11_67 (xce_57 G kp _ _) rfl hR dX11_pays_196 ?_
  refine lv_iload_n hC.1 hC.2.1 dX11_pays_199 rfl (lv_at hl 2 rfl) ?_
  refine lv_lload hC.1 hC.2.1 dX11_pays_200 (lv_at hl 3 rfl) ?_
  refine x_las hC (fun f => (xce_75 G kp _ f)) hR hS dX11_pays_202 hf (fun L1 hf H locs hR hS => ?_)
  refine x_iinc (d := 1) (lv' := fun y2 => [(2, .int y2), (1, .int t0), (0, .ref (xz G + 57)), (6, .long x6)]) (k := 2) hC hl dX11_pays_203 rfl (by decide) (Nat.le_of_ble_eq_true rfl) hf (fun _ => rfl) (fun y2 hf ls hl => ?_)
  refine lv_goto (tgt := 4) hC.1 hC.2.1 dX11_pays_206 (by decide) ?_
  exact hk4 t0 y2 L1 hf _ _ _ hR hS (lv_sub hl [2, 1, 0] rfl)
set_option maxRecDepth 20000 in
theorem W_X11_pays_j171 {G : XG} {l : Launch} {kp : Bool} {p : Program} {e : Env} {s : State} {m : MethodId} {args : Array Value} {below : List Frame} {meth : Method} {c : Code} (hC : xC G p s m args meth c cX11_pays 8 RX11 (some .boolean)) (N : Nat) {I : xTI} {L : xTL} {r : Int32} {rL : xTL} {x1 : Int32} {x2 : Int32} {t0 : Int64} (k4 : Int32 × Int32 × xTL → Option (Int32 × xTL)) (hk4 : ∀ (x1 : Int32) (x2 : Int32) (L : xTL) , k4 (x1, x2, L) = some (r, rL) → ∀ (H : Heap) (locs : List Loc) (ls : Array Slot), xRep G kp I L H → xS G s.heap H locs → lv_has ls 8 [(0, .ref (xz G + 57)), (1, .int x1), (2, .int x2)] → W p l e (xrm 1 24) s m args below meth c H locs 0 0 (xMQ G kp below args s (some (.int r)) I rL) (F0 m 4 ls [])) (hf : F_X11_pays_j171 k4 N I L x1 x2 t0 = some (r, rL)) : ∀ (H : Heap) (locs : List Loc) (ls : Array Slot), xRep G kp I L H → xS G s.heap H locs → lv_has ls 8 [(0, .ref (xz G + 57)), (1, .int x1), (2, .int x2)] → W p l e (xrm 1 24) s m args below meth c H locs 0 0 (xMQ G kp below args s (some (.int r)) I rL) (F0 m 171 ls [.long t0]) := by
  intro H locs ls hR hS hl
  unfold F_X11_pays_j171 at hf
  refine lv_lstore (lv' := [(6, .long t0), (0, .ref (xz G + 57)), (1, .int x1), (2, .int x2)]) hC.1 hC.2.1 dX11_pays_171 hl (Nat.le_of_ble_eq_true rfl) rfl (fun ls hl => ?_)
  refine lv_iload_n hC.1 hC.2.1 dX11_pays_173 rfl (lv_at hl 2 rfl) ?_
  refine x_if_ne (tgt := 189) hC dX11_pays_174 (by decide) hf (fun hf => ?_) (fun hf => ?_)
  · refine lv_iconst (v := 1) hC.1 hC.2.1 dX11_pays_189 (by decide) ?_
    refine lv_goto (tgt := 194) hC.1 hC.2.1 dX11_pays_190 (by decide) ?_
    exact W_X11_pays_j194 hC N _ hk4 hf _ _ _ hR hS (lv_sub hl [1, 3, 0] rfl)
  · refine lv_lload hC.1 hC.2.1 dX11_pays_177 (lv_at hl 0 rfl) ?_
    refine lv_aload_n hC.1 hC.2.1 dX11_pays_179 rfl (lv_at hl 1 rfl) ?_
    refine x_get (v := .ref (xz G + 75)) hC xf_X11_67 (xce_57 G kp _ _) rfl hR dX11_pays_180 ?_
    refine lv_iload_n hC.1 hC.2.1 dX11_pays_183 rfl (lv_at hl 3 rfl) ?_
    refine x_lal hC (xce_75 G kp _ _) hR dX11_pays_184 hf (fun v1 hf => ?_)
    refine W.lcmp hC.1 hC.2.1 dX11_pays_185 ?_
    refine x_if_eq (tgt := 193) hC dX11_pays_186 (by decide) hf (fun hf => ?_) (fun hf => ?_)
    · refine lv_iconst (v := 0) hC.1 hC.2.1 dX11_pays_193 (by decide) ?_
      exact W_X11_pays_j194 hC N _ hk4 hf _ _ _ hR hS (lv_sub hl [1, 3, 0] rfl)
    · refine lv_iconst (v := 1) hC.1 hC.2.1 dX11_pays_189 (by decide) ?_
      refine lv_goto (tgt := 194) hC.1 hC.2.1 dX11_pays_190 (by decide) ?_
      exact W_X11_pays_j194 hC N _ hk4 hf _ _ _ hR hS (lv_sub hl [1, 3, 0] rfl)
set_option maxRecDepth 20000 in
theorem W_X11_pays_j107 {G : XG} {l : Launch} {kp : Bool} {p : Program} {e : Env} {s : State} {m : MethodId} {args : Array Value} {below : List Frame} {meth : Method} {c : Code} (hC : xC G p s m args meth c cX11_pays 8 RX11 (some .boolean)) (N : Nat) {I : xTI} {L : xTL} {r : Int32} {rL : xTL} {x1 : Int32} {x2 : Int32} {x3 : Int64} {x5 : Int32} {x6 : Int32} {x7 : Int32} {t1 : Int32} {t2 : Int64} (k4 : Int32 × Int32 × xTL → Option (Int32 × xTL)) (k50 : Int32 × Int32 × xTL → Option (Int32 × xTL)) (hk4 : ∀ (x1 : Int32) (x2 : Int32) (L : xTL) , k4 (x1, x2, L) = some (r, rL) → ∀ (H : Heap) (locs : List Loc) (ls : Array Slot), xRep G kp I L H → xS G s.heap H locs → lv_has ls 8 [(0, .ref (xz G + 57)), (1, .int x1), (2, .int x2)] → W p l e (xrm 1 24) s m args below meth c H locs 0 0 (xMQ G kp below args s (some (.int r)) I rL) (F0 m 4 ls [])) (hk50 : ∀ (x1 : Int32) (x6 : Int32) (L : xTL) , k50 (x1, x6, L) = some (r, rL) → ∀ (H : Heap) (locs : List Loc) (ls : Array Slot), xRep G kp I L H → xS G s.heap H locs → lv_has ls 8 [(0, .ref (xz G + 57)), (1, .int x1), (2, .int x2), (3, .long x3), (5, .int x5), (6, .int x6)] → W p l e (xrm 1 24) s m args below meth c H locs 0 0 (xMQ G kp below args s (some (.int r)) I rL) (F0 m 50 ls [])) (hf : F_X11_pays_j107 k4 k50 N I L x1 x2 x3 x5 x6 x7 t1 t2 = some (r, rL)) : ∀ (H : Heap) (locs : List Loc) (ls : Array Slot), xRep G kp I L H → xS G s.heap H locs → lv_has ls 8 [(0, .ref (xz G + 57)), (1, .int x1), (2, .int x2), (3, .long x3), (5, .int x5), (6, .int x6), (7, .int x7)] → W p l e (xrm 1 24) s m args below meth c H locs 0 0 (xMQ G kp below args s (some (.int r)) I rL) (F0 m 107 ls [.long t2, .int t1, .ref (xz G + 74)]) := by
  intro H locs ls hR hS hl
  unfold F_X11_pays_j107 at hf
  refine x_las hC (fun f => (xce_74 G kp _ f)) hR hS dX11_pays_107 hf (fun L1 hf H locs hR hS => ?_)
  refine lv_iload_n hC.1 hC.2.1 dX11_pays_108 rfl (lv_at hl 1 rfl) ?_
  refine x_if_ne (tgt := 130) hC dX11_pays_109 (by decide) hf (fun hf => ?_) (fun hf => ?_)
  · refine lv_iconst (v := 1) hC.1 hC.2.1 dX11_pays_130 (by decide) ?_
    refine lv_goto (tgt := 135) hC.1 hC.2.1 dX11_pays_131 (by decide) ?_
    refine lv_istore_n (lv' := [(1, .int 1), (0, .ref (xz G + 57)), (2, .int x2), (3, .long x3), (5, .int x5), (6, .int x6), (7, .int x7)]) hC.1 hC.2.1 dX11_pays_135 rfl hl (Nat.le_of_ble_eq_true rfl) rfl (fun ls hl => ?_)
    refine x_iinc (d := 1) (lv' := fun y2 => [(6, .int y2), (1, .int 1), (0, .ref (xz G + 57)), (2, .int x2), (3, .long x3), (5, .int x5), (7, .int x7)]) (k := 5) hC hl dX11_pays_136 rfl (by decide) (Nat.le_of_ble_eq_true rfl) hf (fun _ => rfl) (fun y2 hf ls hl => ?_)
    refine lv_goto (tgt := 50) hC.1 hC.2.1 dX11_pays_139 (by decide) ?_
    exact hk50 1 y2 L1 hf _ _ _ hR hS (lv_sub hl [2, 1, 3, 4, 5, 0] rfl)
  · refine lv_aload_n hC.1 hC.2.1 dX11_pays_112 rfl (lv_at hl 0 rfl) ?_
    refine x_get (v := .ref (xz G + 74)) hC xf_X11_64 (xce_57 G kp _ _) rfl hR dX11_pays_113 ?_
    refine lv_iload hC.1 hC.2.1 dX11_pays_116 (lv_at hl 6 rfl) ?_
    refine x_lal hC (xce_74 G kp _ _) hR dX11_pays_118 hf (fun v3 hf => ?_)
    refine lv_aload_n hC.1 hC.2.1 dX11_pays_119 rfl (lv_at hl 0 rfl) ?_
    refine x_get (v := .ref (xz G + 73)) hC xf_X11_61 (xce_57 G kp _ _) rfl hR dX11_pays_120 ?_
    refine lv_iload hC.1 hC.2.1 dX11_pays_123 (lv_at hl 6 rfl) ?_
    refine x_lal hC (xce_73 G kp _ _) hR dX11_pays_125 hf (fun v4 hf => ?_)
    refine W.lcmp hC.1 hC.2.1 dX11_pays_126 ?_
    refine x_if_eq (tgt := 134) hC dX11_pays_127 (by decide) hf (fun hf => ?_) (fun hf => ?_)
    · refine lv_iconst (v := 0) hC.1 hC.2.1 dX11_pays_134 (by decide) ?_
      refine lv_istore_n (lv' := [(1, .int 0), (0, .ref (xz G + 57)), (2, .int x2), (3, .long x3), (5, .int x5), (6, .int x6), (7, .int x7)]) hC.1 hC.2.1 dX11_pays_135 rfl hl (Nat.le_of_ble_eq_true rfl) rfl (fun ls hl => ?_)
      refine x_iinc (d := 1) (lv' := fun y5 => [(6, .int y5), (1, .int 0), (0, .ref (xz G + 57)), (2, .int x2), (3, .long x3), (5, .int x5), (7, .int x7)]) (k := 5) hC hl dX11_pays_136 rfl (by decide) (Nat.le_of_ble_eq_true rfl) hf (fun _ => rfl) (fun y5 hf ls hl => ?_)
      refine lv_goto (tgt := 50) hC.1 hC.2.1 dX11_pays_139 (by decide) ?_
      exact hk50 0 y5 L1 hf _ _ _ hR hS (lv_sub hl [2, 1, 3, 4, 5, 0] rfl)
    · refine lv_iconst (v := 1) hC.1 hC.2.1 dX11_pays_130 (by decide) ?_
      refine lv_goto (tgt := 135) hC.1 hC.2.1 dX11_pays_131 (by decide) ?_
      refine lv_istore_n (lv' := [(1, .int 1), (0, .ref (xz G + 57)), (2, .int x2), (3, .long x3), (5, .int x5), (6, .int x6), (7, .int x7)]) hC.1 hC.2.1 dX11_pays_135 rfl hl (Nat.le_of_ble_eq_true rfl) rfl (fun ls hl => ?_)
      refine x_iinc (d := 1) (lv' := fun y6 => [(6, .int y6), (1, .int 1), (0, .ref (xz G + 57)), (2, .int x2), (3, .long x3), (5, .int x5), (7, .int x7)]) (k := 5) hC hl dX11_pays_136 rfl (by decide) (Nat.le_of_ble_eq_true rfl) hf (fun _ => rfl) (fun y6 hf ls hl => ?_)
      refine lv_goto (tgt := 50) hC.1 hC.2.1 dX11_pays_139 (by decide) ?_
      exact hk50 1 y6 L1 hf _ _ _ hR hS (lv_sub hl [2, 1, 3, 4, 5, 0] rfl)
set_option maxRecDepth 20000 in
theorem W_X11_pays_l50 {G : XG} {l : Launch} {kp : Bool} {p : Program} {e : Env} {s : State} {m : MethodId} {args : Array Value} {below : List Frame} {meth : Method} {c : Code} (hC : xC G p s m args meth c cX11_pays 8 RX11 (some .boolean)) (N : Nat) {I : xTI} {r : Int32} {rL : xTL} {x2 : Int32} {x3 : Int64} {x5 : Int32} (k4 : Int32 × Int32 × xTL → Option (Int32 × xTL)) (hk4 : ∀ (x1 : Int32) (x2 : Int32) (L : xTL) , k4 (x1, x2, L) = some (r, rL) → ∀ (H : Heap) (locs : List Loc) (ls : Array Slot), xRep G kp I L H → xS G s.heap H locs → lv_has ls 8 [(0, .ref (xz G + 57)), (1, .int x1), (2, .int x2)] → W p l e (xrm 1 24) s m args below meth c H locs 0 0 (xMQ G kp below args s (some (.int r)) I rL) (F0 m 4 ls [])) : ∀ (n : Nat) (x1 : Int32) (x6 : Int32) (L : xTL) , xlp (F_X11_pays_b50 k4 N I x2 x3 x5 ) n (x1, x6, L) = some (r, rL) → ∀ (H : Heap) (locs : List Loc) (ls : Array Slot), xRep G kp I L H → xS G s.heap H locs → lv_has ls 8 [(0, .ref (xz G + 57)), (1, .int x1), (2, .int x2), (3, .long x3), (5, .int x5), (6, .int x6)] → W p l e (xrm 1 24) s m args below meth c H locs 0 0 (xMQ G kp below args s (some (.int r)) I rL) (F0 m 50 ls []) := by
  intro n
  induction n with
  | zero =>
    intro x1 x6 L hf
    cases hf
  | succ n hk50 =>
    intro x1 x6 L hf H locs ls hR hS hl
    rw [xlp_s, E_X11_pays_b50] at hf
    unfold F_X11_pays_c50 at hf
    refine lv_iload hC.1 hC.2.1 dX11_pays_50 (lv_at hl 5 rfl) ?_
    refine lv_aload_n hC.1 hC.2.1 dX11_pays_52 rfl (lv_at hl 0 rfl) ?_
    refine x_get (v := .ref (xz G + 58)) hC xf_X11_14 (xce_57 G kp _ _) rfl hR dX11_pays_53 ?_
    refine lv_iconst (v := 1) hC.1 hC.2.1 dX11_pays_56 (by decide) ?_
    refine x_ial hC (xce_58 G kp _ _) hR dX11_pays_57 hf (fun v1 hf => ?_)
    refine x_ic_ge (tgt := 142) hC dX11_pays_58 (by decide) hf (fun hf => ?_) (fun hf => ?_)
    · refine lv_iload hC.1 hC.2.1 dX11_pays_142 (lv_at hl 4 rfl) ?_
      refine x_if_eq (tgt := 156) hC dX11_pays_144 (by decide) hf (fun hf => ?_) (fun hf => ?_)
      · refine lv_aload_n hC.1 hC.2.1 dX11_pays_156 rfl (lv_at hl 0 rfl) ?_
        refine x_get (v := .ref (xz G + 71)) hC xf_X11_55 (xce_57 G kp _ _) rfl hR dX11_pays_157 ?_
        refine lv_iload_n hC.1 hC.2.1 dX11_pays_160 rfl (lv_at hl 2 rfl) ?_
        refine x_lal hC (xce_71 G kp _ _) hR dX11_pays_161 hf (fun v2 hf => ?_)
        refine lv_lload_n hC.1 hC.2.1 dX11_pays_162 rfl (lv_at hl 3 rfl) ?_
        refine lv_lmul hC.1 hC.2.1 dX11_pays_163 ?_
        refine lv_aload_n hC.1 hC.2.1 dX11_pays_164 rfl (lv_at hl 0 rfl) ?_
        refine x_get (v := .ref (xz G + 72)) hC xf_X11_58 (xce_57 G kp _ _) rfl hR dX11_pays_165 ?_
        refine lv_iload_n hC.1 hC.2.1 dX11_pays_168 rfl (lv_at hl 2 rfl) ?_
        refine x_lal hC (xce_72 G kp _ _) hR dX11_pays_169 hf (fun v3 hf => ?_)
        refine x_ldiv hC dX11_pays_170 hf (fun v4 hf => ?_)
        exact W_X11_pays_j171 hC N _ hk4 hf _ _ _ hR hS (lv_sub hl [0, 1, 2] rfl)
      · refine lv_aload_n hC.1 hC.2.1 dX11_pays_147 rfl (lv_at hl 0 rfl) ?_
        refine x_get (v := .ref (xz G + 71)) hC xf_X11_55 (xce_57 G kp _ _) rfl hR dX11_pays_148 ?_
        refine lv_iload_n hC.1 hC.2.1 dX11_pays_151 rfl (lv_at hl 2 rfl) ?_
        refine x_lal hC (xce_71 G kp _ _) hR dX11_pays_152 hf (fun v5 hf => ?_)
        refine lv_goto (tgt := 171) hC.1 hC.2.1 dX11_pays_153 (by decide) ?_
        exact W_X11_pays_j171 hC N _ hk4 hf _ _ _ hR hS (lv_sub hl [0, 1, 2] rfl)
    · refine lv_bipush (v := 12) hC.1 hC.2.1 dX11_pays_61 (by decide) ?_
      refine lv_iload_n hC.1 hC.2.1 dX11_pays_63 rfl (lv_at hl 2 rfl) ?_
      refine lv_imul hC.1 hC.2.1 dX11_pays_64 ?_
      refine lv_iload hC.1 hC.2.1 dX11_pays_65 (lv_at hl 5 rfl) ?_
      refine lv_iadd hC.1 hC.2.1 dX11_pays_67 ?_
      refine x_ist (lv' := fun y6 => [(7, .int y6), (0, .ref (xz G + 57)), (1, .int x1), (2, .int x2), (3, .long x3), (5, .int x5), (6, .int x6)]) hC hl dX11_pays_68 (Nat.le_of_ble_eq_true rfl) hf (fun _ => rfl) (fun y6 hf ls hl => ?_)
      refine lv_aload_n hC.1 hC.2.1 dX11_pays_70 rfl (lv_at hl 1 rfl) ?_
      refine x_get (v := .ref (xz G + 74)) hC xf_X11_64 (xce_57 G kp _ _) rfl hR dX11_pays_71 ?_
      refine lv_iload hC.1 hC.2.1 dX11_pays_74 (lv_at hl 0 rfl) ?_
      refine lv_iload hC.1 hC.2.1 dX11_pays_76 (lv_at hl 5 rfl) ?_
      refine x_if_eq (tgt := 91) hC dX11_pays_78 (by decide) hf (fun hf => ?_) (fun hf => ?_)
      · refine lv_aload_n hC.1 hC.2.1 dX11_pays_91 rfl (lv_at hl 1 rfl) ?_
        refine x_get (v := .ref (xz G + 70)) hC xf_X11_52 (xce_57 G kp _ _) rfl hR dX11_pays_92 ?_
        refine lv_iload hC.1 hC.2.1 dX11_pays_95 (lv_at hl 0 rfl) ?_
        refine x_lal hC (xce_70 G kp _ _) hR dX11_pays_97 hf (fun v7 hf => ?_)
        refine lv_lload_n hC.1 hC.2.1 dX11_pays_98 rfl (lv_at hl 4 rfl) ?_
        refine lv_lmul hC.1 hC.2.1 dX11_pays_99 ?_
        refine lv_aload_n hC.1 hC.2.1 dX11_pays_100 rfl (lv_at hl 1 rfl) ?_
        refine x_get (v := .ref (xz G + 72)) hC xf_X11_58 (xce_57 G kp _ _) rfl hR dX11_pays_101 ?_
        refine lv_iload_n hC.1 hC.2.1 dX11_pays_104 rfl (lv_at hl 3 rfl) ?_
        refine x_lal hC (xce_72 G kp _ _) hR dX11_pays_105 hf (fun v8 hf => ?_)
        refine x_ldiv hC dX11_pays_106 hf (fun v9 hf => ?_)
        exact W_X11_pays_j107 hC N _ _ hk4 hk50 hf _ _ _ hR hS (lv_sub hl [1, 2, 3, 4, 5, 6, 0] rfl)
      · refine lv_aload_n hC.1 hC.2.1 dX11_pays_81 rfl (lv_at hl 1 rfl) ?_
        refine x_get (v := .ref (xz G + 70)) hC xf_X11_52 (xce_57 G kp _ _) rfl hR dX11_pays_82 ?_
        refine lv_iload hC.1 hC.2.1 dX11_pays_85 (lv_at hl 0 rfl) ?_
        refine x_lal hC (xce_70 G kp _ _) hR dX11_pays_87 hf (fun v10 hf => ?_)
        refine lv_goto (tgt := 107) hC.1 hC.2.1 dX11_pays_88 (by decide) ?_
        exact W_X11_pays_j107 hC N _ _ hk4 hk50 hf _ _ _ hR hS (lv_sub hl [1, 2, 3, 4, 5, 6, 0] rfl)
set_option maxRecDepth 20000 in
theorem W_X11_pays_l4 {G : XG} {l : Launch} {kp : Bool} {p : Program} {e : Env} {s : State} {m : MethodId} {args : Array Value} {below : List Frame} {meth : Method} {c : Code} (hC : xC G p s m args meth c cX11_pays 8 RX11 (some .boolean)) (N : Nat) {I : xTI} {r : Int32} {rL : xTL} : ∀ (n : Nat) (x1 : Int32) (x2 : Int32) (L : xTL) , xlp (F_X11_pays_b4 N I ) n (x1, x2, L) = some (r, rL) → ∀ (H : Heap) (locs : List Loc) (ls : Array Slot), xRep G kp I L H → xS G s.heap H locs → lv_has ls 8 [(0, .ref (xz G + 57)), (1, .int x1), (2, .int x2)] → W p l e (xrm 1 24) s m args below meth c H locs 0 0 (xMQ G kp below args s (some (.int r)) I rL) (F0 m 4 ls []) := by
  intro n
  induction n with
  | zero =>
    intro x1 x2 L hf
    cases hf
  | succ n hk4 =>
    intro x1 x2 L hf H locs ls hR hS hl
    rw [xlp_s, E_X11_pays_b4] at hf
    unfold F_X11_pays_c4 at hf
    refine lv_iload_n hC.1 hC.2.1 dX11_pays_4 rfl (lv_at hl 2 rfl) ?_
    refine lv_aload_n hC.1 hC.2.1 dX11_pays_5 rfl (lv_at hl 0 rfl) ?_
    refine x_get (v := .ref (xz G + 58)) hC xf_X11_14 (xce_57 G kp _ _) rfl hR dX11_pays_6 ?_
    refine lv_iconst (v := 1) hC.1 hC.2.1 dX11_pays_9 (by decide) ?_
    refine x_ial hC (xce_58 G kp _ _) hR dX11_pays_10 hf (fun v1 hf => ?_)
    refine x_ic_ge (tgt := 209) hC dX11_pays_11 (by decide) hf (fun hf => ?_) (fun hf => ?_)
    · refine lv_iconst (v := 0) hC.1 hC.2.1 dX11_pays_209 (by decide) ?_
      refine lv_istore_n (lv' := [(2, .int 0), (0, .ref (xz G + 57)), (1, .int x1)]) hC.1 hC.2.1 dX11_pays_210 rfl hl (Nat.le_of_ble_eq_true rfl) rfl (fun ls hl => ?_)
      exact W_X11_pays_l211 hC N _ 0 L hf _ _ _ hR hS (lv_sub hl [1, 2, 0] rfl)
    · refine lv_aload_n hC.1 hC.2.1 dX11_pays_14 rfl (lv_at hl 0 rfl) ?_
      refine x_get (v := .ref (xz G + 59)) hC xf_X11_18 (xce_57 G kp _ _) rfl hR dX11_pays_15 ?_
      refine lv_iconst (v := 0) hC.1 hC.2.1 dX11_pays_18 (by decide) ?_
      refine lv_iload_n hC.1 hC.2.1 dX11_pays_19 rfl (lv_at hl 2 rfl) ?_
      refine lv_iadd hC.1 hC.2.1 dX11_pays_20 ?_
      refine x_lal hC (xce_59 G kp _ _) hR dX11_pays_21 hf (fun v2 hf => ?_)
      refine lv_aload_n hC.1 hC.2.1 dX11_pays_22 rfl (lv_at hl 0 rfl) ?_
      refine lv_iload_n hC.1 hC.2.1 dX11_pays_23 rfl (lv_at hl 2 rfl) ?_
      refine x_cvl00 (rest := [.long v2]) hC xy_X11_gotten tw_1666 hf (fun _ h => M_X11_gotten G l kp N h) ⟨Nat.le_of_ble_eq_true rfl, Nat.le_of_ble_eq_true rfl⟩ (xce_57 G kp _ _) rfl rfl rfl (Nat.le_of_ble_eq_true rfl) hl.1 hR hS dX11_pays_24 ⟨Nat.le_refl _, Nat.le_refl _⟩ (fun v3 hf H locs hR hS => ?_)
      refine lv_ladd hC.1 hC.2.1 dX11_pays_27 ?_
      refine x_lstn (lv' := fun y4 => [(3, .long y4), (0, .ref (xz G + 57)), (1, .int x1), (2, .int x2)]) hC hl dX11_pays_28 rfl (Nat.le_of_ble_eq_true rfl) hf (fun _ => rfl) (fun y4 hf ls hl => ?_)
      refine W.eq (g2 := F0 m 29 ls []) rfl ?_
      refine lv_lload_n hC.1 hC.2.1 dX11_pays_29 rfl (lv_at hl 0 rfl) ?_
      refine lv_aload_n hC.1 hC.2.1 dX11_pays_30 rfl (lv_at hl 1 rfl) ?_
      refine x_get (v := .ref (xz G + 72)) hC xf_X11_58 (xce_57 G kp _ _) rfl hR dX11_pays_31 ?_
      refine lv_iload_n hC.1 hC.2.1 dX11_pays_34 rfl (lv_at hl 3 rfl) ?_
      refine x_lal hC (xce_72 G kp _ _) hR dX11_pays_35 hf (fun v5 hf => ?_)
      refine W.lcmp hC.1 hC.2.1 dX11_pays_36 ?_
      refine x_if_lt (tgt := 44) hC dX11_pays_37 (by decide) hf (fun hf => ?_) (fun hf => ?_)
      · refine lv_iconst (v := 0) hC.1 hC.2.1 dX11_pays_44 (by decide) ?_
        refine lv_istore (lv' := [(5, .int 0), (3, .long y4), (0, .ref (xz G + 57)), (1, .int x1), (2, .int x2)]) hC.1 hC.2.1 dX11_pays_45 hl (Nat.le_of_ble_eq_true rfl) rfl (fun ls hl => ?_)
        refine lv_iconst (v := 0) hC.1 hC.2.1 dX11_pays_47 (by decide) ?_
        refine lv_istore (lv' := [(6, .int 0), (5, .int 0), (3, .long y4), (0, .ref (xz G + 57)), (1, .int x1), (2, .int x2)]) hC.1 hC.2.1 dX11_pays_48 hl (Nat.le_of_ble_eq_true rfl) rfl (fun ls hl => ?_)
        exact W_X11_pays_l50 hC N _ hk4 _ x1 0 L hf _ _ _ hR hS (lv_sub hl [3, 4, 5, 2, 1, 0] rfl)
      · refine lv_iconst (v := 1) hC.1 hC.2.1 dX11_pays_40 (by decide) ?_
        refine lv_goto (tgt := 45) hC.1 hC.2.1 dX11_pays_41 (by decide) ?_
        refine lv_istore (lv' := [(5, .int 1), (3, .long y4), (0, .ref (xz G + 57)), (1, .int x1), (2, .int x2)]) hC.1 hC.2.1 dX11_pays_45 hl (Nat.le_of_ble_eq_true rfl) rfl (fun ls hl => ?_)
        refine lv_iconst (v := 0) hC.1 hC.2.1 dX11_pays_47 (by decide) ?_
        refine lv_istore (lv' := [(6, .int 0), (5, .int 1), (3, .long y4), (0, .ref (xz G + 57)), (1, .int x1), (2, .int x2)]) hC.1 hC.2.1 dX11_pays_48 hl (Nat.le_of_ble_eq_true rfl) rfl (fun ls hl => ?_)
        exact W_X11_pays_l50 hC N _ hk4 _ x1 0 L hf _ _ _ hR hS (lv_sub hl [3, 4, 5, 2, 1, 0] rfl)
set_option maxRecDepth 20000 in
theorem M_X11_pays (G : XG) (l : Launch) (kp : Bool) (N : Nat) {I : xTI} {L : xTL} {r : Int32} {rL : xTL} (hf : F_X11_pays N I L = some (r, rL)) : xMet G l yX11_pays cX11_pays 8 (some .boolean) 1 24 kp [.ref (xz G + 57)] I L (some (.int r)) I rL := by
  refine xMet.ofW (by decide +kernel) (Nat.le_of_ble_eq_true rfl) ?_
  intro p e s m args below meth c hC H locs ls hR hS hl
  replace hC : xC G p s m args meth c cX11_pays 8 RX11 (some .boolean) := hC
  replace hl : lv_has ls 8 [(0, .ref (xz G + 57))] := hl
  unfold F_X11_pays at hf
  refine lv_iconst (v := 0) hC.1 hC.2.1 dX11_pays_0 (by decide) ?_
  refine lv_istore_n (lv' := [(1, .int 0), (0, .ref (xz G + 57))]) hC.1 hC.2.1 dX11_pays_1 rfl hl (Nat.le_of_ble_eq_true rfl) rfl (fun ls hl => ?_)
  refine lv_iconst (v := 0) hC.1 hC.2.1 dX11_pays_2 (by decide) ?_
  refine lv_istore_n (lv' := [(2, .int 0), (1, .int 0), (0, .ref (xz G + 57))]) hC.1 hC.2.1 dX11_pays_3 rfl hl (Nat.le_of_ble_eq_true rfl) rfl (fun ls hl => ?_)
  exact W_X11_pays_l4 hC N _ 0 0 L hf _ _ _ hR hS (lv_sub hl [2, 1, 0] rfl)
set_option maxRecDepth 20000 in
theorem M_X11_falls (G : XG) (l : Launch) (kp : Bool) {I : xTI} {L : xTL} {x1 : Int32} {rI : xTI} (hf : F_X11_falls I x1 = some rI) : xMet G l yX11_falls cX11_falls 2 none 0 0 kp [.ref (xz G + 57), .int x1] I L none rI L := by
  refine xMet.ofW (by decide +kernel) (Nat.le_of_ble_eq_true rfl) ?_
  intro p e s m args below meth c hC H locs ls hR hS hl
  replace hC : xC G p s m args meth c cX11_falls 2 RX11 none := hC
  replace hl : lv_has ls 2 [(0, .ref (xz G + 57)), (1, .int x1)] := hl
  unfold F_X11_falls at hf
  refine lv_aload_n hC.1 hC.2.1 dX11_falls_0 rfl (lv_at hl 0 rfl) ?_
  refine x_get (v := .ref (xz G + 58)) hC xf_X11_14 (xce_57 G kp _ _) rfl hR dX11_falls_1 ?_
  refine lv_bipush (v := 16) hC.1 hC.2.1 dX11_falls_4 (by decide) ?_
  refine lv_iconst (v := 4) hC.1 hC.2.1 dX11_falls_6 (by decide) ?_
  refine lv_iload_n hC.1 hC.2.1 dX11_falls_7 rfl (lv_at hl 1 rfl) ?_
  refine lv_imul hC.1 hC.2.1 dX11_falls_8 ?_
  refine lv_iadd hC.1 hC.2.1 dX11_falls_9 ?_
  refine lv_iconst (v := 0) hC.1 hC.2.1 dX11_falls_10 (by decide) ?_
  refine x_ias hC (fun f => (xce_58 G kp f _)) hR hS dX11_falls_11 hf (fun I1 hf H locs hR hS => ?_)
  refine lv_aload_n hC.1 hC.2.1 dX11_falls_12 rfl (lv_at hl 0 rfl) ?_
  refine x_get (v := .ref (xz G + 58)) hC xf_X11_14 (xce_57 G kp _ _) rfl hR dX11_falls_13 ?_
  refine W.eq (g2 := F0 m 16 ls [.ref (xz G + 58)]) rfl ?_
  refine lv_bipush (v := 16) hC.1 hC.2.1 dX11_falls_16 (by decide) ?_
  refine lv_iconst (v := 4) hC.1 hC.2.1 dX11_falls_18 (by decide) ?_
  refine lv_iload_n hC.1 hC.2.1 dX11_falls_19 rfl (lv_at hl 1 rfl) ?_
  refine lv_imul hC.1 hC.2.1 dX11_falls_20 ?_
  refine lv_iadd hC.1 hC.2.1 dX11_falls_21 ?_
  refine lv_iconst (v := 2) hC.1 hC.2.1 dX11_falls_22 (by decide) ?_
  refine lv_iadd hC.1 hC.2.1 dX11_falls_23 ?_
  refine lv_aload_n hC.1 hC.2.1 dX11_falls_24 rfl (lv_at hl 0 rfl) ?_
  refine x_get (v := .ref (xz G + 58)) hC xf_X11_14 (xce_57 G kp _ _) rfl hR dX11_falls_25 ?_
  refine lv_iconst (v := 0) hC.1 hC.2.1 dX11_falls_28 (by decide) ?_
  refine x_ial hC (xce_58 G kp _ _) hR dX11_falls_29 hf (fun v2 hf => ?_)
  refine x_ias hC (fun f => (xce_58 G kp f _)) hR hS dX11_falls_30 hf (fun I3 hf H locs hR hS => ?_)
  refine W.eq (g2 := F0 m 31 ls []) rfl ?_
  have h9 := Option.some.inj hf
  subst h9
  exact x_vret hC hR hS dX11_falls_31
set_option maxRecDepth 20000 in
theorem W_X11_voids_j133 {G : XG} {l : Launch} {kp : Bool} {p : Program} {e : Env} {s : State} {m : MethodId} {args : Array Value} {below : List Frame} {meth : Method} {c : Code} (hC : xC G p s m args meth c cX11_voids 8 RX11 none) {I : xTI} {L : xTL} {rI : xTI} {rL : xTL} {x5 : Int32} {t0 : Int64} {t1 : Int32} (hf : F_X11_voids_j133 I L x5 t0 t1 = some (rI, rL)) : ∀ (H : Heap) (locs : List Loc) (ls : Array Slot), xRep G kp I L H → xS G s.heap H locs → lv_has ls 8 [(0, .ref (xz G + 57)), (5, .int x5)] → W p l e (xrm 0 0) s m args below meth c H locs 0 0 (xMQ G kp below args s none rI rL) (F0 m 133 ls [.int t1, .long t0]) := by
  intro H locs ls hR hS hl
  unfold F_X11_voids_j133 at hf
  refine lv_i2l hC.1 hC.2.1 dX11_voids_133 rfl ?_
  refine lv_lmul hC.1 hC.2.1 dX11_voids_134 ?_
  refine x_lst (lv' := fun y1 => [(6, .long y1), (0, .ref (xz G + 57)), (5, .int x5)]) hC hl dX11_voids_135 (Nat.le_of_ble_eq_true rfl) hf (fun _ => rfl) (fun y1 hf ls hl => ?_)
  refine lv_lload hC.1 hC.2.1 dX11_voids_137 (lv_at hl 0 rfl) ?_
  refine lv_lconst (v := 0) hC.1 hC.2.1 dX11_voids_139 (by decide) ?_
  refine W.lcmp hC.1 hC.2.1 dX11_voids_140 ?_
  refine x_if_le (tgt := 159) hC dX11_voids_141 (by decide) hf (fun hf => ?_) (fun hf => ?_)
  · obtain ⟨h91, h92⟩ := Prod.mk.inj (Option.some.inj hf)
    subst h91
    subst h92
    exact x_vret hC hR hS dX11_voids_159
  · refine lv_aload_n hC.1 hC.2.1 dX11_voids_144 rfl (lv_at hl 1 rfl) ?_
    refine x_get (v := .ref (xz G + 59)) hC xf_X11_18 (xce_57 G kp _ _) rfl hR dX11_voids_145 ?_
    refine lv_bipush (v := 12) hC.1 hC.2.1 dX11_voids_148 (by decide) ?_
    refine lv_iload hC.1 hC.2.1 dX11_voids_150 (lv_at hl 2 rfl) ?_
    refine lv_iadd hC.1 hC.2.1 dX11_voids_152 ?_
    refine lv_dup2_11 hC.1 hC.2.1 dX11_voids_153 rfl rfl ?_
    refine x_lal hC (xce_59 G kp _ _) hR dX11_voids_154 hf (fun v2 hf => ?_)
    refine lv_lload hC.1 hC.2.1 dX11_voids_155 (lv_at hl 0 rfl) ?_
    refine lv_ladd hC.1 hC.2.1 dX11_voids_157 ?_
    refine x_las hC (fun f => (xce_59 G kp _ f)) hR hS dX11_voids_158 hf (fun L3 hf H locs hR hS => ?_)
    obtain ⟨h91, h92⟩ := Prod.mk.inj (Option.some.inj hf)
    subst h91
    subst h92
    exact x_vret hC hR hS dX11_voids_159
set_option maxRecDepth 20000 in
theorem W_X11_voids_j62 {G : XG} {l : Launch} {kp : Bool} {p : Program} {e : Env} {s : State} {m : MethodId} {args : Array Value} {below : List Frame} {meth : Method} {c : Code} (hC : xC G p s m args meth c cX11_voids 8 RX11 none) {I : xTI} {L : xTL} {rI : xTI} {rL : xTL} {x3 : Int32} {x4 : Int32} {t0 : Int32} (hf : F_X11_voids_j62 I L x3 x4 t0 = some (rI, rL)) : ∀ (H : Heap) (locs : List Loc) (ls : Array Slot), xRep G kp I L H → xS G s.heap H locs → lv_has ls 8 [(0, .ref (xz G + 57)), (3, .int x3), (4, .int x4)] → W p l e (xrm 0 0) s m args below meth c H locs 0 0 (xMQ G kp below args s none rI rL) (F0 m 62 ls [.int t0]) := by
  intro H locs ls hR hS hl
  unfold F_X11_voids_j62 at hf
  refine lv_istore (lv' := [(5, .int t0), (0, .ref (xz G + 57)), (3, .int x3), (4, .int x4)]) hC.1 hC.2.1 dX11_voids_62 hl (Nat.le_of_ble_eq_true rfl) rfl (fun ls hl => ?_)
  refine lv_aload_n hC.1 hC.2.1 dX11_voids_64 rfl (lv_at hl 1 rfl) ?_
  refine x_get (v := .ref (xz G + 58)) hC xf_X11_14 (xce_57 G kp _ _) rfl hR dX11_voids_65 ?_
  refine lv_iload_n hC.1 hC.2.1 dX11_voids_68 rfl (lv_at hl 2 rfl) ?_
  refine lv_iconst (v := 4) hC.1 hC.2.1 dX11_voids_69 (by decide) ?_
  refine lv_iadd hC.1 hC.2.1 dX11_voids_70 ?_
  refine x_ial hC (xce_58 G kp _ _) hR dX11_voids_71 hf (fun v1 hf => ?_)
  refine lv_i2l hC.1 hC.2.1 dX11_voids_72 rfl ?_
  refine lv_iload hC.1 hC.2.1 dX11_voids_73 (lv_at hl 3 rfl) ?_
  refine x_if_eq (tgt := 107) hC dX11_voids_75 (by decide) hf (fun hf => ?_) (fun hf => ?_)
  · refine lv_aload_n hC.1 hC.2.1 dX11_voids_107 rfl (lv_at hl 1 rfl) ?_
    refine x_get (v := .ref (xz G + 58)) hC xf_X11_14 (xce_57 G kp _ _) rfl hR dX11_voids_108 ?_
    refine lv_iload_n hC.1 hC.2.1 dX11_voids_111 rfl (lv_at hl 2 rfl) ?_
    refine lv_iconst (v := 5) hC.1 hC.2.1 dX11_voids_112 (by decide) ?_
    refine lv_iadd hC.1 hC.2.1 dX11_voids_113 ?_
    refine x_ial hC (xce_58 G kp _ _) hR dX11_voids_114 hf (fun v2 hf => ?_)
    refine lv_aload_n hC.1 hC.2.1 dX11_voids_115 rfl (lv_at hl 1 rfl) ?_
    refine x_get (v := .ref (xz G + 58)) hC xf_X11_14 (xce_57 G kp _ _) rfl hR dX11_voids_116 ?_
    refine lv_sipush (v := 184) hC.1 hC.2.1 dX11_voids_119 (by decide) ?_
    refine lv_aload_n hC.1 hC.2.1 dX11_voids_122 rfl (lv_at hl 1 rfl) ?_
    refine x_get (v := .ref (xz G + 58)) hC xf_X11_14 (xce_57 G kp _ _) rfl hR dX11_voids_123 ?_
    refine W.eq (g2 := F0 m 126 ls [.ref (xz G + 58), .int 184, .ref (xz G + 58), .int v2, .long (v1.toInt64)]) rfl ?_
    refine lv_iload_n hC.1 hC.2.1 dX11_voids_126 rfl (lv_at hl 2 rfl) ?_
    refine lv_iconst (v := 3) hC.1 hC.2.1 dX11_voids_127 (by decide) ?_
    refine lv_iadd hC.1 hC.2.1 dX11_voids_128 ?_
    refine x_ial hC (xce_58 G kp _ _) hR dX11_voids_129 hf (fun v3 hf => ?_)
    refine lv_iadd hC.1 hC.2.1 dX11_voids_130 ?_
    refine x_ial hC (xce_58 G kp _ _) hR dX11_voids_131 hf (fun v4 hf => ?_)
    refine lv_isub hC.1 hC.2.1 dX11_voids_132 ?_
    exact W_X11_voids_j133 hC hf _ _ _ hR hS (lv_sub hl [1, 0] rfl)
  · refine lv_aload_n hC.1 hC.2.1 dX11_voids_78 rfl (lv_at hl 1 rfl) ?_
    refine x_get (v := .ref (xz G + 58)) hC xf_X11_14 (xce_57 G kp _ _) rfl hR dX11_voids_79 ?_
    refine lv_sipush (v := 184) hC.1 hC.2.1 dX11_voids_82 (by decide) ?_
    refine lv_aload_n hC.1 hC.2.1 dX11_voids_85 rfl (lv_at hl 1 rfl) ?_
    refine x_get (v := .ref (xz G + 58)) hC xf_X11_14 (xce_57 G kp _ _) rfl hR dX11_voids_86 ?_
    refine lv_iload_n hC.1 hC.2.1 dX11_voids_89 rfl (lv_at hl 2 rfl) ?_
    refine lv_iconst (v := 3) hC.1 hC.2.1 dX11_voids_90 (by decide) ?_
    refine lv_iadd hC.1 hC.2.1 dX11_voids_91 ?_
    refine x_ial hC (xce_58 G kp _ _) hR dX11_voids_92 hf (fun v5 hf => ?_)
    refine lv_iadd hC.1 hC.2.1 dX11_voids_93 ?_
    refine x_ial hC (xce_58 G kp _ _) hR dX11_voids_94 hf (fun v6 hf => ?_)
    refine W.eq (g2 := F0 m 95 ls [.int v6, .long (v1.toInt64)]) rfl ?_
    refine lv_aload_n hC.1 hC.2.1 dX11_voids_95 rfl (lv_at hl 1 rfl) ?_
    refine x_get (v := .ref (xz G + 58)) hC xf_X11_14 (xce_57 G kp _ _) rfl hR dX11_voids_96 ?_
    refine lv_iload_n hC.1 hC.2.1 dX11_voids_99 rfl (lv_at hl 2 rfl) ?_
    refine lv_iconst (v := 5) hC.1 hC.2.1 dX11_voids_100 (by decide) ?_
    refine lv_iadd hC.1 hC.2.1 dX11_voids_101 ?_
    refine x_ial hC (xce_58 G kp _ _) hR dX11_voids_102 hf (fun v7 hf => ?_)
    refine lv_isub hC.1 hC.2.1 dX11_voids_103 ?_
    refine lv_goto (tgt := 133) hC.1 hC.2.1 dX11_voids_104 (by decide) ?_
    exact W_X11_voids_j133 hC hf _ _ _ hR hS (lv_sub hl [1, 0] rfl)
set_option maxRecDepth 20000 in
theorem W_X11_voids_j36 {G : XG} {l : Launch} {kp : Bool} {p : Program} {e : Env} {s : State} {m : MethodId} {args : Array Value} {below : List Frame} {meth : Method} {c : Code} (hC : xC G p s m args meth c cX11_voids 8 RX11 none) {I : xTI} {L : xTL} {rI : xTI} {rL : xTL} {x3 : Int32} {t0 : Int32} (hf : F_X11_voids_j36 I L x3 t0 = some (rI, rL)) : ∀ (H : Heap) (locs : List Loc) (ls : Array Slot), xRep G kp I L H → xS G s.heap H locs → lv_has ls 8 [(0, .ref (xz G + 57)), (3, .int x3)] → W p l e (xrm 0 0) s m args below meth c H locs 0 0 (xMQ G kp below args s none rI rL) (F0 m 36 ls [.int t0]) := by
  intro H locs ls hR hS hl
  unfold F_X11_voids_j36 at hf
  refine lv_istore (lv' := [(4, .int t0), (0, .ref (xz G + 57)), (3, .int x3)]) hC.1 hC.2.1 dX11_voids_36 hl (Nat.le_of_ble_eq_true rfl) rfl (fun ls hl => ?_)
  refine lv_iload hC.1 hC.2.1 dX11_voids_38 (lv_at hl 0 rfl) ?_
  refine x_if_eq (tgt := 54) hC dX11_voids_40 (by decide) hf (fun hf => ?_) (fun hf => ?_)
  · refine lv_aload_n hC.1 hC.2.1 dX11_voids_54 rfl (lv_at hl 1 rfl) ?_
    refine x_get (v := .ref (xz G + 58)) hC xf_X11_14 (xce_57 G kp _ _) rfl hR dX11_voids_55 ?_
    refine lv_iload_n hC.1 hC.2.1 dX11_voids_58 rfl (lv_at hl 2 rfl) ?_
    refine lv_iconst (v := 1) hC.1 hC.2.1 dX11_voids_59 (by decide) ?_
    refine lv_iadd hC.1 hC.2.1 dX11_voids_60 ?_
    refine x_ial hC (xce_58 G kp _ _) hR dX11_voids_61 hf (fun v1 hf => ?_)
    exact W_X11_voids_j62 hC hf _ _ _ hR hS (lv_sub hl [1, 2, 0] rfl)
  · refine lv_aload_n hC.1 hC.2.1 dX11_voids_43 rfl (lv_at hl 1 rfl) ?_
    refine x_get (v := .ref (xz G + 58)) hC xf_X11_14 (xce_57 G kp _ _) rfl hR dX11_voids_44 ?_
    refine lv_iload_n hC.1 hC.2.1 dX11_voids_47 rfl (lv_at hl 2 rfl) ?_
    refine lv_iconst (v := 2) hC.1 hC.2.1 dX11_voids_48 (by decide) ?_
    refine lv_iadd hC.1 hC.2.1 dX11_voids_49 ?_
    refine x_ial hC (xce_58 G kp _ _) hR dX11_voids_50 hf (fun v2 hf => ?_)
    refine lv_goto (tgt := 62) hC.1 hC.2.1 dX11_voids_51 (by decide) ?_
    exact W_X11_voids_j62 hC hf _ _ _ hR hS (lv_sub hl [1, 2, 0] rfl)
set_option maxRecDepth 20000 in
theorem M_X11_voids (G : XG) (l : Launch) (kp : Bool) {I : xTI} {L : xTL} {x1 : Int32} {x2 : Int32} {rI : xTI} {rL : xTL} (hf : F_X11_voids I L x1 x2 = some (rI, rL)) : xMet G l yX11_voids cX11_voids 8 none 0 0 kp [.ref (xz G + 57), .int x1, .int x2] I L none rI rL := by
  refine xMet.ofW (by decide +kernel) (Nat.le_of_ble_eq_true rfl) ?_
  intro p e s m args below meth c hC H locs ls hR hS hl
  replace hC : xC G p s m args meth c cX11_voids 8 RX11 none := hC
  replace hl : lv_has ls 8 [(0, .ref (xz G + 57)), (1, .int x1), (2, .int x2)] := hl
  unfold F_X11_voids at hf
  refine lv_sipush (v := 192) hC.1 hC.2.1 dX11_voids_0 (by decide) ?_
  refine lv_bipush (v := 12) hC.1 hC.2.1 dX11_voids_3 (by decide) ?_
  refine lv_iload_n hC.1 hC.2.1 dX11_voids_5 rfl (lv_at hl 1 rfl) ?_
  refine lv_imul hC.1 hC.2.1 dX11_voids_6 ?_
  refine lv_iadd hC.1 hC.2.1 dX11_voids_7 ?_
  refine x_istn (lv' := fun y1 => [(3, .int y1), (0, .ref (xz G + 57)), (1, .int x1), (2, .int x2)]) hC hl dX11_voids_8 rfl (Nat.le_of_ble_eq_true rfl) hf (fun _ => rfl) (fun y1 hf ls hl => ?_)
  refine lv_aload_n hC.1 hC.2.1 dX11_voids_9 rfl (lv_at hl 1 rfl) ?_
  refine x_get (v := .ref (xz G + 58)) hC xf_X11_14 (xce_57 G kp _ _) rfl hR dX11_voids_10 ?_
  refine lv_iload_n hC.1 hC.2.1 dX11_voids_13 rfl (lv_at hl 0 rfl) ?_
  refine lv_bipush (v := 8) hC.1 hC.2.1 dX11_voids_14 (by decide) ?_
  refine lv_iadd hC.1 hC.2.1 dX11_voids_16 ?_
  refine W.eq (g2 := F0 m 17 ls [.int (y1 + 8), .ref (xz G + 58)]) rfl ?_
  refine lv_iconst (v := 3) hC.1 hC.2.1 dX11_voids_17 (by decide) ?_
  refine x_ias hC (fun f => (xce_58 G kp f _)) hR hS dX11_voids_18 hf (fun I2 hf H locs hR hS => ?_)
  refine lv_aload_n hC.1 hC.2.1 dX11_voids_19 rfl (lv_at hl 1 rfl) ?_
  refine x_get (v := .ref (xz G + 58)) hC xf_X11_14 (xce_57 G kp _ _) rfl hR dX11_voids_20 ?_
  refine lv_iload_n hC.1 hC.2.1 dX11_voids_23 rfl (lv_at hl 0 rfl) ?_
  refine lv_iconst (v := 1) hC.1 hC.2.1 dX11_voids_24 (by decide) ?_
  refine lv_iadd hC.1 hC.2.1 dX11_voids_25 ?_
  refine x_ial hC (xce_58 G kp _ _) hR dX11_voids_26 hf (fun v3 hf => ?_)
  refine lv_iload_n hC.1 hC.2.1 dX11_voids_27 rfl (lv_at hl 3 rfl) ?_
  refine x_ic_ne (tgt := 35) hC dX11_voids_28 (by decide) hf (fun hf => ?_) (fun hf => ?_)
  · refine lv_iconst (v := 0) hC.1 hC.2.1 dX11_voids_35 (by decide) ?_
    exact W_X11_voids_j36 hC hf _ _ _ hR hS (lv_sub hl [1, 0] rfl)
  · refine lv_iconst (v := 1) hC.1 hC.2.1 dX11_voids_31 (by decide) ?_
    refine lv_goto (tgt := 36) hC.1 hC.2.1 dX11_voids_32 (by decide) ?_
    exact W_X11_voids_j36 hC hf _ _ _ hR hS (lv_sub hl [1, 0] rfl)
set_option maxRecDepth 20000 in
theorem W_X11_settles_j628 {G : XG} {l : Launch} {kp : Bool} {p : Program} {e : Env} {s : State} {m : MethodId} {args : Array Value} {below : List Frame} {meth : Method} {c : Code} (hC : xC G p s m args meth c cX11_settles 7 RX11 none) (N : Nat) {I : xTI} {L : xTL} {rI : xTI} {rL : xTL} {x3 : Int32} (k582 : Int32 × xTI → Option (xTI × xTL)) (hk582 : ∀ (x3 : Int32) (I : xTI) , k582 (x3, I) = some (rI, rL) → ∀ (H : Heap) (locs : List Loc) (ls : Array Slot), xRep G kp I L H → xS G s.heap H locs → lv_has ls 7 [(0, .ref (xz G + 57)), (3, .int x3)] → W p l e (xrm 88 2109) s m args below meth c H locs 0 0 (xMQ G kp below args s none rI rL) (F0 m 582 ls [])) (hf : F_X11_settles_j628 k582 N I L x3 = some (rI, rL)) : ∀ (H : Heap) (locs : List Loc) (ls : Array Slot), xRep G kp I L H → xS G s.heap H locs → lv_has ls 7 [(0, .ref (xz G + 57)), (3, .int x3)] → W p l e (xrm 88 2109) s m args below meth c H locs 0 0 (xMQ G kp below args s none rI rL) (F0 m 628 ls []) := by
  intro H locs ls hR hS hl
  unfold F_X11_settles_j628 at hf
  refine lv_aload_n hC.1 hC.2.1 dX11_settles_628 rfl (lv_at hl 0 rfl) ?_
  refine x_get (v := .ref (xz G + 58)) hC xf_X11_14 (xce_57 G kp _ _) rfl hR dX11_settles_629 ?_
  refine lv_sipush (v := 912) hC.1 hC.2.1 dX11_settles_632 (by decide) ?_
  refine lv_bipush (v := 7) hC.1 hC.2.1 dX11_settles_635 (by decide) ?_
  refine lv_iload_n hC.1 hC.2.1 dX11_settles_637 rfl (lv_at hl 1 rfl) ?_
  refine lv_imul hC.1 hC.2.1 dX11_settles_638 ?_
  refine lv_iadd hC.1 hC.2.1 dX11_settles_639 ?_
  refine lv_bipush (v := 6) hC.1 hC.2.1 dX11_settles_640 (by decide) ?_
  refine lv_iadd hC.1 hC.2.1 dX11_settles_642 ?_
  refine lv_iconst (v := 2) hC.1 hC.2.1 dX11_settles_643 (by decide) ?_
  refine x_ias hC (fun f => (xce_58 G kp f _)) hR hS dX11_settles_644 hf (fun I1 hf H locs hR hS => ?_)
  refine W.eq (g2 := F0 m 645 ls []) rfl ?_
  refine x_iinc (d := 1) (lv' := fun y2 => [(3, .int y2), (0, .ref (xz G + 57))]) (k := 1) hC hl dX11_settles_645 rfl (by decide) (Nat.le_of_ble_eq_true rfl) hf (fun _ => rfl) (fun y2 hf ls hl => ?_)
  refine lv_goto (tgt := 582) hC.1 hC.2.1 dX11_settles_648 (by decide) ?_
  exact hk582 y2 I1 hf _ _ _ hR hS (lv_sub hl [1, 0] rfl)
set_option maxRecDepth 20000 in
theorem W_X11_settles_l582 {G : XG} {l : Launch} {kp : Bool} {p : Program} {e : Env} {s : State} {m : MethodId} {args : Array Value} {below : List Frame} {meth : Method} {c : Code} (hC : xC G p s m args meth c cX11_settles 7 RX11 none) (N : Nat) {L : xTL} {rI : xTI} {rL : xTL} : ∀ (n : Nat) (x3 : Int32) (I : xTI) , xlp (F_X11_settles_b582 N L ) n (x3, I) = some (rI, rL) → ∀ (H : Heap) (locs : List Loc) (ls : Array Slot), xRep G kp I L H → xS G s.heap H locs → lv_has ls 7 [(0, .ref (xz G + 57)), (3, .int x3)] → W p l e (xrm 88 2109) s m args below meth c H locs 0 0 (xMQ G kp below args s none rI rL) (F0 m 582 ls []) := by
  intro n
  induction n with
  | zero =>
    intro x3 I hf
    cases hf
  | succ n hk582 =>
    intro x3 I hf H locs ls hR hS hl
    rw [xlp_s, E_X11_settles_b582] at hf
    unfold F_X11_settles_c582 at hf
    refine lv_iload_n hC.1 hC.2.1 dX11_settles_582 rfl (lv_at hl 1 rfl) ?_
    refine lv_aload_n hC.1 hC.2.1 dX11_settles_583 rfl (lv_at hl 0 rfl) ?_
    refine x_get (v := .ref (xz G + 58)) hC xf_X11_14 (xce_57 G kp _ _) rfl hR dX11_settles_584 ?_
    refine lv_iconst (v := 3) hC.1 hC.2.1 dX11_settles_587 (by decide) ?_
    refine x_ial hC (xce_58 G kp _ _) hR dX11_settles_588 hf (fun v1 hf => ?_)
    refine x_ic_ge (tgt := 651) hC dX11_settles_589 (by decide) hf (fun hf => ?_) (fun hf => ?_)
    · obtain ⟨h91, h92⟩ := Prod.mk.inj (Option.some.inj hf)
      subst h91
      subst h92
      exact x_vret hC hR hS dX11_settles_651
    · refine lv_aload_n hC.1 hC.2.1 dX11_settles_592 rfl (lv_at hl 0 rfl) ?_
      refine lv_iload_n hC.1 hC.2.1 dX11_settles_593 rfl (lv_at hl 1 rfl) ?_
      refine lv_bipush (v := 6) hC.1 hC.2.1 dX11_settles_594 (by decide) ?_
      refine x_cvi00 (rest := []) hC xy_X11_op tw_1575 hf (fun _ h => M_X11_op G l kp h) ⟨Nat.le_of_ble_eq_true rfl, Nat.le_of_ble_eq_true rfl⟩ (xce_57 G kp _ _) rfl rfl rfl (Nat.le_of_ble_eq_true rfl) hl.1 hR hS dX11_settles_596 ⟨Nat.le_refl _, Nat.le_refl _⟩ (fun v2 hf H locs hR hS => ?_)
      refine x_if_ne (tgt := 645) hC dX11_settles_599 (by decide) hf (fun hf => ?_) (fun hf => ?_)
      · refine x_iinc (d := 1) (lv' := fun y3 => [(3, .int y3), (0, .ref (xz G + 57))]) (k := 1) hC hl dX11_settles_645 rfl (by decide) (Nat.le_of_ble_eq_true rfl) hf (fun _ => rfl) (fun y3 hf ls hl => ?_)
        refine lv_goto (tgt := 582) hC.1 hC.2.1 dX11_settles_648 (by decide) ?_
        exact hk582 y3 I hf _ _ _ hR hS (lv_sub hl [1, 0] rfl)
      · refine lv_aload_n hC.1 hC.2.1 dX11_settles_602 rfl (lv_at hl 0 rfl) ?_
        refine lv_aload_n hC.1 hC.2.1 dX11_settles_603 rfl (lv_at hl 0 rfl) ?_
        refine lv_iload_n hC.1 hC.2.1 dX11_settles_604 rfl (lv_at hl 1 rfl) ?_
        refine lv_iconst (v := 0) hC.1 hC.2.1 dX11_settles_605 (by decide) ?_
        refine x_cvi00 (rest := [.ref (xz G + 57)]) hC xy_X11_op tw_1575 hf (fun _ h => M_X11_op G l kp h) ⟨Nat.le_of_ble_eq_true rfl, Nat.le_of_ble_eq_true rfl⟩ (xce_57 G kp _ _) rfl rfl rfl (Nat.le_of_ble_eq_true rfl) hl.1 hR hS dX11_settles_606 ⟨Nat.le_refl _, Nat.le_refl _⟩ (fun v4 hf H locs hR hS => ?_)
        refine x_cvi00 (rest := []) hC xy_X11_isUp tw_1363 hf (fun _ h => M_X11_isUp G l kp h) ⟨Nat.le_of_ble_eq_true rfl, Nat.le_of_ble_eq_true rfl⟩ (xce_57 G kp _ _) rfl rfl rfl (Nat.le_of_ble_eq_true rfl) hl.1 hR hS dX11_settles_609 ⟨Nat.le_refl _, Nat.le_refl _⟩ (fun v5 hf H locs hR hS => ?_)
        refine x_if_eq (tgt := 628) hC dX11_settles_612 (by decide) hf (fun hf => ?_) (fun hf => ?_)
        · exact W_X11_settles_j628 hC N _ hk582 hf _ _ _ hR hS (lv_sub hl [0, 1] rfl)
        · refine lv_aload_n hC.1 hC.2.1 dX11_settles_615 rfl (lv_at hl 0 rfl) ?_
          refine lv_aload_n hC.1 hC.2.1 dX11_settles_616 rfl (lv_at hl 0 rfl) ?_
          refine lv_iload_n hC.1 hC.2.1 dX11_settles_617 rfl (lv_at hl 1 rfl) ?_
          refine lv_iconst (v := 1) hC.1 hC.2.1 dX11_settles_618 (by decide) ?_
          refine x_cvi00 (rest := [.ref (xz G + 57)]) hC xy_X11_op tw_1575 hf (fun _ h => M_X11_op G l kp h) ⟨Nat.le_of_ble_eq_true rfl, Nat.le_of_ble_eq_true rfl⟩ (xce_57 G kp _ _) rfl rfl rfl (Nat.le_of_ble_eq_true rfl) hl.1 hR hS dX11_settles_619 ⟨Nat.le_refl _, Nat.le_refl _⟩ (fun v6 hf H locs hR hS => ?_)
          refine x_cvi00 (rest := []) hC xy_X11_isUp tw_1363 hf (fun _ h => M_X11_isUp G l kp h) ⟨Nat.le_of_ble_eq_true rfl, Nat.le_of_ble_eq_true rfl⟩ (xce_57 G kp _ _) rfl rfl rfl (Nat.le_of_ble_eq_true rfl) hl.1 hR hS dX11_settles_622 ⟨Nat.le_refl _, Nat.le_refl _⟩ (fun v7 hf H locs hR hS => ?_)
          refine x_if_ne (tgt := 645) hC dX11_settles_625 (by decide) hf (fun hf => ?_) (fun hf => ?_)
          · refine x_iinc (d := 1) (lv' := fun y8 => [(3, .int y8), (0, .ref (xz G + 57))]) (k := 1) hC hl dX11_settles_645 rfl (by decide) (Nat.le_of_ble_eq_true rfl) hf (fun _ => rfl) (fun y8 hf ls hl => ?_)
            refine lv_goto (tgt := 582) hC.1 hC.2.1 dX11_settles_648 (by decide) ?_
            exact hk582 y8 I hf _ _ _ hR hS (lv_sub hl [1, 0] rfl)
          · exact W_X11_settles_j628 hC N _ hk582 hf _ _ _ hR hS (lv_sub hl [0, 1] rfl)
set_option maxRecDepth 20000 in
theorem W_X11_settles_j561 {G : XG} {l : Launch} {kp : Bool} {p : Program} {e : Env} {s : State} {m : MethodId} {args : Array Value} {below : List Frame} {meth : Method} {c : Code} (hC : xC G p s m args meth c cX11_settles 7 RX11 none) (N : Nat) {I : xTI} {L : xTL} {rI : xTI} {rL : xTL} {x3 : Int32} {x4 : Int32} (k502 : Int32 × xTI × xTL → Option (xTI × xTL)) (k515 : Int32 × xTI × xTL → Option (xTI × xTL)) (hk502 : ∀ (x3 : Int32) (I : xTI) (L : xTL) , k502 (x3, I, L) = some (rI, rL) → ∀ (H : Heap) (locs : List Loc) (ls : Array Slot), xRep G kp I L H → xS G s.heap H locs → lv_has ls 7 [(0, .ref (xz G + 57)), (3, .int x3)] → W p l e (xrm 88 2109) s m args below meth c H locs 0 0 (xMQ G kp below args s none rI rL) (F0 m 502 ls [])) (hk515 : ∀ (x4 : Int32) (I : xTI) (L : xTL) , k515 (x4, I, L) = some (rI, rL) → ∀ (H : Heap) (locs : List Loc) (ls : Array Slot), xRep G kp I L H → xS G s.heap H locs → lv_has ls 7 [(0, .ref (xz G + 57)), (3, .int x3), (4, .int x4)] → W p l e (xrm 88 2109) s m args below meth c H locs 0 0 (xMQ G kp below args s none rI rL) (F0 m 515 ls [])) (hf : F_X11_settles_j561 k502 k515 N I L x3 x4 = some (rI, rL)) : ∀ (H : Heap) (locs : List Loc) (ls : Array Slot), xRep G kp I L H → xS G s.heap H locs → lv_has ls 7 [(0, .ref (xz G + 57)), (3, .int x3), (4, .int x4)] → W p l e (xrm 88 2109) s m args below meth c H locs 0 0 (xMQ G kp below args s none rI rL) (F0 m 561 ls []) := by
  intro H locs ls hR hS hl
  unfold F_X11_settles_j561 at hf
  refine lv_aload_n hC.1 hC.2.1 dX11_settles_561 rfl (lv_at hl 0 rfl) ?_
  refine lv_iload hC.1 hC.2.1 dX11_settles_562 (lv_at hl 2 rfl) ?_
  refine lv_iload_n hC.1 hC.2.1 dX11_settles_564 rfl (lv_at hl 1 rfl) ?_
  refine x_cvv11 (rest := []) hC xy_X11_voids tw_1674 hf (fun _ _ h => M_X11_voids G l kp h) ⟨Nat.le_of_ble_eq_true rfl, Nat.le_of_ble_eq_true rfl⟩ (xce_57 G kp _ _) rfl rfl rfl (Nat.le_of_ble_eq_true rfl) hl.1 hR hS dX11_settles_565 ⟨Nat.le_refl _, Nat.le_refl _⟩ (fun I1 L2 hf H locs hR hS => ?_)
  refine x_iinc (d := 1) (lv' := fun y3 => [(4, .int y3), (0, .ref (xz G + 57)), (3, .int x3)]) (k := 2) hC hl dX11_settles_568 rfl (by decide) (Nat.le_of_ble_eq_true rfl) hf (fun _ => rfl) (fun y3 hf ls hl => ?_)
  refine lv_goto (tgt := 515) hC.1 hC.2.1 dX11_settles_571 (by decide) ?_
  exact hk515 y3 I1 L2 hf _ _ _ hR hS (lv_sub hl [1, 2, 0] rfl)
set_option maxRecDepth 20000 in
theorem W_X11_settles_l515 {G : XG} {l : Launch} {kp : Bool} {p : Program} {e : Env} {s : State} {m : MethodId} {args : Array Value} {below : List Frame} {meth : Method} {c : Code} (hC : xC G p s m args meth c cX11_settles 7 RX11 none) (N : Nat) {rI : xTI} {rL : xTL} {x3 : Int32} (k502 : Int32 × xTI × xTL → Option (xTI × xTL)) (hk502 : ∀ (x3 : Int32) (I : xTI) (L : xTL) , k502 (x3, I, L) = some (rI, rL) → ∀ (H : Heap) (locs : List Loc) (ls : Array Slot), xRep G kp I L H → xS G s.heap H locs → lv_has ls 7 [(0, .ref (xz G + 57)), (3, .int x3)] → W p l e (xrm 88 2109) s m args below meth c H locs 0 0 (xMQ G kp below args s none rI rL) (F0 m 502 ls [])) : ∀ (n : Nat) (x4 : Int32) (I : xTI) (L : xTL) , xlp (F_X11_settles_b515 k502 N x3 ) n (x4, I, L) = some (rI, rL) → ∀ (H : Heap) (locs : List Loc) (ls : Array Slot), xRep G kp I L H → xS G s.heap H locs → lv_has ls 7 [(0, .ref (xz G + 57)), (3, .int x3), (4, .int x4)] → W p l e (xrm 88 2109) s m args below meth c H locs 0 0 (xMQ G kp below args s none rI rL) (F0 m 515 ls []) := by
  intro n
  induction n with
  | zero =>
    intro x4 I L hf
    cases hf
  | succ n hk515 =>
    intro x4 I L hf H locs ls hR hS hl
    rw [xlp_s, E_X11_settles_b515] at hf
    unfold F_X11_settles_c515 at hf
    refine lv_iload hC.1 hC.2.1 dX11_settles_515 (lv_at hl 2 rfl) ?_
    refine lv_bipush (v := 60) hC.1 hC.2.1 dX11_settles_517 (by decide) ?_
    refine x_ic_ge (tgt := 574) hC dX11_settles_519 (by decide) hf (fun hf => ?_) (fun hf => ?_)
    · refine x_iinc (d := 1) (lv' := fun y1 => [(3, .int y1), (0, .ref (xz G + 57)), (4, .int x4)]) (k := 1) hC hl dX11_settles_574 rfl (by decide) (Nat.le_of_ble_eq_true rfl) hf (fun _ => rfl) (fun y1 hf ls hl => ?_)
      refine lv_goto (tgt := 502) hC.1 hC.2.1 dX11_settles_577 (by decide) ?_
      exact hk502 y1 I L hf _ _ _ hR hS (lv_sub hl [1, 0] rfl)
    · refine lv_aload_n hC.1 hC.2.1 dX11_settles_522 rfl (lv_at hl 0 rfl) ?_
      refine lv_iload_n hC.1 hC.2.1 dX11_settles_523 rfl (lv_at hl 1 rfl) ?_
      refine x_cvi00 (rest := []) hC xy_X11_isUp tw_1363 hf (fun _ h => M_X11_isUp G l kp h) ⟨Nat.le_of_ble_eq_true rfl, Nat.le_of_ble_eq_true rfl⟩ (xce_57 G kp _ _) rfl rfl rfl (Nat.le_of_ble_eq_true rfl) hl.1 hR hS dX11_settles_524 ⟨Nat.le_refl _, Nat.le_refl _⟩ (fun v2 hf H locs hR hS => ?_)
      refine x_if_ne (tgt := 574) hC dX11_settles_527 (by decide) hf (fun hf => ?_) (fun hf => ?_)
      · refine x_iinc (d := 1) (lv' := fun y3 => [(3, .int y3), (0, .ref (xz G + 57)), (4, .int x4)]) (k := 1) hC hl dX11_settles_574 rfl (by decide) (Nat.le_of_ble_eq_true rfl) hf (fun _ => rfl) (fun y3 hf ls hl => ?_)
        refine lv_goto (tgt := 502) hC.1 hC.2.1 dX11_settles_577 (by decide) ?_
        exact hk502 y3 I L hf _ _ _ hR hS (lv_sub hl [1, 0] rfl)
      · refine lv_aload_n hC.1 hC.2.1 dX11_settles_530 rfl (lv_at hl 0 rfl) ?_
        refine lv_iload hC.1 hC.2.1 dX11_settles_531 (lv_at hl 2 rfl) ?_
        refine x_cvi00 (rest := []) hC xy_X11_isLive tw_1379 hf (fun _ h => M_X11_isLive G l kp h) ⟨Nat.le_of_ble_eq_true rfl, Nat.le_of_ble_eq_true rfl⟩ (xce_57 G kp _ _) rfl rfl rfl (Nat.le_of_ble_eq_true rfl) hl.1 hR hS dX11_settles_533 ⟨Nat.le_refl _, Nat.le_refl _⟩ (fun v4 hf H locs hR hS => ?_)
        refine x_if_eq (tgt := 568) hC dX11_settles_536 (by decide) hf (fun hf => ?_) (fun hf => ?_)
        · refine x_iinc (d := 1) (lv' := fun y5 => [(4, .int y5), (0, .ref (xz G + 57)), (3, .int x3)]) (k := 2) hC hl dX11_settles_568 rfl (by decide) (Nat.le_of_ble_eq_true rfl) hf (fun _ => rfl) (fun y5 hf ls hl => ?_)
          refine lv_goto (tgt := 515) hC.1 hC.2.1 dX11_settles_571 (by decide) ?_
          exact hk515 y5 I L hf _ _ _ hR hS (lv_sub hl [1, 2, 0] rfl)
        · refine lv_aload_n hC.1 hC.2.1 dX11_settles_539 rfl (lv_at hl 0 rfl) ?_
          refine lv_iload hC.1 hC.2.1 dX11_settles_540 (lv_at hl 2 rfl) ?_
          refine lv_iconst (v := 1) hC.1 hC.2.1 dX11_settles_542 (by decide) ?_
          refine x_cvi00 (rest := []) hC xy_X11_bg tw_1383 hf (fun _ h => M_X11_bg G l kp h) ⟨Nat.le_of_ble_eq_true rfl, Nat.le_of_ble_eq_true rfl⟩ (xce_57 G kp _ _) rfl rfl rfl (Nat.le_of_ble_eq_true rfl) hl.1 hR hS dX11_settles_543 ⟨Nat.le_refl _, Nat.le_refl _⟩ (fun v6 hf H locs hR hS => ?_)
          refine lv_iload_n hC.1 hC.2.1 dX11_settles_546 rfl (lv_at hl 1 rfl) ?_
          refine x_ic_eq (tgt := 561) hC dX11_settles_547 (by decide) hf (fun hf => ?_) (fun hf => ?_)
          · exact W_X11_settles_j561 hC N _ _ hk502 hk515 hf _ _ _ hR hS (lv_sub hl [0, 1, 2] rfl)
          · refine lv_aload_n hC.1 hC.2.1 dX11_settles_550 rfl (lv_at hl 0 rfl) ?_
            refine lv_iload hC.1 hC.2.1 dX11_settles_551 (lv_at hl 2 rfl) ?_
            refine lv_iconst (v := 2) hC.1 hC.2.1 dX11_settles_553 (by decide) ?_
            refine x_cvi00 (rest := []) hC xy_X11_bg tw_1383 hf (fun _ h => M_X11_bg G l kp h) ⟨Nat.le_of_ble_eq_true rfl, Nat.le_of_ble_eq_true rfl⟩ (xce_57 G kp _ _) rfl rfl rfl (Nat.le_of_ble_eq_true rfl) hl.1 hR hS dX11_settles_554 ⟨Nat.le_refl _, Nat.le_refl _⟩ (fun v7 hf H locs hR hS => ?_)
            refine lv_iload_n hC.1 hC.2.1 dX11_settles_557 rfl (lv_at hl 1 rfl) ?_
            refine x_ic_ne (tgt := 568) hC dX11_settles_558 (by decide) hf (fun hf => ?_) (fun hf => ?_)
            · refine x_iinc (d := 1) (lv' := fun y8 => [(4, .int y8), (0, .ref (xz G + 57)), (3, .int x3)]) (k := 2) hC hl dX11_settles_568 rfl (by decide) (Nat.le_of_ble_eq_true rfl) hf (fun _ => rfl) (fun y8 hf ls hl => ?_)
              refine lv_goto (tgt := 515) hC.1 hC.2.1 dX11_settles_571 (by decide) ?_
              exact hk515 y8 I L hf _ _ _ hR hS (lv_sub hl [1, 2, 0] rfl)
            · exact W_X11_settles_j561 hC N _ _ hk502 hk515 hf _ _ _ hR hS (lv_sub hl [0, 1, 2] rfl)
set_option maxRecDepth 20000 in
theorem W_X11_settles_l502 {G : XG} {l : Launch} {kp : Bool} {p : Program} {e : Env} {s : State} {m : MethodId} {args : Array Value} {below : List Frame} {meth : Method} {c : Code} (hC : xC G p s m args meth c cX11_settles 7 RX11 none) (N : Nat) {rI : xTI} {rL : xTL} : ∀ (n : Nat) (x3 : Int32) (I : xTI) (L : xTL) , xlp (F_X11_settles_b502 N ) n (x3, I, L) = some (rI, rL) → ∀ (H : Heap) (locs : List Loc) (ls : Array Slot), xRep G kp I L H → xS G s.heap H locs → lv_has ls 7 [(0, .ref (xz G + 57)), (3, .int x3)] → W p l e (xrm 88 2109) s m args below meth c H locs 0 0 (xMQ G kp below args s none rI rL) (F0 m 502 ls []) := by
  intro n
  induction n with
  | zero =>
    intro x3 I L hf
    cases hf
  | succ n hk502 =>
    intro x3 I L hf H locs ls hR hS hl
    rw [xlp_s, E_X11_settles_b502] at hf
    unfold F_X11_settles_c502 at hf
    refine lv_iload_n hC.1 hC.2.1 dX11_settles_502 rfl (lv_at hl 1 rfl) ?_
    refine lv_aload_n hC.1 hC.2.1 dX11_settles_503 rfl (lv_at hl 0 rfl) ?_
    refine x_get (v := .ref (xz G + 58)) hC xf_X11_14 (xce_57 G kp _ _) rfl hR dX11_settles_504 ?_
    refine lv_iconst (v := 1) hC.1 hC.2.1 dX11_settles_507 (by decide) ?_
    refine x_ial hC (xce_58 G kp _ _) hR dX11_settles_508 hf (fun v1 hf => ?_)
    refine x_ic_ge (tgt := 580) hC dX11_settles_509 (by decide) hf (fun hf => ?_) (fun hf => ?_)
    · refine lv_iconst (v := 0) hC.1 hC.2.1 dX11_settles_580 (by decide) ?_
      refine lv_istore_n (lv' := [(3, .int 0), (0, .ref (xz G + 57))]) hC.1 hC.2.1 dX11_settles_581 rfl hl (Nat.le_of_ble_eq_true rfl) rfl (fun ls hl => ?_)
      exact W_X11_settles_l582 hC N _ 0 I hf _ _ _ hR hS (lv_sub hl [1, 0] rfl)
    · refine lv_iconst (v := 0) hC.1 hC.2.1 dX11_settles_512 (by decide) ?_
      refine lv_istore (lv' := [(4, .int 0), (0, .ref (xz G + 57)), (3, .int x3)]) hC.1 hC.2.1 dX11_settles_513 hl (Nat.le_of_ble_eq_true rfl) rfl (fun ls hl => ?_)
      exact W_X11_settles_l515 hC N _ hk502 _ 0 I L hf _ _ _ hR hS (lv_sub hl [1, 2, 0] rfl)
set_option maxRecDepth 20000 in
theorem W_X11_settles_l477 {G : XG} {l : Launch} {kp : Bool} {p : Program} {e : Env} {s : State} {m : MethodId} {args : Array Value} {below : List Frame} {meth : Method} {c : Code} (hC : xC G p s m args meth c cX11_settles 7 RX11 none) (N : Nat) {I : xTI} {rI : xTI} {rL : xTL} : ∀ (n : Nat) (x3 : Int32) (L : xTL) , xlp (F_X11_settles_b477 N I ) n (x3, L) = some (rI, rL) → ∀ (H : Heap) (locs : List Loc) (ls : Array Slot), xRep G kp I L H → xS G s.heap H locs → lv_has ls 7 [(0, .ref (xz G + 57)), (3, .int x3)] → W p l e (xrm 88 2109) s m args below meth c H locs 0 0 (xMQ G kp below args s none rI rL) (F0 m 477 ls []) := by
  intro n
  induction n with
  | zero =>
    intro x3 L hf
    cases hf
  | succ n hk477 =>
    intro x3 L hf H locs ls hR hS hl
    rw [xlp_s, E_X11_settles_b477] at hf
    unfold F_X11_settles_c477 at hf
    refine lv_iload_n hC.1 hC.2.1 dX11_settles_477 rfl (lv_at hl 1 rfl) ?_
    refine lv_sipush (v := 144) hC.1 hC.2.1 dX11_settles_478 (by decide) ?_
    refine x_ic_ge (tgt := 500) hC dX11_settles_481 (by decide) hf (fun hf => ?_) (fun hf => ?_)
    · refine lv_iconst (v := 0) hC.1 hC.2.1 dX11_settles_500 (by decide) ?_
      refine lv_istore_n (lv' := [(3, .int 0), (0, .ref (xz G + 57))]) hC.1 hC.2.1 dX11_settles_501 rfl hl (Nat.le_of_ble_eq_true rfl) rfl (fun ls hl => ?_)
      exact W_X11_settles_l502 hC N _ 0 I L hf _ _ _ hR hS (lv_sub hl [1, 0] rfl)
    · refine lv_aload_n hC.1 hC.2.1 dX11_settles_484 rfl (lv_at hl 0 rfl) ?_
      refine x_get (v := .ref (xz G + 59)) hC xf_X11_18 (xce_57 G kp _ _) rfl hR dX11_settles_485 ?_
      refine lv_bipush (v := 24) hC.1 hC.2.1 dX11_settles_488 (by decide) ?_
      refine lv_iload_n hC.1 hC.2.1 dX11_settles_490 rfl (lv_at hl 1 rfl) ?_
      refine lv_iadd hC.1 hC.2.1 dX11_settles_491 ?_
      refine lv_lconst (v := 0) hC.1 hC.2.1 dX11_settles_492 (by decide) ?_
      refine x_las hC (fun f => (xce_59 G kp _ f)) hR hS dX11_settles_493 hf (fun L1 hf H locs hR hS => ?_)
      refine x_iinc (d := 1) (lv' := fun y2 => [(3, .int y2), (0, .ref (xz G + 57))]) (k := 1) hC hl dX11_settles_494 rfl (by decide) (Nat.le_of_ble_eq_true rfl) hf (fun _ => rfl) (fun y2 hf ls hl => ?_)
      refine lv_goto (tgt := 477) hC.1 hC.2.1 dX11_settles_497 (by decide) ?_
      exact hk477 y2 L1 hf _ _ _ hR hS (lv_sub hl [1, 0] rfl)
set_option maxRecDepth 20000 in
theorem W_X11_settles_l427 {G : XG} {l : Launch} {kp : Bool} {p : Program} {e : Env} {s : State} {m : MethodId} {args : Array Value} {below : List Frame} {meth : Method} {c : Code} (hC : xC G p s m args meth c cX11_settles 7 RX11 none) (N : Nat) {L : xTL} {rI : xTI} {rL : xTL} {x1 : Int32} : ∀ (n : Nat) (x3 : Int32) (I : xTI) , xlp (F_X11_settles_b427 N L x1 ) n (x3, I) = some (rI, rL) → ∀ (H : Heap) (locs : List Loc) (ls : Array Slot), xRep G kp I L H → xS G s.heap H locs → lv_has ls 7 [(0, .ref (xz G + 57)), (1, .int x1), (3, .int x3)] → W p l e (xrm 88 2109) s m args below meth c H locs 0 0 (xMQ G kp below args s none rI rL) (F0 m 427 ls []) := by
  intro n
  induction n with
  | zero =>
    intro x3 I hf
    cases hf
  | succ n hk427 =>
    intro x3 I hf H locs ls hR hS hl
    rw [xlp_s, E_X11_settles_b427] at hf
    unfold F_X11_settles_c427 at hf
    refine lv_iload_n hC.1 hC.2.1 dX11_settles_427 rfl (lv_at hl 2 rfl) ?_
    refine lv_bipush (v := 60) hC.1 hC.2.1 dX11_settles_428 (by decide) ?_
    refine x_ic_ge (tgt := 475) hC dX11_settles_430 (by decide) hf (fun hf => ?_) (fun hf => ?_)
    · refine lv_iconst (v := 0) hC.1 hC.2.1 dX11_settles_475 (by decide) ?_
      refine lv_istore_n (lv' := [(3, .int 0), (0, .ref (xz G + 57)), (1, .int x1)]) hC.1 hC.2.1 dX11_settles_476 rfl hl (Nat.le_of_ble_eq_true rfl) rfl (fun ls hl => ?_)
      exact W_X11_settles_l477 hC N _ 0 L hf _ _ _ hR hS (lv_sub hl [1, 0] rfl)
    · refine lv_aload_n hC.1 hC.2.1 dX11_settles_433 rfl (lv_at hl 0 rfl) ?_
      refine lv_iload_n hC.1 hC.2.1 dX11_settles_434 rfl (lv_at hl 2 rfl) ?_
      refine x_cvi00 (rest := []) hC xy_X11_stands tw_1403 hf (fun _ h => M_X11_stands G l kp h) ⟨Nat.le_of_ble_eq_true rfl, Nat.le_of_ble_eq_true rfl⟩ (xce_57 G kp _ _) rfl rfl rfl (Nat.le_of_ble_eq_true rfl) hl.1 hR hS dX11_settles_435 ⟨Nat.le_refl _, Nat.le_refl _⟩ (fun v1 hf H locs hR hS => ?_)
      refine x_if_eq (tgt := 469) hC dX11_settles_438 (by decide) hf (fun hf => ?_) (fun hf => ?_)
      · refine x_iinc (d := 1) (lv' := fun y2 => [(3, .int y2), (0, .ref (xz G + 57)), (1, .int x1)]) (k := 2) hC hl dX11_settles_469 rfl (by decide) (Nat.le_of_ble_eq_true rfl) hf (fun _ => rfl) (fun y2 hf ls hl => ?_)
        refine lv_goto (tgt := 427) hC.1 hC.2.1 dX11_settles_472 (by decide) ?_
        exact hk427 y2 I hf _ _ _ hR hS (lv_sub hl [1, 2, 0] rfl)
      · refine lv_aload_n hC.1 hC.2.1 dX11_settles_441 rfl (lv_at hl 0 rfl) ?_
        refine lv_iload_n hC.1 hC.2.1 dX11_settles_442 rfl (lv_at hl 2 rfl) ?_
        refine lv_bipush (v := 7) hC.1 hC.2.1 dX11_settles_443 (by decide) ?_
        refine x_cvi00 (rest := []) hC xy_X11_bg tw_1383 hf (fun _ h => M_X11_bg G l kp h) ⟨Nat.le_of_ble_eq_true rfl, Nat.le_of_ble_eq_true rfl⟩ (xce_57 G kp _ _) rfl rfl rfl (Nat.le_of_ble_eq_true rfl) hl.1 hR hS dX11_settles_445 ⟨Nat.le_refl _, Nat.le_refl _⟩ (fun v3 hf H locs hR hS => ?_)
        refine lv_iload_n hC.1 hC.2.1 dX11_settles_448 rfl (lv_at hl 1 rfl) ?_
        refine x_ic_ne (tgt := 469) hC dX11_settles_449 (by decide) hf (fun hf => ?_) (fun hf => ?_)
        · refine x_iinc (d := 1) (lv' := fun y4 => [(3, .int y4), (0, .ref (xz G + 57)), (1, .int x1)]) (k := 2) hC hl dX11_settles_469 rfl (by decide) (Nat.le_of_ble_eq_true rfl) hf (fun _ => rfl) (fun y4 hf ls hl => ?_)
          refine lv_goto (tgt := 427) hC.1 hC.2.1 dX11_settles_472 (by decide) ?_
          exact hk427 y4 I hf _ _ _ hR hS (lv_sub hl [1, 2, 0] rfl)
        · refine lv_aload_n hC.1 hC.2.1 dX11_settles_452 rfl (lv_at hl 0 rfl) ?_
          refine x_get (v := .ref (xz G + 58)) hC xf_X11_14 (xce_57 G kp _ _) rfl hR dX11_settles_453 ?_
          refine lv_sipush (v := 192) hC.1 hC.2.1 dX11_settles_456 (by decide) ?_
          refine lv_bipush (v := 12) hC.1 hC.2.1 dX11_settles_459 (by decide) ?_
          refine lv_iload_n hC.1 hC.2.1 dX11_settles_461 rfl (lv_at hl 2 rfl) ?_
          refine lv_imul hC.1 hC.2.1 dX11_settles_462 ?_
          refine lv_iadd hC.1 hC.2.1 dX11_settles_463 ?_
          refine lv_bipush (v := 8) hC.1 hC.2.1 dX11_settles_464 (by decide) ?_
          refine lv_iadd hC.1 hC.2.1 dX11_settles_466 ?_
          refine lv_iconst (v := 2) hC.1 hC.2.1 dX11_settles_467 (by decide) ?_
          refine x_ias hC (fun f => (xce_58 G kp f _)) hR hS dX11_settles_468 hf (fun I5 hf H locs hR hS => ?_)
          refine W.eq (g2 := F0 m 469 ls []) rfl ?_
          refine x_iinc (d := 1) (lv' := fun y6 => [(3, .int y6), (0, .ref (xz G + 57)), (1, .int x1)]) (k := 2) hC hl dX11_settles_469 rfl (by decide) (Nat.le_of_ble_eq_true rfl) hf (fun _ => rfl) (fun y6 hf ls hl => ?_)
          refine lv_goto (tgt := 427) hC.1 hC.2.1 dX11_settles_472 (by decide) ?_
          exact hk427 y6 I5 hf _ _ _ hR hS (lv_sub hl [1, 2, 0] rfl)
set_option maxRecDepth 20000 in
theorem W_X11_settles_l351 {G : XG} {l : Launch} {kp : Bool} {p : Program} {e : Env} {s : State} {m : MethodId} {args : Array Value} {below : List Frame} {meth : Method} {c : Code} (hC : xC G p s m args meth c cX11_settles 7 RX11 none) (N : Nat) {L : xTL} {rI : xTI} {rL : xTL} {x1 : Int32} : ∀ (n : Nat) (x3 : Int32) (I : xTI) , xlp (F_X11_settles_b351 N L x1 ) n (x3, I) = some (rI, rL) → ∀ (H : Heap) (locs : List Loc) (ls : Array Slot), xRep G kp I L H → xS G s.heap H locs → lv_has ls 7 [(0, .ref (xz G + 57)), (1, .int x1), (3, .int x3)] → W p l e (xrm 88 2109) s m args below meth c H locs 0 0 (xMQ G kp below args s none rI rL) (F0 m 351 ls []) := by
  intro n
  induction n with
  | zero =>
    intro x3 I hf
    cases hf
  | succ n hk351 =>
    intro x3 I hf H locs ls hR hS hl
    rw [xlp_s, E_X11_settles_b351] at hf
    unfold F_X11_settles_c351 at hf
    refine lv_iload_n hC.1 hC.2.1 dX11_settles_351 rfl (lv_at hl 2 rfl) ?_
    refine lv_aload_n hC.1 hC.2.1 dX11_settles_352 rfl (lv_at hl 0 rfl) ?_
    refine x_get (v := .ref (xz G + 58)) hC xf_X11_14 (xce_57 G kp _ _) rfl hR dX11_settles_353 ?_
    refine lv_bipush (v := 7) hC.1 hC.2.1 dX11_settles_356 (by decide) ?_
    refine x_ial hC (xce_58 G kp _ _) hR dX11_settles_358 hf (fun v1 hf => ?_)
    refine x_ic_ge (tgt := 425) hC dX11_settles_359 (by decide) hf (fun hf => ?_) (fun hf => ?_)
    · refine lv_iconst (v := 0) hC.1 hC.2.1 dX11_settles_425 (by decide) ?_
      refine lv_istore_n (lv' := [(3, .int 0), (0, .ref (xz G + 57)), (1, .int x1)]) hC.1 hC.2.1 dX11_settles_426 rfl hl (Nat.le_of_ble_eq_true rfl) rfl (fun ls hl => ?_)
      exact W_X11_settles_l427 hC N _ 0 I hf _ _ _ hR hS (lv_sub hl [1, 2, 0] rfl)
    · refine lv_aload_n hC.1 hC.2.1 dX11_settles_362 rfl (lv_at hl 0 rfl) ?_
      refine x_get (v := .ref (xz G + 58)) hC xf_X11_14 (xce_57 G kp _ _) rfl hR dX11_settles_363 ?_
      refine lv_bipush (v := 64) hC.1 hC.2.1 dX11_settles_366 (by decide) ?_
      refine lv_iconst (v := 5) hC.1 hC.2.1 dX11_settles_368 (by decide) ?_
      refine lv_aload_n hC.1 hC.2.1 dX11_settles_369 rfl (lv_at hl 0 rfl) ?_
      refine x_get (v := .ref (xz G + 58)) hC xf_X11_14 (xce_57 G kp _ _) rfl hR dX11_settles_370 ?_
      refine lv_sipush (v := 4670) hC.1 hC.2.1 dX11_settles_373 (by decide) ?_
      refine lv_bipush (v := 6) hC.1 hC.2.1 dX11_settles_376 (by decide) ?_
      refine lv_iload_n hC.1 hC.2.1 dX11_settles_378 rfl (lv_at hl 2 rfl) ?_
      refine lv_imul hC.1 hC.2.1 dX11_settles_379 ?_
      refine lv_iadd hC.1 hC.2.1 dX11_settles_380 ?_
      refine W.eq (g2 := F0 m 381 ls [.int (4670 + (6 * x3)), .ref (xz G + 58), .int 5, .int 64, .ref (xz G + 58)]) rfl ?_
      refine lv_iconst (v := 2) hC.1 hC.2.1 dX11_settles_381 (by decide) ?_
      refine lv_iadd hC.1 hC.2.1 dX11_settles_382 ?_
      refine x_ial hC (xce_58 G kp _ _) hR dX11_settles_383 hf (fun v2 hf => ?_)
      refine lv_imul hC.1 hC.2.1 dX11_settles_384 ?_
      refine lv_iadd hC.1 hC.2.1 dX11_settles_385 ?_
      refine lv_aload_n hC.1 hC.2.1 dX11_settles_386 rfl (lv_at hl 0 rfl) ?_
      refine x_get (v := .ref (xz G + 58)) hC xf_X11_14 (xce_57 G kp _ _) rfl hR dX11_settles_387 ?_
      refine lv_sipush (v := 4670) hC.1 hC.2.1 dX11_settles_390 (by decide) ?_
      refine lv_bipush (v := 6) hC.1 hC.2.1 dX11_settles_393 (by decide) ?_
      refine lv_iload_n hC.1 hC.2.1 dX11_settles_395 rfl (lv_at hl 2 rfl) ?_
      refine lv_imul hC.1 hC.2.1 dX11_settles_396 ?_
      refine lv_iadd hC.1 hC.2.1 dX11_settles_397 ?_
      refine W.eq (g2 := F0 m 398 ls [.int (4670 + (6 * x3)), .ref (xz G + 58), .int (64 + (5 * v2)), .ref (xz G + 58)]) rfl ?_
      refine x_ial hC (xce_58 G kp _ _) hR dX11_settles_398 hf (fun v3 hf => ?_)
      refine lv_iadd hC.1 hC.2.1 dX11_settles_399 ?_
      refine lv_dup2_11 hC.1 hC.2.1 dX11_settles_400 rfl rfl ?_
      refine x_ial hC (xce_58 G kp _ _) hR dX11_settles_401 hf (fun v4 hf => ?_)
      refine lv_aload_n hC.1 hC.2.1 dX11_settles_402 rfl (lv_at hl 0 rfl) ?_
      refine x_get (v := .ref (xz G + 58)) hC xf_X11_14 (xce_57 G kp _ _) rfl hR dX11_settles_403 ?_
      refine lv_sipush (v := 4670) hC.1 hC.2.1 dX11_settles_406 (by decide) ?_
      refine lv_bipush (v := 6) hC.1 hC.2.1 dX11_settles_409 (by decide) ?_
      refine lv_iload_n hC.1 hC.2.1 dX11_settles_411 rfl (lv_at hl 2 rfl) ?_
      refine lv_imul hC.1 hC.2.1 dX11_settles_412 ?_
      refine lv_iadd hC.1 hC.2.1 dX11_settles_413 ?_
      refine lv_iconst (v := 3) hC.1 hC.2.1 dX11_settles_414 (by decide) ?_
      refine W.eq (g2 := F0 m 415 ls [.int 3, .int (4670 + (6 * x3)), .ref (xz G + 58), .int v4, .int ((64 + (5 * v2)) + v3), .ref (xz G + 58)]) rfl ?_
      refine lv_iadd hC.1 hC.2.1 dX11_settles_415 ?_
      refine x_ial hC (xce_58 G kp _ _) hR dX11_settles_416 hf (fun v5 hf => ?_)
      refine lv_iadd hC.1 hC.2.1 dX11_settles_417 ?_
      refine x_ias hC (fun f => (xce_58 G kp f _)) hR hS dX11_settles_418 hf (fun I6 hf H locs hR hS => ?_)
      refine x_iinc (d := 1) (lv' := fun y7 => [(3, .int y7), (0, .ref (xz G + 57)), (1, .int x1)]) (k := 2) hC hl dX11_settles_419 rfl (by decide) (Nat.le_of_ble_eq_true rfl) hf (fun _ => rfl) (fun y7 hf ls hl => ?_)
      refine lv_goto (tgt := 351) hC.1 hC.2.1 dX11_settles_422 (by decide) ?_
      exact hk351 y7 I6 hf _ _ _ hR hS (lv_sub hl [1, 2, 0] rfl)
set_option maxRecDepth 20000 in
theorem W_X11_settles_l322 {G : XG} {l : Launch} {kp : Bool} {p : Program} {e : Env} {s : State} {m : MethodId} {args : Array Value} {below : List Frame} {meth : Method} {c : Code} (hC : xC G p s m args meth c cX11_settles 7 RX11 none) (N : Nat) {L : xTL} {rI : xTI} {rL : xTL} {x1 : Int32} : ∀ (n : Nat) (x3 : Int32) (I : xTI) , xlp (F_X11_settles_b322 N L x1 ) n (x3, I) = some (rI, rL) → ∀ (H : Heap) (locs : List Loc) (ls : Array Slot), xRep G kp I L H → xS G s.heap H locs → lv_has ls 7 [(0, .ref (xz G + 57)), (1, .int x1), (3, .int x3)] → W p l e (xrm 88 2109) s m args below meth c H locs 0 0 (xMQ G kp below args s none rI rL) (F0 m 322 ls []) := by
  intro n
  induction n with
  | zero =>
    intro x3 I hf
    cases hf
  | succ n hk322 =>
    intro x3 I hf H locs ls hR hS hl
    rw [xlp_s, E_X11_settles_b322] at hf
    unfold F_X11_settles_c322 at hf
    refine lv_iload_n hC.1 hC.2.1 dX11_settles_322 rfl (lv_at hl 2 rfl) ?_
    refine lv_bipush (v := 60) hC.1 hC.2.1 dX11_settles_323 (by decide) ?_
    refine x_ic_ge (tgt := 349) hC dX11_settles_325 (by decide) hf (fun hf => ?_) (fun hf => ?_)
    · refine lv_iconst (v := 0) hC.1 hC.2.1 dX11_settles_349 (by decide) ?_
      refine lv_istore_n (lv' := [(3, .int 0), (0, .ref (xz G + 57)), (1, .int x1)]) hC.1 hC.2.1 dX11_settles_350 rfl hl (Nat.le_of_ble_eq_true rfl) rfl (fun ls hl => ?_)
      exact W_X11_settles_l351 hC N _ 0 I hf _ _ _ hR hS (lv_sub hl [1, 2, 0] rfl)
    · refine lv_aload_n hC.1 hC.2.1 dX11_settles_328 rfl (lv_at hl 0 rfl) ?_
      refine x_get (v := .ref (xz G + 58)) hC xf_X11_14 (xce_57 G kp _ _) rfl hR dX11_settles_329 ?_
      refine lv_bipush (v := 64) hC.1 hC.2.1 dX11_settles_332 (by decide) ?_
      refine lv_iload_n hC.1 hC.2.1 dX11_settles_334 rfl (lv_at hl 2 rfl) ?_
      refine lv_iadd hC.1 hC.2.1 dX11_settles_335 ?_
      refine lv_aload_n hC.1 hC.2.1 dX11_settles_336 rfl (lv_at hl 0 rfl) ?_
      refine x_get (v := .ref (xz G + 76)) hC xf_X11_70 (xce_57 G kp _ _) rfl hR dX11_settles_337 ?_
      refine lv_iload_n hC.1 hC.2.1 dX11_settles_340 rfl (lv_at hl 2 rfl) ?_
      refine x_ial hC (xce_76 G kp _ _) hR dX11_settles_341 hf (fun v1 hf => ?_)
      refine x_ias hC (fun f => (xce_58 G kp f _)) hR hS dX11_settles_342 hf (fun I2 hf H locs hR hS => ?_)
      refine x_iinc (d := 1) (lv' := fun y3 => [(3, .int y3), (0, .ref (xz G + 57)), (1, .int x1)]) (k := 2) hC hl dX11_settles_343 rfl (by decide) (Nat.le_of_ble_eq_true rfl) hf (fun _ => rfl) (fun y3 hf ls hl => ?_)
      refine W.eq (g2 := F0 m 346 ls []) rfl ?_
      refine lv_goto (tgt := 322) hC.1 hC.2.1 dX11_settles_346 (by decide) ?_
      exact hk322 y3 I2 hf _ _ _ hR hS (lv_sub hl [1, 2, 0] rfl)
set_option maxRecDepth 20000 in
theorem W_X11_settles_l227 {G : XG} {l : Launch} {kp : Bool} {p : Program} {e : Env} {s : State} {m : MethodId} {args : Array Value} {below : List Frame} {meth : Method} {c : Code} (hC : xC G p s m args meth c cX11_settles 7 RX11 none) (N : Nat) {rI : xTI} {rL : xTL} {x1 : Int32} : ∀ (n : Nat) (x3 : Int32) (I : xTI) (L : xTL) , xlp (F_X11_settles_b227 N x1 ) n (x3, I, L) = some (rI, rL) → ∀ (H : Heap) (locs : List Loc) (ls : Array Slot), xRep G kp I L H → xS G s.heap H locs → lv_has ls 7 [(0, .ref (xz G + 57)), (1, .int x1), (3, .int x3)] → W p l e (xrm 88 2109) s m args below meth c H locs 0 0 (xMQ G kp below args s none rI rL) (F0 m 227 ls []) := by
  intro n
  induction n with
  | zero =>
    intro x3 I L hf
    cases hf
  | succ n hk227 =>
    intro x3 I L hf H locs ls hR hS hl
    rw [xlp_s, E_X11_settles_b227] at hf
    unfold F_X11_settles_c227 at hf
    refine lv_iload_n hC.1 hC.2.1 dX11_settles_227 rfl (lv_at hl 2 rfl) ?_
    refine lv_aload_n hC.1 hC.2.1 dX11_settles_228 rfl (lv_at hl 0 rfl) ?_
    refine x_get (v := .ref (xz G + 58)) hC xf_X11_14 (xce_57 G kp _ _) rfl hR dX11_settles_229 ?_
    refine lv_iconst (v := 1) hC.1 hC.2.1 dX11_settles_232 (by decide) ?_
    refine x_ial hC (xce_58 G kp _ _) hR dX11_settles_233 hf (fun v1 hf => ?_)
    refine x_ic_ge (tgt := 320) hC dX11_settles_234 (by decide) hf (fun hf => ?_) (fun hf => ?_)
    · refine lv_iconst (v := 0) hC.1 hC.2.1 dX11_settles_320 (by decide) ?_
      refine lv_istore_n (lv' := [(3, .int 0), (0, .ref (xz G + 57)), (1, .int x1)]) hC.1 hC.2.1 dX11_settles_321 rfl hl (Nat.le_of_ble_eq_true rfl) rfl (fun ls hl => ?_)
      exact W_X11_settles_l322 hC N _ 0 I hf _ _ _ hR hS (lv_sub hl [1, 2, 0] rfl)
    · refine lv_aload_n hC.1 hC.2.1 dX11_settles_237 rfl (lv_at hl 0 rfl) ?_
      refine x_get (v := .ref (xz G + 59)) hC xf_X11_18 (xce_57 G kp _ _) rfl hR dX11_settles_238 ?_
      refine lv_iconst (v := 0) hC.1 hC.2.1 dX11_settles_241 (by decide) ?_
      refine lv_iload_n hC.1 hC.2.1 dX11_settles_242 rfl (lv_at hl 2 rfl) ?_
      refine lv_iadd hC.1 hC.2.1 dX11_settles_243 ?_
      refine lv_dup2_11 hC.1 hC.2.1 dX11_settles_244 rfl rfl ?_
      refine x_lal hC (xce_59 G kp _ _) hR dX11_settles_245 hf (fun v2 hf => ?_)
      refine lv_aload_n hC.1 hC.2.1 dX11_settles_246 rfl (lv_at hl 0 rfl) ?_
      refine x_get (v := .ref (xz G + 59)) hC xf_X11_18 (xce_57 G kp _ _) rfl hR dX11_settles_247 ?_
      refine lv_sipush (v := 168) hC.1 hC.2.1 dX11_settles_250 (by decide) ?_
      refine lv_iconst (v := 4) hC.1 hC.2.1 dX11_settles_253 (by decide) ?_
      refine W.eq (g2 := F0 m 254 ls [.int 4, .int 168, .ref (xz G + 59), .long v2, .int (0 + x3), .ref (xz G + 59)]) rfl ?_
      refine lv_iload_n hC.1 hC.2.1 dX11_settles_254 rfl (lv_at hl 2 rfl) ?_
      refine lv_imul hC.1 hC.2.1 dX11_settles_255 ?_
      refine lv_iadd hC.1 hC.2.1 dX11_settles_256 ?_
      refine lv_iconst (v := 2) hC.1 hC.2.1 dX11_settles_257 (by decide) ?_
      refine lv_iadd hC.1 hC.2.1 dX11_settles_258 ?_
      refine x_lal hC (xce_59 G kp _ _) hR dX11_settles_259 hf (fun v3 hf => ?_)
      refine lv_aload_n hC.1 hC.2.1 dX11_settles_260 rfl (lv_at hl 0 rfl) ?_
      refine x_get (v := .ref (xz G + 59)) hC xf_X11_18 (xce_57 G kp _ _) rfl hR dX11_settles_261 ?_
      refine lv_sipush (v := 168) hC.1 hC.2.1 dX11_settles_264 (by decide) ?_
      refine lv_iconst (v := 4) hC.1 hC.2.1 dX11_settles_267 (by decide) ?_
      refine lv_iload_n hC.1 hC.2.1 dX11_settles_268 rfl (lv_at hl 2 rfl) ?_
      refine lv_imul hC.1 hC.2.1 dX11_settles_269 ?_
      refine W.eq (g2 := F0 m 270 ls [.int (4 * x3), .int 168, .ref (xz G + 59), .long v3, .long v2, .int (0 + x3), .ref (xz G + 59)]) rfl ?_
      refine lv_iadd hC.1 hC.2.1 dX11_settles_270 ?_
      refine lv_iconst (v := 1) hC.1 hC.2.1 dX11_settles_271 (by decide) ?_
      refine lv_iadd hC.1 hC.2.1 dX11_settles_272 ?_
      refine x_lal hC (xce_59 G kp _ _) hR dX11_settles_273 hf (fun v4 hf => ?_)
      refine lv_lsub hC.1 hC.2.1 dX11_settles_274 ?_
      refine lv_ladd hC.1 hC.2.1 dX11_settles_275 ?_
      refine x_las hC (fun f => (xce_59 G kp _ f)) hR hS dX11_settles_276 hf (fun L5 hf H locs hR hS => ?_)
      refine lv_aload_n hC.1 hC.2.1 dX11_settles_277 rfl (lv_at hl 0 rfl) ?_
      refine x_get (v := .ref (xz G + 59)) hC xf_X11_18 (xce_57 G kp _ _) rfl hR dX11_settles_278 ?_
      refine lv_sipush (v := 168) hC.1 hC.2.1 dX11_settles_281 (by decide) ?_
      refine lv_iconst (v := 4) hC.1 hC.2.1 dX11_settles_284 (by decide) ?_
      refine lv_iload_n hC.1 hC.2.1 dX11_settles_285 rfl (lv_at hl 2 rfl) ?_
      refine W.eq (g2 := F0 m 286 ls [.int x3, .int 4, .int 168, .ref (xz G + 59)]) rfl ?_
      refine lv_imul hC.1 hC.2.1 dX11_settles_286 ?_
      refine lv_iadd hC.1 hC.2.1 dX11_settles_287 ?_
      refine lv_iconst (v := 1) hC.1 hC.2.1 dX11_settles_288 (by decide) ?_
      refine lv_iadd hC.1 hC.2.1 dX11_settles_289 ?_
      refine x_lal hC (xce_59 G kp _ _) hR dX11_settles_290 hf (fun v6 hf => ?_)
      refine lv_aload_n hC.1 hC.2.1 dX11_settles_291 rfl (lv_at hl 0 rfl) ?_
      refine x_get (v := .ref (xz G + 72)) hC xf_X11_58 (xce_57 G kp _ _) rfl hR dX11_settles_292 ?_
      refine lv_iload_n hC.1 hC.2.1 dX11_settles_295 rfl (lv_at hl 2 rfl) ?_
      refine x_lal hC (xce_72 G kp _ _) hR dX11_settles_296 hf (fun v7 hf => ?_)
      refine W.lcmp hC.1 hC.2.1 dX11_settles_297 ?_
      refine x_if_ge (tgt := 314) hC dX11_settles_298 (by decide) hf (fun hf => ?_) (fun hf => ?_)
      · refine x_iinc (d := 1) (lv' := fun y8 => [(3, .int y8), (0, .ref (xz G + 57)), (1, .int x1)]) (k := 2) hC hl dX11_settles_314 rfl (by decide) (Nat.le_of_ble_eq_true rfl) hf (fun _ => rfl) (fun y8 hf ls hl => ?_)
        refine lv_goto (tgt := 227) hC.1 hC.2.1 dX11_settles_317 (by decide) ?_
        exact hk227 y8 I L5 hf _ _ _ hR hS (lv_sub hl [1, 2, 0] rfl)
      · refine lv_aload_n hC.1 hC.2.1 dX11_settles_301 rfl (lv_at hl 0 rfl) ?_
        refine lv_iload_n hC.1 hC.2.1 dX11_settles_302 rfl (lv_at hl 2 rfl) ?_
        refine x_cvi00 (rest := []) hC xy_X11_isUp tw_1363 hf (fun _ h => M_X11_isUp G l kp h) ⟨Nat.le_of_ble_eq_true rfl, Nat.le_of_ble_eq_true rfl⟩ (xce_57 G kp _ _) rfl rfl rfl (Nat.le_of_ble_eq_true rfl) hl.1 hR hS dX11_settles_303 ⟨Nat.le_refl _, Nat.le_refl _⟩ (fun v9 hf H locs hR hS => ?_)
        refine x_if_eq (tgt := 314) hC dX11_settles_306 (by decide) hf (fun hf => ?_) (fun hf => ?_)
        · refine x_iinc (d := 1) (lv' := fun y10 => [(3, .int y10), (0, .ref (xz G + 57)), (1, .int x1)]) (k := 2) hC hl dX11_settles_314 rfl (by decide) (Nat.le_of_ble_eq_true rfl) hf (fun _ => rfl) (fun y10 hf ls hl => ?_)
          refine lv_goto (tgt := 227) hC.1 hC.2.1 dX11_settles_317 (by decide) ?_
          exact hk227 y10 I L5 hf _ _ _ hR hS (lv_sub hl [1, 2, 0] rfl)
        · refine lv_aload_n hC.1 hC.2.1 dX11_settles_309 rfl (lv_at hl 0 rfl) ?_
          refine lv_iload_n hC.1 hC.2.1 dX11_settles_310 rfl (lv_at hl 2 rfl) ?_
          refine x_cvv10 (rest := []) hC xy_X11_falls tw_1670 hf (fun _ h => M_X11_falls G l kp h) ⟨Nat.le_of_ble_eq_true rfl, Nat.le_of_ble_eq_true rfl⟩ (xce_57 G kp _ _) rfl rfl rfl (Nat.le_of_ble_eq_true rfl) hl.1 hR hS dX11_settles_311 ⟨Nat.le_refl _, Nat.le_refl _⟩ (fun I11 hf H locs hR hS => ?_)
          refine x_iinc (d := 1) (lv' := fun y12 => [(3, .int y12), (0, .ref (xz G + 57)), (1, .int x1)]) (k := 2) hC hl dX11_settles_314 rfl (by decide) (Nat.le_of_ble_eq_true rfl) hf (fun _ => rfl) (fun y12 hf ls hl => ?_)
          refine lv_goto (tgt := 227) hC.1 hC.2.1 dX11_settles_317 (by decide) ?_
          exact hk227 y12 I11 L5 hf _ _ _ hR hS (lv_sub hl [1, 2, 0] rfl)
set_option maxRecDepth 20000 in
theorem W_X11_settles_l104 {G : XG} {l : Launch} {kp : Bool} {p : Program} {e : Env} {s : State} {m : MethodId} {args : Array Value} {below : List Frame} {meth : Method} {c : Code} (hC : xC G p s m args meth c cX11_settles 7 RX11 none) (N : Nat) {I : xTI} {L : xTL} {rI : xTI} {rL : xTL} {x1 : Int32} {x3 : Int32} (k83 : Int32 × xTL → Option (xTI × xTL)) (hk83 : ∀ (x3 : Int32) (L : xTL) , k83 (x3, L) = some (rI, rL) → ∀ (H : Heap) (locs : List Loc) (ls : Array Slot), xRep G kp I L H → xS G s.heap H locs → lv_has ls 7 [(0, .ref (xz G + 57)), (1, .int x1), (3, .int x3)] → W p l e (xrm 88 2109) s m args below meth c H locs 0 0 (xMQ G kp below args s none rI rL) (F0 m 83 ls [])) : ∀ (n : Nat) (x4 : Int64) (x6 : Int32) , xlp (F_X11_settles_b104 k83 N I L x1 x3 ) n (x4, x6) = some (rI, rL) → ∀ (H : Heap) (locs : List Loc) (ls : Array Slot), xRep G kp I L H → xS G s.heap H locs → lv_has ls 7 [(0, .ref (xz G + 57)), (1, .int x1), (3, .int x3), (4, .long x4), (6, .int x6)] → W p l e (xrm 88 2109) s m args below meth c H locs 0 0 (xMQ G kp below args s none rI rL) (F0 m 104 ls []) := by
  intro n
  induction n with
  | zero =>
    intro x4 x6 hf
    cases hf
  | succ n hk104 =>
    intro x4 x6 hf H locs ls hR hS hl
    rw [xlp_s, E_X11_settles_b104] at hf
    unfold F_X11_settles_c104 at hf
    refine lv_iload hC.1 hC.2.1 dX11_settles_104 (lv_at hl 4 rfl) ?_
    refine lv_aload_n hC.1 hC.2.1 dX11_settles_106 rfl (lv_at hl 0 rfl) ?_
    refine x_get (v := .ref (xz G + 58)) hC xf_X11_14 (xce_57 G kp _ _) rfl hR dX11_settles_107 ?_
    refine lv_iconst (v := 1) hC.1 hC.2.1 dX11_settles_110 (by decide) ?_
    refine x_ial hC (xce_58 G kp _ _) hR dX11_settles_111 hf (fun v1 hf => ?_)
    refine x_ic_ge (tgt := 138) hC dX11_settles_112 (by decide) hf (fun hf => ?_) (fun hf => ?_)
    · refine lv_aload_n hC.1 hC.2.1 dX11_settles_138 rfl (lv_at hl 0 rfl) ?_
      refine x_get (v := .ref (xz G + 59)) hC xf_X11_18 (xce_57 G kp _ _) rfl hR dX11_settles_139 ?_
      refine lv_sipush (v := 168) hC.1 hC.2.1 dX11_settles_142 (by decide) ?_
      refine lv_iconst (v := 4) hC.1 hC.2.1 dX11_settles_145 (by decide) ?_
      refine lv_iload_n hC.1 hC.2.1 dX11_settles_146 rfl (lv_at hl 2 rfl) ?_
      refine lv_imul hC.1 hC.2.1 dX11_settles_147 ?_
      refine lv_iadd hC.1 hC.2.1 dX11_settles_148 ?_
      refine lv_aload_n hC.1 hC.2.1 dX11_settles_149 rfl (lv_at hl 0 rfl) ?_
      refine x_get (v := .ref (xz G + 72)) hC xf_X11_58 (xce_57 G kp _ _) rfl hR dX11_settles_150 ?_
      refine lv_iload_n hC.1 hC.2.1 dX11_settles_153 rfl (lv_at hl 2 rfl) ?_
      refine x_lal hC (xce_72 G kp _ _) hR dX11_settles_154 hf (fun v2 hf => ?_)
      refine W.eq (g2 := F0 m 155 ls [.long v2, .int (168 + (4 * x3)), .ref (xz G + 59)]) rfl ?_
      refine x_las hC (fun f => (xce_59 G kp _ f)) hR hS dX11_settles_155 hf (fun L3 hf H locs hR hS => ?_)
      refine lv_aload_n hC.1 hC.2.1 dX11_settles_156 rfl (lv_at hl 0 rfl) ?_
      refine x_get (v := .ref (xz G + 59)) hC xf_X11_18 (xce_57 G kp _ _) rfl hR dX11_settles_157 ?_
      refine lv_sipush (v := 168) hC.1 hC.2.1 dX11_settles_160 (by decide) ?_
      refine lv_iconst (v := 4) hC.1 hC.2.1 dX11_settles_163 (by decide) ?_
      refine lv_iload_n hC.1 hC.2.1 dX11_settles_164 rfl (lv_at hl 2 rfl) ?_
      refine lv_imul hC.1 hC.2.1 dX11_settles_165 ?_
      refine lv_iadd hC.1 hC.2.1 dX11_settles_166 ?_
      refine lv_iconst (v := 1) hC.1 hC.2.1 dX11_settles_167 (by decide) ?_
      refine lv_iadd hC.1 hC.2.1 dX11_settles_168 ?_
      refine lv_lload hC.1 hC.2.1 dX11_settles_169 (lv_at hl 3 rfl) ?_
      refine x_las hC (fun f => (xce_59 G kp _ f)) hR hS dX11_settles_171 hf (fun L4 hf H locs hR hS => ?_)
      refine W.eq (g2 := F0 m 172 ls []) rfl ?_
      refine lv_aload_n hC.1 hC.2.1 dX11_settles_172 rfl (lv_at hl 0 rfl) ?_
      refine x_get (v := .ref (xz G + 59)) hC xf_X11_18 (xce_57 G kp _ _) rfl hR dX11_settles_173 ?_
      refine lv_sipush (v := 168) hC.1 hC.2.1 dX11_settles_176 (by decide) ?_
      refine lv_iconst (v := 4) hC.1 hC.2.1 dX11_settles_179 (by decide) ?_
      refine lv_iload_n hC.1 hC.2.1 dX11_settles_180 rfl (lv_at hl 2 rfl) ?_
      refine lv_imul hC.1 hC.2.1 dX11_settles_181 ?_
      refine lv_iadd hC.1 hC.2.1 dX11_settles_182 ?_
      refine lv_iconst (v := 2) hC.1 hC.2.1 dX11_settles_183 (by decide) ?_
      refine lv_iadd hC.1 hC.2.1 dX11_settles_184 ?_
      refine lv_aload_n hC.1 hC.2.1 dX11_settles_185 rfl (lv_at hl 0 rfl) ?_
      refine lv_iload_n hC.1 hC.2.1 dX11_settles_186 rfl (lv_at hl 2 rfl) ?_
      refine x_cvl00 (rest := [.int ((168 + (4 * x3)) + 2), .ref (xz G + 59)]) hC xy_X11_gotten tw_1666 hf (fun _ h => M_X11_gotten G l kp N h) ⟨Nat.le_of_ble_eq_true rfl, Nat.le_of_ble_eq_true rfl⟩ (xce_57 G kp _ _) rfl rfl rfl (Nat.le_of_ble_eq_true rfl) hl.1 hR hS dX11_settles_187 ⟨Nat.le_refl _, Nat.le_refl _⟩ (fun v5 hf H locs hR hS => ?_)
      refine W.eq (g2 := F0 m 190 ls [.long v5, .int ((168 + (4 * x3)) + 2), .ref (xz G + 59)]) rfl ?_
      refine x_las hC (fun f => (xce_59 G kp _ f)) hR hS dX11_settles_190 hf (fun L6 hf H locs hR hS => ?_)
      refine lv_aload_n hC.1 hC.2.1 dX11_settles_191 rfl (lv_at hl 0 rfl) ?_
      refine x_get (v := .ref (xz G + 59)) hC xf_X11_18 (xce_57 G kp _ _) rfl hR dX11_settles_192 ?_
      refine lv_sipush (v := 168) hC.1 hC.2.1 dX11_settles_195 (by decide) ?_
      refine lv_iconst (v := 4) hC.1 hC.2.1 dX11_settles_198 (by decide) ?_
      refine lv_iload_n hC.1 hC.2.1 dX11_settles_199 rfl (lv_at hl 2 rfl) ?_
      refine lv_imul hC.1 hC.2.1 dX11_settles_200 ?_
      refine lv_iadd hC.1 hC.2.1 dX11_settles_201 ?_
      refine lv_iconst (v := 3) hC.1 hC.2.1 dX11_settles_202 (by decide) ?_
      refine lv_iadd hC.1 hC.2.1 dX11_settles_203 ?_
      refine lv_aload_n hC.1 hC.2.1 dX11_settles_204 rfl (lv_at hl 0 rfl) ?_
      refine x_get (v := .ref (xz G + 71)) hC xf_X11_55 (xce_57 G kp _ _) rfl hR dX11_settles_205 ?_
      refine W.eq (g2 := F0 m 208 ls [.ref (xz G + 71), .int ((168 + (4 * x3)) + 3), .ref (xz G + 59)]) rfl ?_
      refine lv_iload_n hC.1 hC.2.1 dX11_settles_208 rfl (lv_at hl 2 rfl) ?_
      refine x_lal hC (xce_71 G kp _ _) hR dX11_settles_209 hf (fun v7 hf => ?_)
      refine x_las hC (fun f => (xce_59 G kp _ f)) hR hS dX11_settles_210 hf (fun L8 hf H locs hR hS => ?_)
      refine x_iinc (d := 1) (lv' := fun y9 => [(3, .int y9), (0, .ref (xz G + 57)), (1, .int x1), (4, .long x4), (6, .int x6)]) (k := 2) hC hl dX11_settles_211 rfl (by decide) (Nat.le_of_ble_eq_true rfl) hf (fun _ => rfl) (fun y9 hf ls hl => ?_)
      refine lv_goto (tgt := 83) hC.1 hC.2.1 dX11_settles_214 (by decide) ?_
      exact hk83 y9 L8 hf _ _ _ hR hS (lv_sub hl [1, 2, 0] rfl)
    · refine lv_lload hC.1 hC.2.1 dX11_settles_115 (lv_at hl 3 rfl) ?_
      refine lv_aload_n hC.1 hC.2.1 dX11_settles_117 rfl (lv_at hl 0 rfl) ?_
      refine x_get (v := .ref (xz G + 73)) hC xf_X11_61 (xce_57 G kp _ _) rfl hR dX11_settles_118 ?_
      refine lv_bipush (v := 12) hC.1 hC.2.1 dX11_settles_121 (by decide) ?_
      refine lv_iload_n hC.1 hC.2.1 dX11_settles_123 rfl (lv_at hl 2 rfl) ?_
      refine lv_imul hC.1 hC.2.1 dX11_settles_124 ?_
      refine lv_iload hC.1 hC.2.1 dX11_settles_125 (lv_at hl 4 rfl) ?_
      refine lv_iadd hC.1 hC.2.1 dX11_settles_127 ?_
      refine x_lal hC (xce_73 G kp _ _) hR dX11_settles_128 hf (fun v10 hf => ?_)
      refine lv_ladd hC.1 hC.2.1 dX11_settles_129 ?_
      refine x_lst (lv' := fun y11 => [(4, .long y11), (0, .ref (xz G + 57)), (1, .int x1), (3, .int x3), (6, .int x6)]) hC hl dX11_settles_130 (Nat.le_of_ble_eq_true rfl) hf (fun _ => rfl) (fun y11 hf ls hl => ?_)
      refine W.eq (g2 := F0 m 132 ls []) rfl ?_
      refine x_iinc (d := 1) (lv' := fun y12 => [(6, .int y12), (4, .long y11), (0, .ref (xz G + 57)), (1, .int x1), (3, .int x3)]) (k := 4) hC hl dX11_settles_132 rfl (by decide) (Nat.le_of_ble_eq_true rfl) hf (fun _ => rfl) (fun y12 hf ls hl => ?_)
      refine lv_goto (tgt := 104) hC.1 hC.2.1 dX11_settles_135 (by decide) ?_
      exact hk104 y11 y12 hf _ _ _ hR hS (lv_sub hl [2, 3, 4, 1, 0] rfl)
set_option maxRecDepth 20000 in
theorem W_X11_settles_l83 {G : XG} {l : Launch} {kp : Bool} {p : Program} {e : Env} {s : State} {m : MethodId} {args : Array Value} {below : List Frame} {meth : Method} {c : Code} (hC : xC G p s m args meth c cX11_settles 7 RX11 none) (N : Nat) {I : xTI} {rI : xTI} {rL : xTL} {x1 : Int32} : ∀ (n : Nat) (x3 : Int32) (L : xTL) , xlp (F_X11_settles_b83 N I x1 ) n (x3, L) = some (rI, rL) → ∀ (H : Heap) (locs : List Loc) (ls : Array Slot), xRep G kp I L H → xS G s.heap H locs → lv_has ls 7 [(0, .ref (xz G + 57)), (1, .int x1), (3, .int x3)] → W p l e (xrm 88 2109) s m args below meth c H locs 0 0 (xMQ G kp below args s none rI rL) (F0 m 83 ls []) := by
  intro n
  induction n with
  | zero =>
    intro x3 L hf
    cases hf
  | succ n hk83 =>
    intro x3 L hf H locs ls hR hS hl
    rw [xlp_s, E_X11_settles_b83] at hf
    unfold F_X11_settles_c83 at hf
    refine lv_iload_n hC.1 hC.2.1 dX11_settles_83 rfl (lv_at hl 2 rfl) ?_
    refine lv_aload_n hC.1 hC.2.1 dX11_settles_84 rfl (lv_at hl 0 rfl) ?_
    refine x_get (v := .ref (xz G + 58)) hC xf_X11_14 (xce_57 G kp _ _) rfl hR dX11_settles_85 ?_
    refine lv_iconst (v := 1) hC.1 hC.2.1 dX11_settles_88 (by decide) ?_
    refine x_ial hC (xce_58 G kp _ _) hR dX11_settles_89 hf (fun v1 hf => ?_)
    refine x_ic_ge (tgt := 217) hC dX11_settles_90 (by decide) hf (fun hf => ?_) (fun hf => ?_)
    · refine lv_aload_n hC.1 hC.2.1 dX11_settles_217 rfl (lv_at hl 0 rfl) ?_
      refine x_get (v := .ref (xz G + 58)) hC xf_X11_14 (xce_57 G kp _ _) rfl hR dX11_settles_218 ?_
      refine lv_bipush (v := 9) hC.1 hC.2.1 dX11_settles_221 (by decide) ?_
      refine lv_iconst (v := 1) hC.1 hC.2.1 dX11_settles_223 (by decide) ?_
      refine x_ias hC (fun f => (xce_58 G kp f _)) hR hS dX11_settles_224 hf (fun I2 hf H locs hR hS => ?_)
      refine lv_iconst (v := 0) hC.1 hC.2.1 dX11_settles_225 (by decide) ?_
      refine lv_istore_n (lv' := [(3, .int 0), (0, .ref (xz G + 57)), (1, .int x1)]) hC.1 hC.2.1 dX11_settles_226 rfl hl (Nat.le_of_ble_eq_true rfl) rfl (fun ls hl => ?_)
      exact W_X11_settles_l227 hC N _ 0 I2 L hf _ _ _ hR hS (lv_sub hl [1, 2, 0] rfl)
    · refine lv_aload_n hC.1 hC.2.1 dX11_settles_93 rfl (lv_at hl 0 rfl) ?_
      refine x_get (v := .ref (xz G + 75)) hC xf_X11_67 (xce_57 G kp _ _) rfl hR dX11_settles_94 ?_
      refine lv_iload_n hC.1 hC.2.1 dX11_settles_97 rfl (lv_at hl 2 rfl) ?_
      refine x_lal hC (xce_75 G kp _ _) hR dX11_settles_98 hf (fun v3 hf => ?_)
      refine lv_lstore (lv' := [(4, .long v3), (0, .ref (xz G + 57)), (1, .int x1), (3, .int x3)]) hC.1 hC.2.1 dX11_settles_99 hl (Nat.le_of_ble_eq_true rfl) rfl (fun ls hl => ?_)
      refine lv_iconst (v := 0) hC.1 hC.2.1 dX11_settles_101 (by decide) ?_
      refine lv_istore (lv' := [(6, .int 0), (4, .long v3), (0, .ref (xz G + 57)), (1, .int x1), (3, .int x3)]) hC.1 hC.2.1 dX11_settles_102 hl (Nat.le_of_ble_eq_true rfl) rfl (fun ls hl => ?_)
      exact W_X11_settles_l104 hC N _ hk83 _ v3 0 hf _ _ _ hR hS (lv_sub hl [2, 3, 4, 1, 0] rfl)
set_option maxRecDepth 20000 in
theorem W_X11_settles_l59 {G : XG} {l : Launch} {kp : Bool} {p : Program} {e : Env} {s : State} {m : MethodId} {args : Array Value} {below : List Frame} {meth : Method} {c : Code} (hC : xC G p s m args meth c cX11_settles 7 RX11 none) (N : Nat) {I : xTI} {rI : xTI} {rL : xTL} {x1 : Int32} : ∀ (n : Nat) (x2 : Int32) (x3 : Int32) (L : xTL) , xlp (F_X11_settles_b59 N I x1 ) n (x2, x3, L) = some (rI, rL) → ∀ (H : Heap) (locs : List Loc) (ls : Array Slot), xRep G kp I L H → xS G s.heap H locs → lv_has ls 7 [(0, .ref (xz G + 57)), (1, .int x1), (2, .int x2), (3, .int x3)] → W p l e (xrm 88 2109) s m args below meth c H locs 0 0 (xMQ G kp below args s none rI rL) (F0 m 59 ls []) := by
  intro n
  induction n with
  | zero =>
    intro x2 x3 L hf
    cases hf
  | succ n hk59 =>
    intro x2 x3 L hf H locs ls hR hS hl
    rw [xlp_s, E_X11_settles_b59] at hf
    unfold F_X11_settles_c59 at hf
    refine lv_iload_n hC.1 hC.2.1 dX11_settles_59 rfl (lv_at hl 3 rfl) ?_
    refine lv_sipush (v := 1000) hC.1 hC.2.1 dX11_settles_60 (by decide) ?_
    refine x_ic_ge (tgt := 81) hC dX11_settles_63 (by decide) hf (fun hf => ?_) (fun hf => ?_)
    · refine lv_iconst (v := 0) hC.1 hC.2.1 dX11_settles_81 (by decide) ?_
      refine lv_istore_n (lv' := [(3, .int 0), (0, .ref (xz G + 57)), (1, .int x1), (2, .int x2)]) hC.1 hC.2.1 dX11_settles_82 rfl hl (Nat.le_of_ble_eq_true rfl) rfl (fun ls hl => ?_)
      exact W_X11_settles_l83 hC N _ 0 L hf _ _ _ hR hS (lv_sub hl [1, 2, 0] rfl)
    · refine lv_iload_n hC.1 hC.2.1 dX11_settles_66 rfl (lv_at hl 2 rfl) ?_
      refine x_if_eq (tgt := 81) hC dX11_settles_67 (by decide) hf (fun hf => ?_) (fun hf => ?_)
      · refine lv_iconst (v := 0) hC.1 hC.2.1 dX11_settles_81 (by decide) ?_
        refine lv_istore_n (lv' := [(3, .int 0), (0, .ref (xz G + 57)), (1, .int x1), (2, .int x2)]) hC.1 hC.2.1 dX11_settles_82 rfl hl (Nat.le_of_ble_eq_true rfl) rfl (fun ls hl => ?_)
        exact W_X11_settles_l83 hC N _ 0 L hf _ _ _ hR hS (lv_sub hl [1, 2, 0] rfl)
      · refine lv_aload_n hC.1 hC.2.1 dX11_settles_70 rfl (lv_at hl 0 rfl) ?_
        refine x_cvi01 (rest := []) hC xy_X11_pays tw_1662 hf (fun _ _ h => M_X11_pays G l kp N h) ⟨Nat.le_of_ble_eq_true rfl, Nat.le_of_ble_eq_true rfl⟩ (xce_57 G kp _ _) rfl rfl rfl (Nat.le_of_ble_eq_true rfl) hl.1 hR hS dX11_settles_71 ⟨Nat.le_refl _, Nat.le_refl _⟩ (fun v1 L2 hf H locs hR hS => ?_)
        refine lv_istore_n (lv' := [(2, .int v1), (0, .ref (xz G + 57)), (1, .int x1), (3, .int x3)]) hC.1 hC.2.1 dX11_settles_74 rfl hl (Nat.le_of_ble_eq_true rfl) rfl (fun ls hl => ?_)
        refine x_iinc (d := 1) (lv' := fun y3 => [(3, .int y3), (2, .int v1), (0, .ref (xz G + 57)), (1, .int x1)]) (k := 3) hC hl dX11_settles_75 rfl (by decide) (Nat.le_of_ble_eq_true rfl) hf (fun _ => rfl) (fun y3 hf ls hl => ?_)
        refine lv_goto (tgt := 59) hC.1 hC.2.1 dX11_settles_78 (by decide) ?_
        exact hk59 v1 y3 L2 hf _ _ _ hR hS (lv_sub hl [2, 3, 1, 0] rfl)
set_option maxRecDepth 20000 in
theorem W_X11_settles_l36 {G : XG} {l : Launch} {kp : Bool} {p : Program} {e : Env} {s : State} {m : MethodId} {args : Array Value} {below : List Frame} {meth : Method} {c : Code} (hC : xC G p s m args meth c cX11_settles 7 RX11 none) (N : Nat) {I : xTI} {rI : xTI} {rL : xTL} {x1 : Int32} : ∀ (n : Nat) (x2 : Int32) (L : xTL) , xlp (F_X11_settles_b36 N I x1 ) n (x2, L) = some (rI, rL) → ∀ (H : Heap) (locs : List Loc) (ls : Array Slot), xRep G kp I L H → xS G s.heap H locs → lv_has ls 7 [(0, .ref (xz G + 57)), (1, .int x1), (2, .int x2)] → W p l e (xrm 88 2109) s m args below meth c H locs 0 0 (xMQ G kp below args s none rI rL) (F0 m 36 ls []) := by
  intro n
  induction n with
  | zero =>
    intro x2 L hf
    cases hf
  | succ n hk36 =>
    intro x2 L hf H locs ls hR hS hl
    rw [xlp_s, E_X11_settles_b36] at hf
    unfold F_X11_settles_c36 at hf
    refine lv_iload_n hC.1 hC.2.1 dX11_settles_36 rfl (lv_at hl 2 rfl) ?_
    refine lv_bipush (v := 12) hC.1 hC.2.1 dX11_settles_37 (by decide) ?_
    refine x_ic_ge (tgt := 55) hC dX11_settles_39 (by decide) hf (fun hf => ?_) (fun hf => ?_)
    · refine lv_iconst (v := 1) hC.1 hC.2.1 dX11_settles_55 (by decide) ?_
      refine lv_istore_n (lv' := [(2, .int 1), (0, .ref (xz G + 57)), (1, .int x1)]) hC.1 hC.2.1 dX11_settles_56 rfl hl (Nat.le_of_ble_eq_true rfl) rfl (fun ls hl => ?_)
      refine lv_iconst (v := 0) hC.1 hC.2.1 dX11_settles_57 (by decide) ?_
      refine lv_istore_n (lv' := [(3, .int 0), (2, .int 1), (0, .ref (xz G + 57)), (1, .int x1)]) hC.1 hC.2.1 dX11_settles_58 rfl hl (Nat.le_of_ble_eq_true rfl) rfl (fun ls hl => ?_)
      exact W_X11_settles_l59 hC N _ 1 0 L hf _ _ _ hR hS (lv_sub hl [2, 3, 1, 0] rfl)
    · refine lv_aload_n hC.1 hC.2.1 dX11_settles_42 rfl (lv_at hl 0 rfl) ?_
      refine x_get (v := .ref (xz G + 75)) hC xf_X11_67 (xce_57 G kp _ _) rfl hR dX11_settles_43 ?_
      refine lv_iload_n hC.1 hC.2.1 dX11_settles_46 rfl (lv_at hl 2 rfl) ?_
      refine lv_lconst (v := 0) hC.1 hC.2.1 dX11_settles_47 (by decide) ?_
      refine x_las hC (fun f => (xce_75 G kp _ f)) hR hS dX11_settles_48 hf (fun L1 hf H locs hR hS => ?_)
      refine x_iinc (d := 1) (lv' := fun y2 => [(2, .int y2), (0, .ref (xz G + 57)), (1, .int x1)]) (k := 2) hC hl dX11_settles_49 rfl (by decide) (Nat.le_of_ble_eq_true rfl) hf (fun _ => rfl) (fun y2 hf ls hl => ?_)
      refine lv_goto (tgt := 36) hC.1 hC.2.1 dX11_settles_52 (by decide) ?_
      exact hk36 y2 L1 hf _ _ _ hR hS (lv_sub hl [1, 2, 0] rfl)
set_option maxRecDepth 20000 in
theorem W_X11_settles_l7 {G : XG} {l : Launch} {kp : Bool} {p : Program} {e : Env} {s : State} {m : MethodId} {args : Array Value} {below : List Frame} {meth : Method} {c : Code} (hC : xC G p s m args meth c cX11_settles 7 RX11 none) (N : Nat) {I : xTI} {rI : xTI} {rL : xTL} {x1 : Int32} : ∀ (n : Nat) (x2 : Int32) (L : xTL) , xlp (F_X11_settles_b7 N I x1 ) n (x2, L) = some (rI, rL) → ∀ (H : Heap) (locs : List Loc) (ls : Array Slot), xRep G kp I L H → xS G s.heap H locs → lv_has ls 7 [(0, .ref (xz G + 57)), (1, .int x1), (2, .int x2)] → W p l e (xrm 88 2109) s m args below meth c H locs 0 0 (xMQ G kp below args s none rI rL) (F0 m 7 ls []) := by
  intro n
  induction n with
  | zero =>
    intro x2 L hf
    cases hf
  | succ n hk7 =>
    intro x2 L hf H locs ls hR hS hl
    rw [xlp_s, E_X11_settles_b7] at hf
    unfold F_X11_settles_c7 at hf
    refine lv_iload_n hC.1 hC.2.1 dX11_settles_7 rfl (lv_at hl 2 rfl) ?_
    refine lv_sipush (v := 144) hC.1 hC.2.1 dX11_settles_8 (by decide) ?_
    refine x_ic_ge (tgt := 34) hC dX11_settles_11 (by decide) hf (fun hf => ?_) (fun hf => ?_)
    · refine lv_iconst (v := 0) hC.1 hC.2.1 dX11_settles_34 (by decide) ?_
      refine lv_istore_n (lv' := [(2, .int 0), (0, .ref (xz G + 57)), (1, .int x1)]) hC.1 hC.2.1 dX11_settles_35 rfl hl (Nat.le_of_ble_eq_true rfl) rfl (fun ls hl => ?_)
      exact W_X11_settles_l36 hC N _ 0 L hf _ _ _ hR hS (lv_sub hl [1, 2, 0] rfl)
    · refine lv_aload_n hC.1 hC.2.1 dX11_settles_14 rfl (lv_at hl 0 rfl) ?_
      refine x_get (v := .ref (xz G + 73)) hC xf_X11_61 (xce_57 G kp _ _) rfl hR dX11_settles_15 ?_
      refine lv_iload_n hC.1 hC.2.1 dX11_settles_18 rfl (lv_at hl 2 rfl) ?_
      refine lv_lconst (v := 0) hC.1 hC.2.1 dX11_settles_19 (by decide) ?_
      refine x_las hC (fun f => (xce_73 G kp _ f)) hR hS dX11_settles_20 hf (fun L1 hf H locs hR hS => ?_)
      refine lv_aload_n hC.1 hC.2.1 dX11_settles_21 rfl (lv_at hl 0 rfl) ?_
      refine x_get (v := .ref (xz G + 74)) hC xf_X11_64 (xce_57 G kp _ _) rfl hR dX11_settles_22 ?_
      refine lv_iload_n hC.1 hC.2.1 dX11_settles_25 rfl (lv_at hl 2 rfl) ?_
      refine lv_lconst (v := 0) hC.1 hC.2.1 dX11_settles_26 (by decide) ?_
      refine x_las hC (fun f => (xce_74 G kp _ f)) hR hS dX11_settles_27 hf (fun L2 hf H locs hR hS => ?_)
      refine x_iinc (d := 1) (lv' := fun y3 => [(2, .int y3), (0, .ref (xz G + 57)), (1, .int x1)]) (k := 2) hC hl dX11_settles_28 rfl (by decide) (Nat.le_of_ble_eq_true rfl) hf (fun _ => rfl) (fun y3 hf ls hl => ?_)
      refine W.eq (g2 := F0 m 31 ls []) rfl ?_
      refine lv_goto (tgt := 7) hC.1 hC.2.1 dX11_settles_31 (by decide) ?_
      exact hk7 y3 L2 hf _ _ _ hR hS (lv_sub hl [1, 2, 0] rfl)
set_option maxRecDepth 20000 in
theorem M_X11_settles (G : XG) (l : Launch) (kp : Bool) (N : Nat) {I : xTI} {L : xTL} {x1 : Int32} {rI : xTI} {rL : xTL} (hf : F_X11_settles N I L x1 = some (rI, rL)) : xMet G l yX11_settles cX11_settles 7 none 88 2109 kp [.ref (xz G + 57), .int x1] I L none rI rL := by
  refine xMet.ofW (by decide +kernel) (Nat.le_of_ble_eq_true rfl) ?_
  intro p e s m args below meth c hC H locs ls hR hS hl
  replace hC : xC G p s m args meth c cX11_settles 7 RX11 none := hC
  replace hl : lv_has ls 7 [(0, .ref (xz G + 57)), (1, .int x1)] := hl
  unfold F_X11_settles at hf
  refine lv_aload_n hC.1 hC.2.1 dX11_settles_0 rfl (lv_at hl 0 rfl) ?_
  refine lv_iload_n hC.1 hC.2.1 dX11_settles_1 rfl (lv_at hl 1 rfl) ?_
  refine x_cvv11 (rest := []) hC xy_X11_owed tw_1650 hf (fun _ _ h => M_X11_owed G l kp N h) ⟨Nat.le_of_ble_eq_true rfl, Nat.le_of_ble_eq_true rfl⟩ (xce_57 G kp _ _) rfl rfl rfl (Nat.le_of_ble_eq_true rfl) hl.1 hR hS dX11_settles_2 ⟨Nat.le_refl _, Nat.le_refl _⟩ (fun I1 L2 hf H locs hR hS => ?_)
  refine lv_iconst (v := 0) hC.1 hC.2.1 dX11_settles_5 (by decide) ?_
  refine lv_istore_n (lv' := [(2, .int 0), (0, .ref (xz G + 57)), (1, .int x1)]) hC.1 hC.2.1 dX11_settles_6 rfl hl (Nat.le_of_ble_eq_true rfl) rfl (fun ls hl => ?_)
  exact W_X11_settles_l7 hC N _ 0 L2 hf _ _ _ hR hS (lv_sub hl [1, 2, 0] rfl)
