set_option maxRecDepth 20000 in
theorem W_X11_tear_j12 {G : XG} {l : Launch} {kp : Bool} {p : Program} {e : Env} {s : State} {m : MethodId} {args : Array Value} {below : List Frame} {meth : Method} {c : Code} (hC : xC G p s m args meth c cX11_tear 2 RX11 (some .int)) {I : xTI} {L : xTL} {r : Int32} {rI : xTI} {t0 : Int32} (hf : F_X11_tear_j12 I t0 = some (r, rI)) : ∀ (H : Heap) (locs : List Loc) (ls : Array Slot), xRep G kp I L H → xS G s.heap H locs → lv_has ls 2 [(0, .ref (xz G + 57))] → W p l e (xrm 0 0) s m args below meth c H locs 0 0 (xMQ G kp below args s (some (.int r)) rI L) (F0 m 12 ls [.int t0]) := by
  intro H locs ls hR hS hl
  unfold F_X11_tear_j12 at hf
  refine lv_istore_n (lv' := [(1, .int t0), (0, .ref (xz G + 57))]) hC.1 hC.2.1 dX11_tear_12 rfl hl (Nat.le_of_ble_eq_true rfl) rfl (fun ls hl => ?_)
  refine lv_aload_n hC.1 hC.2.1 dX11_tear_13 rfl (lv_at hl 1 rfl) ?_
  refine lv_iconst (v := 0) hC.1 hC.2.1 dX11_tear_14 (by decide) ?_
  refine x_putZ hC xf_X11_394 xp_11_47 (fun f => xce_57 G kp f _) rfl (Nat.le_of_ble_eq_true rfl) hR hS dX11_tear_15 hf (fun I1 hf H locs hR hS => ?_)
  refine lv_iload_n hC.1 hC.2.1 dX11_tear_18 rfl (lv_at hl 0 rfl) ?_
  cases hf
  exact x_iret hC hR hS dX11_tear_19
set_option maxRecDepth 20000 in
theorem M_X11_tear (G : XG) (l : Launch) (kp : Bool) {I : xTI} {L : xTL} {r : Int32} {rI : xTI} (hf : F_X11_tear I = some (r, rI)) : xMet G l yX11_tear cX11_tear 2 (some .int) 0 0 kp [.ref (xz G + 57)] I L (some (.int r)) rI L := by
  refine xMet.ofW (by decide +kernel) (Nat.le_of_ble_eq_true rfl) ?_
  intro p e s m args below meth c hC H locs ls hR hS hl
  replace hC : xC G p s m args meth c cX11_tear 2 RX11 (some .int) := hC
  replace hl : lv_has ls 2 [(0, .ref (xz G + 57))] := hl
  unfold F_X11_tear at hf
  refine lv_aload_n hC.1 hC.2.1 dX11_tear_0 rfl (lv_at hl 0 rfl) ?_
  refine x_getI hC xf_X11_394 (xce_57 G kp _ _) rfl hR dX11_tear_1 hf (fun v1 hf => ?_)
  refine x_if_eq (tgt := 11) hC dX11_tear_4 (by decide) hf (fun hf => ?_) (fun hf => ?_)
  · refine lv_iconst (v := 0) hC.1 hC.2.1 dX11_tear_11 (by decide) ?_
    exact W_X11_tear_j12 hC hf _ _ _ hR hS (lv_sub hl [0] rfl)
  · refine lv_iconst (v := 1) hC.1 hC.2.1 dX11_tear_7 (by decide) ?_
    refine lv_goto (tgt := 12) hC.1 hC.2.1 dX11_tear_8 (by decide) ?_
    exact W_X11_tear_j12 hC hf _ _ _ hR hS (lv_sub hl [0] rfl)
set_option maxRecDepth 20000 in
theorem M_X11_row (G : XG) (l : Launch) (kp : Bool) {I : xTI} {L : xTL} {x1 : Int32} {r : Int32} {rI : xTI} (hf : F_X11_row I x1 = some (r, rI)) : xMet G l yX11_row cX11_row 2 (some .int) 1 22 kp [.ref (xz G + 57), .int x1] I L (some (.int r)) rI L := by
  refine xMet.ofW (by decide +kernel) (Nat.le_of_ble_eq_true rfl) ?_
  intro p e s m args below meth c hC H locs ls hR hS hl
  replace hC : xC G p s m args meth c cX11_row 2 RX11 (some .int) := hC
  replace hl : lv_has ls 2 [(0, .ref (xz G + 57)), (1, .int x1)] := hl
  unfold F_X11_row at hf
  refine lv_aload_n hC.1 hC.2.1 dX11_row_0 rfl (lv_at hl 0 rfl) ?_
  refine x_getI hC xf_X11_394 (xce_57 G kp _ _) rfl hR dX11_row_1 hf (fun v1 hf => ?_)
  refine x_if_ne (tgt := 14) hC dX11_row_4 (by decide) hf (fun hf => ?_) (fun hf => ?_)
  · refine lv_iload_n hC.1 hC.2.1 dX11_row_14 rfl (lv_at hl 1 rfl) ?_
    refine lv_iconst (v := 0) hC.1 hC.2.1 dX11_row_15 (by decide) ?_
    refine lv_aload_n hC.1 hC.2.1 dX11_row_16 rfl (lv_at hl 0 rfl) ?_
    refine x_getI hC xf_X11_397 (xce_57 G kp _ _) rfl hR dX11_row_17 hf (fun v2 hf => ?_)
    refine lv_iconst (v := 1) hC.1 hC.2.1 dX11_row_20 (by decide) ?_
    refine lv_isub hC.1 hC.2.1 dX11_row_21 ?_
    refine x_csi00 (rest := []) hC xy_X11_in tw_1335 hf (fun _ h => M_X11_in G l kp h) ⟨Nat.le_of_ble_eq_true rfl, Nat.le_of_ble_eq_true rfl⟩ rfl rfl (Nat.le_of_ble_eq_true rfl) hl.1 hR hS dX11_row_22 ⟨Nat.le_refl _, Nat.le_refl _⟩ (fun v3 hf H locs hR hS => ?_)
    refine x_if_eq (tgt := 37) hC dX11_row_25 (by decide) hf (fun hf => ?_) (fun hf => ?_)
    · refine lv_aload_n hC.1 hC.2.1 dX11_row_37 rfl (lv_at hl 0 rfl) ?_
      refine lv_bipush (v := (-3)) hC.1 hC.2.1 dX11_row_38 (by decide) ?_
      refine x_cvi10 (rest := []) hC xy_X11_hush tw_1391 hf (fun _ _ h => M_X11_hush G l kp h) ⟨Nat.le_of_ble_eq_true rfl, Nat.le_of_ble_eq_true rfl⟩ (xce_57 G kp _ _) rfl rfl rfl (Nat.le_of_ble_eq_true rfl) hl.1 hR hS dX11_row_40 ⟨Nat.le_refl _, Nat.le_refl _⟩ (fun v4 I5 hf H locs hR hS => ?_)
      cases hf
      exact x_iret hC hR hS dX11_row_43
    · refine lv_aload_n hC.1 hC.2.1 dX11_row_28 rfl (lv_at hl 0 rfl) ?_
      refine x_get (v := .ref (xz G + 86)) hC xf_X11_101 (xce_57 G kp _ _) rfl hR dX11_row_29 ?_
      refine lv_iload_n hC.1 hC.2.1 dX11_row_32 rfl (lv_at hl 1 rfl) ?_
      refine x_ial hC (xce_86 G kp _ _) hR dX11_row_33 hf (fun v6 hf => ?_)
      refine lv_goto (tgt := 43) hC.1 hC.2.1 dX11_row_34 (by decide) ?_
      cases hf
      exact x_iret hC hR hS dX11_row_43
  · refine lv_aload_n hC.1 hC.2.1 dX11_row_7 rfl (lv_at hl 0 rfl) ?_
    refine lv_bipush (v := (-2)) hC.1 hC.2.1 dX11_row_8 (by decide) ?_
    refine x_cvi10 (rest := []) hC xy_X11_hush tw_1391 hf (fun _ _ h => M_X11_hush G l kp h) ⟨Nat.le_of_ble_eq_true rfl, Nat.le_of_ble_eq_true rfl⟩ (xce_57 G kp _ _) rfl rfl rfl (Nat.le_of_ble_eq_true rfl) hl.1 hR hS dX11_row_10 ⟨Nat.le_refl _, Nat.le_refl _⟩ (fun v7 I8 hf H locs hR hS => ?_)
    cases hf
    exact x_iret hC hR hS dX11_row_13
set_option maxRecDepth 20000 in
theorem W_X11_copy_j53 {G : XG} {l : Launch} {kp : Bool} {p : Program} {e : Env} {s : State} {m : MethodId} {args : Array Value} {below : List Frame} {meth : Method} {c : Code} (hC : xC G p s m args meth c cX11_copy 5 RX11 (some .int)) (N : Nat) {I : xTI} {L : xTL} {r : Int32} {rI : xTI} (hf : F_X11_copy_j53 N I = some (r, rI)) : ∀ (H : Heap) (locs : List Loc) (ls : Array Slot), xRep G kp I L H → xS G s.heap H locs → lv_has ls 5 [(0, .ref (xz G + 57))] → W p l e (xrm 1 21) s m args below meth c H locs 0 0 (xMQ G kp below args s (some (.int r)) rI L) (F0 m 53 ls []) := by
  intro H locs ls hR hS hl
  unfold F_X11_copy_j53 at hf
  refine lv_aload_n hC.1 hC.2.1 dX11_copy_53 rfl (lv_at hl 0 rfl) ?_
  refine lv_bipush (v := (-6)) hC.1 hC.2.1 dX11_copy_54 (by decide) ?_
  refine x_cvi10 (rest := []) hC xy_X11_refuse tw_1338 hf (fun _ _ h => M_X11_refuse G l kp h) ⟨Nat.le_of_ble_eq_true rfl, Nat.le_of_ble_eq_true rfl⟩ (xce_57 G kp _ _) rfl rfl rfl (Nat.le_of_ble_eq_true rfl) hl.1 hR hS dX11_copy_56 ⟨Nat.le_refl _, Nat.le_refl _⟩ (fun v1 I2 hf H locs hR hS => ?_)
  cases hf
  exact x_iret hC hR hS dX11_copy_59
set_option maxRecDepth 20000 in
theorem W_X11_copy_l103 {G : XG} {l : Launch} {kp : Bool} {p : Program} {e : Env} {s : State} {m : MethodId} {args : Array Value} {below : List Frame} {meth : Method} {c : Code} (hC : xC G p s m args meth c cX11_copy 5 RX11 (some .int)) (N : Nat) {L : xTL} {r : Int32} {rI : xTI} {x1 : Int32} {x2 : Int32} {x3 : Int32} : ∀ (n : Nat) (x4 : Int32) (I : xTI) , xlp (F_X11_copy_b103 N x1 x2 x3 ) n (x4, I) = some (r, rI) → ∀ (H : Heap) (locs : List Loc) (ls : Array Slot), xRep G kp I L H → xS G s.heap H locs → lv_has ls 5 [(0, .ref (xz G + 57)), (1, .int x1), (2, .int x2), (3, .int x3), (4, .int x4)] → W p l e (xrm 1 21) s m args below meth c H locs 0 0 (xMQ G kp below args s (some (.int r)) rI L) (F0 m 103 ls []) := by
  intro n
  induction n with
  | zero =>
    intro x4 I hf
    cases hf
  | succ n hk103 =>
    intro x4 I hf H locs ls hR hS hl
    replace hf : F_X11_copy_c103 N x1 x2 x3 x4 I (xlp (F_X11_copy_b103 N x1 x2 x3 ) n) = some (r, rI) := hf
    unfold F_X11_copy_c103 at hf
    refine lv_iload hC.1 hC.2.1 dX11_copy_103 (lv_at hl 4 rfl) ?_
    refine x_if_lt (tgt := 137) hC dX11_copy_105 (by decide) hf (fun hf => ?_) (fun hf => ?_)
    · refine lv_iload_n hC.1 hC.2.1 dX11_copy_137 rfl (lv_at hl 3 rfl) ?_
      cases hf
      exact x_iret hC hR hS dX11_copy_138
    · refine lv_iload_n hC.1 hC.2.1 dX11_copy_108 rfl (lv_at hl 1 rfl) ?_
      refine lv_iload_n hC.1 hC.2.1 dX11_copy_109 rfl (lv_at hl 2 rfl) ?_
      refine x_ic_ge (tgt := 137) hC dX11_copy_110 (by decide) hf (fun hf => ?_) (fun hf => ?_)
      · refine lv_iload_n hC.1 hC.2.1 dX11_copy_137 rfl (lv_at hl 3 rfl) ?_
        cases hf
        exact x_iret hC hR hS dX11_copy_138
      · refine lv_aload_n hC.1 hC.2.1 dX11_copy_113 rfl (lv_at hl 0 rfl) ?_
        refine x_get (v := .ref (xz G + 86)) hC xf_X11_101 (xce_57 G kp _ _) rfl hR dX11_copy_114 ?_
        refine lv_iload_n hC.1 hC.2.1 dX11_copy_117 rfl (lv_at hl 2 rfl) ?_
        refine lv_iload hC.1 hC.2.1 dX11_copy_118 (lv_at hl 4 rfl) ?_
        refine lv_iadd hC.1 hC.2.1 dX11_copy_120 ?_
        refine lv_aload_n hC.1 hC.2.1 dX11_copy_121 rfl (lv_at hl 0 rfl) ?_
        refine x_get (v := .ref (xz G + 86)) hC xf_X11_101 (xce_57 G kp _ _) rfl hR dX11_copy_122 ?_
        refine lv_iload_n hC.1 hC.2.1 dX11_copy_125 rfl (lv_at hl 1 rfl) ?_
        refine lv_iload hC.1 hC.2.1 dX11_copy_126 (lv_at hl 4 rfl) ?_
        refine lv_iadd hC.1 hC.2.1 dX11_copy_128 ?_
        refine x_ial hC (xce_86 G kp _ _) hR dX11_copy_129 hf (fun v1 hf => ?_)
        refine x_ias hC (fun f => xce_86 G kp f _) hR hS dX11_copy_130 hf (fun I2 hf H locs hR hS => ?_)
        refine x_iinc (d := (-1)) (lv' := fun y3 => [(4, .int y3), (0, .ref (xz G + 57)), (1, .int x1), (2, .int x2), (3, .int x3)]) (k := 4) hC hl dX11_copy_131 rfl (by decide) (Nat.le_of_ble_eq_true rfl) hf (fun _ => rfl) (fun y3 hf ls hl => ?_)
        refine lv_goto (tgt := 103) hC.1 hC.2.1 dX11_copy_134 (by decide) ?_
        exact hk103 y3 I2 hf _ _ _ hR hS (lv_sub hl [1, 2, 3, 4, 0] rfl)
set_option maxRecDepth 20000 in
theorem W_X11_copy_j98 {G : XG} {l : Launch} {kp : Bool} {p : Program} {e : Env} {s : State} {m : MethodId} {args : Array Value} {below : List Frame} {meth : Method} {c : Code} (hC : xC G p s m args meth c cX11_copy 5 RX11 (some .int)) (N : Nat) {I : xTI} {L : xTL} {r : Int32} {rI : xTI} {x1 : Int32} {x2 : Int32} {x3 : Int32} (hf : F_X11_copy_j98 N I x1 x2 x3 = some (r, rI)) : ∀ (H : Heap) (locs : List Loc) (ls : Array Slot), xRep G kp I L H → xS G s.heap H locs → lv_has ls 5 [(0, .ref (xz G + 57)), (1, .int x1), (2, .int x2), (3, .int x3)] → W p l e (xrm 1 21) s m args below meth c H locs 0 0 (xMQ G kp below args s (some (.int r)) rI L) (F0 m 98 ls []) := by
  intro H locs ls hR hS hl
  unfold F_X11_copy_j98 at hf
  refine lv_iload_n hC.1 hC.2.1 dX11_copy_98 rfl (lv_at hl 3 rfl) ?_
  refine lv_iconst (v := 1) hC.1 hC.2.1 dX11_copy_99 (by decide) ?_
  refine lv_isub hC.1 hC.2.1 dX11_copy_100 ?_
  refine x_ist (lv' := fun y1 => [(4, .int y1), (0, .ref (xz G + 57)), (1, .int x1), (2, .int x2), (3, .int x3)]) hC hl dX11_copy_101 (Nat.le_of_ble_eq_true rfl) hf (fun _ => rfl) (fun y1 hf ls hl => ?_)
  exact W_X11_copy_l103 hC N _ y1 I hf _ _ _ hR hS (lv_sub hl [1, 2, 3, 4, 0] rfl)
set_option maxRecDepth 20000 in
theorem W_X11_copy_l63 {G : XG} {l : Launch} {kp : Bool} {p : Program} {e : Env} {s : State} {m : MethodId} {args : Array Value} {below : List Frame} {meth : Method} {c : Code} (hC : xC G p s m args meth c cX11_copy 5 RX11 (some .int)) (N : Nat) {L : xTL} {r : Int32} {rI : xTI} {x1 : Int32} {x2 : Int32} {x3 : Int32} : ∀ (n : Nat) (x4 : Int32) (I : xTI) , xlp (F_X11_copy_b63 N x1 x2 x3 ) n (x4, I) = some (r, rI) → ∀ (H : Heap) (locs : List Loc) (ls : Array Slot), xRep G kp I L H → xS G s.heap H locs → lv_has ls 5 [(0, .ref (xz G + 57)), (1, .int x1), (2, .int x2), (3, .int x3), (4, .int x4)] → W p l e (xrm 1 21) s m args below meth c H locs 0 0 (xMQ G kp below args s (some (.int r)) rI L) (F0 m 63 ls []) := by
  intro n
  induction n with
  | zero =>
    intro x4 I hf
    cases hf
  | succ n hk63 =>
    intro x4 I hf H locs ls hR hS hl
    replace hf : F_X11_copy_c63 N x1 x2 x3 x4 I (xlp (F_X11_copy_b63 N x1 x2 x3 ) n) = some (r, rI) := hf
    unfold F_X11_copy_c63 at hf
    refine lv_iload hC.1 hC.2.1 dX11_copy_63 (lv_at hl 4 rfl) ?_
    refine lv_iload_n hC.1 hC.2.1 dX11_copy_65 rfl (lv_at hl 3 rfl) ?_
    refine x_ic_ge (tgt := 98) hC dX11_copy_66 (by decide) hf (fun hf => ?_) (fun hf => ?_)
    · exact W_X11_copy_j98 hC N hf _ _ _ hR hS (lv_sub hl [0, 1, 2, 3] rfl)
    · refine lv_iload_n hC.1 hC.2.1 dX11_copy_69 rfl (lv_at hl 1 rfl) ?_
      refine lv_iload_n hC.1 hC.2.1 dX11_copy_70 rfl (lv_at hl 2 rfl) ?_
      refine x_ic_lt (tgt := 98) hC dX11_copy_71 (by decide) hf (fun hf => ?_) (fun hf => ?_)
      · exact W_X11_copy_j98 hC N hf _ _ _ hR hS (lv_sub hl [0, 1, 2, 3] rfl)
      · refine lv_aload_n hC.1 hC.2.1 dX11_copy_74 rfl (lv_at hl 0 rfl) ?_
        refine x_get (v := .ref (xz G + 86)) hC xf_X11_101 (xce_57 G kp _ _) rfl hR dX11_copy_75 ?_
        refine lv_iload_n hC.1 hC.2.1 dX11_copy_78 rfl (lv_at hl 2 rfl) ?_
        refine lv_iload hC.1 hC.2.1 dX11_copy_79 (lv_at hl 4 rfl) ?_
        refine lv_iadd hC.1 hC.2.1 dX11_copy_81 ?_
        refine lv_aload_n hC.1 hC.2.1 dX11_copy_82 rfl (lv_at hl 0 rfl) ?_
        refine x_get (v := .ref (xz G + 86)) hC xf_X11_101 (xce_57 G kp _ _) rfl hR dX11_copy_83 ?_
        refine lv_iload_n hC.1 hC.2.1 dX11_copy_86 rfl (lv_at hl 1 rfl) ?_
        refine lv_iload hC.1 hC.2.1 dX11_copy_87 (lv_at hl 4 rfl) ?_
        refine lv_iadd hC.1 hC.2.1 dX11_copy_89 ?_
        refine x_ial hC (xce_86 G kp _ _) hR dX11_copy_90 hf (fun v1 hf => ?_)
        refine x_ias hC (fun f => xce_86 G kp f _) hR hS dX11_copy_91 hf (fun I2 hf H locs hR hS => ?_)
        refine x_iinc (d := 1) (lv' := fun y3 => [(4, .int y3), (0, .ref (xz G + 57)), (1, .int x1), (2, .int x2), (3, .int x3)]) (k := 4) hC hl dX11_copy_92 rfl (by decide) (Nat.le_of_ble_eq_true rfl) hf (fun _ => rfl) (fun y3 hf ls hl => ?_)
        refine lv_goto (tgt := 63) hC.1 hC.2.1 dX11_copy_95 (by decide) ?_
        exact hk63 y3 I2 hf _ _ _ hR hS (lv_sub hl [1, 2, 3, 4, 0] rfl)
set_option maxRecDepth 20000 in
theorem M_X11_copy (G : XG) (l : Launch) (kp : Bool) (N : Nat) {I : xTI} {L : xTL} {x1 : Int32} {x2 : Int32} {x3 : Int32} {r : Int32} {rI : xTI} (hf : F_X11_copy N I x1 x2 x3 = some (r, rI)) : xMet G l yX11_copy cX11_copy 5 (some .int) 1 21 kp [.ref (xz G + 57), .int x1, .int x2, .int x3] I L (some (.int r)) rI L := by
  refine xMet.ofW (by decide +kernel) (Nat.le_of_ble_eq_true rfl) ?_
  intro p e s m args below meth c hC H locs ls hR hS hl
  replace hC : xC G p s m args meth c cX11_copy 5 RX11 (some .int) := hC
  replace hl : lv_has ls 5 [(0, .ref (xz G + 57)), (1, .int x1), (2, .int x2), (3, .int x3)] := hl
  unfold F_X11_copy at hf
  refine lv_aload_n hC.1 hC.2.1 dX11_copy_0 rfl (lv_at hl 0 rfl) ?_
  refine x_getI hC xf_X11_394 (xce_57 G kp _ _) rfl hR dX11_copy_1 hf (fun v1 hf => ?_)
  refine x_if_ne (tgt := 14) hC dX11_copy_4 (by decide) hf (fun hf => ?_) (fun hf => ?_)
  · refine lv_iload_n hC.1 hC.2.1 dX11_copy_14 rfl (lv_at hl 3 rfl) ?_
    refine x_if_ge (tgt := 25) hC dX11_copy_15 (by decide) hf (fun hf => ?_) (fun hf => ?_)
    · refine lv_iload_n hC.1 hC.2.1 dX11_copy_25 rfl (lv_at hl 1 rfl) ?_
      refine x_if_lt (tgt := 53) hC dX11_copy_26 (by decide) hf (fun hf => ?_) (fun hf => ?_)
      · exact W_X11_copy_j53 hC N hf _ _ _ hR hS (lv_sub hl [0] rfl)
      · refine lv_iload_n hC.1 hC.2.1 dX11_copy_29 rfl (lv_at hl 2 rfl) ?_
        refine x_if_lt (tgt := 53) hC dX11_copy_30 (by decide) hf (fun hf => ?_) (fun hf => ?_)
        · exact W_X11_copy_j53 hC N hf _ _ _ hR hS (lv_sub hl [0] rfl)
        · refine lv_iload_n hC.1 hC.2.1 dX11_copy_33 rfl (lv_at hl 1 rfl) ?_
          refine lv_aload_n hC.1 hC.2.1 dX11_copy_34 rfl (lv_at hl 0 rfl) ?_
          refine x_getI hC xf_X11_397 (xce_57 G kp _ _) rfl hR dX11_copy_35 hf (fun v2 hf => ?_)
          refine lv_iload_n hC.1 hC.2.1 dX11_copy_38 rfl (lv_at hl 3 rfl) ?_
          refine lv_isub hC.1 hC.2.1 dX11_copy_39 ?_
          refine x_ic_gt (tgt := 53) hC dX11_copy_40 (by decide) hf (fun hf => ?_) (fun hf => ?_)
          · exact W_X11_copy_j53 hC N hf _ _ _ hR hS (lv_sub hl [0] rfl)
          · refine lv_iload_n hC.1 hC.2.1 dX11_copy_43 rfl (lv_at hl 2 rfl) ?_
            refine lv_aload_n hC.1 hC.2.1 dX11_copy_44 rfl (lv_at hl 0 rfl) ?_
            refine x_getI hC xf_X11_397 (xce_57 G kp _ _) rfl hR dX11_copy_45 hf (fun v3 hf => ?_)
            refine lv_iload_n hC.1 hC.2.1 dX11_copy_48 rfl (lv_at hl 3 rfl) ?_
            refine lv_isub hC.1 hC.2.1 dX11_copy_49 ?_
            refine x_ic_le (tgt := 60) hC dX11_copy_50 (by decide) hf (fun hf => ?_) (fun hf => ?_)
            · refine lv_iconst (v := 0) hC.1 hC.2.1 dX11_copy_60 (by decide) ?_
              refine lv_istore (lv' := [(4, .int 0), (0, .ref (xz G + 57)), (1, .int x1), (2, .int x2), (3, .int x3)]) hC.1 hC.2.1 dX11_copy_61 hl (Nat.le_of_ble_eq_true rfl) rfl (fun ls hl => ?_)
              exact W_X11_copy_l63 hC N _ 0 I hf _ _ _ hR hS (lv_sub hl [1, 2, 3, 4, 0] rfl)
            · exact W_X11_copy_j53 hC N hf _ _ _ hR hS (lv_sub hl [0] rfl)
    · refine lv_aload_n hC.1 hC.2.1 dX11_copy_18 rfl (lv_at hl 0 rfl) ?_
      refine lv_bipush (v := (-4)) hC.1 hC.2.1 dX11_copy_19 (by decide) ?_
      refine x_cvi10 (rest := []) hC xy_X11_refuse tw_1338 hf (fun _ _ h => M_X11_refuse G l kp h) ⟨Nat.le_of_ble_eq_true rfl, Nat.le_of_ble_eq_true rfl⟩ (xce_57 G kp _ _) rfl rfl rfl (Nat.le_of_ble_eq_true rfl) hl.1 hR hS dX11_copy_21 ⟨Nat.le_refl _, Nat.le_refl _⟩ (fun v4 I5 hf H locs hR hS => ?_)
      cases hf
      exact x_iret hC hR hS dX11_copy_24
  · refine lv_aload_n hC.1 hC.2.1 dX11_copy_7 rfl (lv_at hl 0 rfl) ?_
    refine lv_bipush (v := (-2)) hC.1 hC.2.1 dX11_copy_8 (by decide) ?_
    refine x_cvi10 (rest := []) hC xy_X11_refuse tw_1338 hf (fun _ _ h => M_X11_refuse G l kp h) ⟨Nat.le_of_ble_eq_true rfl, Nat.le_of_ble_eq_true rfl⟩ (xce_57 G kp _ _) rfl rfl rfl (Nat.le_of_ble_eq_true rfl) hl.1 hR hS dX11_copy_10 ⟨Nat.le_refl _, Nat.le_refl _⟩ (fun v6 I7 hf H locs hR hS => ?_)
    cases hf
    exact x_iret hC hR hS dX11_copy_13
