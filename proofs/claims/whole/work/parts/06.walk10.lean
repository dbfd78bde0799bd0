set_option maxRecDepth 20000 in
theorem W_X11_firstOf_l4 {G : XG} {l : Launch} {kp : Bool} {p : Program} {e : Env} {s : State} {m : MethodId} {args : Array Value} {below : List Frame} {meth : Method} {c : Code} (hC : xC G p s m args meth c cX11_firstOf 3 RX11 (some .int)) (N : Nat) {I : xTI} {L : xTL} {r : Int32} : ∀ (n : Nat) (x1 : Int32) (x2 : Int32) , xlp (F_X11_firstOf_b4 N I ) n (x1, x2) = some r → ∀ (H : Heap) (locs : List Loc) (ls : Array Slot), xRep G kp I L H → xS G s.heap H locs → lv_has ls 3 [(0, .ref (xz G + 57)), (1, .int x1), (2, .int x2)] → W p l e (xrm 1 22) s m args below meth c H locs 0 0 (xMQ G kp below args s (some (.int r)) I L) (F0 m 4 ls []) := by
  intro n
  induction n with
  | zero =>
    intro x1 x2 hf
    cases hf
  | succ n hk4 =>
    intro x1 x2 hf H locs ls hR hS hl
    replace hf : F_X11_firstOf_c4 N I x1 x2 (xlp (F_X11_firstOf_b4 N I ) n) = some r := hf
    unfold F_X11_firstOf_c4 at hf
    refine lv_iload_n hC.1 hC.2.1 dX11_firstOf_4 rfl (lv_at hl 2 rfl) ?_
    refine lv_bipush (v := 60) hC.1 hC.2.1 dX11_firstOf_5 (by decide) ?_
    refine x_ic_ge (tgt := 49) hC dX11_firstOf_7 (by decide) hf (fun hf => ?_) (fun hf => ?_)
    · refine lv_iload_n hC.1 hC.2.1 dX11_firstOf_49 rfl (lv_at hl 1 rfl) ?_
      cases hf
      exact x_iret hC hR hS dX11_firstOf_50
    · refine lv_aload_n hC.1 hC.2.1 dX11_firstOf_10 rfl (lv_at hl 0 rfl) ?_
      refine x_get (v := .ref (xz G + 83)) hC xf_X11_92 (xce_57 G kp _ _) rfl hR dX11_firstOf_11 ?_
      refine lv_iload_n hC.1 hC.2.1 dX11_firstOf_14 rfl (lv_at hl 2 rfl) ?_
      refine x_zal hC (xce_83 G kp _ _) hR dX11_firstOf_15 hf (fun v1 hf => ?_)
      refine x_if_ne (tgt := 43) hC dX11_firstOf_16 (by decide) hf (fun hf => ?_) (fun hf => ?_)
      · refine x_iinc (d := 1) (lv' := fun y2 => [(2, .int y2), (0, .ref (xz G + 57)), (1, .int x1)]) (k := 2) hC hl dX11_firstOf_43 rfl (by decide) (Nat.le_of_ble_eq_true rfl) hf (fun _ => rfl) (fun y2 hf ls hl => ?_)
        refine lv_goto (tgt := 4) hC.1 hC.2.1 dX11_firstOf_46 (by decide) ?_
        exact hk4 x1 y2 hf _ _ _ hR hS (lv_sub hl [1, 2, 0] rfl)
      · refine lv_iload_n hC.1 hC.2.1 dX11_firstOf_19 rfl (lv_at hl 1 rfl) ?_
        refine lv_iconst (v := (-1)) hC.1 hC.2.1 dX11_firstOf_20 (by decide) ?_
        refine x_ic_eq (tgt := 41) hC dX11_firstOf_21 (by decide) hf (fun hf => ?_) (fun hf => ?_)
        · refine lv_iload_n hC.1 hC.2.1 dX11_firstOf_41 rfl (lv_at hl 2 rfl) ?_
          refine lv_istore_n (lv' := [(1, .int x2), (0, .ref (xz G + 57)), (2, .int x2)]) hC.1 hC.2.1 dX11_firstOf_42 rfl hl (Nat.le_of_ble_eq_true rfl) rfl (fun ls hl => ?_)
          refine x_iinc (d := 1) (lv' := fun y3 => [(2, .int y3), (1, .int x2), (0, .ref (xz G + 57))]) (k := 2) hC hl dX11_firstOf_43 rfl (by decide) (Nat.le_of_ble_eq_true rfl) hf (fun _ => rfl) (fun y3 hf ls hl => ?_)
          refine lv_goto (tgt := 4) hC.1 hC.2.1 dX11_firstOf_46 (by decide) ?_
          exact hk4 x2 y3 hf _ _ _ hR hS (lv_sub hl [2, 1, 0] rfl)
        · refine lv_aload_n hC.1 hC.2.1 dX11_firstOf_24 rfl (lv_at hl 0 rfl) ?_
          refine lv_iload_n hC.1 hC.2.1 dX11_firstOf_25 rfl (lv_at hl 2 rfl) ?_
          refine lv_bipush (v := 6) hC.1 hC.2.1 dX11_firstOf_26 (by decide) ?_
          refine x_cvi00 (rest := []) hC xy_X11_bg tw_1383 hf (fun _ h => M_X11_bg G l kp h) ⟨Nat.le_of_ble_eq_true rfl, Nat.le_of_ble_eq_true rfl⟩ (xce_57 G kp _ _) rfl rfl rfl (Nat.le_of_ble_eq_true rfl) hl.1 hR hS dX11_firstOf_28 ⟨Nat.le_refl _, Nat.le_refl _⟩ (fun v4 hf H locs hR hS => ?_)
          refine lv_aload_n hC.1 hC.2.1 dX11_firstOf_31 rfl (lv_at hl 0 rfl) ?_
          refine lv_iload_n hC.1 hC.2.1 dX11_firstOf_32 rfl (lv_at hl 1 rfl) ?_
          refine lv_bipush (v := 6) hC.1 hC.2.1 dX11_firstOf_33 (by decide) ?_
          refine x_cvi00 (rest := [.int v4]) hC xy_X11_bg tw_1383 hf (fun _ h => M_X11_bg G l kp h) ⟨Nat.le_of_ble_eq_true rfl, Nat.le_of_ble_eq_true rfl⟩ (xce_57 G kp _ _) rfl rfl rfl (Nat.le_of_ble_eq_true rfl) hl.1 hR hS dX11_firstOf_35 ⟨Nat.le_refl _, Nat.le_refl _⟩ (fun v5 hf H locs hR hS => ?_)
          refine x_ic_ge (tgt := 43) hC dX11_firstOf_38 (by decide) hf (fun hf => ?_) (fun hf => ?_)
          · refine x_iinc (d := 1) (lv' := fun y6 => [(2, .int y6), (0, .ref (xz G + 57)), (1, .int x1)]) (k := 2) hC hl dX11_firstOf_43 rfl (by decide) (Nat.le_of_ble_eq_true rfl) hf (fun _ => rfl) (fun y6 hf ls hl => ?_)
            refine lv_goto (tgt := 4) hC.1 hC.2.1 dX11_firstOf_46 (by decide) ?_
            exact hk4 x1 y6 hf _ _ _ hR hS (lv_sub hl [1, 2, 0] rfl)
          · refine lv_iload_n hC.1 hC.2.1 dX11_firstOf_41 rfl (lv_at hl 2 rfl) ?_
            refine lv_istore_n (lv' := [(1, .int x2), (0, .ref (xz G + 57)), (2, .int x2)]) hC.1 hC.2.1 dX11_firstOf_42 rfl hl (Nat.le_of_ble_eq_true rfl) rfl (fun ls hl => ?_)
            refine x_iinc (d := 1) (lv' := fun y7 => [(2, .int y7), (1, .int x2), (0, .ref (xz G + 57))]) (k := 2) hC hl dX11_firstOf_43 rfl (by decide) (Nat.le_of_ble_eq_true rfl) hf (fun _ => rfl) (fun y7 hf ls hl => ?_)
            refine lv_goto (tgt := 4) hC.1 hC.2.1 dX11_firstOf_46 (by decide) ?_
            exact hk4 x2 y7 hf _ _ _ hR hS (lv_sub hl [2, 1, 0] rfl)
set_option maxRecDepth 20000 in
theorem M_X11_firstOf (G : XG) (l : Launch) (kp : Bool) (N : Nat) {I : xTI} {L : xTL} {r : Int32} (hf : F_X11_firstOf N I = some r) : xMet G l yX11_firstOf cX11_firstOf 3 (some .int) 1 22 kp [.ref (xz G + 57)] I L (some (.int r)) I L := by
  refine xMet.ofW (by decide +kernel) (Nat.le_of_ble_eq_true rfl) ?_
  intro p e s m args below meth c hC H locs ls hR hS hl
  replace hC : xC G p s m args meth c cX11_firstOf 3 RX11 (some .int) := hC
  replace hl : lv_has ls 3 [(0, .ref (xz G + 57))] := hl
  unfold F_X11_firstOf at hf
  refine lv_iconst (v := (-1)) hC.1 hC.2.1 dX11_firstOf_0 (by decide) ?_
  refine x_istn (lv' := fun y1 => [(1, .int y1), (0, .ref (xz G + 57))]) hC hl dX11_firstOf_1 rfl (Nat.le_of_ble_eq_true rfl) hf (fun _ => rfl) (fun y1 hf ls hl => ?_)
  refine lv_iconst (v := 0) hC.1 hC.2.1 dX11_firstOf_2 (by decide) ?_
  refine lv_istore_n (lv' := [(2, .int 0), (1, .int y1), (0, .ref (xz G + 57))]) hC.1 hC.2.1 dX11_firstOf_3 rfl hl (Nat.le_of_ble_eq_true rfl) rfl (fun ls hl => ?_)
  exact W_X11_firstOf_l4 hC N _ y1 0 hf _ _ _ hR hS (lv_sub hl [2, 1, 0] rfl)
set_option maxRecDepth 20000 in
theorem W_X11_rolling_j14 {G : XG} {l : Launch} {kp : Bool} {p : Program} {e : Env} {s : State} {m : MethodId} {args : Array Value} {below : List Frame} {meth : Method} {c : Code} (hC : xC G p s m args meth c cX11_rolling 9 RX11 (some .int)) (N : Nat) {I : xTI} {L : xTL} {r : Int32} {rI : xTI} {rL : xTL} (hf : F_X11_rolling_j14 N I L = some (r, rI, rL)) : ∀ (H : Heap) (locs : List Loc) (ls : Array Slot), xRep G kp I L H → xS G s.heap H locs → lv_has ls 9 [(0, .ref (xz G + 57))] → W p l e (xrm 2 44) s m args below meth c H locs 0 0 (xMQ G kp below args s (some (.int r)) rI rL) (F0 m 14 ls []) := by
  intro H locs ls hR hS hl
  unfold F_X11_rolling_j14 at hf
  refine lv_aload_n hC.1 hC.2.1 dX11_rolling_14 rfl (lv_at hl 0 rfl) ?_
  refine lv_bipush (v := (-7)) hC.1 hC.2.1 dX11_rolling_15 (by decide) ?_
  refine x_cvi10 (rest := []) hC xy_X11_refuse tw_1338 hf (fun _ _ h => M_X11_refuse G l kp h) ⟨Nat.le_of_ble_eq_true rfl, Nat.le_of_ble_eq_true rfl⟩ (xce_57 G kp _ _) rfl rfl rfl (Nat.le_of_ble_eq_true rfl) hl.1 hR hS dX11_rolling_17 ⟨Nat.le_refl _, Nat.le_refl _⟩ (fun v1 I2 hf H locs hR hS => ?_)
  cases hf
  exact x_iret hC hR hS dX11_rolling_20
set_option maxRecDepth 20000 in
theorem W_X11_rolling_j254 {G : XG} {l : Launch} {kp : Bool} {p : Program} {e : Env} {s : State} {m : MethodId} {args : Array Value} {below : List Frame} {meth : Method} {c : Code} (hC : xC G p s m args meth c cX11_rolling 9 RX11 (some .int)) (N : Nat) {I : xTI} {L : xTL} {r : Int32} {rI : xTI} {rL : xTL} {x3 : Int32} (k132 : Int32 × Int32 × xTI × xTL → Option (Int32 × xTI × xTL)) (hk132 : ∀ (x3 : Int32) (x4 : Int32) (I : xTI) (L : xTL) , k132 (x3, x4, I, L) = some (r, rI, rL) → ∀ (H : Heap) (locs : List Loc) (ls : Array Slot), xRep G kp I L H → xS G s.heap H locs → lv_has ls 9 [(0, .ref (xz G + 57)), (3, .int x3), (4, .int x4)] → W p l e (xrm 2 44) s m args below meth c H locs 0 0 (xMQ G kp below args s (some (.int r)) rI rL) (F0 m 132 ls [])) (hf : F_X11_rolling_j254 k132 N I L x3 = some (r, rI, rL)) : ∀ (H : Heap) (locs : List Loc) (ls : Array Slot), xRep G kp I L H → xS G s.heap H locs → lv_has ls 9 [(0, .ref (xz G + 57)), (3, .int x3)] → W p l e (xrm 2 44) s m args below meth c H locs 0 0 (xMQ G kp below args s (some (.int r)) rI rL) (F0 m 254 ls []) := by
  intro H locs ls hR hS hl
  unfold F_X11_rolling_j254 at hf
  refine lv_aload_n hC.1 hC.2.1 dX11_rolling_254 rfl (lv_at hl 0 rfl) ?_
  refine x_cvi00 (rest := []) hC xy_X11_firstOf tw_1720 hf (fun _ h => M_X11_firstOf G l kp N h) ⟨Nat.le_of_ble_eq_true rfl, Nat.le_of_ble_eq_true rfl⟩ (xce_57 G kp _ _) rfl rfl rfl (Nat.le_of_ble_eq_true rfl) hl.1 hR hS dX11_rolling_255 ⟨Nat.le_refl _, Nat.le_refl _⟩ (fun v1 hf H locs hR hS => ?_)
  refine lv_istore (lv' := [(4, .int v1), (0, .ref (xz G + 57)), (3, .int x3)]) hC.1 hC.2.1 dX11_rolling_258 hl (Nat.le_of_ble_eq_true rfl) rfl (fun ls hl => ?_)
  refine lv_goto (tgt := 132) hC.1 hC.2.1 dX11_rolling_260 (by decide) ?_
  exact hk132 x3 v1 I L hf _ _ _ hR hS (lv_sub hl [1, 2, 0] rfl)
set_option maxRecDepth 20000 in
theorem W_X11_rolling_l132 {G : XG} {l : Launch} {kp : Bool} {p : Program} {e : Env} {s : State} {m : MethodId} {args : Array Value} {below : List Frame} {meth : Method} {c : Code} (hC : xC G p s m args meth c cX11_rolling 9 RX11 (some .int)) (N : Nat) {r : Int32} {rI : xTI} {rL : xTL} : ∀ (n : Nat) (x3 : Int32) (x4 : Int32) (I : xTI) (L : xTL) , xlp (F_X11_rolling_b132 N ) n (x3, x4, I, L) = some (r, rI, rL) → ∀ (H : Heap) (locs : List Loc) (ls : Array Slot), xRep G kp I L H → xS G s.heap H locs → lv_has ls 9 [(0, .ref (xz G + 57)), (3, .int x3), (4, .int x4)] → W p l e (xrm 2 44) s m args below meth c H locs 0 0 (xMQ G kp below args s (some (.int r)) rI rL) (F0 m 132 ls []) := by
  intro n
  induction n with
  | zero =>
    intro x3 x4 I L hf
    cases hf
  | succ n hk132 =>
    intro x3 x4 I L hf H locs ls hR hS hl
    replace hf : F_X11_rolling_c132 N x3 x4 I L (xlp (F_X11_rolling_b132 N ) n) = some (r, rI, rL) := hf
    unfold F_X11_rolling_c132 at hf
    refine lv_iload hC.1 hC.2.1 dX11_rolling_132 (lv_at hl 2 rfl) ?_
    refine lv_iconst (v := (-1)) hC.1 hC.2.1 dX11_rolling_134 (by decide) ?_
    refine x_ic_eq (tgt := 263) hC dX11_rolling_135 (by decide) hf (fun hf => ?_) (fun hf => ?_)
    · refine lv_iload_n hC.1 hC.2.1 dX11_rolling_263 rfl (lv_at hl 1 rfl) ?_
      cases hf
      exact x_iret hC hR hS dX11_rolling_264
    · refine lv_aload_n hC.1 hC.2.1 dX11_rolling_138 rfl (lv_at hl 0 rfl) ?_
      refine x_get (v := .ref (xz G + 83)) hC xf_X11_92 (xce_57 G kp _ _) rfl hR dX11_rolling_139 ?_
      refine lv_iload hC.1 hC.2.1 dX11_rolling_142 (lv_at hl 2 rfl) ?_
      refine lv_iconst (v := 1) hC.1 hC.2.1 dX11_rolling_144 (by decide) ?_
      refine x_zas hC (fun f => xce_83 G kp f _) hR hS dX11_rolling_145 hf (fun I1 hf H locs hR hS => ?_)
      refine lv_aload_n hC.1 hC.2.1 dX11_rolling_146 rfl (lv_at hl 0 rfl) ?_
      refine lv_iload hC.1 hC.2.1 dX11_rolling_147 (lv_at hl 2 rfl) ?_
      refine lv_iconst (v := 2) hC.1 hC.2.1 dX11_rolling_149 (by decide) ?_
      refine x_cvi00 (rest := []) hC xy_X11_bg tw_1383 hf (fun _ h => M_X11_bg G l kp h) ⟨Nat.le_of_ble_eq_true rfl, Nat.le_of_ble_eq_true rfl⟩ (xce_57 G kp _ _) rfl rfl rfl (Nat.le_of_ble_eq_true rfl) hl.1 hR hS dX11_rolling_150 ⟨Nat.le_refl _, Nat.le_refl _⟩ (fun v2 hf H locs hR hS => ?_)
      refine lv_istore (lv' := [(5, .int v2), (0, .ref (xz G + 57)), (3, .int x3), (4, .int x4)]) hC.1 hC.2.1 dX11_rolling_153 hl (Nat.le_of_ble_eq_true rfl) rfl (fun ls hl => ?_)
      refine lv_aload_n hC.1 hC.2.1 dX11_rolling_155 rfl (lv_at hl 1 rfl) ?_
      refine lv_iload hC.1 hC.2.1 dX11_rolling_156 (lv_at hl 3 rfl) ?_
      refine lv_iconst (v := 1) hC.1 hC.2.1 dX11_rolling_158 (by decide) ?_
      refine x_cvi00 (rest := []) hC xy_X11_bg tw_1383 hf (fun _ h => M_X11_bg G l kp h) ⟨Nat.le_of_ble_eq_true rfl, Nat.le_of_ble_eq_true rfl⟩ (xce_57 G kp _ _) rfl rfl rfl (Nat.le_of_ble_eq_true rfl) hl.1 hR hS dX11_rolling_159 ⟨Nat.le_refl _, Nat.le_refl _⟩ (fun v3 hf H locs hR hS => ?_)
      refine lv_istore (lv' := [(6, .int v3), (5, .int v2), (0, .ref (xz G + 57)), (3, .int x3), (4, .int x4)]) hC.1 hC.2.1 dX11_rolling_162 hl (Nat.le_of_ble_eq_true rfl) rfl (fun ls hl => ?_)
      refine lv_aload_n hC.1 hC.2.1 dX11_rolling_164 rfl (lv_at hl 2 rfl) ?_
      refine lv_iload hC.1 hC.2.1 dX11_rolling_165 (lv_at hl 4 rfl) ?_
      refine lv_iconst (v := 4) hC.1 hC.2.1 dX11_rolling_167 (by decide) ?_
      refine x_cvi00 (rest := []) hC xy_X11_bg tw_1383 hf (fun _ h => M_X11_bg G l kp h) ⟨Nat.le_of_ble_eq_true rfl, Nat.le_of_ble_eq_true rfl⟩ (xce_57 G kp _ _) rfl rfl rfl (Nat.le_of_ble_eq_true rfl) hl.1 hR hS dX11_rolling_168 ⟨Nat.le_refl _, Nat.le_refl _⟩ (fun v4 hf H locs hR hS => ?_)
      refine lv_i2l hC.1 hC.2.1 dX11_rolling_171 rfl ?_
      refine lv_aload_n hC.1 hC.2.1 dX11_rolling_172 rfl (lv_at hl 2 rfl) ?_
      refine lv_iload hC.1 hC.2.1 dX11_rolling_173 (lv_at hl 4 rfl) ?_
      refine lv_iconst (v := 5) hC.1 hC.2.1 dX11_rolling_175 (by decide) ?_
      refine x_cvi00 (rest := [.long (v4.toInt64)]) hC xy_X11_bg tw_1383 hf (fun _ h => M_X11_bg G l kp h) ⟨Nat.le_of_ble_eq_true rfl, Nat.le_of_ble_eq_true rfl⟩ (xce_57 G kp _ _) rfl rfl rfl (Nat.le_of_ble_eq_true rfl) hl.1 hR hS dX11_rolling_176 ⟨Nat.le_refl _, Nat.le_refl _⟩ (fun v5 hf H locs hR hS => ?_)
      refine lv_i2l hC.1 hC.2.1 dX11_rolling_179 rfl ?_
      refine lv_lmul hC.1 hC.2.1 dX11_rolling_180 ?_
      refine x_lst (lv' := fun y6 => [(7, .long y6), (6, .int v3), (5, .int v2), (0, .ref (xz G + 57)), (3, .int x3), (4, .int x4)]) hC hl dX11_rolling_181 (Nat.le_of_ble_eq_true rfl) hf (fun _ => rfl) (fun y6 hf ls hl => ?_)
      refine lv_aload_n hC.1 hC.2.1 dX11_rolling_183 rfl (lv_at hl 3 rfl) ?_
      refine x_get (v := .ref (xz G + 82)) hC xf_X11_88 (xce_57 G kp _ _) rfl hR dX11_rolling_184 ?_
      refine lv_iload hC.1 hC.2.1 dX11_rolling_187 (lv_at hl 2 rfl) ?_
      refine x_zal hC (xce_82 G kp _ _) hR dX11_rolling_189 hf (fun v7 hf => ?_)
      refine x_if_ne (tgt := 254) hC dX11_rolling_190 (by decide) hf (fun hf => ?_) (fun hf => ?_)
      · exact W_X11_rolling_j254 hC N k132 hk132 hf _ _ _ hR hS (lv_sub hl [3, 4] rfl)
      · refine lv_aload_n hC.1 hC.2.1 dX11_rolling_193 rfl (lv_at hl 3 rfl) ?_
        refine x_get (v := .ref (xz G + 82)) hC xf_X11_88 (xce_57 G kp _ _) rfl hR dX11_rolling_194 ?_
        refine lv_iload hC.1 hC.2.1 dX11_rolling_197 (lv_at hl 1 rfl) ?_
        refine x_zal hC (xce_82 G kp _ _) hR dX11_rolling_199 hf (fun v8 hf => ?_)
        refine x_if_ne (tgt := 254) hC dX11_rolling_200 (by decide) hf (fun hf => ?_) (fun hf => ?_)
        · exact W_X11_rolling_j254 hC N k132 hk132 hf _ _ _ hR hS (lv_sub hl [3, 4] rfl)
        · refine lv_aload_n hC.1 hC.2.1 dX11_rolling_203 rfl (lv_at hl 3 rfl) ?_
          refine x_get (v := .ref (xz G + 81)) hC xf_X11_85 (xce_57 G kp _ _) rfl hR dX11_rolling_204 ?_
          refine lv_iload hC.1 hC.2.1 dX11_rolling_207 (lv_at hl 2 rfl) ?_
          refine x_lal hC (xce_81 G kp _ _) hR dX11_rolling_209 hf (fun v9 hf => ?_)
          refine lv_lload hC.1 hC.2.1 dX11_rolling_210 (lv_at hl 0 rfl) ?_
          refine W.lcmp hC.1 hC.2.1 dX11_rolling_212 ?_
          refine x_if_lt (tgt := 243) hC dX11_rolling_213 (by decide) hf (fun hf => ?_) (fun hf => ?_)
          · refine lv_aload_n hC.1 hC.2.1 dX11_rolling_243 rfl (lv_at hl 3 rfl) ?_
            refine x_get (v := .ref (xz G + 82)) hC xf_X11_88 (xce_57 G kp _ _) rfl hR dX11_rolling_244 ?_
            refine lv_iload hC.1 hC.2.1 dX11_rolling_247 (lv_at hl 2 rfl) ?_
            refine lv_iconst (v := 1) hC.1 hC.2.1 dX11_rolling_249 (by decide) ?_
            refine x_zas hC (fun f => xce_82 G kp f _) hR hS dX11_rolling_250 hf (fun I10 hf H locs hR hS => ?_)
            refine x_iinc (d := 1) (lv' := fun y11 => [(3, .int y11), (7, .long y6), (6, .int v3), (5, .int v2), (0, .ref (xz G + 57)), (4, .int x4)]) (k := 4) hC hl dX11_rolling_251 rfl (by decide) (Nat.le_of_ble_eq_true rfl) hf (fun _ => rfl) (fun y11 hf ls hl => ?_)
            exact W_X11_rolling_j254 hC N k132 hk132 hf _ _ _ hR hS (lv_sub hl [4, 0] rfl)
          · refine lv_aload_n hC.1 hC.2.1 dX11_rolling_216 rfl (lv_at hl 3 rfl) ?_
            refine x_get (v := .ref (xz G + 81)) hC xf_X11_85 (xce_57 G kp _ _) rfl hR dX11_rolling_217 ?_
            refine lv_iload hC.1 hC.2.1 dX11_rolling_220 (lv_at hl 2 rfl) ?_
            refine lv_dup2_11 hC.1 hC.2.1 dX11_rolling_222 rfl rfl ?_
            refine x_lal hC (xce_81 G kp _ _) hR dX11_rolling_223 hf (fun v12 hf => ?_)
            refine lv_lload hC.1 hC.2.1 dX11_rolling_224 (lv_at hl 0 rfl) ?_
            refine lv_lsub hC.1 hC.2.1 dX11_rolling_226 ?_
            refine x_las hC (fun f => xce_81 G kp _ f) hR hS dX11_rolling_227 hf (fun L13 hf H locs hR hS => ?_)
            refine lv_aload_n hC.1 hC.2.1 dX11_rolling_228 rfl (lv_at hl 3 rfl) ?_
            refine x_get (v := .ref (xz G + 81)) hC xf_X11_85 (xce_57 G kp _ _) rfl hR dX11_rolling_229 ?_
            refine lv_iload hC.1 hC.2.1 dX11_rolling_232 (lv_at hl 1 rfl) ?_
            refine lv_dup2_11 hC.1 hC.2.1 dX11_rolling_234 rfl rfl ?_
            refine x_lal hC (xce_81 G kp _ _) hR dX11_rolling_235 hf (fun v14 hf => ?_)
            refine lv_lload hC.1 hC.2.1 dX11_rolling_236 (lv_at hl 0 rfl) ?_
            refine lv_ladd hC.1 hC.2.1 dX11_rolling_238 ?_
            refine x_las hC (fun f => xce_81 G kp _ f) hR hS dX11_rolling_239 hf (fun L15 hf H locs hR hS => ?_)
            refine lv_goto (tgt := 254) hC.1 hC.2.1 dX11_rolling_240 (by decide) ?_
            exact W_X11_rolling_j254 hC N k132 hk132 hf _ _ _ hR hS (lv_sub hl [3, 4] rfl)
set_option maxRecDepth 20000 in
theorem W_X11_rolling_j117 {G : XG} {l : Launch} {kp : Bool} {p : Program} {e : Env} {s : State} {m : MethodId} {args : Array Value} {below : List Frame} {meth : Method} {c : Code} (hC : xC G p s m args meth c cX11_rolling 9 RX11 (some .int)) (N : Nat) {I : xTI} {L : xTL} {r : Int32} {rI : xTI} {rL : xTL} {x1 : Int32} {x2 : Int32} {x3 : Int32} {t1 : Int32} {t2 : Int32} (k58 : Int32 × xTI → Option (Int32 × xTI × xTL)) (hk58 : ∀ (x3 : Int32) (I : xTI) , k58 (x3, I) = some (r, rI, rL) → ∀ (H : Heap) (locs : List Loc) (ls : Array Slot), xRep G kp I L H → xS G s.heap H locs → lv_has ls 9 [(0, .ref (xz G + 57)), (1, .int x1), (2, .int x2), (3, .int x3)] → W p l e (xrm 2 44) s m args below meth c H locs 0 0 (xMQ G kp below args s (some (.int r)) rI rL) (F0 m 58 ls [])) (hf : F_X11_rolling_j117 k58 N I L x1 x2 x3 t1 t2 = some (r, rI, rL)) : ∀ (H : Heap) (locs : List Loc) (ls : Array Slot), xRep G kp I L H → xS G s.heap H locs → lv_has ls 9 [(0, .ref (xz G + 57)), (1, .int x1), (2, .int x2), (3, .int x3)] → W p l e (xrm 2 44) s m args below meth c H locs 0 0 (xMQ G kp below args s (some (.int r)) rI rL) (F0 m 117 ls [.int t2, .int t1, .ref (xz G + 83)]) := by
  intro H locs ls hR hS hl
  unfold F_X11_rolling_j117 at hf
  refine x_zas hC (fun f => xce_83 G kp f _) hR hS dX11_rolling_117 hf (fun I1 hf H locs hR hS => ?_)
  refine x_iinc (d := 1) (lv' := fun y2 => [(3, .int y2), (0, .ref (xz G + 57)), (1, .int x1), (2, .int x2)]) (k := 3) hC hl dX11_rolling_118 rfl (by decide) (Nat.le_of_ble_eq_true rfl) hf (fun _ => rfl) (fun y2 hf ls hl => ?_)
  refine lv_goto (tgt := 58) hC.1 hC.2.1 dX11_rolling_121 (by decide) ?_
  exact hk58 y2 I1 hf _ _ _ hR hS (lv_sub hl [1, 2, 3, 0] rfl)
set_option maxRecDepth 20000 in
theorem W_X11_rolling_l58 {G : XG} {l : Launch} {kp : Bool} {p : Program} {e : Env} {s : State} {m : MethodId} {args : Array Value} {below : List Frame} {meth : Method} {c : Code} (hC : xC G p s m args meth c cX11_rolling 9 RX11 (some .int)) (N : Nat) {L : xTL} {r : Int32} {rI : xTI} {rL : xTL} {x1 : Int32} {x2 : Int32} : ∀ (n : Nat) (x3 : Int32) (I : xTI) , xlp (F_X11_rolling_b58 N L x1 x2 ) n (x3, I) = some (r, rI, rL) → ∀ (H : Heap) (locs : List Loc) (ls : Array Slot), xRep G kp I L H → xS G s.heap H locs → lv_has ls 9 [(0, .ref (xz G + 57)), (1, .int x1), (2, .int x2), (3, .int x3)] → W p l e (xrm 2 44) s m args below meth c H locs 0 0 (xMQ G kp below args s (some (.int r)) rI rL) (F0 m 58 ls []) := by
  intro n
  induction n with
  | zero =>
    intro x3 I hf
    cases hf
  | succ n hk58 =>
    intro x3 I hf H locs ls hR hS hl
    replace hf : F_X11_rolling_c58 N L x1 x2 x3 I (xlp (F_X11_rolling_b58 N L x1 x2 ) n) = some (r, rI, rL) := hf
    unfold F_X11_rolling_c58 at hf
    refine lv_iload_n hC.1 hC.2.1 dX11_rolling_58 rfl (lv_at hl 3 rfl) ?_
    refine lv_bipush (v := 60) hC.1 hC.2.1 dX11_rolling_59 (by decide) ?_
    refine x_ic_ge (tgt := 124) hC dX11_rolling_61 (by decide) hf (fun hf => ?_) (fun hf => ?_)
    · refine lv_iconst (v := 0) hC.1 hC.2.1 dX11_rolling_124 (by decide) ?_
      refine lv_istore_n (lv' := [(3, .int 0), (0, .ref (xz G + 57)), (1, .int x1), (2, .int x2)]) hC.1 hC.2.1 dX11_rolling_125 rfl hl (Nat.le_of_ble_eq_true rfl) rfl (fun ls hl => ?_)
      refine lv_aload_n hC.1 hC.2.1 dX11_rolling_126 rfl (lv_at hl 1 rfl) ?_
      refine x_cvi00 (rest := []) hC xy_X11_firstOf tw_1720 hf (fun _ h => M_X11_firstOf G l kp N h) ⟨Nat.le_of_ble_eq_true rfl, Nat.le_of_ble_eq_true rfl⟩ (xce_57 G kp _ _) rfl rfl rfl (Nat.le_of_ble_eq_true rfl) hl.1 hR hS dX11_rolling_127 ⟨Nat.le_refl _, Nat.le_refl _⟩ (fun v1 hf H locs hR hS => ?_)
      refine lv_istore (lv' := [(4, .int v1), (3, .int 0), (0, .ref (xz G + 57)), (1, .int x1), (2, .int x2)]) hC.1 hC.2.1 dX11_rolling_130 hl (Nat.le_of_ble_eq_true rfl) rfl (fun ls hl => ?_)
      exact W_X11_rolling_l132 hC N _ 0 v1 I L hf _ _ _ hR hS (lv_sub hl [2, 1, 0] rfl)
    · refine lv_aload_n hC.1 hC.2.1 dX11_rolling_64 rfl (lv_at hl 0 rfl) ?_
      refine x_get (v := .ref (xz G + 83)) hC xf_X11_92 (xce_57 G kp _ _) rfl hR dX11_rolling_65 ?_
      refine lv_iload_n hC.1 hC.2.1 dX11_rolling_68 rfl (lv_at hl 3 rfl) ?_
      refine lv_aload_n hC.1 hC.2.1 dX11_rolling_69 rfl (lv_at hl 0 rfl) ?_
      refine lv_iload_n hC.1 hC.2.1 dX11_rolling_70 rfl (lv_at hl 3 rfl) ?_
      refine x_cvi00 (rest := [.int x3, .ref (xz G + 83)]) hC xy_X11_stands tw_1403 hf (fun _ h => M_X11_stands G l kp h) ⟨Nat.le_of_ble_eq_true rfl, Nat.le_of_ble_eq_true rfl⟩ (xce_57 G kp _ _) rfl rfl rfl (Nat.le_of_ble_eq_true rfl) hl.1 hR hS dX11_rolling_71 ⟨Nat.le_refl _, Nat.le_refl _⟩ (fun v2 hf H locs hR hS => ?_)
      refine x_if_eq (tgt := 112) hC dX11_rolling_74 (by decide) hf (fun hf => ?_) (fun hf => ?_)
      · refine lv_iconst (v := 1) hC.1 hC.2.1 dX11_rolling_112 (by decide) ?_
        refine lv_goto (tgt := 117) hC.1 hC.2.1 dX11_rolling_113 (by decide) ?_
        exact W_X11_rolling_j117 hC N k58 hk58 hf _ _ _ hR hS (lv_sub hl [0, 1, 2, 3] rfl)
      · refine lv_aload_n hC.1 hC.2.1 dX11_rolling_77 rfl (lv_at hl 0 rfl) ?_
        refine lv_iload_n hC.1 hC.2.1 dX11_rolling_78 rfl (lv_at hl 3 rfl) ?_
        refine lv_bipush (v := 7) hC.1 hC.2.1 dX11_rolling_79 (by decide) ?_
        refine x_cvi00 (rest := [.int x3, .ref (xz G + 83)]) hC xy_X11_bg tw_1383 hf (fun _ h => M_X11_bg G l kp h) ⟨Nat.le_of_ble_eq_true rfl, Nat.le_of_ble_eq_true rfl⟩ (xce_57 G kp _ _) rfl rfl rfl (Nat.le_of_ble_eq_true rfl) hl.1 hR hS dX11_rolling_81 ⟨Nat.le_refl _, Nat.le_refl _⟩ (fun v3 hf H locs hR hS => ?_)
        refine lv_iload_n hC.1 hC.2.1 dX11_rolling_84 rfl (lv_at hl 1 rfl) ?_
        refine x_ic_ne (tgt := 112) hC dX11_rolling_85 (by decide) hf (fun hf => ?_) (fun hf => ?_)
        · refine lv_iconst (v := 1) hC.1 hC.2.1 dX11_rolling_112 (by decide) ?_
          refine lv_goto (tgt := 117) hC.1 hC.2.1 dX11_rolling_113 (by decide) ?_
          exact W_X11_rolling_j117 hC N k58 hk58 hf _ _ _ hR hS (lv_sub hl [0, 1, 2, 3] rfl)
        · refine lv_aload_n hC.1 hC.2.1 dX11_rolling_88 rfl (lv_at hl 0 rfl) ?_
          refine lv_iload_n hC.1 hC.2.1 dX11_rolling_89 rfl (lv_at hl 3 rfl) ?_
          refine lv_bipush (v := 6) hC.1 hC.2.1 dX11_rolling_90 (by decide) ?_
          refine x_cvi00 (rest := [.int x3, .ref (xz G + 83)]) hC xy_X11_bg tw_1383 hf (fun _ h => M_X11_bg G l kp h) ⟨Nat.le_of_ble_eq_true rfl, Nat.le_of_ble_eq_true rfl⟩ (xce_57 G kp _ _) rfl rfl rfl (Nat.le_of_ble_eq_true rfl) hl.1 hR hS dX11_rolling_92 ⟨Nat.le_refl _, Nat.le_refl _⟩ (fun v4 hf H locs hR hS => ?_)
          refine lv_iload_n hC.1 hC.2.1 dX11_rolling_95 rfl (lv_at hl 2 rfl) ?_
          refine lv_iadd hC.1 hC.2.1 dX11_rolling_96 ?_
          refine lv_i2l hC.1 hC.2.1 dX11_rolling_97 rfl ?_
          refine x_ldc2 (v := 14) hC tw_1718 dX11_rolling_98 ?_
          refine lv_iload_n hC.1 hC.2.1 dX11_rolling_101 rfl (lv_at hl 1 rfl) ?_
          refine lv_i2l hC.1 hC.2.1 dX11_rolling_102 rfl ?_
          refine lv_lmul hC.1 hC.2.1 dX11_rolling_103 ?_
          refine x_ldc2 (v := 13) hC tw_1719 dX11_rolling_104 ?_
          refine lv_ladd hC.1 hC.2.1 dX11_rolling_107 ?_
          refine W.lcmp hC.1 hC.2.1 dX11_rolling_108 ?_
          refine x_if_le (tgt := 116) hC dX11_rolling_109 (by decide) hf (fun hf => ?_) (fun hf => ?_)
          · refine lv_iconst (v := 0) hC.1 hC.2.1 dX11_rolling_116 (by decide) ?_
            exact W_X11_rolling_j117 hC N k58 hk58 hf _ _ _ hR hS (lv_sub hl [0, 1, 2, 3] rfl)
          · refine lv_iconst (v := 1) hC.1 hC.2.1 dX11_rolling_112 (by decide) ?_
            refine lv_goto (tgt := 117) hC.1 hC.2.1 dX11_rolling_113 (by decide) ?_
            exact W_X11_rolling_j117 hC N k58 hk58 hf _ _ _ hR hS (lv_sub hl [0, 1, 2, 3] rfl)
set_option maxRecDepth 20000 in
theorem W_X11_rolling_l23 {G : XG} {l : Launch} {kp : Bool} {p : Program} {e : Env} {s : State} {m : MethodId} {args : Array Value} {below : List Frame} {meth : Method} {c : Code} (hC : xC G p s m args meth c cX11_rolling 9 RX11 (some .int)) (N : Nat) {r : Int32} {rI : xTI} {rL : xTL} {x1 : Int32} {x2 : Int32} : ∀ (n : Nat) (x3 : Int32) (I : xTI) (L : xTL) , xlp (F_X11_rolling_b23 N x1 x2 ) n (x3, I, L) = some (r, rI, rL) → ∀ (H : Heap) (locs : List Loc) (ls : Array Slot), xRep G kp I L H → xS G s.heap H locs → lv_has ls 9 [(0, .ref (xz G + 57)), (1, .int x1), (2, .int x2), (3, .int x3)] → W p l e (xrm 2 44) s m args below meth c H locs 0 0 (xMQ G kp below args s (some (.int r)) rI rL) (F0 m 23 ls []) := by
  intro n
  induction n with
  | zero =>
    intro x3 I L hf
    cases hf
  | succ n hk23 =>
    intro x3 I L hf H locs ls hR hS hl
    replace hf : F_X11_rolling_c23 N x1 x2 x3 I L (xlp (F_X11_rolling_b23 N x1 x2 ) n) = some (r, rI, rL) := hf
    unfold F_X11_rolling_c23 at hf
    refine lv_iload_n hC.1 hC.2.1 dX11_rolling_23 rfl (lv_at hl 3 rfl) ?_
    refine lv_bipush (v := 12) hC.1 hC.2.1 dX11_rolling_24 (by decide) ?_
    refine x_ic_ge (tgt := 56) hC dX11_rolling_26 (by decide) hf (fun hf => ?_) (fun hf => ?_)
    · refine lv_iconst (v := 0) hC.1 hC.2.1 dX11_rolling_56 (by decide) ?_
      refine lv_istore_n (lv' := [(3, .int 0), (0, .ref (xz G + 57)), (1, .int x1), (2, .int x2)]) hC.1 hC.2.1 dX11_rolling_57 rfl hl (Nat.le_of_ble_eq_true rfl) rfl (fun ls hl => ?_)
      exact W_X11_rolling_l58 hC N _ 0 I hf _ _ _ hR hS (lv_sub hl [1, 2, 3, 0] rfl)
    · refine lv_aload_n hC.1 hC.2.1 dX11_rolling_29 rfl (lv_at hl 0 rfl) ?_
      refine x_get (v := .ref (xz G + 81)) hC xf_X11_85 (xce_57 G kp _ _) rfl hR dX11_rolling_30 ?_
      refine lv_iload_n hC.1 hC.2.1 dX11_rolling_33 rfl (lv_at hl 3 rfl) ?_
      refine lv_aload_n hC.1 hC.2.1 dX11_rolling_34 rfl (lv_at hl 0 rfl) ?_
      refine x_get (v := .ref (xz G + 59)) hC xf_X11_18 (xce_57 G kp _ _) rfl hR dX11_rolling_35 ?_
      refine lv_iconst (v := 0) hC.1 hC.2.1 dX11_rolling_38 (by decide) ?_
      refine lv_iload_n hC.1 hC.2.1 dX11_rolling_39 rfl (lv_at hl 3 rfl) ?_
      refine lv_iadd hC.1 hC.2.1 dX11_rolling_40 ?_
      refine x_lal hC (xce_59 G kp _ _) hR dX11_rolling_41 hf (fun v1 hf => ?_)
      refine x_las hC (fun f => xce_81 G kp _ f) hR hS dX11_rolling_42 hf (fun L2 hf H locs hR hS => ?_)
      refine lv_aload_n hC.1 hC.2.1 dX11_rolling_43 rfl (lv_at hl 0 rfl) ?_
      refine x_get (v := .ref (xz G + 82)) hC xf_X11_88 (xce_57 G kp _ _) rfl hR dX11_rolling_44 ?_
      refine lv_iload_n hC.1 hC.2.1 dX11_rolling_47 rfl (lv_at hl 3 rfl) ?_
      refine lv_iconst (v := 0) hC.1 hC.2.1 dX11_rolling_48 (by decide) ?_
      refine x_zas hC (fun f => xce_82 G kp f _) hR hS dX11_rolling_49 hf (fun I3 hf H locs hR hS => ?_)
      refine x_iinc (d := 1) (lv' := fun y4 => [(3, .int y4), (0, .ref (xz G + 57)), (1, .int x1), (2, .int x2)]) (k := 3) hC hl dX11_rolling_50 rfl (by decide) (Nat.le_of_ble_eq_true rfl) hf (fun _ => rfl) (fun y4 hf ls hl => ?_)
      refine lv_goto (tgt := 23) hC.1 hC.2.1 dX11_rolling_53 (by decide) ?_
      exact hk23 y4 I3 L2 hf _ _ _ hR hS (lv_sub hl [1, 2, 3, 0] rfl)
set_option maxRecDepth 20000 in
theorem M_X11_rolling (G : XG) (l : Launch) (kp : Bool) (N : Nat) {I : xTI} {L : xTL} {x1 : Int32} {x2 : Int32} {r : Int32} {rI : xTI} {rL : xTL} (hf : F_X11_rolling N I L x1 x2 = some (r, rI, rL)) : xMet G l yX11_rolling cX11_rolling 9 (some .int) 2 44 kp [.ref (xz G + 57), .int x1, .int x2] I L (some (.int r)) rI rL := by
  refine xMet.ofW (by decide +kernel) (Nat.le_of_ble_eq_true rfl) ?_
  intro p e s m args below meth c hC H locs ls hR hS hl
  replace hC : xC G p s m args meth c cX11_rolling 9 RX11 (some .int) := hC
  replace hl : lv_has ls 9 [(0, .ref (xz G + 57)), (1, .int x1), (2, .int x2)] := hl
  unfold F_X11_rolling at hf
  refine lv_iload_n hC.1 hC.2.1 dX11_rolling_0 rfl (lv_at hl 2 rfl) ?_
  refine lv_iconst (v := 0) hC.1 hC.2.1 dX11_rolling_1 (by decide) ?_
  refine lv_bipush (v := 28) hC.1 hC.2.1 dX11_rolling_2 (by decide) ?_
  refine x_csi00 (rest := []) hC xy_X11_in tw_1335 hf (fun _ h => M_X11_in G l kp h) ⟨Nat.le_of_ble_eq_true rfl, Nat.le_of_ble_eq_true rfl⟩ rfl rfl (Nat.le_of_ble_eq_true rfl) hl.1 hR hS dX11_rolling_4 ⟨Nat.le_refl _, Nat.le_refl _⟩ (fun v1 hf H locs hR hS => ?_)
  refine x_if_eq (tgt := 14) hC dX11_rolling_7 (by decide) hf (fun hf => ?_) (fun hf => ?_)
  · exact W_X11_rolling_j14 hC N hf _ _ _ hR hS (lv_sub hl [0] rfl)
  · refine lv_iload_n hC.1 hC.2.1 dX11_rolling_10 rfl (lv_at hl 1 rfl) ?_
    refine x_if_ge (tgt := 21) hC dX11_rolling_11 (by decide) hf (fun hf => ?_) (fun hf => ?_)
    · refine lv_iconst (v := 0) hC.1 hC.2.1 dX11_rolling_21 (by decide) ?_
      refine lv_istore_n (lv' := [(3, .int 0), (0, .ref (xz G + 57)), (1, .int x1), (2, .int x2)]) hC.1 hC.2.1 dX11_rolling_22 rfl hl (Nat.le_of_ble_eq_true rfl) rfl (fun ls hl => ?_)
      exact W_X11_rolling_l23 hC N _ 0 I L hf _ _ _ hR hS (lv_sub hl [1, 2, 3, 0] rfl)
    · exact W_X11_rolling_j14 hC N hf _ _ _ hR hS (lv_sub hl [0] rfl)
set_option maxRecDepth 20000 in
theorem W_X11_clearing_j151 {G : XG} {l : Launch} {kp : Bool} {p : Program} {e : Env} {s : State} {m : MethodId} {args : Array Value} {below : List Frame} {meth : Method} {c : Code} (hC : xC G p s m args meth c cX11_clearing 9 RX11 (some .int)) (N : Nat) {I : xTI} {L : xTL} {r : Int32} {rI : xTI} {x1 : Int32} {x3 : Int32} {t0 : Int32} {t1 : Int32} (k15 : Int32 × Int32 → Option (Int32 × xTI)) (hk15 : ∀ (x2 : Int32) (x3 : Int32) , k15 (x2, x3) = some (r, rI) → ∀ (H : Heap) (locs : List Loc) (ls : Array Slot), xRep G kp I L H → xS G s.heap H locs → lv_has ls 9 [(0, .ref (xz G + 57)), (1, .int x1), (2, .int x2), (3, .int x3)] → W p l e (xrm 2 43) s m args below meth c H locs 0 0 (xMQ G kp below args s (some (.int r)) rI L) (F0 m 15 ls [])) (hf : F_X11_clearing_j151 k15 N I L x1 x3 t0 t1 = some (r, rI)) : ∀ (H : Heap) (locs : List Loc) (ls : Array Slot), xRep G kp I L H → xS G s.heap H locs → lv_has ls 9 [(0, .ref (xz G + 57)), (1, .int x1), (3, .int x3)] → W p l e (xrm 2 43) s m args below meth c H locs 0 0 (xMQ G kp below args s (some (.int r)) rI L) (F0 m 151 ls [.int t1, .int t0]) := by
  intro H locs ls hR hS hl
  unfold F_X11_clearing_j151 at hf
  refine lv_iadd hC.1 hC.2.1 dX11_clearing_151 ?_
  refine x_istn (lv' := fun y1 => [(2, .int y1), (0, .ref (xz G + 57)), (1, .int x1), (3, .int x3)]) hC hl dX11_clearing_152 rfl (Nat.le_of_ble_eq_true rfl) hf (fun _ => rfl) (fun y1 hf ls hl => ?_)
  refine x_iinc (d := 1) (lv' := fun y2 => [(3, .int y2), (2, .int y1), (0, .ref (xz G + 57)), (1, .int x1)]) (k := 3) hC hl dX11_clearing_153 rfl (by decide) (Nat.le_of_ble_eq_true rfl) hf (fun _ => rfl) (fun y2 hf ls hl => ?_)
  refine lv_goto (tgt := 15) hC.1 hC.2.1 dX11_clearing_156 (by decide) ?_
  exact hk15 y1 y2 hf _ _ _ hR hS (lv_sub hl [2, 3, 1, 0] rfl)
set_option maxRecDepth 20000 in
theorem W_X11_clearing_j122 {G : XG} {l : Launch} {kp : Bool} {p : Program} {e : Env} {s : State} {m : MethodId} {args : Array Value} {below : List Frame} {meth : Method} {c : Code} (hC : xC G p s m args meth c cX11_clearing 9 RX11 (some .int)) (N : Nat) {I : xTI} {L : xTL} {r : Int32} {rI : xTI} {x1 : Int32} {x2 : Int32} {x3 : Int32} {x6 : Int32} {t0 : Int64} {t1 : Int64} (k15 : Int32 × Int32 → Option (Int32 × xTI)) (k31 : Int64 × Int32 → Option (Int32 × xTI)) (hk15 : ∀ (x2 : Int32) (x3 : Int32) , k15 (x2, x3) = some (r, rI) → ∀ (H : Heap) (locs : List Loc) (ls : Array Slot), xRep G kp I L H → xS G s.heap H locs → lv_has ls 9 [(0, .ref (xz G + 57)), (1, .int x1), (2, .int x2), (3, .int x3)] → W p l e (xrm 2 43) s m args below meth c H locs 0 0 (xMQ G kp below args s (some (.int r)) rI L) (F0 m 15 ls [])) (hk31 : ∀ (x4 : Int64) (x6 : Int32) , k31 (x4, x6) = some (r, rI) → ∀ (H : Heap) (locs : List Loc) (ls : Array Slot), xRep G kp I L H → xS G s.heap H locs → lv_has ls 9 [(0, .ref (xz G + 57)), (1, .int x1), (2, .int x2), (3, .int x3), (4, .long x4), (6, .int x6)] → W p l e (xrm 2 43) s m args below meth c H locs 0 0 (xMQ G kp below args s (some (.int r)) rI L) (F0 m 31 ls [])) (hf : F_X11_clearing_j122 k15 k31 N I L x1 x2 x3 x6 t0 t1 = some (r, rI)) : ∀ (H : Heap) (locs : List Loc) (ls : Array Slot), xRep G kp I L H → xS G s.heap H locs → lv_has ls 9 [(0, .ref (xz G + 57)), (1, .int x1), (2, .int x2), (3, .int x3), (6, .int x6)] → W p l e (xrm 2 43) s m args below meth c H locs 0 0 (xMQ G kp below args s (some (.int r)) rI L) (F0 m 122 ls [.long t1, .long t0]) := by
  intro H locs ls hR hS hl
  unfold F_X11_clearing_j122 at hf
  refine lv_lsub hC.1 hC.2.1 dX11_clearing_122 ?_
  refine x_lst (lv' := fun y1 => [(4, .long y1), (0, .ref (xz G + 57)), (1, .int x1), (2, .int x2), (3, .int x3), (6, .int x6)]) hC hl dX11_clearing_123 (Nat.le_of_ble_eq_true rfl) hf (fun _ => rfl) (fun y1 hf ls hl => ?_)
  refine x_iinc (d := 1) (lv' := fun y2 => [(6, .int y2), (4, .long y1), (0, .ref (xz G + 57)), (1, .int x1), (2, .int x2), (3, .int x3)]) (k := 5) hC hl dX11_clearing_125 rfl (by decide) (Nat.le_of_ble_eq_true rfl) hf (fun _ => rfl) (fun y2 hf ls hl => ?_)
  refine lv_goto (tgt := 31) hC.1 hC.2.1 dX11_clearing_128 (by decide) ?_
  exact hk31 y1 y2 hf _ _ _ hR hS (lv_sub hl [2, 3, 4, 5, 1, 0] rfl)
set_option maxRecDepth 20000 in
theorem W_X11_clearing_j100 {G : XG} {l : Launch} {kp : Bool} {p : Program} {e : Env} {s : State} {m : MethodId} {args : Array Value} {below : List Frame} {meth : Method} {c : Code} (hC : xC G p s m args meth c cX11_clearing 9 RX11 (some .int)) (N : Nat) {I : xTI} {L : xTL} {r : Int32} {rI : xTI} {x1 : Int32} {x2 : Int32} {x3 : Int32} {x6 : Int32} {x7 : Int64} {t0 : Int64} {t1 : Int64} (k15 : Int32 × Int32 → Option (Int32 × xTI)) (k31 : Int64 × Int32 → Option (Int32 × xTI)) (hk15 : ∀ (x2 : Int32) (x3 : Int32) , k15 (x2, x3) = some (r, rI) → ∀ (H : Heap) (locs : List Loc) (ls : Array Slot), xRep G kp I L H → xS G s.heap H locs → lv_has ls 9 [(0, .ref (xz G + 57)), (1, .int x1), (2, .int x2), (3, .int x3)] → W p l e (xrm 2 43) s m args below meth c H locs 0 0 (xMQ G kp below args s (some (.int r)) rI L) (F0 m 15 ls [])) (hk31 : ∀ (x4 : Int64) (x6 : Int32) , k31 (x4, x6) = some (r, rI) → ∀ (H : Heap) (locs : List Loc) (ls : Array Slot), xRep G kp I L H → xS G s.heap H locs → lv_has ls 9 [(0, .ref (xz G + 57)), (1, .int x1), (2, .int x2), (3, .int x3), (4, .long x4), (6, .int x6)] → W p l e (xrm 2 43) s m args below meth c H locs 0 0 (xMQ G kp below args s (some (.int r)) rI L) (F0 m 31 ls [])) (hf : F_X11_clearing_j100 k15 k31 N I L x1 x2 x3 x6 x7 t0 t1 = some (r, rI)) : ∀ (H : Heap) (locs : List Loc) (ls : Array Slot), xRep G kp I L H → xS G s.heap H locs → lv_has ls 9 [(0, .ref (xz G + 57)), (1, .int x1), (2, .int x2), (3, .int x3), (6, .int x6), (7, .long x7)] → W p l e (xrm 2 43) s m args below meth c H locs 0 0 (xMQ G kp below args s (some (.int r)) rI L) (F0 m 100 ls [.long t1, .long t0]) := by
  intro H locs ls hR hS hl
  unfold F_X11_clearing_j100 at hf
  refine lv_ladd hC.1 hC.2.1 dX11_clearing_100 ?_
  refine x_lst (lv' := fun y1 => [(4, .long y1), (0, .ref (xz G + 57)), (1, .int x1), (2, .int x2), (3, .int x3), (6, .int x6), (7, .long x7)]) hC hl dX11_clearing_101 (Nat.le_of_ble_eq_true rfl) hf (fun _ => rfl) (fun y1 hf ls hl => ?_)
  refine lv_lload hC.1 hC.2.1 dX11_clearing_103 (lv_at hl 0 rfl) ?_
  refine lv_aload_n hC.1 hC.2.1 dX11_clearing_105 rfl (lv_at hl 1 rfl) ?_
  refine lv_iload hC.1 hC.2.1 dX11_clearing_106 (lv_at hl 5 rfl) ?_
  refine lv_iconst (v := 1) hC.1 hC.2.1 dX11_clearing_108 (by decide) ?_
  refine x_cvi00 (rest := [.long y1]) hC xy_X11_bg tw_1383 hf (fun _ h => M_X11_bg G l kp h) ⟨Nat.le_of_ble_eq_true rfl, Nat.le_of_ble_eq_true rfl⟩ (xce_57 G kp _ _) rfl rfl rfl (Nat.le_of_ble_eq_true rfl) hl.1 hR hS dX11_clearing_109 ⟨Nat.le_refl _, Nat.le_refl _⟩ (fun v2 hf H locs hR hS => ?_)
  refine lv_iload_n hC.1 hC.2.1 dX11_clearing_112 rfl (lv_at hl 4 rfl) ?_
  refine x_ic_ne (tgt := 121) hC dX11_clearing_113 (by decide) hf (fun hf => ?_) (fun hf => ?_)
  · refine lv_lconst (v := 0) hC.1 hC.2.1 dX11_clearing_121 (by decide) ?_
    exact W_X11_clearing_j122 hC N k15 k31 hk15 hk31 hf _ _ _ hR hS (lv_sub hl [1, 2, 3, 4, 5] rfl)
  · refine lv_lload hC.1 hC.2.1 dX11_clearing_116 (lv_at hl 6 rfl) ?_
    refine lv_goto (tgt := 122) hC.1 hC.2.1 dX11_clearing_118 (by decide) ?_
    exact W_X11_clearing_j122 hC N k15 k31 hk15 hk31 hf _ _ _ hR hS (lv_sub hl [1, 2, 3, 4, 5] rfl)
set_option maxRecDepth 20000 in
theorem W_X11_clearing_l31 {G : XG} {l : Launch} {kp : Bool} {p : Program} {e : Env} {s : State} {m : MethodId} {args : Array Value} {below : List Frame} {meth : Method} {c : Code} (hC : xC G p s m args meth c cX11_clearing 9 RX11 (some .int)) (N : Nat) {I : xTI} {L : xTL} {r : Int32} {rI : xTI} {x1 : Int32} {x2 : Int32} {x3 : Int32} (k15 : Int32 × Int32 → Option (Int32 × xTI)) (hk15 : ∀ (x2 : Int32) (x3 : Int32) , k15 (x2, x3) = some (r, rI) → ∀ (H : Heap) (locs : List Loc) (ls : Array Slot), xRep G kp I L H → xS G s.heap H locs → lv_has ls 9 [(0, .ref (xz G + 57)), (1, .int x1), (2, .int x2), (3, .int x3)] → W p l e (xrm 2 43) s m args below meth c H locs 0 0 (xMQ G kp below args s (some (.int r)) rI L) (F0 m 15 ls [])) : ∀ (n : Nat) (x4 : Int64) (x6 : Int32) , xlp (F_X11_clearing_b31 k15 N I L x1 x2 x3 ) n (x4, x6) = some (r, rI) → ∀ (H : Heap) (locs : List Loc) (ls : Array Slot), xRep G kp I L H → xS G s.heap H locs → lv_has ls 9 [(0, .ref (xz G + 57)), (1, .int x1), (2, .int x2), (3, .int x3), (4, .long x4), (6, .int x6)] → W p l e (xrm 2 43) s m args below meth c H locs 0 0 (xMQ G kp below args s (some (.int r)) rI L) (F0 m 31 ls []) := by
  intro n
  induction n with
  | zero =>
    intro x4 x6 hf
    cases hf
  | succ n hk31 =>
    intro x4 x6 hf H locs ls hR hS hl
    replace hf : F_X11_clearing_c31 k15 N I L x1 x2 x3 x4 x6 (xlp (F_X11_clearing_b31 k15 N I L x1 x2 x3 ) n) = some (r, rI) := hf
    unfold F_X11_clearing_c31 at hf
    refine lv_iload hC.1 hC.2.1 dX11_clearing_31 (lv_at hl 5 rfl) ?_
    refine lv_bipush (v := 60) hC.1 hC.2.1 dX11_clearing_33 (by decide) ?_
    refine x_ic_ge (tgt := 131) hC dX11_clearing_35 (by decide) hf (fun hf => ?_) (fun hf => ?_)
    · refine lv_iload_n hC.1 hC.2.1 dX11_clearing_131 rfl (lv_at hl 2 rfl) ?_
      refine lv_aload_n hC.1 hC.2.1 dX11_clearing_132 rfl (lv_at hl 0 rfl) ?_
      refine x_get (v := .ref (xz G + 59)) hC xf_X11_18 (xce_57 G kp _ _) rfl hR dX11_clearing_133 ?_
      refine lv_iconst (v := 0) hC.1 hC.2.1 dX11_clearing_136 (by decide) ?_
      refine lv_iload_n hC.1 hC.2.1 dX11_clearing_137 rfl (lv_at hl 3 rfl) ?_
      refine lv_iadd hC.1 hC.2.1 dX11_clearing_138 ?_
      refine x_lal hC (xce_59 G kp _ _) hR dX11_clearing_139 hf (fun v1 hf => ?_)
      refine lv_lload hC.1 hC.2.1 dX11_clearing_140 (lv_at hl 4 rfl) ?_
      refine W.lcmp hC.1 hC.2.1 dX11_clearing_142 ?_
      refine x_if_ge (tgt := 150) hC dX11_clearing_143 (by decide) hf (fun hf => ?_) (fun hf => ?_)
      · refine lv_iconst (v := 0) hC.1 hC.2.1 dX11_clearing_150 (by decide) ?_
        exact W_X11_clearing_j151 hC N k15 hk15 hf _ _ _ hR hS (lv_sub hl [0, 1, 3] rfl)
      · refine lv_iconst (v := 1) hC.1 hC.2.1 dX11_clearing_146 (by decide) ?_
        refine lv_goto (tgt := 151) hC.1 hC.2.1 dX11_clearing_147 (by decide) ?_
        exact W_X11_clearing_j151 hC N k15 hk15 hf _ _ _ hR hS (lv_sub hl [0, 1, 3] rfl)
    · refine lv_aload_n hC.1 hC.2.1 dX11_clearing_38 rfl (lv_at hl 0 rfl) ?_
      refine lv_iload hC.1 hC.2.1 dX11_clearing_39 (lv_at hl 5 rfl) ?_
      refine x_cvi00 (rest := []) hC xy_X11_stands tw_1403 hf (fun _ h => M_X11_stands G l kp h) ⟨Nat.le_of_ble_eq_true rfl, Nat.le_of_ble_eq_true rfl⟩ (xce_57 G kp _ _) rfl rfl rfl (Nat.le_of_ble_eq_true rfl) hl.1 hR hS dX11_clearing_41 ⟨Nat.le_refl _, Nat.le_refl _⟩ (fun v2 hf H locs hR hS => ?_)
      refine x_if_eq (tgt := 125) hC dX11_clearing_44 (by decide) hf (fun hf => ?_) (fun hf => ?_)
      · refine x_iinc (d := 1) (lv' := fun y3 => [(6, .int y3), (0, .ref (xz G + 57)), (1, .int x1), (2, .int x2), (3, .int x3), (4, .long x4)]) (k := 5) hC hl dX11_clearing_125 rfl (by decide) (Nat.le_of_ble_eq_true rfl) hf (fun _ => rfl) (fun y3 hf ls hl => ?_)
        refine lv_goto (tgt := 31) hC.1 hC.2.1 dX11_clearing_128 (by decide) ?_
        exact hk31 x4 y3 hf _ _ _ hR hS (lv_sub hl [1, 2, 3, 4, 5, 0] rfl)
      · refine lv_aload_n hC.1 hC.2.1 dX11_clearing_47 rfl (lv_at hl 0 rfl) ?_
        refine lv_iload hC.1 hC.2.1 dX11_clearing_48 (lv_at hl 5 rfl) ?_
        refine lv_bipush (v := 7) hC.1 hC.2.1 dX11_clearing_50 (by decide) ?_
        refine x_cvi00 (rest := []) hC xy_X11_bg tw_1383 hf (fun _ h => M_X11_bg G l kp h) ⟨Nat.le_of_ble_eq_true rfl, Nat.le_of_ble_eq_true rfl⟩ (xce_57 G kp _ _) rfl rfl rfl (Nat.le_of_ble_eq_true rfl) hl.1 hR hS dX11_clearing_52 ⟨Nat.le_refl _, Nat.le_refl _⟩ (fun v4 hf H locs hR hS => ?_)
        refine lv_iload_n hC.1 hC.2.1 dX11_clearing_55 rfl (lv_at hl 1 rfl) ?_
        refine x_ic_eq (tgt := 62) hC dX11_clearing_56 (by decide) hf (fun hf => ?_) (fun hf => ?_)
        · refine lv_aload_n hC.1 hC.2.1 dX11_clearing_62 rfl (lv_at hl 0 rfl) ?_
          refine lv_iload hC.1 hC.2.1 dX11_clearing_63 (lv_at hl 5 rfl) ?_
          refine lv_iconst (v := 4) hC.1 hC.2.1 dX11_clearing_65 (by decide) ?_
          refine x_cvi00 (rest := []) hC xy_X11_bg tw_1383 hf (fun _ h => M_X11_bg G l kp h) ⟨Nat.le_of_ble_eq_true rfl, Nat.le_of_ble_eq_true rfl⟩ (xce_57 G kp _ _) rfl rfl rfl (Nat.le_of_ble_eq_true rfl) hl.1 hR hS dX11_clearing_66 ⟨Nat.le_refl _, Nat.le_refl _⟩ (fun v5 hf H locs hR hS => ?_)
          refine lv_i2l hC.1 hC.2.1 dX11_clearing_69 rfl ?_
          refine lv_aload_n hC.1 hC.2.1 dX11_clearing_70 rfl (lv_at hl 0 rfl) ?_
          refine lv_iload hC.1 hC.2.1 dX11_clearing_71 (lv_at hl 5 rfl) ?_
          refine lv_iconst (v := 5) hC.1 hC.2.1 dX11_clearing_73 (by decide) ?_
          refine x_cvi00 (rest := [.long (v5.toInt64)]) hC xy_X11_bg tw_1383 hf (fun _ h => M_X11_bg G l kp h) ⟨Nat.le_of_ble_eq_true rfl, Nat.le_of_ble_eq_true rfl⟩ (xce_57 G kp _ _) rfl rfl rfl (Nat.le_of_ble_eq_true rfl) hl.1 hR hS dX11_clearing_74 ⟨Nat.le_refl _, Nat.le_refl _⟩ (fun v6 hf H locs hR hS => ?_)
          refine lv_i2l hC.1 hC.2.1 dX11_clearing_77 rfl ?_
          refine lv_lmul hC.1 hC.2.1 dX11_clearing_78 ?_
          refine x_lst (lv' := fun y7 => [(7, .long y7), (0, .ref (xz G + 57)), (1, .int x1), (2, .int x2), (3, .int x3), (4, .long x4), (6, .int x6)]) hC hl dX11_clearing_79 (Nat.le_of_ble_eq_true rfl) hf (fun _ => rfl) (fun y7 hf ls hl => ?_)
          refine lv_lload hC.1 hC.2.1 dX11_clearing_81 (lv_at hl 5 rfl) ?_
          refine lv_aload_n hC.1 hC.2.1 dX11_clearing_83 rfl (lv_at hl 1 rfl) ?_
          refine lv_iload hC.1 hC.2.1 dX11_clearing_84 (lv_at hl 6 rfl) ?_
          refine lv_iconst (v := 2) hC.1 hC.2.1 dX11_clearing_86 (by decide) ?_
          refine x_cvi00 (rest := [.long x4]) hC xy_X11_bg tw_1383 hf (fun _ h => M_X11_bg G l kp h) ⟨Nat.le_of_ble_eq_true rfl, Nat.le_of_ble_eq_true rfl⟩ (xce_57 G kp _ _) rfl rfl rfl (Nat.le_of_ble_eq_true rfl) hl.1 hR hS dX11_clearing_87 ⟨Nat.le_refl _, Nat.le_refl _⟩ (fun v8 hf H locs hR hS => ?_)
          refine lv_iload_n hC.1 hC.2.1 dX11_clearing_90 rfl (lv_at hl 4 rfl) ?_
          refine x_ic_ne (tgt := 99) hC dX11_clearing_91 (by decide) hf (fun hf => ?_) (fun hf => ?_)
          · refine lv_lconst (v := 0) hC.1 hC.2.1 dX11_clearing_99 (by decide) ?_
            exact W_X11_clearing_j100 hC N k15 k31 hk15 hk31 hf _ _ _ hR hS (lv_sub hl [1, 2, 3, 4, 6, 0] rfl)
          · refine lv_lload hC.1 hC.2.1 dX11_clearing_94 (lv_at hl 0 rfl) ?_
            refine lv_goto (tgt := 100) hC.1 hC.2.1 dX11_clearing_96 (by decide) ?_
            exact W_X11_clearing_j100 hC N k15 k31 hk15 hk31 hf _ _ _ hR hS (lv_sub hl [1, 2, 3, 4, 6, 0] rfl)
        · refine lv_goto (tgt := 125) hC.1 hC.2.1 dX11_clearing_59 (by decide) ?_
          refine x_iinc (d := 1) (lv' := fun y9 => [(6, .int y9), (0, .ref (xz G + 57)), (1, .int x1), (2, .int x2), (3, .int x3), (4, .long x4)]) (k := 5) hC hl dX11_clearing_125 rfl (by decide) (Nat.le_of_ble_eq_true rfl) hf (fun _ => rfl) (fun y9 hf ls hl => ?_)
          refine lv_goto (tgt := 31) hC.1 hC.2.1 dX11_clearing_128 (by decide) ?_
          exact hk31 x4 y9 hf _ _ _ hR hS (lv_sub hl [1, 2, 3, 4, 5, 0] rfl)
set_option maxRecDepth 20000 in
theorem W_X11_clearing_l15 {G : XG} {l : Launch} {kp : Bool} {p : Program} {e : Env} {s : State} {m : MethodId} {args : Array Value} {below : List Frame} {meth : Method} {c : Code} (hC : xC G p s m args meth c cX11_clearing 9 RX11 (some .int)) (N : Nat) {I : xTI} {L : xTL} {r : Int32} {rI : xTI} {x1 : Int32} : ∀ (n : Nat) (x2 : Int32) (x3 : Int32) , xlp (F_X11_clearing_b15 N I L x1 ) n (x2, x3) = some (r, rI) → ∀ (H : Heap) (locs : List Loc) (ls : Array Slot), xRep G kp I L H → xS G s.heap H locs → lv_has ls 9 [(0, .ref (xz G + 57)), (1, .int x1), (2, .int x2), (3, .int x3)] → W p l e (xrm 2 43) s m args below meth c H locs 0 0 (xMQ G kp below args s (some (.int r)) rI L) (F0 m 15 ls []) := by
  intro n
  induction n with
  | zero =>
    intro x2 x3 hf
    cases hf
  | succ n hk15 =>
    intro x2 x3 hf H locs ls hR hS hl
    replace hf : F_X11_clearing_c15 N I L x1 x2 x3 (xlp (F_X11_clearing_b15 N I L x1 ) n) = some (r, rI) := hf
    unfold F_X11_clearing_c15 at hf
    refine lv_iload_n hC.1 hC.2.1 dX11_clearing_15 rfl (lv_at hl 3 rfl) ?_
    refine lv_aload_n hC.1 hC.2.1 dX11_clearing_16 rfl (lv_at hl 0 rfl) ?_
    refine x_get (v := .ref (xz G + 58)) hC xf_X11_14 (xce_57 G kp _ _) rfl hR dX11_clearing_17 ?_
    refine lv_iconst (v := 1) hC.1 hC.2.1 dX11_clearing_20 (by decide) ?_
    refine x_ial hC (xce_58 G kp _ _) hR dX11_clearing_21 hf (fun v1 hf => ?_)
    refine x_ic_ge (tgt := 159) hC dX11_clearing_22 (by decide) hf (fun hf => ?_) (fun hf => ?_)
    · refine lv_iload_n hC.1 hC.2.1 dX11_clearing_159 rfl (lv_at hl 2 rfl) ?_
      cases hf
      exact x_iret hC hR hS dX11_clearing_160
    · refine lv_lconst (v := 0) hC.1 hC.2.1 dX11_clearing_25 (by decide) ?_
      refine lv_lstore (lv' := [(4, .long 0), (0, .ref (xz G + 57)), (1, .int x1), (2, .int x2), (3, .int x3)]) hC.1 hC.2.1 dX11_clearing_26 hl (Nat.le_of_ble_eq_true rfl) rfl (fun ls hl => ?_)
      refine lv_iconst (v := 0) hC.1 hC.2.1 dX11_clearing_28 (by decide) ?_
      refine lv_istore (lv' := [(6, .int 0), (4, .long 0), (0, .ref (xz G + 57)), (1, .int x1), (2, .int x2), (3, .int x3)]) hC.1 hC.2.1 dX11_clearing_29 hl (Nat.le_of_ble_eq_true rfl) rfl (fun ls hl => ?_)
      exact W_X11_clearing_l31 hC N k15 hk15 _ 0 0 hf _ _ _ hR hS (lv_sub hl [2, 3, 4, 5, 1, 0] rfl)
set_option maxRecDepth 20000 in
theorem M_X11_clearing (G : XG) (l : Launch) (kp : Bool) (N : Nat) {I : xTI} {L : xTL} {x1 : Int32} {r : Int32} {rI : xTI} (hf : F_X11_clearing N I L x1 = some (r, rI)) : xMet G l yX11_clearing cX11_clearing 9 (some .int) 2 43 kp [.ref (xz G + 57), .int x1] I L (some (.int r)) rI L := by
  refine xMet.ofW (by decide +kernel) (Nat.le_of_ble_eq_true rfl) ?_
  intro p e s m args below meth c hC H locs ls hR hS hl
  replace hC : xC G p s m args meth c cX11_clearing 9 RX11 (some .int) := hC
  replace hl : lv_has ls 9 [(0, .ref (xz G + 57)), (1, .int x1)] := hl
  unfold F_X11_clearing at hf
  refine lv_iload_n hC.1 hC.2.1 dX11_clearing_0 rfl (lv_at hl 1 rfl) ?_
  refine x_if_ge (tgt := 11) hC dX11_clearing_1 (by decide) hf (fun hf => ?_) (fun hf => ?_)
  · refine lv_iconst (v := 0) hC.1 hC.2.1 dX11_clearing_11 (by decide) ?_
    refine lv_istore_n (lv' := [(2, .int 0), (0, .ref (xz G + 57)), (1, .int x1)]) hC.1 hC.2.1 dX11_clearing_12 rfl hl (Nat.le_of_ble_eq_true rfl) rfl (fun ls hl => ?_)
    refine lv_iconst (v := 0) hC.1 hC.2.1 dX11_clearing_13 (by decide) ?_
    refine lv_istore_n (lv' := [(3, .int 0), (2, .int 0), (0, .ref (xz G + 57)), (1, .int x1)]) hC.1 hC.2.1 dX11_clearing_14 rfl hl (Nat.le_of_ble_eq_true rfl) rfl (fun ls hl => ?_)
    exact W_X11_clearing_l15 hC N _ 0 0 hf _ _ _ hR hS (lv_sub hl [2, 3, 1, 0] rfl)
  · refine lv_aload_n hC.1 hC.2.1 dX11_clearing_4 rfl (lv_at hl 0 rfl) ?_
    refine lv_bipush (v := (-7)) hC.1 hC.2.1 dX11_clearing_5 (by decide) ?_
    refine x_cvi10 (rest := []) hC xy_X11_refuse tw_1338 hf (fun _ _ h => M_X11_refuse G l kp h) ⟨Nat.le_of_ble_eq_true rfl, Nat.le_of_ble_eq_true rfl⟩ (xce_57 G kp _ _) rfl rfl rfl (Nat.le_of_ble_eq_true rfl) hl.1 hR hS dX11_clearing_7 ⟨Nat.le_refl _, Nat.le_refl _⟩ (fun v1 I2 hf H locs hR hS => ?_)
    cases hf
    exact x_iret hC hR hS dX11_clearing_10
set_option maxRecDepth 20000 in
theorem W_X11_manyOf_j37 {G : XG} {l : Launch} {kp : Bool} {p : Program} {e : Env} {s : State} {m : MethodId} {args : Array Value} {below : List Frame} {meth : Method} {c : Code} (hC : xC G p s m args meth c cX11_manyOf 4 RX11 (some .int)) (N : Nat) {I : xTI} {L : xTL} {r : Int32} {x1 : Int32} {x3 : Int32} {t0 : Int32} {t1 : Int32} (k4 : Int32 × Int32 → Option (Int32)) (hk4 : ∀ (x2 : Int32) (x3 : Int32) , k4 (x2, x3) = some r → ∀ (H : Heap) (locs : List Loc) (ls : Array Slot), xRep G kp I L H → xS G s.heap H locs → lv_has ls 4 [(0, .ref (xz G + 57)), (1, .int x1), (2, .int x2), (3, .int x3)] → W p l e (xrm 1 22) s m args below meth c H locs 0 0 (xMQ G kp below args s (some (.int r)) I L) (F0 m 4 ls [])) (hf : F_X11_manyOf_j37 k4 N I x1 x3 t0 t1 = some r) : ∀ (H : Heap) (locs : List Loc) (ls : Array Slot), xRep G kp I L H → xS G s.heap H locs → lv_has ls 4 [(0, .ref (xz G + 57)), (1, .int x1), (3, .int x3)] → W p l e (xrm 1 22) s m args below meth c H locs 0 0 (xMQ G kp below args s (some (.int r)) I L) (F0 m 37 ls [.int t1, .int t0]) := by
  intro H locs ls hR hS hl
  unfold F_X11_manyOf_j37 at hf
  refine lv_iadd hC.1 hC.2.1 dX11_manyOf_37 ?_
  refine x_istn (lv' := fun y1 => [(2, .int y1), (0, .ref (xz G + 57)), (1, .int x1), (3, .int x3)]) hC hl dX11_manyOf_38 rfl (Nat.le_of_ble_eq_true rfl) hf (fun _ => rfl) (fun y1 hf ls hl => ?_)
  refine x_iinc (d := 1) (lv' := fun y2 => [(3, .int y2), (2, .int y1), (0, .ref (xz G + 57)), (1, .int x1)]) (k := 3) hC hl dX11_manyOf_39 rfl (by decide) (Nat.le_of_ble_eq_true rfl) hf (fun _ => rfl) (fun y2 hf ls hl => ?_)
  refine lv_goto (tgt := 4) hC.1 hC.2.1 dX11_manyOf_42 (by decide) ?_
  exact hk4 y1 y2 hf _ _ _ hR hS (lv_sub hl [2, 3, 1, 0] rfl)
set_option maxRecDepth 20000 in
theorem W_X11_manyOf_l4 {G : XG} {l : Launch} {kp : Bool} {p : Program} {e : Env} {s : State} {m : MethodId} {args : Array Value} {below : List Frame} {meth : Method} {c : Code} (hC : xC G p s m args meth c cX11_manyOf 4 RX11 (some .int)) (N : Nat) {I : xTI} {L : xTL} {r : Int32} {x1 : Int32} : ∀ (n : Nat) (x2 : Int32) (x3 : Int32) , xlp (F_X11_manyOf_b4 N I x1 ) n (x2, x3) = some r → ∀ (H : Heap) (locs : List Loc) (ls : Array Slot), xRep G kp I L H → xS G s.heap H locs → lv_has ls 4 [(0, .ref (xz G + 57)), (1, .int x1), (2, .int x2), (3, .int x3)] → W p l e (xrm 1 22) s m args below meth c H locs 0 0 (xMQ G kp below args s (some (.int r)) I L) (F0 m 4 ls []) := by
  intro n
  induction n with
  | zero =>
    intro x2 x3 hf
    cases hf
  | succ n hk4 =>
    intro x2 x3 hf H locs ls hR hS hl
    replace hf : F_X11_manyOf_c4 N I x1 x2 x3 (xlp (F_X11_manyOf_b4 N I x1 ) n) = some r := hf
    unfold F_X11_manyOf_c4 at hf
    refine lv_iload_n hC.1 hC.2.1 dX11_manyOf_4 rfl (lv_at hl 3 rfl) ?_
    refine lv_bipush (v := 60) hC.1 hC.2.1 dX11_manyOf_5 (by decide) ?_
    refine x_ic_ge (tgt := 45) hC dX11_manyOf_7 (by decide) hf (fun hf => ?_) (fun hf => ?_)
    · refine lv_iload_n hC.1 hC.2.1 dX11_manyOf_45 rfl (lv_at hl 2 rfl) ?_
      cases hf
      exact x_iret hC hR hS dX11_manyOf_46
    · refine lv_iload_n hC.1 hC.2.1 dX11_manyOf_10 rfl (lv_at hl 2 rfl) ?_
      refine lv_aload_n hC.1 hC.2.1 dX11_manyOf_11 rfl (lv_at hl 0 rfl) ?_
      refine lv_iload_n hC.1 hC.2.1 dX11_manyOf_12 rfl (lv_at hl 3 rfl) ?_
      refine lv_iconst (v := 0) hC.1 hC.2.1 dX11_manyOf_13 (by decide) ?_
      refine x_cvi00 (rest := [.int x2]) hC xy_X11_bg tw_1383 hf (fun _ h => M_X11_bg G l kp h) ⟨Nat.le_of_ble_eq_true rfl, Nat.le_of_ble_eq_true rfl⟩ (xce_57 G kp _ _) rfl rfl rfl (Nat.le_of_ble_eq_true rfl) hl.1 hR hS dX11_manyOf_14 ⟨Nat.le_refl _, Nat.le_refl _⟩ (fun v1 hf H locs hR hS => ?_)
      refine lv_iconst (v := 1) hC.1 hC.2.1 dX11_manyOf_17 (by decide) ?_
      refine x_ic_ne (tgt := 36) hC dX11_manyOf_18 (by decide) hf (fun hf => ?_) (fun hf => ?_)
      · refine lv_iconst (v := 0) hC.1 hC.2.1 dX11_manyOf_36 (by decide) ?_
        exact W_X11_manyOf_j37 hC N k4 hk4 hf _ _ _ hR hS (lv_sub hl [0, 1, 3] rfl)
      · refine lv_aload_n hC.1 hC.2.1 dX11_manyOf_21 rfl (lv_at hl 0 rfl) ?_
        refine lv_iload_n hC.1 hC.2.1 dX11_manyOf_22 rfl (lv_at hl 3 rfl) ?_
        refine lv_bipush (v := 8) hC.1 hC.2.1 dX11_manyOf_23 (by decide) ?_
        refine x_cvi00 (rest := [.int x2]) hC xy_X11_bg tw_1383 hf (fun _ h => M_X11_bg G l kp h) ⟨Nat.le_of_ble_eq_true rfl, Nat.le_of_ble_eq_true rfl⟩ (xce_57 G kp _ _) rfl rfl rfl (Nat.le_of_ble_eq_true rfl) hl.1 hR hS dX11_manyOf_25 ⟨Nat.le_refl _, Nat.le_refl _⟩ (fun v2 hf H locs hR hS => ?_)
        refine lv_iload_n hC.1 hC.2.1 dX11_manyOf_28 rfl (lv_at hl 1 rfl) ?_
        refine x_ic_ne (tgt := 36) hC dX11_manyOf_29 (by decide) hf (fun hf => ?_) (fun hf => ?_)
        · refine lv_iconst (v := 0) hC.1 hC.2.1 dX11_manyOf_36 (by decide) ?_
          exact W_X11_manyOf_j37 hC N k4 hk4 hf _ _ _ hR hS (lv_sub hl [0, 1, 3] rfl)
        · refine lv_iconst (v := 1) hC.1 hC.2.1 dX11_manyOf_32 (by decide) ?_
          refine lv_goto (tgt := 37) hC.1 hC.2.1 dX11_manyOf_33 (by decide) ?_
          exact W_X11_manyOf_j37 hC N k4 hk4 hf _ _ _ hR hS (lv_sub hl [0, 1, 3] rfl)
set_option maxRecDepth 20000 in
theorem M_X11_manyOf (G : XG) (l : Launch) (kp : Bool) (N : Nat) {I : xTI} {L : xTL} {x1 : Int32} {r : Int32} (hf : F_X11_manyOf N I x1 = some r) : xMet G l yX11_manyOf cX11_manyOf 4 (some .int) 1 22 kp [.ref (xz G + 57), .int x1] I L (some (.int r)) I L := by
  refine xMet.ofW (by decide +kernel) (Nat.le_of_ble_eq_true rfl) ?_
  intro p e s m args below meth c hC H locs ls hR hS hl
  replace hC : xC G p s m args meth c cX11_manyOf 4 RX11 (some .int) := hC
  replace hl : lv_has ls 4 [(0, .ref (xz G + 57)), (1, .int x1)] := hl
  unfold F_X11_manyOf at hf
  refine lv_iconst (v := 0) hC.1 hC.2.1 dX11_manyOf_0 (by decide) ?_
  refine lv_istore_n (lv' := [(2, .int 0), (0, .ref (xz G + 57)), (1, .int x1)]) hC.1 hC.2.1 dX11_manyOf_1 rfl hl (Nat.le_of_ble_eq_true rfl) rfl (fun ls hl => ?_)
  refine lv_iconst (v := 0) hC.1 hC.2.1 dX11_manyOf_2 (by decide) ?_
  refine lv_istore_n (lv' := [(3, .int 0), (2, .int 0), (0, .ref (xz G + 57)), (1, .int x1)]) hC.1 hC.2.1 dX11_manyOf_3 rfl hl (Nat.le_of_ble_eq_true rfl) rfl (fun ls hl => ?_)
  exact W_X11_manyOf_l4 hC N _ 0 0 hf _ _ _ hR hS (lv_sub hl [2, 3, 1, 0] rfl)
set_option maxRecDepth 20000 in
theorem M_X11_count (G : XG) (l : Launch) (kp : Bool) (N : Nat) {I : xTI} {L : xTL} {x1 : Int32} {r : Int32} {rI : xTI} (hf : F_X11_count N I x1 = some (r, rI)) : xMet G l yX11_count cX11_count 2 (some .int) 2 45 kp [.ref (xz G + 57), .int x1] I L (some (.int r)) rI L := by
  refine xMet.ofW (by decide +kernel) (Nat.le_of_ble_eq_true rfl) ?_
  intro p e s m args below meth c hC H locs ls hR hS hl
  replace hC : xC G p s m args meth c cX11_count 2 RX11 (some .int) := hC
  replace hl : lv_has ls 2 [(0, .ref (xz G + 57)), (1, .int x1)] := hl
  unfold F_X11_count at hf
  refine lv_iload_n hC.1 hC.2.1 dX11_count_0 rfl (lv_at hl 1 rfl) ?_
  by_cases hc : x1 = 0
  · rw [if_pos hc] at hf
    refine x_tsi (tgt := 80) hC dX11_count_1 hc (by decide +kernel) ?_
    refine lv_aload_n hC.1 hC.2.1 dX11_count_80 rfl (lv_at hl 0 rfl) ?_
    refine x_get (v := .ref (xz G + 58)) hC xf_X11_14 (xce_57 G kp _ _) rfl hR dX11_count_81 ?_
    refine lv_iconst (v := 0) hC.1 hC.2.1 dX11_count_84 (by decide) ?_
    refine x_ial hC (xce_58 G kp _ _) hR dX11_count_85 hf (fun v1 hf => ?_)
    cases hf
    exact x_iret hC hR hS dX11_count_86
  rw [if_neg hc] at hf
  have hc0 := hc
  clear hc
  by_cases hc : x1 = 1
  · rw [if_pos hc] at hf
    refine x_tsi (tgt := 87) hC dX11_count_1 hc (by decide +kernel) ?_
    refine lv_aload_n hC.1 hC.2.1 dX11_count_87 rfl (lv_at hl 0 rfl) ?_
    refine x_get (v := .ref (xz G + 58)) hC xf_X11_14 (xce_57 G kp _ _) rfl hR dX11_count_88 ?_
    refine lv_iconst (v := 0) hC.1 hC.2.1 dX11_count_91 (by decide) ?_
    refine x_ial hC (xce_58 G kp _ _) hR dX11_count_92 hf (fun v2 hf => ?_)
    refine lv_bipush (v := 14) hC.1 hC.2.1 dX11_count_93 (by decide) ?_
    refine lv_irem hC.1 hC.2.1 dX11_count_95 (by decide) ?_
    cases hf
    exact x_iret hC hR hS dX11_count_96
  rw [if_neg hc] at hf
  have hc1 := hc
  clear hc
  by_cases hc : x1 = 2
  · rw [if_pos hc] at hf
    refine x_tsi (tgt := 97) hC dX11_count_1 hc (by decide +kernel) ?_
    refine lv_aload_n hC.1 hC.2.1 dX11_count_97 rfl (lv_at hl 0 rfl) ?_
    refine x_get (v := .ref (xz G + 58)) hC xf_X11_14 (xce_57 G kp _ _) rfl hR dX11_count_98 ?_
    refine lv_iconst (v := 0) hC.1 hC.2.1 dX11_count_101 (by decide) ?_
    refine x_ial hC (xce_58 G kp _ _) hR dX11_count_102 hf (fun v3 hf => ?_)
    refine lv_bipush (v := 14) hC.1 hC.2.1 dX11_count_103 (by decide) ?_
    refine lv_idiv hC.1 hC.2.1 dX11_count_105 (by decide) ?_
    cases hf
    exact x_iret hC hR hS dX11_count_106
  rw [if_neg hc] at hf
  have hc2 := hc
  clear hc
  by_cases hc : x1 = 3
  · rw [if_pos hc] at hf
    refine x_tsi (tgt := 107) hC dX11_count_1 hc (by decide +kernel) ?_
    refine lv_aload_n hC.1 hC.2.1 dX11_count_107 rfl (lv_at hl 0 rfl) ?_
    refine x_get (v := .ref (xz G + 58)) hC xf_X11_14 (xce_57 G kp _ _) rfl hR dX11_count_108 ?_
    refine lv_iconst (v := 1) hC.1 hC.2.1 dX11_count_111 (by decide) ?_
    refine x_ial hC (xce_58 G kp _ _) hR dX11_count_112 hf (fun v4 hf => ?_)
    cases hf
    exact x_iret hC hR hS dX11_count_113
  rw [if_neg hc] at hf
  have hc3 := hc
  clear hc
  by_cases hc : x1 = 4
  · rw [if_pos hc] at hf
    refine x_tsi (tgt := 114) hC dX11_count_1 hc (by decide +kernel) ?_
    refine lv_aload_n hC.1 hC.2.1 dX11_count_114 rfl (lv_at hl 0 rfl) ?_
    refine x_get (v := .ref (xz G + 58)) hC xf_X11_14 (xce_57 G kp _ _) rfl hR dX11_count_115 ?_
    refine lv_iconst (v := 2) hC.1 hC.2.1 dX11_count_118 (by decide) ?_
    refine x_ial hC (xce_58 G kp _ _) hR dX11_count_119 hf (fun v5 hf => ?_)
    cases hf
    exact x_iret hC hR hS dX11_count_120
  rw [if_neg hc] at hf
  have hc4 := hc
  clear hc
  by_cases hc : x1 = 5
  · rw [if_pos hc] at hf
    refine x_tsi (tgt := 121) hC dX11_count_1 hc (by decide +kernel) ?_
    refine lv_aload_n hC.1 hC.2.1 dX11_count_121 rfl (lv_at hl 0 rfl) ?_
    refine lv_iconst (v := 0) hC.1 hC.2.1 dX11_count_122 (by decide) ?_
    refine x_cvi00 (rest := []) hC xy_X11_manyOf tw_1732 hf (fun _ h => M_X11_manyOf G l kp N h) ⟨Nat.le_of_ble_eq_true rfl, Nat.le_of_ble_eq_true rfl⟩ (xce_57 G kp _ _) rfl rfl rfl (Nat.le_of_ble_eq_true rfl) hl.1 hR hS dX11_count_123 ⟨Nat.le_refl _, Nat.le_refl _⟩ (fun v6 hf H locs hR hS => ?_)
    cases hf
    exact x_iret hC hR hS dX11_count_126
  rw [if_neg hc] at hf
  have hc5 := hc
  clear hc
  by_cases hc : x1 = 6
  · rw [if_pos hc] at hf
    refine x_tsi (tgt := 127) hC dX11_count_1 hc (by decide +kernel) ?_
    refine lv_aload_n hC.1 hC.2.1 dX11_count_127 rfl (lv_at hl 0 rfl) ?_
    refine lv_iconst (v := 1) hC.1 hC.2.1 dX11_count_128 (by decide) ?_
    refine x_cvi00 (rest := []) hC xy_X11_manyOf tw_1732 hf (fun _ h => M_X11_manyOf G l kp N h) ⟨Nat.le_of_ble_eq_true rfl, Nat.le_of_ble_eq_true rfl⟩ (xce_57 G kp _ _) rfl rfl rfl (Nat.le_of_ble_eq_true rfl) hl.1 hR hS dX11_count_129 ⟨Nat.le_refl _, Nat.le_refl _⟩ (fun v7 hf H locs hR hS => ?_)
    cases hf
    exact x_iret hC hR hS dX11_count_132
  rw [if_neg hc] at hf
  have hc6 := hc
  clear hc
  by_cases hc : x1 = 7
  · rw [if_pos hc] at hf
    refine x_tsi (tgt := 133) hC dX11_count_1 hc (by decide +kernel) ?_
    refine lv_aload_n hC.1 hC.2.1 dX11_count_133 rfl (lv_at hl 0 rfl) ?_
    refine lv_iconst (v := 2) hC.1 hC.2.1 dX11_count_134 (by decide) ?_
    refine x_cvi00 (rest := []) hC xy_X11_manyOf tw_1732 hf (fun _ h => M_X11_manyOf G l kp N h) ⟨Nat.le_of_ble_eq_true rfl, Nat.le_of_ble_eq_true rfl⟩ (xce_57 G kp _ _) rfl rfl rfl (Nat.le_of_ble_eq_true rfl) hl.1 hR hS dX11_count_135 ⟨Nat.le_refl _, Nat.le_refl _⟩ (fun v8 hf H locs hR hS => ?_)
    cases hf
    exact x_iret hC hR hS dX11_count_138
  rw [if_neg hc] at hf
  have hc7 := hc
  clear hc
  by_cases hc : x1 = 8
  · rw [if_pos hc] at hf
    refine x_tsi (tgt := 139) hC dX11_count_1 hc (by decide +kernel) ?_
    refine lv_aload_n hC.1 hC.2.1 dX11_count_139 rfl (lv_at hl 0 rfl) ?_
    refine lv_iconst (v := 3) hC.1 hC.2.1 dX11_count_140 (by decide) ?_
    refine x_cvi00 (rest := []) hC xy_X11_manyOf tw_1732 hf (fun _ h => M_X11_manyOf G l kp N h) ⟨Nat.le_of_ble_eq_true rfl, Nat.le_of_ble_eq_true rfl⟩ (xce_57 G kp _ _) rfl rfl rfl (Nat.le_of_ble_eq_true rfl) hl.1 hR hS dX11_count_141 ⟨Nat.le_refl _, Nat.le_refl _⟩ (fun v9 hf H locs hR hS => ?_)
    cases hf
    exact x_iret hC hR hS dX11_count_144
  rw [if_neg hc] at hf
  have hc8 := hc
  clear hc
  by_cases hc : x1 = 9
  · rw [if_pos hc] at hf
    refine x_tsi (tgt := 145) hC dX11_count_1 hc (by decide +kernel) ?_
    refine lv_aload_n hC.1 hC.2.1 dX11_count_145 rfl (lv_at hl 0 rfl) ?_
    refine x_get (v := .ref (xz G + 58)) hC xf_X11_14 (xce_57 G kp _ _) rfl hR dX11_count_146 ?_
    refine lv_iconst (v := 3) hC.1 hC.2.1 dX11_count_149 (by decide) ?_
    refine x_ial hC (xce_58 G kp _ _) hR dX11_count_150 hf (fun v10 hf => ?_)
    cases hf
    exact x_iret hC hR hS dX11_count_151
  rw [if_neg hc] at hf
  have hc9 := hc
  clear hc
  by_cases hc : x1 = 10
  · rw [if_pos hc] at hf
    refine x_tsi (tgt := 152) hC dX11_count_1 hc (by decide +kernel) ?_
    refine lv_aload_n hC.1 hC.2.1 dX11_count_152 rfl (lv_at hl 0 rfl) ?_
    refine x_get (v := .ref (xz G + 58)) hC xf_X11_14 (xce_57 G kp _ _) rfl hR dX11_count_153 ?_
    refine lv_iconst (v := 4) hC.1 hC.2.1 dX11_count_156 (by decide) ?_
    refine x_ial hC (xce_58 G kp _ _) hR dX11_count_157 hf (fun v11 hf => ?_)
    cases hf
    exact x_iret hC hR hS dX11_count_158
  rw [if_neg hc] at hf
  have hc10 := hc
  clear hc
  by_cases hc : x1 = 11
  · rw [if_pos hc] at hf
    refine x_tsi (tgt := 159) hC dX11_count_1 hc (by decide +kernel) ?_
    refine lv_aload_n hC.1 hC.2.1 dX11_count_159 rfl (lv_at hl 0 rfl) ?_
    refine x_getI hC xf_X11_329 (xce_57 G kp _ _) rfl hR dX11_count_160 hf (fun v12 hf => ?_)
    cases hf
    exact x_iret hC hR hS dX11_count_163
  rw [if_neg hc] at hf
  have hc11 := hc
  clear hc
  by_cases hc : x1 = 12
  · rw [if_pos hc] at hf
    refine x_tsi (tgt := 164) hC dX11_count_1 hc (by decide +kernel) ?_
    refine lv_aload_n hC.1 hC.2.1 dX11_count_164 rfl (lv_at hl 0 rfl) ?_
    refine x_get (v := .ref (xz G + 58)) hC xf_X11_14 (xce_57 G kp _ _) rfl hR dX11_count_165 ?_
    refine lv_iconst (v := 1) hC.1 hC.2.1 dX11_count_168 (by decide) ?_
    refine x_ial hC (xce_58 G kp _ _) hR dX11_count_169 hf (fun v13 hf => ?_)
    refine lv_aload_n hC.1 hC.2.1 dX11_count_170 rfl (lv_at hl 0 rfl) ?_
    refine x_cvi00 (rest := [.int v13]) hC xy_X11_menUp tw_1544 hf (fun _ h => M_X11_menUp G l kp N h) ⟨Nat.le_of_ble_eq_true rfl, Nat.le_of_ble_eq_true rfl⟩ (xce_57 G kp _ _) rfl rfl rfl (Nat.le_of_ble_eq_true rfl) hl.1 hR hS dX11_count_171 ⟨Nat.le_refl _, Nat.le_refl _⟩ (fun v14 hf H locs hR hS => ?_)
    refine lv_isub hC.1 hC.2.1 dX11_count_174 ?_
    cases hf
    exact x_iret hC hR hS dX11_count_175
  rw [if_neg hc] at hf
  have hc12 := hc
  clear hc
  by_cases hc : x1 = 13
  · rw [if_pos hc] at hf
    refine x_tsi (tgt := 176) hC dX11_count_1 hc (by decide +kernel) ?_
    refine lv_aload_n hC.1 hC.2.1 dX11_count_176 rfl (lv_at hl 0 rfl) ?_
    refine x_get (v := .ref (xz G + 58)) hC xf_X11_14 (xce_57 G kp _ _) rfl hR dX11_count_177 ?_
    refine lv_bipush (v := 6) hC.1 hC.2.1 dX11_count_180 (by decide) ?_
    refine x_ial hC (xce_58 G kp _ _) hR dX11_count_182 hf (fun v15 hf => ?_)
    cases hf
    exact x_iret hC hR hS dX11_count_183
  rw [if_neg hc] at hf
  have hc13 := hc
  clear hc
  by_cases hc : x1 = 14
  · rw [if_pos hc] at hf
    refine x_tsi (tgt := 184) hC dX11_count_1 hc (by decide +kernel) ?_
    refine lv_aload_n hC.1 hC.2.1 dX11_count_184 rfl (lv_at hl 0 rfl) ?_
    refine x_get (v := .ref (xz G + 58)) hC xf_X11_14 (xce_57 G kp _ _) rfl hR dX11_count_185 ?_
    refine lv_bipush (v := 7) hC.1 hC.2.1 dX11_count_188 (by decide) ?_
    refine x_ial hC (xce_58 G kp _ _) hR dX11_count_190 hf (fun v16 hf => ?_)
    cases hf
    exact x_iret hC hR hS dX11_count_191
  rw [if_neg hc] at hf
  have hc14 := hc
  clear hc
  by_cases hc : x1 = 15
  · rw [if_pos hc] at hf
    refine x_tsi (tgt := 192) hC dX11_count_1 hc (by decide +kernel) ?_
    refine lv_aload_n hC.1 hC.2.1 dX11_count_192 rfl (lv_at hl 0 rfl) ?_
    refine x_get (v := .ref (xz G + 58)) hC xf_X11_14 (xce_57 G kp _ _) rfl hR dX11_count_193 ?_
    refine lv_iconst (v := 5) hC.1 hC.2.1 dX11_count_196 (by decide) ?_
    refine x_ial hC (xce_58 G kp _ _) hR dX11_count_197 hf (fun v17 hf => ?_)
    cases hf
    exact x_iret hC hR hS dX11_count_198
  rw [if_neg hc] at hf
  have hc15 := hc
  clear hc
  have e0 : (x1).toInt ≠ 0 := fun h => hc0 (Int32.toInt_inj.mp (h.trans (by decide)))
  have e1 : (x1).toInt ≠ 1 := fun h => hc1 (Int32.toInt_inj.mp (h.trans (by decide)))
  have e2 : (x1).toInt ≠ 2 := fun h => hc2 (Int32.toInt_inj.mp (h.trans (by decide)))
  have e3 : (x1).toInt ≠ 3 := fun h => hc3 (Int32.toInt_inj.mp (h.trans (by decide)))
  have e4 : (x1).toInt ≠ 4 := fun h => hc4 (Int32.toInt_inj.mp (h.trans (by decide)))
  have e5 : (x1).toInt ≠ 5 := fun h => hc5 (Int32.toInt_inj.mp (h.trans (by decide)))
  have e6 : (x1).toInt ≠ 6 := fun h => hc6 (Int32.toInt_inj.mp (h.trans (by decide)))
  have e7 : (x1).toInt ≠ 7 := fun h => hc7 (Int32.toInt_inj.mp (h.trans (by decide)))
  have e8 : (x1).toInt ≠ 8 := fun h => hc8 (Int32.toInt_inj.mp (h.trans (by decide)))
  have e9 : (x1).toInt ≠ 9 := fun h => hc9 (Int32.toInt_inj.mp (h.trans (by decide)))
  have e10 : (x1).toInt ≠ 10 := fun h => hc10 (Int32.toInt_inj.mp (h.trans (by decide)))
  have e11 : (x1).toInt ≠ 11 := fun h => hc11 (Int32.toInt_inj.mp (h.trans (by decide)))
  have e12 : (x1).toInt ≠ 12 := fun h => hc12 (Int32.toInt_inj.mp (h.trans (by decide)))
  have e13 : (x1).toInt ≠ 13 := fun h => hc13 (Int32.toInt_inj.mp (h.trans (by decide)))
  have e14 : (x1).toInt ≠ 14 := fun h => hc14 (Int32.toInt_inj.mp (h.trans (by decide)))
  have e15 : (x1).toInt ≠ 15 := fun h => hc15 (Int32.toInt_inj.mp (h.trans (by decide)))
  refine x_tso (tgt := 199) hC dX11_count_1 (by omega) (by decide) ?_
  refine lv_aload_n hC.1 hC.2.1 dX11_count_199 rfl (lv_at hl 0 rfl) ?_
  refine lv_bipush (v := (-7)) hC.1 hC.2.1 dX11_count_200 (by decide) ?_
  refine x_cvi10 (rest := []) hC xy_X11_refuse tw_1338 hf (fun _ _ h => M_X11_refuse G l kp h) ⟨Nat.le_of_ble_eq_true rfl, Nat.le_of_ble_eq_true rfl⟩ (xce_57 G kp _ _) rfl rfl rfl (Nat.le_of_ble_eq_true rfl) hl.1 hR hS dX11_count_202 ⟨Nat.le_refl _, Nat.le_refl _⟩ (fun v18 I19 hf H locs hR hS => ?_)
  cases hf
  exact x_iret hC hR hS dX11_count_205
set_option maxRecDepth 20000 in
theorem W_X11_image_l28 {G : XG} {l : Launch} {kp : Bool} {p : Program} {e : Env} {s : State} {m : MethodId} {args : Array Value} {below : List Frame} {meth : Method} {c : Code} (hC : xC G p s m args meth c cX11_image 2 RX11 (some .int)) (N : Nat) {I : xTI} {r : Int32} {rI : xTI} {rL : xTL} : ∀ (n : Nat) (x1 : Int32) (L : xTL) , xlp (F_X11_image_b28 N I ) n (x1, L) = some (r, rI, rL) → ∀ (H : Heap) (locs : List Loc) (ls : Array Slot), xRep G kp I L H → xS G s.heap H locs → lv_has ls 2 [(0, .ref (xz G + 57)), (1, .int x1)] → W p l e (xrm 0 0) s m args below meth c H locs 0 0 (xMQ G kp below args s (some (.int r)) rI rL) (F0 m 28 ls []) := by
  intro n
  induction n with
  | zero =>
    intro x1 L hf
    cases hf
  | succ n hk28 =>
    intro x1 L hf H locs ls hR hS hl
    replace hf : F_X11_image_c28 N I x1 L (xlp (F_X11_image_b28 N I ) n) = some (r, rI, rL) := hf
    unfold F_X11_image_c28 at hf
    refine lv_iload_n hC.1 hC.2.1 dX11_image_28 rfl (lv_at hl 1 rfl) ?_
    refine lv_sipush (v := 216) hC.1 hC.2.1 dX11_image_29 (by decide) ?_
    refine x_ic_ge (tgt := 53) hC dX11_image_32 (by decide) hf (fun hf => ?_) (fun hf => ?_)
    · refine lv_aload_n hC.1 hC.2.1 dX11_image_53 rfl (lv_at hl 0 rfl) ?_
      refine lv_iconst (v := 1) hC.1 hC.2.1 dX11_image_54 (by decide) ?_
      refine x_putZ hC xf_X11_417 xp_11_44 (fun f => xce_57 G kp f _) rfl (Nat.le_of_ble_eq_true rfl) hR hS dX11_image_55 hf (fun I1 hf H locs hR hS => ?_)
      refine lv_aload_n hC.1 hC.2.1 dX11_image_58 rfl (lv_at hl 0 rfl) ?_
      refine x_get (v := .ref (xz G + 58)) hC xf_X11_14 (xce_57 G kp _ _) rfl hR dX11_image_59 ?_
      refine lv_iconst (v := 0) hC.1 hC.2.1 dX11_image_62 (by decide) ?_
      refine x_ial hC (xce_58 G kp _ _) hR dX11_image_63 hf (fun v2 hf => ?_)
      cases hf
      exact x_iret hC hR hS dX11_image_64
    · refine lv_aload_n hC.1 hC.2.1 dX11_image_35 rfl (lv_at hl 0 rfl) ?_
      refine x_get (v := .ref (xz G + 85)) hC xf_X11_98 (xce_57 G kp _ _) rfl hR dX11_image_36 ?_
      refine lv_iload_n hC.1 hC.2.1 dX11_image_39 rfl (lv_at hl 1 rfl) ?_
      refine lv_aload_n hC.1 hC.2.1 dX11_image_40 rfl (lv_at hl 0 rfl) ?_
      refine x_get (v := .ref (xz G + 59)) hC xf_X11_18 (xce_57 G kp _ _) rfl hR dX11_image_41 ?_
      refine lv_iload_n hC.1 hC.2.1 dX11_image_44 rfl (lv_at hl 1 rfl) ?_
      refine x_lal hC (xce_59 G kp _ _) hR dX11_image_45 hf (fun v3 hf => ?_)
      refine x_las hC (fun f => xce_85 G kp _ f) hR hS dX11_image_46 hf (fun L4 hf H locs hR hS => ?_)
      refine x_iinc (d := 1) (lv' := fun y5 => [(1, .int y5), (0, .ref (xz G + 57))]) (k := 1) hC hl dX11_image_47 rfl (by decide) (Nat.le_of_ble_eq_true rfl) hf (fun _ => rfl) (fun y5 hf ls hl => ?_)
      refine lv_goto (tgt := 28) hC.1 hC.2.1 dX11_image_50 (by decide) ?_
      exact hk28 y5 L4 hf _ _ _ hR hS (lv_sub hl [1, 0] rfl)
set_option maxRecDepth 20000 in
theorem W_X11_image_l2 {G : XG} {l : Launch} {kp : Bool} {p : Program} {e : Env} {s : State} {m : MethodId} {args : Array Value} {below : List Frame} {meth : Method} {c : Code} (hC : xC G p s m args meth c cX11_image 2 RX11 (some .int)) (N : Nat) {L : xTL} {r : Int32} {rI : xTI} {rL : xTL} : ∀ (n : Nat) (x1 : Int32) (I : xTI) , xlp (F_X11_image_b2 N L ) n (x1, I) = some (r, rI, rL) → ∀ (H : Heap) (locs : List Loc) (ls : Array Slot), xRep G kp I L H → xS G s.heap H locs → lv_has ls 2 [(0, .ref (xz G + 57)), (1, .int x1)] → W p l e (xrm 0 0) s m args below meth c H locs 0 0 (xMQ G kp below args s (some (.int r)) rI rL) (F0 m 2 ls []) := by
  intro n
  induction n with
  | zero =>
    intro x1 I hf
    cases hf
  | succ n hk2 =>
    intro x1 I hf H locs ls hR hS hl
    replace hf : F_X11_image_c2 N L x1 I (xlp (F_X11_image_b2 N L ) n) = some (r, rI, rL) := hf
    unfold F_X11_image_c2 at hf
    refine lv_iload_n hC.1 hC.2.1 dX11_image_2 rfl (lv_at hl 1 rfl) ?_
    refine x_ldc (v := 40670) hC tw_1185 dX11_image_3 ?_
    refine x_ic_ge (tgt := 26) hC dX11_image_5 (by decide) hf (fun hf => ?_) (fun hf => ?_)
    · refine lv_iconst (v := 0) hC.1 hC.2.1 dX11_image_26 (by decide) ?_
      refine lv_istore_n (lv' := [(1, .int 0), (0, .ref (xz G + 57))]) hC.1 hC.2.1 dX11_image_27 rfl hl (Nat.le_of_ble_eq_true rfl) rfl (fun ls hl => ?_)
      exact W_X11_image_l28 hC N _ 0 L hf _ _ _ hR hS (lv_sub hl [1, 0] rfl)
    · refine lv_aload_n hC.1 hC.2.1 dX11_image_8 rfl (lv_at hl 0 rfl) ?_
      refine x_get (v := .ref (xz G + 84)) hC xf_X11_95 (xce_57 G kp _ _) rfl hR dX11_image_9 ?_
      refine lv_iload_n hC.1 hC.2.1 dX11_image_12 rfl (lv_at hl 1 rfl) ?_
      refine lv_aload_n hC.1 hC.2.1 dX11_image_13 rfl (lv_at hl 0 rfl) ?_
      refine x_get (v := .ref (xz G + 58)) hC xf_X11_14 (xce_57 G kp _ _) rfl hR dX11_image_14 ?_
      refine lv_iload_n hC.1 hC.2.1 dX11_image_17 rfl (lv_at hl 1 rfl) ?_
      refine x_ial hC (xce_58 G kp _ _) hR dX11_image_18 hf (fun v1 hf => ?_)
      refine x_ias hC (fun f => xce_84 G kp f _) hR hS dX11_image_19 hf (fun I2 hf H locs hR hS => ?_)
      refine x_iinc (d := 1) (lv' := fun y3 => [(1, .int y3), (0, .ref (xz G + 57))]) (k := 1) hC hl dX11_image_20 rfl (by decide) (Nat.le_of_ble_eq_true rfl) hf (fun _ => rfl) (fun y3 hf ls hl => ?_)
      refine lv_goto (tgt := 2) hC.1 hC.2.1 dX11_image_23 (by decide) ?_
      exact hk2 y3 I2 hf _ _ _ hR hS (lv_sub hl [1, 0] rfl)
set_option maxRecDepth 20000 in
theorem M_X11_image (G : XG) (l : Launch) (kp : Bool) (N : Nat) {I : xTI} {L : xTL} {r : Int32} {rI : xTI} {rL : xTL} (hf : F_X11_image N I L = some (r, rI, rL)) : xMet G l yX11_image cX11_image 2 (some .int) 0 0 kp [.ref (xz G + 57)] I L (some (.int r)) rI rL := by
  refine xMet.ofW (by decide +kernel) (Nat.le_of_ble_eq_true rfl) ?_
  intro p e s m args below meth c hC H locs ls hR hS hl
  replace hC : xC G p s m args meth c cX11_image 2 RX11 (some .int) := hC
  replace hl : lv_has ls 2 [(0, .ref (xz G + 57))] := hl
  unfold F_X11_image at hf
  refine lv_iconst (v := 0) hC.1 hC.2.1 dX11_image_0 (by decide) ?_
  refine lv_istore_n (lv' := [(1, .int 0), (0, .ref (xz G + 57))]) hC.1 hC.2.1 dX11_image_1 rfl hl (Nat.le_of_ble_eq_true rfl) rfl (fun ls hl => ?_)
  exact W_X11_image_l2 hC N _ 0 I hf _ _ _ hR hS (lv_sub hl [1, 0] rfl)
set_option maxRecDepth 20000 in
theorem W_X11_back_l42 {G : XG} {l : Launch} {kp : Bool} {p : Program} {e : Env} {s : State} {m : MethodId} {args : Array Value} {below : List Frame} {meth : Method} {c : Code} (hC : xC G p s m args meth c cX11_back 2 RX11 (some .int)) (N : Nat) {I : xTI} {r : Int32} {rI : xTI} {rL : xTL} : ∀ (n : Nat) (x1 : Int32) (L : xTL) , xlp (F_X11_back_b42 N I ) n (x1, L) = some (r, rI, rL) → ∀ (H : Heap) (locs : List Loc) (ls : Array Slot), xRep G kp I L H → xS G s.heap H locs → lv_has ls 2 [(0, .ref (xz G + 57)), (1, .int x1)] → W p l e (xrm 1 21) s m args below meth c H locs 0 0 (xMQ G kp below args s (some (.int r)) rI rL) (F0 m 42 ls []) := by
  intro n
  induction n with
  | zero =>
    intro x1 L hf
    cases hf
  | succ n hk42 =>
    intro x1 L hf H locs ls hR hS hl
    replace hf : F_X11_back_c42 N I x1 L (xlp (F_X11_back_b42 N I ) n) = some (r, rI, rL) := hf
    unfold F_X11_back_c42 at hf
    refine lv_iload_n hC.1 hC.2.1 dX11_back_42 rfl (lv_at hl 1 rfl) ?_
    refine lv_sipush (v := 216) hC.1 hC.2.1 dX11_back_43 (by decide) ?_
    refine x_ic_ge (tgt := 67) hC dX11_back_46 (by decide) hf (fun hf => ?_) (fun hf => ?_)
    · refine lv_aload_n hC.1 hC.2.1 dX11_back_67 rfl (lv_at hl 0 rfl) ?_
      refine x_get (v := .ref (xz G + 58)) hC xf_X11_14 (xce_57 G kp _ _) rfl hR dX11_back_68 ?_
      refine lv_iconst (v := 0) hC.1 hC.2.1 dX11_back_71 (by decide) ?_
      refine x_ial hC (xce_58 G kp _ _) hR dX11_back_72 hf (fun v1 hf => ?_)
      cases hf
      exact x_iret hC hR hS dX11_back_73
    · refine lv_aload_n hC.1 hC.2.1 dX11_back_49 rfl (lv_at hl 0 rfl) ?_
      refine x_get (v := .ref (xz G + 59)) hC xf_X11_18 (xce_57 G kp _ _) rfl hR dX11_back_50 ?_
      refine lv_iload_n hC.1 hC.2.1 dX11_back_53 rfl (lv_at hl 1 rfl) ?_
      refine lv_aload_n hC.1 hC.2.1 dX11_back_54 rfl (lv_at hl 0 rfl) ?_
      refine x_get (v := .ref (xz G + 85)) hC xf_X11_98 (xce_57 G kp _ _) rfl hR dX11_back_55 ?_
      refine lv_iload_n hC.1 hC.2.1 dX11_back_58 rfl (lv_at hl 1 rfl) ?_
      refine x_lal hC (xce_85 G kp _ _) hR dX11_back_59 hf (fun v2 hf => ?_)
      refine x_las hC (fun f => xce_59 G kp _ f) hR hS dX11_back_60 hf (fun L3 hf H locs hR hS => ?_)
      refine x_iinc (d := 1) (lv' := fun y4 => [(1, .int y4), (0, .ref (xz G + 57))]) (k := 1) hC hl dX11_back_61 rfl (by decide) (Nat.le_of_ble_eq_true rfl) hf (fun _ => rfl) (fun y4 hf ls hl => ?_)
      refine lv_goto (tgt := 42) hC.1 hC.2.1 dX11_back_64 (by decide) ?_
      exact hk42 y4 L3 hf _ _ _ hR hS (lv_sub hl [1, 0] rfl)
set_option maxRecDepth 20000 in
theorem W_X11_back_l16 {G : XG} {l : Launch} {kp : Bool} {p : Program} {e : Env} {s : State} {m : MethodId} {args : Array Value} {below : List Frame} {meth : Method} {c : Code} (hC : xC G p s m args meth c cX11_back 2 RX11 (some .int)) (N : Nat) {L : xTL} {r : Int32} {rI : xTI} {rL : xTL} : ∀ (n : Nat) (x1 : Int32) (I : xTI) , xlp (F_X11_back_b16 N L ) n (x1, I) = some (r, rI, rL) → ∀ (H : Heap) (locs : List Loc) (ls : Array Slot), xRep G kp I L H → xS G s.heap H locs → lv_has ls 2 [(0, .ref (xz G + 57)), (1, .int x1)] → W p l e (xrm 1 21) s m args below meth c H locs 0 0 (xMQ G kp below args s (some (.int r)) rI rL) (F0 m 16 ls []) := by
  intro n
  induction n with
  | zero =>
    intro x1 I hf
    cases hf
  | succ n hk16 =>
    intro x1 I hf H locs ls hR hS hl
    replace hf : F_X11_back_c16 N L x1 I (xlp (F_X11_back_b16 N L ) n) = some (r, rI, rL) := hf
    unfold F_X11_back_c16 at hf
    refine lv_iload_n hC.1 hC.2.1 dX11_back_16 rfl (lv_at hl 1 rfl) ?_
    refine x_ldc (v := 40670) hC tw_1185 dX11_back_17 ?_
    refine x_ic_ge (tgt := 40) hC dX11_back_19 (by decide) hf (fun hf => ?_) (fun hf => ?_)
    · refine lv_iconst (v := 0) hC.1 hC.2.1 dX11_back_40 (by decide) ?_
      refine lv_istore_n (lv' := [(1, .int 0), (0, .ref (xz G + 57))]) hC.1 hC.2.1 dX11_back_41 rfl hl (Nat.le_of_ble_eq_true rfl) rfl (fun ls hl => ?_)
      exact W_X11_back_l42 hC N _ 0 L hf _ _ _ hR hS (lv_sub hl [1, 0] rfl)
    · refine lv_aload_n hC.1 hC.2.1 dX11_back_22 rfl (lv_at hl 0 rfl) ?_
      refine x_get (v := .ref (xz G + 58)) hC xf_X11_14 (xce_57 G kp _ _) rfl hR dX11_back_23 ?_
      refine lv_iload_n hC.1 hC.2.1 dX11_back_26 rfl (lv_at hl 1 rfl) ?_
      refine lv_aload_n hC.1 hC.2.1 dX11_back_27 rfl (lv_at hl 0 rfl) ?_
      refine x_get (v := .ref (xz G + 84)) hC xf_X11_95 (xce_57 G kp _ _) rfl hR dX11_back_28 ?_
      refine lv_iload_n hC.1 hC.2.1 dX11_back_31 rfl (lv_at hl 1 rfl) ?_
      refine x_ial hC (xce_84 G kp _ _) hR dX11_back_32 hf (fun v1 hf => ?_)
      refine x_ias hC (fun f => xce_58 G kp f _) hR hS dX11_back_33 hf (fun I2 hf H locs hR hS => ?_)
      refine x_iinc (d := 1) (lv' := fun y3 => [(1, .int y3), (0, .ref (xz G + 57))]) (k := 1) hC hl dX11_back_34 rfl (by decide) (Nat.le_of_ble_eq_true rfl) hf (fun _ => rfl) (fun y3 hf ls hl => ?_)
      refine lv_goto (tgt := 16) hC.1 hC.2.1 dX11_back_37 (by decide) ?_
      exact hk16 y3 I2 hf _ _ _ hR hS (lv_sub hl [1, 0] rfl)
set_option maxRecDepth 20000 in
theorem M_X11_back (G : XG) (l : Launch) (kp : Bool) (N : Nat) {I : xTI} {L : xTL} {r : Int32} {rI : xTI} {rL : xTL} (hf : F_X11_back N I L = some (r, rI, rL)) : xMet G l yX11_back cX11_back 2 (some .int) 1 21 kp [.ref (xz G + 57)] I L (some (.int r)) rI rL := by
  refine xMet.ofW (by decide +kernel) (Nat.le_of_ble_eq_true rfl) ?_
  intro p e s m args below meth c hC H locs ls hR hS hl
  replace hC : xC G p s m args meth c cX11_back 2 RX11 (some .int) := hC
  replace hl : lv_has ls 2 [(0, .ref (xz G + 57))] := hl
  unfold F_X11_back at hf
  refine lv_aload_n hC.1 hC.2.1 dX11_back_0 rfl (lv_at hl 0 rfl) ?_
  refine x_getI hC xf_X11_417 (xce_57 G kp _ _) rfl hR dX11_back_1 hf (fun v1 hf => ?_)
  refine x_if_ne (tgt := 14) hC dX11_back_4 (by decide) hf (fun hf => ?_) (fun hf => ?_)
  · refine lv_iconst (v := 0) hC.1 hC.2.1 dX11_back_14 (by decide) ?_
    refine lv_istore_n (lv' := [(1, .int 0), (0, .ref (xz G + 57))]) hC.1 hC.2.1 dX11_back_15 rfl hl (Nat.le_of_ble_eq_true rfl) rfl (fun ls hl => ?_)
    exact W_X11_back_l16 hC N _ 0 I hf _ _ _ hR hS (lv_sub hl [1, 0] rfl)
  · refine lv_aload_n hC.1 hC.2.1 dX11_back_7 rfl (lv_at hl 0 rfl) ?_
    refine lv_bipush (v := (-2)) hC.1 hC.2.1 dX11_back_8 (by decide) ?_
    refine x_cvi10 (rest := []) hC xy_X11_refuse tw_1338 hf (fun _ _ h => M_X11_refuse G l kp h) ⟨Nat.le_of_ble_eq_true rfl, Nat.le_of_ble_eq_true rfl⟩ (xce_57 G kp _ _) rfl rfl rfl (Nat.le_of_ble_eq_true rfl) hl.1 hR hS dX11_back_10 ⟨Nat.le_refl _, Nat.le_refl _⟩ (fun v2 I3 hf H locs hR hS => ?_)
    cases hf
    exact x_iret hC hR hS dX11_back_13
set_option maxRecDepth 20000 in
theorem W_X11_lay_l36 {G : XG} {l : Launch} {kp : Bool} {p : Program} {e : Env} {s : State} {m : MethodId} {args : Array Value} {below : List Frame} {meth : Method} {c : Code} (hC : xC G p s m args meth c cX11_lay 3 RX11 (some .int)) (N : Nat) {L : xTL} {r : Int32} {rI : xTI} {x1 : Int32} : ∀ (n : Nat) (x2 : Int32) (I : xTI) , xlp (F_X11_lay_b36 N x1 ) n (x2, I) = some (r, rI) → ∀ (H : Heap) (locs : List Loc) (ls : Array Slot), xRep G kp I L H → xS G s.heap H locs → lv_has ls 3 [(0, .ref (xz G + 57)), (1, .int x1), (2, .int x2)] → W p l e (xrm 1 21) s m args below meth c H locs 0 0 (xMQ G kp below args s (some (.int r)) rI L) (F0 m 36 ls []) := by
  intro n
  induction n with
  | zero =>
    intro x2 I hf
    cases hf
  | succ n hk36 =>
    intro x2 I hf H locs ls hR hS hl
    replace hf : F_X11_lay_c36 N x1 x2 I (xlp (F_X11_lay_b36 N x1 ) n) = some (r, rI) := hf
    unfold F_X11_lay_c36 at hf
    refine lv_iload_n hC.1 hC.2.1 dX11_lay_36 rfl (lv_at hl 2 rfl) ?_
    refine lv_iload_n hC.1 hC.2.1 dX11_lay_37 rfl (lv_at hl 1 rfl) ?_
    refine x_ic_ge (tgt := 54) hC dX11_lay_38 (by decide) hf (fun hf => ?_) (fun hf => ?_)
    · refine lv_iload_n hC.1 hC.2.1 dX11_lay_54 rfl (lv_at hl 1 rfl) ?_
      cases hf
      exact x_iret hC hR hS dX11_lay_55
    · refine lv_aload_n hC.1 hC.2.1 dX11_lay_41 rfl (lv_at hl 0 rfl) ?_
      refine x_get (v := .ref (xz G + 86)) hC xf_X11_101 (xce_57 G kp _ _) rfl hR dX11_lay_42 ?_
      refine lv_iload_n hC.1 hC.2.1 dX11_lay_45 rfl (lv_at hl 2 rfl) ?_
      refine lv_iconst (v := 0) hC.1 hC.2.1 dX11_lay_46 (by decide) ?_
      refine x_ias hC (fun f => xce_86 G kp f _) hR hS dX11_lay_47 hf (fun I1 hf H locs hR hS => ?_)
      refine x_iinc (d := 1) (lv' := fun y2 => [(2, .int y2), (0, .ref (xz G + 57)), (1, .int x1)]) (k := 2) hC hl dX11_lay_48 rfl (by decide) (Nat.le_of_ble_eq_true rfl) hf (fun _ => rfl) (fun y2 hf ls hl => ?_)
      refine lv_goto (tgt := 36) hC.1 hC.2.1 dX11_lay_51 (by decide) ?_
      exact hk36 y2 I1 hf _ _ _ hR hS (lv_sub hl [1, 2, 0] rfl)
set_option maxRecDepth 20000 in
theorem M_X11_lay (G : XG) (l : Launch) (kp : Bool) (N : Nat) {I : xTI} {L : xTL} {x1 : Int32} {r : Int32} {rI : xTI} (hf : F_X11_lay N I x1 = some (r, rI)) : xMet G l yX11_lay cX11_lay 3 (some .int) 1 21 kp [.ref (xz G + 57), .int x1] I L (some (.int r)) rI L := by
  refine xMet.ofW (by decide +kernel) (Nat.le_of_ble_eq_true rfl) ?_
  intro p e s m args below meth c hC H locs ls hR hS hl
  replace hC : xC G p s m args meth c cX11_lay 3 RX11 (some .int) := hC
  replace hl : lv_has ls 3 [(0, .ref (xz G + 57)), (1, .int x1)] := hl
  unfold F_X11_lay at hf
  refine lv_iload_n hC.1 hC.2.1 dX11_lay_0 rfl (lv_at hl 1 rfl) ?_
  refine x_if_ge (tgt := 11) hC dX11_lay_1 (by decide) hf (fun hf => ?_) (fun hf => ?_)
  · refine lv_iload_n hC.1 hC.2.1 dX11_lay_11 rfl (lv_at hl 1 rfl) ?_
    refine lv_bipush (v := 60) hC.1 hC.2.1 dX11_lay_12 (by decide) ?_
    refine x_ic_le (tgt := 24) hC dX11_lay_14 (by decide) hf (fun hf => ?_) (fun hf => ?_)
    · refine lv_aload_n hC.1 hC.2.1 dX11_lay_24 rfl (lv_at hl 0 rfl) ?_
      refine lv_iconst (v := 1) hC.1 hC.2.1 dX11_lay_25 (by decide) ?_
      refine x_putZ hC xf_X11_394 xp_11_47 (fun f => xce_57 G kp f _) rfl (Nat.le_of_ble_eq_true rfl) hR hS dX11_lay_26 hf (fun I1 hf H locs hR hS => ?_)
      refine lv_aload_n hC.1 hC.2.1 dX11_lay_29 rfl (lv_at hl 0 rfl) ?_
      refine lv_iload_n hC.1 hC.2.1 dX11_lay_30 rfl (lv_at hl 1 rfl) ?_
      refine x_putI hC xf_X11_397 xp_11_46 (fun f => xce_57 G kp f _) rfl (Nat.le_of_ble_eq_true rfl) hR hS dX11_lay_31 hf (fun I2 hf H locs hR hS => ?_)
      refine lv_iconst (v := 0) hC.1 hC.2.1 dX11_lay_34 (by decide) ?_
      refine lv_istore_n (lv' := [(2, .int 0), (0, .ref (xz G + 57)), (1, .int x1)]) hC.1 hC.2.1 dX11_lay_35 rfl hl (Nat.le_of_ble_eq_true rfl) rfl (fun ls hl => ?_)
      exact W_X11_lay_l36 hC N _ 0 I2 hf _ _ _ hR hS (lv_sub hl [1, 2, 0] rfl)
    · refine lv_aload_n hC.1 hC.2.1 dX11_lay_17 rfl (lv_at hl 0 rfl) ?_
      refine lv_bipush (v := (-7)) hC.1 hC.2.1 dX11_lay_18 (by decide) ?_
      refine x_cvi10 (rest := []) hC xy_X11_refuse tw_1338 hf (fun _ _ h => M_X11_refuse G l kp h) ⟨Nat.le_of_ble_eq_true rfl, Nat.le_of_ble_eq_true rfl⟩ (xce_57 G kp _ _) rfl rfl rfl (Nat.le_of_ble_eq_true rfl) hl.1 hR hS dX11_lay_20 ⟨Nat.le_refl _, Nat.le_refl _⟩ (fun v3 I4 hf H locs hR hS => ?_)
      cases hf
      exact x_iret hC hR hS dX11_lay_23
  · refine lv_aload_n hC.1 hC.2.1 dX11_lay_4 rfl (lv_at hl 0 rfl) ?_
    refine lv_bipush (v := (-4)) hC.1 hC.2.1 dX11_lay_5 (by decide) ?_
    refine x_cvi10 (rest := []) hC xy_X11_refuse tw_1338 hf (fun _ _ h => M_X11_refuse G l kp h) ⟨Nat.le_of_ble_eq_true rfl, Nat.le_of_ble_eq_true rfl⟩ (xce_57 G kp _ _) rfl rfl rfl (Nat.le_of_ble_eq_true rfl) hl.1 hR hS dX11_lay_7 ⟨Nat.le_refl _, Nat.le_refl _⟩ (fun v5 I6 hf H locs hR hS => ?_)
    cases hf
    exact x_iret hC hR hS dX11_lay_10
set_option maxRecDepth 20000 in
theorem M_X11_set (G : XG) (l : Launch) (kp : Bool) {I : xTI} {L : xTL} {x1 : Int32} {x2 : Int32} {r : Int32} {rI : xTI} (hf : F_X11_set I x1 x2 = some (r, rI)) : xMet G l yX11_set cX11_set 4 (some .int) 1 22 kp [.ref (xz G + 57), .int x1, .int x2] I L (some (.int r)) rI L := by
  refine xMet.ofW (by decide +kernel) (Nat.le_of_ble_eq_true rfl) ?_
  intro p e s m args below meth c hC H locs ls hR hS hl
  replace hC : xC G p s m args meth c cX11_set 4 RX11 (some .int) := hC
  replace hl : lv_has ls 4 [(0, .ref (xz G + 57)), (1, .int x1), (2, .int x2)] := hl
  unfold F_X11_set at hf
  refine lv_aload_n hC.1 hC.2.1 dX11_set_0 rfl (lv_at hl 0 rfl) ?_
  refine x_getI hC xf_X11_394 (xce_57 G kp _ _) rfl hR dX11_set_1 hf (fun v1 hf => ?_)
  refine x_if_ne (tgt := 14) hC dX11_set_4 (by decide) hf (fun hf => ?_) (fun hf => ?_)
  · refine lv_iload_n hC.1 hC.2.1 dX11_set_14 rfl (lv_at hl 1 rfl) ?_
    refine lv_iconst (v := 0) hC.1 hC.2.1 dX11_set_15 (by decide) ?_
    refine lv_aload_n hC.1 hC.2.1 dX11_set_16 rfl (lv_at hl 0 rfl) ?_
    refine x_getI hC xf_X11_397 (xce_57 G kp _ _) rfl hR dX11_set_17 hf (fun v2 hf => ?_)
    refine lv_iconst (v := 1) hC.1 hC.2.1 dX11_set_20 (by decide) ?_
    refine lv_isub hC.1 hC.2.1 dX11_set_21 ?_
    refine x_csi00 (rest := []) hC xy_X11_in tw_1335 hf (fun _ h => M_X11_in G l kp h) ⟨Nat.le_of_ble_eq_true rfl, Nat.le_of_ble_eq_true rfl⟩ rfl rfl (Nat.le_of_ble_eq_true rfl) hl.1 hR hS dX11_set_22 ⟨Nat.le_refl _, Nat.le_refl _⟩ (fun v3 hf H locs hR hS => ?_)
    refine x_if_ne (tgt := 35) hC dX11_set_25 (by decide) hf (fun hf => ?_) (fun hf => ?_)
    · refine lv_aload_n hC.1 hC.2.1 dX11_set_35 rfl (lv_at hl 0 rfl) ?_
      refine x_get (v := .ref (xz G + 86)) hC xf_X11_101 (xce_57 G kp _ _) rfl hR dX11_set_36 ?_
      refine lv_iload_n hC.1 hC.2.1 dX11_set_39 rfl (lv_at hl 1 rfl) ?_
      refine x_ial hC (xce_86 G kp _ _) hR dX11_set_40 hf (fun v4 hf => ?_)
      refine lv_istore_n (lv' := [(3, .int v4), (0, .ref (xz G + 57)), (1, .int x1), (2, .int x2)]) hC.1 hC.2.1 dX11_set_41 rfl hl (Nat.le_of_ble_eq_true rfl) rfl (fun ls hl => ?_)
      refine lv_aload_n hC.1 hC.2.1 dX11_set_42 rfl (lv_at hl 1 rfl) ?_
      refine x_get (v := .ref (xz G + 86)) hC xf_X11_101 (xce_57 G kp _ _) rfl hR dX11_set_43 ?_
      refine lv_iload_n hC.1 hC.2.1 dX11_set_46 rfl (lv_at hl 2 rfl) ?_
      refine lv_iload_n hC.1 hC.2.1 dX11_set_47 rfl (lv_at hl 3 rfl) ?_
      refine x_ias hC (fun f => xce_86 G kp f _) hR hS dX11_set_48 hf (fun I5 hf H locs hR hS => ?_)
      refine lv_iload_n hC.1 hC.2.1 dX11_set_49 rfl (lv_at hl 0 rfl) ?_
      cases hf
      exact x_iret hC hR hS dX11_set_50
    · refine lv_aload_n hC.1 hC.2.1 dX11_set_28 rfl (lv_at hl 0 rfl) ?_
      refine lv_bipush (v := (-3)) hC.1 hC.2.1 dX11_set_29 (by decide) ?_
      refine x_cvi10 (rest := []) hC xy_X11_hush tw_1391 hf (fun _ _ h => M_X11_hush G l kp h) ⟨Nat.le_of_ble_eq_true rfl, Nat.le_of_ble_eq_true rfl⟩ (xce_57 G kp _ _) rfl rfl rfl (Nat.le_of_ble_eq_true rfl) hl.1 hR hS dX11_set_31 ⟨Nat.le_refl _, Nat.le_refl _⟩ (fun v6 I7 hf H locs hR hS => ?_)
      cases hf
      exact x_iret hC hR hS dX11_set_34
  · refine lv_aload_n hC.1 hC.2.1 dX11_set_7 rfl (lv_at hl 0 rfl) ?_
    refine lv_bipush (v := (-2)) hC.1 hC.2.1 dX11_set_8 (by decide) ?_
    refine x_cvi10 (rest := []) hC xy_X11_hush tw_1391 hf (fun _ _ h => M_X11_hush G l kp h) ⟨Nat.le_of_ble_eq_true rfl, Nat.le_of_ble_eq_true rfl⟩ (xce_57 G kp _ _) rfl rfl rfl (Nat.le_of_ble_eq_true rfl) hl.1 hR hS dX11_set_10 ⟨Nat.le_refl _, Nat.le_refl _⟩ (fun v8 I9 hf H locs hR hS => ?_)
    cases hf
    exact x_iret hC hR hS dX11_set_13
