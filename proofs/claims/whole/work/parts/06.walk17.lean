set_option maxRecDepth 20000 in
theorem W_X11_names_j382 {G : XG} {l : Launch} {kp : Bool} {p : Program} {e : Env} {s : State} {m : MethodId} {args : Array Value} {below : List Frame} {meth : Method} {c : Code} (hC : xC G p s m args meth c cX11_names 11 RX11 none) (N : Nat) {I : xTI} {L : xTL} {rI : xTI} {rL : xTL} {x1 : Int32} {x3 : Int32} {x4 : Int32} {x5 : Int32} {x6 : Int32} {x7 : Int32} {x8 : Int32} {x9 : Int32} {t0 : Int32} (k149 : Int32 × xTI → Option (xTI × xTL)) (k321 : Int32 × Int32 × xTI → Option (xTI × xTL)) (hk149 : ∀ (x4 : Int32) (I : xTI) , k149 (x4, I) = some (rI, rL) → ∀ (H : Heap) (locs : List Loc) (ls : Array Slot), xRep G kp I L H → xS G s.heap H locs → lv_has ls 11 [(0, .ref (xz G + 57)), (1, .int x1), (3, .int x3), (4, .int x4)] → W p l e (xrm 87 2078) s m args below meth c H locs 0 0 (xMQ G kp below args s none rI rL) (F0 m 149 ls [])) (hk321 : ∀ (x6 : Int32) (x9 : Int32) (I : xTI) , k321 (x6, x9, I) = some (rI, rL) → ∀ (H : Heap) (locs : List Loc) (ls : Array Slot), xRep G kp I L H → xS G s.heap H locs → lv_has ls 11 [(0, .ref (xz G + 57)), (1, .int x1), (3, .int x3), (4, .int x4), (5, .int x5), (6, .int x6), (7, .int x7), (8, .int x8), (9, .int x9)] → W p l e (xrm 87 2078) s m args below meth c H locs 0 0 (xMQ G kp below args s none rI rL) (F0 m 321 ls [])) (hf : F_X11_names_j382 k149 k321 N I L x1 x3 x4 x5 x6 x7 x8 x9 t0 = some (rI, rL)) : ∀ (H : Heap) (locs : List Loc) (ls : Array Slot), xRep G kp I L H → xS G s.heap H locs → lv_has ls 11 [(0, .ref (xz G + 57)), (1, .int x1), (3, .int x3), (4, .int x4), (5, .int x5), (6, .int x6), (7, .int x7), (8, .int x8), (9, .int x9)] → W p l e (xrm 87 2078) s m args below meth c H locs 0 0 (xMQ G kp below args s none rI rL) (F0 m 382 ls [.int t0]) := by
  intro H locs ls hR hS hl
  unfold F_X11_names_j382 at hf
  refine lv_istore (lv' := [(10, .int t0), (0, .ref (xz G + 57)), (1, .int x1), (3, .int x3), (4, .int x4), (5, .int x5), (6, .int x6), (7, .int x7), (8, .int x8), (9, .int x9)]) hC.1 hC.2.1 dX11_names_382 hl (Nat.le_of_ble_eq_true rfl) rfl (fun ls hl => ?_)
  refine lv_aload_n hC.1 hC.2.1 dX11_names_384 rfl (lv_at hl 1 rfl) ?_
  refine x_get (v := .ref (xz G + 69)) hC xf_X11_49 (xce_57 G kp _ _) rfl hR dX11_names_385 ?_
  refine lv_iload hC.1 hC.2.1 dX11_names_388 (lv_at hl 9 rfl) ?_
  refine lv_dup2_11 hC.1 hC.2.1 dX11_names_390 rfl rfl ?_
  refine x_ial hC (xce_69 G kp _ _) hR dX11_names_391 hf (fun v1 hf => ?_)
  refine lv_iload hC.1 hC.2.1 dX11_names_392 (lv_at hl 0 rfl) ?_
  refine lv_isub hC.1 hC.2.1 dX11_names_394 ?_
  refine x_ias hC (fun f => (xce_69 G kp f _)) hR hS dX11_names_395 hf (fun I2 hf H locs hR hS => ?_)
  refine lv_iload hC.1 hC.2.1 dX11_names_396 (lv_at hl 6 rfl) ?_
  refine lv_iload hC.1 hC.2.1 dX11_names_398 (lv_at hl 0 rfl) ?_
  refine W.eq (g2 := F0 m 400 ls [.int t0, .int x6]) rfl ?_
  refine lv_isub hC.1 hC.2.1 dX11_names_400 ?_
  refine x_ist (lv' := fun y3 => [(6, .int y3), (10, .int t0), (0, .ref (xz G + 57)), (1, .int x1), (3, .int x3), (4, .int x4), (5, .int x5), (7, .int x7), (8, .int x8), (9, .int x9)]) hC hl dX11_names_401 (Nat.le_of_ble_eq_true rfl) hf (fun _ => rfl) (fun y3 hf ls hl => ?_)
  refine lv_aload_n hC.1 hC.2.1 dX11_names_403 rfl (lv_at hl 2 rfl) ?_
  refine lv_iload_n hC.1 hC.2.1 dX11_names_404 rfl (lv_at hl 3 rfl) ?_
  refine lv_iload hC.1 hC.2.1 dX11_names_405 (lv_at hl 5 rfl) ?_
  refine lv_aload_n hC.1 hC.2.1 dX11_names_407 rfl (lv_at hl 2 rfl) ?_
  refine lv_iload hC.1 hC.2.1 dX11_names_408 (lv_at hl 9 rfl) ?_
  refine lv_iconst (v := 1) hC.1 hC.2.1 dX11_names_410 (by decide) ?_
  refine x_cvi00 (rest := [.int x4, .int x1, .ref (xz G + 57)]) hC xy_X11_bg tw_1383 hf (fun _ h => M_X11_bg G l kp h) ⟨Nat.le_of_ble_eq_true rfl, Nat.le_of_ble_eq_true rfl⟩ (xce_57 G kp _ _) rfl rfl rfl (Nat.le_of_ble_eq_true rfl) hl.1 hR hS dX11_names_411 ⟨Nat.le_refl _, Nat.le_refl _⟩ (fun v4 hf H locs hR hS => ?_)
  refine lv_iload hC.1 hC.2.1 dX11_names_414 (lv_at hl 1 rfl) ?_
  refine lv_iload hC.1 hC.2.1 dX11_names_416 (lv_at hl 7 rfl) ?_
  refine lv_iload hC.1 hC.2.1 dX11_names_418 (lv_at hl 8 rfl) ?_
  refine W.eq (g2 := F0 m 420 ls [.int x8, .int x7, .int t0, .int v4, .int x4, .int x1, .ref (xz G + 57)]) rfl ?_
  refine x_cvv10 (rest := []) hC xy_X11_passes tw_1642 hf (fun _ h => M_X11_passes G l kp h) ⟨Nat.le_of_ble_eq_true rfl, Nat.le_of_ble_eq_true rfl⟩ (xce_57 G kp _ _) rfl rfl rfl (Nat.le_of_ble_eq_true rfl) hl.1 hR hS dX11_names_420 ⟨Nat.le_refl _, Nat.le_refl _⟩ (fun I5 hf H locs hR hS => ?_)
  refine x_iinc (d := 1) (lv' := fun y6 => [(9, .int y6), (6, .int y3), (10, .int t0), (0, .ref (xz G + 57)), (1, .int x1), (3, .int x3), (4, .int x4), (5, .int x5), (7, .int x7), (8, .int x8)]) (k := 9) hC hl dX11_names_423 rfl (by decide) (Nat.le_of_ble_eq_true rfl) hf (fun _ => rfl) (fun y6 hf ls hl => ?_)
  refine lv_goto (tgt := 321) hC.1 hC.2.1 dX11_names_426 (by decide) ?_
  exact hk321 y3 y6 I5 hf _ _ _ hR hS (lv_sub hl [3, 4, 5, 6, 7, 1, 8, 9, 0] rfl)
set_option maxRecDepth 20000 in
theorem W_X11_names_l321 {G : XG} {l : Launch} {kp : Bool} {p : Program} {e : Env} {s : State} {m : MethodId} {args : Array Value} {below : List Frame} {meth : Method} {c : Code} (hC : xC G p s m args meth c cX11_names 11 RX11 none) (N : Nat) {L : xTL} {rI : xTI} {rL : xTL} {x1 : Int32} {x3 : Int32} {x4 : Int32} {x5 : Int32} {x7 : Int32} {x8 : Int32} (k149 : Int32 × xTI → Option (xTI × xTL)) (hk149 : ∀ (x4 : Int32) (I : xTI) , k149 (x4, I) = some (rI, rL) → ∀ (H : Heap) (locs : List Loc) (ls : Array Slot), xRep G kp I L H → xS G s.heap H locs → lv_has ls 11 [(0, .ref (xz G + 57)), (1, .int x1), (3, .int x3), (4, .int x4)] → W p l e (xrm 87 2078) s m args below meth c H locs 0 0 (xMQ G kp below args s none rI rL) (F0 m 149 ls [])) : ∀ (n : Nat) (x6 : Int32) (x9 : Int32) (I : xTI) , xlp (F_X11_names_b321 k149 N L x1 x3 x4 x5 x7 x8 ) n (x6, x9, I) = some (rI, rL) → ∀ (H : Heap) (locs : List Loc) (ls : Array Slot), xRep G kp I L H → xS G s.heap H locs → lv_has ls 11 [(0, .ref (xz G + 57)), (1, .int x1), (3, .int x3), (4, .int x4), (5, .int x5), (6, .int x6), (7, .int x7), (8, .int x8), (9, .int x9)] → W p l e (xrm 87 2078) s m args below meth c H locs 0 0 (xMQ G kp below args s none rI rL) (F0 m 321 ls []) := by
  intro n
  induction n with
  | zero =>
    intro x6 x9 I hf
    cases hf
  | succ n hk321 =>
    intro x6 x9 I hf H locs ls hR hS hl
    rw [xlp_s, E_X11_names_b321] at hf
    unfold F_X11_names_c321 at hf
    refine lv_iload hC.1 hC.2.1 dX11_names_321 (lv_at hl 8 rfl) ?_
    refine lv_bipush (v := 60) hC.1 hC.2.1 dX11_names_323 (by decide) ?_
    refine x_ic_ge (tgt := 429) hC dX11_names_325 (by decide) hf (fun hf => ?_) (fun hf => ?_)
    · refine x_iinc (d := 1) (lv' := fun y1 => [(4, .int y1), (0, .ref (xz G + 57)), (1, .int x1), (3, .int x3), (5, .int x5), (6, .int x6), (7, .int x7), (8, .int x8), (9, .int x9)]) (k := 3) hC hl dX11_names_429 rfl (by decide) (Nat.le_of_ble_eq_true rfl) hf (fun _ => rfl) (fun y1 hf ls hl => ?_)
      refine lv_goto (tgt := 149) hC.1 hC.2.1 dX11_names_432 (by decide) ?_
      exact hk149 y1 I hf _ _ _ hR hS (lv_sub hl [1, 2, 3, 0] rfl)
    · refine lv_iload hC.1 hC.2.1 dX11_names_328 (lv_at hl 5 rfl) ?_
      refine x_if_le (tgt := 429) hC dX11_names_330 (by decide) hf (fun hf => ?_) (fun hf => ?_)
      · refine x_iinc (d := 1) (lv' := fun y2 => [(4, .int y2), (0, .ref (xz G + 57)), (1, .int x1), (3, .int x3), (5, .int x5), (6, .int x6), (7, .int x7), (8, .int x8), (9, .int x9)]) (k := 3) hC hl dX11_names_429 rfl (by decide) (Nat.le_of_ble_eq_true rfl) hf (fun _ => rfl) (fun y2 hf ls hl => ?_)
        refine lv_goto (tgt := 149) hC.1 hC.2.1 dX11_names_432 (by decide) ?_
        exact hk149 y2 I hf _ _ _ hR hS (lv_sub hl [1, 2, 3, 0] rfl)
      · refine lv_aload_n hC.1 hC.2.1 dX11_names_333 rfl (lv_at hl 0 rfl) ?_
        refine x_get (v := .ref (xz G + 69)) hC xf_X11_49 (xce_57 G kp _ _) rfl hR dX11_names_334 ?_
        refine lv_iload hC.1 hC.2.1 dX11_names_337 (lv_at hl 8 rfl) ?_
        refine x_ial hC (xce_69 G kp _ _) hR dX11_names_339 hf (fun v3 hf => ?_)
        refine x_if_eq (tgt := 423) hC dX11_names_340 (by decide) hf (fun hf => ?_) (fun hf => ?_)
        · refine x_iinc (d := 1) (lv' := fun y4 => [(9, .int y4), (0, .ref (xz G + 57)), (1, .int x1), (3, .int x3), (4, .int x4), (5, .int x5), (6, .int x6), (7, .int x7), (8, .int x8)]) (k := 8) hC hl dX11_names_423 rfl (by decide) (Nat.le_of_ble_eq_true rfl) hf (fun _ => rfl) (fun y4 hf ls hl => ?_)
          refine lv_goto (tgt := 321) hC.1 hC.2.1 dX11_names_426 (by decide) ?_
          exact hk321 x6 y4 I hf _ _ _ hR hS (lv_sub hl [1, 2, 3, 4, 5, 6, 7, 8, 0] rfl)
        · refine lv_aload_n hC.1 hC.2.1 dX11_names_343 rfl (lv_at hl 0 rfl) ?_
          refine lv_iload hC.1 hC.2.1 dX11_names_344 (lv_at hl 8 rfl) ?_
          refine lv_iconst (v := 2) hC.1 hC.2.1 dX11_names_346 (by decide) ?_
          refine x_cvi00 (rest := []) hC xy_X11_bg tw_1383 hf (fun _ h => M_X11_bg G l kp h) ⟨Nat.le_of_ble_eq_true rfl, Nat.le_of_ble_eq_true rfl⟩ (xce_57 G kp _ _) rfl rfl rfl (Nat.le_of_ble_eq_true rfl) hl.1 hR hS dX11_names_347 ⟨Nat.le_refl _, Nat.le_refl _⟩ (fun v5 hf H locs hR hS => ?_)
          refine lv_iload hC.1 hC.2.1 dX11_names_350 (lv_at hl 4 rfl) ?_
          refine x_ic_eq (tgt := 358) hC dX11_names_352 (by decide) hf (fun hf => ?_) (fun hf => ?_)
          · refine lv_iload hC.1 hC.2.1 dX11_names_358 (lv_at hl 5 rfl) ?_
            refine lv_aload_n hC.1 hC.2.1 dX11_names_360 rfl (lv_at hl 0 rfl) ?_
            refine x_get (v := .ref (xz G + 69)) hC xf_X11_49 (xce_57 G kp _ _) rfl hR dX11_names_361 ?_
            refine lv_iload hC.1 hC.2.1 dX11_names_364 (lv_at hl 8 rfl) ?_
            refine x_ial hC (xce_69 G kp _ _) hR dX11_names_366 hf (fun v6 hf => ?_)
            refine x_ic_ge (tgt := 375) hC dX11_names_367 (by decide) hf (fun hf => ?_) (fun hf => ?_)
            · refine lv_aload_n hC.1 hC.2.1 dX11_names_375 rfl (lv_at hl 0 rfl) ?_
              refine x_get (v := .ref (xz G + 69)) hC xf_X11_49 (xce_57 G kp _ _) rfl hR dX11_names_376 ?_
              refine lv_iload hC.1 hC.2.1 dX11_names_379 (lv_at hl 8 rfl) ?_
              refine x_ial hC (xce_69 G kp _ _) hR dX11_names_381 hf (fun v7 hf => ?_)
              exact W_X11_names_j382 hC N _ _ hk149 hk321 hf _ _ _ hR hS (lv_sub hl [0, 1, 2, 3, 4, 5, 6, 7, 8] rfl)
            · refine lv_iload hC.1 hC.2.1 dX11_names_370 (lv_at hl 5 rfl) ?_
              refine lv_goto (tgt := 382) hC.1 hC.2.1 dX11_names_372 (by decide) ?_
              exact W_X11_names_j382 hC N _ _ hk149 hk321 hf _ _ _ hR hS (lv_sub hl [0, 1, 2, 3, 4, 5, 6, 7, 8] rfl)
          · refine lv_goto (tgt := 423) hC.1 hC.2.1 dX11_names_355 (by decide) ?_
            refine x_iinc (d := 1) (lv' := fun y8 => [(9, .int y8), (0, .ref (xz G + 57)), (1, .int x1), (3, .int x3), (4, .int x4), (5, .int x5), (6, .int x6), (7, .int x7), (8, .int x8)]) (k := 8) hC hl dX11_names_423 rfl (by decide) (Nat.le_of_ble_eq_true rfl) hf (fun _ => rfl) (fun y8 hf ls hl => ?_)
            refine lv_goto (tgt := 321) hC.1 hC.2.1 dX11_names_426 (by decide) ?_
            exact hk321 x6 y8 I hf _ _ _ hR hS (lv_sub hl [1, 2, 3, 4, 5, 6, 7, 8, 0] rfl)
set_option maxRecDepth 20000 in
theorem W_X11_names_j309 {G : XG} {l : Launch} {kp : Bool} {p : Program} {e : Env} {s : State} {m : MethodId} {args : Array Value} {below : List Frame} {meth : Method} {c : Code} (hC : xC G p s m args meth c cX11_names 11 RX11 none) (N : Nat) {I : xTI} {L : xTL} {rI : xTI} {rL : xTL} {x1 : Int32} {x3 : Int32} {x4 : Int32} {x5 : Int32} {x6 : Int32} {x7 : Int32} (k149 : Int32 × xTI → Option (xTI × xTL)) (hk149 : ∀ (x4 : Int32) (I : xTI) , k149 (x4, I) = some (rI, rL) → ∀ (H : Heap) (locs : List Loc) (ls : Array Slot), xRep G kp I L H → xS G s.heap H locs → lv_has ls 11 [(0, .ref (xz G + 57)), (1, .int x1), (3, .int x3), (4, .int x4)] → W p l e (xrm 87 2078) s m args below meth c H locs 0 0 (xMQ G kp below args s none rI rL) (F0 m 149 ls [])) (hf : F_X11_names_j309 k149 N I L x1 x3 x4 x5 x6 x7 = some (rI, rL)) : ∀ (H : Heap) (locs : List Loc) (ls : Array Slot), xRep G kp I L H → xS G s.heap H locs → lv_has ls 11 [(0, .ref (xz G + 57)), (1, .int x1), (3, .int x3), (4, .int x4), (5, .int x5), (6, .int x6), (7, .int x7)] → W p l e (xrm 87 2078) s m args below meth c H locs 0 0 (xMQ G kp below args s none rI rL) (F0 m 309 ls []) := by
  intro H locs ls hR hS hl
  unfold F_X11_names_j309 at hf
  refine lv_aload_n hC.1 hC.2.1 dX11_names_309 rfl (lv_at hl 0 rfl) ?_
  refine x_get (v := .ref (xz G + 67)) hC xf_X11_43 (xce_57 G kp _ _) rfl hR dX11_names_310 ?_
  refine lv_iload hC.1 hC.2.1 dX11_names_313 (lv_at hl 3 rfl) ?_
  refine x_ial hC (xce_67 G kp _ _) hR dX11_names_315 hf (fun v1 hf => ?_)
  refine lv_istore (lv' := [(8, .int v1), (0, .ref (xz G + 57)), (1, .int x1), (3, .int x3), (4, .int x4), (5, .int x5), (6, .int x6), (7, .int x7)]) hC.1 hC.2.1 dX11_names_316 hl (Nat.le_of_ble_eq_true rfl) rfl (fun ls hl => ?_)
  refine lv_iconst (v := 0) hC.1 hC.2.1 dX11_names_318 (by decide) ?_
  refine lv_istore (lv' := [(9, .int 0), (8, .int v1), (0, .ref (xz G + 57)), (1, .int x1), (3, .int x3), (4, .int x4), (5, .int x5), (6, .int x6), (7, .int x7)]) hC.1 hC.2.1 dX11_names_319 hl (Nat.le_of_ble_eq_true rfl) rfl (fun ls hl => ?_)
  exact W_X11_names_l321 hC N _ hk149 _ x6 0 I hf _ _ _ hR hS (lv_sub hl [2, 3, 4, 5, 6, 7, 8, 1, 0] rfl)
set_option maxRecDepth 20000 in
theorem W_X11_names_j252 {G : XG} {l : Launch} {kp : Bool} {p : Program} {e : Env} {s : State} {m : MethodId} {args : Array Value} {below : List Frame} {meth : Method} {c : Code} (hC : xC G p s m args meth c cX11_names 11 RX11 none) (N : Nat) {I : xTI} {L : xTL} {rI : xTI} {rL : xTL} {x1 : Int32} {x3 : Int32} {x4 : Int32} {x5 : Int32} {x6 : Int32} (k149 : Int32 × xTI → Option (xTI × xTL)) (hk149 : ∀ (x4 : Int32) (I : xTI) , k149 (x4, I) = some (rI, rL) → ∀ (H : Heap) (locs : List Loc) (ls : Array Slot), xRep G kp I L H → xS G s.heap H locs → lv_has ls 11 [(0, .ref (xz G + 57)), (1, .int x1), (3, .int x3), (4, .int x4)] → W p l e (xrm 87 2078) s m args below meth c H locs 0 0 (xMQ G kp below args s none rI rL) (F0 m 149 ls [])) (hf : F_X11_names_j252 k149 N I L x1 x3 x4 x5 x6 = some (rI, rL)) : ∀ (H : Heap) (locs : List Loc) (ls : Array Slot), xRep G kp I L H → xS G s.heap H locs → lv_has ls 11 [(0, .ref (xz G + 57)), (1, .int x1), (3, .int x3), (4, .int x4), (5, .int x5), (6, .int x6)] → W p l e (xrm 87 2078) s m args below meth c H locs 0 0 (xMQ G kp below args s none rI rL) (F0 m 252 ls []) := by
  intro H locs ls hR hS hl
  unfold F_X11_names_j252 at hf
  refine lv_aload_n hC.1 hC.2.1 dX11_names_252 rfl (lv_at hl 0 rfl) ?_
  refine x_get (v := .ref (xz G + 66)) hC xf_X11_40 (xce_57 G kp _ _) rfl hR dX11_names_253 ?_
  refine lv_iload hC.1 hC.2.1 dX11_names_256 (lv_at hl 3 rfl) ?_
  refine x_ial hC (xce_66 G kp _ _) hR dX11_names_258 hf (fun v1 hf => ?_)
  refine lv_aload_n hC.1 hC.2.1 dX11_names_259 rfl (lv_at hl 0 rfl) ?_
  refine x_get (v := .ref (xz G + 58)) hC xf_X11_14 (xce_57 G kp _ _) rfl hR dX11_names_260 ?_
  refine lv_bipush (v := 16) hC.1 hC.2.1 dX11_names_263 (by decide) ?_
  refine lv_iconst (v := 4) hC.1 hC.2.1 dX11_names_265 (by decide) ?_
  refine lv_iload hC.1 hC.2.1 dX11_names_266 (lv_at hl 4 rfl) ?_
  refine lv_imul hC.1 hC.2.1 dX11_names_268 ?_
  refine lv_iadd hC.1 hC.2.1 dX11_names_269 ?_
  refine W.eq (g2 := F0 m 270 ls [.int (16 + (4 * x5)), .ref (xz G + 58), .int v1]) rfl ?_
  refine lv_iconst (v := 1) hC.1 hC.2.1 dX11_names_270 (by decide) ?_
  refine lv_iadd hC.1 hC.2.1 dX11_names_271 ?_
  refine x_ial hC (xce_58 G kp _ _) hR dX11_names_272 hf (fun v2 hf => ?_)
  refine lv_iadd hC.1 hC.2.1 dX11_names_273 ?_
  refine x_ist (lv' := fun y3 => [(7, .int y3), (0, .ref (xz G + 57)), (1, .int x1), (3, .int x3), (4, .int x4), (5, .int x5), (6, .int x6)]) hC hl dX11_names_274 (Nat.le_of_ble_eq_true rfl) hf (fun _ => rfl) (fun y3 hf ls hl => ?_)
  refine lv_aload_n hC.1 hC.2.1 dX11_names_276 rfl (lv_at hl 1 rfl) ?_
  refine x_get (v := .ref (xz G + 67)) hC xf_X11_43 (xce_57 G kp _ _) rfl hR dX11_names_277 ?_
  refine lv_iload hC.1 hC.2.1 dX11_names_280 (lv_at hl 4 rfl) ?_
  refine x_ial hC (xce_67 G kp _ _) hR dX11_names_282 hf (fun v4 hf => ?_)
  refine lv_iconst (v := (-1)) hC.1 hC.2.1 dX11_names_283 (by decide) ?_
  refine x_ic_ne (tgt := 309) hC dX11_names_284 (by decide) hf (fun hf => ?_) (fun hf => ?_)
  · exact W_X11_names_j309 hC N _ hk149 hf _ _ _ hR hS (lv_sub hl [1, 2, 3, 4, 5, 6, 0] rfl)
  · refine lv_aload_n hC.1 hC.2.1 dX11_names_287 rfl (lv_at hl 1 rfl) ?_
    refine x_get (v := .ref (xz G + 66)) hC xf_X11_40 (xce_57 G kp _ _) rfl hR dX11_names_288 ?_
    refine lv_iload hC.1 hC.2.1 dX11_names_291 (lv_at hl 4 rfl) ?_
    refine x_ial hC (xce_66 G kp _ _) hR dX11_names_293 hf (fun v5 hf => ?_)
    refine lv_iload_n hC.1 hC.2.1 dX11_names_294 rfl (lv_at hl 3 rfl) ?_
    refine x_ic_gt (tgt := 309) hC dX11_names_295 (by decide) hf (fun hf => ?_) (fun hf => ?_)
    · exact W_X11_names_j309 hC N _ hk149 hf _ _ _ hR hS (lv_sub hl [1, 2, 3, 4, 5, 6, 0] rfl)
    · refine lv_iload hC.1 hC.2.1 dX11_names_298 (lv_at hl 0 rfl) ?_
      refine lv_iload_n hC.1 hC.2.1 dX11_names_300 rfl (lv_at hl 3 rfl) ?_
      refine x_ic_le (tgt := 309) hC dX11_names_301 (by decide) hf (fun hf => ?_) (fun hf => ?_)
      · exact W_X11_names_j309 hC N _ hk149 hf _ _ _ hR hS (lv_sub hl [1, 2, 3, 4, 5, 6, 0] rfl)
      · refine lv_iload hC.1 hC.2.1 dX11_names_304 (lv_at hl 5 rfl) ?_
        refine lv_goto (tgt := 316) hC.1 hC.2.1 dX11_names_306 (by decide) ?_
        refine lv_istore (lv' := [(8, .int x5), (7, .int y3), (0, .ref (xz G + 57)), (1, .int x1), (3, .int x3), (4, .int x4), (5, .int x5), (6, .int x6)]) hC.1 hC.2.1 dX11_names_316 hl (Nat.le_of_ble_eq_true rfl) rfl (fun ls hl => ?_)
        refine lv_iconst (v := 0) hC.1 hC.2.1 dX11_names_318 (by decide) ?_
        refine lv_istore (lv' := [(9, .int 0), (8, .int x5), (7, .int y3), (0, .ref (xz G + 57)), (1, .int x1), (3, .int x3), (4, .int x4), (5, .int x5), (6, .int x6)]) hC.1 hC.2.1 dX11_names_319 hl (Nat.le_of_ble_eq_true rfl) rfl (fun ls hl => ?_)
        exact W_X11_names_l321 hC N _ hk149 _ x6 0 I hf _ _ _ hR hS (lv_sub hl [3, 4, 5, 6, 7, 8, 2, 1, 0] rfl)
set_option maxRecDepth 20000 in
theorem W_X11_names_j222 {G : XG} {l : Launch} {kp : Bool} {p : Program} {e : Env} {s : State} {m : MethodId} {args : Array Value} {below : List Frame} {meth : Method} {c : Code} (hC : xC G p s m args meth c cX11_names 11 RX11 none) (N : Nat) {I : xTI} {L : xTL} {rI : xTI} {rL : xTL} {x1 : Int32} {x3 : Int32} {x4 : Int32} {x5 : Int32} {x6 : Int32} {t0 : Int32} (k149 : Int32 × xTI → Option (xTI × xTL)) (hk149 : ∀ (x4 : Int32) (I : xTI) , k149 (x4, I) = some (rI, rL) → ∀ (H : Heap) (locs : List Loc) (ls : Array Slot), xRep G kp I L H → xS G s.heap H locs → lv_has ls 11 [(0, .ref (xz G + 57)), (1, .int x1), (3, .int x3), (4, .int x4)] → W p l e (xrm 87 2078) s m args below meth c H locs 0 0 (xMQ G kp below args s none rI rL) (F0 m 149 ls [])) (hf : F_X11_names_j222 k149 N I L x1 x3 x4 x5 x6 t0 = some (rI, rL)) : ∀ (H : Heap) (locs : List Loc) (ls : Array Slot), xRep G kp I L H → xS G s.heap H locs → lv_has ls 11 [(0, .ref (xz G + 57)), (1, .int x1), (3, .int x3), (4, .int x4), (5, .int x5), (6, .int x6)] → W p l e (xrm 87 2078) s m args below meth c H locs 0 0 (xMQ G kp below args s none rI rL) (F0 m 222 ls [.int t0]) := by
  intro H locs ls hR hS hl
  unfold F_X11_names_j222 at hf
  refine lv_istore (lv' := [(7, .int t0), (0, .ref (xz G + 57)), (1, .int x1), (3, .int x3), (4, .int x4), (5, .int x5), (6, .int x6)]) hC.1 hC.2.1 dX11_names_222 hl (Nat.le_of_ble_eq_true rfl) rfl (fun ls hl => ?_)
  refine lv_aload_n hC.1 hC.2.1 dX11_names_224 rfl (lv_at hl 1 rfl) ?_
  refine lv_iload_n hC.1 hC.2.1 dX11_names_225 rfl (lv_at hl 2 rfl) ?_
  refine lv_iload hC.1 hC.2.1 dX11_names_226 (lv_at hl 4 rfl) ?_
  refine lv_iload hC.1 hC.2.1 dX11_names_228 (lv_at hl 0 rfl) ?_
  refine x_cvv10 (rest := []) hC xy_X11_delivers tw_1638 hf (fun _ h => M_X11_delivers G l kp h) ⟨Nat.le_of_ble_eq_true rfl, Nat.le_of_ble_eq_true rfl⟩ (xce_57 G kp _ _) rfl rfl rfl (Nat.le_of_ble_eq_true rfl) hl.1 hR hS dX11_names_230 ⟨Nat.le_refl _, Nat.le_refl _⟩ (fun I1 hf H locs hR hS => ?_)
  refine lv_aload_n hC.1 hC.2.1 dX11_names_233 rfl (lv_at hl 1 rfl) ?_
  refine x_get (v := .ref (xz G + 68)) hC xf_X11_46 (xce_57 G kp _ _) rfl hR dX11_names_234 ?_
  refine lv_iload hC.1 hC.2.1 dX11_names_237 (lv_at hl 5 rfl) ?_
  refine lv_dup2_11 hC.1 hC.2.1 dX11_names_239 rfl rfl ?_
  refine x_ial hC (xce_68 G kp _ _) hR dX11_names_240 hf (fun v2 hf => ?_)
  refine W.eq (g2 := F0 m 241 ls [.int v2, .int x5, .ref (xz G + 68)]) rfl ?_
  refine lv_iload hC.1 hC.2.1 dX11_names_241 (lv_at hl 0 rfl) ?_
  refine lv_isub hC.1 hC.2.1 dX11_names_243 ?_
  refine x_ias hC (fun f => (xce_68 G kp f _)) hR hS dX11_names_244 hf (fun I3 hf H locs hR hS => ?_)
  refine lv_iload hC.1 hC.2.1 dX11_names_245 (lv_at hl 6 rfl) ?_
  refine lv_iload hC.1 hC.2.1 dX11_names_247 (lv_at hl 0 rfl) ?_
  refine lv_isub hC.1 hC.2.1 dX11_names_249 ?_
  refine x_ist (lv' := fun y4 => [(6, .int y4), (7, .int t0), (0, .ref (xz G + 57)), (1, .int x1), (3, .int x3), (4, .int x4), (5, .int x5)]) hC hl dX11_names_250 (Nat.le_of_ble_eq_true rfl) hf (fun _ => rfl) (fun y4 hf ls hl => ?_)
  exact W_X11_names_j252 hC N _ hk149 hf _ _ _ hR hS (lv_sub hl [2, 3, 4, 5, 6, 0] rfl)
set_option maxRecDepth 20000 in
theorem W_X11_names_l149 {G : XG} {l : Launch} {kp : Bool} {p : Program} {e : Env} {s : State} {m : MethodId} {args : Array Value} {below : List Frame} {meth : Method} {c : Code} (hC : xC G p s m args meth c cX11_names 11 RX11 none) (N : Nat) {L : xTL} {rI : xTI} {rL : xTL} {x1 : Int32} {x3 : Int32} : ∀ (n : Nat) (x4 : Int32) (I : xTI) , xlp (F_X11_names_b149 N L x1 x3 ) n (x4, I) = some (rI, rL) → ∀ (H : Heap) (locs : List Loc) (ls : Array Slot), xRep G kp I L H → xS G s.heap H locs → lv_has ls 11 [(0, .ref (xz G + 57)), (1, .int x1), (3, .int x3), (4, .int x4)] → W p l e (xrm 87 2078) s m args below meth c H locs 0 0 (xMQ G kp below args s none rI rL) (F0 m 149 ls []) := by
  intro n
  induction n with
  | zero =>
    intro x4 I hf
    cases hf
  | succ n hk149 =>
    intro x4 I hf H locs ls hR hS hl
    rw [xlp_s, E_X11_names_b149] at hf
    unfold F_X11_names_c149 at hf
    refine lv_iload hC.1 hC.2.1 dX11_names_149 (lv_at hl 3 rfl) ?_
    refine lv_aload_n hC.1 hC.2.1 dX11_names_151 rfl (lv_at hl 0 rfl) ?_
    refine x_getI hC xf_X11_339 (xce_57 G kp _ _) rfl hR dX11_names_152 hf (fun v1 hf => ?_)
    refine x_ic_ge (tgt := 435) hC dX11_names_155 (by decide) hf (fun hf => ?_) (fun hf => ?_)
    · obtain ⟨h91, h92⟩ := Prod.mk.inj (Option.some.inj hf)
      subst h91
      subst h92
      exact x_vret hC hR hS dX11_names_435
    · refine lv_aload_n hC.1 hC.2.1 dX11_names_158 rfl (lv_at hl 0 rfl) ?_
      refine x_get (v := .ref (xz G + 64)) hC xf_X11_34 (xce_57 G kp _ _) rfl hR dX11_names_159 ?_
      refine lv_iload hC.1 hC.2.1 dX11_names_162 (lv_at hl 3 rfl) ?_
      refine x_ial hC (xce_64 G kp _ _) hR dX11_names_164 hf (fun v2 hf => ?_)
      refine lv_istore (lv' := [(5, .int v2), (0, .ref (xz G + 57)), (1, .int x1), (3, .int x3), (4, .int x4)]) hC.1 hC.2.1 dX11_names_165 hl (Nat.le_of_ble_eq_true rfl) rfl (fun ls hl => ?_)
      refine lv_aload_n hC.1 hC.2.1 dX11_names_167 rfl (lv_at hl 1 rfl) ?_
      refine x_get (v := .ref (xz G + 65)) hC xf_X11_37 (xce_57 G kp _ _) rfl hR dX11_names_168 ?_
      refine lv_iload hC.1 hC.2.1 dX11_names_171 (lv_at hl 4 rfl) ?_
      refine x_ial hC (xce_65 G kp _ _) hR dX11_names_173 hf (fun v3 hf => ?_)
      refine lv_istore (lv' := [(6, .int v3), (5, .int v2), (0, .ref (xz G + 57)), (1, .int x1), (3, .int x3), (4, .int x4)]) hC.1 hC.2.1 dX11_names_174 hl (Nat.le_of_ble_eq_true rfl) rfl (fun ls hl => ?_)
      refine lv_iload hC.1 hC.2.1 dX11_names_176 (lv_at hl 1 rfl) ?_
      refine W.eq (g2 := F0 m 178 ls [.int v2]) rfl ?_
      refine lv_aload_n hC.1 hC.2.1 dX11_names_178 rfl (lv_at hl 2 rfl) ?_
      refine x_get (v := .ref (xz G + 63)) hC xf_X11_31 (xce_57 G kp _ _) rfl hR dX11_names_179 ?_
      refine lv_iload hC.1 hC.2.1 dX11_names_182 (lv_at hl 5 rfl) ?_
      refine x_ial hC (xce_63 G kp _ _) hR dX11_names_184 hf (fun v4 hf => ?_)
      refine x_ic_eq (tgt := 252) hC dX11_names_185 (by decide) hf (fun hf => ?_) (fun hf => ?_)
      · exact W_X11_names_j252 hC N _ hk149 hf _ _ _ hR hS (lv_sub hl [2, 3, 4, 5, 1, 0] rfl)
      · refine lv_aload_n hC.1 hC.2.1 dX11_names_188 rfl (lv_at hl 2 rfl) ?_
        refine x_get (v := .ref (xz G + 68)) hC xf_X11_46 (xce_57 G kp _ _) rfl hR dX11_names_189 ?_
        refine lv_iload hC.1 hC.2.1 dX11_names_192 (lv_at hl 1 rfl) ?_
        refine x_ial hC (xce_68 G kp _ _) hR dX11_names_194 hf (fun v5 hf => ?_)
        refine x_if_le (tgt := 252) hC dX11_names_195 (by decide) hf (fun hf => ?_) (fun hf => ?_)
        · exact W_X11_names_j252 hC N _ hk149 hf _ _ _ hR hS (lv_sub hl [2, 3, 4, 5, 1, 0] rfl)
        · refine lv_iload hC.1 hC.2.1 dX11_names_198 (lv_at hl 0 rfl) ?_
          refine lv_aload_n hC.1 hC.2.1 dX11_names_200 rfl (lv_at hl 2 rfl) ?_
          refine x_get (v := .ref (xz G + 68)) hC xf_X11_46 (xce_57 G kp _ _) rfl hR dX11_names_201 ?_
          refine lv_iload hC.1 hC.2.1 dX11_names_204 (lv_at hl 1 rfl) ?_
          refine x_ial hC (xce_68 G kp _ _) hR dX11_names_206 hf (fun v6 hf => ?_)
          refine x_ic_ge (tgt := 215) hC dX11_names_207 (by decide) hf (fun hf => ?_) (fun hf => ?_)
          · refine lv_aload_n hC.1 hC.2.1 dX11_names_215 rfl (lv_at hl 2 rfl) ?_
            refine x_get (v := .ref (xz G + 68)) hC xf_X11_46 (xce_57 G kp _ _) rfl hR dX11_names_216 ?_
            refine lv_iload hC.1 hC.2.1 dX11_names_219 (lv_at hl 1 rfl) ?_
            refine x_ial hC (xce_68 G kp _ _) hR dX11_names_221 hf (fun v7 hf => ?_)
            exact W_X11_names_j222 hC N _ hk149 hf _ _ _ hR hS (lv_sub hl [2, 3, 4, 5, 1, 0] rfl)
          · refine lv_iload hC.1 hC.2.1 dX11_names_210 (lv_at hl 0 rfl) ?_
            refine lv_goto (tgt := 222) hC.1 hC.2.1 dX11_names_212 (by decide) ?_
            exact W_X11_names_j222 hC N _ hk149 hf _ _ _ hR hS (lv_sub hl [2, 3, 4, 5, 1, 0] rfl)
set_option maxRecDepth 20000 in
theorem W_X11_names_j122 {G : XG} {l : Launch} {kp : Bool} {p : Program} {e : Env} {s : State} {m : MethodId} {args : Array Value} {below : List Frame} {meth : Method} {c : Code} (hC : xC G p s m args meth c cX11_names 11 RX11 none) (N : Nat) {I : xTI} {L : xTL} {rI : xTI} {rL : xTL} {x1 : Int32} {x2 : Int32} {x3 : Int32} {x4 : Int32} {x5 : Int32} {t1 : Int32} {t2 : Int32} (k83 : Int32 × xTI → Option (xTI × xTL)) (hk83 : ∀ (x4 : Int32) (I : xTI) , k83 (x4, I) = some (rI, rL) → ∀ (H : Heap) (locs : List Loc) (ls : Array Slot), xRep G kp I L H → xS G s.heap H locs → lv_has ls 11 [(0, .ref (xz G + 57)), (1, .int x1), (2, .int x2), (3, .int x3), (4, .int x4)] → W p l e (xrm 87 2078) s m args below meth c H locs 0 0 (xMQ G kp below args s none rI rL) (F0 m 83 ls [])) (hf : F_X11_names_j122 k83 N I L x1 x2 x3 x4 x5 t1 t2 = some (rI, rL)) : ∀ (H : Heap) (locs : List Loc) (ls : Array Slot), xRep G kp I L H → xS G s.heap H locs → lv_has ls 11 [(0, .ref (xz G + 57)), (1, .int x1), (2, .int x2), (3, .int x3), (4, .int x4), (5, .int x5)] → W p l e (xrm 87 2078) s m args below meth c H locs 0 0 (xMQ G kp below args s none rI rL) (F0 m 122 ls [.int t2, .int t1, .ref (xz G + 68)]) := by
  intro H locs ls hR hS hl
  unfold F_X11_names_j122 at hf
  refine x_ias hC (fun f => (xce_68 G kp f _)) hR hS dX11_names_122 hf (fun I1 hf H locs hR hS => ?_)
  refine lv_iload hC.1 hC.2.1 dX11_names_123 (lv_at hl 5 rfl) ?_
  refine x_if_le (tgt := 140) hC dX11_names_125 (by decide) hf (fun hf => ?_) (fun hf => ?_)
  · refine x_iinc (d := 1) (lv' := fun y2 => [(4, .int y2), (0, .ref (xz G + 57)), (1, .int x1), (2, .int x2), (3, .int x3), (5, .int x5)]) (k := 4) hC hl dX11_names_140 rfl (by decide) (Nat.le_of_ble_eq_true rfl) hf (fun _ => rfl) (fun y2 hf ls hl => ?_)
    refine lv_goto (tgt := 83) hC.1 hC.2.1 dX11_names_143 (by decide) ?_
    exact hk83 y2 I1 hf _ _ _ hR hS (lv_sub hl [1, 2, 3, 4, 0] rfl)
  · refine lv_aload_n hC.1 hC.2.1 dX11_names_128 rfl (lv_at hl 0 rfl) ?_
    refine lv_iload hC.1 hC.2.1 dX11_names_129 (lv_at hl 4 rfl) ?_
    refine lv_iload hC.1 hC.2.1 dX11_names_131 (lv_at hl 4 rfl) ?_
    refine lv_iload hC.1 hC.2.1 dX11_names_133 (lv_at hl 5 rfl) ?_
    refine lv_iconst (v := 0) hC.1 hC.2.1 dX11_names_135 (by decide) ?_
    refine lv_iconst (v := (-1)) hC.1 hC.2.1 dX11_names_136 (by decide) ?_
    refine x_cvv10 (rest := []) hC xy_X11_waits tw_1634 hf (fun _ h => M_X11_waits G l kp h) ⟨Nat.le_of_ble_eq_true rfl, Nat.le_of_ble_eq_true rfl⟩ (xce_57 G kp _ _) rfl rfl rfl (Nat.le_of_ble_eq_true rfl) hl.1 hR hS dX11_names_137 ⟨Nat.le_refl _, Nat.le_refl _⟩ (fun I3 hf H locs hR hS => ?_)
    refine x_iinc (d := 1) (lv' := fun y4 => [(4, .int y4), (0, .ref (xz G + 57)), (1, .int x1), (2, .int x2), (3, .int x3), (5, .int x5)]) (k := 4) hC hl dX11_names_140 rfl (by decide) (Nat.le_of_ble_eq_true rfl) hf (fun _ => rfl) (fun y4 hf ls hl => ?_)
    refine lv_goto (tgt := 83) hC.1 hC.2.1 dX11_names_143 (by decide) ?_
    exact hk83 y4 I3 hf _ _ _ hR hS (lv_sub hl [1, 2, 3, 4, 0] rfl)
set_option maxRecDepth 20000 in
theorem W_X11_names_l83 {G : XG} {l : Launch} {kp : Bool} {p : Program} {e : Env} {s : State} {m : MethodId} {args : Array Value} {below : List Frame} {meth : Method} {c : Code} (hC : xC G p s m args meth c cX11_names 11 RX11 none) (N : Nat) {L : xTL} {rI : xTI} {rL : xTL} {x1 : Int32} {x2 : Int32} {x3 : Int32} : ∀ (n : Nat) (x4 : Int32) (I : xTI) , xlp (F_X11_names_b83 N L x1 x2 x3 ) n (x4, I) = some (rI, rL) → ∀ (H : Heap) (locs : List Loc) (ls : Array Slot), xRep G kp I L H → xS G s.heap H locs → lv_has ls 11 [(0, .ref (xz G + 57)), (1, .int x1), (2, .int x2), (3, .int x3), (4, .int x4)] → W p l e (xrm 87 2078) s m args below meth c H locs 0 0 (xMQ G kp below args s none rI rL) (F0 m 83 ls []) := by
  intro n
  induction n with
  | zero =>
    intro x4 I hf
    cases hf
  | succ n hk83 =>
    intro x4 I hf H locs ls hR hS hl
    rw [xlp_s, E_X11_names_b83] at hf
    unfold F_X11_names_c83 at hf
    refine lv_iload hC.1 hC.2.1 dX11_names_83 (lv_at hl 4 rfl) ?_
    refine lv_aload_n hC.1 hC.2.1 dX11_names_85 rfl (lv_at hl 0 rfl) ?_
    refine x_get (v := .ref (xz G + 58)) hC xf_X11_14 (xce_57 G kp _ _) rfl hR dX11_names_86 ?_
    refine lv_iconst (v := 1) hC.1 hC.2.1 dX11_names_89 (by decide) ?_
    refine x_ial hC (xce_58 G kp _ _) hR dX11_names_90 hf (fun v1 hf => ?_)
    refine x_ic_ge (tgt := 146) hC dX11_names_91 (by decide) hf (fun hf => ?_) (fun hf => ?_)
    · refine lv_iconst (v := 0) hC.1 hC.2.1 dX11_names_146 (by decide) ?_
      refine lv_istore (lv' := [(4, .int 0), (0, .ref (xz G + 57)), (1, .int x1), (2, .int x2), (3, .int x3)]) hC.1 hC.2.1 dX11_names_147 hl (Nat.le_of_ble_eq_true rfl) rfl (fun ls hl => ?_)
      exact W_X11_names_l149 hC N _ 0 I hf _ _ _ hR hS (lv_sub hl [1, 2, 4, 0] rfl)
    · refine lv_aload_n hC.1 hC.2.1 dX11_names_94 rfl (lv_at hl 0 rfl) ?_
      refine lv_iload hC.1 hC.2.1 dX11_names_95 (lv_at hl 4 rfl) ?_
      refine lv_iload_n hC.1 hC.2.1 dX11_names_97 rfl (lv_at hl 1 rfl) ?_
      refine lv_iload_n hC.1 hC.2.1 dX11_names_98 rfl (lv_at hl 2 rfl) ?_
      refine x_cvi00 (rest := []) hC xy_X11_net tw_1399 hf (fun _ h => M_X11_net G l kp N h) ⟨Nat.le_of_ble_eq_true rfl, Nat.le_of_ble_eq_true rfl⟩ (xce_57 G kp _ _) rfl rfl rfl (Nat.le_of_ble_eq_true rfl) hl.1 hR hS dX11_names_99 ⟨Nat.le_refl _, Nat.le_refl _⟩ (fun v2 hf H locs hR hS => ?_)
      refine lv_istore (lv' := [(5, .int v2), (0, .ref (xz G + 57)), (1, .int x1), (2, .int x2), (3, .int x3), (4, .int x4)]) hC.1 hC.2.1 dX11_names_102 hl (Nat.le_of_ble_eq_true rfl) rfl (fun ls hl => ?_)
      refine lv_aload_n hC.1 hC.2.1 dX11_names_104 rfl (lv_at hl 1 rfl) ?_
      refine x_get (v := .ref (xz G + 68)) hC xf_X11_46 (xce_57 G kp _ _) rfl hR dX11_names_105 ?_
      refine lv_iload hC.1 hC.2.1 dX11_names_108 (lv_at hl 5 rfl) ?_
      refine lv_iload hC.1 hC.2.1 dX11_names_110 (lv_at hl 0 rfl) ?_
      refine x_if_ge (tgt := 121) hC dX11_names_112 (by decide) hf (fun hf => ?_) (fun hf => ?_)
      · refine lv_iconst (v := 0) hC.1 hC.2.1 dX11_names_121 (by decide) ?_
        exact W_X11_names_j122 hC N _ hk83 hf _ _ _ hR hS (lv_sub hl [1, 2, 3, 4, 5, 0] rfl)
      · refine lv_iload hC.1 hC.2.1 dX11_names_115 (lv_at hl 0 rfl) ?_
        refine lv_ineg hC.1 hC.2.1 dX11_names_117 ?_
        refine lv_goto (tgt := 122) hC.1 hC.2.1 dX11_names_118 (by decide) ?_
        exact W_X11_names_j122 hC N _ hk83 hf _ _ _ hR hS (lv_sub hl [1, 2, 3, 4, 5, 0] rfl)
set_option maxRecDepth 20000 in
theorem W_X11_names_j73 {G : XG} {l : Launch} {kp : Bool} {p : Program} {e : Env} {s : State} {m : MethodId} {args : Array Value} {below : List Frame} {meth : Method} {c : Code} (hC : xC G p s m args meth c cX11_names 11 RX11 none) (N : Nat) {I : xTI} {L : xTL} {rI : xTI} {rL : xTL} {x1 : Int32} {x2 : Int32} {x3 : Int32} {x4 : Int32} {t1 : Int32} {t2 : Int32} (k17 : Int32 × xTI → Option (xTI × xTL)) (hk17 : ∀ (x4 : Int32) (I : xTI) , k17 (x4, I) = some (rI, rL) → ∀ (H : Heap) (locs : List Loc) (ls : Array Slot), xRep G kp I L H → xS G s.heap H locs → lv_has ls 11 [(0, .ref (xz G + 57)), (1, .int x1), (2, .int x2), (3, .int x3), (4, .int x4)] → W p l e (xrm 87 2078) s m args below meth c H locs 0 0 (xMQ G kp below args s none rI rL) (F0 m 17 ls [])) (hf : F_X11_names_j73 k17 N I L x1 x2 x3 x4 t1 t2 = some (rI, rL)) : ∀ (H : Heap) (locs : List Loc) (ls : Array Slot), xRep G kp I L H → xS G s.heap H locs → lv_has ls 11 [(0, .ref (xz G + 57)), (1, .int x1), (2, .int x2), (3, .int x3), (4, .int x4)] → W p l e (xrm 87 2078) s m args below meth c H locs 0 0 (xMQ G kp below args s none rI rL) (F0 m 73 ls [.int t2, .int t1, .ref (xz G + 69)]) := by
  intro H locs ls hR hS hl
  unfold F_X11_names_j73 at hf
  refine x_ias hC (fun f => (xce_69 G kp f _)) hR hS dX11_names_73 hf (fun I1 hf H locs hR hS => ?_)
  refine x_iinc (d := 1) (lv' := fun y2 => [(4, .int y2), (0, .ref (xz G + 57)), (1, .int x1), (2, .int x2), (3, .int x3)]) (k := 4) hC hl dX11_names_74 rfl (by decide) (Nat.le_of_ble_eq_true rfl) hf (fun _ => rfl) (fun y2 hf ls hl => ?_)
  refine lv_goto (tgt := 17) hC.1 hC.2.1 dX11_names_77 (by decide) ?_
  exact hk17 y2 I1 hf _ _ _ hR hS (lv_sub hl [1, 2, 3, 4, 0] rfl)
set_option maxRecDepth 20000 in
theorem W_X11_names_l17 {G : XG} {l : Launch} {kp : Bool} {p : Program} {e : Env} {s : State} {m : MethodId} {args : Array Value} {below : List Frame} {meth : Method} {c : Code} (hC : xC G p s m args meth c cX11_names 11 RX11 none) (N : Nat) {L : xTL} {rI : xTI} {rL : xTL} {x1 : Int32} {x2 : Int32} {x3 : Int32} : ∀ (n : Nat) (x4 : Int32) (I : xTI) , xlp (F_X11_names_b17 N L x1 x2 x3 ) n (x4, I) = some (rI, rL) → ∀ (H : Heap) (locs : List Loc) (ls : Array Slot), xRep G kp I L H → xS G s.heap H locs → lv_has ls 11 [(0, .ref (xz G + 57)), (1, .int x1), (2, .int x2), (3, .int x3), (4, .int x4)] → W p l e (xrm 87 2078) s m args below meth c H locs 0 0 (xMQ G kp below args s none rI rL) (F0 m 17 ls []) := by
  intro n
  induction n with
  | zero =>
    intro x4 I hf
    cases hf
  | succ n hk17 =>
    intro x4 I hf H locs ls hR hS hl
    rw [xlp_s, E_X11_names_b17] at hf
    unfold F_X11_names_c17 at hf
    refine lv_iload hC.1 hC.2.1 dX11_names_17 (lv_at hl 4 rfl) ?_
    refine lv_bipush (v := 60) hC.1 hC.2.1 dX11_names_19 (by decide) ?_
    refine x_ic_ge (tgt := 80) hC dX11_names_21 (by decide) hf (fun hf => ?_) (fun hf => ?_)
    · refine lv_iconst (v := 0) hC.1 hC.2.1 dX11_names_80 (by decide) ?_
      refine lv_istore (lv' := [(4, .int 0), (0, .ref (xz G + 57)), (1, .int x1), (2, .int x2), (3, .int x3)]) hC.1 hC.2.1 dX11_names_81 hl (Nat.le_of_ble_eq_true rfl) rfl (fun ls hl => ?_)
      exact W_X11_names_l83 hC N _ 0 I hf _ _ _ hR hS (lv_sub hl [1, 2, 3, 4, 0] rfl)
    · refine lv_aload_n hC.1 hC.2.1 dX11_names_24 rfl (lv_at hl 0 rfl) ?_
      refine x_get (v := .ref (xz G + 69)) hC xf_X11_49 (xce_57 G kp _ _) rfl hR dX11_names_25 ?_
      refine lv_iload hC.1 hC.2.1 dX11_names_28 (lv_at hl 4 rfl) ?_
      refine lv_aload_n hC.1 hC.2.1 dX11_names_30 rfl (lv_at hl 0 rfl) ?_
      refine lv_iload hC.1 hC.2.1 dX11_names_31 (lv_at hl 4 rfl) ?_
      refine x_cvi00 (rest := [.int x4, .ref (xz G + 69)]) hC xy_X11_stands tw_1403 hf (fun _ h => M_X11_stands G l kp h) ⟨Nat.le_of_ble_eq_true rfl, Nat.le_of_ble_eq_true rfl⟩ (xce_57 G kp _ _) rfl rfl rfl (Nat.le_of_ble_eq_true rfl) hl.1 hR hS dX11_names_33 ⟨Nat.le_refl _, Nat.le_refl _⟩ (fun v1 hf H locs hR hS => ?_)
      refine x_if_eq (tgt := 72) hC dX11_names_36 (by decide) hf (fun hf => ?_) (fun hf => ?_)
      · refine lv_iconst (v := 0) hC.1 hC.2.1 dX11_names_72 (by decide) ?_
        exact W_X11_names_j73 hC N _ hk17 hf _ _ _ hR hS (lv_sub hl [0, 1, 2, 3, 4] rfl)
      · refine lv_aload_n hC.1 hC.2.1 dX11_names_39 rfl (lv_at hl 0 rfl) ?_
        refine lv_iload hC.1 hC.2.1 dX11_names_40 (lv_at hl 4 rfl) ?_
        refine lv_iconst (v := 3) hC.1 hC.2.1 dX11_names_42 (by decide) ?_
        refine x_cvi00 (rest := [.int x4, .ref (xz G + 69)]) hC xy_X11_bg tw_1383 hf (fun _ h => M_X11_bg G l kp h) ⟨Nat.le_of_ble_eq_true rfl, Nat.le_of_ble_eq_true rfl⟩ (xce_57 G kp _ _) rfl rfl rfl (Nat.le_of_ble_eq_true rfl) hl.1 hR hS dX11_names_43 ⟨Nat.le_refl _, Nat.le_refl _⟩ (fun v2 hf H locs hR hS => ?_)
        refine lv_iload_n hC.1 hC.2.1 dX11_names_46 rfl (lv_at hl 1 rfl) ?_
        refine x_ic_ne (tgt := 72) hC dX11_names_47 (by decide) hf (fun hf => ?_) (fun hf => ?_)
        · refine lv_iconst (v := 0) hC.1 hC.2.1 dX11_names_72 (by decide) ?_
          exact W_X11_names_j73 hC N _ hk17 hf _ _ _ hR hS (lv_sub hl [0, 1, 2, 3, 4] rfl)
        · refine lv_aload_n hC.1 hC.2.1 dX11_names_50 rfl (lv_at hl 0 rfl) ?_
          refine lv_iload hC.1 hC.2.1 dX11_names_51 (lv_at hl 4 rfl) ?_
          refine lv_bipush (v := 7) hC.1 hC.2.1 dX11_names_53 (by decide) ?_
          refine x_cvi00 (rest := [.int x4, .ref (xz G + 69)]) hC xy_X11_bg tw_1383 hf (fun _ h => M_X11_bg G l kp h) ⟨Nat.le_of_ble_eq_true rfl, Nat.le_of_ble_eq_true rfl⟩ (xce_57 G kp _ _) rfl rfl rfl (Nat.le_of_ble_eq_true rfl) hl.1 hR hS dX11_names_55 ⟨Nat.le_refl _, Nat.le_refl _⟩ (fun v3 hf H locs hR hS => ?_)
          refine lv_iload_n hC.1 hC.2.1 dX11_names_58 rfl (lv_at hl 2 rfl) ?_
          refine x_ic_ne (tgt := 72) hC dX11_names_59 (by decide) hf (fun hf => ?_) (fun hf => ?_)
          · refine lv_iconst (v := 0) hC.1 hC.2.1 dX11_names_72 (by decide) ?_
            exact W_X11_names_j73 hC N _ hk17 hf _ _ _ hR hS (lv_sub hl [0, 1, 2, 3, 4] rfl)
          · refine lv_aload_n hC.1 hC.2.1 dX11_names_62 rfl (lv_at hl 0 rfl) ?_
            refine lv_iload hC.1 hC.2.1 dX11_names_63 (lv_at hl 4 rfl) ?_
            refine lv_iconst (v := 4) hC.1 hC.2.1 dX11_names_65 (by decide) ?_
            refine x_cvi00 (rest := [.int x4, .ref (xz G + 69)]) hC xy_X11_bg tw_1383 hf (fun _ h => M_X11_bg G l kp h) ⟨Nat.le_of_ble_eq_true rfl, Nat.le_of_ble_eq_true rfl⟩ (xce_57 G kp _ _) rfl rfl rfl (Nat.le_of_ble_eq_true rfl) hl.1 hR hS dX11_names_66 ⟨Nat.le_refl _, Nat.le_refl _⟩ (fun v4 hf H locs hR hS => ?_)
            refine lv_goto (tgt := 73) hC.1 hC.2.1 dX11_names_69 (by decide) ?_
            exact W_X11_names_j73 hC N _ hk17 hf _ _ _ hR hS (lv_sub hl [0, 1, 2, 3, 4] rfl)
set_option maxRecDepth 20000 in
theorem M_X11_names (G : XG) (l : Launch) (kp : Bool) (N : Nat) {I : xTI} {L : xTL} {x1 : Int32} {x2 : Int32} {rI : xTI} {rL : xTL} (hf : F_X11_names N I L x1 x2 = some (rI, rL)) : xMet G l yX11_names cX11_names 11 none 87 2078 kp [.ref (xz G + 57), .int x1, .int x2] I L none rI rL := by
  refine xMet.ofW (by decide +kernel) (Nat.le_of_ble_eq_true rfl) ?_
  intro p e s m args below meth c hC H locs ls hR hS hl
  replace hC : xC G p s m args meth c cX11_names 11 RX11 none := hC
  replace hl : lv_has ls 11 [(0, .ref (xz G + 57)), (1, .int x1), (2, .int x2)] := hl
  unfold F_X11_names at hf
  refine lv_aload_n hC.1 hC.2.1 dX11_names_0 rfl (lv_at hl 0 rfl) ?_
  refine lv_iconst (v := 1) hC.1 hC.2.1 dX11_names_1 (by decide) ?_
  refine lv_iload_n hC.1 hC.2.1 dX11_names_2 rfl (lv_at hl 1 rfl) ?_
  refine lv_bipush (v := 120) hC.1 hC.2.1 dX11_names_3 (by decide) ?_
  refine x_cvi11 (rest := []) hC xy_X11_ruled tw_1459 hf (fun _ _ _ h => M_X11_ruled G l kp N h) ⟨Nat.le_of_ble_eq_true rfl, Nat.le_of_ble_eq_true rfl⟩ (xce_57 G kp _ _) rfl rfl rfl (Nat.le_of_ble_eq_true rfl) hl.1 hR hS dX11_names_5 ⟨Nat.le_refl _, Nat.le_refl _⟩ (fun v1 I2 L3 hf H locs hR hS => ?_)
  refine lv_istore_n (lv' := [(3, .int v1), (0, .ref (xz G + 57)), (1, .int x1), (2, .int x2)]) hC.1 hC.2.1 dX11_names_8 rfl hl (Nat.le_of_ble_eq_true rfl) rfl (fun ls hl => ?_)
  refine lv_aload_n hC.1 hC.2.1 dX11_names_9 rfl (lv_at hl 1 rfl) ?_
  refine lv_iconst (v := 0) hC.1 hC.2.1 dX11_names_10 (by decide) ?_
  refine x_putI hC xf_X11_339 xp_11_25 (fun f => (xce_57 G kp f _)) rfl (Nat.le_of_ble_eq_true rfl) hR hS dX11_names_11 hf (fun I4 hf H locs hR hS => ?_)
  refine lv_iconst (v := 0) hC.1 hC.2.1 dX11_names_14 (by decide) ?_
  refine lv_istore (lv' := [(4, .int 0), (3, .int v1), (0, .ref (xz G + 57)), (1, .int x1), (2, .int x2)]) hC.1 hC.2.1 dX11_names_15 hl (Nat.le_of_ble_eq_true rfl) rfl (fun ls hl => ?_)
  exact W_X11_names_l17 hC N _ 0 I4 hf _ _ _ hR hS (lv_sub hl [2, 3, 4, 1, 0] rfl)
set_option maxRecDepth 20000 in
theorem M_X11_owing (G : XG) (l : Launch) (kp : Bool) {I : xTI} {L : xTL} {x1 : Int32} {x2 : Int32} {x3 : Int64} {rL : xTL} (hf : F_X11_owing L x1 x2 x3 = some rL) : xMet G l yX11_owing cX11_owing 5 none 0 0 kp [.ref (xz G + 57), .int x1, .int x2, .long x3] I L none I rL := by
  refine xMet.ofW (by decide +kernel) (Nat.le_of_ble_eq_true rfl) ?_
  intro p e s m args below meth c hC H locs ls hR hS hl
  replace hC : xC G p s m args meth c cX11_owing 5 RX11 none := hC
  replace hl : lv_has ls 5 [(0, .ref (xz G + 57)), (1, .int x1), (2, .int x2), (3, .long x3)] := hl
  unfold F_X11_owing at hf
  refine lv_iload_n hC.1 hC.2.1 dX11_owing_0 rfl (lv_at hl 1 rfl) ?_
  refine lv_iload_n hC.1 hC.2.1 dX11_owing_1 rfl (lv_at hl 2 rfl) ?_
  refine x_ic_ne (tgt := 6) hC dX11_owing_2 (by decide) hf (fun hf => ?_) (fun hf => ?_)
  · refine lv_lload_n hC.1 hC.2.1 dX11_owing_6 rfl (lv_at hl 3 rfl) ?_
    refine lv_lconst (v := 0) hC.1 hC.2.1 dX11_owing_7 (by decide) ?_
    refine W.lcmp hC.1 hC.2.1 dX11_owing_8 ?_
    refine x_if_lt (tgt := 30) hC dX11_owing_9 (by decide) hf (fun hf => ?_) (fun hf => ?_)
    · refine lv_aload_n hC.1 hC.2.1 dX11_owing_30 rfl (lv_at hl 0 rfl) ?_
      refine x_get (v := .ref (xz G + 70)) hC xf_X11_52 (xce_57 G kp _ _) rfl hR dX11_owing_31 ?_
      refine lv_bipush (v := 12) hC.1 hC.2.1 dX11_owing_34 (by decide) ?_
      refine lv_iload_n hC.1 hC.2.1 dX11_owing_36 rfl (lv_at hl 2 rfl) ?_
      refine lv_imul hC.1 hC.2.1 dX11_owing_37 ?_
      refine lv_iload_n hC.1 hC.2.1 dX11_owing_38 rfl (lv_at hl 1 rfl) ?_
      refine lv_iadd hC.1 hC.2.1 dX11_owing_39 ?_
      refine lv_dup2_11 hC.1 hC.2.1 dX11_owing_40 rfl rfl ?_
      refine x_lal hC (xce_70 G kp _ _) hR dX11_owing_41 hf (fun v1 hf => ?_)
      refine lv_lload_n hC.1 hC.2.1 dX11_owing_42 rfl (lv_at hl 3 rfl) ?_
      refine lv_lsub hC.1 hC.2.1 dX11_owing_43 ?_
      refine W.eq (g2 := F0 m 44 ls [.long (v1 - x3), .int ((12 * x2) + x1), .ref (xz G + 70)]) rfl ?_
      refine x_las hC (fun f => (xce_70 G kp _ f)) hR hS dX11_owing_44 hf (fun L2 hf H locs hR hS => ?_)
      have h9 := Option.some.inj hf
      subst h9
      exact x_vret hC hR hS dX11_owing_45
    · refine lv_aload_n hC.1 hC.2.1 dX11_owing_12 rfl (lv_at hl 0 rfl) ?_
      refine x_get (v := .ref (xz G + 70)) hC xf_X11_52 (xce_57 G kp _ _) rfl hR dX11_owing_13 ?_
      refine lv_bipush (v := 12) hC.1 hC.2.1 dX11_owing_16 (by decide) ?_
      refine lv_iload_n hC.1 hC.2.1 dX11_owing_18 rfl (lv_at hl 1 rfl) ?_
      refine lv_imul hC.1 hC.2.1 dX11_owing_19 ?_
      refine lv_iload_n hC.1 hC.2.1 dX11_owing_20 rfl (lv_at hl 2 rfl) ?_
      refine lv_iadd hC.1 hC.2.1 dX11_owing_21 ?_
      refine lv_dup2_11 hC.1 hC.2.1 dX11_owing_22 rfl rfl ?_
      refine x_lal hC (xce_70 G kp _ _) hR dX11_owing_23 hf (fun v3 hf => ?_)
      refine lv_lload_n hC.1 hC.2.1 dX11_owing_24 rfl (lv_at hl 3 rfl) ?_
      refine lv_ladd hC.1 hC.2.1 dX11_owing_25 ?_
      refine W.eq (g2 := F0 m 26 ls [.long (v3 + x3), .int ((12 * x1) + x2), .ref (xz G + 70)]) rfl ?_
      refine x_las hC (fun f => (xce_70 G kp _ f)) hR hS dX11_owing_26 hf (fun L4 hf H locs hR hS => ?_)
      refine lv_goto (tgt := 45) hC.1 hC.2.1 dX11_owing_27 (by decide) ?_
      have h9 := Option.some.inj hf
      subst h9
      exact x_vret hC hR hS dX11_owing_45
  · have h9 := Option.some.inj hf
    subst h9
    exact x_vret hC hR hS dX11_owing_5
set_option maxRecDepth 20000 in
theorem M_X11_within (G : XG) (l : Launch) (kp : Bool) {I : xTI} {L : xTL} {x0 : Int32} {x1 : Int32} {x2 : Int32} {r : Int32} (hf : F_X11_within x0 x1 x2 = some r) : xMet G l yX11_within cX11_within 3 (some .int) 0 0 kp [.int x0, .int x1, .int x2] I L (some (.int r)) I L := by
  refine xMet.ofW (by decide +kernel) (Nat.le_of_ble_eq_true rfl) ?_
  intro p e s m args below meth c hC H locs ls hR hS hl
  replace hC : xC G p s m args meth c cX11_within 3 RX11 (some .int) := hC
  replace hl : lv_has ls 3 [(0, .int x0), (1, .int x1), (2, .int x2)] := hl
  unfold F_X11_within at hf
  refine lv_iload_n hC.1 hC.2.1 dX11_within_0 rfl (lv_at hl 0 rfl) ?_
  refine lv_iload_n hC.1 hC.2.1 dX11_within_1 rfl (lv_at hl 1 rfl) ?_
  refine x_ic_ge (tgt := 9) hC dX11_within_2 (by decide) hf (fun hf => ?_) (fun hf => ?_)
  · refine lv_iload_n hC.1 hC.2.1 dX11_within_9 rfl (lv_at hl 0 rfl) ?_
    refine lv_iload_n hC.1 hC.2.1 dX11_within_10 rfl (lv_at hl 2 rfl) ?_
    refine x_ic_le (tgt := 18) hC dX11_within_11 (by decide) hf (fun hf => ?_) (fun hf => ?_)
    · refine lv_iload_n hC.1 hC.2.1 dX11_within_18 rfl (lv_at hl 0 rfl) ?_
      have h9 := Option.some.inj hf
      subst h9
      exact x_iret hC hR hS dX11_within_19
    · refine lv_iload_n hC.1 hC.2.1 dX11_within_14 rfl (lv_at hl 2 rfl) ?_
      refine lv_goto (tgt := 19) hC.1 hC.2.1 dX11_within_15 (by decide) ?_
      have h9 := Option.some.inj hf
      subst h9
      exact x_iret hC hR hS dX11_within_19
  · refine lv_iload_n hC.1 hC.2.1 dX11_within_5 rfl (lv_at hl 1 rfl) ?_
    refine lv_goto (tgt := 19) hC.1 hC.2.1 dX11_within_6 (by decide) ?_
    have h9 := Option.some.inj hf
    subst h9
    exact x_iret hC hR hS dX11_within_19
set_option maxRecDepth 20000 in
theorem W_X11_owed_l603 {G : XG} {l : Launch} {kp : Bool} {p : Program} {e : Env} {s : State} {m : MethodId} {args : Array Value} {below : List Frame} {meth : Method} {c : Code} (hC : xC G p s m args meth c cX11_owed 12 RX11 none) (N : Nat) {I : xTI} {rI : xTI} {rL : xTL} {x2 : Int32} {x3 : Int32} (k583 : Int32 × xTL → Option (xTI × xTL)) (hk583 : ∀ (x3 : Int32) (L : xTL) , k583 (x3, L) = some (rI, rL) → ∀ (H : Heap) (locs : List Loc) (ls : Array Slot), xRep G kp I L H → xS G s.heap H locs → lv_has ls 12 [(0, .ref (xz G + 57)), (2, .int x2), (3, .int x3)] → W p l e (xrm 87 2078) s m args below meth c H locs 0 0 (xMQ G kp below args s none rI rL) (F0 m 583 ls [])) : ∀ (n : Nat) (x4 : Int32) (L : xTL) , xlp (F_X11_owed_b603 k583 N I x2 x3 ) n (x4, L) = some (rI, rL) → ∀ (H : Heap) (locs : List Loc) (ls : Array Slot), xRep G kp I L H → xS G s.heap H locs → lv_has ls 12 [(0, .ref (xz G + 57)), (2, .int x2), (3, .int x3), (4, .int x4)] → W p l e (xrm 87 2078) s m args below meth c H locs 0 0 (xMQ G kp below args s none rI rL) (F0 m 603 ls []) := by
  intro n
  induction n with
  | zero =>
    intro x4 L hf
    cases hf
  | succ n hk603 =>
    intro x4 L hf H locs ls hR hS hl
    rw [xlp_s, E_X11_owed_b603] at hf
    unfold F_X11_owed_c603 at hf
    refine lv_iload hC.1 hC.2.1 dX11_owed_603 (lv_at hl 3 rfl) ?_
    refine lv_iload_n hC.1 hC.2.1 dX11_owed_605 rfl (lv_at hl 1 rfl) ?_
    refine x_ic_ge (tgt := 636) hC dX11_owed_606 (by decide) hf (fun hf => ?_) (fun hf => ?_)
    · refine x_iinc (d := 1) (lv' := fun y1 => [(3, .int y1), (0, .ref (xz G + 57)), (2, .int x2), (4, .int x4)]) (k := 2) hC hl dX11_owed_636 rfl (by decide) (Nat.le_of_ble_eq_true rfl) hf (fun _ => rfl) (fun y1 hf ls hl => ?_)
      refine lv_goto (tgt := 583) hC.1 hC.2.1 dX11_owed_639 (by decide) ?_
      exact hk583 y1 L hf _ _ _ hR hS (lv_sub hl [1, 2, 0] rfl)
    · refine lv_aload_n hC.1 hC.2.1 dX11_owed_609 rfl (lv_at hl 0 rfl) ?_
      refine x_get (v := .ref (xz G + 72)) hC xf_X11_58 (xce_57 G kp _ _) rfl hR dX11_owed_610 ?_
      refine lv_iload_n hC.1 hC.2.1 dX11_owed_613 rfl (lv_at hl 2 rfl) ?_
      refine lv_dup2_11 hC.1 hC.2.1 dX11_owed_614 rfl rfl ?_
      refine x_lal hC (xce_72 G kp _ _) hR dX11_owed_615 hf (fun v2 hf => ?_)
      refine lv_aload_n hC.1 hC.2.1 dX11_owed_616 rfl (lv_at hl 0 rfl) ?_
      refine x_get (v := .ref (xz G + 70)) hC xf_X11_52 (xce_57 G kp _ _) rfl hR dX11_owed_617 ?_
      refine lv_bipush (v := 12) hC.1 hC.2.1 dX11_owed_620 (by decide) ?_
      refine lv_iload_n hC.1 hC.2.1 dX11_owed_622 rfl (lv_at hl 2 rfl) ?_
      refine lv_imul hC.1 hC.2.1 dX11_owed_623 ?_
      refine lv_iload hC.1 hC.2.1 dX11_owed_624 (lv_at hl 3 rfl) ?_
      refine W.eq (g2 := F0 m 626 ls [.int x4, .int (12 * x3), .ref (xz G + 70), .long v2, .int x3, .ref (xz G + 72)]) rfl ?_
      refine lv_iadd hC.1 hC.2.1 dX11_owed_626 ?_
      refine x_lal hC (xce_70 G kp _ _) hR dX11_owed_627 hf (fun v3 hf => ?_)
      refine lv_ladd hC.1 hC.2.1 dX11_owed_628 ?_
      refine x_las hC (fun f => (xce_72 G kp _ f)) hR hS dX11_owed_629 hf (fun L4 hf H locs hR hS => ?_)
      refine x_iinc (d := 1) (lv' := fun y5 => [(4, .int y5), (0, .ref (xz G + 57)), (2, .int x2), (3, .int x3)]) (k := 3) hC hl dX11_owed_630 rfl (by decide) (Nat.le_of_ble_eq_true rfl) hf (fun _ => rfl) (fun y5 hf ls hl => ?_)
      refine lv_goto (tgt := 603) hC.1 hC.2.1 dX11_owed_633 (by decide) ?_
      exact hk603 y5 L4 hf _ _ _ hR hS (lv_sub hl [1, 2, 3, 0] rfl)
set_option maxRecDepth 20000 in
theorem W_X11_owed_l583 {G : XG} {l : Launch} {kp : Bool} {p : Program} {e : Env} {s : State} {m : MethodId} {args : Array Value} {below : List Frame} {meth : Method} {c : Code} (hC : xC G p s m args meth c cX11_owed 12 RX11 none) (N : Nat) {I : xTI} {rI : xTI} {rL : xTL} {x2 : Int32} : ∀ (n : Nat) (x3 : Int32) (L : xTL) , xlp (F_X11_owed_b583 N I x2 ) n (x3, L) = some (rI, rL) → ∀ (H : Heap) (locs : List Loc) (ls : Array Slot), xRep G kp I L H → xS G s.heap H locs → lv_has ls 12 [(0, .ref (xz G + 57)), (2, .int x2), (3, .int x3)] → W p l e (xrm 87 2078) s m args below meth c H locs 0 0 (xMQ G kp below args s none rI rL) (F0 m 583 ls []) := by
  intro n
  induction n with
  | zero =>
    intro x3 L hf
    cases hf
  | succ n hk583 =>
    intro x3 L hf H locs ls hR hS hl
    rw [xlp_s, E_X11_owed_b583] at hf
    unfold F_X11_owed_c583 at hf
    refine lv_iload_n hC.1 hC.2.1 dX11_owed_583 rfl (lv_at hl 2 rfl) ?_
    refine lv_iload_n hC.1 hC.2.1 dX11_owed_584 rfl (lv_at hl 1 rfl) ?_
    refine x_ic_ge (tgt := 642) hC dX11_owed_585 (by decide) hf (fun hf => ?_) (fun hf => ?_)
    · obtain ⟨h91, h92⟩ := Prod.mk.inj (Option.some.inj hf)
      subst h91
      subst h92
      exact x_vret hC hR hS dX11_owed_642
    · refine lv_aload_n hC.1 hC.2.1 dX11_owed_588 rfl (lv_at hl 0 rfl) ?_
      refine x_get (v := .ref (xz G + 72)) hC xf_X11_58 (xce_57 G kp _ _) rfl hR dX11_owed_589 ?_
      refine lv_iload_n hC.1 hC.2.1 dX11_owed_592 rfl (lv_at hl 2 rfl) ?_
      refine lv_aload_n hC.1 hC.2.1 dX11_owed_593 rfl (lv_at hl 0 rfl) ?_
      refine x_get (v := .ref (xz G + 71)) hC xf_X11_55 (xce_57 G kp _ _) rfl hR dX11_owed_594 ?_
      refine lv_iload_n hC.1 hC.2.1 dX11_owed_597 rfl (lv_at hl 2 rfl) ?_
      refine x_lal hC (xce_71 G kp _ _) hR dX11_owed_598 hf (fun v1 hf => ?_)
      refine x_las hC (fun f => (xce_72 G kp _ f)) hR hS dX11_owed_599 hf (fun L2 hf H locs hR hS => ?_)
      refine lv_iconst (v := 0) hC.1 hC.2.1 dX11_owed_600 (by decide) ?_
      refine lv_istore (lv' := [(4, .int 0), (0, .ref (xz G + 57)), (2, .int x2), (3, .int x3)]) hC.1 hC.2.1 dX11_owed_601 hl (Nat.le_of_ble_eq_true rfl) rfl (fun ls hl => ?_)
      exact W_X11_owed_l603 hC N _ hk583 _ 0 L2 hf _ _ _ hR hS (lv_sub hl [1, 2, 3, 0] rfl)
set_option maxRecDepth 20000 in
theorem W_X11_owed_j533 {G : XG} {l : Launch} {kp : Bool} {p : Program} {e : Env} {s : State} {m : MethodId} {args : Array Value} {below : List Frame} {meth : Method} {c : Code} (hC : xC G p s m args meth c cX11_owed 12 RX11 none) (N : Nat) {I : xTI} {L : xTL} {rI : xTI} {rL : xTL} {x2 : Int32} {x3 : Int32} {x4 : Int32} {t0 : Int64} (k462 : Int32 × xTL → Option (xTI × xTL)) (k472 : Int32 × xTL → Option (xTI × xTL)) (hk462 : ∀ (x3 : Int32) (L : xTL) , k462 (x3, L) = some (rI, rL) → ∀ (H : Heap) (locs : List Loc) (ls : Array Slot), xRep G kp I L H → xS G s.heap H locs → lv_has ls 12 [(0, .ref (xz G + 57)), (2, .int x2), (3, .int x3)] → W p l e (xrm 87 2078) s m args below meth c H locs 0 0 (xMQ G kp below args s none rI rL) (F0 m 462 ls [])) (hk472 : ∀ (x4 : Int32) (L : xTL) , k472 (x4, L) = some (rI, rL) → ∀ (H : Heap) (locs : List Loc) (ls : Array Slot), xRep G kp I L H → xS G s.heap H locs → lv_has ls 12 [(0, .ref (xz G + 57)), (2, .int x2), (3, .int x3), (4, .int x4)] → W p l e (xrm 87 2078) s m args below meth c H locs 0 0 (xMQ G kp below args s none rI rL) (F0 m 472 ls [])) (hf : F_X11_owed_j533 k462 k472 N I L x2 x3 x4 t0 = some (rI, rL)) : ∀ (H : Heap) (locs : List Loc) (ls : Array Slot), xRep G kp I L H → xS G s.heap H locs → lv_has ls 12 [(0, .ref (xz G + 57)), (2, .int x2), (3, .int x3), (4, .int x4)] → W p l e (xrm 87 2078) s m args below meth c H locs 0 0 (xMQ G kp below args s none rI rL) (F0 m 533 ls [.long t0]) := by
  intro H locs ls hR hS hl
  unfold F_X11_owed_j533 at hf
  refine lv_lstore (lv' := [(5, .long t0), (0, .ref (xz G + 57)), (2, .int x2), (3, .int x3), (4, .int x4)]) hC.1 hC.2.1 dX11_owed_533 hl (Nat.le_of_ble_eq_true rfl) rfl (fun ls hl => ?_)
  refine lv_aload_n hC.1 hC.2.1 dX11_owed_535 rfl (lv_at hl 1 rfl) ?_
  refine x_get (v := .ref (xz G + 70)) hC xf_X11_52 (xce_57 G kp _ _) rfl hR dX11_owed_536 ?_
  refine lv_bipush (v := 12) hC.1 hC.2.1 dX11_owed_539 (by decide) ?_
  refine lv_iload_n hC.1 hC.2.1 dX11_owed_541 rfl (lv_at hl 3 rfl) ?_
  refine lv_imul hC.1 hC.2.1 dX11_owed_542 ?_
  refine lv_iload hC.1 hC.2.1 dX11_owed_543 (lv_at hl 4 rfl) ?_
  refine lv_iadd hC.1 hC.2.1 dX11_owed_545 ?_
  refine lv_dup2_11 hC.1 hC.2.1 dX11_owed_546 rfl rfl ?_
  refine x_lal hC (xce_70 G kp _ _) hR dX11_owed_547 hf (fun v1 hf => ?_)
  refine lv_lload hC.1 hC.2.1 dX11_owed_548 (lv_at hl 0 rfl) ?_
  refine W.eq (g2 := F0 m 550 ls [.long t0, .long v1, .int ((12 * x3) + x4), .ref (xz G + 70)]) rfl ?_
  refine lv_lsub hC.1 hC.2.1 dX11_owed_550 ?_
  refine x_las hC (fun f => (xce_70 G kp _ f)) hR hS dX11_owed_551 hf (fun L2 hf H locs hR hS => ?_)
  refine lv_aload_n hC.1 hC.2.1 dX11_owed_552 rfl (lv_at hl 1 rfl) ?_
  refine x_get (v := .ref (xz G + 70)) hC xf_X11_52 (xce_57 G kp _ _) rfl hR dX11_owed_553 ?_
  refine lv_bipush (v := 12) hC.1 hC.2.1 dX11_owed_556 (by decide) ?_
  refine lv_iload hC.1 hC.2.1 dX11_owed_558 (lv_at hl 4 rfl) ?_
  refine lv_imul hC.1 hC.2.1 dX11_owed_560 ?_
  refine lv_iload_n hC.1 hC.2.1 dX11_owed_561 rfl (lv_at hl 3 rfl) ?_
  refine lv_iadd hC.1 hC.2.1 dX11_owed_562 ?_
  refine lv_dup2_11 hC.1 hC.2.1 dX11_owed_563 rfl rfl ?_
  refine x_lal hC (xce_70 G kp _ _) hR dX11_owed_564 hf (fun v3 hf => ?_)
  refine lv_lload hC.1 hC.2.1 dX11_owed_565 (lv_at hl 0 rfl) ?_
  refine W.eq (g2 := F0 m 567 ls [.long t0, .long v3, .int ((12 * x4) + x3), .ref (xz G + 70)]) rfl ?_
  refine lv_lsub hC.1 hC.2.1 dX11_owed_567 ?_
  refine x_las hC (fun f => (xce_70 G kp _ f)) hR hS dX11_owed_568 hf (fun L4 hf H locs hR hS => ?_)
  refine x_iinc (d := 1) (lv' := fun y5 => [(4, .int y5), (5, .long t0), (0, .ref (xz G + 57)), (2, .int x2), (3, .int x3)]) (k := 4) hC hl dX11_owed_569 rfl (by decide) (Nat.le_of_ble_eq_true rfl) hf (fun _ => rfl) (fun y5 hf ls hl => ?_)
  refine lv_goto (tgt := 472) hC.1 hC.2.1 dX11_owed_572 (by decide) ?_
  exact hk472 y5 L4 hf _ _ _ hR hS (lv_sub hl [2, 3, 4, 0] rfl)
set_option maxRecDepth 20000 in
theorem W_X11_owed_l472 {G : XG} {l : Launch} {kp : Bool} {p : Program} {e : Env} {s : State} {m : MethodId} {args : Array Value} {below : List Frame} {meth : Method} {c : Code} (hC : xC G p s m args meth c cX11_owed 12 RX11 none) (N : Nat) {I : xTI} {rI : xTI} {rL : xTL} {x2 : Int32} {x3 : Int32} (k462 : Int32 × xTL → Option (xTI × xTL)) (hk462 : ∀ (x3 : Int32) (L : xTL) , k462 (x3, L) = some (rI, rL) → ∀ (H : Heap) (locs : List Loc) (ls : Array Slot), xRep G kp I L H → xS G s.heap H locs → lv_has ls 12 [(0, .ref (xz G + 57)), (2, .int x2), (3, .int x3)] → W p l e (xrm 87 2078) s m args below meth c H locs 0 0 (xMQ G kp below args s none rI rL) (F0 m 462 ls [])) : ∀ (n : Nat) (x4 : Int32) (L : xTL) , xlp (F_X11_owed_b472 k462 N I x2 x3 ) n (x4, L) = some (rI, rL) → ∀ (H : Heap) (locs : List Loc) (ls : Array Slot), xRep G kp I L H → xS G s.heap H locs → lv_has ls 12 [(0, .ref (xz G + 57)), (2, .int x2), (3, .int x3), (4, .int x4)] → W p l e (xrm 87 2078) s m args below meth c H locs 0 0 (xMQ G kp below args s none rI rL) (F0 m 472 ls []) := by
  intro n
  induction n with
  | zero =>
    intro x4 L hf
    cases hf
  | succ n hk472 =>
    intro x4 L hf H locs ls hR hS hl
    rw [xlp_s, E_X11_owed_b472] at hf
    unfold F_X11_owed_c472 at hf
    refine lv_iload hC.1 hC.2.1 dX11_owed_472 (lv_at hl 3 rfl) ?_
    refine lv_iload_n hC.1 hC.2.1 dX11_owed_474 rfl (lv_at hl 1 rfl) ?_
    refine x_ic_ge (tgt := 575) hC dX11_owed_475 (by decide) hf (fun hf => ?_) (fun hf => ?_)
    · refine x_iinc (d := 1) (lv' := fun y1 => [(3, .int y1), (0, .ref (xz G + 57)), (2, .int x2), (4, .int x4)]) (k := 2) hC hl dX11_owed_575 rfl (by decide) (Nat.le_of_ble_eq_true rfl) hf (fun _ => rfl) (fun y1 hf ls hl => ?_)
      refine lv_goto (tgt := 462) hC.1 hC.2.1 dX11_owed_578 (by decide) ?_
      exact hk462 y1 L hf _ _ _ hR hS (lv_sub hl [1, 2, 0] rfl)
    · refine lv_aload_n hC.1 hC.2.1 dX11_owed_478 rfl (lv_at hl 0 rfl) ?_
      refine x_get (v := .ref (xz G + 70)) hC xf_X11_52 (xce_57 G kp _ _) rfl hR dX11_owed_479 ?_
      refine lv_bipush (v := 12) hC.1 hC.2.1 dX11_owed_482 (by decide) ?_
      refine lv_iload_n hC.1 hC.2.1 dX11_owed_484 rfl (lv_at hl 2 rfl) ?_
      refine lv_imul hC.1 hC.2.1 dX11_owed_485 ?_
      refine lv_iload hC.1 hC.2.1 dX11_owed_486 (lv_at hl 3 rfl) ?_
      refine lv_iadd hC.1 hC.2.1 dX11_owed_488 ?_
      refine x_lal hC (xce_70 G kp _ _) hR dX11_owed_489 hf (fun v2 hf => ?_)
      refine lv_aload_n hC.1 hC.2.1 dX11_owed_490 rfl (lv_at hl 0 rfl) ?_
      refine x_get (v := .ref (xz G + 70)) hC xf_X11_52 (xce_57 G kp _ _) rfl hR dX11_owed_491 ?_
      refine lv_bipush (v := 12) hC.1 hC.2.1 dX11_owed_494 (by decide) ?_
      refine W.eq (g2 := F0 m 496 ls [.int 12, .ref (xz G + 70), .long v2]) rfl ?_
      refine lv_iload hC.1 hC.2.1 dX11_owed_496 (lv_at hl 3 rfl) ?_
      refine lv_imul hC.1 hC.2.1 dX11_owed_498 ?_
      refine lv_iload_n hC.1 hC.2.1 dX11_owed_499 rfl (lv_at hl 2 rfl) ?_
      refine lv_iadd hC.1 hC.2.1 dX11_owed_500 ?_
      refine x_lal hC (xce_70 G kp _ _) hR dX11_owed_501 hf (fun v3 hf => ?_)
      refine W.lcmp hC.1 hC.2.1 dX11_owed_502 ?_
      refine x_if_ge (tgt := 521) hC dX11_owed_503 (by decide) hf (fun hf => ?_) (fun hf => ?_)
      · refine lv_aload_n hC.1 hC.2.1 dX11_owed_521 rfl (lv_at hl 0 rfl) ?_
        refine x_get (v := .ref (xz G + 70)) hC xf_X11_52 (xce_57 G kp _ _) rfl hR dX11_owed_522 ?_
        refine lv_bipush (v := 12) hC.1 hC.2.1 dX11_owed_525 (by decide) ?_
        refine lv_iload hC.1 hC.2.1 dX11_owed_527 (lv_at hl 3 rfl) ?_
        refine lv_imul hC.1 hC.2.1 dX11_owed_529 ?_
        refine lv_iload_n hC.1 hC.2.1 dX11_owed_530 rfl (lv_at hl 2 rfl) ?_
        refine lv_iadd hC.1 hC.2.1 dX11_owed_531 ?_
        refine x_lal hC (xce_70 G kp _ _) hR dX11_owed_532 hf (fun v4 hf => ?_)
        exact W_X11_owed_j533 hC N _ _ hk462 hk472 hf _ _ _ hR hS (lv_sub hl [0, 1, 2, 3] rfl)
      · refine lv_aload_n hC.1 hC.2.1 dX11_owed_506 rfl (lv_at hl 0 rfl) ?_
        refine x_get (v := .ref (xz G + 70)) hC xf_X11_52 (xce_57 G kp _ _) rfl hR dX11_owed_507 ?_
        refine lv_bipush (v := 12) hC.1 hC.2.1 dX11_owed_510 (by decide) ?_
        refine lv_iload_n hC.1 hC.2.1 dX11_owed_512 rfl (lv_at hl 2 rfl) ?_
        refine lv_imul hC.1 hC.2.1 dX11_owed_513 ?_
        refine lv_iload hC.1 hC.2.1 dX11_owed_514 (lv_at hl 3 rfl) ?_
        refine lv_iadd hC.1 hC.2.1 dX11_owed_516 ?_
        refine x_lal hC (xce_70 G kp _ _) hR dX11_owed_517 hf (fun v5 hf => ?_)
        refine lv_goto (tgt := 533) hC.1 hC.2.1 dX11_owed_518 (by decide) ?_
        exact W_X11_owed_j533 hC N _ _ hk462 hk472 hf _ _ _ hR hS (lv_sub hl [0, 1, 2, 3] rfl)
set_option maxRecDepth 20000 in
theorem W_X11_owed_l462 {G : XG} {l : Launch} {kp : Bool} {p : Program} {e : Env} {s : State} {m : MethodId} {args : Array Value} {below : List Frame} {meth : Method} {c : Code} (hC : xC G p s m args meth c cX11_owed 12 RX11 none) (N : Nat) {I : xTI} {rI : xTI} {rL : xTL} {x2 : Int32} : ∀ (n : Nat) (x3 : Int32) (L : xTL) , xlp (F_X11_owed_b462 N I x2 ) n (x3, L) = some (rI, rL) → ∀ (H : Heap) (locs : List Loc) (ls : Array Slot), xRep G kp I L H → xS G s.heap H locs → lv_has ls 12 [(0, .ref (xz G + 57)), (2, .int x2), (3, .int x3)] → W p l e (xrm 87 2078) s m args below meth c H locs 0 0 (xMQ G kp below args s none rI rL) (F0 m 462 ls []) := by
  intro n
  induction n with
  | zero =>
    intro x3 L hf
    cases hf
  | succ n hk462 =>
    intro x3 L hf H locs ls hR hS hl
    rw [xlp_s, E_X11_owed_b462] at hf
    unfold F_X11_owed_c462 at hf
    refine lv_iload_n hC.1 hC.2.1 dX11_owed_462 rfl (lv_at hl 2 rfl) ?_
    refine lv_iload_n hC.1 hC.2.1 dX11_owed_463 rfl (lv_at hl 1 rfl) ?_
    refine x_ic_ge (tgt := 581) hC dX11_owed_464 (by decide) hf (fun hf => ?_) (fun hf => ?_)
    · refine lv_iconst (v := 0) hC.1 hC.2.1 dX11_owed_581 (by decide) ?_
      refine lv_istore_n (lv' := [(3, .int 0), (0, .ref (xz G + 57)), (2, .int x2)]) hC.1 hC.2.1 dX11_owed_582 rfl hl (Nat.le_of_ble_eq_true rfl) rfl (fun ls hl => ?_)
      exact W_X11_owed_l583 hC N _ 0 L hf _ _ _ hR hS (lv_sub hl [1, 2, 0] rfl)
    · refine lv_iload_n hC.1 hC.2.1 dX11_owed_467 rfl (lv_at hl 2 rfl) ?_
      refine lv_iconst (v := 1) hC.1 hC.2.1 dX11_owed_468 (by decide) ?_
      refine lv_iadd hC.1 hC.2.1 dX11_owed_469 ?_
      refine x_ist (lv' := fun y1 => [(4, .int y1), (0, .ref (xz G + 57)), (2, .int x2), (3, .int x3)]) hC hl dX11_owed_470 (Nat.le_of_ble_eq_true rfl) hf (fun _ => rfl) (fun y1 hf ls hl => ?_)
      exact W_X11_owed_l472 hC N _ hk462 _ y1 L hf _ _ _ hR hS (lv_sub hl [1, 2, 3, 0] rfl)
set_option maxRecDepth 20000 in
theorem W_X11_owed_j396 {G : XG} {l : Launch} {kp : Bool} {p : Program} {e : Env} {s : State} {m : MethodId} {args : Array Value} {below : List Frame} {meth : Method} {c : Code} (hC : xC G p s m args meth c cX11_owed 12 RX11 none) (N : Nat) {I : xTI} {L : xTL} {rI : xTI} {rL : xTL} {x2 : Int32} {x3 : Int32} {x4 : Int32} {x5 : Int32} {x8 : Int64} (k183 : Int32 × xTI × xTL → Option (xTI × xTL)) (hk183 : ∀ (x3 : Int32) (I : xTI) (L : xTL) , k183 (x3, I, L) = some (rI, rL) → ∀ (H : Heap) (locs : List Loc) (ls : Array Slot), xRep G kp I L H → xS G s.heap H locs → lv_has ls 12 [(0, .ref (xz G + 57)), (2, .int x2), (3, .int x3)] → W p l e (xrm 87 2078) s m args below meth c H locs 0 0 (xMQ G kp below args s none rI rL) (F0 m 183 ls [])) (hf : F_X11_owed_j396 k183 N I L x2 x3 x4 x5 x8 = some (rI, rL)) : ∀ (H : Heap) (locs : List Loc) (ls : Array Slot), xRep G kp I L H → xS G s.heap H locs → lv_has ls 12 [(0, .ref (xz G + 57)), (2, .int x2), (3, .int x3), (4, .int x4), (5, .int x5), (8, .long x8)] → W p l e (xrm 87 2078) s m args below meth c H locs 0 0 (xMQ G kp below args s none rI rL) (F0 m 396 ls []) := by
  intro H locs ls hR hS hl
  unfold F_X11_owed_j396 at hf
  refine lv_aload_n hC.1 hC.2.1 dX11_owed_396 rfl (lv_at hl 0 rfl) ?_
  refine x_get (v := .ref (xz G + 58)) hC xf_X11_14 (xce_57 G kp _ _) rfl hR dX11_owed_397 ?_
  refine lv_iload hC.1 hC.2.1 dX11_owed_400 (lv_at hl 3 rfl) ?_
  refine lv_iconst (v := 5) hC.1 hC.2.1 dX11_owed_402 (by decide) ?_
  refine lv_iadd hC.1 hC.2.1 dX11_owed_403 ?_
  refine x_ial hC (xce_58 G kp _ _) hR dX11_owed_404 hf (fun v1 hf => ?_)
  refine lv_iconst (v := (-1)) hC.1 hC.2.1 dX11_owed_405 (by decide) ?_
  refine x_ic_eq (tgt := 454) hC dX11_owed_406 (by decide) hf (fun hf => ?_) (fun hf => ?_)
  · refine x_iinc (d := 1) (lv' := fun y2 => [(3, .int y2), (0, .ref (xz G + 57)), (2, .int x2), (4, .int x4), (5, .int x5), (8, .long x8)]) (k := 2) hC hl dX11_owed_454 rfl (by decide) (Nat.le_of_ble_eq_true rfl) hf (fun _ => rfl) (fun y2 hf ls hl => ?_)
    refine lv_goto (tgt := 183) hC.1 hC.2.1 dX11_owed_457 (by decide) ?_
    exact hk183 y2 I L hf _ _ _ hR hS (lv_sub hl [1, 2, 0] rfl)
  · refine lv_aload_n hC.1 hC.2.1 dX11_owed_409 rfl (lv_at hl 0 rfl) ?_
    refine lv_aload_n hC.1 hC.2.1 dX11_owed_410 rfl (lv_at hl 0 rfl) ?_
    refine x_get (v := .ref (xz G + 58)) hC xf_X11_14 (xce_57 G kp _ _) rfl hR dX11_owed_411 ?_
    refine lv_iload hC.1 hC.2.1 dX11_owed_414 (lv_at hl 3 rfl) ?_
    refine lv_iconst (v := 5) hC.1 hC.2.1 dX11_owed_416 (by decide) ?_
    refine lv_iadd hC.1 hC.2.1 dX11_owed_417 ?_
    refine x_ial hC (xce_58 G kp _ _) hR dX11_owed_418 hf (fun v3 hf => ?_)
    refine lv_aload_n hC.1 hC.2.1 dX11_owed_419 rfl (lv_at hl 0 rfl) ?_
    refine x_get (v := .ref (xz G + 58)) hC xf_X11_14 (xce_57 G kp _ _) rfl hR dX11_owed_420 ?_
    refine lv_iload hC.1 hC.2.1 dX11_owed_423 (lv_at hl 3 rfl) ?_
    refine lv_iconst (v := 2) hC.1 hC.2.1 dX11_owed_425 (by decide) ?_
    refine W.eq (g2 := F0 m 426 ls [.int 2, .int x4, .ref (xz G + 58), .int v3, .ref (xz G + 57)]) rfl ?_
    refine lv_iadd hC.1 hC.2.1 dX11_owed_426 ?_
    refine x_ial hC (xce_58 G kp _ _) hR dX11_owed_427 hf (fun v4 hf => ?_)
    refine lv_lload hC.1 hC.2.1 dX11_owed_428 (lv_at hl 5 rfl) ?_
    refine lv_aload_n hC.1 hC.2.1 dX11_owed_430 rfl (lv_at hl 0 rfl) ?_
    refine lv_iconst (v := 2) hC.1 hC.2.1 dX11_owed_431 (by decide) ?_
    refine lv_iload hC.1 hC.2.1 dX11_owed_432 (lv_at hl 4 rfl) ?_
    refine lv_iconst (v := 0) hC.1 hC.2.1 dX11_owed_434 (by decide) ?_
    refine x_cvi11 (rest := [.long x8, .int v4, .int v3, .ref (xz G + 57)]) hC xy_X11_ruled tw_1459 hf (fun _ _ _ h => M_X11_ruled G l kp N h) ⟨Nat.le_of_ble_eq_true rfl, Nat.le_of_ble_eq_true rfl⟩ (xce_57 G kp _ _) rfl rfl rfl (Nat.le_of_ble_eq_true rfl) hl.1 hR hS dX11_owed_435 ⟨Nat.le_refl _, Nat.le_refl _⟩ (fun v5 I6 L7 hf H locs hR hS => ?_)
    refine lv_iconst (v := 0) hC.1 hC.2.1 dX11_owed_438 (by decide) ?_
    refine lv_sipush (v := 1000) hC.1 hC.2.1 dX11_owed_439 (by decide) ?_
    refine x_csi00 (rest := [.long x8, .int v4, .int v3, .ref (xz G + 57)]) hC xy_X11_within tw_1658 hf (fun _ h => M_X11_within G l kp h) ⟨Nat.le_of_ble_eq_true rfl, Nat.le_of_ble_eq_true rfl⟩ rfl rfl (Nat.le_of_ble_eq_true rfl) hl.1 hR hS dX11_owed_442 ⟨Nat.le_refl _, Nat.le_refl _⟩ (fun v8 hf H locs hR hS => ?_)
    refine lv_i2l hC.1 hC.2.1 dX11_owed_445 rfl ?_
    refine W.eq (g2 := F0 m 446 ls [.long (v8.toInt64), .long x8, .int v4, .int v3, .ref (xz G + 57)]) rfl ?_
    refine lv_lmul hC.1 hC.2.1 dX11_owed_446 ?_
    refine x_ldc2 (v := 100) hC tw_1661 dX11_owed_447 ?_
    refine lv_ldiv hC.1 hC.2.1 dX11_owed_450 (by decide) ?_
    refine x_cvv01 (rest := []) hC xy_X11_owing tw_1654 hf (fun _ h => M_X11_owing G l kp h) ⟨Nat.le_of_ble_eq_true rfl, Nat.le_of_ble_eq_true rfl⟩ (xce_57 G kp _ _) rfl rfl rfl (Nat.le_of_ble_eq_true rfl) hl.1 hR hS dX11_owed_451 ⟨Nat.le_refl _, Nat.le_refl _⟩ (fun L9 hf H locs hR hS => ?_)
    refine x_iinc (d := 1) (lv' := fun y10 => [(3, .int y10), (0, .ref (xz G + 57)), (2, .int x2), (4, .int x4), (5, .int x5), (8, .long x8)]) (k := 2) hC hl dX11_owed_454 rfl (by decide) (Nat.le_of_ble_eq_true rfl) hf (fun _ => rfl) (fun y10 hf ls hl => ?_)
    refine lv_goto (tgt := 183) hC.1 hC.2.1 dX11_owed_457 (by decide) ?_
    exact hk183 y10 I6 L9 hf _ _ _ hR hS (lv_sub hl [1, 2, 0] rfl)
set_option maxRecDepth 20000 in
theorem W_X11_owed_j305 {G : XG} {l : Launch} {kp : Bool} {p : Program} {e : Env} {s : State} {m : MethodId} {args : Array Value} {below : List Frame} {meth : Method} {c : Code} (hC : xC G p s m args meth c cX11_owed 12 RX11 none) (N : Nat) {I : xTI} {L : xTL} {rI : xTI} {rL : xTL} {x2 : Int32} {x3 : Int32} {x4 : Int32} {x5 : Int32} {x6 : Int32} {x7 : Int32} {x8 : Int64} {x10 : Int32} {t0 : Int32} (k183 : Int32 × xTI × xTL → Option (xTI × xTL)) (hk183 : ∀ (x3 : Int32) (I : xTI) (L : xTL) , k183 (x3, I, L) = some (rI, rL) → ∀ (H : Heap) (locs : List Loc) (ls : Array Slot), xRep G kp I L H → xS G s.heap H locs → lv_has ls 12 [(0, .ref (xz G + 57)), (2, .int x2), (3, .int x3)] → W p l e (xrm 87 2078) s m args below meth c H locs 0 0 (xMQ G kp below args s none rI rL) (F0 m 183 ls [])) (hf : F_X11_owed_j305 k183 N I L x2 x3 x4 x5 x6 x7 x8 x10 t0 = some (rI, rL)) : ∀ (H : Heap) (locs : List Loc) (ls : Array Slot), xRep G kp I L H → xS G s.heap H locs → lv_has ls 12 [(0, .ref (xz G + 57)), (2, .int x2), (3, .int x3), (4, .int x4), (5, .int x5), (6, .int x6), (7, .int x7), (8, .long x8), (10, .int x10)] → W p l e (xrm 87 2078) s m args below meth c H locs 0 0 (xMQ G kp below args s none rI rL) (F0 m 305 ls [.int t0]) := by
  intro H locs ls hR hS hl
  unfold F_X11_owed_j305 at hf
  refine lv_istore (lv' := [(11, .int t0), (0, .ref (xz G + 57)), (2, .int x2), (3, .int x3), (4, .int x4), (5, .int x5), (6, .int x6), (7, .int x7), (8, .long x8), (10, .int x10)]) hC.1 hC.2.1 dX11_owed_305 hl (Nat.le_of_ble_eq_true rfl) rfl (fun ls hl => ?_)
  refine lv_aload_n hC.1 hC.2.1 dX11_owed_307 rfl (lv_at hl 1 rfl) ?_
  refine x_get (v := .ref (xz G + 76)) hC xf_X11_70 (xce_57 G kp _ _) rfl hR dX11_owed_308 ?_
  refine lv_iload hC.1 hC.2.1 dX11_owed_311 (lv_at hl 9 rfl) ?_
  refine lv_dup2_11 hC.1 hC.2.1 dX11_owed_313 rfl rfl ?_
  refine x_ial hC (xce_76 G kp _ _) hR dX11_owed_314 hf (fun v1 hf => ?_)
  refine lv_iload hC.1 hC.2.1 dX11_owed_315 (lv_at hl 7 rfl) ?_
  refine lv_iload hC.1 hC.2.1 dX11_owed_317 (lv_at hl 0 rfl) ?_
  refine lv_isub hC.1 hC.2.1 dX11_owed_319 ?_
  refine lv_isub hC.1 hC.2.1 dX11_owed_320 ?_
  refine x_ias hC (fun f => (xce_76 G kp f _)) hR hS dX11_owed_321 hf (fun I2 hf H locs hR hS => ?_)
  refine W.eq (g2 := F0 m 322 ls []) rfl ?_
  refine lv_iload hC.1 hC.2.1 dX11_owed_322 (lv_at hl 0 rfl) ?_
  refine x_if_le (tgt := 396) hC dX11_owed_324 (by decide) hf (fun hf => ?_) (fun hf => ?_)
  · exact W_X11_owed_j396 hC N _ hk183 hf _ _ _ hR hS (lv_sub hl [1, 2, 3, 4, 5, 8] rfl)
  · refine lv_aload_n hC.1 hC.2.1 dX11_owed_327 rfl (lv_at hl 1 rfl) ?_
    refine x_get (v := .ref (xz G + 71)) hC xf_X11_55 (xce_57 G kp _ _) rfl hR dX11_owed_328 ?_
    refine lv_iload hC.1 hC.2.1 dX11_owed_331 (lv_at hl 6 rfl) ?_
    refine lv_dup2_11 hC.1 hC.2.1 dX11_owed_333 rfl rfl ?_
    refine x_lal hC (xce_71 G kp _ _) hR dX11_owed_334 hf (fun v3 hf => ?_)
    refine lv_iload hC.1 hC.2.1 dX11_owed_335 (lv_at hl 0 rfl) ?_
    refine lv_i2l hC.1 hC.2.1 dX11_owed_337 rfl ?_
    refine lv_aload_n hC.1 hC.2.1 dX11_owed_338 rfl (lv_at hl 1 rfl) ?_
    refine x_get (v := .ref (xz G + 58)) hC xf_X11_14 (xce_57 G kp _ _) rfl hR dX11_owed_339 ?_
    refine lv_sipush (v := 184) hC.1 hC.2.1 dX11_owed_342 (by decide) ?_
    refine lv_iload hC.1 hC.2.1 dX11_owed_345 (lv_at hl 5 rfl) ?_
    refine W.eq (g2 := F0 m 347 ls [.int x5, .int 184, .ref (xz G + 58), .long (t0.toInt64), .long v3, .int x6, .ref (xz G + 71)]) rfl ?_
    refine lv_iadd hC.1 hC.2.1 dX11_owed_347 ?_
    refine x_ial hC (xce_58 G kp _ _) hR dX11_owed_348 hf (fun v4 hf => ?_)
    refine lv_i2l hC.1 hC.2.1 dX11_owed_349 rfl ?_
    refine lv_lmul hC.1 hC.2.1 dX11_owed_350 ?_
    refine lv_bipush (v := 100) hC.1 hC.2.1 dX11_owed_351 (by decide) ?_
    refine lv_aload_n hC.1 hC.2.1 dX11_owed_353 rfl (lv_at hl 1 rfl) ?_
    refine lv_iconst (v := 3) hC.1 hC.2.1 dX11_owed_354 (by decide) ?_
    refine lv_iload hC.1 hC.2.1 dX11_owed_355 (lv_at hl 5 rfl) ?_
    refine lv_iconst (v := 0) hC.1 hC.2.1 dX11_owed_357 (by decide) ?_
    refine x_cvi11 (rest := [.int 100, .long ((t0.toInt64) * (v4.toInt64)), .long v3, .int x6, .ref (xz G + 71)]) hC xy_X11_ruled tw_1459 hf (fun _ _ _ h => M_X11_ruled G l kp N h) ⟨Nat.le_of_ble_eq_true rfl, Nat.le_of_ble_eq_true rfl⟩ (xce_57 G kp _ _) rfl rfl rfl (Nat.le_of_ble_eq_true rfl) hl.1 hR hS dX11_owed_358 ⟨Nat.le_refl _, Nat.le_refl _⟩ (fun v5 I6 L7 hf H locs hR hS => ?_)
    refine lv_iconst (v := 0) hC.1 hC.2.1 dX11_owed_361 (by decide) ?_
    refine lv_sipush (v := 1000) hC.1 hC.2.1 dX11_owed_362 (by decide) ?_
    refine W.eq (g2 := F0 m 365 ls [.int 1000, .int 0, .int v5, .int 100, .long ((t0.toInt64) * (v4.toInt64)), .long v3, .int x6, .ref (xz G + 71)]) rfl ?_
    refine x_csi00 (rest := [.int 100, .long ((t0.toInt64) * (v4.toInt64)), .long v3, .int x6, .ref (xz G + 71)]) hC xy_X11_within tw_1658 hf (fun _ h => M_X11_within G l kp h) ⟨Nat.le_of_ble_eq_true rfl, Nat.le_of_ble_eq_true rfl⟩ rfl rfl (Nat.le_of_ble_eq_true rfl) hl.1 hR hS dX11_owed_365 ⟨Nat.le_refl _, Nat.le_refl _⟩ (fun v8 hf H locs hR hS => ?_)
    refine lv_iadd hC.1 hC.2.1 dX11_owed_368 ?_
    refine lv_i2l hC.1 hC.2.1 dX11_owed_369 rfl ?_
    refine lv_lmul hC.1 hC.2.1 dX11_owed_370 ?_
    refine x_ldc2 (v := 100) hC tw_1661 dX11_owed_371 ?_
    refine lv_ldiv hC.1 hC.2.1 dX11_owed_374 (by decide) ?_
    refine lv_ladd hC.1 hC.2.1 dX11_owed_375 ?_
    refine x_las hC (fun f => (xce_71 G kp _ f)) hR hS dX11_owed_376 hf (fun L9 hf H locs hR hS => ?_)
    refine lv_aload_n hC.1 hC.2.1 dX11_owed_377 rfl (lv_at hl 1 rfl) ?_
    refine x_get (v := .ref (xz G + 58)) hC xf_X11_14 (xce_57 G kp _ _) rfl hR dX11_owed_378 ?_
    refine lv_bipush (v := 16) hC.1 hC.2.1 dX11_owed_381 (by decide) ?_
    refine lv_iconst (v := 4) hC.1 hC.2.1 dX11_owed_383 (by decide) ?_
    refine W.eq (g2 := F0 m 384 ls [.int 4, .int 16, .ref (xz G + 58)]) rfl ?_
    refine lv_iload hC.1 hC.2.1 dX11_owed_384 (lv_at hl 6 rfl) ?_
    refine lv_imul hC.1 hC.2.1 dX11_owed_386 ?_
    refine lv_iadd hC.1 hC.2.1 dX11_owed_387 ?_
    refine lv_iconst (v := 3) hC.1 hC.2.1 dX11_owed_388 (by decide) ?_
    refine lv_iadd hC.1 hC.2.1 dX11_owed_389 ?_
    refine lv_dup2_11 hC.1 hC.2.1 dX11_owed_390 rfl rfl ?_
    refine x_ial hC (xce_58 G kp _ _) hR dX11_owed_391 hf (fun v10 hf => ?_)
    refine lv_iload hC.1 hC.2.1 dX11_owed_392 (lv_at hl 0 rfl) ?_
    refine lv_iadd hC.1 hC.2.1 dX11_owed_394 ?_
    refine x_ias hC (fun f => (xce_58 G kp f _)) hR hS dX11_owed_395 hf (fun I11 hf H locs hR hS => ?_)
    exact W_X11_owed_j396 hC N _ hk183 hf _ _ _ hR hS (lv_sub hl [1, 2, 3, 4, 5, 8] rfl)
set_option maxRecDepth 20000 in
theorem W_X11_owed_l183 {G : XG} {l : Launch} {kp : Bool} {p : Program} {e : Env} {s : State} {m : MethodId} {args : Array Value} {below : List Frame} {meth : Method} {c : Code} (hC : xC G p s m args meth c cX11_owed 12 RX11 none) (N : Nat) {rI : xTI} {rL : xTL} {x2 : Int32} : ∀ (n : Nat) (x3 : Int32) (I : xTI) (L : xTL) , xlp (F_X11_owed_b183 N x2 ) n (x3, I, L) = some (rI, rL) → ∀ (H : Heap) (locs : List Loc) (ls : Array Slot), xRep G kp I L H → xS G s.heap H locs → lv_has ls 12 [(0, .ref (xz G + 57)), (2, .int x2), (3, .int x3)] → W p l e (xrm 87 2078) s m args below meth c H locs 0 0 (xMQ G kp below args s none rI rL) (F0 m 183 ls []) := by
  intro n
  induction n with
  | zero =>
    intro x3 I L hf
    cases hf
  | succ n hk183 =>
    intro x3 I L hf H locs ls hR hS hl
    rw [xlp_s, E_X11_owed_b183] at hf
    unfold F_X11_owed_c183 at hf
    refine lv_iload_n hC.1 hC.2.1 dX11_owed_183 rfl (lv_at hl 2 rfl) ?_
    refine lv_aload_n hC.1 hC.2.1 dX11_owed_184 rfl (lv_at hl 0 rfl) ?_
    refine x_get (v := .ref (xz G + 58)) hC xf_X11_14 (xce_57 G kp _ _) rfl hR dX11_owed_185 ?_
    refine lv_bipush (v := 7) hC.1 hC.2.1 dX11_owed_188 (by decide) ?_
    refine x_ial hC (xce_58 G kp _ _) hR dX11_owed_190 hf (fun v1 hf => ?_)
    refine x_ic_ge (tgt := 460) hC dX11_owed_191 (by decide) hf (fun hf => ?_) (fun hf => ?_)
    · refine lv_iconst (v := 0) hC.1 hC.2.1 dX11_owed_460 (by decide) ?_
      refine lv_istore_n (lv' := [(3, .int 0), (0, .ref (xz G + 57)), (2, .int x2)]) hC.1 hC.2.1 dX11_owed_461 rfl hl (Nat.le_of_ble_eq_true rfl) rfl (fun ls hl => ?_)
      exact W_X11_owed_l462 hC N _ 0 L hf _ _ _ hR hS (lv_sub hl [1, 2, 0] rfl)
    · refine lv_sipush (v := 4670) hC.1 hC.2.1 dX11_owed_194 (by decide) ?_
      refine lv_bipush (v := 6) hC.1 hC.2.1 dX11_owed_197 (by decide) ?_
      refine lv_iload_n hC.1 hC.2.1 dX11_owed_199 rfl (lv_at hl 2 rfl) ?_
      refine lv_imul hC.1 hC.2.1 dX11_owed_200 ?_
      refine lv_iadd hC.1 hC.2.1 dX11_owed_201 ?_
      refine x_ist (lv' := fun y2 => [(4, .int y2), (0, .ref (xz G + 57)), (2, .int x2), (3, .int x3)]) hC hl dX11_owed_202 (Nat.le_of_ble_eq_true rfl) hf (fun _ => rfl) (fun y2 hf ls hl => ?_)
      refine lv_aload_n hC.1 hC.2.1 dX11_owed_204 rfl (lv_at hl 1 rfl) ?_
      refine x_get (v := .ref (xz G + 58)) hC xf_X11_14 (xce_57 G kp _ _) rfl hR dX11_owed_205 ?_
      refine lv_iload hC.1 hC.2.1 dX11_owed_208 (lv_at hl 0 rfl) ?_
      refine x_ial hC (xce_58 G kp _ _) hR dX11_owed_210 hf (fun v3 hf => ?_)
      refine lv_istore (lv' := [(5, .int v3), (4, .int y2), (0, .ref (xz G + 57)), (2, .int x2), (3, .int x3)]) hC.1 hC.2.1 dX11_owed_211 hl (Nat.le_of_ble_eq_true rfl) rfl (fun ls hl => ?_)
      refine W.eq (g2 := F0 m 213 ls []) rfl ?_
      refine lv_aload_n hC.1 hC.2.1 dX11_owed_213 rfl (lv_at hl 2 rfl) ?_
      refine x_get (v := .ref (xz G + 58)) hC xf_X11_14 (xce_57 G kp _ _) rfl hR dX11_owed_214 ?_
      refine lv_iload hC.1 hC.2.1 dX11_owed_217 (lv_at hl 1 rfl) ?_
      refine lv_iconst (v := 1) hC.1 hC.2.1 dX11_owed_219 (by decide) ?_
      refine lv_iadd hC.1 hC.2.1 dX11_owed_220 ?_
      refine x_ial hC (xce_58 G kp _ _) hR dX11_owed_221 hf (fun v4 hf => ?_)
      refine lv_istore (lv' := [(6, .int v4), (5, .int v3), (4, .int y2), (0, .ref (xz G + 57)), (2, .int x2), (3, .int x3)]) hC.1 hC.2.1 dX11_owed_222 hl (Nat.le_of_ble_eq_true rfl) rfl (fun ls hl => ?_)
      refine lv_aload_n hC.1 hC.2.1 dX11_owed_224 rfl (lv_at hl 3 rfl) ?_
      refine x_get (v := .ref (xz G + 58)) hC xf_X11_14 (xce_57 G kp _ _) rfl hR dX11_owed_225 ?_
      refine lv_iload hC.1 hC.2.1 dX11_owed_228 (lv_at hl 2 rfl) ?_
      refine lv_iconst (v := 3) hC.1 hC.2.1 dX11_owed_230 (by decide) ?_
      refine lv_iadd hC.1 hC.2.1 dX11_owed_231 ?_
      refine W.eq (g2 := F0 m 232 ls [.int (y2 + 3), .ref (xz G + 58)]) rfl ?_
      refine x_ial hC (xce_58 G kp _ _) hR dX11_owed_232 hf (fun v5 hf => ?_)
      refine lv_istore (lv' := [(7, .int v5), (6, .int v4), (5, .int v3), (4, .int y2), (0, .ref (xz G + 57)), (2, .int x2), (3, .int x3)]) hC.1 hC.2.1 dX11_owed_233 hl (Nat.le_of_ble_eq_true rfl) rfl (fun ls hl => ?_)
      refine lv_iload hC.1 hC.2.1 dX11_owed_235 (lv_at hl 0 rfl) ?_
      refine lv_i2l hC.1 hC.2.1 dX11_owed_237 rfl ?_
      refine lv_aload_n hC.1 hC.2.1 dX11_owed_238 rfl (lv_at hl 4 rfl) ?_
      refine x_get (v := .ref (xz G + 58)) hC xf_X11_14 (xce_57 G kp _ _) rfl hR dX11_owed_239 ?_
      refine lv_sipush (v := 184) hC.1 hC.2.1 dX11_owed_242 (by decide) ?_
      refine lv_iload hC.1 hC.2.1 dX11_owed_245 (lv_at hl 2 rfl) ?_
      refine lv_iadd hC.1 hC.2.1 dX11_owed_247 ?_
      refine x_ial hC (xce_58 G kp _ _) hR dX11_owed_248 hf (fun v6 hf => ?_)
      refine lv_i2l hC.1 hC.2.1 dX11_owed_249 rfl ?_
      refine lv_lmul hC.1 hC.2.1 dX11_owed_250 ?_
      refine W.eq (g2 := F0 m 251 ls [.long ((v5.toInt64) * (v6.toInt64))]) rfl ?_
      refine x_lst (lv' := fun y7 => [(8, .long y7), (7, .int v5), (6, .int v4), (5, .int v3), (4, .int y2), (0, .ref (xz G + 57)), (2, .int x2), (3, .int x3)]) hC hl dX11_owed_251 (Nat.le_of_ble_eq_true rfl) hf (fun _ => rfl) (fun y7 hf ls hl => ?_)
      refine lv_aload_n hC.1 hC.2.1 dX11_owed_253 rfl (lv_at hl 5 rfl) ?_
      refine lv_aload_n hC.1 hC.2.1 dX11_owed_254 rfl (lv_at hl 5 rfl) ?_
      refine x_get (v := .ref (xz G + 58)) hC xf_X11_14 (xce_57 G kp _ _) rfl hR dX11_owed_255 ?_
      refine lv_iload hC.1 hC.2.1 dX11_owed_258 (lv_at hl 4 rfl) ?_
      refine lv_iconst (v := 2) hC.1 hC.2.1 dX11_owed_260 (by decide) ?_
      refine lv_iadd hC.1 hC.2.1 dX11_owed_261 ?_
      refine x_ial hC (xce_58 G kp _ _) hR dX11_owed_262 hf (fun v8 hf => ?_)
      refine lv_iload hC.1 hC.2.1 dX11_owed_263 (lv_at hl 2 rfl) ?_
      refine lv_lload hC.1 hC.2.1 dX11_owed_265 (lv_at hl 0 rfl) ?_
      refine x_cvv01 (rest := []) hC xy_X11_owing tw_1654 hf (fun _ h => M_X11_owing G l kp h) ⟨Nat.le_of_ble_eq_true rfl, Nat.le_of_ble_eq_true rfl⟩ (xce_57 G kp _ _) rfl rfl rfl (Nat.le_of_ble_eq_true rfl) hl.1 hR hS dX11_owed_267 ⟨Nat.le_refl _, Nat.le_refl _⟩ (fun L9 hf H locs hR hS => ?_)
      refine lv_iconst (v := 5) hC.1 hC.2.1 dX11_owed_270 (by decide) ?_
      refine W.eq (g2 := F0 m 271 ls [.int 5]) rfl ?_
      refine lv_iload hC.1 hC.2.1 dX11_owed_271 (lv_at hl 2 rfl) ?_
      refine lv_imul hC.1 hC.2.1 dX11_owed_273 ?_
      refine lv_iload hC.1 hC.2.1 dX11_owed_274 (lv_at hl 3 rfl) ?_
      refine lv_iadd hC.1 hC.2.1 dX11_owed_276 ?_
      refine x_ist (lv' := fun y10 => [(10, .int y10), (8, .long y7), (7, .int v5), (6, .int v4), (5, .int v3), (4, .int y2), (0, .ref (xz G + 57)), (2, .int x2), (3, .int x3)]) hC hl dX11_owed_277 (Nat.le_of_ble_eq_true rfl) hf (fun _ => rfl) (fun y10 hf ls hl => ?_)
      refine lv_iload hC.1 hC.2.1 dX11_owed_279 (lv_at hl 2 rfl) ?_
      refine lv_aload_n hC.1 hC.2.1 dX11_owed_281 rfl (lv_at hl 6 rfl) ?_
      refine x_get (v := .ref (xz G + 76)) hC xf_X11_70 (xce_57 G kp _ _) rfl hR dX11_owed_282 ?_
      refine lv_iload hC.1 hC.2.1 dX11_owed_285 (lv_at hl 0 rfl) ?_
      refine x_ial hC (xce_76 G kp _ _) hR dX11_owed_287 hf (fun v11 hf => ?_)
      refine x_ic_le (tgt := 304) hC dX11_owed_288 (by decide) hf (fun hf => ?_) (fun hf => ?_)
      · refine lv_iconst (v := 0) hC.1 hC.2.1 dX11_owed_304 (by decide) ?_
        exact W_X11_owed_j305 hC N _ hk183 hf _ _ _ hR hS (lv_sub hl [6, 7, 8, 5, 4, 3, 2, 1, 0] rfl)
      · refine lv_iload hC.1 hC.2.1 dX11_owed_291 (lv_at hl 2 rfl) ?_
        refine lv_aload_n hC.1 hC.2.1 dX11_owed_293 rfl (lv_at hl 6 rfl) ?_
        refine x_get (v := .ref (xz G + 76)) hC xf_X11_70 (xce_57 G kp _ _) rfl hR dX11_owed_294 ?_
        refine lv_iload hC.1 hC.2.1 dX11_owed_297 (lv_at hl 0 rfl) ?_
        refine x_ial hC (xce_76 G kp _ _) hR dX11_owed_299 hf (fun v12 hf => ?_)
        refine lv_isub hC.1 hC.2.1 dX11_owed_300 ?_
        refine lv_goto (tgt := 305) hC.1 hC.2.1 dX11_owed_301 (by decide) ?_
        exact W_X11_owed_j305 hC N _ hk183 hf _ _ _ hR hS (lv_sub hl [6, 7, 8, 5, 4, 3, 2, 1, 0] rfl)
set_option maxRecDepth 20000 in
theorem W_X11_owed_l154 {G : XG} {l : Launch} {kp : Bool} {p : Program} {e : Env} {s : State} {m : MethodId} {args : Array Value} {below : List Frame} {meth : Method} {c : Code} (hC : xC G p s m args meth c cX11_owed 12 RX11 none) (N : Nat) {L : xTL} {rI : xTI} {rL : xTL} {x2 : Int32} : ∀ (n : Nat) (x3 : Int32) (I : xTI) , xlp (F_X11_owed_b154 N L x2 ) n (x3, I) = some (rI, rL) → ∀ (H : Heap) (locs : List Loc) (ls : Array Slot), xRep G kp I L H → xS G s.heap H locs → lv_has ls 12 [(0, .ref (xz G + 57)), (2, .int x2), (3, .int x3)] → W p l e (xrm 87 2078) s m args below meth c H locs 0 0 (xMQ G kp below args s none rI rL) (F0 m 154 ls []) := by
  intro n
  induction n with
  | zero =>
    intro x3 I hf
    cases hf
  | succ n hk154 =>
    intro x3 I hf H locs ls hR hS hl
    rw [xlp_s, E_X11_owed_b154] at hf
    unfold F_X11_owed_c154 at hf
    refine lv_iload_n hC.1 hC.2.1 dX11_owed_154 rfl (lv_at hl 2 rfl) ?_
    refine lv_bipush (v := 60) hC.1 hC.2.1 dX11_owed_155 (by decide) ?_
    refine x_ic_ge (tgt := 181) hC dX11_owed_157 (by decide) hf (fun hf => ?_) (fun hf => ?_)
    · refine lv_iconst (v := 0) hC.1 hC.2.1 dX11_owed_181 (by decide) ?_
      refine lv_istore_n (lv' := [(3, .int 0), (0, .ref (xz G + 57)), (2, .int x2)]) hC.1 hC.2.1 dX11_owed_182 rfl hl (Nat.le_of_ble_eq_true rfl) rfl (fun ls hl => ?_)
      exact W_X11_owed_l183 hC N _ 0 I L hf _ _ _ hR hS (lv_sub hl [1, 2, 0] rfl)
    · refine lv_aload_n hC.1 hC.2.1 dX11_owed_160 rfl (lv_at hl 0 rfl) ?_
      refine x_get (v := .ref (xz G + 76)) hC xf_X11_70 (xce_57 G kp _ _) rfl hR dX11_owed_161 ?_
      refine lv_iload_n hC.1 hC.2.1 dX11_owed_164 rfl (lv_at hl 2 rfl) ?_
      refine lv_aload_n hC.1 hC.2.1 dX11_owed_165 rfl (lv_at hl 0 rfl) ?_
      refine x_get (v := .ref (xz G + 58)) hC xf_X11_14 (xce_57 G kp _ _) rfl hR dX11_owed_166 ?_
      refine lv_bipush (v := 64) hC.1 hC.2.1 dX11_owed_169 (by decide) ?_
      refine lv_iload_n hC.1 hC.2.1 dX11_owed_171 rfl (lv_at hl 2 rfl) ?_
      refine lv_iadd hC.1 hC.2.1 dX11_owed_172 ?_
      refine x_ial hC (xce_58 G kp _ _) hR dX11_owed_173 hf (fun v1 hf => ?_)
      refine x_ias hC (fun f => (xce_76 G kp f _)) hR hS dX11_owed_174 hf (fun I2 hf H locs hR hS => ?_)
      refine x_iinc (d := 1) (lv' := fun y3 => [(3, .int y3), (0, .ref (xz G + 57)), (2, .int x2)]) (k := 2) hC hl dX11_owed_175 rfl (by decide) (Nat.le_of_ble_eq_true rfl) hf (fun _ => rfl) (fun y3 hf ls hl => ?_)
      refine W.eq (g2 := F0 m 178 ls []) rfl ?_
      refine lv_goto (tgt := 154) hC.1 hC.2.1 dX11_owed_178 (by decide) ?_
      exact hk154 y3 I2 hf _ _ _ hR hS (lv_sub hl [1, 2, 0] rfl)
set_option maxRecDepth 20000 in
theorem W_X11_owed_l74 {G : XG} {l : Launch} {kp : Bool} {p : Program} {e : Env} {s : State} {m : MethodId} {args : Array Value} {below : List Frame} {meth : Method} {c : Code} (hC : xC G p s m args meth c cX11_owed 12 RX11 none) (N : Nat) {I : xTI} {rI : xTI} {rL : xTL} {x1 : Int32} {x2 : Int32} : ∀ (n : Nat) (x3 : Int32) (L : xTL) , xlp (F_X11_owed_b74 N I x1 x2 ) n (x3, L) = some (rI, rL) → ∀ (H : Heap) (locs : List Loc) (ls : Array Slot), xRep G kp I L H → xS G s.heap H locs → lv_has ls 12 [(0, .ref (xz G + 57)), (1, .int x1), (2, .int x2), (3, .int x3)] → W p l e (xrm 87 2078) s m args below meth c H locs 0 0 (xMQ G kp below args s none rI rL) (F0 m 74 ls []) := by
  intro n
  induction n with
  | zero =>
    intro x3 L hf
    cases hf
  | succ n hk74 =>
    intro x3 L hf H locs ls hR hS hl
    rw [xlp_s, E_X11_owed_b74] at hf
    unfold F_X11_owed_c74 at hf
    refine lv_iload_n hC.1 hC.2.1 dX11_owed_74 rfl (lv_at hl 3 rfl) ?_
    refine lv_bipush (v := 60) hC.1 hC.2.1 dX11_owed_75 (by decide) ?_
    refine x_ic_ge (tgt := 152) hC dX11_owed_77 (by decide) hf (fun hf => ?_) (fun hf => ?_)
    · refine lv_iconst (v := 0) hC.1 hC.2.1 dX11_owed_152 (by decide) ?_
      refine lv_istore_n (lv' := [(3, .int 0), (0, .ref (xz G + 57)), (1, .int x1), (2, .int x2)]) hC.1 hC.2.1 dX11_owed_153 rfl hl (Nat.le_of_ble_eq_true rfl) rfl (fun ls hl => ?_)
      exact W_X11_owed_l154 hC N _ 0 I hf _ _ _ hR hS (lv_sub hl [1, 3, 0] rfl)
    · refine lv_aload_n hC.1 hC.2.1 dX11_owed_80 rfl (lv_at hl 0 rfl) ?_
      refine lv_iload_n hC.1 hC.2.1 dX11_owed_81 rfl (lv_at hl 3 rfl) ?_
      refine x_cvi00 (rest := []) hC xy_X11_stands tw_1403 hf (fun _ h => M_X11_stands G l kp h) ⟨Nat.le_of_ble_eq_true rfl, Nat.le_of_ble_eq_true rfl⟩ (xce_57 G kp _ _) rfl rfl rfl (Nat.le_of_ble_eq_true rfl) hl.1 hR hS dX11_owed_82 ⟨Nat.le_refl _, Nat.le_refl _⟩ (fun v1 hf H locs hR hS => ?_)
      refine x_if_eq (tgt := 146) hC dX11_owed_85 (by decide) hf (fun hf => ?_) (fun hf => ?_)
      · refine x_iinc (d := 1) (lv' := fun y2 => [(3, .int y2), (0, .ref (xz G + 57)), (1, .int x1), (2, .int x2)]) (k := 3) hC hl dX11_owed_146 rfl (by decide) (Nat.le_of_ble_eq_true rfl) hf (fun _ => rfl) (fun y2 hf ls hl => ?_)
        refine lv_goto (tgt := 74) hC.1 hC.2.1 dX11_owed_149 (by decide) ?_
        exact hk74 y2 L hf _ _ _ hR hS (lv_sub hl [1, 2, 3, 0] rfl)
      · refine lv_aload_n hC.1 hC.2.1 dX11_owed_88 rfl (lv_at hl 0 rfl) ?_
        refine lv_iload_n hC.1 hC.2.1 dX11_owed_89 rfl (lv_at hl 3 rfl) ?_
        refine lv_bipush (v := 7) hC.1 hC.2.1 dX11_owed_90 (by decide) ?_
        refine x_cvi00 (rest := []) hC xy_X11_bg tw_1383 hf (fun _ h => M_X11_bg G l kp h) ⟨Nat.le_of_ble_eq_true rfl, Nat.le_of_ble_eq_true rfl⟩ (xce_57 G kp _ _) rfl rfl rfl (Nat.le_of_ble_eq_true rfl) hl.1 hR hS dX11_owed_92 ⟨Nat.le_refl _, Nat.le_refl _⟩ (fun v3 hf H locs hR hS => ?_)
        refine lv_iload_n hC.1 hC.2.1 dX11_owed_95 rfl (lv_at hl 1 rfl) ?_
        refine x_ic_ne (tgt := 146) hC dX11_owed_96 (by decide) hf (fun hf => ?_) (fun hf => ?_)
        · refine x_iinc (d := 1) (lv' := fun y4 => [(3, .int y4), (0, .ref (xz G + 57)), (1, .int x1), (2, .int x2)]) (k := 3) hC hl dX11_owed_146 rfl (by decide) (Nat.le_of_ble_eq_true rfl) hf (fun _ => rfl) (fun y4 hf ls hl => ?_)
          refine lv_goto (tgt := 74) hC.1 hC.2.1 dX11_owed_149 (by decide) ?_
          exact hk74 y4 L hf _ _ _ hR hS (lv_sub hl [1, 2, 3, 0] rfl)
        · refine lv_aload_n hC.1 hC.2.1 dX11_owed_99 rfl (lv_at hl 0 rfl) ?_
          refine lv_aload_n hC.1 hC.2.1 dX11_owed_100 rfl (lv_at hl 0 rfl) ?_
          refine lv_iload_n hC.1 hC.2.1 dX11_owed_101 rfl (lv_at hl 3 rfl) ?_
          refine lv_iconst (v := 2) hC.1 hC.2.1 dX11_owed_102 (by decide) ?_
          refine x_cvi00 (rest := [.ref (xz G + 57)]) hC xy_X11_bg tw_1383 hf (fun _ h => M_X11_bg G l kp h) ⟨Nat.le_of_ble_eq_true rfl, Nat.le_of_ble_eq_true rfl⟩ (xce_57 G kp _ _) rfl rfl rfl (Nat.le_of_ble_eq_true rfl) hl.1 hR hS dX11_owed_103 ⟨Nat.le_refl _, Nat.le_refl _⟩ (fun v5 hf H locs hR hS => ?_)
          refine lv_aload_n hC.1 hC.2.1 dX11_owed_106 rfl (lv_at hl 0 rfl) ?_
          refine lv_iload_n hC.1 hC.2.1 dX11_owed_107 rfl (lv_at hl 3 rfl) ?_
          refine lv_iconst (v := 1) hC.1 hC.2.1 dX11_owed_108 (by decide) ?_
          refine x_cvi00 (rest := [.int v5, .ref (xz G + 57)]) hC xy_X11_bg tw_1383 hf (fun _ h => M_X11_bg G l kp h) ⟨Nat.le_of_ble_eq_true rfl, Nat.le_of_ble_eq_true rfl⟩ (xce_57 G kp _ _) rfl rfl rfl (Nat.le_of_ble_eq_true rfl) hl.1 hR hS dX11_owed_109 ⟨Nat.le_refl _, Nat.le_refl _⟩ (fun v6 hf H locs hR hS => ?_)
          refine lv_aload_n hC.1 hC.2.1 dX11_owed_112 rfl (lv_at hl 0 rfl) ?_
          refine lv_iload_n hC.1 hC.2.1 dX11_owed_113 rfl (lv_at hl 3 rfl) ?_
          refine W.eq (g2 := F0 m 114 ls [.int x3, .ref (xz G + 57), .int v6, .int v5, .ref (xz G + 57)]) rfl ?_
          refine lv_iconst (v := 4) hC.1 hC.2.1 dX11_owed_114 (by decide) ?_
          refine x_cvi00 (rest := [.int v6, .int v5, .ref (xz G + 57)]) hC xy_X11_bg tw_1383 hf (fun _ h => M_X11_bg G l kp h) ⟨Nat.le_of_ble_eq_true rfl, Nat.le_of_ble_eq_true rfl⟩ (xce_57 G kp _ _) rfl rfl rfl (Nat.le_of_ble_eq_true rfl) hl.1 hR hS dX11_owed_115 ⟨Nat.le_refl _, Nat.le_refl _⟩ (fun v7 hf H locs hR hS => ?_)
          refine lv_i2l hC.1 hC.2.1 dX11_owed_118 rfl ?_
          refine lv_aload_n hC.1 hC.2.1 dX11_owed_119 rfl (lv_at hl 0 rfl) ?_
          refine lv_iload_n hC.1 hC.2.1 dX11_owed_120 rfl (lv_at hl 3 rfl) ?_
          refine lv_iconst (v := 5) hC.1 hC.2.1 dX11_owed_121 (by decide) ?_
          refine x_cvi00 (rest := [.long (v7.toInt64), .int v6, .int v5, .ref (xz G + 57)]) hC xy_X11_bg tw_1383 hf (fun _ h => M_X11_bg G l kp h) ⟨Nat.le_of_ble_eq_true rfl, Nat.le_of_ble_eq_true rfl⟩ (xce_57 G kp _ _) rfl rfl rfl (Nat.le_of_ble_eq_true rfl) hl.1 hR hS dX11_owed_122 ⟨Nat.le_refl _, Nat.le_refl _⟩ (fun v8 hf H locs hR hS => ?_)
          refine lv_aload_n hC.1 hC.2.1 dX11_owed_125 rfl (lv_at hl 0 rfl) ?_
          refine x_get (v := .ref (xz G + 58)) hC xf_X11_14 (xce_57 G kp _ _) rfl hR dX11_owed_126 ?_
          refine lv_sipush (v := 184) hC.1 hC.2.1 dX11_owed_129 (by decide) ?_
          refine lv_aload_n hC.1 hC.2.1 dX11_owed_132 rfl (lv_at hl 0 rfl) ?_
          refine lv_iload_n hC.1 hC.2.1 dX11_owed_133 rfl (lv_at hl 3 rfl) ?_
          refine W.eq (g2 := F0 m 134 ls [.int x3, .ref (xz G + 57), .int 184, .ref (xz G + 58), .int v8, .long (v7.toInt64), .int v6, .int v5, .ref (xz G + 57)]) rfl ?_
          refine lv_iconst (v := 3) hC.1 hC.2.1 dX11_owed_134 (by decide) ?_
          refine x_cvi00 (rest := [.int 184, .ref (xz G + 58), .int v8, .long (v7.toInt64), .int v6, .int v5, .ref (xz G + 57)]) hC xy_X11_bg tw_1383 hf (fun _ h => M_X11_bg G l kp h) ⟨Nat.le_of_ble_eq_true rfl, Nat.le_of_ble_eq_true rfl⟩ (xce_57 G kp _ _) rfl rfl rfl (Nat.le_of_ble_eq_true rfl) hl.1 hR hS dX11_owed_135 ⟨Nat.le_refl _, Nat.le_refl _⟩ (fun v9 hf H locs hR hS => ?_)
          refine lv_iadd hC.1 hC.2.1 dX11_owed_138 ?_
          refine x_ial hC (xce_58 G kp _ _) hR dX11_owed_139 hf (fun v10 hf => ?_)
          refine lv_isub hC.1 hC.2.1 dX11_owed_140 ?_
          refine lv_i2l hC.1 hC.2.1 dX11_owed_141 rfl ?_
          refine lv_lmul hC.1 hC.2.1 dX11_owed_142 ?_
          refine x_cvv01 (rest := []) hC xy_X11_owing tw_1654 hf (fun _ h => M_X11_owing G l kp h) ⟨Nat.le_of_ble_eq_true rfl, Nat.le_of_ble_eq_true rfl⟩ (xce_57 G kp _ _) rfl rfl rfl (Nat.le_of_ble_eq_true rfl) hl.1 hR hS dX11_owed_143 ⟨Nat.le_refl _, Nat.le_refl _⟩ (fun L11 hf H locs hR hS => ?_)
          refine x_iinc (d := 1) (lv' := fun y12 => [(3, .int y12), (0, .ref (xz G + 57)), (1, .int x1), (2, .int x2)]) (k := 3) hC hl dX11_owed_146 rfl (by decide) (Nat.le_of_ble_eq_true rfl) hf (fun _ => rfl) (fun y12 hf ls hl => ?_)
          refine lv_goto (tgt := 74) hC.1 hC.2.1 dX11_owed_149 (by decide) ?_
          exact hk74 y12 L11 hf _ _ _ hR hS (lv_sub hl [1, 2, 3, 0] rfl)
set_option maxRecDepth 20000 in
theorem W_X11_owed_l39 {G : XG} {l : Launch} {kp : Bool} {p : Program} {e : Env} {s : State} {m : MethodId} {args : Array Value} {below : List Frame} {meth : Method} {c : Code} (hC : xC G p s m args meth c cX11_owed 12 RX11 none) (N : Nat) {rI : xTI} {rL : xTL} {x1 : Int32} {x2 : Int32} : ∀ (n : Nat) (x3 : Int32) (I : xTI) (L : xTL) , xlp (F_X11_owed_b39 N x1 x2 ) n (x3, I, L) = some (rI, rL) → ∀ (H : Heap) (locs : List Loc) (ls : Array Slot), xRep G kp I L H → xS G s.heap H locs → lv_has ls 12 [(0, .ref (xz G + 57)), (1, .int x1), (2, .int x2), (3, .int x3)] → W p l e (xrm 87 2078) s m args below meth c H locs 0 0 (xMQ G kp below args s none rI rL) (F0 m 39 ls []) := by
  intro n
  induction n with
  | zero =>
    intro x3 I L hf
    cases hf
  | succ n hk39 =>
    intro x3 I L hf H locs ls hR hS hl
    rw [xlp_s, E_X11_owed_b39] at hf
    unfold F_X11_owed_c39 at hf
    refine lv_iload_n hC.1 hC.2.1 dX11_owed_39 rfl (lv_at hl 3 rfl) ?_
    refine lv_bipush (v := 12) hC.1 hC.2.1 dX11_owed_40 (by decide) ?_
    refine x_ic_ge (tgt := 72) hC dX11_owed_42 (by decide) hf (fun hf => ?_) (fun hf => ?_)
    · refine lv_iconst (v := 0) hC.1 hC.2.1 dX11_owed_72 (by decide) ?_
      refine lv_istore_n (lv' := [(3, .int 0), (0, .ref (xz G + 57)), (1, .int x1), (2, .int x2)]) hC.1 hC.2.1 dX11_owed_73 rfl hl (Nat.le_of_ble_eq_true rfl) rfl (fun ls hl => ?_)
      exact W_X11_owed_l74 hC N _ 0 L hf _ _ _ hR hS (lv_sub hl [1, 2, 3, 0] rfl)
    · refine lv_aload_n hC.1 hC.2.1 dX11_owed_45 rfl (lv_at hl 0 rfl) ?_
      refine x_get (v := .ref (xz G + 71)) hC xf_X11_55 (xce_57 G kp _ _) rfl hR dX11_owed_46 ?_
      refine lv_iload_n hC.1 hC.2.1 dX11_owed_49 rfl (lv_at hl 3 rfl) ?_
      refine lv_lconst (v := 0) hC.1 hC.2.1 dX11_owed_50 (by decide) ?_
      refine x_las hC (fun f => (xce_71 G kp _ f)) hR hS dX11_owed_51 hf (fun L1 hf H locs hR hS => ?_)
      refine lv_aload_n hC.1 hC.2.1 dX11_owed_52 rfl (lv_at hl 0 rfl) ?_
      refine x_get (v := .ref (xz G + 58)) hC xf_X11_14 (xce_57 G kp _ _) rfl hR dX11_owed_53 ?_
      refine lv_bipush (v := 16) hC.1 hC.2.1 dX11_owed_56 (by decide) ?_
      refine lv_iconst (v := 4) hC.1 hC.2.1 dX11_owed_58 (by decide) ?_
      refine lv_iload_n hC.1 hC.2.1 dX11_owed_59 rfl (lv_at hl 3 rfl) ?_
      refine lv_imul hC.1 hC.2.1 dX11_owed_60 ?_
      refine W.eq (g2 := F0 m 61 ls [.int (4 * x3), .int 16, .ref (xz G + 58)]) rfl ?_
      refine lv_iadd hC.1 hC.2.1 dX11_owed_61 ?_
      refine lv_iconst (v := 3) hC.1 hC.2.1 dX11_owed_62 (by decide) ?_
      refine lv_iadd hC.1 hC.2.1 dX11_owed_63 ?_
      refine lv_iconst (v := 0) hC.1 hC.2.1 dX11_owed_64 (by decide) ?_
      refine x_ias hC (fun f => (xce_58 G kp f _)) hR hS dX11_owed_65 hf (fun I2 hf H locs hR hS => ?_)
      refine x_iinc (d := 1) (lv' := fun y3 => [(3, .int y3), (0, .ref (xz G + 57)), (1, .int x1), (2, .int x2)]) (k := 3) hC hl dX11_owed_66 rfl (by decide) (Nat.le_of_ble_eq_true rfl) hf (fun _ => rfl) (fun y3 hf ls hl => ?_)
      refine lv_goto (tgt := 39) hC.1 hC.2.1 dX11_owed_69 (by decide) ?_
      exact hk39 y3 I2 L1 hf _ _ _ hR hS (lv_sub hl [1, 2, 3, 0] rfl)
set_option maxRecDepth 20000 in
theorem W_X11_owed_l9 {G : XG} {l : Launch} {kp : Bool} {p : Program} {e : Env} {s : State} {m : MethodId} {args : Array Value} {below : List Frame} {meth : Method} {c : Code} (hC : xC G p s m args meth c cX11_owed 12 RX11 none) (N : Nat) {I : xTI} {rI : xTI} {rL : xTL} {x1 : Int32} {x2 : Int32} : ∀ (n : Nat) (x3 : Int32) (L : xTL) , xlp (F_X11_owed_b9 N I x1 x2 ) n (x3, L) = some (rI, rL) → ∀ (H : Heap) (locs : List Loc) (ls : Array Slot), xRep G kp I L H → xS G s.heap H locs → lv_has ls 12 [(0, .ref (xz G + 57)), (1, .int x1), (2, .int x2), (3, .int x3)] → W p l e (xrm 87 2078) s m args below meth c H locs 0 0 (xMQ G kp below args s none rI rL) (F0 m 9 ls []) := by
  intro n
  induction n with
  | zero =>
    intro x3 L hf
    cases hf
  | succ n hk9 =>
    intro x3 L hf H locs ls hR hS hl
    rw [xlp_s, E_X11_owed_b9] at hf
    unfold F_X11_owed_c9 at hf
    refine lv_iload_n hC.1 hC.2.1 dX11_owed_9 rfl (lv_at hl 3 rfl) ?_
    refine lv_sipush (v := 144) hC.1 hC.2.1 dX11_owed_10 (by decide) ?_
    refine x_ic_ge (tgt := 37) hC dX11_owed_13 (by decide) hf (fun hf => ?_) (fun hf => ?_)
    · refine lv_iconst (v := 0) hC.1 hC.2.1 dX11_owed_37 (by decide) ?_
      refine lv_istore_n (lv' := [(3, .int 0), (0, .ref (xz G + 57)), (1, .int x1), (2, .int x2)]) hC.1 hC.2.1 dX11_owed_38 rfl hl (Nat.le_of_ble_eq_true rfl) rfl (fun ls hl => ?_)
      exact W_X11_owed_l39 hC N _ 0 I L hf _ _ _ hR hS (lv_sub hl [1, 2, 3, 0] rfl)
    · refine lv_aload_n hC.1 hC.2.1 dX11_owed_16 rfl (lv_at hl 0 rfl) ?_
      refine x_get (v := .ref (xz G + 70)) hC xf_X11_52 (xce_57 G kp _ _) rfl hR dX11_owed_17 ?_
      refine lv_iload_n hC.1 hC.2.1 dX11_owed_20 rfl (lv_at hl 3 rfl) ?_
      refine lv_aload_n hC.1 hC.2.1 dX11_owed_21 rfl (lv_at hl 0 rfl) ?_
      refine x_get (v := .ref (xz G + 59)) hC xf_X11_18 (xce_57 G kp _ _) rfl hR dX11_owed_22 ?_
      refine lv_bipush (v := 24) hC.1 hC.2.1 dX11_owed_25 (by decide) ?_
      refine lv_iload_n hC.1 hC.2.1 dX11_owed_27 rfl (lv_at hl 3 rfl) ?_
      refine lv_iadd hC.1 hC.2.1 dX11_owed_28 ?_
      refine x_lal hC (xce_59 G kp _ _) hR dX11_owed_29 hf (fun v1 hf => ?_)
      refine x_las hC (fun f => (xce_70 G kp _ f)) hR hS dX11_owed_30 hf (fun L2 hf H locs hR hS => ?_)
      refine x_iinc (d := 1) (lv' := fun y3 => [(3, .int y3), (0, .ref (xz G + 57)), (1, .int x1), (2, .int x2)]) (k := 3) hC hl dX11_owed_31 rfl (by decide) (Nat.le_of_ble_eq_true rfl) hf (fun _ => rfl) (fun y3 hf ls hl => ?_)
      refine W.eq (g2 := F0 m 34 ls []) rfl ?_
      refine lv_goto (tgt := 9) hC.1 hC.2.1 dX11_owed_34 (by decide) ?_
      exact hk9 y3 L2 hf _ _ _ hR hS (lv_sub hl [1, 2, 3, 0] rfl)
set_option maxRecDepth 20000 in
theorem M_X11_owed (G : XG) (l : Launch) (kp : Bool) (N : Nat) {I : xTI} {L : xTL} {x1 : Int32} {rI : xTI} {rL : xTL} (hf : F_X11_owed N I L x1 = some (rI, rL)) : xMet G l yX11_owed cX11_owed 12 none 87 2078 kp [.ref (xz G + 57), .int x1] I L none rI rL := by
  refine xMet.ofW (by decide +kernel) (Nat.le_of_ble_eq_true rfl) ?_
  intro p e s m args below meth c hC H locs ls hR hS hl
  replace hC : xC G p s m args meth c cX11_owed 12 RX11 none := hC
  replace hl : lv_has ls 12 [(0, .ref (xz G + 57)), (1, .int x1)] := hl
  unfold F_X11_owed at hf
  refine lv_aload_n hC.1 hC.2.1 dX11_owed_0 rfl (lv_at hl 0 rfl) ?_
  refine x_get (v := .ref (xz G + 58)) hC xf_X11_14 (xce_57 G kp _ _) rfl hR dX11_owed_1 ?_
  refine lv_iconst (v := 1) hC.1 hC.2.1 dX11_owed_4 (by decide) ?_
  refine x_ial hC (xce_58 G kp _ _) hR dX11_owed_5 hf (fun v1 hf => ?_)
  refine lv_istore_n (lv' := [(2, .int v1), (0, .ref (xz G + 57)), (1, .int x1)]) hC.1 hC.2.1 dX11_owed_6 rfl hl (Nat.le_of_ble_eq_true rfl) rfl (fun ls hl => ?_)
  refine lv_iconst (v := 0) hC.1 hC.2.1 dX11_owed_7 (by decide) ?_
  refine lv_istore_n (lv' := [(3, .int 0), (2, .int v1), (0, .ref (xz G + 57)), (1, .int x1)]) hC.1 hC.2.1 dX11_owed_8 rfl hl (Nat.le_of_ble_eq_true rfl) rfl (fun ls hl => ?_)
  exact W_X11_owed_l9 hC N _ 0 L hf _ _ _ hR hS (lv_sub hl [2, 3, 1, 0] rfl)
