set_option maxRecDepth 20000 in
theorem W_X11_close_l303 {G : XG} {l : Launch} {kp : Bool} {p : Program} {e : Env} {s : State} {m : MethodId} {args : Array Value} {below : List Frame} {meth : Method} {c : Code} (hC : xC G p s m args meth c cX11_close 6 RX11 none) (N : Nat) {L : xTL} {rI : xTI} {rL : xTL} {x1 : Int32} : ∀ (n : Nat) (x3 : Int32) (I : xTI) , xlp (F_X11_close_b303 N L x1 ) n (x3, I) = some (rI, rL) → ∀ (H : Heap) (locs : List Loc) (ls : Array Slot), xRep G kp I L H → xS G s.heap H locs → lv_has ls 6 [(0, .ref (xz G + 57)), (1, .int x1), (3, .int x3)] → W p l e (xrm 89 2135) s m args below meth c H locs 0 0 (xMQ G kp below args s none rI rL) (F0 m 303 ls []) := by
  intro n
  induction n with
  | zero =>
    intro x3 I hf
    cases hf
  | succ n hk303 =>
    intro x3 I hf H locs ls hR hS hl
    rw [xlp_s, E_X11_close_b303] at hf
    unfold F_X11_close_c303 at hf
    refine lv_iload_n hC.1 hC.2.1 dX11_close_303 rfl (lv_at hl 2 rfl) ?_
    refine lv_aload_n hC.1 hC.2.1 dX11_close_304 rfl (lv_at hl 0 rfl) ?_
    refine x_get (v := .ref (xz G + 58)) hC xf_X11_14 (xce_57 G kp _ _) rfl hR dX11_close_305 ?_
    refine lv_iconst (v := 3) hC.1 hC.2.1 dX11_close_308 (by decide) ?_
    refine x_ial hC (xce_58 G kp _ _) hR dX11_close_309 hf (fun v1 hf => ?_)
    refine x_ic_ge (tgt := 356) hC dX11_close_310 (by decide) hf (fun hf => ?_) (fun hf => ?_)
    · refine lv_aload_n hC.1 hC.2.1 dX11_close_356 rfl (lv_at hl 0 rfl) ?_
      refine x_get (v := .ref (xz G + 58)) hC xf_X11_14 (xce_57 G kp _ _) rfl hR dX11_close_357 ?_
      refine lv_iconst (v := 0) hC.1 hC.2.1 dX11_close_360 (by decide) ?_
      refine lv_dup2_11 hC.1 hC.2.1 dX11_close_361 rfl rfl ?_
      refine x_ial hC (xce_58 G kp _ _) hR dX11_close_362 hf (fun v2 hf => ?_)
      refine lv_iconst (v := 1) hC.1 hC.2.1 dX11_close_363 (by decide) ?_
      refine lv_iadd hC.1 hC.2.1 dX11_close_364 ?_
      refine x_ias hC (fun f => (xce_58 G kp f _)) hR hS dX11_close_365 hf (fun I3 hf H locs hR hS => ?_)
      obtain ⟨h91, h92⟩ := Prod.mk.inj (Option.some.inj hf)
      subst h91
      subst h92
      exact x_vret hC hR hS dX11_close_366
    · refine lv_aload_n hC.1 hC.2.1 dX11_close_313 rfl (lv_at hl 0 rfl) ?_
      refine lv_iload_n hC.1 hC.2.1 dX11_close_314 rfl (lv_at hl 2 rfl) ?_
      refine lv_bipush (v := 6) hC.1 hC.2.1 dX11_close_315 (by decide) ?_
      refine x_cvi00 (rest := []) hC xy_X11_op tw_1575 hf (fun _ h => M_X11_op G l kp h) ⟨Nat.le_of_ble_eq_true rfl, Nat.le_of_ble_eq_true rfl⟩ (xce_57 G kp _ _) rfl rfl rfl (Nat.le_of_ble_eq_true rfl) hl.1 hR hS dX11_close_317 ⟨Nat.le_refl _, Nat.le_refl _⟩ (fun v4 hf H locs hR hS => ?_)
      refine x_if_ne (tgt := 350) hC dX11_close_320 (by decide) hf (fun hf => ?_) (fun hf => ?_)
      · refine x_iinc (d := 1) (lv' := fun y5 => [(3, .int y5), (0, .ref (xz G + 57)), (1, .int x1)]) (k := 2) hC hl dX11_close_350 rfl (by decide) (Nat.le_of_ble_eq_true rfl) hf (fun _ => rfl) (fun y5 hf ls hl => ?_)
        refine lv_goto (tgt := 303) hC.1 hC.2.1 dX11_close_353 (by decide) ?_
        exact hk303 y5 I hf _ _ _ hR hS (lv_sub hl [1, 2, 0] rfl)
      · refine lv_aload_n hC.1 hC.2.1 dX11_close_323 rfl (lv_at hl 0 rfl) ?_
        refine lv_iload_n hC.1 hC.2.1 dX11_close_324 rfl (lv_at hl 2 rfl) ?_
        refine lv_iconst (v := 5) hC.1 hC.2.1 dX11_close_325 (by decide) ?_
        refine x_cvi00 (rest := []) hC xy_X11_op tw_1575 hf (fun _ h => M_X11_op G l kp h) ⟨Nat.le_of_ble_eq_true rfl, Nat.le_of_ble_eq_true rfl⟩ (xce_57 G kp _ _) rfl rfl rfl (Nat.le_of_ble_eq_true rfl) hl.1 hR hS dX11_close_326 ⟨Nat.le_refl _, Nat.le_refl _⟩ (fun v6 hf H locs hR hS => ?_)
        refine lv_iload_n hC.1 hC.2.1 dX11_close_329 rfl (lv_at hl 1 rfl) ?_
        refine x_ic_ne (tgt := 350) hC dX11_close_330 (by decide) hf (fun hf => ?_) (fun hf => ?_)
        · refine x_iinc (d := 1) (lv' := fun y7 => [(3, .int y7), (0, .ref (xz G + 57)), (1, .int x1)]) (k := 2) hC hl dX11_close_350 rfl (by decide) (Nat.le_of_ble_eq_true rfl) hf (fun _ => rfl) (fun y7 hf ls hl => ?_)
          refine lv_goto (tgt := 303) hC.1 hC.2.1 dX11_close_353 (by decide) ?_
          exact hk303 y7 I hf _ _ _ hR hS (lv_sub hl [1, 2, 0] rfl)
        · refine lv_aload_n hC.1 hC.2.1 dX11_close_333 rfl (lv_at hl 0 rfl) ?_
          refine x_get (v := .ref (xz G + 58)) hC xf_X11_14 (xce_57 G kp _ _) rfl hR dX11_close_334 ?_
          refine lv_sipush (v := 912) hC.1 hC.2.1 dX11_close_337 (by decide) ?_
          refine lv_bipush (v := 7) hC.1 hC.2.1 dX11_close_340 (by decide) ?_
          refine lv_iload_n hC.1 hC.2.1 dX11_close_342 rfl (lv_at hl 2 rfl) ?_
          refine lv_imul hC.1 hC.2.1 dX11_close_343 ?_
          refine lv_iadd hC.1 hC.2.1 dX11_close_344 ?_
          refine lv_bipush (v := 6) hC.1 hC.2.1 dX11_close_345 (by decide) ?_
          refine lv_iadd hC.1 hC.2.1 dX11_close_347 ?_
          refine lv_iconst (v := 2) hC.1 hC.2.1 dX11_close_348 (by decide) ?_
          refine x_ias hC (fun f => (xce_58 G kp f _)) hR hS dX11_close_349 hf (fun I8 hf H locs hR hS => ?_)
          refine W.eq (g2 := F0 m 350 ls []) rfl ?_
          refine x_iinc (d := 1) (lv' := fun y9 => [(3, .int y9), (0, .ref (xz G + 57)), (1, .int x1)]) (k := 2) hC hl dX11_close_350 rfl (by decide) (Nat.le_of_ble_eq_true rfl) hf (fun _ => rfl) (fun y9 hf ls hl => ?_)
          refine lv_goto (tgt := 303) hC.1 hC.2.1 dX11_close_353 (by decide) ?_
          exact hk303 y9 I8 hf _ _ _ hR hS (lv_sub hl [1, 2, 0] rfl)
set_option maxRecDepth 20000 in
theorem W_X11_close_j284 {G : XG} {l : Launch} {kp : Bool} {p : Program} {e : Env} {s : State} {m : MethodId} {args : Array Value} {below : List Frame} {meth : Method} {c : Code} (hC : xC G p s m args meth c cX11_close 6 RX11 none) (N : Nat) {I : xTI} {L : xTL} {rI : xTI} {rL : xTL} {x1 : Int32} (hf : F_X11_close_j284 N I L x1 = some (rI, rL)) : ∀ (H : Heap) (locs : List Loc) (ls : Array Slot), xRep G kp I L H → xS G s.heap H locs → lv_has ls 6 [(0, .ref (xz G + 57)), (1, .int x1)] → W p l e (xrm 89 2135) s m args below meth c H locs 0 0 (xMQ G kp below args s none rI rL) (F0 m 284 ls []) := by
  intro H locs ls hR hS hl
  unfold F_X11_close_j284 at hf
  refine lv_iload_n hC.1 hC.2.1 dX11_close_284 rfl (lv_at hl 1 rfl) ?_
  refine lv_bipush (v := 14) hC.1 hC.2.1 dX11_close_285 (by decide) ?_
  refine lv_irem hC.1 hC.2.1 dX11_close_287 (by decide) ?_
  refine lv_bipush (v := 12) hC.1 hC.2.1 dX11_close_288 (by decide) ?_
  refine x_ic_ne (tgt := 301) hC dX11_close_290 (by decide) hf (fun hf => ?_) (fun hf => ?_)
  · refine lv_iconst (v := 0) hC.1 hC.2.1 dX11_close_301 (by decide) ?_
    refine lv_istore_n (lv' := [(3, .int 0), (0, .ref (xz G + 57)), (1, .int x1)]) hC.1 hC.2.1 dX11_close_302 rfl hl (Nat.le_of_ble_eq_true rfl) rfl (fun ls hl => ?_)
    exact W_X11_close_l303 hC N _ 0 I hf _ _ _ hR hS (lv_sub hl [1, 2, 0] rfl)
  · refine lv_aload_n hC.1 hC.2.1 dX11_close_293 rfl (lv_at hl 0 rfl) ?_
    refine lv_iload_n hC.1 hC.2.1 dX11_close_294 rfl (lv_at hl 1 rfl) ?_
    refine lv_bipush (v := 14) hC.1 hC.2.1 dX11_close_295 (by decide) ?_
    refine lv_idiv hC.1 hC.2.1 dX11_close_297 (by decide) ?_
    refine x_cvv11 (rest := []) hC xy_X11_settles tw_1646 hf (fun _ _ h => M_X11_settles G l kp N h) ⟨Nat.le_of_ble_eq_true rfl, Nat.le_of_ble_eq_true rfl⟩ (xce_57 G kp _ _) rfl rfl rfl (Nat.le_of_ble_eq_true rfl) hl.1 hR hS dX11_close_298 ⟨Nat.le_refl _, Nat.le_refl _⟩ (fun I1 L2 hf H locs hR hS => ?_)
    refine lv_iconst (v := 0) hC.1 hC.2.1 dX11_close_301 (by decide) ?_
    refine lv_istore_n (lv' := [(3, .int 0), (0, .ref (xz G + 57)), (1, .int x1)]) hC.1 hC.2.1 dX11_close_302 rfl hl (Nat.le_of_ble_eq_true rfl) rfl (fun ls hl => ?_)
    exact W_X11_close_l303 hC N _ 0 I1 hf _ _ _ hR hS (lv_sub hl [1, 2, 0] rfl)
set_option maxRecDepth 20000 in
theorem W_X11_close_l259 {G : XG} {l : Launch} {kp : Bool} {p : Program} {e : Env} {s : State} {m : MethodId} {args : Array Value} {below : List Frame} {meth : Method} {c : Code} (hC : xC G p s m args meth c cX11_close 6 RX11 none) (N : Nat) {rI : xTI} {rL : xTL} {x1 : Int32} : ∀ (n : Nat) (x3 : Int32) (I : xTI) (L : xTL) , xlp (F_X11_close_b259 N x1 ) n (x3, I, L) = some (rI, rL) → ∀ (H : Heap) (locs : List Loc) (ls : Array Slot), xRep G kp I L H → xS G s.heap H locs → lv_has ls 6 [(0, .ref (xz G + 57)), (1, .int x1), (3, .int x3)] → W p l e (xrm 89 2135) s m args below meth c H locs 0 0 (xMQ G kp below args s none rI rL) (F0 m 259 ls []) := by
  intro n
  induction n with
  | zero =>
    intro x3 I L hf
    cases hf
  | succ n hk259 =>
    intro x3 I L hf H locs ls hR hS hl
    rw [xlp_s, E_X11_close_b259] at hf
    unfold F_X11_close_c259 at hf
    refine lv_iload_n hC.1 hC.2.1 dX11_close_259 rfl (lv_at hl 2 rfl) ?_
    refine lv_aload_n hC.1 hC.2.1 dX11_close_260 rfl (lv_at hl 0 rfl) ?_
    refine x_get (v := .ref (xz G + 58)) hC xf_X11_14 (xce_57 G kp _ _) rfl hR dX11_close_261 ?_
    refine lv_iconst (v := 2) hC.1 hC.2.1 dX11_close_264 (by decide) ?_
    refine x_ial hC (xce_58 G kp _ _) hR dX11_close_265 hf (fun v1 hf => ?_)
    refine x_ic_ge (tgt := 284) hC dX11_close_266 (by decide) hf (fun hf => ?_) (fun hf => ?_)
    · exact W_X11_close_j284 hC N hf _ _ _ hR hS (lv_sub hl [0, 1] rfl)
    · refine lv_aload_n hC.1 hC.2.1 dX11_close_269 rfl (lv_at hl 0 rfl) ?_
      refine lv_iload_n hC.1 hC.2.1 dX11_close_270 rfl (lv_at hl 2 rfl) ?_
      refine lv_iload_n hC.1 hC.2.1 dX11_close_271 rfl (lv_at hl 1 rfl) ?_
      refine lv_bipush (v := 14) hC.1 hC.2.1 dX11_close_272 (by decide) ?_
      refine lv_idiv hC.1 hC.2.1 dX11_close_274 (by decide) ?_
      refine x_cvv11 (rest := []) hC xy_X11_names tw_1630 hf (fun _ _ h => M_X11_names G l kp N h) ⟨Nat.le_of_ble_eq_true rfl, Nat.le_of_ble_eq_true rfl⟩ (xce_57 G kp _ _) rfl rfl rfl (Nat.le_of_ble_eq_true rfl) hl.1 hR hS dX11_close_275 ⟨Nat.le_refl _, Nat.le_refl _⟩ (fun I2 L3 hf H locs hR hS => ?_)
      refine x_iinc (d := 1) (lv' := fun y4 => [(3, .int y4), (0, .ref (xz G + 57)), (1, .int x1)]) (k := 2) hC hl dX11_close_278 rfl (by decide) (Nat.le_of_ble_eq_true rfl) hf (fun _ => rfl) (fun y4 hf ls hl => ?_)
      refine lv_goto (tgt := 259) hC.1 hC.2.1 dX11_close_281 (by decide) ?_
      exact hk259 y4 I2 L3 hf _ _ _ hR hS (lv_sub hl [1, 2, 0] rfl)
set_option maxRecDepth 20000 in
theorem W_X11_close_j224 {G : XG} {l : Launch} {kp : Bool} {p : Program} {e : Env} {s : State} {m : MethodId} {args : Array Value} {below : List Frame} {meth : Method} {c : Code} (hC : xC G p s m args meth c cX11_close 6 RX11 none) (N : Nat) {I : xTI} {L : xTL} {rI : xTI} {rL : xTL} {x1 : Int32} (hf : F_X11_close_j224 N I L x1 = some (rI, rL)) : ∀ (H : Heap) (locs : List Loc) (ls : Array Slot), xRep G kp I L H → xS G s.heap H locs → lv_has ls 6 [(0, .ref (xz G + 57)), (1, .int x1)] → W p l e (xrm 89 2135) s m args below meth c H locs 0 0 (xMQ G kp below args s none rI rL) (F0 m 224 ls []) := by
  intro H locs ls hR hS hl
  unfold F_X11_close_j224 at hf
  refine lv_iload_n hC.1 hC.2.1 dX11_close_224 rfl (lv_at hl 1 rfl) ?_
  refine lv_bipush (v := 14) hC.1 hC.2.1 dX11_close_225 (by decide) ?_
  refine lv_irem hC.1 hC.2.1 dX11_close_227 (by decide) ?_
  refine lv_bipush (v := 11) hC.1 hC.2.1 dX11_close_228 (by decide) ?_
  refine x_ic_ne (tgt := 284) hC dX11_close_230 (by decide) hf (fun hf => ?_) (fun hf => ?_)
  · exact W_X11_close_j284 hC N hf _ _ _ hR hS (lv_sub hl [0, 1] rfl)
  · refine lv_aload_n hC.1 hC.2.1 dX11_close_233 rfl (lv_at hl 0 rfl) ?_
    refine x_get (v := .ref (xz G + 58)) hC xf_X11_14 (xce_57 G kp _ _) rfl hR dX11_close_234 ?_
    refine lv_bipush (v := 6) hC.1 hC.2.1 dX11_close_237 (by decide) ?_
    refine lv_iconst (v := 0) hC.1 hC.2.1 dX11_close_239 (by decide) ?_
    refine x_ias hC (fun f => (xce_58 G kp f _)) hR hS dX11_close_240 hf (fun I1 hf H locs hR hS => ?_)
    refine lv_aload_n hC.1 hC.2.1 dX11_close_241 rfl (lv_at hl 0 rfl) ?_
    refine x_get (v := .ref (xz G + 58)) hC xf_X11_14 (xce_57 G kp _ _) rfl hR dX11_close_242 ?_
    refine lv_bipush (v := 7) hC.1 hC.2.1 dX11_close_245 (by decide) ?_
    refine lv_iconst (v := 0) hC.1 hC.2.1 dX11_close_247 (by decide) ?_
    refine x_ias hC (fun f => (xce_58 G kp f _)) hR hS dX11_close_248 hf (fun I2 hf H locs hR hS => ?_)
    refine lv_aload_n hC.1 hC.2.1 dX11_close_249 rfl (lv_at hl 0 rfl) ?_
    refine W.eq (g2 := F0 m 250 ls [.ref (xz G + 57)]) rfl ?_
    refine x_get (v := .ref (xz G + 58)) hC xf_X11_14 (xce_57 G kp _ _) rfl hR dX11_close_250 ?_
    refine lv_bipush (v := 8) hC.1 hC.2.1 dX11_close_253 (by decide) ?_
    refine lv_iconst (v := 1) hC.1 hC.2.1 dX11_close_255 (by decide) ?_
    refine x_ias hC (fun f => (xce_58 G kp f _)) hR hS dX11_close_256 hf (fun I3 hf H locs hR hS => ?_)
    refine lv_iconst (v := 0) hC.1 hC.2.1 dX11_close_257 (by decide) ?_
    refine lv_istore_n (lv' := [(3, .int 0), (0, .ref (xz G + 57)), (1, .int x1)]) hC.1 hC.2.1 dX11_close_258 rfl hl (Nat.le_of_ble_eq_true rfl) rfl (fun ls hl => ?_)
    exact W_X11_close_l259 hC N _ 0 I3 L hf _ _ _ hR hS (lv_sub hl [1, 2, 0] rfl)
set_option maxRecDepth 20000 in
theorem W_X11_close_l154 {G : XG} {l : Launch} {kp : Bool} {p : Program} {e : Env} {s : State} {m : MethodId} {args : Array Value} {below : List Frame} {meth : Method} {c : Code} (hC : xC G p s m args meth c cX11_close 6 RX11 none) (N : Nat) {L : xTL} {rI : xTI} {rL : xTL} {x1 : Int32} {x2 : Int32} {x3 : Int32} {x4 : Int32} (k96 : Int32 × Int32 × xTI × xTL → Option (xTI × xTL)) (hk96 : ∀ (x2 : Int32) (x3 : Int32) (I : xTI) (L : xTL) , k96 (x2, x3, I, L) = some (rI, rL) → ∀ (H : Heap) (locs : List Loc) (ls : Array Slot), xRep G kp I L H → xS G s.heap H locs → lv_has ls 6 [(0, .ref (xz G + 57)), (1, .int x1), (2, .int x2), (3, .int x3)] → W p l e (xrm 89 2135) s m args below meth c H locs 0 0 (xMQ G kp below args s none rI rL) (F0 m 96 ls [])) : ∀ (n : Nat) (x5 : Int32) (I : xTI) , xlp (F_X11_close_b154 k96 N L x1 x2 x3 x4 ) n (x5, I) = some (rI, rL) → ∀ (H : Heap) (locs : List Loc) (ls : Array Slot), xRep G kp I L H → xS G s.heap H locs → lv_has ls 6 [(0, .ref (xz G + 57)), (1, .int x1), (2, .int x2), (3, .int x3), (4, .int x4), (5, .int x5)] → W p l e (xrm 89 2135) s m args below meth c H locs 0 0 (xMQ G kp below args s none rI rL) (F0 m 154 ls []) := by
  intro n
  induction n with
  | zero =>
    intro x5 I hf
    cases hf
  | succ n hk154 =>
    intro x5 I hf H locs ls hR hS hl
    rw [xlp_s, E_X11_close_b154] at hf
    unfold F_X11_close_c154 at hf
    refine lv_iload hC.1 hC.2.1 dX11_close_154 (lv_at hl 5 rfl) ?_
    refine lv_iconst (v := 3) hC.1 hC.2.1 dX11_close_156 (by decide) ?_
    refine x_ic_ge (tgt := 191) hC dX11_close_157 (by decide) hf (fun hf => ?_) (fun hf => ?_)
    · refine x_iinc (d := 1) (lv' := fun y1 => [(2, .int y1), (0, .ref (xz G + 57)), (1, .int x1), (3, .int x3), (4, .int x4), (5, .int x5)]) (k := 2) hC hl dX11_close_191 rfl (by decide) (Nat.le_of_ble_eq_true rfl) hf (fun _ => rfl) (fun y1 hf ls hl => ?_)
      refine x_iinc (d := 1) (lv' := fun y2 => [(3, .int y2), (2, .int y1), (0, .ref (xz G + 57)), (1, .int x1), (4, .int x4), (5, .int x5)]) (k := 3) hC hl dX11_close_194 rfl (by decide) (Nat.le_of_ble_eq_true rfl) hf (fun _ => rfl) (fun y2 hf ls hl => ?_)
      refine lv_goto (tgt := 96) hC.1 hC.2.1 dX11_close_197 (by decide) ?_
      exact hk96 y1 y2 I L hf _ _ _ hR hS (lv_sub hl [2, 3, 1, 0] rfl)
    · refine lv_aload_n hC.1 hC.2.1 dX11_close_160 rfl (lv_at hl 0 rfl) ?_
      refine x_get (v := .ref (xz G + 58)) hC xf_X11_14 (xce_57 G kp _ _) rfl hR dX11_close_161 ?_
      refine lv_sipush (v := 1052) hC.1 hC.2.1 dX11_close_164 (by decide) ?_
      refine lv_iconst (v := 3) hC.1 hC.2.1 dX11_close_167 (by decide) ?_
      refine lv_iload_n hC.1 hC.2.1 dX11_close_168 rfl (lv_at hl 2 rfl) ?_
      refine lv_imul hC.1 hC.2.1 dX11_close_169 ?_
      refine lv_iadd hC.1 hC.2.1 dX11_close_170 ?_
      refine lv_iload hC.1 hC.2.1 dX11_close_171 (lv_at hl 5 rfl) ?_
      refine lv_iadd hC.1 hC.2.1 dX11_close_173 ?_
      refine lv_aload_n hC.1 hC.2.1 dX11_close_174 rfl (lv_at hl 0 rfl) ?_
      refine x_get (v := .ref (xz G + 58)) hC xf_X11_14 (xce_57 G kp _ _) rfl hR dX11_close_175 ?_
      refine W.eq (g2 := F0 m 178 ls [.ref (xz G + 58), .int ((1052 + (3 * x2)) + x5), .ref (xz G + 58)]) rfl ?_
      refine lv_iload hC.1 hC.2.1 dX11_close_178 (lv_at hl 4 rfl) ?_
      refine lv_iload hC.1 hC.2.1 dX11_close_180 (lv_at hl 5 rfl) ?_
      refine lv_iadd hC.1 hC.2.1 dX11_close_182 ?_
      refine x_ial hC (xce_58 G kp _ _) hR dX11_close_183 hf (fun v3 hf => ?_)
      refine x_ias hC (fun f => (xce_58 G kp f _)) hR hS dX11_close_184 hf (fun I4 hf H locs hR hS => ?_)
      refine x_iinc (d := 1) (lv' := fun y5 => [(5, .int y5), (0, .ref (xz G + 57)), (1, .int x1), (2, .int x2), (3, .int x3), (4, .int x4)]) (k := 5) hC hl dX11_close_185 rfl (by decide) (Nat.le_of_ble_eq_true rfl) hf (fun _ => rfl) (fun y5 hf ls hl => ?_)
      refine lv_goto (tgt := 154) hC.1 hC.2.1 dX11_close_188 (by decide) ?_
      exact hk154 y5 I4 hf _ _ _ hR hS (lv_sub hl [1, 2, 3, 4, 5, 0] rfl)
set_option maxRecDepth 20000 in
theorem W_X11_close_l96 {G : XG} {l : Launch} {kp : Bool} {p : Program} {e : Env} {s : State} {m : MethodId} {args : Array Value} {below : List Frame} {meth : Method} {c : Code} (hC : xC G p s m args meth c cX11_close 6 RX11 none) (N : Nat) {rI : xTI} {rL : xTL} {x1 : Int32} : ∀ (n : Nat) (x2 : Int32) (x3 : Int32) (I : xTI) (L : xTL) , xlp (F_X11_close_b96 N x1 ) n (x2, x3, I, L) = some (rI, rL) → ∀ (H : Heap) (locs : List Loc) (ls : Array Slot), xRep G kp I L H → xS G s.heap H locs → lv_has ls 6 [(0, .ref (xz G + 57)), (1, .int x1), (2, .int x2), (3, .int x3)] → W p l e (xrm 89 2135) s m args below meth c H locs 0 0 (xMQ G kp below args s none rI rL) (F0 m 96 ls []) := by
  intro n
  induction n with
  | zero =>
    intro x2 x3 I L hf
    cases hf
  | succ n hk96 =>
    intro x2 x3 I L hf H locs ls hR hS hl
    rw [xlp_s, E_X11_close_b96] at hf
    unfold F_X11_close_c96 at hf
    refine lv_iload_n hC.1 hC.2.1 dX11_close_96 rfl (lv_at hl 3 rfl) ?_
    refine lv_aload_n hC.1 hC.2.1 dX11_close_97 rfl (lv_at hl 0 rfl) ?_
    refine x_get (v := .ref (xz G + 58)) hC xf_X11_14 (xce_57 G kp _ _) rfl hR dX11_close_98 ?_
    refine lv_iconst (v := 5) hC.1 hC.2.1 dX11_close_101 (by decide) ?_
    refine x_ial hC (xce_58 G kp _ _) hR dX11_close_102 hf (fun v1 hf => ?_)
    refine x_ic_ge (tgt := 200) hC dX11_close_103 (by decide) hf (fun hf => ?_) (fun hf => ?_)
    · refine lv_aload_n hC.1 hC.2.1 dX11_close_200 rfl (lv_at hl 0 rfl) ?_
      refine x_get (v := .ref (xz G + 58)) hC xf_X11_14 (xce_57 G kp _ _) rfl hR dX11_close_201 ?_
      refine lv_iconst (v := 5) hC.1 hC.2.1 dX11_close_204 (by decide) ?_
      refine lv_iload_n hC.1 hC.2.1 dX11_close_205 rfl (lv_at hl 2 rfl) ?_
      refine x_ias hC (fun f => (xce_58 G kp f _)) hR hS dX11_close_206 hf (fun I2 hf H locs hR hS => ?_)
      refine lv_iload_n hC.1 hC.2.1 dX11_close_207 rfl (lv_at hl 1 rfl) ?_
      refine lv_bipush (v := 14) hC.1 hC.2.1 dX11_close_208 (by decide) ?_
      refine lv_irem hC.1 hC.2.1 dX11_close_210 (by decide) ?_
      refine lv_bipush (v := 9) hC.1 hC.2.1 dX11_close_211 (by decide) ?_
      refine x_ic_ne (tgt := 224) hC dX11_close_213 (by decide) hf (fun hf => ?_) (fun hf => ?_)
      · exact W_X11_close_j224 hC N hf _ _ _ hR hS (lv_sub hl [0, 1] rfl)
      · refine lv_aload_n hC.1 hC.2.1 dX11_close_216 rfl (lv_at hl 0 rfl) ?_
        refine lv_iload_n hC.1 hC.2.1 dX11_close_217 rfl (lv_at hl 1 rfl) ?_
        refine lv_bipush (v := 14) hC.1 hC.2.1 dX11_close_218 (by decide) ?_
        refine lv_idiv hC.1 hC.2.1 dX11_close_220 (by decide) ?_
        refine x_cvv10 (rest := []) hC xy_X11_marksUp tw_1626 hf (fun _ h => M_X11_marksUp G l kp N h) ⟨Nat.le_of_ble_eq_true rfl, Nat.le_of_ble_eq_true rfl⟩ (xce_57 G kp _ _) rfl rfl rfl (Nat.le_of_ble_eq_true rfl) hl.1 hR hS dX11_close_221 ⟨Nat.le_refl _, Nat.le_refl _⟩ (fun I3 hf H locs hR hS => ?_)
        exact W_X11_close_j224 hC N hf _ _ _ hR hS (lv_sub hl [0, 1] rfl)
    · refine lv_sipush (v := 1052) hC.1 hC.2.1 dX11_close_106 (by decide) ?_
      refine lv_iconst (v := 3) hC.1 hC.2.1 dX11_close_109 (by decide) ?_
      refine lv_iload_n hC.1 hC.2.1 dX11_close_110 rfl (lv_at hl 3 rfl) ?_
      refine lv_imul hC.1 hC.2.1 dX11_close_111 ?_
      refine lv_iadd hC.1 hC.2.1 dX11_close_112 ?_
      refine x_ist (lv' := fun y4 => [(4, .int y4), (0, .ref (xz G + 57)), (1, .int x1), (2, .int x2), (3, .int x3)]) hC hl dX11_close_113 (Nat.le_of_ble_eq_true rfl) hf (fun _ => rfl) (fun y4 hf ls hl => ?_)
      refine lv_aload_n hC.1 hC.2.1 dX11_close_115 rfl (lv_at hl 1 rfl) ?_
      refine x_get (v := .ref (xz G + 58)) hC xf_X11_14 (xce_57 G kp _ _) rfl hR dX11_close_116 ?_
      refine lv_iload hC.1 hC.2.1 dX11_close_119 (lv_at hl 0 rfl) ?_
      refine lv_iconst (v := 1) hC.1 hC.2.1 dX11_close_121 (by decide) ?_
      refine lv_iadd hC.1 hC.2.1 dX11_close_122 ?_
      refine W.eq (g2 := F0 m 123 ls [.int (y4 + 1), .ref (xz G + 58)]) rfl ?_
      refine x_ial hC (xce_58 G kp _ _) hR dX11_close_123 hf (fun v5 hf => ?_)
      refine lv_iload_n hC.1 hC.2.1 dX11_close_124 rfl (lv_at hl 2 rfl) ?_
      refine x_ic_ne (tgt := 151) hC dX11_close_125 (by decide) hf (fun hf => ?_) (fun hf => ?_)
      · refine lv_iconst (v := 0) hC.1 hC.2.1 dX11_close_151 (by decide) ?_
        refine lv_istore (lv' := [(5, .int 0), (4, .int y4), (0, .ref (xz G + 57)), (1, .int x1), (2, .int x2), (3, .int x3)]) hC.1 hC.2.1 dX11_close_152 hl (Nat.le_of_ble_eq_true rfl) rfl (fun ls hl => ?_)
        exact W_X11_close_l154 hC N _ hk96 _ 0 I hf _ _ _ hR hS (lv_sub hl [2, 3, 4, 5, 1, 0] rfl)
      · refine lv_aload_n hC.1 hC.2.1 dX11_close_128 rfl (lv_at hl 1 rfl) ?_
        refine lv_aload_n hC.1 hC.2.1 dX11_close_129 rfl (lv_at hl 1 rfl) ?_
        refine x_get (v := .ref (xz G + 58)) hC xf_X11_14 (xce_57 G kp _ _) rfl hR dX11_close_130 ?_
        refine lv_iload hC.1 hC.2.1 dX11_close_133 (lv_at hl 0 rfl) ?_
        refine x_ial hC (xce_58 G kp _ _) hR dX11_close_135 hf (fun v6 hf => ?_)
        refine lv_aload_n hC.1 hC.2.1 dX11_close_136 rfl (lv_at hl 1 rfl) ?_
        refine x_get (v := .ref (xz G + 58)) hC xf_X11_14 (xce_57 G kp _ _) rfl hR dX11_close_137 ?_
        refine lv_iload hC.1 hC.2.1 dX11_close_140 (lv_at hl 0 rfl) ?_
        refine lv_iconst (v := 2) hC.1 hC.2.1 dX11_close_142 (by decide) ?_
        refine lv_iadd hC.1 hC.2.1 dX11_close_143 ?_
        refine x_ial hC (xce_58 G kp _ _) hR dX11_close_144 hf (fun v7 hf => ?_)
        refine W.eq (g2 := F0 m 145 ls [.int v7, .int v6, .ref (xz G + 57)]) rfl ?_
        refine x_cvv11 (rest := []) hC xy_X11_paysOut tw_1622 hf (fun _ _ h => M_X11_paysOut G l kp N h) ⟨Nat.le_of_ble_eq_true rfl, Nat.le_of_ble_eq_true rfl⟩ (xce_57 G kp _ _) rfl rfl rfl (Nat.le_of_ble_eq_true rfl) hl.1 hR hS dX11_close_145 ⟨Nat.le_refl _, Nat.le_refl _⟩ (fun I8 L9 hf H locs hR hS => ?_)
        refine lv_goto (tgt := 194) hC.1 hC.2.1 dX11_close_148 (by decide) ?_
        refine x_iinc (d := 1) (lv' := fun y10 => [(3, .int y10), (4, .int y4), (0, .ref (xz G + 57)), (1, .int x1), (2, .int x2)]) (k := 4) hC hl dX11_close_194 rfl (by decide) (Nat.le_of_ble_eq_true rfl) hf (fun _ => rfl) (fun y10 hf ls hl => ?_)
        refine lv_goto (tgt := 96) hC.1 hC.2.1 dX11_close_197 (by decide) ?_
        exact hk96 x2 y10 I8 L9 hf _ _ _ hR hS (lv_sub hl [2, 3, 4, 0] rfl)
set_option maxRecDepth 20000 in
theorem W_X11_close_l9 {G : XG} {l : Launch} {kp : Bool} {p : Program} {e : Env} {s : State} {m : MethodId} {args : Array Value} {below : List Frame} {meth : Method} {c : Code} (hC : xC G p s m args meth c cX11_close 6 RX11 none) (N : Nat) {rI : xTI} {rL : xTL} {x1 : Int32} : ∀ (n : Nat) (x2 : Int32) (I : xTI) (L : xTL) , xlp (F_X11_close_b9 N x1 ) n (x2, I, L) = some (rI, rL) → ∀ (H : Heap) (locs : List Loc) (ls : Array Slot), xRep G kp I L H → xS G s.heap H locs → lv_has ls 6 [(0, .ref (xz G + 57)), (1, .int x1), (2, .int x2)] → W p l e (xrm 89 2135) s m args below meth c H locs 0 0 (xMQ G kp below args s none rI rL) (F0 m 9 ls []) := by
  intro n
  induction n with
  | zero =>
    intro x2 I L hf
    cases hf
  | succ n hk9 =>
    intro x2 I L hf H locs ls hR hS hl
    rw [xlp_s, E_X11_close_b9] at hf
    unfold F_X11_close_c9 at hf
    refine lv_iload_n hC.1 hC.2.1 dX11_close_9 rfl (lv_at hl 2 rfl) ?_
    refine lv_bipush (v := 60) hC.1 hC.2.1 dX11_close_10 (by decide) ?_
    refine x_ic_ge (tgt := 92) hC dX11_close_12 (by decide) hf (fun hf => ?_) (fun hf => ?_)
    · refine lv_iconst (v := 0) hC.1 hC.2.1 dX11_close_92 (by decide) ?_
      refine lv_istore_n (lv' := [(2, .int 0), (0, .ref (xz G + 57)), (1, .int x1)]) hC.1 hC.2.1 dX11_close_93 rfl hl (Nat.le_of_ble_eq_true rfl) rfl (fun ls hl => ?_)
      refine lv_iconst (v := 0) hC.1 hC.2.1 dX11_close_94 (by decide) ?_
      refine lv_istore_n (lv' := [(3, .int 0), (2, .int 0), (0, .ref (xz G + 57)), (1, .int x1)]) hC.1 hC.2.1 dX11_close_95 rfl hl (Nat.le_of_ble_eq_true rfl) rfl (fun ls hl => ?_)
      exact W_X11_close_l96 hC N _ 0 0 I L hf _ _ _ hR hS (lv_sub hl [2, 3, 1, 0] rfl)
    · refine lv_aload_n hC.1 hC.2.1 dX11_close_15 rfl (lv_at hl 0 rfl) ?_
      refine lv_iload_n hC.1 hC.2.1 dX11_close_16 rfl (lv_at hl 2 rfl) ?_
      refine lv_iconst (v := 0) hC.1 hC.2.1 dX11_close_17 (by decide) ?_
      refine x_cvi00 (rest := []) hC xy_X11_bg tw_1383 hf (fun _ h => M_X11_bg G l kp h) ⟨Nat.le_of_ble_eq_true rfl, Nat.le_of_ble_eq_true rfl⟩ (xce_57 G kp _ _) rfl rfl rfl (Nat.le_of_ble_eq_true rfl) hl.1 hR hS dX11_close_18 ⟨Nat.le_refl _, Nat.le_refl _⟩ (fun v1 hf H locs hR hS => ?_)
      refine x_if_eq (tgt := 86) hC dX11_close_21 (by decide) hf (fun hf => ?_) (fun hf => ?_)
      · refine x_iinc (d := 1) (lv' := fun y2 => [(2, .int y2), (0, .ref (xz G + 57)), (1, .int x1)]) (k := 2) hC hl dX11_close_86 rfl (by decide) (Nat.le_of_ble_eq_true rfl) hf (fun _ => rfl) (fun y2 hf ls hl => ?_)
        refine lv_goto (tgt := 9) hC.1 hC.2.1 dX11_close_89 (by decide) ?_
        exact hk9 y2 I L hf _ _ _ hR hS (lv_sub hl [1, 2, 0] rfl)
      · refine lv_aload_n hC.1 hC.2.1 dX11_close_24 rfl (lv_at hl 0 rfl) ?_
        refine lv_iload_n hC.1 hC.2.1 dX11_close_25 rfl (lv_at hl 2 rfl) ?_
        refine lv_bipush (v := 8) hC.1 hC.2.1 dX11_close_26 (by decide) ?_
        refine x_cvi00 (rest := []) hC xy_X11_bg tw_1383 hf (fun _ h => M_X11_bg G l kp h) ⟨Nat.le_of_ble_eq_true rfl, Nat.le_of_ble_eq_true rfl⟩ (xce_57 G kp _ _) rfl rfl rfl (Nat.le_of_ble_eq_true rfl) hl.1 hR hS dX11_close_28 ⟨Nat.le_refl _, Nat.le_refl _⟩ (fun v3 hf H locs hR hS => ?_)
        refine x_if_ne (tgt := 86) hC dX11_close_31 (by decide) hf (fun hf => ?_) (fun hf => ?_)
        · refine x_iinc (d := 1) (lv' := fun y4 => [(2, .int y4), (0, .ref (xz G + 57)), (1, .int x1)]) (k := 2) hC hl dX11_close_86 rfl (by decide) (Nat.le_of_ble_eq_true rfl) hf (fun _ => rfl) (fun y4 hf ls hl => ?_)
          refine lv_goto (tgt := 9) hC.1 hC.2.1 dX11_close_89 (by decide) ?_
          exact hk9 y4 I L hf _ _ _ hR hS (lv_sub hl [1, 2, 0] rfl)
        · refine lv_aload_n hC.1 hC.2.1 dX11_close_34 rfl (lv_at hl 0 rfl) ?_
          refine lv_iload_n hC.1 hC.2.1 dX11_close_35 rfl (lv_at hl 2 rfl) ?_
          refine lv_bipush (v := 6) hC.1 hC.2.1 dX11_close_36 (by decide) ?_
          refine x_cvi00 (rest := []) hC xy_X11_bg tw_1383 hf (fun _ h => M_X11_bg G l kp h) ⟨Nat.le_of_ble_eq_true rfl, Nat.le_of_ble_eq_true rfl⟩ (xce_57 G kp _ _) rfl rfl rfl (Nat.le_of_ble_eq_true rfl) hl.1 hR hS dX11_close_38 ⟨Nat.le_refl _, Nat.le_refl _⟩ (fun v5 hf H locs hR hS => ?_)
          refine lv_iload_n hC.1 hC.2.1 dX11_close_41 rfl (lv_at hl 1 rfl) ?_
          refine x_ic_lt (tgt := 48) hC dX11_close_42 (by decide) hf (fun hf => ?_) (fun hf => ?_)
          · refine lv_aload_n hC.1 hC.2.1 dX11_close_48 rfl (lv_at hl 0 rfl) ?_
            refine lv_iconst (v := 4) hC.1 hC.2.1 dX11_close_49 (by decide) ?_
            refine lv_bipush (v := 100) hC.1 hC.2.1 dX11_close_50 (by decide) ?_
            refine lv_iload_n hC.1 hC.2.1 dX11_close_52 rfl (lv_at hl 2 rfl) ?_
            refine lv_iadd hC.1 hC.2.1 dX11_close_53 ?_
            refine lv_iconst (v := 0) hC.1 hC.2.1 dX11_close_54 (by decide) ?_
            refine x_cvi11 (rest := []) hC xy_X11_ruled tw_1459 hf (fun _ _ _ h => M_X11_ruled G l kp N h) ⟨Nat.le_of_ble_eq_true rfl, Nat.le_of_ble_eq_true rfl⟩ (xce_57 G kp _ _) rfl rfl rfl (Nat.le_of_ble_eq_true rfl) hl.1 hR hS dX11_close_55 ⟨Nat.le_refl _, Nat.le_refl _⟩ (fun v6 I7 L8 hf H locs hR hS => ?_)
            refine x_if_eq (tgt := 69) hC dX11_close_58 (by decide) hf (fun hf => ?_) (fun hf => ?_)
            · refine lv_aload_n hC.1 hC.2.1 dX11_close_69 rfl (lv_at hl 0 rfl) ?_
              refine x_get (v := .ref (xz G + 58)) hC xf_X11_14 (xce_57 G kp _ _) rfl hR dX11_close_70 ?_
              refine lv_sipush (v := 192) hC.1 hC.2.1 dX11_close_73 (by decide) ?_
              refine lv_bipush (v := 12) hC.1 hC.2.1 dX11_close_76 (by decide) ?_
              refine lv_iload_n hC.1 hC.2.1 dX11_close_78 rfl (lv_at hl 2 rfl) ?_
              refine lv_imul hC.1 hC.2.1 dX11_close_79 ?_
              refine lv_iadd hC.1 hC.2.1 dX11_close_80 ?_
              refine lv_bipush (v := 8) hC.1 hC.2.1 dX11_close_81 (by decide) ?_
              refine lv_iadd hC.1 hC.2.1 dX11_close_83 ?_
              refine lv_iconst (v := 3) hC.1 hC.2.1 dX11_close_84 (by decide) ?_
              refine x_ias hC (fun f => (xce_58 G kp f _)) hR hS dX11_close_85 hf (fun I9 hf H locs hR hS => ?_)
              refine W.eq (g2 := F0 m 86 ls []) rfl ?_
              refine x_iinc (d := 1) (lv' := fun y10 => [(2, .int y10), (0, .ref (xz G + 57)), (1, .int x1)]) (k := 2) hC hl dX11_close_86 rfl (by decide) (Nat.le_of_ble_eq_true rfl) hf (fun _ => rfl) (fun y10 hf ls hl => ?_)
              refine lv_goto (tgt := 9) hC.1 hC.2.1 dX11_close_89 (by decide) ?_
              exact hk9 y10 I9 L8 hf _ _ _ hR hS (lv_sub hl [1, 2, 0] rfl)
            · refine lv_aload_n hC.1 hC.2.1 dX11_close_61 rfl (lv_at hl 0 rfl) ?_
              refine lv_iload_n hC.1 hC.2.1 dX11_close_62 rfl (lv_at hl 2 rfl) ?_
              refine x_cvv10 (rest := []) hC xy_X11_stand tw_1563 hf (fun _ h => M_X11_stand G l kp h) ⟨Nat.le_of_ble_eq_true rfl, Nat.le_of_ble_eq_true rfl⟩ (xce_57 G kp _ _) rfl rfl rfl (Nat.le_of_ble_eq_true rfl) hl.1 hR hS dX11_close_63 ⟨Nat.le_refl _, Nat.le_refl _⟩ (fun I11 hf H locs hR hS => ?_)
              refine lv_goto (tgt := 86) hC.1 hC.2.1 dX11_close_66 (by decide) ?_
              refine x_iinc (d := 1) (lv' := fun y12 => [(2, .int y12), (0, .ref (xz G + 57)), (1, .int x1)]) (k := 2) hC hl dX11_close_86 rfl (by decide) (Nat.le_of_ble_eq_true rfl) hf (fun _ => rfl) (fun y12 hf ls hl => ?_)
              refine lv_goto (tgt := 9) hC.1 hC.2.1 dX11_close_89 (by decide) ?_
              exact hk9 y12 I11 L8 hf _ _ _ hR hS (lv_sub hl [1, 2, 0] rfl)
          · refine lv_goto (tgt := 86) hC.1 hC.2.1 dX11_close_45 (by decide) ?_
            refine x_iinc (d := 1) (lv' := fun y13 => [(2, .int y13), (0, .ref (xz G + 57)), (1, .int x1)]) (k := 2) hC hl dX11_close_86 rfl (by decide) (Nat.le_of_ble_eq_true rfl) hf (fun _ => rfl) (fun y13 hf ls hl => ?_)
            refine lv_goto (tgt := 9) hC.1 hC.2.1 dX11_close_89 (by decide) ?_
            exact hk9 y13 I L hf _ _ _ hR hS (lv_sub hl [1, 2, 0] rfl)
set_option maxRecDepth 20000 in
theorem M_X11_close (G : XG) (l : Launch) (kp : Bool) (N : Nat) {I : xTI} {L : xTL} {rI : xTI} {rL : xTL} (hf : F_X11_close N I L = some (rI, rL)) : xMet G l yX11_close cX11_close 6 none 89 2135 kp [.ref (xz G + 57)] I L none rI rL := by
  refine xMet.ofW (by decide +kernel) (Nat.le_of_ble_eq_true rfl) ?_
  intro p e s m args below meth c hC H locs ls hR hS hl
  replace hC : xC G p s m args meth c cX11_close 6 RX11 none := hC
  replace hl : lv_has ls 6 [(0, .ref (xz G + 57))] := hl
  unfold F_X11_close at hf
  refine lv_aload_n hC.1 hC.2.1 dX11_close_0 rfl (lv_at hl 0 rfl) ?_
  refine x_get (v := .ref (xz G + 58)) hC xf_X11_14 (xce_57 G kp _ _) rfl hR dX11_close_1 ?_
  refine lv_iconst (v := 0) hC.1 hC.2.1 dX11_close_4 (by decide) ?_
  refine x_ial hC (xce_58 G kp _ _) hR dX11_close_5 hf (fun v1 hf => ?_)
  refine lv_istore_n (lv' := [(1, .int v1), (0, .ref (xz G + 57))]) hC.1 hC.2.1 dX11_close_6 rfl hl (Nat.le_of_ble_eq_true rfl) rfl (fun ls hl => ?_)
  refine lv_iconst (v := 0) hC.1 hC.2.1 dX11_close_7 (by decide) ?_
  refine lv_istore_n (lv' := [(2, .int 0), (1, .int v1), (0, .ref (xz G + 57))]) hC.1 hC.2.1 dX11_close_8 rfl hl (Nat.le_of_ble_eq_true rfl) rfl (fun ls hl => ?_)
  exact W_X11_close_l9 hC N _ 0 I L hf _ _ _ hR hS (lv_sub hl [2, 1, 0] rfl)
set_option maxRecDepth 20000 in
theorem W_X11_run_l56 {G : XG} {l : Launch} {kp : Bool} {p : Program} {e : Env} {s : State} {m : MethodId} {args : Array Value} {below : List Frame} {meth : Method} {c : Code} (hC : xC G p s m args meth c cX11_run 4 RX11 (some .int)) (N : Nat) {r : Int32} {rI : xTI} {rL : xTL} {x1 : Int32} {x2 : Int32} : ∀ (n : Nat) (x3 : Int32) (I : xTI) (L : xTL) , xlp (F_X11_run_b56 N x1 x2 ) n (x3, I, L) = some (r, rI, rL) → ∀ (H : Heap) (locs : List Loc) (ls : Array Slot), xRep G kp I L H → xS G s.heap H locs → lv_has ls 4 [(0, .ref (xz G + 57)), (1, .int x1), (2, .int x2), (3, .int x3)] → W p l e (xrm 90 2160) s m args below meth c H locs 0 0 (xMQ G kp below args s (some (.int r)) rI rL) (F0 m 56 ls []) := by
  intro n
  induction n with
  | zero =>
    intro x3 I L hf
    cases hf
  | succ n hk56 =>
    intro x3 I L hf H locs ls hR hS hl
    rw [xlp_s, E_X11_run_b56] at hf
    unfold F_X11_run_c56 at hf
    refine lv_iload_n hC.1 hC.2.1 dX11_run_56 rfl (lv_at hl 3 rfl) ?_
    refine lv_iload_n hC.1 hC.2.1 dX11_run_57 rfl (lv_at hl 1 rfl) ?_
    refine x_ic_ge (tgt := 71) hC dX11_run_58 (by decide) hf (fun hf => ?_) (fun hf => ?_)
    · refine lv_iload_n hC.1 hC.2.1 dX11_run_71 rfl (lv_at hl 2 rfl) ?_
      refine lv_aload_n hC.1 hC.2.1 dX11_run_72 rfl (lv_at hl 0 rfl) ?_
      refine x_cvi00 (rest := [.int x2]) hC xy_X11_menUp tw_1544 hf (fun _ h => M_X11_menUp G l kp N h) ⟨Nat.le_of_ble_eq_true rfl, Nat.le_of_ble_eq_true rfl⟩ (xce_57 G kp _ _) rfl rfl rfl (Nat.le_of_ble_eq_true rfl) hl.1 hR hS dX11_run_73 ⟨Nat.le_refl _, Nat.le_refl _⟩ (fun v1 hf H locs hR hS => ?_)
      refine lv_isub hC.1 hC.2.1 dX11_run_76 ?_
      obtain ⟨h91, h90⟩ := Prod.mk.inj (Option.some.inj hf)
      obtain ⟨h92, h93⟩ := Prod.mk.inj h90
      subst h91
      subst h92
      subst h93
      exact x_iret hC hR hS dX11_run_77
    · refine lv_aload_n hC.1 hC.2.1 dX11_run_61 rfl (lv_at hl 0 rfl) ?_
      refine x_cvv11 (rest := []) hC xy_X11_close tw_1618 hf (fun _ _ h => M_X11_close G l kp N h) ⟨Nat.le_of_ble_eq_true rfl, Nat.le_of_ble_eq_true rfl⟩ (xce_57 G kp _ _) rfl rfl rfl (Nat.le_of_ble_eq_true rfl) hl.1 hR hS dX11_run_62 ⟨Nat.le_refl _, Nat.le_refl _⟩ (fun I2 L3 hf H locs hR hS => ?_)
      refine x_iinc (d := 1) (lv' := fun y4 => [(3, .int y4), (0, .ref (xz G + 57)), (1, .int x1), (2, .int x2)]) (k := 3) hC hl dX11_run_65 rfl (by decide) (Nat.le_of_ble_eq_true rfl) hf (fun _ => rfl) (fun y4 hf ls hl => ?_)
      refine lv_goto (tgt := 56) hC.1 hC.2.1 dX11_run_68 (by decide) ?_
      exact hk56 y4 I2 L3 hf _ _ _ hR hS (lv_sub hl [1, 2, 3, 0] rfl)
set_option maxRecDepth 20000 in
theorem M_X11_run (G : XG) (l : Launch) (kp : Bool) (N : Nat) {I : xTI} {L : xTL} {x1 : Int32} {r : Int32} {rI : xTI} {rL : xTL} (hf : F_X11_run N I L x1 = some (r, rI, rL)) : xMet G l yX11_run cX11_run 4 (some .int) 90 2160 kp [.ref (xz G + 57), .int x1] I L (some (.int r)) rI rL := by
  refine xMet.ofW (by decide +kernel) (Nat.le_of_ble_eq_true rfl) ?_
  intro p e s m args below meth c hC H locs ls hR hS hl
  replace hC : xC G p s m args meth c cX11_run 4 RX11 (some .int) := hC
  replace hl : lv_has ls 4 [(0, .ref (xz G + 57)), (1, .int x1)] := hl
  unfold F_X11_run at hf
  refine lv_iload_n hC.1 hC.2.1 dX11_run_0 rfl (lv_at hl 1 rfl) ?_
  refine x_if_ge (tgt := 11) hC dX11_run_1 (by decide) hf (fun hf => ?_) (fun hf => ?_)
  · refine lv_iload_n hC.1 hC.2.1 dX11_run_11 rfl (lv_at hl 1 rfl) ?_
    refine lv_iconst (v := 1) hC.1 hC.2.1 dX11_run_12 (by decide) ?_
    refine lv_bipush (v := 28) hC.1 hC.2.1 dX11_run_13 (by decide) ?_
    refine x_csi00 (rest := []) hC xy_X11_in tw_1335 hf (fun _ h => M_X11_in G l kp h) ⟨Nat.le_of_ble_eq_true rfl, Nat.le_of_ble_eq_true rfl⟩ rfl rfl (Nat.le_of_ble_eq_true rfl) hl.1 hR hS dX11_run_15 ⟨Nat.le_refl _, Nat.le_refl _⟩ (fun v1 hf H locs hR hS => ?_)
    refine x_if_ne (tgt := 28) hC dX11_run_18 (by decide) hf (fun hf => ?_) (fun hf => ?_)
    · refine lv_aload_n hC.1 hC.2.1 dX11_run_28 rfl (lv_at hl 0 rfl) ?_
      refine x_get (v := .ref (xz G + 58)) hC xf_X11_14 (xce_57 G kp _ _) rfl hR dX11_run_29 ?_
      refine lv_iconst (v := 0) hC.1 hC.2.1 dX11_run_32 (by decide) ?_
      refine x_ial hC (xce_58 G kp _ _) hR dX11_run_33 hf (fun v2 hf => ?_)
      refine lv_iload_n hC.1 hC.2.1 dX11_run_34 rfl (lv_at hl 1 rfl) ?_
      refine lv_iadd hC.1 hC.2.1 dX11_run_35 ?_
      refine lv_sipush (v := 700) hC.1 hC.2.1 dX11_run_36 (by decide) ?_
      refine x_ic_le (tgt := 49) hC dX11_run_39 (by decide) hf (fun hf => ?_) (fun hf => ?_)
      · refine lv_aload_n hC.1 hC.2.1 dX11_run_49 rfl (lv_at hl 0 rfl) ?_
        refine x_cvi00 (rest := []) hC xy_X11_menUp tw_1544 hf (fun _ h => M_X11_menUp G l kp N h) ⟨Nat.le_of_ble_eq_true rfl, Nat.le_of_ble_eq_true rfl⟩ (xce_57 G kp _ _) rfl rfl rfl (Nat.le_of_ble_eq_true rfl) hl.1 hR hS dX11_run_50 ⟨Nat.le_refl _, Nat.le_refl _⟩ (fun v3 hf H locs hR hS => ?_)
        refine lv_istore_n (lv' := [(2, .int v3), (0, .ref (xz G + 57)), (1, .int x1)]) hC.1 hC.2.1 dX11_run_53 rfl hl (Nat.le_of_ble_eq_true rfl) rfl (fun ls hl => ?_)
        refine lv_iconst (v := 0) hC.1 hC.2.1 dX11_run_54 (by decide) ?_
        refine lv_istore_n (lv' := [(3, .int 0), (2, .int v3), (0, .ref (xz G + 57)), (1, .int x1)]) hC.1 hC.2.1 dX11_run_55 rfl hl (Nat.le_of_ble_eq_true rfl) rfl (fun ls hl => ?_)
        exact W_X11_run_l56 hC N _ 0 I L hf _ _ _ hR hS (lv_sub hl [2, 3, 1, 0] rfl)
      · refine lv_aload_n hC.1 hC.2.1 dX11_run_42 rfl (lv_at hl 0 rfl) ?_
        refine lv_bipush (v := (-8)) hC.1 hC.2.1 dX11_run_43 (by decide) ?_
        refine x_cvi10 (rest := []) hC xy_X11_refuse tw_1338 hf (fun _ _ h => M_X11_refuse G l kp h) ⟨Nat.le_of_ble_eq_true rfl, Nat.le_of_ble_eq_true rfl⟩ (xce_57 G kp _ _) rfl rfl rfl (Nat.le_of_ble_eq_true rfl) hl.1 hR hS dX11_run_45 ⟨Nat.le_refl _, Nat.le_refl _⟩ (fun v4 I5 hf H locs hR hS => ?_)
        obtain ⟨h91, h90⟩ := Prod.mk.inj (Option.some.inj hf)
        obtain ⟨h92, h93⟩ := Prod.mk.inj h90
        subst h91
        subst h92
        subst h93
        exact x_iret hC hR hS dX11_run_48
    · refine lv_aload_n hC.1 hC.2.1 dX11_run_21 rfl (lv_at hl 0 rfl) ?_
      refine lv_bipush (v := (-7)) hC.1 hC.2.1 dX11_run_22 (by decide) ?_
      refine x_cvi10 (rest := []) hC xy_X11_refuse tw_1338 hf (fun _ _ h => M_X11_refuse G l kp h) ⟨Nat.le_of_ble_eq_true rfl, Nat.le_of_ble_eq_true rfl⟩ (xce_57 G kp _ _) rfl rfl rfl (Nat.le_of_ble_eq_true rfl) hl.1 hR hS dX11_run_24 ⟨Nat.le_refl _, Nat.le_refl _⟩ (fun v6 I7 hf H locs hR hS => ?_)
      obtain ⟨h91, h90⟩ := Prod.mk.inj (Option.some.inj hf)
      obtain ⟨h92, h93⟩ := Prod.mk.inj h90
      subst h91
      subst h92
      subst h93
      exact x_iret hC hR hS dX11_run_27
  · refine lv_aload_n hC.1 hC.2.1 dX11_run_4 rfl (lv_at hl 0 rfl) ?_
    refine lv_bipush (v := (-4)) hC.1 hC.2.1 dX11_run_5 (by decide) ?_
    refine x_cvi10 (rest := []) hC xy_X11_refuse tw_1338 hf (fun _ _ h => M_X11_refuse G l kp h) ⟨Nat.le_of_ble_eq_true rfl, Nat.le_of_ble_eq_true rfl⟩ (xce_57 G kp _ _) rfl rfl rfl (Nat.le_of_ble_eq_true rfl) hl.1 hR hS dX11_run_7 ⟨Nat.le_refl _, Nat.le_refl _⟩ (fun v8 I9 hf H locs hR hS => ?_)
    obtain ⟨h91, h90⟩ := Prod.mk.inj (Option.some.inj hf)
    obtain ⟨h92, h93⟩ := Prod.mk.inj h90
    subst h91
    subst h92
    subst h93
    exact x_iret hC hR hS dX11_run_10
set_option maxRecDepth 20000 in
theorem W_X11_pass_j39 {G : XG} {l : Launch} {kp : Bool} {p : Program} {e : Env} {s : State} {m : MethodId} {args : Array Value} {below : List Frame} {meth : Method} {c : Code} (hC : xC G p s m args meth c cX11_pass 3 RX11 (some .int)) {I : xTI} {L : xTL} {r : Int32} {rI : xTI} (hf : F_X11_pass_j39 I = some (r, rI)) : ∀ (H : Heap) (locs : List Loc) (ls : Array Slot), xRep G kp I L H → xS G s.heap H locs → lv_has ls 3 [(0, .ref (xz G + 57))] → W p l e (xrm 1 22) s m args below meth c H locs 0 0 (xMQ G kp below args s (some (.int r)) rI L) (F0 m 39 ls []) := by
  intro H locs ls hR hS hl
  unfold F_X11_pass_j39 at hf
  refine lv_aload_n hC.1 hC.2.1 dX11_pass_39 rfl (lv_at hl 0 rfl) ?_
  refine lv_bipush (v := (-3)) hC.1 hC.2.1 dX11_pass_40 (by decide) ?_
  refine x_cvi10 (rest := []) hC xy_X11_refuse tw_1338 hf (fun _ _ h => M_X11_refuse G l kp h) ⟨Nat.le_of_ble_eq_true rfl, Nat.le_of_ble_eq_true rfl⟩ (xce_57 G kp _ _) rfl rfl rfl (Nat.le_of_ble_eq_true rfl) hl.1 hR hS dX11_pass_42 ⟨Nat.le_refl _, Nat.le_refl _⟩ (fun v1 I2 hf H locs hR hS => ?_)
  obtain ⟨h91, h92⟩ := Prod.mk.inj (Option.some.inj hf)
  subst h91
  subst h92
  exact x_iret hC hR hS dX11_pass_45
set_option maxRecDepth 20000 in
theorem M_X11_pass (G : XG) (l : Launch) (kp : Bool) {I : xTI} {L : xTL} {x1 : Int32} {x2 : Int32} {r : Int32} {rI : xTI} (hf : F_X11_pass I x1 x2 = some (r, rI)) : xMet G l yX11_pass cX11_pass 3 (some .int) 1 22 kp [.ref (xz G + 57), .int x1, .int x2] I L (some (.int r)) rI L := by
  refine xMet.ofW (by decide +kernel) (Nat.le_of_ble_eq_true rfl) ?_
  intro p e s m args below meth c hC H locs ls hR hS hl
  replace hC : xC G p s m args meth c cX11_pass 3 RX11 (some .int) := hC
  replace hl : lv_has ls 3 [(0, .ref (xz G + 57)), (1, .int x1), (2, .int x2)] := hl
  unfold F_X11_pass at hf
  refine lv_aload_n hC.1 hC.2.1 dX11_pass_0 rfl (lv_at hl 0 rfl) ?_
  refine x_get (v := .ref (xz G + 58)) hC xf_X11_14 (xce_57 G kp _ _) rfl hR dX11_pass_1 ?_
  refine lv_bipush (v := 8) hC.1 hC.2.1 dX11_pass_4 (by decide) ?_
  refine x_ial hC (xce_58 G kp _ _) hR dX11_pass_6 hf (fun v1 hf => ?_)
  refine x_if_ne (tgt := 17) hC dX11_pass_7 (by decide) hf (fun hf => ?_) (fun hf => ?_)
  · refine lv_iload_n hC.1 hC.2.1 dX11_pass_17 rfl (lv_at hl 1 rfl) ?_
    refine x_if_lt (tgt := 39) hC dX11_pass_18 (by decide) hf (fun hf => ?_) (fun hf => ?_)
    · exact W_X11_pass_j39 hC hf _ _ _ hR hS (lv_sub hl [0] rfl)
    · refine lv_iload_n hC.1 hC.2.1 dX11_pass_21 rfl (lv_at hl 1 rfl) ?_
      refine lv_aload_n hC.1 hC.2.1 dX11_pass_22 rfl (lv_at hl 0 rfl) ?_
      refine x_get (v := .ref (xz G + 58)) hC xf_X11_14 (xce_57 G kp _ _) rfl hR dX11_pass_23 ?_
      refine lv_bipush (v := 6) hC.1 hC.2.1 dX11_pass_26 (by decide) ?_
      refine x_ial hC (xce_58 G kp _ _) hR dX11_pass_28 hf (fun v2 hf => ?_)
      refine x_ic_ge (tgt := 39) hC dX11_pass_29 (by decide) hf (fun hf => ?_) (fun hf => ?_)
      · exact W_X11_pass_j39 hC hf _ _ _ hR hS (lv_sub hl [0] rfl)
      · refine lv_iload_n hC.1 hC.2.1 dX11_pass_32 rfl (lv_at hl 1 rfl) ?_
        refine lv_sipush (v := 300) hC.1 hC.2.1 dX11_pass_33 (by decide) ?_
        refine x_ic_lt (tgt := 46) hC dX11_pass_36 (by decide) hf (fun hf => ?_) (fun hf => ?_)
        · refine lv_iload_n hC.1 hC.2.1 dX11_pass_46 rfl (lv_at hl 2 rfl) ?_
          refine lv_iconst (v := 0) hC.1 hC.2.1 dX11_pass_47 (by decide) ?_
          refine lv_bipush (v := 6) hC.1 hC.2.1 dX11_pass_48 (by decide) ?_
          refine x_csi00 (rest := []) hC xy_X11_in tw_1335 hf (fun _ h => M_X11_in G l kp h) ⟨Nat.le_of_ble_eq_true rfl, Nat.le_of_ble_eq_true rfl⟩ rfl rfl (Nat.le_of_ble_eq_true rfl) hl.1 hR hS dX11_pass_50 ⟨Nat.le_refl _, Nat.le_refl _⟩ (fun v3 hf H locs hR hS => ?_)
          refine x_if_eq (tgt := 74) hC dX11_pass_53 (by decide) hf (fun hf => ?_) (fun hf => ?_)
          · refine lv_aload_n hC.1 hC.2.1 dX11_pass_74 rfl (lv_at hl 0 rfl) ?_
            refine lv_bipush (v := (-7)) hC.1 hC.2.1 dX11_pass_75 (by decide) ?_
            refine x_cvi10 (rest := []) hC xy_X11_refuse tw_1338 hf (fun _ _ h => M_X11_refuse G l kp h) ⟨Nat.le_of_ble_eq_true rfl, Nat.le_of_ble_eq_true rfl⟩ (xce_57 G kp _ _) rfl rfl rfl (Nat.le_of_ble_eq_true rfl) hl.1 hR hS dX11_pass_77 ⟨Nat.le_refl _, Nat.le_refl _⟩ (fun v4 I5 hf H locs hR hS => ?_)
            obtain ⟨h91, h92⟩ := Prod.mk.inj (Option.some.inj hf)
            subst h91
            subst h92
            exact x_iret hC hR hS dX11_pass_80
          · refine lv_aload_n hC.1 hC.2.1 dX11_pass_56 rfl (lv_at hl 0 rfl) ?_
            refine x_get (v := .ref (xz G + 58)) hC xf_X11_14 (xce_57 G kp _ _) rfl hR dX11_pass_57 ?_
            refine lv_sipush (v := 2570) hC.1 hC.2.1 dX11_pass_60 (by decide) ?_
            refine lv_bipush (v := 7) hC.1 hC.2.1 dX11_pass_63 (by decide) ?_
            refine lv_iload_n hC.1 hC.2.1 dX11_pass_65 rfl (lv_at hl 1 rfl) ?_
            refine lv_imul hC.1 hC.2.1 dX11_pass_66 ?_
            refine lv_iadd hC.1 hC.2.1 dX11_pass_67 ?_
            refine lv_iload_n hC.1 hC.2.1 dX11_pass_68 rfl (lv_at hl 2 rfl) ?_
            refine lv_iadd hC.1 hC.2.1 dX11_pass_69 ?_
            refine x_ial hC (xce_58 G kp _ _) hR dX11_pass_70 hf (fun v6 hf => ?_)
            refine lv_goto (tgt := 80) hC.1 hC.2.1 dX11_pass_71 (by decide) ?_
            refine W.eq (g2 := F0 m 80 ls [.int v6]) rfl ?_
            obtain ⟨h91, h92⟩ := Prod.mk.inj (Option.some.inj hf)
            subst h91
            subst h92
            exact x_iret hC hR hS dX11_pass_80
        · exact W_X11_pass_j39 hC hf _ _ _ hR hS (lv_sub hl [0] rfl)
  · refine lv_aload_n hC.1 hC.2.1 dX11_pass_10 rfl (lv_at hl 0 rfl) ?_
    refine lv_bipush (v := (-2)) hC.1 hC.2.1 dX11_pass_11 (by decide) ?_
    refine x_cvi10 (rest := []) hC xy_X11_refuse tw_1338 hf (fun _ _ h => M_X11_refuse G l kp h) ⟨Nat.le_of_ble_eq_true rfl, Nat.le_of_ble_eq_true rfl⟩ (xce_57 G kp _ _) rfl rfl rfl (Nat.le_of_ble_eq_true rfl) hl.1 hR hS dX11_pass_13 ⟨Nat.le_refl _, Nat.le_refl _⟩ (fun v7 I8 hf H locs hR hS => ?_)
    obtain ⟨h91, h92⟩ := Prod.mk.inj (Option.some.inj hf)
    subst h91
    subst h92
    exact x_iret hC hR hS dX11_pass_16
set_option maxRecDepth 20000 in
theorem W_X11_delivery_j39 {G : XG} {l : Launch} {kp : Bool} {p : Program} {e : Env} {s : State} {m : MethodId} {args : Array Value} {below : List Frame} {meth : Method} {c : Code} (hC : xC G p s m args meth c cX11_delivery 3 RX11 (some .int)) {I : xTI} {L : xTL} {r : Int32} {rI : xTI} (hf : F_X11_delivery_j39 I = some (r, rI)) : ∀ (H : Heap) (locs : List Loc) (ls : Array Slot), xRep G kp I L H → xS G s.heap H locs → lv_has ls 3 [(0, .ref (xz G + 57))] → W p l e (xrm 1 22) s m args below meth c H locs 0 0 (xMQ G kp below args s (some (.int r)) rI L) (F0 m 39 ls []) := by
  intro H locs ls hR hS hl
  unfold F_X11_delivery_j39 at hf
  refine lv_aload_n hC.1 hC.2.1 dX11_delivery_39 rfl (lv_at hl 0 rfl) ?_
  refine lv_bipush (v := (-3)) hC.1 hC.2.1 dX11_delivery_40 (by decide) ?_
  refine x_cvi10 (rest := []) hC xy_X11_refuse tw_1338 hf (fun _ _ h => M_X11_refuse G l kp h) ⟨Nat.le_of_ble_eq_true rfl, Nat.le_of_ble_eq_true rfl⟩ (xce_57 G kp _ _) rfl rfl rfl (Nat.le_of_ble_eq_true rfl) hl.1 hR hS dX11_delivery_42 ⟨Nat.le_refl _, Nat.le_refl _⟩ (fun v1 I2 hf H locs hR hS => ?_)
  obtain ⟨h91, h92⟩ := Prod.mk.inj (Option.some.inj hf)
  subst h91
  subst h92
  exact x_iret hC hR hS dX11_delivery_45
set_option maxRecDepth 20000 in
theorem M_X11_delivery (G : XG) (l : Launch) (kp : Bool) {I : xTI} {L : xTL} {x1 : Int32} {x2 : Int32} {r : Int32} {rI : xTI} (hf : F_X11_delivery I x1 x2 = some (r, rI)) : xMet G l yX11_delivery cX11_delivery 3 (some .int) 1 22 kp [.ref (xz G + 57), .int x1, .int x2] I L (some (.int r)) rI L := by
  refine xMet.ofW (by decide +kernel) (Nat.le_of_ble_eq_true rfl) ?_
  intro p e s m args below meth c hC H locs ls hR hS hl
  replace hC : xC G p s m args meth c cX11_delivery 3 RX11 (some .int) := hC
  replace hl : lv_has ls 3 [(0, .ref (xz G + 57)), (1, .int x1), (2, .int x2)] := hl
  unfold F_X11_delivery at hf
  refine lv_aload_n hC.1 hC.2.1 dX11_delivery_0 rfl (lv_at hl 0 rfl) ?_
  refine x_get (v := .ref (xz G + 58)) hC xf_X11_14 (xce_57 G kp _ _) rfl hR dX11_delivery_1 ?_
  refine lv_bipush (v := 8) hC.1 hC.2.1 dX11_delivery_4 (by decide) ?_
  refine x_ial hC (xce_58 G kp _ _) hR dX11_delivery_6 hf (fun v1 hf => ?_)
  refine x_if_ne (tgt := 17) hC dX11_delivery_7 (by decide) hf (fun hf => ?_) (fun hf => ?_)
  · refine lv_iload_n hC.1 hC.2.1 dX11_delivery_17 rfl (lv_at hl 1 rfl) ?_
    refine x_if_lt (tgt := 39) hC dX11_delivery_18 (by decide) hf (fun hf => ?_) (fun hf => ?_)
    · exact W_X11_delivery_j39 hC hf _ _ _ hR hS (lv_sub hl [0] rfl)
    · refine lv_iload_n hC.1 hC.2.1 dX11_delivery_21 rfl (lv_at hl 1 rfl) ?_
      refine lv_aload_n hC.1 hC.2.1 dX11_delivery_22 rfl (lv_at hl 0 rfl) ?_
      refine x_get (v := .ref (xz G + 58)) hC xf_X11_14 (xce_57 G kp _ _) rfl hR dX11_delivery_23 ?_
      refine lv_bipush (v := 7) hC.1 hC.2.1 dX11_delivery_26 (by decide) ?_
      refine x_ial hC (xce_58 G kp _ _) hR dX11_delivery_28 hf (fun v2 hf => ?_)
      refine x_ic_ge (tgt := 39) hC dX11_delivery_29 (by decide) hf (fun hf => ?_) (fun hf => ?_)
      · exact W_X11_delivery_j39 hC hf _ _ _ hR hS (lv_sub hl [0] rfl)
      · refine lv_iload_n hC.1 hC.2.1 dX11_delivery_32 rfl (lv_at hl 1 rfl) ?_
        refine lv_sipush (v := 200) hC.1 hC.2.1 dX11_delivery_33 (by decide) ?_
        refine x_ic_lt (tgt := 46) hC dX11_delivery_36 (by decide) hf (fun hf => ?_) (fun hf => ?_)
        · refine lv_iload_n hC.1 hC.2.1 dX11_delivery_46 rfl (lv_at hl 2 rfl) ?_
          refine lv_iconst (v := 0) hC.1 hC.2.1 dX11_delivery_47 (by decide) ?_
          refine lv_iconst (v := 5) hC.1 hC.2.1 dX11_delivery_48 (by decide) ?_
          refine x_csi00 (rest := []) hC xy_X11_in tw_1335 hf (fun _ h => M_X11_in G l kp h) ⟨Nat.le_of_ble_eq_true rfl, Nat.le_of_ble_eq_true rfl⟩ rfl rfl (Nat.le_of_ble_eq_true rfl) hl.1 hR hS dX11_delivery_49 ⟨Nat.le_refl _, Nat.le_refl _⟩ (fun v3 hf H locs hR hS => ?_)
          refine x_if_eq (tgt := 73) hC dX11_delivery_52 (by decide) hf (fun hf => ?_) (fun hf => ?_)
          · refine lv_aload_n hC.1 hC.2.1 dX11_delivery_73 rfl (lv_at hl 0 rfl) ?_
            refine lv_bipush (v := (-7)) hC.1 hC.2.1 dX11_delivery_74 (by decide) ?_
            refine x_cvi10 (rest := []) hC xy_X11_refuse tw_1338 hf (fun _ _ h => M_X11_refuse G l kp h) ⟨Nat.le_of_ble_eq_true rfl, Nat.le_of_ble_eq_true rfl⟩ (xce_57 G kp _ _) rfl rfl rfl (Nat.le_of_ble_eq_true rfl) hl.1 hR hS dX11_delivery_76 ⟨Nat.le_refl _, Nat.le_refl _⟩ (fun v4 I5 hf H locs hR hS => ?_)
            obtain ⟨h91, h92⟩ := Prod.mk.inj (Option.some.inj hf)
            subst h91
            subst h92
            exact x_iret hC hR hS dX11_delivery_79
          · refine lv_aload_n hC.1 hC.2.1 dX11_delivery_55 rfl (lv_at hl 0 rfl) ?_
            refine x_get (v := .ref (xz G + 58)) hC xf_X11_14 (xce_57 G kp _ _) rfl hR dX11_delivery_56 ?_
            refine lv_sipush (v := 4670) hC.1 hC.2.1 dX11_delivery_59 (by decide) ?_
            refine lv_bipush (v := 6) hC.1 hC.2.1 dX11_delivery_62 (by decide) ?_
            refine lv_iload_n hC.1 hC.2.1 dX11_delivery_64 rfl (lv_at hl 1 rfl) ?_
            refine lv_imul hC.1 hC.2.1 dX11_delivery_65 ?_
            refine lv_iadd hC.1 hC.2.1 dX11_delivery_66 ?_
            refine lv_iload_n hC.1 hC.2.1 dX11_delivery_67 rfl (lv_at hl 2 rfl) ?_
            refine lv_iadd hC.1 hC.2.1 dX11_delivery_68 ?_
            refine x_ial hC (xce_58 G kp _ _) hR dX11_delivery_69 hf (fun v6 hf => ?_)
            refine lv_goto (tgt := 79) hC.1 hC.2.1 dX11_delivery_70 (by decide) ?_
            refine W.eq (g2 := F0 m 79 ls [.int v6]) rfl ?_
            obtain ⟨h91, h92⟩ := Prod.mk.inj (Option.some.inj hf)
            subst h91
            subst h92
            exact x_iret hC hR hS dX11_delivery_79
        · exact W_X11_delivery_j39 hC hf _ _ _ hR hS (lv_sub hl [0] rfl)
  · refine lv_aload_n hC.1 hC.2.1 dX11_delivery_10 rfl (lv_at hl 0 rfl) ?_
    refine lv_bipush (v := (-2)) hC.1 hC.2.1 dX11_delivery_11 (by decide) ?_
    refine x_cvi10 (rest := []) hC xy_X11_refuse tw_1338 hf (fun _ _ h => M_X11_refuse G l kp h) ⟨Nat.le_of_ble_eq_true rfl, Nat.le_of_ble_eq_true rfl⟩ (xce_57 G kp _ _) rfl rfl rfl (Nat.le_of_ble_eq_true rfl) hl.1 hR hS dX11_delivery_13 ⟨Nat.le_refl _, Nat.le_refl _⟩ (fun v7 I8 hf H locs hR hS => ?_)
    obtain ⟨h91, h92⟩ := Prod.mk.inj (Option.some.inj hf)
    subst h91
    subst h92
    exact x_iret hC hR hS dX11_delivery_16
set_option maxRecDepth 20000 in
theorem M_X11_settled (G : XG) (l : Launch) (kp : Bool) {I : xTI} {L : xTL} {x1 : Int32} {x2 : Int32} {r : Int64} {rI : xTI} (hf : F_X11_settled I L x1 x2 = some (r, rI)) : xMet G l yX11_settled cX11_settled 3 (some .long) 2 43 kp [.ref (xz G + 57), .int x1, .int x2] I L (some (.long r)) rI L := by
  refine xMet.ofW (by decide +kernel) (Nat.le_of_ble_eq_true rfl) ?_
  intro p e s m args below meth c hC H locs ls hR hS hl
  replace hC : xC G p s m args meth c cX11_settled 3 RX11 (some .long) := hC
  replace hl : lv_has ls 3 [(0, .ref (xz G + 57)), (1, .int x1), (2, .int x2)] := hl
  unfold F_X11_settled at hf
  refine lv_aload_n hC.1 hC.2.1 dX11_settled_0 rfl (lv_at hl 0 rfl) ?_
  refine x_get (v := .ref (xz G + 58)) hC xf_X11_14 (xce_57 G kp _ _) rfl hR dX11_settled_1 ?_
  refine lv_bipush (v := 9) hC.1 hC.2.1 dX11_settled_4 (by decide) ?_
  refine x_ial hC (xce_58 G kp _ _) hR dX11_settled_6 hf (fun v1 hf => ?_)
  refine x_if_ne (tgt := 18) hC dX11_settled_7 (by decide) hf (fun hf => ?_) (fun hf => ?_)
  · refine lv_aload_n hC.1 hC.2.1 dX11_settled_18 rfl (lv_at hl 0 rfl) ?_
    refine lv_iload_n hC.1 hC.2.1 dX11_settled_19 rfl (lv_at hl 1 rfl) ?_
    refine x_cvi00 (rest := []) hC xy_X11_isMan tw_1355 hf (fun _ h => M_X11_isMan G l kp h) ⟨Nat.le_of_ble_eq_true rfl, Nat.le_of_ble_eq_true rfl⟩ (xce_57 G kp _ _) rfl rfl rfl (Nat.le_of_ble_eq_true rfl) hl.1 hR hS dX11_settled_20 ⟨Nat.le_refl _, Nat.le_refl _⟩ (fun v2 hf H locs hR hS => ?_)
    refine x_if_ne (tgt := 34) hC dX11_settled_23 (by decide) hf (fun hf => ?_) (fun hf => ?_)
    · refine lv_iload_n hC.1 hC.2.1 dX11_settled_34 rfl (lv_at hl 2 rfl) ?_
      refine lv_iconst (v := 0) hC.1 hC.2.1 dX11_settled_35 (by decide) ?_
      refine lv_iconst (v := 4) hC.1 hC.2.1 dX11_settled_36 (by decide) ?_
      refine x_csi00 (rest := []) hC xy_X11_in tw_1335 hf (fun _ h => M_X11_in G l kp h) ⟨Nat.le_of_ble_eq_true rfl, Nat.le_of_ble_eq_true rfl⟩ rfl rfl (Nat.le_of_ble_eq_true rfl) hl.1 hR hS dX11_settled_37 ⟨Nat.le_refl _, Nat.le_refl _⟩ (fun v3 hf H locs hR hS => ?_)
      refine x_if_ne (tgt := 51) hC dX11_settled_40 (by decide) hf (fun hf => ?_) (fun hf => ?_)
      · refine lv_iload_n hC.1 hC.2.1 dX11_settled_51 rfl (lv_at hl 2 rfl) ?_
        refine lv_iconst (v := 4) hC.1 hC.2.1 dX11_settled_52 (by decide) ?_
        refine x_ic_ne (tgt := 73) hC dX11_settled_53 (by decide) hf (fun hf => ?_) (fun hf => ?_)
        · refine lv_aload_n hC.1 hC.2.1 dX11_settled_73 rfl (lv_at hl 0 rfl) ?_
          refine x_get (v := .ref (xz G + 59)) hC xf_X11_18 (xce_57 G kp _ _) rfl hR dX11_settled_74 ?_
          refine lv_sipush (v := 168) hC.1 hC.2.1 dX11_settled_77 (by decide) ?_
          refine lv_iconst (v := 4) hC.1 hC.2.1 dX11_settled_80 (by decide) ?_
          refine lv_iload_n hC.1 hC.2.1 dX11_settled_81 rfl (lv_at hl 1 rfl) ?_
          refine lv_imul hC.1 hC.2.1 dX11_settled_82 ?_
          refine lv_iadd hC.1 hC.2.1 dX11_settled_83 ?_
          refine lv_iload_n hC.1 hC.2.1 dX11_settled_84 rfl (lv_at hl 2 rfl) ?_
          refine lv_iadd hC.1 hC.2.1 dX11_settled_85 ?_
          refine x_lal hC (xce_59 G kp _ _) hR dX11_settled_86 hf (fun v4 hf => ?_)
          obtain ⟨h91, h92⟩ := Prod.mk.inj (Option.some.inj hf)
          subst h91
          subst h92
          exact x_lret hC hR hS dX11_settled_87
        · refine lv_aload_n hC.1 hC.2.1 dX11_settled_56 rfl (lv_at hl 0 rfl) ?_
          refine x_get (v := .ref (xz G + 58)) hC xf_X11_14 (xce_57 G kp _ _) rfl hR dX11_settled_57 ?_
          refine lv_bipush (v := 16) hC.1 hC.2.1 dX11_settled_60 (by decide) ?_
          refine lv_iconst (v := 4) hC.1 hC.2.1 dX11_settled_62 (by decide) ?_
          refine lv_iload_n hC.1 hC.2.1 dX11_settled_63 rfl (lv_at hl 1 rfl) ?_
          refine lv_imul hC.1 hC.2.1 dX11_settled_64 ?_
          refine lv_iadd hC.1 hC.2.1 dX11_settled_65 ?_
          refine lv_iconst (v := 3) hC.1 hC.2.1 dX11_settled_66 (by decide) ?_
          refine lv_iadd hC.1 hC.2.1 dX11_settled_67 ?_
          refine x_ial hC (xce_58 G kp _ _) hR dX11_settled_68 hf (fun v5 hf => ?_)
          refine lv_i2l hC.1 hC.2.1 dX11_settled_69 rfl ?_
          refine W.eq (g2 := F0 m 70 ls [.long (v5.toInt64)]) rfl ?_
          refine lv_goto (tgt := 87) hC.1 hC.2.1 dX11_settled_70 (by decide) ?_
          obtain ⟨h91, h92⟩ := Prod.mk.inj (Option.some.inj hf)
          subst h91
          subst h92
          exact x_lret hC hR hS dX11_settled_87
      · refine lv_aload_n hC.1 hC.2.1 dX11_settled_43 rfl (lv_at hl 0 rfl) ?_
        refine lv_bipush (v := (-7)) hC.1 hC.2.1 dX11_settled_44 (by decide) ?_
        refine x_cvi10 (rest := []) hC xy_X11_hush tw_1391 hf (fun _ _ h => M_X11_hush G l kp h) ⟨Nat.le_of_ble_eq_true rfl, Nat.le_of_ble_eq_true rfl⟩ (xce_57 G kp _ _) rfl rfl rfl (Nat.le_of_ble_eq_true rfl) hl.1 hR hS dX11_settled_46 ⟨Nat.le_refl _, Nat.le_refl _⟩ (fun v6 I7 hf H locs hR hS => ?_)
        refine lv_i2l hC.1 hC.2.1 dX11_settled_49 rfl ?_
        obtain ⟨h91, h92⟩ := Prod.mk.inj (Option.some.inj hf)
        subst h91
        subst h92
        exact x_lret hC hR hS dX11_settled_50
    · refine lv_aload_n hC.1 hC.2.1 dX11_settled_26 rfl (lv_at hl 0 rfl) ?_
      refine lv_bipush (v := (-3)) hC.1 hC.2.1 dX11_settled_27 (by decide) ?_
      refine x_cvi10 (rest := []) hC xy_X11_hush tw_1391 hf (fun _ _ h => M_X11_hush G l kp h) ⟨Nat.le_of_ble_eq_true rfl, Nat.le_of_ble_eq_true rfl⟩ (xce_57 G kp _ _) rfl rfl rfl (Nat.le_of_ble_eq_true rfl) hl.1 hR hS dX11_settled_29 ⟨Nat.le_refl _, Nat.le_refl _⟩ (fun v8 I9 hf H locs hR hS => ?_)
      refine lv_i2l hC.1 hC.2.1 dX11_settled_32 rfl ?_
      obtain ⟨h91, h92⟩ := Prod.mk.inj (Option.some.inj hf)
      subst h91
      subst h92
      exact x_lret hC hR hS dX11_settled_33
  · refine lv_aload_n hC.1 hC.2.1 dX11_settled_10 rfl (lv_at hl 0 rfl) ?_
    refine lv_bipush (v := (-2)) hC.1 hC.2.1 dX11_settled_11 (by decide) ?_
    refine x_cvi10 (rest := []) hC xy_X11_hush tw_1391 hf (fun _ _ h => M_X11_hush G l kp h) ⟨Nat.le_of_ble_eq_true rfl, Nat.le_of_ble_eq_true rfl⟩ (xce_57 G kp _ _) rfl rfl rfl (Nat.le_of_ble_eq_true rfl) hl.1 hR hS dX11_settled_13 ⟨Nat.le_refl _, Nat.le_refl _⟩ (fun v10 I11 hf H locs hR hS => ?_)
    refine lv_i2l hC.1 hC.2.1 dX11_settled_16 rfl ?_
    obtain ⟨h91, h92⟩ := Prod.mk.inj (Option.some.inj hf)
    subst h91
    subst h92
    exact x_lret hC hR hS dX11_settled_17
set_option maxRecDepth 20000 in
theorem W_X11_least_j273 {G : XG} {l : Launch} {kp : Bool} {p : Program} {e : Env} {s : State} {m : MethodId} {args : Array Value} {below : List Frame} {meth : Method} {c : Code} (hC : xC G p s m args meth c cX11_least 7 RX11 (some .int)) (N : Nat) {I : xTI} {L : xTL} {r : Int32} {rI : xTI} {x3 : Int32} {x4 : Int32} {t1 : Int32} {t2 : Int32} {t3 : Int32} (k117 : Int32 × xTI → Option (Int32 × xTI)) (hk117 : ∀ (x4 : Int32) (I : xTI) , k117 (x4, I) = some (r, rI) → ∀ (H : Heap) (locs : List Loc) (ls : Array Slot), xRep G kp I L H → xS G s.heap H locs → lv_has ls 7 [(0, .ref (xz G + 57)), (3, .int x3), (4, .int x4)] → W p l e (xrm 3 68) s m args below meth c H locs 0 0 (xMQ G kp below args s (some (.int r)) rI L) (F0 m 117 ls [])) (hf : F_X11_least_j273 k117 N I x3 x4 t1 t2 t3 = some (r, rI)) : ∀ (H : Heap) (locs : List Loc) (ls : Array Slot), xRep G kp I L H → xS G s.heap H locs → lv_has ls 7 [(0, .ref (xz G + 57)), (3, .int x3), (4, .int x4)] → W p l e (xrm 3 68) s m args below meth c H locs 0 0 (xMQ G kp below args s (some (.int r)) rI L) (F0 m 273 ls [.int t3, .int t2, .int t1, .ref (xz G + 80)]) := by
  intro H locs ls hR hS hl
  unfold F_X11_least_j273 at hf
  refine lv_iadd hC.1 hC.2.1 dX11_least_273 ?_
  refine x_ias hC (fun f => (xce_80 G kp f _)) hR hS dX11_least_274 hf (fun I1 hf H locs hR hS => ?_)
  refine x_iinc (d := 1) (lv' := fun y2 => [(4, .int y2), (0, .ref (xz G + 57)), (3, .int x3)]) (k := 2) hC hl dX11_least_275 rfl (by decide) (Nat.le_of_ble_eq_true rfl) hf (fun _ => rfl) (fun y2 hf ls hl => ?_)
  refine lv_goto (tgt := 117) hC.1 hC.2.1 dX11_least_278 (by decide) ?_
  exact hk117 y2 I1 hf _ _ _ hR hS (lv_sub hl [1, 2, 0] rfl)
set_option maxRecDepth 20000 in
theorem W_X11_least_l182 {G : XG} {l : Launch} {kp : Bool} {p : Program} {e : Env} {s : State} {m : MethodId} {args : Array Value} {below : List Frame} {meth : Method} {c : Code} (hC : xC G p s m args meth c cX11_least 7 RX11 (some .int)) (N : Nat) {L : xTL} {r : Int32} {rI : xTI} {x3 : Int32} {x4 : Int32} (k117 : Int32 × xTI → Option (Int32 × xTI)) (hk117 : ∀ (x4 : Int32) (I : xTI) , k117 (x4, I) = some (r, rI) → ∀ (H : Heap) (locs : List Loc) (ls : Array Slot), xRep G kp I L H → xS G s.heap H locs → lv_has ls 7 [(0, .ref (xz G + 57)), (3, .int x3), (4, .int x4)] → W p l e (xrm 3 68) s m args below meth c H locs 0 0 (xMQ G kp below args s (some (.int r)) rI L) (F0 m 117 ls [])) : ∀ (n : Nat) (x6 : Int32) (I : xTI) , xlp (F_X11_least_b182 k117 N x3 x4 ) n (x6, I) = some (r, rI) → ∀ (H : Heap) (locs : List Loc) (ls : Array Slot), xRep G kp I L H → xS G s.heap H locs → lv_has ls 7 [(0, .ref (xz G + 57)), (3, .int x3), (4, .int x4), (6, .int x6)] → W p l e (xrm 3 68) s m args below meth c H locs 0 0 (xMQ G kp below args s (some (.int r)) rI L) (F0 m 182 ls []) := by
  intro n
  induction n with
  | zero =>
    intro x6 I hf
    cases hf
  | succ n hk182 =>
    intro x6 I hf H locs ls hR hS hl
    rw [xlp_s, E_X11_least_b182] at hf
    unfold F_X11_least_c182 at hf
    refine lv_iload hC.1 hC.2.1 dX11_least_182 (lv_at hl 3 rfl) ?_
    refine lv_iload_n hC.1 hC.2.1 dX11_least_184 rfl (lv_at hl 1 rfl) ?_
    refine x_ic_ge (tgt := 250) hC dX11_least_185 (by decide) hf (fun hf => ?_) (fun hf => ?_)
    · refine lv_aload_n hC.1 hC.2.1 dX11_least_250 rfl (lv_at hl 0 rfl) ?_
      refine x_get (v := .ref (xz G + 80)) hC xf_X11_82 (xce_57 G kp _ _) rfl hR dX11_least_251 ?_
      refine lv_iload hC.1 hC.2.1 dX11_least_254 (lv_at hl 2 rfl) ?_
      refine lv_dup2_11 hC.1 hC.2.1 dX11_least_256 rfl rfl ?_
      refine x_ial hC (xce_80 G kp _ _) hR dX11_least_257 hf (fun v1 hf => ?_)
      refine lv_aload_n hC.1 hC.2.1 dX11_least_258 rfl (lv_at hl 0 rfl) ?_
      refine x_get (v := .ref (xz G + 79)) hC xf_X11_79 (xce_57 G kp _ _) rfl hR dX11_least_259 ?_
      refine lv_iload hC.1 hC.2.1 dX11_least_262 (lv_at hl 2 rfl) ?_
      refine x_ial hC (xce_79 G kp _ _) hR dX11_least_264 hf (fun v2 hf => ?_)
      refine x_if_ne (tgt := 272) hC dX11_least_265 (by decide) hf (fun hf => ?_) (fun hf => ?_)
      · refine lv_iconst (v := 0) hC.1 hC.2.1 dX11_least_272 (by decide) ?_
        exact W_X11_least_j273 hC N _ hk117 hf _ _ _ hR hS (lv_sub hl [0, 1, 2] rfl)
      · refine lv_iconst (v := 1) hC.1 hC.2.1 dX11_least_268 (by decide) ?_
        refine lv_goto (tgt := 273) hC.1 hC.2.1 dX11_least_269 (by decide) ?_
        exact W_X11_least_j273 hC N _ hk117 hf _ _ _ hR hS (lv_sub hl [0, 1, 2] rfl)
    · refine lv_iload hC.1 hC.2.1 dX11_least_188 (lv_at hl 2 rfl) ?_
      refine lv_iload hC.1 hC.2.1 dX11_least_190 (lv_at hl 3 rfl) ?_
      refine lv_ishr hC.1 hC.2.1 dX11_least_192 ?_
      refine lv_iconst (v := 1) hC.1 hC.2.1 dX11_least_193 (by decide) ?_
      refine lv_iand hC.1 hC.2.1 dX11_least_194 ?_
      refine lv_iconst (v := 1) hC.1 hC.2.1 dX11_least_195 (by decide) ?_
      refine x_ic_ne (tgt := 244) hC dX11_least_196 (by decide) hf (fun hf => ?_) (fun hf => ?_)
      · refine x_iinc (d := 1) (lv' := fun y3 => [(6, .int y3), (0, .ref (xz G + 57)), (3, .int x3), (4, .int x4)]) (k := 3) hC hl dX11_least_244 rfl (by decide) (Nat.le_of_ble_eq_true rfl) hf (fun _ => rfl) (fun y3 hf ls hl => ?_)
        refine lv_goto (tgt := 182) hC.1 hC.2.1 dX11_least_247 (by decide) ?_
        exact hk182 y3 I hf _ _ _ hR hS (lv_sub hl [1, 2, 3, 0] rfl)
      · refine lv_aload_n hC.1 hC.2.1 dX11_least_199 rfl (lv_at hl 0 rfl) ?_
        refine x_get (v := .ref (xz G + 80)) hC xf_X11_82 (xce_57 G kp _ _) rfl hR dX11_least_200 ?_
        refine lv_iload hC.1 hC.2.1 dX11_least_203 (lv_at hl 2 rfl) ?_
        refine lv_iconst (v := 1) hC.1 hC.2.1 dX11_least_205 (by decide) ?_
        refine lv_iload hC.1 hC.2.1 dX11_least_206 (lv_at hl 3 rfl) ?_
        refine lv_ishl hC.1 hC.2.1 dX11_least_208 ?_
        refine lv_iconst (v := (-1)) hC.1 hC.2.1 dX11_least_209 (by decide) ?_
        refine lv_ixor hC.1 hC.2.1 dX11_least_210 ?_
        refine lv_iand hC.1 hC.2.1 dX11_least_211 ?_
        refine x_ial hC (xce_80 G kp _ _) hR dX11_least_212 hf (fun v4 hf => ?_)
        refine lv_aload_n hC.1 hC.2.1 dX11_least_213 rfl (lv_at hl 0 rfl) ?_
        refine W.eq (g2 := F0 m 214 ls [.ref (xz G + 57), .int v4]) rfl ?_
        refine x_get (v := .ref (xz G + 80)) hC xf_X11_82 (xce_57 G kp _ _) rfl hR dX11_least_214 ?_
        refine lv_iload hC.1 hC.2.1 dX11_least_217 (lv_at hl 2 rfl) ?_
        refine x_ial hC (xce_80 G kp _ _) hR dX11_least_219 hf (fun v5 hf => ?_)
        refine x_ic_le (tgt := 244) hC dX11_least_220 (by decide) hf (fun hf => ?_) (fun hf => ?_)
        · refine x_iinc (d := 1) (lv' := fun y6 => [(6, .int y6), (0, .ref (xz G + 57)), (3, .int x3), (4, .int x4)]) (k := 3) hC hl dX11_least_244 rfl (by decide) (Nat.le_of_ble_eq_true rfl) hf (fun _ => rfl) (fun y6 hf ls hl => ?_)
          refine lv_goto (tgt := 182) hC.1 hC.2.1 dX11_least_247 (by decide) ?_
          exact hk182 y6 I hf _ _ _ hR hS (lv_sub hl [1, 2, 3, 0] rfl)
        · refine lv_aload_n hC.1 hC.2.1 dX11_least_223 rfl (lv_at hl 0 rfl) ?_
          refine x_get (v := .ref (xz G + 80)) hC xf_X11_82 (xce_57 G kp _ _) rfl hR dX11_least_224 ?_
          refine lv_iload hC.1 hC.2.1 dX11_least_227 (lv_at hl 2 rfl) ?_
          refine lv_aload_n hC.1 hC.2.1 dX11_least_229 rfl (lv_at hl 0 rfl) ?_
          refine x_get (v := .ref (xz G + 80)) hC xf_X11_82 (xce_57 G kp _ _) rfl hR dX11_least_230 ?_
          refine lv_iload hC.1 hC.2.1 dX11_least_233 (lv_at hl 2 rfl) ?_
          refine lv_iconst (v := 1) hC.1 hC.2.1 dX11_least_235 (by decide) ?_
          refine lv_iload hC.1 hC.2.1 dX11_least_236 (lv_at hl 3 rfl) ?_
          refine lv_ishl hC.1 hC.2.1 dX11_least_238 ?_
          refine lv_iconst (v := (-1)) hC.1 hC.2.1 dX11_least_239 (by decide) ?_
          refine lv_ixor hC.1 hC.2.1 dX11_least_240 ?_
          refine W.eq (g2 := F0 m 241 ls [.int ((1 <<< (x6 &&& 31)) ^^^ (-1)), .int x4, .ref (xz G + 80), .int x4, .ref (xz G + 80)]) rfl ?_
          refine lv_iand hC.1 hC.2.1 dX11_least_241 ?_
          refine x_ial hC (xce_80 G kp _ _) hR dX11_least_242 hf (fun v7 hf => ?_)
          refine x_ias hC (fun f => (xce_80 G kp f _)) hR hS dX11_least_243 hf (fun I8 hf H locs hR hS => ?_)
          refine x_iinc (d := 1) (lv' := fun y9 => [(6, .int y9), (0, .ref (xz G + 57)), (3, .int x3), (4, .int x4)]) (k := 3) hC hl dX11_least_244 rfl (by decide) (Nat.le_of_ble_eq_true rfl) hf (fun _ => rfl) (fun y9 hf ls hl => ?_)
          refine lv_goto (tgt := 182) hC.1 hC.2.1 dX11_least_247 (by decide) ?_
          exact hk182 y9 I8 hf _ _ _ hR hS (lv_sub hl [1, 2, 3, 0] rfl)
set_option maxRecDepth 20000 in
theorem W_X11_least_l128 {G : XG} {l : Launch} {kp : Bool} {p : Program} {e : Env} {s : State} {m : MethodId} {args : Array Value} {below : List Frame} {meth : Method} {c : Code} (hC : xC G p s m args meth c cX11_least 7 RX11 (some .int)) (N : Nat) {I : xTI} {L : xTL} {r : Int32} {rI : xTI} {x3 : Int32} {x4 : Int32} (k117 : Int32 × xTI → Option (Int32 × xTI)) (hk117 : ∀ (x4 : Int32) (I : xTI) , k117 (x4, I) = some (r, rI) → ∀ (H : Heap) (locs : List Loc) (ls : Array Slot), xRep G kp I L H → xS G s.heap H locs → lv_has ls 7 [(0, .ref (xz G + 57)), (3, .int x3), (4, .int x4)] → W p l e (xrm 3 68) s m args below meth c H locs 0 0 (xMQ G kp below args s (some (.int r)) rI L) (F0 m 117 ls [])) : ∀ (n : Nat) (x5 : Int32) , xlp (F_X11_least_b128 k117 N I x3 x4 ) n x5 = some (r, rI) → ∀ (H : Heap) (locs : List Loc) (ls : Array Slot), xRep G kp I L H → xS G s.heap H locs → lv_has ls 7 [(0, .ref (xz G + 57)), (3, .int x3), (4, .int x4), (5, .int x5)] → W p l e (xrm 3 68) s m args below meth c H locs 0 0 (xMQ G kp below args s (some (.int r)) rI L) (F0 m 128 ls []) := by
  intro n
  induction n with
  | zero =>
    intro x5 hf
    cases hf
  | succ n hk128 =>
    intro x5 hf H locs ls hR hS hl
    rw [xlp_s, E_X11_least_b128] at hf
    unfold F_X11_least_c128 at hf
    refine lv_iload hC.1 hC.2.1 dX11_least_128 (lv_at hl 2 rfl) ?_
    refine lv_iload hC.1 hC.2.1 dX11_least_130 (lv_at hl 3 rfl) ?_
    refine lv_ishr hC.1 hC.2.1 dX11_least_132 ?_
    refine lv_iconst (v := 1) hC.1 hC.2.1 dX11_least_133 (by decide) ?_
    refine lv_iand hC.1 hC.2.1 dX11_least_134 ?_
    refine x_if_ne (tgt := 144) hC dX11_least_135 (by decide) hf (fun hf => ?_) (fun hf => ?_)
    · refine lv_aload_n hC.1 hC.2.1 dX11_least_144 rfl (lv_at hl 0 rfl) ?_
      refine x_get (v := .ref (xz G + 79)) hC xf_X11_79 (xce_57 G kp _ _) rfl hR dX11_least_145 ?_
      refine lv_iload hC.1 hC.2.1 dX11_least_148 (lv_at hl 2 rfl) ?_
      refine lv_aload_n hC.1 hC.2.1 dX11_least_150 rfl (lv_at hl 0 rfl) ?_
      refine x_get (v := .ref (xz G + 79)) hC xf_X11_79 (xce_57 G kp _ _) rfl hR dX11_least_151 ?_
      refine lv_iload hC.1 hC.2.1 dX11_least_154 (lv_at hl 2 rfl) ?_
      refine lv_iload hC.1 hC.2.1 dX11_least_156 (lv_at hl 2 rfl) ?_
      refine lv_iconst (v := 1) hC.1 hC.2.1 dX11_least_158 (by decide) ?_
      refine lv_isub hC.1 hC.2.1 dX11_least_159 ?_
      refine lv_iand hC.1 hC.2.1 dX11_least_160 ?_
      refine x_ial hC (xce_79 G kp _ _) hR dX11_least_161 hf (fun v1 hf => ?_)
      refine W.eq (g2 := F0 m 162 ls [.int v1, .int x4, .ref (xz G + 79)]) rfl ?_
      refine lv_aload_n hC.1 hC.2.1 dX11_least_162 rfl (lv_at hl 0 rfl) ?_
      refine x_get (v := .ref (xz G + 78)) hC xf_X11_76 (xce_57 G kp _ _) rfl hR dX11_least_163 ?_
      refine lv_iload hC.1 hC.2.1 dX11_least_166 (lv_at hl 3 rfl) ?_
      refine x_ial hC (xce_78 G kp _ _) hR dX11_least_168 hf (fun v2 hf => ?_)
      refine lv_iadd hC.1 hC.2.1 dX11_least_169 ?_
      refine x_ias hC (fun f => (xce_79 G kp f _)) hR hS dX11_least_170 hf (fun I3 hf H locs hR hS => ?_)
      refine lv_aload_n hC.1 hC.2.1 dX11_least_171 rfl (lv_at hl 0 rfl) ?_
      refine x_get (v := .ref (xz G + 80)) hC xf_X11_82 (xce_57 G kp _ _) rfl hR dX11_least_172 ?_
      refine lv_iload hC.1 hC.2.1 dX11_least_175 (lv_at hl 2 rfl) ?_
      refine lv_iconst (v := 0) hC.1 hC.2.1 dX11_least_177 (by decide) ?_
      refine x_ias hC (fun f => (xce_80 G kp f _)) hR hS dX11_least_178 hf (fun I4 hf H locs hR hS => ?_)
      refine lv_iconst (v := 0) hC.1 hC.2.1 dX11_least_179 (by decide) ?_
      refine W.eq (g2 := F0 m 180 ls [.int 0]) rfl ?_
      refine lv_istore (lv' := [(6, .int 0), (0, .ref (xz G + 57)), (3, .int x3), (4, .int x4), (5, .int x5)]) hC.1 hC.2.1 dX11_least_180 hl (Nat.le_of_ble_eq_true rfl) rfl (fun ls hl => ?_)
      exact W_X11_least_l182 hC N _ hk117 _ 0 I4 hf _ _ _ hR hS (lv_sub hl [1, 2, 3, 0] rfl)
    · refine x_iinc (d := 1) (lv' := fun y5 => [(5, .int y5), (0, .ref (xz G + 57)), (3, .int x3), (4, .int x4)]) (k := 3) hC hl dX11_least_138 rfl (by decide) (Nat.le_of_ble_eq_true rfl) hf (fun _ => rfl) (fun y5 hf ls hl => ?_)
      refine lv_goto (tgt := 128) hC.1 hC.2.1 dX11_least_141 (by decide) ?_
      exact hk128 y5 hf _ _ _ hR hS (lv_sub hl [1, 2, 3, 0] rfl)
set_option maxRecDepth 20000 in
theorem W_X11_least_l117 {G : XG} {l : Launch} {kp : Bool} {p : Program} {e : Env} {s : State} {m : MethodId} {args : Array Value} {below : List Frame} {meth : Method} {c : Code} (hC : xC G p s m args meth c cX11_least 7 RX11 (some .int)) (N : Nat) {L : xTL} {r : Int32} {rI : xTI} {x3 : Int32} : ∀ (n : Nat) (x4 : Int32) (I : xTI) , xlp (F_X11_least_b117 N x3 ) n (x4, I) = some (r, rI) → ∀ (H : Heap) (locs : List Loc) (ls : Array Slot), xRep G kp I L H → xS G s.heap H locs → lv_has ls 7 [(0, .ref (xz G + 57)), (3, .int x3), (4, .int x4)] → W p l e (xrm 3 68) s m args below meth c H locs 0 0 (xMQ G kp below args s (some (.int r)) rI L) (F0 m 117 ls []) := by
  intro n
  induction n with
  | zero =>
    intro x4 I hf
    cases hf
  | succ n hk117 =>
    intro x4 I hf H locs ls hR hS hl
    rw [xlp_s, E_X11_least_b117] at hf
    unfold F_X11_least_c117 at hf
    refine lv_iload hC.1 hC.2.1 dX11_least_117 (lv_at hl 2 rfl) ?_
    refine lv_iconst (v := 1) hC.1 hC.2.1 dX11_least_119 (by decide) ?_
    refine lv_iload_n hC.1 hC.2.1 dX11_least_120 rfl (lv_at hl 1 rfl) ?_
    refine lv_ishl hC.1 hC.2.1 dX11_least_121 ?_
    refine x_ic_ge (tgt := 281) hC dX11_least_122 (by decide) hf (fun hf => ?_) (fun hf => ?_)
    · refine lv_iload_n hC.1 hC.2.1 dX11_least_281 rfl (lv_at hl 1 rfl) ?_
      refine lv_aload_n hC.1 hC.2.1 dX11_least_282 rfl (lv_at hl 0 rfl) ?_
      refine x_get (v := .ref (xz G + 80)) hC xf_X11_82 (xce_57 G kp _ _) rfl hR dX11_least_283 ?_
      refine lv_iconst (v := 1) hC.1 hC.2.1 dX11_least_286 (by decide) ?_
      refine lv_iload_n hC.1 hC.2.1 dX11_least_287 rfl (lv_at hl 1 rfl) ?_
      refine lv_ishl hC.1 hC.2.1 dX11_least_288 ?_
      refine lv_iconst (v := 1) hC.1 hC.2.1 dX11_least_289 (by decide) ?_
      refine lv_isub hC.1 hC.2.1 dX11_least_290 ?_
      refine x_ial hC (xce_80 G kp _ _) hR dX11_least_291 hf (fun v1 hf => ?_)
      refine lv_isub hC.1 hC.2.1 dX11_least_292 ?_
      obtain ⟨h91, h92⟩ := Prod.mk.inj (Option.some.inj hf)
      subst h91
      subst h92
      exact x_iret hC hR hS dX11_least_293
    · refine lv_iconst (v := 0) hC.1 hC.2.1 dX11_least_125 (by decide) ?_
      refine lv_istore (lv' := [(5, .int 0), (0, .ref (xz G + 57)), (3, .int x3), (4, .int x4)]) hC.1 hC.2.1 dX11_least_126 hl (Nat.le_of_ble_eq_true rfl) rfl (fun ls hl => ?_)
      exact W_X11_least_l128 hC N _ hk117 _ 0 hf _ _ _ hR hS (lv_sub hl [1, 2, 3, 0] rfl)
set_option maxRecDepth 20000 in
theorem W_X11_least_j68 {G : XG} {l : Launch} {kp : Bool} {p : Program} {e : Env} {s : State} {m : MethodId} {args : Array Value} {below : List Frame} {meth : Method} {c : Code} (hC : xC G p s m args meth c cX11_least 7 RX11 (some .int)) (N : Nat) {I : xTI} {L : xTL} {r : Int32} {rI : xTI} {x1 : Int32} {x2 : Int32} {x3 : Int32} {x4 : Int32} (k31 : Int32 × Int32 × xTI → Option (Int32 × xTI)) (hk31 : ∀ (x3 : Int32) (x4 : Int32) (I : xTI) , k31 (x3, x4, I) = some (r, rI) → ∀ (H : Heap) (locs : List Loc) (ls : Array Slot), xRep G kp I L H → xS G s.heap H locs → lv_has ls 7 [(0, .ref (xz G + 57)), (1, .int x1), (2, .int x2), (3, .int x3), (4, .int x4)] → W p l e (xrm 3 68) s m args below meth c H locs 0 0 (xMQ G kp below args s (some (.int r)) rI L) (F0 m 31 ls [])) (hf : F_X11_least_j68 k31 N I x1 x2 x3 x4 = some (r, rI)) : ∀ (H : Heap) (locs : List Loc) (ls : Array Slot), xRep G kp I L H → xS G s.heap H locs → lv_has ls 7 [(0, .ref (xz G + 57)), (1, .int x1), (2, .int x2), (3, .int x3), (4, .int x4)] → W p l e (xrm 3 68) s m args below meth c H locs 0 0 (xMQ G kp below args s (some (.int r)) rI L) (F0 m 68 ls []) := by
  intro H locs ls hR hS hl
  unfold F_X11_least_j68 at hf
  refine lv_iload_n hC.1 hC.2.1 dX11_least_68 rfl (lv_at hl 3 rfl) ?_
  refine lv_bipush (v := 12) hC.1 hC.2.1 dX11_least_69 (by decide) ?_
  refine x_ic_ne (tgt := 81) hC dX11_least_71 (by decide) hf (fun hf => ?_) (fun hf => ?_)
  · refine x_iinc (d := 1) (lv' := fun y1 => [(4, .int y1), (0, .ref (xz G + 57)), (1, .int x1), (2, .int x2), (3, .int x3)]) (k := 4) hC hl dX11_least_81 rfl (by decide) (Nat.le_of_ble_eq_true rfl) hf (fun _ => rfl) (fun y1 hf ls hl => ?_)
    refine lv_goto (tgt := 31) hC.1 hC.2.1 dX11_least_84 (by decide) ?_
    exact hk31 x3 y1 I hf _ _ _ hR hS (lv_sub hl [1, 2, 3, 4, 0] rfl)
  · refine lv_aload_n hC.1 hC.2.1 dX11_least_74 rfl (lv_at hl 0 rfl) ?_
    refine lv_bipush (v := (-5)) hC.1 hC.2.1 dX11_least_75 (by decide) ?_
    refine x_cvi10 (rest := []) hC xy_X11_refuse tw_1338 hf (fun _ _ h => M_X11_refuse G l kp h) ⟨Nat.le_of_ble_eq_true rfl, Nat.le_of_ble_eq_true rfl⟩ (xce_57 G kp _ _) rfl rfl rfl (Nat.le_of_ble_eq_true rfl) hl.1 hR hS dX11_least_77 ⟨Nat.le_refl _, Nat.le_refl _⟩ (fun v2 I3 hf H locs hR hS => ?_)
    obtain ⟨h91, h92⟩ := Prod.mk.inj (Option.some.inj hf)
    subst h91
    subst h92
    exact x_iret hC hR hS dX11_least_80
set_option maxRecDepth 20000 in
theorem W_X11_least_l31 {G : XG} {l : Launch} {kp : Bool} {p : Program} {e : Env} {s : State} {m : MethodId} {args : Array Value} {below : List Frame} {meth : Method} {c : Code} (hC : xC G p s m args meth c cX11_least 7 RX11 (some .int)) (N : Nat) {L : xTL} {r : Int32} {rI : xTI} {x1 : Int32} {x2 : Int32} : ∀ (n : Nat) (x3 : Int32) (x4 : Int32) (I : xTI) , xlp (F_X11_least_b31 N x1 x2 ) n (x3, x4, I) = some (r, rI) → ∀ (H : Heap) (locs : List Loc) (ls : Array Slot), xRep G kp I L H → xS G s.heap H locs → lv_has ls 7 [(0, .ref (xz G + 57)), (1, .int x1), (2, .int x2), (3, .int x3), (4, .int x4)] → W p l e (xrm 3 68) s m args below meth c H locs 0 0 (xMQ G kp below args s (some (.int r)) rI L) (F0 m 31 ls []) := by
  intro n
  induction n with
  | zero =>
    intro x3 x4 I hf
    cases hf
  | succ n hk31 =>
    intro x3 x4 I hf H locs ls hR hS hl
    rw [xlp_s, E_X11_least_b31] at hf
    unfold F_X11_least_c31 at hf
    refine lv_iload hC.1 hC.2.1 dX11_least_31 (lv_at hl 4 rfl) ?_
    refine lv_aload_n hC.1 hC.2.1 dX11_least_33 rfl (lv_at hl 0 rfl) ?_
    refine x_get (v := .ref (xz G + 58)) hC xf_X11_14 (xce_57 G kp _ _) rfl hR dX11_least_34 ?_
    refine lv_iconst (v := 1) hC.1 hC.2.1 dX11_least_37 (by decide) ?_
    refine x_ial hC (xce_58 G kp _ _) hR dX11_least_38 hf (fun v1 hf => ?_)
    refine x_ic_ge (tgt := 87) hC dX11_least_39 (by decide) hf (fun hf => ?_) (fun hf => ?_)
    · refine lv_iload_n hC.1 hC.2.1 dX11_least_87 rfl (lv_at hl 3 rfl) ?_
      refine lv_bipush (v := 10) hC.1 hC.2.1 dX11_least_88 (by decide) ?_
      refine x_ic_le (tgt := 100) hC dX11_least_90 (by decide) hf (fun hf => ?_) (fun hf => ?_)
      · refine lv_aload_n hC.1 hC.2.1 dX11_least_100 rfl (lv_at hl 0 rfl) ?_
        refine x_get (v := .ref (xz G + 79)) hC xf_X11_79 (xce_57 G kp _ _) rfl hR dX11_least_101 ?_
        refine lv_iconst (v := 0) hC.1 hC.2.1 dX11_least_104 (by decide) ?_
        refine lv_iconst (v := 0) hC.1 hC.2.1 dX11_least_105 (by decide) ?_
        refine x_ias hC (fun f => (xce_79 G kp f _)) hR hS dX11_least_106 hf (fun I2 hf H locs hR hS => ?_)
        refine lv_aload_n hC.1 hC.2.1 dX11_least_107 rfl (lv_at hl 0 rfl) ?_
        refine x_get (v := .ref (xz G + 80)) hC xf_X11_82 (xce_57 G kp _ _) rfl hR dX11_least_108 ?_
        refine lv_iconst (v := 0) hC.1 hC.2.1 dX11_least_111 (by decide) ?_
        refine lv_iconst (v := 0) hC.1 hC.2.1 dX11_least_112 (by decide) ?_
        refine x_ias hC (fun f => (xce_80 G kp f _)) hR hS dX11_least_113 hf (fun I3 hf H locs hR hS => ?_)
        refine lv_iconst (v := 1) hC.1 hC.2.1 dX11_least_114 (by decide) ?_
        refine W.eq (g2 := F0 m 115 ls [.int 1]) rfl ?_
        refine lv_istore (lv' := [(4, .int 1), (0, .ref (xz G + 57)), (1, .int x1), (2, .int x2), (3, .int x3)]) hC.1 hC.2.1 dX11_least_115 hl (Nat.le_of_ble_eq_true rfl) rfl (fun ls hl => ?_)
        exact W_X11_least_l117 hC N _ 1 I3 hf _ _ _ hR hS (lv_sub hl [1, 4, 0] rfl)
      · refine lv_aload_n hC.1 hC.2.1 dX11_least_93 rfl (lv_at hl 0 rfl) ?_
        refine lv_bipush (v := (-5)) hC.1 hC.2.1 dX11_least_94 (by decide) ?_
        refine x_cvi10 (rest := []) hC xy_X11_refuse tw_1338 hf (fun _ _ h => M_X11_refuse G l kp h) ⟨Nat.le_of_ble_eq_true rfl, Nat.le_of_ble_eq_true rfl⟩ (xce_57 G kp _ _) rfl rfl rfl (Nat.le_of_ble_eq_true rfl) hl.1 hR hS dX11_least_96 ⟨Nat.le_refl _, Nat.le_refl _⟩ (fun v4 I5 hf H locs hR hS => ?_)
        obtain ⟨h91, h92⟩ := Prod.mk.inj (Option.some.inj hf)
        subst h91
        subst h92
        exact x_iret hC hR hS dX11_least_99
    · refine lv_aload_n hC.1 hC.2.1 dX11_least_42 rfl (lv_at hl 0 rfl) ?_
      refine x_get (v := .ref (xz G + 78)) hC xf_X11_76 (xce_57 G kp _ _) rfl hR dX11_least_43 ?_
      refine lv_iload_n hC.1 hC.2.1 dX11_least_46 rfl (lv_at hl 3 rfl) ?_
      refine lv_aload_n hC.1 hC.2.1 dX11_least_47 rfl (lv_at hl 0 rfl) ?_
      refine lv_iload hC.1 hC.2.1 dX11_least_48 (lv_at hl 4 rfl) ?_
      refine lv_iload_n hC.1 hC.2.1 dX11_least_50 rfl (lv_at hl 1 rfl) ?_
      refine lv_iload_n hC.1 hC.2.1 dX11_least_51 rfl (lv_at hl 2 rfl) ?_
      refine x_cvi00 (rest := [.int x3, .ref (xz G + 78)]) hC xy_X11_net tw_1399 hf (fun _ h => M_X11_net G l kp N h) ⟨Nat.le_of_ble_eq_true rfl, Nat.le_of_ble_eq_true rfl⟩ (xce_57 G kp _ _) rfl rfl rfl (Nat.le_of_ble_eq_true rfl) hl.1 hR hS dX11_least_52 ⟨Nat.le_refl _, Nat.le_refl _⟩ (fun v6 hf H locs hR hS => ?_)
      refine x_ias hC (fun f => (xce_78 G kp f _)) hR hS dX11_least_55 hf (fun I7 hf H locs hR hS => ?_)
      refine lv_aload_n hC.1 hC.2.1 dX11_least_56 rfl (lv_at hl 0 rfl) ?_
      refine x_get (v := .ref (xz G + 78)) hC xf_X11_76 (xce_57 G kp _ _) rfl hR dX11_least_57 ?_
      refine W.eq (g2 := F0 m 60 ls [.ref (xz G + 78)]) rfl ?_
      refine lv_iload_n hC.1 hC.2.1 dX11_least_60 rfl (lv_at hl 3 rfl) ?_
      refine x_ial hC (xce_78 G kp _ _) hR dX11_least_61 hf (fun v8 hf => ?_)
      refine x_if_eq (tgt := 68) hC dX11_least_62 (by decide) hf (fun hf => ?_) (fun hf => ?_)
      · exact W_X11_least_j68 hC N _ hk31 hf _ _ _ hR hS (lv_sub hl [0, 1, 2, 3, 4] rfl)
      · refine x_iinc (d := 1) (lv' := fun y9 => [(3, .int y9), (0, .ref (xz G + 57)), (1, .int x1), (2, .int x2), (4, .int x4)]) (k := 3) hC hl dX11_least_65 rfl (by decide) (Nat.le_of_ble_eq_true rfl) hf (fun _ => rfl) (fun y9 hf ls hl => ?_)
        exact W_X11_least_j68 hC N _ hk31 hf _ _ _ hR hS (lv_sub hl [1, 2, 3, 0, 4] rfl)
set_option maxRecDepth 20000 in
theorem M_X11_least (G : XG) (l : Launch) (kp : Bool) (N : Nat) {I : xTI} {L : xTL} {x1 : Int32} {x2 : Int32} {r : Int32} {rI : xTI} (hf : F_X11_least N I x1 x2 = some (r, rI)) : xMet G l yX11_least cX11_least 7 (some .int) 3 68 kp [.ref (xz G + 57), .int x1, .int x2] I L (some (.int r)) rI L := by
  refine xMet.ofW (by decide +kernel) (Nat.le_of_ble_eq_true rfl) ?_
  intro p e s m args below meth c hC H locs ls hR hS hl
  replace hC : xC G p s m args meth c cX11_least 7 RX11 (some .int) := hC
  replace hl : lv_has ls 7 [(0, .ref (xz G + 57)), (1, .int x1), (2, .int x2)] := hl
  unfold F_X11_least at hf
  refine lv_aload_n hC.1 hC.2.1 dX11_least_0 rfl (lv_at hl 0 rfl) ?_
  refine lv_iload_n hC.1 hC.2.1 dX11_least_1 rfl (lv_at hl 1 rfl) ?_
  refine x_cvi00 (rest := []) hC xy_X11_isStock tw_1359 hf (fun _ h => M_X11_isStock G l kp h) ⟨Nat.le_of_ble_eq_true rfl, Nat.le_of_ble_eq_true rfl⟩ (xce_57 G kp _ _) rfl rfl rfl (Nat.le_of_ble_eq_true rfl) hl.1 hR hS dX11_least_2 ⟨Nat.le_refl _, Nat.le_refl _⟩ (fun v1 hf H locs hR hS => ?_)
  refine x_if_ne (tgt := 15) hC dX11_least_5 (by decide) hf (fun hf => ?_) (fun hf => ?_)
  · refine lv_iload_n hC.1 hC.2.1 dX11_least_15 rfl (lv_at hl 2 rfl) ?_
    refine x_if_ge (tgt := 26) hC dX11_least_16 (by decide) hf (fun hf => ?_) (fun hf => ?_)
    · refine lv_iconst (v := 0) hC.1 hC.2.1 dX11_least_26 (by decide) ?_
      refine lv_istore_n (lv' := [(3, .int 0), (0, .ref (xz G + 57)), (1, .int x1), (2, .int x2)]) hC.1 hC.2.1 dX11_least_27 rfl hl (Nat.le_of_ble_eq_true rfl) rfl (fun ls hl => ?_)
      refine lv_iconst (v := 0) hC.1 hC.2.1 dX11_least_28 (by decide) ?_
      refine lv_istore (lv' := [(4, .int 0), (3, .int 0), (0, .ref (xz G + 57)), (1, .int x1), (2, .int x2)]) hC.1 hC.2.1 dX11_least_29 hl (Nat.le_of_ble_eq_true rfl) rfl (fun ls hl => ?_)
      exact W_X11_least_l31 hC N _ 0 0 I hf _ _ _ hR hS (lv_sub hl [2, 3, 4, 1, 0] rfl)
    · refine lv_aload_n hC.1 hC.2.1 dX11_least_19 rfl (lv_at hl 0 rfl) ?_
      refine lv_bipush (v := (-7)) hC.1 hC.2.1 dX11_least_20 (by decide) ?_
      refine x_cvi10 (rest := []) hC xy_X11_refuse tw_1338 hf (fun _ _ h => M_X11_refuse G l kp h) ⟨Nat.le_of_ble_eq_true rfl, Nat.le_of_ble_eq_true rfl⟩ (xce_57 G kp _ _) rfl rfl rfl (Nat.le_of_ble_eq_true rfl) hl.1 hR hS dX11_least_22 ⟨Nat.le_refl _, Nat.le_refl _⟩ (fun v2 I3 hf H locs hR hS => ?_)
      obtain ⟨h91, h92⟩ := Prod.mk.inj (Option.some.inj hf)
      subst h91
      subst h92
      exact x_iret hC hR hS dX11_least_25
  · refine lv_aload_n hC.1 hC.2.1 dX11_least_8 rfl (lv_at hl 0 rfl) ?_
    refine lv_bipush (v := (-3)) hC.1 hC.2.1 dX11_least_9 (by decide) ?_
    refine x_cvi10 (rest := []) hC xy_X11_refuse tw_1338 hf (fun _ _ h => M_X11_refuse G l kp h) ⟨Nat.le_of_ble_eq_true rfl, Nat.le_of_ble_eq_true rfl⟩ (xce_57 G kp _ _) rfl rfl rfl (Nat.le_of_ble_eq_true rfl) hl.1 hR hS dX11_least_11 ⟨Nat.le_refl _, Nat.le_refl _⟩ (fun v4 I5 hf H locs hR hS => ?_)
    obtain ⟨h91, h92⟩ := Prod.mk.inj (Option.some.inj hf)
    subst h91
    subst h92
    exact x_iret hC hR hS dX11_least_14
set_option maxRecDepth 20000 in
theorem W_X11_judge_l262 {G : XG} {l : Launch} {kp : Bool} {p : Program} {e : Env} {s : State} {m : MethodId} {args : Array Value} {below : List Frame} {meth : Method} {c : Code} (hC : xC G p s m args meth c cX11_judge 7 RX11 (some .int)) (N : Nat) {I : xTI} {L : xTL} {r : Int32} {rI : xTI} : ∀ (n : Nat) (x3 : Int32) , xlp (F_X11_judge_b262 N I ) n x3 = some (r, rI) → ∀ (H : Heap) (locs : List Loc) (ls : Array Slot), xRep G kp I L H → xS G s.heap H locs → lv_has ls 7 [(0, .ref (xz G + 57)), (3, .int x3)] → W p l e (xrm 3 68) s m args below meth c H locs 0 0 (xMQ G kp below args s (some (.int r)) rI L) (F0 m 262 ls []) := by
  intro n
  induction n with
  | zero =>
    intro x3 hf
    cases hf
  | succ n hk262 =>
    intro x3 hf H locs ls hR hS hl
    rw [xlp_s, E_X11_judge_b262] at hf
    unfold F_X11_judge_c262 at hf
    refine lv_iload_n hC.1 hC.2.1 dX11_judge_262 rfl (lv_at hl 1 rfl) ?_
    refine lv_bipush (v := 12) hC.1 hC.2.1 dX11_judge_263 (by decide) ?_
    refine x_ic_ge (tgt := 285) hC dX11_judge_265 (by decide) hf (fun hf => ?_) (fun hf => ?_)
    · refine lv_aload_n hC.1 hC.2.1 dX11_judge_285 rfl (lv_at hl 0 rfl) ?_
      refine x_getI hC xf_X11_397 (xce_57 G kp _ _) rfl hR dX11_judge_286 hf (fun v1 hf => ?_)
      refine lv_iconst (v := 3) hC.1 hC.2.1 dX11_judge_289 (by decide) ?_
      refine lv_idiv hC.1 hC.2.1 dX11_judge_290 (by decide) ?_
      obtain ⟨h91, h92⟩ := Prod.mk.inj (Option.some.inj hf)
      subst h91
      subst h92
      exact x_iret hC hR hS dX11_judge_291
    · refine lv_aload_n hC.1 hC.2.1 dX11_judge_268 rfl (lv_at hl 0 rfl) ?_
      refine x_get (v := .ref (xz G + 78)) hC xf_X11_76 (xce_57 G kp _ _) rfl hR dX11_judge_269 ?_
      refine lv_iload_n hC.1 hC.2.1 dX11_judge_272 rfl (lv_at hl 1 rfl) ?_
      refine x_ial hC (xce_78 G kp _ _) hR dX11_judge_273 hf (fun v2 hf => ?_)
      refine x_if_eq (tgt := 279) hC dX11_judge_274 (by decide) hf (fun hf => ?_) (fun hf => ?_)
      · refine x_iinc (d := 1) (lv' := fun y3 => [(3, .int y3), (0, .ref (xz G + 57))]) (k := 1) hC hl dX11_judge_279 rfl (by decide) (Nat.le_of_ble_eq_true rfl) hf (fun _ => rfl) (fun y3 hf ls hl => ?_)
        refine lv_goto (tgt := 262) hC.1 hC.2.1 dX11_judge_282 (by decide) ?_
        exact hk262 y3 hf _ _ _ hR hS (lv_sub hl [1, 0] rfl)
      · refine lv_iconst (v := (-1)) hC.1 hC.2.1 dX11_judge_277 (by decide) ?_
        obtain ⟨h91, h92⟩ := Prod.mk.inj (Option.some.inj hf)
        subst h91
        subst h92
        exact x_iret hC hR hS dX11_judge_278
set_option maxRecDepth 20000 in
theorem W_X11_judge_l123 {G : XG} {l : Launch} {kp : Bool} {p : Program} {e : Env} {s : State} {m : MethodId} {args : Array Value} {below : List Frame} {meth : Method} {c : Code} (hC : xC G p s m args meth c cX11_judge 7 RX11 (some .int)) (N : Nat) {L : xTL} {r : Int32} {rI : xTI} : ∀ (n : Nat) (x3 : Int32) (I : xTI) , xlp (F_X11_judge_b123 N ) n (x3, I) = some (r, rI) → ∀ (H : Heap) (locs : List Loc) (ls : Array Slot), xRep G kp I L H → xS G s.heap H locs → lv_has ls 7 [(0, .ref (xz G + 57)), (3, .int x3)] → W p l e (xrm 3 68) s m args below meth c H locs 0 0 (xMQ G kp below args s (some (.int r)) rI L) (F0 m 123 ls []) := by
  intro n
  induction n with
  | zero =>
    intro x3 I hf
    cases hf
  | succ n hk123 =>
    intro x3 I hf H locs ls hR hS hl
    rw [xlp_s, E_X11_judge_b123] at hf
    unfold F_X11_judge_c123 at hf
    refine lv_iload_n hC.1 hC.2.1 dX11_judge_123 rfl (lv_at hl 1 rfl) ?_
    refine lv_aload_n hC.1 hC.2.1 dX11_judge_124 rfl (lv_at hl 0 rfl) ?_
    refine x_getI hC xf_X11_397 (xce_57 G kp _ _) rfl hR dX11_judge_125 hf (fun v1 hf => ?_)
    refine x_ic_ge (tgt := 260) hC dX11_judge_128 (by decide) hf (fun hf => ?_) (fun hf => ?_)
    · refine lv_iconst (v := 0) hC.1 hC.2.1 dX11_judge_260 (by decide) ?_
      refine lv_istore_n (lv' := [(3, .int 0), (0, .ref (xz G + 57))]) hC.1 hC.2.1 dX11_judge_261 rfl hl (Nat.le_of_ble_eq_true rfl) rfl (fun ls hl => ?_)
      exact W_X11_judge_l262 hC N _ 0 hf _ _ _ hR hS (lv_sub hl [1, 0] rfl)
    · refine lv_aload_n hC.1 hC.2.1 dX11_judge_131 rfl (lv_at hl 0 rfl) ?_
      refine x_get (v := .ref (xz G + 86)) hC xf_X11_101 (xce_57 G kp _ _) rfl hR dX11_judge_132 ?_
      refine lv_iload_n hC.1 hC.2.1 dX11_judge_135 rfl (lv_at hl 1 rfl) ?_
      refine x_ial hC (xce_86 G kp _ _) hR dX11_judge_136 hf (fun v2 hf => ?_)
      refine lv_istore (lv' := [(4, .int v2), (0, .ref (xz G + 57)), (3, .int x3)]) hC.1 hC.2.1 dX11_judge_137 hl (Nat.le_of_ble_eq_true rfl) rfl (fun ls hl => ?_)
      refine lv_aload_n hC.1 hC.2.1 dX11_judge_139 rfl (lv_at hl 1 rfl) ?_
      refine x_get (v := .ref (xz G + 86)) hC xf_X11_101 (xce_57 G kp _ _) rfl hR dX11_judge_140 ?_
      refine lv_iload_n hC.1 hC.2.1 dX11_judge_143 rfl (lv_at hl 2 rfl) ?_
      refine lv_iconst (v := 1) hC.1 hC.2.1 dX11_judge_144 (by decide) ?_
      refine lv_iadd hC.1 hC.2.1 dX11_judge_145 ?_
      refine x_ial hC (xce_86 G kp _ _) hR dX11_judge_146 hf (fun v3 hf => ?_)
      refine W.eq (g2 := F0 m 147 ls [.int v3]) rfl ?_
      refine lv_istore (lv' := [(5, .int v3), (4, .int v2), (0, .ref (xz G + 57)), (3, .int x3)]) hC.1 hC.2.1 dX11_judge_147 hl (Nat.le_of_ble_eq_true rfl) rfl (fun ls hl => ?_)
      refine lv_aload_n hC.1 hC.2.1 dX11_judge_149 rfl (lv_at hl 2 rfl) ?_
      refine x_get (v := .ref (xz G + 86)) hC xf_X11_101 (xce_57 G kp _ _) rfl hR dX11_judge_150 ?_
      refine lv_iload_n hC.1 hC.2.1 dX11_judge_153 rfl (lv_at hl 3 rfl) ?_
      refine lv_iconst (v := 2) hC.1 hC.2.1 dX11_judge_154 (by decide) ?_
      refine lv_iadd hC.1 hC.2.1 dX11_judge_155 ?_
      refine x_ial hC (xce_86 G kp _ _) hR dX11_judge_156 hf (fun v4 hf => ?_)
      refine lv_istore (lv' := [(6, .int v4), (5, .int v3), (4, .int v2), (0, .ref (xz G + 57)), (3, .int x3)]) hC.1 hC.2.1 dX11_judge_157 hl (Nat.le_of_ble_eq_true rfl) rfl (fun ls hl => ?_)
      refine lv_aload_n hC.1 hC.2.1 dX11_judge_159 rfl (lv_at hl 3 rfl) ?_
      refine lv_iload hC.1 hC.2.1 dX11_judge_160 (lv_at hl 2 rfl) ?_
      refine x_cvi00 (rest := []) hC xy_X11_isMan tw_1355 hf (fun _ h => M_X11_isMan G l kp h) ⟨Nat.le_of_ble_eq_true rfl, Nat.le_of_ble_eq_true rfl⟩ (xce_57 G kp _ _) rfl rfl rfl (Nat.le_of_ble_eq_true rfl) hl.1 hR hS dX11_judge_162 ⟨Nat.le_refl _, Nat.le_refl _⟩ (fun v5 hf H locs hR hS => ?_)
      refine x_if_eq (tgt := 228) hC dX11_judge_165 (by decide) hf (fun hf => ?_) (fun hf => ?_)
      · refine lv_iconst (v := (-1)) hC.1 hC.2.1 dX11_judge_228 (by decide) ?_
        obtain ⟨h91, h92⟩ := Prod.mk.inj (Option.some.inj hf)
        subst h91
        subst h92
        exact x_iret hC hR hS dX11_judge_229
      · refine lv_aload_n hC.1 hC.2.1 dX11_judge_168 rfl (lv_at hl 3 rfl) ?_
        refine lv_iload hC.1 hC.2.1 dX11_judge_169 (lv_at hl 1 rfl) ?_
        refine x_cvi00 (rest := []) hC xy_X11_isMan tw_1355 hf (fun _ h => M_X11_isMan G l kp h) ⟨Nat.le_of_ble_eq_true rfl, Nat.le_of_ble_eq_true rfl⟩ (xce_57 G kp _ _) rfl rfl rfl (Nat.le_of_ble_eq_true rfl) hl.1 hR hS dX11_judge_171 ⟨Nat.le_refl _, Nat.le_refl _⟩ (fun v6 hf H locs hR hS => ?_)
        refine x_if_eq (tgt := 228) hC dX11_judge_174 (by decide) hf (fun hf => ?_) (fun hf => ?_)
        · refine lv_iconst (v := (-1)) hC.1 hC.2.1 dX11_judge_228 (by decide) ?_
          obtain ⟨h91, h92⟩ := Prod.mk.inj (Option.some.inj hf)
          subst h91
          subst h92
          exact x_iret hC hR hS dX11_judge_229
        · refine lv_iload hC.1 hC.2.1 dX11_judge_177 (lv_at hl 0 rfl) ?_
          refine lv_iconst (v := 1) hC.1 hC.2.1 dX11_judge_179 (by decide) ?_
          refine x_ic_lt (tgt := 228) hC dX11_judge_180 (by decide) hf (fun hf => ?_) (fun hf => ?_)
          · refine lv_iconst (v := (-1)) hC.1 hC.2.1 dX11_judge_228 (by decide) ?_
            obtain ⟨h91, h92⟩ := Prod.mk.inj (Option.some.inj hf)
            subst h91
            subst h92
            exact x_iret hC hR hS dX11_judge_229
          · refine lv_aload_n hC.1 hC.2.1 dX11_judge_183 rfl (lv_at hl 3 rfl) ?_
            refine x_get (v := .ref (xz G + 77)) hC xf_X11_73 (xce_57 G kp _ _) rfl hR dX11_judge_184 ?_
            refine lv_iload hC.1 hC.2.1 dX11_judge_187 (lv_at hl 2 rfl) ?_
            refine x_ial hC (xce_77 G kp _ _) hR dX11_judge_189 hf (fun v7 hf => ?_)
            refine x_if_ge (tgt := 228) hC dX11_judge_190 (by decide) hf (fun hf => ?_) (fun hf => ?_)
            · refine lv_iconst (v := (-1)) hC.1 hC.2.1 dX11_judge_228 (by decide) ?_
              obtain ⟨h91, h92⟩ := Prod.mk.inj (Option.some.inj hf)
              subst h91
              subst h92
              exact x_iret hC hR hS dX11_judge_229
            · refine lv_aload_n hC.1 hC.2.1 dX11_judge_193 rfl (lv_at hl 3 rfl) ?_
              refine x_get (v := .ref (xz G + 77)) hC xf_X11_73 (xce_57 G kp _ _) rfl hR dX11_judge_194 ?_
              refine lv_iload hC.1 hC.2.1 dX11_judge_197 (lv_at hl 1 rfl) ?_
              refine x_ial hC (xce_77 G kp _ _) hR dX11_judge_199 hf (fun v8 hf => ?_)
              refine x_if_le (tgt := 228) hC dX11_judge_200 (by decide) hf (fun hf => ?_) (fun hf => ?_)
              · refine lv_iconst (v := (-1)) hC.1 hC.2.1 dX11_judge_228 (by decide) ?_
                obtain ⟨h91, h92⟩ := Prod.mk.inj (Option.some.inj hf)
                subst h91
                subst h92
                exact x_iret hC hR hS dX11_judge_229
              · refine lv_iload hC.1 hC.2.1 dX11_judge_203 (lv_at hl 0 rfl) ?_
                refine lv_aload_n hC.1 hC.2.1 dX11_judge_205 rfl (lv_at hl 3 rfl) ?_
                refine x_get (v := .ref (xz G + 78)) hC xf_X11_76 (xce_57 G kp _ _) rfl hR dX11_judge_206 ?_
                refine lv_iload hC.1 hC.2.1 dX11_judge_209 (lv_at hl 2 rfl) ?_
                refine x_ial hC (xce_78 G kp _ _) hR dX11_judge_211 hf (fun v9 hf => ?_)
                refine lv_ineg hC.1 hC.2.1 dX11_judge_212 ?_
                refine x_ic_gt (tgt := 228) hC dX11_judge_213 (by decide) hf (fun hf => ?_) (fun hf => ?_)
                · refine lv_iconst (v := (-1)) hC.1 hC.2.1 dX11_judge_228 (by decide) ?_
                  obtain ⟨h91, h92⟩ := Prod.mk.inj (Option.some.inj hf)
                  subst h91
                  subst h92
                  exact x_iret hC hR hS dX11_judge_229
                · refine lv_iload hC.1 hC.2.1 dX11_judge_216 (lv_at hl 0 rfl) ?_
                  refine lv_aload_n hC.1 hC.2.1 dX11_judge_218 rfl (lv_at hl 3 rfl) ?_
                  refine x_get (v := .ref (xz G + 78)) hC xf_X11_76 (xce_57 G kp _ _) rfl hR dX11_judge_219 ?_
                  refine lv_iload hC.1 hC.2.1 dX11_judge_222 (lv_at hl 1 rfl) ?_
                  refine x_ial hC (xce_78 G kp _ _) hR dX11_judge_224 hf (fun v10 hf => ?_)
                  refine x_ic_le (tgt := 230) hC dX11_judge_225 (by decide) hf (fun hf => ?_) (fun hf => ?_)
                  · refine lv_aload_n hC.1 hC.2.1 dX11_judge_230 rfl (lv_at hl 3 rfl) ?_
                    refine x_get (v := .ref (xz G + 78)) hC xf_X11_76 (xce_57 G kp _ _) rfl hR dX11_judge_231 ?_
                    refine lv_iload hC.1 hC.2.1 dX11_judge_234 (lv_at hl 2 rfl) ?_
                    refine lv_dup2_11 hC.1 hC.2.1 dX11_judge_236 rfl rfl ?_
                    refine x_ial hC (xce_78 G kp _ _) hR dX11_judge_237 hf (fun v11 hf => ?_)
                    refine lv_iload hC.1 hC.2.1 dX11_judge_238 (lv_at hl 0 rfl) ?_
                    refine lv_iadd hC.1 hC.2.1 dX11_judge_240 ?_
                    refine x_ias hC (fun f => (xce_78 G kp f _)) hR hS dX11_judge_241 hf (fun I12 hf H locs hR hS => ?_)
                    refine lv_aload_n hC.1 hC.2.1 dX11_judge_242 rfl (lv_at hl 3 rfl) ?_
                    refine x_get (v := .ref (xz G + 78)) hC xf_X11_76 (xce_57 G kp _ _) rfl hR dX11_judge_243 ?_
                    refine lv_iload hC.1 hC.2.1 dX11_judge_246 (lv_at hl 1 rfl) ?_
                    refine W.eq (g2 := F0 m 248 ls [.int v3, .ref (xz G + 78)]) rfl ?_
                    refine lv_dup2_11 hC.1 hC.2.1 dX11_judge_248 rfl rfl ?_
                    refine x_ial hC (xce_78 G kp _ _) hR dX11_judge_249 hf (fun v13 hf => ?_)
                    refine lv_iload hC.1 hC.2.1 dX11_judge_250 (lv_at hl 0 rfl) ?_
                    refine lv_isub hC.1 hC.2.1 dX11_judge_252 ?_
                    refine x_ias hC (fun f => (xce_78 G kp f _)) hR hS dX11_judge_253 hf (fun I14 hf H locs hR hS => ?_)
                    refine x_iinc (d := 3) (lv' := fun y15 => [(3, .int y15), (6, .int v4), (5, .int v3), (4, .int v2), (0, .ref (xz G + 57))]) (k := 4) hC hl dX11_judge_254 rfl (by decide) (Nat.le_of_ble_eq_true rfl) hf (fun _ => rfl) (fun y15 hf ls hl => ?_)
                    refine lv_goto (tgt := 123) hC.1 hC.2.1 dX11_judge_257 (by decide) ?_
                    exact hk123 y15 I14 hf _ _ _ hR hS (lv_sub hl [4, 0] rfl)
                  · refine lv_iconst (v := (-1)) hC.1 hC.2.1 dX11_judge_228 (by decide) ?_
                    obtain ⟨h91, h92⟩ := Prod.mk.inj (Option.some.inj hf)
                    subst h91
                    subst h92
                    exact x_iret hC hR hS dX11_judge_229
set_option maxRecDepth 20000 in
theorem W_X11_judge_l97 {G : XG} {l : Launch} {kp : Bool} {p : Program} {e : Env} {s : State} {m : MethodId} {args : Array Value} {below : List Frame} {meth : Method} {c : Code} (hC : xC G p s m args meth c cX11_judge 7 RX11 (some .int)) (N : Nat) {L : xTL} {r : Int32} {rI : xTI} : ∀ (n : Nat) (x3 : Int32) (I : xTI) , xlp (F_X11_judge_b97 N ) n (x3, I) = some (r, rI) → ∀ (H : Heap) (locs : List Loc) (ls : Array Slot), xRep G kp I L H → xS G s.heap H locs → lv_has ls 7 [(0, .ref (xz G + 57)), (3, .int x3)] → W p l e (xrm 3 68) s m args below meth c H locs 0 0 (xMQ G kp below args s (some (.int r)) rI L) (F0 m 97 ls []) := by
  intro n
  induction n with
  | zero =>
    intro x3 I hf
    cases hf
  | succ n hk97 =>
    intro x3 I hf H locs ls hR hS hl
    rw [xlp_s, E_X11_judge_b97] at hf
    unfold F_X11_judge_c97 at hf
    refine lv_iload_n hC.1 hC.2.1 dX11_judge_97 rfl (lv_at hl 1 rfl) ?_
    refine lv_bipush (v := 12) hC.1 hC.2.1 dX11_judge_98 (by decide) ?_
    refine x_ic_ge (tgt := 121) hC dX11_judge_100 (by decide) hf (fun hf => ?_) (fun hf => ?_)
    · refine lv_iconst (v := 0) hC.1 hC.2.1 dX11_judge_121 (by decide) ?_
      refine lv_istore_n (lv' := [(3, .int 0), (0, .ref (xz G + 57))]) hC.1 hC.2.1 dX11_judge_122 rfl hl (Nat.le_of_ble_eq_true rfl) rfl (fun ls hl => ?_)
      exact W_X11_judge_l123 hC N _ 0 I hf _ _ _ hR hS (lv_sub hl [1, 0] rfl)
    · refine lv_aload_n hC.1 hC.2.1 dX11_judge_103 rfl (lv_at hl 0 rfl) ?_
      refine x_get (v := .ref (xz G + 78)) hC xf_X11_76 (xce_57 G kp _ _) rfl hR dX11_judge_104 ?_
      refine lv_iload_n hC.1 hC.2.1 dX11_judge_107 rfl (lv_at hl 1 rfl) ?_
      refine lv_aload_n hC.1 hC.2.1 dX11_judge_108 rfl (lv_at hl 0 rfl) ?_
      refine x_get (v := .ref (xz G + 77)) hC xf_X11_73 (xce_57 G kp _ _) rfl hR dX11_judge_109 ?_
      refine lv_iload_n hC.1 hC.2.1 dX11_judge_112 rfl (lv_at hl 1 rfl) ?_
      refine x_ial hC (xce_77 G kp _ _) hR dX11_judge_113 hf (fun v1 hf => ?_)
      refine x_ias hC (fun f => (xce_78 G kp f _)) hR hS dX11_judge_114 hf (fun I2 hf H locs hR hS => ?_)
      refine x_iinc (d := 1) (lv' := fun y3 => [(3, .int y3), (0, .ref (xz G + 57))]) (k := 1) hC hl dX11_judge_115 rfl (by decide) (Nat.le_of_ble_eq_true rfl) hf (fun _ => rfl) (fun y3 hf ls hl => ?_)
      refine lv_goto (tgt := 97) hC.1 hC.2.1 dX11_judge_118 (by decide) ?_
      exact hk97 y3 I2 hf _ _ _ hR hS (lv_sub hl [1, 0] rfl)
set_option maxRecDepth 20000 in
theorem W_X11_judge_j88 {G : XG} {l : Launch} {kp : Bool} {p : Program} {e : Env} {s : State} {m : MethodId} {args : Array Value} {below : List Frame} {meth : Method} {c : Code} (hC : xC G p s m args meth c cX11_judge 7 RX11 (some .int)) (N : Nat) {I : xTI} {L : xTL} {r : Int32} {rI : xTI} {x1 : Int32} {x2 : Int32} {x3 : Int32} {t1 : Int32} {t2 : Int32} (k58 : Int32 × xTI → Option (Int32 × xTI)) (hk58 : ∀ (x3 : Int32) (I : xTI) , k58 (x3, I) = some (r, rI) → ∀ (H : Heap) (locs : List Loc) (ls : Array Slot), xRep G kp I L H → xS G s.heap H locs → lv_has ls 7 [(0, .ref (xz G + 57)), (1, .int x1), (2, .int x2), (3, .int x3)] → W p l e (xrm 3 68) s m args below meth c H locs 0 0 (xMQ G kp below args s (some (.int r)) rI L) (F0 m 58 ls [])) (hf : F_X11_judge_j88 k58 N I x1 x2 x3 t1 t2 = some (r, rI)) : ∀ (H : Heap) (locs : List Loc) (ls : Array Slot), xRep G kp I L H → xS G s.heap H locs → lv_has ls 7 [(0, .ref (xz G + 57)), (1, .int x1), (2, .int x2), (3, .int x3)] → W p l e (xrm 3 68) s m args below meth c H locs 0 0 (xMQ G kp below args s (some (.int r)) rI L) (F0 m 88 ls [.int t2, .int t1, .ref (xz G + 77)]) := by
  intro H locs ls hR hS hl
  unfold F_X11_judge_j88 at hf
  refine x_ias hC (fun f => (xce_77 G kp f _)) hR hS dX11_judge_88 hf (fun I1 hf H locs hR hS => ?_)
  refine x_iinc (d := 1) (lv' := fun y2 => [(3, .int y2), (0, .ref (xz G + 57)), (1, .int x1), (2, .int x2)]) (k := 3) hC hl dX11_judge_89 rfl (by decide) (Nat.le_of_ble_eq_true rfl) hf (fun _ => rfl) (fun y2 hf ls hl => ?_)
  refine lv_goto (tgt := 58) hC.1 hC.2.1 dX11_judge_92 (by decide) ?_
  exact hk58 y2 I1 hf _ _ _ hR hS (lv_sub hl [1, 2, 3, 0] rfl)
set_option maxRecDepth 20000 in
theorem W_X11_judge_l58 {G : XG} {l : Launch} {kp : Bool} {p : Program} {e : Env} {s : State} {m : MethodId} {args : Array Value} {below : List Frame} {meth : Method} {c : Code} (hC : xC G p s m args meth c cX11_judge 7 RX11 (some .int)) (N : Nat) {L : xTL} {r : Int32} {rI : xTI} {x1 : Int32} {x2 : Int32} : ∀ (n : Nat) (x3 : Int32) (I : xTI) , xlp (F_X11_judge_b58 N x1 x2 ) n (x3, I) = some (r, rI) → ∀ (H : Heap) (locs : List Loc) (ls : Array Slot), xRep G kp I L H → xS G s.heap H locs → lv_has ls 7 [(0, .ref (xz G + 57)), (1, .int x1), (2, .int x2), (3, .int x3)] → W p l e (xrm 3 68) s m args below meth c H locs 0 0 (xMQ G kp below args s (some (.int r)) rI L) (F0 m 58 ls []) := by
  intro n
  induction n with
  | zero =>
    intro x3 I hf
    cases hf
  | succ n hk58 =>
    intro x3 I hf H locs ls hR hS hl
    rw [xlp_s, E_X11_judge_b58] at hf
    unfold F_X11_judge_c58 at hf
    refine lv_iload_n hC.1 hC.2.1 dX11_judge_58 rfl (lv_at hl 3 rfl) ?_
    refine lv_bipush (v := 12) hC.1 hC.2.1 dX11_judge_59 (by decide) ?_
    refine x_ic_ge (tgt := 95) hC dX11_judge_61 (by decide) hf (fun hf => ?_) (fun hf => ?_)
    · refine lv_iconst (v := 0) hC.1 hC.2.1 dX11_judge_95 (by decide) ?_
      refine lv_istore_n (lv' := [(3, .int 0), (0, .ref (xz G + 57)), (1, .int x1), (2, .int x2)]) hC.1 hC.2.1 dX11_judge_96 rfl hl (Nat.le_of_ble_eq_true rfl) rfl (fun ls hl => ?_)
      exact W_X11_judge_l97 hC N _ 0 I hf _ _ _ hR hS (lv_sub hl [1, 0] rfl)
    · refine lv_aload_n hC.1 hC.2.1 dX11_judge_64 rfl (lv_at hl 0 rfl) ?_
      refine x_get (v := .ref (xz G + 77)) hC xf_X11_73 (xce_57 G kp _ _) rfl hR dX11_judge_65 ?_
      refine lv_iload_n hC.1 hC.2.1 dX11_judge_68 rfl (lv_at hl 3 rfl) ?_
      refine lv_aload_n hC.1 hC.2.1 dX11_judge_69 rfl (lv_at hl 0 rfl) ?_
      refine lv_iload_n hC.1 hC.2.1 dX11_judge_70 rfl (lv_at hl 3 rfl) ?_
      refine x_cvi00 (rest := [.int x3, .ref (xz G + 77)]) hC xy_X11_isMan tw_1355 hf (fun _ h => M_X11_isMan G l kp h) ⟨Nat.le_of_ble_eq_true rfl, Nat.le_of_ble_eq_true rfl⟩ (xce_57 G kp _ _) rfl rfl rfl (Nat.le_of_ble_eq_true rfl) hl.1 hR hS dX11_judge_71 ⟨Nat.le_refl _, Nat.le_refl _⟩ (fun v1 hf H locs hR hS => ?_)
      refine x_if_eq (tgt := 87) hC dX11_judge_74 (by decide) hf (fun hf => ?_) (fun hf => ?_)
      · refine lv_iconst (v := 0) hC.1 hC.2.1 dX11_judge_87 (by decide) ?_
        exact W_X11_judge_j88 hC N _ hk58 hf _ _ _ hR hS (lv_sub hl [0, 1, 2, 3] rfl)
      · refine lv_aload_n hC.1 hC.2.1 dX11_judge_77 rfl (lv_at hl 0 rfl) ?_
        refine lv_iload_n hC.1 hC.2.1 dX11_judge_78 rfl (lv_at hl 3 rfl) ?_
        refine lv_iload_n hC.1 hC.2.1 dX11_judge_79 rfl (lv_at hl 1 rfl) ?_
        refine lv_iload_n hC.1 hC.2.1 dX11_judge_80 rfl (lv_at hl 2 rfl) ?_
        refine x_cvi00 (rest := [.int x3, .ref (xz G + 77)]) hC xy_X11_net tw_1399 hf (fun _ h => M_X11_net G l kp N h) ⟨Nat.le_of_ble_eq_true rfl, Nat.le_of_ble_eq_true rfl⟩ (xce_57 G kp _ _) rfl rfl rfl (Nat.le_of_ble_eq_true rfl) hl.1 hR hS dX11_judge_81 ⟨Nat.le_refl _, Nat.le_refl _⟩ (fun v2 hf H locs hR hS => ?_)
        refine lv_goto (tgt := 88) hC.1 hC.2.1 dX11_judge_84 (by decide) ?_
        exact W_X11_judge_j88 hC N _ hk58 hf _ _ _ hR hS (lv_sub hl [0, 1, 2, 3] rfl)
set_option maxRecDepth 20000 in
theorem M_X11_judge (G : XG) (l : Launch) (kp : Bool) (N : Nat) {I : xTI} {L : xTL} {x1 : Int32} {x2 : Int32} {r : Int32} {rI : xTI} (hf : F_X11_judge N I x1 x2 = some (r, rI)) : xMet G l yX11_judge cX11_judge 7 (some .int) 3 68 kp [.ref (xz G + 57), .int x1, .int x2] I L (some (.int r)) rI L := by
  refine xMet.ofW (by decide +kernel) (Nat.le_of_ble_eq_true rfl) ?_
  intro p e s m args below meth c hC H locs ls hR hS hl
  replace hC : xC G p s m args meth c cX11_judge 7 RX11 (some .int) := hC
  replace hl : lv_has ls 7 [(0, .ref (xz G + 57)), (1, .int x1), (2, .int x2)] := hl
  unfold F_X11_judge at hf
  refine lv_aload_n hC.1 hC.2.1 dX11_judge_0 rfl (lv_at hl 0 rfl) ?_
  refine lv_iload_n hC.1 hC.2.1 dX11_judge_1 rfl (lv_at hl 1 rfl) ?_
  refine x_cvi00 (rest := []) hC xy_X11_isStock tw_1359 hf (fun _ h => M_X11_isStock G l kp h) ⟨Nat.le_of_ble_eq_true rfl, Nat.le_of_ble_eq_true rfl⟩ (xce_57 G kp _ _) rfl rfl rfl (Nat.le_of_ble_eq_true rfl) hl.1 hR hS dX11_judge_2 ⟨Nat.le_refl _, Nat.le_refl _⟩ (fun v1 hf H locs hR hS => ?_)
  refine x_if_ne (tgt := 15) hC dX11_judge_5 (by decide) hf (fun hf => ?_) (fun hf => ?_)
  · refine lv_iload_n hC.1 hC.2.1 dX11_judge_15 rfl (lv_at hl 2 rfl) ?_
    refine x_if_ge (tgt := 26) hC dX11_judge_16 (by decide) hf (fun hf => ?_) (fun hf => ?_)
    · refine lv_aload_n hC.1 hC.2.1 dX11_judge_26 rfl (lv_at hl 0 rfl) ?_
      refine x_getI hC xf_X11_394 (xce_57 G kp _ _) rfl hR dX11_judge_27 hf (fun v2 hf => ?_)
      refine x_if_ne (tgt := 40) hC dX11_judge_30 (by decide) hf (fun hf => ?_) (fun hf => ?_)
      · refine lv_aload_n hC.1 hC.2.1 dX11_judge_40 rfl (lv_at hl 0 rfl) ?_
        refine x_getI hC xf_X11_397 (xce_57 G kp _ _) rfl hR dX11_judge_41 hf (fun v3 hf => ?_)
        refine lv_iconst (v := 3) hC.1 hC.2.1 dX11_judge_44 (by decide) ?_
        refine lv_irem hC.1 hC.2.1 dX11_judge_45 (by decide) ?_
        refine x_if_eq (tgt := 56) hC dX11_judge_46 (by decide) hf (fun hf => ?_) (fun hf => ?_)
        · refine lv_iconst (v := 0) hC.1 hC.2.1 dX11_judge_56 (by decide) ?_
          refine lv_istore_n (lv' := [(3, .int 0), (0, .ref (xz G + 57)), (1, .int x1), (2, .int x2)]) hC.1 hC.2.1 dX11_judge_57 rfl hl (Nat.le_of_ble_eq_true rfl) rfl (fun ls hl => ?_)
          exact W_X11_judge_l58 hC N _ 0 I hf _ _ _ hR hS (lv_sub hl [1, 2, 3, 0] rfl)
        · refine lv_aload_n hC.1 hC.2.1 dX11_judge_49 rfl (lv_at hl 0 rfl) ?_
          refine lv_bipush (v := (-5)) hC.1 hC.2.1 dX11_judge_50 (by decide) ?_
          refine x_cvi10 (rest := []) hC xy_X11_refuse tw_1338 hf (fun _ _ h => M_X11_refuse G l kp h) ⟨Nat.le_of_ble_eq_true rfl, Nat.le_of_ble_eq_true rfl⟩ (xce_57 G kp _ _) rfl rfl rfl (Nat.le_of_ble_eq_true rfl) hl.1 hR hS dX11_judge_52 ⟨Nat.le_refl _, Nat.le_refl _⟩ (fun v4 I5 hf H locs hR hS => ?_)
          obtain ⟨h91, h92⟩ := Prod.mk.inj (Option.some.inj hf)
          subst h91
          subst h92
          exact x_iret hC hR hS dX11_judge_55
      · refine lv_aload_n hC.1 hC.2.1 dX11_judge_33 rfl (lv_at hl 0 rfl) ?_
        refine lv_bipush (v := (-2)) hC.1 hC.2.1 dX11_judge_34 (by decide) ?_
        refine x_cvi10 (rest := []) hC xy_X11_refuse tw_1338 hf (fun _ _ h => M_X11_refuse G l kp h) ⟨Nat.le_of_ble_eq_true rfl, Nat.le_of_ble_eq_true rfl⟩ (xce_57 G kp _ _) rfl rfl rfl (Nat.le_of_ble_eq_true rfl) hl.1 hR hS dX11_judge_36 ⟨Nat.le_refl _, Nat.le_refl _⟩ (fun v6 I7 hf H locs hR hS => ?_)
        obtain ⟨h91, h92⟩ := Prod.mk.inj (Option.some.inj hf)
        subst h91
        subst h92
        exact x_iret hC hR hS dX11_judge_39
    · refine lv_aload_n hC.1 hC.2.1 dX11_judge_19 rfl (lv_at hl 0 rfl) ?_
      refine lv_bipush (v := (-7)) hC.1 hC.2.1 dX11_judge_20 (by decide) ?_
      refine x_cvi10 (rest := []) hC xy_X11_refuse tw_1338 hf (fun _ _ h => M_X11_refuse G l kp h) ⟨Nat.le_of_ble_eq_true rfl, Nat.le_of_ble_eq_true rfl⟩ (xce_57 G kp _ _) rfl rfl rfl (Nat.le_of_ble_eq_true rfl) hl.1 hR hS dX11_judge_22 ⟨Nat.le_refl _, Nat.le_refl _⟩ (fun v8 I9 hf H locs hR hS => ?_)
      obtain ⟨h91, h92⟩ := Prod.mk.inj (Option.some.inj hf)
      subst h91
      subst h92
      exact x_iret hC hR hS dX11_judge_25
  · refine lv_aload_n hC.1 hC.2.1 dX11_judge_8 rfl (lv_at hl 0 rfl) ?_
    refine lv_bipush (v := (-3)) hC.1 hC.2.1 dX11_judge_9 (by decide) ?_
    refine x_cvi10 (rest := []) hC xy_X11_refuse tw_1338 hf (fun _ _ h => M_X11_refuse G l kp h) ⟨Nat.le_of_ble_eq_true rfl, Nat.le_of_ble_eq_true rfl⟩ (xce_57 G kp _ _) rfl rfl rfl (Nat.le_of_ble_eq_true rfl) hl.1 hR hS dX11_judge_11 ⟨Nat.le_refl _, Nat.le_refl _⟩ (fun v10 I11 hf H locs hR hS => ?_)
    obtain ⟨h91, h92⟩ := Prod.mk.inj (Option.some.inj hf)
    subst h91
    subst h92
    exact x_iret hC hR hS dX11_judge_14
