set_option maxRecDepth 20000 in
theorem W_X11_lend_j33 {G : XG} {l : Launch} {kp : Bool} {p : Program} {e : Env} {s : State} {m : MethodId} {args : Array Value} {below : List Frame} {meth : Method} {c : Code} (hC : xC G p s m args meth c cX11_lend 3 RX11 (some .int)) {I : xTI} {L : xTL} {r : Int32} {rI : xTI} {rL : xTL} (hf : F_X11_lend_j33 I L = some (r, rI, rL)) : ∀ (H : Heap) (locs : List Loc) (ls : Array Slot), xRep G kp I L H → xS G s.heap H locs → lv_has ls 3 [(0, .ref (xz G + 57))] → W p l e (xrm 2 43) s m args below meth c H locs 0 0 (xMQ G kp below args s (some (.int r)) rI rL) (F0 m 33 ls []) := by
  intro H locs ls hR hS hl
  unfold F_X11_lend_j33 at hf
  refine lv_aload_n hC.1 hC.2.1 dX11_lend_33 rfl (lv_at hl 0 rfl) ?_
  refine lv_bipush (v := (-7)) hC.1 hC.2.1 dX11_lend_34 (by decide) ?_
  refine x_cvi10 (rest := []) hC xy_X11_refuse tw_1338 hf (fun _ _ h => M_X11_refuse G l kp h) ⟨Nat.le_of_ble_eq_true rfl, Nat.le_of_ble_eq_true rfl⟩ (xce_57 G kp _ _) rfl rfl rfl (Nat.le_of_ble_eq_true rfl) hl.1 hR hS dX11_lend_36 ⟨Nat.le_refl _, Nat.le_refl _⟩ (fun v1 I2 hf H locs hR hS => ?_)
  obtain ⟨h91, h90⟩ := Prod.mk.inj (Option.some.inj hf)
  obtain ⟨h92, h93⟩ := Prod.mk.inj h90
  subst h91
  subst h92
  subst h93
  exact x_iret hC hR hS dX11_lend_39
set_option maxRecDepth 20000 in
theorem M_X11_lend (G : XG) (l : Launch) (kp : Bool) {I : xTI} {L : xTL} {x1 : Int32} {x2 : Int32} {r : Int32} {rI : xTI} {rL : xTL} (hf : F_X11_lend I L x1 x2 = some (r, rI, rL)) : xMet G l yX11_lend cX11_lend 3 (some .int) 2 43 kp [.ref (xz G + 57), .int x1, .int x2] I L (some (.int r)) rI rL := by
  refine xMet.ofW (by decide +kernel) (Nat.le_of_ble_eq_true rfl) ?_
  intro p e s m args below meth c hC H locs ls hR hS hl
  replace hC : xC G p s m args meth c cX11_lend 3 RX11 (some .int) := hC
  replace hl : lv_has ls 3 [(0, .ref (xz G + 57)), (1, .int x1), (2, .int x2)] := hl
  unfold F_X11_lend at hf
  refine lv_aload_n hC.1 hC.2.1 dX11_lend_0 rfl (lv_at hl 0 rfl) ?_
  refine lv_iload_n hC.1 hC.2.1 dX11_lend_1 rfl (lv_at hl 1 rfl) ?_
  refine x_cvi00 (rest := []) hC xy_X11_isMan tw_1355 hf (fun _ h => M_X11_isMan G l kp h) ⟨Nat.le_of_ble_eq_true rfl, Nat.le_of_ble_eq_true rfl⟩ (xce_57 G kp _ _) rfl rfl rfl (Nat.le_of_ble_eq_true rfl) hl.1 hR hS dX11_lend_2 ⟨Nat.le_refl _, Nat.le_refl _⟩ (fun v1 hf H locs hR hS => ?_)
  refine x_if_ne (tgt := 15) hC dX11_lend_5 (by decide) hf (fun hf => ?_) (fun hf => ?_)
  · refine lv_iload_n hC.1 hC.2.1 dX11_lend_15 rfl (lv_at hl 2 rfl) ?_
    refine lv_iconst (v := 0) hC.1 hC.2.1 dX11_lend_16 (by decide) ?_
    refine x_ldc (v := 100000000) hC tw_1346 dX11_lend_17 ?_
    refine x_csi00 (rest := []) hC xy_X11_in tw_1335 hf (fun _ h => M_X11_in G l kp h) ⟨Nat.le_of_ble_eq_true rfl, Nat.le_of_ble_eq_true rfl⟩ rfl rfl (Nat.le_of_ble_eq_true rfl) hl.1 hR hS dX11_lend_19 ⟨Nat.le_refl _, Nat.le_refl _⟩ (fun v2 hf H locs hR hS => ?_)
    refine x_if_eq (tgt := 33) hC dX11_lend_22 (by decide) hf (fun hf => ?_) (fun hf => ?_)
    · exact W_X11_lend_j33 hC hf _ _ _ hR hS (lv_sub hl [0] rfl)
    · refine lv_aload_n hC.1 hC.2.1 dX11_lend_25 rfl (lv_at hl 0 rfl) ?_
      refine lv_iload_n hC.1 hC.2.1 dX11_lend_26 rfl (lv_at hl 1 rfl) ?_
      refine x_cvi00 (rest := []) hC xy_X11_isUp tw_1363 hf (fun _ h => M_X11_isUp G l kp h) ⟨Nat.le_of_ble_eq_true rfl, Nat.le_of_ble_eq_true rfl⟩ (xce_57 G kp _ _) rfl rfl rfl (Nat.le_of_ble_eq_true rfl) hl.1 hR hS dX11_lend_27 ⟨Nat.le_refl _, Nat.le_refl _⟩ (fun v3 hf H locs hR hS => ?_)
      refine x_if_ne (tgt := 40) hC dX11_lend_30 (by decide) hf (fun hf => ?_) (fun hf => ?_)
      · refine lv_aload_n hC.1 hC.2.1 dX11_lend_40 rfl (lv_at hl 0 rfl) ?_
        refine x_get (v := .ref (xz G + 59)) hC xf_X11_18 (xce_57 G kp _ _) rfl hR dX11_lend_41 ?_
        refine lv_iconst (v := 0) hC.1 hC.2.1 dX11_lend_44 (by decide) ?_
        refine lv_iload_n hC.1 hC.2.1 dX11_lend_45 rfl (lv_at hl 1 rfl) ?_
        refine lv_iadd hC.1 hC.2.1 dX11_lend_46 ?_
        refine lv_dup2_11 hC.1 hC.2.1 dX11_lend_47 rfl rfl ?_
        refine x_lal hC (xce_59 G kp _ _) hR dX11_lend_48 hf (fun v4 hf => ?_)
        refine lv_iload_n hC.1 hC.2.1 dX11_lend_49 rfl (lv_at hl 2 rfl) ?_
        refine lv_i2l hC.1 hC.2.1 dX11_lend_50 rfl ?_
        refine lv_ladd hC.1 hC.2.1 dX11_lend_51 ?_
        refine x_las hC (fun f => (xce_59 G kp _ f)) hR hS dX11_lend_52 hf (fun L5 hf H locs hR hS => ?_)
        refine W.eq (g2 := F0 m 53 ls []) rfl ?_
        refine lv_iconst (v := 1) hC.1 hC.2.1 dX11_lend_53 (by decide) ?_
        obtain ⟨h91, h90⟩ := Prod.mk.inj (Option.some.inj hf)
        obtain ⟨h92, h93⟩ := Prod.mk.inj h90
        subst h91
        subst h92
        subst h93
        exact x_iret hC hR hS dX11_lend_54
      · exact W_X11_lend_j33 hC hf _ _ _ hR hS (lv_sub hl [0] rfl)
  · refine lv_aload_n hC.1 hC.2.1 dX11_lend_8 rfl (lv_at hl 0 rfl) ?_
    refine lv_bipush (v := (-3)) hC.1 hC.2.1 dX11_lend_9 (by decide) ?_
    refine x_cvi10 (rest := []) hC xy_X11_refuse tw_1338 hf (fun _ _ h => M_X11_refuse G l kp h) ⟨Nat.le_of_ble_eq_true rfl, Nat.le_of_ble_eq_true rfl⟩ (xce_57 G kp _ _) rfl rfl rfl (Nat.le_of_ble_eq_true rfl) hl.1 hR hS dX11_lend_11 ⟨Nat.le_refl _, Nat.le_refl _⟩ (fun v6 I7 hf H locs hR hS => ?_)
    obtain ⟨h91, h90⟩ := Prod.mk.inj (Option.some.inj hf)
    obtain ⟨h92, h93⟩ := Prod.mk.inj h90
    subst h91
    subst h92
    subst h93
    exact x_iret hC hR hS dX11_lend_14
set_option maxRecDepth 20000 in
theorem W_X11_asks_j16 {G : XG} {l : Launch} {kp : Bool} {p : Program} {e : Env} {s : State} {m : MethodId} {args : Array Value} {below : List Frame} {meth : Method} {c : Code} (hC : xC G p s m args meth c cX11_asks 5 RX11 (some .int)) {I : xTI} {L : xTL} {r : Int32} {rI : xTI} (hf : F_X11_asks_j16 I = some (r, rI)) : ∀ (H : Heap) (locs : List Loc) (ls : Array Slot), xRep G kp I L H → xS G s.heap H locs → lv_has ls 5 [(0, .ref (xz G + 57))] → W p l e (xrm 2 43) s m args below meth c H locs 0 0 (xMQ G kp below args s (some (.int r)) rI L) (F0 m 16 ls []) := by
  intro H locs ls hR hS hl
  unfold F_X11_asks_j16 at hf
  refine lv_aload_n hC.1 hC.2.1 dX11_asks_16 rfl (lv_at hl 0 rfl) ?_
  refine lv_bipush (v := (-3)) hC.1 hC.2.1 dX11_asks_17 (by decide) ?_
  refine x_cvi10 (rest := []) hC xy_X11_refuse tw_1338 hf (fun _ _ h => M_X11_refuse G l kp h) ⟨Nat.le_of_ble_eq_true rfl, Nat.le_of_ble_eq_true rfl⟩ (xce_57 G kp _ _) rfl rfl rfl (Nat.le_of_ble_eq_true rfl) hl.1 hR hS dX11_asks_19 ⟨Nat.le_refl _, Nat.le_refl _⟩ (fun v1 I2 hf H locs hR hS => ?_)
  obtain ⟨h91, h92⟩ := Prod.mk.inj (Option.some.inj hf)
  subst h91
  subst h92
  exact x_iret hC hR hS dX11_asks_22
set_option maxRecDepth 20000 in
theorem M_X11_asks (G : XG) (l : Launch) (kp : Bool) {I : xTI} {L : xTL} {x1 : Int32} {x2 : Int32} {x3 : Int32} {r : Int32} {rI : xTI} (hf : F_X11_asks I x1 x2 x3 = some (r, rI)) : xMet G l yX11_asks cX11_asks 5 (some .int) 2 43 kp [.ref (xz G + 57), .int x1, .int x2, .int x3] I L (some (.int r)) rI L := by
  refine xMet.ofW (by decide +kernel) (Nat.le_of_ble_eq_true rfl) ?_
  intro p e s m args below meth c hC H locs ls hR hS hl
  replace hC : xC G p s m args meth c cX11_asks 5 RX11 (some .int) := hC
  replace hl : lv_has ls 5 [(0, .ref (xz G + 57)), (1, .int x1), (2, .int x2), (3, .int x3)] := hl
  unfold F_X11_asks at hf
  refine lv_aload_n hC.1 hC.2.1 dX11_asks_0 rfl (lv_at hl 0 rfl) ?_
  refine lv_iload_n hC.1 hC.2.1 dX11_asks_1 rfl (lv_at hl 1 rfl) ?_
  refine x_cvi00 (rest := []) hC xy_X11_isMan tw_1355 hf (fun _ h => M_X11_isMan G l kp h) ⟨Nat.le_of_ble_eq_true rfl, Nat.le_of_ble_eq_true rfl⟩ (xce_57 G kp _ _) rfl rfl rfl (Nat.le_of_ble_eq_true rfl) hl.1 hR hS dX11_asks_2 ⟨Nat.le_refl _, Nat.le_refl _⟩ (fun v1 hf H locs hR hS => ?_)
  refine x_if_eq (tgt := 16) hC dX11_asks_5 (by decide) hf (fun hf => ?_) (fun hf => ?_)
  · exact W_X11_asks_j16 hC hf _ _ _ hR hS (lv_sub hl [0] rfl)
  · refine lv_aload_n hC.1 hC.2.1 dX11_asks_8 rfl (lv_at hl 0 rfl) ?_
    refine lv_iload_n hC.1 hC.2.1 dX11_asks_9 rfl (lv_at hl 2 rfl) ?_
    refine x_cvi00 (rest := []) hC xy_X11_isStock tw_1359 hf (fun _ h => M_X11_isStock G l kp h) ⟨Nat.le_of_ble_eq_true rfl, Nat.le_of_ble_eq_true rfl⟩ (xce_57 G kp _ _) rfl rfl rfl (Nat.le_of_ble_eq_true rfl) hl.1 hR hS dX11_asks_10 ⟨Nat.le_refl _, Nat.le_refl _⟩ (fun v2 hf H locs hR hS => ?_)
    refine x_if_ne (tgt := 23) hC dX11_asks_13 (by decide) hf (fun hf => ?_) (fun hf => ?_)
    · refine lv_iload_n hC.1 hC.2.1 dX11_asks_23 rfl (lv_at hl 3 rfl) ?_
      refine lv_iconst (v := 0) hC.1 hC.2.1 dX11_asks_24 (by decide) ?_
      refine lv_sipush (v := 9999) hC.1 hC.2.1 dX11_asks_25 (by decide) ?_
      refine x_csi00 (rest := []) hC xy_X11_in tw_1335 hf (fun _ h => M_X11_in G l kp h) ⟨Nat.le_of_ble_eq_true rfl, Nat.le_of_ble_eq_true rfl⟩ rfl rfl (Nat.le_of_ble_eq_true rfl) hl.1 hR hS dX11_asks_28 ⟨Nat.le_refl _, Nat.le_refl _⟩ (fun v3 hf H locs hR hS => ?_)
      refine x_if_ne (tgt := 41) hC dX11_asks_31 (by decide) hf (fun hf => ?_) (fun hf => ?_)
      · refine lv_aload_n hC.1 hC.2.1 dX11_asks_41 rfl (lv_at hl 0 rfl) ?_
        refine x_get (v := .ref (xz G + 58)) hC xf_X11_14 (xce_57 G kp _ _) rfl hR dX11_asks_42 ?_
        refine lv_bipush (v := 124) hC.1 hC.2.1 dX11_asks_45 (by decide) ?_
        refine lv_iconst (v := 5) hC.1 hC.2.1 dX11_asks_47 (by decide) ?_
        refine lv_iload_n hC.1 hC.2.1 dX11_asks_48 rfl (lv_at hl 1 rfl) ?_
        refine lv_imul hC.1 hC.2.1 dX11_asks_49 ?_
        refine lv_iadd hC.1 hC.2.1 dX11_asks_50 ?_
        refine lv_iload_n hC.1 hC.2.1 dX11_asks_51 rfl (lv_at hl 2 rfl) ?_
        refine lv_iadd hC.1 hC.2.1 dX11_asks_52 ?_
        refine x_ial hC (xce_58 G kp _ _) hR dX11_asks_53 hf (fun v4 hf => ?_)
        refine lv_istore (lv' := [(4, .int v4), (0, .ref (xz G + 57)), (1, .int x1), (2, .int x2), (3, .int x3)]) hC.1 hC.2.1 dX11_asks_54 hl (Nat.le_of_ble_eq_true rfl) rfl (fun ls hl => ?_)
        refine W.eq (g2 := F0 m 56 ls []) rfl ?_
        refine lv_aload_n hC.1 hC.2.1 dX11_asks_56 rfl (lv_at hl 1 rfl) ?_
        refine x_get (v := .ref (xz G + 58)) hC xf_X11_14 (xce_57 G kp _ _) rfl hR dX11_asks_57 ?_
        refine lv_bipush (v := 124) hC.1 hC.2.1 dX11_asks_60 (by decide) ?_
        refine lv_iconst (v := 5) hC.1 hC.2.1 dX11_asks_62 (by decide) ?_
        refine lv_iload_n hC.1 hC.2.1 dX11_asks_63 rfl (lv_at hl 2 rfl) ?_
        refine lv_imul hC.1 hC.2.1 dX11_asks_64 ?_
        refine lv_iadd hC.1 hC.2.1 dX11_asks_65 ?_
        refine lv_iload_n hC.1 hC.2.1 dX11_asks_66 rfl (lv_at hl 3 rfl) ?_
        refine lv_iadd hC.1 hC.2.1 dX11_asks_67 ?_
        refine lv_iload_n hC.1 hC.2.1 dX11_asks_68 rfl (lv_at hl 4 rfl) ?_
        refine x_ias hC (fun f => (xce_58 G kp f _)) hR hS dX11_asks_69 hf (fun I5 hf H locs hR hS => ?_)
        refine lv_iload hC.1 hC.2.1 dX11_asks_70 (lv_at hl 0 rfl) ?_
        refine W.eq (g2 := F0 m 72 ls [.int v4]) rfl ?_
        obtain ⟨h91, h92⟩ := Prod.mk.inj (Option.some.inj hf)
        subst h91
        subst h92
        exact x_iret hC hR hS dX11_asks_72
      · refine lv_aload_n hC.1 hC.2.1 dX11_asks_34 rfl (lv_at hl 0 rfl) ?_
        refine lv_bipush (v := (-7)) hC.1 hC.2.1 dX11_asks_35 (by decide) ?_
        refine x_cvi10 (rest := []) hC xy_X11_refuse tw_1338 hf (fun _ _ h => M_X11_refuse G l kp h) ⟨Nat.le_of_ble_eq_true rfl, Nat.le_of_ble_eq_true rfl⟩ (xce_57 G kp _ _) rfl rfl rfl (Nat.le_of_ble_eq_true rfl) hl.1 hR hS dX11_asks_37 ⟨Nat.le_refl _, Nat.le_refl _⟩ (fun v6 I7 hf H locs hR hS => ?_)
        obtain ⟨h91, h92⟩ := Prod.mk.inj (Option.some.inj hf)
        subst h91
        subst h92
        exact x_iret hC hR hS dX11_asks_40
    · exact W_X11_asks_j16 hC hf _ _ _ hR hS (lv_sub hl [0] rfl)
set_option maxRecDepth 20000 in
theorem M_X11_bg (G : XG) (l : Launch) (kp : Bool) {I : xTI} {L : xTL} {x1 : Int32} {x2 : Int32} {r : Int32} (hf : F_X11_bg I x1 x2 = some r) : xMet G l yX11_bg cX11_bg 3 (some .int) 0 0 kp [.ref (xz G + 57), .int x1, .int x2] I L (some (.int r)) I L := by
  refine xMet.ofW (by decide +kernel) (Nat.le_of_ble_eq_true rfl) ?_
  intro p e s m args below meth c hC H locs ls hR hS hl
  replace hC : xC G p s m args meth c cX11_bg 3 RX11 (some .int) := hC
  replace hl : lv_has ls 3 [(0, .ref (xz G + 57)), (1, .int x1), (2, .int x2)] := hl
  unfold F_X11_bg at hf
  refine lv_aload_n hC.1 hC.2.1 dX11_bg_0 rfl (lv_at hl 0 rfl) ?_
  refine x_get (v := .ref (xz G + 58)) hC xf_X11_14 (xce_57 G kp _ _) rfl hR dX11_bg_1 ?_
  refine lv_sipush (v := 192) hC.1 hC.2.1 dX11_bg_4 (by decide) ?_
  refine lv_bipush (v := 12) hC.1 hC.2.1 dX11_bg_7 (by decide) ?_
  refine lv_iload_n hC.1 hC.2.1 dX11_bg_9 rfl (lv_at hl 1 rfl) ?_
  refine lv_imul hC.1 hC.2.1 dX11_bg_10 ?_
  refine lv_iadd hC.1 hC.2.1 dX11_bg_11 ?_
  refine lv_iload_n hC.1 hC.2.1 dX11_bg_12 rfl (lv_at hl 2 rfl) ?_
  refine lv_iadd hC.1 hC.2.1 dX11_bg_13 ?_
  refine x_ial hC (xce_58 G kp _ _) hR dX11_bg_14 hf (fun v1 hf => ?_)
  have h9 := Option.some.inj hf
  subst h9
  exact x_iret hC hR hS dX11_bg_15
set_option maxRecDepth 20000 in
theorem M_X11_isLive (G : XG) (l : Launch) (kp : Bool) {I : xTI} {L : xTL} {x1 : Int32} {r : Int32} (hf : F_X11_isLive I x1 = some r) : xMet G l yX11_isLive cX11_isLive 2 (some .boolean) 1 22 kp [.ref (xz G + 57), .int x1] I L (some (.int r)) I L := by
  refine xMet.ofW (by decide +kernel) (Nat.le_of_ble_eq_true rfl) ?_
  intro p e s m args below meth c hC H locs ls hR hS hl
  replace hC : xC G p s m args meth c cX11_isLive 2 RX11 (some .boolean) := hC
  replace hl : lv_has ls 2 [(0, .ref (xz G + 57)), (1, .int x1)] := hl
  unfold F_X11_isLive at hf
  refine lv_aload_n hC.1 hC.2.1 dX11_isLive_0 rfl (lv_at hl 0 rfl) ?_
  refine lv_iload_n hC.1 hC.2.1 dX11_isLive_1 rfl (lv_at hl 1 rfl) ?_
  refine lv_iconst (v := 0) hC.1 hC.2.1 dX11_isLive_2 (by decide) ?_
  refine x_cvi00 (rest := []) hC xy_X11_bg tw_1383 hf (fun _ h => M_X11_bg G l kp h) ⟨Nat.le_of_ble_eq_true rfl, Nat.le_of_ble_eq_true rfl⟩ (xce_57 G kp _ _) rfl rfl rfl (Nat.le_of_ble_eq_true rfl) hl.1 hR hS dX11_isLive_3 ⟨Nat.le_refl _, Nat.le_refl _⟩ (fun v1 hf H locs hR hS => ?_)
  refine lv_iconst (v := 1) hC.1 hC.2.1 dX11_isLive_6 (by decide) ?_
  refine x_ic_ne (tgt := 25) hC dX11_isLive_7 (by decide) hf (fun hf => ?_) (fun hf => ?_)
  · refine lv_iconst (v := 0) hC.1 hC.2.1 dX11_isLive_25 (by decide) ?_
    obtain ⟨h01, hf⟩ := xzc_some hf
    have h9 := Option.some.inj hf
    subst h9
    exact x_zret h01 hC hR hS dX11_isLive_26
  · refine lv_aload_n hC.1 hC.2.1 dX11_isLive_10 rfl (lv_at hl 0 rfl) ?_
    refine lv_iload_n hC.1 hC.2.1 dX11_isLive_11 rfl (lv_at hl 1 rfl) ?_
    refine lv_bipush (v := 8) hC.1 hC.2.1 dX11_isLive_12 (by decide) ?_
    refine x_cvi00 (rest := []) hC xy_X11_bg tw_1383 hf (fun _ h => M_X11_bg G l kp h) ⟨Nat.le_of_ble_eq_true rfl, Nat.le_of_ble_eq_true rfl⟩ (xce_57 G kp _ _) rfl rfl rfl (Nat.le_of_ble_eq_true rfl) hl.1 hR hS dX11_isLive_14 ⟨Nat.le_refl _, Nat.le_refl _⟩ (fun v2 hf H locs hR hS => ?_)
    refine lv_iconst (v := 2) hC.1 hC.2.1 dX11_isLive_17 (by decide) ?_
    refine x_ic_ge (tgt := 25) hC dX11_isLive_18 (by decide) hf (fun hf => ?_) (fun hf => ?_)
    · refine lv_iconst (v := 0) hC.1 hC.2.1 dX11_isLive_25 (by decide) ?_
      obtain ⟨h01, hf⟩ := xzc_some hf
      have h9 := Option.some.inj hf
      subst h9
      exact x_zret h01 hC hR hS dX11_isLive_26
    · refine lv_iconst (v := 1) hC.1 hC.2.1 dX11_isLive_21 (by decide) ?_
      refine lv_goto (tgt := 26) hC.1 hC.2.1 dX11_isLive_22 (by decide) ?_
      obtain ⟨h01, hf⟩ := xzc_some hf
      have h9 := Option.some.inj hf
      subst h9
      exact x_zret h01 hC hR hS dX11_isLive_26
set_option maxRecDepth 20000 in
theorem W_X11_look_j69 {G : XG} {l : Launch} {kp : Bool} {p : Program} {e : Env} {s : State} {m : MethodId} {args : Array Value} {below : List Frame} {meth : Method} {c : Code} (hC : xC G p s m args meth c cX11_look 5 RX11 (some .int)) (N : Nat) {I : xTI} {L : xTL} {r : Int32} {rI : xTI} {x1 : Int32} {x4 : Int32} {t0 : Int32} {t1 : Int32} (k25 : Int32 × Int32 → Option (Int32 × xTI)) (hk25 : ∀ (x3 : Int32) (x4 : Int32) , k25 (x3, x4) = some (r, rI) → ∀ (H : Heap) (locs : List Loc) (ls : Array Slot), xRep G kp I L H → xS G s.heap H locs → lv_has ls 5 [(0, .ref (xz G + 57)), (1, .int x1), (3, .int x3), (4, .int x4)] → W p l e (xrm 2 43) s m args below meth c H locs 0 0 (xMQ G kp below args s (some (.int r)) rI L) (F0 m 25 ls [])) (hf : F_X11_look_j69 k25 N I x1 x4 t0 t1 = some (r, rI)) : ∀ (H : Heap) (locs : List Loc) (ls : Array Slot), xRep G kp I L H → xS G s.heap H locs → lv_has ls 5 [(0, .ref (xz G + 57)), (1, .int x1), (4, .int x4)] → W p l e (xrm 2 43) s m args below meth c H locs 0 0 (xMQ G kp below args s (some (.int r)) rI L) (F0 m 69 ls [.int t1, .int t0]) := by
  intro H locs ls hR hS hl
  unfold F_X11_look_j69 at hf
  refine lv_iadd hC.1 hC.2.1 dX11_look_69 ?_
  refine x_istn (lv' := fun y1 => [(3, .int y1), (0, .ref (xz G + 57)), (1, .int x1), (4, .int x4)]) hC hl dX11_look_70 rfl (Nat.le_of_ble_eq_true rfl) hf (fun _ => rfl) (fun y1 hf ls hl => ?_)
  refine x_iinc (d := 1) (lv' := fun y2 => [(4, .int y2), (3, .int y1), (0, .ref (xz G + 57)), (1, .int x1)]) (k := 3) hC hl dX11_look_71 rfl (by decide) (Nat.le_of_ble_eq_true rfl) hf (fun _ => rfl) (fun y2 hf ls hl => ?_)
  refine lv_goto (tgt := 25) hC.1 hC.2.1 dX11_look_74 (by decide) ?_
  exact hk25 y1 y2 hf _ _ _ hR hS (lv_sub hl [2, 3, 1, 0] rfl)
set_option maxRecDepth 20000 in
theorem W_X11_look_l25 {G : XG} {l : Launch} {kp : Bool} {p : Program} {e : Env} {s : State} {m : MethodId} {args : Array Value} {below : List Frame} {meth : Method} {c : Code} (hC : xC G p s m args meth c cX11_look 5 RX11 (some .int)) (N : Nat) {I : xTI} {L : xTL} {r : Int32} {rI : xTI} {x1 : Int32} : ∀ (n : Nat) (x3 : Int32) (x4 : Int32) , xlp (F_X11_look_b25 N I x1 ) n (x3, x4) = some (r, rI) → ∀ (H : Heap) (locs : List Loc) (ls : Array Slot), xRep G kp I L H → xS G s.heap H locs → lv_has ls 5 [(0, .ref (xz G + 57)), (1, .int x1), (3, .int x3), (4, .int x4)] → W p l e (xrm 2 43) s m args below meth c H locs 0 0 (xMQ G kp below args s (some (.int r)) rI L) (F0 m 25 ls []) := by
  intro n
  induction n with
  | zero =>
    intro x3 x4 hf
    cases hf
  | succ n hk25 =>
    intro x3 x4 hf H locs ls hR hS hl
    rw [xlp_s, E_X11_look_b25] at hf
    unfold F_X11_look_c25 at hf
    refine lv_iload hC.1 hC.2.1 dX11_look_25 (lv_at hl 3 rfl) ?_
    refine lv_bipush (v := 60) hC.1 hC.2.1 dX11_look_27 (by decide) ?_
    refine x_ic_ge (tgt := 77) hC dX11_look_29 (by decide) hf (fun hf => ?_) (fun hf => ?_)
    · refine lv_iload_n hC.1 hC.2.1 dX11_look_77 rfl (lv_at hl 2 rfl) ?_
      obtain ⟨h91, h92⟩ := Prod.mk.inj (Option.some.inj hf)
      subst h91
      subst h92
      exact x_iret hC hR hS dX11_look_78
    · refine lv_iload_n hC.1 hC.2.1 dX11_look_32 rfl (lv_at hl 2 rfl) ?_
      refine lv_aload_n hC.1 hC.2.1 dX11_look_33 rfl (lv_at hl 0 rfl) ?_
      refine lv_iload hC.1 hC.2.1 dX11_look_34 (lv_at hl 3 rfl) ?_
      refine x_cvi00 (rest := [.int x3]) hC xy_X11_isLive tw_1379 hf (fun _ h => M_X11_isLive G l kp h) ⟨Nat.le_of_ble_eq_true rfl, Nat.le_of_ble_eq_true rfl⟩ (xce_57 G kp _ _) rfl rfl rfl (Nat.le_of_ble_eq_true rfl) hl.1 hR hS dX11_look_36 ⟨Nat.le_refl _, Nat.le_refl _⟩ (fun v1 hf H locs hR hS => ?_)
      refine x_if_eq (tgt := 68) hC dX11_look_39 (by decide) hf (fun hf => ?_) (fun hf => ?_)
      · refine lv_iconst (v := 0) hC.1 hC.2.1 dX11_look_68 (by decide) ?_
        exact W_X11_look_j69 hC N _ hk25 hf _ _ _ hR hS (lv_sub hl [0, 1, 3] rfl)
      · refine lv_aload_n hC.1 hC.2.1 dX11_look_42 rfl (lv_at hl 0 rfl) ?_
        refine lv_iload hC.1 hC.2.1 dX11_look_43 (lv_at hl 3 rfl) ?_
        refine lv_iconst (v := 1) hC.1 hC.2.1 dX11_look_45 (by decide) ?_
        refine x_cvi00 (rest := [.int x3]) hC xy_X11_bg tw_1383 hf (fun _ h => M_X11_bg G l kp h) ⟨Nat.le_of_ble_eq_true rfl, Nat.le_of_ble_eq_true rfl⟩ (xce_57 G kp _ _) rfl rfl rfl (Nat.le_of_ble_eq_true rfl) hl.1 hR hS dX11_look_46 ⟨Nat.le_refl _, Nat.le_refl _⟩ (fun v2 hf H locs hR hS => ?_)
        refine lv_iload_n hC.1 hC.2.1 dX11_look_49 rfl (lv_at hl 1 rfl) ?_
        refine x_ic_eq (tgt := 64) hC dX11_look_50 (by decide) hf (fun hf => ?_) (fun hf => ?_)
        · refine lv_iconst (v := 1) hC.1 hC.2.1 dX11_look_64 (by decide) ?_
          refine lv_goto (tgt := 69) hC.1 hC.2.1 dX11_look_65 (by decide) ?_
          exact W_X11_look_j69 hC N _ hk25 hf _ _ _ hR hS (lv_sub hl [0, 1, 3] rfl)
        · refine lv_aload_n hC.1 hC.2.1 dX11_look_53 rfl (lv_at hl 0 rfl) ?_
          refine lv_iload hC.1 hC.2.1 dX11_look_54 (lv_at hl 3 rfl) ?_
          refine lv_iconst (v := 2) hC.1 hC.2.1 dX11_look_56 (by decide) ?_
          refine x_cvi00 (rest := [.int x3]) hC xy_X11_bg tw_1383 hf (fun _ h => M_X11_bg G l kp h) ⟨Nat.le_of_ble_eq_true rfl, Nat.le_of_ble_eq_true rfl⟩ (xce_57 G kp _ _) rfl rfl rfl (Nat.le_of_ble_eq_true rfl) hl.1 hR hS dX11_look_57 ⟨Nat.le_refl _, Nat.le_refl _⟩ (fun v3 hf H locs hR hS => ?_)
          refine lv_iload_n hC.1 hC.2.1 dX11_look_60 rfl (lv_at hl 1 rfl) ?_
          refine x_ic_ne (tgt := 68) hC dX11_look_61 (by decide) hf (fun hf => ?_) (fun hf => ?_)
          · refine lv_iconst (v := 0) hC.1 hC.2.1 dX11_look_68 (by decide) ?_
            exact W_X11_look_j69 hC N _ hk25 hf _ _ _ hR hS (lv_sub hl [0, 1, 3] rfl)
          · refine lv_iconst (v := 1) hC.1 hC.2.1 dX11_look_64 (by decide) ?_
            refine lv_goto (tgt := 69) hC.1 hC.2.1 dX11_look_65 (by decide) ?_
            exact W_X11_look_j69 hC N _ hk25 hf _ _ _ hR hS (lv_sub hl [0, 1, 3] rfl)
set_option maxRecDepth 20000 in
theorem M_X11_look (G : XG) (l : Launch) (kp : Bool) (N : Nat) {I : xTI} {L : xTL} {x1 : Int32} {x2 : Int32} {r : Int32} {rI : xTI} (hf : F_X11_look N I x1 x2 = some (r, rI)) : xMet G l yX11_look cX11_look 5 (some .int) 2 43 kp [.ref (xz G + 57), .int x1, .int x2] I L (some (.int r)) rI L := by
  refine xMet.ofW (by decide +kernel) (Nat.le_of_ble_eq_true rfl) ?_
  intro p e s m args below meth c hC H locs ls hR hS hl
  replace hC : xC G p s m args meth c cX11_look 5 RX11 (some .int) := hC
  replace hl : lv_has ls 5 [(0, .ref (xz G + 57)), (1, .int x1), (2, .int x2)] := hl
  unfold F_X11_look at hf
  refine lv_aload_n hC.1 hC.2.1 dX11_look_0 rfl (lv_at hl 0 rfl) ?_
  refine lv_iload_n hC.1 hC.2.1 dX11_look_1 rfl (lv_at hl 1 rfl) ?_
  refine x_cvi00 (rest := []) hC xy_X11_isMan tw_1355 hf (fun _ h => M_X11_isMan G l kp h) ⟨Nat.le_of_ble_eq_true rfl, Nat.le_of_ble_eq_true rfl⟩ (xce_57 G kp _ _) rfl rfl rfl (Nat.le_of_ble_eq_true rfl) hl.1 hR hS dX11_look_2 ⟨Nat.le_refl _, Nat.le_refl _⟩ (fun v1 hf H locs hR hS => ?_)
  refine x_if_ne (tgt := 15) hC dX11_look_5 (by decide) hf (fun hf => ?_) (fun hf => ?_)
  · refine lv_iload_n hC.1 hC.2.1 dX11_look_15 rfl (lv_at hl 2 rfl) ?_
    refine lv_iconst (v := 3) hC.1 hC.2.1 dX11_look_16 (by decide) ?_
    refine x_ic_ne (tgt := 79) hC dX11_look_17 (by decide) hf (fun hf => ?_) (fun hf => ?_)
    · refine lv_iload_n hC.1 hC.2.1 dX11_look_79 rfl (lv_at hl 2 rfl) ?_
      refine lv_iconst (v := 0) hC.1 hC.2.1 dX11_look_80 (by decide) ?_
      refine lv_iconst (v := 2) hC.1 hC.2.1 dX11_look_81 (by decide) ?_
      refine x_csi00 (rest := []) hC xy_X11_in tw_1335 hf (fun _ h => M_X11_in G l kp h) ⟨Nat.le_of_ble_eq_true rfl, Nat.le_of_ble_eq_true rfl⟩ rfl rfl (Nat.le_of_ble_eq_true rfl) hl.1 hR hS dX11_look_82 ⟨Nat.le_refl _, Nat.le_refl _⟩ (fun v2 hf H locs hR hS => ?_)
      refine x_if_eq (tgt := 104) hC dX11_look_85 (by decide) hf (fun hf => ?_) (fun hf => ?_)
      · refine lv_aload_n hC.1 hC.2.1 dX11_look_104 rfl (lv_at hl 0 rfl) ?_
        refine lv_bipush (v := (-7)) hC.1 hC.2.1 dX11_look_105 (by decide) ?_
        refine x_cvi10 (rest := []) hC xy_X11_refuse tw_1338 hf (fun _ _ h => M_X11_refuse G l kp h) ⟨Nat.le_of_ble_eq_true rfl, Nat.le_of_ble_eq_true rfl⟩ (xce_57 G kp _ _) rfl rfl rfl (Nat.le_of_ble_eq_true rfl) hl.1 hR hS dX11_look_107 ⟨Nat.le_refl _, Nat.le_refl _⟩ (fun v3 I4 hf H locs hR hS => ?_)
        obtain ⟨h91, h92⟩ := Prod.mk.inj (Option.some.inj hf)
        subst h91
        subst h92
        exact x_iret hC hR hS dX11_look_110
      · refine lv_aload_n hC.1 hC.2.1 dX11_look_88 rfl (lv_at hl 0 rfl) ?_
        refine x_get (v := .ref (xz G + 58)) hC xf_X11_14 (xce_57 G kp _ _) rfl hR dX11_look_89 ?_
        refine lv_bipush (v := 16) hC.1 hC.2.1 dX11_look_92 (by decide) ?_
        refine lv_iconst (v := 4) hC.1 hC.2.1 dX11_look_94 (by decide) ?_
        refine lv_iload_n hC.1 hC.2.1 dX11_look_95 rfl (lv_at hl 1 rfl) ?_
        refine lv_imul hC.1 hC.2.1 dX11_look_96 ?_
        refine lv_iadd hC.1 hC.2.1 dX11_look_97 ?_
        refine lv_iload_n hC.1 hC.2.1 dX11_look_98 rfl (lv_at hl 2 rfl) ?_
        refine lv_iadd hC.1 hC.2.1 dX11_look_99 ?_
        refine x_ial hC (xce_58 G kp _ _) hR dX11_look_100 hf (fun v5 hf => ?_)
        refine lv_goto (tgt := 110) hC.1 hC.2.1 dX11_look_101 (by decide) ?_
        refine W.eq (g2 := F0 m 110 ls [.int v5]) rfl ?_
        obtain ⟨h91, h92⟩ := Prod.mk.inj (Option.some.inj hf)
        subst h91
        subst h92
        exact x_iret hC hR hS dX11_look_110
    · refine lv_iconst (v := 0) hC.1 hC.2.1 dX11_look_20 (by decide) ?_
      refine lv_istore_n (lv' := [(3, .int 0), (0, .ref (xz G + 57)), (1, .int x1), (2, .int x2)]) hC.1 hC.2.1 dX11_look_21 rfl hl (Nat.le_of_ble_eq_true rfl) rfl (fun ls hl => ?_)
      refine lv_iconst (v := 0) hC.1 hC.2.1 dX11_look_22 (by decide) ?_
      refine lv_istore (lv' := [(4, .int 0), (3, .int 0), (0, .ref (xz G + 57)), (1, .int x1), (2, .int x2)]) hC.1 hC.2.1 dX11_look_23 hl (Nat.le_of_ble_eq_true rfl) rfl (fun ls hl => ?_)
      exact W_X11_look_l25 hC N _ 0 0 hf _ _ _ hR hS (lv_sub hl [2, 3, 1, 0] rfl)
  · refine lv_aload_n hC.1 hC.2.1 dX11_look_8 rfl (lv_at hl 0 rfl) ?_
    refine lv_bipush (v := (-3)) hC.1 hC.2.1 dX11_look_9 (by decide) ?_
    refine x_cvi10 (rest := []) hC xy_X11_refuse tw_1338 hf (fun _ _ h => M_X11_refuse G l kp h) ⟨Nat.le_of_ble_eq_true rfl, Nat.le_of_ble_eq_true rfl⟩ (xce_57 G kp _ _) rfl rfl rfl (Nat.le_of_ble_eq_true rfl) hl.1 hR hS dX11_look_11 ⟨Nat.le_refl _, Nat.le_refl _⟩ (fun v6 I7 hf H locs hR hS => ?_)
    obtain ⟨h91, h92⟩ := Prod.mk.inj (Option.some.inj hf)
    subst h91
    subst h92
    exact x_iret hC hR hS dX11_look_14
set_option maxRecDepth 20000 in
theorem M_X11_hush (G : XG) (l : Launch) (kp : Bool) {I : xTI} {L : xTL} {x1 : Int32} {r : Int32} {rI : xTI} (hf : F_X11_hush I x1 = some (r, rI)) : xMet G l yX11_hush cX11_hush 2 (some .int) 0 0 kp [.ref (xz G + 57), .int x1] I L (some (.int r)) rI L := by
  refine xMet.ofW (by decide +kernel) (Nat.le_of_ble_eq_true rfl) ?_
  intro p e s m args below meth c hC H locs ls hR hS hl
  replace hC : xC G p s m args meth c cX11_hush 2 RX11 (some .int) := hC
  replace hl : lv_has ls 2 [(0, .ref (xz G + 57)), (1, .int x1)] := hl
  unfold F_X11_hush at hf
  refine lv_aload_n hC.1 hC.2.1 dX11_hush_0 rfl (lv_at hl 0 rfl) ?_
  refine x_get (v := .ref (xz G + 60)) hC xf_X11_22 (xce_57 G kp _ _) rfl hR dX11_hush_1 ?_
  refine lv_iload_n hC.1 hC.2.1 dX11_hush_4 rfl (lv_at hl 1 rfl) ?_
  refine lv_ineg hC.1 hC.2.1 dX11_hush_5 ?_
  refine lv_dup2_11 hC.1 hC.2.1 dX11_hush_6 rfl rfl ?_
  refine x_ial hC (xce_60 G kp _ _) hR dX11_hush_7 hf (fun v1 hf => ?_)
  refine lv_iconst (v := 1) hC.1 hC.2.1 dX11_hush_8 (by decide) ?_
  refine lv_iadd hC.1 hC.2.1 dX11_hush_9 ?_
  refine x_ias hC (fun f => (xce_60 G kp f _)) hR hS dX11_hush_10 hf (fun I2 hf H locs hR hS => ?_)
  refine lv_iconst (v := 0) hC.1 hC.2.1 dX11_hush_11 (by decide) ?_
  obtain ⟨h91, h92⟩ := Prod.mk.inj (Option.some.inj hf)
  subst h91
  subst h92
  exact x_iret hC hR hS dX11_hush_12
set_option maxRecDepth 20000 in
theorem W_X11_coin_l61 {G : XG} {l : Launch} {kp : Bool} {p : Program} {e : Env} {s : State} {m : MethodId} {args : Array Value} {below : List Frame} {meth : Method} {c : Code} (hC : xC G p s m args meth c cX11_coin 6 RX11 (some .long)) (N : Nat) {I : xTI} {L : xTL} {r : Int64} {rI : xTI} {x1 : Int32} : ∀ (n : Nat) (x3 : Int64) (x5 : Int32) , xlp (F_X11_coin_b61 N I L x1 ) n (x3, x5) = some (r, rI) → ∀ (H : Heap) (locs : List Loc) (ls : Array Slot), xRep G kp I L H → xS G s.heap H locs → lv_has ls 6 [(0, .ref (xz G + 57)), (1, .int x1), (3, .long x3), (5, .int x5)] → W p l e (xrm 2 43) s m args below meth c H locs 0 0 (xMQ G kp below args s (some (.long r)) rI L) (F0 m 61 ls []) := by
  intro n
  induction n with
  | zero =>
    intro x3 x5 hf
    cases hf
  | succ n hk61 =>
    intro x3 x5 hf H locs ls hR hS hl
    rw [xlp_s, E_X11_coin_b61] at hf
    unfold F_X11_coin_c61 at hf
    refine lv_iload hC.1 hC.2.1 dX11_coin_61 (lv_at hl 3 rfl) ?_
    refine lv_bipush (v := 12) hC.1 hC.2.1 dX11_coin_63 (by decide) ?_
    refine x_ic_ge (tgt := 92) hC dX11_coin_65 (by decide) hf (fun hf => ?_) (fun hf => ?_)
    · refine lv_lload_n hC.1 hC.2.1 dX11_coin_92 rfl (lv_at hl 2 rfl) ?_
      obtain ⟨h91, h92⟩ := Prod.mk.inj (Option.some.inj hf)
      subst h91
      subst h92
      exact x_lret hC hR hS dX11_coin_93
    · refine lv_lload_n hC.1 hC.2.1 dX11_coin_68 rfl (lv_at hl 2 rfl) ?_
      refine lv_aload_n hC.1 hC.2.1 dX11_coin_69 rfl (lv_at hl 0 rfl) ?_
      refine x_get (v := .ref (xz G + 59)) hC xf_X11_18 (xce_57 G kp _ _) rfl hR dX11_coin_70 ?_
      refine lv_bipush (v := 24) hC.1 hC.2.1 dX11_coin_73 (by decide) ?_
      refine lv_bipush (v := 12) hC.1 hC.2.1 dX11_coin_75 (by decide) ?_
      refine lv_iload_n hC.1 hC.2.1 dX11_coin_77 rfl (lv_at hl 1 rfl) ?_
      refine lv_imul hC.1 hC.2.1 dX11_coin_78 ?_
      refine lv_iadd hC.1 hC.2.1 dX11_coin_79 ?_
      refine lv_iload hC.1 hC.2.1 dX11_coin_80 (lv_at hl 3 rfl) ?_
      refine lv_iadd hC.1 hC.2.1 dX11_coin_82 ?_
      refine x_lal hC (xce_59 G kp _ _) hR dX11_coin_83 hf (fun v1 hf => ?_)
      refine W.eq (g2 := F0 m 84 ls [.long v1, .long x3]) rfl ?_
      refine lv_ladd hC.1 hC.2.1 dX11_coin_84 ?_
      refine x_lstn (lv' := fun y2 => [(3, .long y2), (0, .ref (xz G + 57)), (1, .int x1), (5, .int x5)]) hC hl dX11_coin_85 rfl (Nat.le_of_ble_eq_true rfl) hf (fun _ => rfl) (fun y2 hf ls hl => ?_)
      refine x_iinc (d := 1) (lv' := fun y3 => [(5, .int y3), (3, .long y2), (0, .ref (xz G + 57)), (1, .int x1)]) (k := 3) hC hl dX11_coin_86 rfl (by decide) (Nat.le_of_ble_eq_true rfl) hf (fun _ => rfl) (fun y3 hf ls hl => ?_)
      refine lv_goto (tgt := 61) hC.1 hC.2.1 dX11_coin_89 (by decide) ?_
      exact hk61 y2 y3 hf _ _ _ hR hS (lv_sub hl [2, 3, 1, 0] rfl)
set_option maxRecDepth 20000 in
theorem W_X11_coin_j52 {G : XG} {l : Launch} {kp : Bool} {p : Program} {e : Env} {s : State} {m : MethodId} {args : Array Value} {below : List Frame} {meth : Method} {c : Code} (hC : xC G p s m args meth c cX11_coin 6 RX11 (some .long)) (N : Nat) {I : xTI} {L : xTL} {r : Int64} {rI : xTI} {x1 : Int32} {t1 : Int32} (hf : F_X11_coin_j52 N I L x1 t1 = some (r, rI)) : ∀ (H : Heap) (locs : List Loc) (ls : Array Slot), xRep G kp I L H → xS G s.heap H locs → lv_has ls 6 [(1, .int x1)] → W p l e (xrm 2 43) s m args below meth c H locs 0 0 (xMQ G kp below args s (some (.long r)) rI L) (F0 m 52 ls [.int t1, .ref (xz G + 59)]) := by
  intro H locs ls hR hS hl
  unfold F_X11_coin_j52 at hf
  refine lv_iload_n hC.1 hC.2.1 dX11_coin_52 rfl (lv_at hl 0 rfl) ?_
  refine lv_iadd hC.1 hC.2.1 dX11_coin_53 ?_
  refine x_lal hC (xce_59 G kp _ _) hR dX11_coin_54 hf (fun v1 hf => ?_)
  obtain ⟨h91, h92⟩ := Prod.mk.inj (Option.some.inj hf)
  subst h91
  subst h92
  exact x_lret hC hR hS dX11_coin_55
set_option maxRecDepth 20000 in
theorem M_X11_coin (G : XG) (l : Launch) (kp : Bool) (N : Nat) {I : xTI} {L : xTL} {x1 : Int32} {x2 : Int32} {r : Int64} {rI : xTI} (hf : F_X11_coin N I L x1 x2 = some (r, rI)) : xMet G l yX11_coin cX11_coin 6 (some .long) 2 43 kp [.ref (xz G + 57), .int x1, .int x2] I L (some (.long r)) rI L := by
  refine xMet.ofW (by decide +kernel) (Nat.le_of_ble_eq_true rfl) ?_
  intro p e s m args below meth c hC H locs ls hR hS hl
  replace hC : xC G p s m args meth c cX11_coin 6 RX11 (some .long) := hC
  replace hl : lv_has ls 6 [(0, .ref (xz G + 57)), (1, .int x1), (2, .int x2)] := hl
  unfold F_X11_coin at hf
  refine lv_aload_n hC.1 hC.2.1 dX11_coin_0 rfl (lv_at hl 0 rfl) ?_
  refine lv_iload_n hC.1 hC.2.1 dX11_coin_1 rfl (lv_at hl 1 rfl) ?_
  refine x_cvi00 (rest := []) hC xy_X11_isMan tw_1355 hf (fun _ h => M_X11_isMan G l kp h) ⟨Nat.le_of_ble_eq_true rfl, Nat.le_of_ble_eq_true rfl⟩ (xce_57 G kp _ _) rfl rfl rfl (Nat.le_of_ble_eq_true rfl) hl.1 hR hS dX11_coin_2 ⟨Nat.le_refl _, Nat.le_refl _⟩ (fun v1 hf H locs hR hS => ?_)
  refine x_if_ne (tgt := 16) hC dX11_coin_5 (by decide) hf (fun hf => ?_) (fun hf => ?_)
  · refine lv_iload_n hC.1 hC.2.1 dX11_coin_16 rfl (lv_at hl 2 rfl) ?_
    refine lv_iconst (v := 0) hC.1 hC.2.1 dX11_coin_17 (by decide) ?_
    refine lv_iconst (v := 2) hC.1 hC.2.1 dX11_coin_18 (by decide) ?_
    refine x_csi00 (rest := []) hC xy_X11_in tw_1335 hf (fun _ h => M_X11_in G l kp h) ⟨Nat.le_of_ble_eq_true rfl, Nat.le_of_ble_eq_true rfl⟩ rfl rfl (Nat.le_of_ble_eq_true rfl) hl.1 hR hS dX11_coin_19 ⟨Nat.le_refl _, Nat.le_refl _⟩ (fun v2 hf H locs hR hS => ?_)
    refine x_if_ne (tgt := 33) hC dX11_coin_22 (by decide) hf (fun hf => ?_) (fun hf => ?_)
    · refine lv_iload_n hC.1 hC.2.1 dX11_coin_33 rfl (lv_at hl 2 rfl) ?_
      refine lv_iconst (v := 2) hC.1 hC.2.1 dX11_coin_34 (by decide) ?_
      refine x_ic_ge (tgt := 56) hC dX11_coin_35 (by decide) hf (fun hf => ?_) (fun hf => ?_)
      · refine lv_lconst (v := 0) hC.1 hC.2.1 dX11_coin_56 (by decide) ?_
        refine lv_lstore_n (lv' := [(3, .long 0), (0, .ref (xz G + 57)), (1, .int x1), (2, .int x2)]) hC.1 hC.2.1 dX11_coin_57 rfl hl (Nat.le_of_ble_eq_true rfl) rfl (fun ls hl => ?_)
        refine lv_iconst (v := 0) hC.1 hC.2.1 dX11_coin_58 (by decide) ?_
        refine lv_istore (lv' := [(5, .int 0), (3, .long 0), (0, .ref (xz G + 57)), (1, .int x1), (2, .int x2)]) hC.1 hC.2.1 dX11_coin_59 hl (Nat.le_of_ble_eq_true rfl) rfl (fun ls hl => ?_)
        exact W_X11_coin_l61 hC N _ 0 0 hf _ _ _ hR hS (lv_sub hl [2, 3, 1, 0] rfl)
      · refine lv_aload_n hC.1 hC.2.1 dX11_coin_38 rfl (lv_at hl 0 rfl) ?_
        refine x_get (v := .ref (xz G + 59)) hC xf_X11_18 (xce_57 G kp _ _) rfl hR dX11_coin_39 ?_
        refine lv_iload_n hC.1 hC.2.1 dX11_coin_42 rfl (lv_at hl 2 rfl) ?_
        refine x_if_ne (tgt := 50) hC dX11_coin_43 (by decide) hf (fun hf => ?_) (fun hf => ?_)
        · refine lv_bipush (v := 12) hC.1 hC.2.1 dX11_coin_50 (by decide) ?_
          exact W_X11_coin_j52 hC N hf _ _ _ hR hS (lv_sub hl [1] rfl)
        · refine lv_iconst (v := 0) hC.1 hC.2.1 dX11_coin_46 (by decide) ?_
          refine lv_goto (tgt := 52) hC.1 hC.2.1 dX11_coin_47 (by decide) ?_
          exact W_X11_coin_j52 hC N hf _ _ _ hR hS (lv_sub hl [1] rfl)
    · refine lv_aload_n hC.1 hC.2.1 dX11_coin_25 rfl (lv_at hl 0 rfl) ?_
      refine lv_bipush (v := (-7)) hC.1 hC.2.1 dX11_coin_26 (by decide) ?_
      refine x_cvi10 (rest := []) hC xy_X11_hush tw_1391 hf (fun _ _ h => M_X11_hush G l kp h) ⟨Nat.le_of_ble_eq_true rfl, Nat.le_of_ble_eq_true rfl⟩ (xce_57 G kp _ _) rfl rfl rfl (Nat.le_of_ble_eq_true rfl) hl.1 hR hS dX11_coin_28 ⟨Nat.le_refl _, Nat.le_refl _⟩ (fun v3 I4 hf H locs hR hS => ?_)
      refine lv_i2l hC.1 hC.2.1 dX11_coin_31 rfl ?_
      obtain ⟨h91, h92⟩ := Prod.mk.inj (Option.some.inj hf)
      subst h91
      subst h92
      exact x_lret hC hR hS dX11_coin_32
  · refine lv_aload_n hC.1 hC.2.1 dX11_coin_8 rfl (lv_at hl 0 rfl) ?_
    refine lv_bipush (v := (-3)) hC.1 hC.2.1 dX11_coin_9 (by decide) ?_
    refine x_cvi10 (rest := []) hC xy_X11_hush tw_1391 hf (fun _ _ h => M_X11_hush G l kp h) ⟨Nat.le_of_ble_eq_true rfl, Nat.le_of_ble_eq_true rfl⟩ (xce_57 G kp _ _) rfl rfl rfl (Nat.le_of_ble_eq_true rfl) hl.1 hR hS dX11_coin_11 ⟨Nat.le_refl _, Nat.le_refl _⟩ (fun v5 I6 hf H locs hR hS => ?_)
    refine lv_i2l hC.1 hC.2.1 dX11_coin_14 rfl ?_
    obtain ⟨h91, h92⟩ := Prod.mk.inj (Option.some.inj hf)
    subst h91
    subst h92
    exact x_lret hC hR hS dX11_coin_15
set_option maxRecDepth 20000 in
theorem M_X11_stands (G : XG) (l : Launch) (kp : Bool) {I : xTI} {L : xTL} {x1 : Int32} {r : Int32} (hf : F_X11_stands I x1 = some r) : xMet G l yX11_stands cX11_stands 2 (some .boolean) 1 22 kp [.ref (xz G + 57), .int x1] I L (some (.int r)) I L := by
  refine xMet.ofW (by decide +kernel) (Nat.le_of_ble_eq_true rfl) ?_
  intro p e s m args below meth c hC H locs ls hR hS hl
  replace hC : xC G p s m args meth c cX11_stands 2 RX11 (some .boolean) := hC
  replace hl : lv_has ls 2 [(0, .ref (xz G + 57)), (1, .int x1)] := hl
  unfold F_X11_stands at hf
  refine lv_aload_n hC.1 hC.2.1 dX11_stands_0 rfl (lv_at hl 0 rfl) ?_
  refine lv_iload_n hC.1 hC.2.1 dX11_stands_1 rfl (lv_at hl 1 rfl) ?_
  refine lv_iconst (v := 0) hC.1 hC.2.1 dX11_stands_2 (by decide) ?_
  refine x_cvi00 (rest := []) hC xy_X11_bg tw_1383 hf (fun _ h => M_X11_bg G l kp h) ⟨Nat.le_of_ble_eq_true rfl, Nat.le_of_ble_eq_true rfl⟩ (xce_57 G kp _ _) rfl rfl rfl (Nat.le_of_ble_eq_true rfl) hl.1 hR hS dX11_stands_3 ⟨Nat.le_refl _, Nat.le_refl _⟩ (fun v1 hf H locs hR hS => ?_)
  refine lv_iconst (v := 1) hC.1 hC.2.1 dX11_stands_6 (by decide) ?_
  refine x_ic_ne (tgt := 25) hC dX11_stands_7 (by decide) hf (fun hf => ?_) (fun hf => ?_)
  · refine lv_iconst (v := 0) hC.1 hC.2.1 dX11_stands_25 (by decide) ?_
    obtain ⟨h01, hf⟩ := xzc_some hf
    have h9 := Option.some.inj hf
    subst h9
    exact x_zret h01 hC hR hS dX11_stands_26
  · refine lv_aload_n hC.1 hC.2.1 dX11_stands_10 rfl (lv_at hl 0 rfl) ?_
    refine lv_iload_n hC.1 hC.2.1 dX11_stands_11 rfl (lv_at hl 1 rfl) ?_
    refine lv_bipush (v := 8) hC.1 hC.2.1 dX11_stands_12 (by decide) ?_
    refine x_cvi00 (rest := []) hC xy_X11_bg tw_1383 hf (fun _ h => M_X11_bg G l kp h) ⟨Nat.le_of_ble_eq_true rfl, Nat.le_of_ble_eq_true rfl⟩ (xce_57 G kp _ _) rfl rfl rfl (Nat.le_of_ble_eq_true rfl) hl.1 hR hS dX11_stands_14 ⟨Nat.le_refl _, Nat.le_refl _⟩ (fun v2 hf H locs hR hS => ?_)
    refine lv_iconst (v := 1) hC.1 hC.2.1 dX11_stands_17 (by decide) ?_
    refine x_ic_ne (tgt := 25) hC dX11_stands_18 (by decide) hf (fun hf => ?_) (fun hf => ?_)
    · refine lv_iconst (v := 0) hC.1 hC.2.1 dX11_stands_25 (by decide) ?_
      obtain ⟨h01, hf⟩ := xzc_some hf
      have h9 := Option.some.inj hf
      subst h9
      exact x_zret h01 hC hR hS dX11_stands_26
    · refine lv_iconst (v := 1) hC.1 hC.2.1 dX11_stands_21 (by decide) ?_
      refine lv_goto (tgt := 26) hC.1 hC.2.1 dX11_stands_22 (by decide) ?_
      obtain ⟨h01, hf⟩ := xzc_some hf
      have h9 := Option.some.inj hf
      subst h9
      exact x_zret h01 hC hR hS dX11_stands_26
set_option maxRecDepth 20000 in
theorem W_X11_net_j99 {G : XG} {l : Launch} {kp : Bool} {p : Program} {e : Env} {s : State} {m : MethodId} {args : Array Value} {below : List Frame} {meth : Method} {c : Code} (hC : xC G p s m args meth c cX11_net 6 RX11 (some .int)) (N : Nat) {I : xTI} {L : xTL} {r : Int32} {x1 : Int32} {x2 : Int32} {x3 : Int32} {x5 : Int32} {t0 : Int32} {t1 : Int32} (k6 : Int32 × Int32 → Option (Int32)) (hk6 : ∀ (x4 : Int32) (x5 : Int32) , k6 (x4, x5) = some r → ∀ (H : Heap) (locs : List Loc) (ls : Array Slot), xRep G kp I L H → xS G s.heap H locs → lv_has ls 6 [(0, .ref (xz G + 57)), (1, .int x1), (2, .int x2), (3, .int x3), (4, .int x4), (5, .int x5)] → W p l e (xrm 2 43) s m args below meth c H locs 0 0 (xMQ G kp below args s (some (.int r)) I L) (F0 m 6 ls [])) (hf : F_X11_net_j99 k6 N I x1 x2 x3 x5 t0 t1 = some r) : ∀ (H : Heap) (locs : List Loc) (ls : Array Slot), xRep G kp I L H → xS G s.heap H locs → lv_has ls 6 [(0, .ref (xz G + 57)), (1, .int x1), (2, .int x2), (3, .int x3), (5, .int x5)] → W p l e (xrm 2 43) s m args below meth c H locs 0 0 (xMQ G kp below args s (some (.int r)) I L) (F0 m 99 ls [.int t1, .int t0]) := by
  intro H locs ls hR hS hl
  unfold F_X11_net_j99 at hf
  refine lv_isub hC.1 hC.2.1 dX11_net_99 ?_
  refine x_ist (lv' := fun y1 => [(4, .int y1), (0, .ref (xz G + 57)), (1, .int x1), (2, .int x2), (3, .int x3), (5, .int x5)]) hC hl dX11_net_100 (Nat.le_of_ble_eq_true rfl) hf (fun _ => rfl) (fun y1 hf ls hl => ?_)
  refine x_iinc (d := 1) (lv' := fun y2 => [(5, .int y2), (4, .int y1), (0, .ref (xz G + 57)), (1, .int x1), (2, .int x2), (3, .int x3)]) (k := 5) hC hl dX11_net_102 rfl (by decide) (Nat.le_of_ble_eq_true rfl) hf (fun _ => rfl) (fun y2 hf ls hl => ?_)
  refine lv_goto (tgt := 6) hC.1 hC.2.1 dX11_net_105 (by decide) ?_
  exact hk6 y1 y2 hf _ _ _ hR hS (lv_sub hl [2, 3, 4, 5, 1, 0] rfl)
set_option maxRecDepth 20000 in
theorem W_X11_net_j72 {G : XG} {l : Launch} {kp : Bool} {p : Program} {e : Env} {s : State} {m : MethodId} {args : Array Value} {below : List Frame} {meth : Method} {c : Code} (hC : xC G p s m args meth c cX11_net 6 RX11 (some .int)) (N : Nat) {I : xTI} {L : xTL} {r : Int32} {x1 : Int32} {x2 : Int32} {x3 : Int32} {x5 : Int32} {t0 : Int32} {t1 : Int32} (k6 : Int32 × Int32 → Option (Int32)) (hk6 : ∀ (x4 : Int32) (x5 : Int32) , k6 (x4, x5) = some r → ∀ (H : Heap) (locs : List Loc) (ls : Array Slot), xRep G kp I L H → xS G s.heap H locs → lv_has ls 6 [(0, .ref (xz G + 57)), (1, .int x1), (2, .int x2), (3, .int x3), (4, .int x4), (5, .int x5)] → W p l e (xrm 2 43) s m args below meth c H locs 0 0 (xMQ G kp below args s (some (.int r)) I L) (F0 m 6 ls [])) (hf : F_X11_net_j72 k6 N I x1 x2 x3 x5 t0 t1 = some r) : ∀ (H : Heap) (locs : List Loc) (ls : Array Slot), xRep G kp I L H → xS G s.heap H locs → lv_has ls 6 [(0, .ref (xz G + 57)), (1, .int x1), (2, .int x2), (3, .int x3), (5, .int x5)] → W p l e (xrm 2 43) s m args below meth c H locs 0 0 (xMQ G kp below args s (some (.int r)) I L) (F0 m 72 ls [.int t1, .int t0]) := by
  intro H locs ls hR hS hl
  unfold F_X11_net_j72 at hf
  refine lv_iadd hC.1 hC.2.1 dX11_net_72 ?_
  refine x_ist (lv' := fun y1 => [(4, .int y1), (0, .ref (xz G + 57)), (1, .int x1), (2, .int x2), (3, .int x3), (5, .int x5)]) hC hl dX11_net_73 (Nat.le_of_ble_eq_true rfl) hf (fun _ => rfl) (fun y1 hf ls hl => ?_)
  refine lv_iload hC.1 hC.2.1 dX11_net_75 (lv_at hl 0 rfl) ?_
  refine lv_aload_n hC.1 hC.2.1 dX11_net_77 rfl (lv_at hl 1 rfl) ?_
  refine lv_iload hC.1 hC.2.1 dX11_net_78 (lv_at hl 5 rfl) ?_
  refine lv_iconst (v := 1) hC.1 hC.2.1 dX11_net_80 (by decide) ?_
  refine x_cvi00 (rest := [.int y1]) hC xy_X11_bg tw_1383 hf (fun _ h => M_X11_bg G l kp h) ⟨Nat.le_of_ble_eq_true rfl, Nat.le_of_ble_eq_true rfl⟩ (xce_57 G kp _ _) rfl rfl rfl (Nat.le_of_ble_eq_true rfl) hl.1 hR hS dX11_net_81 ⟨Nat.le_refl _, Nat.le_refl _⟩ (fun v2 hf H locs hR hS => ?_)
  refine lv_iload_n hC.1 hC.2.1 dX11_net_84 rfl (lv_at hl 2 rfl) ?_
  refine x_ic_ne (tgt := 98) hC dX11_net_85 (by decide) hf (fun hf => ?_) (fun hf => ?_)
  · refine lv_iconst (v := 0) hC.1 hC.2.1 dX11_net_98 (by decide) ?_
    exact W_X11_net_j99 hC N _ hk6 hf _ _ _ hR hS (lv_sub hl [1, 2, 3, 4, 5] rfl)
  · refine lv_aload_n hC.1 hC.2.1 dX11_net_88 rfl (lv_at hl 1 rfl) ?_
    refine lv_iload hC.1 hC.2.1 dX11_net_89 (lv_at hl 5 rfl) ?_
    refine lv_iconst (v := 4) hC.1 hC.2.1 dX11_net_91 (by decide) ?_
    refine x_cvi00 (rest := [.int y1]) hC xy_X11_bg tw_1383 hf (fun _ h => M_X11_bg G l kp h) ⟨Nat.le_of_ble_eq_true rfl, Nat.le_of_ble_eq_true rfl⟩ (xce_57 G kp _ _) rfl rfl rfl (Nat.le_of_ble_eq_true rfl) hl.1 hR hS dX11_net_92 ⟨Nat.le_refl _, Nat.le_refl _⟩ (fun v3 hf H locs hR hS => ?_)
    refine lv_goto (tgt := 99) hC.1 hC.2.1 dX11_net_95 (by decide) ?_
    exact W_X11_net_j99 hC N _ hk6 hf _ _ _ hR hS (lv_sub hl [1, 2, 3, 4, 5] rfl)
set_option maxRecDepth 20000 in
theorem W_X11_net_l6 {G : XG} {l : Launch} {kp : Bool} {p : Program} {e : Env} {s : State} {m : MethodId} {args : Array Value} {below : List Frame} {meth : Method} {c : Code} (hC : xC G p s m args meth c cX11_net 6 RX11 (some .int)) (N : Nat) {I : xTI} {L : xTL} {r : Int32} {x1 : Int32} {x2 : Int32} {x3 : Int32} : ∀ (n : Nat) (x4 : Int32) (x5 : Int32) , xlp (F_X11_net_b6 N I x1 x2 x3 ) n (x4, x5) = some r → ∀ (H : Heap) (locs : List Loc) (ls : Array Slot), xRep G kp I L H → xS G s.heap H locs → lv_has ls 6 [(0, .ref (xz G + 57)), (1, .int x1), (2, .int x2), (3, .int x3), (4, .int x4), (5, .int x5)] → W p l e (xrm 2 43) s m args below meth c H locs 0 0 (xMQ G kp below args s (some (.int r)) I L) (F0 m 6 ls []) := by
  intro n
  induction n with
  | zero =>
    intro x4 x5 hf
    cases hf
  | succ n hk6 =>
    intro x4 x5 hf H locs ls hR hS hl
    rw [xlp_s, E_X11_net_b6] at hf
    unfold F_X11_net_c6 at hf
    refine lv_iload hC.1 hC.2.1 dX11_net_6 (lv_at hl 5 rfl) ?_
    refine lv_bipush (v := 60) hC.1 hC.2.1 dX11_net_8 (by decide) ?_
    refine x_ic_ge (tgt := 108) hC dX11_net_10 (by decide) hf (fun hf => ?_) (fun hf => ?_)
    · refine lv_iload hC.1 hC.2.1 dX11_net_108 (lv_at hl 4 rfl) ?_
      have h9 := Option.some.inj hf
      subst h9
      exact x_iret hC hR hS dX11_net_110
    · refine lv_aload_n hC.1 hC.2.1 dX11_net_13 rfl (lv_at hl 0 rfl) ?_
      refine lv_iload hC.1 hC.2.1 dX11_net_14 (lv_at hl 5 rfl) ?_
      refine x_cvi00 (rest := []) hC xy_X11_stands tw_1403 hf (fun _ h => M_X11_stands G l kp h) ⟨Nat.le_of_ble_eq_true rfl, Nat.le_of_ble_eq_true rfl⟩ (xce_57 G kp _ _) rfl rfl rfl (Nat.le_of_ble_eq_true rfl) hl.1 hR hS dX11_net_16 ⟨Nat.le_refl _, Nat.le_refl _⟩ (fun v1 hf H locs hR hS => ?_)
      refine x_if_eq (tgt := 102) hC dX11_net_19 (by decide) hf (fun hf => ?_) (fun hf => ?_)
      · refine x_iinc (d := 1) (lv' := fun y2 => [(5, .int y2), (0, .ref (xz G + 57)), (1, .int x1), (2, .int x2), (3, .int x3), (4, .int x4)]) (k := 5) hC hl dX11_net_102 rfl (by decide) (Nat.le_of_ble_eq_true rfl) hf (fun _ => rfl) (fun y2 hf ls hl => ?_)
        refine lv_goto (tgt := 6) hC.1 hC.2.1 dX11_net_105 (by decide) ?_
        exact hk6 x4 y2 hf _ _ _ hR hS (lv_sub hl [1, 2, 3, 4, 5, 0] rfl)
      · refine lv_aload_n hC.1 hC.2.1 dX11_net_22 rfl (lv_at hl 0 rfl) ?_
        refine lv_iload hC.1 hC.2.1 dX11_net_23 (lv_at hl 5 rfl) ?_
        refine lv_iconst (v := 3) hC.1 hC.2.1 dX11_net_25 (by decide) ?_
        refine x_cvi00 (rest := []) hC xy_X11_bg tw_1383 hf (fun _ h => M_X11_bg G l kp h) ⟨Nat.le_of_ble_eq_true rfl, Nat.le_of_ble_eq_true rfl⟩ (xce_57 G kp _ _) rfl rfl rfl (Nat.le_of_ble_eq_true rfl) hl.1 hR hS dX11_net_26 ⟨Nat.le_refl _, Nat.le_refl _⟩ (fun v3 hf H locs hR hS => ?_)
        refine lv_iload_n hC.1 hC.2.1 dX11_net_29 rfl (lv_at hl 2 rfl) ?_
        refine x_ic_ne (tgt := 102) hC dX11_net_30 (by decide) hf (fun hf => ?_) (fun hf => ?_)
        · refine x_iinc (d := 1) (lv' := fun y4 => [(5, .int y4), (0, .ref (xz G + 57)), (1, .int x1), (2, .int x2), (3, .int x3), (4, .int x4)]) (k := 5) hC hl dX11_net_102 rfl (by decide) (Nat.le_of_ble_eq_true rfl) hf (fun _ => rfl) (fun y4 hf ls hl => ?_)
          refine lv_goto (tgt := 6) hC.1 hC.2.1 dX11_net_105 (by decide) ?_
          exact hk6 x4 y4 hf _ _ _ hR hS (lv_sub hl [1, 2, 3, 4, 5, 0] rfl)
        · refine lv_aload_n hC.1 hC.2.1 dX11_net_33 rfl (lv_at hl 0 rfl) ?_
          refine lv_iload hC.1 hC.2.1 dX11_net_34 (lv_at hl 5 rfl) ?_
          refine lv_bipush (v := 7) hC.1 hC.2.1 dX11_net_36 (by decide) ?_
          refine x_cvi00 (rest := []) hC xy_X11_bg tw_1383 hf (fun _ h => M_X11_bg G l kp h) ⟨Nat.le_of_ble_eq_true rfl, Nat.le_of_ble_eq_true rfl⟩ (xce_57 G kp _ _) rfl rfl rfl (Nat.le_of_ble_eq_true rfl) hl.1 hR hS dX11_net_38 ⟨Nat.le_refl _, Nat.le_refl _⟩ (fun v5 hf H locs hR hS => ?_)
          refine lv_iload_n hC.1 hC.2.1 dX11_net_41 rfl (lv_at hl 3 rfl) ?_
          refine x_ic_eq (tgt := 48) hC dX11_net_42 (by decide) hf (fun hf => ?_) (fun hf => ?_)
          · refine lv_iload hC.1 hC.2.1 dX11_net_48 (lv_at hl 4 rfl) ?_
            refine lv_aload_n hC.1 hC.2.1 dX11_net_50 rfl (lv_at hl 0 rfl) ?_
            refine lv_iload hC.1 hC.2.1 dX11_net_51 (lv_at hl 5 rfl) ?_
            refine lv_iconst (v := 2) hC.1 hC.2.1 dX11_net_53 (by decide) ?_
            refine x_cvi00 (rest := [.int x4]) hC xy_X11_bg tw_1383 hf (fun _ h => M_X11_bg G l kp h) ⟨Nat.le_of_ble_eq_true rfl, Nat.le_of_ble_eq_true rfl⟩ (xce_57 G kp _ _) rfl rfl rfl (Nat.le_of_ble_eq_true rfl) hl.1 hR hS dX11_net_54 ⟨Nat.le_refl _, Nat.le_refl _⟩ (fun v6 hf H locs hR hS => ?_)
            refine lv_iload_n hC.1 hC.2.1 dX11_net_57 rfl (lv_at hl 1 rfl) ?_
            refine x_ic_ne (tgt := 71) hC dX11_net_58 (by decide) hf (fun hf => ?_) (fun hf => ?_)
            · refine lv_iconst (v := 0) hC.1 hC.2.1 dX11_net_71 (by decide) ?_
              exact W_X11_net_j72 hC N _ hk6 hf _ _ _ hR hS (lv_sub hl [0, 1, 2, 3, 5] rfl)
            · refine lv_aload_n hC.1 hC.2.1 dX11_net_61 rfl (lv_at hl 0 rfl) ?_
              refine lv_iload hC.1 hC.2.1 dX11_net_62 (lv_at hl 5 rfl) ?_
              refine lv_iconst (v := 4) hC.1 hC.2.1 dX11_net_64 (by decide) ?_
              refine x_cvi00 (rest := [.int x4]) hC xy_X11_bg tw_1383 hf (fun _ h => M_X11_bg G l kp h) ⟨Nat.le_of_ble_eq_true rfl, Nat.le_of_ble_eq_true rfl⟩ (xce_57 G kp _ _) rfl rfl rfl (Nat.le_of_ble_eq_true rfl) hl.1 hR hS dX11_net_65 ⟨Nat.le_refl _, Nat.le_refl _⟩ (fun v7 hf H locs hR hS => ?_)
              refine lv_goto (tgt := 72) hC.1 hC.2.1 dX11_net_68 (by decide) ?_
              exact W_X11_net_j72 hC N _ hk6 hf _ _ _ hR hS (lv_sub hl [0, 1, 2, 3, 5] rfl)
          · refine lv_goto (tgt := 102) hC.1 hC.2.1 dX11_net_45 (by decide) ?_
            refine x_iinc (d := 1) (lv' := fun y8 => [(5, .int y8), (0, .ref (xz G + 57)), (1, .int x1), (2, .int x2), (3, .int x3), (4, .int x4)]) (k := 5) hC hl dX11_net_102 rfl (by decide) (Nat.le_of_ble_eq_true rfl) hf (fun _ => rfl) (fun y8 hf ls hl => ?_)
            refine lv_goto (tgt := 6) hC.1 hC.2.1 dX11_net_105 (by decide) ?_
            exact hk6 x4 y8 hf _ _ _ hR hS (lv_sub hl [1, 2, 3, 4, 5, 0] rfl)
set_option maxRecDepth 20000 in
theorem M_X11_net (G : XG) (l : Launch) (kp : Bool) (N : Nat) {I : xTI} {L : xTL} {x1 : Int32} {x2 : Int32} {x3 : Int32} {r : Int32} (hf : F_X11_net N I x1 x2 x3 = some r) : xMet G l yX11_net cX11_net 6 (some .int) 2 43 kp [.ref (xz G + 57), .int x1, .int x2, .int x3] I L (some (.int r)) I L := by
  refine xMet.ofW (by decide +kernel) (Nat.le_of_ble_eq_true rfl) ?_
  intro p e s m args below meth c hC H locs ls hR hS hl
  replace hC : xC G p s m args meth c cX11_net 6 RX11 (some .int) := hC
  replace hl : lv_has ls 6 [(0, .ref (xz G + 57)), (1, .int x1), (2, .int x2), (3, .int x3)] := hl
  unfold F_X11_net at hf
  refine lv_iconst (v := 0) hC.1 hC.2.1 dX11_net_0 (by decide) ?_
  refine lv_istore (lv' := [(4, .int 0), (0, .ref (xz G + 57)), (1, .int x1), (2, .int x2), (3, .int x3)]) hC.1 hC.2.1 dX11_net_1 hl (Nat.le_of_ble_eq_true rfl) rfl (fun ls hl => ?_)
  refine lv_iconst (v := 0) hC.1 hC.2.1 dX11_net_3 (by decide) ?_
  refine lv_istore (lv' := [(5, .int 0), (4, .int 0), (0, .ref (xz G + 57)), (1, .int x1), (2, .int x2), (3, .int x3)]) hC.1 hC.2.1 dX11_net_4 hl (Nat.le_of_ble_eq_true rfl) rfl (fun ls hl => ?_)
  exact W_X11_net_l6 hC N _ 0 0 hf _ _ _ hR hS (lv_sub hl [2, 3, 4, 5, 1, 0] rfl)
set_option maxRecDepth 20000 in
theorem W_X11_has_j16 {G : XG} {l : Launch} {kp : Bool} {p : Program} {e : Env} {s : State} {m : MethodId} {args : Array Value} {below : List Frame} {meth : Method} {c : Code} (hC : xC G p s m args meth c cX11_has 4 RX11 (some .int)) (N : Nat) {I : xTI} {L : xTL} {r : Int32} {rI : xTI} (hf : F_X11_has_j16 N I = some (r, rI)) : ∀ (H : Heap) (locs : List Loc) (ls : Array Slot), xRep G kp I L H → xS G s.heap H locs → lv_has ls 4 [(0, .ref (xz G + 57))] → W p l e (xrm 3 68) s m args below meth c H locs 0 0 (xMQ G kp below args s (some (.int r)) rI L) (F0 m 16 ls []) := by
  intro H locs ls hR hS hl
  unfold F_X11_has_j16 at hf
  refine lv_aload_n hC.1 hC.2.1 dX11_has_16 rfl (lv_at hl 0 rfl) ?_
  refine lv_bipush (v := (-3)) hC.1 hC.2.1 dX11_has_17 (by decide) ?_
  refine x_cvi10 (rest := []) hC xy_X11_hush tw_1391 hf (fun _ _ h => M_X11_hush G l kp h) ⟨Nat.le_of_ble_eq_true rfl, Nat.le_of_ble_eq_true rfl⟩ (xce_57 G kp _ _) rfl rfl rfl (Nat.le_of_ble_eq_true rfl) hl.1 hR hS dX11_has_19 ⟨Nat.le_refl _, Nat.le_refl _⟩ (fun v1 I2 hf H locs hR hS => ?_)
  obtain ⟨h91, h92⟩ := Prod.mk.inj (Option.some.inj hf)
  subst h91
  subst h92
  exact x_iret hC hR hS dX11_has_22
set_option maxRecDepth 20000 in
theorem M_X11_has (G : XG) (l : Launch) (kp : Bool) (N : Nat) {I : xTI} {L : xTL} {x1 : Int32} {x2 : Int32} {x3 : Int32} {r : Int32} {rI : xTI} (hf : F_X11_has N I x1 x2 x3 = some (r, rI)) : xMet G l yX11_has cX11_has 4 (some .int) 3 68 kp [.ref (xz G + 57), .int x1, .int x2, .int x3] I L (some (.int r)) rI L := by
  refine xMet.ofW (by decide +kernel) (Nat.le_of_ble_eq_true rfl) ?_
  intro p e s m args below meth c hC H locs ls hR hS hl
  replace hC : xC G p s m args meth c cX11_has 4 RX11 (some .int) := hC
  replace hl : lv_has ls 4 [(0, .ref (xz G + 57)), (1, .int x1), (2, .int x2), (3, .int x3)] := hl
  unfold F_X11_has at hf
  refine lv_aload_n hC.1 hC.2.1 dX11_has_0 rfl (lv_at hl 0 rfl) ?_
  refine lv_iload_n hC.1 hC.2.1 dX11_has_1 rfl (lv_at hl 1 rfl) ?_
  refine x_cvi00 (rest := []) hC xy_X11_isMan tw_1355 hf (fun _ h => M_X11_isMan G l kp h) ⟨Nat.le_of_ble_eq_true rfl, Nat.le_of_ble_eq_true rfl⟩ (xce_57 G kp _ _) rfl rfl rfl (Nat.le_of_ble_eq_true rfl) hl.1 hR hS dX11_has_2 ⟨Nat.le_refl _, Nat.le_refl _⟩ (fun v1 hf H locs hR hS => ?_)
  refine x_if_eq (tgt := 16) hC dX11_has_5 (by decide) hf (fun hf => ?_) (fun hf => ?_)
  · exact W_X11_has_j16 hC N hf _ _ _ hR hS (lv_sub hl [0] rfl)
  · refine lv_aload_n hC.1 hC.2.1 dX11_has_8 rfl (lv_at hl 0 rfl) ?_
    refine lv_iload_n hC.1 hC.2.1 dX11_has_9 rfl (lv_at hl 2 rfl) ?_
    refine x_cvi00 (rest := []) hC xy_X11_isStock tw_1359 hf (fun _ h => M_X11_isStock G l kp h) ⟨Nat.le_of_ble_eq_true rfl, Nat.le_of_ble_eq_true rfl⟩ (xce_57 G kp _ _) rfl rfl rfl (Nat.le_of_ble_eq_true rfl) hl.1 hR hS dX11_has_10 ⟨Nat.le_refl _, Nat.le_refl _⟩ (fun v2 hf H locs hR hS => ?_)
    refine x_if_ne (tgt := 23) hC dX11_has_13 (by decide) hf (fun hf => ?_) (fun hf => ?_)
    · refine lv_iload_n hC.1 hC.2.1 dX11_has_23 rfl (lv_at hl 3 rfl) ?_
      try dsimp only at hf
      by_cases hc : x3 = 0
      · rw [if_pos hc] at hf
        refine x_tsi (tgt := 56) hC dX11_has_24 hc (by decide +kernel) ?_
        refine lv_aload_n hC.1 hC.2.1 dX11_has_56 rfl (lv_at hl 0 rfl) ?_
        refine x_get (v := .ref (xz G + 58)) hC xf_X11_14 (xce_57 G kp _ _) rfl hR dX11_has_57 ?_
        refine lv_bipush (v := 64) hC.1 hC.2.1 dX11_has_60 (by decide) ?_
        refine lv_iconst (v := 5) hC.1 hC.2.1 dX11_has_62 (by decide) ?_
        refine lv_iload_n hC.1 hC.2.1 dX11_has_63 rfl (lv_at hl 1 rfl) ?_
        refine lv_imul hC.1 hC.2.1 dX11_has_64 ?_
        refine lv_iadd hC.1 hC.2.1 dX11_has_65 ?_
        refine lv_iload_n hC.1 hC.2.1 dX11_has_66 rfl (lv_at hl 2 rfl) ?_
        refine lv_iadd hC.1 hC.2.1 dX11_has_67 ?_
        refine x_ial hC (xce_58 G kp _ _) hR dX11_has_68 hf (fun v3 hf => ?_)
        obtain ⟨h91, h92⟩ := Prod.mk.inj (Option.some.inj hf)
        subst h91
        subst h92
        exact x_iret hC hR hS dX11_has_69
      rw [if_neg hc] at hf
      have hc0 := hc
      clear hc
      by_cases hc : x3 = 1
      · rw [if_pos hc] at hf
        refine x_tsi (tgt := 70) hC dX11_has_24 hc (by decide +kernel) ?_
        refine lv_aload_n hC.1 hC.2.1 dX11_has_70 rfl (lv_at hl 0 rfl) ?_
        refine lv_iload_n hC.1 hC.2.1 dX11_has_71 rfl (lv_at hl 1 rfl) ?_
        refine lv_iload_n hC.1 hC.2.1 dX11_has_72 rfl (lv_at hl 2 rfl) ?_
        refine lv_aload_n hC.1 hC.2.1 dX11_has_73 rfl (lv_at hl 0 rfl) ?_
        refine x_get (v := .ref (xz G + 58)) hC xf_X11_14 (xce_57 G kp _ _) rfl hR dX11_has_74 ?_
        refine lv_iconst (v := 0) hC.1 hC.2.1 dX11_has_77 (by decide) ?_
        refine x_ial hC (xce_58 G kp _ _) hR dX11_has_78 hf (fun v4 hf => ?_)
        refine lv_bipush (v := 14) hC.1 hC.2.1 dX11_has_79 (by decide) ?_
        refine lv_idiv hC.1 hC.2.1 dX11_has_81 (by decide) ?_
        refine x_cvi00 (rest := []) hC xy_X11_net tw_1399 hf (fun _ h => M_X11_net G l kp N h) ⟨Nat.le_of_ble_eq_true rfl, Nat.le_of_ble_eq_true rfl⟩ (xce_57 G kp _ _) rfl rfl rfl (Nat.le_of_ble_eq_true rfl) hl.1 hR hS dX11_has_82 ⟨Nat.le_refl _, Nat.le_refl _⟩ (fun v5 hf H locs hR hS => ?_)
        obtain ⟨h91, h92⟩ := Prod.mk.inj (Option.some.inj hf)
        subst h91
        subst h92
        exact x_iret hC hR hS dX11_has_85
      rw [if_neg hc] at hf
      have hc1 := hc
      clear hc
      by_cases hc : x3 = 2
      · rw [if_pos hc] at hf
        refine x_tsi (tgt := 86) hC dX11_has_24 hc (by decide +kernel) ?_
        refine lv_aload_n hC.1 hC.2.1 dX11_has_86 rfl (lv_at hl 0 rfl) ?_
        refine lv_iload_n hC.1 hC.2.1 dX11_has_87 rfl (lv_at hl 1 rfl) ?_
        refine lv_iload_n hC.1 hC.2.1 dX11_has_88 rfl (lv_at hl 2 rfl) ?_
        refine lv_aload_n hC.1 hC.2.1 dX11_has_89 rfl (lv_at hl 0 rfl) ?_
        refine x_get (v := .ref (xz G + 58)) hC xf_X11_14 (xce_57 G kp _ _) rfl hR dX11_has_90 ?_
        refine lv_iconst (v := 0) hC.1 hC.2.1 dX11_has_93 (by decide) ?_
        refine x_ial hC (xce_58 G kp _ _) hR dX11_has_94 hf (fun v6 hf => ?_)
        refine lv_bipush (v := 14) hC.1 hC.2.1 dX11_has_95 (by decide) ?_
        refine lv_idiv hC.1 hC.2.1 dX11_has_97 (by decide) ?_
        refine lv_iconst (v := 1) hC.1 hC.2.1 dX11_has_98 (by decide) ?_
        refine lv_iadd hC.1 hC.2.1 dX11_has_99 ?_
        refine W.eq (g2 := F0 m 100 ls [.int ((v6 / 14) + 1), .int x2, .int x1, .ref (xz G + 57)]) rfl ?_
        refine x_cvi00 (rest := []) hC xy_X11_net tw_1399 hf (fun _ h => M_X11_net G l kp N h) ⟨Nat.le_of_ble_eq_true rfl, Nat.le_of_ble_eq_true rfl⟩ (xce_57 G kp _ _) rfl rfl rfl (Nat.le_of_ble_eq_true rfl) hl.1 hR hS dX11_has_100 ⟨Nat.le_refl _, Nat.le_refl _⟩ (fun v7 hf H locs hR hS => ?_)
        obtain ⟨h91, h92⟩ := Prod.mk.inj (Option.some.inj hf)
        subst h91
        subst h92
        exact x_iret hC hR hS dX11_has_103
      rw [if_neg hc] at hf
      have hc2 := hc
      clear hc
      by_cases hc : x3 = 3
      · rw [if_pos hc] at hf
        refine x_tsi (tgt := 104) hC dX11_has_24 hc (by decide +kernel) ?_
        refine lv_aload_n hC.1 hC.2.1 dX11_has_104 rfl (lv_at hl 0 rfl) ?_
        refine x_get (v := .ref (xz G + 58)) hC xf_X11_14 (xce_57 G kp _ _) rfl hR dX11_has_105 ?_
        refine lv_bipush (v := 124) hC.1 hC.2.1 dX11_has_108 (by decide) ?_
        refine lv_iconst (v := 5) hC.1 hC.2.1 dX11_has_110 (by decide) ?_
        refine lv_iload_n hC.1 hC.2.1 dX11_has_111 rfl (lv_at hl 1 rfl) ?_
        refine lv_imul hC.1 hC.2.1 dX11_has_112 ?_
        refine lv_iadd hC.1 hC.2.1 dX11_has_113 ?_
        refine lv_iload_n hC.1 hC.2.1 dX11_has_114 rfl (lv_at hl 2 rfl) ?_
        refine lv_iadd hC.1 hC.2.1 dX11_has_115 ?_
        refine x_ial hC (xce_58 G kp _ _) hR dX11_has_116 hf (fun v8 hf => ?_)
        obtain ⟨h91, h92⟩ := Prod.mk.inj (Option.some.inj hf)
        subst h91
        subst h92
        exact x_iret hC hR hS dX11_has_117
      rw [if_neg hc] at hf
      have hc3 := hc
      clear hc
      have e0 : (x3).toInt ≠ 0 := fun h => hc0 (Int32.toInt_inj.mp (h.trans (by decide)))
      have e1 : (x3).toInt ≠ 1 := fun h => hc1 (Int32.toInt_inj.mp (h.trans (by decide)))
      have e2 : (x3).toInt ≠ 2 := fun h => hc2 (Int32.toInt_inj.mp (h.trans (by decide)))
      have e3 : (x3).toInt ≠ 3 := fun h => hc3 (Int32.toInt_inj.mp (h.trans (by decide)))
      refine x_tso (tgt := 118) hC dX11_has_24 (by omega) (by decide) ?_
      refine lv_aload_n hC.1 hC.2.1 dX11_has_118 rfl (lv_at hl 0 rfl) ?_
      refine lv_bipush (v := (-7)) hC.1 hC.2.1 dX11_has_119 (by decide) ?_
      refine x_cvi10 (rest := []) hC xy_X11_hush tw_1391 hf (fun _ _ h => M_X11_hush G l kp h) ⟨Nat.le_of_ble_eq_true rfl, Nat.le_of_ble_eq_true rfl⟩ (xce_57 G kp _ _) rfl rfl rfl (Nat.le_of_ble_eq_true rfl) hl.1 hR hS dX11_has_121 ⟨Nat.le_refl _, Nat.le_refl _⟩ (fun v9 I10 hf H locs hR hS => ?_)
      obtain ⟨h91, h92⟩ := Prod.mk.inj (Option.some.inj hf)
      subst h91
      subst h92
      exact x_iret hC hR hS dX11_has_124
    · exact W_X11_has_j16 hC N hf _ _ _ hR hS (lv_sub hl [0] rfl)
set_option maxRecDepth 20000 in
theorem M_X11_made (G : XG) (l : Launch) (kp : Bool) {I : xTI} {L : xTL} {x1 : Int32} {r : Int32} {rI : xTI} (hf : F_X11_made I x1 = some (r, rI)) : xMet G l yX11_made cX11_made 2 (some .int) 2 43 kp [.ref (xz G + 57), .int x1] I L (some (.int r)) rI L := by
  refine xMet.ofW (by decide +kernel) (Nat.le_of_ble_eq_true rfl) ?_
  intro p e s m args below meth c hC H locs ls hR hS hl
  replace hC : xC G p s m args meth c cX11_made 2 RX11 (some .int) := hC
  replace hl : lv_has ls 2 [(0, .ref (xz G + 57)), (1, .int x1)] := hl
  unfold F_X11_made at hf
  refine lv_aload_n hC.1 hC.2.1 dX11_made_0 rfl (lv_at hl 0 rfl) ?_
  refine lv_iload_n hC.1 hC.2.1 dX11_made_1 rfl (lv_at hl 1 rfl) ?_
  refine x_cvi00 (rest := []) hC xy_X11_isStock tw_1359 hf (fun _ h => M_X11_isStock G l kp h) ⟨Nat.le_of_ble_eq_true rfl, Nat.le_of_ble_eq_true rfl⟩ (xce_57 G kp _ _) rfl rfl rfl (Nat.le_of_ble_eq_true rfl) hl.1 hR hS dX11_made_2 ⟨Nat.le_refl _, Nat.le_refl _⟩ (fun v1 hf H locs hR hS => ?_)
  refine x_if_eq (tgt := 21) hC dX11_made_5 (by decide) hf (fun hf => ?_) (fun hf => ?_)
  · refine lv_aload_n hC.1 hC.2.1 dX11_made_21 rfl (lv_at hl 0 rfl) ?_
    refine lv_bipush (v := (-3)) hC.1 hC.2.1 dX11_made_22 (by decide) ?_
    refine x_cvi10 (rest := []) hC xy_X11_refuse tw_1338 hf (fun _ _ h => M_X11_refuse G l kp h) ⟨Nat.le_of_ble_eq_true rfl, Nat.le_of_ble_eq_true rfl⟩ (xce_57 G kp _ _) rfl rfl rfl (Nat.le_of_ble_eq_true rfl) hl.1 hR hS dX11_made_24 ⟨Nat.le_refl _, Nat.le_refl _⟩ (fun v2 I3 hf H locs hR hS => ?_)
    obtain ⟨h91, h92⟩ := Prod.mk.inj (Option.some.inj hf)
    subst h91
    subst h92
    exact x_iret hC hR hS dX11_made_27
  · refine lv_aload_n hC.1 hC.2.1 dX11_made_8 rfl (lv_at hl 0 rfl) ?_
    refine x_get (v := .ref (xz G + 58)) hC xf_X11_14 (xce_57 G kp _ _) rfl hR dX11_made_9 ?_
    refine lv_sipush (v := 184) hC.1 hC.2.1 dX11_made_12 (by decide) ?_
    refine lv_iload_n hC.1 hC.2.1 dX11_made_15 rfl (lv_at hl 1 rfl) ?_
    refine lv_iadd hC.1 hC.2.1 dX11_made_16 ?_
    refine x_ial hC (xce_58 G kp _ _) hR dX11_made_17 hf (fun v4 hf => ?_)
    refine lv_goto (tgt := 27) hC.1 hC.2.1 dX11_made_18 (by decide) ?_
    obtain ⟨h91, h92⟩ := Prod.mk.inj (Option.some.inj hf)
    subst h91
    subst h92
    exact x_iret hC hR hS dX11_made_27
set_option maxRecDepth 20000 in
theorem M_X11_areMen (G : XG) (l : Launch) (kp : Bool) {I : xTI} {L : xTL} {x1 : Int32} {r : Int32} (hf : F_X11_areMen I x1 = some r) : xMet G l yX11_areMen cX11_areMen 2 (some .boolean) 2 43 kp [.ref (xz G + 57), .int x1] I L (some (.int r)) I L := by
  refine xMet.ofW (by decide +kernel) (Nat.le_of_ble_eq_true rfl) ?_
  intro p e s m args below meth c hC H locs ls hR hS hl
  replace hC : xC G p s m args meth c cX11_areMen 2 RX11 (some .boolean) := hC
  replace hl : lv_has ls 2 [(0, .ref (xz G + 57)), (1, .int x1)] := hl
  unfold F_X11_areMen at hf
  refine lv_iload_n hC.1 hC.2.1 dX11_areMen_0 rfl (lv_at hl 1 rfl) ?_
  refine x_if_lt (tgt := 30) hC dX11_areMen_1 (by decide) hf (fun hf => ?_) (fun hf => ?_)
  · refine lv_iconst (v := 0) hC.1 hC.2.1 dX11_areMen_30 (by decide) ?_
    obtain ⟨h01, hf⟩ := xzc_some hf
    have h9 := Option.some.inj hf
    subst h9
    exact x_zret h01 hC hR hS dX11_areMen_31
  · refine lv_aload_n hC.1 hC.2.1 dX11_areMen_4 rfl (lv_at hl 0 rfl) ?_
    refine lv_iload_n hC.1 hC.2.1 dX11_areMen_5 rfl (lv_at hl 1 rfl) ?_
    refine lv_bipush (v := 100) hC.1 hC.2.1 dX11_areMen_6 (by decide) ?_
    refine lv_idiv hC.1 hC.2.1 dX11_areMen_8 (by decide) ?_
    refine x_cvi00 (rest := []) hC xy_X11_isMan tw_1355 hf (fun _ h => M_X11_isMan G l kp h) ⟨Nat.le_of_ble_eq_true rfl, Nat.le_of_ble_eq_true rfl⟩ (xce_57 G kp _ _) rfl rfl rfl (Nat.le_of_ble_eq_true rfl) hl.1 hR hS dX11_areMen_9 ⟨Nat.le_refl _, Nat.le_refl _⟩ (fun v1 hf H locs hR hS => ?_)
    refine x_if_eq (tgt := 30) hC dX11_areMen_12 (by decide) hf (fun hf => ?_) (fun hf => ?_)
    · refine lv_iconst (v := 0) hC.1 hC.2.1 dX11_areMen_30 (by decide) ?_
      obtain ⟨h01, hf⟩ := xzc_some hf
      have h9 := Option.some.inj hf
      subst h9
      exact x_zret h01 hC hR hS dX11_areMen_31
    · refine lv_aload_n hC.1 hC.2.1 dX11_areMen_15 rfl (lv_at hl 0 rfl) ?_
      refine lv_iload_n hC.1 hC.2.1 dX11_areMen_16 rfl (lv_at hl 1 rfl) ?_
      refine lv_bipush (v := 100) hC.1 hC.2.1 dX11_areMen_17 (by decide) ?_
      refine lv_irem hC.1 hC.2.1 dX11_areMen_19 (by decide) ?_
      refine x_cvi00 (rest := []) hC xy_X11_isMan tw_1355 hf (fun _ h => M_X11_isMan G l kp h) ⟨Nat.le_of_ble_eq_true rfl, Nat.le_of_ble_eq_true rfl⟩ (xce_57 G kp _ _) rfl rfl rfl (Nat.le_of_ble_eq_true rfl) hl.1 hR hS dX11_areMen_20 ⟨Nat.le_refl _, Nat.le_refl _⟩ (fun v2 hf H locs hR hS => ?_)
      refine x_if_eq (tgt := 30) hC dX11_areMen_23 (by decide) hf (fun hf => ?_) (fun hf => ?_)
      · refine lv_iconst (v := 0) hC.1 hC.2.1 dX11_areMen_30 (by decide) ?_
        obtain ⟨h01, hf⟩ := xzc_some hf
        have h9 := Option.some.inj hf
        subst h9
        exact x_zret h01 hC hR hS dX11_areMen_31
      · refine lv_iconst (v := 1) hC.1 hC.2.1 dX11_areMen_26 (by decide) ?_
        refine lv_goto (tgt := 31) hC.1 hC.2.1 dX11_areMen_27 (by decide) ?_
        obtain ⟨h01, hf⟩ := xzc_some hf
        have h9 := Option.some.inj hf
        subst h9
        exact x_zret h01 hC hR hS dX11_areMen_31
set_option maxRecDepth 20000 in
theorem M_X11_mayDeal (G : XG) (l : Launch) (kp : Bool) {I : xTI} {L : xTL} {x1 : Int32} {r : Int32} (hf : F_X11_mayDeal I x1 = some r) : xMet G l yX11_mayDeal cX11_mayDeal 2 (some .boolean) 1 21 kp [.ref (xz G + 57), .int x1] I L (some (.int r)) I L := by
  refine xMet.ofW (by decide +kernel) (Nat.le_of_ble_eq_true rfl) ?_
  intro p e s m args below meth c hC H locs ls hR hS hl
  replace hC : xC G p s m args meth c cX11_mayDeal 2 RX11 (some .boolean) := hC
  replace hl : lv_has ls 2 [(0, .ref (xz G + 57)), (1, .int x1)] := hl
  unfold F_X11_mayDeal at hf
  refine lv_iload_n hC.1 hC.2.1 dX11_mayDeal_0 rfl (lv_at hl 1 rfl) ?_
  refine lv_bipush (v := 100) hC.1 hC.2.1 dX11_mayDeal_1 (by decide) ?_
  refine lv_idiv hC.1 hC.2.1 dX11_mayDeal_3 (by decide) ?_
  refine lv_iload_n hC.1 hC.2.1 dX11_mayDeal_4 rfl (lv_at hl 1 rfl) ?_
  refine lv_bipush (v := 100) hC.1 hC.2.1 dX11_mayDeal_5 (by decide) ?_
  refine lv_irem hC.1 hC.2.1 dX11_mayDeal_7 (by decide) ?_
  refine x_ic_eq (tgt := 37) hC dX11_mayDeal_8 (by decide) hf (fun hf => ?_) (fun hf => ?_)
  · refine lv_iconst (v := 0) hC.1 hC.2.1 dX11_mayDeal_37 (by decide) ?_
    obtain ⟨h01, hf⟩ := xzc_some hf
    have h9 := Option.some.inj hf
    subst h9
    exact x_zret h01 hC hR hS dX11_mayDeal_38
  · refine lv_aload_n hC.1 hC.2.1 dX11_mayDeal_11 rfl (lv_at hl 0 rfl) ?_
    refine lv_iload_n hC.1 hC.2.1 dX11_mayDeal_12 rfl (lv_at hl 1 rfl) ?_
    refine lv_bipush (v := 100) hC.1 hC.2.1 dX11_mayDeal_13 (by decide) ?_
    refine lv_idiv hC.1 hC.2.1 dX11_mayDeal_15 (by decide) ?_
    refine x_cvi00 (rest := []) hC xy_X11_isUp tw_1363 hf (fun _ h => M_X11_isUp G l kp h) ⟨Nat.le_of_ble_eq_true rfl, Nat.le_of_ble_eq_true rfl⟩ (xce_57 G kp _ _) rfl rfl rfl (Nat.le_of_ble_eq_true rfl) hl.1 hR hS dX11_mayDeal_16 ⟨Nat.le_refl _, Nat.le_refl _⟩ (fun v1 hf H locs hR hS => ?_)
    refine x_if_eq (tgt := 37) hC dX11_mayDeal_19 (by decide) hf (fun hf => ?_) (fun hf => ?_)
    · refine lv_iconst (v := 0) hC.1 hC.2.1 dX11_mayDeal_37 (by decide) ?_
      obtain ⟨h01, hf⟩ := xzc_some hf
      have h9 := Option.some.inj hf
      subst h9
      exact x_zret h01 hC hR hS dX11_mayDeal_38
    · refine lv_aload_n hC.1 hC.2.1 dX11_mayDeal_22 rfl (lv_at hl 0 rfl) ?_
      refine lv_iload_n hC.1 hC.2.1 dX11_mayDeal_23 rfl (lv_at hl 1 rfl) ?_
      refine lv_bipush (v := 100) hC.1 hC.2.1 dX11_mayDeal_24 (by decide) ?_
      refine lv_irem hC.1 hC.2.1 dX11_mayDeal_26 (by decide) ?_
      refine x_cvi00 (rest := []) hC xy_X11_isUp tw_1363 hf (fun _ h => M_X11_isUp G l kp h) ⟨Nat.le_of_ble_eq_true rfl, Nat.le_of_ble_eq_true rfl⟩ (xce_57 G kp _ _) rfl rfl rfl (Nat.le_of_ble_eq_true rfl) hl.1 hR hS dX11_mayDeal_27 ⟨Nat.le_refl _, Nat.le_refl _⟩ (fun v2 hf H locs hR hS => ?_)
      refine x_if_eq (tgt := 37) hC dX11_mayDeal_30 (by decide) hf (fun hf => ?_) (fun hf => ?_)
      · refine lv_iconst (v := 0) hC.1 hC.2.1 dX11_mayDeal_37 (by decide) ?_
        obtain ⟨h01, hf⟩ := xzc_some hf
        have h9 := Option.some.inj hf
        subst h9
        exact x_zret h01 hC hR hS dX11_mayDeal_38
      · refine lv_iconst (v := 1) hC.1 hC.2.1 dX11_mayDeal_33 (by decide) ?_
        refine lv_goto (tgt := 38) hC.1 hC.2.1 dX11_mayDeal_34 (by decide) ?_
        obtain ⟨h01, hf⟩ := xzc_some hf
        have h9 := Option.some.inj hf
        subst h9
        exact x_zret h01 hC hR hS dX11_mayDeal_38
set_option maxRecDepth 20000 in
theorem W_X11_free_l2 {G : XG} {l : Launch} {kp : Bool} {p : Program} {e : Env} {s : State} {m : MethodId} {args : Array Value} {below : List Frame} {meth : Method} {c : Code} (hC : xC G p s m args meth c cX11_free 3 RX11 (some .int)) (N : Nat) {I : xTI} {L : xTL} {r : Int32} : ∀ (n : Nat) (x2 : Int32) , xlp (F_X11_free_b2 N I ) n x2 = some r → ∀ (H : Heap) (locs : List Loc) (ls : Array Slot), xRep G kp I L H → xS G s.heap H locs → lv_has ls 3 [(0, .ref (xz G + 57)), (2, .int x2)] → W p l e (xrm 1 22) s m args below meth c H locs 0 0 (xMQ G kp below args s (some (.int r)) I L) (F0 m 2 ls []) := by
  intro n
  induction n with
  | zero =>
    intro x2 hf
    cases hf
  | succ n hk2 =>
    intro x2 hf H locs ls hR hS hl
    rw [xlp_s, E_X11_free_b2] at hf
    unfold F_X11_free_c2 at hf
    refine lv_iload_n hC.1 hC.2.1 dX11_free_2 rfl (lv_at hl 1 rfl) ?_
    refine lv_bipush (v := 60) hC.1 hC.2.1 dX11_free_3 (by decide) ?_
    refine x_ic_ge (tgt := 24) hC dX11_free_5 (by decide) hf (fun hf => ?_) (fun hf => ?_)
    · refine lv_iload_n hC.1 hC.2.1 dX11_free_24 rfl (lv_at hl 1 rfl) ?_
      have h9 := Option.some.inj hf
      subst h9
      exact x_iret hC hR hS dX11_free_25
    · refine lv_aload_n hC.1 hC.2.1 dX11_free_8 rfl (lv_at hl 0 rfl) ?_
      refine lv_iload_n hC.1 hC.2.1 dX11_free_9 rfl (lv_at hl 1 rfl) ?_
      refine lv_iconst (v := 0) hC.1 hC.2.1 dX11_free_10 (by decide) ?_
      refine x_cvi00 (rest := []) hC xy_X11_bg tw_1383 hf (fun _ h => M_X11_bg G l kp h) ⟨Nat.le_of_ble_eq_true rfl, Nat.le_of_ble_eq_true rfl⟩ (xce_57 G kp _ _) rfl rfl rfl (Nat.le_of_ble_eq_true rfl) hl.1 hR hS dX11_free_11 ⟨Nat.le_refl _, Nat.le_refl _⟩ (fun v1 hf H locs hR hS => ?_)
      refine lv_iconst (v := 1) hC.1 hC.2.1 dX11_free_14 (by decide) ?_
      refine x_ic_ne (tgt := 24) hC dX11_free_15 (by decide) hf (fun hf => ?_) (fun hf => ?_)
      · refine lv_iload_n hC.1 hC.2.1 dX11_free_24 rfl (lv_at hl 1 rfl) ?_
        have h9 := Option.some.inj hf
        subst h9
        exact x_iret hC hR hS dX11_free_25
      · refine x_iinc (d := 1) (lv' := fun y2 => [(2, .int y2), (0, .ref (xz G + 57))]) (k := 1) hC hl dX11_free_18 rfl (by decide) (Nat.le_of_ble_eq_true rfl) hf (fun _ => rfl) (fun y2 hf ls hl => ?_)
        refine lv_goto (tgt := 2) hC.1 hC.2.1 dX11_free_21 (by decide) ?_
        exact hk2 y2 hf _ _ _ hR hS (lv_sub hl [1, 0] rfl)
set_option maxRecDepth 20000 in
theorem M_X11_free (G : XG) (l : Launch) (kp : Bool) (N : Nat) {I : xTI} {L : xTL} {x1 : Int32} {r : Int32} (hf : F_X11_free N I x1 = some r) : xMet G l yX11_free cX11_free 3 (some .int) 1 22 kp [.ref (xz G + 57), .int x1] I L (some (.int r)) I L := by
  refine xMet.ofW (by decide +kernel) (Nat.le_of_ble_eq_true rfl) ?_
  intro p e s m args below meth c hC H locs ls hR hS hl
  replace hC : xC G p s m args meth c cX11_free 3 RX11 (some .int) := hC
  replace hl : lv_has ls 3 [(0, .ref (xz G + 57)), (1, .int x1)] := hl
  unfold F_X11_free at hf
  refine lv_iload_n hC.1 hC.2.1 dX11_free_0 rfl (lv_at hl 1 rfl) ?_
  refine lv_istore_n (lv' := [(2, .int x1), (0, .ref (xz G + 57)), (1, .int x1)]) hC.1 hC.2.1 dX11_free_1 rfl hl (Nat.le_of_ble_eq_true rfl) rfl (fun ls hl => ?_)
  exact W_X11_free_l2 hC N _ x1 hf _ _ _ hR hS (lv_sub hl [1, 0] rfl)
set_option maxRecDepth 20000 in
theorem M_X11_accountOf (G : XG) (l : Launch) (kp : Bool) {I : xTI} {L : xTL} {x1 : Int32} {r : Int32} (hf : F_X11_accountOf x1 = some r) : xMet G l yX11_accountOf cX11_accountOf 2 (some .int) 0 0 kp [.ref (xz G + 57), .int x1] I L (some (.int r)) I L := by
  refine xMet.ofW (by decide +kernel) (Nat.le_of_ble_eq_true rfl) ?_
  intro p e s m args below meth c hC H locs ls hR hS hl
  replace hC : xC G p s m args meth c cX11_accountOf 2 RX11 (some .int) := hC
  replace hl : lv_has ls 2 [(0, .ref (xz G + 57)), (1, .int x1)] := hl
  unfold F_X11_accountOf at hf
  refine lv_iload_n hC.1 hC.2.1 dX11_accountOf_0 rfl (lv_at hl 1 rfl) ?_
  refine lv_bipush (v := 14) hC.1 hC.2.1 dX11_accountOf_1 (by decide) ?_
  refine lv_irem hC.1 hC.2.1 dX11_accountOf_3 (by decide) ?_
  refine lv_bipush (v := 10) hC.1 hC.2.1 dX11_accountOf_4 (by decide) ?_
  refine x_ic_ge (tgt := 16) hC dX11_accountOf_6 (by decide) hf (fun hf => ?_) (fun hf => ?_)
  · refine lv_iload_n hC.1 hC.2.1 dX11_accountOf_16 rfl (lv_at hl 1 rfl) ?_
    refine lv_bipush (v := 14) hC.1 hC.2.1 dX11_accountOf_17 (by decide) ?_
    refine lv_idiv hC.1 hC.2.1 dX11_accountOf_19 (by decide) ?_
    refine lv_iconst (v := 1) hC.1 hC.2.1 dX11_accountOf_20 (by decide) ?_
    refine lv_iadd hC.1 hC.2.1 dX11_accountOf_21 ?_
    have h9 := Option.some.inj hf
    subst h9
    exact x_iret hC hR hS dX11_accountOf_22
  · refine lv_iload_n hC.1 hC.2.1 dX11_accountOf_9 rfl (lv_at hl 1 rfl) ?_
    refine lv_bipush (v := 14) hC.1 hC.2.1 dX11_accountOf_10 (by decide) ?_
    refine lv_idiv hC.1 hC.2.1 dX11_accountOf_12 (by decide) ?_
    refine lv_goto (tgt := 22) hC.1 hC.2.1 dX11_accountOf_13 (by decide) ?_
    have h9 := Option.some.inj hf
    subst h9
    exact x_iret hC hR hS dX11_accountOf_22
set_option maxRecDepth 20000 in
theorem M_X11_makes (G : XG) (l : Launch) (kp : Bool) (N : Nat) {I : xTI} {L : xTL} {x1 : Int32} {x2 : Int32} {x3 : Int32} {x4 : Int32} {x5 : Int32} {x6 : Int32} {r : Int32} {rI : xTI} (hf : F_X11_makes N I x1 x2 x3 x4 x5 x6 = some (r, rI)) : xMet G l yX11_makes cX11_makes 9 (some .int) 2 44 kp [.ref (xz G + 57), .int x1, .int x2, .int x3, .int x4, .int x5, .int x6] I L (some (.int r)) rI L := by
  refine xMet.ofW (by decide +kernel) (Nat.le_of_ble_eq_true rfl) ?_
  intro p e s m args below meth c hC H locs ls hR hS hl
  replace hC : xC G p s m args meth c cX11_makes 9 RX11 (some .int) := hC
  replace hl : lv_has ls 9 [(0, .ref (xz G + 57)), (1, .int x1), (2, .int x2), (3, .int x3), (4, .int x4), (5, .int x5), (6, .int x6)] := hl
  unfold F_X11_makes at hf
  refine lv_aload_n hC.1 hC.2.1 dX11_makes_0 rfl (lv_at hl 0 rfl) ?_
  refine lv_iconst (v := 0) hC.1 hC.2.1 dX11_makes_1 (by decide) ?_
  refine x_cvi00 (rest := []) hC xy_X11_free tw_1423 hf (fun _ h => M_X11_free G l kp N h) ⟨Nat.le_of_ble_eq_true rfl, Nat.le_of_ble_eq_true rfl⟩ (xce_57 G kp _ _) rfl rfl rfl (Nat.le_of_ble_eq_true rfl) hl.1 hR hS dX11_makes_2 ⟨Nat.le_refl _, Nat.le_refl _⟩ (fun v1 hf H locs hR hS => ?_)
  refine lv_istore (lv' := [(7, .int v1), (0, .ref (xz G + 57)), (1, .int x1), (2, .int x2), (3, .int x3), (4, .int x4), (5, .int x5), (6, .int x6)]) hC.1 hC.2.1 dX11_makes_5 hl (Nat.le_of_ble_eq_true rfl) rfl (fun ls hl => ?_)
  refine lv_sipush (v := 192) hC.1 hC.2.1 dX11_makes_7 (by decide) ?_
  refine lv_bipush (v := 12) hC.1 hC.2.1 dX11_makes_10 (by decide) ?_
  refine lv_iload hC.1 hC.2.1 dX11_makes_12 (lv_at hl 0 rfl) ?_
  refine lv_imul hC.1 hC.2.1 dX11_makes_14 ?_
  refine lv_iadd hC.1 hC.2.1 dX11_makes_15 ?_
  refine x_ist (lv' := fun y2 => [(8, .int y2), (7, .int v1), (0, .ref (xz G + 57)), (1, .int x1), (2, .int x2), (3, .int x3), (4, .int x4), (5, .int x5), (6, .int x6)]) hC hl dX11_makes_16 (Nat.le_of_ble_eq_true rfl) hf (fun _ => rfl) (fun y2 hf ls hl => ?_)
  refine lv_aload_n hC.1 hC.2.1 dX11_makes_18 rfl (lv_at hl 2 rfl) ?_
  refine W.eq (g2 := F0 m 19 ls [.ref (xz G + 57)]) rfl ?_
  refine x_get (v := .ref (xz G + 58)) hC xf_X11_14 (xce_57 G kp _ _) rfl hR dX11_makes_19 ?_
  refine lv_iload hC.1 hC.2.1 dX11_makes_22 (lv_at hl 0 rfl) ?_
  refine lv_iconst (v := 1) hC.1 hC.2.1 dX11_makes_24 (by decide) ?_
  refine x_ias hC (fun f => (xce_58 G kp f _)) hR hS dX11_makes_25 hf (fun I3 hf H locs hR hS => ?_)
  refine lv_aload_n hC.1 hC.2.1 dX11_makes_26 rfl (lv_at hl 2 rfl) ?_
  refine x_get (v := .ref (xz G + 58)) hC xf_X11_14 (xce_57 G kp _ _) rfl hR dX11_makes_27 ?_
  refine lv_iload hC.1 hC.2.1 dX11_makes_30 (lv_at hl 0 rfl) ?_
  refine lv_iconst (v := 1) hC.1 hC.2.1 dX11_makes_32 (by decide) ?_
  refine lv_iadd hC.1 hC.2.1 dX11_makes_33 ?_
  refine lv_iload_n hC.1 hC.2.1 dX11_makes_34 rfl (lv_at hl 3 rfl) ?_
  refine x_ias hC (fun f => (xce_58 G kp f _)) hR hS dX11_makes_35 hf (fun I4 hf H locs hR hS => ?_)
  refine lv_aload_n hC.1 hC.2.1 dX11_makes_36 rfl (lv_at hl 2 rfl) ?_
  refine W.eq (g2 := F0 m 37 ls [.ref (xz G + 57)]) rfl ?_
  refine x_get (v := .ref (xz G + 58)) hC xf_X11_14 (xce_57 G kp _ _) rfl hR dX11_makes_37 ?_
  refine lv_iload hC.1 hC.2.1 dX11_makes_40 (lv_at hl 0 rfl) ?_
  refine lv_iconst (v := 2) hC.1 hC.2.1 dX11_makes_42 (by decide) ?_
  refine lv_iadd hC.1 hC.2.1 dX11_makes_43 ?_
  refine lv_iload_n hC.1 hC.2.1 dX11_makes_44 rfl (lv_at hl 4 rfl) ?_
  refine x_ias hC (fun f => (xce_58 G kp f _)) hR hS dX11_makes_45 hf (fun I5 hf H locs hR hS => ?_)
  refine lv_aload_n hC.1 hC.2.1 dX11_makes_46 rfl (lv_at hl 2 rfl) ?_
  refine x_get (v := .ref (xz G + 58)) hC xf_X11_14 (xce_57 G kp _ _) rfl hR dX11_makes_47 ?_
  refine lv_iload hC.1 hC.2.1 dX11_makes_50 (lv_at hl 0 rfl) ?_
  refine lv_iconst (v := 3) hC.1 hC.2.1 dX11_makes_52 (by decide) ?_
  refine lv_iadd hC.1 hC.2.1 dX11_makes_53 ?_
  refine lv_iload_n hC.1 hC.2.1 dX11_makes_54 rfl (lv_at hl 5 rfl) ?_
  refine W.eq (g2 := F0 m 55 ls [.int x3, .int (y2 + 3), .ref (xz G + 58)]) rfl ?_
  refine x_ias hC (fun f => (xce_58 G kp f _)) hR hS dX11_makes_55 hf (fun I6 hf H locs hR hS => ?_)
  refine lv_aload_n hC.1 hC.2.1 dX11_makes_56 rfl (lv_at hl 2 rfl) ?_
  refine x_get (v := .ref (xz G + 58)) hC xf_X11_14 (xce_57 G kp _ _) rfl hR dX11_makes_57 ?_
  refine lv_iload hC.1 hC.2.1 dX11_makes_60 (lv_at hl 0 rfl) ?_
  refine lv_iconst (v := 4) hC.1 hC.2.1 dX11_makes_62 (by decide) ?_
  refine lv_iadd hC.1 hC.2.1 dX11_makes_63 ?_
  refine lv_iload hC.1 hC.2.1 dX11_makes_64 (lv_at hl 6 rfl) ?_
  refine x_ias hC (fun f => (xce_58 G kp f _)) hR hS dX11_makes_66 hf (fun I7 hf H locs hR hS => ?_)
  refine lv_aload_n hC.1 hC.2.1 dX11_makes_67 rfl (lv_at hl 2 rfl) ?_
  refine x_get (v := .ref (xz G + 58)) hC xf_X11_14 (xce_57 G kp _ _) rfl hR dX11_makes_68 ?_
  refine lv_iload hC.1 hC.2.1 dX11_makes_71 (lv_at hl 0 rfl) ?_
  refine lv_iconst (v := 5) hC.1 hC.2.1 dX11_makes_73 (by decide) ?_
  refine W.eq (g2 := F0 m 74 ls [.int 5, .int y2, .ref (xz G + 58)]) rfl ?_
  refine lv_iadd hC.1 hC.2.1 dX11_makes_74 ?_
  refine lv_iload hC.1 hC.2.1 dX11_makes_75 (lv_at hl 7 rfl) ?_
  refine x_ias hC (fun f => (xce_58 G kp f _)) hR hS dX11_makes_77 hf (fun I8 hf H locs hR hS => ?_)
  refine lv_aload_n hC.1 hC.2.1 dX11_makes_78 rfl (lv_at hl 2 rfl) ?_
  refine x_get (v := .ref (xz G + 58)) hC xf_X11_14 (xce_57 G kp _ _) rfl hR dX11_makes_79 ?_
  refine lv_iload hC.1 hC.2.1 dX11_makes_82 (lv_at hl 0 rfl) ?_
  refine lv_bipush (v := 6) hC.1 hC.2.1 dX11_makes_84 (by decide) ?_
  refine lv_iadd hC.1 hC.2.1 dX11_makes_86 ?_
  refine lv_aload_n hC.1 hC.2.1 dX11_makes_87 rfl (lv_at hl 2 rfl) ?_
  refine x_get (v := .ref (xz G + 58)) hC xf_X11_14 (xce_57 G kp _ _) rfl hR dX11_makes_88 ?_
  refine lv_iconst (v := 0) hC.1 hC.2.1 dX11_makes_91 (by decide) ?_
  refine x_ial hC (xce_58 G kp _ _) hR dX11_makes_92 hf (fun v9 hf => ?_)
  refine W.eq (g2 := F0 m 93 ls [.int v9, .int (y2 + 6), .ref (xz G + 58)]) rfl ?_
  refine x_ias hC (fun f => (xce_58 G kp f _)) hR hS dX11_makes_93 hf (fun I10 hf H locs hR hS => ?_)
  refine lv_aload_n hC.1 hC.2.1 dX11_makes_94 rfl (lv_at hl 2 rfl) ?_
  refine x_get (v := .ref (xz G + 58)) hC xf_X11_14 (xce_57 G kp _ _) rfl hR dX11_makes_95 ?_
  refine lv_iload hC.1 hC.2.1 dX11_makes_98 (lv_at hl 0 rfl) ?_
  refine lv_bipush (v := 7) hC.1 hC.2.1 dX11_makes_100 (by decide) ?_
  refine lv_iadd hC.1 hC.2.1 dX11_makes_102 ?_
  refine lv_iload hC.1 hC.2.1 dX11_makes_103 (lv_at hl 8 rfl) ?_
  refine x_ias hC (fun f => (xce_58 G kp f _)) hR hS dX11_makes_105 hf (fun I11 hf H locs hR hS => ?_)
  refine lv_aload_n hC.1 hC.2.1 dX11_makes_106 rfl (lv_at hl 2 rfl) ?_
  refine x_get (v := .ref (xz G + 58)) hC xf_X11_14 (xce_57 G kp _ _) rfl hR dX11_makes_107 ?_
  refine lv_iload hC.1 hC.2.1 dX11_makes_110 (lv_at hl 0 rfl) ?_
  refine lv_bipush (v := 8) hC.1 hC.2.1 dX11_makes_112 (by decide) ?_
  refine W.eq (g2 := F0 m 114 ls [.int 8, .int y2, .ref (xz G + 58)]) rfl ?_
  refine lv_iadd hC.1 hC.2.1 dX11_makes_114 ?_
  refine lv_iconst (v := 0) hC.1 hC.2.1 dX11_makes_115 (by decide) ?_
  refine x_ias hC (fun f => (xce_58 G kp f _)) hR hS dX11_makes_116 hf (fun I12 hf H locs hR hS => ?_)
  refine lv_aload_n hC.1 hC.2.1 dX11_makes_117 rfl (lv_at hl 2 rfl) ?_
  refine x_get (v := .ref (xz G + 58)) hC xf_X11_14 (xce_57 G kp _ _) rfl hR dX11_makes_118 ?_
  refine lv_iload hC.1 hC.2.1 dX11_makes_121 (lv_at hl 0 rfl) ?_
  refine lv_bipush (v := 9) hC.1 hC.2.1 dX11_makes_123 (by decide) ?_
  refine lv_iadd hC.1 hC.2.1 dX11_makes_125 ?_
  refine lv_iconst (v := (-1)) hC.1 hC.2.1 dX11_makes_126 (by decide) ?_
  refine x_ias hC (fun f => (xce_58 G kp f _)) hR hS dX11_makes_127 hf (fun I13 hf H locs hR hS => ?_)
  refine lv_aload_n hC.1 hC.2.1 dX11_makes_128 rfl (lv_at hl 2 rfl) ?_
  refine x_get (v := .ref (xz G + 58)) hC xf_X11_14 (xce_57 G kp _ _) rfl hR dX11_makes_129 ?_
  refine W.eq (g2 := F0 m 132 ls [.ref (xz G + 58)]) rfl ?_
  refine lv_iload hC.1 hC.2.1 dX11_makes_132 (lv_at hl 0 rfl) ?_
  refine lv_bipush (v := 10) hC.1 hC.2.1 dX11_makes_134 (by decide) ?_
  refine lv_iadd hC.1 hC.2.1 dX11_makes_136 ?_
  refine lv_iconst (v := (-1)) hC.1 hC.2.1 dX11_makes_137 (by decide) ?_
  refine x_ias hC (fun f => (xce_58 G kp f _)) hR hS dX11_makes_138 hf (fun I14 hf H locs hR hS => ?_)
  refine lv_aload_n hC.1 hC.2.1 dX11_makes_139 rfl (lv_at hl 2 rfl) ?_
  refine x_get (v := .ref (xz G + 58)) hC xf_X11_14 (xce_57 G kp _ _) rfl hR dX11_makes_140 ?_
  refine lv_iload hC.1 hC.2.1 dX11_makes_143 (lv_at hl 0 rfl) ?_
  refine lv_bipush (v := 11) hC.1 hC.2.1 dX11_makes_145 (by decide) ?_
  refine lv_iadd hC.1 hC.2.1 dX11_makes_147 ?_
  refine lv_iconst (v := 0) hC.1 hC.2.1 dX11_makes_148 (by decide) ?_
  refine x_ias hC (fun f => (xce_58 G kp f _)) hR hS dX11_makes_149 hf (fun I15 hf H locs hR hS => ?_)
  refine W.eq (g2 := F0 m 150 ls []) rfl ?_
  refine lv_iload hC.1 hC.2.1 dX11_makes_150 (lv_at hl 1 rfl) ?_
  obtain ⟨h91, h92⟩ := Prod.mk.inj (Option.some.inj hf)
  subst h91
  subst h92
  exact x_iret hC hR hS dX11_makes_152
set_option maxRecDepth 20000 in
theorem W_X11_bargain_j16 {G : XG} {l : Launch} {kp : Bool} {p : Program} {e : Env} {s : State} {m : MethodId} {args : Array Value} {below : List Frame} {meth : Method} {c : Code} (hC : xC G p s m args meth c cX11_bargain 5 RX11 (some .int)) (N : Nat) {I : xTI} {L : xTL} {r : Int32} {rI : xTI} (hf : F_X11_bargain_j16 N I = some (r, rI)) : ∀ (H : Heap) (locs : List Loc) (ls : Array Slot), xRep G kp I L H → xS G s.heap H locs → lv_has ls 5 [(0, .ref (xz G + 57))] → W p l e (xrm 3 72) s m args below meth c H locs 0 0 (xMQ G kp below args s (some (.int r)) rI L) (F0 m 16 ls []) := by
  intro H locs ls hR hS hl
  unfold F_X11_bargain_j16 at hf
  refine lv_aload_n hC.1 hC.2.1 dX11_bargain_16 rfl (lv_at hl 0 rfl) ?_
  refine lv_bipush (v := (-3)) hC.1 hC.2.1 dX11_bargain_17 (by decide) ?_
  refine x_cvi10 (rest := []) hC xy_X11_refuse tw_1338 hf (fun _ _ h => M_X11_refuse G l kp h) ⟨Nat.le_of_ble_eq_true rfl, Nat.le_of_ble_eq_true rfl⟩ (xce_57 G kp _ _) rfl rfl rfl (Nat.le_of_ble_eq_true rfl) hl.1 hR hS dX11_bargain_19 ⟨Nat.le_refl _, Nat.le_refl _⟩ (fun v1 I2 hf H locs hR hS => ?_)
  obtain ⟨h91, h92⟩ := Prod.mk.inj (Option.some.inj hf)
  subst h91
  subst h92
  exact x_iret hC hR hS dX11_bargain_22
set_option maxRecDepth 20000 in
theorem W_X11_bargain_j53 {G : XG} {l : Launch} {kp : Bool} {p : Program} {e : Env} {s : State} {m : MethodId} {args : Array Value} {below : List Frame} {meth : Method} {c : Code} (hC : xC G p s m args meth c cX11_bargain 5 RX11 (some .int)) (N : Nat) {I : xTI} {L : xTL} {r : Int32} {rI : xTI} (hf : F_X11_bargain_j53 N I = some (r, rI)) : ∀ (H : Heap) (locs : List Loc) (ls : Array Slot), xRep G kp I L H → xS G s.heap H locs → lv_has ls 5 [(0, .ref (xz G + 57))] → W p l e (xrm 3 72) s m args below meth c H locs 0 0 (xMQ G kp below args s (some (.int r)) rI L) (F0 m 53 ls []) := by
  intro H locs ls hR hS hl
  unfold F_X11_bargain_j53 at hf
  refine lv_aload_n hC.1 hC.2.1 dX11_bargain_53 rfl (lv_at hl 0 rfl) ?_
  refine lv_bipush (v := (-7)) hC.1 hC.2.1 dX11_bargain_54 (by decide) ?_
  refine x_cvi10 (rest := []) hC xy_X11_refuse tw_1338 hf (fun _ _ h => M_X11_refuse G l kp h) ⟨Nat.le_of_ble_eq_true rfl, Nat.le_of_ble_eq_true rfl⟩ (xce_57 G kp _ _) rfl rfl rfl (Nat.le_of_ble_eq_true rfl) hl.1 hR hS dX11_bargain_56 ⟨Nat.le_refl _, Nat.le_refl _⟩ (fun v1 I2 hf H locs hR hS => ?_)
  obtain ⟨h91, h92⟩ := Prod.mk.inj (Option.some.inj hf)
  subst h91
  subst h92
  exact x_iret hC hR hS dX11_bargain_59
set_option maxRecDepth 20000 in
theorem M_X11_bargain (G : XG) (l : Launch) (kp : Bool) (N : Nat) {I : xTI} {L : xTL} {x1 : Int32} {x2 : Int32} {x3 : Int32} {x4 : Int32} {r : Int32} {rI : xTI} (hf : F_X11_bargain N I x1 x2 x3 x4 = some (r, rI)) : xMet G l yX11_bargain cX11_bargain 5 (some .int) 3 72 kp [.ref (xz G + 57), .int x1, .int x2, .int x3, .int x4] I L (some (.int r)) rI L := by
  refine xMet.ofW (by decide +kernel) (Nat.le_of_ble_eq_true rfl) ?_
  intro p e s m args below meth c hC H locs ls hR hS hl
  replace hC : xC G p s m args meth c cX11_bargain 5 RX11 (some .int) := hC
  replace hl : lv_has ls 5 [(0, .ref (xz G + 57)), (1, .int x1), (2, .int x2), (3, .int x3), (4, .int x4)] := hl
  unfold F_X11_bargain at hf
  refine lv_aload_n hC.1 hC.2.1 dX11_bargain_0 rfl (lv_at hl 0 rfl) ?_
  refine lv_iload_n hC.1 hC.2.1 dX11_bargain_1 rfl (lv_at hl 1 rfl) ?_
  refine x_cvi00 (rest := []) hC xy_X11_areMen tw_1415 hf (fun _ h => M_X11_areMen G l kp h) ⟨Nat.le_of_ble_eq_true rfl, Nat.le_of_ble_eq_true rfl⟩ (xce_57 G kp _ _) rfl rfl rfl (Nat.le_of_ble_eq_true rfl) hl.1 hR hS dX11_bargain_2 ⟨Nat.le_refl _, Nat.le_refl _⟩ (fun v1 hf H locs hR hS => ?_)
  refine x_if_eq (tgt := 16) hC dX11_bargain_5 (by decide) hf (fun hf => ?_) (fun hf => ?_)
  · exact W_X11_bargain_j16 hC N hf _ _ _ hR hS (lv_sub hl [0] rfl)
  · refine lv_aload_n hC.1 hC.2.1 dX11_bargain_8 rfl (lv_at hl 0 rfl) ?_
    refine lv_iload_n hC.1 hC.2.1 dX11_bargain_9 rfl (lv_at hl 2 rfl) ?_
    refine x_cvi00 (rest := []) hC xy_X11_isStock tw_1359 hf (fun _ h => M_X11_isStock G l kp h) ⟨Nat.le_of_ble_eq_true rfl, Nat.le_of_ble_eq_true rfl⟩ (xce_57 G kp _ _) rfl rfl rfl (Nat.le_of_ble_eq_true rfl) hl.1 hR hS dX11_bargain_10 ⟨Nat.le_refl _, Nat.le_refl _⟩ (fun v2 hf H locs hR hS => ?_)
    refine x_if_ne (tgt := 23) hC dX11_bargain_13 (by decide) hf (fun hf => ?_) (fun hf => ?_)
    · refine lv_iload_n hC.1 hC.2.1 dX11_bargain_23 rfl (lv_at hl 3 rfl) ?_
      refine lv_iconst (v := 1) hC.1 hC.2.1 dX11_bargain_24 (by decide) ?_
      refine lv_bipush (v := 99) hC.1 hC.2.1 dX11_bargain_25 (by decide) ?_
      refine x_csi00 (rest := []) hC xy_X11_in tw_1335 hf (fun _ h => M_X11_in G l kp h) ⟨Nat.le_of_ble_eq_true rfl, Nat.le_of_ble_eq_true rfl⟩ rfl rfl (Nat.le_of_ble_eq_true rfl) hl.1 hR hS dX11_bargain_27 ⟨Nat.le_refl _, Nat.le_refl _⟩ (fun v3 hf H locs hR hS => ?_)
      refine x_if_eq (tgt := 53) hC dX11_bargain_30 (by decide) hf (fun hf => ?_) (fun hf => ?_)
      · exact W_X11_bargain_j53 hC N hf _ _ _ hR hS (lv_sub hl [0] rfl)
      · refine lv_iload hC.1 hC.2.1 dX11_bargain_33 (lv_at hl 4 rfl) ?_
        refine lv_iconst (v := 1) hC.1 hC.2.1 dX11_bargain_35 (by decide) ?_
        refine lv_sipush (v := 9999) hC.1 hC.2.1 dX11_bargain_36 (by decide) ?_
        refine x_csi00 (rest := []) hC xy_X11_in tw_1335 hf (fun _ h => M_X11_in G l kp h) ⟨Nat.le_of_ble_eq_true rfl, Nat.le_of_ble_eq_true rfl⟩ rfl rfl (Nat.le_of_ble_eq_true rfl) hl.1 hR hS dX11_bargain_39 ⟨Nat.le_refl _, Nat.le_refl _⟩ (fun v4 hf H locs hR hS => ?_)
        refine x_if_eq (tgt := 53) hC dX11_bargain_42 (by decide) hf (fun hf => ?_) (fun hf => ?_)
        · exact W_X11_bargain_j53 hC N hf _ _ _ hR hS (lv_sub hl [0] rfl)
        · refine lv_aload_n hC.1 hC.2.1 dX11_bargain_45 rfl (lv_at hl 0 rfl) ?_
          refine lv_iload_n hC.1 hC.2.1 dX11_bargain_46 rfl (lv_at hl 1 rfl) ?_
          refine x_cvi00 (rest := []) hC xy_X11_mayDeal tw_1419 hf (fun _ h => M_X11_mayDeal G l kp h) ⟨Nat.le_of_ble_eq_true rfl, Nat.le_of_ble_eq_true rfl⟩ (xce_57 G kp _ _) rfl rfl rfl (Nat.le_of_ble_eq_true rfl) hl.1 hR hS dX11_bargain_47 ⟨Nat.le_refl _, Nat.le_refl _⟩ (fun v5 hf H locs hR hS => ?_)
          refine x_if_ne (tgt := 60) hC dX11_bargain_50 (by decide) hf (fun hf => ?_) (fun hf => ?_)
          · refine lv_aload_n hC.1 hC.2.1 dX11_bargain_60 rfl (lv_at hl 0 rfl) ?_
            refine lv_iconst (v := 0) hC.1 hC.2.1 dX11_bargain_61 (by decide) ?_
            refine x_cvi00 (rest := []) hC xy_X11_free tw_1423 hf (fun _ h => M_X11_free G l kp N h) ⟨Nat.le_of_ble_eq_true rfl, Nat.le_of_ble_eq_true rfl⟩ (xce_57 G kp _ _) rfl rfl rfl (Nat.le_of_ble_eq_true rfl) hl.1 hR hS dX11_bargain_62 ⟨Nat.le_refl _, Nat.le_refl _⟩ (fun v6 hf H locs hR hS => ?_)
            refine lv_bipush (v := 60) hC.1 hC.2.1 dX11_bargain_65 (by decide) ?_
            refine x_ic_ne (tgt := 79) hC dX11_bargain_67 (by decide) hf (fun hf => ?_) (fun hf => ?_)
            · refine lv_aload_n hC.1 hC.2.1 dX11_bargain_79 rfl (lv_at hl 0 rfl) ?_
              refine lv_iload_n hC.1 hC.2.1 dX11_bargain_80 rfl (lv_at hl 1 rfl) ?_
              refine lv_bipush (v := 100) hC.1 hC.2.1 dX11_bargain_81 (by decide) ?_
              refine lv_idiv hC.1 hC.2.1 dX11_bargain_83 (by decide) ?_
              refine lv_iload_n hC.1 hC.2.1 dX11_bargain_84 rfl (lv_at hl 1 rfl) ?_
              refine lv_bipush (v := 100) hC.1 hC.2.1 dX11_bargain_85 (by decide) ?_
              refine lv_irem hC.1 hC.2.1 dX11_bargain_87 (by decide) ?_
              refine lv_iload_n hC.1 hC.2.1 dX11_bargain_88 rfl (lv_at hl 2 rfl) ?_
              refine lv_iload_n hC.1 hC.2.1 dX11_bargain_89 rfl (lv_at hl 3 rfl) ?_
              refine lv_iload hC.1 hC.2.1 dX11_bargain_90 (lv_at hl 4 rfl) ?_
              refine lv_aload_n hC.1 hC.2.1 dX11_bargain_92 rfl (lv_at hl 0 rfl) ?_
              refine W.eq (g2 := F0 m 93 ls [.ref (xz G + 57), .int x4, .int x3, .int x2, .int (x1 - x1 / 100 * 100), .int (x1 / 100), .ref (xz G + 57)]) rfl ?_
              refine lv_aload_n hC.1 hC.2.1 dX11_bargain_93 rfl (lv_at hl 0 rfl) ?_
              refine x_get (v := .ref (xz G + 58)) hC xf_X11_14 (xce_57 G kp _ _) rfl hR dX11_bargain_94 ?_
              refine lv_iconst (v := 0) hC.1 hC.2.1 dX11_bargain_97 (by decide) ?_
              refine x_ial hC (xce_58 G kp _ _) hR dX11_bargain_98 hf (fun v7 hf => ?_)
              refine x_cvi00 (rest := [.int x4, .int x3, .int x2, .int (x1 - x1 / 100 * 100), .int (x1 / 100), .ref (xz G + 57)]) hC xy_X11_accountOf tw_1427 hf (fun _ h => M_X11_accountOf G l kp h) ⟨Nat.le_of_ble_eq_true rfl, Nat.le_of_ble_eq_true rfl⟩ (xce_57 G kp _ _) rfl rfl rfl (Nat.le_of_ble_eq_true rfl) hl.1 hR hS dX11_bargain_99 ⟨Nat.le_refl _, Nat.le_refl _⟩ (fun v8 hf H locs hR hS => ?_)
              refine x_cvi10 (rest := []) hC xy_X11_makes tw_1431 hf (fun _ _ h => M_X11_makes G l kp N h) ⟨Nat.le_of_ble_eq_true rfl, Nat.le_of_ble_eq_true rfl⟩ (xce_57 G kp _ _) rfl rfl rfl (Nat.le_of_ble_eq_true rfl) hl.1 hR hS dX11_bargain_102 ⟨Nat.le_refl _, Nat.le_refl _⟩ (fun v9 I10 hf H locs hR hS => ?_)
              obtain ⟨h91, h92⟩ := Prod.mk.inj (Option.some.inj hf)
              subst h91
              subst h92
              exact x_iret hC hR hS dX11_bargain_105
            · refine lv_aload_n hC.1 hC.2.1 dX11_bargain_70 rfl (lv_at hl 0 rfl) ?_
              refine lv_bipush (v := (-8)) hC.1 hC.2.1 dX11_bargain_71 (by decide) ?_
              refine x_cvi10 (rest := []) hC xy_X11_refuse tw_1338 hf (fun _ _ h => M_X11_refuse G l kp h) ⟨Nat.le_of_ble_eq_true rfl, Nat.le_of_ble_eq_true rfl⟩ (xce_57 G kp _ _) rfl rfl rfl (Nat.le_of_ble_eq_true rfl) hl.1 hR hS dX11_bargain_73 ⟨Nat.le_refl _, Nat.le_refl _⟩ (fun v11 I12 hf H locs hR hS => ?_)
              refine lv_goto (tgt := 105) hC.1 hC.2.1 dX11_bargain_76 (by decide) ?_
              obtain ⟨h91, h92⟩ := Prod.mk.inj (Option.some.inj hf)
              subst h91
              subst h92
              exact x_iret hC hR hS dX11_bargain_105
          · exact W_X11_bargain_j53 hC N hf _ _ _ hR hS (lv_sub hl [0] rfl)
    · exact W_X11_bargain_j16 hC N hf _ _ _ hR hS (lv_sub hl [0] rfl)
