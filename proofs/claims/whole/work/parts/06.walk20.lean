set_option maxRecDepth 20000 in
theorem M_X11_there (G : XG) (l : Launch) (kp : Bool) (N : Nat) {I : xTI} {L : xTL} {x1 : Int32} {x2 : Int32} {r : Int32} (hf : F_X11_there N I x1 x2 = some r) : xMet G l yX11_there cX11_there 3 (some .int) 3 68 kp [.ref (xz G + 57), .int x1, .int x2] I L (some (.int r)) I L := by
  refine xMet.ofW (by decide +kernel) (Nat.le_of_ble_eq_true rfl) ?_
  intro p e s m args below meth c hC H locs ls hR hS hl
  replace hC : xC G p s m args meth c cX11_there 3 RX11 (some .int) := hC
  replace hl : lv_has ls 3 [(0, .ref (xz G + 57)), (1, .int x1), (2, .int x2)] := hl
  unfold F_X11_there at hf
  refine lv_aload_n hC.1 hC.2.1 dX11_there_0 rfl (lv_at hl 0 rfl) ?_
  refine x_get (v := .ref (xz G + 58)) hC xf_X11_14 (xce_57 G kp _ _) rfl hR dX11_there_1 ?_
  refine lv_bipush (v := 64) hC.1 hC.2.1 dX11_there_4 (by decide) ?_
  refine lv_iconst (v := 5) hC.1 hC.2.1 dX11_there_6 (by decide) ?_
  refine lv_iload_n hC.1 hC.2.1 dX11_there_7 rfl (lv_at hl 1 rfl) ?_
  refine lv_imul hC.1 hC.2.1 dX11_there_8 ?_
  refine lv_iadd hC.1 hC.2.1 dX11_there_9 ?_
  refine lv_iload_n hC.1 hC.2.1 dX11_there_10 rfl (lv_at hl 2 rfl) ?_
  refine lv_iadd hC.1 hC.2.1 dX11_there_11 ?_
  refine x_ial hC (xce_58 G kp _ _) hR dX11_there_12 hf (fun v1 hf => ?_)
  refine lv_aload_n hC.1 hC.2.1 dX11_there_13 rfl (lv_at hl 0 rfl) ?_
  refine W.eq (g2 := F0 m 14 ls [.ref (xz G + 57), .int v1]) rfl ?_
  refine lv_iload_n hC.1 hC.2.1 dX11_there_14 rfl (lv_at hl 1 rfl) ?_
  refine lv_iload_n hC.1 hC.2.1 dX11_there_15 rfl (lv_at hl 2 rfl) ?_
  refine lv_aload_n hC.1 hC.2.1 dX11_there_16 rfl (lv_at hl 0 rfl) ?_
  refine x_get (v := .ref (xz G + 58)) hC xf_X11_14 (xce_57 G kp _ _) rfl hR dX11_there_17 ?_
  refine lv_iconst (v := 0) hC.1 hC.2.1 dX11_there_20 (by decide) ?_
  refine x_ial hC (xce_58 G kp _ _) hR dX11_there_21 hf (fun v2 hf => ?_)
  refine lv_bipush (v := 14) hC.1 hC.2.1 dX11_there_22 (by decide) ?_
  refine lv_idiv hC.1 hC.2.1 dX11_there_24 (by decide) ?_
  refine x_cvi00 (rest := [.int v1]) hC xy_X11_net tw_1399 hf (fun _ h => M_X11_net G l kp N h) ⟨Nat.le_of_ble_eq_true rfl, Nat.le_of_ble_eq_true rfl⟩ (xce_57 G kp _ _) rfl rfl rfl (Nat.le_of_ble_eq_true rfl) hl.1 hR hS dX11_there_25 ⟨Nat.le_refl _, Nat.le_refl _⟩ (fun v3 hf H locs hR hS => ?_)
  refine lv_iadd hC.1 hC.2.1 dX11_there_28 ?_
  have h9 := Option.some.inj hf
  subst h9
  exact x_iret hC hR hS dX11_there_29
set_option maxRecDepth 20000 in
theorem W_X11_sumOf_j76 {G : XG} {l : Launch} {kp : Bool} {p : Program} {e : Env} {s : State} {m : MethodId} {args : Array Value} {below : List Frame} {meth : Method} {c : Code} (hC : xC G p s m args meth c cX11_sumOf 7 RX11 (some .int)) (N : Nat) {I : xTI} {L : xTL} {r : Int32} {x1 : Int32} {x2 : Int32} {x3 : Int32} {x5 : Int32} {t0 : Int32} {t1 : Int32} (k6 : Int32 × Int32 → Option (Int32)) (hk6 : ∀ (x4 : Int32) (x5 : Int32) , k6 (x4, x5) = some r → ∀ (H : Heap) (locs : List Loc) (ls : Array Slot), xRep G kp I L H → xS G s.heap H locs → lv_has ls 7 [(0, .ref (xz G + 57)), (1, .int x1), (2, .int x2), (3, .int x3), (4, .int x4), (5, .int x5)] → W p l e (xrm 4 90) s m args below meth c H locs 0 0 (xMQ G kp below args s (some (.int r)) I L) (F0 m 6 ls [])) (hf : F_X11_sumOf_j76 k6 N I x1 x2 x3 x5 t0 t1 = some r) : ∀ (H : Heap) (locs : List Loc) (ls : Array Slot), xRep G kp I L H → xS G s.heap H locs → lv_has ls 7 [(0, .ref (xz G + 57)), (1, .int x1), (2, .int x2), (3, .int x3), (5, .int x5)] → W p l e (xrm 4 90) s m args below meth c H locs 0 0 (xMQ G kp below args s (some (.int r)) I L) (F0 m 76 ls [.int t1, .int t0]) := by
  intro H locs ls hR hS hl
  unfold F_X11_sumOf_j76 at hf
  refine lv_iadd hC.1 hC.2.1 dX11_sumOf_76 ?_
  refine x_ist (lv' := fun y1 => [(4, .int y1), (0, .ref (xz G + 57)), (1, .int x1), (2, .int x2), (3, .int x3), (5, .int x5)]) hC hl dX11_sumOf_77 (Nat.le_of_ble_eq_true rfl) hf (fun _ => rfl) (fun y1 hf ls hl => ?_)
  refine x_iinc (d := 1) (lv' := fun y2 => [(5, .int y2), (4, .int y1), (0, .ref (xz G + 57)), (1, .int x1), (2, .int x2), (3, .int x3)]) (k := 5) hC hl dX11_sumOf_79 rfl (by decide) (Nat.le_of_ble_eq_true rfl) hf (fun _ => rfl) (fun y2 hf ls hl => ?_)
  refine lv_goto (tgt := 6) hC.1 hC.2.1 dX11_sumOf_82 (by decide) ?_
  exact hk6 y1 y2 hf _ _ _ hR hS (lv_sub hl [2, 3, 4, 5, 1, 0] rfl)
set_option maxRecDepth 20000 in
theorem W_X11_sumOf_l6 {G : XG} {l : Launch} {kp : Bool} {p : Program} {e : Env} {s : State} {m : MethodId} {args : Array Value} {below : List Frame} {meth : Method} {c : Code} (hC : xC G p s m args meth c cX11_sumOf 7 RX11 (some .int)) (N : Nat) {I : xTI} {L : xTL} {r : Int32} {x1 : Int32} {x2 : Int32} {x3 : Int32} : ∀ (n : Nat) (x4 : Int32) (x5 : Int32) , xlp (F_X11_sumOf_b6 N I x1 x2 x3 ) n (x4, x5) = some r → ∀ (H : Heap) (locs : List Loc) (ls : Array Slot), xRep G kp I L H → xS G s.heap H locs → lv_has ls 7 [(0, .ref (xz G + 57)), (1, .int x1), (2, .int x2), (3, .int x3), (4, .int x4), (5, .int x5)] → W p l e (xrm 4 90) s m args below meth c H locs 0 0 (xMQ G kp below args s (some (.int r)) I L) (F0 m 6 ls []) := by
  intro n
  induction n with
  | zero =>
    intro x4 x5 hf
    cases hf
  | succ n hk6 =>
    intro x4 x5 hf H locs ls hR hS hl
    rw [xlp_s, E_X11_sumOf_b6] at hf
    unfold F_X11_sumOf_c6 at hf
    refine lv_iload hC.1 hC.2.1 dX11_sumOf_6 (lv_at hl 5 rfl) ?_
    refine lv_aload_n hC.1 hC.2.1 dX11_sumOf_8 rfl (lv_at hl 0 rfl) ?_
    refine x_get (v := .ref (xz G + 58)) hC xf_X11_14 (xce_57 G kp _ _) rfl hR dX11_sumOf_9 ?_
    refine lv_iconst (v := 1) hC.1 hC.2.1 dX11_sumOf_12 (by decide) ?_
    refine x_ial hC (xce_58 G kp _ _) hR dX11_sumOf_13 hf (fun v1 hf => ?_)
    refine x_ic_ge (tgt := 85) hC dX11_sumOf_14 (by decide) hf (fun hf => ?_) (fun hf => ?_)
    · refine lv_iload hC.1 hC.2.1 dX11_sumOf_85 (lv_at hl 4 rfl) ?_
      have h9 := Option.some.inj hf
      subst h9
      exact x_iret hC hR hS dX11_sumOf_87
    · refine lv_iload hC.1 hC.2.1 dX11_sumOf_17 (lv_at hl 5 rfl) ?_
      refine lv_iload_n hC.1 hC.2.1 dX11_sumOf_19 rfl (lv_at hl 2 rfl) ?_
      refine x_ic_eq (tgt := 79) hC dX11_sumOf_20 (by decide) hf (fun hf => ?_) (fun hf => ?_)
      · refine x_iinc (d := 1) (lv' := fun y2 => [(5, .int y2), (0, .ref (xz G + 57)), (1, .int x1), (2, .int x2), (3, .int x3), (4, .int x4)]) (k := 5) hC hl dX11_sumOf_79 rfl (by decide) (Nat.le_of_ble_eq_true rfl) hf (fun _ => rfl) (fun y2 hf ls hl => ?_)
        refine lv_goto (tgt := 6) hC.1 hC.2.1 dX11_sumOf_82 (by decide) ?_
        exact hk6 x4 y2 hf _ _ _ hR hS (lv_sub hl [1, 2, 3, 4, 5, 0] rfl)
      · refine lv_aload_n hC.1 hC.2.1 dX11_sumOf_23 rfl (lv_at hl 0 rfl) ?_
        refine lv_iload hC.1 hC.2.1 dX11_sumOf_24 (lv_at hl 5 rfl) ?_
        refine x_cvi00 (rest := []) hC xy_X11_isUp tw_1363 hf (fun _ h => M_X11_isUp G l kp h) ⟨Nat.le_of_ble_eq_true rfl, Nat.le_of_ble_eq_true rfl⟩ (xce_57 G kp _ _) rfl rfl rfl (Nat.le_of_ble_eq_true rfl) hl.1 hR hS dX11_sumOf_26 ⟨Nat.le_refl _, Nat.le_refl _⟩ (fun v3 hf H locs hR hS => ?_)
        refine x_if_ne (tgt := 35) hC dX11_sumOf_29 (by decide) hf (fun hf => ?_) (fun hf => ?_)
        · refine lv_aload_n hC.1 hC.2.1 dX11_sumOf_35 rfl (lv_at hl 0 rfl) ?_
          refine lv_iload hC.1 hC.2.1 dX11_sumOf_36 (lv_at hl 5 rfl) ?_
          refine lv_iload_n hC.1 hC.2.1 dX11_sumOf_38 rfl (lv_at hl 1 rfl) ?_
          refine x_cvi00 (rest := []) hC xy_X11_there tw_1706 hf (fun _ h => M_X11_there G l kp N h) ⟨Nat.le_of_ble_eq_true rfl, Nat.le_of_ble_eq_true rfl⟩ (xce_57 G kp _ _) rfl rfl rfl (Nat.le_of_ble_eq_true rfl) hl.1 hR hS dX11_sumOf_39 ⟨Nat.le_refl _, Nat.le_refl _⟩ (fun v4 hf H locs hR hS => ?_)
          refine lv_istore (lv' := [(6, .int v4), (0, .ref (xz G + 57)), (1, .int x1), (2, .int x2), (3, .int x3), (4, .int x4), (5, .int x5)]) hC.1 hC.2.1 dX11_sumOf_42 hl (Nat.le_of_ble_eq_true rfl) rfl (fun ls hl => ?_)
          refine lv_iload hC.1 hC.2.1 dX11_sumOf_44 (lv_at hl 5 rfl) ?_
          refine lv_iload_n hC.1 hC.2.1 dX11_sumOf_46 rfl (lv_at hl 4 rfl) ?_
          refine x_if_eq (tgt := 65) hC dX11_sumOf_47 (by decide) hf (fun hf => ?_) (fun hf => ?_)
          · refine lv_iload hC.1 hC.2.1 dX11_sumOf_65 (lv_at hl 0 rfl) ?_
            refine x_if_le (tgt := 75) hC dX11_sumOf_67 (by decide) hf (fun hf => ?_) (fun hf => ?_)
            · refine lv_iconst (v := 0) hC.1 hC.2.1 dX11_sumOf_75 (by decide) ?_
              exact W_X11_sumOf_j76 hC N _ hk6 hf _ _ _ hR hS (lv_sub hl [1, 2, 3, 4, 6] rfl)
            · refine lv_iload hC.1 hC.2.1 dX11_sumOf_70 (lv_at hl 0 rfl) ?_
              refine lv_goto (tgt := 76) hC.1 hC.2.1 dX11_sumOf_72 (by decide) ?_
              exact W_X11_sumOf_j76 hC N _ hk6 hf _ _ _ hR hS (lv_sub hl [1, 2, 3, 4, 6] rfl)
          · refine lv_iload hC.1 hC.2.1 dX11_sumOf_50 (lv_at hl 0 rfl) ?_
            refine x_if_ge (tgt := 61) hC dX11_sumOf_52 (by decide) hf (fun hf => ?_) (fun hf => ?_)
            · refine lv_iconst (v := 0) hC.1 hC.2.1 dX11_sumOf_61 (by decide) ?_
              refine lv_goto (tgt := 76) hC.1 hC.2.1 dX11_sumOf_62 (by decide) ?_
              exact W_X11_sumOf_j76 hC N _ hk6 hf _ _ _ hR hS (lv_sub hl [1, 2, 3, 4, 6] rfl)
            · refine lv_iload hC.1 hC.2.1 dX11_sumOf_55 (lv_at hl 0 rfl) ?_
              refine lv_ineg hC.1 hC.2.1 dX11_sumOf_57 ?_
              refine lv_goto (tgt := 76) hC.1 hC.2.1 dX11_sumOf_58 (by decide) ?_
              exact W_X11_sumOf_j76 hC N _ hk6 hf _ _ _ hR hS (lv_sub hl [1, 2, 3, 4, 6] rfl)
        · refine lv_goto (tgt := 79) hC.1 hC.2.1 dX11_sumOf_32 (by decide) ?_
          refine x_iinc (d := 1) (lv' := fun y5 => [(5, .int y5), (0, .ref (xz G + 57)), (1, .int x1), (2, .int x2), (3, .int x3), (4, .int x4)]) (k := 5) hC hl dX11_sumOf_79 rfl (by decide) (Nat.le_of_ble_eq_true rfl) hf (fun _ => rfl) (fun y5 hf ls hl => ?_)
          refine lv_goto (tgt := 6) hC.1 hC.2.1 dX11_sumOf_82 (by decide) ?_
          exact hk6 x4 y5 hf _ _ _ hR hS (lv_sub hl [1, 2, 3, 4, 5, 0] rfl)
set_option maxRecDepth 20000 in
theorem M_X11_sumOf (G : XG) (l : Launch) (kp : Bool) (N : Nat) {I : xTI} {L : xTL} {x1 : Int32} {x2 : Int32} {x3 : Int32} {r : Int32} (hf : F_X11_sumOf N I x1 x2 x3 = some r) : xMet G l yX11_sumOf cX11_sumOf 7 (some .int) 4 90 kp [.ref (xz G + 57), .int x1, .int x2, .int x3] I L (some (.int r)) I L := by
  refine xMet.ofW (by decide +kernel) (Nat.le_of_ble_eq_true rfl) ?_
  intro p e s m args below meth c hC H locs ls hR hS hl
  replace hC : xC G p s m args meth c cX11_sumOf 7 RX11 (some .int) := hC
  replace hl : lv_has ls 7 [(0, .ref (xz G + 57)), (1, .int x1), (2, .int x2), (3, .int x3)] := hl
  unfold F_X11_sumOf at hf
  refine lv_iconst (v := 0) hC.1 hC.2.1 dX11_sumOf_0 (by decide) ?_
  refine lv_istore (lv' := [(4, .int 0), (0, .ref (xz G + 57)), (1, .int x1), (2, .int x2), (3, .int x3)]) hC.1 hC.2.1 dX11_sumOf_1 hl (Nat.le_of_ble_eq_true rfl) rfl (fun ls hl => ?_)
  refine lv_iconst (v := 0) hC.1 hC.2.1 dX11_sumOf_3 (by decide) ?_
  refine lv_istore (lv' := [(5, .int 0), (4, .int 0), (0, .ref (xz G + 57)), (1, .int x1), (2, .int x2), (3, .int x3)]) hC.1 hC.2.1 dX11_sumOf_4 hl (Nat.le_of_ble_eq_true rfl) rfl (fun ls hl => ?_)
  exact W_X11_sumOf_l6 hC N _ 0 0 hf _ _ _ hR hS (lv_sub hl [2, 3, 4, 5, 1, 0] rfl)
set_option maxRecDepth 20000 in
theorem W_X11_corner_j16 {G : XG} {l : Launch} {kp : Bool} {p : Program} {e : Env} {s : State} {m : MethodId} {args : Array Value} {below : List Frame} {meth : Method} {c : Code} (hC : xC G p s m args meth c cX11_corner 6 RX11 (some .int)) (N : Nat) {I : xTI} {L : xTL} {r : Int32} {rI : xTI} (hf : F_X11_corner_j16 N I = some (r, rI)) : ∀ (H : Heap) (locs : List Loc) (ls : Array Slot), xRep G kp I L H → xS G s.heap H locs → lv_has ls 6 [(0, .ref (xz G + 57))] → W p l e (xrm 5 116) s m args below meth c H locs 0 0 (xMQ G kp below args s (some (.int r)) rI L) (F0 m 16 ls []) := by
  intro H locs ls hR hS hl
  unfold F_X11_corner_j16 at hf
  refine lv_aload_n hC.1 hC.2.1 dX11_corner_16 rfl (lv_at hl 0 rfl) ?_
  refine lv_bipush (v := (-3)) hC.1 hC.2.1 dX11_corner_17 (by decide) ?_
  refine x_cvi10 (rest := []) hC xy_X11_refuse tw_1338 hf (fun _ _ h => M_X11_refuse G l kp h) ⟨Nat.le_of_ble_eq_true rfl, Nat.le_of_ble_eq_true rfl⟩ (xce_57 G kp _ _) rfl rfl rfl (Nat.le_of_ble_eq_true rfl) hl.1 hR hS dX11_corner_19 ⟨Nat.le_refl _, Nat.le_refl _⟩ (fun v1 I2 hf H locs hR hS => ?_)
  obtain ⟨h91, h92⟩ := Prod.mk.inj (Option.some.inj hf)
  subst h91
  subst h92
  exact x_iret hC hR hS dX11_corner_22
set_option maxRecDepth 20000 in
theorem M_X11_corner (G : XG) (l : Launch) (kp : Bool) (N : Nat) {I : xTI} {L : xTL} {x1 : Int32} {x2 : Int32} {x3 : Int32} {r : Int32} {rI : xTI} (hf : F_X11_corner N I x1 x2 x3 = some (r, rI)) : xMet G l yX11_corner cX11_corner 6 (some .int) 5 116 kp [.ref (xz G + 57), .int x1, .int x2, .int x3] I L (some (.int r)) rI L := by
  refine xMet.ofW (by decide +kernel) (Nat.le_of_ble_eq_true rfl) ?_
  intro p e s m args below meth c hC H locs ls hR hS hl
  replace hC : xC G p s m args meth c cX11_corner 6 RX11 (some .int) := hC
  replace hl : lv_has ls 6 [(0, .ref (xz G + 57)), (1, .int x1), (2, .int x2), (3, .int x3)] := hl
  unfold F_X11_corner at hf
  refine lv_aload_n hC.1 hC.2.1 dX11_corner_0 rfl (lv_at hl 0 rfl) ?_
  refine lv_iload_n hC.1 hC.2.1 dX11_corner_1 rfl (lv_at hl 1 rfl) ?_
  refine x_cvi00 (rest := []) hC xy_X11_isStock tw_1359 hf (fun _ h => M_X11_isStock G l kp h) ⟨Nat.le_of_ble_eq_true rfl, Nat.le_of_ble_eq_true rfl⟩ (xce_57 G kp _ _) rfl rfl rfl (Nat.le_of_ble_eq_true rfl) hl.1 hR hS dX11_corner_2 ⟨Nat.le_refl _, Nat.le_refl _⟩ (fun v1 hf H locs hR hS => ?_)
  refine x_if_eq (tgt := 16) hC dX11_corner_5 (by decide) hf (fun hf => ?_) (fun hf => ?_)
  · exact W_X11_corner_j16 hC N hf _ _ _ hR hS (lv_sub hl [0] rfl)
  · refine lv_aload_n hC.1 hC.2.1 dX11_corner_8 rfl (lv_at hl 0 rfl) ?_
    refine lv_iload_n hC.1 hC.2.1 dX11_corner_9 rfl (lv_at hl 2 rfl) ?_
    refine x_cvi00 (rest := []) hC xy_X11_isMan tw_1355 hf (fun _ h => M_X11_isMan G l kp h) ⟨Nat.le_of_ble_eq_true rfl, Nat.le_of_ble_eq_true rfl⟩ (xce_57 G kp _ _) rfl rfl rfl (Nat.le_of_ble_eq_true rfl) hl.1 hR hS dX11_corner_10 ⟨Nat.le_refl _, Nat.le_refl _⟩ (fun v2 hf H locs hR hS => ?_)
    refine x_if_ne (tgt := 23) hC dX11_corner_13 (by decide) hf (fun hf => ?_) (fun hf => ?_)
    · refine lv_iload_n hC.1 hC.2.1 dX11_corner_23 rfl (lv_at hl 3 rfl) ?_
      refine lv_iconst (v := 0) hC.1 hC.2.1 dX11_corner_24 (by decide) ?_
      refine lv_iconst (v := 2) hC.1 hC.2.1 dX11_corner_25 (by decide) ?_
      refine x_csi00 (rest := []) hC xy_X11_in tw_1335 hf (fun _ h => M_X11_in G l kp h) ⟨Nat.le_of_ble_eq_true rfl, Nat.le_of_ble_eq_true rfl⟩ rfl rfl (Nat.le_of_ble_eq_true rfl) hl.1 hR hS dX11_corner_26 ⟨Nat.le_refl _, Nat.le_refl _⟩ (fun v3 hf H locs hR hS => ?_)
      refine x_if_ne (tgt := 39) hC dX11_corner_29 (by decide) hf (fun hf => ?_) (fun hf => ?_)
      · refine lv_aload_n hC.1 hC.2.1 dX11_corner_39 rfl (lv_at hl 0 rfl) ?_
        refine lv_iload_n hC.1 hC.2.1 dX11_corner_40 rfl (lv_at hl 1 rfl) ?_
        refine lv_iload_n hC.1 hC.2.1 dX11_corner_41 rfl (lv_at hl 2 rfl) ?_
        refine lv_iconst (v := 1) hC.1 hC.2.1 dX11_corner_42 (by decide) ?_
        refine x_cvi00 (rest := []) hC xy_X11_sumOf tw_1702 hf (fun _ h => M_X11_sumOf G l kp N h) ⟨Nat.le_of_ble_eq_true rfl, Nat.le_of_ble_eq_true rfl⟩ (xce_57 G kp _ _) rfl rfl rfl (Nat.le_of_ble_eq_true rfl) hl.1 hR hS dX11_corner_43 ⟨Nat.le_refl _, Nat.le_refl _⟩ (fun v4 hf H locs hR hS => ?_)
        refine lv_istore (lv' := [(4, .int v4), (0, .ref (xz G + 57)), (1, .int x1), (2, .int x2), (3, .int x3)]) hC.1 hC.2.1 dX11_corner_46 hl (Nat.le_of_ble_eq_true rfl) rfl (fun ls hl => ?_)
        refine lv_aload_n hC.1 hC.2.1 dX11_corner_48 rfl (lv_at hl 1 rfl) ?_
        refine lv_iload_n hC.1 hC.2.1 dX11_corner_49 rfl (lv_at hl 2 rfl) ?_
        refine lv_iload_n hC.1 hC.2.1 dX11_corner_50 rfl (lv_at hl 3 rfl) ?_
        refine lv_iconst (v := 0) hC.1 hC.2.1 dX11_corner_51 (by decide) ?_
        refine x_cvi00 (rest := []) hC xy_X11_sumOf tw_1702 hf (fun _ h => M_X11_sumOf G l kp N h) ⟨Nat.le_of_ble_eq_true rfl, Nat.le_of_ble_eq_true rfl⟩ (xce_57 G kp _ _) rfl rfl rfl (Nat.le_of_ble_eq_true rfl) hl.1 hR hS dX11_corner_52 ⟨Nat.le_refl _, Nat.le_refl _⟩ (fun v5 hf H locs hR hS => ?_)
        refine W.eq (g2 := F0 m 55 ls [.int v5]) rfl ?_
        refine lv_istore (lv' := [(5, .int v5), (4, .int v4), (0, .ref (xz G + 57)), (1, .int x1), (2, .int x2), (3, .int x3)]) hC.1 hC.2.1 dX11_corner_55 hl (Nat.le_of_ble_eq_true rfl) rfl (fun ls hl => ?_)
        refine lv_iload_n hC.1 hC.2.1 dX11_corner_57 rfl (lv_at hl 5 rfl) ?_
        refine lv_iconst (v := 1) hC.1 hC.2.1 dX11_corner_58 (by decide) ?_
        refine x_ic_ne (tgt := 67) hC dX11_corner_59 (by decide) hf (fun hf => ?_) (fun hf => ?_)
        · refine lv_iload_n hC.1 hC.2.1 dX11_corner_67 rfl (lv_at hl 5 rfl) ?_
          refine lv_iconst (v := 2) hC.1 hC.2.1 dX11_corner_68 (by decide) ?_
          refine x_ic_ne (tgt := 77) hC dX11_corner_69 (by decide) hf (fun hf => ?_) (fun hf => ?_)
          · refine lv_iload hC.1 hC.2.1 dX11_corner_77 (lv_at hl 1 rfl) ?_
            refine lv_iload hC.1 hC.2.1 dX11_corner_79 (lv_at hl 0 rfl) ?_
            refine x_ic_le (tgt := 92) hC dX11_corner_81 (by decide) hf (fun hf => ?_) (fun hf => ?_)
            · refine lv_iconst (v := 0) hC.1 hC.2.1 dX11_corner_92 (by decide) ?_
              obtain ⟨h91, h92⟩ := Prod.mk.inj (Option.some.inj hf)
              subst h91
              subst h92
              exact x_iret hC hR hS dX11_corner_93
            · refine lv_iload hC.1 hC.2.1 dX11_corner_84 (lv_at hl 1 rfl) ?_
              refine lv_iload hC.1 hC.2.1 dX11_corner_86 (lv_at hl 0 rfl) ?_
              refine lv_isub hC.1 hC.2.1 dX11_corner_88 ?_
              refine lv_goto (tgt := 93) hC.1 hC.2.1 dX11_corner_89 (by decide) ?_
              obtain ⟨h91, h92⟩ := Prod.mk.inj (Option.some.inj hf)
              subst h91
              subst h92
              exact x_iret hC hR hS dX11_corner_93
          · refine lv_iload hC.1 hC.2.1 dX11_corner_72 (lv_at hl 0 rfl) ?_
            refine lv_goto (tgt := 93) hC.1 hC.2.1 dX11_corner_74 (by decide) ?_
            obtain ⟨h91, h92⟩ := Prod.mk.inj (Option.some.inj hf)
            subst h91
            subst h92
            exact x_iret hC hR hS dX11_corner_93
        · refine lv_iload hC.1 hC.2.1 dX11_corner_62 (lv_at hl 1 rfl) ?_
          refine lv_goto (tgt := 93) hC.1 hC.2.1 dX11_corner_64 (by decide) ?_
          obtain ⟨h91, h92⟩ := Prod.mk.inj (Option.some.inj hf)
          subst h91
          subst h92
          exact x_iret hC hR hS dX11_corner_93
      · refine lv_aload_n hC.1 hC.2.1 dX11_corner_32 rfl (lv_at hl 0 rfl) ?_
        refine lv_bipush (v := (-7)) hC.1 hC.2.1 dX11_corner_33 (by decide) ?_
        refine x_cvi10 (rest := []) hC xy_X11_refuse tw_1338 hf (fun _ _ h => M_X11_refuse G l kp h) ⟨Nat.le_of_ble_eq_true rfl, Nat.le_of_ble_eq_true rfl⟩ (xce_57 G kp _ _) rfl rfl rfl (Nat.le_of_ble_eq_true rfl) hl.1 hR hS dX11_corner_35 ⟨Nat.le_refl _, Nat.le_refl _⟩ (fun v6 I7 hf H locs hR hS => ?_)
        obtain ⟨h91, h92⟩ := Prod.mk.inj (Option.some.inj hf)
        subst h91
        subst h92
        exact x_iret hC hR hS dX11_corner_38
    · exact W_X11_corner_j16 hC N hf _ _ _ hR hS (lv_sub hl [0] rfl)
set_option maxRecDepth 20000 in
theorem W_X11_squeeze_j16 {G : XG} {l : Launch} {kp : Bool} {p : Program} {e : Env} {s : State} {m : MethodId} {args : Array Value} {below : List Frame} {meth : Method} {c : Code} (hC : xC G p s m args meth c cX11_squeeze 8 RX11 (some .long)) (N : Nat) {I : xTI} {L : xTL} {r : Int64} {rI : xTI} (hf : F_X11_squeeze_j16 N I = some (r, rI)) : ∀ (H : Heap) (locs : List Loc) (ls : Array Slot), xRep G kp I L H → xS G s.heap H locs → lv_has ls 8 [(0, .ref (xz G + 57))] → W p l e (xrm 5 116) s m args below meth c H locs 0 0 (xMQ G kp below args s (some (.long r)) rI L) (F0 m 16 ls []) := by
  intro H locs ls hR hS hl
  unfold F_X11_squeeze_j16 at hf
  refine lv_aload_n hC.1 hC.2.1 dX11_squeeze_16 rfl (lv_at hl 0 rfl) ?_
  refine lv_bipush (v := (-3)) hC.1 hC.2.1 dX11_squeeze_17 (by decide) ?_
  refine x_cvi10 (rest := []) hC xy_X11_hush tw_1391 hf (fun _ _ h => M_X11_hush G l kp h) ⟨Nat.le_of_ble_eq_true rfl, Nat.le_of_ble_eq_true rfl⟩ (xce_57 G kp _ _) rfl rfl rfl (Nat.le_of_ble_eq_true rfl) hl.1 hR hS dX11_squeeze_19 ⟨Nat.le_refl _, Nat.le_refl _⟩ (fun v1 I2 hf H locs hR hS => ?_)
  refine lv_i2l hC.1 hC.2.1 dX11_squeeze_22 rfl ?_
  obtain ⟨h91, h92⟩ := Prod.mk.inj (Option.some.inj hf)
  subst h91
  subst h92
  exact x_lret hC hR hS dX11_squeeze_23
set_option maxRecDepth 20000 in
theorem W_X11_squeeze_j201 {G : XG} {l : Launch} {kp : Bool} {p : Program} {e : Env} {s : State} {m : MethodId} {args : Array Value} {below : List Frame} {meth : Method} {c : Code} (hC : xC G p s m args meth c cX11_squeeze 8 RX11 (some .long)) (N : Nat) {I : xTI} {L : xTL} {r : Int64} {rI : xTI} {x1 : Int32} {x3 : Int32} {x4 : Int64} {x6 : Int32} {t0 : Int32} (k91 : Int32 × Int64 × xTI → Option (Int64 × xTI)) (hk91 : ∀ (x3 : Int32) (x4 : Int64) (I : xTI) , k91 (x3, x4, I) = some (r, rI) → ∀ (H : Heap) (locs : List Loc) (ls : Array Slot), xRep G kp I L H → xS G s.heap H locs → lv_has ls 8 [(0, .ref (xz G + 57)), (1, .int x1), (3, .int x3), (4, .long x4)] → W p l e (xrm 5 116) s m args below meth c H locs 0 0 (xMQ G kp below args s (some (.long r)) rI L) (F0 m 91 ls [])) (hf : F_X11_squeeze_j201 k91 N I x1 x3 x4 x6 t0 = some (r, rI)) : ∀ (H : Heap) (locs : List Loc) (ls : Array Slot), xRep G kp I L H → xS G s.heap H locs → lv_has ls 8 [(0, .ref (xz G + 57)), (1, .int x1), (3, .int x3), (4, .long x4), (6, .int x6)] → W p l e (xrm 5 116) s m args below meth c H locs 0 0 (xMQ G kp below args s (some (.long r)) rI L) (F0 m 201 ls [.int t0]) := by
  intro H locs ls hR hS hl
  unfold F_X11_squeeze_j201 at hf
  refine lv_istore (lv' := [(7, .int t0), (0, .ref (xz G + 57)), (1, .int x1), (3, .int x3), (4, .long x4), (6, .int x6)]) hC.1 hC.2.1 dX11_squeeze_201 hl (Nat.le_of_ble_eq_true rfl) rfl (fun ls hl => ?_)
  refine lv_lload hC.1 hC.2.1 dX11_squeeze_203 (lv_at hl 4 rfl) ?_
  refine lv_iload hC.1 hC.2.1 dX11_squeeze_205 (lv_at hl 0 rfl) ?_
  refine lv_i2l hC.1 hC.2.1 dX11_squeeze_207 rfl ?_
  refine lv_aload_n hC.1 hC.2.1 dX11_squeeze_208 rfl (lv_at hl 1 rfl) ?_
  refine x_get (v := .ref (xz G + 58)) hC xf_X11_14 (xce_57 G kp _ _) rfl hR dX11_squeeze_209 ?_
  refine lv_bipush (v := 124) hC.1 hC.2.1 dX11_squeeze_212 (by decide) ?_
  refine lv_iconst (v := 5) hC.1 hC.2.1 dX11_squeeze_214 (by decide) ?_
  refine lv_iload hC.1 hC.2.1 dX11_squeeze_215 (lv_at hl 5 rfl) ?_
  refine lv_imul hC.1 hC.2.1 dX11_squeeze_217 ?_
  refine lv_iadd hC.1 hC.2.1 dX11_squeeze_218 ?_
  refine W.eq (g2 := F0 m 219 ls [.int (124 + (5 * x6)), .ref (xz G + 58), .long (t0.toInt64), .long x4]) rfl ?_
  refine lv_iload_n hC.1 hC.2.1 dX11_squeeze_219 rfl (lv_at hl 2 rfl) ?_
  refine lv_iadd hC.1 hC.2.1 dX11_squeeze_220 ?_
  refine x_ial hC (xce_58 G kp _ _) hR dX11_squeeze_221 hf (fun v1 hf => ?_)
  refine lv_i2l hC.1 hC.2.1 dX11_squeeze_222 rfl ?_
  refine lv_lmul hC.1 hC.2.1 dX11_squeeze_223 ?_
  refine lv_ladd hC.1 hC.2.1 dX11_squeeze_224 ?_
  refine x_lst (lv' := fun y2 => [(4, .long y2), (7, .int t0), (0, .ref (xz G + 57)), (1, .int x1), (3, .int x3), (6, .int x6)]) hC hl dX11_squeeze_225 (Nat.le_of_ble_eq_true rfl) hf (fun _ => rfl) (fun y2 hf ls hl => ?_)
  refine lv_iload_n hC.1 hC.2.1 dX11_squeeze_227 rfl (lv_at hl 4 rfl) ?_
  refine lv_iload hC.1 hC.2.1 dX11_squeeze_228 (lv_at hl 1 rfl) ?_
  refine lv_isub hC.1 hC.2.1 dX11_squeeze_230 ?_
  refine x_istn (lv' := fun y3 => [(3, .int y3), (4, .long y2), (7, .int t0), (0, .ref (xz G + 57)), (1, .int x1), (6, .int x6)]) hC hl dX11_squeeze_231 rfl (Nat.le_of_ble_eq_true rfl) hf (fun _ => rfl) (fun y3 hf ls hl => ?_)
  refine lv_aload_n hC.1 hC.2.1 dX11_squeeze_232 rfl (lv_at hl 3 rfl) ?_
  refine W.eq (g2 := F0 m 233 ls [.ref (xz G + 57)]) rfl ?_
  refine x_get (v := .ref (xz G + 78)) hC xf_X11_76 (xce_57 G kp _ _) rfl hR dX11_squeeze_233 ?_
  refine lv_iload hC.1 hC.2.1 dX11_squeeze_236 (lv_at hl 5 rfl) ?_
  refine lv_iconst (v := 0) hC.1 hC.2.1 dX11_squeeze_238 (by decide) ?_
  refine x_ias hC (fun f => (xce_78 G kp f _)) hR hS dX11_squeeze_239 hf (fun I4 hf H locs hR hS => ?_)
  refine lv_goto (tgt := 91) hC.1 hC.2.1 dX11_squeeze_240 (by decide) ?_
  exact hk91 y3 y2 I4 hf _ _ _ hR hS (lv_sub hl [3, 4, 0, 1] rfl)
set_option maxRecDepth 20000 in
theorem W_X11_squeeze_l101 {G : XG} {l : Launch} {kp : Bool} {p : Program} {e : Env} {s : State} {m : MethodId} {args : Array Value} {below : List Frame} {meth : Method} {c : Code} (hC : xC G p s m args meth c cX11_squeeze 8 RX11 (some .long)) (N : Nat) {I : xTI} {L : xTL} {r : Int64} {rI : xTI} {x1 : Int32} {x3 : Int32} {x4 : Int64} (k91 : Int32 × Int64 × xTI → Option (Int64 × xTI)) (hk91 : ∀ (x3 : Int32) (x4 : Int64) (I : xTI) , k91 (x3, x4, I) = some (r, rI) → ∀ (H : Heap) (locs : List Loc) (ls : Array Slot), xRep G kp I L H → xS G s.heap H locs → lv_has ls 8 [(0, .ref (xz G + 57)), (1, .int x1), (3, .int x3), (4, .long x4)] → W p l e (xrm 5 116) s m args below meth c H locs 0 0 (xMQ G kp below args s (some (.long r)) rI L) (F0 m 91 ls [])) : ∀ (n : Nat) (x6 : Int32) (x7 : Int32) , xlp (F_X11_squeeze_b101 k91 N I x1 x3 x4 ) n (x6, x7) = some (r, rI) → ∀ (H : Heap) (locs : List Loc) (ls : Array Slot), xRep G kp I L H → xS G s.heap H locs → lv_has ls 8 [(0, .ref (xz G + 57)), (1, .int x1), (3, .int x3), (4, .long x4), (6, .int x6), (7, .int x7)] → W p l e (xrm 5 116) s m args below meth c H locs 0 0 (xMQ G kp below args s (some (.long r)) rI L) (F0 m 101 ls []) := by
  intro n
  induction n with
  | zero =>
    intro x6 x7 hf
    cases hf
  | succ n hk101 =>
    intro x6 x7 hf H locs ls hR hS hl
    rw [xlp_s, E_X11_squeeze_b101] at hf
    unfold F_X11_squeeze_c101 at hf
    refine lv_iload hC.1 hC.2.1 dX11_squeeze_101 (lv_at hl 5 rfl) ?_
    refine lv_aload_n hC.1 hC.2.1 dX11_squeeze_103 rfl (lv_at hl 0 rfl) ?_
    refine x_get (v := .ref (xz G + 58)) hC xf_X11_14 (xce_57 G kp _ _) rfl hR dX11_squeeze_104 ?_
    refine lv_iconst (v := 1) hC.1 hC.2.1 dX11_squeeze_107 (by decide) ?_
    refine x_ial hC (xce_58 G kp _ _) hR dX11_squeeze_108 hf (fun v1 hf => ?_)
    refine x_ic_ge (tgt := 169) hC dX11_squeeze_109 (by decide) hf (fun hf => ?_) (fun hf => ?_)
    · refine lv_iload hC.1 hC.2.1 dX11_squeeze_169 (lv_at hl 4 rfl) ?_
      refine lv_iconst (v := (-1)) hC.1 hC.2.1 dX11_squeeze_171 (by decide) ?_
      refine x_ic_ne (tgt := 179) hC dX11_squeeze_172 (by decide) hf (fun hf => ?_) (fun hf => ?_)
      · refine lv_aload_n hC.1 hC.2.1 dX11_squeeze_179 rfl (lv_at hl 0 rfl) ?_
        refine x_get (v := .ref (xz G + 78)) hC xf_X11_76 (xce_57 G kp _ _) rfl hR dX11_squeeze_180 ?_
        refine lv_iload hC.1 hC.2.1 dX11_squeeze_183 (lv_at hl 4 rfl) ?_
        refine x_ial hC (xce_78 G kp _ _) hR dX11_squeeze_185 hf (fun v2 hf => ?_)
        refine lv_iload_n hC.1 hC.2.1 dX11_squeeze_186 rfl (lv_at hl 2 rfl) ?_
        refine x_ic_ge (tgt := 200) hC dX11_squeeze_187 (by decide) hf (fun hf => ?_) (fun hf => ?_)
        · refine lv_iload_n hC.1 hC.2.1 dX11_squeeze_200 rfl (lv_at hl 2 rfl) ?_
          exact W_X11_squeeze_j201 hC N _ hk91 hf _ _ _ hR hS (lv_sub hl [0, 1, 2, 3, 4] rfl)
        · refine lv_aload_n hC.1 hC.2.1 dX11_squeeze_190 rfl (lv_at hl 0 rfl) ?_
          refine x_get (v := .ref (xz G + 78)) hC xf_X11_76 (xce_57 G kp _ _) rfl hR dX11_squeeze_191 ?_
          refine lv_iload hC.1 hC.2.1 dX11_squeeze_194 (lv_at hl 4 rfl) ?_
          refine x_ial hC (xce_78 G kp _ _) hR dX11_squeeze_196 hf (fun v3 hf => ?_)
          refine lv_goto (tgt := 201) hC.1 hC.2.1 dX11_squeeze_197 (by decide) ?_
          exact W_X11_squeeze_j201 hC N _ hk91 hf _ _ _ hR hS (lv_sub hl [0, 1, 2, 3, 4] rfl)
      · refine x_ldc2 (v := (-1)) hC tw_1481 dX11_squeeze_175 ?_
        obtain ⟨h91, h92⟩ := Prod.mk.inj (Option.some.inj hf)
        subst h91
        subst h92
        exact x_lret hC hR hS dX11_squeeze_178
    · refine lv_aload_n hC.1 hC.2.1 dX11_squeeze_112 rfl (lv_at hl 0 rfl) ?_
      refine x_get (v := .ref (xz G + 78)) hC xf_X11_76 (xce_57 G kp _ _) rfl hR dX11_squeeze_113 ?_
      refine lv_iload hC.1 hC.2.1 dX11_squeeze_116 (lv_at hl 5 rfl) ?_
      refine x_ial hC (xce_78 G kp _ _) hR dX11_squeeze_118 hf (fun v4 hf => ?_)
      refine x_if_le (tgt := 163) hC dX11_squeeze_119 (by decide) hf (fun hf => ?_) (fun hf => ?_)
      · refine x_iinc (d := 1) (lv' := fun y5 => [(7, .int y5), (0, .ref (xz G + 57)), (1, .int x1), (3, .int x3), (4, .long x4), (6, .int x6)]) (k := 5) hC hl dX11_squeeze_163 rfl (by decide) (Nat.le_of_ble_eq_true rfl) hf (fun _ => rfl) (fun y5 hf ls hl => ?_)
        refine lv_goto (tgt := 101) hC.1 hC.2.1 dX11_squeeze_166 (by decide) ?_
        exact hk101 x6 y5 hf _ _ _ hR hS (lv_sub hl [1, 2, 3, 4, 5, 0] rfl)
      · refine lv_iload hC.1 hC.2.1 dX11_squeeze_122 (lv_at hl 4 rfl) ?_
        refine lv_iconst (v := (-1)) hC.1 hC.2.1 dX11_squeeze_124 (by decide) ?_
        refine x_ic_eq (tgt := 159) hC dX11_squeeze_125 (by decide) hf (fun hf => ?_) (fun hf => ?_)
        · refine lv_iload hC.1 hC.2.1 dX11_squeeze_159 (lv_at hl 5 rfl) ?_
          refine lv_istore (lv' := [(6, .int x7), (0, .ref (xz G + 57)), (1, .int x1), (3, .int x3), (4, .long x4), (7, .int x7)]) hC.1 hC.2.1 dX11_squeeze_161 hl (Nat.le_of_ble_eq_true rfl) rfl (fun ls hl => ?_)
          refine x_iinc (d := 1) (lv' := fun y6 => [(7, .int y6), (6, .int x7), (0, .ref (xz G + 57)), (1, .int x1), (3, .int x3), (4, .long x4)]) (k := 5) hC hl dX11_squeeze_163 rfl (by decide) (Nat.le_of_ble_eq_true rfl) hf (fun _ => rfl) (fun y6 hf ls hl => ?_)
          refine lv_goto (tgt := 101) hC.1 hC.2.1 dX11_squeeze_166 (by decide) ?_
          exact hk101 x7 y6 hf _ _ _ hR hS (lv_sub hl [2, 3, 4, 5, 1, 0] rfl)
        · refine lv_aload_n hC.1 hC.2.1 dX11_squeeze_128 rfl (lv_at hl 0 rfl) ?_
          refine x_get (v := .ref (xz G + 58)) hC xf_X11_14 (xce_57 G kp _ _) rfl hR dX11_squeeze_129 ?_
          refine lv_bipush (v := 124) hC.1 hC.2.1 dX11_squeeze_132 (by decide) ?_
          refine lv_iconst (v := 5) hC.1 hC.2.1 dX11_squeeze_134 (by decide) ?_
          refine lv_iload hC.1 hC.2.1 dX11_squeeze_135 (lv_at hl 5 rfl) ?_
          refine lv_imul hC.1 hC.2.1 dX11_squeeze_137 ?_
          refine lv_iadd hC.1 hC.2.1 dX11_squeeze_138 ?_
          refine lv_iload_n hC.1 hC.2.1 dX11_squeeze_139 rfl (lv_at hl 1 rfl) ?_
          refine lv_iadd hC.1 hC.2.1 dX11_squeeze_140 ?_
          refine x_ial hC (xce_58 G kp _ _) hR dX11_squeeze_141 hf (fun v7 hf => ?_)
          refine lv_aload_n hC.1 hC.2.1 dX11_squeeze_142 rfl (lv_at hl 0 rfl) ?_
          refine W.eq (g2 := F0 m 143 ls [.ref (xz G + 57), .int v7]) rfl ?_
          refine x_get (v := .ref (xz G + 58)) hC xf_X11_14 (xce_57 G kp _ _) rfl hR dX11_squeeze_143 ?_
          refine lv_bipush (v := 124) hC.1 hC.2.1 dX11_squeeze_146 (by decide) ?_
          refine lv_iconst (v := 5) hC.1 hC.2.1 dX11_squeeze_148 (by decide) ?_
          refine lv_iload hC.1 hC.2.1 dX11_squeeze_149 (lv_at hl 4 rfl) ?_
          refine lv_imul hC.1 hC.2.1 dX11_squeeze_151 ?_
          refine lv_iadd hC.1 hC.2.1 dX11_squeeze_152 ?_
          refine lv_iload_n hC.1 hC.2.1 dX11_squeeze_153 rfl (lv_at hl 1 rfl) ?_
          refine lv_iadd hC.1 hC.2.1 dX11_squeeze_154 ?_
          refine x_ial hC (xce_58 G kp _ _) hR dX11_squeeze_155 hf (fun v8 hf => ?_)
          refine x_ic_ge (tgt := 163) hC dX11_squeeze_156 (by decide) hf (fun hf => ?_) (fun hf => ?_)
          · refine x_iinc (d := 1) (lv' := fun y9 => [(7, .int y9), (0, .ref (xz G + 57)), (1, .int x1), (3, .int x3), (4, .long x4), (6, .int x6)]) (k := 5) hC hl dX11_squeeze_163 rfl (by decide) (Nat.le_of_ble_eq_true rfl) hf (fun _ => rfl) (fun y9 hf ls hl => ?_)
            refine lv_goto (tgt := 101) hC.1 hC.2.1 dX11_squeeze_166 (by decide) ?_
            exact hk101 x6 y9 hf _ _ _ hR hS (lv_sub hl [1, 2, 3, 4, 5, 0] rfl)
          · refine lv_iload hC.1 hC.2.1 dX11_squeeze_159 (lv_at hl 5 rfl) ?_
            refine lv_istore (lv' := [(6, .int x7), (0, .ref (xz G + 57)), (1, .int x1), (3, .int x3), (4, .long x4), (7, .int x7)]) hC.1 hC.2.1 dX11_squeeze_161 hl (Nat.le_of_ble_eq_true rfl) rfl (fun ls hl => ?_)
            refine x_iinc (d := 1) (lv' := fun y10 => [(7, .int y10), (6, .int x7), (0, .ref (xz G + 57)), (1, .int x1), (3, .int x3), (4, .long x4)]) (k := 5) hC hl dX11_squeeze_163 rfl (by decide) (Nat.le_of_ble_eq_true rfl) hf (fun _ => rfl) (fun y10 hf ls hl => ?_)
            refine lv_goto (tgt := 101) hC.1 hC.2.1 dX11_squeeze_166 (by decide) ?_
            exact hk101 x7 y10 hf _ _ _ hR hS (lv_sub hl [2, 3, 4, 5, 1, 0] rfl)
set_option maxRecDepth 20000 in
theorem W_X11_squeeze_l91 {G : XG} {l : Launch} {kp : Bool} {p : Program} {e : Env} {s : State} {m : MethodId} {args : Array Value} {below : List Frame} {meth : Method} {c : Code} (hC : xC G p s m args meth c cX11_squeeze 8 RX11 (some .long)) (N : Nat) {L : xTL} {r : Int64} {rI : xTI} {x1 : Int32} : ∀ (n : Nat) (x3 : Int32) (x4 : Int64) (I : xTI) , xlp (F_X11_squeeze_b91 N x1 ) n (x3, x4, I) = some (r, rI) → ∀ (H : Heap) (locs : List Loc) (ls : Array Slot), xRep G kp I L H → xS G s.heap H locs → lv_has ls 8 [(0, .ref (xz G + 57)), (1, .int x1), (3, .int x3), (4, .long x4)] → W p l e (xrm 5 116) s m args below meth c H locs 0 0 (xMQ G kp below args s (some (.long r)) rI L) (F0 m 91 ls []) := by
  intro n
  induction n with
  | zero =>
    intro x3 x4 I hf
    cases hf
  | succ n hk91 =>
    intro x3 x4 I hf H locs ls hR hS hl
    rw [xlp_s, E_X11_squeeze_b91] at hf
    unfold F_X11_squeeze_c91 at hf
    refine lv_iload_n hC.1 hC.2.1 dX11_squeeze_91 rfl (lv_at hl 2 rfl) ?_
    refine x_if_le (tgt := 243) hC dX11_squeeze_92 (by decide) hf (fun hf => ?_) (fun hf => ?_)
    · refine lv_lload hC.1 hC.2.1 dX11_squeeze_243 (lv_at hl 3 rfl) ?_
      obtain ⟨h91, h92⟩ := Prod.mk.inj (Option.some.inj hf)
      subst h91
      subst h92
      exact x_lret hC hR hS dX11_squeeze_245
    · refine lv_iconst (v := (-1)) hC.1 hC.2.1 dX11_squeeze_95 (by decide) ?_
      refine x_ist (lv' := fun y1 => [(6, .int y1), (0, .ref (xz G + 57)), (1, .int x1), (3, .int x3), (4, .long x4)]) hC hl dX11_squeeze_96 (Nat.le_of_ble_eq_true rfl) hf (fun _ => rfl) (fun y1 hf ls hl => ?_)
      refine lv_iconst (v := 0) hC.1 hC.2.1 dX11_squeeze_98 (by decide) ?_
      refine lv_istore (lv' := [(7, .int 0), (6, .int y1), (0, .ref (xz G + 57)), (1, .int x1), (3, .int x3), (4, .long x4)]) hC.1 hC.2.1 dX11_squeeze_99 hl (Nat.le_of_ble_eq_true rfl) rfl (fun ls hl => ?_)
      exact W_X11_squeeze_l101 hC N _ hk91 _ y1 0 hf _ _ _ hR hS (lv_sub hl [2, 3, 4, 5, 1, 0] rfl)
set_option maxRecDepth 20000 in
theorem W_X11_squeeze_j81 {G : XG} {l : Launch} {kp : Bool} {p : Program} {e : Env} {s : State} {m : MethodId} {args : Array Value} {below : List Frame} {meth : Method} {c : Code} (hC : xC G p s m args meth c cX11_squeeze 8 RX11 (some .long)) (N : Nat) {I : xTI} {L : xTL} {r : Int64} {rI : xTI} {x1 : Int32} {x3 : Int32} {x4 : Int32} {t1 : Int32} {t2 : Int32} (k35 : Int32 × xTI → Option (Int64 × xTI)) (hk35 : ∀ (x4 : Int32) (I : xTI) , k35 (x4, I) = some (r, rI) → ∀ (H : Heap) (locs : List Loc) (ls : Array Slot), xRep G kp I L H → xS G s.heap H locs → lv_has ls 8 [(0, .ref (xz G + 57)), (1, .int x1), (3, .int x3), (4, .int x4)] → W p l e (xrm 5 116) s m args below meth c H locs 0 0 (xMQ G kp below args s (some (.long r)) rI L) (F0 m 35 ls [])) (hf : F_X11_squeeze_j81 k35 N I x1 x3 x4 t1 t2 = some (r, rI)) : ∀ (H : Heap) (locs : List Loc) (ls : Array Slot), xRep G kp I L H → xS G s.heap H locs → lv_has ls 8 [(0, .ref (xz G + 57)), (1, .int x1), (3, .int x3), (4, .int x4)] → W p l e (xrm 5 116) s m args below meth c H locs 0 0 (xMQ G kp below args s (some (.long r)) rI L) (F0 m 81 ls [.int t2, .int t1, .ref (xz G + 78)]) := by
  intro H locs ls hR hS hl
  unfold F_X11_squeeze_j81 at hf
  refine x_ias hC (fun f => (xce_78 G kp f _)) hR hS dX11_squeeze_81 hf (fun I1 hf H locs hR hS => ?_)
  refine x_iinc (d := 1) (lv' := fun y2 => [(4, .int y2), (0, .ref (xz G + 57)), (1, .int x1), (3, .int x3)]) (k := 3) hC hl dX11_squeeze_82 rfl (by decide) (Nat.le_of_ble_eq_true rfl) hf (fun _ => rfl) (fun y2 hf ls hl => ?_)
  refine lv_goto (tgt := 35) hC.1 hC.2.1 dX11_squeeze_85 (by decide) ?_
  exact hk35 y2 I1 hf _ _ _ hR hS (lv_sub hl [1, 2, 3, 0] rfl)
set_option maxRecDepth 20000 in
theorem W_X11_squeeze_l35 {G : XG} {l : Launch} {kp : Bool} {p : Program} {e : Env} {s : State} {m : MethodId} {args : Array Value} {below : List Frame} {meth : Method} {c : Code} (hC : xC G p s m args meth c cX11_squeeze 8 RX11 (some .long)) (N : Nat) {L : xTL} {r : Int64} {rI : xTI} {x1 : Int32} {x3 : Int32} : ∀ (n : Nat) (x4 : Int32) (I : xTI) , xlp (F_X11_squeeze_b35 N x1 x3 ) n (x4, I) = some (r, rI) → ∀ (H : Heap) (locs : List Loc) (ls : Array Slot), xRep G kp I L H → xS G s.heap H locs → lv_has ls 8 [(0, .ref (xz G + 57)), (1, .int x1), (3, .int x3), (4, .int x4)] → W p l e (xrm 5 116) s m args below meth c H locs 0 0 (xMQ G kp below args s (some (.long r)) rI L) (F0 m 35 ls []) := by
  intro n
  induction n with
  | zero =>
    intro x4 I hf
    cases hf
  | succ n hk35 =>
    intro x4 I hf H locs ls hR hS hl
    rw [xlp_s, E_X11_squeeze_b35] at hf
    unfold F_X11_squeeze_c35 at hf
    refine lv_iload hC.1 hC.2.1 dX11_squeeze_35 (lv_at hl 3 rfl) ?_
    refine lv_aload_n hC.1 hC.2.1 dX11_squeeze_37 rfl (lv_at hl 0 rfl) ?_
    refine x_get (v := .ref (xz G + 58)) hC xf_X11_14 (xce_57 G kp _ _) rfl hR dX11_squeeze_38 ?_
    refine lv_iconst (v := 1) hC.1 hC.2.1 dX11_squeeze_41 (by decide) ?_
    refine x_ial hC (xce_58 G kp _ _) hR dX11_squeeze_42 hf (fun v1 hf => ?_)
    refine x_ic_ge (tgt := 88) hC dX11_squeeze_43 (by decide) hf (fun hf => ?_) (fun hf => ?_)
    · refine lv_lconst (v := 0) hC.1 hC.2.1 dX11_squeeze_88 (by decide) ?_
      refine lv_lstore (lv' := [(4, .long 0), (0, .ref (xz G + 57)), (1, .int x1), (3, .int x3)]) hC.1 hC.2.1 dX11_squeeze_89 hl (Nat.le_of_ble_eq_true rfl) rfl (fun ls hl => ?_)
      exact W_X11_squeeze_l91 hC N _ x3 0 I hf _ _ _ hR hS (lv_sub hl [1, 2, 3, 0] rfl)
    · refine lv_aload_n hC.1 hC.2.1 dX11_squeeze_46 rfl (lv_at hl 0 rfl) ?_
      refine lv_iload hC.1 hC.2.1 dX11_squeeze_47 (lv_at hl 3 rfl) ?_
      refine lv_iload_n hC.1 hC.2.1 dX11_squeeze_49 rfl (lv_at hl 1 rfl) ?_
      refine x_cvi00 (rest := []) hC xy_X11_there tw_1706 hf (fun _ h => M_X11_there G l kp N h) ⟨Nat.le_of_ble_eq_true rfl, Nat.le_of_ble_eq_true rfl⟩ (xce_57 G kp _ _) rfl rfl rfl (Nat.le_of_ble_eq_true rfl) hl.1 hR hS dX11_squeeze_50 ⟨Nat.le_refl _, Nat.le_refl _⟩ (fun v2 hf H locs hR hS => ?_)
      refine lv_istore (lv' := [(5, .int v2), (0, .ref (xz G + 57)), (1, .int x1), (3, .int x3), (4, .int x4)]) hC.1 hC.2.1 dX11_squeeze_53 hl (Nat.le_of_ble_eq_true rfl) rfl (fun ls hl => ?_)
      refine lv_aload_n hC.1 hC.2.1 dX11_squeeze_55 rfl (lv_at hl 1 rfl) ?_
      refine x_get (v := .ref (xz G + 78)) hC xf_X11_76 (xce_57 G kp _ _) rfl hR dX11_squeeze_56 ?_
      refine lv_iload hC.1 hC.2.1 dX11_squeeze_59 (lv_at hl 4 rfl) ?_
      refine lv_aload_n hC.1 hC.2.1 dX11_squeeze_61 rfl (lv_at hl 1 rfl) ?_
      refine lv_iload hC.1 hC.2.1 dX11_squeeze_62 (lv_at hl 4 rfl) ?_
      refine x_cvi00 (rest := [.int x4, .ref (xz G + 78)]) hC xy_X11_isUp tw_1363 hf (fun _ h => M_X11_isUp G l kp h) ⟨Nat.le_of_ble_eq_true rfl, Nat.le_of_ble_eq_true rfl⟩ (xce_57 G kp _ _) rfl rfl rfl (Nat.le_of_ble_eq_true rfl) hl.1 hR hS dX11_squeeze_64 ⟨Nat.le_refl _, Nat.le_refl _⟩ (fun v3 hf H locs hR hS => ?_)
      refine W.eq (g2 := F0 m 67 ls [.int v3, .int x4, .ref (xz G + 78)]) rfl ?_
      refine x_if_eq (tgt := 80) hC dX11_squeeze_67 (by decide) hf (fun hf => ?_) (fun hf => ?_)
      · refine lv_iconst (v := 0) hC.1 hC.2.1 dX11_squeeze_80 (by decide) ?_
        exact W_X11_squeeze_j81 hC N _ hk35 hf _ _ _ hR hS (lv_sub hl [1, 2, 3, 4] rfl)
      · refine lv_iload hC.1 hC.2.1 dX11_squeeze_70 (lv_at hl 0 rfl) ?_
        refine x_if_le (tgt := 80) hC dX11_squeeze_72 (by decide) hf (fun hf => ?_) (fun hf => ?_)
        · refine lv_iconst (v := 0) hC.1 hC.2.1 dX11_squeeze_80 (by decide) ?_
          exact W_X11_squeeze_j81 hC N _ hk35 hf _ _ _ hR hS (lv_sub hl [1, 2, 3, 4] rfl)
        · refine lv_iload hC.1 hC.2.1 dX11_squeeze_75 (lv_at hl 0 rfl) ?_
          refine lv_goto (tgt := 81) hC.1 hC.2.1 dX11_squeeze_77 (by decide) ?_
          exact W_X11_squeeze_j81 hC N _ hk35 hf _ _ _ hR hS (lv_sub hl [1, 2, 3, 4] rfl)
set_option maxRecDepth 20000 in
theorem M_X11_squeeze (G : XG) (l : Launch) (kp : Bool) (N : Nat) {I : xTI} {L : xTL} {x1 : Int32} {x2 : Int32} {r : Int64} {rI : xTI} (hf : F_X11_squeeze N I x1 x2 = some (r, rI)) : xMet G l yX11_squeeze cX11_squeeze 8 (some .long) 5 116 kp [.ref (xz G + 57), .int x1, .int x2] I L (some (.long r)) rI L := by
  refine xMet.ofW (by decide +kernel) (Nat.le_of_ble_eq_true rfl) ?_
  intro p e s m args below meth c hC H locs ls hR hS hl
  replace hC : xC G p s m args meth c cX11_squeeze 8 RX11 (some .long) := hC
  replace hl : lv_has ls 8 [(0, .ref (xz G + 57)), (1, .int x1), (2, .int x2)] := hl
  unfold F_X11_squeeze at hf
  refine lv_aload_n hC.1 hC.2.1 dX11_squeeze_0 rfl (lv_at hl 0 rfl) ?_
  refine lv_iload_n hC.1 hC.2.1 dX11_squeeze_1 rfl (lv_at hl 1 rfl) ?_
  refine x_cvi00 (rest := []) hC xy_X11_isStock tw_1359 hf (fun _ h => M_X11_isStock G l kp h) ⟨Nat.le_of_ble_eq_true rfl, Nat.le_of_ble_eq_true rfl⟩ (xce_57 G kp _ _) rfl rfl rfl (Nat.le_of_ble_eq_true rfl) hl.1 hR hS dX11_squeeze_2 ⟨Nat.le_refl _, Nat.le_refl _⟩ (fun v1 hf H locs hR hS => ?_)
  refine x_if_eq (tgt := 16) hC dX11_squeeze_5 (by decide) hf (fun hf => ?_) (fun hf => ?_)
  · exact W_X11_squeeze_j16 hC N hf _ _ _ hR hS (lv_sub hl [0] rfl)
  · refine lv_aload_n hC.1 hC.2.1 dX11_squeeze_8 rfl (lv_at hl 0 rfl) ?_
    refine lv_iload_n hC.1 hC.2.1 dX11_squeeze_9 rfl (lv_at hl 2 rfl) ?_
    refine x_cvi00 (rest := []) hC xy_X11_isMan tw_1355 hf (fun _ h => M_X11_isMan G l kp h) ⟨Nat.le_of_ble_eq_true rfl, Nat.le_of_ble_eq_true rfl⟩ (xce_57 G kp _ _) rfl rfl rfl (Nat.le_of_ble_eq_true rfl) hl.1 hR hS dX11_squeeze_10 ⟨Nat.le_refl _, Nat.le_refl _⟩ (fun v2 hf H locs hR hS => ?_)
    refine x_if_ne (tgt := 24) hC dX11_squeeze_13 (by decide) hf (fun hf => ?_) (fun hf => ?_)
    · refine lv_aload_n hC.1 hC.2.1 dX11_squeeze_24 rfl (lv_at hl 0 rfl) ?_
      refine lv_iload_n hC.1 hC.2.1 dX11_squeeze_25 rfl (lv_at hl 1 rfl) ?_
      refine lv_iload_n hC.1 hC.2.1 dX11_squeeze_26 rfl (lv_at hl 2 rfl) ?_
      refine lv_iconst (v := 1) hC.1 hC.2.1 dX11_squeeze_27 (by decide) ?_
      refine x_cvi00 (rest := []) hC xy_X11_sumOf tw_1702 hf (fun _ h => M_X11_sumOf G l kp N h) ⟨Nat.le_of_ble_eq_true rfl, Nat.le_of_ble_eq_true rfl⟩ (xce_57 G kp _ _) rfl rfl rfl (Nat.le_of_ble_eq_true rfl) hl.1 hR hS dX11_squeeze_28 ⟨Nat.le_refl _, Nat.le_refl _⟩ (fun v3 hf H locs hR hS => ?_)
      refine lv_istore_n (lv' := [(3, .int v3), (0, .ref (xz G + 57)), (1, .int x1), (2, .int x2)]) hC.1 hC.2.1 dX11_squeeze_31 rfl hl (Nat.le_of_ble_eq_true rfl) rfl (fun ls hl => ?_)
      refine lv_iconst (v := 0) hC.1 hC.2.1 dX11_squeeze_32 (by decide) ?_
      refine lv_istore (lv' := [(4, .int 0), (3, .int v3), (0, .ref (xz G + 57)), (1, .int x1), (2, .int x2)]) hC.1 hC.2.1 dX11_squeeze_33 hl (Nat.le_of_ble_eq_true rfl) rfl (fun ls hl => ?_)
      exact W_X11_squeeze_l35 hC N _ 0 I hf _ _ _ hR hS (lv_sub hl [2, 3, 1, 0] rfl)
    · exact W_X11_squeeze_j16 hC N hf _ _ _ hR hS (lv_sub hl [0] rfl)
set_option maxRecDepth 20000 in
theorem W_X11_firstOf_l4 {G : XG} {l : Launch} {kp : Bool} {p : Program} {e : Env} {s : State} {m : MethodId} {args : Array Value} {below : List Frame} {meth : Method} {c : Code} (hC : xC G p s m args meth c cX11_firstOf 3 RX11 (some .int)) (N : Nat) {I : xTI} {L : xTL} {r : Int32} : ∀ (n : Nat) (x1 : Int32) (x2 : Int32) , xlp (F_X11_firstOf_b4 N I ) n (x1, x2) = some r → ∀ (H : Heap) (locs : List Loc) (ls : Array Slot), xRep G kp I L H → xS G s.heap H locs → lv_has ls 3 [(0, .ref (xz G + 57)), (1, .int x1), (2, .int x2)] → W p l e (xrm 1 22) s m args below meth c H locs 0 0 (xMQ G kp below args s (some (.int r)) I L) (F0 m 4 ls []) := by
  intro n
  induction n with
  | zero =>
    intro x1 x2 hf
    cases hf
  | succ n hk4 =>
    intro x1 x2 hf H locs ls hR hS hl
    rw [xlp_s, E_X11_firstOf_b4] at hf
    unfold F_X11_firstOf_c4 at hf
    refine lv_iload_n hC.1 hC.2.1 dX11_firstOf_4 rfl (lv_at hl 2 rfl) ?_
    refine lv_bipush (v := 60) hC.1 hC.2.1 dX11_firstOf_5 (by decide) ?_
    refine x_ic_ge (tgt := 49) hC dX11_firstOf_7 (by decide) hf (fun hf => ?_) (fun hf => ?_)
    · refine lv_iload_n hC.1 hC.2.1 dX11_firstOf_49 rfl (lv_at hl 1 rfl) ?_
      have h9 := Option.some.inj hf
      subst h9
      exact x_iret hC hR hS dX11_firstOf_50
    · refine lv_aload_n hC.1 hC.2.1 dX11_firstOf_10 rfl (lv_at hl 0 rfl) ?_
      refine x_get (v := .ref (xz G + 83)) hC xf_X11_92 (xce_57 G kp _ _) rfl hR dX11_firstOf_11 ?_
      refine lv_iload_n hC.1 hC.2.1 dX11_firstOf_14 rfl (lv_at hl 2 rfl) ?_
      refine x_zal hC (xce_83 G kp _ _) hR dX11_firstOf_15 hf (fun v1 hf => ?_)
      refine x_if_ne (tgt := 43) hC dX11_firstOf_16 (by decide) hf (fun hf => ?_) (fun hf => ?_)
      · refine x_iinc (d := 1) (lv' := fun y2 => [(2, .int y2), (0, .ref (xz G + 57)), (1, .int x1)]) (k := 2) hC hl dX11_firstOf_43 rfl (by decide) (Nat.le_of_ble_eq_true rfl) hf (fun _ => rfl) (fun y2 hf ls hl => ?_)
        refine lv_goto (tgt := 4) hC.1 hC.2.1 dX11_firstOf_46 (by decide) ?_
        exact hk4 x1 y2 hf _ _ _ hR hS (lv_sub hl [1, 2, 0] rfl)
      · refine lv_iload_n hC.1 hC.2.1 dX11_firstOf_19 rfl (lv_at hl 1 rfl) ?_
        refine lv_iconst (v := (-1)) hC.1 hC.2.1 dX11_firstOf_20 (by decide) ?_
        refine x_ic_eq (tgt := 41) hC dX11_firstOf_21 (by decide) hf (fun hf => ?_) (fun hf => ?_)
        · refine lv_iload_n hC.1 hC.2.1 dX11_firstOf_41 rfl (lv_at hl 2 rfl) ?_
          refine lv_istore_n (lv' := [(1, .int x2), (0, .ref (xz G + 57)), (2, .int x2)]) hC.1 hC.2.1 dX11_firstOf_42 rfl hl (Nat.le_of_ble_eq_true rfl) rfl (fun ls hl => ?_)
          refine x_iinc (d := 1) (lv' := fun y3 => [(2, .int y3), (1, .int x2), (0, .ref (xz G + 57))]) (k := 2) hC hl dX11_firstOf_43 rfl (by decide) (Nat.le_of_ble_eq_true rfl) hf (fun _ => rfl) (fun y3 hf ls hl => ?_)
          refine lv_goto (tgt := 4) hC.1 hC.2.1 dX11_firstOf_46 (by decide) ?_
          exact hk4 x2 y3 hf _ _ _ hR hS (lv_sub hl [2, 1, 0] rfl)
        · refine lv_aload_n hC.1 hC.2.1 dX11_firstOf_24 rfl (lv_at hl 0 rfl) ?_
          refine lv_iload_n hC.1 hC.2.1 dX11_firstOf_25 rfl (lv_at hl 2 rfl) ?_
          refine lv_bipush (v := 6) hC.1 hC.2.1 dX11_firstOf_26 (by decide) ?_
          refine x_cvi00 (rest := []) hC xy_X11_bg tw_1383 hf (fun _ h => M_X11_bg G l kp h) ⟨Nat.le_of_ble_eq_true rfl, Nat.le_of_ble_eq_true rfl⟩ (xce_57 G kp _ _) rfl rfl rfl (Nat.le_of_ble_eq_true rfl) hl.1 hR hS dX11_firstOf_28 ⟨Nat.le_refl _, Nat.le_refl _⟩ (fun v4 hf H locs hR hS => ?_)
          refine lv_aload_n hC.1 hC.2.1 dX11_firstOf_31 rfl (lv_at hl 0 rfl) ?_
          refine lv_iload_n hC.1 hC.2.1 dX11_firstOf_32 rfl (lv_at hl 1 rfl) ?_
          refine lv_bipush (v := 6) hC.1 hC.2.1 dX11_firstOf_33 (by decide) ?_
          refine x_cvi00 (rest := [.int v4]) hC xy_X11_bg tw_1383 hf (fun _ h => M_X11_bg G l kp h) ⟨Nat.le_of_ble_eq_true rfl, Nat.le_of_ble_eq_true rfl⟩ (xce_57 G kp _ _) rfl rfl rfl (Nat.le_of_ble_eq_true rfl) hl.1 hR hS dX11_firstOf_35 ⟨Nat.le_refl _, Nat.le_refl _⟩ (fun v5 hf H locs hR hS => ?_)
          refine x_ic_ge (tgt := 43) hC dX11_firstOf_38 (by decide) hf (fun hf => ?_) (fun hf => ?_)
          · refine x_iinc (d := 1) (lv' := fun y6 => [(2, .int y6), (0, .ref (xz G + 57)), (1, .int x1)]) (k := 2) hC hl dX11_firstOf_43 rfl (by decide) (Nat.le_of_ble_eq_true rfl) hf (fun _ => rfl) (fun y6 hf ls hl => ?_)
            refine lv_goto (tgt := 4) hC.1 hC.2.1 dX11_firstOf_46 (by decide) ?_
            exact hk4 x1 y6 hf _ _ _ hR hS (lv_sub hl [1, 2, 0] rfl)
          · refine lv_iload_n hC.1 hC.2.1 dX11_firstOf_41 rfl (lv_at hl 2 rfl) ?_
            refine lv_istore_n (lv' := [(1, .int x2), (0, .ref (xz G + 57)), (2, .int x2)]) hC.1 hC.2.1 dX11_firstOf_42 rfl hl (Nat.le_of_ble_eq_true rfl) rfl (fun ls hl => ?_)
            refine x_iinc (d := 1) (lv' := fun y7 => [(2, .int y7), (1, .int x2), (0, .ref (xz G + 57))]) (k := 2) hC hl dX11_firstOf_43 rfl (by decide) (Nat.le_of_ble_eq_true rfl) hf (fun _ => rfl) (fun y7 hf ls hl => ?_)
            refine lv_goto (tgt := 4) hC.1 hC.2.1 dX11_firstOf_46 (by decide) ?_
            exact hk4 x2 y7 hf _ _ _ hR hS (lv_sub hl [2, 1, 0] rfl)
set_option maxRecDepth 20000 in
theorem M_X11_firstOf (G : XG) (l : Launch) (kp : Bool) (N : Nat) {I : xTI} {L : xTL} {r : Int32} (hf : F_X11_firstOf N I = some r) : xMet G l yX11_firstOf cX11_firstOf 3 (some .int) 1 22 kp [.ref (xz G + 57)] I L (some (.int r)) I L := by
  refine xMet.ofW (by decide +kernel) (Nat.le_of_ble_eq_true rfl) ?_
  intro p e s m args below meth c hC H locs ls hR hS hl
  replace hC : xC G p s m args meth c cX11_firstOf 3 RX11 (some .int) := hC
  replace hl : lv_has ls 3 [(0, .ref (xz G + 57))] := hl
  unfold F_X11_firstOf at hf
  refine lv_iconst (v := (-1)) hC.1 hC.2.1 dX11_firstOf_0 (by decide) ?_
  refine x_istn (lv' := fun y1 => [(1, .int y1), (0, .ref (xz G + 57))]) hC hl dX11_firstOf_1 rfl (Nat.le_of_ble_eq_true rfl) hf (fun _ => rfl) (fun y1 hf ls hl => ?_)
  refine lv_iconst (v := 0) hC.1 hC.2.1 dX11_firstOf_2 (by decide) ?_
  refine lv_istore_n (lv' := [(2, .int 0), (1, .int y1), (0, .ref (xz G + 57))]) hC.1 hC.2.1 dX11_firstOf_3 rfl hl (Nat.le_of_ble_eq_true rfl) rfl (fun ls hl => ?_)
  exact W_X11_firstOf_l4 hC N _ y1 0 hf _ _ _ hR hS (lv_sub hl [2, 1, 0] rfl)
set_option maxRecDepth 20000 in
theorem W_X11_rolling_j14 {G : XG} {l : Launch} {kp : Bool} {p : Program} {e : Env} {s : State} {m : MethodId} {args : Array Value} {below : List Frame} {meth : Method} {c : Code} (hC : xC G p s m args meth c cX11_rolling 9 RX11 (some .int)) (N : Nat) {I : xTI} {L : xTL} {r : Int32} {rI : xTI} {rL : xTL} (hf : F_X11_rolling_j14 N I L = some (r, rI, rL)) : ∀ (H : Heap) (locs : List Loc) (ls : Array Slot), xRep G kp I L H → xS G s.heap H locs → lv_has ls 9 [(0, .ref (xz G + 57))] → W p l e (xrm 2 44) s m args below meth c H locs 0 0 (xMQ G kp below args s (some (.int r)) rI rL) (F0 m 14 ls []) := by
  intro H locs ls hR hS hl
  unfold F_X11_rolling_j14 at hf
  refine lv_aload_n hC.1 hC.2.1 dX11_rolling_14 rfl (lv_at hl 0 rfl) ?_
  refine lv_bipush (v := (-7)) hC.1 hC.2.1 dX11_rolling_15 (by decide) ?_
  refine x_cvi10 (rest := []) hC xy_X11_refuse tw_1338 hf (fun _ _ h => M_X11_refuse G l kp h) ⟨Nat.le_of_ble_eq_true rfl, Nat.le_of_ble_eq_true rfl⟩ (xce_57 G kp _ _) rfl rfl rfl (Nat.le_of_ble_eq_true rfl) hl.1 hR hS dX11_rolling_17 ⟨Nat.le_refl _, Nat.le_refl _⟩ (fun v1 I2 hf H locs hR hS => ?_)
  obtain ⟨h91, h90⟩ := Prod.mk.inj (Option.some.inj hf)
  obtain ⟨h92, h93⟩ := Prod.mk.inj h90
  subst h91
  subst h92
  subst h93
  exact x_iret hC hR hS dX11_rolling_20
set_option maxRecDepth 20000 in
theorem W_X11_rolling_j254 {G : XG} {l : Launch} {kp : Bool} {p : Program} {e : Env} {s : State} {m : MethodId} {args : Array Value} {below : List Frame} {meth : Method} {c : Code} (hC : xC G p s m args meth c cX11_rolling 9 RX11 (some .int)) (N : Nat) {I : xTI} {L : xTL} {r : Int32} {rI : xTI} {rL : xTL} {x3 : Int32} (k132 : Int32 × Int32 × xTI × xTL → Option (Int32 × xTI × xTL)) (hk132 : ∀ (x3 : Int32) (x4 : Int32) (I : xTI) (L : xTL) , k132 (x3, x4, I, L) = some (r, rI, rL) → ∀ (H : Heap) (locs : List Loc) (ls : Array Slot), xRep G kp I L H → xS G s.heap H locs → lv_has ls 9 [(0, .ref (xz G + 57)), (3, .int x3), (4, .int x4)] → W p l e (xrm 2 44) s m args below meth c H locs 0 0 (xMQ G kp below args s (some (.int r)) rI rL) (F0 m 132 ls [])) (hf : F_X11_rolling_j254 k132 N I L x3 = some (r, rI, rL)) : ∀ (H : Heap) (locs : List Loc) (ls : Array Slot), xRep G kp I L H → xS G s.heap H locs → lv_has ls 9 [(0, .ref (xz G + 57)), (3, .int x3)] → W p l e (xrm 2 44) s m args below meth c H locs 0 0 (xMQ G kp below args s (some (.int r)) rI rL) (F0 m 254 ls []) := by
  intro H locs ls hR hS hl
  unfold F_X11_rolling_j254 at hf
  refine lv_aload_n hC.1 hC.2.1 dX11_rolling_254 rfl (lv_at hl 0 rfl) ?_
  refine x_cvi00 (rest := []) hC xy_X11_firstOf tw_1720 hf (fun _ h => M_X11_firstOf G l kp N h) ⟨Nat.le_of_ble_eq_true rfl, Nat.le_of_ble_eq_true rfl⟩ (xce_57 G kp _ _) rfl rfl rfl (Nat.le_of_ble_eq_true rfl) hl.1 hR hS dX11_rolling_255 ⟨Nat.le_refl _, Nat.le_refl _⟩ (fun v1 hf H locs hR hS => ?_)
  refine lv_istore (lv' := [(4, .int v1), (0, .ref (xz G + 57)), (3, .int x3)]) hC.1 hC.2.1 dX11_rolling_258 hl (Nat.le_of_ble_eq_true rfl) rfl (fun ls hl => ?_)
  refine lv_goto (tgt := 132) hC.1 hC.2.1 dX11_rolling_260 (by decide) ?_
  exact hk132 x3 v1 I L hf _ _ _ hR hS (lv_sub hl [1, 2, 0] rfl)
set_option maxRecDepth 20000 in
theorem W_X11_rolling_l132 {G : XG} {l : Launch} {kp : Bool} {p : Program} {e : Env} {s : State} {m : MethodId} {args : Array Value} {below : List Frame} {meth : Method} {c : Code} (hC : xC G p s m args meth c cX11_rolling 9 RX11 (some .int)) (N : Nat) {r : Int32} {rI : xTI} {rL : xTL} : ∀ (n : Nat) (x3 : Int32) (x4 : Int32) (I : xTI) (L : xTL) , xlp (F_X11_rolling_b132 N ) n (x3, x4, I, L) = some (r, rI, rL) → ∀ (H : Heap) (locs : List Loc) (ls : Array Slot), xRep G kp I L H → xS G s.heap H locs → lv_has ls 9 [(0, .ref (xz G + 57)), (3, .int x3), (4, .int x4)] → W p l e (xrm 2 44) s m args below meth c H locs 0 0 (xMQ G kp below args s (some (.int r)) rI rL) (F0 m 132 ls []) := by
  intro n
  induction n with
  | zero =>
    intro x3 x4 I L hf
    cases hf
  | succ n hk132 =>
    intro x3 x4 I L hf H locs ls hR hS hl
    rw [xlp_s, E_X11_rolling_b132] at hf
    unfold F_X11_rolling_c132 at hf
    refine lv_iload hC.1 hC.2.1 dX11_rolling_132 (lv_at hl 2 rfl) ?_
    refine lv_iconst (v := (-1)) hC.1 hC.2.1 dX11_rolling_134 (by decide) ?_
    refine x_ic_eq (tgt := 263) hC dX11_rolling_135 (by decide) hf (fun hf => ?_) (fun hf => ?_)
    · refine lv_iload_n hC.1 hC.2.1 dX11_rolling_263 rfl (lv_at hl 1 rfl) ?_
      obtain ⟨h91, h90⟩ := Prod.mk.inj (Option.some.inj hf)
      obtain ⟨h92, h93⟩ := Prod.mk.inj h90
      subst h91
      subst h92
      subst h93
      exact x_iret hC hR hS dX11_rolling_264
    · refine lv_aload_n hC.1 hC.2.1 dX11_rolling_138 rfl (lv_at hl 0 rfl) ?_
      refine x_get (v := .ref (xz G + 83)) hC xf_X11_92 (xce_57 G kp _ _) rfl hR dX11_rolling_139 ?_
      refine lv_iload hC.1 hC.2.1 dX11_rolling_142 (lv_at hl 2 rfl) ?_
      refine lv_iconst (v := 1) hC.1 hC.2.1 dX11_rolling_144 (by decide) ?_
      refine x_zas hC (fun f => (xce_83 G kp f _)) hR hS dX11_rolling_145 hf (fun I1 hf H locs hR hS => ?_)
      refine lv_aload_n hC.1 hC.2.1 dX11_rolling_146 rfl (lv_at hl 0 rfl) ?_
      refine lv_iload hC.1 hC.2.1 dX11_rolling_147 (lv_at hl 2 rfl) ?_
      refine lv_iconst (v := 2) hC.1 hC.2.1 dX11_rolling_149 (by decide) ?_
      refine x_cvi00 (rest := []) hC xy_X11_bg tw_1383 hf (fun _ h => M_X11_bg G l kp h) ⟨Nat.le_of_ble_eq_true rfl, Nat.le_of_ble_eq_true rfl⟩ (xce_57 G kp _ _) rfl rfl rfl (Nat.le_of_ble_eq_true rfl) hl.1 hR hS dX11_rolling_150 ⟨Nat.le_refl _, Nat.le_refl _⟩ (fun v2 hf H locs hR hS => ?_)
      refine lv_istore (lv' := [(5, .int v2), (0, .ref (xz G + 57)), (3, .int x3), (4, .int x4)]) hC.1 hC.2.1 dX11_rolling_153 hl (Nat.le_of_ble_eq_true rfl) rfl (fun ls hl => ?_)
      refine lv_aload_n hC.1 hC.2.1 dX11_rolling_155 rfl (lv_at hl 1 rfl) ?_
      refine W.eq (g2 := F0 m 156 ls [.ref (xz G + 57)]) rfl ?_
      refine lv_iload hC.1 hC.2.1 dX11_rolling_156 (lv_at hl 3 rfl) ?_
      refine lv_iconst (v := 1) hC.1 hC.2.1 dX11_rolling_158 (by decide) ?_
      refine x_cvi00 (rest := []) hC xy_X11_bg tw_1383 hf (fun _ h => M_X11_bg G l kp h) ⟨Nat.le_of_ble_eq_true rfl, Nat.le_of_ble_eq_true rfl⟩ (xce_57 G kp _ _) rfl rfl rfl (Nat.le_of_ble_eq_true rfl) hl.1 hR hS dX11_rolling_159 ⟨Nat.le_refl _, Nat.le_refl _⟩ (fun v3 hf H locs hR hS => ?_)
      refine lv_istore (lv' := [(6, .int v3), (5, .int v2), (0, .ref (xz G + 57)), (3, .int x3), (4, .int x4)]) hC.1 hC.2.1 dX11_rolling_162 hl (Nat.le_of_ble_eq_true rfl) rfl (fun ls hl => ?_)
      refine lv_aload_n hC.1 hC.2.1 dX11_rolling_164 rfl (lv_at hl 2 rfl) ?_
      refine lv_iload hC.1 hC.2.1 dX11_rolling_165 (lv_at hl 4 rfl) ?_
      refine lv_iconst (v := 4) hC.1 hC.2.1 dX11_rolling_167 (by decide) ?_
      refine x_cvi00 (rest := []) hC xy_X11_bg tw_1383 hf (fun _ h => M_X11_bg G l kp h) ⟨Nat.le_of_ble_eq_true rfl, Nat.le_of_ble_eq_true rfl⟩ (xce_57 G kp _ _) rfl rfl rfl (Nat.le_of_ble_eq_true rfl) hl.1 hR hS dX11_rolling_168 ⟨Nat.le_refl _, Nat.le_refl _⟩ (fun v4 hf H locs hR hS => ?_)
      refine lv_i2l hC.1 hC.2.1 dX11_rolling_171 rfl ?_
      refine lv_aload_n hC.1 hC.2.1 dX11_rolling_172 rfl (lv_at hl 2 rfl) ?_
      refine lv_iload hC.1 hC.2.1 dX11_rolling_173 (lv_at hl 4 rfl) ?_
      refine lv_iconst (v := 5) hC.1 hC.2.1 dX11_rolling_175 (by decide) ?_
      refine W.eq (g2 := F0 m 176 ls [.int 5, .int x4, .ref (xz G + 57), .long (v4.toInt64)]) rfl ?_
      refine x_cvi00 (rest := [.long (v4.toInt64)]) hC xy_X11_bg tw_1383 hf (fun _ h => M_X11_bg G l kp h) ⟨Nat.le_of_ble_eq_true rfl, Nat.le_of_ble_eq_true rfl⟩ (xce_57 G kp _ _) rfl rfl rfl (Nat.le_of_ble_eq_true rfl) hl.1 hR hS dX11_rolling_176 ⟨Nat.le_refl _, Nat.le_refl _⟩ (fun v5 hf H locs hR hS => ?_)
      refine lv_i2l hC.1 hC.2.1 dX11_rolling_179 rfl ?_
      refine lv_lmul hC.1 hC.2.1 dX11_rolling_180 ?_
      refine x_lst (lv' := fun y6 => [(7, .long y6), (6, .int v3), (5, .int v2), (0, .ref (xz G + 57)), (3, .int x3), (4, .int x4)]) hC hl dX11_rolling_181 (Nat.le_of_ble_eq_true rfl) hf (fun _ => rfl) (fun y6 hf ls hl => ?_)
      refine lv_aload_n hC.1 hC.2.1 dX11_rolling_183 rfl (lv_at hl 3 rfl) ?_
      refine x_get (v := .ref (xz G + 82)) hC xf_X11_88 (xce_57 G kp _ _) rfl hR dX11_rolling_184 ?_
      refine lv_iload hC.1 hC.2.1 dX11_rolling_187 (lv_at hl 2 rfl) ?_
      refine x_zal hC (xce_82 G kp _ _) hR dX11_rolling_189 hf (fun v7 hf => ?_)
      refine x_if_ne (tgt := 254) hC dX11_rolling_190 (by decide) hf (fun hf => ?_) (fun hf => ?_)
      · exact W_X11_rolling_j254 hC N _ hk132 hf _ _ _ hR hS (lv_sub hl [3, 4] rfl)
      · refine lv_aload_n hC.1 hC.2.1 dX11_rolling_193 rfl (lv_at hl 3 rfl) ?_
        refine x_get (v := .ref (xz G + 82)) hC xf_X11_88 (xce_57 G kp _ _) rfl hR dX11_rolling_194 ?_
        refine lv_iload hC.1 hC.2.1 dX11_rolling_197 (lv_at hl 1 rfl) ?_
        refine x_zal hC (xce_82 G kp _ _) hR dX11_rolling_199 hf (fun v8 hf => ?_)
        refine x_if_ne (tgt := 254) hC dX11_rolling_200 (by decide) hf (fun hf => ?_) (fun hf => ?_)
        · exact W_X11_rolling_j254 hC N _ hk132 hf _ _ _ hR hS (lv_sub hl [3, 4] rfl)
        · refine lv_aload_n hC.1 hC.2.1 dX11_rolling_203 rfl (lv_at hl 3 rfl) ?_
          refine x_get (v := .ref (xz G + 81)) hC xf_X11_85 (xce_57 G kp _ _) rfl hR dX11_rolling_204 ?_
          refine lv_iload hC.1 hC.2.1 dX11_rolling_207 (lv_at hl 2 rfl) ?_
          refine x_lal hC (xce_81 G kp _ _) hR dX11_rolling_209 hf (fun v9 hf => ?_)
          refine lv_lload hC.1 hC.2.1 dX11_rolling_210 (lv_at hl 0 rfl) ?_
          refine W.lcmp hC.1 hC.2.1 dX11_rolling_212 ?_
          refine x_if_lt (tgt := 243) hC dX11_rolling_213 (by decide) hf (fun hf => ?_) (fun hf => ?_)
          · refine lv_aload_n hC.1 hC.2.1 dX11_rolling_243 rfl (lv_at hl 3 rfl) ?_
            refine x_get (v := .ref (xz G + 82)) hC xf_X11_88 (xce_57 G kp _ _) rfl hR dX11_rolling_244 ?_
            refine lv_iload hC.1 hC.2.1 dX11_rolling_247 (lv_at hl 2 rfl) ?_
            refine lv_iconst (v := 1) hC.1 hC.2.1 dX11_rolling_249 (by decide) ?_
            refine x_zas hC (fun f => (xce_82 G kp f _)) hR hS dX11_rolling_250 hf (fun I10 hf H locs hR hS => ?_)
            refine x_iinc (d := 1) (lv' := fun y11 => [(3, .int y11), (7, .long y6), (6, .int v3), (5, .int v2), (0, .ref (xz G + 57)), (4, .int x4)]) (k := 4) hC hl dX11_rolling_251 rfl (by decide) (Nat.le_of_ble_eq_true rfl) hf (fun _ => rfl) (fun y11 hf ls hl => ?_)
            exact W_X11_rolling_j254 hC N _ hk132 hf _ _ _ hR hS (lv_sub hl [4, 0] rfl)
          · refine lv_aload_n hC.1 hC.2.1 dX11_rolling_216 rfl (lv_at hl 3 rfl) ?_
            refine x_get (v := .ref (xz G + 81)) hC xf_X11_85 (xce_57 G kp _ _) rfl hR dX11_rolling_217 ?_
            refine lv_iload hC.1 hC.2.1 dX11_rolling_220 (lv_at hl 2 rfl) ?_
            refine lv_dup2_11 hC.1 hC.2.1 dX11_rolling_222 rfl rfl ?_
            refine x_lal hC (xce_81 G kp _ _) hR dX11_rolling_223 hf (fun v12 hf => ?_)
            refine lv_lload hC.1 hC.2.1 dX11_rolling_224 (lv_at hl 0 rfl) ?_
            refine lv_lsub hC.1 hC.2.1 dX11_rolling_226 ?_
            refine x_las hC (fun f => (xce_81 G kp _ f)) hR hS dX11_rolling_227 hf (fun L13 hf H locs hR hS => ?_)
            refine lv_aload_n hC.1 hC.2.1 dX11_rolling_228 rfl (lv_at hl 3 rfl) ?_
            refine x_get (v := .ref (xz G + 81)) hC xf_X11_85 (xce_57 G kp _ _) rfl hR dX11_rolling_229 ?_
            refine lv_iload hC.1 hC.2.1 dX11_rolling_232 (lv_at hl 1 rfl) ?_
            refine W.eq (g2 := F0 m 234 ls [.int v3, .ref (xz G + 81)]) rfl ?_
            refine lv_dup2_11 hC.1 hC.2.1 dX11_rolling_234 rfl rfl ?_
            refine x_lal hC (xce_81 G kp _ _) hR dX11_rolling_235 hf (fun v14 hf => ?_)
            refine lv_lload hC.1 hC.2.1 dX11_rolling_236 (lv_at hl 0 rfl) ?_
            refine lv_ladd hC.1 hC.2.1 dX11_rolling_238 ?_
            refine x_las hC (fun f => (xce_81 G kp _ f)) hR hS dX11_rolling_239 hf (fun L15 hf H locs hR hS => ?_)
            refine lv_goto (tgt := 254) hC.1 hC.2.1 dX11_rolling_240 (by decide) ?_
            exact W_X11_rolling_j254 hC N _ hk132 hf _ _ _ hR hS (lv_sub hl [3, 4] rfl)
set_option maxRecDepth 20000 in
theorem W_X11_rolling_j117 {G : XG} {l : Launch} {kp : Bool} {p : Program} {e : Env} {s : State} {m : MethodId} {args : Array Value} {below : List Frame} {meth : Method} {c : Code} (hC : xC G p s m args meth c cX11_rolling 9 RX11 (some .int)) (N : Nat) {I : xTI} {L : xTL} {r : Int32} {rI : xTI} {rL : xTL} {x1 : Int32} {x2 : Int32} {x3 : Int32} {t1 : Int32} {t2 : Int32} (k58 : Int32 × xTI → Option (Int32 × xTI × xTL)) (hk58 : ∀ (x3 : Int32) (I : xTI) , k58 (x3, I) = some (r, rI, rL) → ∀ (H : Heap) (locs : List Loc) (ls : Array Slot), xRep G kp I L H → xS G s.heap H locs → lv_has ls 9 [(0, .ref (xz G + 57)), (1, .int x1), (2, .int x2), (3, .int x3)] → W p l e (xrm 2 44) s m args below meth c H locs 0 0 (xMQ G kp below args s (some (.int r)) rI rL) (F0 m 58 ls [])) (hf : F_X11_rolling_j117 k58 N I L x1 x2 x3 t1 t2 = some (r, rI, rL)) : ∀ (H : Heap) (locs : List Loc) (ls : Array Slot), xRep G kp I L H → xS G s.heap H locs → lv_has ls 9 [(0, .ref (xz G + 57)), (1, .int x1), (2, .int x2), (3, .int x3)] → W p l e (xrm 2 44) s m args below meth c H locs 0 0 (xMQ G kp below args s (some (.int r)) rI rL) (F0 m 117 ls [.int t2, .int t1, .ref (xz G + 83)]) := by
  intro H locs ls hR hS hl
  unfold F_X11_rolling_j117 at hf
  refine x_zas hC (fun f => (xce_83 G kp f _)) hR hS dX11_rolling_117 hf (fun I1 hf H locs hR hS => ?_)
  refine x_iinc (d := 1) (lv' := fun y2 => [(3, .int y2), (0, .ref (xz G + 57)), (1, .int x1), (2, .int x2)]) (k := 3) hC hl dX11_rolling_118 rfl (by decide) (Nat.le_of_ble_eq_true rfl) hf (fun _ => rfl) (fun y2 hf ls hl => ?_)
  refine lv_goto (tgt := 58) hC.1 hC.2.1 dX11_rolling_121 (by decide) ?_
  exact hk58 y2 I1 hf _ _ _ hR hS (lv_sub hl [1, 2, 3, 0] rfl)
set_option maxRecDepth 20000 in
theorem W_X11_rolling_l58 {G : XG} {l : Launch} {kp : Bool} {p : Program} {e : Env} {s : State} {m : MethodId} {args : Array Value} {below : List Frame} {meth : Method} {c : Code} (hC : xC G p s m args meth c cX11_rolling 9 RX11 (some .int)) (N : Nat) {L : xTL} {r : Int32} {rI : xTI} {rL : xTL} {x1 : Int32} {x2 : Int32} : ∀ (n : Nat) (x3 : Int32) (I : xTI) , xlp (F_X11_rolling_b58 N L x1 x2 ) n (x3, I) = some (r, rI, rL) → ∀ (H : Heap) (locs : List Loc) (ls : Array Slot), xRep G kp I L H → xS G s.heap H locs → lv_has ls 9 [(0, .ref (xz G + 57)), (1, .int x1), (2, .int x2), (3, .int x3)] → W p l e (xrm 2 44) s m args below meth c H locs 0 0 (xMQ G kp below args s (some (.int r)) rI rL) (F0 m 58 ls []) := by
  intro n
  induction n with
  | zero =>
    intro x3 I hf
    cases hf
  | succ n hk58 =>
    intro x3 I hf H locs ls hR hS hl
    rw [xlp_s, E_X11_rolling_b58] at hf
    unfold F_X11_rolling_c58 at hf
    refine lv_iload_n hC.1 hC.2.1 dX11_rolling_58 rfl (lv_at hl 3 rfl) ?_
    refine lv_bipush (v := 60) hC.1 hC.2.1 dX11_rolling_59 (by decide) ?_
    refine x_ic_ge (tgt := 124) hC dX11_rolling_61 (by decide) hf (fun hf => ?_) (fun hf => ?_)
    · refine lv_iconst (v := 0) hC.1 hC.2.1 dX11_rolling_124 (by decide) ?_
      refine lv_istore_n (lv' := [(3, .int 0), (0, .ref (xz G + 57)), (1, .int x1), (2, .int x2)]) hC.1 hC.2.1 dX11_rolling_125 rfl hl (Nat.le_of_ble_eq_true rfl) rfl (fun ls hl => ?_)
      refine lv_aload_n hC.1 hC.2.1 dX11_rolling_126 rfl (lv_at hl 1 rfl) ?_
      refine x_cvi00 (rest := []) hC xy_X11_firstOf tw_1720 hf (fun _ h => M_X11_firstOf G l kp N h) ⟨Nat.le_of_ble_eq_true rfl, Nat.le_of_ble_eq_true rfl⟩ (xce_57 G kp _ _) rfl rfl rfl (Nat.le_of_ble_eq_true rfl) hl.1 hR hS dX11_rolling_127 ⟨Nat.le_refl _, Nat.le_refl _⟩ (fun v1 hf H locs hR hS => ?_)
      refine lv_istore (lv' := [(4, .int v1), (3, .int 0), (0, .ref (xz G + 57)), (1, .int x1), (2, .int x2)]) hC.1 hC.2.1 dX11_rolling_130 hl (Nat.le_of_ble_eq_true rfl) rfl (fun ls hl => ?_)
      exact W_X11_rolling_l132 hC N _ 0 v1 I L hf _ _ _ hR hS (lv_sub hl [2, 1, 0] rfl)
    · refine lv_aload_n hC.1 hC.2.1 dX11_rolling_64 rfl (lv_at hl 0 rfl) ?_
      refine x_get (v := .ref (xz G + 83)) hC xf_X11_92 (xce_57 G kp _ _) rfl hR dX11_rolling_65 ?_
      refine lv_iload_n hC.1 hC.2.1 dX11_rolling_68 rfl (lv_at hl 3 rfl) ?_
      refine lv_aload_n hC.1 hC.2.1 dX11_rolling_69 rfl (lv_at hl 0 rfl) ?_
      refine lv_iload_n hC.1 hC.2.1 dX11_rolling_70 rfl (lv_at hl 3 rfl) ?_
      refine x_cvi00 (rest := [.int x3, .ref (xz G + 83)]) hC xy_X11_stands tw_1403 hf (fun _ h => M_X11_stands G l kp h) ⟨Nat.le_of_ble_eq_true rfl, Nat.le_of_ble_eq_true rfl⟩ (xce_57 G kp _ _) rfl rfl rfl (Nat.le_of_ble_eq_true rfl) hl.1 hR hS dX11_rolling_71 ⟨Nat.le_refl _, Nat.le_refl _⟩ (fun v2 hf H locs hR hS => ?_)
      refine x_if_eq (tgt := 112) hC dX11_rolling_74 (by decide) hf (fun hf => ?_) (fun hf => ?_)
      · refine lv_iconst (v := 1) hC.1 hC.2.1 dX11_rolling_112 (by decide) ?_
        refine lv_goto (tgt := 117) hC.1 hC.2.1 dX11_rolling_113 (by decide) ?_
        exact W_X11_rolling_j117 hC N _ hk58 hf _ _ _ hR hS (lv_sub hl [0, 1, 2, 3] rfl)
      · refine lv_aload_n hC.1 hC.2.1 dX11_rolling_77 rfl (lv_at hl 0 rfl) ?_
        refine lv_iload_n hC.1 hC.2.1 dX11_rolling_78 rfl (lv_at hl 3 rfl) ?_
        refine lv_bipush (v := 7) hC.1 hC.2.1 dX11_rolling_79 (by decide) ?_
        refine x_cvi00 (rest := [.int x3, .ref (xz G + 83)]) hC xy_X11_bg tw_1383 hf (fun _ h => M_X11_bg G l kp h) ⟨Nat.le_of_ble_eq_true rfl, Nat.le_of_ble_eq_true rfl⟩ (xce_57 G kp _ _) rfl rfl rfl (Nat.le_of_ble_eq_true rfl) hl.1 hR hS dX11_rolling_81 ⟨Nat.le_refl _, Nat.le_refl _⟩ (fun v3 hf H locs hR hS => ?_)
        refine lv_iload_n hC.1 hC.2.1 dX11_rolling_84 rfl (lv_at hl 1 rfl) ?_
        refine x_ic_ne (tgt := 112) hC dX11_rolling_85 (by decide) hf (fun hf => ?_) (fun hf => ?_)
        · refine lv_iconst (v := 1) hC.1 hC.2.1 dX11_rolling_112 (by decide) ?_
          refine lv_goto (tgt := 117) hC.1 hC.2.1 dX11_rolling_113 (by decide) ?_
          exact W_X11_rolling_j117 hC N _ hk58 hf _ _ _ hR hS (lv_sub hl [0, 1, 2, 3] rfl)
        · refine lv_aload_n hC.1 hC.2.1 dX11_rolling_88 rfl (lv_at hl 0 rfl) ?_
          refine lv_iload_n hC.1 hC.2.1 dX11_rolling_89 rfl (lv_at hl 3 rfl) ?_
          refine lv_bipush (v := 6) hC.1 hC.2.1 dX11_rolling_90 (by decide) ?_
          refine x_cvi00 (rest := [.int x3, .ref (xz G + 83)]) hC xy_X11_bg tw_1383 hf (fun _ h => M_X11_bg G l kp h) ⟨Nat.le_of_ble_eq_true rfl, Nat.le_of_ble_eq_true rfl⟩ (xce_57 G kp _ _) rfl rfl rfl (Nat.le_of_ble_eq_true rfl) hl.1 hR hS dX11_rolling_92 ⟨Nat.le_refl _, Nat.le_refl _⟩ (fun v4 hf H locs hR hS => ?_)
          refine lv_iload_n hC.1 hC.2.1 dX11_rolling_95 rfl (lv_at hl 2 rfl) ?_
          refine lv_iadd hC.1 hC.2.1 dX11_rolling_96 ?_
          refine lv_i2l hC.1 hC.2.1 dX11_rolling_97 rfl ?_
          refine x_ldc2 (v := 14) hC tw_1718 dX11_rolling_98 ?_
          refine lv_iload_n hC.1 hC.2.1 dX11_rolling_101 rfl (lv_at hl 1 rfl) ?_
          refine lv_i2l hC.1 hC.2.1 dX11_rolling_102 rfl ?_
          refine lv_lmul hC.1 hC.2.1 dX11_rolling_103 ?_
          refine W.eq (g2 := F0 m 104 ls [.long (14 * (x1.toInt64)), .long ((v4 + x2).toInt64), .int x3, .ref (xz G + 83)]) rfl ?_
          refine x_ldc2 (v := 13) hC tw_1719 dX11_rolling_104 ?_
          refine lv_ladd hC.1 hC.2.1 dX11_rolling_107 ?_
          refine W.lcmp hC.1 hC.2.1 dX11_rolling_108 ?_
          refine x_if_le (tgt := 116) hC dX11_rolling_109 (by decide) hf (fun hf => ?_) (fun hf => ?_)
          · refine lv_iconst (v := 0) hC.1 hC.2.1 dX11_rolling_116 (by decide) ?_
            exact W_X11_rolling_j117 hC N _ hk58 hf _ _ _ hR hS (lv_sub hl [0, 1, 2, 3] rfl)
          · refine lv_iconst (v := 1) hC.1 hC.2.1 dX11_rolling_112 (by decide) ?_
            refine lv_goto (tgt := 117) hC.1 hC.2.1 dX11_rolling_113 (by decide) ?_
            exact W_X11_rolling_j117 hC N _ hk58 hf _ _ _ hR hS (lv_sub hl [0, 1, 2, 3] rfl)
set_option maxRecDepth 20000 in
theorem W_X11_rolling_l23 {G : XG} {l : Launch} {kp : Bool} {p : Program} {e : Env} {s : State} {m : MethodId} {args : Array Value} {below : List Frame} {meth : Method} {c : Code} (hC : xC G p s m args meth c cX11_rolling 9 RX11 (some .int)) (N : Nat) {r : Int32} {rI : xTI} {rL : xTL} {x1 : Int32} {x2 : Int32} : ∀ (n : Nat) (x3 : Int32) (I : xTI) (L : xTL) , xlp (F_X11_rolling_b23 N x1 x2 ) n (x3, I, L) = some (r, rI, rL) → ∀ (H : Heap) (locs : List Loc) (ls : Array Slot), xRep G kp I L H → xS G s.heap H locs → lv_has ls 9 [(0, .ref (xz G + 57)), (1, .int x1), (2, .int x2), (3, .int x3)] → W p l e (xrm 2 44) s m args below meth c H locs 0 0 (xMQ G kp below args s (some (.int r)) rI rL) (F0 m 23 ls []) := by
  intro n
  induction n with
  | zero =>
    intro x3 I L hf
    cases hf
  | succ n hk23 =>
    intro x3 I L hf H locs ls hR hS hl
    rw [xlp_s, E_X11_rolling_b23] at hf
    unfold F_X11_rolling_c23 at hf
    refine lv_iload_n hC.1 hC.2.1 dX11_rolling_23 rfl (lv_at hl 3 rfl) ?_
    refine lv_bipush (v := 12) hC.1 hC.2.1 dX11_rolling_24 (by decide) ?_
    refine x_ic_ge (tgt := 56) hC dX11_rolling_26 (by decide) hf (fun hf => ?_) (fun hf => ?_)
    · refine lv_iconst (v := 0) hC.1 hC.2.1 dX11_rolling_56 (by decide) ?_
      refine lv_istore_n (lv' := [(3, .int 0), (0, .ref (xz G + 57)), (1, .int x1), (2, .int x2)]) hC.1 hC.2.1 dX11_rolling_57 rfl hl (Nat.le_of_ble_eq_true rfl) rfl (fun ls hl => ?_)
      exact W_X11_rolling_l58 hC N _ 0 I hf _ _ _ hR hS (lv_sub hl [1, 2, 3, 0] rfl)
    · refine lv_aload_n hC.1 hC.2.1 dX11_rolling_29 rfl (lv_at hl 0 rfl) ?_
      refine x_get (v := .ref (xz G + 81)) hC xf_X11_85 (xce_57 G kp _ _) rfl hR dX11_rolling_30 ?_
      refine lv_iload_n hC.1 hC.2.1 dX11_rolling_33 rfl (lv_at hl 3 rfl) ?_
      refine lv_aload_n hC.1 hC.2.1 dX11_rolling_34 rfl (lv_at hl 0 rfl) ?_
      refine x_get (v := .ref (xz G + 59)) hC xf_X11_18 (xce_57 G kp _ _) rfl hR dX11_rolling_35 ?_
      refine lv_iconst (v := 0) hC.1 hC.2.1 dX11_rolling_38 (by decide) ?_
      refine lv_iload_n hC.1 hC.2.1 dX11_rolling_39 rfl (lv_at hl 3 rfl) ?_
      refine lv_iadd hC.1 hC.2.1 dX11_rolling_40 ?_
      refine x_lal hC (xce_59 G kp _ _) hR dX11_rolling_41 hf (fun v1 hf => ?_)
      refine x_las hC (fun f => (xce_81 G kp _ f)) hR hS dX11_rolling_42 hf (fun L2 hf H locs hR hS => ?_)
      refine lv_aload_n hC.1 hC.2.1 dX11_rolling_43 rfl (lv_at hl 0 rfl) ?_
      refine W.eq (g2 := F0 m 44 ls [.ref (xz G + 57)]) rfl ?_
      refine x_get (v := .ref (xz G + 82)) hC xf_X11_88 (xce_57 G kp _ _) rfl hR dX11_rolling_44 ?_
      refine lv_iload_n hC.1 hC.2.1 dX11_rolling_47 rfl (lv_at hl 3 rfl) ?_
      refine lv_iconst (v := 0) hC.1 hC.2.1 dX11_rolling_48 (by decide) ?_
      refine x_zas hC (fun f => (xce_82 G kp f _)) hR hS dX11_rolling_49 hf (fun I3 hf H locs hR hS => ?_)
      refine x_iinc (d := 1) (lv' := fun y4 => [(3, .int y4), (0, .ref (xz G + 57)), (1, .int x1), (2, .int x2)]) (k := 3) hC hl dX11_rolling_50 rfl (by decide) (Nat.le_of_ble_eq_true rfl) hf (fun _ => rfl) (fun y4 hf ls hl => ?_)
      refine lv_goto (tgt := 23) hC.1 hC.2.1 dX11_rolling_53 (by decide) ?_
      exact hk23 y4 I3 L2 hf _ _ _ hR hS (lv_sub hl [1, 2, 3, 0] rfl)
set_option maxRecDepth 20000 in
theorem M_X11_rolling (G : XG) (l : Launch) (kp : Bool) (N : Nat) {I : xTI} {L : xTL} {x1 : Int32} {x2 : Int32} {r : Int32} {rI : xTI} {rL : xTL} (hf : F_X11_rolling N I L x1 x2 = some (r, rI, rL)) : xMet G l yX11_rolling cX11_rolling 9 (some .int) 2 44 kp [.ref (xz G + 57), .int x1, .int x2] I L (some (.int r)) rI rL := by
  refine xMet.ofW (by decide +kernel) (Nat.le_of_ble_eq_true rfl) ?_
  intro p e s m args below meth c hC H locs ls hR hS hl
  replace hC : xC G p s m args meth c cX11_rolling 9 RX11 (some .int) := hC
  replace hl : lv_has ls 9 [(0, .ref (xz G + 57)), (1, .int x1), (2, .int x2)] := hl
  unfold F_X11_rolling at hf
  refine lv_iload_n hC.1 hC.2.1 dX11_rolling_0 rfl (lv_at hl 2 rfl) ?_
  refine lv_iconst (v := 0) hC.1 hC.2.1 dX11_rolling_1 (by decide) ?_
  refine lv_bipush (v := 28) hC.1 hC.2.1 dX11_rolling_2 (by decide) ?_
  refine x_csi00 (rest := []) hC xy_X11_in tw_1335 hf (fun _ h => M_X11_in G l kp h) ⟨Nat.le_of_ble_eq_true rfl, Nat.le_of_ble_eq_true rfl⟩ rfl rfl (Nat.le_of_ble_eq_true rfl) hl.1 hR hS dX11_rolling_4 ⟨Nat.le_refl _, Nat.le_refl _⟩ (fun v1 hf H locs hR hS => ?_)
  refine x_if_eq (tgt := 14) hC dX11_rolling_7 (by decide) hf (fun hf => ?_) (fun hf => ?_)
  · exact W_X11_rolling_j14 hC N hf _ _ _ hR hS (lv_sub hl [0] rfl)
  · refine lv_iload_n hC.1 hC.2.1 dX11_rolling_10 rfl (lv_at hl 1 rfl) ?_
    refine x_if_ge (tgt := 21) hC dX11_rolling_11 (by decide) hf (fun hf => ?_) (fun hf => ?_)
    · refine lv_iconst (v := 0) hC.1 hC.2.1 dX11_rolling_21 (by decide) ?_
      refine lv_istore_n (lv' := [(3, .int 0), (0, .ref (xz G + 57)), (1, .int x1), (2, .int x2)]) hC.1 hC.2.1 dX11_rolling_22 rfl hl (Nat.le_of_ble_eq_true rfl) rfl (fun ls hl => ?_)
      exact W_X11_rolling_l23 hC N _ 0 I L hf _ _ _ hR hS (lv_sub hl [1, 2, 3, 0] rfl)
    · exact W_X11_rolling_j14 hC N hf _ _ _ hR hS (lv_sub hl [0] rfl)
set_option maxRecDepth 20000 in
theorem W_X11_clearing_j151 {G : XG} {l : Launch} {kp : Bool} {p : Program} {e : Env} {s : State} {m : MethodId} {args : Array Value} {below : List Frame} {meth : Method} {c : Code} (hC : xC G p s m args meth c cX11_clearing 9 RX11 (some .int)) (N : Nat) {I : xTI} {L : xTL} {r : Int32} {rI : xTI} {x1 : Int32} {x3 : Int32} {t0 : Int32} {t1 : Int32} (k15 : Int32 × Int32 → Option (Int32 × xTI)) (hk15 : ∀ (x2 : Int32) (x3 : Int32) , k15 (x2, x3) = some (r, rI) → ∀ (H : Heap) (locs : List Loc) (ls : Array Slot), xRep G kp I L H → xS G s.heap H locs → lv_has ls 9 [(0, .ref (xz G + 57)), (1, .int x1), (2, .int x2), (3, .int x3)] → W p l e (xrm 2 43) s m args below meth c H locs 0 0 (xMQ G kp below args s (some (.int r)) rI L) (F0 m 15 ls [])) (hf : F_X11_clearing_j151 k15 N I L x1 x3 t0 t1 = some (r, rI)) : ∀ (H : Heap) (locs : List Loc) (ls : Array Slot), xRep G kp I L H → xS G s.heap H locs → lv_has ls 9 [(0, .ref (xz G + 57)), (1, .int x1), (3, .int x3)] → W p l e (xrm 2 43) s m args below meth c H locs 0 0 (xMQ G kp below args s (some (.int r)) rI L) (F0 m 151 ls [.int t1, .int t0]) := by
  intro H locs ls hR hS hl
  unfold F_X11_clearing_j151 at hf
  refine lv_iadd hC.1 hC.2.1 dX11_clearing_151 ?_
  refine x_istn (lv' := fun y1 => [(2, .int y1), (0, .ref (xz G + 57)), (1, .int x1), (3, .int x3)]) hC hl dX11_clearing_152 rfl (Nat.le_of_ble_eq_true rfl) hf (fun _ => rfl) (fun y1 hf ls hl => ?_)
  refine x_iinc (d := 1) (lv' := fun y2 => [(3, .int y2), (2, .int y1), (0, .ref (xz G + 57)), (1, .int x1)]) (k := 3) hC hl dX11_clearing_153 rfl (by decide) (Nat.le_of_ble_eq_true rfl) hf (fun _ => rfl) (fun y2 hf ls hl => ?_)
  refine lv_goto (tgt := 15) hC.1 hC.2.1 dX11_clearing_156 (by decide) ?_
  exact hk15 y1 y2 hf _ _ _ hR hS (lv_sub hl [2, 3, 1, 0] rfl)
set_option maxRecDepth 20000 in
theorem W_X11_clearing_j122 {G : XG} {l : Launch} {kp : Bool} {p : Program} {e : Env} {s : State} {m : MethodId} {args : Array Value} {below : List Frame} {meth : Method} {c : Code} (hC : xC G p s m args meth c cX11_clearing 9 RX11 (some .int)) (N : Nat) {I : xTI} {L : xTL} {r : Int32} {rI : xTI} {x1 : Int32} {x2 : Int32} {x3 : Int32} {x6 : Int32} {t0 : Int64} {t1 : Int64} (k15 : Int32 × Int32 → Option (Int32 × xTI)) (k31 : Int64 × Int32 → Option (Int32 × xTI)) (hk15 : ∀ (x2 : Int32) (x3 : Int32) , k15 (x2, x3) = some (r, rI) → ∀ (H : Heap) (locs : List Loc) (ls : Array Slot), xRep G kp I L H → xS G s.heap H locs → lv_has ls 9 [(0, .ref (xz G + 57)), (1, .int x1), (2, .int x2), (3, .int x3)] → W p l e (xrm 2 43) s m args below meth c H locs 0 0 (xMQ G kp below args s (some (.int r)) rI L) (F0 m 15 ls [])) (hk31 : ∀ (x4 : Int64) (x6 : Int32) , k31 (x4, x6) = some (r, rI) → ∀ (H : Heap) (locs : List Loc) (ls : Array Slot), xRep G kp I L H → xS G s.heap H locs → lv_has ls 9 [(0, .ref (xz G + 57)), (1, .int x1), (2, .int x2), (3, .int x3), (4, .long x4), (6, .int x6)] → W p l e (xrm 2 43) s m args below meth c H locs 0 0 (xMQ G kp below args s (some (.int r)) rI L) (F0 m 31 ls [])) (hf : F_X11_clearing_j122 k15 k31 N I L x1 x2 x3 x6 t0 t1 = some (r, rI)) : ∀ (H : Heap) (locs : List Loc) (ls : Array Slot), xRep G kp I L H → xS G s.heap H locs → lv_has ls 9 [(0, .ref (xz G + 57)), (1, .int x1), (2, .int x2), (3, .int x3), (6, .int x6)] → W p l e (xrm 2 43) s m args below meth c H locs 0 0 (xMQ G kp below args s (some (.int r)) rI L) (F0 m 122 ls [.long t1, .long t0]) := by
  intro H locs ls hR hS hl
  unfold F_X11_clearing_j122 at hf
  refine lv_lsub hC.1 hC.2.1 dX11_clearing_122 ?_
  refine x_lst (lv' := fun y1 => [(4, .long y1), (0, .ref (xz G + 57)), (1, .int x1), (2, .int x2), (3, .int x3), (6, .int x6)]) hC hl dX11_clearing_123 (Nat.le_of_ble_eq_true rfl) hf (fun _ => rfl) (fun y1 hf ls hl => ?_)
  refine x_iinc (d := 1) (lv' := fun y2 => [(6, .int y2), (4, .long y1), (0, .ref (xz G + 57)), (1, .int x1), (2, .int x2), (3, .int x3)]) (k := 5) hC hl dX11_clearing_125 rfl (by decide) (Nat.le_of_ble_eq_true rfl) hf (fun _ => rfl) (fun y2 hf ls hl => ?_)
  refine lv_goto (tgt := 31) hC.1 hC.2.1 dX11_clearing_128 (by decide) ?_
  exact hk31 y1 y2 hf _ _ _ hR hS (lv_sub hl [2, 3, 4, 5, 1, 0] rfl)
set_option maxRecDepth 20000 in
theorem W_X11_clearing_j100 {G : XG} {l : Launch} {kp : Bool} {p : Program} {e : Env} {s : State} {m : MethodId} {args : Array Value} {below : List Frame} {meth : Method} {c : Code} (hC : xC G p s m args meth c cX11_clearing 9 RX11 (some .int)) (N : Nat) {I : xTI} {L : xTL} {r : Int32} {rI : xTI} {x1 : Int32} {x2 : Int32} {x3 : Int32} {x6 : Int32} {x7 : Int64} {t0 : Int64} {t1 : Int64} (k15 : Int32 × Int32 → Option (Int32 × xTI)) (k31 : Int64 × Int32 → Option (Int32 × xTI)) (hk15 : ∀ (x2 : Int32) (x3 : Int32) , k15 (x2, x3) = some (r, rI) → ∀ (H : Heap) (locs : List Loc) (ls : Array Slot), xRep G kp I L H → xS G s.heap H locs → lv_has ls 9 [(0, .ref (xz G + 57)), (1, .int x1), (2, .int x2), (3, .int x3)] → W p l e (xrm 2 43) s m args below meth c H locs 0 0 (xMQ G kp below args s (some (.int r)) rI L) (F0 m 15 ls [])) (hk31 : ∀ (x4 : Int64) (x6 : Int32) , k31 (x4, x6) = some (r, rI) → ∀ (H : Heap) (locs : List Loc) (ls : Array Slot), xRep G kp I L H → xS G s.heap H locs → lv_has ls 9 [(0, .ref (xz G + 57)), (1, .int x1), (2, .int x2), (3, .int x3), (4, .long x4), (6, .int x6)] → W p l e (xrm 2 43) s m args below meth c H locs 0 0 (xMQ G kp below args s (some (.int r)) rI L) (F0 m 31 ls [])) (hf : F_X11_clearing_j100 k15 k31 N I L x1 x2 x3 x6 x7 t0 t1 = some (r, rI)) : ∀ (H : Heap) (locs : List Loc) (ls : Array Slot), xRep G kp I L H → xS G s.heap H locs → lv_has ls 9 [(0, .ref (xz G + 57)), (1, .int x1), (2, .int x2), (3, .int x3), (6, .int x6), (7, .long x7)] → W p l e (xrm 2 43) s m args below meth c H locs 0 0 (xMQ G kp below args s (some (.int r)) rI L) (F0 m 100 ls [.long t1, .long t0]) := by
  intro H locs ls hR hS hl
  unfold F_X11_clearing_j100 at hf
  refine lv_ladd hC.1 hC.2.1 dX11_clearing_100 ?_
  refine x_lst (lv' := fun y1 => [(4, .long y1), (0, .ref (xz G + 57)), (1, .int x1), (2, .int x2), (3, .int x3), (6, .int x6), (7, .long x7)]) hC hl dX11_clearing_101 (Nat.le_of_ble_eq_true rfl) hf (fun _ => rfl) (fun y1 hf ls hl => ?_)
  refine lv_lload hC.1 hC.2.1 dX11_clearing_103 (lv_at hl 0 rfl) ?_
  refine lv_aload_n hC.1 hC.2.1 dX11_clearing_105 rfl (lv_at hl 1 rfl) ?_
  refine lv_iload hC.1 hC.2.1 dX11_clearing_106 (lv_at hl 5 rfl) ?_
  refine lv_iconst (v := 1) hC.1 hC.2.1 dX11_clearing_108 (by decide) ?_
  refine x_cvi00 (rest := [.long y1]) hC xy_X11_bg tw_1383 hf (fun _ h => M_X11_bg G l kp h) ⟨Nat.le_of_ble_eq_true rfl, Nat.le_of_ble_eq_true rfl⟩ (xce_57 G kp _ _) rfl rfl rfl (Nat.le_of_ble_eq_true rfl) hl.1 hR hS dX11_clearing_109 ⟨Nat.le_refl _, Nat.le_refl _⟩ (fun v2 hf H locs hR hS => ?_)
  refine lv_iload_n hC.1 hC.2.1 dX11_clearing_112 rfl (lv_at hl 4 rfl) ?_
  refine x_ic_ne (tgt := 121) hC dX11_clearing_113 (by decide) hf (fun hf => ?_) (fun hf => ?_)
  · refine lv_lconst (v := 0) hC.1 hC.2.1 dX11_clearing_121 (by decide) ?_
    exact W_X11_clearing_j122 hC N _ _ hk15 hk31 hf _ _ _ hR hS (lv_sub hl [1, 2, 3, 4, 5] rfl)
  · refine lv_lload hC.1 hC.2.1 dX11_clearing_116 (lv_at hl 6 rfl) ?_
    refine lv_goto (tgt := 122) hC.1 hC.2.1 dX11_clearing_118 (by decide) ?_
    exact W_X11_clearing_j122 hC N _ _ hk15 hk31 hf _ _ _ hR hS (lv_sub hl [1, 2, 3, 4, 5] rfl)
set_option maxRecDepth 20000 in
theorem W_X11_clearing_l31 {G : XG} {l : Launch} {kp : Bool} {p : Program} {e : Env} {s : State} {m : MethodId} {args : Array Value} {below : List Frame} {meth : Method} {c : Code} (hC : xC G p s m args meth c cX11_clearing 9 RX11 (some .int)) (N : Nat) {I : xTI} {L : xTL} {r : Int32} {rI : xTI} {x1 : Int32} {x2 : Int32} {x3 : Int32} (k15 : Int32 × Int32 → Option (Int32 × xTI)) (hk15 : ∀ (x2 : Int32) (x3 : Int32) , k15 (x2, x3) = some (r, rI) → ∀ (H : Heap) (locs : List Loc) (ls : Array Slot), xRep G kp I L H → xS G s.heap H locs → lv_has ls 9 [(0, .ref (xz G + 57)), (1, .int x1), (2, .int x2), (3, .int x3)] → W p l e (xrm 2 43) s m args below meth c H locs 0 0 (xMQ G kp below args s (some (.int r)) rI L) (F0 m 15 ls [])) : ∀ (n : Nat) (x4 : Int64) (x6 : Int32) , xlp (F_X11_clearing_b31 k15 N I L x1 x2 x3 ) n (x4, x6) = some (r, rI) → ∀ (H : Heap) (locs : List Loc) (ls : Array Slot), xRep G kp I L H → xS G s.heap H locs → lv_has ls 9 [(0, .ref (xz G + 57)), (1, .int x1), (2, .int x2), (3, .int x3), (4, .long x4), (6, .int x6)] → W p l e (xrm 2 43) s m args below meth c H locs 0 0 (xMQ G kp below args s (some (.int r)) rI L) (F0 m 31 ls []) := by
  intro n
  induction n with
  | zero =>
    intro x4 x6 hf
    cases hf
  | succ n hk31 =>
    intro x4 x6 hf H locs ls hR hS hl
    rw [xlp_s, E_X11_clearing_b31] at hf
    unfold F_X11_clearing_c31 at hf
    refine lv_iload hC.1 hC.2.1 dX11_clearing_31 (lv_at hl 5 rfl) ?_
    refine lv_bipush (v := 60) hC.1 hC.2.1 dX11_clearing_33 (by decide) ?_
    refine x_ic_ge (tgt := 131) hC dX11_clearing_35 (by decide) hf (fun hf => ?_) (fun hf => ?_)
    · refine lv_iload_n hC.1 hC.2.1 dX11_clearing_131 rfl (lv_at hl 2 rfl) ?_
      refine lv_aload_n hC.1 hC.2.1 dX11_clearing_132 rfl (lv_at hl 0 rfl) ?_
      refine x_get (v := .ref (xz G + 59)) hC xf_X11_18 (xce_57 G kp _ _) rfl hR dX11_clearing_133 ?_
      refine lv_iconst (v := 0) hC.1 hC.2.1 dX11_clearing_136 (by decide) ?_
      refine lv_iload_n hC.1 hC.2.1 dX11_clearing_137 rfl (lv_at hl 3 rfl) ?_
      refine lv_iadd hC.1 hC.2.1 dX11_clearing_138 ?_
      refine x_lal hC (xce_59 G kp _ _) hR dX11_clearing_139 hf (fun v1 hf => ?_)
      refine lv_lload hC.1 hC.2.1 dX11_clearing_140 (lv_at hl 4 rfl) ?_
      refine W.lcmp hC.1 hC.2.1 dX11_clearing_142 ?_
      refine x_if_ge (tgt := 150) hC dX11_clearing_143 (by decide) hf (fun hf => ?_) (fun hf => ?_)
      · refine lv_iconst (v := 0) hC.1 hC.2.1 dX11_clearing_150 (by decide) ?_
        exact W_X11_clearing_j151 hC N _ hk15 hf _ _ _ hR hS (lv_sub hl [0, 1, 3] rfl)
      · refine lv_iconst (v := 1) hC.1 hC.2.1 dX11_clearing_146 (by decide) ?_
        refine lv_goto (tgt := 151) hC.1 hC.2.1 dX11_clearing_147 (by decide) ?_
        exact W_X11_clearing_j151 hC N _ hk15 hf _ _ _ hR hS (lv_sub hl [0, 1, 3] rfl)
    · refine lv_aload_n hC.1 hC.2.1 dX11_clearing_38 rfl (lv_at hl 0 rfl) ?_
      refine lv_iload hC.1 hC.2.1 dX11_clearing_39 (lv_at hl 5 rfl) ?_
      refine x_cvi00 (rest := []) hC xy_X11_stands tw_1403 hf (fun _ h => M_X11_stands G l kp h) ⟨Nat.le_of_ble_eq_true rfl, Nat.le_of_ble_eq_true rfl⟩ (xce_57 G kp _ _) rfl rfl rfl (Nat.le_of_ble_eq_true rfl) hl.1 hR hS dX11_clearing_41 ⟨Nat.le_refl _, Nat.le_refl _⟩ (fun v2 hf H locs hR hS => ?_)
      refine x_if_eq (tgt := 125) hC dX11_clearing_44 (by decide) hf (fun hf => ?_) (fun hf => ?_)
      · refine x_iinc (d := 1) (lv' := fun y3 => [(6, .int y3), (0, .ref (xz G + 57)), (1, .int x1), (2, .int x2), (3, .int x3), (4, .long x4)]) (k := 5) hC hl dX11_clearing_125 rfl (by decide) (Nat.le_of_ble_eq_true rfl) hf (fun _ => rfl) (fun y3 hf ls hl => ?_)
        refine lv_goto (tgt := 31) hC.1 hC.2.1 dX11_clearing_128 (by decide) ?_
        exact hk31 x4 y3 hf _ _ _ hR hS (lv_sub hl [1, 2, 3, 4, 5, 0] rfl)
      · refine lv_aload_n hC.1 hC.2.1 dX11_clearing_47 rfl (lv_at hl 0 rfl) ?_
        refine lv_iload hC.1 hC.2.1 dX11_clearing_48 (lv_at hl 5 rfl) ?_
        refine lv_bipush (v := 7) hC.1 hC.2.1 dX11_clearing_50 (by decide) ?_
        refine x_cvi00 (rest := []) hC xy_X11_bg tw_1383 hf (fun _ h => M_X11_bg G l kp h) ⟨Nat.le_of_ble_eq_true rfl, Nat.le_of_ble_eq_true rfl⟩ (xce_57 G kp _ _) rfl rfl rfl (Nat.le_of_ble_eq_true rfl) hl.1 hR hS dX11_clearing_52 ⟨Nat.le_refl _, Nat.le_refl _⟩ (fun v4 hf H locs hR hS => ?_)
        refine lv_iload_n hC.1 hC.2.1 dX11_clearing_55 rfl (lv_at hl 1 rfl) ?_
        refine x_ic_eq (tgt := 62) hC dX11_clearing_56 (by decide) hf (fun hf => ?_) (fun hf => ?_)
        · refine lv_aload_n hC.1 hC.2.1 dX11_clearing_62 rfl (lv_at hl 0 rfl) ?_
          refine lv_iload hC.1 hC.2.1 dX11_clearing_63 (lv_at hl 5 rfl) ?_
          refine lv_iconst (v := 4) hC.1 hC.2.1 dX11_clearing_65 (by decide) ?_
          refine x_cvi00 (rest := []) hC xy_X11_bg tw_1383 hf (fun _ h => M_X11_bg G l kp h) ⟨Nat.le_of_ble_eq_true rfl, Nat.le_of_ble_eq_true rfl⟩ (xce_57 G kp _ _) rfl rfl rfl (Nat.le_of_ble_eq_true rfl) hl.1 hR hS dX11_clearing_66 ⟨Nat.le_refl _, Nat.le_refl _⟩ (fun v5 hf H locs hR hS => ?_)
          refine lv_i2l hC.1 hC.2.1 dX11_clearing_69 rfl ?_
          refine lv_aload_n hC.1 hC.2.1 dX11_clearing_70 rfl (lv_at hl 0 rfl) ?_
          refine lv_iload hC.1 hC.2.1 dX11_clearing_71 (lv_at hl 5 rfl) ?_
          refine lv_iconst (v := 5) hC.1 hC.2.1 dX11_clearing_73 (by decide) ?_
          refine x_cvi00 (rest := [.long (v5.toInt64)]) hC xy_X11_bg tw_1383 hf (fun _ h => M_X11_bg G l kp h) ⟨Nat.le_of_ble_eq_true rfl, Nat.le_of_ble_eq_true rfl⟩ (xce_57 G kp _ _) rfl rfl rfl (Nat.le_of_ble_eq_true rfl) hl.1 hR hS dX11_clearing_74 ⟨Nat.le_refl _, Nat.le_refl _⟩ (fun v6 hf H locs hR hS => ?_)
          refine lv_i2l hC.1 hC.2.1 dX11_clearing_77 rfl ?_
          refine lv_lmul hC.1 hC.2.1 dX11_clearing_78 ?_
          refine W.eq (g2 := F0 m 79 ls [.long ((v5.toInt64) * (v6.toInt64))]) rfl ?_
          refine x_lst (lv' := fun y7 => [(7, .long y7), (0, .ref (xz G + 57)), (1, .int x1), (2, .int x2), (3, .int x3), (4, .long x4), (6, .int x6)]) hC hl dX11_clearing_79 (Nat.le_of_ble_eq_true rfl) hf (fun _ => rfl) (fun y7 hf ls hl => ?_)
          refine lv_lload hC.1 hC.2.1 dX11_clearing_81 (lv_at hl 5 rfl) ?_
          refine lv_aload_n hC.1 hC.2.1 dX11_clearing_83 rfl (lv_at hl 1 rfl) ?_
          refine lv_iload hC.1 hC.2.1 dX11_clearing_84 (lv_at hl 6 rfl) ?_
          refine lv_iconst (v := 2) hC.1 hC.2.1 dX11_clearing_86 (by decide) ?_
          refine x_cvi00 (rest := [.long x4]) hC xy_X11_bg tw_1383 hf (fun _ h => M_X11_bg G l kp h) ⟨Nat.le_of_ble_eq_true rfl, Nat.le_of_ble_eq_true rfl⟩ (xce_57 G kp _ _) rfl rfl rfl (Nat.le_of_ble_eq_true rfl) hl.1 hR hS dX11_clearing_87 ⟨Nat.le_refl _, Nat.le_refl _⟩ (fun v8 hf H locs hR hS => ?_)
          refine lv_iload_n hC.1 hC.2.1 dX11_clearing_90 rfl (lv_at hl 4 rfl) ?_
          refine x_ic_ne (tgt := 99) hC dX11_clearing_91 (by decide) hf (fun hf => ?_) (fun hf => ?_)
          · refine lv_lconst (v := 0) hC.1 hC.2.1 dX11_clearing_99 (by decide) ?_
            exact W_X11_clearing_j100 hC N _ _ hk15 hk31 hf _ _ _ hR hS (lv_sub hl [1, 2, 3, 4, 6, 0] rfl)
          · refine lv_lload hC.1 hC.2.1 dX11_clearing_94 (lv_at hl 0 rfl) ?_
            refine lv_goto (tgt := 100) hC.1 hC.2.1 dX11_clearing_96 (by decide) ?_
            exact W_X11_clearing_j100 hC N _ _ hk15 hk31 hf _ _ _ hR hS (lv_sub hl [1, 2, 3, 4, 6, 0] rfl)
        · refine lv_goto (tgt := 125) hC.1 hC.2.1 dX11_clearing_59 (by decide) ?_
          refine x_iinc (d := 1) (lv' := fun y9 => [(6, .int y9), (0, .ref (xz G + 57)), (1, .int x1), (2, .int x2), (3, .int x3), (4, .long x4)]) (k := 5) hC hl dX11_clearing_125 rfl (by decide) (Nat.le_of_ble_eq_true rfl) hf (fun _ => rfl) (fun y9 hf ls hl => ?_)
          refine lv_goto (tgt := 31) hC.1 hC.2.1 dX11_clearing_128 (by decide) ?_
          exact hk31 x4 y9 hf _ _ _ hR hS (lv_sub hl [1, 2, 3, 4, 5, 0] rfl)
set_option maxRecDepth 20000 in
theorem W_X11_clearing_l15 {G : XG} {l : Launch} {kp : Bool} {p : Program} {e : Env} {s : State} {m : MethodId} {args : Array Value} {below : List Frame} {meth : Method} {c : Code} (hC : xC G p s m args meth c cX11_clearing 9 RX11 (some .int)) (N : Nat) {I : xTI} {L : xTL} {r : Int32} {rI : xTI} {x1 : Int32} : ∀ (n : Nat) (x2 : Int32) (x3 : Int32) , xlp (F_X11_clearing_b15 N I L x1 ) n (x2, x3) = some (r, rI) → ∀ (H : Heap) (locs : List Loc) (ls : Array Slot), xRep G kp I L H → xS G s.heap H locs → lv_has ls 9 [(0, .ref (xz G + 57)), (1, .int x1), (2, .int x2), (3, .int x3)] → W p l e (xrm 2 43) s m args below meth c H locs 0 0 (xMQ G kp below args s (some (.int r)) rI L) (F0 m 15 ls []) := by
  intro n
  induction n with
  | zero =>
    intro x2 x3 hf
    cases hf
  | succ n hk15 =>
    intro x2 x3 hf H locs ls hR hS hl
    rw [xlp_s, E_X11_clearing_b15] at hf
    unfold F_X11_clearing_c15 at hf
    refine lv_iload_n hC.1 hC.2.1 dX11_clearing_15 rfl (lv_at hl 3 rfl) ?_
    refine lv_aload_n hC.1 hC.2.1 dX11_clearing_16 rfl (lv_at hl 0 rfl) ?_
    refine x_get (v := .ref (xz G + 58)) hC xf_X11_14 (xce_57 G kp _ _) rfl hR dX11_clearing_17 ?_
    refine lv_iconst (v := 1) hC.1 hC.2.1 dX11_clearing_20 (by decide) ?_
    refine x_ial hC (xce_58 G kp _ _) hR dX11_clearing_21 hf (fun v1 hf => ?_)
    refine x_ic_ge (tgt := 159) hC dX11_clearing_22 (by decide) hf (fun hf => ?_) (fun hf => ?_)
    · refine lv_iload_n hC.1 hC.2.1 dX11_clearing_159 rfl (lv_at hl 2 rfl) ?_
      obtain ⟨h91, h92⟩ := Prod.mk.inj (Option.some.inj hf)
      subst h91
      subst h92
      exact x_iret hC hR hS dX11_clearing_160
    · refine lv_lconst (v := 0) hC.1 hC.2.1 dX11_clearing_25 (by decide) ?_
      refine lv_lstore (lv' := [(4, .long 0), (0, .ref (xz G + 57)), (1, .int x1), (2, .int x2), (3, .int x3)]) hC.1 hC.2.1 dX11_clearing_26 hl (Nat.le_of_ble_eq_true rfl) rfl (fun ls hl => ?_)
      refine lv_iconst (v := 0) hC.1 hC.2.1 dX11_clearing_28 (by decide) ?_
      refine lv_istore (lv' := [(6, .int 0), (4, .long 0), (0, .ref (xz G + 57)), (1, .int x1), (2, .int x2), (3, .int x3)]) hC.1 hC.2.1 dX11_clearing_29 hl (Nat.le_of_ble_eq_true rfl) rfl (fun ls hl => ?_)
      exact W_X11_clearing_l31 hC N _ hk15 _ 0 0 hf _ _ _ hR hS (lv_sub hl [2, 3, 4, 5, 1, 0] rfl)
set_option maxRecDepth 20000 in
theorem M_X11_clearing (G : XG) (l : Launch) (kp : Bool) (N : Nat) {I : xTI} {L : xTL} {x1 : Int32} {r : Int32} {rI : xTI} (hf : F_X11_clearing N I L x1 = some (r, rI)) : xMet G l yX11_clearing cX11_clearing 9 (some .int) 2 43 kp [.ref (xz G + 57), .int x1] I L (some (.int r)) rI L := by
  refine xMet.ofW (by decide +kernel) (Nat.le_of_ble_eq_true rfl) ?_
  intro p e s m args below meth c hC H locs ls hR hS hl
  replace hC : xC G p s m args meth c cX11_clearing 9 RX11 (some .int) := hC
  replace hl : lv_has ls 9 [(0, .ref (xz G + 57)), (1, .int x1)] := hl
  unfold F_X11_clearing at hf
  refine lv_iload_n hC.1 hC.2.1 dX11_clearing_0 rfl (lv_at hl 1 rfl) ?_
  refine x_if_ge (tgt := 11) hC dX11_clearing_1 (by decide) hf (fun hf => ?_) (fun hf => ?_)
  · refine lv_iconst (v := 0) hC.1 hC.2.1 dX11_clearing_11 (by decide) ?_
    refine lv_istore_n (lv' := [(2, .int 0), (0, .ref (xz G + 57)), (1, .int x1)]) hC.1 hC.2.1 dX11_clearing_12 rfl hl (Nat.le_of_ble_eq_true rfl) rfl (fun ls hl => ?_)
    refine lv_iconst (v := 0) hC.1 hC.2.1 dX11_clearing_13 (by decide) ?_
    refine lv_istore_n (lv' := [(3, .int 0), (2, .int 0), (0, .ref (xz G + 57)), (1, .int x1)]) hC.1 hC.2.1 dX11_clearing_14 rfl hl (Nat.le_of_ble_eq_true rfl) rfl (fun ls hl => ?_)
    exact W_X11_clearing_l15 hC N _ 0 0 hf _ _ _ hR hS (lv_sub hl [2, 3, 1, 0] rfl)
  · refine lv_aload_n hC.1 hC.2.1 dX11_clearing_4 rfl (lv_at hl 0 rfl) ?_
    refine lv_bipush (v := (-7)) hC.1 hC.2.1 dX11_clearing_5 (by decide) ?_
    refine x_cvi10 (rest := []) hC xy_X11_refuse tw_1338 hf (fun _ _ h => M_X11_refuse G l kp h) ⟨Nat.le_of_ble_eq_true rfl, Nat.le_of_ble_eq_true rfl⟩ (xce_57 G kp _ _) rfl rfl rfl (Nat.le_of_ble_eq_true rfl) hl.1 hR hS dX11_clearing_7 ⟨Nat.le_refl _, Nat.le_refl _⟩ (fun v1 I2 hf H locs hR hS => ?_)
    obtain ⟨h91, h92⟩ := Prod.mk.inj (Option.some.inj hf)
    subst h91
    subst h92
    exact x_iret hC hR hS dX11_clearing_10
