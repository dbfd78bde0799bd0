set_option maxRecDepth 20000 in
theorem M_X8_hasRoom_20 (G : XG) (l : Launch) (kp : Bool) {I : xTI} {L : xTL} {r : Int32} (hf : F_X8_hasRoom_20 I = some r) : xMet G l yX8_hasRoom cX8_hasRoom 1 (some .boolean) 0 0 kp [.ref (xz G + 20)] I L (some (.int r)) I L := by
  refine xMet.ofW (by decide +kernel) (Nat.le_of_ble_eq_true rfl) ?_
  intro p e s m args below meth c hC H locs ls hR hS hl
  replace hC : xC G p s m args meth c cX8_hasRoom 1 RX8 (some .boolean) := hC
  replace hl : lv_has ls 1 [(0, .ref (xz G + 20))] := hl
  unfold F_X8_hasRoom_20 at hf
  refine lv_aload_n hC.1 hC.2.1 dX8_hasRoom_0 rfl (lv_at hl 0 rfl) ?_
  refine x_getI hC xf_X8_20 (xce_20 G kp _ _) rfl hR dX8_hasRoom_1 hf (fun v1 hf => ?_)
  refine lv_aload_n hC.1 hC.2.1 dX8_hasRoom_4 rfl (lv_at hl 0 rfl) ?_
  refine x_get (v := .int 20) hC xf_X8_7 (xce_20 G kp _ _) rfl hR dX8_hasRoom_5 ?_
  refine x_ic_ge (tgt := 15) hC dX8_hasRoom_8 (by decide) hf (fun hf => ?_) (fun hf => ?_)
  · refine lv_iconst (v := 0) hC.1 hC.2.1 dX8_hasRoom_15 (by decide) ?_
    obtain ⟨h01, hf⟩ := xzc_some hf
    have h9 := Option.some.inj hf
    subst h9
    exact x_zret h01 hC hR hS dX8_hasRoom_16
  · refine lv_iconst (v := 1) hC.1 hC.2.1 dX8_hasRoom_11 (by decide) ?_
    refine lv_goto (tgt := 16) hC.1 hC.2.1 dX8_hasRoom_12 (by decide) ?_
    obtain ⟨h01, hf⟩ := xzc_some hf
    have h9 := Option.some.inj hf
    subst h9
    exact x_zret h01 hC hR hS dX8_hasRoom_16
set_option maxRecDepth 20000 in
theorem W_X8_put_20_j29 {G : XG} {l : Launch} {kp : Bool} {p : Program} {e : Env} {s : State} {m : MethodId} {args : Array Value} {below : List Frame} {meth : Method} {c : Code} (hC : xC G p s m args meth c cX8_put 5 RX8 none) {I : xTI} {L : xTL} {rI : xTI} {x1 : Int32} {x2 : Int32} {x3 : Int32} {t0 : Int32} (hf : F_X8_put_20_j29 I x1 x2 x3 t0 = some rI) : ∀ (H : Heap) (locs : List Loc) (ls : Array Slot), xRep G kp I L H → xS G s.heap H locs → lv_has ls 5 [(0, .ref (xz G + 20)), (1, .int x1), (2, .int x2), (3, .int x3)] → W p l e (xrm 0 0) s m args below meth c H locs 0 0 (xMQ G kp below args s none rI L) (F0 m 29 ls [.int t0]) := by
  intro H locs ls hR hS hl
  unfold F_X8_put_20_j29 at hf
  refine lv_istore (lv' := [(4, .int t0), (0, .ref (xz G + 20)), (1, .int x1), (2, .int x2), (3, .int x3)]) hC.1 hC.2.1 dX8_put_29 hl (Nat.le_of_ble_eq_true rfl) rfl (fun ls hl => ?_)
  refine lv_iload hC.1 hC.2.1 dX8_put_31 (lv_at hl 0 rfl) ?_
  refine x_if_eq (tgt := 50) hC dX8_put_33 (by decide) hf (fun hf => ?_) (fun hf => ?_)
  · have h9 := Option.some.inj hf
    subst h9
    exact x_vret hC hR hS dX8_put_50
  · refine lv_aload_n hC.1 hC.2.1 dX8_put_36 rfl (lv_at hl 1 rfl) ?_
    refine x_get (v := .ref (xz G + 21)) hC xf_X8_16 (xce_20 G kp _ _) rfl hR dX8_put_37 ?_
    refine lv_iload_n hC.1 hC.2.1 dX8_put_40 rfl (lv_at hl 2 rfl) ?_
    refine lv_aload_n hC.1 hC.2.1 dX8_put_41 rfl (lv_at hl 1 rfl) ?_
    refine x_get (v := .int 7) hC xf_X8_13 (xce_20 G kp _ _) rfl hR dX8_put_42 ?_
    refine lv_imul hC.1 hC.2.1 dX8_put_45 ?_
    refine lv_iload_n hC.1 hC.2.1 dX8_put_46 rfl (lv_at hl 3 rfl) ?_
    refine lv_iadd hC.1 hC.2.1 dX8_put_47 ?_
    refine lv_iload_n hC.1 hC.2.1 dX8_put_48 rfl (lv_at hl 4 rfl) ?_
    refine x_ias hC (fun f => (xce_21 G kp f _)) hR hS dX8_put_49 hf (fun I1 hf H locs hR hS => ?_)
    have h9 := Option.some.inj hf
    subst h9
    exact x_vret hC hR hS dX8_put_50
set_option maxRecDepth 20000 in
theorem M_X8_put_20 (G : XG) (l : Launch) (kp : Bool) {I : xTI} {L : xTL} {x1 : Int32} {x2 : Int32} {x3 : Int32} {rI : xTI} (hf : F_X8_put_20 I x1 x2 x3 = some rI) : xMet G l yX8_put cX8_put 5 none 0 0 kp [.ref (xz G + 20), .int x1, .int x2, .int x3] I L none rI L := by
  refine xMet.ofW (by decide +kernel) (Nat.le_of_ble_eq_true rfl) ?_
  intro p e s m args below meth c hC H locs ls hR hS hl
  replace hC : xC G p s m args meth c cX8_put 5 RX8 none := hC
  replace hl : lv_has ls 5 [(0, .ref (xz G + 20)), (1, .int x1), (2, .int x2), (3, .int x3)] := hl
  unfold F_X8_put_20 at hf
  refine lv_iload_n hC.1 hC.2.1 dX8_put_0 rfl (lv_at hl 1 rfl) ?_
  refine x_if_lt (tgt := 28) hC dX8_put_1 (by decide) hf (fun hf => ?_) (fun hf => ?_)
  · refine lv_iconst (v := 0) hC.1 hC.2.1 dX8_put_28 (by decide) ?_
    exact W_X8_put_20_j29 hC hf _ _ _ hR hS (lv_sub hl [0, 1, 2, 3] rfl)
  · refine lv_iload_n hC.1 hC.2.1 dX8_put_4 rfl (lv_at hl 1 rfl) ?_
    refine lv_aload_n hC.1 hC.2.1 dX8_put_5 rfl (lv_at hl 0 rfl) ?_
    refine x_get (v := .int 20) hC xf_X8_7 (xce_20 G kp _ _) rfl hR dX8_put_6 ?_
    refine x_ic_ge (tgt := 28) hC dX8_put_9 (by decide) hf (fun hf => ?_) (fun hf => ?_)
    · refine lv_iconst (v := 0) hC.1 hC.2.1 dX8_put_28 (by decide) ?_
      exact W_X8_put_20_j29 hC hf _ _ _ hR hS (lv_sub hl [0, 1, 2, 3] rfl)
    · refine lv_iload_n hC.1 hC.2.1 dX8_put_12 rfl (lv_at hl 2 rfl) ?_
      refine x_if_lt (tgt := 28) hC dX8_put_13 (by decide) hf (fun hf => ?_) (fun hf => ?_)
      · refine lv_iconst (v := 0) hC.1 hC.2.1 dX8_put_28 (by decide) ?_
        exact W_X8_put_20_j29 hC hf _ _ _ hR hS (lv_sub hl [0, 1, 2, 3] rfl)
      · refine lv_iload_n hC.1 hC.2.1 dX8_put_16 rfl (lv_at hl 2 rfl) ?_
        refine lv_aload_n hC.1 hC.2.1 dX8_put_17 rfl (lv_at hl 0 rfl) ?_
        refine x_get (v := .int 7) hC xf_X8_13 (xce_20 G kp _ _) rfl hR dX8_put_18 ?_
        refine x_ic_ge (tgt := 28) hC dX8_put_21 (by decide) hf (fun hf => ?_) (fun hf => ?_)
        · refine lv_iconst (v := 0) hC.1 hC.2.1 dX8_put_28 (by decide) ?_
          exact W_X8_put_20_j29 hC hf _ _ _ hR hS (lv_sub hl [0, 1, 2, 3] rfl)
        · refine lv_iconst (v := 1) hC.1 hC.2.1 dX8_put_24 (by decide) ?_
          refine lv_goto (tgt := 29) hC.1 hC.2.1 dX8_put_25 (by decide) ?_
          exact W_X8_put_20_j29 hC hf _ _ _ hR hS (lv_sub hl [0, 1, 2, 3] rfl)
set_option maxRecDepth 20000 in
theorem M_X1_enterOption (G : XG) (l : Launch) (kp : Bool) {I : xTI} {L : xTL} {x1 : Int32} {x2 : Int32} {x3 : Int32} {x4 : Int32} {x5 : Int32} {r : Int32} {rI : xTI} (hf : F_X1_enterOption I x1 x2 x3 x4 x5 = some (r, rI)) : xMet G l yX1_enterOption cX1_enterOption 7 (some .int) 1 24 kp [.ref (xz G + 1), .int x1, .int x2, .int x3, .int x4, .int x5] I L (some (.int r)) rI L := by
  refine xMet.ofW (by decide +kernel) (Nat.le_of_ble_eq_true rfl) ?_
  intro p e s m args below meth c hC H locs ls hR hS hl
  replace hC : xC G p s m args meth c cX1_enterOption 7 RX1 (some .int) := hC
  replace hl : lv_has ls 7 [(0, .ref (xz G + 1)), (1, .int x1), (2, .int x2), (3, .int x3), (4, .int x4), (5, .int x5)] := hl
  unfold F_X1_enterOption at hf
  refine lv_aload_n hC.1 hC.2.1 dX1_enterOption_0 rfl (lv_at hl 0 rfl) ?_
  refine x_get (v := .ref (xz G + 20)) hC xf_X1_41 (xce_1 G kp _ _) rfl hR dX1_enterOption_1 ?_
  refine x_getI hC xf_X1_62 (xce_20 G kp _ _) rfl hR dX1_enterOption_4 hf (fun v1 hf => ?_)
  refine lv_istore (lv' := [(6, .int v1), (0, .ref (xz G + 1)), (1, .int x1), (2, .int x2), (3, .int x3), (4, .int x4), (5, .int x5)]) hC.1 hC.2.1 dX1_enterOption_7 hl (Nat.le_of_ble_eq_true rfl) rfl (fun ls hl => ?_)
  refine lv_aload_n hC.1 hC.2.1 dX1_enterOption_9 rfl (lv_at hl 1 rfl) ?_
  refine x_get (v := .ref (xz G + 20)) hC xf_X1_41 (xce_1 G kp _ _) rfl hR dX1_enterOption_10 ?_
  refine lv_dup hC.1 hC.2.1 dX1_enterOption_13 rfl ?_
  refine x_getI hC xf_X1_62 (xce_20 G kp _ _) rfl hR dX1_enterOption_14 hf (fun v2 hf => ?_)
  refine lv_iconst (v := 1) hC.1 hC.2.1 dX1_enterOption_17 (by decide) ?_
  refine lv_iadd hC.1 hC.2.1 dX1_enterOption_18 ?_
  refine x_putI hC xf_X1_62 xp_8_3 (fun f => (xce_20 G kp f _)) rfl (Nat.le_of_ble_eq_true rfl) hR hS dX1_enterOption_19 hf (fun I3 hf H locs hR hS => ?_)
  refine W.eq (g2 := F0 m 22 ls []) rfl ?_
  refine lv_aload_n hC.1 hC.2.1 dX1_enterOption_22 rfl (lv_at hl 1 rfl) ?_
  refine x_get (v := .ref (xz G + 20)) hC xf_X1_41 (xce_1 G kp _ _) rfl hR dX1_enterOption_23 ?_
  refine lv_iload hC.1 hC.2.1 dX1_enterOption_26 (lv_at hl 0 rfl) ?_
  refine lv_iconst (v := 0) hC.1 hC.2.1 dX1_enterOption_28 (by decide) ?_
  refine lv_iload_n hC.1 hC.2.1 dX1_enterOption_29 rfl (lv_at hl 2 rfl) ?_
  refine x_cvv10 (rest := []) hC xy_X8_put tw_647 hf (fun _ h => M_X8_put_20 G l kp h) ⟨Nat.le_of_ble_eq_true rfl, Nat.le_of_ble_eq_true rfl⟩ (xce_20 G kp _ _) rfl rfl rfl (Nat.le_of_ble_eq_true rfl) hl.1 hR hS dX1_enterOption_30 ⟨Nat.le_refl _, Nat.le_refl _⟩ (fun I4 hf H locs hR hS => ?_)
  refine lv_aload_n hC.1 hC.2.1 dX1_enterOption_33 rfl (lv_at hl 1 rfl) ?_
  refine x_get (v := .ref (xz G + 20)) hC xf_X1_41 (xce_1 G kp _ _) rfl hR dX1_enterOption_34 ?_
  refine lv_iload hC.1 hC.2.1 dX1_enterOption_37 (lv_at hl 0 rfl) ?_
  refine lv_iconst (v := 1) hC.1 hC.2.1 dX1_enterOption_39 (by decide) ?_
  refine lv_iload_n hC.1 hC.2.1 dX1_enterOption_40 rfl (lv_at hl 3 rfl) ?_
  refine x_cvv10 (rest := []) hC xy_X8_put tw_647 hf (fun _ h => M_X8_put_20 G l kp h) ⟨Nat.le_of_ble_eq_true rfl, Nat.le_of_ble_eq_true rfl⟩ (xce_20 G kp _ _) rfl rfl rfl (Nat.le_of_ble_eq_true rfl) hl.1 hR hS dX1_enterOption_41 ⟨Nat.le_refl _, Nat.le_refl _⟩ (fun I5 hf H locs hR hS => ?_)
  refine W.eq (g2 := F0 m 44 ls []) rfl ?_
  refine lv_aload_n hC.1 hC.2.1 dX1_enterOption_44 rfl (lv_at hl 1 rfl) ?_
  refine x_get (v := .ref (xz G + 20)) hC xf_X1_41 (xce_1 G kp _ _) rfl hR dX1_enterOption_45 ?_
  refine lv_iload hC.1 hC.2.1 dX1_enterOption_48 (lv_at hl 0 rfl) ?_
  refine lv_iconst (v := 2) hC.1 hC.2.1 dX1_enterOption_50 (by decide) ?_
  refine lv_iload_n hC.1 hC.2.1 dX1_enterOption_51 rfl (lv_at hl 4 rfl) ?_
  refine x_cvv10 (rest := []) hC xy_X8_put tw_647 hf (fun _ h => M_X8_put_20 G l kp h) ⟨Nat.le_of_ble_eq_true rfl, Nat.le_of_ble_eq_true rfl⟩ (xce_20 G kp _ _) rfl rfl rfl (Nat.le_of_ble_eq_true rfl) hl.1 hR hS dX1_enterOption_52 ⟨Nat.le_refl _, Nat.le_refl _⟩ (fun I6 hf H locs hR hS => ?_)
  refine lv_aload_n hC.1 hC.2.1 dX1_enterOption_55 rfl (lv_at hl 1 rfl) ?_
  refine x_get (v := .ref (xz G + 20)) hC xf_X1_41 (xce_1 G kp _ _) rfl hR dX1_enterOption_56 ?_
  refine lv_iload hC.1 hC.2.1 dX1_enterOption_59 (lv_at hl 0 rfl) ?_
  refine lv_iconst (v := 3) hC.1 hC.2.1 dX1_enterOption_61 (by decide) ?_
  refine lv_iload hC.1 hC.2.1 dX1_enterOption_62 (lv_at hl 5 rfl) ?_
  refine lv_sipush (v := 10000) hC.1 hC.2.1 dX1_enterOption_64 (by decide) ?_
  refine W.eq (g2 := F0 m 67 ls [.int 10000, .int x4, .int 3, .int v1, .ref (xz G + 20)]) rfl ?_
  refine lv_idiv hC.1 hC.2.1 dX1_enterOption_67 (by decide) ?_
  refine x_cvv10 (rest := []) hC xy_X8_put tw_647 hf (fun _ h => M_X8_put_20 G l kp h) ⟨Nat.le_of_ble_eq_true rfl, Nat.le_of_ble_eq_true rfl⟩ (xce_20 G kp _ _) rfl rfl rfl (Nat.le_of_ble_eq_true rfl) hl.1 hR hS dX1_enterOption_68 ⟨Nat.le_refl _, Nat.le_refl _⟩ (fun I7 hf H locs hR hS => ?_)
  refine lv_aload_n hC.1 hC.2.1 dX1_enterOption_71 rfl (lv_at hl 1 rfl) ?_
  refine x_get (v := .ref (xz G + 20)) hC xf_X1_41 (xce_1 G kp _ _) rfl hR dX1_enterOption_72 ?_
  refine lv_iload hC.1 hC.2.1 dX1_enterOption_75 (lv_at hl 0 rfl) ?_
  refine lv_iconst (v := 4) hC.1 hC.2.1 dX1_enterOption_77 (by decide) ?_
  refine lv_iload hC.1 hC.2.1 dX1_enterOption_78 (lv_at hl 5 rfl) ?_
  refine lv_sipush (v := 10000) hC.1 hC.2.1 dX1_enterOption_80 (by decide) ?_
  refine lv_irem hC.1 hC.2.1 dX1_enterOption_83 (by decide) ?_
  refine x_cvv10 (rest := []) hC xy_X8_put tw_647 hf (fun _ h => M_X8_put_20 G l kp h) ⟨Nat.le_of_ble_eq_true rfl, Nat.le_of_ble_eq_true rfl⟩ (xce_20 G kp _ _) rfl rfl rfl (Nat.le_of_ble_eq_true rfl) hl.1 hR hS dX1_enterOption_84 ⟨Nat.le_refl _, Nat.le_refl _⟩ (fun I8 hf H locs hR hS => ?_)
  refine lv_aload_n hC.1 hC.2.1 dX1_enterOption_87 rfl (lv_at hl 1 rfl) ?_
  refine x_get (v := .ref (xz G + 20)) hC xf_X1_41 (xce_1 G kp _ _) rfl hR dX1_enterOption_88 ?_
  refine W.eq (g2 := F0 m 91 ls [.ref (xz G + 20)]) rfl ?_
  refine lv_iload hC.1 hC.2.1 dX1_enterOption_91 (lv_at hl 0 rfl) ?_
  refine lv_iconst (v := 5) hC.1 hC.2.1 dX1_enterOption_93 (by decide) ?_
  refine lv_iload hC.1 hC.2.1 dX1_enterOption_94 (lv_at hl 6 rfl) ?_
  refine x_cvv10 (rest := []) hC xy_X8_put tw_647 hf (fun _ h => M_X8_put_20 G l kp h) ⟨Nat.le_of_ble_eq_true rfl, Nat.le_of_ble_eq_true rfl⟩ (xce_20 G kp _ _) rfl rfl rfl (Nat.le_of_ble_eq_true rfl) hl.1 hR hS dX1_enterOption_96 ⟨Nat.le_refl _, Nat.le_refl _⟩ (fun I9 hf H locs hR hS => ?_)
  refine lv_aload_n hC.1 hC.2.1 dX1_enterOption_99 rfl (lv_at hl 1 rfl) ?_
  refine x_get (v := .ref (xz G + 20)) hC xf_X1_41 (xce_1 G kp _ _) rfl hR dX1_enterOption_100 ?_
  refine lv_iload hC.1 hC.2.1 dX1_enterOption_103 (lv_at hl 0 rfl) ?_
  refine lv_bipush (v := 6) hC.1 hC.2.1 dX1_enterOption_105 (by decide) ?_
  refine lv_iconst (v := 0) hC.1 hC.2.1 dX1_enterOption_107 (by decide) ?_
  refine x_cvv10 (rest := []) hC xy_X8_put tw_647 hf (fun _ h => M_X8_put_20 G l kp h) ⟨Nat.le_of_ble_eq_true rfl, Nat.le_of_ble_eq_true rfl⟩ (xce_20 G kp _ _) rfl rfl rfl (Nat.le_of_ble_eq_true rfl) hl.1 hR hS dX1_enterOption_108 ⟨Nat.le_refl _, Nat.le_refl _⟩ (fun I10 hf H locs hR hS => ?_)
  refine lv_iload hC.1 hC.2.1 dX1_enterOption_111 (lv_at hl 0 rfl) ?_
  obtain ⟨h91, h92⟩ := Prod.mk.inj (Option.some.inj hf)
  subst h91
  subst h92
  exact x_iret hC hR hS dX1_enterOption_113
set_option maxRecDepth 20000 in
theorem W_X10_option_j16 {G : XG} {l : Launch} {kp : Bool} {p : Program} {e : Env} {s : State} {m : MethodId} {args : Array Value} {below : List Frame} {meth : Method} {c : Code} (hC : xC G p s m args meth c cX10_option 8 RX10 (some .int)) {I : xTI} {L : xTL} {r : Int32} {rI : xTI} {rL : xTL} (hf : F_X10_option_j16 I L = some (r, rI, rL)) : ∀ (H : Heap) (locs : List Loc) (ls : Array Slot), xRep G kp I L H → xS G s.heap H locs → lv_has ls 8 [(0, .ref (xz G + 0))] → W p l e (xrm 3 64) s m args below meth c H locs 0 0 (xMQ G kp below args s (some (.int r)) rI rL) (F0 m 16 ls []) := by
  intro H locs ls hR hS hl
  unfold F_X10_option_j16 at hf
  refine lv_aload_n hC.1 hC.2.1 dX10_option_16 rfl (lv_at hl 0 rfl) ?_
  refine lv_bipush (v := (-3)) hC.1 hC.2.1 dX10_option_17 (by decide) ?_
  refine x_cvi10 (rest := []) hC xy_X10_refuse tw_411 hf (fun _ _ h => M_X10_refuse G l kp h) ⟨Nat.le_of_ble_eq_true rfl, Nat.le_of_ble_eq_true rfl⟩ (xce_0 G kp _ _) rfl rfl rfl (Nat.le_of_ble_eq_true rfl) hl.1 hR hS dX10_option_19 ⟨Nat.le_refl _, Nat.le_refl _⟩ (fun v1 I2 hf H locs hR hS => ?_)
  obtain ⟨h91, h90⟩ := Prod.mk.inj (Option.some.inj hf)
  obtain ⟨h92, h93⟩ := Prod.mk.inj h90
  subst h91
  subst h92
  subst h93
  exact x_iret hC hR hS dX10_option_22
set_option maxRecDepth 20000 in
theorem W_X10_option_j114 {G : XG} {l : Launch} {kp : Bool} {p : Program} {e : Env} {s : State} {m : MethodId} {args : Array Value} {below : List Frame} {meth : Method} {c : Code} (hC : xC G p s m args meth c cX10_option 8 RX10 (some .int)) {I : xTI} {L : xTL} {r : Int32} {rI : xTI} {rL : xTL} (hf : F_X10_option_j114 I L = some (r, rI, rL)) : ∀ (H : Heap) (locs : List Loc) (ls : Array Slot), xRep G kp I L H → xS G s.heap H locs → lv_has ls 8 [(0, .ref (xz G + 0))] → W p l e (xrm 3 64) s m args below meth c H locs 0 0 (xMQ G kp below args s (some (.int r)) rI rL) (F0 m 114 ls []) := by
  intro H locs ls hR hS hl
  unfold F_X10_option_j114 at hf
  refine lv_aload_n hC.1 hC.2.1 dX10_option_114 rfl (lv_at hl 0 rfl) ?_
  refine lv_bipush (v := (-7)) hC.1 hC.2.1 dX10_option_115 (by decide) ?_
  refine x_cvi10 (rest := []) hC xy_X10_refuse tw_411 hf (fun _ _ h => M_X10_refuse G l kp h) ⟨Nat.le_of_ble_eq_true rfl, Nat.le_of_ble_eq_true rfl⟩ (xce_0 G kp _ _) rfl rfl rfl (Nat.le_of_ble_eq_true rfl) hl.1 hR hS dX10_option_117 ⟨Nat.le_refl _, Nat.le_refl _⟩ (fun v1 I2 hf H locs hR hS => ?_)
  obtain ⟨h91, h90⟩ := Prod.mk.inj (Option.some.inj hf)
  obtain ⟨h92, h93⟩ := Prod.mk.inj h90
  subst h91
  subst h92
  subst h93
  exact x_iret hC hR hS dX10_option_120
set_option maxRecDepth 20000 in
theorem W_X10_option_j77 {G : XG} {l : Launch} {kp : Bool} {p : Program} {e : Env} {s : State} {m : MethodId} {args : Array Value} {below : List Frame} {meth : Method} {c : Code} (hC : xC G p s m args meth c cX10_option 8 RX10 (some .int)) {I : xTI} {L : xTL} {r : Int32} {rI : xTI} {rL : xTL} {x1 : Int32} {x2 : Int32} {x3 : Int32} {x5 : Int32} {x6 : Int32} {t0 : Int32} (hf : F_X10_option_j77 I L x1 x2 x3 x5 x6 t0 = some (r, rI, rL)) : ∀ (H : Heap) (locs : List Loc) (ls : Array Slot), xRep G kp I L H → xS G s.heap H locs → lv_has ls 8 [(0, .ref (xz G + 0)), (1, .int x1), (2, .int x2), (3, .int x3), (5, .int x5), (6, .int x6)] → W p l e (xrm 3 64) s m args below meth c H locs 0 0 (xMQ G kp below args s (some (.int r)) rI rL) (F0 m 77 ls [.int t0]) := by
  intro H locs ls hR hS hl
  unfold F_X10_option_j77 at hf
  refine lv_istore (lv' := [(7, .int t0), (0, .ref (xz G + 0)), (1, .int x1), (2, .int x2), (3, .int x3), (5, .int x5), (6, .int x6)]) hC.1 hC.2.1 dX10_option_77 hl (Nat.le_of_ble_eq_true rfl) rfl (fun ls hl => ?_)
  refine lv_iload hC.1 hC.2.1 dX10_option_79 (lv_at hl 0 rfl) ?_
  refine x_if_eq (tgt := 114) hC dX10_option_81 (by decide) hf (fun hf => ?_) (fun hf => ?_)
  · exact W_X10_option_j114 hC hf _ _ _ hR hS (lv_sub hl [1] rfl)
  · refine lv_aload_n hC.1 hC.2.1 dX10_option_84 rfl (lv_at hl 1 rfl) ?_
    refine lv_iload_n hC.1 hC.2.1 dX10_option_85 rfl (lv_at hl 2 rfl) ?_
    refine x_cvi00 (rest := []) hC xy_X10_mayDeal tw_516 hf (fun _ h => M_X10_mayDeal G l kp h) ⟨Nat.le_of_ble_eq_true rfl, Nat.le_of_ble_eq_true rfl⟩ (xce_0 G kp _ _) rfl rfl rfl (Nat.le_of_ble_eq_true rfl) hl.1 hR hS dX10_option_86 ⟨Nat.le_refl _, Nat.le_refl _⟩ (fun v1 hf H locs hR hS => ?_)
    refine x_if_eq (tgt := 114) hC dX10_option_89 (by decide) hf (fun hf => ?_) (fun hf => ?_)
    · exact W_X10_option_j114 hC hf _ _ _ hR hS (lv_sub hl [1] rfl)
    · refine lv_aload_n hC.1 hC.2.1 dX10_option_92 rfl (lv_at hl 1 rfl) ?_
      refine x_get (v := .ref (xz G + 1)) hC xf_X10_10 (xce_0 G kp _ _) rfl hR dX10_option_93 ?_
      refine x_get (v := .ref (xz G + 3)) hC xf_X10_74 (xce_1 G kp _ _) rfl hR dX10_option_96 ?_
      refine x_get (v := .ref (xz G + 4)) hC xf_X10_106 (xce_3 G kp _ _) rfl hR dX10_option_99 ?_
      refine lv_iload_n hC.1 hC.2.1 dX10_option_102 rfl (lv_at hl 2 rfl) ?_
      refine x_csi00 (rest := [.ref (xz G + 4)]) hC xy_X10_first tw_510 hf (fun _ h => M_X10_first G l kp h) ⟨Nat.le_of_ble_eq_true rfl, Nat.le_of_ble_eq_true rfl⟩ rfl rfl (Nat.le_of_ble_eq_true rfl) hl.1 hR hS dX10_option_103 ⟨Nat.le_refl _, Nat.le_refl _⟩ (fun v2 hf H locs hR hS => ?_)
      refine x_lal hC (xce_4 G kp _ _) hR dX10_option_106 hf (fun v3 hf => ?_)
      refine lv_iload hC.1 hC.2.1 dX10_option_107 (lv_at hl 6 rfl) ?_
      refine lv_i2l hC.1 hC.2.1 dX10_option_109 rfl ?_
      refine W.lcmp hC.1 hC.2.1 dX10_option_110 ?_
      refine x_if_ge (tgt := 121) hC dX10_option_111 (by decide) hf (fun hf => ?_) (fun hf => ?_)
      · refine lv_aload_n hC.1 hC.2.1 dX10_option_121 rfl (lv_at hl 1 rfl) ?_
        refine x_get (v := .ref (xz G + 1)) hC xf_X10_10 (xce_0 G kp _ _) rfl hR dX10_option_122 ?_
        refine x_get (v := .ref (xz G + 20)) hC xf_X10_213 (xce_1 G kp _ _) rfl hR dX10_option_125 ?_
        refine x_cvi00 (rest := []) hC xy_X8_hasRoom tw_639 hf (fun _ h => M_X8_hasRoom_20 G l kp h) ⟨Nat.le_of_ble_eq_true rfl, Nat.le_of_ble_eq_true rfl⟩ (xce_20 G kp _ _) rfl rfl rfl (Nat.le_of_ble_eq_true rfl) hl.1 hR hS dX10_option_128 ⟨Nat.le_refl _, Nat.le_refl _⟩ (fun v4 hf H locs hR hS => ?_)
        refine x_if_ne (tgt := 141) hC dX10_option_131 (by decide) hf (fun hf => ?_) (fun hf => ?_)
        · refine lv_aload_n hC.1 hC.2.1 dX10_option_141 rfl (lv_at hl 1 rfl) ?_
          refine x_get (v := .ref (xz G + 1)) hC xf_X10_10 (xce_0 G kp _ _) rfl hR dX10_option_142 ?_
          refine x_get (v := .ref (xz G + 3)) hC xf_X10_74 (xce_1 G kp _ _) rfl hR dX10_option_145 ?_
          refine x_get (v := .ref (xz G + 4)) hC xf_X10_106 (xce_3 G kp _ _) rfl hR dX10_option_148 ?_
          refine lv_iload_n hC.1 hC.2.1 dX10_option_151 rfl (lv_at hl 2 rfl) ?_
          refine x_csi00 (rest := [.ref (xz G + 4)]) hC xy_X10_first tw_510 hf (fun _ h => M_X10_first G l kp h) ⟨Nat.le_of_ble_eq_true rfl, Nat.le_of_ble_eq_true rfl⟩ rfl rfl (Nat.le_of_ble_eq_true rfl) hl.1 hR hS dX10_option_152 ⟨Nat.le_refl _, Nat.le_refl _⟩ (fun v5 hf H locs hR hS => ?_)
          refine lv_dup2_11 hC.1 hC.2.1 dX10_option_155 rfl rfl ?_
          refine x_lal hC (xce_4 G kp _ _) hR dX10_option_156 hf (fun v6 hf => ?_)
          refine lv_iload hC.1 hC.2.1 dX10_option_157 (lv_at hl 6 rfl) ?_
          refine lv_i2l hC.1 hC.2.1 dX10_option_159 rfl ?_
          refine lv_lsub hC.1 hC.2.1 dX10_option_160 ?_
          refine W.eq (g2 := F0 m 161 ls [.long (v6 - (x6.toInt64)), .int v5, .ref (xz G + 4)]) rfl ?_
          refine x_las hC (fun f => (xce_4 G kp _ f)) hR hS dX10_option_161 hf (fun L7 hf H locs hR hS => ?_)
          refine lv_aload_n hC.1 hC.2.1 dX10_option_162 rfl (lv_at hl 1 rfl) ?_
          refine x_get (v := .ref (xz G + 1)) hC xf_X10_10 (xce_0 G kp _ _) rfl hR dX10_option_163 ?_
          refine x_get (v := .ref (xz G + 3)) hC xf_X10_74 (xce_1 G kp _ _) rfl hR dX10_option_166 ?_
          refine x_get (v := .ref (xz G + 4)) hC xf_X10_106 (xce_3 G kp _ _) rfl hR dX10_option_169 ?_
          refine lv_iload_n hC.1 hC.2.1 dX10_option_172 rfl (lv_at hl 2 rfl) ?_
          refine x_csi00 (rest := [.ref (xz G + 4)]) hC xy_X10_second tw_513 hf (fun _ h => M_X10_second G l kp h) ⟨Nat.le_of_ble_eq_true rfl, Nat.le_of_ble_eq_true rfl⟩ rfl rfl (Nat.le_of_ble_eq_true rfl) hl.1 hR hS dX10_option_173 ⟨Nat.le_refl _, Nat.le_refl _⟩ (fun v8 hf H locs hR hS => ?_)
          refine lv_dup2_11 hC.1 hC.2.1 dX10_option_176 rfl rfl ?_
          refine x_lal hC (xce_4 G kp _ _) hR dX10_option_177 hf (fun v9 hf => ?_)
          refine lv_iload hC.1 hC.2.1 dX10_option_178 (lv_at hl 6 rfl) ?_
          refine lv_i2l hC.1 hC.2.1 dX10_option_180 rfl ?_
          refine lv_ladd hC.1 hC.2.1 dX10_option_181 ?_
          refine W.eq (g2 := F0 m 182 ls [.long (v9 + (x6.toInt64)), .int v8, .ref (xz G + 4)]) rfl ?_
          refine x_las hC (fun f => (xce_4 G kp _ f)) hR hS dX10_option_182 hf (fun L10 hf H locs hR hS => ?_)
          refine lv_aload_n hC.1 hC.2.1 dX10_option_183 rfl (lv_at hl 1 rfl) ?_
          refine x_get (v := .ref (xz G + 1)) hC xf_X10_10 (xce_0 G kp _ _) rfl hR dX10_option_184 ?_
          refine lv_iload_n hC.1 hC.2.1 dX10_option_187 rfl (lv_at hl 2 rfl) ?_
          refine x_csi00 (rest := [.ref (xz G + 1)]) hC xy_X10_first tw_510 hf (fun _ h => M_X10_first G l kp h) ⟨Nat.le_of_ble_eq_true rfl, Nat.le_of_ble_eq_true rfl⟩ rfl rfl (Nat.le_of_ble_eq_true rfl) hl.1 hR hS dX10_option_188 ⟨Nat.le_refl _, Nat.le_refl _⟩ (fun v11 hf H locs hR hS => ?_)
          refine lv_iload_n hC.1 hC.2.1 dX10_option_191 rfl (lv_at hl 2 rfl) ?_
          refine x_csi00 (rest := [.int v11, .ref (xz G + 1)]) hC xy_X10_second tw_513 hf (fun _ h => M_X10_second G l kp h) ⟨Nat.le_of_ble_eq_true rfl, Nat.le_of_ble_eq_true rfl⟩ rfl rfl (Nat.le_of_ble_eq_true rfl) hl.1 hR hS dX10_option_192 ⟨Nat.le_refl _, Nat.le_refl _⟩ (fun v12 hf H locs hR hS => ?_)
          refine lv_iload_n hC.1 hC.2.1 dX10_option_195 rfl (lv_at hl 3 rfl) ?_
          refine lv_iload_n hC.1 hC.2.1 dX10_option_196 rfl (lv_at hl 4 rfl) ?_
          refine lv_aload_n hC.1 hC.2.1 dX10_option_197 rfl (lv_at hl 1 rfl) ?_
          refine x_get (v := .ref (xz G + 1)) hC xf_X10_10 (xce_0 G kp _ _) rfl hR dX10_option_198 ?_
          refine x_getI hC xf_X10_164 (xce_1 G kp _ _) rfl hR dX10_option_201 hf (fun v13 hf => ?_)
          refine W.eq (g2 := F0 m 204 ls [.int v13, .int x3, .int x2, .int v12, .int v11, .ref (xz G + 1)]) rfl ?_
          refine lv_iload hC.1 hC.2.1 dX10_option_204 (lv_at hl 5 rfl) ?_
          refine lv_iadd hC.1 hC.2.1 dX10_option_206 ?_
          refine lv_iconst (v := 1) hC.1 hC.2.1 dX10_option_207 (by decide) ?_
          refine lv_isub hC.1 hC.2.1 dX10_option_208 ?_
          refine x_cvi10 (rest := []) hC xy_X1_enterOption tw_643 hf (fun _ _ h => M_X1_enterOption G l kp h) ⟨Nat.le_of_ble_eq_true rfl, Nat.le_of_ble_eq_true rfl⟩ (xce_1 G kp _ _) rfl rfl rfl (Nat.le_of_ble_eq_true rfl) hl.1 hR hS dX10_option_209 ⟨Nat.le_refl _, Nat.le_refl _⟩ (fun v14 I15 hf H locs hR hS => ?_)
          obtain ⟨h91, h90⟩ := Prod.mk.inj (Option.some.inj hf)
          obtain ⟨h92, h93⟩ := Prod.mk.inj h90
          subst h91
          subst h92
          subst h93
          exact x_iret hC hR hS dX10_option_212
        · refine lv_aload_n hC.1 hC.2.1 dX10_option_134 rfl (lv_at hl 1 rfl) ?_
          refine lv_bipush (v := (-8)) hC.1 hC.2.1 dX10_option_135 (by decide) ?_
          refine x_cvi10 (rest := []) hC xy_X10_refuse tw_411 hf (fun _ _ h => M_X10_refuse G l kp h) ⟨Nat.le_of_ble_eq_true rfl, Nat.le_of_ble_eq_true rfl⟩ (xce_0 G kp _ _) rfl rfl rfl (Nat.le_of_ble_eq_true rfl) hl.1 hR hS dX10_option_137 ⟨Nat.le_refl _, Nat.le_refl _⟩ (fun v16 I17 hf H locs hR hS => ?_)
          obtain ⟨h91, h90⟩ := Prod.mk.inj (Option.some.inj hf)
          obtain ⟨h92, h93⟩ := Prod.mk.inj h90
          subst h91
          subst h92
          subst h93
          exact x_iret hC hR hS dX10_option_140
      · exact W_X10_option_j114 hC hf _ _ _ hR hS (lv_sub hl [1] rfl)
set_option maxRecDepth 20000 in
theorem M_X10_option (G : XG) (l : Launch) (kp : Bool) {I : xTI} {L : xTL} {x1 : Int32} {x2 : Int32} {x3 : Int32} {x4 : Int32} {r : Int32} {rI : xTI} {rL : xTL} (hf : F_X10_option I L x1 x2 x3 x4 = some (r, rI, rL)) : xMet G l yX10_option cX10_option 8 (some .int) 3 64 kp [.ref (xz G + 0), .int x1, .int x2, .int x3, .int x4] I L (some (.int r)) rI rL := by
  refine xMet.ofW (by decide +kernel) (Nat.le_of_ble_eq_true rfl) ?_
  intro p e s m args below meth c hC H locs ls hR hS hl
  replace hC : xC G p s m args meth c cX10_option 8 RX10 (some .int) := hC
  replace hl : lv_has ls 8 [(0, .ref (xz G + 0)), (1, .int x1), (2, .int x2), (3, .int x3), (4, .int x4)] := hl
  unfold F_X10_option at hf
  refine lv_aload_n hC.1 hC.2.1 dX10_option_0 rfl (lv_at hl 0 rfl) ?_
  refine lv_iload_n hC.1 hC.2.1 dX10_option_1 rfl (lv_at hl 1 rfl) ?_
  refine x_cvi00 (rest := []) hC xy_X10_areMen tw_506 hf (fun _ h => M_X10_areMen G l kp h) ⟨Nat.le_of_ble_eq_true rfl, Nat.le_of_ble_eq_true rfl⟩ (xce_0 G kp _ _) rfl rfl rfl (Nat.le_of_ble_eq_true rfl) hl.1 hR hS dX10_option_2 ⟨Nat.le_refl _, Nat.le_refl _⟩ (fun v1 hf H locs hR hS => ?_)
  refine x_if_eq (tgt := 16) hC dX10_option_5 (by decide) hf (fun hf => ?_) (fun hf => ?_)
  · exact W_X10_option_j16 hC hf _ _ _ hR hS (lv_sub hl [0] rfl)
  · refine lv_aload_n hC.1 hC.2.1 dX10_option_8 rfl (lv_at hl 0 rfl) ?_
    refine lv_iload_n hC.1 hC.2.1 dX10_option_9 rfl (lv_at hl 2 rfl) ?_
    refine x_cvi00 (rest := []) hC xy_X10_isStock tw_431 hf (fun _ h => M_X10_isStock G l kp h) ⟨Nat.le_of_ble_eq_true rfl, Nat.le_of_ble_eq_true rfl⟩ (xce_0 G kp _ _) rfl rfl rfl (Nat.le_of_ble_eq_true rfl) hl.1 hR hS dX10_option_10 ⟨Nat.le_refl _, Nat.le_refl _⟩ (fun v2 hf H locs hR hS => ?_)
    refine x_if_ne (tgt := 23) hC dX10_option_13 (by decide) hf (fun hf => ?_) (fun hf => ?_)
    · refine lv_iload hC.1 hC.2.1 dX10_option_23 (lv_at hl 4 rfl) ?_
      refine lv_sipush (v := 10000) hC.1 hC.2.1 dX10_option_25 (by decide) ?_
      refine lv_idiv hC.1 hC.2.1 dX10_option_28 (by decide) ?_
      refine x_ist (lv' := fun y3 => [(5, .int y3), (0, .ref (xz G + 0)), (1, .int x1), (2, .int x2), (3, .int x3), (4, .int x4)]) hC hl dX10_option_29 (Nat.le_of_ble_eq_true rfl) hf (fun _ => rfl) (fun y3 hf ls hl => ?_)
      refine lv_iload hC.1 hC.2.1 dX10_option_31 (lv_at hl 5 rfl) ?_
      refine lv_sipush (v := 10000) hC.1 hC.2.1 dX10_option_33 (by decide) ?_
      refine lv_irem hC.1 hC.2.1 dX10_option_36 (by decide) ?_
      refine x_ist (lv' := fun y4 => [(6, .int y4), (5, .int y3), (0, .ref (xz G + 0)), (1, .int x1), (2, .int x2), (3, .int x3), (4, .int x4)]) hC hl dX10_option_37 (Nat.le_of_ble_eq_true rfl) hf (fun _ => rfl) (fun y4 hf ls hl => ?_)
      refine lv_iload_n hC.1 hC.2.1 dX10_option_39 rfl (lv_at hl 5 rfl) ?_
      refine lv_sipush (v := 10000) hC.1 hC.2.1 dX10_option_40 (by decide) ?_
      refine lv_idiv hC.1 hC.2.1 dX10_option_43 (by decide) ?_
      refine W.eq (g2 := F0 m 44 ls [.int (x3 / 10000)]) rfl ?_
      refine lv_iconst (v := 1) hC.1 hC.2.1 dX10_option_44 (by decide) ?_
      refine lv_bipush (v := 99) hC.1 hC.2.1 dX10_option_45 (by decide) ?_
      refine x_csi00 (rest := []) hC xy_X10_isWithin tw_408 hf (fun _ h => M_X10_isWithin G l kp h) ⟨Nat.le_of_ble_eq_true rfl, Nat.le_of_ble_eq_true rfl⟩ rfl rfl (Nat.le_of_ble_eq_true rfl) hl.1 hR hS dX10_option_47 ⟨Nat.le_refl _, Nat.le_refl _⟩ (fun v5 hf H locs hR hS => ?_)
      refine x_if_eq (tgt := 76) hC dX10_option_50 (by decide) hf (fun hf => ?_) (fun hf => ?_)
      · refine lv_iconst (v := 0) hC.1 hC.2.1 dX10_option_76 (by decide) ?_
        exact W_X10_option_j77 hC hf _ _ _ hR hS (lv_sub hl [2, 3, 4, 5, 1, 0] rfl)
      · refine lv_iload_n hC.1 hC.2.1 dX10_option_53 rfl (lv_at hl 5 rfl) ?_
        refine lv_sipush (v := 10000) hC.1 hC.2.1 dX10_option_54 (by decide) ?_
        refine lv_irem hC.1 hC.2.1 dX10_option_57 (by decide) ?_
        refine x_if_le (tgt := 76) hC dX10_option_58 (by decide) hf (fun hf => ?_) (fun hf => ?_)
        · refine lv_iconst (v := 0) hC.1 hC.2.1 dX10_option_76 (by decide) ?_
          exact W_X10_option_j77 hC hf _ _ _ hR hS (lv_sub hl [2, 3, 4, 5, 1, 0] rfl)
        · refine lv_iload hC.1 hC.2.1 dX10_option_61 (lv_at hl 1 rfl) ?_
          refine lv_iconst (v := 1) hC.1 hC.2.1 dX10_option_63 (by decide) ?_
          refine lv_bipush (v := 40) hC.1 hC.2.1 dX10_option_64 (by decide) ?_
          refine x_csi00 (rest := []) hC xy_X10_isWithin tw_408 hf (fun _ h => M_X10_isWithin G l kp h) ⟨Nat.le_of_ble_eq_true rfl, Nat.le_of_ble_eq_true rfl⟩ rfl rfl (Nat.le_of_ble_eq_true rfl) hl.1 hR hS dX10_option_66 ⟨Nat.le_refl _, Nat.le_refl _⟩ (fun v6 hf H locs hR hS => ?_)
          refine x_if_eq (tgt := 76) hC dX10_option_69 (by decide) hf (fun hf => ?_) (fun hf => ?_)
          · refine lv_iconst (v := 0) hC.1 hC.2.1 dX10_option_76 (by decide) ?_
            exact W_X10_option_j77 hC hf _ _ _ hR hS (lv_sub hl [2, 3, 4, 5, 1, 0] rfl)
          · refine lv_iconst (v := 1) hC.1 hC.2.1 dX10_option_72 (by decide) ?_
            refine lv_goto (tgt := 77) hC.1 hC.2.1 dX10_option_73 (by decide) ?_
            exact W_X10_option_j77 hC hf _ _ _ hR hS (lv_sub hl [2, 3, 4, 5, 1, 0] rfl)
    · exact W_X10_option_j16 hC hf _ _ _ hR hS (lv_sub hl [0] rfl)
set_option maxRecDepth 20000 in
theorem M_X8_isNoted_20 (G : XG) (l : Launch) (kp : Bool) {I : xTI} {L : xTL} {x1 : Int32} {r : Int32} (hf : F_X8_isNoted_20 I x1 = some r) : xMet G l yX8_isNoted cX8_isNoted 2 (some .boolean) 0 0 kp [.ref (xz G + 20), .int x1] I L (some (.int r)) I L := by
  refine xMet.ofW (by decide +kernel) (Nat.le_of_ble_eq_true rfl) ?_
  intro p e s m args below meth c hC H locs ls hR hS hl
  replace hC : xC G p s m args meth c cX8_isNoted 2 RX8 (some .boolean) := hC
  replace hl : lv_has ls 2 [(0, .ref (xz G + 20)), (1, .int x1)] := hl
  unfold F_X8_isNoted_20 at hf
  refine lv_iload_n hC.1 hC.2.1 dX8_isNoted_0 rfl (lv_at hl 1 rfl) ?_
  refine x_if_lt (tgt := 24) hC dX8_isNoted_1 (by decide) hf (fun hf => ?_) (fun hf => ?_)
  · refine lv_iconst (v := 0) hC.1 hC.2.1 dX8_isNoted_24 (by decide) ?_
    obtain ⟨h01, hf⟩ := xzc_some hf
    have h9 := Option.some.inj hf
    subst h9
    exact x_zret h01 hC hR hS dX8_isNoted_25
  · refine lv_iload_n hC.1 hC.2.1 dX8_isNoted_4 rfl (lv_at hl 1 rfl) ?_
    refine lv_aload_n hC.1 hC.2.1 dX8_isNoted_5 rfl (lv_at hl 0 rfl) ?_
    refine x_getI hC xf_X8_20 (xce_20 G kp _ _) rfl hR dX8_isNoted_6 hf (fun v1 hf => ?_)
    refine x_ic_ge (tgt := 24) hC dX8_isNoted_9 (by decide) hf (fun hf => ?_) (fun hf => ?_)
    · refine lv_iconst (v := 0) hC.1 hC.2.1 dX8_isNoted_24 (by decide) ?_
      obtain ⟨h01, hf⟩ := xzc_some hf
      have h9 := Option.some.inj hf
      subst h9
      exact x_zret h01 hC hR hS dX8_isNoted_25
    · refine lv_iload_n hC.1 hC.2.1 dX8_isNoted_12 rfl (lv_at hl 1 rfl) ?_
      refine lv_aload_n hC.1 hC.2.1 dX8_isNoted_13 rfl (lv_at hl 0 rfl) ?_
      refine x_get (v := .int 20) hC xf_X8_7 (xce_20 G kp _ _) rfl hR dX8_isNoted_14 ?_
      refine x_ic_ge (tgt := 24) hC dX8_isNoted_17 (by decide) hf (fun hf => ?_) (fun hf => ?_)
      · refine lv_iconst (v := 0) hC.1 hC.2.1 dX8_isNoted_24 (by decide) ?_
        obtain ⟨h01, hf⟩ := xzc_some hf
        have h9 := Option.some.inj hf
        subst h9
        exact x_zret h01 hC hR hS dX8_isNoted_25
      · refine lv_iconst (v := 1) hC.1 hC.2.1 dX8_isNoted_20 (by decide) ?_
        refine lv_goto (tgt := 25) hC.1 hC.2.1 dX8_isNoted_21 (by decide) ?_
        obtain ⟨h01, hf⟩ := xzc_some hf
        have h9 := Option.some.inj hf
        subst h9
        exact x_zret h01 hC hR hS dX8_isNoted_25
set_option maxRecDepth 20000 in
theorem W_X8_at_20_j29 {G : XG} {l : Launch} {kp : Bool} {p : Program} {e : Env} {s : State} {m : MethodId} {args : Array Value} {below : List Frame} {meth : Method} {c : Code} (hC : xC G p s m args meth c cX8_at 4 RX8 (some .int)) {I : xTI} {L : xTL} {r : Int32} {x1 : Int32} {x2 : Int32} {t0 : Int32} (hf : F_X8_at_20_j29 I x1 x2 t0 = some r) : ∀ (H : Heap) (locs : List Loc) (ls : Array Slot), xRep G kp I L H → xS G s.heap H locs → lv_has ls 4 [(0, .ref (xz G + 20)), (1, .int x1), (2, .int x2)] → W p l e (xrm 0 0) s m args below meth c H locs 0 0 (xMQ G kp below args s (some (.int r)) I L) (F0 m 29 ls [.int t0]) := by
  intro H locs ls hR hS hl
  unfold F_X8_at_20_j29 at hf
  refine lv_istore_n (lv' := [(3, .int t0), (0, .ref (xz G + 20)), (1, .int x1), (2, .int x2)]) hC.1 hC.2.1 dX8_at_29 rfl hl (Nat.le_of_ble_eq_true rfl) rfl (fun ls hl => ?_)
  refine lv_iload_n hC.1 hC.2.1 dX8_at_30 rfl (lv_at hl 0 rfl) ?_
  refine x_if_eq (tgt := 50) hC dX8_at_31 (by decide) hf (fun hf => ?_) (fun hf => ?_)
  · refine lv_iconst (v := 0) hC.1 hC.2.1 dX8_at_50 (by decide) ?_
    have h9 := Option.some.inj hf
    subst h9
    exact x_iret hC hR hS dX8_at_51
  · refine lv_aload_n hC.1 hC.2.1 dX8_at_34 rfl (lv_at hl 1 rfl) ?_
    refine x_get (v := .ref (xz G + 21)) hC xf_X8_16 (xce_20 G kp _ _) rfl hR dX8_at_35 ?_
    refine lv_iload_n hC.1 hC.2.1 dX8_at_38 rfl (lv_at hl 2 rfl) ?_
    refine lv_aload_n hC.1 hC.2.1 dX8_at_39 rfl (lv_at hl 1 rfl) ?_
    refine x_get (v := .int 7) hC xf_X8_13 (xce_20 G kp _ _) rfl hR dX8_at_40 ?_
    refine lv_imul hC.1 hC.2.1 dX8_at_43 ?_
    refine lv_iload_n hC.1 hC.2.1 dX8_at_44 rfl (lv_at hl 3 rfl) ?_
    refine lv_iadd hC.1 hC.2.1 dX8_at_45 ?_
    refine x_ial hC (xce_21 G kp _ _) hR dX8_at_46 hf (fun v1 hf => ?_)
    refine lv_goto (tgt := 51) hC.1 hC.2.1 dX8_at_47 (by decide) ?_
    have h9 := Option.some.inj hf
    subst h9
    exact x_iret hC hR hS dX8_at_51
set_option maxRecDepth 20000 in
theorem M_X8_at_20 (G : XG) (l : Launch) (kp : Bool) {I : xTI} {L : xTL} {x1 : Int32} {x2 : Int32} {r : Int32} (hf : F_X8_at_20 I x1 x2 = some r) : xMet G l yX8_at cX8_at 4 (some .int) 0 0 kp [.ref (xz G + 20), .int x1, .int x2] I L (some (.int r)) I L := by
  refine xMet.ofW (by decide +kernel) (Nat.le_of_ble_eq_true rfl) ?_
  intro p e s m args below meth c hC H locs ls hR hS hl
  replace hC : xC G p s m args meth c cX8_at 4 RX8 (some .int) := hC
  replace hl : lv_has ls 4 [(0, .ref (xz G + 20)), (1, .int x1), (2, .int x2)] := hl
  unfold F_X8_at_20 at hf
  refine lv_iload_n hC.1 hC.2.1 dX8_at_0 rfl (lv_at hl 1 rfl) ?_
  refine x_if_lt (tgt := 28) hC dX8_at_1 (by decide) hf (fun hf => ?_) (fun hf => ?_)
  · refine lv_iconst (v := 0) hC.1 hC.2.1 dX8_at_28 (by decide) ?_
    exact W_X8_at_20_j29 hC hf _ _ _ hR hS (lv_sub hl [0, 1, 2] rfl)
  · refine lv_iload_n hC.1 hC.2.1 dX8_at_4 rfl (lv_at hl 1 rfl) ?_
    refine lv_aload_n hC.1 hC.2.1 dX8_at_5 rfl (lv_at hl 0 rfl) ?_
    refine x_get (v := .int 20) hC xf_X8_7 (xce_20 G kp _ _) rfl hR dX8_at_6 ?_
    refine x_ic_ge (tgt := 28) hC dX8_at_9 (by decide) hf (fun hf => ?_) (fun hf => ?_)
    · refine lv_iconst (v := 0) hC.1 hC.2.1 dX8_at_28 (by decide) ?_
      exact W_X8_at_20_j29 hC hf _ _ _ hR hS (lv_sub hl [0, 1, 2] rfl)
    · refine lv_iload_n hC.1 hC.2.1 dX8_at_12 rfl (lv_at hl 2 rfl) ?_
      refine x_if_lt (tgt := 28) hC dX8_at_13 (by decide) hf (fun hf => ?_) (fun hf => ?_)
      · refine lv_iconst (v := 0) hC.1 hC.2.1 dX8_at_28 (by decide) ?_
        exact W_X8_at_20_j29 hC hf _ _ _ hR hS (lv_sub hl [0, 1, 2] rfl)
      · refine lv_iload_n hC.1 hC.2.1 dX8_at_16 rfl (lv_at hl 2 rfl) ?_
        refine lv_aload_n hC.1 hC.2.1 dX8_at_17 rfl (lv_at hl 0 rfl) ?_
        refine x_get (v := .int 7) hC xf_X8_13 (xce_20 G kp _ _) rfl hR dX8_at_18 ?_
        refine x_ic_ge (tgt := 28) hC dX8_at_21 (by decide) hf (fun hf => ?_) (fun hf => ?_)
        · refine lv_iconst (v := 0) hC.1 hC.2.1 dX8_at_28 (by decide) ?_
          exact W_X8_at_20_j29 hC hf _ _ _ hR hS (lv_sub hl [0, 1, 2] rfl)
        · refine lv_iconst (v := 1) hC.1 hC.2.1 dX8_at_24 (by decide) ?_
          refine lv_goto (tgt := 29) hC.1 hC.2.1 dX8_at_25 (by decide) ?_
          exact W_X8_at_20_j29 hC hf _ _ _ hR hS (lv_sub hl [0, 1, 2] rfl)
set_option maxRecDepth 20000 in
theorem M_X1_declareInto (G : XG) (l : Launch) (kp : Bool) {I : xTI} {L : xTL} {x1 : Int32} {x2 : Int32} {rI : xTI} (hf : F_X1_declareInto I x1 x2 = some rI) : xMet G l yX1_declareInto cX1_declareInto 3 none 2 52 kp [.ref (xz G + 1), .int x1, .int x2] I L none rI L := by
  refine xMet.ofW (by decide +kernel) (Nat.le_of_ble_eq_true rfl) ?_
  intro p e s m args below meth c hC H locs ls hR hS hl
  replace hC : xC G p s m args meth c cX1_declareInto 3 RX1 none := hC
  replace hl : lv_has ls 3 [(0, .ref (xz G + 1)), (1, .int x1), (2, .int x2)] := hl
  unfold F_X1_declareInto at hf
  refine lv_aload_n hC.1 hC.2.1 dX1_declareInto_0 rfl (lv_at hl 0 rfl) ?_
  refine x_get (v := .ref (xz G + 11)) hC xf_X1_25 (xce_1 G kp _ _) rfl hR dX1_declareInto_1 ?_
  refine lv_iload_n hC.1 hC.2.1 dX1_declareInto_4 rfl (lv_at hl 2 rfl) ?_
  refine lv_aload_n hC.1 hC.2.1 dX1_declareInto_5 rfl (lv_at hl 0 rfl) ?_
  refine x_get (v := .ref (xz G + 20)) hC xf_X1_41 (xce_1 G kp _ _) rfl hR dX1_declareInto_6 ?_
  refine lv_iload_n hC.1 hC.2.1 dX1_declareInto_9 rfl (lv_at hl 1 rfl) ?_
  refine lv_iconst (v := 1) hC.1 hC.2.1 dX1_declareInto_10 (by decide) ?_
  refine x_cvi00 (rest := [.int x2, .ref (xz G + 11)]) hC xy_X8_at tw_661 hf (fun _ h => M_X8_at_20 G l kp h) ⟨Nat.le_of_ble_eq_true rfl, Nat.le_of_ble_eq_true rfl⟩ (xce_20 G kp _ _) rfl rfl rfl (Nat.le_of_ble_eq_true rfl) hl.1 hR hS dX1_declareInto_11 ⟨Nat.le_refl _, Nat.le_refl _⟩ (fun v1 hf H locs hR hS => ?_)
  refine lv_aload_n hC.1 hC.2.1 dX1_declareInto_14 rfl (lv_at hl 0 rfl) ?_
  refine x_get (v := .ref (xz G + 20)) hC xf_X1_41 (xce_1 G kp _ _) rfl hR dX1_declareInto_15 ?_
  refine lv_iload_n hC.1 hC.2.1 dX1_declareInto_18 rfl (lv_at hl 1 rfl) ?_
  refine W.eq (g2 := F0 m 19 ls [.int x1, .ref (xz G + 20), .int v1, .int x2, .ref (xz G + 11)]) rfl ?_
  refine lv_iconst (v := 0) hC.1 hC.2.1 dX1_declareInto_19 (by decide) ?_
  refine x_cvi00 (rest := [.int v1, .int x2, .ref (xz G + 11)]) hC xy_X8_at tw_661 hf (fun _ h => M_X8_at_20 G l kp h) ⟨Nat.le_of_ble_eq_true rfl, Nat.le_of_ble_eq_true rfl⟩ (xce_20 G kp _ _) rfl rfl rfl (Nat.le_of_ble_eq_true rfl) hl.1 hR hS dX1_declareInto_20 ⟨Nat.le_refl _, Nat.le_refl _⟩ (fun v2 hf H locs hR hS => ?_)
  refine lv_aload_n hC.1 hC.2.1 dX1_declareInto_23 rfl (lv_at hl 0 rfl) ?_
  refine x_get (v := .ref (xz G + 20)) hC xf_X1_41 (xce_1 G kp _ _) rfl hR dX1_declareInto_24 ?_
  refine lv_iload_n hC.1 hC.2.1 dX1_declareInto_27 rfl (lv_at hl 1 rfl) ?_
  refine lv_iconst (v := 2) hC.1 hC.2.1 dX1_declareInto_28 (by decide) ?_
  refine x_cvi00 (rest := [.int v2, .int v1, .int x2, .ref (xz G + 11)]) hC xy_X8_at tw_661 hf (fun _ h => M_X8_at_20 G l kp h) ⟨Nat.le_of_ble_eq_true rfl, Nat.le_of_ble_eq_true rfl⟩ (xce_20 G kp _ _) rfl rfl rfl (Nat.le_of_ble_eq_true rfl) hl.1 hR hS dX1_declareInto_29 ⟨Nat.le_refl _, Nat.le_refl _⟩ (fun v3 hf H locs hR hS => ?_)
  refine lv_aload_n hC.1 hC.2.1 dX1_declareInto_32 rfl (lv_at hl 0 rfl) ?_
  refine x_get (v := .ref (xz G + 20)) hC xf_X1_41 (xce_1 G kp _ _) rfl hR dX1_declareInto_33 ?_
  refine lv_iload_n hC.1 hC.2.1 dX1_declareInto_36 rfl (lv_at hl 1 rfl) ?_
  refine lv_iconst (v := 3) hC.1 hC.2.1 dX1_declareInto_37 (by decide) ?_
  refine x_cvi00 (rest := [.int v3, .int v2, .int v1, .int x2, .ref (xz G + 11)]) hC xy_X8_at tw_661 hf (fun _ h => M_X8_at_20 G l kp h) ⟨Nat.le_of_ble_eq_true rfl, Nat.le_of_ble_eq_true rfl⟩ (xce_20 G kp _ _) rfl rfl rfl (Nat.le_of_ble_eq_true rfl) hl.1 hR hS dX1_declareInto_38 ⟨Nat.le_refl _, Nat.le_refl _⟩ (fun v4 hf H locs hR hS => ?_)
  refine W.eq (g2 := F0 m 41 ls [.int v4, .int v3, .int v2, .int v1, .int x2, .ref (xz G + 11)]) rfl ?_
  refine lv_aload_n hC.1 hC.2.1 dX1_declareInto_41 rfl (lv_at hl 0 rfl) ?_
  refine x_get (v := .ref (xz G + 20)) hC xf_X1_41 (xce_1 G kp _ _) rfl hR dX1_declareInto_42 ?_
  refine lv_iload_n hC.1 hC.2.1 dX1_declareInto_45 rfl (lv_at hl 1 rfl) ?_
  refine lv_iconst (v := 4) hC.1 hC.2.1 dX1_declareInto_46 (by decide) ?_
  refine x_cvi00 (rest := [.int v4, .int v3, .int v2, .int v1, .int x2, .ref (xz G + 11)]) hC xy_X8_at tw_661 hf (fun _ h => M_X8_at_20 G l kp h) ⟨Nat.le_of_ble_eq_true rfl, Nat.le_of_ble_eq_true rfl⟩ (xce_20 G kp _ _) rfl rfl rfl (Nat.le_of_ble_eq_true rfl) hl.1 hR hS dX1_declareInto_47 ⟨Nat.le_refl _, Nat.le_refl _⟩ (fun v5 hf H locs hR hS => ?_)
  refine lv_aload_n hC.1 hC.2.1 dX1_declareInto_50 rfl (lv_at hl 0 rfl) ?_
  refine x_getI hC xf_X1_58 (xce_1 G kp _ _) rfl hR dX1_declareInto_51 hf (fun v6 hf => ?_)
  refine x_cvv10 (rest := []) hC xy_X0_write tw_662 hf (fun _ h => M_X0_write G l kp h) ⟨Nat.le_of_ble_eq_true rfl, Nat.le_of_ble_eq_true rfl⟩ (xce_11 G kp _ _) rfl rfl rfl (Nat.le_of_ble_eq_true rfl) hl.1 hR hS dX1_declareInto_54 ⟨Nat.le_refl _, Nat.le_refl _⟩ (fun I7 hf H locs hR hS => ?_)
  refine lv_aload_n hC.1 hC.2.1 dX1_declareInto_57 rfl (lv_at hl 0 rfl) ?_
  refine x_get (v := .ref (xz G + 11)) hC xf_X1_25 (xce_1 G kp _ _) rfl hR dX1_declareInto_58 ?_
  refine lv_iload_n hC.1 hC.2.1 dX1_declareInto_61 rfl (lv_at hl 2 rfl) ?_
  refine lv_aload_n hC.1 hC.2.1 dX1_declareInto_62 rfl (lv_at hl 0 rfl) ?_
  refine W.eq (g2 := F0 m 63 ls [.ref (xz G + 1), .int x2, .ref (xz G + 11)]) rfl ?_
  refine x_getI hC xf_X1_58 (xce_1 G kp _ _) rfl hR dX1_declareInto_63 hf (fun v8 hf => ?_)
  refine x_cvv10 (rest := []) hC xy_X0_makeStand tw_663 hf (fun _ h => M_X0_makeStand G l kp h) ⟨Nat.le_of_ble_eq_true rfl, Nat.le_of_ble_eq_true rfl⟩ (xce_11 G kp _ _) rfl rfl rfl (Nat.le_of_ble_eq_true rfl) hl.1 hR hS dX1_declareInto_66 ⟨Nat.le_refl _, Nat.le_refl _⟩ (fun I9 hf H locs hR hS => ?_)
  refine lv_aload_n hC.1 hC.2.1 dX1_declareInto_69 rfl (lv_at hl 0 rfl) ?_
  refine x_get (v := .ref (xz G + 20)) hC xf_X1_41 (xce_1 G kp _ _) rfl hR dX1_declareInto_70 ?_
  refine lv_iload_n hC.1 hC.2.1 dX1_declareInto_73 rfl (lv_at hl 1 rfl) ?_
  refine lv_bipush (v := 6) hC.1 hC.2.1 dX1_declareInto_74 (by decide) ?_
  refine lv_iconst (v := 1) hC.1 hC.2.1 dX1_declareInto_76 (by decide) ?_
  refine x_cvv10 (rest := []) hC xy_X8_put tw_647 hf (fun _ h => M_X8_put_20 G l kp h) ⟨Nat.le_of_ble_eq_true rfl, Nat.le_of_ble_eq_true rfl⟩ (xce_20 G kp _ _) rfl rfl rfl (Nat.le_of_ble_eq_true rfl) hl.1 hR hS dX1_declareInto_77 ⟨Nat.le_refl _, Nat.le_refl _⟩ (fun I10 hf H locs hR hS => ?_)
  have h9 := Option.some.inj hf
  subst h9
  exact x_vret hC hR hS dX1_declareInto_80
set_option maxRecDepth 20000 in
theorem M_X10_declare (G : XG) (l : Launch) (kp : Bool) (N : Nat) {I : xTI} {L : xTL} {x1 : Int32} {r : Int32} {rI : xTI} (hf : F_X10_declare N I x1 = some (r, rI)) : xMet G l yX10_declare cX10_declare 3 (some .int) 3 74 kp [.ref (xz G + 0), .int x1] I L (some (.int r)) rI L := by
  refine xMet.ofW (by decide +kernel) (Nat.le_of_ble_eq_true rfl) ?_
  intro p e s m args below meth c hC H locs ls hR hS hl
  replace hC : xC G p s m args meth c cX10_declare 3 RX10 (some .int) := hC
  replace hl : lv_has ls 3 [(0, .ref (xz G + 0)), (1, .int x1)] := hl
  unfold F_X10_declare at hf
  refine lv_aload_n hC.1 hC.2.1 dX10_declare_0 rfl (lv_at hl 0 rfl) ?_
  refine x_get (v := .ref (xz G + 1)) hC xf_X10_10 (xce_0 G kp _ _) rfl hR dX10_declare_1 ?_
  refine x_get (v := .ref (xz G + 20)) hC xf_X10_213 (xce_1 G kp _ _) rfl hR dX10_declare_4 ?_
  refine lv_iload_n hC.1 hC.2.1 dX10_declare_7 rfl (lv_at hl 1 rfl) ?_
  refine x_cvi00 (rest := []) hC xy_X8_isNoted tw_652 hf (fun _ h => M_X8_isNoted_20 G l kp h) ⟨Nat.le_of_ble_eq_true rfl, Nat.le_of_ble_eq_true rfl⟩ (xce_20 G kp _ _) rfl rfl rfl (Nat.le_of_ble_eq_true rfl) hl.1 hR hS dX10_declare_8 ⟨Nat.le_refl _, Nat.le_refl _⟩ (fun v1 hf H locs hR hS => ?_)
  refine x_if_ne (tgt := 21) hC dX10_declare_11 (by decide) hf (fun hf => ?_) (fun hf => ?_)
  · refine lv_aload_n hC.1 hC.2.1 dX10_declare_21 rfl (lv_at hl 0 rfl) ?_
    refine x_get (v := .ref (xz G + 1)) hC xf_X10_10 (xce_0 G kp _ _) rfl hR dX10_declare_22 ?_
    refine x_get (v := .ref (xz G + 20)) hC xf_X10_213 (xce_1 G kp _ _) rfl hR dX10_declare_25 ?_
    refine lv_iload_n hC.1 hC.2.1 dX10_declare_28 rfl (lv_at hl 1 rfl) ?_
    refine lv_bipush (v := 6) hC.1 hC.2.1 dX10_declare_29 (by decide) ?_
    refine x_cvi00 (rest := []) hC xy_X8_at tw_656 hf (fun _ h => M_X8_at_20 G l kp h) ⟨Nat.le_of_ble_eq_true rfl, Nat.le_of_ble_eq_true rfl⟩ (xce_20 G kp _ _) rfl rfl rfl (Nat.le_of_ble_eq_true rfl) hl.1 hR hS dX10_declare_31 ⟨Nat.le_refl _, Nat.le_refl _⟩ (fun v2 hf H locs hR hS => ?_)
    refine x_if_eq (tgt := 44) hC dX10_declare_34 (by decide) hf (fun hf => ?_) (fun hf => ?_)
    · refine lv_aload_n hC.1 hC.2.1 dX10_declare_44 rfl (lv_at hl 0 rfl) ?_
      refine x_get (v := .ref (xz G + 1)) hC xf_X10_10 (xce_0 G kp _ _) rfl hR dX10_declare_45 ?_
      refine x_get (v := .ref (xz G + 11)) hC xf_X10_119 (xce_1 G kp _ _) rfl hR dX10_declare_48 ?_
      refine lv_iconst (v := 0) hC.1 hC.2.1 dX10_declare_51 (by decide) ?_
      refine x_cvi00 (rest := []) hC xy_X0_leastFree tw_520 hf (fun _ h => M_X0_leastFree G l kp N h) ⟨Nat.le_of_ble_eq_true rfl, Nat.le_of_ble_eq_true rfl⟩ (xce_11 G kp _ _) rfl rfl rfl (Nat.le_of_ble_eq_true rfl) hl.1 hR hS dX10_declare_52 ⟨Nat.le_refl _, Nat.le_refl _⟩ (fun v3 hf H locs hR hS => ?_)
      refine lv_istore_n (lv' := [(2, .int v3), (0, .ref (xz G + 0)), (1, .int x1)]) hC.1 hC.2.1 dX10_declare_55 rfl hl (Nat.le_of_ble_eq_true rfl) rfl (fun ls hl => ?_)
      refine lv_iload_n hC.1 hC.2.1 dX10_declare_56 rfl (lv_at hl 0 rfl) ?_
      refine lv_iconst (v := (-1)) hC.1 hC.2.1 dX10_declare_57 (by decide) ?_
      refine x_ic_ne (tgt := 68) hC dX10_declare_58 (by decide) hf (fun hf => ?_) (fun hf => ?_)
      · refine lv_aload_n hC.1 hC.2.1 dX10_declare_68 rfl (lv_at hl 1 rfl) ?_
        refine x_get (v := .ref (xz G + 1)) hC xf_X10_10 (xce_0 G kp _ _) rfl hR dX10_declare_69 ?_
        refine lv_iload_n hC.1 hC.2.1 dX10_declare_72 rfl (lv_at hl 2 rfl) ?_
        refine lv_iload_n hC.1 hC.2.1 dX10_declare_73 rfl (lv_at hl 0 rfl) ?_
        refine x_cvv10 (rest := []) hC xy_X1_declareInto tw_657 hf (fun _ h => M_X1_declareInto G l kp h) ⟨Nat.le_of_ble_eq_true rfl, Nat.le_of_ble_eq_true rfl⟩ (xce_1 G kp _ _) rfl rfl rfl (Nat.le_of_ble_eq_true rfl) hl.1 hR hS dX10_declare_74 ⟨Nat.le_refl _, Nat.le_refl _⟩ (fun I4 hf H locs hR hS => ?_)
        refine lv_iload_n hC.1 hC.2.1 dX10_declare_77 rfl (lv_at hl 0 rfl) ?_
        obtain ⟨h91, h92⟩ := Prod.mk.inj (Option.some.inj hf)
        subst h91
        subst h92
        exact x_iret hC hR hS dX10_declare_78
      · refine lv_aload_n hC.1 hC.2.1 dX10_declare_61 rfl (lv_at hl 1 rfl) ?_
        refine lv_bipush (v := (-8)) hC.1 hC.2.1 dX10_declare_62 (by decide) ?_
        refine x_cvi10 (rest := []) hC xy_X10_refuse tw_411 hf (fun _ _ h => M_X10_refuse G l kp h) ⟨Nat.le_of_ble_eq_true rfl, Nat.le_of_ble_eq_true rfl⟩ (xce_0 G kp _ _) rfl rfl rfl (Nat.le_of_ble_eq_true rfl) hl.1 hR hS dX10_declare_64 ⟨Nat.le_refl _, Nat.le_refl _⟩ (fun v5 I6 hf H locs hR hS => ?_)
        obtain ⟨h91, h92⟩ := Prod.mk.inj (Option.some.inj hf)
        subst h91
        subst h92
        exact x_iret hC hR hS dX10_declare_67
    · refine lv_aload_n hC.1 hC.2.1 dX10_declare_37 rfl (lv_at hl 0 rfl) ?_
      refine lv_bipush (v := (-7)) hC.1 hC.2.1 dX10_declare_38 (by decide) ?_
      refine x_cvi10 (rest := []) hC xy_X10_refuse tw_411 hf (fun _ _ h => M_X10_refuse G l kp h) ⟨Nat.le_of_ble_eq_true rfl, Nat.le_of_ble_eq_true rfl⟩ (xce_0 G kp _ _) rfl rfl rfl (Nat.le_of_ble_eq_true rfl) hl.1 hR hS dX10_declare_40 ⟨Nat.le_refl _, Nat.le_refl _⟩ (fun v7 I8 hf H locs hR hS => ?_)
      obtain ⟨h91, h92⟩ := Prod.mk.inj (Option.some.inj hf)
      subst h91
      subst h92
      exact x_iret hC hR hS dX10_declare_43
  · refine lv_aload_n hC.1 hC.2.1 dX10_declare_14 rfl (lv_at hl 0 rfl) ?_
    refine lv_bipush (v := (-3)) hC.1 hC.2.1 dX10_declare_15 (by decide) ?_
    refine x_cvi10 (rest := []) hC xy_X10_refuse tw_411 hf (fun _ _ h => M_X10_refuse G l kp h) ⟨Nat.le_of_ble_eq_true rfl, Nat.le_of_ble_eq_true rfl⟩ (xce_0 G kp _ _) rfl rfl rfl (Nat.le_of_ble_eq_true rfl) hl.1 hR hS dX10_declare_17 ⟨Nat.le_refl _, Nat.le_refl _⟩ (fun v9 I10 hf H locs hR hS => ?_)
    obtain ⟨h91, h92⟩ := Prod.mk.inj (Option.some.inj hf)
    subst h91
    subst h92
    exact x_iret hC hR hS dX10_declare_20
set_option maxRecDepth 20000 in
theorem M_X8_hasColumn_20 (G : XG) (l : Launch) (kp : Bool) {I : xTI} {L : xTL} {x1 : Int32} {r : Int32} (hf : F_X8_hasColumn_20 x1 = some r) : xMet G l yX8_hasColumn cX8_hasColumn 2 (some .boolean) 0 0 kp [.ref (xz G + 20), .int x1] I L (some (.int r)) I L := by
  refine xMet.ofW (by decide +kernel) (Nat.le_of_ble_eq_true rfl) ?_
  intro p e s m args below meth c hC H locs ls hR hS hl
  replace hC : xC G p s m args meth c cX8_hasColumn 2 RX8 (some .boolean) := hC
  replace hl : lv_has ls 2 [(0, .ref (xz G + 20)), (1, .int x1)] := hl
  unfold F_X8_hasColumn_20 at hf
  refine lv_iload_n hC.1 hC.2.1 dX8_hasColumn_0 rfl (lv_at hl 1 rfl) ?_
  refine x_if_lt (tgt := 16) hC dX8_hasColumn_1 (by decide) hf (fun hf => ?_) (fun hf => ?_)
  · refine lv_iconst (v := 0) hC.1 hC.2.1 dX8_hasColumn_16 (by decide) ?_
    obtain ⟨h01, hf⟩ := xzc_some hf
    have h9 := Option.some.inj hf
    subst h9
    exact x_zret h01 hC hR hS dX8_hasColumn_17
  · refine lv_iload_n hC.1 hC.2.1 dX8_hasColumn_4 rfl (lv_at hl 1 rfl) ?_
    refine lv_aload_n hC.1 hC.2.1 dX8_hasColumn_5 rfl (lv_at hl 0 rfl) ?_
    refine x_get (v := .int 7) hC xf_X8_13 (xce_20 G kp _ _) rfl hR dX8_hasColumn_6 ?_
    refine x_ic_ge (tgt := 16) hC dX8_hasColumn_9 (by decide) hf (fun hf => ?_) (fun hf => ?_)
    · refine lv_iconst (v := 0) hC.1 hC.2.1 dX8_hasColumn_16 (by decide) ?_
      obtain ⟨h01, hf⟩ := xzc_some hf
      have h9 := Option.some.inj hf
      subst h9
      exact x_zret h01 hC hR hS dX8_hasColumn_17
    · refine lv_iconst (v := 1) hC.1 hC.2.1 dX8_hasColumn_12 (by decide) ?_
      refine lv_goto (tgt := 17) hC.1 hC.2.1 dX8_hasColumn_13 (by decide) ?_
      obtain ⟨h01, hf⟩ := xzc_some hf
      have h9 := Option.some.inj hf
      subst h9
      exact x_zret h01 hC hR hS dX8_hasColumn_17
set_option maxRecDepth 20000 in
theorem M_X10_readOf_20 (G : XG) (l : Launch) (kp : Bool) {I : xTI} {L : xTL} {x2 : Int32} {x3 : Int32} {r : Int32} {rI : xTI} (hf : F_X10_readOf_20 I x2 x3 = some (r, rI)) : xMet G l yX10_readOf cX10_readOf 4 (some .int) 1 23 kp [.ref (xz G + 0), .ref (xz G + 20), .int x2, .int x3] I L (some (.int r)) rI L := by
  refine xMet.ofW (by decide +kernel) (Nat.le_of_ble_eq_true rfl) ?_
  intro p e s m args below meth c hC H locs ls hR hS hl
  replace hC : xC G p s m args meth c cX10_readOf 4 RX10 (some .int) := hC
  replace hl : lv_has ls 4 [(0, .ref (xz G + 0)), (1, .ref (xz G + 20)), (2, .int x2), (3, .int x3)] := hl
  unfold F_X10_readOf_20 at hf
  refine lv_aload_n hC.1 hC.2.1 dX10_readOf_0 rfl (lv_at hl 1 rfl) ?_
  refine lv_iload_n hC.1 hC.2.1 dX10_readOf_1 rfl (lv_at hl 2 rfl) ?_
  refine x_cvi00 (rest := []) hC xy_X8_isNoted tw_652 hf (fun _ h => M_X8_isNoted_20 G l kp h) ⟨Nat.le_of_ble_eq_true rfl, Nat.le_of_ble_eq_true rfl⟩ (xce_20 G kp _ _) rfl rfl rfl (Nat.le_of_ble_eq_true rfl) hl.1 hR hS dX10_readOf_2 ⟨Nat.le_refl _, Nat.le_refl _⟩ (fun v1 hf H locs hR hS => ?_)
  refine x_if_ne (tgt := 15) hC dX10_readOf_5 (by decide) hf (fun hf => ?_) (fun hf => ?_)
  · refine lv_aload_n hC.1 hC.2.1 dX10_readOf_15 rfl (lv_at hl 1 rfl) ?_
    refine lv_iload_n hC.1 hC.2.1 dX10_readOf_16 rfl (lv_at hl 3 rfl) ?_
    refine x_cvi00 (rest := []) hC xy_X8_hasColumn tw_672 hf (fun _ h => M_X8_hasColumn_20 G l kp h) ⟨Nat.le_of_ble_eq_true rfl, Nat.le_of_ble_eq_true rfl⟩ (xce_20 G kp _ _) rfl rfl rfl (Nat.le_of_ble_eq_true rfl) hl.1 hR hS dX10_readOf_17 ⟨Nat.le_refl _, Nat.le_refl _⟩ (fun v2 hf H locs hR hS => ?_)
    refine x_if_eq (tgt := 32) hC dX10_readOf_20 (by decide) hf (fun hf => ?_) (fun hf => ?_)
    · refine lv_aload_n hC.1 hC.2.1 dX10_readOf_32 rfl (lv_at hl 0 rfl) ?_
      refine lv_bipush (v := (-7)) hC.1 hC.2.1 dX10_readOf_33 (by decide) ?_
      refine x_cvi10 (rest := []) hC xy_X10_refuse tw_411 hf (fun _ _ h => M_X10_refuse G l kp h) ⟨Nat.le_of_ble_eq_true rfl, Nat.le_of_ble_eq_true rfl⟩ (xce_0 G kp _ _) rfl rfl rfl (Nat.le_of_ble_eq_true rfl) hl.1 hR hS dX10_readOf_35 ⟨Nat.le_refl _, Nat.le_refl _⟩ (fun v3 I4 hf H locs hR hS => ?_)
      obtain ⟨h91, h92⟩ := Prod.mk.inj (Option.some.inj hf)
      subst h91
      subst h92
      exact x_iret hC hR hS dX10_readOf_38
    · refine lv_aload_n hC.1 hC.2.1 dX10_readOf_23 rfl (lv_at hl 1 rfl) ?_
      refine lv_iload_n hC.1 hC.2.1 dX10_readOf_24 rfl (lv_at hl 2 rfl) ?_
      refine lv_iload_n hC.1 hC.2.1 dX10_readOf_25 rfl (lv_at hl 3 rfl) ?_
      refine x_cvi00 (rest := []) hC xy_X8_at tw_656 hf (fun _ h => M_X8_at_20 G l kp h) ⟨Nat.le_of_ble_eq_true rfl, Nat.le_of_ble_eq_true rfl⟩ (xce_20 G kp _ _) rfl rfl rfl (Nat.le_of_ble_eq_true rfl) hl.1 hR hS dX10_readOf_26 ⟨Nat.le_refl _, Nat.le_refl _⟩ (fun v5 hf H locs hR hS => ?_)
      refine lv_goto (tgt := 38) hC.1 hC.2.1 dX10_readOf_29 (by decide) ?_
      obtain ⟨h91, h92⟩ := Prod.mk.inj (Option.some.inj hf)
      subst h91
      subst h92
      exact x_iret hC hR hS dX10_readOf_38
  · refine lv_aload_n hC.1 hC.2.1 dX10_readOf_8 rfl (lv_at hl 0 rfl) ?_
    refine lv_bipush (v := (-3)) hC.1 hC.2.1 dX10_readOf_9 (by decide) ?_
    refine x_cvi10 (rest := []) hC xy_X10_refuse tw_411 hf (fun _ _ h => M_X10_refuse G l kp h) ⟨Nat.le_of_ble_eq_true rfl, Nat.le_of_ble_eq_true rfl⟩ (xce_0 G kp _ _) rfl rfl rfl (Nat.le_of_ble_eq_true rfl) hl.1 hR hS dX10_readOf_11 ⟨Nat.le_refl _, Nat.le_refl _⟩ (fun v6 I7 hf H locs hR hS => ?_)
    obtain ⟨h91, h92⟩ := Prod.mk.inj (Option.some.inj hf)
    subst h91
    subst h92
    exact x_iret hC hR hS dX10_readOf_14
set_option maxRecDepth 20000 in
theorem M_X10_optionOf (G : XG) (l : Launch) (kp : Bool) {I : xTI} {L : xTL} {x1 : Int32} {x2 : Int32} {r : Int32} {rI : xTI} (hf : F_X10_optionOf I x1 x2 = some (r, rI)) : xMet G l yX10_optionOf cX10_optionOf 3 (some .int) 2 46 kp [.ref (xz G + 0), .int x1, .int x2] I L (some (.int r)) rI L := by
  refine xMet.ofW (by decide +kernel) (Nat.le_of_ble_eq_true rfl) ?_
  intro p e s m args below meth c hC H locs ls hR hS hl
  replace hC : xC G p s m args meth c cX10_optionOf 3 RX10 (some .int) := hC
  replace hl : lv_has ls 3 [(0, .ref (xz G + 0)), (1, .int x1), (2, .int x2)] := hl
  unfold F_X10_optionOf at hf
  refine lv_aload_n hC.1 hC.2.1 dX10_optionOf_0 rfl (lv_at hl 0 rfl) ?_
  refine lv_aload_n hC.1 hC.2.1 dX10_optionOf_1 rfl (lv_at hl 0 rfl) ?_
  refine x_get (v := .ref (xz G + 1)) hC xf_X10_10 (xce_0 G kp _ _) rfl hR dX10_optionOf_2 ?_
  refine x_get (v := .ref (xz G + 20)) hC xf_X10_213 (xce_1 G kp _ _) rfl hR dX10_optionOf_5 ?_
  refine lv_iload_n hC.1 hC.2.1 dX10_optionOf_8 rfl (lv_at hl 1 rfl) ?_
  refine lv_iload_n hC.1 hC.2.1 dX10_optionOf_9 rfl (lv_at hl 2 rfl) ?_
  refine x_cvi10 (rest := []) hC xy_X10_readOf tw_668 hf (fun _ _ h => M_X10_readOf_20 G l kp h) ⟨Nat.le_of_ble_eq_true rfl, Nat.le_of_ble_eq_true rfl⟩ (xce_0 G kp _ _) rfl rfl rfl (Nat.le_of_ble_eq_true rfl) hl.1 hR hS dX10_optionOf_10 ⟨Nat.le_refl _, Nat.le_refl _⟩ (fun v1 I2 hf H locs hR hS => ?_)
  obtain ⟨h91, h92⟩ := Prod.mk.inj (Option.some.inj hf)
  subst h91
  subst h92
  exact x_iret hC hR hS dX10_optionOf_13
set_option maxRecDepth 20000 in
theorem M_X8_hasRoom_22 (G : XG) (l : Launch) (kp : Bool) {I : xTI} {L : xTL} {r : Int32} (hf : F_X8_hasRoom_22 I = some r) : xMet G l yX8_hasRoom cX8_hasRoom 1 (some .boolean) 0 0 kp [.ref (xz G + 22)] I L (some (.int r)) I L := by
  refine xMet.ofW (by decide +kernel) (Nat.le_of_ble_eq_true rfl) ?_
  intro p e s m args below meth c hC H locs ls hR hS hl
  replace hC : xC G p s m args meth c cX8_hasRoom 1 RX8 (some .boolean) := hC
  replace hl : lv_has ls 1 [(0, .ref (xz G + 22))] := hl
  unfold F_X8_hasRoom_22 at hf
  refine lv_aload_n hC.1 hC.2.1 dX8_hasRoom_0 rfl (lv_at hl 0 rfl) ?_
  refine x_getI hC xf_X8_20 (xce_22 G kp _ _) rfl hR dX8_hasRoom_1 hf (fun v1 hf => ?_)
  refine lv_aload_n hC.1 hC.2.1 dX8_hasRoom_4 rfl (lv_at hl 0 rfl) ?_
  refine x_get (v := .int 10) hC xf_X8_7 (xce_22 G kp _ _) rfl hR dX8_hasRoom_5 ?_
  refine x_ic_ge (tgt := 15) hC dX8_hasRoom_8 (by decide) hf (fun hf => ?_) (fun hf => ?_)
  · refine lv_iconst (v := 0) hC.1 hC.2.1 dX8_hasRoom_15 (by decide) ?_
    obtain ⟨h01, hf⟩ := xzc_some hf
    have h9 := Option.some.inj hf
    subst h9
    exact x_zret h01 hC hR hS dX8_hasRoom_16
  · refine lv_iconst (v := 1) hC.1 hC.2.1 dX8_hasRoom_11 (by decide) ?_
    refine lv_goto (tgt := 16) hC.1 hC.2.1 dX8_hasRoom_12 (by decide) ?_
    obtain ⟨h01, hf⟩ := xzc_some hf
    have h9 := Option.some.inj hf
    subst h9
    exact x_zret h01 hC hR hS dX8_hasRoom_16
set_option maxRecDepth 20000 in
theorem W_X8_put_22_j29 {G : XG} {l : Launch} {kp : Bool} {p : Program} {e : Env} {s : State} {m : MethodId} {args : Array Value} {below : List Frame} {meth : Method} {c : Code} (hC : xC G p s m args meth c cX8_put 5 RX8 none) {I : xTI} {L : xTL} {rI : xTI} {x1 : Int32} {x2 : Int32} {x3 : Int32} {t0 : Int32} (hf : F_X8_put_22_j29 I x1 x2 x3 t0 = some rI) : ∀ (H : Heap) (locs : List Loc) (ls : Array Slot), xRep G kp I L H → xS G s.heap H locs → lv_has ls 5 [(0, .ref (xz G + 22)), (1, .int x1), (2, .int x2), (3, .int x3)] → W p l e (xrm 0 0) s m args below meth c H locs 0 0 (xMQ G kp below args s none rI L) (F0 m 29 ls [.int t0]) := by
  intro H locs ls hR hS hl
  unfold F_X8_put_22_j29 at hf
  refine lv_istore (lv' := [(4, .int t0), (0, .ref (xz G + 22)), (1, .int x1), (2, .int x2), (3, .int x3)]) hC.1 hC.2.1 dX8_put_29 hl (Nat.le_of_ble_eq_true rfl) rfl (fun ls hl => ?_)
  refine lv_iload hC.1 hC.2.1 dX8_put_31 (lv_at hl 0 rfl) ?_
  refine x_if_eq (tgt := 50) hC dX8_put_33 (by decide) hf (fun hf => ?_) (fun hf => ?_)
  · have h9 := Option.some.inj hf
    subst h9
    exact x_vret hC hR hS dX8_put_50
  · refine lv_aload_n hC.1 hC.2.1 dX8_put_36 rfl (lv_at hl 1 rfl) ?_
    refine x_get (v := .ref (xz G + 23)) hC xf_X8_16 (xce_22 G kp _ _) rfl hR dX8_put_37 ?_
    refine lv_iload_n hC.1 hC.2.1 dX8_put_40 rfl (lv_at hl 2 rfl) ?_
    refine lv_aload_n hC.1 hC.2.1 dX8_put_41 rfl (lv_at hl 1 rfl) ?_
    refine x_get (v := .int 3) hC xf_X8_13 (xce_22 G kp _ _) rfl hR dX8_put_42 ?_
    refine lv_imul hC.1 hC.2.1 dX8_put_45 ?_
    refine lv_iload_n hC.1 hC.2.1 dX8_put_46 rfl (lv_at hl 3 rfl) ?_
    refine lv_iadd hC.1 hC.2.1 dX8_put_47 ?_
    refine lv_iload_n hC.1 hC.2.1 dX8_put_48 rfl (lv_at hl 4 rfl) ?_
    refine x_ias hC (fun f => (xce_23 G kp f _)) hR hS dX8_put_49 hf (fun I1 hf H locs hR hS => ?_)
    have h9 := Option.some.inj hf
    subst h9
    exact x_vret hC hR hS dX8_put_50
set_option maxRecDepth 20000 in
theorem M_X8_put_22 (G : XG) (l : Launch) (kp : Bool) {I : xTI} {L : xTL} {x1 : Int32} {x2 : Int32} {x3 : Int32} {rI : xTI} (hf : F_X8_put_22 I x1 x2 x3 = some rI) : xMet G l yX8_put cX8_put 5 none 0 0 kp [.ref (xz G + 22), .int x1, .int x2, .int x3] I L none rI L := by
  refine xMet.ofW (by decide +kernel) (Nat.le_of_ble_eq_true rfl) ?_
  intro p e s m args below meth c hC H locs ls hR hS hl
  replace hC : xC G p s m args meth c cX8_put 5 RX8 none := hC
  replace hl : lv_has ls 5 [(0, .ref (xz G + 22)), (1, .int x1), (2, .int x2), (3, .int x3)] := hl
  unfold F_X8_put_22 at hf
  refine lv_iload_n hC.1 hC.2.1 dX8_put_0 rfl (lv_at hl 1 rfl) ?_
  refine x_if_lt (tgt := 28) hC dX8_put_1 (by decide) hf (fun hf => ?_) (fun hf => ?_)
  · refine lv_iconst (v := 0) hC.1 hC.2.1 dX8_put_28 (by decide) ?_
    exact W_X8_put_22_j29 hC hf _ _ _ hR hS (lv_sub hl [0, 1, 2, 3] rfl)
  · refine lv_iload_n hC.1 hC.2.1 dX8_put_4 rfl (lv_at hl 1 rfl) ?_
    refine lv_aload_n hC.1 hC.2.1 dX8_put_5 rfl (lv_at hl 0 rfl) ?_
    refine x_get (v := .int 10) hC xf_X8_7 (xce_22 G kp _ _) rfl hR dX8_put_6 ?_
    refine x_ic_ge (tgt := 28) hC dX8_put_9 (by decide) hf (fun hf => ?_) (fun hf => ?_)
    · refine lv_iconst (v := 0) hC.1 hC.2.1 dX8_put_28 (by decide) ?_
      exact W_X8_put_22_j29 hC hf _ _ _ hR hS (lv_sub hl [0, 1, 2, 3] rfl)
    · refine lv_iload_n hC.1 hC.2.1 dX8_put_12 rfl (lv_at hl 2 rfl) ?_
      refine x_if_lt (tgt := 28) hC dX8_put_13 (by decide) hf (fun hf => ?_) (fun hf => ?_)
      · refine lv_iconst (v := 0) hC.1 hC.2.1 dX8_put_28 (by decide) ?_
        exact W_X8_put_22_j29 hC hf _ _ _ hR hS (lv_sub hl [0, 1, 2, 3] rfl)
      · refine lv_iload_n hC.1 hC.2.1 dX8_put_16 rfl (lv_at hl 2 rfl) ?_
        refine lv_aload_n hC.1 hC.2.1 dX8_put_17 rfl (lv_at hl 0 rfl) ?_
        refine x_get (v := .int 3) hC xf_X8_13 (xce_22 G kp _ _) rfl hR dX8_put_18 ?_
        refine x_ic_ge (tgt := 28) hC dX8_put_21 (by decide) hf (fun hf => ?_) (fun hf => ?_)
        · refine lv_iconst (v := 0) hC.1 hC.2.1 dX8_put_28 (by decide) ?_
          exact W_X8_put_22_j29 hC hf _ _ _ hR hS (lv_sub hl [0, 1, 2, 3] rfl)
        · refine lv_iconst (v := 1) hC.1 hC.2.1 dX8_put_24 (by decide) ?_
          refine lv_goto (tgt := 29) hC.1 hC.2.1 dX8_put_25 (by decide) ?_
          exact W_X8_put_22_j29 hC hf _ _ _ hR hS (lv_sub hl [0, 1, 2, 3] rfl)
set_option maxRecDepth 20000 in
theorem M_X1_enterDividend (G : XG) (l : Launch) (kp : Bool) {I : xTI} {L : xTL} {x1 : Int32} {x2 : Int32} {x3 : Int32} {r : Int32} {rI : xTI} (hf : F_X1_enterDividend I x1 x2 x3 = some (r, rI)) : xMet G l yX1_enterDividend cX1_enterDividend 5 (some .int) 1 24 kp [.ref (xz G + 1), .int x1, .int x2, .int x3] I L (some (.int r)) rI L := by
  refine xMet.ofW (by decide +kernel) (Nat.le_of_ble_eq_true rfl) ?_
  intro p e s m args below meth c hC H locs ls hR hS hl
  replace hC : xC G p s m args meth c cX1_enterDividend 5 RX1 (some .int) := hC
  replace hl : lv_has ls 5 [(0, .ref (xz G + 1)), (1, .int x1), (2, .int x2), (3, .int x3)] := hl
  unfold F_X1_enterDividend at hf
  refine lv_aload_n hC.1 hC.2.1 dX1_enterDividend_0 rfl (lv_at hl 0 rfl) ?_
  refine x_get (v := .ref (xz G + 22)) hC xf_X1_45 (xce_1 G kp _ _) rfl hR dX1_enterDividend_1 ?_
  refine x_getI hC xf_X1_62 (xce_22 G kp _ _) rfl hR dX1_enterDividend_4 hf (fun v1 hf => ?_)
  refine lv_istore (lv' := [(4, .int v1), (0, .ref (xz G + 1)), (1, .int x1), (2, .int x2), (3, .int x3)]) hC.1 hC.2.1 dX1_enterDividend_7 hl (Nat.le_of_ble_eq_true rfl) rfl (fun ls hl => ?_)
  refine lv_aload_n hC.1 hC.2.1 dX1_enterDividend_9 rfl (lv_at hl 1 rfl) ?_
  refine x_get (v := .ref (xz G + 22)) hC xf_X1_45 (xce_1 G kp _ _) rfl hR dX1_enterDividend_10 ?_
  refine lv_dup hC.1 hC.2.1 dX1_enterDividend_13 rfl ?_
  refine x_getI hC xf_X1_62 (xce_22 G kp _ _) rfl hR dX1_enterDividend_14 hf (fun v2 hf => ?_)
  refine lv_iconst (v := 1) hC.1 hC.2.1 dX1_enterDividend_17 (by decide) ?_
  refine lv_iadd hC.1 hC.2.1 dX1_enterDividend_18 ?_
  refine x_putI hC xf_X1_62 xp_8_3 (fun f => (xce_22 G kp f _)) rfl (Nat.le_of_ble_eq_true rfl) hR hS dX1_enterDividend_19 hf (fun I3 hf H locs hR hS => ?_)
  refine W.eq (g2 := F0 m 22 ls []) rfl ?_
  refine lv_aload_n hC.1 hC.2.1 dX1_enterDividend_22 rfl (lv_at hl 1 rfl) ?_
  refine x_get (v := .ref (xz G + 22)) hC xf_X1_45 (xce_1 G kp _ _) rfl hR dX1_enterDividend_23 ?_
  refine lv_iload hC.1 hC.2.1 dX1_enterDividend_26 (lv_at hl 0 rfl) ?_
  refine lv_iconst (v := 0) hC.1 hC.2.1 dX1_enterDividend_28 (by decide) ?_
  refine lv_iload_n hC.1 hC.2.1 dX1_enterDividend_29 rfl (lv_at hl 2 rfl) ?_
  refine x_cvv10 (rest := []) hC xy_X8_put tw_647 hf (fun _ h => M_X8_put_22 G l kp h) ⟨Nat.le_of_ble_eq_true rfl, Nat.le_of_ble_eq_true rfl⟩ (xce_22 G kp _ _) rfl rfl rfl (Nat.le_of_ble_eq_true rfl) hl.1 hR hS dX1_enterDividend_30 ⟨Nat.le_refl _, Nat.le_refl _⟩ (fun I4 hf H locs hR hS => ?_)
  refine lv_aload_n hC.1 hC.2.1 dX1_enterDividend_33 rfl (lv_at hl 1 rfl) ?_
  refine x_get (v := .ref (xz G + 22)) hC xf_X1_45 (xce_1 G kp _ _) rfl hR dX1_enterDividend_34 ?_
  refine lv_iload hC.1 hC.2.1 dX1_enterDividend_37 (lv_at hl 0 rfl) ?_
  refine lv_iconst (v := 1) hC.1 hC.2.1 dX1_enterDividend_39 (by decide) ?_
  refine lv_iload_n hC.1 hC.2.1 dX1_enterDividend_40 rfl (lv_at hl 3 rfl) ?_
  refine x_cvv10 (rest := []) hC xy_X8_put tw_647 hf (fun _ h => M_X8_put_22 G l kp h) ⟨Nat.le_of_ble_eq_true rfl, Nat.le_of_ble_eq_true rfl⟩ (xce_22 G kp _ _) rfl rfl rfl (Nat.le_of_ble_eq_true rfl) hl.1 hR hS dX1_enterDividend_41 ⟨Nat.le_refl _, Nat.le_refl _⟩ (fun I5 hf H locs hR hS => ?_)
  refine W.eq (g2 := F0 m 44 ls []) rfl ?_
  refine lv_aload_n hC.1 hC.2.1 dX1_enterDividend_44 rfl (lv_at hl 1 rfl) ?_
  refine x_get (v := .ref (xz G + 22)) hC xf_X1_45 (xce_1 G kp _ _) rfl hR dX1_enterDividend_45 ?_
  refine lv_iload hC.1 hC.2.1 dX1_enterDividend_48 (lv_at hl 0 rfl) ?_
  refine lv_iconst (v := 2) hC.1 hC.2.1 dX1_enterDividend_50 (by decide) ?_
  refine lv_iload_n hC.1 hC.2.1 dX1_enterDividend_51 rfl (lv_at hl 4 rfl) ?_
  refine x_cvv10 (rest := []) hC xy_X8_put tw_647 hf (fun _ h => M_X8_put_22 G l kp h) ⟨Nat.le_of_ble_eq_true rfl, Nat.le_of_ble_eq_true rfl⟩ (xce_22 G kp _ _) rfl rfl rfl (Nat.le_of_ble_eq_true rfl) hl.1 hR hS dX1_enterDividend_52 ⟨Nat.le_refl _, Nat.le_refl _⟩ (fun I6 hf H locs hR hS => ?_)
  refine lv_aload_n hC.1 hC.2.1 dX1_enterDividend_55 rfl (lv_at hl 1 rfl) ?_
  refine x_get (v := .ref (xz G + 22)) hC xf_X1_45 (xce_1 G kp _ _) rfl hR dX1_enterDividend_56 ?_
  refine x_getI hC xf_X1_62 (xce_22 G kp _ _) rfl hR dX1_enterDividend_59 hf (fun v7 hf => ?_)
  obtain ⟨h91, h92⟩ := Prod.mk.inj (Option.some.inj hf)
  subst h91
  subst h92
  exact x_iret hC hR hS dX1_enterDividend_62
set_option maxRecDepth 20000 in
theorem W_X10_dividend_j43 {G : XG} {l : Launch} {kp : Bool} {p : Program} {e : Env} {s : State} {m : MethodId} {args : Array Value} {below : List Frame} {meth : Method} {c : Code} (hC : xC G p s m args meth c cX10_dividend 4 RX10 (some .int)) {I : xTI} {L : xTL} {r : Int32} {rI : xTI} (hf : F_X10_dividend_j43 I = some (r, rI)) : ∀ (H : Heap) (locs : List Loc) (ls : Array Slot), xRep G kp I L H → xS G s.heap H locs → lv_has ls 4 [(0, .ref (xz G + 0))] → W p l e (xrm 2 48) s m args below meth c H locs 0 0 (xMQ G kp below args s (some (.int r)) rI L) (F0 m 43 ls []) := by
  intro H locs ls hR hS hl
  unfold F_X10_dividend_j43 at hf
  refine lv_aload_n hC.1 hC.2.1 dX10_dividend_43 rfl (lv_at hl 0 rfl) ?_
  refine lv_bipush (v := (-7)) hC.1 hC.2.1 dX10_dividend_44 (by decide) ?_
  refine x_cvi10 (rest := []) hC xy_X10_refuse tw_411 hf (fun _ _ h => M_X10_refuse G l kp h) ⟨Nat.le_of_ble_eq_true rfl, Nat.le_of_ble_eq_true rfl⟩ (xce_0 G kp _ _) rfl rfl rfl (Nat.le_of_ble_eq_true rfl) hl.1 hR hS dX10_dividend_46 ⟨Nat.le_refl _, Nat.le_refl _⟩ (fun v1 I2 hf H locs hR hS => ?_)
  obtain ⟨h91, h92⟩ := Prod.mk.inj (Option.some.inj hf)
  subst h91
  subst h92
  exact x_iret hC hR hS dX10_dividend_49
set_option maxRecDepth 20000 in
theorem M_X10_dividend (G : XG) (l : Launch) (kp : Bool) {I : xTI} {L : xTL} {x1 : Int32} {x2 : Int32} {x3 : Int32} {r : Int32} {rI : xTI} (hf : F_X10_dividend I x1 x2 x3 = some (r, rI)) : xMet G l yX10_dividend cX10_dividend 4 (some .int) 2 48 kp [.ref (xz G + 0), .int x1, .int x2, .int x3] I L (some (.int r)) rI L := by
  refine xMet.ofW (by decide +kernel) (Nat.le_of_ble_eq_true rfl) ?_
  intro p e s m args below meth c hC H locs ls hR hS hl
  replace hC : xC G p s m args meth c cX10_dividend 4 RX10 (some .int) := hC
  replace hl : lv_has ls 4 [(0, .ref (xz G + 0)), (1, .int x1), (2, .int x2), (3, .int x3)] := hl
  unfold F_X10_dividend at hf
  refine lv_aload_n hC.1 hC.2.1 dX10_dividend_0 rfl (lv_at hl 0 rfl) ?_
  refine lv_iload_n hC.1 hC.2.1 dX10_dividend_1 rfl (lv_at hl 1 rfl) ?_
  refine x_cvi00 (rest := []) hC xy_X10_isStock tw_431 hf (fun _ h => M_X10_isStock G l kp h) ⟨Nat.le_of_ble_eq_true rfl, Nat.le_of_ble_eq_true rfl⟩ (xce_0 G kp _ _) rfl rfl rfl (Nat.le_of_ble_eq_true rfl) hl.1 hR hS dX10_dividend_2 ⟨Nat.le_refl _, Nat.le_refl _⟩ (fun v1 hf H locs hR hS => ?_)
  refine x_if_ne (tgt := 15) hC dX10_dividend_5 (by decide) hf (fun hf => ?_) (fun hf => ?_)
  · refine lv_iload_n hC.1 hC.2.1 dX10_dividend_15 rfl (lv_at hl 2 rfl) ?_
    refine lv_aload_n hC.1 hC.2.1 dX10_dividend_16 rfl (lv_at hl 0 rfl) ?_
    refine x_get (v := .ref (xz G + 1)) hC xf_X10_10 (xce_0 G kp _ _) rfl hR dX10_dividend_17 ?_
    refine x_getI hC xf_X10_164 (xce_1 G kp _ _) rfl hR dX10_dividend_20 hf (fun v2 hf => ?_)
    refine lv_sipush (v := 699) hC.1 hC.2.1 dX10_dividend_23 (by decide) ?_
    refine x_csi00 (rest := []) hC xy_X10_isWithin tw_408 hf (fun _ h => M_X10_isWithin G l kp h) ⟨Nat.le_of_ble_eq_true rfl, Nat.le_of_ble_eq_true rfl⟩ rfl rfl (Nat.le_of_ble_eq_true rfl) hl.1 hR hS dX10_dividend_26 ⟨Nat.le_refl _, Nat.le_refl _⟩ (fun v3 hf H locs hR hS => ?_)
    refine x_if_eq (tgt := 43) hC dX10_dividend_29 (by decide) hf (fun hf => ?_) (fun hf => ?_)
    · exact W_X10_dividend_j43 hC hf _ _ _ hR hS (lv_sub hl [0] rfl)
    · refine lv_iload_n hC.1 hC.2.1 dX10_dividend_32 rfl (lv_at hl 3 rfl) ?_
      refine lv_iconst (v := 1) hC.1 hC.2.1 dX10_dividend_33 (by decide) ?_
      refine lv_sipush (v := 999) hC.1 hC.2.1 dX10_dividend_34 (by decide) ?_
      refine x_csi00 (rest := []) hC xy_X10_isWithin tw_408 hf (fun _ h => M_X10_isWithin G l kp h) ⟨Nat.le_of_ble_eq_true rfl, Nat.le_of_ble_eq_true rfl⟩ rfl rfl (Nat.le_of_ble_eq_true rfl) hl.1 hR hS dX10_dividend_37 ⟨Nat.le_refl _, Nat.le_refl _⟩ (fun v4 hf H locs hR hS => ?_)
      refine x_if_ne (tgt := 50) hC dX10_dividend_40 (by decide) hf (fun hf => ?_) (fun hf => ?_)
      · refine lv_aload_n hC.1 hC.2.1 dX10_dividend_50 rfl (lv_at hl 0 rfl) ?_
        refine x_get (v := .ref (xz G + 1)) hC xf_X10_10 (xce_0 G kp _ _) rfl hR dX10_dividend_51 ?_
        refine x_get (v := .ref (xz G + 22)) hC xf_X10_238 (xce_1 G kp _ _) rfl hR dX10_dividend_54 ?_
        refine x_cvi00 (rest := []) hC xy_X8_hasRoom tw_639 hf (fun _ h => M_X8_hasRoom_22 G l kp h) ⟨Nat.le_of_ble_eq_true rfl, Nat.le_of_ble_eq_true rfl⟩ (xce_22 G kp _ _) rfl rfl rfl (Nat.le_of_ble_eq_true rfl) hl.1 hR hS dX10_dividend_57 ⟨Nat.le_refl _, Nat.le_refl _⟩ (fun v5 hf H locs hR hS => ?_)
        refine x_if_ne (tgt := 70) hC dX10_dividend_60 (by decide) hf (fun hf => ?_) (fun hf => ?_)
        · refine lv_aload_n hC.1 hC.2.1 dX10_dividend_70 rfl (lv_at hl 0 rfl) ?_
          refine x_get (v := .ref (xz G + 1)) hC xf_X10_10 (xce_0 G kp _ _) rfl hR dX10_dividend_71 ?_
          refine lv_iload_n hC.1 hC.2.1 dX10_dividend_74 rfl (lv_at hl 1 rfl) ?_
          refine lv_iload_n hC.1 hC.2.1 dX10_dividend_75 rfl (lv_at hl 2 rfl) ?_
          refine lv_iload_n hC.1 hC.2.1 dX10_dividend_76 rfl (lv_at hl 3 rfl) ?_
          refine x_cvi10 (rest := []) hC xy_X1_enterDividend tw_680 hf (fun _ _ h => M_X1_enterDividend G l kp h) ⟨Nat.le_of_ble_eq_true rfl, Nat.le_of_ble_eq_true rfl⟩ (xce_1 G kp _ _) rfl rfl rfl (Nat.le_of_ble_eq_true rfl) hl.1 hR hS dX10_dividend_77 ⟨Nat.le_refl _, Nat.le_refl _⟩ (fun v6 I7 hf H locs hR hS => ?_)
          obtain ⟨h91, h92⟩ := Prod.mk.inj (Option.some.inj hf)
          subst h91
          subst h92
          exact x_iret hC hR hS dX10_dividend_80
        · refine lv_aload_n hC.1 hC.2.1 dX10_dividend_63 rfl (lv_at hl 0 rfl) ?_
          refine lv_bipush (v := (-8)) hC.1 hC.2.1 dX10_dividend_64 (by decide) ?_
          refine x_cvi10 (rest := []) hC xy_X10_refuse tw_411 hf (fun _ _ h => M_X10_refuse G l kp h) ⟨Nat.le_of_ble_eq_true rfl, Nat.le_of_ble_eq_true rfl⟩ (xce_0 G kp _ _) rfl rfl rfl (Nat.le_of_ble_eq_true rfl) hl.1 hR hS dX10_dividend_66 ⟨Nat.le_refl _, Nat.le_refl _⟩ (fun v8 I9 hf H locs hR hS => ?_)
          obtain ⟨h91, h92⟩ := Prod.mk.inj (Option.some.inj hf)
          subst h91
          subst h92
          exact x_iret hC hR hS dX10_dividend_69
      · exact W_X10_dividend_j43 hC hf _ _ _ hR hS (lv_sub hl [0] rfl)
  · refine lv_aload_n hC.1 hC.2.1 dX10_dividend_8 rfl (lv_at hl 0 rfl) ?_
    refine lv_bipush (v := (-3)) hC.1 hC.2.1 dX10_dividend_9 (by decide) ?_
    refine x_cvi10 (rest := []) hC xy_X10_refuse tw_411 hf (fun _ _ h => M_X10_refuse G l kp h) ⟨Nat.le_of_ble_eq_true rfl, Nat.le_of_ble_eq_true rfl⟩ (xce_0 G kp _ _) rfl rfl rfl (Nat.le_of_ble_eq_true rfl) hl.1 hR hS dX10_dividend_11 ⟨Nat.le_refl _, Nat.le_refl _⟩ (fun v10 I11 hf H locs hR hS => ?_)
    obtain ⟨h91, h92⟩ := Prod.mk.inj (Option.some.inj hf)
    subst h91
    subst h92
    exact x_iret hC hR hS dX10_dividend_14
set_option maxRecDepth 20000 in
theorem W_X9_append_l4 {G : XG} {l : Launch} {kp : Bool} {p : Program} {e : Env} {s : State} {m : MethodId} {args : Array Value} {below : List Frame} {meth : Method} {c : Code} (hC : xC G p s m args meth c cX9_append 4 RX9 none) (N : Nat) {L : xTL} {rI : xTI} {x1 : Int32} : ∀ (n : Nat) (x3 : Int32) (I : xTI) , xlp (F_X9_append_b4 N x1 ) n (x3, I) = some rI → ∀ (H : Heap) (locs : List Loc) (ls : Array Slot), xRep G kp I L H → xS G s.heap H locs → lv_has ls 4 [(0, .ref (xz G + 29)), (1, .int x1), (3, .int x3)] → W p l e (xrm 0 0) s m args below meth c H locs 0 0 (xMQ G kp below args s none rI L) (F0 m 4 ls []) := by
  intro n
  induction n with
  | zero =>
    intro x3 I hf
    cases hf
  | succ n hk4 =>
    intro x3 I hf H locs ls hR hS hl
    rw [xlp_s, E_X9_append_b4] at hf
    unfold F_X9_append_c4 at hf
    refine lv_iload_n hC.1 hC.2.1 dX9_append_4 rfl (lv_at hl 2 rfl) ?_
    refine x_if_lt (tgt := 52) hC dX9_append_5 (by decide) hf (fun hf => ?_) (fun hf => ?_)
    · have h9 := Option.some.inj hf
      subst h9
      exact x_vret hC hR hS dX9_append_52
    · refine lv_aload_n hC.1 hC.2.1 dX9_append_8 rfl (lv_at hl 0 rfl) ?_
      refine x_getI hC xf_X9_18 (xce_29 G kp _ _) rfl hR dX9_append_9 hf (fun v1 hf => ?_)
      refine lv_bipush (v := 120) hC.1 hC.2.1 dX9_append_12 (by decide) ?_
      refine x_ic_ge (tgt := 52) hC dX9_append_14 (by decide) hf (fun hf => ?_) (fun hf => ?_)
      · have h9 := Option.some.inj hf
        subst h9
        exact x_vret hC hR hS dX9_append_52
      · refine lv_aload_n hC.1 hC.2.1 dX9_append_17 rfl (lv_at hl 0 rfl) ?_
        refine x_get (v := .ref (xz G + 30)) hC xf_X9_9 (xce_29 G kp _ _) rfl hR dX9_append_18 ?_
        refine lv_aload_n hC.1 hC.2.1 dX9_append_21 rfl (lv_at hl 0 rfl) ?_
        refine x_getI hC xf_X9_18 (xce_29 G kp _ _) rfl hR dX9_append_22 hf (fun v2 hf => ?_)
        refine lv_iload_n hC.1 hC.2.1 dX9_append_25 rfl (lv_at hl 1 rfl) ?_
        refine lv_bipush (v := 8) hC.1 hC.2.1 dX9_append_26 (by decide) ?_
        refine lv_iload_n hC.1 hC.2.1 dX9_append_28 rfl (lv_at hl 2 rfl) ?_
        refine lv_imul hC.1 hC.2.1 dX9_append_29 ?_
        refine lv_iushr hC.1 hC.2.1 dX9_append_30 rfl ?_
        refine lv_sipush (v := 255) hC.1 hC.2.1 dX9_append_31 (by decide) ?_
        refine lv_iand hC.1 hC.2.1 dX9_append_34 ?_
        refine W.eq (g2 := F0 m 35 ls [.int (((x1.toUInt32 >>> ((8 * x3).toUInt32 &&& Int32.toUInt32 31)).toInt32) &&& 255), .int v2, .ref (xz G + 30)]) rfl ?_
        refine x_ias hC (fun f => (xce_30 G kp f _)) hR hS dX9_append_35 hf (fun I3 hf H locs hR hS => ?_)
        refine lv_aload_n hC.1 hC.2.1 dX9_append_36 rfl (lv_at hl 0 rfl) ?_
        refine lv_dup hC.1 hC.2.1 dX9_append_37 rfl ?_
        refine x_getI hC xf_X9_18 (xce_29 G kp _ _) rfl hR dX9_append_38 hf (fun v4 hf => ?_)
        refine lv_iconst (v := 1) hC.1 hC.2.1 dX9_append_41 (by decide) ?_
        refine lv_iadd hC.1 hC.2.1 dX9_append_42 ?_
        refine x_putI hC xf_X9_18 xp_9_0 (fun f => (xce_29 G kp f _)) rfl (Nat.le_of_ble_eq_true rfl) hR hS dX9_append_43 hf (fun I5 hf H locs hR hS => ?_)
        refine x_iinc (d := (-1)) (lv' := fun y6 => [(3, .int y6), (0, .ref (xz G + 29)), (1, .int x1)]) (k := 2) hC hl dX9_append_46 rfl (by decide) (Nat.le_of_ble_eq_true rfl) hf (fun _ => rfl) (fun y6 hf ls hl => ?_)
        refine lv_goto (tgt := 4) hC.1 hC.2.1 dX9_append_49 (by decide) ?_
        exact hk4 y6 I5 hf _ _ _ hR hS (lv_sub hl [1, 2, 0] rfl)
set_option maxRecDepth 20000 in
theorem M_X9_append (G : XG) (l : Launch) (kp : Bool) (N : Nat) {I : xTI} {L : xTL} {x1 : Int32} {x2 : Int32} {rI : xTI} (hf : F_X9_append N I x1 x2 = some rI) : xMet G l yX9_append cX9_append 4 none 0 0 kp [.ref (xz G + 29), .int x1, .int x2] I L none rI L := by
  refine xMet.ofW (by decide +kernel) (Nat.le_of_ble_eq_true rfl) ?_
  intro p e s m args below meth c hC H locs ls hR hS hl
  replace hC : xC G p s m args meth c cX9_append 4 RX9 none := hC
  replace hl : lv_has ls 4 [(0, .ref (xz G + 29)), (1, .int x1), (2, .int x2)] := hl
  unfold F_X9_append at hf
  refine lv_iload_n hC.1 hC.2.1 dX9_append_0 rfl (lv_at hl 2 rfl) ?_
  refine lv_iconst (v := 1) hC.1 hC.2.1 dX9_append_1 (by decide) ?_
  refine lv_isub hC.1 hC.2.1 dX9_append_2 ?_
  refine x_istn (lv' := fun y1 => [(3, .int y1), (0, .ref (xz G + 29)), (1, .int x1), (2, .int x2)]) hC hl dX9_append_3 rfl (Nat.le_of_ble_eq_true rfl) hf (fun _ => rfl) (fun y1 hf ls hl => ?_)
  exact W_X9_append_l4 hC N _ y1 I hf _ _ _ hR hS (lv_sub hl [1, 2, 0] rfl)
set_option maxRecDepth 20000 in
theorem M_X10_feed (G : XG) (l : Launch) (kp : Bool) (N : Nat) {I : xTI} {L : xTL} {x1 : Int32} {x2 : Int32} {r : Int32} {rI : xTI} (hf : F_X10_feed N I x1 x2 = some (r, rI)) : xMet G l yX10_feed cX10_feed 3 (some .int) 1 23 kp [.ref (xz G + 0), .int x1, .int x2] I L (some (.int r)) rI L := by
  refine xMet.ofW (by decide +kernel) (Nat.le_of_ble_eq_true rfl) ?_
  intro p e s m args below meth c hC H locs ls hR hS hl
  replace hC : xC G p s m args meth c cX10_feed 3 RX10 (some .int) := hC
  replace hl : lv_has ls 3 [(0, .ref (xz G + 0)), (1, .int x1), (2, .int x2)] := hl
  unfold F_X10_feed at hf
  refine lv_iload_n hC.1 hC.2.1 dX10_feed_0 rfl (lv_at hl 2 rfl) ?_
  refine x_if_ge (tgt := 11) hC dX10_feed_1 (by decide) hf (fun hf => ?_) (fun hf => ?_)
  · refine lv_iload_n hC.1 hC.2.1 dX10_feed_11 rfl (lv_at hl 2 rfl) ?_
    refine lv_iconst (v := 4) hC.1 hC.2.1 dX10_feed_12 (by decide) ?_
    refine x_ic_le (tgt := 23) hC dX10_feed_13 (by decide) hf (fun hf => ?_) (fun hf => ?_)
    · refine lv_aload_n hC.1 hC.2.1 dX10_feed_23 rfl (lv_at hl 0 rfl) ?_
      refine x_get (v := .ref (xz G + 29)) hC xf_X10_22 (xce_0 G kp _ _) rfl hR dX10_feed_24 ?_
      refine x_getI hC xf_X10_244 (xce_29 G kp _ _) rfl hR dX10_feed_27 hf (fun v1 hf => ?_)
      refine lv_iload_n hC.1 hC.2.1 dX10_feed_30 rfl (lv_at hl 2 rfl) ?_
      refine lv_iadd hC.1 hC.2.1 dX10_feed_31 ?_
      refine lv_bipush (v := 120) hC.1 hC.2.1 dX10_feed_32 (by decide) ?_
      refine x_ic_le (tgt := 44) hC dX10_feed_34 (by decide) hf (fun hf => ?_) (fun hf => ?_)
      · refine lv_aload_n hC.1 hC.2.1 dX10_feed_44 rfl (lv_at hl 0 rfl) ?_
        refine x_get (v := .ref (xz G + 29)) hC xf_X10_22 (xce_0 G kp _ _) rfl hR dX10_feed_45 ?_
        refine lv_iload_n hC.1 hC.2.1 dX10_feed_48 rfl (lv_at hl 1 rfl) ?_
        refine lv_iload_n hC.1 hC.2.1 dX10_feed_49 rfl (lv_at hl 2 rfl) ?_
        refine x_cvv10 (rest := []) hC xy_X9_append tw_688 hf (fun _ h => M_X9_append G l kp N h) ⟨Nat.le_of_ble_eq_true rfl, Nat.le_of_ble_eq_true rfl⟩ (xce_29 G kp _ _) rfl rfl rfl (Nat.le_of_ble_eq_true rfl) hl.1 hR hS dX10_feed_50 ⟨Nat.le_refl _, Nat.le_refl _⟩ (fun I2 hf H locs hR hS => ?_)
        refine lv_aload_n hC.1 hC.2.1 dX10_feed_53 rfl (lv_at hl 0 rfl) ?_
        refine x_get (v := .ref (xz G + 29)) hC xf_X10_22 (xce_0 G kp _ _) rfl hR dX10_feed_54 ?_
        refine x_getI hC xf_X10_244 (xce_29 G kp _ _) rfl hR dX10_feed_57 hf (fun v3 hf => ?_)
        obtain ⟨h91, h92⟩ := Prod.mk.inj (Option.some.inj hf)
        subst h91
        subst h92
        exact x_iret hC hR hS dX10_feed_60
      · refine lv_aload_n hC.1 hC.2.1 dX10_feed_37 rfl (lv_at hl 0 rfl) ?_
        refine lv_bipush (v := (-8)) hC.1 hC.2.1 dX10_feed_38 (by decide) ?_
        refine x_cvi10 (rest := []) hC xy_X10_refuse tw_411 hf (fun _ _ h => M_X10_refuse G l kp h) ⟨Nat.le_of_ble_eq_true rfl, Nat.le_of_ble_eq_true rfl⟩ (xce_0 G kp _ _) rfl rfl rfl (Nat.le_of_ble_eq_true rfl) hl.1 hR hS dX10_feed_40 ⟨Nat.le_refl _, Nat.le_refl _⟩ (fun v4 I5 hf H locs hR hS => ?_)
        obtain ⟨h91, h92⟩ := Prod.mk.inj (Option.some.inj hf)
        subst h91
        subst h92
        exact x_iret hC hR hS dX10_feed_43
    · refine lv_aload_n hC.1 hC.2.1 dX10_feed_16 rfl (lv_at hl 0 rfl) ?_
      refine lv_bipush (v := (-7)) hC.1 hC.2.1 dX10_feed_17 (by decide) ?_
      refine x_cvi10 (rest := []) hC xy_X10_refuse tw_411 hf (fun _ _ h => M_X10_refuse G l kp h) ⟨Nat.le_of_ble_eq_true rfl, Nat.le_of_ble_eq_true rfl⟩ (xce_0 G kp _ _) rfl rfl rfl (Nat.le_of_ble_eq_true rfl) hl.1 hR hS dX10_feed_19 ⟨Nat.le_refl _, Nat.le_refl _⟩ (fun v6 I7 hf H locs hR hS => ?_)
      obtain ⟨h91, h92⟩ := Prod.mk.inj (Option.some.inj hf)
      subst h91
      subst h92
      exact x_iret hC hR hS dX10_feed_22
  · refine lv_aload_n hC.1 hC.2.1 dX10_feed_4 rfl (lv_at hl 0 rfl) ?_
    refine lv_bipush (v := (-4)) hC.1 hC.2.1 dX10_feed_5 (by decide) ?_
    refine x_cvi10 (rest := []) hC xy_X10_refuse tw_411 hf (fun _ _ h => M_X10_refuse G l kp h) ⟨Nat.le_of_ble_eq_true rfl, Nat.le_of_ble_eq_true rfl⟩ (xce_0 G kp _ _) rfl rfl rfl (Nat.le_of_ble_eq_true rfl) hl.1 hR hS dX10_feed_7 ⟨Nat.le_refl _, Nat.le_refl _⟩ (fun v8 I9 hf H locs hR hS => ?_)
    obtain ⟨h91, h92⟩ := Prod.mk.inj (Option.some.inj hf)
    subst h91
    subst h92
    exact x_iret hC hR hS dX10_feed_10
set_option maxRecDepth 20000 in
theorem M_X10_wipe (G : XG) (l : Launch) (kp : Bool) {I : xTI} {L : xTL} {r : Int32} {rI : xTI} (hf : F_X10_wipe I = some (r, rI)) : xMet G l yX10_wipe cX10_wipe 2 (some .int) 0 0 kp [.ref (xz G + 0)] I L (some (.int r)) rI L := by
  refine xMet.ofW (by decide +kernel) (Nat.le_of_ble_eq_true rfl) ?_
  intro p e s m args below meth c hC H locs ls hR hS hl
  replace hC : xC G p s m args meth c cX10_wipe 2 RX10 (some .int) := hC
  replace hl : lv_has ls 2 [(0, .ref (xz G + 0))] := hl
  unfold F_X10_wipe at hf
  refine lv_aload_n hC.1 hC.2.1 dX10_wipe_0 rfl (lv_at hl 0 rfl) ?_
  refine x_get (v := .ref (xz G + 29)) hC xf_X10_22 (xce_0 G kp _ _) rfl hR dX10_wipe_1 ?_
  refine x_getI hC xf_X10_244 (xce_29 G kp _ _) rfl hR dX10_wipe_4 hf (fun v1 hf => ?_)
  refine lv_istore_n (lv' := [(1, .int v1), (0, .ref (xz G + 0))]) hC.1 hC.2.1 dX10_wipe_7 rfl hl (Nat.le_of_ble_eq_true rfl) rfl (fun ls hl => ?_)
  refine lv_aload_n hC.1 hC.2.1 dX10_wipe_8 rfl (lv_at hl 1 rfl) ?_
  refine x_get (v := .ref (xz G + 29)) hC xf_X10_22 (xce_0 G kp _ _) rfl hR dX10_wipe_9 ?_
  refine lv_iconst (v := 0) hC.1 hC.2.1 dX10_wipe_12 (by decide) ?_
  refine x_putI hC xf_X10_244 xp_9_0 (fun f => (xce_29 G kp f _)) rfl (Nat.le_of_ble_eq_true rfl) hR hS dX10_wipe_13 hf (fun I2 hf H locs hR hS => ?_)
  refine lv_iload_n hC.1 hC.2.1 dX10_wipe_16 rfl (lv_at hl 0 rfl) ?_
  obtain ⟨h91, h92⟩ := Prod.mk.inj (Option.some.inj hf)
  subst h91
  subst h92
  exact x_iret hC hR hS dX10_wipe_17
set_option maxRecDepth 20000 in
theorem M_X8_hasRoom_15 (G : XG) (l : Launch) (kp : Bool) {I : xTI} {L : xTL} {r : Int32} (hf : F_X8_hasRoom_15 I = some r) : xMet G l yX8_hasRoom cX8_hasRoom 1 (some .boolean) 0 0 kp [.ref (xz G + 15)] I L (some (.int r)) I L := by
  refine xMet.ofW (by decide +kernel) (Nat.le_of_ble_eq_true rfl) ?_
  intro p e s m args below meth c hC H locs ls hR hS hl
  replace hC : xC G p s m args meth c cX8_hasRoom 1 RX8 (some .boolean) := hC
  replace hl : lv_has ls 1 [(0, .ref (xz G + 15))] := hl
  unfold F_X8_hasRoom_15 at hf
  refine lv_aload_n hC.1 hC.2.1 dX8_hasRoom_0 rfl (lv_at hl 0 rfl) ?_
  refine x_getI hC xf_X8_20 (xce_15 G kp _ _) rfl hR dX8_hasRoom_1 hf (fun v1 hf => ?_)
  refine lv_aload_n hC.1 hC.2.1 dX8_hasRoom_4 rfl (lv_at hl 0 rfl) ?_
  refine x_get (v := .int 12) hC xf_X8_7 (xce_15 G kp _ _) rfl hR dX8_hasRoom_5 ?_
  refine x_ic_ge (tgt := 15) hC dX8_hasRoom_8 (by decide) hf (fun hf => ?_) (fun hf => ?_)
  · refine lv_iconst (v := 0) hC.1 hC.2.1 dX8_hasRoom_15 (by decide) ?_
    obtain ⟨h01, hf⟩ := xzc_some hf
    have h9 := Option.some.inj hf
    subst h9
    exact x_zret h01 hC hR hS dX8_hasRoom_16
  · refine lv_iconst (v := 1) hC.1 hC.2.1 dX8_hasRoom_11 (by decide) ?_
    refine lv_goto (tgt := 16) hC.1 hC.2.1 dX8_hasRoom_12 (by decide) ?_
    obtain ⟨h01, hf⟩ := xzc_some hf
    have h9 := Option.some.inj hf
    subst h9
    exact x_zret h01 hC hR hS dX8_hasRoom_16
set_option maxRecDepth 20000 in
theorem M_X9_byteAt (G : XG) (l : Launch) (kp : Bool) {I : xTI} {L : xTL} {x1 : Int32} {r : Int32} (hf : F_X9_byteAt I x1 = some r) : xMet G l yX9_byteAt cX9_byteAt 2 (some .int) 0 0 kp [.ref (xz G + 29), .int x1] I L (some (.int r)) I L := by
  refine xMet.ofW (by decide +kernel) (Nat.le_of_ble_eq_true rfl) ?_
  intro p e s m args below meth c hC H locs ls hR hS hl
  replace hC : xC G p s m args meth c cX9_byteAt 2 RX9 (some .int) := hC
  replace hl : lv_has ls 2 [(0, .ref (xz G + 29)), (1, .int x1)] := hl
  unfold F_X9_byteAt at hf
  refine lv_iload_n hC.1 hC.2.1 dX9_byteAt_0 rfl (lv_at hl 1 rfl) ?_
  refine x_if_lt (tgt := 27) hC dX9_byteAt_1 (by decide) hf (fun hf => ?_) (fun hf => ?_)
  · refine lv_iconst (v := 0) hC.1 hC.2.1 dX9_byteAt_27 (by decide) ?_
    have h9 := Option.some.inj hf
    subst h9
    exact x_iret hC hR hS dX9_byteAt_28
  · refine lv_iload_n hC.1 hC.2.1 dX9_byteAt_4 rfl (lv_at hl 1 rfl) ?_
    refine lv_aload_n hC.1 hC.2.1 dX9_byteAt_5 rfl (lv_at hl 0 rfl) ?_
    refine x_getI hC xf_X9_18 (xce_29 G kp _ _) rfl hR dX9_byteAt_6 hf (fun v1 hf => ?_)
    refine x_ic_ge (tgt := 27) hC dX9_byteAt_9 (by decide) hf (fun hf => ?_) (fun hf => ?_)
    · refine lv_iconst (v := 0) hC.1 hC.2.1 dX9_byteAt_27 (by decide) ?_
      have h9 := Option.some.inj hf
      subst h9
      exact x_iret hC hR hS dX9_byteAt_28
    · refine lv_iload_n hC.1 hC.2.1 dX9_byteAt_12 rfl (lv_at hl 1 rfl) ?_
      refine lv_bipush (v := 120) hC.1 hC.2.1 dX9_byteAt_13 (by decide) ?_
      refine x_ic_ge (tgt := 27) hC dX9_byteAt_15 (by decide) hf (fun hf => ?_) (fun hf => ?_)
      · refine lv_iconst (v := 0) hC.1 hC.2.1 dX9_byteAt_27 (by decide) ?_
        have h9 := Option.some.inj hf
        subst h9
        exact x_iret hC hR hS dX9_byteAt_28
      · refine lv_aload_n hC.1 hC.2.1 dX9_byteAt_18 rfl (lv_at hl 0 rfl) ?_
        refine x_get (v := .ref (xz G + 30)) hC xf_X9_9 (xce_29 G kp _ _) rfl hR dX9_byteAt_19 ?_
        refine lv_iload_n hC.1 hC.2.1 dX9_byteAt_22 rfl (lv_at hl 1 rfl) ?_
        refine x_ial hC (xce_30 G kp _ _) hR dX9_byteAt_23 hf (fun v2 hf => ?_)
        refine lv_goto (tgt := 28) hC.1 hC.2.1 dX9_byteAt_24 (by decide) ?_
        have h9 := Option.some.inj hf
        subst h9
        exact x_iret hC hR hS dX9_byteAt_28
set_option maxRecDepth 20000 in
theorem W_X9_skipLetters_l2 {G : XG} {l : Launch} {kp : Bool} {p : Program} {e : Env} {s : State} {m : MethodId} {args : Array Value} {below : List Frame} {meth : Method} {c : Code} (hC : xC G p s m args meth c cX9_skipLetters 2 RX9 none) (N : Nat) {L : xTL} {rI : xTI} : ∀ (n : Nat) (x1 : Int32) (I : xTI) , xlp (F_X9_skipLetters_b2 N ) n (x1, I) = some rI → ∀ (H : Heap) (locs : List Loc) (ls : Array Slot), xRep G kp I L H → xS G s.heap H locs → lv_has ls 2 [(0, .ref (xz G + 29)), (1, .int x1)] → W p l e (xrm 1 21) s m args below meth c H locs 0 0 (xMQ G kp below args s none rI L) (F0 m 2 ls []) := by
  intro n
  induction n with
  | zero =>
    intro x1 I hf
    cases hf
  | succ n hk2 =>
    intro x1 I hf H locs ls hR hS hl
    rw [xlp_s, E_X9_skipLetters_b2] at hf
    unfold F_X9_skipLetters_c2 at hf
    refine lv_iload_n hC.1 hC.2.1 dX9_skipLetters_2 rfl (lv_at hl 1 rfl) ?_
    refine lv_bipush (v := 120) hC.1 hC.2.1 dX9_skipLetters_3 (by decide) ?_
    refine x_ic_ge (tgt := 50) hC dX9_skipLetters_5 (by decide) hf (fun hf => ?_) (fun hf => ?_)
    · have h9 := Option.some.inj hf
      subst h9
      exact x_vret hC hR hS dX9_skipLetters_50
    · refine lv_aload_n hC.1 hC.2.1 dX9_skipLetters_8 rfl (lv_at hl 0 rfl) ?_
      refine lv_aload_n hC.1 hC.2.1 dX9_skipLetters_9 rfl (lv_at hl 0 rfl) ?_
      refine x_getI hC xf_X9_22 (xce_29 G kp _ _) rfl hR dX9_skipLetters_10 hf (fun v1 hf => ?_)
      refine x_cvi00 (rest := []) hC xy_X9_byteAt tw_708 hf (fun _ h => M_X9_byteAt G l kp h) ⟨Nat.le_of_ble_eq_true rfl, Nat.le_of_ble_eq_true rfl⟩ (xce_29 G kp _ _) rfl rfl rfl (Nat.le_of_ble_eq_true rfl) hl.1 hR hS dX9_skipLetters_13 ⟨Nat.le_refl _, Nat.le_refl _⟩ (fun v2 hf H locs hR hS => ?_)
      refine lv_bipush (v := 97) hC.1 hC.2.1 dX9_skipLetters_16 (by decide) ?_
      refine x_ic_lt (tgt := 50) hC dX9_skipLetters_18 (by decide) hf (fun hf => ?_) (fun hf => ?_)
      · have h9 := Option.some.inj hf
        subst h9
        exact x_vret hC hR hS dX9_skipLetters_50
      · refine lv_aload_n hC.1 hC.2.1 dX9_skipLetters_21 rfl (lv_at hl 0 rfl) ?_
        refine lv_aload_n hC.1 hC.2.1 dX9_skipLetters_22 rfl (lv_at hl 0 rfl) ?_
        refine x_getI hC xf_X9_22 (xce_29 G kp _ _) rfl hR dX9_skipLetters_23 hf (fun v3 hf => ?_)
        refine x_cvi00 (rest := []) hC xy_X9_byteAt tw_708 hf (fun _ h => M_X9_byteAt G l kp h) ⟨Nat.le_of_ble_eq_true rfl, Nat.le_of_ble_eq_true rfl⟩ (xce_29 G kp _ _) rfl rfl rfl (Nat.le_of_ble_eq_true rfl) hl.1 hR hS dX9_skipLetters_26 ⟨Nat.le_refl _, Nat.le_refl _⟩ (fun v4 hf H locs hR hS => ?_)
        refine lv_bipush (v := 122) hC.1 hC.2.1 dX9_skipLetters_29 (by decide) ?_
        refine x_ic_gt (tgt := 50) hC dX9_skipLetters_31 (by decide) hf (fun hf => ?_) (fun hf => ?_)
        · have h9 := Option.some.inj hf
          subst h9
          exact x_vret hC hR hS dX9_skipLetters_50
        · refine lv_aload_n hC.1 hC.2.1 dX9_skipLetters_34 rfl (lv_at hl 0 rfl) ?_
          refine lv_dup hC.1 hC.2.1 dX9_skipLetters_35 rfl ?_
          refine x_getI hC xf_X9_22 (xce_29 G kp _ _) rfl hR dX9_skipLetters_36 hf (fun v5 hf => ?_)
          refine lv_iconst (v := 1) hC.1 hC.2.1 dX9_skipLetters_39 (by decide) ?_
          refine lv_iadd hC.1 hC.2.1 dX9_skipLetters_40 ?_
          refine x_putI hC xf_X9_22 xp_9_3 (fun f => (xce_29 G kp f _)) rfl (Nat.le_of_ble_eq_true rfl) hR hS dX9_skipLetters_41 hf (fun I6 hf H locs hR hS => ?_)
          refine x_iinc (d := 1) (lv' := fun y7 => [(1, .int y7), (0, .ref (xz G + 29))]) (k := 1) hC hl dX9_skipLetters_44 rfl (by decide) (Nat.le_of_ble_eq_true rfl) hf (fun _ => rfl) (fun y7 hf ls hl => ?_)
          refine lv_goto (tgt := 2) hC.1 hC.2.1 dX9_skipLetters_47 (by decide) ?_
          exact hk2 y7 I6 hf _ _ _ hR hS (lv_sub hl [1, 0] rfl)
set_option maxRecDepth 20000 in
theorem M_X9_skipLetters (G : XG) (l : Launch) (kp : Bool) (N : Nat) {I : xTI} {L : xTL} {rI : xTI} (hf : F_X9_skipLetters N I = some rI) : xMet G l yX9_skipLetters cX9_skipLetters 2 none 1 21 kp [.ref (xz G + 29)] I L none rI L := by
  refine xMet.ofW (by decide +kernel) (Nat.le_of_ble_eq_true rfl) ?_
  intro p e s m args below meth c hC H locs ls hR hS hl
  replace hC : xC G p s m args meth c cX9_skipLetters 2 RX9 none := hC
  replace hl : lv_has ls 2 [(0, .ref (xz G + 29))] := hl
  unfold F_X9_skipLetters at hf
  refine lv_iconst (v := 0) hC.1 hC.2.1 dX9_skipLetters_0 (by decide) ?_
  refine lv_istore_n (lv' := [(1, .int 0), (0, .ref (xz G + 29))]) hC.1 hC.2.1 dX9_skipLetters_1 rfl hl (Nat.le_of_ble_eq_true rfl) rfl (fun ls hl => ?_)
  exact W_X9_skipLetters_l2 hC N _ 0 I hf _ _ _ hR hS (lv_sub hl [1, 0] rfl)
