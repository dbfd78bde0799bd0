set_option maxRecDepth 20000 in
theorem W_X0_makeStand_j50 {G : XG} {l : Launch} {kp : Bool} {p : Program} {e : Env} {s : State} {m : MethodId} {args : Array Value} {below : List Frame} {meth : Method} {c : Code} (hC : xC G p s m args meth c cX0_makeStand 3 RX0 none) {I : xTI} {L : xTL} {rI : xTI} {x1 : Int32} (hf : F_X0_makeStand_j50 I x1 = some rI) : ∀ (H : Heap) (locs : List Loc) (ls : Array Slot), xRep G kp I L H → xS G s.heap H locs → lv_has ls 3 [(0, .ref (xz G + 11)), (1, .int x1)] → W p l e (xrm 1 24) s m args below meth c H locs 0 0 (xMQ G kp below args s none rI L) (F0 m 50 ls []) := by
  intro H locs ls hR hS hl
  unfold F_X0_makeStand_j50 at hf
  refine lv_aload_n hC.1 hC.2.1 dX0_makeStand_50 rfl (lv_at hl 0 rfl) ?_
  refine x_get (v := .ref (xz G + 12)) hC xf_X0_16 (xce_11 G kp _ _) rfl hR dX0_makeStand_51 ?_
  refine lv_iload_n hC.1 hC.2.1 dX0_makeStand_54 rfl (lv_at hl 1 rfl) ?_
  refine lv_bipush (v := 7) hC.1 hC.2.1 dX0_makeStand_55 (by decide) ?_
  refine lv_iconst (v := 1) hC.1 hC.2.1 dX0_makeStand_57 (by decide) ?_
  refine x_cvv10 (rest := []) hC xy_X8_put tw_120 hf (fun _ h => M_X8_put_12 G l kp h) ⟨Nat.le_of_ble_eq_true rfl, Nat.le_of_ble_eq_true rfl⟩ (xce_12 G kp _ _) rfl rfl rfl (Nat.le_of_ble_eq_true rfl) hl.1 hR hS dX0_makeStand_58 ⟨Nat.le_refl _, Nat.le_refl _⟩ (fun I1 hf H locs hR hS => ?_)
  cases hf
  exact x_vret hC hR hS dX0_makeStand_61
set_option maxRecDepth 20000 in
theorem W_X0_makeStand_j25 {G : XG} {l : Launch} {kp : Bool} {p : Program} {e : Env} {s : State} {m : MethodId} {args : Array Value} {below : List Frame} {meth : Method} {c : Code} (hC : xC G p s m args meth c cX0_makeStand 3 RX0 none) {I : xTI} {L : xTL} {rI : xTI} {x1 : Int32} {x2 : Int32} (hf : F_X0_makeStand_j25 I x1 x2 = some rI) : ∀ (H : Heap) (locs : List Loc) (ls : Array Slot), xRep G kp I L H → xS G s.heap H locs → lv_has ls 3 [(0, .ref (xz G + 11)), (1, .int x1), (2, .int x2)] → W p l e (xrm 1 24) s m args below meth c H locs 0 0 (xMQ G kp below args s none rI L) (F0 m 25 ls []) := by
  intro H locs ls hR hS hl
  unfold F_X0_makeStand_j25 at hf
  refine lv_aload_n hC.1 hC.2.1 dX0_makeStand_25 rfl (lv_at hl 0 rfl) ?_
  refine x_get (v := .ref (xz G + 12)) hC xf_X0_16 (xce_11 G kp _ _) rfl hR dX0_makeStand_26 ?_
  refine lv_iload_n hC.1 hC.2.1 dX0_makeStand_29 rfl (lv_at hl 1 rfl) ?_
  refine lv_bipush (v := 9) hC.1 hC.2.1 dX0_makeStand_30 (by decide) ?_
  refine x_cvi00 (rest := []) hC xy_X8_at tw_462 hf (fun _ h => M_X8_at_12 G l kp h) ⟨Nat.le_of_ble_eq_true rfl, Nat.le_of_ble_eq_true rfl⟩ (xce_12 G kp _ _) rfl rfl rfl (Nat.le_of_ble_eq_true rfl) hl.1 hR hS dX0_makeStand_32 ⟨Nat.le_refl _, Nat.le_refl _⟩ (fun v1 hf H locs hR hS => ?_)
  refine lv_iconst (v := (-1)) hC.1 hC.2.1 dX0_makeStand_35 (by decide) ?_
  refine x_ic_ne (tgt := 50) hC dX0_makeStand_36 (by decide) hf (fun hf => ?_) (fun hf => ?_)
  · exact W_X0_makeStand_j50 hC hf _ _ _ hR hS (lv_sub hl [0, 1] rfl)
  · refine lv_aload_n hC.1 hC.2.1 dX0_makeStand_39 rfl (lv_at hl 0 rfl) ?_
    refine x_get (v := .ref (xz G + 12)) hC xf_X0_16 (xce_11 G kp _ _) rfl hR dX0_makeStand_40 ?_
    refine lv_iload_n hC.1 hC.2.1 dX0_makeStand_43 rfl (lv_at hl 1 rfl) ?_
    refine lv_bipush (v := 9) hC.1 hC.2.1 dX0_makeStand_44 (by decide) ?_
    refine lv_iload_n hC.1 hC.2.1 dX0_makeStand_46 rfl (lv_at hl 2 rfl) ?_
    refine x_cvv10 (rest := []) hC xy_X8_put tw_120 hf (fun _ h => M_X8_put_12 G l kp h) ⟨Nat.le_of_ble_eq_true rfl, Nat.le_of_ble_eq_true rfl⟩ (xce_12 G kp _ _) rfl rfl rfl (Nat.le_of_ble_eq_true rfl) hl.1 hR hS dX0_makeStand_47 ⟨Nat.le_refl _, Nat.le_refl _⟩ (fun I2 hf H locs hR hS => ?_)
    exact W_X0_makeStand_j50 hC hf _ _ _ hR hS (lv_sub hl [0, 1] rfl)
set_option maxRecDepth 20000 in
theorem M_X0_makeStand (G : XG) (l : Launch) (kp : Bool) {I : xTI} {L : xTL} {x1 : Int32} {x2 : Int32} {rI : xTI} (hf : F_X0_makeStand I x1 x2 = some rI) : xMet G l yX0_makeStand cX0_makeStand 3 none 1 24 kp [.ref (xz G + 11), .int x1, .int x2] I L none rI L := by
  refine xMet.ofW (by decide +kernel) (Nat.le_of_ble_eq_true rfl) ?_
  intro p e s m args below meth c hC H locs ls hR hS hl
  replace hC : xC G p s m args meth c cX0_makeStand 3 RX0 none := hC
  replace hl : lv_has ls 3 [(0, .ref (xz G + 11)), (1, .int x1), (2, .int x2)] := hl
  unfold F_X0_makeStand at hf
  refine lv_aload_n hC.1 hC.2.1 dX0_makeStand_0 rfl (lv_at hl 0 rfl) ?_
  refine x_get (v := .ref (xz G + 12)) hC xf_X0_16 (xce_11 G kp _ _) rfl hR dX0_makeStand_1 ?_
  refine lv_iload_n hC.1 hC.2.1 dX0_makeStand_4 rfl (lv_at hl 1 rfl) ?_
  refine lv_bipush (v := 8) hC.1 hC.2.1 dX0_makeStand_5 (by decide) ?_
  refine x_cvi00 (rest := []) hC xy_X8_at tw_462 hf (fun _ h => M_X8_at_12 G l kp h) ⟨Nat.le_of_ble_eq_true rfl, Nat.le_of_ble_eq_true rfl⟩ (xce_12 G kp _ _) rfl rfl rfl (Nat.le_of_ble_eq_true rfl) hl.1 hR hS dX0_makeStand_7 ⟨Nat.le_refl _, Nat.le_refl _⟩ (fun v1 hf H locs hR hS => ?_)
  refine lv_iconst (v := (-1)) hC.1 hC.2.1 dX0_makeStand_10 (by decide) ?_
  refine x_ic_ne (tgt := 25) hC dX0_makeStand_11 (by decide) hf (fun hf => ?_) (fun hf => ?_)
  · exact W_X0_makeStand_j25 hC hf _ _ _ hR hS (lv_sub hl [0, 1, 2] rfl)
  · refine lv_aload_n hC.1 hC.2.1 dX0_makeStand_14 rfl (lv_at hl 0 rfl) ?_
    refine x_get (v := .ref (xz G + 12)) hC xf_X0_16 (xce_11 G kp _ _) rfl hR dX0_makeStand_15 ?_
    refine lv_iload_n hC.1 hC.2.1 dX0_makeStand_18 rfl (lv_at hl 1 rfl) ?_
    refine lv_bipush (v := 8) hC.1 hC.2.1 dX0_makeStand_19 (by decide) ?_
    refine lv_iload_n hC.1 hC.2.1 dX0_makeStand_21 rfl (lv_at hl 2 rfl) ?_
    refine x_cvv10 (rest := []) hC xy_X8_put tw_120 hf (fun _ h => M_X8_put_12 G l kp h) ⟨Nat.le_of_ble_eq_true rfl, Nat.le_of_ble_eq_true rfl⟩ (xce_12 G kp _ _) rfl rfl rfl (Nat.le_of_ble_eq_true rfl) hl.1 hR hS dX0_makeStand_22 ⟨Nat.le_refl _, Nat.le_refl _⟩ (fun I2 hf H locs hR hS => ?_)
    exact W_X0_makeStand_j25 hC hf _ _ _ hR hS (lv_sub hl [0, 1, 2] rfl)
set_option maxRecDepth 20000 in
theorem M_X1_declareInto (G : XG) (l : Launch) (kp : Bool) {I : xTI} {L : xTL} {x1 : Int32} {x2 : Int32} {rI : xTI} (hf : F_X1_declareInto I x1 x2 = some rI) : xMet G l yX1_declareInto cX1_declareInto 3 none 2 52 kp [.ref (xz G + 1), .int x1, .int x2] I L none rI L := by
  refine xMet.ofW (by decide +kernel) (Nat.le_of_ble_eq_true rfl) ?_
  intro p e s m args below meth c hC H locs ls hR hS hl
  replace hC : xC G p s m args meth c cX1_declareInto 3 RX1 none := hC
  replace hl : lv_has ls 3 [(0, .ref (xz G + 1)), (1, .int x1), (2, .int x2)] := hl
  unfold F_X1_declareInto at hf
  refine lv_aload_n hC.1 hC.2.1 dX1_declareInto_0 rfl (lv_at hl 0 rfl) ?_
  refine x_get (v := .ref (xz G + 11)) hC xf_X1_25 (xce_1 G kp _ _) rfl hR dX1_declareInto_1 ?_
  refine lv_iload_n hC.1 hC.2.1 dX1_declareInto_4 rfl (lv_at hl 2 rfl) ?_
  refine lv_aload_n hC.1 hC.2.1 dX1_declareInto_5 rfl (lv_at hl 0 rfl) ?_
  refine x_get (v := .ref (xz G + 20)) hC xf_X1_41 (xce_1 G kp _ _) rfl hR dX1_declareInto_6 ?_
  refine lv_iload_n hC.1 hC.2.1 dX1_declareInto_9 rfl (lv_at hl 1 rfl) ?_
  refine lv_iconst (v := 1) hC.1 hC.2.1 dX1_declareInto_10 (by decide) ?_
  refine x_cvi00 (rest := [.int x2, .ref (xz G + 11)]) hC xy_X8_at tw_661 hf (fun _ h => M_X8_at_20 G l kp h) ⟨Nat.le_of_ble_eq_true rfl, Nat.le_of_ble_eq_true rfl⟩ (xce_20 G kp _ _) rfl rfl rfl (Nat.le_of_ble_eq_true rfl) hl.1 hR hS dX1_declareInto_11 ⟨Nat.le_refl _, Nat.le_refl _⟩ (fun v1 hf H locs hR hS => ?_)
  refine lv_aload_n hC.1 hC.2.1 dX1_declareInto_14 rfl (lv_at hl 0 rfl) ?_
  refine x_get (v := .ref (xz G + 20)) hC xf_X1_41 (xce_1 G kp _ _) rfl hR dX1_declareInto_15 ?_
  refine lv_iload_n hC.1 hC.2.1 dX1_declareInto_18 rfl (lv_at hl 1 rfl) ?_
  refine lv_iconst (v := 0) hC.1 hC.2.1 dX1_declareInto_19 (by decide) ?_
  refine x_cvi00 (rest := [.int v1, .int x2, .ref (xz G + 11)]) hC xy_X8_at tw_661 hf (fun _ h => M_X8_at_20 G l kp h) ⟨Nat.le_of_ble_eq_true rfl, Nat.le_of_ble_eq_true rfl⟩ (xce_20 G kp _ _) rfl rfl rfl (Nat.le_of_ble_eq_true rfl) hl.1 hR hS dX1_declareInto_20 ⟨Nat.le_refl _, Nat.le_refl _⟩ (fun v2 hf H locs hR hS => ?_)
  refine lv_aload_n hC.1 hC.2.1 dX1_declareInto_23 rfl (lv_at hl 0 rfl) ?_
  refine x_get (v := .ref (xz G + 20)) hC xf_X1_41 (xce_1 G kp _ _) rfl hR dX1_declareInto_24 ?_
  refine lv_iload_n hC.1 hC.2.1 dX1_declareInto_27 rfl (lv_at hl 1 rfl) ?_
  refine lv_iconst (v := 2) hC.1 hC.2.1 dX1_declareInto_28 (by decide) ?_
  refine x_cvi00 (rest := [.int v2, .int v1, .int x2, .ref (xz G + 11)]) hC xy_X8_at tw_661 hf (fun _ h => M_X8_at_20 G l kp h) ⟨Nat.le_of_ble_eq_true rfl, Nat.le_of_ble_eq_true rfl⟩ (xce_20 G kp _ _) rfl rfl rfl (Nat.le_of_ble_eq_true rfl) hl.1 hR hS dX1_declareInto_29 ⟨Nat.le_refl _, Nat.le_refl _⟩ (fun v3 hf H locs hR hS => ?_)
  refine lv_aload_n hC.1 hC.2.1 dX1_declareInto_32 rfl (lv_at hl 0 rfl) ?_
  refine x_get (v := .ref (xz G + 20)) hC xf_X1_41 (xce_1 G kp _ _) rfl hR dX1_declareInto_33 ?_
  refine lv_iload_n hC.1 hC.2.1 dX1_declareInto_36 rfl (lv_at hl 1 rfl) ?_
  refine lv_iconst (v := 3) hC.1 hC.2.1 dX1_declareInto_37 (by decide) ?_
  refine x_cvi00 (rest := [.int v3, .int v2, .int v1, .int x2, .ref (xz G + 11)]) hC xy_X8_at tw_661 hf (fun _ h => M_X8_at_20 G l kp h) ⟨Nat.le_of_ble_eq_true rfl, Nat.le_of_ble_eq_true rfl⟩ (xce_20 G kp _ _) rfl rfl rfl (Nat.le_of_ble_eq_true rfl) hl.1 hR hS dX1_declareInto_38 ⟨Nat.le_refl _, Nat.le_refl _⟩ (fun v4 hf H locs hR hS => ?_)
  refine lv_aload_n hC.1 hC.2.1 dX1_declareInto_41 rfl (lv_at hl 0 rfl) ?_
  refine x_get (v := .ref (xz G + 20)) hC xf_X1_41 (xce_1 G kp _ _) rfl hR dX1_declareInto_42 ?_
  refine lv_iload_n hC.1 hC.2.1 dX1_declareInto_45 rfl (lv_at hl 1 rfl) ?_
  refine lv_iconst (v := 4) hC.1 hC.2.1 dX1_declareInto_46 (by decide) ?_
  refine x_cvi00 (rest := [.int v4, .int v3, .int v2, .int v1, .int x2, .ref (xz G + 11)]) hC xy_X8_at tw_661 hf (fun _ h => M_X8_at_20 G l kp h) ⟨Nat.le_of_ble_eq_true rfl, Nat.le_of_ble_eq_true rfl⟩ (xce_20 G kp _ _) rfl rfl rfl (Nat.le_of_ble_eq_true rfl) hl.1 hR hS dX1_declareInto_47 ⟨Nat.le_refl _, Nat.le_refl _⟩ (fun v5 hf H locs hR hS => ?_)
  refine lv_aload_n hC.1 hC.2.1 dX1_declareInto_50 rfl (lv_at hl 0 rfl) ?_
  refine x_getI hC xf_X1_58 (xce_1 G kp _ _) rfl hR dX1_declareInto_51 hf (fun v6 hf => ?_)
  refine x_cvv10 (rest := []) hC xy_X0_write tw_662 hf (fun _ h => M_X0_write G l kp h) ⟨Nat.le_of_ble_eq_true rfl, Nat.le_of_ble_eq_true rfl⟩ (xce_11 G kp _ _) rfl rfl rfl (Nat.le_of_ble_eq_true rfl) hl.1 hR hS dX1_declareInto_54 ⟨Nat.le_refl _, Nat.le_refl _⟩ (fun I7 hf H locs hR hS => ?_)
  refine lv_aload_n hC.1 hC.2.1 dX1_declareInto_57 rfl (lv_at hl 0 rfl) ?_
  refine x_get (v := .ref (xz G + 11)) hC xf_X1_25 (xce_1 G kp _ _) rfl hR dX1_declareInto_58 ?_
  refine lv_iload_n hC.1 hC.2.1 dX1_declareInto_61 rfl (lv_at hl 2 rfl) ?_
  refine lv_aload_n hC.1 hC.2.1 dX1_declareInto_62 rfl (lv_at hl 0 rfl) ?_
  refine x_getI hC xf_X1_58 (xce_1 G kp _ _) rfl hR dX1_declareInto_63 hf (fun v8 hf => ?_)
  refine x_cvv10 (rest := []) hC xy_X0_makeStand tw_663 hf (fun _ h => M_X0_makeStand G l kp h) ⟨Nat.le_of_ble_eq_true rfl, Nat.le_of_ble_eq_true rfl⟩ (xce_11 G kp _ _) rfl rfl rfl (Nat.le_of_ble_eq_true rfl) hl.1 hR hS dX1_declareInto_66 ⟨Nat.le_refl _, Nat.le_refl _⟩ (fun I9 hf H locs hR hS => ?_)
  refine lv_aload_n hC.1 hC.2.1 dX1_declareInto_69 rfl (lv_at hl 0 rfl) ?_
  refine x_get (v := .ref (xz G + 20)) hC xf_X1_41 (xce_1 G kp _ _) rfl hR dX1_declareInto_70 ?_
  refine lv_iload_n hC.1 hC.2.1 dX1_declareInto_73 rfl (lv_at hl 1 rfl) ?_
  refine lv_bipush (v := 6) hC.1 hC.2.1 dX1_declareInto_74 (by decide) ?_
  refine lv_iconst (v := 1) hC.1 hC.2.1 dX1_declareInto_76 (by decide) ?_
  refine x_cvv10 (rest := []) hC xy_X8_put tw_647 hf (fun _ h => M_X8_put_20 G l kp h) ⟨Nat.le_of_ble_eq_true rfl, Nat.le_of_ble_eq_true rfl⟩ (xce_20 G kp _ _) rfl rfl rfl (Nat.le_of_ble_eq_true rfl) hl.1 hR hS dX1_declareInto_77 ⟨Nat.le_refl _, Nat.le_refl _⟩ (fun I10 hf H locs hR hS => ?_)
  cases hf
  exact x_vret hC hR hS dX1_declareInto_80
set_option maxRecDepth 20000 in
theorem M_X10_declare (G : XG) (l : Launch) (kp : Bool) (N : Nat) {I : xTI} {L : xTL} {x1 : Int32} {r : Int32} {rI : xTI} (hf : F_X10_declare N I x1 = some (r, rI)) : xMet G l yX10_declare cX10_declare 3 (some .int) 3 74 kp [.ref (xz G + 0), .int x1] I L (some (.int r)) rI L := by
  refine xMet.ofW (by decide +kernel) (Nat.le_of_ble_eq_true rfl) ?_
  intro p e s m args below meth c hC H locs ls hR hS hl
  replace hC : xC G p s m args meth c cX10_declare 3 RX10 (some .int) := hC
  replace hl : lv_has ls 3 [(0, .ref (xz G + 0)), (1, .int x1)] := hl
  unfold F_X10_declare at hf
  refine lv_aload_n hC.1 hC.2.1 dX10_declare_0 rfl (lv_at hl 0 rfl) ?_
  refine x_get (v := .ref (xz G + 1)) hC xf_X10_10 (xce_0 G kp _ _) rfl hR dX10_declare_1 ?_
  refine x_get (v := .ref (xz G + 20)) hC xf_X10_213 (xce_1 G kp _ _) rfl hR dX10_declare_4 ?_
  refine lv_iload_n hC.1 hC.2.1 dX10_declare_7 rfl (lv_at hl 1 rfl) ?_
  refine x_cvi00 (rest := []) hC xy_X8_isNoted tw_652 hf (fun _ h => M_X8_isNoted_20 G l kp h) ⟨Nat.le_of_ble_eq_true rfl, Nat.le_of_ble_eq_true rfl⟩ (xce_20 G kp _ _) rfl rfl rfl (Nat.le_of_ble_eq_true rfl) hl.1 hR hS dX10_declare_8 ⟨Nat.le_refl _, Nat.le_refl _⟩ (fun v1 hf H locs hR hS => ?_)
  refine x_if_ne (tgt := 21) hC dX10_declare_11 (by decide) hf (fun hf => ?_) (fun hf => ?_)
  · refine lv_aload_n hC.1 hC.2.1 dX10_declare_21 rfl (lv_at hl 0 rfl) ?_
    refine x_get (v := .ref (xz G + 1)) hC xf_X10_10 (xce_0 G kp _ _) rfl hR dX10_declare_22 ?_
    refine x_get (v := .ref (xz G + 20)) hC xf_X10_213 (xce_1 G kp _ _) rfl hR dX10_declare_25 ?_
    refine lv_iload_n hC.1 hC.2.1 dX10_declare_28 rfl (lv_at hl 1 rfl) ?_
    refine lv_bipush (v := 6) hC.1 hC.2.1 dX10_declare_29 (by decide) ?_
    refine x_cvi00 (rest := []) hC xy_X8_at tw_656 hf (fun _ h => M_X8_at_20 G l kp h) ⟨Nat.le_of_ble_eq_true rfl, Nat.le_of_ble_eq_true rfl⟩ (xce_20 G kp _ _) rfl rfl rfl (Nat.le_of_ble_eq_true rfl) hl.1 hR hS dX10_declare_31 ⟨Nat.le_refl _, Nat.le_refl _⟩ (fun v2 hf H locs hR hS => ?_)
    refine x_if_eq (tgt := 44) hC dX10_declare_34 (by decide) hf (fun hf => ?_) (fun hf => ?_)
    · refine lv_aload_n hC.1 hC.2.1 dX10_declare_44 rfl (lv_at hl 0 rfl) ?_
      refine x_get (v := .ref (xz G + 1)) hC xf_X10_10 (xce_0 G kp _ _) rfl hR dX10_declare_45 ?_
      refine x_get (v := .ref (xz G + 11)) hC xf_X10_119 (xce_1 G kp _ _) rfl hR dX10_declare_48 ?_
      refine lv_iconst (v := 0) hC.1 hC.2.1 dX10_declare_51 (by decide) ?_
      refine x_cvi00 (rest := []) hC xy_X0_leastFree tw_520 hf (fun _ h => M_X0_leastFree G l kp N h) ⟨Nat.le_of_ble_eq_true rfl, Nat.le_of_ble_eq_true rfl⟩ (xce_11 G kp _ _) rfl rfl rfl (Nat.le_of_ble_eq_true rfl) hl.1 hR hS dX10_declare_52 ⟨Nat.le_refl _, Nat.le_refl _⟩ (fun v3 hf H locs hR hS => ?_)
      refine lv_istore_n (lv' := [(2, .int v3), (0, .ref (xz G + 0)), (1, .int x1)]) hC.1 hC.2.1 dX10_declare_55 rfl hl (Nat.le_of_ble_eq_true rfl) rfl (fun ls hl => ?_)
      refine lv_iload_n hC.1 hC.2.1 dX10_declare_56 rfl (lv_at hl 0 rfl) ?_
      refine lv_iconst (v := (-1)) hC.1 hC.2.1 dX10_declare_57 (by decide) ?_
      refine x_ic_ne (tgt := 68) hC dX10_declare_58 (by decide) hf (fun hf => ?_) (fun hf => ?_)
      · refine lv_aload_n hC.1 hC.2.1 dX10_declare_68 rfl (lv_at hl 1 rfl) ?_
        refine x_get (v := .ref (xz G + 1)) hC xf_X10_10 (xce_0 G kp _ _) rfl hR dX10_declare_69 ?_
        refine lv_iload_n hC.1 hC.2.1 dX10_declare_72 rfl (lv_at hl 2 rfl) ?_
        refine lv_iload_n hC.1 hC.2.1 dX10_declare_73 rfl (lv_at hl 0 rfl) ?_
        refine x_cvv10 (rest := []) hC xy_X1_declareInto tw_657 hf (fun _ h => M_X1_declareInto G l kp h) ⟨Nat.le_of_ble_eq_true rfl, Nat.le_of_ble_eq_true rfl⟩ (xce_1 G kp _ _) rfl rfl rfl (Nat.le_of_ble_eq_true rfl) hl.1 hR hS dX10_declare_74 ⟨Nat.le_refl _, Nat.le_refl _⟩ (fun I4 hf H locs hR hS => ?_)
        refine lv_iload_n hC.1 hC.2.1 dX10_declare_77 rfl (lv_at hl 0 rfl) ?_
        cases hf
        exact x_iret hC hR hS dX10_declare_78
      · refine lv_aload_n hC.1 hC.2.1 dX10_declare_61 rfl (lv_at hl 1 rfl) ?_
        refine lv_bipush (v := (-8)) hC.1 hC.2.1 dX10_declare_62 (by decide) ?_
        refine x_cvi10 (rest := []) hC xy_X10_refuse tw_411 hf (fun _ _ h => M_X10_refuse G l kp h) ⟨Nat.le_of_ble_eq_true rfl, Nat.le_of_ble_eq_true rfl⟩ (xce_0 G kp _ _) rfl rfl rfl (Nat.le_of_ble_eq_true rfl) hl.1 hR hS dX10_declare_64 ⟨Nat.le_refl _, Nat.le_refl _⟩ (fun v5 I6 hf H locs hR hS => ?_)
        cases hf
        exact x_iret hC hR hS dX10_declare_67
    · refine lv_aload_n hC.1 hC.2.1 dX10_declare_37 rfl (lv_at hl 0 rfl) ?_
      refine lv_bipush (v := (-7)) hC.1 hC.2.1 dX10_declare_38 (by decide) ?_
      refine x_cvi10 (rest := []) hC xy_X10_refuse tw_411 hf (fun _ _ h => M_X10_refuse G l kp h) ⟨Nat.le_of_ble_eq_true rfl, Nat.le_of_ble_eq_true rfl⟩ (xce_0 G kp _ _) rfl rfl rfl (Nat.le_of_ble_eq_true rfl) hl.1 hR hS dX10_declare_40 ⟨Nat.le_refl _, Nat.le_refl _⟩ (fun v7 I8 hf H locs hR hS => ?_)
      cases hf
      exact x_iret hC hR hS dX10_declare_43
  · refine lv_aload_n hC.1 hC.2.1 dX10_declare_14 rfl (lv_at hl 0 rfl) ?_
    refine lv_bipush (v := (-3)) hC.1 hC.2.1 dX10_declare_15 (by decide) ?_
    refine x_cvi10 (rest := []) hC xy_X10_refuse tw_411 hf (fun _ _ h => M_X10_refuse G l kp h) ⟨Nat.le_of_ble_eq_true rfl, Nat.le_of_ble_eq_true rfl⟩ (xce_0 G kp _ _) rfl rfl rfl (Nat.le_of_ble_eq_true rfl) hl.1 hR hS dX10_declare_17 ⟨Nat.le_refl _, Nat.le_refl _⟩ (fun v9 I10 hf H locs hR hS => ?_)
    cases hf
    exact x_iret hC hR hS dX10_declare_20
set_option maxRecDepth 20000 in
theorem M_X8_hasColumn_20 (G : XG) (l : Launch) (kp : Bool) {I : xTI} {L : xTL} {x1 : Int32} {r : Int32} (hf : F_X8_hasColumn_20 x1 = some r) : xMet G l yX8_hasColumn cX8_hasColumn 2 (some .boolean) 0 0 kp [.ref (xz G + 20), .int x1] I L (some (.int r)) I L := by
  refine xMet.ofW (by decide +kernel) (Nat.le_of_ble_eq_true rfl) ?_
  intro p e s m args below meth c hC H locs ls hR hS hl
  replace hC : xC G p s m args meth c cX8_hasColumn 2 RX8 (some .boolean) := hC
  replace hl : lv_has ls 2 [(0, .ref (xz G + 20)), (1, .int x1)] := hl
  unfold F_X8_hasColumn_20 at hf
  refine lv_iload_n hC.1 hC.2.1 dX8_hasColumn_0 rfl (lv_at hl 1 rfl) ?_
  refine x_if_lt (tgt := 16) hC dX8_hasColumn_1 (by decide) hf (fun hf => ?_) (fun hf => ?_)
  · refine lv_iconst (v := 0) hC.1 hC.2.1 dX8_hasColumn_16 (by decide) ?_
    obtain ⟨h01, hf⟩ := xzc_some hf
    cases hf
    exact x_zret h01 hC hR hS dX8_hasColumn_17
  · refine lv_iload_n hC.1 hC.2.1 dX8_hasColumn_4 rfl (lv_at hl 1 rfl) ?_
    refine lv_aload_n hC.1 hC.2.1 dX8_hasColumn_5 rfl (lv_at hl 0 rfl) ?_
    refine x_get (v := .int 7) hC xf_X8_13 (xce_20 G kp _ _) rfl hR dX8_hasColumn_6 ?_
    refine x_ic_ge (tgt := 16) hC dX8_hasColumn_9 (by decide) hf (fun hf => ?_) (fun hf => ?_)
    · refine lv_iconst (v := 0) hC.1 hC.2.1 dX8_hasColumn_16 (by decide) ?_
      obtain ⟨h01, hf⟩ := xzc_some hf
      cases hf
      exact x_zret h01 hC hR hS dX8_hasColumn_17
    · refine lv_iconst (v := 1) hC.1 hC.2.1 dX8_hasColumn_12 (by decide) ?_
      refine lv_goto (tgt := 17) hC.1 hC.2.1 dX8_hasColumn_13 (by decide) ?_
      obtain ⟨h01, hf⟩ := xzc_some hf
      cases hf
      exact x_zret h01 hC hR hS dX8_hasColumn_17
set_option maxRecDepth 20000 in
theorem M_X10_readOf_20 (G : XG) (l : Launch) (kp : Bool) {I : xTI} {L : xTL} {x2 : Int32} {x3 : Int32} {r : Int32} {rI : xTI} (hf : F_X10_readOf_20 I x2 x3 = some (r, rI)) : xMet G l yX10_readOf cX10_readOf 4 (some .int) 1 23 kp [.ref (xz G + 0), .ref (xz G + 20), .int x2, .int x3] I L (some (.int r)) rI L := by
  refine xMet.ofW (by decide +kernel) (Nat.le_of_ble_eq_true rfl) ?_
  intro p e s m args below meth c hC H locs ls hR hS hl
  replace hC : xC G p s m args meth c cX10_readOf 4 RX10 (some .int) := hC
  replace hl : lv_has ls 4 [(0, .ref (xz G + 0)), (1, .ref (xz G + 20)), (2, .int x2), (3, .int x3)] := hl
  unfold F_X10_readOf_20 at hf
  refine lv_aload_n hC.1 hC.2.1 dX10_readOf_0 rfl (lv_at hl 1 rfl) ?_
  refine lv_iload_n hC.1 hC.2.1 dX10_readOf_1 rfl (lv_at hl 2 rfl) ?_
  refine x_cvi00 (rest := []) hC xy_X8_isNoted tw_652 hf (fun _ h => M_X8_isNoted_20 G l kp h) ⟨Nat.le_of_ble_eq_true rfl, Nat.le_of_ble_eq_true rfl⟩ (xce_20 G kp _ _) rfl rfl rfl (Nat.le_of_ble_eq_true rfl) hl.1 hR hS dX10_readOf_2 ⟨Nat.le_refl _, Nat.le_refl _⟩ (fun v1 hf H locs hR hS => ?_)
  refine x_if_ne (tgt := 15) hC dX10_readOf_5 (by decide) hf (fun hf => ?_) (fun hf => ?_)
  · refine lv_aload_n hC.1 hC.2.1 dX10_readOf_15 rfl (lv_at hl 1 rfl) ?_
    refine lv_iload_n hC.1 hC.2.1 dX10_readOf_16 rfl (lv_at hl 3 rfl) ?_
    refine x_cvi00 (rest := []) hC xy_X8_hasColumn tw_672 hf (fun _ h => M_X8_hasColumn_20 G l kp h) ⟨Nat.le_of_ble_eq_true rfl, Nat.le_of_ble_eq_true rfl⟩ (xce_20 G kp _ _) rfl rfl rfl (Nat.le_of_ble_eq_true rfl) hl.1 hR hS dX10_readOf_17 ⟨Nat.le_refl _, Nat.le_refl _⟩ (fun v2 hf H locs hR hS => ?_)
    refine x_if_eq (tgt := 32) hC dX10_readOf_20 (by decide) hf (fun hf => ?_) (fun hf => ?_)
    · refine lv_aload_n hC.1 hC.2.1 dX10_readOf_32 rfl (lv_at hl 0 rfl) ?_
      refine lv_bipush (v := (-7)) hC.1 hC.2.1 dX10_readOf_33 (by decide) ?_
      refine x_cvi10 (rest := []) hC xy_X10_refuse tw_411 hf (fun _ _ h => M_X10_refuse G l kp h) ⟨Nat.le_of_ble_eq_true rfl, Nat.le_of_ble_eq_true rfl⟩ (xce_0 G kp _ _) rfl rfl rfl (Nat.le_of_ble_eq_true rfl) hl.1 hR hS dX10_readOf_35 ⟨Nat.le_refl _, Nat.le_refl _⟩ (fun v3 I4 hf H locs hR hS => ?_)
      cases hf
      exact x_iret hC hR hS dX10_readOf_38
    · refine lv_aload_n hC.1 hC.2.1 dX10_readOf_23 rfl (lv_at hl 1 rfl) ?_
      refine lv_iload_n hC.1 hC.2.1 dX10_readOf_24 rfl (lv_at hl 2 rfl) ?_
      refine lv_iload_n hC.1 hC.2.1 dX10_readOf_25 rfl (lv_at hl 3 rfl) ?_
      refine x_cvi00 (rest := []) hC xy_X8_at tw_656 hf (fun _ h => M_X8_at_20 G l kp h) ⟨Nat.le_of_ble_eq_true rfl, Nat.le_of_ble_eq_true rfl⟩ (xce_20 G kp _ _) rfl rfl rfl (Nat.le_of_ble_eq_true rfl) hl.1 hR hS dX10_readOf_26 ⟨Nat.le_refl _, Nat.le_refl _⟩ (fun v5 hf H locs hR hS => ?_)
      refine lv_goto (tgt := 38) hC.1 hC.2.1 dX10_readOf_29 (by decide) ?_
      cases hf
      exact x_iret hC hR hS dX10_readOf_38
  · refine lv_aload_n hC.1 hC.2.1 dX10_readOf_8 rfl (lv_at hl 0 rfl) ?_
    refine lv_bipush (v := (-3)) hC.1 hC.2.1 dX10_readOf_9 (by decide) ?_
    refine x_cvi10 (rest := []) hC xy_X10_refuse tw_411 hf (fun _ _ h => M_X10_refuse G l kp h) ⟨Nat.le_of_ble_eq_true rfl, Nat.le_of_ble_eq_true rfl⟩ (xce_0 G kp _ _) rfl rfl rfl (Nat.le_of_ble_eq_true rfl) hl.1 hR hS dX10_readOf_11 ⟨Nat.le_refl _, Nat.le_refl _⟩ (fun v6 I7 hf H locs hR hS => ?_)
    cases hf
    exact x_iret hC hR hS dX10_readOf_14
set_option maxRecDepth 20000 in
theorem M_X10_optionOf (G : XG) (l : Launch) (kp : Bool) {I : xTI} {L : xTL} {x1 : Int32} {x2 : Int32} {r : Int32} {rI : xTI} (hf : F_X10_optionOf I x1 x2 = some (r, rI)) : xMet G l yX10_optionOf cX10_optionOf 3 (some .int) 2 46 kp [.ref (xz G + 0), .int x1, .int x2] I L (some (.int r)) rI L := by
  refine xMet.ofW (by decide +kernel) (Nat.le_of_ble_eq_true rfl) ?_
  intro p e s m args below meth c hC H locs ls hR hS hl
  replace hC : xC G p s m args meth c cX10_optionOf 3 RX10 (some .int) := hC
  replace hl : lv_has ls 3 [(0, .ref (xz G + 0)), (1, .int x1), (2, .int x2)] := hl
  unfold F_X10_optionOf at hf
  refine lv_aload_n hC.1 hC.2.1 dX10_optionOf_0 rfl (lv_at hl 0 rfl) ?_
  refine lv_aload_n hC.1 hC.2.1 dX10_optionOf_1 rfl (lv_at hl 0 rfl) ?_
  refine x_get (v := .ref (xz G + 1)) hC xf_X10_10 (xce_0 G kp _ _) rfl hR dX10_optionOf_2 ?_
  refine x_get (v := .ref (xz G + 20)) hC xf_X10_213 (xce_1 G kp _ _) rfl hR dX10_optionOf_5 ?_
  refine lv_iload_n hC.1 hC.2.1 dX10_optionOf_8 rfl (lv_at hl 1 rfl) ?_
  refine lv_iload_n hC.1 hC.2.1 dX10_optionOf_9 rfl (lv_at hl 2 rfl) ?_
  refine x_cvi10 (rest := []) hC xy_X10_readOf tw_668 hf (fun _ _ h => M_X10_readOf_20 G l kp h) ⟨Nat.le_of_ble_eq_true rfl, Nat.le_of_ble_eq_true rfl⟩ (xce_0 G kp _ _) rfl rfl rfl (Nat.le_of_ble_eq_true rfl) hl.1 hR hS dX10_optionOf_10 ⟨Nat.le_refl _, Nat.le_refl _⟩ (fun v1 I2 hf H locs hR hS => ?_)
  cases hf
  exact x_iret hC hR hS dX10_optionOf_13
set_option maxRecDepth 20000 in
theorem M_X8_hasRoom_22 (G : XG) (l : Launch) (kp : Bool) {I : xTI} {L : xTL} {r : Int32} (hf : F_X8_hasRoom_22 I = some r) : xMet G l yX8_hasRoom cX8_hasRoom 1 (some .boolean) 0 0 kp [.ref (xz G + 22)] I L (some (.int r)) I L := by
  refine xMet.ofW (by decide +kernel) (Nat.le_of_ble_eq_true rfl) ?_
  intro p e s m args below meth c hC H locs ls hR hS hl
  replace hC : xC G p s m args meth c cX8_hasRoom 1 RX8 (some .boolean) := hC
  replace hl : lv_has ls 1 [(0, .ref (xz G + 22))] := hl
  unfold F_X8_hasRoom_22 at hf
  refine lv_aload_n hC.1 hC.2.1 dX8_hasRoom_0 rfl (lv_at hl 0 rfl) ?_
  refine x_getI hC xf_X8_20 (xce_22 G kp _ _) rfl hR dX8_hasRoom_1 hf (fun v1 hf => ?_)
  refine lv_aload_n hC.1 hC.2.1 dX8_hasRoom_4 rfl (lv_at hl 0 rfl) ?_
  refine x_get (v := .int 10) hC xf_X8_7 (xce_22 G kp _ _) rfl hR dX8_hasRoom_5 ?_
  refine x_ic_ge (tgt := 15) hC dX8_hasRoom_8 (by decide) hf (fun hf => ?_) (fun hf => ?_)
  · refine lv_iconst (v := 0) hC.1 hC.2.1 dX8_hasRoom_15 (by decide) ?_
    obtain ⟨h01, hf⟩ := xzc_some hf
    cases hf
    exact x_zret h01 hC hR hS dX8_hasRoom_16
  · refine lv_iconst (v := 1) hC.1 hC.2.1 dX8_hasRoom_11 (by decide) ?_
    refine lv_goto (tgt := 16) hC.1 hC.2.1 dX8_hasRoom_12 (by decide) ?_
    obtain ⟨h01, hf⟩ := xzc_some hf
    cases hf
    exact x_zret h01 hC hR hS dX8_hasRoom_16
set_option maxRecDepth 20000 in
theorem W_X8_put_22_j29 {G : XG} {l : Launch} {kp : Bool} {p : Program} {e : Env} {s : State} {m : MethodId} {args : Array Value} {below : List Frame} {meth : Method} {c : Code} (hC : xC G p s m args meth c cX8_put 5 RX8 none) {I : xTI} {L : xTL} {rI : xTI} {x1 : Int32} {x2 : Int32} {x3 : Int32} {t0 : Int32} (hf : F_X8_put_22_j29 I x1 x2 x3 t0 = some rI) : ∀ (H : Heap) (locs : List Loc) (ls : Array Slot), xRep G kp I L H → xS G s.heap H locs → lv_has ls 5 [(0, .ref (xz G + 22)), (1, .int x1), (2, .int x2), (3, .int x3)] → W p l e (xrm 0 0) s m args below meth c H locs 0 0 (xMQ G kp below args s none rI L) (F0 m 29 ls [.int t0]) := by
  intro H locs ls hR hS hl
  unfold F_X8_put_22_j29 at hf
  refine lv_istore (lv' := [(4, .int t0), (0, .ref (xz G + 22)), (1, .int x1), (2, .int x2), (3, .int x3)]) hC.1 hC.2.1 dX8_put_29 hl (Nat.le_of_ble_eq_true rfl) rfl (fun ls hl => ?_)
  refine lv_iload hC.1 hC.2.1 dX8_put_31 (lv_at hl 0 rfl) ?_
  refine x_if_eq (tgt := 50) hC dX8_put_33 (by decide) hf (fun hf => ?_) (fun hf => ?_)
  · cases hf
    exact x_vret hC hR hS dX8_put_50
  · refine lv_aload_n hC.1 hC.2.1 dX8_put_36 rfl (lv_at hl 1 rfl) ?_
    refine x_get (v := .ref (xz G + 23)) hC xf_X8_16 (xce_22 G kp _ _) rfl hR dX8_put_37 ?_
    refine lv_iload_n hC.1 hC.2.1 dX8_put_40 rfl (lv_at hl 2 rfl) ?_
    refine lv_aload_n hC.1 hC.2.1 dX8_put_41 rfl (lv_at hl 1 rfl) ?_
    refine x_get (v := .int 3) hC xf_X8_13 (xce_22 G kp _ _) rfl hR dX8_put_42 ?_
    refine lv_imul hC.1 hC.2.1 dX8_put_45 ?_
    refine lv_iload_n hC.1 hC.2.1 dX8_put_46 rfl (lv_at hl 3 rfl) ?_
    refine lv_iadd hC.1 hC.2.1 dX8_put_47 ?_
    refine lv_iload_n hC.1 hC.2.1 dX8_put_48 rfl (lv_at hl 4 rfl) ?_
    refine x_ias hC (fun f => xce_23 G kp f _) hR hS dX8_put_49 hf (fun I1 hf H locs hR hS => ?_)
    cases hf
    exact x_vret hC hR hS dX8_put_50
set_option maxRecDepth 20000 in
theorem M_X8_put_22 (G : XG) (l : Launch) (kp : Bool) {I : xTI} {L : xTL} {x1 : Int32} {x2 : Int32} {x3 : Int32} {rI : xTI} (hf : F_X8_put_22 I x1 x2 x3 = some rI) : xMet G l yX8_put cX8_put 5 none 0 0 kp [.ref (xz G + 22), .int x1, .int x2, .int x3] I L none rI L := by
  refine xMet.ofW (by decide +kernel) (Nat.le_of_ble_eq_true rfl) ?_
  intro p e s m args below meth c hC H locs ls hR hS hl
  replace hC : xC G p s m args meth c cX8_put 5 RX8 none := hC
  replace hl : lv_has ls 5 [(0, .ref (xz G + 22)), (1, .int x1), (2, .int x2), (3, .int x3)] := hl
  unfold F_X8_put_22 at hf
  refine lv_iload_n hC.1 hC.2.1 dX8_put_0 rfl (lv_at hl 1 rfl) ?_
  refine x_if_lt (tgt := 28) hC dX8_put_1 (by decide) hf (fun hf => ?_) (fun hf => ?_)
  · refine lv_iconst (v := 0) hC.1 hC.2.1 dX8_put_28 (by decide) ?_
    exact W_X8_put_22_j29 hC hf _ _ _ hR hS (lv_sub hl [0, 1, 2, 3] rfl)
  · refine lv_iload_n hC.1 hC.2.1 dX8_put_4 rfl (lv_at hl 1 rfl) ?_
    refine lv_aload_n hC.1 hC.2.1 dX8_put_5 rfl (lv_at hl 0 rfl) ?_
    refine x_get (v := .int 10) hC xf_X8_7 (xce_22 G kp _ _) rfl hR dX8_put_6 ?_
    refine x_ic_ge (tgt := 28) hC dX8_put_9 (by decide) hf (fun hf => ?_) (fun hf => ?_)
    · refine lv_iconst (v := 0) hC.1 hC.2.1 dX8_put_28 (by decide) ?_
      exact W_X8_put_22_j29 hC hf _ _ _ hR hS (lv_sub hl [0, 1, 2, 3] rfl)
    · refine lv_iload_n hC.1 hC.2.1 dX8_put_12 rfl (lv_at hl 2 rfl) ?_
      refine x_if_lt (tgt := 28) hC dX8_put_13 (by decide) hf (fun hf => ?_) (fun hf => ?_)
      · refine lv_iconst (v := 0) hC.1 hC.2.1 dX8_put_28 (by decide) ?_
        exact W_X8_put_22_j29 hC hf _ _ _ hR hS (lv_sub hl [0, 1, 2, 3] rfl)
      · refine lv_iload_n hC.1 hC.2.1 dX8_put_16 rfl (lv_at hl 2 rfl) ?_
        refine lv_aload_n hC.1 hC.2.1 dX8_put_17 rfl (lv_at hl 0 rfl) ?_
        refine x_get (v := .int 3) hC xf_X8_13 (xce_22 G kp _ _) rfl hR dX8_put_18 ?_
        refine x_ic_ge (tgt := 28) hC dX8_put_21 (by decide) hf (fun hf => ?_) (fun hf => ?_)
        · refine lv_iconst (v := 0) hC.1 hC.2.1 dX8_put_28 (by decide) ?_
          exact W_X8_put_22_j29 hC hf _ _ _ hR hS (lv_sub hl [0, 1, 2, 3] rfl)
        · refine lv_iconst (v := 1) hC.1 hC.2.1 dX8_put_24 (by decide) ?_
          refine lv_goto (tgt := 29) hC.1 hC.2.1 dX8_put_25 (by decide) ?_
          exact W_X8_put_22_j29 hC hf _ _ _ hR hS (lv_sub hl [0, 1, 2, 3] rfl)
set_option maxRecDepth 20000 in
theorem M_X1_enterDividend (G : XG) (l : Launch) (kp : Bool) {I : xTI} {L : xTL} {x1 : Int32} {x2 : Int32} {x3 : Int32} {r : Int32} {rI : xTI} (hf : F_X1_enterDividend I x1 x2 x3 = some (r, rI)) : xMet G l yX1_enterDividend cX1_enterDividend 5 (some .int) 1 24 kp [.ref (xz G + 1), .int x1, .int x2, .int x3] I L (some (.int r)) rI L := by
  refine xMet.ofW (by decide +kernel) (Nat.le_of_ble_eq_true rfl) ?_
  intro p e s m args below meth c hC H locs ls hR hS hl
  replace hC : xC G p s m args meth c cX1_enterDividend 5 RX1 (some .int) := hC
  replace hl : lv_has ls 5 [(0, .ref (xz G + 1)), (1, .int x1), (2, .int x2), (3, .int x3)] := hl
  unfold F_X1_enterDividend at hf
  refine lv_aload_n hC.1 hC.2.1 dX1_enterDividend_0 rfl (lv_at hl 0 rfl) ?_
  refine x_get (v := .ref (xz G + 22)) hC xf_X1_45 (xce_1 G kp _ _) rfl hR dX1_enterDividend_1 ?_
  refine x_getI hC xf_X1_62 (xce_22 G kp _ _) rfl hR dX1_enterDividend_4 hf (fun v1 hf => ?_)
  refine lv_istore (lv' := [(4, .int v1), (0, .ref (xz G + 1)), (1, .int x1), (2, .int x2), (3, .int x3)]) hC.1 hC.2.1 dX1_enterDividend_7 hl (Nat.le_of_ble_eq_true rfl) rfl (fun ls hl => ?_)
  refine lv_aload_n hC.1 hC.2.1 dX1_enterDividend_9 rfl (lv_at hl 1 rfl) ?_
  refine x_get (v := .ref (xz G + 22)) hC xf_X1_45 (xce_1 G kp _ _) rfl hR dX1_enterDividend_10 ?_
  refine lv_dup hC.1 hC.2.1 dX1_enterDividend_13 rfl ?_
  refine x_getI hC xf_X1_62 (xce_22 G kp _ _) rfl hR dX1_enterDividend_14 hf (fun v2 hf => ?_)
  refine lv_iconst (v := 1) hC.1 hC.2.1 dX1_enterDividend_17 (by decide) ?_
  refine lv_iadd hC.1 hC.2.1 dX1_enterDividend_18 ?_
  refine x_putI hC xf_X1_62 xp_8_3 (fun f => xce_22 G kp f _) rfl (Nat.le_of_ble_eq_true rfl) hR hS dX1_enterDividend_19 hf (fun I3 hf H locs hR hS => ?_)
  refine lv_aload_n hC.1 hC.2.1 dX1_enterDividend_22 rfl (lv_at hl 1 rfl) ?_
  refine x_get (v := .ref (xz G + 22)) hC xf_X1_45 (xce_1 G kp _ _) rfl hR dX1_enterDividend_23 ?_
  refine lv_iload hC.1 hC.2.1 dX1_enterDividend_26 (lv_at hl 0 rfl) ?_
  refine lv_iconst (v := 0) hC.1 hC.2.1 dX1_enterDividend_28 (by decide) ?_
  refine lv_iload_n hC.1 hC.2.1 dX1_enterDividend_29 rfl (lv_at hl 2 rfl) ?_
  refine x_cvv10 (rest := []) hC xy_X8_put tw_647 hf (fun _ h => M_X8_put_22 G l kp h) ⟨Nat.le_of_ble_eq_true rfl, Nat.le_of_ble_eq_true rfl⟩ (xce_22 G kp _ _) rfl rfl rfl (Nat.le_of_ble_eq_true rfl) hl.1 hR hS dX1_enterDividend_30 ⟨Nat.le_refl _, Nat.le_refl _⟩ (fun I4 hf H locs hR hS => ?_)
  refine lv_aload_n hC.1 hC.2.1 dX1_enterDividend_33 rfl (lv_at hl 1 rfl) ?_
  refine x_get (v := .ref (xz G + 22)) hC xf_X1_45 (xce_1 G kp _ _) rfl hR dX1_enterDividend_34 ?_
  refine lv_iload hC.1 hC.2.1 dX1_enterDividend_37 (lv_at hl 0 rfl) ?_
  refine lv_iconst (v := 1) hC.1 hC.2.1 dX1_enterDividend_39 (by decide) ?_
  refine lv_iload_n hC.1 hC.2.1 dX1_enterDividend_40 rfl (lv_at hl 3 rfl) ?_
  refine x_cvv10 (rest := []) hC xy_X8_put tw_647 hf (fun _ h => M_X8_put_22 G l kp h) ⟨Nat.le_of_ble_eq_true rfl, Nat.le_of_ble_eq_true rfl⟩ (xce_22 G kp _ _) rfl rfl rfl (Nat.le_of_ble_eq_true rfl) hl.1 hR hS dX1_enterDividend_41 ⟨Nat.le_refl _, Nat.le_refl _⟩ (fun I5 hf H locs hR hS => ?_)
  refine lv_aload_n hC.1 hC.2.1 dX1_enterDividend_44 rfl (lv_at hl 1 rfl) ?_
  refine x_get (v := .ref (xz G + 22)) hC xf_X1_45 (xce_1 G kp _ _) rfl hR dX1_enterDividend_45 ?_
  refine lv_iload hC.1 hC.2.1 dX1_enterDividend_48 (lv_at hl 0 rfl) ?_
  refine lv_iconst (v := 2) hC.1 hC.2.1 dX1_enterDividend_50 (by decide) ?_
  refine lv_iload_n hC.1 hC.2.1 dX1_enterDividend_51 rfl (lv_at hl 4 rfl) ?_
  refine x_cvv10 (rest := []) hC xy_X8_put tw_647 hf (fun _ h => M_X8_put_22 G l kp h) ⟨Nat.le_of_ble_eq_true rfl, Nat.le_of_ble_eq_true rfl⟩ (xce_22 G kp _ _) rfl rfl rfl (Nat.le_of_ble_eq_true rfl) hl.1 hR hS dX1_enterDividend_52 ⟨Nat.le_refl _, Nat.le_refl _⟩ (fun I6 hf H locs hR hS => ?_)
  refine lv_aload_n hC.1 hC.2.1 dX1_enterDividend_55 rfl (lv_at hl 1 rfl) ?_
  refine x_get (v := .ref (xz G + 22)) hC xf_X1_45 (xce_1 G kp _ _) rfl hR dX1_enterDividend_56 ?_
  refine x_getI hC xf_X1_62 (xce_22 G kp _ _) rfl hR dX1_enterDividend_59 hf (fun v7 hf => ?_)
  cases hf
  exact x_iret hC hR hS dX1_enterDividend_62
set_option maxRecDepth 20000 in
theorem W_X10_dividend_j43 {G : XG} {l : Launch} {kp : Bool} {p : Program} {e : Env} {s : State} {m : MethodId} {args : Array Value} {below : List Frame} {meth : Method} {c : Code} (hC : xC G p s m args meth c cX10_dividend 4 RX10 (some .int)) {I : xTI} {L : xTL} {r : Int32} {rI : xTI} (hf : F_X10_dividend_j43 I = some (r, rI)) : ∀ (H : Heap) (locs : List Loc) (ls : Array Slot), xRep G kp I L H → xS G s.heap H locs → lv_has ls 4 [(0, .ref (xz G + 0))] → W p l e (xrm 2 48) s m args below meth c H locs 0 0 (xMQ G kp below args s (some (.int r)) rI L) (F0 m 43 ls []) := by
  intro H locs ls hR hS hl
  unfold F_X10_dividend_j43 at hf
  refine lv_aload_n hC.1 hC.2.1 dX10_dividend_43 rfl (lv_at hl 0 rfl) ?_
  refine lv_bipush (v := (-7)) hC.1 hC.2.1 dX10_dividend_44 (by decide) ?_
  refine x_cvi10 (rest := []) hC xy_X10_refuse tw_411 hf (fun _ _ h => M_X10_refuse G l kp h) ⟨Nat.le_of_ble_eq_true rfl, Nat.le_of_ble_eq_true rfl⟩ (xce_0 G kp _ _) rfl rfl rfl (Nat.le_of_ble_eq_true rfl) hl.1 hR hS dX10_dividend_46 ⟨Nat.le_refl _, Nat.le_refl _⟩ (fun v1 I2 hf H locs hR hS => ?_)
  cases hf
  exact x_iret hC hR hS dX10_dividend_49
set_option maxRecDepth 20000 in
theorem M_X10_dividend (G : XG) (l : Launch) (kp : Bool) {I : xTI} {L : xTL} {x1 : Int32} {x2 : Int32} {x3 : Int32} {r : Int32} {rI : xTI} (hf : F_X10_dividend I x1 x2 x3 = some (r, rI)) : xMet G l yX10_dividend cX10_dividend 4 (some .int) 2 48 kp [.ref (xz G + 0), .int x1, .int x2, .int x3] I L (some (.int r)) rI L := by
  refine xMet.ofW (by decide +kernel) (Nat.le_of_ble_eq_true rfl) ?_
  intro p e s m args below meth c hC H locs ls hR hS hl
  replace hC : xC G p s m args meth c cX10_dividend 4 RX10 (some .int) := hC
  replace hl : lv_has ls 4 [(0, .ref (xz G + 0)), (1, .int x1), (2, .int x2), (3, .int x3)] := hl
  unfold F_X10_dividend at hf
  refine lv_aload_n hC.1 hC.2.1 dX10_dividend_0 rfl (lv_at hl 0 rfl) ?_
  refine lv_iload_n hC.1 hC.2.1 dX10_dividend_1 rfl (lv_at hl 1 rfl) ?_
  refine x_cvi00 (rest := []) hC xy_X10_isStock tw_431 hf (fun _ h => M_X10_isStock G l kp h) ⟨Nat.le_of_ble_eq_true rfl, Nat.le_of_ble_eq_true rfl⟩ (xce_0 G kp _ _) rfl rfl rfl (Nat.le_of_ble_eq_true rfl) hl.1 hR hS dX10_dividend_2 ⟨Nat.le_refl _, Nat.le_refl _⟩ (fun v1 hf H locs hR hS => ?_)
  refine x_if_ne (tgt := 15) hC dX10_dividend_5 (by decide) hf (fun hf => ?_) (fun hf => ?_)
  · refine lv_iload_n hC.1 hC.2.1 dX10_dividend_15 rfl (lv_at hl 2 rfl) ?_
    refine lv_aload_n hC.1 hC.2.1 dX10_dividend_16 rfl (lv_at hl 0 rfl) ?_
    refine x_get (v := .ref (xz G + 1)) hC xf_X10_10 (xce_0 G kp _ _) rfl hR dX10_dividend_17 ?_
    refine x_getI hC xf_X10_164 (xce_1 G kp _ _) rfl hR dX10_dividend_20 hf (fun v2 hf => ?_)
    refine lv_sipush (v := 699) hC.1 hC.2.1 dX10_dividend_23 (by decide) ?_
    refine x_csi00 (rest := []) hC xy_X10_isWithin tw_408 hf (fun _ h => M_X10_isWithin G l kp h) ⟨Nat.le_of_ble_eq_true rfl, Nat.le_of_ble_eq_true rfl⟩ rfl rfl (Nat.le_of_ble_eq_true rfl) hl.1 hR hS dX10_dividend_26 ⟨Nat.le_refl _, Nat.le_refl _⟩ (fun v3 hf H locs hR hS => ?_)
    refine x_if_eq (tgt := 43) hC dX10_dividend_29 (by decide) hf (fun hf => ?_) (fun hf => ?_)
    · exact W_X10_dividend_j43 hC hf _ _ _ hR hS (lv_sub hl [0] rfl)
    · refine lv_iload_n hC.1 hC.2.1 dX10_dividend_32 rfl (lv_at hl 3 rfl) ?_
      refine lv_iconst (v := 1) hC.1 hC.2.1 dX10_dividend_33 (by decide) ?_
      refine lv_sipush (v := 999) hC.1 hC.2.1 dX10_dividend_34 (by decide) ?_
      refine x_csi00 (rest := []) hC xy_X10_isWithin tw_408 hf (fun _ h => M_X10_isWithin G l kp h) ⟨Nat.le_of_ble_eq_true rfl, Nat.le_of_ble_eq_true rfl⟩ rfl rfl (Nat.le_of_ble_eq_true rfl) hl.1 hR hS dX10_dividend_37 ⟨Nat.le_refl _, Nat.le_refl _⟩ (fun v4 hf H locs hR hS => ?_)
      refine x_if_ne (tgt := 50) hC dX10_dividend_40 (by decide) hf (fun hf => ?_) (fun hf => ?_)
      · refine lv_aload_n hC.1 hC.2.1 dX10_dividend_50 rfl (lv_at hl 0 rfl) ?_
        refine x_get (v := .ref (xz G + 1)) hC xf_X10_10 (xce_0 G kp _ _) rfl hR dX10_dividend_51 ?_
        refine x_get (v := .ref (xz G + 22)) hC xf_X10_238 (xce_1 G kp _ _) rfl hR dX10_dividend_54 ?_
        refine x_cvi00 (rest := []) hC xy_X8_hasRoom tw_639 hf (fun _ h => M_X8_hasRoom_22 G l kp h) ⟨Nat.le_of_ble_eq_true rfl, Nat.le_of_ble_eq_true rfl⟩ (xce_22 G kp _ _) rfl rfl rfl (Nat.le_of_ble_eq_true rfl) hl.1 hR hS dX10_dividend_57 ⟨Nat.le_refl _, Nat.le_refl _⟩ (fun v5 hf H locs hR hS => ?_)
        refine x_if_ne (tgt := 70) hC dX10_dividend_60 (by decide) hf (fun hf => ?_) (fun hf => ?_)
        · refine lv_aload_n hC.1 hC.2.1 dX10_dividend_70 rfl (lv_at hl 0 rfl) ?_
          refine x_get (v := .ref (xz G + 1)) hC xf_X10_10 (xce_0 G kp _ _) rfl hR dX10_dividend_71 ?_
          refine lv_iload_n hC.1 hC.2.1 dX10_dividend_74 rfl (lv_at hl 1 rfl) ?_
          refine lv_iload_n hC.1 hC.2.1 dX10_dividend_75 rfl (lv_at hl 2 rfl) ?_
          refine lv_iload_n hC.1 hC.2.1 dX10_dividend_76 rfl (lv_at hl 3 rfl) ?_
          refine x_cvi10 (rest := []) hC xy_X1_enterDividend tw_680 hf (fun _ _ h => M_X1_enterDividend G l kp h) ⟨Nat.le_of_ble_eq_true rfl, Nat.le_of_ble_eq_true rfl⟩ (xce_1 G kp _ _) rfl rfl rfl (Nat.le_of_ble_eq_true rfl) hl.1 hR hS dX10_dividend_77 ⟨Nat.le_refl _, Nat.le_refl _⟩ (fun v6 I7 hf H locs hR hS => ?_)
          cases hf
          exact x_iret hC hR hS dX10_dividend_80
        · refine lv_aload_n hC.1 hC.2.1 dX10_dividend_63 rfl (lv_at hl 0 rfl) ?_
          refine lv_bipush (v := (-8)) hC.1 hC.2.1 dX10_dividend_64 (by decide) ?_
          refine x_cvi10 (rest := []) hC xy_X10_refuse tw_411 hf (fun _ _ h => M_X10_refuse G l kp h) ⟨Nat.le_of_ble_eq_true rfl, Nat.le_of_ble_eq_true rfl⟩ (xce_0 G kp _ _) rfl rfl rfl (Nat.le_of_ble_eq_true rfl) hl.1 hR hS dX10_dividend_66 ⟨Nat.le_refl _, Nat.le_refl _⟩ (fun v8 I9 hf H locs hR hS => ?_)
          cases hf
          exact x_iret hC hR hS dX10_dividend_69
      · exact W_X10_dividend_j43 hC hf _ _ _ hR hS (lv_sub hl [0] rfl)
  · refine lv_aload_n hC.1 hC.2.1 dX10_dividend_8 rfl (lv_at hl 0 rfl) ?_
    refine lv_bipush (v := (-3)) hC.1 hC.2.1 dX10_dividend_9 (by decide) ?_
    refine x_cvi10 (rest := []) hC xy_X10_refuse tw_411 hf (fun _ _ h => M_X10_refuse G l kp h) ⟨Nat.le_of_ble_eq_true rfl, Nat.le_of_ble_eq_true rfl⟩ (xce_0 G kp _ _) rfl rfl rfl (Nat.le_of_ble_eq_true rfl) hl.1 hR hS dX10_dividend_11 ⟨Nat.le_refl _, Nat.le_refl _⟩ (fun v10 I11 hf H locs hR hS => ?_)
    cases hf
    exact x_iret hC hR hS dX10_dividend_14
set_option maxRecDepth 20000 in
theorem W_X9_append_l4 {G : XG} {l : Launch} {kp : Bool} {p : Program} {e : Env} {s : State} {m : MethodId} {args : Array Value} {below : List Frame} {meth : Method} {c : Code} (hC : xC G p s m args meth c cX9_append 4 RX9 none) (N : Nat) {L : xTL} {rI : xTI} {x1 : Int32} : ∀ (n : Nat) (x3 : Int32) (I : xTI) , xlp (F_X9_append_b4 N x1 ) n (x3, I) = some rI → ∀ (H : Heap) (locs : List Loc) (ls : Array Slot), xRep G kp I L H → xS G s.heap H locs → lv_has ls 4 [(0, .ref (xz G + 29)), (1, .int x1), (3, .int x3)] → W p l e (xrm 0 0) s m args below meth c H locs 0 0 (xMQ G kp below args s none rI L) (F0 m 4 ls []) := by
  intro n
  induction n with
  | zero =>
    intro x3 I hf
    cases hf
  | succ n hk4 =>
    intro x3 I hf H locs ls hR hS hl
    replace hf : F_X9_append_c4 N x1 x3 I (xlp (F_X9_append_b4 N x1 ) n) = some rI := hf
    unfold F_X9_append_c4 at hf
    refine lv_iload_n hC.1 hC.2.1 dX9_append_4 rfl (lv_at hl 2 rfl) ?_
    refine x_if_lt (tgt := 52) hC dX9_append_5 (by decide) hf (fun hf => ?_) (fun hf => ?_)
    · cases hf
      exact x_vret hC hR hS dX9_append_52
    · refine lv_aload_n hC.1 hC.2.1 dX9_append_8 rfl (lv_at hl 0 rfl) ?_
      refine x_getI hC xf_X9_18 (xce_29 G kp _ _) rfl hR dX9_append_9 hf (fun v1 hf => ?_)
      refine lv_bipush (v := 120) hC.1 hC.2.1 dX9_append_12 (by decide) ?_
      refine x_ic_ge (tgt := 52) hC dX9_append_14 (by decide) hf (fun hf => ?_) (fun hf => ?_)
      · cases hf
        exact x_vret hC hR hS dX9_append_52
      · refine lv_aload_n hC.1 hC.2.1 dX9_append_17 rfl (lv_at hl 0 rfl) ?_
        refine x_get (v := .ref (xz G + 30)) hC xf_X9_9 (xce_29 G kp _ _) rfl hR dX9_append_18 ?_
        refine lv_aload_n hC.1 hC.2.1 dX9_append_21 rfl (lv_at hl 0 rfl) ?_
        refine x_getI hC xf_X9_18 (xce_29 G kp _ _) rfl hR dX9_append_22 hf (fun v2 hf => ?_)
        refine lv_iload_n hC.1 hC.2.1 dX9_append_25 rfl (lv_at hl 1 rfl) ?_
        refine lv_bipush (v := 8) hC.1 hC.2.1 dX9_append_26 (by decide) ?_
        refine lv_iload_n hC.1 hC.2.1 dX9_append_28 rfl (lv_at hl 2 rfl) ?_
        refine lv_imul hC.1 hC.2.1 dX9_append_29 ?_
        refine lv_iushr hC.1 hC.2.1 dX9_append_30 rfl ?_
        refine lv_sipush (v := 255) hC.1 hC.2.1 dX9_append_31 (by decide) ?_
        refine lv_iand hC.1 hC.2.1 dX9_append_34 ?_
        refine x_ias hC (fun f => xce_30 G kp f _) hR hS dX9_append_35 hf (fun I3 hf H locs hR hS => ?_)
        refine lv_aload_n hC.1 hC.2.1 dX9_append_36 rfl (lv_at hl 0 rfl) ?_
        refine lv_dup hC.1 hC.2.1 dX9_append_37 rfl ?_
        refine x_getI hC xf_X9_18 (xce_29 G kp _ _) rfl hR dX9_append_38 hf (fun v4 hf => ?_)
        refine lv_iconst (v := 1) hC.1 hC.2.1 dX9_append_41 (by decide) ?_
        refine lv_iadd hC.1 hC.2.1 dX9_append_42 ?_
        refine x_putI hC xf_X9_18 xp_9_0 (fun f => xce_29 G kp f _) rfl (Nat.le_of_ble_eq_true rfl) hR hS dX9_append_43 hf (fun I5 hf H locs hR hS => ?_)
        refine x_iinc (d := (-1)) (lv' := fun y6 => [(3, .int y6), (0, .ref (xz G + 29)), (1, .int x1)]) (k := 2) hC hl dX9_append_46 rfl (by decide) (Nat.le_of_ble_eq_true rfl) hf (fun _ => rfl) (fun y6 hf ls hl => ?_)
        refine lv_goto (tgt := 4) hC.1 hC.2.1 dX9_append_49 (by decide) ?_
        exact hk4 y6 I5 hf _ _ _ hR hS (lv_sub hl [1, 2, 0] rfl)
set_option maxRecDepth 20000 in
theorem M_X9_append (G : XG) (l : Launch) (kp : Bool) (N : Nat) {I : xTI} {L : xTL} {x1 : Int32} {x2 : Int32} {rI : xTI} (hf : F_X9_append N I x1 x2 = some rI) : xMet G l yX9_append cX9_append 4 none 0 0 kp [.ref (xz G + 29), .int x1, .int x2] I L none rI L := by
  refine xMet.ofW (by decide +kernel) (Nat.le_of_ble_eq_true rfl) ?_
  intro p e s m args below meth c hC H locs ls hR hS hl
  replace hC : xC G p s m args meth c cX9_append 4 RX9 none := hC
  replace hl : lv_has ls 4 [(0, .ref (xz G + 29)), (1, .int x1), (2, .int x2)] := hl
  unfold F_X9_append at hf
  refine lv_iload_n hC.1 hC.2.1 dX9_append_0 rfl (lv_at hl 2 rfl) ?_
  refine lv_iconst (v := 1) hC.1 hC.2.1 dX9_append_1 (by decide) ?_
  refine lv_isub hC.1 hC.2.1 dX9_append_2 ?_
  refine x_istn (lv' := fun y1 => [(3, .int y1), (0, .ref (xz G + 29)), (1, .int x1), (2, .int x2)]) hC hl dX9_append_3 rfl (Nat.le_of_ble_eq_true rfl) hf (fun _ => rfl) (fun y1 hf ls hl => ?_)
  exact W_X9_append_l4 hC N _ y1 I hf _ _ _ hR hS (lv_sub hl [1, 2, 0] rfl)
set_option maxRecDepth 20000 in
theorem M_X10_feed (G : XG) (l : Launch) (kp : Bool) (N : Nat) {I : xTI} {L : xTL} {x1 : Int32} {x2 : Int32} {r : Int32} {rI : xTI} (hf : F_X10_feed N I x1 x2 = some (r, rI)) : xMet G l yX10_feed cX10_feed 3 (some .int) 1 23 kp [.ref (xz G + 0), .int x1, .int x2] I L (some (.int r)) rI L := by
  refine xMet.ofW (by decide +kernel) (Nat.le_of_ble_eq_true rfl) ?_
  intro p e s m args below meth c hC H locs ls hR hS hl
  replace hC : xC G p s m args meth c cX10_feed 3 RX10 (some .int) := hC
  replace hl : lv_has ls 3 [(0, .ref (xz G + 0)), (1, .int x1), (2, .int x2)] := hl
  unfold F_X10_feed at hf
  refine lv_iload_n hC.1 hC.2.1 dX10_feed_0 rfl (lv_at hl 2 rfl) ?_
  refine x_if_ge (tgt := 11) hC dX10_feed_1 (by decide) hf (fun hf => ?_) (fun hf => ?_)
  · refine lv_iload_n hC.1 hC.2.1 dX10_feed_11 rfl (lv_at hl 2 rfl) ?_
    refine lv_iconst (v := 4) hC.1 hC.2.1 dX10_feed_12 (by decide) ?_
    refine x_ic_le (tgt := 23) hC dX10_feed_13 (by decide) hf (fun hf => ?_) (fun hf => ?_)
    · refine lv_aload_n hC.1 hC.2.1 dX10_feed_23 rfl (lv_at hl 0 rfl) ?_
      refine x_get (v := .ref (xz G + 29)) hC xf_X10_22 (xce_0 G kp _ _) rfl hR dX10_feed_24 ?_
      refine x_getI hC xf_X10_244 (xce_29 G kp _ _) rfl hR dX10_feed_27 hf (fun v1 hf => ?_)
      refine lv_iload_n hC.1 hC.2.1 dX10_feed_30 rfl (lv_at hl 2 rfl) ?_
      refine lv_iadd hC.1 hC.2.1 dX10_feed_31 ?_
      refine lv_bipush (v := 120) hC.1 hC.2.1 dX10_feed_32 (by decide) ?_
      refine x_ic_le (tgt := 44) hC dX10_feed_34 (by decide) hf (fun hf => ?_) (fun hf => ?_)
      · refine lv_aload_n hC.1 hC.2.1 dX10_feed_44 rfl (lv_at hl 0 rfl) ?_
        refine x_get (v := .ref (xz G + 29)) hC xf_X10_22 (xce_0 G kp _ _) rfl hR dX10_feed_45 ?_
        refine lv_iload_n hC.1 hC.2.1 dX10_feed_48 rfl (lv_at hl 1 rfl) ?_
        refine lv_iload_n hC.1 hC.2.1 dX10_feed_49 rfl (lv_at hl 2 rfl) ?_
        refine x_cvv10 (rest := []) hC xy_X9_append tw_688 hf (fun _ h => M_X9_append G l kp N h) ⟨Nat.le_of_ble_eq_true rfl, Nat.le_of_ble_eq_true rfl⟩ (xce_29 G kp _ _) rfl rfl rfl (Nat.le_of_ble_eq_true rfl) hl.1 hR hS dX10_feed_50 ⟨Nat.le_refl _, Nat.le_refl _⟩ (fun I2 hf H locs hR hS => ?_)
        refine lv_aload_n hC.1 hC.2.1 dX10_feed_53 rfl (lv_at hl 0 rfl) ?_
        refine x_get (v := .ref (xz G + 29)) hC xf_X10_22 (xce_0 G kp _ _) rfl hR dX10_feed_54 ?_
        refine x_getI hC xf_X10_244 (xce_29 G kp _ _) rfl hR dX10_feed_57 hf (fun v3 hf => ?_)
        cases hf
        exact x_iret hC hR hS dX10_feed_60
      · refine lv_aload_n hC.1 hC.2.1 dX10_feed_37 rfl (lv_at hl 0 rfl) ?_
        refine lv_bipush (v := (-8)) hC.1 hC.2.1 dX10_feed_38 (by decide) ?_
        refine x_cvi10 (rest := []) hC xy_X10_refuse tw_411 hf (fun _ _ h => M_X10_refuse G l kp h) ⟨Nat.le_of_ble_eq_true rfl, Nat.le_of_ble_eq_true rfl⟩ (xce_0 G kp _ _) rfl rfl rfl (Nat.le_of_ble_eq_true rfl) hl.1 hR hS dX10_feed_40 ⟨Nat.le_refl _, Nat.le_refl _⟩ (fun v4 I5 hf H locs hR hS => ?_)
        cases hf
        exact x_iret hC hR hS dX10_feed_43
    · refine lv_aload_n hC.1 hC.2.1 dX10_feed_16 rfl (lv_at hl 0 rfl) ?_
      refine lv_bipush (v := (-7)) hC.1 hC.2.1 dX10_feed_17 (by decide) ?_
      refine x_cvi10 (rest := []) hC xy_X10_refuse tw_411 hf (fun _ _ h => M_X10_refuse G l kp h) ⟨Nat.le_of_ble_eq_true rfl, Nat.le_of_ble_eq_true rfl⟩ (xce_0 G kp _ _) rfl rfl rfl (Nat.le_of_ble_eq_true rfl) hl.1 hR hS dX10_feed_19 ⟨Nat.le_refl _, Nat.le_refl _⟩ (fun v6 I7 hf H locs hR hS => ?_)
      cases hf
      exact x_iret hC hR hS dX10_feed_22
  · refine lv_aload_n hC.1 hC.2.1 dX10_feed_4 rfl (lv_at hl 0 rfl) ?_
    refine lv_bipush (v := (-4)) hC.1 hC.2.1 dX10_feed_5 (by decide) ?_
    refine x_cvi10 (rest := []) hC xy_X10_refuse tw_411 hf (fun _ _ h => M_X10_refuse G l kp h) ⟨Nat.le_of_ble_eq_true rfl, Nat.le_of_ble_eq_true rfl⟩ (xce_0 G kp _ _) rfl rfl rfl (Nat.le_of_ble_eq_true rfl) hl.1 hR hS dX10_feed_7 ⟨Nat.le_refl _, Nat.le_refl _⟩ (fun v8 I9 hf H locs hR hS => ?_)
    cases hf
    exact x_iret hC hR hS dX10_feed_10
set_option maxRecDepth 20000 in
theorem M_X10_wipe (G : XG) (l : Launch) (kp : Bool) {I : xTI} {L : xTL} {r : Int32} {rI : xTI} (hf : F_X10_wipe I = some (r, rI)) : xMet G l yX10_wipe cX10_wipe 2 (some .int) 0 0 kp [.ref (xz G + 0)] I L (some (.int r)) rI L := by
  refine xMet.ofW (by decide +kernel) (Nat.le_of_ble_eq_true rfl) ?_
  intro p e s m args below meth c hC H locs ls hR hS hl
  replace hC : xC G p s m args meth c cX10_wipe 2 RX10 (some .int) := hC
  replace hl : lv_has ls 2 [(0, .ref (xz G + 0))] := hl
  unfold F_X10_wipe at hf
  refine lv_aload_n hC.1 hC.2.1 dX10_wipe_0 rfl (lv_at hl 0 rfl) ?_
  refine x_get (v := .ref (xz G + 29)) hC xf_X10_22 (xce_0 G kp _ _) rfl hR dX10_wipe_1 ?_
  refine x_getI hC xf_X10_244 (xce_29 G kp _ _) rfl hR dX10_wipe_4 hf (fun v1 hf => ?_)
  refine lv_istore_n (lv' := [(1, .int v1), (0, .ref (xz G + 0))]) hC.1 hC.2.1 dX10_wipe_7 rfl hl (Nat.le_of_ble_eq_true rfl) rfl (fun ls hl => ?_)
  refine lv_aload_n hC.1 hC.2.1 dX10_wipe_8 rfl (lv_at hl 1 rfl) ?_
  refine x_get (v := .ref (xz G + 29)) hC xf_X10_22 (xce_0 G kp _ _) rfl hR dX10_wipe_9 ?_
  refine lv_iconst (v := 0) hC.1 hC.2.1 dX10_wipe_12 (by decide) ?_
  refine x_putI hC xf_X10_244 xp_9_0 (fun f => xce_29 G kp f _) rfl (Nat.le_of_ble_eq_true rfl) hR hS dX10_wipe_13 hf (fun I2 hf H locs hR hS => ?_)
  refine lv_iload_n hC.1 hC.2.1 dX10_wipe_16 rfl (lv_at hl 0 rfl) ?_
  cases hf
  exact x_iret hC hR hS dX10_wipe_17
set_option maxRecDepth 20000 in
theorem M_X8_hasRoom_15 (G : XG) (l : Launch) (kp : Bool) {I : xTI} {L : xTL} {r : Int32} (hf : F_X8_hasRoom_15 I = some r) : xMet G l yX8_hasRoom cX8_hasRoom 1 (some .boolean) 0 0 kp [.ref (xz G + 15)] I L (some (.int r)) I L := by
  refine xMet.ofW (by decide +kernel) (Nat.le_of_ble_eq_true rfl) ?_
  intro p e s m args below meth c hC H locs ls hR hS hl
  replace hC : xC G p s m args meth c cX8_hasRoom 1 RX8 (some .boolean) := hC
  replace hl : lv_has ls 1 [(0, .ref (xz G + 15))] := hl
  unfold F_X8_hasRoom_15 at hf
  refine lv_aload_n hC.1 hC.2.1 dX8_hasRoom_0 rfl (lv_at hl 0 rfl) ?_
  refine x_getI hC xf_X8_20 (xce_15 G kp _ _) rfl hR dX8_hasRoom_1 hf (fun v1 hf => ?_)
  refine lv_aload_n hC.1 hC.2.1 dX8_hasRoom_4 rfl (lv_at hl 0 rfl) ?_
  refine x_get (v := .int 12) hC xf_X8_7 (xce_15 G kp _ _) rfl hR dX8_hasRoom_5 ?_
  refine x_ic_ge (tgt := 15) hC dX8_hasRoom_8 (by decide) hf (fun hf => ?_) (fun hf => ?_)
  · refine lv_iconst (v := 0) hC.1 hC.2.1 dX8_hasRoom_15 (by decide) ?_
    obtain ⟨h01, hf⟩ := xzc_some hf
    cases hf
    exact x_zret h01 hC hR hS dX8_hasRoom_16
  · refine lv_iconst (v := 1) hC.1 hC.2.1 dX8_hasRoom_11 (by decide) ?_
    refine lv_goto (tgt := 16) hC.1 hC.2.1 dX8_hasRoom_12 (by decide) ?_
    obtain ⟨h01, hf⟩ := xzc_some hf
    cases hf
    exact x_zret h01 hC hR hS dX8_hasRoom_16
set_option maxRecDepth 20000 in
theorem M_X9_byteAt (G : XG) (l : Launch) (kp : Bool) {I : xTI} {L : xTL} {x1 : Int32} {r : Int32} (hf : F_X9_byteAt I x1 = some r) : xMet G l yX9_byteAt cX9_byteAt 2 (some .int) 0 0 kp [.ref (xz G + 29), .int x1] I L (some (.int r)) I L := by
  refine xMet.ofW (by decide +kernel) (Nat.le_of_ble_eq_true rfl) ?_
  intro p e s m args below meth c hC H locs ls hR hS hl
  replace hC : xC G p s m args meth c cX9_byteAt 2 RX9 (some .int) := hC
  replace hl : lv_has ls 2 [(0, .ref (xz G + 29)), (1, .int x1)] := hl
  unfold F_X9_byteAt at hf
  refine lv_iload_n hC.1 hC.2.1 dX9_byteAt_0 rfl (lv_at hl 1 rfl) ?_
  refine x_if_lt (tgt := 27) hC dX9_byteAt_1 (by decide) hf (fun hf => ?_) (fun hf => ?_)
  · refine lv_iconst (v := 0) hC.1 hC.2.1 dX9_byteAt_27 (by decide) ?_
    cases hf
    exact x_iret hC hR hS dX9_byteAt_28
  · refine lv_iload_n hC.1 hC.2.1 dX9_byteAt_4 rfl (lv_at hl 1 rfl) ?_
    refine lv_aload_n hC.1 hC.2.1 dX9_byteAt_5 rfl (lv_at hl 0 rfl) ?_
    refine x_getI hC xf_X9_18 (xce_29 G kp _ _) rfl hR dX9_byteAt_6 hf (fun v1 hf => ?_)
    refine x_ic_ge (tgt := 27) hC dX9_byteAt_9 (by decide) hf (fun hf => ?_) (fun hf => ?_)
    · refine lv_iconst (v := 0) hC.1 hC.2.1 dX9_byteAt_27 (by decide) ?_
      cases hf
      exact x_iret hC hR hS dX9_byteAt_28
    · refine lv_iload_n hC.1 hC.2.1 dX9_byteAt_12 rfl (lv_at hl 1 rfl) ?_
      refine lv_bipush (v := 120) hC.1 hC.2.1 dX9_byteAt_13 (by decide) ?_
      refine x_ic_ge (tgt := 27) hC dX9_byteAt_15 (by decide) hf (fun hf => ?_) (fun hf => ?_)
      · refine lv_iconst (v := 0) hC.1 hC.2.1 dX9_byteAt_27 (by decide) ?_
        cases hf
        exact x_iret hC hR hS dX9_byteAt_28
      · refine lv_aload_n hC.1 hC.2.1 dX9_byteAt_18 rfl (lv_at hl 0 rfl) ?_
        refine x_get (v := .ref (xz G + 30)) hC xf_X9_9 (xce_29 G kp _ _) rfl hR dX9_byteAt_19 ?_
        refine lv_iload_n hC.1 hC.2.1 dX9_byteAt_22 rfl (lv_at hl 1 rfl) ?_
        refine x_ial hC (xce_30 G kp _ _) hR dX9_byteAt_23 hf (fun v2 hf => ?_)
        refine lv_goto (tgt := 28) hC.1 hC.2.1 dX9_byteAt_24 (by decide) ?_
        cases hf
        exact x_iret hC hR hS dX9_byteAt_28
set_option maxRecDepth 20000 in
theorem W_X9_skipLetters_l2 {G : XG} {l : Launch} {kp : Bool} {p : Program} {e : Env} {s : State} {m : MethodId} {args : Array Value} {below : List Frame} {meth : Method} {c : Code} (hC : xC G p s m args meth c cX9_skipLetters 2 RX9 none) (N : Nat) {L : xTL} {rI : xTI} : ∀ (n : Nat) (x1 : Int32) (I : xTI) , xlp (F_X9_skipLetters_b2 N ) n (x1, I) = some rI → ∀ (H : Heap) (locs : List Loc) (ls : Array Slot), xRep G kp I L H → xS G s.heap H locs → lv_has ls 2 [(0, .ref (xz G + 29)), (1, .int x1)] → W p l e (xrm 1 21) s m args below meth c H locs 0 0 (xMQ G kp below args s none rI L) (F0 m 2 ls []) := by
  intro n
  induction n with
  | zero =>
    intro x1 I hf
    cases hf
  | succ n hk2 =>
    intro x1 I hf H locs ls hR hS hl
    replace hf : F_X9_skipLetters_c2 N x1 I (xlp (F_X9_skipLetters_b2 N ) n) = some rI := hf
    unfold F_X9_skipLetters_c2 at hf
    refine lv_iload_n hC.1 hC.2.1 dX9_skipLetters_2 rfl (lv_at hl 1 rfl) ?_
    refine lv_bipush (v := 120) hC.1 hC.2.1 dX9_skipLetters_3 (by decide) ?_
    refine x_ic_ge (tgt := 50) hC dX9_skipLetters_5 (by decide) hf (fun hf => ?_) (fun hf => ?_)
    · cases hf
      exact x_vret hC hR hS dX9_skipLetters_50
    · refine lv_aload_n hC.1 hC.2.1 dX9_skipLetters_8 rfl (lv_at hl 0 rfl) ?_
      refine lv_aload_n hC.1 hC.2.1 dX9_skipLetters_9 rfl (lv_at hl 0 rfl) ?_
      refine x_getI hC xf_X9_22 (xce_29 G kp _ _) rfl hR dX9_skipLetters_10 hf (fun v1 hf => ?_)
      refine x_cvi00 (rest := []) hC xy_X9_byteAt tw_708 hf (fun _ h => M_X9_byteAt G l kp h) ⟨Nat.le_of_ble_eq_true rfl, Nat.le_of_ble_eq_true rfl⟩ (xce_29 G kp _ _) rfl rfl rfl (Nat.le_of_ble_eq_true rfl) hl.1 hR hS dX9_skipLetters_13 ⟨Nat.le_refl _, Nat.le_refl _⟩ (fun v2 hf H locs hR hS => ?_)
      refine lv_bipush (v := 97) hC.1 hC.2.1 dX9_skipLetters_16 (by decide) ?_
      refine x_ic_lt (tgt := 50) hC dX9_skipLetters_18 (by decide) hf (fun hf => ?_) (fun hf => ?_)
      · cases hf
        exact x_vret hC hR hS dX9_skipLetters_50
      · refine lv_aload_n hC.1 hC.2.1 dX9_skipLetters_21 rfl (lv_at hl 0 rfl) ?_
        refine lv_aload_n hC.1 hC.2.1 dX9_skipLetters_22 rfl (lv_at hl 0 rfl) ?_
        refine x_getI hC xf_X9_22 (xce_29 G kp _ _) rfl hR dX9_skipLetters_23 hf (fun v3 hf => ?_)
        refine x_cvi00 (rest := []) hC xy_X9_byteAt tw_708 hf (fun _ h => M_X9_byteAt G l kp h) ⟨Nat.le_of_ble_eq_true rfl, Nat.le_of_ble_eq_true rfl⟩ (xce_29 G kp _ _) rfl rfl rfl (Nat.le_of_ble_eq_true rfl) hl.1 hR hS dX9_skipLetters_26 ⟨Nat.le_refl _, Nat.le_refl _⟩ (fun v4 hf H locs hR hS => ?_)
        refine lv_bipush (v := 122) hC.1 hC.2.1 dX9_skipLetters_29 (by decide) ?_
        refine x_ic_gt (tgt := 50) hC dX9_skipLetters_31 (by decide) hf (fun hf => ?_) (fun hf => ?_)
        · cases hf
          exact x_vret hC hR hS dX9_skipLetters_50
        · refine lv_aload_n hC.1 hC.2.1 dX9_skipLetters_34 rfl (lv_at hl 0 rfl) ?_
          refine lv_dup hC.1 hC.2.1 dX9_skipLetters_35 rfl ?_
          refine x_getI hC xf_X9_22 (xce_29 G kp _ _) rfl hR dX9_skipLetters_36 hf (fun v5 hf => ?_)
          refine lv_iconst (v := 1) hC.1 hC.2.1 dX9_skipLetters_39 (by decide) ?_
          refine lv_iadd hC.1 hC.2.1 dX9_skipLetters_40 ?_
          refine x_putI hC xf_X9_22 xp_9_3 (fun f => xce_29 G kp f _) rfl (Nat.le_of_ble_eq_true rfl) hR hS dX9_skipLetters_41 hf (fun I6 hf H locs hR hS => ?_)
          refine x_iinc (d := 1) (lv' := fun y7 => [(1, .int y7), (0, .ref (xz G + 29))]) (k := 1) hC hl dX9_skipLetters_44 rfl (by decide) (Nat.le_of_ble_eq_true rfl) hf (fun _ => rfl) (fun y7 hf ls hl => ?_)
          refine lv_goto (tgt := 2) hC.1 hC.2.1 dX9_skipLetters_47 (by decide) ?_
          exact hk2 y7 I6 hf _ _ _ hR hS (lv_sub hl [1, 0] rfl)
set_option maxRecDepth 20000 in
theorem M_X9_skipLetters (G : XG) (l : Launch) (kp : Bool) (N : Nat) {I : xTI} {L : xTL} {rI : xTI} (hf : F_X9_skipLetters N I = some rI) : xMet G l yX9_skipLetters cX9_skipLetters 2 none 1 21 kp [.ref (xz G + 29)] I L none rI L := by
  refine xMet.ofW (by decide +kernel) (Nat.le_of_ble_eq_true rfl) ?_
  intro p e s m args below meth c hC H locs ls hR hS hl
  replace hC : xC G p s m args meth c cX9_skipLetters 2 RX9 none := hC
  replace hl : lv_has ls 2 [(0, .ref (xz G + 29))] := hl
  unfold F_X9_skipLetters at hf
  refine lv_iconst (v := 0) hC.1 hC.2.1 dX9_skipLetters_0 (by decide) ?_
  refine lv_istore_n (lv' := [(1, .int 0), (0, .ref (xz G + 29))]) hC.1 hC.2.1 dX9_skipLetters_1 rfl hl (Nat.le_of_ble_eq_true rfl) rfl (fun ls hl => ?_)
  exact W_X9_skipLetters_l2 hC N _ 0 I hf _ _ _ hR hS (lv_sub hl [1, 0] rfl)
set_option maxRecDepth 20000 in
theorem W_X10_bargainToldOf_j28 {G : XG} {l : Launch} {kp : Bool} {p : Program} {e : Env} {s : State} {m : MethodId} {args : Array Value} {below : List Frame} {meth : Method} {c : Code} (hC : xC G p s m args meth c cX10_bargainToldOf 3 RX10 (some .int)) {I : xTI} {L : xTL} {r : Int32} {x1 : Int32} {t0 : Int32} (hf : F_X10_bargainToldOf_j28 I x1 t0 = some r) : ∀ (H : Heap) (locs : List Loc) (ls : Array Slot), xRep G kp I L H → xS G s.heap H locs → lv_has ls 3 [(1, .int x1)] → W p l e (xrm 2 44) s m args below meth c H locs 0 0 (xMQ G kp below args s (some (.int r)) I L) (F0 m 28 ls [.int t0]) := by
  intro H locs ls hR hS hl
  unfold F_X10_bargainToldOf_j28 at hf
  refine lv_istore_n (lv' := [(2, .int t0), (1, .int x1)]) hC.1 hC.2.1 dX10_bargainToldOf_28 rfl hl (Nat.le_of_ble_eq_true rfl) rfl (fun ls hl => ?_)
  refine lv_iload_n hC.1 hC.2.1 dX10_bargainToldOf_29 rfl (lv_at hl 0 rfl) ?_
  refine x_if_eq (tgt := 40) hC dX10_bargainToldOf_30 (by decide) hf (fun hf => ?_) (fun hf => ?_)
  · refine lv_iconst (v := (-1)) hC.1 hC.2.1 dX10_bargainToldOf_40 (by decide) ?_
    cases hf
    exact x_iret hC hR hS dX10_bargainToldOf_41
  · refine lv_iload_n hC.1 hC.2.1 dX10_bargainToldOf_33 rfl (lv_at hl 1 rfl) ?_
    refine lv_bipush (v := 100) hC.1 hC.2.1 dX10_bargainToldOf_34 (by decide) ?_
    refine lv_isub hC.1 hC.2.1 dX10_bargainToldOf_36 ?_
    refine lv_goto (tgt := 41) hC.1 hC.2.1 dX10_bargainToldOf_37 (by decide) ?_
    cases hf
    exact x_iret hC hR hS dX10_bargainToldOf_41
set_option maxRecDepth 20000 in
theorem M_X10_bargainToldOf (G : XG) (l : Launch) (kp : Bool) {I : xTI} {L : xTL} {x1 : Int32} {r : Int32} (hf : F_X10_bargainToldOf I x1 = some r) : xMet G l yX10_bargainToldOf cX10_bargainToldOf 3 (some .int) 2 44 kp [.ref (xz G + 0), .int x1] I L (some (.int r)) I L := by
  refine xMet.ofW (by decide +kernel) (Nat.le_of_ble_eq_true rfl) ?_
  intro p e s m args below meth c hC H locs ls hR hS hl
  replace hC : xC G p s m args meth c cX10_bargainToldOf 3 RX10 (some .int) := hC
  replace hl : lv_has ls 3 [(0, .ref (xz G + 0)), (1, .int x1)] := hl
  unfold F_X10_bargainToldOf at hf
  refine lv_iload_n hC.1 hC.2.1 dX10_bargainToldOf_0 rfl (lv_at hl 1 rfl) ?_
  refine lv_bipush (v := 100) hC.1 hC.2.1 dX10_bargainToldOf_1 (by decide) ?_
  refine x_ic_lt (tgt := 27) hC dX10_bargainToldOf_3 (by decide) hf (fun hf => ?_) (fun hf => ?_)
  · refine lv_iconst (v := 0) hC.1 hC.2.1 dX10_bargainToldOf_27 (by decide) ?_
    exact W_X10_bargainToldOf_j28 hC hf _ _ _ hR hS (lv_sub hl [1] rfl)
  · refine lv_aload_n hC.1 hC.2.1 dX10_bargainToldOf_6 rfl (lv_at hl 0 rfl) ?_
    refine x_get (v := .ref (xz G + 1)) hC xf_X10_10 (xce_0 G kp _ _) rfl hR dX10_bargainToldOf_7 ?_
    refine x_get (v := .ref (xz G + 11)) hC xf_X10_119 (xce_1 G kp _ _) rfl hR dX10_bargainToldOf_10 ?_
    refine lv_iload_n hC.1 hC.2.1 dX10_bargainToldOf_13 rfl (lv_at hl 1 rfl) ?_
    refine lv_bipush (v := 100) hC.1 hC.2.1 dX10_bargainToldOf_14 (by decide) ?_
    refine lv_isub hC.1 hC.2.1 dX10_bargainToldOf_16 ?_
    refine x_cvi00 (rest := []) hC xy_X0_isThere tw_535 hf (fun _ h => M_X0_isThere G l kp h) ⟨Nat.le_of_ble_eq_true rfl, Nat.le_of_ble_eq_true rfl⟩ (xce_11 G kp _ _) rfl rfl rfl (Nat.le_of_ble_eq_true rfl) hl.1 hR hS dX10_bargainToldOf_17 ⟨Nat.le_refl _, Nat.le_refl _⟩ (fun v1 hf H locs hR hS => ?_)
    refine x_if_eq (tgt := 27) hC dX10_bargainToldOf_20 (by decide) hf (fun hf => ?_) (fun hf => ?_)
    · refine lv_iconst (v := 0) hC.1 hC.2.1 dX10_bargainToldOf_27 (by decide) ?_
      exact W_X10_bargainToldOf_j28 hC hf _ _ _ hR hS (lv_sub hl [1] rfl)
    · refine lv_iconst (v := 1) hC.1 hC.2.1 dX10_bargainToldOf_23 (by decide) ?_
      refine lv_goto (tgt := 28) hC.1 hC.2.1 dX10_bargainToldOf_24 (by decide) ?_
      exact W_X10_bargainToldOf_j28 hC hf _ _ _ hR hS (lv_sub hl [1] rfl)
set_option maxRecDepth 20000 in
theorem M_X10_isToldOf (G : XG) (l : Launch) (kp : Bool) {I : xTI} {L : xTL} {x1 : Int32} {r : Int32} (hf : F_X10_isToldOf I x1 = some r) : xMet G l yX10_isToldOf cX10_isToldOf 2 (some .boolean) 3 66 kp [.ref (xz G + 0), .int x1] I L (some (.int r)) I L := by
  refine xMet.ofW (by decide +kernel) (Nat.le_of_ble_eq_true rfl) ?_
  intro p e s m args below meth c hC H locs ls hR hS hl
  replace hC : xC G p s m args meth c cX10_isToldOf 2 RX10 (some .boolean) := hC
  replace hl : lv_has ls 2 [(0, .ref (xz G + 0)), (1, .int x1)] := hl
  unfold F_X10_isToldOf at hf
  refine lv_aload_n hC.1 hC.2.1 dX10_isToldOf_0 rfl (lv_at hl 0 rfl) ?_
  refine lv_iload_n hC.1 hC.2.1 dX10_isToldOf_1 rfl (lv_at hl 1 rfl) ?_
  refine x_cvi00 (rest := []) hC xy_X10_isStock tw_431 hf (fun _ h => M_X10_isStock G l kp h) ⟨Nat.le_of_ble_eq_true rfl, Nat.le_of_ble_eq_true rfl⟩ (xce_0 G kp _ _) rfl rfl rfl (Nat.le_of_ble_eq_true rfl) hl.1 hR hS dX10_isToldOf_2 ⟨Nat.le_refl _, Nat.le_refl _⟩ (fun v1 hf H locs hR hS => ?_)
  refine x_if_ne (tgt := 17) hC dX10_isToldOf_5 (by decide) hf (fun hf => ?_) (fun hf => ?_)
  · refine lv_iconst (v := 1) hC.1 hC.2.1 dX10_isToldOf_17 (by decide) ?_
    refine lv_goto (tgt := 22) hC.1 hC.2.1 dX10_isToldOf_18 (by decide) ?_
    obtain ⟨h01, hf⟩ := xzc_some hf
    cases hf
    exact x_zret h01 hC hR hS dX10_isToldOf_22
  · refine lv_aload_n hC.1 hC.2.1 dX10_isToldOf_8 rfl (lv_at hl 0 rfl) ?_
    refine lv_iload_n hC.1 hC.2.1 dX10_isToldOf_9 rfl (lv_at hl 1 rfl) ?_
    refine x_cvi00 (rest := []) hC xy_X10_bargainToldOf tw_821 hf (fun _ h => M_X10_bargainToldOf G l kp h) ⟨Nat.le_of_ble_eq_true rfl, Nat.le_of_ble_eq_true rfl⟩ (xce_0 G kp _ _) rfl rfl rfl (Nat.le_of_ble_eq_true rfl) hl.1 hR hS dX10_isToldOf_10 ⟨Nat.le_refl _, Nat.le_refl _⟩ (fun v2 hf H locs hR hS => ?_)
    refine lv_iconst (v := (-1)) hC.1 hC.2.1 dX10_isToldOf_13 (by decide) ?_
    refine x_ic_eq (tgt := 21) hC dX10_isToldOf_14 (by decide) hf (fun hf => ?_) (fun hf => ?_)
    · refine lv_iconst (v := 0) hC.1 hC.2.1 dX10_isToldOf_21 (by decide) ?_
      obtain ⟨h01, hf⟩ := xzc_some hf
      cases hf
      exact x_zret h01 hC hR hS dX10_isToldOf_22
    · refine lv_iconst (v := 1) hC.1 hC.2.1 dX10_isToldOf_17 (by decide) ?_
      refine lv_goto (tgt := 22) hC.1 hC.2.1 dX10_isToldOf_18 (by decide) ?_
      obtain ⟨h01, hf⟩ := xzc_some hf
      cases hf
      exact x_zret h01 hC hR hS dX10_isToldOf_22
set_option maxRecDepth 20000 in
theorem M_X10_stockToldOf (G : XG) (l : Launch) (kp : Bool) {I : xTI} {L : xTL} {x1 : Int32} {r : Int32} (hf : F_X10_stockToldOf I x1 = some r) : xMet G l yX10_stockToldOf cX10_stockToldOf 3 (some .int) 3 66 kp [.ref (xz G + 0), .int x1] I L (some (.int r)) I L := by
  refine xMet.ofW (by decide +kernel) (Nat.le_of_ble_eq_true rfl) ?_
  intro p e s m args below meth c hC H locs ls hR hS hl
  replace hC : xC G p s m args meth c cX10_stockToldOf 3 RX10 (some .int) := hC
  replace hl : lv_has ls 3 [(0, .ref (xz G + 0)), (1, .int x1)] := hl
  unfold F_X10_stockToldOf at hf
  refine lv_aload_n hC.1 hC.2.1 dX10_stockToldOf_0 rfl (lv_at hl 0 rfl) ?_
  refine lv_iload_n hC.1 hC.2.1 dX10_stockToldOf_1 rfl (lv_at hl 1 rfl) ?_
  refine x_cvi00 (rest := []) hC xy_X10_bargainToldOf tw_821 hf (fun _ h => M_X10_bargainToldOf G l kp h) ⟨Nat.le_of_ble_eq_true rfl, Nat.le_of_ble_eq_true rfl⟩ (xce_0 G kp _ _) rfl rfl rfl (Nat.le_of_ble_eq_true rfl) hl.1 hR hS dX10_stockToldOf_2 ⟨Nat.le_refl _, Nat.le_refl _⟩ (fun v1 hf H locs hR hS => ?_)
  refine lv_istore_n (lv' := [(2, .int v1), (0, .ref (xz G + 0)), (1, .int x1)]) hC.1 hC.2.1 dX10_stockToldOf_5 rfl hl (Nat.le_of_ble_eq_true rfl) rfl (fun ls hl => ?_)
  refine lv_iload_n hC.1 hC.2.1 dX10_stockToldOf_6 rfl (lv_at hl 0 rfl) ?_
  refine lv_iconst (v := (-1)) hC.1 hC.2.1 dX10_stockToldOf_7 (by decide) ?_
  refine x_ic_ne (tgt := 15) hC dX10_stockToldOf_8 (by decide) hf (fun hf => ?_) (fun hf => ?_)
  · refine lv_aload_n hC.1 hC.2.1 dX10_stockToldOf_15 rfl (lv_at hl 1 rfl) ?_
    refine x_get (v := .ref (xz G + 1)) hC xf_X10_10 (xce_0 G kp _ _) rfl hR dX10_stockToldOf_16 ?_
    refine x_get (v := .ref (xz G + 11)) hC xf_X10_119 (xce_1 G kp _ _) rfl hR dX10_stockToldOf_19 ?_
    refine lv_iload_n hC.1 hC.2.1 dX10_stockToldOf_22 rfl (lv_at hl 0 rfl) ?_
    refine lv_iconst (v := 2) hC.1 hC.2.1 dX10_stockToldOf_23 (by decide) ?_
    refine x_cvi00 (rest := []) hC xy_X0_at tw_543 hf (fun _ h => M_X0_at G l kp h) ⟨Nat.le_of_ble_eq_true rfl, Nat.le_of_ble_eq_true rfl⟩ (xce_11 G kp _ _) rfl rfl rfl (Nat.le_of_ble_eq_true rfl) hl.1 hR hS dX10_stockToldOf_24 ⟨Nat.le_refl _, Nat.le_refl _⟩ (fun v2 hf H locs hR hS => ?_)
    cases hf
    exact x_iret hC hR hS dX10_stockToldOf_27
  · refine lv_iload_n hC.1 hC.2.1 dX10_stockToldOf_11 rfl (lv_at hl 2 rfl) ?_
    refine lv_goto (tgt := 27) hC.1 hC.2.1 dX10_stockToldOf_12 (by decide) ?_
    cases hf
    exact x_iret hC hR hS dX10_stockToldOf_27
set_option maxRecDepth 20000 in
theorem W_X10_why_j17 {G : XG} {l : Launch} {kp : Bool} {p : Program} {e : Env} {s : State} {m : MethodId} {args : Array Value} {below : List Frame} {meth : Method} {c : Code} (hC : xC G p s m args meth c cX10_why 3 RX10 (some .int)) (N : Nat) {I : xTI} {L : xTL} {r : Int32} {rI : xTI} (hf : F_X10_why_j17 N I = some (r, rI)) : ∀ (H : Heap) (locs : List Loc) (ls : Array Slot), xRep G kp I L H → xS G s.heap H locs → lv_has ls 3 [(0, .ref (xz G + 0))] → W p l e (xrm 4 96) s m args below meth c H locs 0 0 (xMQ G kp below args s (some (.int r)) rI L) (F0 m 17 ls []) := by
  intro H locs ls hR hS hl
  unfold F_X10_why_j17 at hf
  refine lv_aload_n hC.1 hC.2.1 dX10_why_17 rfl (lv_at hl 0 rfl) ?_
  refine lv_bipush (v := (-3)) hC.1 hC.2.1 dX10_why_18 (by decide) ?_
  refine x_cvi10 (rest := []) hC xy_X10_refuse tw_411 hf (fun _ _ h => M_X10_refuse G l kp h) ⟨Nat.le_of_ble_eq_true rfl, Nat.le_of_ble_eq_true rfl⟩ (xce_0 G kp _ _) rfl rfl rfl (Nat.le_of_ble_eq_true rfl) hl.1 hR hS dX10_why_20 ⟨Nat.le_refl _, Nat.le_refl _⟩ (fun v1 I2 hf H locs hR hS => ?_)
  cases hf
  exact x_iret hC hR hS dX10_why_23
set_option maxRecDepth 20000 in
theorem M_X10_why (G : XG) (l : Launch) (kp : Bool) (N : Nat) {I : xTI} {L : xTL} {x1 : Int32} {x2 : Int32} {r : Int32} {rI : xTI} (hf : F_X10_why N I x1 x2 = some (r, rI)) : xMet G l yX10_why cX10_why 3 (some .int) 4 96 kp [.ref (xz G + 0), .int x1, .int x2] I L (some (.int r)) rI L := by
  refine xMet.ofW (by decide +kernel) (Nat.le_of_ble_eq_true rfl) ?_
  intro p e s m args below meth c hC H locs ls hR hS hl
  replace hC : xC G p s m args meth c cX10_why 3 RX10 (some .int) := hC
  replace hl : lv_has ls 3 [(0, .ref (xz G + 0)), (1, .int x1), (2, .int x2)] := hl
  unfold F_X10_why at hf
  refine lv_iload_n hC.1 hC.2.1 dX10_why_0 rfl (lv_at hl 1 rfl) ?_
  refine lv_iconst (v := 0) hC.1 hC.2.1 dX10_why_1 (by decide) ?_
  refine lv_iconst (v := 5) hC.1 hC.2.1 dX10_why_2 (by decide) ?_
  refine x_csi00 (rest := []) hC xy_X10_isWithin tw_408 hf (fun _ h => M_X10_isWithin G l kp h) ⟨Nat.le_of_ble_eq_true rfl, Nat.le_of_ble_eq_true rfl⟩ rfl rfl (Nat.le_of_ble_eq_true rfl) hl.1 hR hS dX10_why_3 ⟨Nat.le_refl _, Nat.le_refl _⟩ (fun v1 hf H locs hR hS => ?_)
  refine x_if_eq (tgt := 17) hC dX10_why_6 (by decide) hf (fun hf => ?_) (fun hf => ?_)
  · exact W_X10_why_j17 hC N hf _ _ _ hR hS (lv_sub hl [0] rfl)
  · refine lv_aload_n hC.1 hC.2.1 dX10_why_9 rfl (lv_at hl 0 rfl) ?_
    refine lv_iload_n hC.1 hC.2.1 dX10_why_10 rfl (lv_at hl 2 rfl) ?_
    refine x_cvi00 (rest := []) hC xy_X10_isToldOf tw_817 hf (fun _ h => M_X10_isToldOf G l kp h) ⟨Nat.le_of_ble_eq_true rfl, Nat.le_of_ble_eq_true rfl⟩ (xce_0 G kp _ _) rfl rfl rfl (Nat.le_of_ble_eq_true rfl) hl.1 hR hS dX10_why_11 ⟨Nat.le_refl _, Nat.le_refl _⟩ (fun v2 hf H locs hR hS => ?_)
    refine x_if_ne (tgt := 24) hC dX10_why_14 (by decide) hf (fun hf => ?_) (fun hf => ?_)
    · refine lv_aload_n hC.1 hC.2.1 dX10_why_24 rfl (lv_at hl 0 rfl) ?_
      refine x_get (v := .ref (xz G + 1)) hC xf_X10_10 (xce_0 G kp _ _) rfl hR dX10_why_25 ?_
      refine x_get (v := .ref (xz G + 14)) hC xf_X10_196 (xce_1 G kp _ _) rfl hR dX10_why_28 ?_
      refine lv_iload_n hC.1 hC.2.1 dX10_why_31 rfl (lv_at hl 1 rfl) ?_
      refine lv_aload_n hC.1 hC.2.1 dX10_why_32 rfl (lv_at hl 0 rfl) ?_
      refine x_get (v := .ref (xz G + 1)) hC xf_X10_10 (xce_0 G kp _ _) rfl hR dX10_why_33 ?_
      refine lv_aload_n hC.1 hC.2.1 dX10_why_36 rfl (lv_at hl 0 rfl) ?_
      refine lv_iload_n hC.1 hC.2.1 dX10_why_37 rfl (lv_at hl 2 rfl) ?_
      refine x_cvi00 (rest := [.ref (xz G + 1), .int x1, .ref (xz G + 14)]) hC xy_X10_stockToldOf tw_825 hf (fun _ h => M_X10_stockToldOf G l kp h) ⟨Nat.le_of_ble_eq_true rfl, Nat.le_of_ble_eq_true rfl⟩ (xce_0 G kp _ _) rfl rfl rfl (Nat.le_of_ble_eq_true rfl) hl.1 hR hS dX10_why_38 ⟨Nat.le_refl _, Nat.le_refl _⟩ (fun v3 hf H locs hR hS => ?_)
      refine lv_aload_n hC.1 hC.2.1 dX10_why_41 rfl (lv_at hl 0 rfl) ?_
      refine lv_iload_n hC.1 hC.2.1 dX10_why_42 rfl (lv_at hl 2 rfl) ?_
      refine x_cvi00 (rest := [.int v3, .ref (xz G + 1), .int x1, .ref (xz G + 14)]) hC xy_X10_bargainToldOf tw_821 hf (fun _ h => M_X10_bargainToldOf G l kp h) ⟨Nat.le_of_ble_eq_true rfl, Nat.le_of_ble_eq_true rfl⟩ (xce_0 G kp _ _) rfl rfl rfl (Nat.le_of_ble_eq_true rfl) hl.1 hR hS dX10_why_43 ⟨Nat.le_refl _, Nat.le_refl _⟩ (fun v4 hf H locs hR hS => ?_)
      refine x_cvi10 (rest := []) hC xy_X5_find tw_833 hf (fun _ _ h => M_X5_find G l kp N h) ⟨Nat.le_of_ble_eq_true rfl, Nat.le_of_ble_eq_true rfl⟩ (xce_14 G kp _ _) rfl rfl rfl (Nat.le_of_ble_eq_true rfl) hl.1 hR hS dX10_why_46 ⟨Nat.le_refl _, Nat.le_refl _⟩ (fun v5 I6 hf H locs hR hS => ?_)
      cases hf
      exact x_iret hC hR hS dX10_why_49
    · exact W_X10_why_j17 hC N hf _ _ _ hR hS (lv_sub hl [0] rfl)
set_option maxRecDepth 20000 in
theorem M_X8_isNoted_24 (G : XG) (l : Launch) (kp : Bool) {I : xTI} {L : xTL} {x1 : Int32} {r : Int32} (hf : F_X8_isNoted_24 I x1 = some r) : xMet G l yX8_isNoted cX8_isNoted 2 (some .boolean) 0 0 kp [.ref (xz G + 24), .int x1] I L (some (.int r)) I L := by
  refine xMet.ofW (by decide +kernel) (Nat.le_of_ble_eq_true rfl) ?_
  intro p e s m args below meth c hC H locs ls hR hS hl
  replace hC : xC G p s m args meth c cX8_isNoted 2 RX8 (some .boolean) := hC
  replace hl : lv_has ls 2 [(0, .ref (xz G + 24)), (1, .int x1)] := hl
  unfold F_X8_isNoted_24 at hf
  refine lv_iload_n hC.1 hC.2.1 dX8_isNoted_0 rfl (lv_at hl 1 rfl) ?_
  refine x_if_lt (tgt := 24) hC dX8_isNoted_1 (by decide) hf (fun hf => ?_) (fun hf => ?_)
  · refine lv_iconst (v := 0) hC.1 hC.2.1 dX8_isNoted_24 (by decide) ?_
    obtain ⟨h01, hf⟩ := xzc_some hf
    cases hf
    exact x_zret h01 hC hR hS dX8_isNoted_25
  · refine lv_iload_n hC.1 hC.2.1 dX8_isNoted_4 rfl (lv_at hl 1 rfl) ?_
    refine lv_aload_n hC.1 hC.2.1 dX8_isNoted_5 rfl (lv_at hl 0 rfl) ?_
    refine x_getI hC xf_X8_20 (xce_24 G kp _ _) rfl hR dX8_isNoted_6 hf (fun v1 hf => ?_)
    refine x_ic_ge (tgt := 24) hC dX8_isNoted_9 (by decide) hf (fun hf => ?_) (fun hf => ?_)
    · refine lv_iconst (v := 0) hC.1 hC.2.1 dX8_isNoted_24 (by decide) ?_
      obtain ⟨h01, hf⟩ := xzc_some hf
      cases hf
      exact x_zret h01 hC hR hS dX8_isNoted_25
    · refine lv_iload_n hC.1 hC.2.1 dX8_isNoted_12 rfl (lv_at hl 1 rfl) ?_
      refine lv_aload_n hC.1 hC.2.1 dX8_isNoted_13 rfl (lv_at hl 0 rfl) ?_
      refine x_get (v := .int 300) hC xf_X8_7 (xce_24 G kp _ _) rfl hR dX8_isNoted_14 ?_
      refine x_ic_ge (tgt := 24) hC dX8_isNoted_17 (by decide) hf (fun hf => ?_) (fun hf => ?_)
      · refine lv_iconst (v := 0) hC.1 hC.2.1 dX8_isNoted_24 (by decide) ?_
        obtain ⟨h01, hf⟩ := xzc_some hf
        cases hf
        exact x_zret h01 hC hR hS dX8_isNoted_25
      · refine lv_iconst (v := 1) hC.1 hC.2.1 dX8_isNoted_20 (by decide) ?_
        refine lv_goto (tgt := 25) hC.1 hC.2.1 dX8_isNoted_21 (by decide) ?_
        obtain ⟨h01, hf⟩ := xzc_some hf
        cases hf
        exact x_zret h01 hC hR hS dX8_isNoted_25
set_option maxRecDepth 20000 in
theorem M_X8_hasColumn_24 (G : XG) (l : Launch) (kp : Bool) {I : xTI} {L : xTL} {x1 : Int32} {r : Int32} (hf : F_X8_hasColumn_24 x1 = some r) : xMet G l yX8_hasColumn cX8_hasColumn 2 (some .boolean) 0 0 kp [.ref (xz G + 24), .int x1] I L (some (.int r)) I L := by
  refine xMet.ofW (by decide +kernel) (Nat.le_of_ble_eq_true rfl) ?_
  intro p e s m args below meth c hC H locs ls hR hS hl
  replace hC : xC G p s m args meth c cX8_hasColumn 2 RX8 (some .boolean) := hC
  replace hl : lv_has ls 2 [(0, .ref (xz G + 24)), (1, .int x1)] := hl
  unfold F_X8_hasColumn_24 at hf
  refine lv_iload_n hC.1 hC.2.1 dX8_hasColumn_0 rfl (lv_at hl 1 rfl) ?_
  refine x_if_lt (tgt := 16) hC dX8_hasColumn_1 (by decide) hf (fun hf => ?_) (fun hf => ?_)
  · refine lv_iconst (v := 0) hC.1 hC.2.1 dX8_hasColumn_16 (by decide) ?_
    obtain ⟨h01, hf⟩ := xzc_some hf
    cases hf
    exact x_zret h01 hC hR hS dX8_hasColumn_17
  · refine lv_iload_n hC.1 hC.2.1 dX8_hasColumn_4 rfl (lv_at hl 1 rfl) ?_
    refine lv_aload_n hC.1 hC.2.1 dX8_hasColumn_5 rfl (lv_at hl 0 rfl) ?_
    refine x_get (v := .int 7) hC xf_X8_13 (xce_24 G kp _ _) rfl hR dX8_hasColumn_6 ?_
    refine x_ic_ge (tgt := 16) hC dX8_hasColumn_9 (by decide) hf (fun hf => ?_) (fun hf => ?_)
    · refine lv_iconst (v := 0) hC.1 hC.2.1 dX8_hasColumn_16 (by decide) ?_
      obtain ⟨h01, hf⟩ := xzc_some hf
      cases hf
      exact x_zret h01 hC hR hS dX8_hasColumn_17
    · refine lv_iconst (v := 1) hC.1 hC.2.1 dX8_hasColumn_12 (by decide) ?_
      refine lv_goto (tgt := 17) hC.1 hC.2.1 dX8_hasColumn_13 (by decide) ?_
      obtain ⟨h01, hf⟩ := xzc_some hf
      cases hf
      exact x_zret h01 hC hR hS dX8_hasColumn_17
set_option maxRecDepth 20000 in
theorem W_X8_at_24_j29 {G : XG} {l : Launch} {kp : Bool} {p : Program} {e : Env} {s : State} {m : MethodId} {args : Array Value} {below : List Frame} {meth : Method} {c : Code} (hC : xC G p s m args meth c cX8_at 4 RX8 (some .int)) {I : xTI} {L : xTL} {r : Int32} {x1 : Int32} {x2 : Int32} {t0 : Int32} (hf : F_X8_at_24_j29 I x1 x2 t0 = some r) : ∀ (H : Heap) (locs : List Loc) (ls : Array Slot), xRep G kp I L H → xS G s.heap H locs → lv_has ls 4 [(0, .ref (xz G + 24)), (1, .int x1), (2, .int x2)] → W p l e (xrm 0 0) s m args below meth c H locs 0 0 (xMQ G kp below args s (some (.int r)) I L) (F0 m 29 ls [.int t0]) := by
  intro H locs ls hR hS hl
  unfold F_X8_at_24_j29 at hf
  refine lv_istore_n (lv' := [(3, .int t0), (0, .ref (xz G + 24)), (1, .int x1), (2, .int x2)]) hC.1 hC.2.1 dX8_at_29 rfl hl (Nat.le_of_ble_eq_true rfl) rfl (fun ls hl => ?_)
  refine lv_iload_n hC.1 hC.2.1 dX8_at_30 rfl (lv_at hl 0 rfl) ?_
  refine x_if_eq (tgt := 50) hC dX8_at_31 (by decide) hf (fun hf => ?_) (fun hf => ?_)
  · refine lv_iconst (v := 0) hC.1 hC.2.1 dX8_at_50 (by decide) ?_
    cases hf
    exact x_iret hC hR hS dX8_at_51
  · refine lv_aload_n hC.1 hC.2.1 dX8_at_34 rfl (lv_at hl 1 rfl) ?_
    refine x_get (v := .ref (xz G + 25)) hC xf_X8_16 (xce_24 G kp _ _) rfl hR dX8_at_35 ?_
    refine lv_iload_n hC.1 hC.2.1 dX8_at_38 rfl (lv_at hl 2 rfl) ?_
    refine lv_aload_n hC.1 hC.2.1 dX8_at_39 rfl (lv_at hl 1 rfl) ?_
    refine x_get (v := .int 7) hC xf_X8_13 (xce_24 G kp _ _) rfl hR dX8_at_40 ?_
    refine lv_imul hC.1 hC.2.1 dX8_at_43 ?_
    refine lv_iload_n hC.1 hC.2.1 dX8_at_44 rfl (lv_at hl 3 rfl) ?_
    refine lv_iadd hC.1 hC.2.1 dX8_at_45 ?_
    refine x_ial hC (xce_25 G kp _ _) hR dX8_at_46 hf (fun v1 hf => ?_)
    refine lv_goto (tgt := 51) hC.1 hC.2.1 dX8_at_47 (by decide) ?_
    cases hf
    exact x_iret hC hR hS dX8_at_51
set_option maxRecDepth 20000 in
theorem M_X8_at_24 (G : XG) (l : Launch) (kp : Bool) {I : xTI} {L : xTL} {x1 : Int32} {x2 : Int32} {r : Int32} (hf : F_X8_at_24 I x1 x2 = some r) : xMet G l yX8_at cX8_at 4 (some .int) 0 0 kp [.ref (xz G + 24), .int x1, .int x2] I L (some (.int r)) I L := by
  refine xMet.ofW (by decide +kernel) (Nat.le_of_ble_eq_true rfl) ?_
  intro p e s m args below meth c hC H locs ls hR hS hl
  replace hC : xC G p s m args meth c cX8_at 4 RX8 (some .int) := hC
  replace hl : lv_has ls 4 [(0, .ref (xz G + 24)), (1, .int x1), (2, .int x2)] := hl
  unfold F_X8_at_24 at hf
  refine lv_iload_n hC.1 hC.2.1 dX8_at_0 rfl (lv_at hl 1 rfl) ?_
  refine x_if_lt (tgt := 28) hC dX8_at_1 (by decide) hf (fun hf => ?_) (fun hf => ?_)
  · refine lv_iconst (v := 0) hC.1 hC.2.1 dX8_at_28 (by decide) ?_
    exact W_X8_at_24_j29 hC hf _ _ _ hR hS (lv_sub hl [0, 1, 2] rfl)
  · refine lv_iload_n hC.1 hC.2.1 dX8_at_4 rfl (lv_at hl 1 rfl) ?_
    refine lv_aload_n hC.1 hC.2.1 dX8_at_5 rfl (lv_at hl 0 rfl) ?_
    refine x_get (v := .int 300) hC xf_X8_7 (xce_24 G kp _ _) rfl hR dX8_at_6 ?_
    refine x_ic_ge (tgt := 28) hC dX8_at_9 (by decide) hf (fun hf => ?_) (fun hf => ?_)
    · refine lv_iconst (v := 0) hC.1 hC.2.1 dX8_at_28 (by decide) ?_
      exact W_X8_at_24_j29 hC hf _ _ _ hR hS (lv_sub hl [0, 1, 2] rfl)
    · refine lv_iload_n hC.1 hC.2.1 dX8_at_12 rfl (lv_at hl 2 rfl) ?_
      refine x_if_lt (tgt := 28) hC dX8_at_13 (by decide) hf (fun hf => ?_) (fun hf => ?_)
      · refine lv_iconst (v := 0) hC.1 hC.2.1 dX8_at_28 (by decide) ?_
        exact W_X8_at_24_j29 hC hf _ _ _ hR hS (lv_sub hl [0, 1, 2] rfl)
      · refine lv_iload_n hC.1 hC.2.1 dX8_at_16 rfl (lv_at hl 2 rfl) ?_
        refine lv_aload_n hC.1 hC.2.1 dX8_at_17 rfl (lv_at hl 0 rfl) ?_
        refine x_get (v := .int 7) hC xf_X8_13 (xce_24 G kp _ _) rfl hR dX8_at_18 ?_
        refine x_ic_ge (tgt := 28) hC dX8_at_21 (by decide) hf (fun hf => ?_) (fun hf => ?_)
        · refine lv_iconst (v := 0) hC.1 hC.2.1 dX8_at_28 (by decide) ?_
          exact W_X8_at_24_j29 hC hf _ _ _ hR hS (lv_sub hl [0, 1, 2] rfl)
        · refine lv_iconst (v := 1) hC.1 hC.2.1 dX8_at_24 (by decide) ?_
          refine lv_goto (tgt := 29) hC.1 hC.2.1 dX8_at_25 (by decide) ?_
          exact W_X8_at_24_j29 hC hf _ _ _ hR hS (lv_sub hl [0, 1, 2] rfl)
set_option maxRecDepth 20000 in
theorem M_X10_readOf_24 (G : XG) (l : Launch) (kp : Bool) {I : xTI} {L : xTL} {x2 : Int32} {x3 : Int32} {r : Int32} {rI : xTI} (hf : F_X10_readOf_24 I x2 x3 = some (r, rI)) : xMet G l yX10_readOf cX10_readOf 4 (some .int) 1 23 kp [.ref (xz G + 0), .ref (xz G + 24), .int x2, .int x3] I L (some (.int r)) rI L := by
  refine xMet.ofW (by decide +kernel) (Nat.le_of_ble_eq_true rfl) ?_
  intro p e s m args below meth c hC H locs ls hR hS hl
  replace hC : xC G p s m args meth c cX10_readOf 4 RX10 (some .int) := hC
  replace hl : lv_has ls 4 [(0, .ref (xz G + 0)), (1, .ref (xz G + 24)), (2, .int x2), (3, .int x3)] := hl
  unfold F_X10_readOf_24 at hf
  refine lv_aload_n hC.1 hC.2.1 dX10_readOf_0 rfl (lv_at hl 1 rfl) ?_
  refine lv_iload_n hC.1 hC.2.1 dX10_readOf_1 rfl (lv_at hl 2 rfl) ?_
  refine x_cvi00 (rest := []) hC xy_X8_isNoted tw_652 hf (fun _ h => M_X8_isNoted_24 G l kp h) ⟨Nat.le_of_ble_eq_true rfl, Nat.le_of_ble_eq_true rfl⟩ (xce_24 G kp _ _) rfl rfl rfl (Nat.le_of_ble_eq_true rfl) hl.1 hR hS dX10_readOf_2 ⟨Nat.le_refl _, Nat.le_refl _⟩ (fun v1 hf H locs hR hS => ?_)
  refine x_if_ne (tgt := 15) hC dX10_readOf_5 (by decide) hf (fun hf => ?_) (fun hf => ?_)
  · refine lv_aload_n hC.1 hC.2.1 dX10_readOf_15 rfl (lv_at hl 1 rfl) ?_
    refine lv_iload_n hC.1 hC.2.1 dX10_readOf_16 rfl (lv_at hl 3 rfl) ?_
    refine x_cvi00 (rest := []) hC xy_X8_hasColumn tw_672 hf (fun _ h => M_X8_hasColumn_24 G l kp h) ⟨Nat.le_of_ble_eq_true rfl, Nat.le_of_ble_eq_true rfl⟩ (xce_24 G kp _ _) rfl rfl rfl (Nat.le_of_ble_eq_true rfl) hl.1 hR hS dX10_readOf_17 ⟨Nat.le_refl _, Nat.le_refl _⟩ (fun v2 hf H locs hR hS => ?_)
    refine x_if_eq (tgt := 32) hC dX10_readOf_20 (by decide) hf (fun hf => ?_) (fun hf => ?_)
    · refine lv_aload_n hC.1 hC.2.1 dX10_readOf_32 rfl (lv_at hl 0 rfl) ?_
      refine lv_bipush (v := (-7)) hC.1 hC.2.1 dX10_readOf_33 (by decide) ?_
      refine x_cvi10 (rest := []) hC xy_X10_refuse tw_411 hf (fun _ _ h => M_X10_refuse G l kp h) ⟨Nat.le_of_ble_eq_true rfl, Nat.le_of_ble_eq_true rfl⟩ (xce_0 G kp _ _) rfl rfl rfl (Nat.le_of_ble_eq_true rfl) hl.1 hR hS dX10_readOf_35 ⟨Nat.le_refl _, Nat.le_refl _⟩ (fun v3 I4 hf H locs hR hS => ?_)
      cases hf
      exact x_iret hC hR hS dX10_readOf_38
    · refine lv_aload_n hC.1 hC.2.1 dX10_readOf_23 rfl (lv_at hl 1 rfl) ?_
      refine lv_iload_n hC.1 hC.2.1 dX10_readOf_24 rfl (lv_at hl 2 rfl) ?_
      refine lv_iload_n hC.1 hC.2.1 dX10_readOf_25 rfl (lv_at hl 3 rfl) ?_
      refine x_cvi00 (rest := []) hC xy_X8_at tw_656 hf (fun _ h => M_X8_at_24 G l kp h) ⟨Nat.le_of_ble_eq_true rfl, Nat.le_of_ble_eq_true rfl⟩ (xce_24 G kp _ _) rfl rfl rfl (Nat.le_of_ble_eq_true rfl) hl.1 hR hS dX10_readOf_26 ⟨Nat.le_refl _, Nat.le_refl _⟩ (fun v5 hf H locs hR hS => ?_)
      refine lv_goto (tgt := 38) hC.1 hC.2.1 dX10_readOf_29 (by decide) ?_
      cases hf
      exact x_iret hC hR hS dX10_readOf_38
  · refine lv_aload_n hC.1 hC.2.1 dX10_readOf_8 rfl (lv_at hl 0 rfl) ?_
    refine lv_bipush (v := (-3)) hC.1 hC.2.1 dX10_readOf_9 (by decide) ?_
    refine x_cvi10 (rest := []) hC xy_X10_refuse tw_411 hf (fun _ _ h => M_X10_refuse G l kp h) ⟨Nat.le_of_ble_eq_true rfl, Nat.le_of_ble_eq_true rfl⟩ (xce_0 G kp _ _) rfl rfl rfl (Nat.le_of_ble_eq_true rfl) hl.1 hR hS dX10_readOf_11 ⟨Nat.le_refl _, Nat.le_refl _⟩ (fun v6 I7 hf H locs hR hS => ?_)
    cases hf
    exact x_iret hC hR hS dX10_readOf_14
set_option maxRecDepth 20000 in
theorem M_X10_pass (G : XG) (l : Launch) (kp : Bool) {I : xTI} {L : xTL} {x1 : Int32} {x2 : Int32} {r : Int32} {rI : xTI} (hf : F_X10_pass I x1 x2 = some (r, rI)) : xMet G l yX10_pass cX10_pass 3 (some .int) 2 46 kp [.ref (xz G + 0), .int x1, .int x2] I L (some (.int r)) rI L := by
  refine xMet.ofW (by decide +kernel) (Nat.le_of_ble_eq_true rfl) ?_
  intro p e s m args below meth c hC H locs ls hR hS hl
  replace hC : xC G p s m args meth c cX10_pass 3 RX10 (some .int) := hC
  replace hl : lv_has ls 3 [(0, .ref (xz G + 0)), (1, .int x1), (2, .int x2)] := hl
  unfold F_X10_pass at hf
  refine lv_aload_n hC.1 hC.2.1 dX10_pass_0 rfl (lv_at hl 0 rfl) ?_
  refine x_get (v := .ref (xz G + 1)) hC xf_X10_10 (xce_0 G kp _ _) rfl hR dX10_pass_1 ?_
  refine x_getI hC xf_X10_293 (xce_1 G kp _ _) rfl hR dX10_pass_4 hf (fun v1 hf => ?_)
  refine x_if_eq (tgt := 26) hC dX10_pass_7 (by decide) hf (fun hf => ?_) (fun hf => ?_)
  · refine lv_aload_n hC.1 hC.2.1 dX10_pass_26 rfl (lv_at hl 0 rfl) ?_
    refine lv_bipush (v := (-2)) hC.1 hC.2.1 dX10_pass_27 (by decide) ?_
    refine x_cvi10 (rest := []) hC xy_X10_refuse tw_411 hf (fun _ _ h => M_X10_refuse G l kp h) ⟨Nat.le_of_ble_eq_true rfl, Nat.le_of_ble_eq_true rfl⟩ (xce_0 G kp _ _) rfl rfl rfl (Nat.le_of_ble_eq_true rfl) hl.1 hR hS dX10_pass_29 ⟨Nat.le_refl _, Nat.le_refl _⟩ (fun v2 I3 hf H locs hR hS => ?_)
    cases hf
    exact x_iret hC hR hS dX10_pass_32
  · refine lv_aload_n hC.1 hC.2.1 dX10_pass_10 rfl (lv_at hl 0 rfl) ?_
    refine lv_aload_n hC.1 hC.2.1 dX10_pass_11 rfl (lv_at hl 0 rfl) ?_
    refine x_get (v := .ref (xz G + 1)) hC xf_X10_10 (xce_0 G kp _ _) rfl hR dX10_pass_12 ?_
    refine x_get (v := .ref (xz G + 24)) hC xf_X10_297 (xce_1 G kp _ _) rfl hR dX10_pass_15 ?_
    refine lv_iload_n hC.1 hC.2.1 dX10_pass_18 rfl (lv_at hl 1 rfl) ?_
    refine lv_iload_n hC.1 hC.2.1 dX10_pass_19 rfl (lv_at hl 2 rfl) ?_
    refine x_cvi10 (rest := []) hC xy_X10_readOf tw_668 hf (fun _ _ h => M_X10_readOf_24 G l kp h) ⟨Nat.le_of_ble_eq_true rfl, Nat.le_of_ble_eq_true rfl⟩ (xce_0 G kp _ _) rfl rfl rfl (Nat.le_of_ble_eq_true rfl) hl.1 hR hS dX10_pass_20 ⟨Nat.le_refl _, Nat.le_refl _⟩ (fun v4 I5 hf H locs hR hS => ?_)
    refine lv_goto (tgt := 32) hC.1 hC.2.1 dX10_pass_23 (by decide) ?_
    cases hf
    exact x_iret hC hR hS dX10_pass_32
set_option maxRecDepth 20000 in
theorem M_X8_isNoted_26 (G : XG) (l : Launch) (kp : Bool) {I : xTI} {L : xTL} {x1 : Int32} {r : Int32} (hf : F_X8_isNoted_26 I x1 = some r) : xMet G l yX8_isNoted cX8_isNoted 2 (some .boolean) 0 0 kp [.ref (xz G + 26), .int x1] I L (some (.int r)) I L := by
  refine xMet.ofW (by decide +kernel) (Nat.le_of_ble_eq_true rfl) ?_
  intro p e s m args below meth c hC H locs ls hR hS hl
  replace hC : xC G p s m args meth c cX8_isNoted 2 RX8 (some .boolean) := hC
  replace hl : lv_has ls 2 [(0, .ref (xz G + 26)), (1, .int x1)] := hl
  unfold F_X8_isNoted_26 at hf
  refine lv_iload_n hC.1 hC.2.1 dX8_isNoted_0 rfl (lv_at hl 1 rfl) ?_
  refine x_if_lt (tgt := 24) hC dX8_isNoted_1 (by decide) hf (fun hf => ?_) (fun hf => ?_)
  · refine lv_iconst (v := 0) hC.1 hC.2.1 dX8_isNoted_24 (by decide) ?_
    obtain ⟨h01, hf⟩ := xzc_some hf
    cases hf
    exact x_zret h01 hC hR hS dX8_isNoted_25
  · refine lv_iload_n hC.1 hC.2.1 dX8_isNoted_4 rfl (lv_at hl 1 rfl) ?_
    refine lv_aload_n hC.1 hC.2.1 dX8_isNoted_5 rfl (lv_at hl 0 rfl) ?_
    refine x_getI hC xf_X8_20 (xce_26 G kp _ _) rfl hR dX8_isNoted_6 hf (fun v1 hf => ?_)
    refine x_ic_ge (tgt := 24) hC dX8_isNoted_9 (by decide) hf (fun hf => ?_) (fun hf => ?_)
    · refine lv_iconst (v := 0) hC.1 hC.2.1 dX8_isNoted_24 (by decide) ?_
      obtain ⟨h01, hf⟩ := xzc_some hf
      cases hf
      exact x_zret h01 hC hR hS dX8_isNoted_25
    · refine lv_iload_n hC.1 hC.2.1 dX8_isNoted_12 rfl (lv_at hl 1 rfl) ?_
      refine lv_aload_n hC.1 hC.2.1 dX8_isNoted_13 rfl (lv_at hl 0 rfl) ?_
      refine x_get (v := .int 200) hC xf_X8_7 (xce_26 G kp _ _) rfl hR dX8_isNoted_14 ?_
      refine x_ic_ge (tgt := 24) hC dX8_isNoted_17 (by decide) hf (fun hf => ?_) (fun hf => ?_)
      · refine lv_iconst (v := 0) hC.1 hC.2.1 dX8_isNoted_24 (by decide) ?_
        obtain ⟨h01, hf⟩ := xzc_some hf
        cases hf
        exact x_zret h01 hC hR hS dX8_isNoted_25
      · refine lv_iconst (v := 1) hC.1 hC.2.1 dX8_isNoted_20 (by decide) ?_
        refine lv_goto (tgt := 25) hC.1 hC.2.1 dX8_isNoted_21 (by decide) ?_
        obtain ⟨h01, hf⟩ := xzc_some hf
        cases hf
        exact x_zret h01 hC hR hS dX8_isNoted_25
set_option maxRecDepth 20000 in
theorem M_X8_hasColumn_26 (G : XG) (l : Launch) (kp : Bool) {I : xTI} {L : xTL} {x1 : Int32} {r : Int32} (hf : F_X8_hasColumn_26 x1 = some r) : xMet G l yX8_hasColumn cX8_hasColumn 2 (some .boolean) 0 0 kp [.ref (xz G + 26), .int x1] I L (some (.int r)) I L := by
  refine xMet.ofW (by decide +kernel) (Nat.le_of_ble_eq_true rfl) ?_
  intro p e s m args below meth c hC H locs ls hR hS hl
  replace hC : xC G p s m args meth c cX8_hasColumn 2 RX8 (some .boolean) := hC
  replace hl : lv_has ls 2 [(0, .ref (xz G + 26)), (1, .int x1)] := hl
  unfold F_X8_hasColumn_26 at hf
  refine lv_iload_n hC.1 hC.2.1 dX8_hasColumn_0 rfl (lv_at hl 1 rfl) ?_
  refine x_if_lt (tgt := 16) hC dX8_hasColumn_1 (by decide) hf (fun hf => ?_) (fun hf => ?_)
  · refine lv_iconst (v := 0) hC.1 hC.2.1 dX8_hasColumn_16 (by decide) ?_
    obtain ⟨h01, hf⟩ := xzc_some hf
    cases hf
    exact x_zret h01 hC hR hS dX8_hasColumn_17
  · refine lv_iload_n hC.1 hC.2.1 dX8_hasColumn_4 rfl (lv_at hl 1 rfl) ?_
    refine lv_aload_n hC.1 hC.2.1 dX8_hasColumn_5 rfl (lv_at hl 0 rfl) ?_
    refine x_get (v := .int 6) hC xf_X8_13 (xce_26 G kp _ _) rfl hR dX8_hasColumn_6 ?_
    refine x_ic_ge (tgt := 16) hC dX8_hasColumn_9 (by decide) hf (fun hf => ?_) (fun hf => ?_)
    · refine lv_iconst (v := 0) hC.1 hC.2.1 dX8_hasColumn_16 (by decide) ?_
      obtain ⟨h01, hf⟩ := xzc_some hf
      cases hf
      exact x_zret h01 hC hR hS dX8_hasColumn_17
    · refine lv_iconst (v := 1) hC.1 hC.2.1 dX8_hasColumn_12 (by decide) ?_
      refine lv_goto (tgt := 17) hC.1 hC.2.1 dX8_hasColumn_13 (by decide) ?_
      obtain ⟨h01, hf⟩ := xzc_some hf
      cases hf
      exact x_zret h01 hC hR hS dX8_hasColumn_17
set_option maxRecDepth 20000 in
theorem W_X8_at_26_j29 {G : XG} {l : Launch} {kp : Bool} {p : Program} {e : Env} {s : State} {m : MethodId} {args : Array Value} {below : List Frame} {meth : Method} {c : Code} (hC : xC G p s m args meth c cX8_at 4 RX8 (some .int)) {I : xTI} {L : xTL} {r : Int32} {x1 : Int32} {x2 : Int32} {t0 : Int32} (hf : F_X8_at_26_j29 I x1 x2 t0 = some r) : ∀ (H : Heap) (locs : List Loc) (ls : Array Slot), xRep G kp I L H → xS G s.heap H locs → lv_has ls 4 [(0, .ref (xz G + 26)), (1, .int x1), (2, .int x2)] → W p l e (xrm 0 0) s m args below meth c H locs 0 0 (xMQ G kp below args s (some (.int r)) I L) (F0 m 29 ls [.int t0]) := by
  intro H locs ls hR hS hl
  unfold F_X8_at_26_j29 at hf
  refine lv_istore_n (lv' := [(3, .int t0), (0, .ref (xz G + 26)), (1, .int x1), (2, .int x2)]) hC.1 hC.2.1 dX8_at_29 rfl hl (Nat.le_of_ble_eq_true rfl) rfl (fun ls hl => ?_)
  refine lv_iload_n hC.1 hC.2.1 dX8_at_30 rfl (lv_at hl 0 rfl) ?_
  refine x_if_eq (tgt := 50) hC dX8_at_31 (by decide) hf (fun hf => ?_) (fun hf => ?_)
  · refine lv_iconst (v := 0) hC.1 hC.2.1 dX8_at_50 (by decide) ?_
    cases hf
    exact x_iret hC hR hS dX8_at_51
  · refine lv_aload_n hC.1 hC.2.1 dX8_at_34 rfl (lv_at hl 1 rfl) ?_
    refine x_get (v := .ref (xz G + 27)) hC xf_X8_16 (xce_26 G kp _ _) rfl hR dX8_at_35 ?_
    refine lv_iload_n hC.1 hC.2.1 dX8_at_38 rfl (lv_at hl 2 rfl) ?_
    refine lv_aload_n hC.1 hC.2.1 dX8_at_39 rfl (lv_at hl 1 rfl) ?_
    refine x_get (v := .int 6) hC xf_X8_13 (xce_26 G kp _ _) rfl hR dX8_at_40 ?_
    refine lv_imul hC.1 hC.2.1 dX8_at_43 ?_
    refine lv_iload_n hC.1 hC.2.1 dX8_at_44 rfl (lv_at hl 3 rfl) ?_
    refine lv_iadd hC.1 hC.2.1 dX8_at_45 ?_
    refine x_ial hC (xce_27 G kp _ _) hR dX8_at_46 hf (fun v1 hf => ?_)
    refine lv_goto (tgt := 51) hC.1 hC.2.1 dX8_at_47 (by decide) ?_
    cases hf
    exact x_iret hC hR hS dX8_at_51
set_option maxRecDepth 20000 in
theorem M_X8_at_26 (G : XG) (l : Launch) (kp : Bool) {I : xTI} {L : xTL} {x1 : Int32} {x2 : Int32} {r : Int32} (hf : F_X8_at_26 I x1 x2 = some r) : xMet G l yX8_at cX8_at 4 (some .int) 0 0 kp [.ref (xz G + 26), .int x1, .int x2] I L (some (.int r)) I L := by
  refine xMet.ofW (by decide +kernel) (Nat.le_of_ble_eq_true rfl) ?_
  intro p e s m args below meth c hC H locs ls hR hS hl
  replace hC : xC G p s m args meth c cX8_at 4 RX8 (some .int) := hC
  replace hl : lv_has ls 4 [(0, .ref (xz G + 26)), (1, .int x1), (2, .int x2)] := hl
  unfold F_X8_at_26 at hf
  refine lv_iload_n hC.1 hC.2.1 dX8_at_0 rfl (lv_at hl 1 rfl) ?_
  refine x_if_lt (tgt := 28) hC dX8_at_1 (by decide) hf (fun hf => ?_) (fun hf => ?_)
  · refine lv_iconst (v := 0) hC.1 hC.2.1 dX8_at_28 (by decide) ?_
    exact W_X8_at_26_j29 hC hf _ _ _ hR hS (lv_sub hl [0, 1, 2] rfl)
  · refine lv_iload_n hC.1 hC.2.1 dX8_at_4 rfl (lv_at hl 1 rfl) ?_
    refine lv_aload_n hC.1 hC.2.1 dX8_at_5 rfl (lv_at hl 0 rfl) ?_
    refine x_get (v := .int 200) hC xf_X8_7 (xce_26 G kp _ _) rfl hR dX8_at_6 ?_
    refine x_ic_ge (tgt := 28) hC dX8_at_9 (by decide) hf (fun hf => ?_) (fun hf => ?_)
    · refine lv_iconst (v := 0) hC.1 hC.2.1 dX8_at_28 (by decide) ?_
      exact W_X8_at_26_j29 hC hf _ _ _ hR hS (lv_sub hl [0, 1, 2] rfl)
    · refine lv_iload_n hC.1 hC.2.1 dX8_at_12 rfl (lv_at hl 2 rfl) ?_
      refine x_if_lt (tgt := 28) hC dX8_at_13 (by decide) hf (fun hf => ?_) (fun hf => ?_)
      · refine lv_iconst (v := 0) hC.1 hC.2.1 dX8_at_28 (by decide) ?_
        exact W_X8_at_26_j29 hC hf _ _ _ hR hS (lv_sub hl [0, 1, 2] rfl)
      · refine lv_iload_n hC.1 hC.2.1 dX8_at_16 rfl (lv_at hl 2 rfl) ?_
        refine lv_aload_n hC.1 hC.2.1 dX8_at_17 rfl (lv_at hl 0 rfl) ?_
        refine x_get (v := .int 6) hC xf_X8_13 (xce_26 G kp _ _) rfl hR dX8_at_18 ?_
        refine x_ic_ge (tgt := 28) hC dX8_at_21 (by decide) hf (fun hf => ?_) (fun hf => ?_)
        · refine lv_iconst (v := 0) hC.1 hC.2.1 dX8_at_28 (by decide) ?_
          exact W_X8_at_26_j29 hC hf _ _ _ hR hS (lv_sub hl [0, 1, 2] rfl)
        · refine lv_iconst (v := 1) hC.1 hC.2.1 dX8_at_24 (by decide) ?_
          refine lv_goto (tgt := 29) hC.1 hC.2.1 dX8_at_25 (by decide) ?_
          exact W_X8_at_26_j29 hC hf _ _ _ hR hS (lv_sub hl [0, 1, 2] rfl)
