set_option maxRecDepth 20000 in
theorem M_X10_isWithin (G : XG) (l : Launch) (kp : Bool) {I : xTI} {L : xTL} {x0 : Int32} {x1 : Int32} {x2 : Int32} {r : Int32} (hf : F_X10_isWithin x0 x1 x2 = some r) : xMet G l yX10_isWithin cX10_isWithin 3 (some .boolean) 0 0 kp [.int x0, .int x1, .int x2] I L (some (.int r)) I L := by
  refine xMet.ofW (by decide +kernel) (Nat.le_of_ble_eq_true rfl) ?_
  intro p e s m args below meth c hC H locs ls hR hS hl
  replace hC : xC G p s m args meth c cX10_isWithin 3 RX10 (some .boolean) := hC
  replace hl : lv_has ls 3 [(0, .int x0), (1, .int x1), (2, .int x2)] := hl
  unfold F_X10_isWithin at hf
  refine lv_iload_n hC.1 hC.2.1 dX10_isWithin_0 rfl (lv_at hl 0 rfl) ?_
  refine lv_iload_n hC.1 hC.2.1 dX10_isWithin_1 rfl (lv_at hl 1 rfl) ?_
  refine x_ic_lt (tgt := 14) hC dX10_isWithin_2 (by decide) hf (fun hf => ?_) (fun hf => ?_)
  · refine lv_iconst (v := 0) hC.1 hC.2.1 dX10_isWithin_14 (by decide) ?_
    obtain ⟨h01, hf⟩ := xzc_some hf
    have h9 := Option.some.inj hf
    subst h9
    exact x_zret h01 hC hR hS dX10_isWithin_15
  · refine lv_iload_n hC.1 hC.2.1 dX10_isWithin_5 rfl (lv_at hl 0 rfl) ?_
    refine lv_iload_n hC.1 hC.2.1 dX10_isWithin_6 rfl (lv_at hl 2 rfl) ?_
    refine x_ic_gt (tgt := 14) hC dX10_isWithin_7 (by decide) hf (fun hf => ?_) (fun hf => ?_)
    · refine lv_iconst (v := 0) hC.1 hC.2.1 dX10_isWithin_14 (by decide) ?_
      obtain ⟨h01, hf⟩ := xzc_some hf
      have h9 := Option.some.inj hf
      subst h9
      exact x_zret h01 hC hR hS dX10_isWithin_15
    · refine lv_iconst (v := 1) hC.1 hC.2.1 dX10_isWithin_10 (by decide) ?_
      refine lv_goto (tgt := 15) hC.1 hC.2.1 dX10_isWithin_11 (by decide) ?_
      obtain ⟨h01, hf⟩ := xzc_some hf
      have h9 := Option.some.inj hf
      subst h9
      exact x_zret h01 hC hR hS dX10_isWithin_15
set_option maxRecDepth 20000 in
theorem M_X10_refuse (G : XG) (l : Launch) (kp : Bool) {I : xTI} {L : xTL} {x1 : Int32} {r : Int32} {rI : xTI} (hf : F_X10_refuse I x1 = some (r, rI)) : xMet G l yX10_refuse cX10_refuse 2 (some .int) 0 0 kp [.ref (xz G + 0), .int x1] I L (some (.int r)) rI L := by
  refine xMet.ofW (by decide +kernel) (Nat.le_of_ble_eq_true rfl) ?_
  intro p e s m args below meth c hC H locs ls hR hS hl
  replace hC : xC G p s m args meth c cX10_refuse 2 RX10 (some .int) := hC
  replace hl : lv_has ls 2 [(0, .ref (xz G + 0)), (1, .int x1)] := hl
  unfold F_X10_refuse at hf
  refine lv_aload_n hC.1 hC.2.1 dX10_refuse_0 rfl (lv_at hl 0 rfl) ?_
  refine x_get (v := .ref (xz G + 56)) hC xf_X10_62 (xce_0 G kp _ _) rfl hR dX10_refuse_1 ?_
  refine lv_iload_n hC.1 hC.2.1 dX10_refuse_4 rfl (lv_at hl 1 rfl) ?_
  refine lv_ineg hC.1 hC.2.1 dX10_refuse_5 ?_
  refine lv_dup2_11 hC.1 hC.2.1 dX10_refuse_6 rfl rfl ?_
  refine x_ial hC (xce_56 G kp _ _) hR dX10_refuse_7 hf (fun v1 hf => ?_)
  refine lv_iconst (v := 1) hC.1 hC.2.1 dX10_refuse_8 (by decide) ?_
  refine lv_iadd hC.1 hC.2.1 dX10_refuse_9 ?_
  refine x_ias hC (fun f => (xce_56 G kp f _)) hR hS dX10_refuse_10 hf (fun I2 hf H locs hR hS => ?_)
  refine lv_iload_n hC.1 hC.2.1 dX10_refuse_11 rfl (lv_at hl 1 rfl) ?_
  obtain ⟨h91, h92⟩ := Prod.mk.inj (Option.some.inj hf)
  subst h91
  subst h92
  exact x_iret hC hR hS dX10_refuse_12
set_option maxRecDepth 20000 in
theorem M_X3_enter (G : XG) (l : Launch) (kp : Bool) {I : xTI} {L : xTL} {x1 : Int32} {x2 : Int32} {r : Int32} {rI : xTI} {rL : xTL} (hf : F_X3_enter I L x1 x2 = some (r, rI, rL)) : xMet G l yX3_enter cX3_enter 4 (some .int) 0 0 kp [.ref (xz G + 3), .int x1, .int x2] I L (some (.int r)) rI rL := by
  refine xMet.ofW (by decide +kernel) (Nat.le_of_ble_eq_true rfl) ?_
  intro p e s m args below meth c hC H locs ls hR hS hl
  replace hC : xC G p s m args meth c cX3_enter 4 RX3 (some .int) := hC
  replace hl : lv_has ls 4 [(0, .ref (xz G + 3)), (1, .int x1), (2, .int x2)] := hl
  unfold F_X3_enter at hf
  refine lv_aload_n hC.1 hC.2.1 dX3_enter_0 rfl (lv_at hl 0 rfl) ?_
  refine x_getI hC xf_X3_34 (xce_3 G kp _ _) rfl hR dX3_enter_1 hf (fun v1 hf => ?_)
  refine lv_istore_n (lv' := [(3, .int v1), (0, .ref (xz G + 3)), (1, .int x1), (2, .int x2)]) hC.1 hC.2.1 dX3_enter_4 rfl hl (Nat.le_of_ble_eq_true rfl) rfl (fun ls hl => ?_)
  refine lv_aload_n hC.1 hC.2.1 dX3_enter_5 rfl (lv_at hl 1 rfl) ?_
  refine lv_dup hC.1 hC.2.1 dX3_enter_6 rfl ?_
  refine x_getI hC xf_X3_34 (xce_3 G kp _ _) rfl hR dX3_enter_7 hf (fun v2 hf => ?_)
  refine lv_iconst (v := 1) hC.1 hC.2.1 dX3_enter_10 (by decide) ?_
  refine lv_iadd hC.1 hC.2.1 dX3_enter_11 ?_
  refine x_putI hC xf_X3_34 xp_3_0 (fun f => (xce_3 G kp f _)) rfl (Nat.le_of_ble_eq_true rfl) hR hS dX3_enter_12 hf (fun I3 hf H locs hR hS => ?_)
  refine lv_aload_n hC.1 hC.2.1 dX3_enter_15 rfl (lv_at hl 1 rfl) ?_
  refine x_get (v := .ref (xz G + 4)) hC xf_X3_9 (xce_3 G kp _ _) rfl hR dX3_enter_16 ?_
  refine W.eq (g2 := F0 m 19 ls [.ref (xz G + 4)]) rfl ?_
  refine lv_iload_n hC.1 hC.2.1 dX3_enter_19 rfl (lv_at hl 0 rfl) ?_
  refine lv_iload_n hC.1 hC.2.1 dX3_enter_20 rfl (lv_at hl 2 rfl) ?_
  refine lv_i2l hC.1 hC.2.1 dX3_enter_21 rfl ?_
  refine x_las hC (fun f => (xce_4 G kp _ f)) hR hS dX3_enter_22 hf (fun L4 hf H locs hR hS => ?_)
  refine lv_aload_n hC.1 hC.2.1 dX3_enter_23 rfl (lv_at hl 1 rfl) ?_
  refine x_get (v := .ref (xz G + 7)) hC xf_X3_21 (xce_3 G kp _ _) rfl hR dX3_enter_24 ?_
  refine lv_iload_n hC.1 hC.2.1 dX3_enter_27 rfl (lv_at hl 0 rfl) ?_
  refine lv_iload_n hC.1 hC.2.1 dX3_enter_28 rfl (lv_at hl 3 rfl) ?_
  refine x_ias hC (fun f => (xce_7 G kp f _)) hR hS dX3_enter_29 hf (fun I5 hf H locs hR hS => ?_)
  refine lv_aload_n hC.1 hC.2.1 dX3_enter_30 rfl (lv_at hl 1 rfl) ?_
  refine x_get (v := .ref (xz G + 8)) hC xf_X3_25 (xce_3 G kp _ _) rfl hR dX3_enter_31 ?_
  refine lv_iload_n hC.1 hC.2.1 dX3_enter_34 rfl (lv_at hl 0 rfl) ?_
  refine W.eq (g2 := F0 m 35 ls [.int v1, .ref (xz G + 8)]) rfl ?_
  refine lv_iconst (v := (-1)) hC.1 hC.2.1 dX3_enter_35 (by decide) ?_
  refine x_ias hC (fun f => (xce_8 G kp f _)) hR hS dX3_enter_36 hf (fun I6 hf H locs hR hS => ?_)
  refine lv_iload_n hC.1 hC.2.1 dX3_enter_37 rfl (lv_at hl 0 rfl) ?_
  obtain ⟨h91, h90⟩ := Prod.mk.inj (Option.some.inj hf)
  obtain ⟨h92, h93⟩ := Prod.mk.inj h90
  subst h91
  subst h92
  subst h93
  exact x_iret hC hR hS dX3_enter_38
set_option maxRecDepth 20000 in
theorem W_X10_man_j20 {G : XG} {l : Launch} {kp : Bool} {p : Program} {e : Env} {s : State} {m : MethodId} {args : Array Value} {below : List Frame} {meth : Method} {c : Code} (hC : xC G p s m args meth c cX10_man 3 RX10 (some .int)) {I : xTI} {L : xTL} {r : Int32} {rI : xTI} {rL : xTL} (hf : F_X10_man_j20 I L = some (r, rI, rL)) : ∀ (H : Heap) (locs : List Loc) (ls : Array Slot), xRep G kp I L H → xS G s.heap H locs → lv_has ls 3 [(0, .ref (xz G + 0))] → W p l e (xrm 1 23) s m args below meth c H locs 0 0 (xMQ G kp below args s (some (.int r)) rI rL) (F0 m 20 ls []) := by
  intro H locs ls hR hS hl
  unfold F_X10_man_j20 at hf
  refine lv_aload_n hC.1 hC.2.1 dX10_man_20 rfl (lv_at hl 0 rfl) ?_
  refine lv_bipush (v := (-7)) hC.1 hC.2.1 dX10_man_21 (by decide) ?_
  refine x_cvi10 (rest := []) hC xy_X10_refuse tw_411 hf (fun _ _ h => M_X10_refuse G l kp h) ⟨Nat.le_of_ble_eq_true rfl, Nat.le_of_ble_eq_true rfl⟩ (xce_0 G kp _ _) rfl rfl rfl (Nat.le_of_ble_eq_true rfl) hl.1 hR hS dX10_man_23 ⟨Nat.le_refl _, Nat.le_refl _⟩ (fun v1 I2 hf H locs hR hS => ?_)
  obtain ⟨h91, h90⟩ := Prod.mk.inj (Option.some.inj hf)
  obtain ⟨h92, h93⟩ := Prod.mk.inj h90
  subst h91
  subst h92
  subst h93
  exact x_iret hC hR hS dX10_man_26
set_option maxRecDepth 20000 in
theorem M_X10_man (G : XG) (l : Launch) (kp : Bool) {I : xTI} {L : xTL} {x1 : Int32} {x2 : Int32} {r : Int32} {rI : xTI} {rL : xTL} (hf : F_X10_man I L x1 x2 = some (r, rI, rL)) : xMet G l yX10_man cX10_man 3 (some .int) 1 23 kp [.ref (xz G + 0), .int x1, .int x2] I L (some (.int r)) rI rL := by
  refine xMet.ofW (by decide +kernel) (Nat.le_of_ble_eq_true rfl) ?_
  intro p e s m args below meth c hC H locs ls hR hS hl
  replace hC : xC G p s m args meth c cX10_man 3 RX10 (some .int) := hC
  replace hl : lv_has ls 3 [(0, .ref (xz G + 0)), (1, .int x1), (2, .int x2)] := hl
  unfold F_X10_man at hf
  refine lv_iload_n hC.1 hC.2.1 dX10_man_0 rfl (lv_at hl 1 rfl) ?_
  refine lv_iconst (v := 0) hC.1 hC.2.1 dX10_man_1 (by decide) ?_
  refine x_ldc (v := 100000000) hC tw_407 dX10_man_2 ?_
  refine x_csi00 (rest := []) hC xy_X10_isWithin tw_408 hf (fun _ h => M_X10_isWithin G l kp h) ⟨Nat.le_of_ble_eq_true rfl, Nat.le_of_ble_eq_true rfl⟩ rfl rfl (Nat.le_of_ble_eq_true rfl) hl.1 hR hS dX10_man_4 ⟨Nat.le_refl _, Nat.le_refl _⟩ (fun v1 hf H locs hR hS => ?_)
  refine x_if_eq (tgt := 20) hC dX10_man_7 (by decide) hf (fun hf => ?_) (fun hf => ?_)
  · exact W_X10_man_j20 hC hf _ _ _ hR hS (lv_sub hl [0] rfl)
  · refine lv_iload_n hC.1 hC.2.1 dX10_man_10 rfl (lv_at hl 2 rfl) ?_
    refine lv_iconst (v := 0) hC.1 hC.2.1 dX10_man_11 (by decide) ?_
    refine lv_bipush (v := 99) hC.1 hC.2.1 dX10_man_12 (by decide) ?_
    refine x_csi00 (rest := []) hC xy_X10_isWithin tw_408 hf (fun _ h => M_X10_isWithin G l kp h) ⟨Nat.le_of_ble_eq_true rfl, Nat.le_of_ble_eq_true rfl⟩ rfl rfl (Nat.le_of_ble_eq_true rfl) hl.1 hR hS dX10_man_14 ⟨Nat.le_refl _, Nat.le_refl _⟩ (fun v2 hf H locs hR hS => ?_)
    refine x_if_ne (tgt := 27) hC dX10_man_17 (by decide) hf (fun hf => ?_) (fun hf => ?_)
    · refine lv_aload_n hC.1 hC.2.1 dX10_man_27 rfl (lv_at hl 0 rfl) ?_
      refine x_get (v := .ref (xz G + 1)) hC xf_X10_10 (xce_0 G kp _ _) rfl hR dX10_man_28 ?_
      refine x_get (v := .ref (xz G + 3)) hC xf_X10_74 (xce_1 G kp _ _) rfl hR dX10_man_31 ?_
      refine x_getI hC xf_X10_78 (xce_3 G kp _ _) rfl hR dX10_man_34 hf (fun v3 hf => ?_)
      refine lv_bipush (v := 12) hC.1 hC.2.1 dX10_man_37 (by decide) ?_
      refine x_ic_lt (tgt := 49) hC dX10_man_39 (by decide) hf (fun hf => ?_) (fun hf => ?_)
      · refine lv_aload_n hC.1 hC.2.1 dX10_man_49 rfl (lv_at hl 0 rfl) ?_
        refine x_get (v := .ref (xz G + 1)) hC xf_X10_10 (xce_0 G kp _ _) rfl hR dX10_man_50 ?_
        refine x_get (v := .ref (xz G + 3)) hC xf_X10_74 (xce_1 G kp _ _) rfl hR dX10_man_53 ?_
        refine lv_iload_n hC.1 hC.2.1 dX10_man_56 rfl (lv_at hl 1 rfl) ?_
        refine lv_iload_n hC.1 hC.2.1 dX10_man_57 rfl (lv_at hl 2 rfl) ?_
        refine x_cvi11 (rest := []) hC xy_X3_enter tw_415 hf (fun _ _ _ h => M_X3_enter G l kp h) ⟨Nat.le_of_ble_eq_true rfl, Nat.le_of_ble_eq_true rfl⟩ (xce_3 G kp _ _) rfl rfl rfl (Nat.le_of_ble_eq_true rfl) hl.1 hR hS dX10_man_58 ⟨Nat.le_refl _, Nat.le_refl _⟩ (fun v4 I5 L6 hf H locs hR hS => ?_)
        obtain ⟨h91, h90⟩ := Prod.mk.inj (Option.some.inj hf)
        obtain ⟨h92, h93⟩ := Prod.mk.inj h90
        subst h91
        subst h92
        subst h93
        exact x_iret hC hR hS dX10_man_61
      · refine lv_aload_n hC.1 hC.2.1 dX10_man_42 rfl (lv_at hl 0 rfl) ?_
        refine lv_bipush (v := (-8)) hC.1 hC.2.1 dX10_man_43 (by decide) ?_
        refine x_cvi10 (rest := []) hC xy_X10_refuse tw_411 hf (fun _ _ h => M_X10_refuse G l kp h) ⟨Nat.le_of_ble_eq_true rfl, Nat.le_of_ble_eq_true rfl⟩ (xce_0 G kp _ _) rfl rfl rfl (Nat.le_of_ble_eq_true rfl) hl.1 hR hS dX10_man_45 ⟨Nat.le_refl _, Nat.le_refl _⟩ (fun v7 I8 hf H locs hR hS => ?_)
        obtain ⟨h91, h90⟩ := Prod.mk.inj (Option.some.inj hf)
        obtain ⟨h92, h93⟩ := Prod.mk.inj h90
        subst h91
        subst h92
        subst h93
        exact x_iret hC hR hS dX10_man_48
    · exact W_X10_man_j20 hC hf _ _ _ hR hS (lv_sub hl [0] rfl)
set_option maxRecDepth 20000 in
theorem M_X10_stock (G : XG) (l : Launch) (kp : Bool) {I : xTI} {L : xTL} {r : Int32} {rI : xTI} (hf : F_X10_stock I = some (r, rI)) : xMet G l yX10_stock cX10_stock 1 (some .int) 1 21 kp [.ref (xz G + 0)] I L (some (.int r)) rI L := by
  refine xMet.ofW (by decide +kernel) (Nat.le_of_ble_eq_true rfl) ?_
  intro p e s m args below meth c hC H locs ls hR hS hl
  replace hC : xC G p s m args meth c cX10_stock 1 RX10 (some .int) := hC
  replace hl : lv_has ls 1 [(0, .ref (xz G + 0))] := hl
  unfold F_X10_stock at hf
  refine lv_aload_n hC.1 hC.2.1 dX10_stock_0 rfl (lv_at hl 0 rfl) ?_
  refine x_get (v := .ref (xz G + 1)) hC xf_X10_10 (xce_0 G kp _ _) rfl hR dX10_stock_1 ?_
  refine x_getI hC xf_X10_87 (xce_1 G kp _ _) rfl hR dX10_stock_4 hf (fun v1 hf => ?_)
  refine lv_iconst (v := 5) hC.1 hC.2.1 dX10_stock_7 (by decide) ?_
  refine x_ic_lt (tgt := 18) hC dX10_stock_8 (by decide) hf (fun hf => ?_) (fun hf => ?_)
  · refine lv_aload_n hC.1 hC.2.1 dX10_stock_18 rfl (lv_at hl 0 rfl) ?_
    refine x_get (v := .ref (xz G + 1)) hC xf_X10_10 (xce_0 G kp _ _) rfl hR dX10_stock_19 ?_
    refine lv_dup hC.1 hC.2.1 dX10_stock_22 rfl ?_
    refine x_getI hC xf_X10_87 (xce_1 G kp _ _) rfl hR dX10_stock_23 hf (fun v2 hf => ?_)
    refine lv_iconst (v := 1) hC.1 hC.2.1 dX10_stock_26 (by decide) ?_
    refine lv_iadd hC.1 hC.2.1 dX10_stock_27 ?_
    refine x_putI hC xf_X10_87 xp_1_1 (fun f => (xce_1 G kp f _)) rfl (Nat.le_of_ble_eq_true rfl) hR hS dX10_stock_28 hf (fun I3 hf H locs hR hS => ?_)
    refine lv_aload_n hC.1 hC.2.1 dX10_stock_31 rfl (lv_at hl 0 rfl) ?_
    refine x_get (v := .ref (xz G + 1)) hC xf_X10_10 (xce_0 G kp _ _) rfl hR dX10_stock_32 ?_
    refine x_getI hC xf_X10_87 (xce_1 G kp _ _) rfl hR dX10_stock_35 hf (fun v4 hf => ?_)
    refine lv_iconst (v := 1) hC.1 hC.2.1 dX10_stock_38 (by decide) ?_
    refine W.eq (g2 := F0 m 39 ls [.int 1, .int v4]) rfl ?_
    refine lv_isub hC.1 hC.2.1 dX10_stock_39 ?_
    obtain ⟨h91, h92⟩ := Prod.mk.inj (Option.some.inj hf)
    subst h91
    subst h92
    exact x_iret hC hR hS dX10_stock_40
  · refine lv_aload_n hC.1 hC.2.1 dX10_stock_11 rfl (lv_at hl 0 rfl) ?_
    refine lv_bipush (v := (-8)) hC.1 hC.2.1 dX10_stock_12 (by decide) ?_
    refine x_cvi10 (rest := []) hC xy_X10_refuse tw_411 hf (fun _ _ h => M_X10_refuse G l kp h) ⟨Nat.le_of_ble_eq_true rfl, Nat.le_of_ble_eq_true rfl⟩ (xce_0 G kp _ _) rfl rfl rfl (Nat.le_of_ble_eq_true rfl) hl.1 hR hS dX10_stock_14 ⟨Nat.le_refl _, Nat.le_refl _⟩ (fun v5 I6 hf H locs hR hS => ?_)
    obtain ⟨h91, h92⟩ := Prod.mk.inj (Option.some.inj hf)
    subst h91
    subst h92
    exact x_iret hC hR hS dX10_stock_17
set_option maxRecDepth 20000 in
theorem M_X10_isMan (G : XG) (l : Launch) (kp : Bool) {I : xTI} {L : xTL} {x1 : Int32} {r : Int32} (hf : F_X10_isMan I x1 = some r) : xMet G l yX10_isMan cX10_isMan 2 (some .boolean) 1 22 kp [.ref (xz G + 0), .int x1] I L (some (.int r)) I L := by
  refine xMet.ofW (by decide +kernel) (Nat.le_of_ble_eq_true rfl) ?_
  intro p e s m args below meth c hC H locs ls hR hS hl
  replace hC : xC G p s m args meth c cX10_isMan 2 RX10 (some .boolean) := hC
  replace hl : lv_has ls 2 [(0, .ref (xz G + 0)), (1, .int x1)] := hl
  unfold F_X10_isMan at hf
  refine lv_iload_n hC.1 hC.2.1 dX10_isMan_0 rfl (lv_at hl 1 rfl) ?_
  refine lv_iconst (v := 0) hC.1 hC.2.1 dX10_isMan_1 (by decide) ?_
  refine lv_aload_n hC.1 hC.2.1 dX10_isMan_2 rfl (lv_at hl 0 rfl) ?_
  refine x_get (v := .ref (xz G + 1)) hC xf_X10_10 (xce_0 G kp _ _) rfl hR dX10_isMan_3 ?_
  refine x_get (v := .ref (xz G + 3)) hC xf_X10_74 (xce_1 G kp _ _) rfl hR dX10_isMan_6 ?_
  refine x_getI hC xf_X10_78 (xce_3 G kp _ _) rfl hR dX10_isMan_9 hf (fun v1 hf => ?_)
  refine lv_iconst (v := 1) hC.1 hC.2.1 dX10_isMan_12 (by decide) ?_
  refine lv_isub hC.1 hC.2.1 dX10_isMan_13 ?_
  refine x_csi00 (rest := []) hC xy_X10_isWithin tw_408 hf (fun _ h => M_X10_isWithin G l kp h) ⟨Nat.le_of_ble_eq_true rfl, Nat.le_of_ble_eq_true rfl⟩ rfl rfl (Nat.le_of_ble_eq_true rfl) hl.1 hR hS dX10_isMan_14 ⟨Nat.le_refl _, Nat.le_refl _⟩ (fun v2 hf H locs hR hS => ?_)
  obtain ⟨h01, hf⟩ := xzc_some hf
  have h9 := Option.some.inj hf
  subst h9
  exact x_zret h01 hC hR hS dX10_isMan_17
set_option maxRecDepth 20000 in
theorem M_X10_isStock (G : XG) (l : Launch) (kp : Bool) {I : xTI} {L : xTL} {x1 : Int32} {r : Int32} (hf : F_X10_isStock I x1 = some r) : xMet G l yX10_isStock cX10_isStock 2 (some .boolean) 1 22 kp [.ref (xz G + 0), .int x1] I L (some (.int r)) I L := by
  refine xMet.ofW (by decide +kernel) (Nat.le_of_ble_eq_true rfl) ?_
  intro p e s m args below meth c hC H locs ls hR hS hl
  replace hC : xC G p s m args meth c cX10_isStock 2 RX10 (some .boolean) := hC
  replace hl : lv_has ls 2 [(0, .ref (xz G + 0)), (1, .int x1)] := hl
  unfold F_X10_isStock at hf
  refine lv_iload_n hC.1 hC.2.1 dX10_isStock_0 rfl (lv_at hl 1 rfl) ?_
  refine lv_iconst (v := 0) hC.1 hC.2.1 dX10_isStock_1 (by decide) ?_
  refine lv_aload_n hC.1 hC.2.1 dX10_isStock_2 rfl (lv_at hl 0 rfl) ?_
  refine x_get (v := .ref (xz G + 1)) hC xf_X10_10 (xce_0 G kp _ _) rfl hR dX10_isStock_3 ?_
  refine x_getI hC xf_X10_87 (xce_1 G kp _ _) rfl hR dX10_isStock_6 hf (fun v1 hf => ?_)
  refine lv_iconst (v := 1) hC.1 hC.2.1 dX10_isStock_9 (by decide) ?_
  refine lv_isub hC.1 hC.2.1 dX10_isStock_10 ?_
  refine x_csi00 (rest := []) hC xy_X10_isWithin tw_408 hf (fun _ h => M_X10_isWithin G l kp h) ⟨Nat.le_of_ble_eq_true rfl, Nat.le_of_ble_eq_true rfl⟩ rfl rfl (Nat.le_of_ble_eq_true rfl) hl.1 hR hS dX10_isStock_11 ⟨Nat.le_refl _, Nat.le_refl _⟩ (fun v2 hf H locs hR hS => ?_)
  obtain ⟨h01, hf⟩ := xzc_some hf
  have h9 := Option.some.inj hf
  subst h9
  exact x_zret h01 hC hR hS dX10_isStock_14
set_option maxRecDepth 20000 in
theorem M_X3_isUp (G : XG) (l : Launch) (kp : Bool) {I : xTI} {L : xTL} {x1 : Int32} {r : Int32} (hf : F_X3_isUp I x1 = some r) : xMet G l yX3_isUp cX3_isUp 2 (some .boolean) 0 0 kp [.ref (xz G + 3), .int x1] I L (some (.int r)) I L := by
  refine xMet.ofW (by decide +kernel) (Nat.le_of_ble_eq_true rfl) ?_
  intro p e s m args below meth c hC H locs ls hR hS hl
  replace hC : xC G p s m args meth c cX3_isUp 2 RX3 (some .boolean) := hC
  replace hl : lv_has ls 2 [(0, .ref (xz G + 3)), (1, .int x1)] := hl
  unfold F_X3_isUp at hf
  refine lv_aload_n hC.1 hC.2.1 dX3_isUp_0 rfl (lv_at hl 0 rfl) ?_
  refine x_get (v := .ref (xz G + 8)) hC xf_X3_25 (xce_3 G kp _ _) rfl hR dX3_isUp_1 ?_
  refine lv_iload_n hC.1 hC.2.1 dX3_isUp_4 rfl (lv_at hl 1 rfl) ?_
  refine x_ial hC (xce_8 G kp _ _) hR dX3_isUp_5 hf (fun v1 hf => ?_)
  refine lv_iconst (v := (-1)) hC.1 hC.2.1 dX3_isUp_6 (by decide) ?_
  refine x_ic_ne (tgt := 14) hC dX3_isUp_7 (by decide) hf (fun hf => ?_) (fun hf => ?_)
  · refine lv_iconst (v := 0) hC.1 hC.2.1 dX3_isUp_14 (by decide) ?_
    obtain ⟨h01, hf⟩ := xzc_some hf
    have h9 := Option.some.inj hf
    subst h9
    exact x_zret h01 hC hR hS dX3_isUp_15
  · refine lv_iconst (v := 1) hC.1 hC.2.1 dX3_isUp_10 (by decide) ?_
    refine lv_goto (tgt := 15) hC.1 hC.2.1 dX3_isUp_11 (by decide) ?_
    obtain ⟨h01, hf⟩ := xzc_some hf
    have h9 := Option.some.inj hf
    subst h9
    exact x_zret h01 hC hR hS dX3_isUp_15
set_option maxRecDepth 20000 in
theorem M_X3_place (G : XG) (l : Launch) (kp : Bool) {I : xTI} {L : xTL} {x0 : Int32} {x1 : Int32} {r : Int32} (hf : F_X3_place x0 x1 = some r) : xMet G l yX3_place cX3_place 2 (some .int) 0 0 kp [.int x0, .int x1] I L (some (.int r)) I L := by
  refine xMet.ofW (by decide +kernel) (Nat.le_of_ble_eq_true rfl) ?_
  intro p e s m args below meth c hC H locs ls hR hS hl
  replace hC : xC G p s m args meth c cX3_place 2 RX3 (some .int) := hC
  replace hl : lv_has ls 2 [(0, .int x0), (1, .int x1)] := hl
  unfold F_X3_place at hf
  refine lv_iload_n hC.1 hC.2.1 dX3_place_0 rfl (lv_at hl 0 rfl) ?_
  refine lv_iconst (v := 5) hC.1 hC.2.1 dX3_place_1 (by decide) ?_
  refine lv_imul hC.1 hC.2.1 dX3_place_2 ?_
  refine lv_iload_n hC.1 hC.2.1 dX3_place_3 rfl (lv_at hl 1 rfl) ?_
  refine lv_iadd hC.1 hC.2.1 dX3_place_4 ?_
  have h9 := Option.some.inj hf
  subst h9
  exact x_iret hC hR hS dX3_place_5
set_option maxRecDepth 20000 in
theorem W_X10_hold_j16 {G : XG} {l : Launch} {kp : Bool} {p : Program} {e : Env} {s : State} {m : MethodId} {args : Array Value} {below : List Frame} {meth : Method} {c : Code} (hC : xC G p s m args meth c cX10_hold 5 RX10 (some .int)) {I : xTI} {L : xTL} {r : Int32} {rI : xTI} (hf : F_X10_hold_j16 I = some (r, rI)) : ∀ (H : Heap) (locs : List Loc) (ls : Array Slot), xRep G kp I L H → xS G s.heap H locs → lv_has ls 5 [(0, .ref (xz G + 0))] → W p l e (xrm 2 43) s m args below meth c H locs 0 0 (xMQ G kp below args s (some (.int r)) rI L) (F0 m 16 ls []) := by
  intro H locs ls hR hS hl
  unfold F_X10_hold_j16 at hf
  refine lv_aload_n hC.1 hC.2.1 dX10_hold_16 rfl (lv_at hl 0 rfl) ?_
  refine lv_bipush (v := (-3)) hC.1 hC.2.1 dX10_hold_17 (by decide) ?_
  refine x_cvi10 (rest := []) hC xy_X10_refuse tw_411 hf (fun _ _ h => M_X10_refuse G l kp h) ⟨Nat.le_of_ble_eq_true rfl, Nat.le_of_ble_eq_true rfl⟩ (xce_0 G kp _ _) rfl rfl rfl (Nat.le_of_ble_eq_true rfl) hl.1 hR hS dX10_hold_19 ⟨Nat.le_refl _, Nat.le_refl _⟩ (fun v1 I2 hf H locs hR hS => ?_)
  obtain ⟨h91, h92⟩ := Prod.mk.inj (Option.some.inj hf)
  subst h91
  subst h92
  exact x_iret hC hR hS dX10_hold_22
set_option maxRecDepth 20000 in
theorem W_X10_hold_j48 {G : XG} {l : Launch} {kp : Bool} {p : Program} {e : Env} {s : State} {m : MethodId} {args : Array Value} {below : List Frame} {meth : Method} {c : Code} (hC : xC G p s m args meth c cX10_hold 5 RX10 (some .int)) {I : xTI} {L : xTL} {r : Int32} {rI : xTI} (hf : F_X10_hold_j48 I = some (r, rI)) : ∀ (H : Heap) (locs : List Loc) (ls : Array Slot), xRep G kp I L H → xS G s.heap H locs → lv_has ls 5 [(0, .ref (xz G + 0))] → W p l e (xrm 2 43) s m args below meth c H locs 0 0 (xMQ G kp below args s (some (.int r)) rI L) (F0 m 48 ls []) := by
  intro H locs ls hR hS hl
  unfold F_X10_hold_j48 at hf
  refine lv_aload_n hC.1 hC.2.1 dX10_hold_48 rfl (lv_at hl 0 rfl) ?_
  refine lv_bipush (v := (-7)) hC.1 hC.2.1 dX10_hold_49 (by decide) ?_
  refine x_cvi10 (rest := []) hC xy_X10_refuse tw_411 hf (fun _ _ h => M_X10_refuse G l kp h) ⟨Nat.le_of_ble_eq_true rfl, Nat.le_of_ble_eq_true rfl⟩ (xce_0 G kp _ _) rfl rfl rfl (Nat.le_of_ble_eq_true rfl) hl.1 hR hS dX10_hold_51 ⟨Nat.le_refl _, Nat.le_refl _⟩ (fun v1 I2 hf H locs hR hS => ?_)
  obtain ⟨h91, h92⟩ := Prod.mk.inj (Option.some.inj hf)
  subst h91
  subst h92
  exact x_iret hC hR hS dX10_hold_54
set_option maxRecDepth 20000 in
theorem M_X10_hold (G : XG) (l : Launch) (kp : Bool) {I : xTI} {L : xTL} {x1 : Int32} {x2 : Int32} {x3 : Int32} {r : Int32} {rI : xTI} (hf : F_X10_hold I x1 x2 x3 = some (r, rI)) : xMet G l yX10_hold cX10_hold 5 (some .int) 2 43 kp [.ref (xz G + 0), .int x1, .int x2, .int x3] I L (some (.int r)) rI L := by
  refine xMet.ofW (by decide +kernel) (Nat.le_of_ble_eq_true rfl) ?_
  intro p e s m args below meth c hC H locs ls hR hS hl
  replace hC : xC G p s m args meth c cX10_hold 5 RX10 (some .int) := hC
  replace hl : lv_has ls 5 [(0, .ref (xz G + 0)), (1, .int x1), (2, .int x2), (3, .int x3)] := hl
  unfold F_X10_hold at hf
  refine lv_aload_n hC.1 hC.2.1 dX10_hold_0 rfl (lv_at hl 0 rfl) ?_
  refine lv_iload_n hC.1 hC.2.1 dX10_hold_1 rfl (lv_at hl 1 rfl) ?_
  refine x_cvi00 (rest := []) hC xy_X10_isMan tw_427 hf (fun _ h => M_X10_isMan G l kp h) ⟨Nat.le_of_ble_eq_true rfl, Nat.le_of_ble_eq_true rfl⟩ (xce_0 G kp _ _) rfl rfl rfl (Nat.le_of_ble_eq_true rfl) hl.1 hR hS dX10_hold_2 ⟨Nat.le_refl _, Nat.le_refl _⟩ (fun v1 hf H locs hR hS => ?_)
  refine x_if_eq (tgt := 16) hC dX10_hold_5 (by decide) hf (fun hf => ?_) (fun hf => ?_)
  · exact W_X10_hold_j16 hC hf _ _ _ hR hS (lv_sub hl [0] rfl)
  · refine lv_aload_n hC.1 hC.2.1 dX10_hold_8 rfl (lv_at hl 0 rfl) ?_
    refine lv_iload_n hC.1 hC.2.1 dX10_hold_9 rfl (lv_at hl 2 rfl) ?_
    refine x_cvi00 (rest := []) hC xy_X10_isStock tw_431 hf (fun _ h => M_X10_isStock G l kp h) ⟨Nat.le_of_ble_eq_true rfl, Nat.le_of_ble_eq_true rfl⟩ (xce_0 G kp _ _) rfl rfl rfl (Nat.le_of_ble_eq_true rfl) hl.1 hR hS dX10_hold_10 ⟨Nat.le_refl _, Nat.le_refl _⟩ (fun v2 hf H locs hR hS => ?_)
    refine x_if_ne (tgt := 23) hC dX10_hold_13 (by decide) hf (fun hf => ?_) (fun hf => ?_)
    · refine lv_iload_n hC.1 hC.2.1 dX10_hold_23 rfl (lv_at hl 3 rfl) ?_
      refine lv_iconst (v := 0) hC.1 hC.2.1 dX10_hold_24 (by decide) ?_
      refine lv_sipush (v := 9999) hC.1 hC.2.1 dX10_hold_25 (by decide) ?_
      refine x_csi00 (rest := []) hC xy_X10_isWithin tw_408 hf (fun _ h => M_X10_isWithin G l kp h) ⟨Nat.le_of_ble_eq_true rfl, Nat.le_of_ble_eq_true rfl⟩ rfl rfl (Nat.le_of_ble_eq_true rfl) hl.1 hR hS dX10_hold_28 ⟨Nat.le_refl _, Nat.le_refl _⟩ (fun v3 hf H locs hR hS => ?_)
      refine x_if_eq (tgt := 48) hC dX10_hold_31 (by decide) hf (fun hf => ?_) (fun hf => ?_)
      · exact W_X10_hold_j48 hC hf _ _ _ hR hS (lv_sub hl [0] rfl)
      · refine lv_aload_n hC.1 hC.2.1 dX10_hold_34 rfl (lv_at hl 0 rfl) ?_
        refine x_get (v := .ref (xz G + 1)) hC xf_X10_10 (xce_0 G kp _ _) rfl hR dX10_hold_35 ?_
        refine x_get (v := .ref (xz G + 3)) hC xf_X10_74 (xce_1 G kp _ _) rfl hR dX10_hold_38 ?_
        refine lv_iload_n hC.1 hC.2.1 dX10_hold_41 rfl (lv_at hl 1 rfl) ?_
        refine x_cvi00 (rest := []) hC xy_X3_isUp tw_435 hf (fun _ h => M_X3_isUp G l kp h) ⟨Nat.le_of_ble_eq_true rfl, Nat.le_of_ble_eq_true rfl⟩ (xce_3 G kp _ _) rfl rfl rfl (Nat.le_of_ble_eq_true rfl) hl.1 hR hS dX10_hold_42 ⟨Nat.le_refl _, Nat.le_refl _⟩ (fun v4 hf H locs hR hS => ?_)
        refine x_if_ne (tgt := 55) hC dX10_hold_45 (by decide) hf (fun hf => ?_) (fun hf => ?_)
        · refine lv_iload_n hC.1 hC.2.1 dX10_hold_55 rfl (lv_at hl 1 rfl) ?_
          refine lv_iload_n hC.1 hC.2.1 dX10_hold_56 rfl (lv_at hl 2 rfl) ?_
          refine x_csi00 (rest := []) hC xy_X3_place tw_439 hf (fun _ h => M_X3_place G l kp h) ⟨Nat.le_of_ble_eq_true rfl, Nat.le_of_ble_eq_true rfl⟩ rfl rfl (Nat.le_of_ble_eq_true rfl) hl.1 hR hS dX10_hold_57 ⟨Nat.le_refl _, Nat.le_refl _⟩ (fun v5 hf H locs hR hS => ?_)
          refine lv_istore (lv' := [(4, .int v5), (0, .ref (xz G + 0)), (1, .int x1), (2, .int x2), (3, .int x3)]) hC.1 hC.2.1 dX10_hold_60 hl (Nat.le_of_ble_eq_true rfl) rfl (fun ls hl => ?_)
          refine lv_aload_n hC.1 hC.2.1 dX10_hold_62 rfl (lv_at hl 1 rfl) ?_
          refine x_get (v := .ref (xz G + 1)) hC xf_X10_10 (xce_0 G kp _ _) rfl hR dX10_hold_63 ?_
          refine x_get (v := .ref (xz G + 3)) hC xf_X10_74 (xce_1 G kp _ _) rfl hR dX10_hold_66 ?_
          refine x_get (v := .ref (xz G + 9)) hC xf_X10_103 (xce_3 G kp _ _) rfl hR dX10_hold_69 ?_
          refine lv_iload hC.1 hC.2.1 dX10_hold_72 (lv_at hl 0 rfl) ?_
          refine lv_dup2_11 hC.1 hC.2.1 dX10_hold_74 rfl rfl ?_
          refine x_ial hC (xce_9 G kp _ _) hR dX10_hold_75 hf (fun v6 hf => ?_)
          refine W.eq (g2 := F0 m 76 ls [.int v6, .int v5, .ref (xz G + 9)]) rfl ?_
          refine lv_iload_n hC.1 hC.2.1 dX10_hold_76 rfl (lv_at hl 4 rfl) ?_
          refine lv_iadd hC.1 hC.2.1 dX10_hold_77 ?_
          refine x_ias hC (fun f => (xce_9 G kp f _)) hR hS dX10_hold_78 hf (fun I7 hf H locs hR hS => ?_)
          refine lv_aload_n hC.1 hC.2.1 dX10_hold_79 rfl (lv_at hl 1 rfl) ?_
          refine x_get (v := .ref (xz G + 1)) hC xf_X10_10 (xce_0 G kp _ _) rfl hR dX10_hold_80 ?_
          refine x_get (v := .ref (xz G + 3)) hC xf_X10_74 (xce_1 G kp _ _) rfl hR dX10_hold_83 ?_
          refine x_get (v := .ref (xz G + 9)) hC xf_X10_103 (xce_3 G kp _ _) rfl hR dX10_hold_86 ?_
          refine lv_iload hC.1 hC.2.1 dX10_hold_89 (lv_at hl 0 rfl) ?_
          refine x_ial hC (xce_9 G kp _ _) hR dX10_hold_91 hf (fun v8 hf => ?_)
          obtain ⟨h91, h92⟩ := Prod.mk.inj (Option.some.inj hf)
          subst h91
          subst h92
          exact x_iret hC hR hS dX10_hold_92
        · exact W_X10_hold_j48 hC hf _ _ _ hR hS (lv_sub hl [0] rfl)
    · exact W_X10_hold_j16 hC hf _ _ _ hR hS (lv_sub hl [0] rfl)
set_option maxRecDepth 20000 in
theorem W_X10_lend_j39 {G : XG} {l : Launch} {kp : Bool} {p : Program} {e : Env} {s : State} {m : MethodId} {args : Array Value} {below : List Frame} {meth : Method} {c : Code} (hC : xC G p s m args meth c cX10_lend 3 RX10 (some .int)) {I : xTI} {L : xTL} {r : Int32} {rI : xTI} {rL : xTL} (hf : F_X10_lend_j39 I L = some (r, rI, rL)) : ∀ (H : Heap) (locs : List Loc) (ls : Array Slot), xRep G kp I L H → xS G s.heap H locs → lv_has ls 3 [(0, .ref (xz G + 0))] → W p l e (xrm 2 43) s m args below meth c H locs 0 0 (xMQ G kp below args s (some (.int r)) rI rL) (F0 m 39 ls []) := by
  intro H locs ls hR hS hl
  unfold F_X10_lend_j39 at hf
  refine lv_aload_n hC.1 hC.2.1 dX10_lend_39 rfl (lv_at hl 0 rfl) ?_
  refine lv_bipush (v := (-7)) hC.1 hC.2.1 dX10_lend_40 (by decide) ?_
  refine x_cvi10 (rest := []) hC xy_X10_refuse tw_411 hf (fun _ _ h => M_X10_refuse G l kp h) ⟨Nat.le_of_ble_eq_true rfl, Nat.le_of_ble_eq_true rfl⟩ (xce_0 G kp _ _) rfl rfl rfl (Nat.le_of_ble_eq_true rfl) hl.1 hR hS dX10_lend_42 ⟨Nat.le_refl _, Nat.le_refl _⟩ (fun v1 I2 hf H locs hR hS => ?_)
  obtain ⟨h91, h90⟩ := Prod.mk.inj (Option.some.inj hf)
  obtain ⟨h92, h93⟩ := Prod.mk.inj h90
  subst h91
  subst h92
  subst h93
  exact x_iret hC hR hS dX10_lend_45
set_option maxRecDepth 20000 in
theorem M_X10_lend (G : XG) (l : Launch) (kp : Bool) {I : xTI} {L : xTL} {x1 : Int32} {x2 : Int32} {r : Int32} {rI : xTI} {rL : xTL} (hf : F_X10_lend I L x1 x2 = some (r, rI, rL)) : xMet G l yX10_lend cX10_lend 3 (some .int) 2 43 kp [.ref (xz G + 0), .int x1, .int x2] I L (some (.int r)) rI rL := by
  refine xMet.ofW (by decide +kernel) (Nat.le_of_ble_eq_true rfl) ?_
  intro p e s m args below meth c hC H locs ls hR hS hl
  replace hC : xC G p s m args meth c cX10_lend 3 RX10 (some .int) := hC
  replace hl : lv_has ls 3 [(0, .ref (xz G + 0)), (1, .int x1), (2, .int x2)] := hl
  unfold F_X10_lend at hf
  refine lv_aload_n hC.1 hC.2.1 dX10_lend_0 rfl (lv_at hl 0 rfl) ?_
  refine lv_iload_n hC.1 hC.2.1 dX10_lend_1 rfl (lv_at hl 1 rfl) ?_
  refine x_cvi00 (rest := []) hC xy_X10_isMan tw_427 hf (fun _ h => M_X10_isMan G l kp h) ⟨Nat.le_of_ble_eq_true rfl, Nat.le_of_ble_eq_true rfl⟩ (xce_0 G kp _ _) rfl rfl rfl (Nat.le_of_ble_eq_true rfl) hl.1 hR hS dX10_lend_2 ⟨Nat.le_refl _, Nat.le_refl _⟩ (fun v1 hf H locs hR hS => ?_)
  refine x_if_ne (tgt := 15) hC dX10_lend_5 (by decide) hf (fun hf => ?_) (fun hf => ?_)
  · refine lv_iload_n hC.1 hC.2.1 dX10_lend_15 rfl (lv_at hl 2 rfl) ?_
    refine lv_iconst (v := 0) hC.1 hC.2.1 dX10_lend_16 (by decide) ?_
    refine x_ldc (v := 100000000) hC tw_407 dX10_lend_17 ?_
    refine x_csi00 (rest := []) hC xy_X10_isWithin tw_408 hf (fun _ h => M_X10_isWithin G l kp h) ⟨Nat.le_of_ble_eq_true rfl, Nat.le_of_ble_eq_true rfl⟩ rfl rfl (Nat.le_of_ble_eq_true rfl) hl.1 hR hS dX10_lend_19 ⟨Nat.le_refl _, Nat.le_refl _⟩ (fun v2 hf H locs hR hS => ?_)
    refine x_if_eq (tgt := 39) hC dX10_lend_22 (by decide) hf (fun hf => ?_) (fun hf => ?_)
    · exact W_X10_lend_j39 hC hf _ _ _ hR hS (lv_sub hl [0] rfl)
    · refine lv_aload_n hC.1 hC.2.1 dX10_lend_25 rfl (lv_at hl 0 rfl) ?_
      refine x_get (v := .ref (xz G + 1)) hC xf_X10_10 (xce_0 G kp _ _) rfl hR dX10_lend_26 ?_
      refine x_get (v := .ref (xz G + 3)) hC xf_X10_74 (xce_1 G kp _ _) rfl hR dX10_lend_29 ?_
      refine lv_iload_n hC.1 hC.2.1 dX10_lend_32 rfl (lv_at hl 1 rfl) ?_
      refine x_cvi00 (rest := []) hC xy_X3_isUp tw_435 hf (fun _ h => M_X3_isUp G l kp h) ⟨Nat.le_of_ble_eq_true rfl, Nat.le_of_ble_eq_true rfl⟩ (xce_3 G kp _ _) rfl rfl rfl (Nat.le_of_ble_eq_true rfl) hl.1 hR hS dX10_lend_33 ⟨Nat.le_refl _, Nat.le_refl _⟩ (fun v3 hf H locs hR hS => ?_)
      refine x_if_ne (tgt := 46) hC dX10_lend_36 (by decide) hf (fun hf => ?_) (fun hf => ?_)
      · refine lv_aload_n hC.1 hC.2.1 dX10_lend_46 rfl (lv_at hl 0 rfl) ?_
        refine x_get (v := .ref (xz G + 1)) hC xf_X10_10 (xce_0 G kp _ _) rfl hR dX10_lend_47 ?_
        refine x_get (v := .ref (xz G + 3)) hC xf_X10_74 (xce_1 G kp _ _) rfl hR dX10_lend_50 ?_
        refine x_get (v := .ref (xz G + 4)) hC xf_X10_106 (xce_3 G kp _ _) rfl hR dX10_lend_53 ?_
        refine lv_iload_n hC.1 hC.2.1 dX10_lend_56 rfl (lv_at hl 1 rfl) ?_
        refine lv_dup2_11 hC.1 hC.2.1 dX10_lend_57 rfl rfl ?_
        refine x_lal hC (xce_4 G kp _ _) hR dX10_lend_58 hf (fun v4 hf => ?_)
        refine lv_iload_n hC.1 hC.2.1 dX10_lend_59 rfl (lv_at hl 2 rfl) ?_
        refine lv_i2l hC.1 hC.2.1 dX10_lend_60 rfl ?_
        refine lv_ladd hC.1 hC.2.1 dX10_lend_61 ?_
        refine x_las hC (fun f => (xce_4 G kp _ f)) hR hS dX10_lend_62 hf (fun L5 hf H locs hR hS => ?_)
        refine W.eq (g2 := F0 m 63 ls []) rfl ?_
        refine lv_iconst (v := 1) hC.1 hC.2.1 dX10_lend_63 (by decide) ?_
        obtain ⟨h91, h90⟩ := Prod.mk.inj (Option.some.inj hf)
        obtain ⟨h92, h93⟩ := Prod.mk.inj h90
        subst h91
        subst h92
        subst h93
        exact x_iret hC hR hS dX10_lend_64
      · exact W_X10_lend_j39 hC hf _ _ _ hR hS (lv_sub hl [0] rfl)
  · refine lv_aload_n hC.1 hC.2.1 dX10_lend_8 rfl (lv_at hl 0 rfl) ?_
    refine lv_bipush (v := (-3)) hC.1 hC.2.1 dX10_lend_9 (by decide) ?_
    refine x_cvi10 (rest := []) hC xy_X10_refuse tw_411 hf (fun _ _ h => M_X10_refuse G l kp h) ⟨Nat.le_of_ble_eq_true rfl, Nat.le_of_ble_eq_true rfl⟩ (xce_0 G kp _ _) rfl rfl rfl (Nat.le_of_ble_eq_true rfl) hl.1 hR hS dX10_lend_11 ⟨Nat.le_refl _, Nat.le_refl _⟩ (fun v6 I7 hf H locs hR hS => ?_)
    obtain ⟨h91, h90⟩ := Prod.mk.inj (Option.some.inj hf)
    obtain ⟨h92, h93⟩ := Prod.mk.inj h90
    subst h91
    subst h92
    subst h93
    exact x_iret hC hR hS dX10_lend_14
set_option maxRecDepth 20000 in
theorem W_X10_asks_j16 {G : XG} {l : Launch} {kp : Bool} {p : Program} {e : Env} {s : State} {m : MethodId} {args : Array Value} {below : List Frame} {meth : Method} {c : Code} (hC : xC G p s m args meth c cX10_asks 6 RX10 (some .int)) {I : xTI} {L : xTL} {r : Int32} {rI : xTI} (hf : F_X10_asks_j16 I = some (r, rI)) : ∀ (H : Heap) (locs : List Loc) (ls : Array Slot), xRep G kp I L H → xS G s.heap H locs → lv_has ls 6 [(0, .ref (xz G + 0))] → W p l e (xrm 2 43) s m args below meth c H locs 0 0 (xMQ G kp below args s (some (.int r)) rI L) (F0 m 16 ls []) := by
  intro H locs ls hR hS hl
  unfold F_X10_asks_j16 at hf
  refine lv_aload_n hC.1 hC.2.1 dX10_asks_16 rfl (lv_at hl 0 rfl) ?_
  refine lv_bipush (v := (-3)) hC.1 hC.2.1 dX10_asks_17 (by decide) ?_
  refine x_cvi10 (rest := []) hC xy_X10_refuse tw_411 hf (fun _ _ h => M_X10_refuse G l kp h) ⟨Nat.le_of_ble_eq_true rfl, Nat.le_of_ble_eq_true rfl⟩ (xce_0 G kp _ _) rfl rfl rfl (Nat.le_of_ble_eq_true rfl) hl.1 hR hS dX10_asks_19 ⟨Nat.le_refl _, Nat.le_refl _⟩ (fun v1 I2 hf H locs hR hS => ?_)
  obtain ⟨h91, h92⟩ := Prod.mk.inj (Option.some.inj hf)
  subst h91
  subst h92
  exact x_iret hC hR hS dX10_asks_22
set_option maxRecDepth 20000 in
theorem M_X10_asks (G : XG) (l : Launch) (kp : Bool) {I : xTI} {L : xTL} {x1 : Int32} {x2 : Int32} {x3 : Int32} {r : Int32} {rI : xTI} (hf : F_X10_asks I x1 x2 x3 = some (r, rI)) : xMet G l yX10_asks cX10_asks 6 (some .int) 2 43 kp [.ref (xz G + 0), .int x1, .int x2, .int x3] I L (some (.int r)) rI L := by
  refine xMet.ofW (by decide +kernel) (Nat.le_of_ble_eq_true rfl) ?_
  intro p e s m args below meth c hC H locs ls hR hS hl
  replace hC : xC G p s m args meth c cX10_asks 6 RX10 (some .int) := hC
  replace hl : lv_has ls 6 [(0, .ref (xz G + 0)), (1, .int x1), (2, .int x2), (3, .int x3)] := hl
  unfold F_X10_asks at hf
  refine lv_aload_n hC.1 hC.2.1 dX10_asks_0 rfl (lv_at hl 0 rfl) ?_
  refine lv_iload_n hC.1 hC.2.1 dX10_asks_1 rfl (lv_at hl 1 rfl) ?_
  refine x_cvi00 (rest := []) hC xy_X10_isMan tw_427 hf (fun _ h => M_X10_isMan G l kp h) ⟨Nat.le_of_ble_eq_true rfl, Nat.le_of_ble_eq_true rfl⟩ (xce_0 G kp _ _) rfl rfl rfl (Nat.le_of_ble_eq_true rfl) hl.1 hR hS dX10_asks_2 ⟨Nat.le_refl _, Nat.le_refl _⟩ (fun v1 hf H locs hR hS => ?_)
  refine x_if_eq (tgt := 16) hC dX10_asks_5 (by decide) hf (fun hf => ?_) (fun hf => ?_)
  · exact W_X10_asks_j16 hC hf _ _ _ hR hS (lv_sub hl [0] rfl)
  · refine lv_aload_n hC.1 hC.2.1 dX10_asks_8 rfl (lv_at hl 0 rfl) ?_
    refine lv_iload_n hC.1 hC.2.1 dX10_asks_9 rfl (lv_at hl 2 rfl) ?_
    refine x_cvi00 (rest := []) hC xy_X10_isStock tw_431 hf (fun _ h => M_X10_isStock G l kp h) ⟨Nat.le_of_ble_eq_true rfl, Nat.le_of_ble_eq_true rfl⟩ (xce_0 G kp _ _) rfl rfl rfl (Nat.le_of_ble_eq_true rfl) hl.1 hR hS dX10_asks_10 ⟨Nat.le_refl _, Nat.le_refl _⟩ (fun v2 hf H locs hR hS => ?_)
    refine x_if_ne (tgt := 23) hC dX10_asks_13 (by decide) hf (fun hf => ?_) (fun hf => ?_)
    · refine lv_iload_n hC.1 hC.2.1 dX10_asks_23 rfl (lv_at hl 3 rfl) ?_
      refine lv_iconst (v := 0) hC.1 hC.2.1 dX10_asks_24 (by decide) ?_
      refine lv_sipush (v := 9999) hC.1 hC.2.1 dX10_asks_25 (by decide) ?_
      refine x_csi00 (rest := []) hC xy_X10_isWithin tw_408 hf (fun _ h => M_X10_isWithin G l kp h) ⟨Nat.le_of_ble_eq_true rfl, Nat.le_of_ble_eq_true rfl⟩ rfl rfl (Nat.le_of_ble_eq_true rfl) hl.1 hR hS dX10_asks_28 ⟨Nat.le_refl _, Nat.le_refl _⟩ (fun v3 hf H locs hR hS => ?_)
      refine x_if_ne (tgt := 41) hC dX10_asks_31 (by decide) hf (fun hf => ?_) (fun hf => ?_)
      · refine lv_iload_n hC.1 hC.2.1 dX10_asks_41 rfl (lv_at hl 1 rfl) ?_
        refine lv_iload_n hC.1 hC.2.1 dX10_asks_42 rfl (lv_at hl 2 rfl) ?_
        refine x_csi00 (rest := []) hC xy_X3_place tw_439 hf (fun _ h => M_X3_place G l kp h) ⟨Nat.le_of_ble_eq_true rfl, Nat.le_of_ble_eq_true rfl⟩ rfl rfl (Nat.le_of_ble_eq_true rfl) hl.1 hR hS dX10_asks_43 ⟨Nat.le_refl _, Nat.le_refl _⟩ (fun v4 hf H locs hR hS => ?_)
        refine lv_istore (lv' := [(4, .int v4), (0, .ref (xz G + 0)), (1, .int x1), (2, .int x2), (3, .int x3)]) hC.1 hC.2.1 dX10_asks_46 hl (Nat.le_of_ble_eq_true rfl) rfl (fun ls hl => ?_)
        refine lv_aload_n hC.1 hC.2.1 dX10_asks_48 rfl (lv_at hl 1 rfl) ?_
        refine x_get (v := .ref (xz G + 1)) hC xf_X10_10 (xce_0 G kp _ _) rfl hR dX10_asks_49 ?_
        refine x_get (v := .ref (xz G + 3)) hC xf_X10_74 (xce_1 G kp _ _) rfl hR dX10_asks_52 ?_
        refine x_get (v := .ref (xz G + 10)) hC xf_X10_110 (xce_3 G kp _ _) rfl hR dX10_asks_55 ?_
        refine lv_iload hC.1 hC.2.1 dX10_asks_58 (lv_at hl 0 rfl) ?_
        refine x_ial hC (xce_10 G kp _ _) hR dX10_asks_60 hf (fun v5 hf => ?_)
        refine lv_istore (lv' := [(5, .int v5), (4, .int v4), (0, .ref (xz G + 0)), (1, .int x1), (2, .int x2), (3, .int x3)]) hC.1 hC.2.1 dX10_asks_61 hl (Nat.le_of_ble_eq_true rfl) rfl (fun ls hl => ?_)
        refine W.eq (g2 := F0 m 63 ls []) rfl ?_
        refine lv_aload_n hC.1 hC.2.1 dX10_asks_63 rfl (lv_at hl 2 rfl) ?_
        refine x_get (v := .ref (xz G + 1)) hC xf_X10_10 (xce_0 G kp _ _) rfl hR dX10_asks_64 ?_
        refine x_get (v := .ref (xz G + 3)) hC xf_X10_74 (xce_1 G kp _ _) rfl hR dX10_asks_67 ?_
        refine x_get (v := .ref (xz G + 10)) hC xf_X10_110 (xce_3 G kp _ _) rfl hR dX10_asks_70 ?_
        refine lv_iload hC.1 hC.2.1 dX10_asks_73 (lv_at hl 1 rfl) ?_
        refine lv_iload_n hC.1 hC.2.1 dX10_asks_75 rfl (lv_at hl 5 rfl) ?_
        refine x_ias hC (fun f => (xce_10 G kp f _)) hR hS dX10_asks_76 hf (fun I6 hf H locs hR hS => ?_)
        refine lv_iload hC.1 hC.2.1 dX10_asks_77 (lv_at hl 0 rfl) ?_
        obtain ⟨h91, h92⟩ := Prod.mk.inj (Option.some.inj hf)
        subst h91
        subst h92
        exact x_iret hC hR hS dX10_asks_79
      · refine lv_aload_n hC.1 hC.2.1 dX10_asks_34 rfl (lv_at hl 0 rfl) ?_
        refine lv_bipush (v := (-7)) hC.1 hC.2.1 dX10_asks_35 (by decide) ?_
        refine x_cvi10 (rest := []) hC xy_X10_refuse tw_411 hf (fun _ _ h => M_X10_refuse G l kp h) ⟨Nat.le_of_ble_eq_true rfl, Nat.le_of_ble_eq_true rfl⟩ (xce_0 G kp _ _) rfl rfl rfl (Nat.le_of_ble_eq_true rfl) hl.1 hR hS dX10_asks_37 ⟨Nat.le_refl _, Nat.le_refl _⟩ (fun v7 I8 hf H locs hR hS => ?_)
        obtain ⟨h91, h92⟩ := Prod.mk.inj (Option.some.inj hf)
        subst h91
        subst h92
        exact x_iret hC hR hS dX10_asks_40
    · exact W_X10_asks_j16 hC hf _ _ _ hR hS (lv_sub hl [0] rfl)
set_option maxRecDepth 20000 in
theorem W_X8_at_12_j29 {G : XG} {l : Launch} {kp : Bool} {p : Program} {e : Env} {s : State} {m : MethodId} {args : Array Value} {below : List Frame} {meth : Method} {c : Code} (hC : xC G p s m args meth c cX8_at 4 RX8 (some .int)) {I : xTI} {L : xTL} {r : Int32} {x1 : Int32} {x2 : Int32} {t0 : Int32} (hf : F_X8_at_12_j29 I x1 x2 t0 = some r) : ∀ (H : Heap) (locs : List Loc) (ls : Array Slot), xRep G kp I L H → xS G s.heap H locs → lv_has ls 4 [(0, .ref (xz G + 12)), (1, .int x1), (2, .int x2)] → W p l e (xrm 0 0) s m args below meth c H locs 0 0 (xMQ G kp below args s (some (.int r)) I L) (F0 m 29 ls [.int t0]) := by
  intro H locs ls hR hS hl
  unfold F_X8_at_12_j29 at hf
  refine lv_istore_n (lv' := [(3, .int t0), (0, .ref (xz G + 12)), (1, .int x1), (2, .int x2)]) hC.1 hC.2.1 dX8_at_29 rfl hl (Nat.le_of_ble_eq_true rfl) rfl (fun ls hl => ?_)
  refine lv_iload_n hC.1 hC.2.1 dX8_at_30 rfl (lv_at hl 0 rfl) ?_
  refine x_if_eq (tgt := 50) hC dX8_at_31 (by decide) hf (fun hf => ?_) (fun hf => ?_)
  · refine lv_iconst (v := 0) hC.1 hC.2.1 dX8_at_50 (by decide) ?_
    have h9 := Option.some.inj hf
    subst h9
    exact x_iret hC hR hS dX8_at_51
  · refine lv_aload_n hC.1 hC.2.1 dX8_at_34 rfl (lv_at hl 1 rfl) ?_
    refine x_get (v := .ref (xz G + 13)) hC xf_X8_16 (xce_12 G kp _ _) rfl hR dX8_at_35 ?_
    refine lv_iload_n hC.1 hC.2.1 dX8_at_38 rfl (lv_at hl 2 rfl) ?_
    refine lv_aload_n hC.1 hC.2.1 dX8_at_39 rfl (lv_at hl 1 rfl) ?_
    refine x_get (v := .int 11) hC xf_X8_13 (xce_12 G kp _ _) rfl hR dX8_at_40 ?_
    refine lv_imul hC.1 hC.2.1 dX8_at_43 ?_
    refine lv_iload_n hC.1 hC.2.1 dX8_at_44 rfl (lv_at hl 3 rfl) ?_
    refine lv_iadd hC.1 hC.2.1 dX8_at_45 ?_
    refine x_ial hC (xce_13 G kp _ _) hR dX8_at_46 hf (fun v1 hf => ?_)
    refine lv_goto (tgt := 51) hC.1 hC.2.1 dX8_at_47 (by decide) ?_
    have h9 := Option.some.inj hf
    subst h9
    exact x_iret hC hR hS dX8_at_51
set_option maxRecDepth 20000 in
theorem M_X8_at_12 (G : XG) (l : Launch) (kp : Bool) {I : xTI} {L : xTL} {x1 : Int32} {x2 : Int32} {r : Int32} (hf : F_X8_at_12 I x1 x2 = some r) : xMet G l yX8_at cX8_at 4 (some .int) 0 0 kp [.ref (xz G + 12), .int x1, .int x2] I L (some (.int r)) I L := by
  refine xMet.ofW (by decide +kernel) (Nat.le_of_ble_eq_true rfl) ?_
  intro p e s m args below meth c hC H locs ls hR hS hl
  replace hC : xC G p s m args meth c cX8_at 4 RX8 (some .int) := hC
  replace hl : lv_has ls 4 [(0, .ref (xz G + 12)), (1, .int x1), (2, .int x2)] := hl
  unfold F_X8_at_12 at hf
  refine lv_iload_n hC.1 hC.2.1 dX8_at_0 rfl (lv_at hl 1 rfl) ?_
  refine x_if_lt (tgt := 28) hC dX8_at_1 (by decide) hf (fun hf => ?_) (fun hf => ?_)
  · refine lv_iconst (v := 0) hC.1 hC.2.1 dX8_at_28 (by decide) ?_
    exact W_X8_at_12_j29 hC hf _ _ _ hR hS (lv_sub hl [0, 1, 2] rfl)
  · refine lv_iload_n hC.1 hC.2.1 dX8_at_4 rfl (lv_at hl 1 rfl) ?_
    refine lv_aload_n hC.1 hC.2.1 dX8_at_5 rfl (lv_at hl 0 rfl) ?_
    refine x_get (v := .int 60) hC xf_X8_7 (xce_12 G kp _ _) rfl hR dX8_at_6 ?_
    refine x_ic_ge (tgt := 28) hC dX8_at_9 (by decide) hf (fun hf => ?_) (fun hf => ?_)
    · refine lv_iconst (v := 0) hC.1 hC.2.1 dX8_at_28 (by decide) ?_
      exact W_X8_at_12_j29 hC hf _ _ _ hR hS (lv_sub hl [0, 1, 2] rfl)
    · refine lv_iload_n hC.1 hC.2.1 dX8_at_12 rfl (lv_at hl 2 rfl) ?_
      refine x_if_lt (tgt := 28) hC dX8_at_13 (by decide) hf (fun hf => ?_) (fun hf => ?_)
      · refine lv_iconst (v := 0) hC.1 hC.2.1 dX8_at_28 (by decide) ?_
        exact W_X8_at_12_j29 hC hf _ _ _ hR hS (lv_sub hl [0, 1, 2] rfl)
      · refine lv_iload_n hC.1 hC.2.1 dX8_at_16 rfl (lv_at hl 2 rfl) ?_
        refine lv_aload_n hC.1 hC.2.1 dX8_at_17 rfl (lv_at hl 0 rfl) ?_
        refine x_get (v := .int 11) hC xf_X8_13 (xce_12 G kp _ _) rfl hR dX8_at_18 ?_
        refine x_ic_ge (tgt := 28) hC dX8_at_21 (by decide) hf (fun hf => ?_) (fun hf => ?_)
        · refine lv_iconst (v := 0) hC.1 hC.2.1 dX8_at_28 (by decide) ?_
          exact W_X8_at_12_j29 hC hf _ _ _ hR hS (lv_sub hl [0, 1, 2] rfl)
        · refine lv_iconst (v := 1) hC.1 hC.2.1 dX8_at_24 (by decide) ?_
          refine lv_goto (tgt := 29) hC.1 hC.2.1 dX8_at_25 (by decide) ?_
          exact W_X8_at_12_j29 hC hf _ _ _ hR hS (lv_sub hl [0, 1, 2] rfl)
set_option maxRecDepth 20000 in
theorem M_X0_isLiving (G : XG) (l : Launch) (kp : Bool) {I : xTI} {L : xTL} {x1 : Int32} {r : Int32} (hf : F_X0_isLiving I x1 = some r) : xMet G l yX0_isLiving cX0_isLiving 3 (some .boolean) 1 23 kp [.ref (xz G + 11), .int x1] I L (some (.int r)) I L := by
  refine xMet.ofW (by decide +kernel) (Nat.le_of_ble_eq_true rfl) ?_
  intro p e s m args below meth c hC H locs ls hR hS hl
  replace hC : xC G p s m args meth c cX0_isLiving 3 RX0 (some .boolean) := hC
  replace hl : lv_has ls 3 [(0, .ref (xz G + 11)), (1, .int x1)] := hl
  unfold F_X0_isLiving at hf
  refine lv_aload_n hC.1 hC.2.1 dX0_isLiving_0 rfl (lv_at hl 0 rfl) ?_
  refine x_get (v := .ref (xz G + 12)) hC xf_X0_16 (xce_11 G kp _ _) rfl hR dX0_isLiving_1 ?_
  refine lv_iload_n hC.1 hC.2.1 dX0_isLiving_4 rfl (lv_at hl 1 rfl) ?_
  refine lv_bipush (v := 7) hC.1 hC.2.1 dX0_isLiving_5 (by decide) ?_
  refine x_cvi00 (rest := []) hC xy_X8_at tw_462 hf (fun _ h => M_X8_at_12 G l kp h) ⟨Nat.le_of_ble_eq_true rfl, Nat.le_of_ble_eq_true rfl⟩ (xce_12 G kp _ _) rfl rfl rfl (Nat.le_of_ble_eq_true rfl) hl.1 hR hS dX0_isLiving_7 ⟨Nat.le_refl _, Nat.le_refl _⟩ (fun v1 hf H locs hR hS => ?_)
  refine lv_istore_n (lv' := [(2, .int v1), (0, .ref (xz G + 11)), (1, .int x1)]) hC.1 hC.2.1 dX0_isLiving_10 rfl hl (Nat.le_of_ble_eq_true rfl) rfl (fun ls hl => ?_)
  refine lv_iload_n hC.1 hC.2.1 dX0_isLiving_11 rfl (lv_at hl 0 rfl) ?_
  refine x_if_eq (tgt := 20) hC dX0_isLiving_12 (by decide) hf (fun hf => ?_) (fun hf => ?_)
  · refine lv_iconst (v := 1) hC.1 hC.2.1 dX0_isLiving_20 (by decide) ?_
    refine lv_goto (tgt := 25) hC.1 hC.2.1 dX0_isLiving_21 (by decide) ?_
    obtain ⟨h01, hf⟩ := xzc_some hf
    have h9 := Option.some.inj hf
    subst h9
    exact x_zret h01 hC hR hS dX0_isLiving_25
  · refine lv_iload_n hC.1 hC.2.1 dX0_isLiving_15 rfl (lv_at hl 0 rfl) ?_
    refine lv_iconst (v := 1) hC.1 hC.2.1 dX0_isLiving_16 (by decide) ?_
    refine x_ic_ne (tgt := 24) hC dX0_isLiving_17 (by decide) hf (fun hf => ?_) (fun hf => ?_)
    · refine lv_iconst (v := 0) hC.1 hC.2.1 dX0_isLiving_24 (by decide) ?_
      obtain ⟨h01, hf⟩ := xzc_some hf
      have h9 := Option.some.inj hf
      subst h9
      exact x_zret h01 hC hR hS dX0_isLiving_25
    · refine lv_iconst (v := 1) hC.1 hC.2.1 dX0_isLiving_20 (by decide) ?_
      refine lv_goto (tgt := 25) hC.1 hC.2.1 dX0_isLiving_21 (by decide) ?_
      obtain ⟨h01, hf⟩ := xzc_some hf
      have h9 := Option.some.inj hf
      subst h9
      exact x_zret h01 hC hR hS dX0_isLiving_25
set_option maxRecDepth 20000 in
theorem M_X0_gainOf (G : XG) (l : Launch) (kp : Bool) {I : xTI} {L : xTL} {x1 : Int32} {x2 : Int32} {r : Int32} (hf : F_X0_gainOf I x1 x2 = some r) : xMet G l yX0_gainOf cX0_gainOf 3 (some .int) 1 23 kp [.ref (xz G + 11), .int x1, .int x2] I L (some (.int r)) I L := by
  refine xMet.ofW (by decide +kernel) (Nat.le_of_ble_eq_true rfl) ?_
  intro p e s m args below meth c hC H locs ls hR hS hl
  replace hC : xC G p s m args meth c cX0_gainOf 3 RX0 (some .int) := hC
  replace hl : lv_has ls 3 [(0, .ref (xz G + 11)), (1, .int x1), (2, .int x2)] := hl
  unfold F_X0_gainOf at hf
  refine lv_aload_n hC.1 hC.2.1 dX0_gainOf_0 rfl (lv_at hl 0 rfl) ?_
  refine x_get (v := .ref (xz G + 12)) hC xf_X0_16 (xce_11 G kp _ _) rfl hR dX0_gainOf_1 ?_
  refine lv_iload_n hC.1 hC.2.1 dX0_gainOf_4 rfl (lv_at hl 1 rfl) ?_
  refine lv_iconst (v := 1) hC.1 hC.2.1 dX0_gainOf_5 (by decide) ?_
  refine x_cvi00 (rest := []) hC xy_X8_at tw_462 hf (fun _ h => M_X8_at_12 G l kp h) ⟨Nat.le_of_ble_eq_true rfl, Nat.le_of_ble_eq_true rfl⟩ (xce_12 G kp _ _) rfl rfl rfl (Nat.le_of_ble_eq_true rfl) hl.1 hR hS dX0_gainOf_6 ⟨Nat.le_refl _, Nat.le_refl _⟩ (fun v1 hf H locs hR hS => ?_)
  refine lv_iload_n hC.1 hC.2.1 dX0_gainOf_9 rfl (lv_at hl 2 rfl) ?_
  refine x_ic_ne (tgt := 23) hC dX0_gainOf_10 (by decide) hf (fun hf => ?_) (fun hf => ?_)
  · refine lv_aload_n hC.1 hC.2.1 dX0_gainOf_23 rfl (lv_at hl 0 rfl) ?_
    refine x_get (v := .ref (xz G + 12)) hC xf_X0_16 (xce_11 G kp _ _) rfl hR dX0_gainOf_24 ?_
    refine lv_iload_n hC.1 hC.2.1 dX0_gainOf_27 rfl (lv_at hl 1 rfl) ?_
    refine lv_iconst (v := 0) hC.1 hC.2.1 dX0_gainOf_28 (by decide) ?_
    refine x_cvi00 (rest := []) hC xy_X8_at tw_462 hf (fun _ h => M_X8_at_12 G l kp h) ⟨Nat.le_of_ble_eq_true rfl, Nat.le_of_ble_eq_true rfl⟩ (xce_12 G kp _ _) rfl rfl rfl (Nat.le_of_ble_eq_true rfl) hl.1 hR hS dX0_gainOf_29 ⟨Nat.le_refl _, Nat.le_refl _⟩ (fun v2 hf H locs hR hS => ?_)
    refine lv_iload_n hC.1 hC.2.1 dX0_gainOf_32 rfl (lv_at hl 2 rfl) ?_
    refine x_ic_ne (tgt := 49) hC dX0_gainOf_33 (by decide) hf (fun hf => ?_) (fun hf => ?_)
    · refine lv_iconst (v := 0) hC.1 hC.2.1 dX0_gainOf_49 (by decide) ?_
      have h9 := Option.some.inj hf
      subst h9
      exact x_iret hC hR hS dX0_gainOf_50
    · refine lv_aload_n hC.1 hC.2.1 dX0_gainOf_36 rfl (lv_at hl 0 rfl) ?_
      refine x_get (v := .ref (xz G + 12)) hC xf_X0_16 (xce_11 G kp _ _) rfl hR dX0_gainOf_37 ?_
      refine lv_iload_n hC.1 hC.2.1 dX0_gainOf_40 rfl (lv_at hl 1 rfl) ?_
      refine lv_iconst (v := 3) hC.1 hC.2.1 dX0_gainOf_41 (by decide) ?_
      refine x_cvi00 (rest := []) hC xy_X8_at tw_462 hf (fun _ h => M_X8_at_12 G l kp h) ⟨Nat.le_of_ble_eq_true rfl, Nat.le_of_ble_eq_true rfl⟩ (xce_12 G kp _ _) rfl rfl rfl (Nat.le_of_ble_eq_true rfl) hl.1 hR hS dX0_gainOf_42 ⟨Nat.le_refl _, Nat.le_refl _⟩ (fun v3 hf H locs hR hS => ?_)
      refine lv_ineg hC.1 hC.2.1 dX0_gainOf_45 ?_
      refine lv_goto (tgt := 50) hC.1 hC.2.1 dX0_gainOf_46 (by decide) ?_
      have h9 := Option.some.inj hf
      subst h9
      exact x_iret hC hR hS dX0_gainOf_50
  · refine lv_aload_n hC.1 hC.2.1 dX0_gainOf_13 rfl (lv_at hl 0 rfl) ?_
    refine x_get (v := .ref (xz G + 12)) hC xf_X0_16 (xce_11 G kp _ _) rfl hR dX0_gainOf_14 ?_
    refine lv_iload_n hC.1 hC.2.1 dX0_gainOf_17 rfl (lv_at hl 1 rfl) ?_
    refine lv_iconst (v := 3) hC.1 hC.2.1 dX0_gainOf_18 (by decide) ?_
    refine x_cvi00 (rest := []) hC xy_X8_at tw_462 hf (fun _ h => M_X8_at_12 G l kp h) ⟨Nat.le_of_ble_eq_true rfl, Nat.le_of_ble_eq_true rfl⟩ (xce_12 G kp _ _) rfl rfl rfl (Nat.le_of_ble_eq_true rfl) hl.1 hR hS dX0_gainOf_19 ⟨Nat.le_refl _, Nat.le_refl _⟩ (fun v4 hf H locs hR hS => ?_)
    have h9 := Option.some.inj hf
    subst h9
    exact x_iret hC hR hS dX0_gainOf_22
set_option maxRecDepth 20000 in
theorem W_X0_livingOf_l4 {G : XG} {l : Launch} {kp : Bool} {p : Program} {e : Env} {s : State} {m : MethodId} {args : Array Value} {below : List Frame} {meth : Method} {c : Code} (hC : xC G p s m args meth c cX0_livingOf 4 RX0 (some .int)) (N : Nat) {I : xTI} {L : xTL} {r : Int32} {x1 : Int32} : ∀ (n : Nat) (x2 : Int32) (x3 : Int32) , xlp (F_X0_livingOf_b4 N I x1 ) n (x2, x3) = some r → ∀ (H : Heap) (locs : List Loc) (ls : Array Slot), xRep G kp I L H → xS G s.heap H locs → lv_has ls 4 [(0, .ref (xz G + 11)), (1, .int x1), (2, .int x2), (3, .int x3)] → W p l e (xrm 2 45) s m args below meth c H locs 0 0 (xMQ G kp below args s (some (.int r)) I L) (F0 m 4 ls []) := by
  intro n
  induction n with
  | zero =>
    intro x2 x3 hf
    cases hf
  | succ n hk4 =>
    intro x2 x3 hf H locs ls hR hS hl
    rw [xlp_s, E_X0_livingOf_b4] at hf
    unfold F_X0_livingOf_c4 at hf
    refine lv_iload_n hC.1 hC.2.1 dX0_livingOf_4 rfl (lv_at hl 3 rfl) ?_
    refine lv_bipush (v := 60) hC.1 hC.2.1 dX0_livingOf_5 (by decide) ?_
    refine x_ic_ge (tgt := 36) hC dX0_livingOf_7 (by decide) hf (fun hf => ?_) (fun hf => ?_)
    · refine lv_iload_n hC.1 hC.2.1 dX0_livingOf_36 rfl (lv_at hl 2 rfl) ?_
      have h9 := Option.some.inj hf
      subst h9
      exact x_iret hC hR hS dX0_livingOf_37
    · refine lv_aload_n hC.1 hC.2.1 dX0_livingOf_10 rfl (lv_at hl 0 rfl) ?_
      refine lv_iload_n hC.1 hC.2.1 dX0_livingOf_11 rfl (lv_at hl 3 rfl) ?_
      refine x_cvi00 (rest := []) hC xy_X0_isLiving tw_458 hf (fun _ h => M_X0_isLiving G l kp h) ⟨Nat.le_of_ble_eq_true rfl, Nat.le_of_ble_eq_true rfl⟩ (xce_11 G kp _ _) rfl rfl rfl (Nat.le_of_ble_eq_true rfl) hl.1 hR hS dX0_livingOf_12 ⟨Nat.le_refl _, Nat.le_refl _⟩ (fun v1 hf H locs hR hS => ?_)
      refine x_if_eq (tgt := 30) hC dX0_livingOf_15 (by decide) hf (fun hf => ?_) (fun hf => ?_)
      · refine x_iinc (d := 1) (lv' := fun y2 => [(3, .int y2), (0, .ref (xz G + 11)), (1, .int x1), (2, .int x2)]) (k := 3) hC hl dX0_livingOf_30 rfl (by decide) (Nat.le_of_ble_eq_true rfl) hf (fun _ => rfl) (fun y2 hf ls hl => ?_)
        refine lv_goto (tgt := 4) hC.1 hC.2.1 dX0_livingOf_33 (by decide) ?_
        exact hk4 x2 y2 hf _ _ _ hR hS (lv_sub hl [1, 2, 3, 0] rfl)
      · refine lv_aload_n hC.1 hC.2.1 dX0_livingOf_18 rfl (lv_at hl 0 rfl) ?_
        refine lv_iload_n hC.1 hC.2.1 dX0_livingOf_19 rfl (lv_at hl 3 rfl) ?_
        refine lv_iload_n hC.1 hC.2.1 dX0_livingOf_20 rfl (lv_at hl 1 rfl) ?_
        refine x_cvi00 (rest := []) hC xy_X0_gainOf tw_466 hf (fun _ h => M_X0_gainOf G l kp h) ⟨Nat.le_of_ble_eq_true rfl, Nat.le_of_ble_eq_true rfl⟩ (xce_11 G kp _ _) rfl rfl rfl (Nat.le_of_ble_eq_true rfl) hl.1 hR hS dX0_livingOf_21 ⟨Nat.le_refl _, Nat.le_refl _⟩ (fun v3 hf H locs hR hS => ?_)
        refine x_if_eq (tgt := 30) hC dX0_livingOf_24 (by decide) hf (fun hf => ?_) (fun hf => ?_)
        · refine x_iinc (d := 1) (lv' := fun y4 => [(3, .int y4), (0, .ref (xz G + 11)), (1, .int x1), (2, .int x2)]) (k := 3) hC hl dX0_livingOf_30 rfl (by decide) (Nat.le_of_ble_eq_true rfl) hf (fun _ => rfl) (fun y4 hf ls hl => ?_)
          refine lv_goto (tgt := 4) hC.1 hC.2.1 dX0_livingOf_33 (by decide) ?_
          exact hk4 x2 y4 hf _ _ _ hR hS (lv_sub hl [1, 2, 3, 0] rfl)
        · refine x_iinc (d := 1) (lv' := fun y5 => [(2, .int y5), (0, .ref (xz G + 11)), (1, .int x1), (3, .int x3)]) (k := 2) hC hl dX0_livingOf_27 rfl (by decide) (Nat.le_of_ble_eq_true rfl) hf (fun _ => rfl) (fun y5 hf ls hl => ?_)
          refine x_iinc (d := 1) (lv' := fun y6 => [(3, .int y6), (2, .int y5), (0, .ref (xz G + 11)), (1, .int x1)]) (k := 3) hC hl dX0_livingOf_30 rfl (by decide) (Nat.le_of_ble_eq_true rfl) hf (fun _ => rfl) (fun y6 hf ls hl => ?_)
          refine lv_goto (tgt := 4) hC.1 hC.2.1 dX0_livingOf_33 (by decide) ?_
          exact hk4 y5 y6 hf _ _ _ hR hS (lv_sub hl [2, 3, 1, 0] rfl)
set_option maxRecDepth 20000 in
theorem M_X0_livingOf (G : XG) (l : Launch) (kp : Bool) (N : Nat) {I : xTI} {L : xTL} {x1 : Int32} {r : Int32} (hf : F_X0_livingOf N I x1 = some r) : xMet G l yX0_livingOf cX0_livingOf 4 (some .int) 2 45 kp [.ref (xz G + 11), .int x1] I L (some (.int r)) I L := by
  refine xMet.ofW (by decide +kernel) (Nat.le_of_ble_eq_true rfl) ?_
  intro p e s m args below meth c hC H locs ls hR hS hl
  replace hC : xC G p s m args meth c cX0_livingOf 4 RX0 (some .int) := hC
  replace hl : lv_has ls 4 [(0, .ref (xz G + 11)), (1, .int x1)] := hl
  unfold F_X0_livingOf at hf
  refine lv_iconst (v := 0) hC.1 hC.2.1 dX0_livingOf_0 (by decide) ?_
  refine lv_istore_n (lv' := [(2, .int 0), (0, .ref (xz G + 11)), (1, .int x1)]) hC.1 hC.2.1 dX0_livingOf_1 rfl hl (Nat.le_of_ble_eq_true rfl) rfl (fun ls hl => ?_)
  refine lv_iconst (v := 0) hC.1 hC.2.1 dX0_livingOf_2 (by decide) ?_
  refine lv_istore_n (lv' := [(3, .int 0), (2, .int 0), (0, .ref (xz G + 11)), (1, .int x1)]) hC.1 hC.2.1 dX0_livingOf_3 rfl hl (Nat.le_of_ble_eq_true rfl) rfl (fun ls hl => ?_)
  exact W_X0_livingOf_l4 hC N _ 0 0 hf _ _ _ hR hS (lv_sub hl [2, 3, 1, 0] rfl)
set_option maxRecDepth 20000 in
theorem M_X10_look (G : XG) (l : Launch) (kp : Bool) (N : Nat) {I : xTI} {L : xTL} {x1 : Int32} {x2 : Int32} {r : Int32} {rI : xTI} (hf : F_X10_look N I x1 x2 = some (r, rI)) : xMet G l yX10_look cX10_look 3 (some .int) 3 68 kp [.ref (xz G + 0), .int x1, .int x2] I L (some (.int r)) rI L := by
  refine xMet.ofW (by decide +kernel) (Nat.le_of_ble_eq_true rfl) ?_
  intro p e s m args below meth c hC H locs ls hR hS hl
  replace hC : xC G p s m args meth c cX10_look 3 RX10 (some .int) := hC
  replace hl : lv_has ls 3 [(0, .ref (xz G + 0)), (1, .int x1), (2, .int x2)] := hl
  unfold F_X10_look at hf
  refine lv_aload_n hC.1 hC.2.1 dX10_look_0 rfl (lv_at hl 0 rfl) ?_
  refine lv_iload_n hC.1 hC.2.1 dX10_look_1 rfl (lv_at hl 1 rfl) ?_
  refine x_cvi00 (rest := []) hC xy_X10_isMan tw_427 hf (fun _ h => M_X10_isMan G l kp h) ⟨Nat.le_of_ble_eq_true rfl, Nat.le_of_ble_eq_true rfl⟩ (xce_0 G kp _ _) rfl rfl rfl (Nat.le_of_ble_eq_true rfl) hl.1 hR hS dX10_look_2 ⟨Nat.le_refl _, Nat.le_refl _⟩ (fun v1 hf H locs hR hS => ?_)
  refine x_if_ne (tgt := 15) hC dX10_look_5 (by decide) hf (fun hf => ?_) (fun hf => ?_)
  · refine lv_iload_n hC.1 hC.2.1 dX10_look_15 rfl (lv_at hl 2 rfl) ?_
    try dsimp only at hf
    by_cases hc : x2 = 0
    · rw [if_pos hc] at hf
      refine x_tsi (tgt := 48) hC dX10_look_16 hc (by decide +kernel) ?_
      refine lv_aload_n hC.1 hC.2.1 dX10_look_48 rfl (lv_at hl 0 rfl) ?_
      refine x_get (v := .ref (xz G + 1)) hC xf_X10_10 (xce_0 G kp _ _) rfl hR dX10_look_49 ?_
      refine x_get (v := .ref (xz G + 3)) hC xf_X10_74 (xce_1 G kp _ _) rfl hR dX10_look_52 ?_
      refine lv_iload_n hC.1 hC.2.1 dX10_look_55 rfl (lv_at hl 1 rfl) ?_
      refine x_cvi00 (rest := []) hC xy_X3_isUp tw_435 hf (fun _ h => M_X3_isUp G l kp h) ⟨Nat.le_of_ble_eq_true rfl, Nat.le_of_ble_eq_true rfl⟩ (xce_3 G kp _ _) rfl rfl rfl (Nat.le_of_ble_eq_true rfl) hl.1 hR hS dX10_look_56 ⟨Nat.le_refl _, Nat.le_refl _⟩ (fun v2 hf H locs hR hS => ?_)
      refine x_if_eq (tgt := 66) hC dX10_look_59 (by decide) hf (fun hf => ?_) (fun hf => ?_)
      · refine lv_iconst (v := 0) hC.1 hC.2.1 dX10_look_66 (by decide) ?_
        obtain ⟨h91, h92⟩ := Prod.mk.inj (Option.some.inj hf)
        subst h91
        subst h92
        exact x_iret hC hR hS dX10_look_67
      · refine lv_iconst (v := 1) hC.1 hC.2.1 dX10_look_62 (by decide) ?_
        refine lv_goto (tgt := 67) hC.1 hC.2.1 dX10_look_63 (by decide) ?_
        obtain ⟨h91, h92⟩ := Prod.mk.inj (Option.some.inj hf)
        subst h91
        subst h92
        exact x_iret hC hR hS dX10_look_67
    rw [if_neg hc] at hf
    have hc0 := hc
    clear hc
    by_cases hc : x2 = 1
    · rw [if_pos hc] at hf
      refine x_tsi (tgt := 68) hC dX10_look_16 hc (by decide +kernel) ?_
      refine lv_aload_n hC.1 hC.2.1 dX10_look_68 rfl (lv_at hl 0 rfl) ?_
      refine x_get (v := .ref (xz G + 1)) hC xf_X10_10 (xce_0 G kp _ _) rfl hR dX10_look_69 ?_
      refine x_get (v := .ref (xz G + 3)) hC xf_X10_74 (xce_1 G kp _ _) rfl hR dX10_look_72 ?_
      refine x_get (v := .ref (xz G + 7)) hC xf_X10_113 (xce_3 G kp _ _) rfl hR dX10_look_75 ?_
      refine lv_iload_n hC.1 hC.2.1 dX10_look_78 rfl (lv_at hl 1 rfl) ?_
      refine x_ial hC (xce_7 G kp _ _) hR dX10_look_79 hf (fun v3 hf => ?_)
      obtain ⟨h91, h92⟩ := Prod.mk.inj (Option.some.inj hf)
      subst h91
      subst h92
      exact x_iret hC hR hS dX10_look_80
    rw [if_neg hc] at hf
    have hc1 := hc
    clear hc
    by_cases hc : x2 = 2
    · rw [if_pos hc] at hf
      refine x_tsi (tgt := 81) hC dX10_look_16 hc (by decide +kernel) ?_
      refine lv_aload_n hC.1 hC.2.1 dX10_look_81 rfl (lv_at hl 0 rfl) ?_
      refine x_get (v := .ref (xz G + 1)) hC xf_X10_10 (xce_0 G kp _ _) rfl hR dX10_look_82 ?_
      refine x_get (v := .ref (xz G + 3)) hC xf_X10_74 (xce_1 G kp _ _) rfl hR dX10_look_85 ?_
      refine x_get (v := .ref (xz G + 8)) hC xf_X10_116 (xce_3 G kp _ _) rfl hR dX10_look_88 ?_
      refine lv_iload_n hC.1 hC.2.1 dX10_look_91 rfl (lv_at hl 1 rfl) ?_
      refine x_ial hC (xce_8 G kp _ _) hR dX10_look_92 hf (fun v4 hf => ?_)
      obtain ⟨h91, h92⟩ := Prod.mk.inj (Option.some.inj hf)
      subst h91
      subst h92
      exact x_iret hC hR hS dX10_look_93
    rw [if_neg hc] at hf
    have hc2 := hc
    clear hc
    by_cases hc : x2 = 3
    · rw [if_pos hc] at hf
      refine x_tsi (tgt := 94) hC dX10_look_16 hc (by decide +kernel) ?_
      refine lv_aload_n hC.1 hC.2.1 dX10_look_94 rfl (lv_at hl 0 rfl) ?_
      refine x_get (v := .ref (xz G + 1)) hC xf_X10_10 (xce_0 G kp _ _) rfl hR dX10_look_95 ?_
      refine x_get (v := .ref (xz G + 11)) hC xf_X10_119 (xce_1 G kp _ _) rfl hR dX10_look_98 ?_
      refine lv_iload_n hC.1 hC.2.1 dX10_look_101 rfl (lv_at hl 1 rfl) ?_
      refine x_cvi00 (rest := []) hC xy_X0_livingOf tw_454 hf (fun _ h => M_X0_livingOf G l kp N h) ⟨Nat.le_of_ble_eq_true rfl, Nat.le_of_ble_eq_true rfl⟩ (xce_11 G kp _ _) rfl rfl rfl (Nat.le_of_ble_eq_true rfl) hl.1 hR hS dX10_look_102 ⟨Nat.le_refl _, Nat.le_refl _⟩ (fun v5 hf H locs hR hS => ?_)
      obtain ⟨h91, h92⟩ := Prod.mk.inj (Option.some.inj hf)
      subst h91
      subst h92
      exact x_iret hC hR hS dX10_look_105
    rw [if_neg hc] at hf
    have hc3 := hc
    clear hc
    have e0 : (x2).toInt ≠ 0 := fun h => hc0 (Int32.toInt_inj.mp (h.trans (by decide)))
    have e1 : (x2).toInt ≠ 1 := fun h => hc1 (Int32.toInt_inj.mp (h.trans (by decide)))
    have e2 : (x2).toInt ≠ 2 := fun h => hc2 (Int32.toInt_inj.mp (h.trans (by decide)))
    have e3 : (x2).toInt ≠ 3 := fun h => hc3 (Int32.toInt_inj.mp (h.trans (by decide)))
    refine x_tso (tgt := 106) hC dX10_look_16 (by omega) (by decide) ?_
    refine lv_aload_n hC.1 hC.2.1 dX10_look_106 rfl (lv_at hl 0 rfl) ?_
    refine lv_bipush (v := (-7)) hC.1 hC.2.1 dX10_look_107 (by decide) ?_
    refine x_cvi10 (rest := []) hC xy_X10_refuse tw_411 hf (fun _ _ h => M_X10_refuse G l kp h) ⟨Nat.le_of_ble_eq_true rfl, Nat.le_of_ble_eq_true rfl⟩ (xce_0 G kp _ _) rfl rfl rfl (Nat.le_of_ble_eq_true rfl) hl.1 hR hS dX10_look_109 ⟨Nat.le_refl _, Nat.le_refl _⟩ (fun v6 I7 hf H locs hR hS => ?_)
    obtain ⟨h91, h92⟩ := Prod.mk.inj (Option.some.inj hf)
    subst h91
    subst h92
    exact x_iret hC hR hS dX10_look_112
  · refine lv_aload_n hC.1 hC.2.1 dX10_look_8 rfl (lv_at hl 0 rfl) ?_
    refine lv_bipush (v := (-3)) hC.1 hC.2.1 dX10_look_9 (by decide) ?_
    refine x_cvi10 (rest := []) hC xy_X10_refuse tw_411 hf (fun _ _ h => M_X10_refuse G l kp h) ⟨Nat.le_of_ble_eq_true rfl, Nat.le_of_ble_eq_true rfl⟩ (xce_0 G kp _ _) rfl rfl rfl (Nat.le_of_ble_eq_true rfl) hl.1 hR hS dX10_look_11 ⟨Nat.le_refl _, Nat.le_refl _⟩ (fun v8 I9 hf H locs hR hS => ?_)
    obtain ⟨h91, h92⟩ := Prod.mk.inj (Option.some.inj hf)
    subst h91
    subst h92
    exact x_iret hC hR hS dX10_look_14
set_option maxRecDepth 20000 in
theorem M_X10_refuseAsZero (G : XG) (l : Launch) (kp : Bool) {I : xTI} {L : xTL} {x1 : Int32} {r : Int32} {rI : xTI} (hf : F_X10_refuseAsZero I x1 = some (r, rI)) : xMet G l yX10_refuseAsZero cX10_refuseAsZero 2 (some .int) 1 21 kp [.ref (xz G + 0), .int x1] I L (some (.int r)) rI L := by
  refine xMet.ofW (by decide +kernel) (Nat.le_of_ble_eq_true rfl) ?_
  intro p e s m args below meth c hC H locs ls hR hS hl
  replace hC : xC G p s m args meth c cX10_refuseAsZero 2 RX10 (some .int) := hC
  replace hl : lv_has ls 2 [(0, .ref (xz G + 0)), (1, .int x1)] := hl
  unfold F_X10_refuseAsZero at hf
  refine lv_aload_n hC.1 hC.2.1 dX10_refuseAsZero_0 rfl (lv_at hl 0 rfl) ?_
  refine lv_iload_n hC.1 hC.2.1 dX10_refuseAsZero_1 rfl (lv_at hl 1 rfl) ?_
  refine x_cvi10 (rest := []) hC xy_X10_refuse tw_411 hf (fun _ _ h => M_X10_refuse G l kp h) ⟨Nat.le_of_ble_eq_true rfl, Nat.le_of_ble_eq_true rfl⟩ (xce_0 G kp _ _) rfl rfl rfl (Nat.le_of_ble_eq_true rfl) hl.1 hR hS dX10_refuseAsZero_2 ⟨Nat.le_refl _, Nat.le_refl _⟩ (fun v1 I2 hf H locs hR hS => ?_)
  refine lv_pop hC.1 hC.2.1 dX10_refuseAsZero_5 rfl ?_
  refine lv_iconst (v := 0) hC.1 hC.2.1 dX10_refuseAsZero_6 (by decide) ?_
  obtain ⟨h91, h92⟩ := Prod.mk.inj (Option.some.inj hf)
  subst h91
  subst h92
  exact x_iret hC hR hS dX10_refuseAsZero_7
set_option maxRecDepth 20000 in
theorem W_X3_extraOwedBy_l5 {G : XG} {l : Launch} {kp : Bool} {p : Program} {e : Env} {s : State} {m : MethodId} {args : Array Value} {below : List Frame} {meth : Method} {c : Code} (hC : xC G p s m args meth c cX3_extraOwedBy 5 RX3 (some .long)) (N : Nat) {I : xTI} {L : xTL} {r : Int64} {x1 : Int32} : ∀ (n : Nat) (x2 : Int64) (x4 : Int32) , xlp (F_X3_extraOwedBy_b5 N L x1 ) n (x2, x4) = some r → ∀ (H : Heap) (locs : List Loc) (ls : Array Slot), xRep G kp I L H → xS G s.heap H locs → lv_has ls 5 [(0, .ref (xz G + 3)), (1, .int x1), (2, .long x2), (4, .int x4)] → W p l e (xrm 0 0) s m args below meth c H locs 0 0 (xMQ G kp below args s (some (.long r)) I L) (F0 m 5 ls []) := by
  intro n
  induction n with
  | zero =>
    intro x2 x4 hf
    cases hf
  | succ n hk5 =>
    intro x2 x4 hf H locs ls hR hS hl
    rw [xlp_s, E_X3_extraOwedBy_b5] at hf
    unfold F_X3_extraOwedBy_c5 at hf
    refine lv_iload hC.1 hC.2.1 dX3_extraOwedBy_5 (lv_at hl 3 rfl) ?_
    refine lv_bipush (v := 12) hC.1 hC.2.1 dX3_extraOwedBy_7 (by decide) ?_
    refine x_ic_ge (tgt := 33) hC dX3_extraOwedBy_9 (by decide) hf (fun hf => ?_) (fun hf => ?_)
    · refine lv_lload_n hC.1 hC.2.1 dX3_extraOwedBy_33 rfl (lv_at hl 2 rfl) ?_
      have h9 := Option.some.inj hf
      subst h9
      exact x_lret hC hR hS dX3_extraOwedBy_34
    · refine lv_lload_n hC.1 hC.2.1 dX3_extraOwedBy_12 rfl (lv_at hl 2 rfl) ?_
      refine lv_aload_n hC.1 hC.2.1 dX3_extraOwedBy_13 rfl (lv_at hl 0 rfl) ?_
      refine x_get (v := .ref (xz G + 6)) hC xf_X3_18 (xce_3 G kp _ _) rfl hR dX3_extraOwedBy_14 ?_
      refine lv_iload_n hC.1 hC.2.1 dX3_extraOwedBy_17 rfl (lv_at hl 1 rfl) ?_
      refine lv_bipush (v := 12) hC.1 hC.2.1 dX3_extraOwedBy_18 (by decide) ?_
      refine lv_imul hC.1 hC.2.1 dX3_extraOwedBy_20 ?_
      refine lv_iload hC.1 hC.2.1 dX3_extraOwedBy_21 (lv_at hl 3 rfl) ?_
      refine lv_iadd hC.1 hC.2.1 dX3_extraOwedBy_23 ?_
      refine x_lal hC (xce_6 G kp _ _) hR dX3_extraOwedBy_24 hf (fun v1 hf => ?_)
      refine lv_ladd hC.1 hC.2.1 dX3_extraOwedBy_25 ?_
      refine x_lstn (lv' := fun y2 => [(2, .long y2), (0, .ref (xz G + 3)), (1, .int x1), (4, .int x4)]) hC hl dX3_extraOwedBy_26 rfl (Nat.le_of_ble_eq_true rfl) hf (fun _ => rfl) (fun y2 hf ls hl => ?_)
      refine W.eq (g2 := F0 m 27 ls []) rfl ?_
      refine x_iinc (d := 1) (lv' := fun y3 => [(4, .int y3), (2, .long y2), (0, .ref (xz G + 3)), (1, .int x1)]) (k := 3) hC hl dX3_extraOwedBy_27 rfl (by decide) (Nat.le_of_ble_eq_true rfl) hf (fun _ => rfl) (fun y3 hf ls hl => ?_)
      refine lv_goto (tgt := 5) hC.1 hC.2.1 dX3_extraOwedBy_30 (by decide) ?_
      exact hk5 y2 y3 hf _ _ _ hR hS (lv_sub hl [2, 3, 1, 0] rfl)
set_option maxRecDepth 20000 in
theorem M_X3_extraOwedBy (G : XG) (l : Launch) (kp : Bool) (N : Nat) {I : xTI} {L : xTL} {x1 : Int32} {r : Int64} (hf : F_X3_extraOwedBy N L x1 = some r) : xMet G l yX3_extraOwedBy cX3_extraOwedBy 5 (some .long) 0 0 kp [.ref (xz G + 3), .int x1] I L (some (.long r)) I L := by
  refine xMet.ofW (by decide +kernel) (Nat.le_of_ble_eq_true rfl) ?_
  intro p e s m args below meth c hC H locs ls hR hS hl
  replace hC : xC G p s m args meth c cX3_extraOwedBy 5 RX3 (some .long) := hC
  replace hl : lv_has ls 5 [(0, .ref (xz G + 3)), (1, .int x1)] := hl
  unfold F_X3_extraOwedBy at hf
  refine lv_lconst (v := 0) hC.1 hC.2.1 dX3_extraOwedBy_0 (by decide) ?_
  refine lv_lstore_n (lv' := [(2, .long 0), (0, .ref (xz G + 3)), (1, .int x1)]) hC.1 hC.2.1 dX3_extraOwedBy_1 rfl hl (Nat.le_of_ble_eq_true rfl) rfl (fun ls hl => ?_)
  refine lv_iconst (v := 0) hC.1 hC.2.1 dX3_extraOwedBy_2 (by decide) ?_
  refine lv_istore (lv' := [(4, .int 0), (2, .long 0), (0, .ref (xz G + 3)), (1, .int x1)]) hC.1 hC.2.1 dX3_extraOwedBy_3 hl (Nat.le_of_ble_eq_true rfl) rfl (fun ls hl => ?_)
  exact W_X3_extraOwedBy_l5 hC N _ 0 0 hf _ _ _ hR hS (lv_sub hl [2, 3, 1, 0] rfl)
set_option maxRecDepth 20000 in
theorem M_X10_coin (G : XG) (l : Launch) (kp : Bool) (N : Nat) {I : xTI} {L : xTL} {x1 : Int32} {x2 : Int32} {r : Int64} {rI : xTI} (hf : F_X10_coin N I L x1 x2 = some (r, rI)) : xMet G l yX10_coin cX10_coin 3 (some .long) 2 43 kp [.ref (xz G + 0), .int x1, .int x2] I L (some (.long r)) rI L := by
  refine xMet.ofW (by decide +kernel) (Nat.le_of_ble_eq_true rfl) ?_
  intro p e s m args below meth c hC H locs ls hR hS hl
  replace hC : xC G p s m args meth c cX10_coin 3 RX10 (some .long) := hC
  replace hl : lv_has ls 3 [(0, .ref (xz G + 0)), (1, .int x1), (2, .int x2)] := hl
  unfold F_X10_coin at hf
  refine lv_aload_n hC.1 hC.2.1 dX10_coin_0 rfl (lv_at hl 0 rfl) ?_
  refine lv_iload_n hC.1 hC.2.1 dX10_coin_1 rfl (lv_at hl 1 rfl) ?_
  refine x_cvi00 (rest := []) hC xy_X10_isMan tw_427 hf (fun _ h => M_X10_isMan G l kp h) ⟨Nat.le_of_ble_eq_true rfl, Nat.le_of_ble_eq_true rfl⟩ (xce_0 G kp _ _) rfl rfl rfl (Nat.le_of_ble_eq_true rfl) hl.1 hR hS dX10_coin_2 ⟨Nat.le_refl _, Nat.le_refl _⟩ (fun v1 hf H locs hR hS => ?_)
  refine x_if_ne (tgt := 16) hC dX10_coin_5 (by decide) hf (fun hf => ?_) (fun hf => ?_)
  · refine lv_iload_n hC.1 hC.2.1 dX10_coin_16 rfl (lv_at hl 2 rfl) ?_
    try dsimp only at hf
    by_cases hc : x2 = 0
    · rw [if_pos hc] at hf
      refine x_tsi (tgt := 44) hC dX10_coin_17 hc (by decide +kernel) ?_
      refine lv_aload_n hC.1 hC.2.1 dX10_coin_44 rfl (lv_at hl 0 rfl) ?_
      refine x_get (v := .ref (xz G + 1)) hC xf_X10_10 (xce_0 G kp _ _) rfl hR dX10_coin_45 ?_
      refine x_get (v := .ref (xz G + 3)) hC xf_X10_74 (xce_1 G kp _ _) rfl hR dX10_coin_48 ?_
      refine x_get (v := .ref (xz G + 4)) hC xf_X10_106 (xce_3 G kp _ _) rfl hR dX10_coin_51 ?_
      refine lv_iload_n hC.1 hC.2.1 dX10_coin_54 rfl (lv_at hl 1 rfl) ?_
      refine x_lal hC (xce_4 G kp _ _) hR dX10_coin_55 hf (fun v2 hf => ?_)
      obtain ⟨h91, h92⟩ := Prod.mk.inj (Option.some.inj hf)
      subst h91
      subst h92
      exact x_lret hC hR hS dX10_coin_56
    rw [if_neg hc] at hf
    have hc0 := hc
    clear hc
    by_cases hc : x2 = 1
    · rw [if_pos hc] at hf
      refine x_tsi (tgt := 57) hC dX10_coin_17 hc (by decide +kernel) ?_
      refine lv_aload_n hC.1 hC.2.1 dX10_coin_57 rfl (lv_at hl 0 rfl) ?_
      refine x_get (v := .ref (xz G + 1)) hC xf_X10_10 (xce_0 G kp _ _) rfl hR dX10_coin_58 ?_
      refine x_get (v := .ref (xz G + 3)) hC xf_X10_74 (xce_1 G kp _ _) rfl hR dX10_coin_61 ?_
      refine x_get (v := .ref (xz G + 5)) hC xf_X10_131 (xce_3 G kp _ _) rfl hR dX10_coin_64 ?_
      refine lv_iload_n hC.1 hC.2.1 dX10_coin_67 rfl (lv_at hl 1 rfl) ?_
      refine x_lal hC (xce_5 G kp _ _) hR dX10_coin_68 hf (fun v3 hf => ?_)
      obtain ⟨h91, h92⟩ := Prod.mk.inj (Option.some.inj hf)
      subst h91
      subst h92
      exact x_lret hC hR hS dX10_coin_69
    rw [if_neg hc] at hf
    have hc1 := hc
    clear hc
    by_cases hc : x2 = 2
    · rw [if_pos hc] at hf
      refine x_tsi (tgt := 70) hC dX10_coin_17 hc (by decide +kernel) ?_
      refine lv_aload_n hC.1 hC.2.1 dX10_coin_70 rfl (lv_at hl 0 rfl) ?_
      refine x_get (v := .ref (xz G + 1)) hC xf_X10_10 (xce_0 G kp _ _) rfl hR dX10_coin_71 ?_
      refine x_get (v := .ref (xz G + 3)) hC xf_X10_74 (xce_1 G kp _ _) rfl hR dX10_coin_74 ?_
      refine lv_iload_n hC.1 hC.2.1 dX10_coin_77 rfl (lv_at hl 1 rfl) ?_
      refine x_cvl00 (rest := []) hC xy_X3_extraOwedBy tw_478 hf (fun _ h => M_X3_extraOwedBy G l kp N h) ⟨Nat.le_of_ble_eq_true rfl, Nat.le_of_ble_eq_true rfl⟩ (xce_3 G kp _ _) rfl rfl rfl (Nat.le_of_ble_eq_true rfl) hl.1 hR hS dX10_coin_78 ⟨Nat.le_refl _, Nat.le_refl _⟩ (fun v4 hf H locs hR hS => ?_)
      obtain ⟨h91, h92⟩ := Prod.mk.inj (Option.some.inj hf)
      subst h91
      subst h92
      exact x_lret hC hR hS dX10_coin_81
    rw [if_neg hc] at hf
    have hc2 := hc
    clear hc
    have e0 : (x2).toInt ≠ 0 := fun h => hc0 (Int32.toInt_inj.mp (h.trans (by decide)))
    have e1 : (x2).toInt ≠ 1 := fun h => hc1 (Int32.toInt_inj.mp (h.trans (by decide)))
    have e2 : (x2).toInt ≠ 2 := fun h => hc2 (Int32.toInt_inj.mp (h.trans (by decide)))
    refine x_tso (tgt := 82) hC dX10_coin_17 (by omega) (by decide) ?_
    refine lv_aload_n hC.1 hC.2.1 dX10_coin_82 rfl (lv_at hl 0 rfl) ?_
    refine lv_bipush (v := (-7)) hC.1 hC.2.1 dX10_coin_83 (by decide) ?_
    refine x_cvi10 (rest := []) hC xy_X10_refuseAsZero tw_474 hf (fun _ _ h => M_X10_refuseAsZero G l kp h) ⟨Nat.le_of_ble_eq_true rfl, Nat.le_of_ble_eq_true rfl⟩ (xce_0 G kp _ _) rfl rfl rfl (Nat.le_of_ble_eq_true rfl) hl.1 hR hS dX10_coin_85 ⟨Nat.le_refl _, Nat.le_refl _⟩ (fun v5 I6 hf H locs hR hS => ?_)
    refine lv_i2l hC.1 hC.2.1 dX10_coin_88 rfl ?_
    obtain ⟨h91, h92⟩ := Prod.mk.inj (Option.some.inj hf)
    subst h91
    subst h92
    exact x_lret hC hR hS dX10_coin_89
  · refine lv_aload_n hC.1 hC.2.1 dX10_coin_8 rfl (lv_at hl 0 rfl) ?_
    refine lv_bipush (v := (-3)) hC.1 hC.2.1 dX10_coin_9 (by decide) ?_
    refine x_cvi10 (rest := []) hC xy_X10_refuseAsZero tw_474 hf (fun _ _ h => M_X10_refuseAsZero G l kp h) ⟨Nat.le_of_ble_eq_true rfl, Nat.le_of_ble_eq_true rfl⟩ (xce_0 G kp _ _) rfl rfl rfl (Nat.le_of_ble_eq_true rfl) hl.1 hR hS dX10_coin_11 ⟨Nat.le_refl _, Nat.le_refl _⟩ (fun v7 I8 hf H locs hR hS => ?_)
    refine lv_i2l hC.1 hC.2.1 dX10_coin_14 rfl ?_
    obtain ⟨h91, h92⟩ := Prod.mk.inj (Option.some.inj hf)
    subst h91
    subst h92
    exact x_lret hC hR hS dX10_coin_15
set_option maxRecDepth 20000 in
theorem M_X1_account (G : XG) (l : Launch) (kp : Bool) {I : xTI} {L : xTL} {r : Int32} (hf : F_X1_account I = some r) : xMet G l yX1_account cX1_account 1 (some .int) 0 0 kp [.ref (xz G + 1)] I L (some (.int r)) I L := by
  refine xMet.ofW (by decide +kernel) (Nat.le_of_ble_eq_true rfl) ?_
  intro p e s m args below meth c hC H locs ls hR hS hl
  replace hC : xC G p s m args meth c cX1_account 1 RX1 (some .int) := hC
  replace hl : lv_has ls 1 [(0, .ref (xz G + 1))] := hl
  unfold F_X1_account at hf
  refine lv_aload_n hC.1 hC.2.1 dX1_account_0 rfl (lv_at hl 0 rfl) ?_
  refine x_getI hC xf_X1_58 (xce_1 G kp _ _) rfl hR dX1_account_1 hf (fun v1 hf => ?_)
  refine lv_bipush (v := 14) hC.1 hC.2.1 dX1_account_4 (by decide) ?_
  refine lv_idiv hC.1 hC.2.1 dX1_account_6 (by decide) ?_
  have h9 := Option.some.inj hf
  subst h9
  exact x_iret hC hR hS dX1_account_7
set_option maxRecDepth 20000 in
theorem M_X0_standsIn (G : XG) (l : Launch) (kp : Bool) {I : xTI} {L : xTL} {x1 : Int32} {x2 : Int32} {x3 : Int32} {r : Int32} (hf : F_X0_standsIn I x1 x2 x3 = some r) : xMet G l yX0_standsIn cX0_standsIn 4 (some .boolean) 1 23 kp [.ref (xz G + 11), .int x1, .int x2, .int x3] I L (some (.int r)) I L := by
  refine xMet.ofW (by decide +kernel) (Nat.le_of_ble_eq_true rfl) ?_
  intro p e s m args below meth c hC H locs ls hR hS hl
  replace hC : xC G p s m args meth c cX0_standsIn 4 RX0 (some .boolean) := hC
  replace hl : lv_has ls 4 [(0, .ref (xz G + 11)), (1, .int x1), (2, .int x2), (3, .int x3)] := hl
  unfold F_X0_standsIn at hf
  refine lv_aload_n hC.1 hC.2.1 dX0_standsIn_0 rfl (lv_at hl 0 rfl) ?_
  refine x_get (v := .ref (xz G + 12)) hC xf_X0_16 (xce_11 G kp _ _) rfl hR dX0_standsIn_1 ?_
  refine lv_iload_n hC.1 hC.2.1 dX0_standsIn_4 rfl (lv_at hl 1 rfl) ?_
  refine lv_iconst (v := 2) hC.1 hC.2.1 dX0_standsIn_5 (by decide) ?_
  refine x_cvi00 (rest := []) hC xy_X8_at tw_462 hf (fun _ h => M_X8_at_12 G l kp h) ⟨Nat.le_of_ble_eq_true rfl, Nat.le_of_ble_eq_true rfl⟩ (xce_12 G kp _ _) rfl rfl rfl (Nat.le_of_ble_eq_true rfl) hl.1 hR hS dX0_standsIn_6 ⟨Nat.le_refl _, Nat.le_refl _⟩ (fun v1 hf H locs hR hS => ?_)
  refine lv_iload_n hC.1 hC.2.1 dX0_standsIn_9 rfl (lv_at hl 2 rfl) ?_
  refine x_ic_ne (tgt := 45) hC dX0_standsIn_10 (by decide) hf (fun hf => ?_) (fun hf => ?_)
  · refine lv_iconst (v := 0) hC.1 hC.2.1 dX0_standsIn_45 (by decide) ?_
    obtain ⟨h01, hf⟩ := xzc_some hf
    have h9 := Option.some.inj hf
    subst h9
    exact x_zret h01 hC hR hS dX0_standsIn_46
  · refine lv_aload_n hC.1 hC.2.1 dX0_standsIn_13 rfl (lv_at hl 0 rfl) ?_
    refine x_get (v := .ref (xz G + 12)) hC xf_X0_16 (xce_11 G kp _ _) rfl hR dX0_standsIn_14 ?_
    refine lv_iload_n hC.1 hC.2.1 dX0_standsIn_17 rfl (lv_at hl 1 rfl) ?_
    refine lv_bipush (v := 7) hC.1 hC.2.1 dX0_standsIn_18 (by decide) ?_
    refine x_cvi00 (rest := []) hC xy_X8_at tw_462 hf (fun _ h => M_X8_at_12 G l kp h) ⟨Nat.le_of_ble_eq_true rfl, Nat.le_of_ble_eq_true rfl⟩ (xce_12 G kp _ _) rfl rfl rfl (Nat.le_of_ble_eq_true rfl) hl.1 hR hS dX0_standsIn_20 ⟨Nat.le_refl _, Nat.le_refl _⟩ (fun v2 hf H locs hR hS => ?_)
    refine lv_iconst (v := 1) hC.1 hC.2.1 dX0_standsIn_23 (by decide) ?_
    refine x_ic_ne (tgt := 45) hC dX0_standsIn_24 (by decide) hf (fun hf => ?_) (fun hf => ?_)
    · refine lv_iconst (v := 0) hC.1 hC.2.1 dX0_standsIn_45 (by decide) ?_
      obtain ⟨h01, hf⟩ := xzc_some hf
      have h9 := Option.some.inj hf
      subst h9
      exact x_zret h01 hC hR hS dX0_standsIn_46
    · refine lv_aload_n hC.1 hC.2.1 dX0_standsIn_27 rfl (lv_at hl 0 rfl) ?_
      refine x_get (v := .ref (xz G + 12)) hC xf_X0_16 (xce_11 G kp _ _) rfl hR dX0_standsIn_28 ?_
      refine lv_iload_n hC.1 hC.2.1 dX0_standsIn_31 rfl (lv_at hl 1 rfl) ?_
      refine lv_bipush (v := 6) hC.1 hC.2.1 dX0_standsIn_32 (by decide) ?_
      refine x_cvi00 (rest := []) hC xy_X8_at tw_462 hf (fun _ h => M_X8_at_12 G l kp h) ⟨Nat.le_of_ble_eq_true rfl, Nat.le_of_ble_eq_true rfl⟩ (xce_12 G kp _ _) rfl rfl rfl (Nat.le_of_ble_eq_true rfl) hl.1 hR hS dX0_standsIn_34 ⟨Nat.le_refl _, Nat.le_refl _⟩ (fun v3 hf H locs hR hS => ?_)
      refine lv_iload_n hC.1 hC.2.1 dX0_standsIn_37 rfl (lv_at hl 3 rfl) ?_
      refine x_ic_ne (tgt := 45) hC dX0_standsIn_38 (by decide) hf (fun hf => ?_) (fun hf => ?_)
      · refine lv_iconst (v := 0) hC.1 hC.2.1 dX0_standsIn_45 (by decide) ?_
        obtain ⟨h01, hf⟩ := xzc_some hf
        have h9 := Option.some.inj hf
        subst h9
        exact x_zret h01 hC hR hS dX0_standsIn_46
      · refine lv_iconst (v := 1) hC.1 hC.2.1 dX0_standsIn_41 (by decide) ?_
        refine lv_goto (tgt := 46) hC.1 hC.2.1 dX0_standsIn_42 (by decide) ?_
        obtain ⟨h01, hf⟩ := xzc_some hf
        have h9 := Option.some.inj hf
        subst h9
        exact x_zret h01 hC hR hS dX0_standsIn_46
set_option maxRecDepth 20000 in
theorem W_X0_netOf_l6 {G : XG} {l : Launch} {kp : Bool} {p : Program} {e : Env} {s : State} {m : MethodId} {args : Array Value} {below : List Frame} {meth : Method} {c : Code} (hC : xC G p s m args meth c cX0_netOf 6 RX0 (some .int)) (N : Nat) {I : xTI} {L : xTL} {r : Int32} {x1 : Int32} {x2 : Int32} {x3 : Int32} : ∀ (n : Nat) (x4 : Int32) (x5 : Int32) , xlp (F_X0_netOf_b6 N I x1 x2 x3 ) n (x4, x5) = some r → ∀ (H : Heap) (locs : List Loc) (ls : Array Slot), xRep G kp I L H → xS G s.heap H locs → lv_has ls 6 [(0, .ref (xz G + 11)), (1, .int x1), (2, .int x2), (3, .int x3), (4, .int x4), (5, .int x5)] → W p l e (xrm 2 46) s m args below meth c H locs 0 0 (xMQ G kp below args s (some (.int r)) I L) (F0 m 6 ls []) := by
  intro n
  induction n with
  | zero =>
    intro x4 x5 hf
    cases hf
  | succ n hk6 =>
    intro x4 x5 hf H locs ls hR hS hl
    rw [xlp_s, E_X0_netOf_b6] at hf
    unfold F_X0_netOf_c6 at hf
    refine lv_iload hC.1 hC.2.1 dX0_netOf_6 (lv_at hl 5 rfl) ?_
    refine lv_bipush (v := 60) hC.1 hC.2.1 dX0_netOf_8 (by decide) ?_
    refine x_ic_ge (tgt := 42) hC dX0_netOf_10 (by decide) hf (fun hf => ?_) (fun hf => ?_)
    · refine lv_iload hC.1 hC.2.1 dX0_netOf_42 (lv_at hl 4 rfl) ?_
      have h9 := Option.some.inj hf
      subst h9
      exact x_iret hC hR hS dX0_netOf_44
    · refine lv_aload_n hC.1 hC.2.1 dX0_netOf_13 rfl (lv_at hl 0 rfl) ?_
      refine lv_iload hC.1 hC.2.1 dX0_netOf_14 (lv_at hl 5 rfl) ?_
      refine lv_iload_n hC.1 hC.2.1 dX0_netOf_16 rfl (lv_at hl 2 rfl) ?_
      refine lv_iload_n hC.1 hC.2.1 dX0_netOf_17 rfl (lv_at hl 3 rfl) ?_
      refine x_cvi00 (rest := []) hC xy_X0_standsIn tw_494 hf (fun _ h => M_X0_standsIn G l kp h) ⟨Nat.le_of_ble_eq_true rfl, Nat.le_of_ble_eq_true rfl⟩ (xce_11 G kp _ _) rfl rfl rfl (Nat.le_of_ble_eq_true rfl) hl.1 hR hS dX0_netOf_18 ⟨Nat.le_refl _, Nat.le_refl _⟩ (fun v1 hf H locs hR hS => ?_)
      refine x_if_eq (tgt := 36) hC dX0_netOf_21 (by decide) hf (fun hf => ?_) (fun hf => ?_)
      · refine x_iinc (d := 1) (lv' := fun y2 => [(5, .int y2), (0, .ref (xz G + 11)), (1, .int x1), (2, .int x2), (3, .int x3), (4, .int x4)]) (k := 5) hC hl dX0_netOf_36 rfl (by decide) (Nat.le_of_ble_eq_true rfl) hf (fun _ => rfl) (fun y2 hf ls hl => ?_)
        refine lv_goto (tgt := 6) hC.1 hC.2.1 dX0_netOf_39 (by decide) ?_
        exact hk6 x4 y2 hf _ _ _ hR hS (lv_sub hl [1, 2, 3, 4, 5, 0] rfl)
      · refine lv_iload hC.1 hC.2.1 dX0_netOf_24 (lv_at hl 4 rfl) ?_
        refine lv_aload_n hC.1 hC.2.1 dX0_netOf_26 rfl (lv_at hl 0 rfl) ?_
        refine lv_iload hC.1 hC.2.1 dX0_netOf_27 (lv_at hl 5 rfl) ?_
        refine lv_iload_n hC.1 hC.2.1 dX0_netOf_29 rfl (lv_at hl 1 rfl) ?_
        refine x_cvi00 (rest := [.int x4]) hC xy_X0_gainOf tw_466 hf (fun _ h => M_X0_gainOf G l kp h) ⟨Nat.le_of_ble_eq_true rfl, Nat.le_of_ble_eq_true rfl⟩ (xce_11 G kp _ _) rfl rfl rfl (Nat.le_of_ble_eq_true rfl) hl.1 hR hS dX0_netOf_30 ⟨Nat.le_refl _, Nat.le_refl _⟩ (fun v3 hf H locs hR hS => ?_)
        refine lv_iadd hC.1 hC.2.1 dX0_netOf_33 ?_
        refine x_ist (lv' := fun y4 => [(4, .int y4), (0, .ref (xz G + 11)), (1, .int x1), (2, .int x2), (3, .int x3), (5, .int x5)]) hC hl dX0_netOf_34 (Nat.le_of_ble_eq_true rfl) hf (fun _ => rfl) (fun y4 hf ls hl => ?_)
        refine x_iinc (d := 1) (lv' := fun y5 => [(5, .int y5), (4, .int y4), (0, .ref (xz G + 11)), (1, .int x1), (2, .int x2), (3, .int x3)]) (k := 5) hC hl dX0_netOf_36 rfl (by decide) (Nat.le_of_ble_eq_true rfl) hf (fun _ => rfl) (fun y5 hf ls hl => ?_)
        refine lv_goto (tgt := 6) hC.1 hC.2.1 dX0_netOf_39 (by decide) ?_
        exact hk6 y4 y5 hf _ _ _ hR hS (lv_sub hl [2, 3, 4, 5, 1, 0] rfl)
set_option maxRecDepth 20000 in
theorem M_X0_netOf (G : XG) (l : Launch) (kp : Bool) (N : Nat) {I : xTI} {L : xTL} {x1 : Int32} {x2 : Int32} {x3 : Int32} {r : Int32} (hf : F_X0_netOf N I x1 x2 x3 = some r) : xMet G l yX0_netOf cX0_netOf 6 (some .int) 2 46 kp [.ref (xz G + 11), .int x1, .int x2, .int x3] I L (some (.int r)) I L := by
  refine xMet.ofW (by decide +kernel) (Nat.le_of_ble_eq_true rfl) ?_
  intro p e s m args below meth c hC H locs ls hR hS hl
  replace hC : xC G p s m args meth c cX0_netOf 6 RX0 (some .int) := hC
  replace hl : lv_has ls 6 [(0, .ref (xz G + 11)), (1, .int x1), (2, .int x2), (3, .int x3)] := hl
  unfold F_X0_netOf at hf
  refine lv_iconst (v := 0) hC.1 hC.2.1 dX0_netOf_0 (by decide) ?_
  refine lv_istore (lv' := [(4, .int 0), (0, .ref (xz G + 11)), (1, .int x1), (2, .int x2), (3, .int x3)]) hC.1 hC.2.1 dX0_netOf_1 hl (Nat.le_of_ble_eq_true rfl) rfl (fun ls hl => ?_)
  refine lv_iconst (v := 0) hC.1 hC.2.1 dX0_netOf_3 (by decide) ?_
  refine lv_istore (lv' := [(5, .int 0), (4, .int 0), (0, .ref (xz G + 11)), (1, .int x1), (2, .int x2), (3, .int x3)]) hC.1 hC.2.1 dX0_netOf_4 hl (Nat.le_of_ble_eq_true rfl) rfl (fun ls hl => ?_)
  exact W_X0_netOf_l6 hC N _ 0 0 hf _ _ _ hR hS (lv_sub hl [2, 3, 4, 5, 1, 0] rfl)
set_option maxRecDepth 20000 in
theorem W_X10_has_j16 {G : XG} {l : Launch} {kp : Bool} {p : Program} {e : Env} {s : State} {m : MethodId} {args : Array Value} {below : List Frame} {meth : Method} {c : Code} (hC : xC G p s m args meth c cX10_has 4 RX10 (some .int)) (N : Nat) {I : xTI} {L : xTL} {r : Int32} {rI : xTI} (hf : F_X10_has_j16 N I = some (r, rI)) : ∀ (H : Heap) (locs : List Loc) (ls : Array Slot), xRep G kp I L H → xS G s.heap H locs → lv_has ls 4 [(0, .ref (xz G + 0))] → W p l e (xrm 3 71) s m args below meth c H locs 0 0 (xMQ G kp below args s (some (.int r)) rI L) (F0 m 16 ls []) := by
  intro H locs ls hR hS hl
  unfold F_X10_has_j16 at hf
  refine lv_aload_n hC.1 hC.2.1 dX10_has_16 rfl (lv_at hl 0 rfl) ?_
  refine lv_bipush (v := (-3)) hC.1 hC.2.1 dX10_has_17 (by decide) ?_
  refine x_cvi10 (rest := []) hC xy_X10_refuseAsZero tw_474 hf (fun _ _ h => M_X10_refuseAsZero G l kp h) ⟨Nat.le_of_ble_eq_true rfl, Nat.le_of_ble_eq_true rfl⟩ (xce_0 G kp _ _) rfl rfl rfl (Nat.le_of_ble_eq_true rfl) hl.1 hR hS dX10_has_19 ⟨Nat.le_refl _, Nat.le_refl _⟩ (fun v1 I2 hf H locs hR hS => ?_)
  obtain ⟨h91, h92⟩ := Prod.mk.inj (Option.some.inj hf)
  subst h91
  subst h92
  exact x_iret hC hR hS dX10_has_22
set_option maxRecDepth 20000 in
theorem M_X10_has (G : XG) (l : Launch) (kp : Bool) (N : Nat) {I : xTI} {L : xTL} {x1 : Int32} {x2 : Int32} {x3 : Int32} {r : Int32} {rI : xTI} (hf : F_X10_has N I x1 x2 x3 = some (r, rI)) : xMet G l yX10_has cX10_has 4 (some .int) 3 71 kp [.ref (xz G + 0), .int x1, .int x2, .int x3] I L (some (.int r)) rI L := by
  refine xMet.ofW (by decide +kernel) (Nat.le_of_ble_eq_true rfl) ?_
  intro p e s m args below meth c hC H locs ls hR hS hl
  replace hC : xC G p s m args meth c cX10_has 4 RX10 (some .int) := hC
  replace hl : lv_has ls 4 [(0, .ref (xz G + 0)), (1, .int x1), (2, .int x2), (3, .int x3)] := hl
  unfold F_X10_has at hf
  refine lv_aload_n hC.1 hC.2.1 dX10_has_0 rfl (lv_at hl 0 rfl) ?_
  refine lv_iload_n hC.1 hC.2.1 dX10_has_1 rfl (lv_at hl 1 rfl) ?_
  refine x_cvi00 (rest := []) hC xy_X10_isMan tw_427 hf (fun _ h => M_X10_isMan G l kp h) ⟨Nat.le_of_ble_eq_true rfl, Nat.le_of_ble_eq_true rfl⟩ (xce_0 G kp _ _) rfl rfl rfl (Nat.le_of_ble_eq_true rfl) hl.1 hR hS dX10_has_2 ⟨Nat.le_refl _, Nat.le_refl _⟩ (fun v1 hf H locs hR hS => ?_)
  refine x_if_eq (tgt := 16) hC dX10_has_5 (by decide) hf (fun hf => ?_) (fun hf => ?_)
  · exact W_X10_has_j16 hC N hf _ _ _ hR hS (lv_sub hl [0] rfl)
  · refine lv_aload_n hC.1 hC.2.1 dX10_has_8 rfl (lv_at hl 0 rfl) ?_
    refine lv_iload_n hC.1 hC.2.1 dX10_has_9 rfl (lv_at hl 2 rfl) ?_
    refine x_cvi00 (rest := []) hC xy_X10_isStock tw_431 hf (fun _ h => M_X10_isStock G l kp h) ⟨Nat.le_of_ble_eq_true rfl, Nat.le_of_ble_eq_true rfl⟩ (xce_0 G kp _ _) rfl rfl rfl (Nat.le_of_ble_eq_true rfl) hl.1 hR hS dX10_has_10 ⟨Nat.le_refl _, Nat.le_refl _⟩ (fun v2 hf H locs hR hS => ?_)
    refine x_if_ne (tgt := 23) hC dX10_has_13 (by decide) hf (fun hf => ?_) (fun hf => ?_)
    · refine lv_iload_n hC.1 hC.2.1 dX10_has_23 rfl (lv_at hl 3 rfl) ?_
      try dsimp only at hf
      by_cases hc : x3 = 0
      · rw [if_pos hc] at hf
        refine x_tsi (tgt := 56) hC dX10_has_24 hc (by decide +kernel) ?_
        refine lv_aload_n hC.1 hC.2.1 dX10_has_56 rfl (lv_at hl 0 rfl) ?_
        refine x_get (v := .ref (xz G + 1)) hC xf_X10_10 (xce_0 G kp _ _) rfl hR dX10_has_57 ?_
        refine x_get (v := .ref (xz G + 3)) hC xf_X10_74 (xce_1 G kp _ _) rfl hR dX10_has_60 ?_
        refine x_get (v := .ref (xz G + 9)) hC xf_X10_103 (xce_3 G kp _ _) rfl hR dX10_has_63 ?_
        refine lv_iload_n hC.1 hC.2.1 dX10_has_66 rfl (lv_at hl 1 rfl) ?_
        refine lv_iload_n hC.1 hC.2.1 dX10_has_67 rfl (lv_at hl 2 rfl) ?_
        refine x_csi00 (rest := [.ref (xz G + 9)]) hC xy_X3_place tw_439 hf (fun _ h => M_X3_place G l kp h) ⟨Nat.le_of_ble_eq_true rfl, Nat.le_of_ble_eq_true rfl⟩ rfl rfl (Nat.le_of_ble_eq_true rfl) hl.1 hR hS dX10_has_68 ⟨Nat.le_refl _, Nat.le_refl _⟩ (fun v3 hf H locs hR hS => ?_)
        refine x_ial hC (xce_9 G kp _ _) hR dX10_has_71 hf (fun v4 hf => ?_)
        obtain ⟨h91, h92⟩ := Prod.mk.inj (Option.some.inj hf)
        subst h91
        subst h92
        exact x_iret hC hR hS dX10_has_72
      rw [if_neg hc] at hf
      have hc0 := hc
      clear hc
      by_cases hc : x3 = 1
      · rw [if_pos hc] at hf
        refine x_tsi (tgt := 73) hC dX10_has_24 hc (by decide +kernel) ?_
        refine lv_aload_n hC.1 hC.2.1 dX10_has_73 rfl (lv_at hl 0 rfl) ?_
        refine x_get (v := .ref (xz G + 1)) hC xf_X10_10 (xce_0 G kp _ _) rfl hR dX10_has_74 ?_
        refine x_get (v := .ref (xz G + 11)) hC xf_X10_119 (xce_1 G kp _ _) rfl hR dX10_has_77 ?_
        refine lv_iload_n hC.1 hC.2.1 dX10_has_80 rfl (lv_at hl 1 rfl) ?_
        refine lv_iload_n hC.1 hC.2.1 dX10_has_81 rfl (lv_at hl 2 rfl) ?_
        refine lv_aload_n hC.1 hC.2.1 dX10_has_82 rfl (lv_at hl 0 rfl) ?_
        refine x_get (v := .ref (xz G + 1)) hC xf_X10_10 (xce_0 G kp _ _) rfl hR dX10_has_83 ?_
        refine x_cvi00 (rest := [.int x2, .int x1, .ref (xz G + 11)]) hC xy_X1_account tw_486 hf (fun _ h => M_X1_account G l kp h) ⟨Nat.le_of_ble_eq_true rfl, Nat.le_of_ble_eq_true rfl⟩ (xce_1 G kp _ _) rfl rfl rfl (Nat.le_of_ble_eq_true rfl) hl.1 hR hS dX10_has_86 ⟨Nat.le_refl _, Nat.le_refl _⟩ (fun v5 hf H locs hR hS => ?_)
        refine x_cvi00 (rest := []) hC xy_X0_netOf tw_490 hf (fun _ h => M_X0_netOf G l kp N h) ⟨Nat.le_of_ble_eq_true rfl, Nat.le_of_ble_eq_true rfl⟩ (xce_11 G kp _ _) rfl rfl rfl (Nat.le_of_ble_eq_true rfl) hl.1 hR hS dX10_has_89 ⟨Nat.le_refl _, Nat.le_refl _⟩ (fun v6 hf H locs hR hS => ?_)
        obtain ⟨h91, h92⟩ := Prod.mk.inj (Option.some.inj hf)
        subst h91
        subst h92
        exact x_iret hC hR hS dX10_has_92
      rw [if_neg hc] at hf
      have hc1 := hc
      clear hc
      by_cases hc : x3 = 2
      · rw [if_pos hc] at hf
        refine x_tsi (tgt := 93) hC dX10_has_24 hc (by decide +kernel) ?_
        refine lv_aload_n hC.1 hC.2.1 dX10_has_93 rfl (lv_at hl 0 rfl) ?_
        refine x_get (v := .ref (xz G + 1)) hC xf_X10_10 (xce_0 G kp _ _) rfl hR dX10_has_94 ?_
        refine x_get (v := .ref (xz G + 11)) hC xf_X10_119 (xce_1 G kp _ _) rfl hR dX10_has_97 ?_
        refine lv_iload_n hC.1 hC.2.1 dX10_has_100 rfl (lv_at hl 1 rfl) ?_
        refine lv_iload_n hC.1 hC.2.1 dX10_has_101 rfl (lv_at hl 2 rfl) ?_
        refine lv_aload_n hC.1 hC.2.1 dX10_has_102 rfl (lv_at hl 0 rfl) ?_
        refine x_get (v := .ref (xz G + 1)) hC xf_X10_10 (xce_0 G kp _ _) rfl hR dX10_has_103 ?_
        refine x_cvi00 (rest := [.int x2, .int x1, .ref (xz G + 11)]) hC xy_X1_account tw_486 hf (fun _ h => M_X1_account G l kp h) ⟨Nat.le_of_ble_eq_true rfl, Nat.le_of_ble_eq_true rfl⟩ (xce_1 G kp _ _) rfl rfl rfl (Nat.le_of_ble_eq_true rfl) hl.1 hR hS dX10_has_106 ⟨Nat.le_refl _, Nat.le_refl _⟩ (fun v7 hf H locs hR hS => ?_)
        refine lv_iconst (v := 1) hC.1 hC.2.1 dX10_has_109 (by decide) ?_
        refine lv_iadd hC.1 hC.2.1 dX10_has_110 ?_
        refine x_cvi00 (rest := []) hC xy_X0_netOf tw_490 hf (fun _ h => M_X0_netOf G l kp N h) ⟨Nat.le_of_ble_eq_true rfl, Nat.le_of_ble_eq_true rfl⟩ (xce_11 G kp _ _) rfl rfl rfl (Nat.le_of_ble_eq_true rfl) hl.1 hR hS dX10_has_111 ⟨Nat.le_refl _, Nat.le_refl _⟩ (fun v8 hf H locs hR hS => ?_)
        refine W.eq (g2 := F0 m 114 ls [.int v8]) rfl ?_
        obtain ⟨h91, h92⟩ := Prod.mk.inj (Option.some.inj hf)
        subst h91
        subst h92
        exact x_iret hC hR hS dX10_has_114
      rw [if_neg hc] at hf
      have hc2 := hc
      clear hc
      by_cases hc : x3 = 3
      · rw [if_pos hc] at hf
        refine x_tsi (tgt := 115) hC dX10_has_24 hc (by decide +kernel) ?_
        refine lv_aload_n hC.1 hC.2.1 dX10_has_115 rfl (lv_at hl 0 rfl) ?_
        refine x_get (v := .ref (xz G + 1)) hC xf_X10_10 (xce_0 G kp _ _) rfl hR dX10_has_116 ?_
        refine x_get (v := .ref (xz G + 3)) hC xf_X10_74 (xce_1 G kp _ _) rfl hR dX10_has_119 ?_
        refine x_get (v := .ref (xz G + 10)) hC xf_X10_110 (xce_3 G kp _ _) rfl hR dX10_has_122 ?_
        refine lv_iload_n hC.1 hC.2.1 dX10_has_125 rfl (lv_at hl 1 rfl) ?_
        refine lv_iload_n hC.1 hC.2.1 dX10_has_126 rfl (lv_at hl 2 rfl) ?_
        refine x_csi00 (rest := [.ref (xz G + 10)]) hC xy_X3_place tw_439 hf (fun _ h => M_X3_place G l kp h) ⟨Nat.le_of_ble_eq_true rfl, Nat.le_of_ble_eq_true rfl⟩ rfl rfl (Nat.le_of_ble_eq_true rfl) hl.1 hR hS dX10_has_127 ⟨Nat.le_refl _, Nat.le_refl _⟩ (fun v9 hf H locs hR hS => ?_)
        refine x_ial hC (xce_10 G kp _ _) hR dX10_has_130 hf (fun v10 hf => ?_)
        obtain ⟨h91, h92⟩ := Prod.mk.inj (Option.some.inj hf)
        subst h91
        subst h92
        exact x_iret hC hR hS dX10_has_131
      rw [if_neg hc] at hf
      have hc3 := hc
      clear hc
      have e0 : (x3).toInt ≠ 0 := fun h => hc0 (Int32.toInt_inj.mp (h.trans (by decide)))
      have e1 : (x3).toInt ≠ 1 := fun h => hc1 (Int32.toInt_inj.mp (h.trans (by decide)))
      have e2 : (x3).toInt ≠ 2 := fun h => hc2 (Int32.toInt_inj.mp (h.trans (by decide)))
      have e3 : (x3).toInt ≠ 3 := fun h => hc3 (Int32.toInt_inj.mp (h.trans (by decide)))
      refine x_tso (tgt := 132) hC dX10_has_24 (by omega) (by decide) ?_
      refine lv_aload_n hC.1 hC.2.1 dX10_has_132 rfl (lv_at hl 0 rfl) ?_
      refine lv_bipush (v := (-7)) hC.1 hC.2.1 dX10_has_133 (by decide) ?_
      refine x_cvi10 (rest := []) hC xy_X10_refuseAsZero tw_474 hf (fun _ _ h => M_X10_refuseAsZero G l kp h) ⟨Nat.le_of_ble_eq_true rfl, Nat.le_of_ble_eq_true rfl⟩ (xce_0 G kp _ _) rfl rfl rfl (Nat.le_of_ble_eq_true rfl) hl.1 hR hS dX10_has_135 ⟨Nat.le_refl _, Nat.le_refl _⟩ (fun v11 I12 hf H locs hR hS => ?_)
      obtain ⟨h91, h92⟩ := Prod.mk.inj (Option.some.inj hf)
      subst h91
      subst h92
      exact x_iret hC hR hS dX10_has_138
    · exact W_X10_has_j16 hC N hf _ _ _ hR hS (lv_sub hl [0] rfl)
