set_option maxRecDepth 20000 in
theorem W_X9_isRule_j78 {G : XG} {l : Launch} {kp : Bool} {p : Program} {e : Env} {s : State} {m : MethodId} {args : Array Value} {below : List Frame} {meth : Method} {c : Code} (hC : xC G p s m args meth c cX9_isRule 1 RX9 (some .boolean)) (N : Nat) {I : xTI} {L : xTL} {r : Int32} {rI : xTI} (hf : F_X9_isRule_j78 N I = some (r, rI)) : ∀ (H : Heap) (locs : List Loc) (ls : Array Slot), xRep G kp I L H → xS G s.heap H locs → lv_has ls 1 [(0, .ref (xz G + 29))] → W p l e (xrm 90 2475) s m args below meth c H locs 0 0 (xMQ G kp below args s (some (.int r)) rI L) (F0 m 78 ls []) := by
  intro H locs ls hR hS hl
  unfold F_X9_isRule_j78 at hf
  refine lv_aload_n hC.1 hC.2.1 dX9_isRule_78 rfl (lv_at hl 0 rfl) ?_
  refine x_getI hC xf_X9_31 (xce_29 G kp _ _) rfl hR dX9_isRule_79 hf (fun v1 hf => ?_)
  refine lv_bipush (v := 8) hC.1 hC.2.1 dX9_isRule_82 (by decide) ?_
  refine x_ic_ne (tgt := 91) hC dX9_isRule_84 (by decide) hf (fun hf => ?_) (fun hf => ?_)
  · refine lv_iconst (v := 0) hC.1 hC.2.1 dX9_isRule_91 (by decide) ?_
    obtain ⟨h01, hf⟩ := xzc_some hf
    obtain ⟨h91, h92⟩ := Prod.mk.inj (Option.some.inj hf)
    subst h91
    subst h92
    exact x_zret h01 hC hR hS dX9_isRule_92
  · refine lv_iconst (v := 1) hC.1 hC.2.1 dX9_isRule_87 (by decide) ?_
    refine lv_goto (tgt := 92) hC.1 hC.2.1 dX9_isRule_88 (by decide) ?_
    obtain ⟨h01, hf⟩ := xzc_some hf
    obtain ⟨h91, h92⟩ := Prod.mk.inj (Option.some.inj hf)
    subst h91
    subst h92
    exact x_zret h01 hC hR hS dX9_isRule_92
set_option maxRecDepth 20000 in
theorem M_X9_isRule (G : XG) (l : Launch) (kp : Bool) (N : Nat) {I : xTI} {L : xTL} {r : Int32} {rI : xTI} (hf : F_X9_isRule N I = some (r, rI)) : xMet G l yX9_isRule cX9_isRule 1 (some .boolean) 90 2475 kp [.ref (xz G + 29)] I L (some (.int r)) rI L := by
  refine xMet.ofW (by decide +kernel) (Nat.le_of_ble_eq_true rfl) ?_
  intro p e s m args below meth c hC H locs ls hR hS hl
  replace hC : xC G p s m args meth c cX9_isRule 1 RX9 (some .boolean) := hC
  replace hl : lv_has ls 1 [(0, .ref (xz G + 29))] := hl
  unfold F_X9_isRule at hf
  refine lv_aload_n hC.1 hC.2.1 dX9_isRule_0 rfl (lv_at hl 0 rfl) ?_
  refine lv_iconst (v := 0) hC.1 hC.2.1 dX9_isRule_1 (by decide) ?_
  refine x_putI hC xf_X9_22 xp_9_3 (fun f => (xce_29 G kp f _)) rfl (Nat.le_of_ble_eq_true rfl) hR hS dX9_isRule_2 hf (fun I1 hf H locs hR hS => ?_)
  refine lv_aload_n hC.1 hC.2.1 dX9_isRule_5 rfl (lv_at hl 0 rfl) ?_
  refine lv_iconst (v := 0) hC.1 hC.2.1 dX9_isRule_6 (by decide) ?_
  refine x_putI hC xf_X9_25 xp_9_8 (fun f => (xce_29 G kp f _)) rfl (Nat.le_of_ble_eq_true rfl) hR hS dX9_isRule_7 hf (fun I2 hf H locs hR hS => ?_)
  refine lv_aload_n hC.1 hC.2.1 dX9_isRule_10 rfl (lv_at hl 0 rfl) ?_
  refine x_cvv10 (rest := []) hC xy_X9_takeToken tw_704 hf (fun _ h => M_X9_takeToken G l kp N h) ⟨Nat.le_of_ble_eq_true rfl, Nat.le_of_ble_eq_true rfl⟩ (xce_29 G kp _ _) rfl rfl rfl (Nat.le_of_ble_eq_true rfl) hl.1 hR hS dX9_isRule_11 ⟨Nat.le_refl _, Nat.le_refl _⟩ (fun I3 hf H locs hR hS => ?_)
  refine lv_aload_n hC.1 hC.2.1 dX9_isRule_14 rfl (lv_at hl 0 rfl) ?_
  refine x_getI hC xf_X9_31 (xce_29 G kp _ _) rfl hR dX9_isRule_15 hf (fun v4 hf => ?_)
  refine lv_iconst (v := 1) hC.1 hC.2.1 dX9_isRule_18 (by decide) ?_
  refine W.eq (g2 := F0 m 19 ls [.int 1, .int v4]) rfl ?_
  refine x_ic_eq (tgt := 24) hC dX9_isRule_19 (by decide) hf (fun hf => ?_) (fun hf => ?_)
  · refine lv_aload_n hC.1 hC.2.1 dX9_isRule_24 rfl (lv_at hl 0 rfl) ?_
    refine lv_aload_n hC.1 hC.2.1 dX9_isRule_25 rfl (lv_at hl 0 rfl) ?_
    refine x_getI hC xf_X9_34 (xce_29 G kp _ _) rfl hR dX9_isRule_26 hf (fun v5 hf => ?_)
    refine x_putI hC xf_X9_37 xp_9_6 (fun f => (xce_29 G kp f _)) rfl (Nat.le_of_ble_eq_true rfl) hR hS dX9_isRule_29 hf (fun I6 hf H locs hR hS => ?_)
    refine lv_aload_n hC.1 hC.2.1 dX9_isRule_32 rfl (lv_at hl 0 rfl) ?_
    refine x_cvv10 (rest := []) hC xy_X9_takeToken tw_704 hf (fun _ h => M_X9_takeToken G l kp N h) ⟨Nat.le_of_ble_eq_true rfl, Nat.le_of_ble_eq_true rfl⟩ (xce_29 G kp _ _) rfl rfl rfl (Nat.le_of_ble_eq_true rfl) hl.1 hR hS dX9_isRule_33 ⟨Nat.le_refl _, Nat.le_refl _⟩ (fun I7 hf H locs hR hS => ?_)
    refine lv_aload_n hC.1 hC.2.1 dX9_isRule_36 rfl (lv_at hl 0 rfl) ?_
    refine lv_iconst (v := 0) hC.1 hC.2.1 dX9_isRule_37 (by decide) ?_
    refine lv_iconst (v := 0) hC.1 hC.2.1 dX9_isRule_38 (by decide) ?_
    refine x_cvi10 (rest := []) hC xy_X9_readLevel tw_780 hf (fun _ _ h => M_X9_readLevel G l kp N h) ⟨Nat.le_of_ble_eq_true rfl, Nat.le_of_ble_eq_true rfl⟩ (xce_29 G kp _ _) rfl rfl rfl (Nat.le_of_ble_eq_true rfl) hl.1 hR hS dX9_isRule_39 ⟨Nat.le_refl _, Nat.le_refl _⟩ (fun v8 I9 hf H locs hR hS => ?_)
    refine x_if_ne (tgt := 47) hC dX9_isRule_42 (by decide) hf (fun hf => ?_) (fun hf => ?_)
    · refine lv_aload_n hC.1 hC.2.1 dX9_isRule_47 rfl (lv_at hl 0 rfl) ?_
      refine lv_aload_n hC.1 hC.2.1 dX9_isRule_48 rfl (lv_at hl 0 rfl) ?_
      refine x_getI hC xf_X9_25 (xce_29 G kp _ _) rfl hR dX9_isRule_49 hf (fun v10 hf => ?_)
      refine x_putI hC xf_X9_44 xp_9_9 (fun f => (xce_29 G kp f _)) rfl (Nat.le_of_ble_eq_true rfl) hR hS dX9_isRule_52 hf (fun I11 hf H locs hR hS => ?_)
      refine lv_aload_n hC.1 hC.2.1 dX9_isRule_55 rfl (lv_at hl 0 rfl) ?_
      refine x_getI hC xf_X9_31 (xce_29 G kp _ _) rfl hR dX9_isRule_56 hf (fun v12 hf => ?_)
      refine lv_iconst (v := 4) hC.1 hC.2.1 dX9_isRule_59 (by decide) ?_
      refine x_ic_ne (tgt := 78) hC dX9_isRule_60 (by decide) hf (fun hf => ?_) (fun hf => ?_)
      · exact W_X9_isRule_j78 hC N hf _ _ _ hR hS (lv_sub hl [0] rfl)
      · refine lv_aload_n hC.1 hC.2.1 dX9_isRule_63 rfl (lv_at hl 0 rfl) ?_
        refine x_cvv10 (rest := []) hC xy_X9_takeToken tw_704 hf (fun _ h => M_X9_takeToken G l kp N h) ⟨Nat.le_of_ble_eq_true rfl, Nat.le_of_ble_eq_true rfl⟩ (xce_29 G kp _ _) rfl rfl rfl (Nat.le_of_ble_eq_true rfl) hl.1 hR hS dX9_isRule_64 ⟨Nat.le_refl _, Nat.le_refl _⟩ (fun I13 hf H locs hR hS => ?_)
        refine lv_aload_n hC.1 hC.2.1 dX9_isRule_67 rfl (lv_at hl 0 rfl) ?_
        refine lv_iconst (v := 0) hC.1 hC.2.1 dX9_isRule_68 (by decide) ?_
        refine lv_iconst (v := 0) hC.1 hC.2.1 dX9_isRule_69 (by decide) ?_
        refine x_cvi10 (rest := []) hC xy_X9_readLevel tw_780 hf (fun _ _ h => M_X9_readLevel G l kp N h) ⟨Nat.le_of_ble_eq_true rfl, Nat.le_of_ble_eq_true rfl⟩ (xce_29 G kp _ _) rfl rfl rfl (Nat.le_of_ble_eq_true rfl) hl.1 hR hS dX9_isRule_70 ⟨Nat.le_refl _, Nat.le_refl _⟩ (fun v14 I15 hf H locs hR hS => ?_)
        refine x_if_ne (tgt := 78) hC dX9_isRule_73 (by decide) hf (fun hf => ?_) (fun hf => ?_)
        · exact W_X9_isRule_j78 hC N hf _ _ _ hR hS (lv_sub hl [0] rfl)
        · refine lv_iconst (v := 0) hC.1 hC.2.1 dX9_isRule_76 (by decide) ?_
          obtain ⟨h01, hf⟩ := xzc_some hf
          obtain ⟨h91, h92⟩ := Prod.mk.inj (Option.some.inj hf)
          subst h91
          subst h92
          exact x_zret h01 hC hR hS dX9_isRule_77
    · refine lv_iconst (v := 0) hC.1 hC.2.1 dX9_isRule_45 (by decide) ?_
      obtain ⟨h01, hf⟩ := xzc_some hf
      obtain ⟨h91, h92⟩ := Prod.mk.inj (Option.some.inj hf)
      subst h91
      subst h92
      exact x_zret h01 hC hR hS dX9_isRule_46
  · refine lv_iconst (v := 0) hC.1 hC.2.1 dX9_isRule_22 (by decide) ?_
    obtain ⟨h01, hf⟩ := xzc_some hf
    obtain ⟨h91, h92⟩ := Prod.mk.inj (Option.some.inj hf)
    subst h91
    subst h92
    exact x_zret h01 hC hR hS dX9_isRule_23
set_option maxRecDepth 20000 in
theorem M_X9_fault (G : XG) (l : Launch) (kp : Bool) {I : xTI} {L : xTL} {r : Int32} (hf : F_X9_fault I = some r) : xMet G l yX9_fault cX9_fault 1 (some .int) 0 0 kp [.ref (xz G + 29)] I L (some (.int r)) I L := by
  refine xMet.ofW (by decide +kernel) (Nat.le_of_ble_eq_true rfl) ?_
  intro p e s m args below meth c hC H locs ls hR hS hl
  replace hC : xC G p s m args meth c cX9_fault 1 RX9 (some .int) := hC
  replace hl : lv_has ls 1 [(0, .ref (xz G + 29))] := hl
  unfold F_X9_fault at hf
  refine lv_aload_n hC.1 hC.2.1 dX9_fault_0 rfl (lv_at hl 0 rfl) ?_
  refine x_getI hC xf_X9_47 (xce_29 G kp _ _) rfl hR dX9_fault_1 hf (fun v1 hf => ?_)
  have h9 := Option.some.inj hf
  subst h9
  exact x_iret hC hR hS dX9_fault_4
set_option maxRecDepth 20000 in
theorem W_X8_put_15_j29 {G : XG} {l : Launch} {kp : Bool} {p : Program} {e : Env} {s : State} {m : MethodId} {args : Array Value} {below : List Frame} {meth : Method} {c : Code} (hC : xC G p s m args meth c cX8_put 5 RX8 none) {I : xTI} {L : xTL} {rI : xTI} {x1 : Int32} {x2 : Int32} {x3 : Int32} {t0 : Int32} (hf : F_X8_put_15_j29 I x1 x2 x3 t0 = some rI) : ∀ (H : Heap) (locs : List Loc) (ls : Array Slot), xRep G kp I L H → xS G s.heap H locs → lv_has ls 5 [(0, .ref (xz G + 15)), (1, .int x1), (2, .int x2), (3, .int x3)] → W p l e (xrm 0 0) s m args below meth c H locs 0 0 (xMQ G kp below args s none rI L) (F0 m 29 ls [.int t0]) := by
  intro H locs ls hR hS hl
  unfold F_X8_put_15_j29 at hf
  refine lv_istore (lv' := [(4, .int t0), (0, .ref (xz G + 15)), (1, .int x1), (2, .int x2), (3, .int x3)]) hC.1 hC.2.1 dX8_put_29 hl (Nat.le_of_ble_eq_true rfl) rfl (fun ls hl => ?_)
  refine lv_iload hC.1 hC.2.1 dX8_put_31 (lv_at hl 0 rfl) ?_
  refine x_if_eq (tgt := 50) hC dX8_put_33 (by decide) hf (fun hf => ?_) (fun hf => ?_)
  · have h9 := Option.some.inj hf
    subst h9
    exact x_vret hC hR hS dX8_put_50
  · refine lv_aload_n hC.1 hC.2.1 dX8_put_36 rfl (lv_at hl 1 rfl) ?_
    refine x_get (v := .ref (xz G + 16)) hC xf_X8_16 (xce_15 G kp _ _) rfl hR dX8_put_37 ?_
    refine lv_iload_n hC.1 hC.2.1 dX8_put_40 rfl (lv_at hl 2 rfl) ?_
    refine lv_aload_n hC.1 hC.2.1 dX8_put_41 rfl (lv_at hl 1 rfl) ?_
    refine x_get (v := .int 5) hC xf_X8_13 (xce_15 G kp _ _) rfl hR dX8_put_42 ?_
    refine lv_imul hC.1 hC.2.1 dX8_put_45 ?_
    refine lv_iload_n hC.1 hC.2.1 dX8_put_46 rfl (lv_at hl 3 rfl) ?_
    refine lv_iadd hC.1 hC.2.1 dX8_put_47 ?_
    refine lv_iload_n hC.1 hC.2.1 dX8_put_48 rfl (lv_at hl 4 rfl) ?_
    refine x_ias hC (fun f => (xce_16 G kp f _)) hR hS dX8_put_49 hf (fun I1 hf H locs hR hS => ?_)
    have h9 := Option.some.inj hf
    subst h9
    exact x_vret hC hR hS dX8_put_50
set_option maxRecDepth 20000 in
theorem M_X8_put_15 (G : XG) (l : Launch) (kp : Bool) {I : xTI} {L : xTL} {x1 : Int32} {x2 : Int32} {x3 : Int32} {rI : xTI} (hf : F_X8_put_15 I x1 x2 x3 = some rI) : xMet G l yX8_put cX8_put 5 none 0 0 kp [.ref (xz G + 15), .int x1, .int x2, .int x3] I L none rI L := by
  refine xMet.ofW (by decide +kernel) (Nat.le_of_ble_eq_true rfl) ?_
  intro p e s m args below meth c hC H locs ls hR hS hl
  replace hC : xC G p s m args meth c cX8_put 5 RX8 none := hC
  replace hl : lv_has ls 5 [(0, .ref (xz G + 15)), (1, .int x1), (2, .int x2), (3, .int x3)] := hl
  unfold F_X8_put_15 at hf
  refine lv_iload_n hC.1 hC.2.1 dX8_put_0 rfl (lv_at hl 1 rfl) ?_
  refine x_if_lt (tgt := 28) hC dX8_put_1 (by decide) hf (fun hf => ?_) (fun hf => ?_)
  · refine lv_iconst (v := 0) hC.1 hC.2.1 dX8_put_28 (by decide) ?_
    exact W_X8_put_15_j29 hC hf _ _ _ hR hS (lv_sub hl [0, 1, 2, 3] rfl)
  · refine lv_iload_n hC.1 hC.2.1 dX8_put_4 rfl (lv_at hl 1 rfl) ?_
    refine lv_aload_n hC.1 hC.2.1 dX8_put_5 rfl (lv_at hl 0 rfl) ?_
    refine x_get (v := .int 12) hC xf_X8_7 (xce_15 G kp _ _) rfl hR dX8_put_6 ?_
    refine x_ic_ge (tgt := 28) hC dX8_put_9 (by decide) hf (fun hf => ?_) (fun hf => ?_)
    · refine lv_iconst (v := 0) hC.1 hC.2.1 dX8_put_28 (by decide) ?_
      exact W_X8_put_15_j29 hC hf _ _ _ hR hS (lv_sub hl [0, 1, 2, 3] rfl)
    · refine lv_iload_n hC.1 hC.2.1 dX8_put_12 rfl (lv_at hl 2 rfl) ?_
      refine x_if_lt (tgt := 28) hC dX8_put_13 (by decide) hf (fun hf => ?_) (fun hf => ?_)
      · refine lv_iconst (v := 0) hC.1 hC.2.1 dX8_put_28 (by decide) ?_
        exact W_X8_put_15_j29 hC hf _ _ _ hR hS (lv_sub hl [0, 1, 2, 3] rfl)
      · refine lv_iload_n hC.1 hC.2.1 dX8_put_16 rfl (lv_at hl 2 rfl) ?_
        refine lv_aload_n hC.1 hC.2.1 dX8_put_17 rfl (lv_at hl 0 rfl) ?_
        refine x_get (v := .int 5) hC xf_X8_13 (xce_15 G kp _ _) rfl hR dX8_put_18 ?_
        refine x_ic_ge (tgt := 28) hC dX8_put_21 (by decide) hf (fun hf => ?_) (fun hf => ?_)
        · refine lv_iconst (v := 0) hC.1 hC.2.1 dX8_put_28 (by decide) ?_
          exact W_X8_put_15_j29 hC hf _ _ _ hR hS (lv_sub hl [0, 1, 2, 3] rfl)
        · refine lv_iconst (v := 1) hC.1 hC.2.1 dX8_put_24 (by decide) ?_
          refine lv_goto (tgt := 29) hC.1 hC.2.1 dX8_put_25 (by decide) ?_
          exact W_X8_put_15_j29 hC hf _ _ _ hR hS (lv_sub hl [0, 1, 2, 3] rfl)
set_option maxRecDepth 20000 in
theorem M_X5_enter (G : XG) (l : Launch) (kp : Bool) {I : xTI} {L : xTL} {x2 : Int32} {x3 : Int32} {r : Int32} {rI : xTI} (hf : F_X5_enter I x2 x3 = some (r, rI)) : xMet G l yX5_enter cX5_enter 5 (some .int) 1 119 kp [.ref (xz G + 14), .ref (xz G + 29), .int x2, .int x3] I L (some (.int r)) rI L := by
  refine xMet.ofW (by decide +kernel) (Nat.le_of_ble_eq_true rfl) ?_
  intro p e s m args below meth c hC H locs ls hR hS hl
  replace hC : xC G p s m args meth c cX5_enter 5 RX5 (some .int) := hC
  replace hl : lv_has ls 5 [(0, .ref (xz G + 14)), (1, .ref (xz G + 29)), (2, .int x2), (3, .int x3)] := hl
  unfold F_X5_enter at hf
  refine lv_aload_n hC.1 hC.2.1 dX5_enter_0 rfl (lv_at hl 0 rfl) ?_
  refine x_get (v := .ref (xz G + 15)) hC xf_X5_16 (xce_14 G kp _ _) rfl hR dX5_enter_1 ?_
  refine x_getI hC xf_X5_30 (xce_15 G kp _ _) rfl hR dX5_enter_4 hf (fun v1 hf => ?_)
  refine lv_istore (lv' := [(4, .int v1), (0, .ref (xz G + 14)), (1, .ref (xz G + 29)), (2, .int x2), (3, .int x3)]) hC.1 hC.2.1 dX5_enter_7 hl (Nat.le_of_ble_eq_true rfl) rfl (fun ls hl => ?_)
  refine lv_aload_n hC.1 hC.2.1 dX5_enter_9 rfl (lv_at hl 1 rfl) ?_
  refine x_get (v := .ref (xz G + 15)) hC xf_X5_16 (xce_14 G kp _ _) rfl hR dX5_enter_10 ?_
  refine lv_dup hC.1 hC.2.1 dX5_enter_13 rfl ?_
  refine x_getI hC xf_X5_30 (xce_15 G kp _ _) rfl hR dX5_enter_14 hf (fun v2 hf => ?_)
  refine lv_iconst (v := 1) hC.1 hC.2.1 dX5_enter_17 (by decide) ?_
  refine lv_iadd hC.1 hC.2.1 dX5_enter_18 ?_
  refine x_putI hC xf_X5_30 xp_8_3 (fun f => (xce_15 G kp f _)) rfl (Nat.le_of_ble_eq_true rfl) hR hS dX5_enter_19 hf (fun I3 hf H locs hR hS => ?_)
  refine W.eq (g2 := F0 m 22 ls []) rfl ?_
  refine lv_aload_n hC.1 hC.2.1 dX5_enter_22 rfl (lv_at hl 1 rfl) ?_
  refine x_get (v := .ref (xz G + 15)) hC xf_X5_16 (xce_14 G kp _ _) rfl hR dX5_enter_23 ?_
  refine lv_iload hC.1 hC.2.1 dX5_enter_26 (lv_at hl 0 rfl) ?_
  refine lv_iconst (v := 0) hC.1 hC.2.1 dX5_enter_28 (by decide) ?_
  refine lv_aload_n hC.1 hC.2.1 dX5_enter_29 rfl (lv_at hl 2 rfl) ?_
  refine x_getI hC xf_X5_34 (xce_29 G kp _ _) rfl hR dX5_enter_30 hf (fun v4 hf => ?_)
  refine x_cvv10 (rest := []) hC xy_X8_put tw_808 hf (fun _ h => M_X8_put_15 G l kp h) ⟨Nat.le_of_ble_eq_true rfl, Nat.le_of_ble_eq_true rfl⟩ (xce_15 G kp _ _) rfl rfl rfl (Nat.le_of_ble_eq_true rfl) hl.1 hR hS dX5_enter_33 ⟨Nat.le_refl _, Nat.le_refl _⟩ (fun I5 hf H locs hR hS => ?_)
  refine lv_aload_n hC.1 hC.2.1 dX5_enter_36 rfl (lv_at hl 1 rfl) ?_
  refine x_get (v := .ref (xz G + 15)) hC xf_X5_16 (xce_14 G kp _ _) rfl hR dX5_enter_37 ?_
  refine lv_iload hC.1 hC.2.1 dX5_enter_40 (lv_at hl 0 rfl) ?_
  refine lv_iconst (v := 1) hC.1 hC.2.1 dX5_enter_42 (by decide) ?_
  refine lv_iload_n hC.1 hC.2.1 dX5_enter_43 rfl (lv_at hl 3 rfl) ?_
  refine W.eq (g2 := F0 m 44 ls [.int x2, .int 1, .int v1, .ref (xz G + 15)]) rfl ?_
  refine x_cvv10 (rest := []) hC xy_X8_put tw_808 hf (fun _ h => M_X8_put_15 G l kp h) ⟨Nat.le_of_ble_eq_true rfl, Nat.le_of_ble_eq_true rfl⟩ (xce_15 G kp _ _) rfl rfl rfl (Nat.le_of_ble_eq_true rfl) hl.1 hR hS dX5_enter_44 ⟨Nat.le_refl _, Nat.le_refl _⟩ (fun I6 hf H locs hR hS => ?_)
  refine lv_aload_n hC.1 hC.2.1 dX5_enter_47 rfl (lv_at hl 1 rfl) ?_
  refine x_get (v := .ref (xz G + 15)) hC xf_X5_16 (xce_14 G kp _ _) rfl hR dX5_enter_48 ?_
  refine lv_iload hC.1 hC.2.1 dX5_enter_51 (lv_at hl 0 rfl) ?_
  refine lv_iconst (v := 2) hC.1 hC.2.1 dX5_enter_53 (by decide) ?_
  refine lv_iload_n hC.1 hC.2.1 dX5_enter_54 rfl (lv_at hl 4 rfl) ?_
  refine x_cvv10 (rest := []) hC xy_X8_put tw_808 hf (fun _ h => M_X8_put_15 G l kp h) ⟨Nat.le_of_ble_eq_true rfl, Nat.le_of_ble_eq_true rfl⟩ (xce_15 G kp _ _) rfl rfl rfl (Nat.le_of_ble_eq_true rfl) hl.1 hR hS dX5_enter_55 ⟨Nat.le_refl _, Nat.le_refl _⟩ (fun I7 hf H locs hR hS => ?_)
  refine lv_aload_n hC.1 hC.2.1 dX5_enter_58 rfl (lv_at hl 1 rfl) ?_
  refine x_get (v := .ref (xz G + 15)) hC xf_X5_16 (xce_14 G kp _ _) rfl hR dX5_enter_59 ?_
  refine lv_iload hC.1 hC.2.1 dX5_enter_62 (lv_at hl 0 rfl) ?_
  refine lv_iconst (v := 3) hC.1 hC.2.1 dX5_enter_64 (by decide) ?_
  refine lv_aload_n hC.1 hC.2.1 dX5_enter_65 rfl (lv_at hl 2 rfl) ?_
  refine W.eq (g2 := F0 m 66 ls [.ref (xz G + 29), .int 3, .int v1, .ref (xz G + 15)]) rfl ?_
  refine x_getI hC xf_X5_43 (xce_29 G kp _ _) rfl hR dX5_enter_66 hf (fun v8 hf => ?_)
  refine x_cvv10 (rest := []) hC xy_X8_put tw_808 hf (fun _ h => M_X8_put_15 G l kp h) ⟨Nat.le_of_ble_eq_true rfl, Nat.le_of_ble_eq_true rfl⟩ (xce_15 G kp _ _) rfl rfl rfl (Nat.le_of_ble_eq_true rfl) hl.1 hR hS dX5_enter_69 ⟨Nat.le_refl _, Nat.le_refl _⟩ (fun I9 hf H locs hR hS => ?_)
  refine lv_aload_n hC.1 hC.2.1 dX5_enter_72 rfl (lv_at hl 1 rfl) ?_
  refine x_get (v := .ref (xz G + 15)) hC xf_X5_16 (xce_14 G kp _ _) rfl hR dX5_enter_73 ?_
  refine lv_iload hC.1 hC.2.1 dX5_enter_76 (lv_at hl 0 rfl) ?_
  refine lv_iconst (v := 4) hC.1 hC.2.1 dX5_enter_78 (by decide) ?_
  refine lv_aload_n hC.1 hC.2.1 dX5_enter_79 rfl (lv_at hl 2 rfl) ?_
  refine x_getI hC xf_X5_46 (xce_29 G kp _ _) rfl hR dX5_enter_80 hf (fun v10 hf => ?_)
  refine x_cvv10 (rest := []) hC xy_X8_put tw_808 hf (fun _ h => M_X8_put_15 G l kp h) ⟨Nat.le_of_ble_eq_true rfl, Nat.le_of_ble_eq_true rfl⟩ (xce_15 G kp _ _) rfl rfl rfl (Nat.le_of_ble_eq_true rfl) hl.1 hR hS dX5_enter_83 ⟨Nat.le_refl _, Nat.le_refl _⟩ (fun I11 hf H locs hR hS => ?_)
  refine lv_aload_n hC.1 hC.2.1 dX5_enter_86 rfl (lv_at hl 2 rfl) ?_
  refine x_get (v := .ref (xz G + 31)) hC xf_X5_49 (xce_29 G kp _ _) rfl hR dX5_enter_87 ?_
  refine lv_iconst (v := 0) hC.1 hC.2.1 dX5_enter_90 (by decide) ?_
  refine W.eq (g2 := F0 m 91 ls [.int 0, .ref (xz G + 31)]) rfl ?_
  refine lv_aload_n hC.1 hC.2.1 dX5_enter_91 rfl (lv_at hl 1 rfl) ?_
  refine x_get (v := .ref (xz G + 17)) hC xf_X5_20 (xce_14 G kp _ _) rfl hR dX5_enter_92 ?_
  refine lv_iload hC.1 hC.2.1 dX5_enter_95 (lv_at hl 0 rfl) ?_
  refine lv_bipush (v := 120) hC.1 hC.2.1 dX5_enter_97 (by decide) ?_
  refine lv_imul hC.1 hC.2.1 dX5_enter_99 ?_
  refine lv_bipush (v := 120) hC.1 hC.2.1 dX5_enter_100 (by decide) ?_
  refine x_cpi (rest := []) hC tw_809 (xce_31 G kp _ _) (fun f => (xce_17 G kp f _)) hl.1 hR hS (Nat.le_of_ble_eq_true rfl) (Nat.le_of_ble_eq_true rfl) dX5_enter_102 hf (fun I12 hf H locs hR hS => ?_)
  refine lv_iload hC.1 hC.2.1 dX5_enter_105 (lv_at hl 0 rfl) ?_
  obtain ⟨h91, h92⟩ := Prod.mk.inj (Option.some.inj hf)
  subst h91
  subst h92
  exact x_iret hC hR hS dX5_enter_107
set_option maxRecDepth 20000 in
theorem W_X10_rule_j16 {G : XG} {l : Launch} {kp : Bool} {p : Program} {e : Env} {s : State} {m : MethodId} {args : Array Value} {below : List Frame} {meth : Method} {c : Code} (hC : xC G p s m args meth c cX10_rule 4 RX10 (some .int)) (N : Nat) {I : xTI} {L : xTL} {r : Int32} {rI : xTI} (hf : F_X10_rule_j16 N I = some (r, rI)) : ∀ (H : Heap) (locs : List Loc) (ls : Array Slot), xRep G kp I L H → xS G s.heap H locs → lv_has ls 4 [(0, .ref (xz G + 0))] → W p l e (xrm 91 2495) s m args below meth c H locs 0 0 (xMQ G kp below args s (some (.int r)) rI L) (F0 m 16 ls []) := by
  intro H locs ls hR hS hl
  unfold F_X10_rule_j16 at hf
  refine lv_aload_n hC.1 hC.2.1 dX10_rule_16 rfl (lv_at hl 0 rfl) ?_
  refine lv_bipush (v := (-7)) hC.1 hC.2.1 dX10_rule_17 (by decide) ?_
  refine x_cvi10 (rest := []) hC xy_X10_refuse tw_411 hf (fun _ _ h => M_X10_refuse G l kp h) ⟨Nat.le_of_ble_eq_true rfl, Nat.le_of_ble_eq_true rfl⟩ (xce_0 G kp _ _) rfl rfl rfl (Nat.le_of_ble_eq_true rfl) hl.1 hR hS dX10_rule_19 ⟨Nat.le_refl _, Nat.le_refl _⟩ (fun v1 I2 hf H locs hR hS => ?_)
  obtain ⟨h91, h92⟩ := Prod.mk.inj (Option.some.inj hf)
  subst h91
  subst h92
  exact x_iret hC hR hS dX10_rule_22
set_option maxRecDepth 20000 in
theorem M_X10_rule (G : XG) (l : Launch) (kp : Bool) (N : Nat) {I : xTI} {L : xTL} {x1 : Int32} {x2 : Int32} {r : Int32} {rI : xTI} (hf : F_X10_rule N I x1 x2 = some (r, rI)) : xMet G l yX10_rule cX10_rule 4 (some .int) 91 2495 kp [.ref (xz G + 0), .int x1, .int x2] I L (some (.int r)) rI L := by
  refine xMet.ofW (by decide +kernel) (Nat.le_of_ble_eq_true rfl) ?_
  intro p e s m args below meth c hC H locs ls hR hS hl
  replace hC : xC G p s m args meth c cX10_rule 4 RX10 (some .int) := hC
  replace hl : lv_has ls 4 [(0, .ref (xz G + 0)), (1, .int x1), (2, .int x2)] := hl
  unfold F_X10_rule at hf
  refine lv_iload_n hC.1 hC.2.1 dX10_rule_0 rfl (lv_at hl 1 rfl) ?_
  refine x_if_lt (tgt := 16) hC dX10_rule_1 (by decide) hf (fun hf => ?_) (fun hf => ?_)
  · exact W_X10_rule_j16 hC N hf _ _ _ hR hS (lv_sub hl [0] rfl)
  · refine lv_iload_n hC.1 hC.2.1 dX10_rule_4 rfl (lv_at hl 1 rfl) ?_
    refine lv_iload_n hC.1 hC.2.1 dX10_rule_5 rfl (lv_at hl 2 rfl) ?_
    refine x_ic_ge (tgt := 16) hC dX10_rule_6 (by decide) hf (fun hf => ?_) (fun hf => ?_)
    · exact W_X10_rule_j16 hC N hf _ _ _ hR hS (lv_sub hl [0] rfl)
    · refine lv_iload_n hC.1 hC.2.1 dX10_rule_9 rfl (lv_at hl 2 rfl) ?_
      refine lv_sipush (v := 1000) hC.1 hC.2.1 dX10_rule_10 (by decide) ?_
      refine x_ic_le (tgt := 23) hC dX10_rule_13 (by decide) hf (fun hf => ?_) (fun hf => ?_)
      · refine lv_aload_n hC.1 hC.2.1 dX10_rule_23 rfl (lv_at hl 0 rfl) ?_
        refine x_get (v := .ref (xz G + 1)) hC xf_X10_10 (xce_0 G kp _ _) rfl hR dX10_rule_24 ?_
        refine x_get (v := .ref (xz G + 14)) hC xf_X10_196 (xce_1 G kp _ _) rfl hR dX10_rule_27 ?_
        refine x_get (v := .ref (xz G + 15)) hC xf_X10_248 (xce_14 G kp _ _) rfl hR dX10_rule_30 ?_
        refine x_cvi00 (rest := []) hC xy_X8_hasRoom tw_639 hf (fun _ h => M_X8_hasRoom_15 G l kp h) ⟨Nat.le_of_ble_eq_true rfl, Nat.le_of_ble_eq_true rfl⟩ (xce_15 G kp _ _) rfl rfl rfl (Nat.le_of_ble_eq_true rfl) hl.1 hR hS dX10_rule_33 ⟨Nat.le_refl _, Nat.le_refl _⟩ (fun v1 hf H locs hR hS => ?_)
        refine x_if_ne (tgt := 46) hC dX10_rule_36 (by decide) hf (fun hf => ?_) (fun hf => ?_)
        · refine lv_aload_n hC.1 hC.2.1 dX10_rule_46 rfl (lv_at hl 0 rfl) ?_
          refine x_get (v := .ref (xz G + 29)) hC xf_X10_22 (xce_0 G kp _ _) rfl hR dX10_rule_47 ?_
          refine x_cvi10 (rest := []) hC xy_X9_isRule tw_700 hf (fun _ _ h => M_X9_isRule G l kp N h) ⟨Nat.le_of_ble_eq_true rfl, Nat.le_of_ble_eq_true rfl⟩ (xce_29 G kp _ _) rfl rfl rfl (Nat.le_of_ble_eq_true rfl) hl.1 hR hS dX10_rule_50 ⟨Nat.le_refl _, Nat.le_refl _⟩ (fun v2 I3 hf H locs hR hS => ?_)
          refine x_if_ne (tgt := 67) hC dX10_rule_53 (by decide) hf (fun hf => ?_) (fun hf => ?_)
          · refine lv_aload_n hC.1 hC.2.1 dX10_rule_67 rfl (lv_at hl 0 rfl) ?_
            refine x_get (v := .ref (xz G + 1)) hC xf_X10_10 (xce_0 G kp _ _) rfl hR dX10_rule_68 ?_
            refine x_get (v := .ref (xz G + 14)) hC xf_X10_196 (xce_1 G kp _ _) rfl hR dX10_rule_71 ?_
            refine lv_aload_n hC.1 hC.2.1 dX10_rule_74 rfl (lv_at hl 0 rfl) ?_
            refine x_get (v := .ref (xz G + 29)) hC xf_X10_22 (xce_0 G kp _ _) rfl hR dX10_rule_75 ?_
            refine lv_iload_n hC.1 hC.2.1 dX10_rule_78 rfl (lv_at hl 1 rfl) ?_
            refine lv_iload_n hC.1 hC.2.1 dX10_rule_79 rfl (lv_at hl 2 rfl) ?_
            refine x_cvi10 (rest := []) hC xy_X5_enter tw_804 hf (fun _ _ h => M_X5_enter G l kp h) ⟨Nat.le_of_ble_eq_true rfl, Nat.le_of_ble_eq_true rfl⟩ (xce_14 G kp _ _) rfl rfl rfl (Nat.le_of_ble_eq_true rfl) hl.1 hR hS dX10_rule_80 ⟨Nat.le_refl _, Nat.le_refl _⟩ (fun v4 I5 hf H locs hR hS => ?_)
            refine lv_istore_n (lv' := [(3, .int v4), (0, .ref (xz G + 0)), (1, .int x1), (2, .int x2)]) hC.1 hC.2.1 dX10_rule_83 rfl hl (Nat.le_of_ble_eq_true rfl) rfl (fun ls hl => ?_)
            refine lv_aload_n hC.1 hC.2.1 dX10_rule_84 rfl (lv_at hl 1 rfl) ?_
            refine x_get (v := .ref (xz G + 29)) hC xf_X10_22 (xce_0 G kp _ _) rfl hR dX10_rule_85 ?_
            refine W.eq (g2 := F0 m 88 ls [.ref (xz G + 29)]) rfl ?_
            refine lv_iconst (v := 0) hC.1 hC.2.1 dX10_rule_88 (by decide) ?_
            refine x_putI hC xf_X10_244 xp_9_0 (fun f => (xce_29 G kp f _)) rfl (Nat.le_of_ble_eq_true rfl) hR hS dX10_rule_89 hf (fun I6 hf H locs hR hS => ?_)
            refine lv_iload_n hC.1 hC.2.1 dX10_rule_92 rfl (lv_at hl 0 rfl) ?_
            obtain ⟨h91, h92⟩ := Prod.mk.inj (Option.some.inj hf)
            subst h91
            subst h92
            exact x_iret hC hR hS dX10_rule_93
          · refine lv_bipush (v := (-10)) hC.1 hC.2.1 dX10_rule_56 (by decide) ?_
            refine lv_aload_n hC.1 hC.2.1 dX10_rule_58 rfl (lv_at hl 0 rfl) ?_
            refine x_get (v := .ref (xz G + 29)) hC xf_X10_22 (xce_0 G kp _ _) rfl hR dX10_rule_59 ?_
            refine x_cvi00 (rest := [.int (-10)]) hC xy_X9_fault tw_800 hf (fun _ h => M_X9_fault G l kp h) ⟨Nat.le_of_ble_eq_true rfl, Nat.le_of_ble_eq_true rfl⟩ (xce_29 G kp _ _) rfl rfl rfl (Nat.le_of_ble_eq_true rfl) hl.1 hR hS dX10_rule_62 ⟨Nat.le_refl _, Nat.le_refl _⟩ (fun v7 hf H locs hR hS => ?_)
            refine lv_isub hC.1 hC.2.1 dX10_rule_65 ?_
            obtain ⟨h91, h92⟩ := Prod.mk.inj (Option.some.inj hf)
            subst h91
            subst h92
            exact x_iret hC hR hS dX10_rule_66
        · refine lv_aload_n hC.1 hC.2.1 dX10_rule_39 rfl (lv_at hl 0 rfl) ?_
          refine lv_bipush (v := (-8)) hC.1 hC.2.1 dX10_rule_40 (by decide) ?_
          refine x_cvi10 (rest := []) hC xy_X10_refuse tw_411 hf (fun _ _ h => M_X10_refuse G l kp h) ⟨Nat.le_of_ble_eq_true rfl, Nat.le_of_ble_eq_true rfl⟩ (xce_0 G kp _ _) rfl rfl rfl (Nat.le_of_ble_eq_true rfl) hl.1 hR hS dX10_rule_42 ⟨Nat.le_refl _, Nat.le_refl _⟩ (fun v8 I9 hf H locs hR hS => ?_)
          obtain ⟨h91, h92⟩ := Prod.mk.inj (Option.some.inj hf)
          subst h91
          subst h92
          exact x_iret hC hR hS dX10_rule_45
      · exact W_X10_rule_j16 hC N hf _ _ _ hR hS (lv_sub hl [0] rfl)
set_option maxRecDepth 20000 in
theorem W_X10_bargainToldOf_j28 {G : XG} {l : Launch} {kp : Bool} {p : Program} {e : Env} {s : State} {m : MethodId} {args : Array Value} {below : List Frame} {meth : Method} {c : Code} (hC : xC G p s m args meth c cX10_bargainToldOf 3 RX10 (some .int)) {I : xTI} {L : xTL} {r : Int32} {x1 : Int32} {t0 : Int32} (hf : F_X10_bargainToldOf_j28 I x1 t0 = some r) : ∀ (H : Heap) (locs : List Loc) (ls : Array Slot), xRep G kp I L H → xS G s.heap H locs → lv_has ls 3 [(1, .int x1)] → W p l e (xrm 2 44) s m args below meth c H locs 0 0 (xMQ G kp below args s (some (.int r)) I L) (F0 m 28 ls [.int t0]) := by
  intro H locs ls hR hS hl
  unfold F_X10_bargainToldOf_j28 at hf
  refine lv_istore_n (lv' := [(2, .int t0), (1, .int x1)]) hC.1 hC.2.1 dX10_bargainToldOf_28 rfl hl (Nat.le_of_ble_eq_true rfl) rfl (fun ls hl => ?_)
  refine lv_iload_n hC.1 hC.2.1 dX10_bargainToldOf_29 rfl (lv_at hl 0 rfl) ?_
  refine x_if_eq (tgt := 40) hC dX10_bargainToldOf_30 (by decide) hf (fun hf => ?_) (fun hf => ?_)
  · refine lv_iconst (v := (-1)) hC.1 hC.2.1 dX10_bargainToldOf_40 (by decide) ?_
    have h9 := Option.some.inj hf
    subst h9
    exact x_iret hC hR hS dX10_bargainToldOf_41
  · refine lv_iload_n hC.1 hC.2.1 dX10_bargainToldOf_33 rfl (lv_at hl 1 rfl) ?_
    refine lv_bipush (v := 100) hC.1 hC.2.1 dX10_bargainToldOf_34 (by decide) ?_
    refine lv_isub hC.1 hC.2.1 dX10_bargainToldOf_36 ?_
    refine lv_goto (tgt := 41) hC.1 hC.2.1 dX10_bargainToldOf_37 (by decide) ?_
    have h9 := Option.some.inj hf
    subst h9
    exact x_iret hC hR hS dX10_bargainToldOf_41
set_option maxRecDepth 20000 in
theorem M_X10_bargainToldOf (G : XG) (l : Launch) (kp : Bool) {I : xTI} {L : xTL} {x1 : Int32} {r : Int32} (hf : F_X10_bargainToldOf I x1 = some r) : xMet G l yX10_bargainToldOf cX10_bargainToldOf 3 (some .int) 2 44 kp [.ref (xz G + 0), .int x1] I L (some (.int r)) I L := by
  refine xMet.ofW (by decide +kernel) (Nat.le_of_ble_eq_true rfl) ?_
  intro p e s m args below meth c hC H locs ls hR hS hl
  replace hC : xC G p s m args meth c cX10_bargainToldOf 3 RX10 (some .int) := hC
  replace hl : lv_has ls 3 [(0, .ref (xz G + 0)), (1, .int x1)] := hl
  unfold F_X10_bargainToldOf at hf
  refine lv_iload_n hC.1 hC.2.1 dX10_bargainToldOf_0 rfl (lv_at hl 1 rfl) ?_
  refine lv_bipush (v := 100) hC.1 hC.2.1 dX10_bargainToldOf_1 (by decide) ?_
  refine x_ic_lt (tgt := 27) hC dX10_bargainToldOf_3 (by decide) hf (fun hf => ?_) (fun hf => ?_)
  · refine lv_iconst (v := 0) hC.1 hC.2.1 dX10_bargainToldOf_27 (by decide) ?_
    exact W_X10_bargainToldOf_j28 hC hf _ _ _ hR hS (lv_sub hl [1] rfl)
  · refine lv_aload_n hC.1 hC.2.1 dX10_bargainToldOf_6 rfl (lv_at hl 0 rfl) ?_
    refine x_get (v := .ref (xz G + 1)) hC xf_X10_10 (xce_0 G kp _ _) rfl hR dX10_bargainToldOf_7 ?_
    refine x_get (v := .ref (xz G + 11)) hC xf_X10_119 (xce_1 G kp _ _) rfl hR dX10_bargainToldOf_10 ?_
    refine lv_iload_n hC.1 hC.2.1 dX10_bargainToldOf_13 rfl (lv_at hl 1 rfl) ?_
    refine lv_bipush (v := 100) hC.1 hC.2.1 dX10_bargainToldOf_14 (by decide) ?_
    refine lv_isub hC.1 hC.2.1 dX10_bargainToldOf_16 ?_
    refine x_cvi00 (rest := []) hC xy_X0_isThere tw_535 hf (fun _ h => M_X0_isThere G l kp h) ⟨Nat.le_of_ble_eq_true rfl, Nat.le_of_ble_eq_true rfl⟩ (xce_11 G kp _ _) rfl rfl rfl (Nat.le_of_ble_eq_true rfl) hl.1 hR hS dX10_bargainToldOf_17 ⟨Nat.le_refl _, Nat.le_refl _⟩ (fun v1 hf H locs hR hS => ?_)
    refine x_if_eq (tgt := 27) hC dX10_bargainToldOf_20 (by decide) hf (fun hf => ?_) (fun hf => ?_)
    · refine lv_iconst (v := 0) hC.1 hC.2.1 dX10_bargainToldOf_27 (by decide) ?_
      exact W_X10_bargainToldOf_j28 hC hf _ _ _ hR hS (lv_sub hl [1] rfl)
    · refine lv_iconst (v := 1) hC.1 hC.2.1 dX10_bargainToldOf_23 (by decide) ?_
      refine lv_goto (tgt := 28) hC.1 hC.2.1 dX10_bargainToldOf_24 (by decide) ?_
      exact W_X10_bargainToldOf_j28 hC hf _ _ _ hR hS (lv_sub hl [1] rfl)
set_option maxRecDepth 20000 in
theorem M_X10_isToldOf (G : XG) (l : Launch) (kp : Bool) {I : xTI} {L : xTL} {x1 : Int32} {r : Int32} (hf : F_X10_isToldOf I x1 = some r) : xMet G l yX10_isToldOf cX10_isToldOf 2 (some .boolean) 3 66 kp [.ref (xz G + 0), .int x1] I L (some (.int r)) I L := by
  refine xMet.ofW (by decide +kernel) (Nat.le_of_ble_eq_true rfl) ?_
  intro p e s m args below meth c hC H locs ls hR hS hl
  replace hC : xC G p s m args meth c cX10_isToldOf 2 RX10 (some .boolean) := hC
  replace hl : lv_has ls 2 [(0, .ref (xz G + 0)), (1, .int x1)] := hl
  unfold F_X10_isToldOf at hf
  refine lv_aload_n hC.1 hC.2.1 dX10_isToldOf_0 rfl (lv_at hl 0 rfl) ?_
  refine lv_iload_n hC.1 hC.2.1 dX10_isToldOf_1 rfl (lv_at hl 1 rfl) ?_
  refine x_cvi00 (rest := []) hC xy_X10_isStock tw_431 hf (fun _ h => M_X10_isStock G l kp h) ⟨Nat.le_of_ble_eq_true rfl, Nat.le_of_ble_eq_true rfl⟩ (xce_0 G kp _ _) rfl rfl rfl (Nat.le_of_ble_eq_true rfl) hl.1 hR hS dX10_isToldOf_2 ⟨Nat.le_refl _, Nat.le_refl _⟩ (fun v1 hf H locs hR hS => ?_)
  refine x_if_ne (tgt := 17) hC dX10_isToldOf_5 (by decide) hf (fun hf => ?_) (fun hf => ?_)
  · refine lv_iconst (v := 1) hC.1 hC.2.1 dX10_isToldOf_17 (by decide) ?_
    refine lv_goto (tgt := 22) hC.1 hC.2.1 dX10_isToldOf_18 (by decide) ?_
    obtain ⟨h01, hf⟩ := xzc_some hf
    have h9 := Option.some.inj hf
    subst h9
    exact x_zret h01 hC hR hS dX10_isToldOf_22
  · refine lv_aload_n hC.1 hC.2.1 dX10_isToldOf_8 rfl (lv_at hl 0 rfl) ?_
    refine lv_iload_n hC.1 hC.2.1 dX10_isToldOf_9 rfl (lv_at hl 1 rfl) ?_
    refine x_cvi00 (rest := []) hC xy_X10_bargainToldOf tw_821 hf (fun _ h => M_X10_bargainToldOf G l kp h) ⟨Nat.le_of_ble_eq_true rfl, Nat.le_of_ble_eq_true rfl⟩ (xce_0 G kp _ _) rfl rfl rfl (Nat.le_of_ble_eq_true rfl) hl.1 hR hS dX10_isToldOf_10 ⟨Nat.le_refl _, Nat.le_refl _⟩ (fun v2 hf H locs hR hS => ?_)
    refine lv_iconst (v := (-1)) hC.1 hC.2.1 dX10_isToldOf_13 (by decide) ?_
    refine x_ic_eq (tgt := 21) hC dX10_isToldOf_14 (by decide) hf (fun hf => ?_) (fun hf => ?_)
    · refine lv_iconst (v := 0) hC.1 hC.2.1 dX10_isToldOf_21 (by decide) ?_
      obtain ⟨h01, hf⟩ := xzc_some hf
      have h9 := Option.some.inj hf
      subst h9
      exact x_zret h01 hC hR hS dX10_isToldOf_22
    · refine lv_iconst (v := 1) hC.1 hC.2.1 dX10_isToldOf_17 (by decide) ?_
      refine lv_goto (tgt := 22) hC.1 hC.2.1 dX10_isToldOf_18 (by decide) ?_
      obtain ⟨h01, hf⟩ := xzc_some hf
      have h9 := Option.some.inj hf
      subst h9
      exact x_zret h01 hC hR hS dX10_isToldOf_22
set_option maxRecDepth 20000 in
theorem M_X10_stockToldOf (G : XG) (l : Launch) (kp : Bool) {I : xTI} {L : xTL} {x1 : Int32} {r : Int32} (hf : F_X10_stockToldOf I x1 = some r) : xMet G l yX10_stockToldOf cX10_stockToldOf 3 (some .int) 3 66 kp [.ref (xz G + 0), .int x1] I L (some (.int r)) I L := by
  refine xMet.ofW (by decide +kernel) (Nat.le_of_ble_eq_true rfl) ?_
  intro p e s m args below meth c hC H locs ls hR hS hl
  replace hC : xC G p s m args meth c cX10_stockToldOf 3 RX10 (some .int) := hC
  replace hl : lv_has ls 3 [(0, .ref (xz G + 0)), (1, .int x1)] := hl
  unfold F_X10_stockToldOf at hf
  refine lv_aload_n hC.1 hC.2.1 dX10_stockToldOf_0 rfl (lv_at hl 0 rfl) ?_
  refine lv_iload_n hC.1 hC.2.1 dX10_stockToldOf_1 rfl (lv_at hl 1 rfl) ?_
  refine x_cvi00 (rest := []) hC xy_X10_bargainToldOf tw_821 hf (fun _ h => M_X10_bargainToldOf G l kp h) ⟨Nat.le_of_ble_eq_true rfl, Nat.le_of_ble_eq_true rfl⟩ (xce_0 G kp _ _) rfl rfl rfl (Nat.le_of_ble_eq_true rfl) hl.1 hR hS dX10_stockToldOf_2 ⟨Nat.le_refl _, Nat.le_refl _⟩ (fun v1 hf H locs hR hS => ?_)
  refine lv_istore_n (lv' := [(2, .int v1), (0, .ref (xz G + 0)), (1, .int x1)]) hC.1 hC.2.1 dX10_stockToldOf_5 rfl hl (Nat.le_of_ble_eq_true rfl) rfl (fun ls hl => ?_)
  refine lv_iload_n hC.1 hC.2.1 dX10_stockToldOf_6 rfl (lv_at hl 0 rfl) ?_
  refine lv_iconst (v := (-1)) hC.1 hC.2.1 dX10_stockToldOf_7 (by decide) ?_
  refine x_ic_ne (tgt := 15) hC dX10_stockToldOf_8 (by decide) hf (fun hf => ?_) (fun hf => ?_)
  · refine lv_aload_n hC.1 hC.2.1 dX10_stockToldOf_15 rfl (lv_at hl 1 rfl) ?_
    refine x_get (v := .ref (xz G + 1)) hC xf_X10_10 (xce_0 G kp _ _) rfl hR dX10_stockToldOf_16 ?_
    refine x_get (v := .ref (xz G + 11)) hC xf_X10_119 (xce_1 G kp _ _) rfl hR dX10_stockToldOf_19 ?_
    refine lv_iload_n hC.1 hC.2.1 dX10_stockToldOf_22 rfl (lv_at hl 0 rfl) ?_
    refine lv_iconst (v := 2) hC.1 hC.2.1 dX10_stockToldOf_23 (by decide) ?_
    refine x_cvi00 (rest := []) hC xy_X0_at tw_543 hf (fun _ h => M_X0_at G l kp h) ⟨Nat.le_of_ble_eq_true rfl, Nat.le_of_ble_eq_true rfl⟩ (xce_11 G kp _ _) rfl rfl rfl (Nat.le_of_ble_eq_true rfl) hl.1 hR hS dX10_stockToldOf_24 ⟨Nat.le_refl _, Nat.le_refl _⟩ (fun v2 hf H locs hR hS => ?_)
    have h9 := Option.some.inj hf
    subst h9
    exact x_iret hC hR hS dX10_stockToldOf_27
  · refine lv_iload_n hC.1 hC.2.1 dX10_stockToldOf_11 rfl (lv_at hl 2 rfl) ?_
    refine lv_goto (tgt := 27) hC.1 hC.2.1 dX10_stockToldOf_12 (by decide) ?_
    have h9 := Option.some.inj hf
    subst h9
    exact x_iret hC hR hS dX10_stockToldOf_27
set_option maxRecDepth 20000 in
theorem W_X10_says_j17 {G : XG} {l : Launch} {kp : Bool} {p : Program} {e : Env} {s : State} {m : MethodId} {args : Array Value} {below : List Frame} {meth : Method} {c : Code} (hC : xC G p s m args meth c cX10_says 3 RX10 (some .int)) (N : Nat) {I : xTI} {L : xTL} {r : Int32} {rI : xTI} (hf : F_X10_says_j17 N I = some (r, rI)) : ∀ (H : Heap) (locs : List Loc) (ls : Array Slot), xRep G kp I L H → xS G s.heap H locs → lv_has ls 3 [(0, .ref (xz G + 0))] → W p l e (xrm 5 121) s m args below meth c H locs 0 0 (xMQ G kp below args s (some (.int r)) rI L) (F0 m 17 ls []) := by
  intro H locs ls hR hS hl
  unfold F_X10_says_j17 at hf
  refine lv_aload_n hC.1 hC.2.1 dX10_says_17 rfl (lv_at hl 0 rfl) ?_
  refine lv_bipush (v := (-3)) hC.1 hC.2.1 dX10_says_18 (by decide) ?_
  refine x_cvi10 (rest := []) hC xy_X10_refuseAsZero tw_474 hf (fun _ _ h => M_X10_refuseAsZero G l kp h) ⟨Nat.le_of_ble_eq_true rfl, Nat.le_of_ble_eq_true rfl⟩ (xce_0 G kp _ _) rfl rfl rfl (Nat.le_of_ble_eq_true rfl) hl.1 hR hS dX10_says_20 ⟨Nat.le_refl _, Nat.le_refl _⟩ (fun v1 I2 hf H locs hR hS => ?_)
  obtain ⟨h91, h92⟩ := Prod.mk.inj (Option.some.inj hf)
  subst h91
  subst h92
  exact x_iret hC hR hS dX10_says_23
set_option maxRecDepth 20000 in
theorem M_X10_says (G : XG) (l : Launch) (kp : Bool) (N : Nat) {I : xTI} {L : xTL} {x1 : Int32} {x2 : Int32} {r : Int32} {rI : xTI} (hf : F_X10_says N I x1 x2 = some (r, rI)) : xMet G l yX10_says cX10_says 3 (some .int) 5 121 kp [.ref (xz G + 0), .int x1, .int x2] I L (some (.int r)) rI L := by
  refine xMet.ofW (by decide +kernel) (Nat.le_of_ble_eq_true rfl) ?_
  intro p e s m args below meth c hC H locs ls hR hS hl
  replace hC : xC G p s m args meth c cX10_says 3 RX10 (some .int) := hC
  replace hl : lv_has ls 3 [(0, .ref (xz G + 0)), (1, .int x1), (2, .int x2)] := hl
  unfold F_X10_says at hf
  refine lv_iload_n hC.1 hC.2.1 dX10_says_0 rfl (lv_at hl 1 rfl) ?_
  refine lv_iconst (v := 0) hC.1 hC.2.1 dX10_says_1 (by decide) ?_
  refine lv_iconst (v := 5) hC.1 hC.2.1 dX10_says_2 (by decide) ?_
  refine x_csi00 (rest := []) hC xy_X10_isWithin tw_408 hf (fun _ h => M_X10_isWithin G l kp h) ⟨Nat.le_of_ble_eq_true rfl, Nat.le_of_ble_eq_true rfl⟩ rfl rfl (Nat.le_of_ble_eq_true rfl) hl.1 hR hS dX10_says_3 ⟨Nat.le_refl _, Nat.le_refl _⟩ (fun v1 hf H locs hR hS => ?_)
  refine x_if_eq (tgt := 17) hC dX10_says_6 (by decide) hf (fun hf => ?_) (fun hf => ?_)
  · exact W_X10_says_j17 hC N hf _ _ _ hR hS (lv_sub hl [0] rfl)
  · refine lv_aload_n hC.1 hC.2.1 dX10_says_9 rfl (lv_at hl 0 rfl) ?_
    refine lv_iload_n hC.1 hC.2.1 dX10_says_10 rfl (lv_at hl 2 rfl) ?_
    refine x_cvi00 (rest := []) hC xy_X10_isToldOf tw_817 hf (fun _ h => M_X10_isToldOf G l kp h) ⟨Nat.le_of_ble_eq_true rfl, Nat.le_of_ble_eq_true rfl⟩ (xce_0 G kp _ _) rfl rfl rfl (Nat.le_of_ble_eq_true rfl) hl.1 hR hS dX10_says_11 ⟨Nat.le_refl _, Nat.le_refl _⟩ (fun v2 hf H locs hR hS => ?_)
    refine x_if_ne (tgt := 24) hC dX10_says_14 (by decide) hf (fun hf => ?_) (fun hf => ?_)
    · refine lv_aload_n hC.1 hC.2.1 dX10_says_24 rfl (lv_at hl 0 rfl) ?_
      refine x_get (v := .ref (xz G + 1)) hC xf_X10_10 (xce_0 G kp _ _) rfl hR dX10_says_25 ?_
      refine x_get (v := .ref (xz G + 14)) hC xf_X10_196 (xce_1 G kp _ _) rfl hR dX10_says_28 ?_
      refine lv_iload_n hC.1 hC.2.1 dX10_says_31 rfl (lv_at hl 1 rfl) ?_
      refine lv_aload_n hC.1 hC.2.1 dX10_says_32 rfl (lv_at hl 0 rfl) ?_
      refine x_get (v := .ref (xz G + 1)) hC xf_X10_10 (xce_0 G kp _ _) rfl hR dX10_says_33 ?_
      refine lv_aload_n hC.1 hC.2.1 dX10_says_36 rfl (lv_at hl 0 rfl) ?_
      refine lv_iload_n hC.1 hC.2.1 dX10_says_37 rfl (lv_at hl 2 rfl) ?_
      refine x_cvi00 (rest := [.ref (xz G + 1), .int x1, .ref (xz G + 14)]) hC xy_X10_stockToldOf tw_825 hf (fun _ h => M_X10_stockToldOf G l kp h) ⟨Nat.le_of_ble_eq_true rfl, Nat.le_of_ble_eq_true rfl⟩ (xce_0 G kp _ _) rfl rfl rfl (Nat.le_of_ble_eq_true rfl) hl.1 hR hS dX10_says_38 ⟨Nat.le_refl _, Nat.le_refl _⟩ (fun v3 hf H locs hR hS => ?_)
      refine lv_aload_n hC.1 hC.2.1 dX10_says_41 rfl (lv_at hl 0 rfl) ?_
      refine lv_iload_n hC.1 hC.2.1 dX10_says_42 rfl (lv_at hl 2 rfl) ?_
      refine W.eq (g2 := F0 m 43 ls [.int x2, .ref (xz G + 0), .int v3, .ref (xz G + 1), .int x1, .ref (xz G + 14)]) rfl ?_
      refine x_cvi00 (rest := [.int v3, .ref (xz G + 1), .int x1, .ref (xz G + 14)]) hC xy_X10_bargainToldOf tw_821 hf (fun _ h => M_X10_bargainToldOf G l kp h) ⟨Nat.le_of_ble_eq_true rfl, Nat.le_of_ble_eq_true rfl⟩ (xce_0 G kp _ _) rfl rfl rfl (Nat.le_of_ble_eq_true rfl) hl.1 hR hS dX10_says_43 ⟨Nat.le_refl _, Nat.le_refl _⟩ (fun v4 hf H locs hR hS => ?_)
      refine x_cvi10 (rest := []) hC xy_X5_tells tw_580 hf (fun _ _ h => M_X5_tells G l kp N h) ⟨Nat.le_of_ble_eq_true rfl, Nat.le_of_ble_eq_true rfl⟩ (xce_14 G kp _ _) rfl rfl rfl (Nat.le_of_ble_eq_true rfl) hl.1 hR hS dX10_says_46 ⟨Nat.le_refl _, Nat.le_refl _⟩ (fun v5 I6 hf H locs hR hS => ?_)
      obtain ⟨h91, h92⟩ := Prod.mk.inj (Option.some.inj hf)
      subst h91
      subst h92
      exact x_iret hC hR hS dX10_says_49
    · exact W_X10_says_j17 hC N hf _ _ _ hR hS (lv_sub hl [0] rfl)
set_option maxRecDepth 20000 in
theorem W_X10_why_j17 {G : XG} {l : Launch} {kp : Bool} {p : Program} {e : Env} {s : State} {m : MethodId} {args : Array Value} {below : List Frame} {meth : Method} {c : Code} (hC : xC G p s m args meth c cX10_why 3 RX10 (some .int)) (N : Nat) {I : xTI} {L : xTL} {r : Int32} {rI : xTI} (hf : F_X10_why_j17 N I = some (r, rI)) : ∀ (H : Heap) (locs : List Loc) (ls : Array Slot), xRep G kp I L H → xS G s.heap H locs → lv_has ls 3 [(0, .ref (xz G + 0))] → W p l e (xrm 4 96) s m args below meth c H locs 0 0 (xMQ G kp below args s (some (.int r)) rI L) (F0 m 17 ls []) := by
  intro H locs ls hR hS hl
  unfold F_X10_why_j17 at hf
  refine lv_aload_n hC.1 hC.2.1 dX10_why_17 rfl (lv_at hl 0 rfl) ?_
  refine lv_bipush (v := (-3)) hC.1 hC.2.1 dX10_why_18 (by decide) ?_
  refine x_cvi10 (rest := []) hC xy_X10_refuse tw_411 hf (fun _ _ h => M_X10_refuse G l kp h) ⟨Nat.le_of_ble_eq_true rfl, Nat.le_of_ble_eq_true rfl⟩ (xce_0 G kp _ _) rfl rfl rfl (Nat.le_of_ble_eq_true rfl) hl.1 hR hS dX10_why_20 ⟨Nat.le_refl _, Nat.le_refl _⟩ (fun v1 I2 hf H locs hR hS => ?_)
  obtain ⟨h91, h92⟩ := Prod.mk.inj (Option.some.inj hf)
  subst h91
  subst h92
  exact x_iret hC hR hS dX10_why_23
set_option maxRecDepth 20000 in
theorem M_X10_why (G : XG) (l : Launch) (kp : Bool) (N : Nat) {I : xTI} {L : xTL} {x1 : Int32} {x2 : Int32} {r : Int32} {rI : xTI} (hf : F_X10_why N I x1 x2 = some (r, rI)) : xMet G l yX10_why cX10_why 3 (some .int) 4 96 kp [.ref (xz G + 0), .int x1, .int x2] I L (some (.int r)) rI L := by
  refine xMet.ofW (by decide +kernel) (Nat.le_of_ble_eq_true rfl) ?_
  intro p e s m args below meth c hC H locs ls hR hS hl
  replace hC : xC G p s m args meth c cX10_why 3 RX10 (some .int) := hC
  replace hl : lv_has ls 3 [(0, .ref (xz G + 0)), (1, .int x1), (2, .int x2)] := hl
  unfold F_X10_why at hf
  refine lv_iload_n hC.1 hC.2.1 dX10_why_0 rfl (lv_at hl 1 rfl) ?_
  refine lv_iconst (v := 0) hC.1 hC.2.1 dX10_why_1 (by decide) ?_
  refine lv_iconst (v := 5) hC.1 hC.2.1 dX10_why_2 (by decide) ?_
  refine x_csi00 (rest := []) hC xy_X10_isWithin tw_408 hf (fun _ h => M_X10_isWithin G l kp h) ⟨Nat.le_of_ble_eq_true rfl, Nat.le_of_ble_eq_true rfl⟩ rfl rfl (Nat.le_of_ble_eq_true rfl) hl.1 hR hS dX10_why_3 ⟨Nat.le_refl _, Nat.le_refl _⟩ (fun v1 hf H locs hR hS => ?_)
  refine x_if_eq (tgt := 17) hC dX10_why_6 (by decide) hf (fun hf => ?_) (fun hf => ?_)
  · exact W_X10_why_j17 hC N hf _ _ _ hR hS (lv_sub hl [0] rfl)
  · refine lv_aload_n hC.1 hC.2.1 dX10_why_9 rfl (lv_at hl 0 rfl) ?_
    refine lv_iload_n hC.1 hC.2.1 dX10_why_10 rfl (lv_at hl 2 rfl) ?_
    refine x_cvi00 (rest := []) hC xy_X10_isToldOf tw_817 hf (fun _ h => M_X10_isToldOf G l kp h) ⟨Nat.le_of_ble_eq_true rfl, Nat.le_of_ble_eq_true rfl⟩ (xce_0 G kp _ _) rfl rfl rfl (Nat.le_of_ble_eq_true rfl) hl.1 hR hS dX10_why_11 ⟨Nat.le_refl _, Nat.le_refl _⟩ (fun v2 hf H locs hR hS => ?_)
    refine x_if_ne (tgt := 24) hC dX10_why_14 (by decide) hf (fun hf => ?_) (fun hf => ?_)
    · refine lv_aload_n hC.1 hC.2.1 dX10_why_24 rfl (lv_at hl 0 rfl) ?_
      refine x_get (v := .ref (xz G + 1)) hC xf_X10_10 (xce_0 G kp _ _) rfl hR dX10_why_25 ?_
      refine x_get (v := .ref (xz G + 14)) hC xf_X10_196 (xce_1 G kp _ _) rfl hR dX10_why_28 ?_
      refine lv_iload_n hC.1 hC.2.1 dX10_why_31 rfl (lv_at hl 1 rfl) ?_
      refine lv_aload_n hC.1 hC.2.1 dX10_why_32 rfl (lv_at hl 0 rfl) ?_
      refine x_get (v := .ref (xz G + 1)) hC xf_X10_10 (xce_0 G kp _ _) rfl hR dX10_why_33 ?_
      refine lv_aload_n hC.1 hC.2.1 dX10_why_36 rfl (lv_at hl 0 rfl) ?_
      refine lv_iload_n hC.1 hC.2.1 dX10_why_37 rfl (lv_at hl 2 rfl) ?_
      refine x_cvi00 (rest := [.ref (xz G + 1), .int x1, .ref (xz G + 14)]) hC xy_X10_stockToldOf tw_825 hf (fun _ h => M_X10_stockToldOf G l kp h) ⟨Nat.le_of_ble_eq_true rfl, Nat.le_of_ble_eq_true rfl⟩ (xce_0 G kp _ _) rfl rfl rfl (Nat.le_of_ble_eq_true rfl) hl.1 hR hS dX10_why_38 ⟨Nat.le_refl _, Nat.le_refl _⟩ (fun v3 hf H locs hR hS => ?_)
      refine lv_aload_n hC.1 hC.2.1 dX10_why_41 rfl (lv_at hl 0 rfl) ?_
      refine lv_iload_n hC.1 hC.2.1 dX10_why_42 rfl (lv_at hl 2 rfl) ?_
      refine W.eq (g2 := F0 m 43 ls [.int x2, .ref (xz G + 0), .int v3, .ref (xz G + 1), .int x1, .ref (xz G + 14)]) rfl ?_
      refine x_cvi00 (rest := [.int v3, .ref (xz G + 1), .int x1, .ref (xz G + 14)]) hC xy_X10_bargainToldOf tw_821 hf (fun _ h => M_X10_bargainToldOf G l kp h) ⟨Nat.le_of_ble_eq_true rfl, Nat.le_of_ble_eq_true rfl⟩ (xce_0 G kp _ _) rfl rfl rfl (Nat.le_of_ble_eq_true rfl) hl.1 hR hS dX10_why_43 ⟨Nat.le_refl _, Nat.le_refl _⟩ (fun v4 hf H locs hR hS => ?_)
      refine x_cvi10 (rest := []) hC xy_X5_find tw_833 hf (fun _ _ h => M_X5_find G l kp N h) ⟨Nat.le_of_ble_eq_true rfl, Nat.le_of_ble_eq_true rfl⟩ (xce_14 G kp _ _) rfl rfl rfl (Nat.le_of_ble_eq_true rfl) hl.1 hR hS dX10_why_46 ⟨Nat.le_refl _, Nat.le_refl _⟩ (fun v5 I6 hf H locs hR hS => ?_)
      obtain ⟨h91, h92⟩ := Prod.mk.inj (Option.some.inj hf)
      subst h91
      subst h92
      exact x_iret hC hR hS dX10_why_49
    · exact W_X10_why_j17 hC N hf _ _ _ hR hS (lv_sub hl [0] rfl)
set_option maxRecDepth 20000 in
theorem W_X2_judgeOpen_j41 {G : XG} {l : Launch} {kp : Bool} {p : Program} {e : Env} {s : State} {m : MethodId} {args : Array Value} {below : List Frame} {meth : Method} {c : Code} (hC : xC G p s m args meth c cX2_judgeOpen 5 RX2 none) (N : Nat) {I : xTI} {L : xTL} {rI : xTI} {x3 : Int32} {t0 : Int32} (k7 : Int32 × xTI → Option (xTI)) (hk7 : ∀ (x3 : Int32) (I : xTI) , k7 (x3, I) = some rI → ∀ (H : Heap) (locs : List Loc) (ls : Array Slot), xRep G kp I L H → xS G s.heap H locs → lv_has ls 5 [(1, .ref (xz G + 1)), (2, .ref (xz G + 11)), (3, .int x3)] → W p l e (xrm 5 121) s m args below meth c H locs 0 0 (xMQ G kp below args s none rI L) (F0 m 7 ls [])) (hf : F_X2_judgeOpen_j41 k7 N I x3 t0 = some rI) : ∀ (H : Heap) (locs : List Loc) (ls : Array Slot), xRep G kp I L H → xS G s.heap H locs → lv_has ls 5 [(1, .ref (xz G + 1)), (2, .ref (xz G + 11)), (3, .int x3)] → W p l e (xrm 5 121) s m args below meth c H locs 0 0 (xMQ G kp below args s none rI L) (F0 m 41 ls [.int t0]) := by
  intro H locs ls hR hS hl
  unfold F_X2_judgeOpen_j41 at hf
  refine lv_istore (lv' := [(4, .int t0), (1, .ref (xz G + 1)), (2, .ref (xz G + 11)), (3, .int x3)]) hC.1 hC.2.1 dX2_judgeOpen_41 hl (Nat.le_of_ble_eq_true rfl) rfl (fun ls hl => ?_)
  refine lv_iload hC.1 hC.2.1 dX2_judgeOpen_43 (lv_at hl 0 rfl) ?_
  refine x_if_eq (tgt := 85) hC dX2_judgeOpen_45 (by decide) hf (fun hf => ?_) (fun hf => ?_)
  · refine x_iinc (d := 1) (lv' := fun y1 => [(3, .int y1), (4, .int t0), (1, .ref (xz G + 1)), (2, .ref (xz G + 11))]) (k := 3) hC hl dX2_judgeOpen_85 rfl (by decide) (Nat.le_of_ble_eq_true rfl) hf (fun _ => rfl) (fun y1 hf ls hl => ?_)
    refine lv_goto (tgt := 7) hC.1 hC.2.1 dX2_judgeOpen_88 (by decide) ?_
    exact hk7 y1 I hf _ _ _ hR hS (lv_sub hl [2, 3, 0] rfl)
  · refine lv_aload_n hC.1 hC.2.1 dX2_judgeOpen_48 rfl (lv_at hl 1 rfl) ?_
    refine x_get (v := .ref (xz G + 14)) hC xf_X2_25 (xce_1 G kp _ _) rfl hR dX2_judgeOpen_49 ?_
    refine lv_iconst (v := 4) hC.1 hC.2.1 dX2_judgeOpen_52 (by decide) ?_
    refine lv_aload_n hC.1 hC.2.1 dX2_judgeOpen_53 rfl (lv_at hl 1 rfl) ?_
    refine lv_aload_n hC.1 hC.2.1 dX2_judgeOpen_54 rfl (lv_at hl 2 rfl) ?_
    refine lv_iload_n hC.1 hC.2.1 dX2_judgeOpen_55 rfl (lv_at hl 3 rfl) ?_
    refine lv_iconst (v := 2) hC.1 hC.2.1 dX2_judgeOpen_56 (by decide) ?_
    refine x_cvi00 (rest := [.ref (xz G + 1), .int 4, .ref (xz G + 14)]) hC xy_X0_at tw_842 hf (fun _ h => M_X0_at G l kp h) ⟨Nat.le_of_ble_eq_true rfl, Nat.le_of_ble_eq_true rfl⟩ (xce_11 G kp _ _) rfl rfl rfl (Nat.le_of_ble_eq_true rfl) hl.1 hR hS dX2_judgeOpen_57 ⟨Nat.le_refl _, Nat.le_refl _⟩ (fun v2 hf H locs hR hS => ?_)
    refine lv_iload_n hC.1 hC.2.1 dX2_judgeOpen_60 rfl (lv_at hl 3 rfl) ?_
    refine x_cvi10 (rest := []) hC xy_X5_tells tw_843 hf (fun _ _ h => M_X5_tells G l kp N h) ⟨Nat.le_of_ble_eq_true rfl, Nat.le_of_ble_eq_true rfl⟩ (xce_14 G kp _ _) rfl rfl rfl (Nat.le_of_ble_eq_true rfl) hl.1 hR hS dX2_judgeOpen_61 ⟨Nat.le_refl _, Nat.le_refl _⟩ (fun v3 I4 hf H locs hR hS => ?_)
    refine x_if_eq (tgt := 79) hC dX2_judgeOpen_64 (by decide) hf (fun hf => ?_) (fun hf => ?_)
    · refine lv_aload_n hC.1 hC.2.1 dX2_judgeOpen_79 rfl (lv_at hl 2 rfl) ?_
      refine lv_iload_n hC.1 hC.2.1 dX2_judgeOpen_80 rfl (lv_at hl 3 rfl) ?_
      refine lv_iconst (v := 3) hC.1 hC.2.1 dX2_judgeOpen_81 (by decide) ?_
      refine x_cvv10 (rest := []) hC xy_X0_putState tw_845 hf (fun _ h => M_X0_putState G l kp h) ⟨Nat.le_of_ble_eq_true rfl, Nat.le_of_ble_eq_true rfl⟩ (xce_11 G kp _ _) rfl rfl rfl (Nat.le_of_ble_eq_true rfl) hl.1 hR hS dX2_judgeOpen_82 ⟨Nat.le_refl _, Nat.le_refl _⟩ (fun I5 hf H locs hR hS => ?_)
      refine x_iinc (d := 1) (lv' := fun y6 => [(3, .int y6), (4, .int t0), (1, .ref (xz G + 1)), (2, .ref (xz G + 11))]) (k := 3) hC hl dX2_judgeOpen_85 rfl (by decide) (Nat.le_of_ble_eq_true rfl) hf (fun _ => rfl) (fun y6 hf ls hl => ?_)
      refine lv_goto (tgt := 7) hC.1 hC.2.1 dX2_judgeOpen_88 (by decide) ?_
      exact hk7 y6 I5 hf _ _ _ hR hS (lv_sub hl [2, 3, 0] rfl)
    · refine lv_aload_n hC.1 hC.2.1 dX2_judgeOpen_67 rfl (lv_at hl 2 rfl) ?_
      refine lv_iload_n hC.1 hC.2.1 dX2_judgeOpen_68 rfl (lv_at hl 3 rfl) ?_
      refine lv_aload_n hC.1 hC.2.1 dX2_judgeOpen_69 rfl (lv_at hl 1 rfl) ?_
      refine x_getI hC xf_X2_21 (xce_1 G kp _ _) rfl hR dX2_judgeOpen_70 hf (fun v7 hf => ?_)
      refine x_cvv10 (rest := []) hC xy_X0_makeStand tw_844 hf (fun _ h => M_X0_makeStand G l kp h) ⟨Nat.le_of_ble_eq_true rfl, Nat.le_of_ble_eq_true rfl⟩ (xce_11 G kp _ _) rfl rfl rfl (Nat.le_of_ble_eq_true rfl) hl.1 hR hS dX2_judgeOpen_73 ⟨Nat.le_refl _, Nat.le_refl _⟩ (fun I8 hf H locs hR hS => ?_)
      refine lv_goto (tgt := 85) hC.1 hC.2.1 dX2_judgeOpen_76 (by decide) ?_
      refine x_iinc (d := 1) (lv' := fun y9 => [(3, .int y9), (4, .int t0), (1, .ref (xz G + 1)), (2, .ref (xz G + 11))]) (k := 3) hC hl dX2_judgeOpen_85 rfl (by decide) (Nat.le_of_ble_eq_true rfl) hf (fun _ => rfl) (fun y9 hf ls hl => ?_)
      refine lv_goto (tgt := 7) hC.1 hC.2.1 dX2_judgeOpen_88 (by decide) ?_
      exact hk7 y9 I8 hf _ _ _ hR hS (lv_sub hl [2, 3, 0] rfl)
set_option maxRecDepth 20000 in
theorem W_X2_judgeOpen_l7 {G : XG} {l : Launch} {kp : Bool} {p : Program} {e : Env} {s : State} {m : MethodId} {args : Array Value} {below : List Frame} {meth : Method} {c : Code} (hC : xC G p s m args meth c cX2_judgeOpen 5 RX2 none) (N : Nat) {L : xTL} {rI : xTI} : ∀ (n : Nat) (x3 : Int32) (I : xTI) , xlp (F_X2_judgeOpen_b7 N ) n (x3, I) = some rI → ∀ (H : Heap) (locs : List Loc) (ls : Array Slot), xRep G kp I L H → xS G s.heap H locs → lv_has ls 5 [(1, .ref (xz G + 1)), (2, .ref (xz G + 11)), (3, .int x3)] → W p l e (xrm 5 121) s m args below meth c H locs 0 0 (xMQ G kp below args s none rI L) (F0 m 7 ls []) := by
  intro n
  induction n with
  | zero =>
    intro x3 I hf
    cases hf
  | succ n hk7 =>
    intro x3 I hf H locs ls hR hS hl
    rw [xlp_s, E_X2_judgeOpen_b7] at hf
    unfold F_X2_judgeOpen_c7 at hf
    refine lv_iload_n hC.1 hC.2.1 dX2_judgeOpen_7 rfl (lv_at hl 2 rfl) ?_
    refine lv_bipush (v := 60) hC.1 hC.2.1 dX2_judgeOpen_8 (by decide) ?_
    refine x_ic_ge (tgt := 91) hC dX2_judgeOpen_10 (by decide) hf (fun hf => ?_) (fun hf => ?_)
    · have h9 := Option.some.inj hf
      subst h9
      exact x_vret hC hR hS dX2_judgeOpen_91
    · refine lv_aload_n hC.1 hC.2.1 dX2_judgeOpen_13 rfl (lv_at hl 1 rfl) ?_
      refine lv_iload_n hC.1 hC.2.1 dX2_judgeOpen_14 rfl (lv_at hl 2 rfl) ?_
      refine lv_bipush (v := 7) hC.1 hC.2.1 dX2_judgeOpen_15 (by decide) ?_
      refine x_cvi00 (rest := []) hC xy_X0_at tw_842 hf (fun _ h => M_X0_at G l kp h) ⟨Nat.le_of_ble_eq_true rfl, Nat.le_of_ble_eq_true rfl⟩ (xce_11 G kp _ _) rfl rfl rfl (Nat.le_of_ble_eq_true rfl) hl.1 hR hS dX2_judgeOpen_17 ⟨Nat.le_refl _, Nat.le_refl _⟩ (fun v1 hf H locs hR hS => ?_)
      refine x_if_ne (tgt := 40) hC dX2_judgeOpen_20 (by decide) hf (fun hf => ?_) (fun hf => ?_)
      · refine lv_iconst (v := 0) hC.1 hC.2.1 dX2_judgeOpen_40 (by decide) ?_
        exact W_X2_judgeOpen_j41 hC N _ hk7 hf _ _ _ hR hS (lv_sub hl [0, 1, 2] rfl)
      · refine lv_aload_n hC.1 hC.2.1 dX2_judgeOpen_23 rfl (lv_at hl 1 rfl) ?_
        refine lv_iload_n hC.1 hC.2.1 dX2_judgeOpen_24 rfl (lv_at hl 2 rfl) ?_
        refine lv_iconst (v := 5) hC.1 hC.2.1 dX2_judgeOpen_25 (by decide) ?_
        refine x_cvi00 (rest := []) hC xy_X0_at tw_842 hf (fun _ h => M_X0_at G l kp h) ⟨Nat.le_of_ble_eq_true rfl, Nat.le_of_ble_eq_true rfl⟩ (xce_11 G kp _ _) rfl rfl rfl (Nat.le_of_ble_eq_true rfl) hl.1 hR hS dX2_judgeOpen_26 ⟨Nat.le_refl _, Nat.le_refl _⟩ (fun v2 hf H locs hR hS => ?_)
        refine lv_aload_n hC.1 hC.2.1 dX2_judgeOpen_29 rfl (lv_at hl 0 rfl) ?_
        refine x_getI hC xf_X2_21 (xce_1 G kp _ _) rfl hR dX2_judgeOpen_30 hf (fun v3 hf => ?_)
        refine x_ic_ge (tgt := 40) hC dX2_judgeOpen_33 (by decide) hf (fun hf => ?_) (fun hf => ?_)
        · refine lv_iconst (v := 0) hC.1 hC.2.1 dX2_judgeOpen_40 (by decide) ?_
          exact W_X2_judgeOpen_j41 hC N _ hk7 hf _ _ _ hR hS (lv_sub hl [0, 1, 2] rfl)
        · refine lv_iconst (v := 1) hC.1 hC.2.1 dX2_judgeOpen_36 (by decide) ?_
          refine lv_goto (tgt := 41) hC.1 hC.2.1 dX2_judgeOpen_37 (by decide) ?_
          exact W_X2_judgeOpen_j41 hC N _ hk7 hf _ _ _ hR hS (lv_sub hl [0, 1, 2] rfl)
set_option maxRecDepth 20000 in
theorem M_X2_judgeOpen (G : XG) (l : Launch) (kp : Bool) (N : Nat) {I : xTI} {L : xTL} {rI : xTI} (hf : F_X2_judgeOpen N I = some rI) : xMet G l yX2_judgeOpen cX2_judgeOpen 5 none 5 121 kp [.ref (xz G + 32), .ref (xz G + 1)] I L none rI L := by
  refine xMet.ofW (by decide +kernel) (Nat.le_of_ble_eq_true rfl) ?_
  intro p e s m args below meth c hC H locs ls hR hS hl
  replace hC : xC G p s m args meth c cX2_judgeOpen 5 RX2 none := hC
  replace hl : lv_has ls 5 [(0, .ref (xz G + 32)), (1, .ref (xz G + 1))] := hl
  unfold F_X2_judgeOpen at hf
  refine lv_aload_n hC.1 hC.2.1 dX2_judgeOpen_0 rfl (lv_at hl 1 rfl) ?_
  refine x_get (v := .ref (xz G + 11)) hC xf_X2_9 (xce_1 G kp _ _) rfl hR dX2_judgeOpen_1 ?_
  refine lv_astore_n (lv' := [(2, .ref (xz G + 11)), (0, .ref (xz G + 32)), (1, .ref (xz G + 1))]) hC.1 hC.2.1 dX2_judgeOpen_4 rfl hl (Nat.le_of_ble_eq_true rfl) rfl (fun ls hl => ?_)
  refine lv_iconst (v := 0) hC.1 hC.2.1 dX2_judgeOpen_5 (by decide) ?_
  refine lv_istore_n (lv' := [(3, .int 0), (2, .ref (xz G + 11)), (0, .ref (xz G + 32)), (1, .ref (xz G + 1))]) hC.1 hC.2.1 dX2_judgeOpen_6 rfl hl (Nat.le_of_ble_eq_true rfl) rfl (fun ls hl => ?_)
  exact W_X2_judgeOpen_l7 hC N _ 0 I hf _ _ _ hR hS (lv_sub hl [3, 1, 0] rfl)
set_option maxRecDepth 20000 in
theorem W_X8_at_22_j29 {G : XG} {l : Launch} {kp : Bool} {p : Program} {e : Env} {s : State} {m : MethodId} {args : Array Value} {below : List Frame} {meth : Method} {c : Code} (hC : xC G p s m args meth c cX8_at 4 RX8 (some .int)) {I : xTI} {L : xTL} {r : Int32} {x1 : Int32} {x2 : Int32} {t0 : Int32} (hf : F_X8_at_22_j29 I x1 x2 t0 = some r) : ∀ (H : Heap) (locs : List Loc) (ls : Array Slot), xRep G kp I L H → xS G s.heap H locs → lv_has ls 4 [(0, .ref (xz G + 22)), (1, .int x1), (2, .int x2)] → W p l e (xrm 0 0) s m args below meth c H locs 0 0 (xMQ G kp below args s (some (.int r)) I L) (F0 m 29 ls [.int t0]) := by
  intro H locs ls hR hS hl
  unfold F_X8_at_22_j29 at hf
  refine lv_istore_n (lv' := [(3, .int t0), (0, .ref (xz G + 22)), (1, .int x1), (2, .int x2)]) hC.1 hC.2.1 dX8_at_29 rfl hl (Nat.le_of_ble_eq_true rfl) rfl (fun ls hl => ?_)
  refine lv_iload_n hC.1 hC.2.1 dX8_at_30 rfl (lv_at hl 0 rfl) ?_
  refine x_if_eq (tgt := 50) hC dX8_at_31 (by decide) hf (fun hf => ?_) (fun hf => ?_)
  · refine lv_iconst (v := 0) hC.1 hC.2.1 dX8_at_50 (by decide) ?_
    have h9 := Option.some.inj hf
    subst h9
    exact x_iret hC hR hS dX8_at_51
  · refine lv_aload_n hC.1 hC.2.1 dX8_at_34 rfl (lv_at hl 1 rfl) ?_
    refine x_get (v := .ref (xz G + 23)) hC xf_X8_16 (xce_22 G kp _ _) rfl hR dX8_at_35 ?_
    refine lv_iload_n hC.1 hC.2.1 dX8_at_38 rfl (lv_at hl 2 rfl) ?_
    refine lv_aload_n hC.1 hC.2.1 dX8_at_39 rfl (lv_at hl 1 rfl) ?_
    refine x_get (v := .int 3) hC xf_X8_13 (xce_22 G kp _ _) rfl hR dX8_at_40 ?_
    refine lv_imul hC.1 hC.2.1 dX8_at_43 ?_
    refine lv_iload_n hC.1 hC.2.1 dX8_at_44 rfl (lv_at hl 3 rfl) ?_
    refine lv_iadd hC.1 hC.2.1 dX8_at_45 ?_
    refine x_ial hC (xce_23 G kp _ _) hR dX8_at_46 hf (fun v1 hf => ?_)
    refine lv_goto (tgt := 51) hC.1 hC.2.1 dX8_at_47 (by decide) ?_
    have h9 := Option.some.inj hf
    subst h9
    exact x_iret hC hR hS dX8_at_51
set_option maxRecDepth 20000 in
theorem M_X8_at_22 (G : XG) (l : Launch) (kp : Bool) {I : xTI} {L : xTL} {x1 : Int32} {x2 : Int32} {r : Int32} (hf : F_X8_at_22 I x1 x2 = some r) : xMet G l yX8_at cX8_at 4 (some .int) 0 0 kp [.ref (xz G + 22), .int x1, .int x2] I L (some (.int r)) I L := by
  refine xMet.ofW (by decide +kernel) (Nat.le_of_ble_eq_true rfl) ?_
  intro p e s m args below meth c hC H locs ls hR hS hl
  replace hC : xC G p s m args meth c cX8_at 4 RX8 (some .int) := hC
  replace hl : lv_has ls 4 [(0, .ref (xz G + 22)), (1, .int x1), (2, .int x2)] := hl
  unfold F_X8_at_22 at hf
  refine lv_iload_n hC.1 hC.2.1 dX8_at_0 rfl (lv_at hl 1 rfl) ?_
  refine x_if_lt (tgt := 28) hC dX8_at_1 (by decide) hf (fun hf => ?_) (fun hf => ?_)
  · refine lv_iconst (v := 0) hC.1 hC.2.1 dX8_at_28 (by decide) ?_
    exact W_X8_at_22_j29 hC hf _ _ _ hR hS (lv_sub hl [0, 1, 2] rfl)
  · refine lv_iload_n hC.1 hC.2.1 dX8_at_4 rfl (lv_at hl 1 rfl) ?_
    refine lv_aload_n hC.1 hC.2.1 dX8_at_5 rfl (lv_at hl 0 rfl) ?_
    refine x_get (v := .int 10) hC xf_X8_7 (xce_22 G kp _ _) rfl hR dX8_at_6 ?_
    refine x_ic_ge (tgt := 28) hC dX8_at_9 (by decide) hf (fun hf => ?_) (fun hf => ?_)
    · refine lv_iconst (v := 0) hC.1 hC.2.1 dX8_at_28 (by decide) ?_
      exact W_X8_at_22_j29 hC hf _ _ _ hR hS (lv_sub hl [0, 1, 2] rfl)
    · refine lv_iload_n hC.1 hC.2.1 dX8_at_12 rfl (lv_at hl 2 rfl) ?_
      refine x_if_lt (tgt := 28) hC dX8_at_13 (by decide) hf (fun hf => ?_) (fun hf => ?_)
      · refine lv_iconst (v := 0) hC.1 hC.2.1 dX8_at_28 (by decide) ?_
        exact W_X8_at_22_j29 hC hf _ _ _ hR hS (lv_sub hl [0, 1, 2] rfl)
      · refine lv_iload_n hC.1 hC.2.1 dX8_at_16 rfl (lv_at hl 2 rfl) ?_
        refine lv_aload_n hC.1 hC.2.1 dX8_at_17 rfl (lv_at hl 0 rfl) ?_
        refine x_get (v := .int 3) hC xf_X8_13 (xce_22 G kp _ _) rfl hR dX8_at_18 ?_
        refine x_ic_ge (tgt := 28) hC dX8_at_21 (by decide) hf (fun hf => ?_) (fun hf => ?_)
        · refine lv_iconst (v := 0) hC.1 hC.2.1 dX8_at_28 (by decide) ?_
          exact W_X8_at_22_j29 hC hf _ _ _ hR hS (lv_sub hl [0, 1, 2] rfl)
        · refine lv_iconst (v := 1) hC.1 hC.2.1 dX8_at_24 (by decide) ?_
          refine lv_goto (tgt := 29) hC.1 hC.2.1 dX8_at_25 (by decide) ?_
          exact W_X8_at_22_j29 hC hf _ _ _ hR hS (lv_sub hl [0, 1, 2] rfl)
set_option maxRecDepth 20000 in
theorem W_X2_payHolders_l3 {G : XG} {l : Launch} {kp : Bool} {p : Program} {e : Env} {s : State} {m : MethodId} {args : Array Value} {below : List Frame} {meth : Method} {c : Code} (hC : xC G p s m args meth c cX2_payHolders 5 RX2 none) (N : Nat) {I : xTI} {rL : xTL} {x2 : Int32} {x3 : Int32} : ∀ (n : Nat) (x4 : Int32) (L : xTL) , xlp (F_X2_payHolders_b3 N I x2 x3 ) n (x4, L) = some rL → ∀ (H : Heap) (locs : List Loc) (ls : Array Slot), xRep G kp I L H → xS G s.heap H locs → lv_has ls 5 [(1, .ref (xz G + 1)), (2, .int x2), (3, .int x3), (4, .int x4)] → W p l e (xrm 1 21) s m args below meth c H locs 0 0 (xMQ G kp below args s none I rL) (F0 m 3 ls []) := by
  intro n
  induction n with
  | zero =>
    intro x4 L hf
    cases hf
  | succ n hk3 =>
    intro x4 L hf H locs ls hR hS hl
    rw [xlp_s, E_X2_payHolders_b3] at hf
    unfold F_X2_payHolders_c3 at hf
    refine lv_iload hC.1 hC.2.1 dX2_payHolders_3 (lv_at hl 3 rfl) ?_
    refine lv_aload_n hC.1 hC.2.1 dX2_payHolders_5 rfl (lv_at hl 0 rfl) ?_
    refine x_get (v := .ref (xz G + 3)) hC xf_X2_70 (xce_1 G kp _ _) rfl hR dX2_payHolders_6 ?_
    refine x_getI hC xf_X2_74 (xce_3 G kp _ _) rfl hR dX2_payHolders_9 hf (fun v1 hf => ?_)
    refine x_ic_ge (tgt := 64) hC dX2_payHolders_12 (by decide) hf (fun hf => ?_) (fun hf => ?_)
    · have h9 := Option.some.inj hf
      subst h9
      exact x_vret hC hR hS dX2_payHolders_64
    · refine lv_aload_n hC.1 hC.2.1 dX2_payHolders_15 rfl (lv_at hl 0 rfl) ?_
      refine x_get (v := .ref (xz G + 3)) hC xf_X2_70 (xce_1 G kp _ _) rfl hR dX2_payHolders_16 ?_
      refine lv_iload hC.1 hC.2.1 dX2_payHolders_19 (lv_at hl 3 rfl) ?_
      refine x_cvi00 (rest := []) hC xy_X3_isUp tw_858 hf (fun _ h => M_X3_isUp G l kp h) ⟨Nat.le_of_ble_eq_true rfl, Nat.le_of_ble_eq_true rfl⟩ (xce_3 G kp _ _) rfl rfl rfl (Nat.le_of_ble_eq_true rfl) hl.1 hR hS dX2_payHolders_21 ⟨Nat.le_refl _, Nat.le_refl _⟩ (fun v2 hf H locs hR hS => ?_)
      refine x_if_eq (tgt := 58) hC dX2_payHolders_24 (by decide) hf (fun hf => ?_) (fun hf => ?_)
      · refine x_iinc (d := 1) (lv' := fun y3 => [(4, .int y3), (1, .ref (xz G + 1)), (2, .int x2), (3, .int x3)]) (k := 3) hC hl dX2_payHolders_58 rfl (by decide) (Nat.le_of_ble_eq_true rfl) hf (fun _ => rfl) (fun y3 hf ls hl => ?_)
        refine lv_goto (tgt := 3) hC.1 hC.2.1 dX2_payHolders_61 (by decide) ?_
        exact hk3 y3 L hf _ _ _ hR hS (lv_sub hl [1, 2, 3, 0] rfl)
      · refine lv_aload_n hC.1 hC.2.1 dX2_payHolders_27 rfl (lv_at hl 0 rfl) ?_
        refine x_get (v := .ref (xz G + 3)) hC xf_X2_70 (xce_1 G kp _ _) rfl hR dX2_payHolders_28 ?_
        refine x_get (v := .ref (xz G + 4)) hC xf_X2_81 (xce_3 G kp _ _) rfl hR dX2_payHolders_31 ?_
        refine lv_iload hC.1 hC.2.1 dX2_payHolders_34 (lv_at hl 3 rfl) ?_
        refine lv_dup2_11 hC.1 hC.2.1 dX2_payHolders_36 rfl rfl ?_
        refine x_lal hC (xce_4 G kp _ _) hR dX2_payHolders_37 hf (fun v4 hf => ?_)
        refine lv_aload_n hC.1 hC.2.1 dX2_payHolders_38 rfl (lv_at hl 0 rfl) ?_
        refine x_get (v := .ref (xz G + 3)) hC xf_X2_70 (xce_1 G kp _ _) rfl hR dX2_payHolders_39 ?_
        refine x_get (v := .ref (xz G + 9)) hC xf_X2_85 (xce_3 G kp _ _) rfl hR dX2_payHolders_42 ?_
        refine lv_iload hC.1 hC.2.1 dX2_payHolders_45 (lv_at hl 3 rfl) ?_
        refine lv_iload_n hC.1 hC.2.1 dX2_payHolders_47 rfl (lv_at hl 1 rfl) ?_
        refine W.eq (g2 := F0 m 48 ls [.int x2, .int x4, .ref (xz G + 9), .long v4, .int x4, .ref (xz G + 4)]) rfl ?_
        refine x_csi00 (rest := [.ref (xz G + 9), .long v4, .int x4, .ref (xz G + 4)]) hC xy_X3_place tw_859 hf (fun _ h => M_X3_place G l kp h) ⟨Nat.le_of_ble_eq_true rfl, Nat.le_of_ble_eq_true rfl⟩ rfl rfl (Nat.le_of_ble_eq_true rfl) hl.1 hR hS dX2_payHolders_48 ⟨Nat.le_refl _, Nat.le_refl _⟩ (fun v5 hf H locs hR hS => ?_)
        refine x_ial hC (xce_9 G kp _ _) hR dX2_payHolders_51 hf (fun v6 hf => ?_)
        refine lv_i2l hC.1 hC.2.1 dX2_payHolders_52 rfl ?_
        refine lv_iload_n hC.1 hC.2.1 dX2_payHolders_53 rfl (lv_at hl 2 rfl) ?_
        refine lv_i2l hC.1 hC.2.1 dX2_payHolders_54 rfl ?_
        refine lv_lmul hC.1 hC.2.1 dX2_payHolders_55 ?_
        refine lv_ladd hC.1 hC.2.1 dX2_payHolders_56 ?_
        refine x_las hC (fun f => (xce_4 G kp _ f)) hR hS dX2_payHolders_57 hf (fun L7 hf H locs hR hS => ?_)
        refine x_iinc (d := 1) (lv' := fun y8 => [(4, .int y8), (1, .ref (xz G + 1)), (2, .int x2), (3, .int x3)]) (k := 3) hC hl dX2_payHolders_58 rfl (by decide) (Nat.le_of_ble_eq_true rfl) hf (fun _ => rfl) (fun y8 hf ls hl => ?_)
        refine lv_goto (tgt := 3) hC.1 hC.2.1 dX2_payHolders_61 (by decide) ?_
        exact hk3 y8 L7 hf _ _ _ hR hS (lv_sub hl [1, 2, 3, 0] rfl)
set_option maxRecDepth 20000 in
theorem M_X2_payHolders (G : XG) (l : Launch) (kp : Bool) (N : Nat) {I : xTI} {L : xTL} {x2 : Int32} {x3 : Int32} {rL : xTL} (hf : F_X2_payHolders N I L x2 x3 = some rL) : xMet G l yX2_payHolders cX2_payHolders 5 none 1 21 kp [.ref (xz G + 32), .ref (xz G + 1), .int x2, .int x3] I L none I rL := by
  refine xMet.ofW (by decide +kernel) (Nat.le_of_ble_eq_true rfl) ?_
  intro p e s m args below meth c hC H locs ls hR hS hl
  replace hC : xC G p s m args meth c cX2_payHolders 5 RX2 none := hC
  replace hl : lv_has ls 5 [(0, .ref (xz G + 32)), (1, .ref (xz G + 1)), (2, .int x2), (3, .int x3)] := hl
  unfold F_X2_payHolders at hf
  refine lv_iconst (v := 0) hC.1 hC.2.1 dX2_payHolders_0 (by decide) ?_
  refine lv_istore (lv' := [(4, .int 0), (0, .ref (xz G + 32)), (1, .ref (xz G + 1)), (2, .int x2), (3, .int x3)]) hC.1 hC.2.1 dX2_payHolders_1 hl (Nat.le_of_ble_eq_true rfl) rfl (fun ls hl => ?_)
  exact W_X2_payHolders_l3 hC N _ 0 L hf _ _ _ hR hS (lv_sub hl [2, 3, 4, 0] rfl)
set_option maxRecDepth 20000 in
theorem W_X2_oweExtra_j61 {G : XG} {l : Launch} {kp : Bool} {p : Program} {e : Env} {s : State} {m : MethodId} {args : Array Value} {below : List Frame} {meth : Method} {c : Code} (hC : xC G p s m args meth c cX2_oweExtra 8 RX2 none) (N : Nat) {I : xTI} {L : xTL} {rI : xTI} {rL : xTL} {x2 : Int32} {x3 : Int32} {x5 : Int32} {t0 : Int32} (k9 : Int32 × xTI × xTL → Option (xTI × xTL)) (hk9 : ∀ (x5 : Int32) (I : xTI) (L : xTL) , k9 (x5, I, L) = some (rI, rL) → ∀ (H : Heap) (locs : List Loc) (ls : Array Slot), xRep G kp I L H → xS G s.heap H locs → lv_has ls 8 [(1, .ref (xz G + 1)), (2, .int x2), (3, .int x3), (4, .ref (xz G + 11)), (5, .int x5)] → W p l e (xrm 5 121) s m args below meth c H locs 0 0 (xMQ G kp below args s none rI rL) (F0 m 9 ls [])) (hf : F_X2_oweExtra_j61 k9 N I L x2 x3 x5 t0 = some (rI, rL)) : ∀ (H : Heap) (locs : List Loc) (ls : Array Slot), xRep G kp I L H → xS G s.heap H locs → lv_has ls 8 [(1, .ref (xz G + 1)), (2, .int x2), (3, .int x3), (4, .ref (xz G + 11)), (5, .int x5)] → W p l e (xrm 5 121) s m args below meth c H locs 0 0 (xMQ G kp below args s none rI rL) (F0 m 61 ls [.int t0]) := by
  intro H locs ls hR hS hl
  unfold F_X2_oweExtra_j61 at hf
  refine lv_istore (lv' := [(6, .int t0), (1, .ref (xz G + 1)), (2, .int x2), (3, .int x3), (4, .ref (xz G + 11)), (5, .int x5)]) hC.1 hC.2.1 dX2_oweExtra_61 hl (Nat.le_of_ble_eq_true rfl) rfl (fun ls hl => ?_)
  refine lv_iload hC.1 hC.2.1 dX2_oweExtra_63 (lv_at hl 0 rfl) ?_
  refine x_if_eq (tgt := 130) hC dX2_oweExtra_65 (by decide) hf (fun hf => ?_) (fun hf => ?_)
  · refine x_iinc (d := 1) (lv' := fun y1 => [(5, .int y1), (6, .int t0), (1, .ref (xz G + 1)), (2, .int x2), (3, .int x3), (4, .ref (xz G + 11))]) (k := 5) hC hl dX2_oweExtra_130 rfl (by decide) (Nat.le_of_ble_eq_true rfl) hf (fun _ => rfl) (fun y1 hf ls hl => ?_)
    refine lv_goto (tgt := 9) hC.1 hC.2.1 dX2_oweExtra_133 (by decide) ?_
    exact hk9 y1 I L hf _ _ _ hR hS (lv_sub hl [2, 3, 4, 5, 0] rfl)
  · refine lv_aload_n hC.1 hC.2.1 dX2_oweExtra_68 rfl (lv_at hl 1 rfl) ?_
    refine x_get (v := .ref (xz G + 14)) hC xf_X2_25 (xce_1 G kp _ _) rfl hR dX2_oweExtra_69 ?_
    refine lv_iconst (v := 5) hC.1 hC.2.1 dX2_oweExtra_72 (by decide) ?_
    refine lv_aload_n hC.1 hC.2.1 dX2_oweExtra_73 rfl (lv_at hl 1 rfl) ?_
    refine lv_iload_n hC.1 hC.2.1 dX2_oweExtra_74 rfl (lv_at hl 2 rfl) ?_
    refine lv_iload hC.1 hC.2.1 dX2_oweExtra_75 (lv_at hl 5 rfl) ?_
    refine x_cvi10 (rest := []) hC xy_X5_tells tw_843 hf (fun _ _ h => M_X5_tells G l kp N h) ⟨Nat.le_of_ble_eq_true rfl, Nat.le_of_ble_eq_true rfl⟩ (xce_14 G kp _ _) rfl rfl rfl (Nat.le_of_ble_eq_true rfl) hl.1 hR hS dX2_oweExtra_77 ⟨Nat.le_refl _, Nat.le_refl _⟩ (fun v2 I3 hf H locs hR hS => ?_)
    refine x_if_eq (tgt := 130) hC dX2_oweExtra_80 (by decide) hf (fun hf => ?_) (fun hf => ?_)
    · refine x_iinc (d := 1) (lv' := fun y4 => [(5, .int y4), (6, .int t0), (1, .ref (xz G + 1)), (2, .int x2), (3, .int x3), (4, .ref (xz G + 11))]) (k := 5) hC hl dX2_oweExtra_130 rfl (by decide) (Nat.le_of_ble_eq_true rfl) hf (fun _ => rfl) (fun y4 hf ls hl => ?_)
      refine lv_goto (tgt := 9) hC.1 hC.2.1 dX2_oweExtra_133 (by decide) ?_
      exact hk9 y4 I3 L hf _ _ _ hR hS (lv_sub hl [2, 3, 4, 5, 0] rfl)
    · refine lv_aload hC.1 hC.2.1 dX2_oweExtra_83 (lv_at hl 4 rfl) ?_
      refine lv_iload hC.1 hC.2.1 dX2_oweExtra_85 (lv_at hl 5 rfl) ?_
      refine lv_iconst (v := 0) hC.1 hC.2.1 dX2_oweExtra_87 (by decide) ?_
      refine x_cvi00 (rest := []) hC xy_X0_at tw_842 hf (fun _ h => M_X0_at G l kp h) ⟨Nat.le_of_ble_eq_true rfl, Nat.le_of_ble_eq_true rfl⟩ (xce_11 G kp _ _) rfl rfl rfl (Nat.le_of_ble_eq_true rfl) hl.1 hR hS dX2_oweExtra_88 ⟨Nat.le_refl _, Nat.le_refl _⟩ (fun v5 hf H locs hR hS => ?_)
      refine lv_bipush (v := 12) hC.1 hC.2.1 dX2_oweExtra_91 (by decide) ?_
      refine lv_imul hC.1 hC.2.1 dX2_oweExtra_93 ?_
      refine lv_aload hC.1 hC.2.1 dX2_oweExtra_94 (lv_at hl 4 rfl) ?_
      refine lv_iload hC.1 hC.2.1 dX2_oweExtra_96 (lv_at hl 5 rfl) ?_
      refine lv_iconst (v := 1) hC.1 hC.2.1 dX2_oweExtra_98 (by decide) ?_
      refine x_cvi00 (rest := [.int (v5 * 12)]) hC xy_X0_at tw_842 hf (fun _ h => M_X0_at G l kp h) ⟨Nat.le_of_ble_eq_true rfl, Nat.le_of_ble_eq_true rfl⟩ (xce_11 G kp _ _) rfl rfl rfl (Nat.le_of_ble_eq_true rfl) hl.1 hR hS dX2_oweExtra_99 ⟨Nat.le_refl _, Nat.le_refl _⟩ (fun v6 hf H locs hR hS => ?_)
      refine lv_iadd hC.1 hC.2.1 dX2_oweExtra_102 ?_
      refine W.eq (g2 := F0 m 103 ls [.int ((v5 * 12) + v6)]) rfl ?_
      refine x_ist (lv' := fun y7 => [(7, .int y7), (6, .int t0), (1, .ref (xz G + 1)), (2, .int x2), (3, .int x3), (4, .ref (xz G + 11)), (5, .int x5)]) hC hl dX2_oweExtra_103 (Nat.le_of_ble_eq_true rfl) hf (fun _ => rfl) (fun y7 hf ls hl => ?_)
      refine lv_aload_n hC.1 hC.2.1 dX2_oweExtra_105 rfl (lv_at hl 2 rfl) ?_
      refine x_get (v := .ref (xz G + 3)) hC xf_X2_70 (xce_1 G kp _ _) rfl hR dX2_oweExtra_106 ?_
      refine x_get (v := .ref (xz G + 6)) hC xf_X2_92 (xce_3 G kp _ _) rfl hR dX2_oweExtra_109 ?_
      refine lv_iload hC.1 hC.2.1 dX2_oweExtra_112 (lv_at hl 0 rfl) ?_
      refine lv_dup2_11 hC.1 hC.2.1 dX2_oweExtra_114 rfl rfl ?_
      refine x_lal hC (xce_6 G kp _ _) hR dX2_oweExtra_115 hf (fun v8 hf => ?_)
      refine lv_aload hC.1 hC.2.1 dX2_oweExtra_116 (lv_at hl 5 rfl) ?_
      refine lv_iload hC.1 hC.2.1 dX2_oweExtra_118 (lv_at hl 6 rfl) ?_
      refine lv_iconst (v := 3) hC.1 hC.2.1 dX2_oweExtra_120 (by decide) ?_
      refine x_cvi00 (rest := [.long v8, .int y7, .ref (xz G + 6)]) hC xy_X0_at tw_842 hf (fun _ h => M_X0_at G l kp h) ⟨Nat.le_of_ble_eq_true rfl, Nat.le_of_ble_eq_true rfl⟩ (xce_11 G kp _ _) rfl rfl rfl (Nat.le_of_ble_eq_true rfl) hl.1 hR hS dX2_oweExtra_121 ⟨Nat.le_refl _, Nat.le_refl _⟩ (fun v9 hf H locs hR hS => ?_)
      refine lv_i2l hC.1 hC.2.1 dX2_oweExtra_124 rfl ?_
      refine W.eq (g2 := F0 m 125 ls [.long (v9.toInt64), .long v8, .int y7, .ref (xz G + 6)]) rfl ?_
      refine lv_iload_n hC.1 hC.2.1 dX2_oweExtra_125 rfl (lv_at hl 4 rfl) ?_
      refine lv_i2l hC.1 hC.2.1 dX2_oweExtra_126 rfl ?_
      refine lv_lmul hC.1 hC.2.1 dX2_oweExtra_127 ?_
      refine lv_ladd hC.1 hC.2.1 dX2_oweExtra_128 ?_
      refine x_las hC (fun f => (xce_6 G kp _ f)) hR hS dX2_oweExtra_129 hf (fun L10 hf H locs hR hS => ?_)
      refine x_iinc (d := 1) (lv' := fun y11 => [(5, .int y11), (7, .int y7), (6, .int t0), (1, .ref (xz G + 1)), (2, .int x2), (3, .int x3), (4, .ref (xz G + 11))]) (k := 6) hC hl dX2_oweExtra_130 rfl (by decide) (Nat.le_of_ble_eq_true rfl) hf (fun _ => rfl) (fun y11 hf ls hl => ?_)
      refine lv_goto (tgt := 9) hC.1 hC.2.1 dX2_oweExtra_133 (by decide) ?_
      exact hk9 y11 I3 L10 hf _ _ _ hR hS (lv_sub hl [3, 4, 5, 6, 0] rfl)
set_option maxRecDepth 20000 in
theorem W_X2_oweExtra_l9 {G : XG} {l : Launch} {kp : Bool} {p : Program} {e : Env} {s : State} {m : MethodId} {args : Array Value} {below : List Frame} {meth : Method} {c : Code} (hC : xC G p s m args meth c cX2_oweExtra 8 RX2 none) (N : Nat) {rI : xTI} {rL : xTL} {x2 : Int32} {x3 : Int32} : ∀ (n : Nat) (x5 : Int32) (I : xTI) (L : xTL) , xlp (F_X2_oweExtra_b9 N x2 x3 ) n (x5, I, L) = some (rI, rL) → ∀ (H : Heap) (locs : List Loc) (ls : Array Slot), xRep G kp I L H → xS G s.heap H locs → lv_has ls 8 [(1, .ref (xz G + 1)), (2, .int x2), (3, .int x3), (4, .ref (xz G + 11)), (5, .int x5)] → W p l e (xrm 5 121) s m args below meth c H locs 0 0 (xMQ G kp below args s none rI rL) (F0 m 9 ls []) := by
  intro n
  induction n with
  | zero =>
    intro x5 I L hf
    cases hf
  | succ n hk9 =>
    intro x5 I L hf H locs ls hR hS hl
    rw [xlp_s, E_X2_oweExtra_b9] at hf
    unfold F_X2_oweExtra_c9 at hf
    refine lv_iload hC.1 hC.2.1 dX2_oweExtra_9 (lv_at hl 4 rfl) ?_
    refine lv_bipush (v := 60) hC.1 hC.2.1 dX2_oweExtra_11 (by decide) ?_
    refine x_ic_ge (tgt := 136) hC dX2_oweExtra_13 (by decide) hf (fun hf => ?_) (fun hf => ?_)
    · obtain ⟨h91, h92⟩ := Prod.mk.inj (Option.some.inj hf)
      subst h91
      subst h92
      exact x_vret hC hR hS dX2_oweExtra_136
    · refine lv_aload hC.1 hC.2.1 dX2_oweExtra_16 (lv_at hl 3 rfl) ?_
      refine lv_iload hC.1 hC.2.1 dX2_oweExtra_18 (lv_at hl 4 rfl) ?_
      refine lv_bipush (v := 7) hC.1 hC.2.1 dX2_oweExtra_20 (by decide) ?_
      refine x_cvi00 (rest := []) hC xy_X0_at tw_842 hf (fun _ h => M_X0_at G l kp h) ⟨Nat.le_of_ble_eq_true rfl, Nat.le_of_ble_eq_true rfl⟩ (xce_11 G kp _ _) rfl rfl rfl (Nat.le_of_ble_eq_true rfl) hl.1 hR hS dX2_oweExtra_22 ⟨Nat.le_refl _, Nat.le_refl _⟩ (fun v1 hf H locs hR hS => ?_)
      refine lv_iconst (v := 1) hC.1 hC.2.1 dX2_oweExtra_25 (by decide) ?_
      refine x_ic_ne (tgt := 60) hC dX2_oweExtra_26 (by decide) hf (fun hf => ?_) (fun hf => ?_)
      · refine lv_iconst (v := 0) hC.1 hC.2.1 dX2_oweExtra_60 (by decide) ?_
        exact W_X2_oweExtra_j61 hC N _ hk9 hf _ _ _ hR hS (lv_sub hl [0, 1, 2, 3, 4] rfl)
      · refine lv_aload hC.1 hC.2.1 dX2_oweExtra_29 (lv_at hl 3 rfl) ?_
        refine lv_iload hC.1 hC.2.1 dX2_oweExtra_31 (lv_at hl 4 rfl) ?_
        refine lv_iconst (v := 2) hC.1 hC.2.1 dX2_oweExtra_33 (by decide) ?_
        refine x_cvi00 (rest := []) hC xy_X0_at tw_842 hf (fun _ h => M_X0_at G l kp h) ⟨Nat.le_of_ble_eq_true rfl, Nat.le_of_ble_eq_true rfl⟩ (xce_11 G kp _ _) rfl rfl rfl (Nat.le_of_ble_eq_true rfl) hl.1 hR hS dX2_oweExtra_34 ⟨Nat.le_refl _, Nat.le_refl _⟩ (fun v2 hf H locs hR hS => ?_)
        refine lv_iload_n hC.1 hC.2.1 dX2_oweExtra_37 rfl (lv_at hl 1 rfl) ?_
        refine x_ic_ne (tgt := 60) hC dX2_oweExtra_38 (by decide) hf (fun hf => ?_) (fun hf => ?_)
        · refine lv_iconst (v := 0) hC.1 hC.2.1 dX2_oweExtra_60 (by decide) ?_
          exact W_X2_oweExtra_j61 hC N _ hk9 hf _ _ _ hR hS (lv_sub hl [0, 1, 2, 3, 4] rfl)
        · refine lv_aload hC.1 hC.2.1 dX2_oweExtra_41 (lv_at hl 3 rfl) ?_
          refine lv_iload hC.1 hC.2.1 dX2_oweExtra_43 (lv_at hl 4 rfl) ?_
          refine lv_iconst (v := 5) hC.1 hC.2.1 dX2_oweExtra_45 (by decide) ?_
          refine x_cvi00 (rest := []) hC xy_X0_at tw_842 hf (fun _ h => M_X0_at G l kp h) ⟨Nat.le_of_ble_eq_true rfl, Nat.le_of_ble_eq_true rfl⟩ (xce_11 G kp _ _) rfl rfl rfl (Nat.le_of_ble_eq_true rfl) hl.1 hR hS dX2_oweExtra_46 ⟨Nat.le_refl _, Nat.le_refl _⟩ (fun v3 hf H locs hR hS => ?_)
          refine lv_aload_n hC.1 hC.2.1 dX2_oweExtra_49 rfl (lv_at hl 0 rfl) ?_
          refine x_getI hC xf_X2_21 (xce_1 G kp _ _) rfl hR dX2_oweExtra_50 hf (fun v4 hf => ?_)
          refine x_ic_ge (tgt := 60) hC dX2_oweExtra_53 (by decide) hf (fun hf => ?_) (fun hf => ?_)
          · refine lv_iconst (v := 0) hC.1 hC.2.1 dX2_oweExtra_60 (by decide) ?_
            exact W_X2_oweExtra_j61 hC N _ hk9 hf _ _ _ hR hS (lv_sub hl [0, 1, 2, 3, 4] rfl)
          · refine lv_iconst (v := 1) hC.1 hC.2.1 dX2_oweExtra_56 (by decide) ?_
            refine lv_goto (tgt := 61) hC.1 hC.2.1 dX2_oweExtra_57 (by decide) ?_
            exact W_X2_oweExtra_j61 hC N _ hk9 hf _ _ _ hR hS (lv_sub hl [0, 1, 2, 3, 4] rfl)
set_option maxRecDepth 20000 in
theorem M_X2_oweExtra (G : XG) (l : Launch) (kp : Bool) (N : Nat) {I : xTI} {L : xTL} {x2 : Int32} {x3 : Int32} {rI : xTI} {rL : xTL} (hf : F_X2_oweExtra N I L x2 x3 = some (rI, rL)) : xMet G l yX2_oweExtra cX2_oweExtra 8 none 5 121 kp [.ref (xz G + 32), .ref (xz G + 1), .int x2, .int x3] I L none rI rL := by
  refine xMet.ofW (by decide +kernel) (Nat.le_of_ble_eq_true rfl) ?_
  intro p e s m args below meth c hC H locs ls hR hS hl
  replace hC : xC G p s m args meth c cX2_oweExtra 8 RX2 none := hC
  replace hl : lv_has ls 8 [(0, .ref (xz G + 32)), (1, .ref (xz G + 1)), (2, .int x2), (3, .int x3)] := hl
  unfold F_X2_oweExtra at hf
  refine lv_aload_n hC.1 hC.2.1 dX2_oweExtra_0 rfl (lv_at hl 1 rfl) ?_
  refine x_get (v := .ref (xz G + 11)) hC xf_X2_9 (xce_1 G kp _ _) rfl hR dX2_oweExtra_1 ?_
  refine lv_astore (lv' := [(4, .ref (xz G + 11)), (0, .ref (xz G + 32)), (1, .ref (xz G + 1)), (2, .int x2), (3, .int x3)]) hC.1 hC.2.1 dX2_oweExtra_4 hl (Nat.le_of_ble_eq_true rfl) rfl (fun ls hl => ?_)
  refine lv_iconst (v := 0) hC.1 hC.2.1 dX2_oweExtra_6 (by decide) ?_
  refine lv_istore (lv' := [(5, .int 0), (4, .ref (xz G + 11)), (0, .ref (xz G + 32)), (1, .ref (xz G + 1)), (2, .int x2), (3, .int x3)]) hC.1 hC.2.1 dX2_oweExtra_7 hl (Nat.le_of_ble_eq_true rfl) rfl (fun ls hl => ?_)
  exact W_X2_oweExtra_l9 hC N _ 0 I L hf _ _ _ hR hS (lv_sub hl [3, 4, 5, 1, 0] rfl)
set_option maxRecDepth 20000 in
theorem W_X2_payDividends_l21 {G : XG} {l : Launch} {kp : Bool} {p : Program} {e : Env} {s : State} {m : MethodId} {args : Array Value} {below : List Frame} {meth : Method} {c : Code} (hC : xC G p s m args meth c cX2_payDividends 9 RX2 none) (N : Nat) {rI : xTI} {rL : xTL} {x4 : Int32} : ∀ (n : Nat) (x3 : Int32) (x5 : Int32) (I : xTI) (L : xTL) , xlp (F_X2_payDividends_b21 N x4 ) n (x3, x5, I, L) = some (rI, rL) → ∀ (H : Heap) (locs : List Loc) (ls : Array Slot), xRep G kp I L H → xS G s.heap H locs → lv_has ls 9 [(0, .ref (xz G + 32)), (1, .ref (xz G + 1)), (2, .ref (xz G + 22)), (3, .int x3), (4, .int x4), (5, .int x5)] → W p l e (xrm 6 148) s m args below meth c H locs 0 0 (xMQ G kp below args s none rI rL) (F0 m 21 ls []) := by
  intro n
  induction n with
  | zero =>
    intro x3 x5 I L hf
    cases hf
  | succ n hk21 =>
    intro x3 x5 I L hf H locs ls hR hS hl
    rw [xlp_s, E_X2_payDividends_b21] at hf
    unfold F_X2_payDividends_c21 at hf
    refine lv_iload hC.1 hC.2.1 dX2_payDividends_21 (lv_at hl 5 rfl) ?_
    refine lv_iload hC.1 hC.2.1 dX2_payDividends_23 (lv_at hl 4 rfl) ?_
    refine x_ic_ge (tgt := 118) hC dX2_payDividends_25 (by decide) hf (fun hf => ?_) (fun hf => ?_)
    · refine lv_aload_n hC.1 hC.2.1 dX2_payDividends_118 rfl (lv_at hl 2 rfl) ?_
      refine lv_iload_n hC.1 hC.2.1 dX2_payDividends_119 rfl (lv_at hl 3 rfl) ?_
      refine x_putI hC xf_X2_46 xp_8_3 (fun f => (xce_22 G kp f _)) rfl (Nat.le_of_ble_eq_true rfl) hR hS dX2_payDividends_120 hf (fun I1 hf H locs hR hS => ?_)
      obtain ⟨h91, h92⟩ := Prod.mk.inj (Option.some.inj hf)
      subst h91
      subst h92
      exact x_vret hC hR hS dX2_payDividends_123
    · refine lv_aload_n hC.1 hC.2.1 dX2_payDividends_28 rfl (lv_at hl 2 rfl) ?_
      refine lv_iload hC.1 hC.2.1 dX2_payDividends_29 (lv_at hl 5 rfl) ?_
      refine lv_iconst (v := 0) hC.1 hC.2.1 dX2_payDividends_31 (by decide) ?_
      refine x_cvi00 (rest := []) hC xy_X8_at tw_853 hf (fun _ h => M_X8_at_22 G l kp h) ⟨Nat.le_of_ble_eq_true rfl, Nat.le_of_ble_eq_true rfl⟩ (xce_22 G kp _ _) rfl rfl rfl (Nat.le_of_ble_eq_true rfl) hl.1 hR hS dX2_payDividends_32 ⟨Nat.le_refl _, Nat.le_refl _⟩ (fun v2 hf H locs hR hS => ?_)
      refine lv_istore (lv' := [(6, .int v2), (0, .ref (xz G + 32)), (1, .ref (xz G + 1)), (2, .ref (xz G + 22)), (3, .int x3), (4, .int x4), (5, .int x5)]) hC.1 hC.2.1 dX2_payDividends_35 hl (Nat.le_of_ble_eq_true rfl) rfl (fun ls hl => ?_)
      refine lv_aload_n hC.1 hC.2.1 dX2_payDividends_37 rfl (lv_at hl 3 rfl) ?_
      refine lv_iload hC.1 hC.2.1 dX2_payDividends_38 (lv_at hl 6 rfl) ?_
      refine lv_iconst (v := 1) hC.1 hC.2.1 dX2_payDividends_40 (by decide) ?_
      refine x_cvi00 (rest := []) hC xy_X8_at tw_853 hf (fun _ h => M_X8_at_22 G l kp h) ⟨Nat.le_of_ble_eq_true rfl, Nat.le_of_ble_eq_true rfl⟩ (xce_22 G kp _ _) rfl rfl rfl (Nat.le_of_ble_eq_true rfl) hl.1 hR hS dX2_payDividends_41 ⟨Nat.le_refl _, Nat.le_refl _⟩ (fun v3 hf H locs hR hS => ?_)
      refine lv_istore (lv' := [(7, .int v3), (6, .int v2), (0, .ref (xz G + 32)), (1, .ref (xz G + 1)), (2, .ref (xz G + 22)), (3, .int x3), (4, .int x4), (5, .int x5)]) hC.1 hC.2.1 dX2_payDividends_44 hl (Nat.le_of_ble_eq_true rfl) rfl (fun ls hl => ?_)
      refine lv_aload_n hC.1 hC.2.1 dX2_payDividends_46 rfl (lv_at hl 4 rfl) ?_
      refine W.eq (g2 := F0 m 47 ls [.ref (xz G + 22)]) rfl ?_
      refine lv_iload hC.1 hC.2.1 dX2_payDividends_47 (lv_at hl 7 rfl) ?_
      refine lv_iconst (v := 2) hC.1 hC.2.1 dX2_payDividends_49 (by decide) ?_
      refine x_cvi00 (rest := []) hC xy_X8_at tw_853 hf (fun _ h => M_X8_at_22 G l kp h) ⟨Nat.le_of_ble_eq_true rfl, Nat.le_of_ble_eq_true rfl⟩ (xce_22 G kp _ _) rfl rfl rfl (Nat.le_of_ble_eq_true rfl) hl.1 hR hS dX2_payDividends_50 ⟨Nat.le_refl _, Nat.le_refl _⟩ (fun v4 hf H locs hR hS => ?_)
      refine lv_istore (lv' := [(8, .int v4), (7, .int v3), (6, .int v2), (0, .ref (xz G + 32)), (1, .ref (xz G + 1)), (2, .ref (xz G + 22)), (3, .int x3), (4, .int x4), (5, .int x5)]) hC.1 hC.2.1 dX2_payDividends_53 hl (Nat.le_of_ble_eq_true rfl) rfl (fun ls hl => ?_)
      refine lv_iload hC.1 hC.2.1 dX2_payDividends_55 (lv_at hl 1 rfl) ?_
      refine lv_aload_n hC.1 hC.2.1 dX2_payDividends_57 rfl (lv_at hl 4 rfl) ?_
      refine x_getI hC xf_X2_21 (xce_1 G kp _ _) rfl hR dX2_payDividends_58 hf (fun v5 hf => ?_)
      refine x_ic_ne (tgt := 85) hC dX2_payDividends_61 (by decide) hf (fun hf => ?_) (fun hf => ?_)
      · refine lv_aload_n hC.1 hC.2.1 dX2_payDividends_85 rfl (lv_at hl 5 rfl) ?_
        refine lv_iload_n hC.1 hC.2.1 dX2_payDividends_86 rfl (lv_at hl 6 rfl) ?_
        refine lv_iconst (v := 0) hC.1 hC.2.1 dX2_payDividends_87 (by decide) ?_
        refine lv_iload hC.1 hC.2.1 dX2_payDividends_88 (lv_at hl 2 rfl) ?_
        refine x_cvv10 (rest := []) hC xy_X8_put tw_864 hf (fun _ h => M_X8_put_22 G l kp h) ⟨Nat.le_of_ble_eq_true rfl, Nat.le_of_ble_eq_true rfl⟩ (xce_22 G kp _ _) rfl rfl rfl (Nat.le_of_ble_eq_true rfl) hl.1 hR hS dX2_payDividends_90 ⟨Nat.le_refl _, Nat.le_refl _⟩ (fun I6 hf H locs hR hS => ?_)
        refine lv_aload_n hC.1 hC.2.1 dX2_payDividends_93 rfl (lv_at hl 5 rfl) ?_
        refine lv_iload_n hC.1 hC.2.1 dX2_payDividends_94 rfl (lv_at hl 6 rfl) ?_
        refine lv_iconst (v := 1) hC.1 hC.2.1 dX2_payDividends_95 (by decide) ?_
        refine lv_iload hC.1 hC.2.1 dX2_payDividends_96 (lv_at hl 1 rfl) ?_
        refine x_cvv10 (rest := []) hC xy_X8_put tw_864 hf (fun _ h => M_X8_put_22 G l kp h) ⟨Nat.le_of_ble_eq_true rfl, Nat.le_of_ble_eq_true rfl⟩ (xce_22 G kp _ _) rfl rfl rfl (Nat.le_of_ble_eq_true rfl) hl.1 hR hS dX2_payDividends_98 ⟨Nat.le_refl _, Nat.le_refl _⟩ (fun I7 hf H locs hR hS => ?_)
        refine lv_aload_n hC.1 hC.2.1 dX2_payDividends_101 rfl (lv_at hl 5 rfl) ?_
        refine W.eq (g2 := F0 m 102 ls [.ref (xz G + 22)]) rfl ?_
        refine lv_iload_n hC.1 hC.2.1 dX2_payDividends_102 rfl (lv_at hl 6 rfl) ?_
        refine lv_iconst (v := 2) hC.1 hC.2.1 dX2_payDividends_103 (by decide) ?_
        refine lv_iload hC.1 hC.2.1 dX2_payDividends_104 (lv_at hl 0 rfl) ?_
        refine x_cvv10 (rest := []) hC xy_X8_put tw_864 hf (fun _ h => M_X8_put_22 G l kp h) ⟨Nat.le_of_ble_eq_true rfl, Nat.le_of_ble_eq_true rfl⟩ (xce_22 G kp _ _) rfl rfl rfl (Nat.le_of_ble_eq_true rfl) hl.1 hR hS dX2_payDividends_106 ⟨Nat.le_refl _, Nat.le_refl _⟩ (fun I8 hf H locs hR hS => ?_)
        refine x_iinc (d := 1) (lv' := fun y9 => [(3, .int y9), (8, .int v4), (7, .int v3), (6, .int v2), (0, .ref (xz G + 32)), (1, .ref (xz G + 1)), (2, .ref (xz G + 22)), (4, .int x4), (5, .int x5)]) (k := 6) hC hl dX2_payDividends_109 rfl (by decide) (Nat.le_of_ble_eq_true rfl) hf (fun _ => rfl) (fun y9 hf ls hl => ?_)
        refine x_iinc (d := 1) (lv' := fun y10 => [(5, .int y10), (3, .int y9), (8, .int v4), (7, .int v3), (6, .int v2), (0, .ref (xz G + 32)), (1, .ref (xz G + 1)), (2, .ref (xz G + 22)), (4, .int x4)]) (k := 8) hC hl dX2_payDividends_112 rfl (by decide) (Nat.le_of_ble_eq_true rfl) hf (fun _ => rfl) (fun y10 hf ls hl => ?_)
        refine lv_goto (tgt := 21) hC.1 hC.2.1 dX2_payDividends_115 (by decide) ?_
        exact hk21 y9 y10 I8 L hf _ _ _ hR hS (lv_sub hl [5, 6, 7, 1, 8, 0] rfl)
      · refine lv_aload_n hC.1 hC.2.1 dX2_payDividends_64 rfl (lv_at hl 3 rfl) ?_
        refine lv_aload_n hC.1 hC.2.1 dX2_payDividends_65 rfl (lv_at hl 4 rfl) ?_
        refine lv_iload hC.1 hC.2.1 dX2_payDividends_66 (lv_at hl 2 rfl) ?_
        refine lv_iload hC.1 hC.2.1 dX2_payDividends_68 (lv_at hl 0 rfl) ?_
        refine x_cvv01 (rest := []) hC xy_X2_payHolders tw_854 hf (fun _ h => M_X2_payHolders G l kp N h) ⟨Nat.le_of_ble_eq_true rfl, Nat.le_of_ble_eq_true rfl⟩ (xce_32 G kp _ _) rfl rfl rfl (Nat.le_of_ble_eq_true rfl) hl.1 hR hS dX2_payDividends_70 ⟨Nat.le_refl _, Nat.le_refl _⟩ (fun L11 hf H locs hR hS => ?_)
        refine lv_aload_n hC.1 hC.2.1 dX2_payDividends_73 rfl (lv_at hl 3 rfl) ?_
        refine lv_aload_n hC.1 hC.2.1 dX2_payDividends_74 rfl (lv_at hl 4 rfl) ?_
        refine lv_iload hC.1 hC.2.1 dX2_payDividends_75 (lv_at hl 2 rfl) ?_
        refine lv_iload hC.1 hC.2.1 dX2_payDividends_77 (lv_at hl 0 rfl) ?_
        refine x_cvv11 (rest := []) hC xy_X2_oweExtra tw_860 hf (fun _ _ h => M_X2_oweExtra G l kp N h) ⟨Nat.le_of_ble_eq_true rfl, Nat.le_of_ble_eq_true rfl⟩ (xce_32 G kp _ _) rfl rfl rfl (Nat.le_of_ble_eq_true rfl) hl.1 hR hS dX2_payDividends_79 ⟨Nat.le_refl _, Nat.le_refl _⟩ (fun I12 L13 hf H locs hR hS => ?_)
        refine lv_goto (tgt := 112) hC.1 hC.2.1 dX2_payDividends_82 (by decide) ?_
        refine W.eq (g2 := F0 m 112 ls []) rfl ?_
        refine x_iinc (d := 1) (lv' := fun y14 => [(5, .int y14), (8, .int v4), (7, .int v3), (6, .int v2), (0, .ref (xz G + 32)), (1, .ref (xz G + 1)), (2, .ref (xz G + 22)), (3, .int x3), (4, .int x4)]) (k := 8) hC hl dX2_payDividends_112 rfl (by decide) (Nat.le_of_ble_eq_true rfl) hf (fun _ => rfl) (fun y14 hf ls hl => ?_)
        refine lv_goto (tgt := 21) hC.1 hC.2.1 dX2_payDividends_115 (by decide) ?_
        exact hk21 x3 y14 I12 L13 hf _ _ _ hR hS (lv_sub hl [4, 5, 6, 7, 8, 0] rfl)
set_option maxRecDepth 20000 in
theorem M_X2_payDividends (G : XG) (l : Launch) (kp : Bool) (N : Nat) {I : xTI} {L : xTL} {rI : xTI} {rL : xTL} (hf : F_X2_payDividends N I L = some (rI, rL)) : xMet G l yX2_payDividends cX2_payDividends 9 none 6 148 kp [.ref (xz G + 32), .ref (xz G + 1)] I L none rI rL := by
  refine xMet.ofW (by decide +kernel) (Nat.le_of_ble_eq_true rfl) ?_
  intro p e s m args below meth c hC H locs ls hR hS hl
  replace hC : xC G p s m args meth c cX2_payDividends 9 RX2 none := hC
  replace hl : lv_has ls 9 [(0, .ref (xz G + 32)), (1, .ref (xz G + 1))] := hl
  unfold F_X2_payDividends at hf
  refine lv_aload_n hC.1 hC.2.1 dX2_payDividends_0 rfl (lv_at hl 1 rfl) ?_
  refine x_get (v := .ref (xz G + 22)) hC xf_X2_42 (xce_1 G kp _ _) rfl hR dX2_payDividends_1 ?_
  refine lv_astore_n (lv' := [(2, .ref (xz G + 22)), (0, .ref (xz G + 32)), (1, .ref (xz G + 1))]) hC.1 hC.2.1 dX2_payDividends_4 rfl hl (Nat.le_of_ble_eq_true rfl) rfl (fun ls hl => ?_)
  refine lv_iconst (v := 0) hC.1 hC.2.1 dX2_payDividends_5 (by decide) ?_
  refine lv_istore_n (lv' := [(3, .int 0), (2, .ref (xz G + 22)), (0, .ref (xz G + 32)), (1, .ref (xz G + 1))]) hC.1 hC.2.1 dX2_payDividends_6 rfl hl (Nat.le_of_ble_eq_true rfl) rfl (fun ls hl => ?_)
  refine lv_aload_n hC.1 hC.2.1 dX2_payDividends_7 rfl (lv_at hl 1 rfl) ?_
  refine x_getI hC xf_X2_46 (xce_22 G kp _ _) rfl hR dX2_payDividends_8 hf (fun v1 hf => ?_)
  refine lv_bipush (v := 10) hC.1 hC.2.1 dX2_payDividends_11 (by decide) ?_
  refine x_mni (rest := []) hC tw_850 hl.1 (Nat.le_of_ble_eq_true rfl) (Nat.le_of_ble_eq_true rfl) dX2_payDividends_13 ⟨Nat.le_refl _, Nat.le_refl _⟩ hf (fun v2 hf => ?_)
  refine lv_istore (lv' := [(4, .int v2), (3, .int 0), (2, .ref (xz G + 22)), (0, .ref (xz G + 32)), (1, .ref (xz G + 1))]) hC.1 hC.2.1 dX2_payDividends_16 hl (Nat.le_of_ble_eq_true rfl) rfl (fun ls hl => ?_)
  refine lv_iconst (v := 0) hC.1 hC.2.1 dX2_payDividends_18 (by decide) ?_
  refine W.eq (g2 := F0 m 19 ls [.int 0]) rfl ?_
  refine lv_istore (lv' := [(5, .int 0), (4, .int v2), (3, .int 0), (2, .ref (xz G + 22)), (0, .ref (xz G + 32)), (1, .ref (xz G + 1))]) hC.1 hC.2.1 dX2_payDividends_19 hl (Nat.le_of_ble_eq_true rfl) rfl (fun ls hl => ?_)
  exact W_X2_payDividends_l21 hC N _ 0 0 I L hf _ _ _ hR hS (lv_sub hl [4, 5, 3, 2, 1, 0] rfl)
set_option maxRecDepth 20000 in
theorem W_X2_lastMade_j63 {G : XG} {l : Launch} {kp : Bool} {p : Program} {e : Env} {s : State} {m : MethodId} {args : Array Value} {below : List Frame} {meth : Method} {c : Code} (hC : xC G p s m args meth c cX2_lastMade 7 RX2 (some .int)) (N : Nat) {I : xTI} {L : xTL} {r : Int32} {x2 : Int32} {x3 : Int32} {x4 : Int32} {x5 : Int32} {t0 : Int32} (k6 : Int32 × Int32 → Option (Int32)) (hk6 : ∀ (x4 : Int32) (x5 : Int32) , k6 (x4, x5) = some r → ∀ (H : Heap) (locs : List Loc) (ls : Array Slot), xRep G kp I L H → xS G s.heap H locs → lv_has ls 7 [(1, .ref (xz G + 11)), (2, .int x2), (3, .int x3), (4, .int x4), (5, .int x5)] → W p l e (xrm 2 46) s m args below meth c H locs 0 0 (xMQ G kp below args s (some (.int r)) I L) (F0 m 6 ls [])) (hf : F_X2_lastMade_j63 k6 N I x2 x3 x4 x5 t0 = some r) : ∀ (H : Heap) (locs : List Loc) (ls : Array Slot), xRep G kp I L H → xS G s.heap H locs → lv_has ls 7 [(1, .ref (xz G + 11)), (2, .int x2), (3, .int x3), (4, .int x4), (5, .int x5)] → W p l e (xrm 2 46) s m args below meth c H locs 0 0 (xMQ G kp below args s (some (.int r)) I L) (F0 m 63 ls [.int t0]) := by
  intro H locs ls hR hS hl
  unfold F_X2_lastMade_j63 at hf
  refine lv_istore (lv' := [(6, .int t0), (1, .ref (xz G + 11)), (2, .int x2), (3, .int x3), (4, .int x4), (5, .int x5)]) hC.1 hC.2.1 dX2_lastMade_63 hl (Nat.le_of_ble_eq_true rfl) rfl (fun ls hl => ?_)
  refine lv_iload hC.1 hC.2.1 dX2_lastMade_65 (lv_at hl 0 rfl) ?_
  refine x_if_eq (tgt := 75) hC dX2_lastMade_67 (by decide) hf (fun hf => ?_) (fun hf => ?_)
  · refine lv_iload hC.1 hC.2.1 dX2_lastMade_75 (lv_at hl 4 rfl) ?_
    refine lv_istore (lv' := [(4, .int x4), (6, .int t0), (1, .ref (xz G + 11)), (2, .int x2), (3, .int x3), (5, .int x5)]) hC.1 hC.2.1 dX2_lastMade_77 hl (Nat.le_of_ble_eq_true rfl) rfl (fun ls hl => ?_)
    refine x_iinc (d := 1) (lv' := fun y1 => [(5, .int y1), (4, .int x4), (6, .int t0), (1, .ref (xz G + 11)), (2, .int x2), (3, .int x3)]) (k := 5) hC hl dX2_lastMade_79 rfl (by decide) (Nat.le_of_ble_eq_true rfl) hf (fun _ => rfl) (fun y1 hf ls hl => ?_)
    refine lv_goto (tgt := 6) hC.1 hC.2.1 dX2_lastMade_82 (by decide) ?_
    exact hk6 x4 y1 hf _ _ _ hR hS (lv_sub hl [3, 4, 5, 1, 0] rfl)
  · refine lv_iload hC.1 hC.2.1 dX2_lastMade_70 (lv_at hl 5 rfl) ?_
    refine lv_goto (tgt := 77) hC.1 hC.2.1 dX2_lastMade_72 (by decide) ?_
    refine lv_istore (lv' := [(4, .int x5), (6, .int t0), (1, .ref (xz G + 11)), (2, .int x2), (3, .int x3), (5, .int x5)]) hC.1 hC.2.1 dX2_lastMade_77 hl (Nat.le_of_ble_eq_true rfl) rfl (fun ls hl => ?_)
    refine x_iinc (d := 1) (lv' := fun y2 => [(5, .int y2), (4, .int x5), (6, .int t0), (1, .ref (xz G + 11)), (2, .int x2), (3, .int x3)]) (k := 5) hC hl dX2_lastMade_79 rfl (by decide) (Nat.le_of_ble_eq_true rfl) hf (fun _ => rfl) (fun y2 hf ls hl => ?_)
    refine lv_goto (tgt := 6) hC.1 hC.2.1 dX2_lastMade_82 (by decide) ?_
    exact hk6 x5 y2 hf _ _ _ hR hS (lv_sub hl [3, 4, 5, 1, 0] rfl)
set_option maxRecDepth 20000 in
theorem W_X2_lastMade_l6 {G : XG} {l : Launch} {kp : Bool} {p : Program} {e : Env} {s : State} {m : MethodId} {args : Array Value} {below : List Frame} {meth : Method} {c : Code} (hC : xC G p s m args meth c cX2_lastMade 7 RX2 (some .int)) (N : Nat) {I : xTI} {L : xTL} {r : Int32} {x2 : Int32} {x3 : Int32} : ∀ (n : Nat) (x4 : Int32) (x5 : Int32) , xlp (F_X2_lastMade_b6 N I x2 x3 ) n (x4, x5) = some r → ∀ (H : Heap) (locs : List Loc) (ls : Array Slot), xRep G kp I L H → xS G s.heap H locs → lv_has ls 7 [(1, .ref (xz G + 11)), (2, .int x2), (3, .int x3), (4, .int x4), (5, .int x5)] → W p l e (xrm 2 46) s m args below meth c H locs 0 0 (xMQ G kp below args s (some (.int r)) I L) (F0 m 6 ls []) := by
  intro n
  induction n with
  | zero =>
    intro x4 x5 hf
    cases hf
  | succ n hk6 =>
    intro x4 x5 hf H locs ls hR hS hl
    rw [xlp_s, E_X2_lastMade_b6] at hf
    unfold F_X2_lastMade_c6 at hf
    refine lv_iload hC.1 hC.2.1 dX2_lastMade_6 (lv_at hl 4 rfl) ?_
    refine lv_bipush (v := 60) hC.1 hC.2.1 dX2_lastMade_8 (by decide) ?_
    refine x_ic_ge (tgt := 85) hC dX2_lastMade_10 (by decide) hf (fun hf => ?_) (fun hf => ?_)
    · refine lv_iload hC.1 hC.2.1 dX2_lastMade_85 (lv_at hl 3 rfl) ?_
      have h9 := Option.some.inj hf
      subst h9
      exact x_iret hC hR hS dX2_lastMade_87
    · refine lv_aload_n hC.1 hC.2.1 dX2_lastMade_13 rfl (lv_at hl 0 rfl) ?_
      refine lv_iload hC.1 hC.2.1 dX2_lastMade_14 (lv_at hl 4 rfl) ?_
      refine lv_iload_n hC.1 hC.2.1 dX2_lastMade_16 rfl (lv_at hl 1 rfl) ?_
      refine lv_iload_n hC.1 hC.2.1 dX2_lastMade_17 rfl (lv_at hl 2 rfl) ?_
      refine x_cvi00 (rest := []) hC xy_X0_standsIn tw_874 hf (fun _ h => M_X0_standsIn G l kp h) ⟨Nat.le_of_ble_eq_true rfl, Nat.le_of_ble_eq_true rfl⟩ (xce_11 G kp _ _) rfl rfl rfl (Nat.le_of_ble_eq_true rfl) hl.1 hR hS dX2_lastMade_18 ⟨Nat.le_refl _, Nat.le_refl _⟩ (fun v1 hf H locs hR hS => ?_)
      refine x_if_eq (tgt := 79) hC dX2_lastMade_21 (by decide) hf (fun hf => ?_) (fun hf => ?_)
      · refine x_iinc (d := 1) (lv' := fun y2 => [(5, .int y2), (1, .ref (xz G + 11)), (2, .int x2), (3, .int x3), (4, .int x4)]) (k := 4) hC hl dX2_lastMade_79 rfl (by decide) (Nat.le_of_ble_eq_true rfl) hf (fun _ => rfl) (fun y2 hf ls hl => ?_)
        refine lv_goto (tgt := 6) hC.1 hC.2.1 dX2_lastMade_82 (by decide) ?_
        exact hk6 x4 y2 hf _ _ _ hR hS (lv_sub hl [1, 2, 3, 4, 0] rfl)
      · refine lv_aload_n hC.1 hC.2.1 dX2_lastMade_24 rfl (lv_at hl 0 rfl) ?_
        refine lv_iload hC.1 hC.2.1 dX2_lastMade_25 (lv_at hl 4 rfl) ?_
        refine lv_bipush (v := 10) hC.1 hC.2.1 dX2_lastMade_27 (by decide) ?_
        refine x_cvi00 (rest := []) hC xy_X0_at tw_842 hf (fun _ h => M_X0_at G l kp h) ⟨Nat.le_of_ble_eq_true rfl, Nat.le_of_ble_eq_true rfl⟩ (xce_11 G kp _ _) rfl rfl rfl (Nat.le_of_ble_eq_true rfl) hl.1 hR hS dX2_lastMade_29 ⟨Nat.le_refl _, Nat.le_refl _⟩ (fun v3 hf H locs hR hS => ?_)
        refine x_if_ne (tgt := 79) hC dX2_lastMade_32 (by decide) hf (fun hf => ?_) (fun hf => ?_)
        · refine x_iinc (d := 1) (lv' := fun y4 => [(5, .int y4), (1, .ref (xz G + 11)), (2, .int x2), (3, .int x3), (4, .int x4)]) (k := 4) hC hl dX2_lastMade_79 rfl (by decide) (Nat.le_of_ble_eq_true rfl) hf (fun _ => rfl) (fun y4 hf ls hl => ?_)
          refine lv_goto (tgt := 6) hC.1 hC.2.1 dX2_lastMade_82 (by decide) ?_
          exact hk6 x4 y4 hf _ _ _ hR hS (lv_sub hl [1, 2, 3, 4, 0] rfl)
        · refine lv_iload hC.1 hC.2.1 dX2_lastMade_35 (lv_at hl 3 rfl) ?_
          refine lv_iconst (v := (-1)) hC.1 hC.2.1 dX2_lastMade_37 (by decide) ?_
          refine x_ic_eq (tgt := 58) hC dX2_lastMade_38 (by decide) hf (fun hf => ?_) (fun hf => ?_)
          · refine lv_iconst (v := 1) hC.1 hC.2.1 dX2_lastMade_58 (by decide) ?_
            refine lv_goto (tgt := 63) hC.1 hC.2.1 dX2_lastMade_59 (by decide) ?_
            exact W_X2_lastMade_j63 hC N _ hk6 hf _ _ _ hR hS (lv_sub hl [0, 1, 2, 3, 4] rfl)
          · refine lv_aload_n hC.1 hC.2.1 dX2_lastMade_41 rfl (lv_at hl 0 rfl) ?_
            refine lv_iload hC.1 hC.2.1 dX2_lastMade_42 (lv_at hl 4 rfl) ?_
            refine lv_iconst (v := 5) hC.1 hC.2.1 dX2_lastMade_44 (by decide) ?_
            refine x_cvi00 (rest := []) hC xy_X0_at tw_842 hf (fun _ h => M_X0_at G l kp h) ⟨Nat.le_of_ble_eq_true rfl, Nat.le_of_ble_eq_true rfl⟩ (xce_11 G kp _ _) rfl rfl rfl (Nat.le_of_ble_eq_true rfl) hl.1 hR hS dX2_lastMade_45 ⟨Nat.le_refl _, Nat.le_refl _⟩ (fun v5 hf H locs hR hS => ?_)
            refine lv_aload_n hC.1 hC.2.1 dX2_lastMade_48 rfl (lv_at hl 0 rfl) ?_
            refine lv_iload hC.1 hC.2.1 dX2_lastMade_49 (lv_at hl 3 rfl) ?_
            refine lv_iconst (v := 5) hC.1 hC.2.1 dX2_lastMade_51 (by decide) ?_
            refine x_cvi00 (rest := [.int v5]) hC xy_X0_at tw_842 hf (fun _ h => M_X0_at G l kp h) ⟨Nat.le_of_ble_eq_true rfl, Nat.le_of_ble_eq_true rfl⟩ (xce_11 G kp _ _) rfl rfl rfl (Nat.le_of_ble_eq_true rfl) hl.1 hR hS dX2_lastMade_52 ⟨Nat.le_refl _, Nat.le_refl _⟩ (fun v6 hf H locs hR hS => ?_)
            refine x_ic_lt (tgt := 62) hC dX2_lastMade_55 (by decide) hf (fun hf => ?_) (fun hf => ?_)
            · refine lv_iconst (v := 0) hC.1 hC.2.1 dX2_lastMade_62 (by decide) ?_
              exact W_X2_lastMade_j63 hC N _ hk6 hf _ _ _ hR hS (lv_sub hl [0, 1, 2, 3, 4] rfl)
            · refine lv_iconst (v := 1) hC.1 hC.2.1 dX2_lastMade_58 (by decide) ?_
              refine lv_goto (tgt := 63) hC.1 hC.2.1 dX2_lastMade_59 (by decide) ?_
              exact W_X2_lastMade_j63 hC N _ hk6 hf _ _ _ hR hS (lv_sub hl [0, 1, 2, 3, 4] rfl)
set_option maxRecDepth 20000 in
theorem M_X2_lastMade (G : XG) (l : Launch) (kp : Bool) (N : Nat) {I : xTI} {L : xTL} {x2 : Int32} {x3 : Int32} {r : Int32} (hf : F_X2_lastMade N I x2 x3 = some r) : xMet G l yX2_lastMade cX2_lastMade 7 (some .int) 2 46 kp [.ref (xz G + 32), .ref (xz G + 11), .int x2, .int x3] I L (some (.int r)) I L := by
  refine xMet.ofW (by decide +kernel) (Nat.le_of_ble_eq_true rfl) ?_
  intro p e s m args below meth c hC H locs ls hR hS hl
  replace hC : xC G p s m args meth c cX2_lastMade 7 RX2 (some .int) := hC
  replace hl : lv_has ls 7 [(0, .ref (xz G + 32)), (1, .ref (xz G + 11)), (2, .int x2), (3, .int x3)] := hl
  unfold F_X2_lastMade at hf
  refine lv_iconst (v := (-1)) hC.1 hC.2.1 dX2_lastMade_0 (by decide) ?_
  refine x_ist (lv' := fun y1 => [(4, .int y1), (0, .ref (xz G + 32)), (1, .ref (xz G + 11)), (2, .int x2), (3, .int x3)]) hC hl dX2_lastMade_1 (Nat.le_of_ble_eq_true rfl) hf (fun _ => rfl) (fun y1 hf ls hl => ?_)
  refine lv_iconst (v := 0) hC.1 hC.2.1 dX2_lastMade_3 (by decide) ?_
  refine lv_istore (lv' := [(5, .int 0), (4, .int y1), (0, .ref (xz G + 32)), (1, .ref (xz G + 11)), (2, .int x2), (3, .int x3)]) hC.1 hC.2.1 dX2_lastMade_4 hl (Nat.le_of_ble_eq_true rfl) rfl (fun ls hl => ?_)
  exact W_X2_lastMade_l6 hC N _ y1 0 hf _ _ _ hR hS (lv_sub hl [3, 4, 5, 1, 0] rfl)
