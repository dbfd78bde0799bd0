set_option maxRecDepth 20000 in
theorem M_X8_isNoted_24 (G : XG) (l : Launch) (kp : Bool) {I : xTI} {L : xTL} {x1 : Int32} {r : Int32} (hf : F_X8_isNoted_24 I x1 = some r) : xMet G l yX8_isNoted cX8_isNoted 2 (some .boolean) 0 0 kp [.ref (xz G + 24), .int x1] I L (some (.int r)) I L := by
  refine xMet.ofW (by decide +kernel) (Nat.le_of_ble_eq_true rfl) ?_
  intro p e s m args below meth c hC H locs ls hR hS hl
  replace hC : xC G p s m args meth c cX8_isNoted 2 RX8 (some .boolean) := hC
  replace hl : lv_has ls 2 [(0, .ref (xz G + 24)), (1, .int x1)] := hl
  unfold F_X8_isNoted_24 at hf
  refine lv_iload_n hC.1 hC.2.1 dX8_isNoted_0 rfl (lv_at hl 1 rfl) ?_
  refine x_if_lt (tgt := 24) hC dX8_isNoted_1 (by decide) hf (fun hf => ?_) (fun hf => ?_)
  · refine lv_iconst (v := 0) hC.1 hC.2.1 dX8_isNoted_24 (by decide) ?_
    obtain ⟨h01, hf⟩ := xzc_some hf
    have h9 := Option.some.inj hf
    subst h9
    exact x_zret h01 hC hR hS dX8_isNoted_25
  · refine lv_iload_n hC.1 hC.2.1 dX8_isNoted_4 rfl (lv_at hl 1 rfl) ?_
    refine lv_aload_n hC.1 hC.2.1 dX8_isNoted_5 rfl (lv_at hl 0 rfl) ?_
    refine x_getI hC xf_X8_20 (xce_24 G kp _ _) rfl hR dX8_isNoted_6 hf (fun v1 hf => ?_)
    refine x_ic_ge (tgt := 24) hC dX8_isNoted_9 (by decide) hf (fun hf => ?_) (fun hf => ?_)
    · refine lv_iconst (v := 0) hC.1 hC.2.1 dX8_isNoted_24 (by decide) ?_
      obtain ⟨h01, hf⟩ := xzc_some hf
      have h9 := Option.some.inj hf
      subst h9
      exact x_zret h01 hC hR hS dX8_isNoted_25
    · refine lv_iload_n hC.1 hC.2.1 dX8_isNoted_12 rfl (lv_at hl 1 rfl) ?_
      refine lv_aload_n hC.1 hC.2.1 dX8_isNoted_13 rfl (lv_at hl 0 rfl) ?_
      refine x_get (v := .int 300) hC xf_X8_7 (xce_24 G kp _ _) rfl hR dX8_isNoted_14 ?_
      refine x_ic_ge (tgt := 24) hC dX8_isNoted_17 (by decide) hf (fun hf => ?_) (fun hf => ?_)
      · refine lv_iconst (v := 0) hC.1 hC.2.1 dX8_isNoted_24 (by decide) ?_
        obtain ⟨h01, hf⟩ := xzc_some hf
        have h9 := Option.some.inj hf
        subst h9
        exact x_zret h01 hC hR hS dX8_isNoted_25
      · refine lv_iconst (v := 1) hC.1 hC.2.1 dX8_isNoted_20 (by decide) ?_
        refine lv_goto (tgt := 25) hC.1 hC.2.1 dX8_isNoted_21 (by decide) ?_
        obtain ⟨h01, hf⟩ := xzc_some hf
        have h9 := Option.some.inj hf
        subst h9
        exact x_zret h01 hC hR hS dX8_isNoted_25
set_option maxRecDepth 20000 in
theorem M_X8_hasColumn_24 (G : XG) (l : Launch) (kp : Bool) {I : xTI} {L : xTL} {x1 : Int32} {r : Int32} (hf : F_X8_hasColumn_24 x1 = some r) : xMet G l yX8_hasColumn cX8_hasColumn 2 (some .boolean) 0 0 kp [.ref (xz G + 24), .int x1] I L (some (.int r)) I L := by
  refine xMet.ofW (by decide +kernel) (Nat.le_of_ble_eq_true rfl) ?_
  intro p e s m args below meth c hC H locs ls hR hS hl
  replace hC : xC G p s m args meth c cX8_hasColumn 2 RX8 (some .boolean) := hC
  replace hl : lv_has ls 2 [(0, .ref (xz G + 24)), (1, .int x1)] := hl
  unfold F_X8_hasColumn_24 at hf
  refine lv_iload_n hC.1 hC.2.1 dX8_hasColumn_0 rfl (lv_at hl 1 rfl) ?_
  refine x_if_lt (tgt := 16) hC dX8_hasColumn_1 (by decide) hf (fun hf => ?_) (fun hf => ?_)
  · refine lv_iconst (v := 0) hC.1 hC.2.1 dX8_hasColumn_16 (by decide) ?_
    obtain ⟨h01, hf⟩ := xzc_some hf
    have h9 := Option.some.inj hf
    subst h9
    exact x_zret h01 hC hR hS dX8_hasColumn_17
  · refine lv_iload_n hC.1 hC.2.1 dX8_hasColumn_4 rfl (lv_at hl 1 rfl) ?_
    refine lv_aload_n hC.1 hC.2.1 dX8_hasColumn_5 rfl (lv_at hl 0 rfl) ?_
    refine x_get (v := .int 7) hC xf_X8_13 (xce_24 G kp _ _) rfl hR dX8_hasColumn_6 ?_
    refine x_ic_ge (tgt := 16) hC dX8_hasColumn_9 (by decide) hf (fun hf => ?_) (fun hf => ?_)
    · refine lv_iconst (v := 0) hC.1 hC.2.1 dX8_hasColumn_16 (by decide) ?_
      obtain ⟨h01, hf⟩ := xzc_some hf
      have h9 := Option.some.inj hf
      subst h9
      exact x_zret h01 hC hR hS dX8_hasColumn_17
    · refine lv_iconst (v := 1) hC.1 hC.2.1 dX8_hasColumn_12 (by decide) ?_
      refine lv_goto (tgt := 17) hC.1 hC.2.1 dX8_hasColumn_13 (by decide) ?_
      obtain ⟨h01, hf⟩ := xzc_some hf
      have h9 := Option.some.inj hf
      subst h9
      exact x_zret h01 hC hR hS dX8_hasColumn_17
set_option maxRecDepth 20000 in
theorem W_X8_at_24_j29 {G : XG} {l : Launch} {kp : Bool} {p : Program} {e : Env} {s : State} {m : MethodId} {args : Array Value} {below : List Frame} {meth : Method} {c : Code} (hC : xC G p s m args meth c cX8_at 4 RX8 (some .int)) {I : xTI} {L : xTL} {r : Int32} {x1 : Int32} {x2 : Int32} {t0 : Int32} (hf : F_X8_at_24_j29 I x1 x2 t0 = some r) : ∀ (H : Heap) (locs : List Loc) (ls : Array Slot), xRep G kp I L H → xS G s.heap H locs → lv_has ls 4 [(0, .ref (xz G + 24)), (1, .int x1), (2, .int x2)] → W p l e (xrm 0 0) s m args below meth c H locs 0 0 (xMQ G kp below args s (some (.int r)) I L) (F0 m 29 ls [.int t0]) := by
  intro H locs ls hR hS hl
  unfold F_X8_at_24_j29 at hf
  refine lv_istore_n (lv' := [(3, .int t0), (0, .ref (xz G + 24)), (1, .int x1), (2, .int x2)]) hC.1 hC.2.1 dX8_at_29 rfl hl (Nat.le_of_ble_eq_true rfl) rfl (fun ls hl => ?_)
  refine lv_iload_n hC.1 hC.2.1 dX8_at_30 rfl (lv_at hl 0 rfl) ?_
  refine x_if_eq (tgt := 50) hC dX8_at_31 (by decide) hf (fun hf => ?_) (fun hf => ?_)
  · refine lv_iconst (v := 0) hC.1 hC.2.1 dX8_at_50 (by decide) ?_
    have h9 := Option.some.inj hf
    subst h9
    exact x_iret hC hR hS dX8_at_51
  · refine lv_aload_n hC.1 hC.2.1 dX8_at_34 rfl (lv_at hl 1 rfl) ?_
    refine x_get (v := .ref (xz G + 25)) hC xf_X8_16 (xce_24 G kp _ _) rfl hR dX8_at_35 ?_
    refine lv_iload_n hC.1 hC.2.1 dX8_at_38 rfl (lv_at hl 2 rfl) ?_
    refine lv_aload_n hC.1 hC.2.1 dX8_at_39 rfl (lv_at hl 1 rfl) ?_
    refine x_get (v := .int 7) hC xf_X8_13 (xce_24 G kp _ _) rfl hR dX8_at_40 ?_
    refine lv_imul hC.1 hC.2.1 dX8_at_43 ?_
    refine lv_iload_n hC.1 hC.2.1 dX8_at_44 rfl (lv_at hl 3 rfl) ?_
    refine lv_iadd hC.1 hC.2.1 dX8_at_45 ?_
    refine x_ial hC (xce_25 G kp _ _) hR dX8_at_46 hf (fun v1 hf => ?_)
    refine lv_goto (tgt := 51) hC.1 hC.2.1 dX8_at_47 (by decide) ?_
    have h9 := Option.some.inj hf
    subst h9
    exact x_iret hC hR hS dX8_at_51
set_option maxRecDepth 20000 in
theorem M_X8_at_24 (G : XG) (l : Launch) (kp : Bool) {I : xTI} {L : xTL} {x1 : Int32} {x2 : Int32} {r : Int32} (hf : F_X8_at_24 I x1 x2 = some r) : xMet G l yX8_at cX8_at 4 (some .int) 0 0 kp [.ref (xz G + 24), .int x1, .int x2] I L (some (.int r)) I L := by
  refine xMet.ofW (by decide +kernel) (Nat.le_of_ble_eq_true rfl) ?_
  intro p e s m args below meth c hC H locs ls hR hS hl
  replace hC : xC G p s m args meth c cX8_at 4 RX8 (some .int) := hC
  replace hl : lv_has ls 4 [(0, .ref (xz G + 24)), (1, .int x1), (2, .int x2)] := hl
  unfold F_X8_at_24 at hf
  refine lv_iload_n hC.1 hC.2.1 dX8_at_0 rfl (lv_at hl 1 rfl) ?_
  refine x_if_lt (tgt := 28) hC dX8_at_1 (by decide) hf (fun hf => ?_) (fun hf => ?_)
  · refine lv_iconst (v := 0) hC.1 hC.2.1 dX8_at_28 (by decide) ?_
    exact W_X8_at_24_j29 hC hf _ _ _ hR hS (lv_sub hl [0, 1, 2] rfl)
  · refine lv_iload_n hC.1 hC.2.1 dX8_at_4 rfl (lv_at hl 1 rfl) ?_
    refine lv_aload_n hC.1 hC.2.1 dX8_at_5 rfl (lv_at hl 0 rfl) ?_
    refine x_get (v := .int 300) hC xf_X8_7 (xce_24 G kp _ _) rfl hR dX8_at_6 ?_
    refine x_ic_ge (tgt := 28) hC dX8_at_9 (by decide) hf (fun hf => ?_) (fun hf => ?_)
    · refine lv_iconst (v := 0) hC.1 hC.2.1 dX8_at_28 (by decide) ?_
      exact W_X8_at_24_j29 hC hf _ _ _ hR hS (lv_sub hl [0, 1, 2] rfl)
    · refine lv_iload_n hC.1 hC.2.1 dX8_at_12 rfl (lv_at hl 2 rfl) ?_
      refine x_if_lt (tgt := 28) hC dX8_at_13 (by decide) hf (fun hf => ?_) (fun hf => ?_)
      · refine lv_iconst (v := 0) hC.1 hC.2.1 dX8_at_28 (by decide) ?_
        exact W_X8_at_24_j29 hC hf _ _ _ hR hS (lv_sub hl [0, 1, 2] rfl)
      · refine lv_iload_n hC.1 hC.2.1 dX8_at_16 rfl (lv_at hl 2 rfl) ?_
        refine lv_aload_n hC.1 hC.2.1 dX8_at_17 rfl (lv_at hl 0 rfl) ?_
        refine x_get (v := .int 7) hC xf_X8_13 (xce_24 G kp _ _) rfl hR dX8_at_18 ?_
        refine x_ic_ge (tgt := 28) hC dX8_at_21 (by decide) hf (fun hf => ?_) (fun hf => ?_)
        · refine lv_iconst (v := 0) hC.1 hC.2.1 dX8_at_28 (by decide) ?_
          exact W_X8_at_24_j29 hC hf _ _ _ hR hS (lv_sub hl [0, 1, 2] rfl)
        · refine lv_iconst (v := 1) hC.1 hC.2.1 dX8_at_24 (by decide) ?_
          refine lv_goto (tgt := 29) hC.1 hC.2.1 dX8_at_25 (by decide) ?_
          exact W_X8_at_24_j29 hC hf _ _ _ hR hS (lv_sub hl [0, 1, 2] rfl)
set_option maxRecDepth 20000 in
theorem M_X10_readOf_24 (G : XG) (l : Launch) (kp : Bool) {I : xTI} {L : xTL} {x2 : Int32} {x3 : Int32} {r : Int32} {rI : xTI} (hf : F_X10_readOf_24 I x2 x3 = some (r, rI)) : xMet G l yX10_readOf cX10_readOf 4 (some .int) 1 23 kp [.ref (xz G + 0), .ref (xz G + 24), .int x2, .int x3] I L (some (.int r)) rI L := by
  refine xMet.ofW (by decide +kernel) (Nat.le_of_ble_eq_true rfl) ?_
  intro p e s m args below meth c hC H locs ls hR hS hl
  replace hC : xC G p s m args meth c cX10_readOf 4 RX10 (some .int) := hC
  replace hl : lv_has ls 4 [(0, .ref (xz G + 0)), (1, .ref (xz G + 24)), (2, .int x2), (3, .int x3)] := hl
  unfold F_X10_readOf_24 at hf
  refine lv_aload_n hC.1 hC.2.1 dX10_readOf_0 rfl (lv_at hl 1 rfl) ?_
  refine lv_iload_n hC.1 hC.2.1 dX10_readOf_1 rfl (lv_at hl 2 rfl) ?_
  refine x_cvi00 (rest := []) hC xy_X8_isNoted tw_652 hf (fun _ h => M_X8_isNoted_24 G l kp h) ⟨Nat.le_of_ble_eq_true rfl, Nat.le_of_ble_eq_true rfl⟩ (xce_24 G kp _ _) rfl rfl rfl (Nat.le_of_ble_eq_true rfl) hl.1 hR hS dX10_readOf_2 ⟨Nat.le_refl _, Nat.le_refl _⟩ (fun v1 hf H locs hR hS => ?_)
  refine x_if_ne (tgt := 15) hC dX10_readOf_5 (by decide) hf (fun hf => ?_) (fun hf => ?_)
  · refine lv_aload_n hC.1 hC.2.1 dX10_readOf_15 rfl (lv_at hl 1 rfl) ?_
    refine lv_iload_n hC.1 hC.2.1 dX10_readOf_16 rfl (lv_at hl 3 rfl) ?_
    refine x_cvi00 (rest := []) hC xy_X8_hasColumn tw_672 hf (fun _ h => M_X8_hasColumn_24 G l kp h) ⟨Nat.le_of_ble_eq_true rfl, Nat.le_of_ble_eq_true rfl⟩ (xce_24 G kp _ _) rfl rfl rfl (Nat.le_of_ble_eq_true rfl) hl.1 hR hS dX10_readOf_17 ⟨Nat.le_refl _, Nat.le_refl _⟩ (fun v2 hf H locs hR hS => ?_)
    refine x_if_eq (tgt := 32) hC dX10_readOf_20 (by decide) hf (fun hf => ?_) (fun hf => ?_)
    · refine lv_aload_n hC.1 hC.2.1 dX10_readOf_32 rfl (lv_at hl 0 rfl) ?_
      refine lv_bipush (v := (-7)) hC.1 hC.2.1 dX10_readOf_33 (by decide) ?_
      refine x_cvi10 (rest := []) hC xy_X10_refuse tw_411 hf (fun _ _ h => M_X10_refuse G l kp h) ⟨Nat.le_of_ble_eq_true rfl, Nat.le_of_ble_eq_true rfl⟩ (xce_0 G kp _ _) rfl rfl rfl (Nat.le_of_ble_eq_true rfl) hl.1 hR hS dX10_readOf_35 ⟨Nat.le_refl _, Nat.le_refl _⟩ (fun v3 I4 hf H locs hR hS => ?_)
      obtain ⟨h91, h92⟩ := Prod.mk.inj (Option.some.inj hf)
      subst h91
      subst h92
      exact x_iret hC hR hS dX10_readOf_38
    · refine lv_aload_n hC.1 hC.2.1 dX10_readOf_23 rfl (lv_at hl 1 rfl) ?_
      refine lv_iload_n hC.1 hC.2.1 dX10_readOf_24 rfl (lv_at hl 2 rfl) ?_
      refine lv_iload_n hC.1 hC.2.1 dX10_readOf_25 rfl (lv_at hl 3 rfl) ?_
      refine x_cvi00 (rest := []) hC xy_X8_at tw_656 hf (fun _ h => M_X8_at_24 G l kp h) ⟨Nat.le_of_ble_eq_true rfl, Nat.le_of_ble_eq_true rfl⟩ (xce_24 G kp _ _) rfl rfl rfl (Nat.le_of_ble_eq_true rfl) hl.1 hR hS dX10_readOf_26 ⟨Nat.le_refl _, Nat.le_refl _⟩ (fun v5 hf H locs hR hS => ?_)
      refine lv_goto (tgt := 38) hC.1 hC.2.1 dX10_readOf_29 (by decide) ?_
      obtain ⟨h91, h92⟩ := Prod.mk.inj (Option.some.inj hf)
      subst h91
      subst h92
      exact x_iret hC hR hS dX10_readOf_38
  · refine lv_aload_n hC.1 hC.2.1 dX10_readOf_8 rfl (lv_at hl 0 rfl) ?_
    refine lv_bipush (v := (-3)) hC.1 hC.2.1 dX10_readOf_9 (by decide) ?_
    refine x_cvi10 (rest := []) hC xy_X10_refuse tw_411 hf (fun _ _ h => M_X10_refuse G l kp h) ⟨Nat.le_of_ble_eq_true rfl, Nat.le_of_ble_eq_true rfl⟩ (xce_0 G kp _ _) rfl rfl rfl (Nat.le_of_ble_eq_true rfl) hl.1 hR hS dX10_readOf_11 ⟨Nat.le_refl _, Nat.le_refl _⟩ (fun v6 I7 hf H locs hR hS => ?_)
    obtain ⟨h91, h92⟩ := Prod.mk.inj (Option.some.inj hf)
    subst h91
    subst h92
    exact x_iret hC hR hS dX10_readOf_14
set_option maxRecDepth 20000 in
theorem M_X10_pass (G : XG) (l : Launch) (kp : Bool) {I : xTI} {L : xTL} {x1 : Int32} {x2 : Int32} {r : Int32} {rI : xTI} (hf : F_X10_pass I x1 x2 = some (r, rI)) : xMet G l yX10_pass cX10_pass 3 (some .int) 2 46 kp [.ref (xz G + 0), .int x1, .int x2] I L (some (.int r)) rI L := by
  refine xMet.ofW (by decide +kernel) (Nat.le_of_ble_eq_true rfl) ?_
  intro p e s m args below meth c hC H locs ls hR hS hl
  replace hC : xC G p s m args meth c cX10_pass 3 RX10 (some .int) := hC
  replace hl : lv_has ls 3 [(0, .ref (xz G + 0)), (1, .int x1), (2, .int x2)] := hl
  unfold F_X10_pass at hf
  refine lv_aload_n hC.1 hC.2.1 dX10_pass_0 rfl (lv_at hl 0 rfl) ?_
  refine x_get (v := .ref (xz G + 1)) hC xf_X10_10 (xce_0 G kp _ _) rfl hR dX10_pass_1 ?_
  refine x_getI hC xf_X10_293 (xce_1 G kp _ _) rfl hR dX10_pass_4 hf (fun v1 hf => ?_)
  refine x_if_eq (tgt := 26) hC dX10_pass_7 (by decide) hf (fun hf => ?_) (fun hf => ?_)
  · refine lv_aload_n hC.1 hC.2.1 dX10_pass_26 rfl (lv_at hl 0 rfl) ?_
    refine lv_bipush (v := (-2)) hC.1 hC.2.1 dX10_pass_27 (by decide) ?_
    refine x_cvi10 (rest := []) hC xy_X10_refuse tw_411 hf (fun _ _ h => M_X10_refuse G l kp h) ⟨Nat.le_of_ble_eq_true rfl, Nat.le_of_ble_eq_true rfl⟩ (xce_0 G kp _ _) rfl rfl rfl (Nat.le_of_ble_eq_true rfl) hl.1 hR hS dX10_pass_29 ⟨Nat.le_refl _, Nat.le_refl _⟩ (fun v2 I3 hf H locs hR hS => ?_)
    obtain ⟨h91, h92⟩ := Prod.mk.inj (Option.some.inj hf)
    subst h91
    subst h92
    exact x_iret hC hR hS dX10_pass_32
  · refine lv_aload_n hC.1 hC.2.1 dX10_pass_10 rfl (lv_at hl 0 rfl) ?_
    refine lv_aload_n hC.1 hC.2.1 dX10_pass_11 rfl (lv_at hl 0 rfl) ?_
    refine x_get (v := .ref (xz G + 1)) hC xf_X10_10 (xce_0 G kp _ _) rfl hR dX10_pass_12 ?_
    refine x_get (v := .ref (xz G + 24)) hC xf_X10_297 (xce_1 G kp _ _) rfl hR dX10_pass_15 ?_
    refine lv_iload_n hC.1 hC.2.1 dX10_pass_18 rfl (lv_at hl 1 rfl) ?_
    refine lv_iload_n hC.1 hC.2.1 dX10_pass_19 rfl (lv_at hl 2 rfl) ?_
    refine x_cvi10 (rest := []) hC xy_X10_readOf tw_668 hf (fun _ _ h => M_X10_readOf_24 G l kp h) ⟨Nat.le_of_ble_eq_true rfl, Nat.le_of_ble_eq_true rfl⟩ (xce_0 G kp _ _) rfl rfl rfl (Nat.le_of_ble_eq_true rfl) hl.1 hR hS dX10_pass_20 ⟨Nat.le_refl _, Nat.le_refl _⟩ (fun v4 I5 hf H locs hR hS => ?_)
    refine lv_goto (tgt := 32) hC.1 hC.2.1 dX10_pass_23 (by decide) ?_
    obtain ⟨h91, h92⟩ := Prod.mk.inj (Option.some.inj hf)
    subst h91
    subst h92
    exact x_iret hC hR hS dX10_pass_32
set_option maxRecDepth 20000 in
theorem M_X8_isNoted_26 (G : XG) (l : Launch) (kp : Bool) {I : xTI} {L : xTL} {x1 : Int32} {r : Int32} (hf : F_X8_isNoted_26 I x1 = some r) : xMet G l yX8_isNoted cX8_isNoted 2 (some .boolean) 0 0 kp [.ref (xz G + 26), .int x1] I L (some (.int r)) I L := by
  refine xMet.ofW (by decide +kernel) (Nat.le_of_ble_eq_true rfl) ?_
  intro p e s m args below meth c hC H locs ls hR hS hl
  replace hC : xC G p s m args meth c cX8_isNoted 2 RX8 (some .boolean) := hC
  replace hl : lv_has ls 2 [(0, .ref (xz G + 26)), (1, .int x1)] := hl
  unfold F_X8_isNoted_26 at hf
  refine lv_iload_n hC.1 hC.2.1 dX8_isNoted_0 rfl (lv_at hl 1 rfl) ?_
  refine x_if_lt (tgt := 24) hC dX8_isNoted_1 (by decide) hf (fun hf => ?_) (fun hf => ?_)
  · refine lv_iconst (v := 0) hC.1 hC.2.1 dX8_isNoted_24 (by decide) ?_
    obtain ⟨h01, hf⟩ := xzc_some hf
    have h9 := Option.some.inj hf
    subst h9
    exact x_zret h01 hC hR hS dX8_isNoted_25
  · refine lv_iload_n hC.1 hC.2.1 dX8_isNoted_4 rfl (lv_at hl 1 rfl) ?_
    refine lv_aload_n hC.1 hC.2.1 dX8_isNoted_5 rfl (lv_at hl 0 rfl) ?_
    refine x_getI hC xf_X8_20 (xce_26 G kp _ _) rfl hR dX8_isNoted_6 hf (fun v1 hf => ?_)
    refine x_ic_ge (tgt := 24) hC dX8_isNoted_9 (by decide) hf (fun hf => ?_) (fun hf => ?_)
    · refine lv_iconst (v := 0) hC.1 hC.2.1 dX8_isNoted_24 (by decide) ?_
      obtain ⟨h01, hf⟩ := xzc_some hf
      have h9 := Option.some.inj hf
      subst h9
      exact x_zret h01 hC hR hS dX8_isNoted_25
    · refine lv_iload_n hC.1 hC.2.1 dX8_isNoted_12 rfl (lv_at hl 1 rfl) ?_
      refine lv_aload_n hC.1 hC.2.1 dX8_isNoted_13 rfl (lv_at hl 0 rfl) ?_
      refine x_get (v := .int 200) hC xf_X8_7 (xce_26 G kp _ _) rfl hR dX8_isNoted_14 ?_
      refine x_ic_ge (tgt := 24) hC dX8_isNoted_17 (by decide) hf (fun hf => ?_) (fun hf => ?_)
      · refine lv_iconst (v := 0) hC.1 hC.2.1 dX8_isNoted_24 (by decide) ?_
        obtain ⟨h01, hf⟩ := xzc_some hf
        have h9 := Option.some.inj hf
        subst h9
        exact x_zret h01 hC hR hS dX8_isNoted_25
      · refine lv_iconst (v := 1) hC.1 hC.2.1 dX8_isNoted_20 (by decide) ?_
        refine lv_goto (tgt := 25) hC.1 hC.2.1 dX8_isNoted_21 (by decide) ?_
        obtain ⟨h01, hf⟩ := xzc_some hf
        have h9 := Option.some.inj hf
        subst h9
        exact x_zret h01 hC hR hS dX8_isNoted_25
set_option maxRecDepth 20000 in
theorem M_X8_hasColumn_26 (G : XG) (l : Launch) (kp : Bool) {I : xTI} {L : xTL} {x1 : Int32} {r : Int32} (hf : F_X8_hasColumn_26 x1 = some r) : xMet G l yX8_hasColumn cX8_hasColumn 2 (some .boolean) 0 0 kp [.ref (xz G + 26), .int x1] I L (some (.int r)) I L := by
  refine xMet.ofW (by decide +kernel) (Nat.le_of_ble_eq_true rfl) ?_
  intro p e s m args below meth c hC H locs ls hR hS hl
  replace hC : xC G p s m args meth c cX8_hasColumn 2 RX8 (some .boolean) := hC
  replace hl : lv_has ls 2 [(0, .ref (xz G + 26)), (1, .int x1)] := hl
  unfold F_X8_hasColumn_26 at hf
  refine lv_iload_n hC.1 hC.2.1 dX8_hasColumn_0 rfl (lv_at hl 1 rfl) ?_
  refine x_if_lt (tgt := 16) hC dX8_hasColumn_1 (by decide) hf (fun hf => ?_) (fun hf => ?_)
  · refine lv_iconst (v := 0) hC.1 hC.2.1 dX8_hasColumn_16 (by decide) ?_
    obtain ⟨h01, hf⟩ := xzc_some hf
    have h9 := Option.some.inj hf
    subst h9
    exact x_zret h01 hC hR hS dX8_hasColumn_17
  · refine lv_iload_n hC.1 hC.2.1 dX8_hasColumn_4 rfl (lv_at hl 1 rfl) ?_
    refine lv_aload_n hC.1 hC.2.1 dX8_hasColumn_5 rfl (lv_at hl 0 rfl) ?_
    refine x_get (v := .int 6) hC xf_X8_13 (xce_26 G kp _ _) rfl hR dX8_hasColumn_6 ?_
    refine x_ic_ge (tgt := 16) hC dX8_hasColumn_9 (by decide) hf (fun hf => ?_) (fun hf => ?_)
    · refine lv_iconst (v := 0) hC.1 hC.2.1 dX8_hasColumn_16 (by decide) ?_
      obtain ⟨h01, hf⟩ := xzc_some hf
      have h9 := Option.some.inj hf
      subst h9
      exact x_zret h01 hC hR hS dX8_hasColumn_17
    · refine lv_iconst (v := 1) hC.1 hC.2.1 dX8_hasColumn_12 (by decide) ?_
      refine lv_goto (tgt := 17) hC.1 hC.2.1 dX8_hasColumn_13 (by decide) ?_
      obtain ⟨h01, hf⟩ := xzc_some hf
      have h9 := Option.some.inj hf
      subst h9
      exact x_zret h01 hC hR hS dX8_hasColumn_17
set_option maxRecDepth 20000 in
theorem M_X10_readOf_26 (G : XG) (l : Launch) (kp : Bool) {I : xTI} {L : xTL} {x2 : Int32} {x3 : Int32} {r : Int32} {rI : xTI} (hf : F_X10_readOf_26 I x2 x3 = some (r, rI)) : xMet G l yX10_readOf cX10_readOf 4 (some .int) 1 23 kp [.ref (xz G + 0), .ref (xz G + 26), .int x2, .int x3] I L (some (.int r)) rI L := by
  refine xMet.ofW (by decide +kernel) (Nat.le_of_ble_eq_true rfl) ?_
  intro p e s m args below meth c hC H locs ls hR hS hl
  replace hC : xC G p s m args meth c cX10_readOf 4 RX10 (some .int) := hC
  replace hl : lv_has ls 4 [(0, .ref (xz G + 0)), (1, .ref (xz G + 26)), (2, .int x2), (3, .int x3)] := hl
  unfold F_X10_readOf_26 at hf
  refine lv_aload_n hC.1 hC.2.1 dX10_readOf_0 rfl (lv_at hl 1 rfl) ?_
  refine lv_iload_n hC.1 hC.2.1 dX10_readOf_1 rfl (lv_at hl 2 rfl) ?_
  refine x_cvi00 (rest := []) hC xy_X8_isNoted tw_652 hf (fun _ h => M_X8_isNoted_26 G l kp h) ⟨Nat.le_of_ble_eq_true rfl, Nat.le_of_ble_eq_true rfl⟩ (xce_26 G kp _ _) rfl rfl rfl (Nat.le_of_ble_eq_true rfl) hl.1 hR hS dX10_readOf_2 ⟨Nat.le_refl _, Nat.le_refl _⟩ (fun v1 hf H locs hR hS => ?_)
  refine x_if_ne (tgt := 15) hC dX10_readOf_5 (by decide) hf (fun hf => ?_) (fun hf => ?_)
  · refine lv_aload_n hC.1 hC.2.1 dX10_readOf_15 rfl (lv_at hl 1 rfl) ?_
    refine lv_iload_n hC.1 hC.2.1 dX10_readOf_16 rfl (lv_at hl 3 rfl) ?_
    refine x_cvi00 (rest := []) hC xy_X8_hasColumn tw_672 hf (fun _ h => M_X8_hasColumn_26 G l kp h) ⟨Nat.le_of_ble_eq_true rfl, Nat.le_of_ble_eq_true rfl⟩ (xce_26 G kp _ _) rfl rfl rfl (Nat.le_of_ble_eq_true rfl) hl.1 hR hS dX10_readOf_17 ⟨Nat.le_refl _, Nat.le_refl _⟩ (fun v2 hf H locs hR hS => ?_)
    refine x_if_eq (tgt := 32) hC dX10_readOf_20 (by decide) hf (fun hf => ?_) (fun hf => ?_)
    · refine lv_aload_n hC.1 hC.2.1 dX10_readOf_32 rfl (lv_at hl 0 rfl) ?_
      refine lv_bipush (v := (-7)) hC.1 hC.2.1 dX10_readOf_33 (by decide) ?_
      refine x_cvi10 (rest := []) hC xy_X10_refuse tw_411 hf (fun _ _ h => M_X10_refuse G l kp h) ⟨Nat.le_of_ble_eq_true rfl, Nat.le_of_ble_eq_true rfl⟩ (xce_0 G kp _ _) rfl rfl rfl (Nat.le_of_ble_eq_true rfl) hl.1 hR hS dX10_readOf_35 ⟨Nat.le_refl _, Nat.le_refl _⟩ (fun v3 I4 hf H locs hR hS => ?_)
      obtain ⟨h91, h92⟩ := Prod.mk.inj (Option.some.inj hf)
      subst h91
      subst h92
      exact x_iret hC hR hS dX10_readOf_38
    · refine lv_aload_n hC.1 hC.2.1 dX10_readOf_23 rfl (lv_at hl 1 rfl) ?_
      refine lv_iload_n hC.1 hC.2.1 dX10_readOf_24 rfl (lv_at hl 2 rfl) ?_
      refine lv_iload_n hC.1 hC.2.1 dX10_readOf_25 rfl (lv_at hl 3 rfl) ?_
      refine x_cvi00 (rest := []) hC xy_X8_at tw_656 hf (fun _ h => M_X8_at_26 G l kp h) ⟨Nat.le_of_ble_eq_true rfl, Nat.le_of_ble_eq_true rfl⟩ (xce_26 G kp _ _) rfl rfl rfl (Nat.le_of_ble_eq_true rfl) hl.1 hR hS dX10_readOf_26 ⟨Nat.le_refl _, Nat.le_refl _⟩ (fun v5 hf H locs hR hS => ?_)
      refine lv_goto (tgt := 38) hC.1 hC.2.1 dX10_readOf_29 (by decide) ?_
      obtain ⟨h91, h92⟩ := Prod.mk.inj (Option.some.inj hf)
      subst h91
      subst h92
      exact x_iret hC hR hS dX10_readOf_38
  · refine lv_aload_n hC.1 hC.2.1 dX10_readOf_8 rfl (lv_at hl 0 rfl) ?_
    refine lv_bipush (v := (-3)) hC.1 hC.2.1 dX10_readOf_9 (by decide) ?_
    refine x_cvi10 (rest := []) hC xy_X10_refuse tw_411 hf (fun _ _ h => M_X10_refuse G l kp h) ⟨Nat.le_of_ble_eq_true rfl, Nat.le_of_ble_eq_true rfl⟩ (xce_0 G kp _ _) rfl rfl rfl (Nat.le_of_ble_eq_true rfl) hl.1 hR hS dX10_readOf_11 ⟨Nat.le_refl _, Nat.le_refl _⟩ (fun v6 I7 hf H locs hR hS => ?_)
    obtain ⟨h91, h92⟩ := Prod.mk.inj (Option.some.inj hf)
    subst h91
    subst h92
    exact x_iret hC hR hS dX10_readOf_14
set_option maxRecDepth 20000 in
theorem M_X10_delivery (G : XG) (l : Launch) (kp : Bool) {I : xTI} {L : xTL} {x1 : Int32} {x2 : Int32} {r : Int32} {rI : xTI} (hf : F_X10_delivery I x1 x2 = some (r, rI)) : xMet G l yX10_delivery cX10_delivery 3 (some .int) 2 46 kp [.ref (xz G + 0), .int x1, .int x2] I L (some (.int r)) rI L := by
  refine xMet.ofW (by decide +kernel) (Nat.le_of_ble_eq_true rfl) ?_
  intro p e s m args below meth c hC H locs ls hR hS hl
  replace hC : xC G p s m args meth c cX10_delivery 3 RX10 (some .int) := hC
  replace hl : lv_has ls 3 [(0, .ref (xz G + 0)), (1, .int x1), (2, .int x2)] := hl
  unfold F_X10_delivery at hf
  refine lv_aload_n hC.1 hC.2.1 dX10_delivery_0 rfl (lv_at hl 0 rfl) ?_
  refine x_get (v := .ref (xz G + 1)) hC xf_X10_10 (xce_0 G kp _ _) rfl hR dX10_delivery_1 ?_
  refine x_getI hC xf_X10_293 (xce_1 G kp _ _) rfl hR dX10_delivery_4 hf (fun v1 hf => ?_)
  refine x_if_eq (tgt := 26) hC dX10_delivery_7 (by decide) hf (fun hf => ?_) (fun hf => ?_)
  · refine lv_aload_n hC.1 hC.2.1 dX10_delivery_26 rfl (lv_at hl 0 rfl) ?_
    refine lv_bipush (v := (-2)) hC.1 hC.2.1 dX10_delivery_27 (by decide) ?_
    refine x_cvi10 (rest := []) hC xy_X10_refuse tw_411 hf (fun _ _ h => M_X10_refuse G l kp h) ⟨Nat.le_of_ble_eq_true rfl, Nat.le_of_ble_eq_true rfl⟩ (xce_0 G kp _ _) rfl rfl rfl (Nat.le_of_ble_eq_true rfl) hl.1 hR hS dX10_delivery_29 ⟨Nat.le_refl _, Nat.le_refl _⟩ (fun v2 I3 hf H locs hR hS => ?_)
    obtain ⟨h91, h92⟩ := Prod.mk.inj (Option.some.inj hf)
    subst h91
    subst h92
    exact x_iret hC hR hS dX10_delivery_32
  · refine lv_aload_n hC.1 hC.2.1 dX10_delivery_10 rfl (lv_at hl 0 rfl) ?_
    refine lv_aload_n hC.1 hC.2.1 dX10_delivery_11 rfl (lv_at hl 0 rfl) ?_
    refine x_get (v := .ref (xz G + 1)) hC xf_X10_10 (xce_0 G kp _ _) rfl hR dX10_delivery_12 ?_
    refine x_get (v := .ref (xz G + 26)) hC xf_X10_300 (xce_1 G kp _ _) rfl hR dX10_delivery_15 ?_
    refine lv_iload_n hC.1 hC.2.1 dX10_delivery_18 rfl (lv_at hl 1 rfl) ?_
    refine lv_iload_n hC.1 hC.2.1 dX10_delivery_19 rfl (lv_at hl 2 rfl) ?_
    refine x_cvi10 (rest := []) hC xy_X10_readOf tw_668 hf (fun _ _ h => M_X10_readOf_26 G l kp h) ⟨Nat.le_of_ble_eq_true rfl, Nat.le_of_ble_eq_true rfl⟩ (xce_0 G kp _ _) rfl rfl rfl (Nat.le_of_ble_eq_true rfl) hl.1 hR hS dX10_delivery_20 ⟨Nat.le_refl _, Nat.le_refl _⟩ (fun v4 I5 hf H locs hR hS => ?_)
    refine lv_goto (tgt := 32) hC.1 hC.2.1 dX10_delivery_23 (by decide) ?_
    obtain ⟨h91, h92⟩ := Prod.mk.inj (Option.some.inj hf)
    subst h91
    subst h92
    exact x_iret hC hR hS dX10_delivery_32
set_option maxRecDepth 20000 in
theorem M_X10_settled (G : XG) (l : Launch) (kp : Bool) {I : xTI} {L : xTL} {x1 : Int32} {x2 : Int32} {r : Int64} {rI : xTI} (hf : F_X10_settled I L x1 x2 = some (r, rI)) : xMet G l yX10_settled cX10_settled 3 (some .long) 2 43 kp [.ref (xz G + 0), .int x1, .int x2] I L (some (.long r)) rI L := by
  refine xMet.ofW (by decide +kernel) (Nat.le_of_ble_eq_true rfl) ?_
  intro p e s m args below meth c hC H locs ls hR hS hl
  replace hC : xC G p s m args meth c cX10_settled 3 RX10 (some .long) := hC
  replace hl : lv_has ls 3 [(0, .ref (xz G + 0)), (1, .int x1), (2, .int x2)] := hl
  unfold F_X10_settled at hf
  refine lv_aload_n hC.1 hC.2.1 dX10_settled_0 rfl (lv_at hl 0 rfl) ?_
  refine x_get (v := .ref (xz G + 1)) hC xf_X10_10 (xce_0 G kp _ _) rfl hR dX10_settled_1 ?_
  refine x_getI hC xf_X10_303 (xce_1 G kp _ _) rfl hR dX10_settled_4 hf (fun v1 hf => ?_)
  refine x_if_ne (tgt := 18) hC dX10_settled_7 (by decide) hf (fun hf => ?_) (fun hf => ?_)
  · refine lv_aload_n hC.1 hC.2.1 dX10_settled_18 rfl (lv_at hl 0 rfl) ?_
    refine lv_iload_n hC.1 hC.2.1 dX10_settled_19 rfl (lv_at hl 1 rfl) ?_
    refine x_cvi00 (rest := []) hC xy_X10_isMan tw_427 hf (fun _ h => M_X10_isMan G l kp h) ⟨Nat.le_of_ble_eq_true rfl, Nat.le_of_ble_eq_true rfl⟩ (xce_0 G kp _ _) rfl rfl rfl (Nat.le_of_ble_eq_true rfl) hl.1 hR hS dX10_settled_20 ⟨Nat.le_refl _, Nat.le_refl _⟩ (fun v2 hf H locs hR hS => ?_)
    refine x_if_ne (tgt := 34) hC dX10_settled_23 (by decide) hf (fun hf => ?_) (fun hf => ?_)
    · refine lv_iload_n hC.1 hC.2.1 dX10_settled_34 rfl (lv_at hl 2 rfl) ?_
      refine lv_iconst (v := 0) hC.1 hC.2.1 dX10_settled_35 (by decide) ?_
      refine lv_iconst (v := 4) hC.1 hC.2.1 dX10_settled_36 (by decide) ?_
      refine x_csi00 (rest := []) hC xy_X10_isWithin tw_408 hf (fun _ h => M_X10_isWithin G l kp h) ⟨Nat.le_of_ble_eq_true rfl, Nat.le_of_ble_eq_true rfl⟩ rfl rfl (Nat.le_of_ble_eq_true rfl) hl.1 hR hS dX10_settled_37 ⟨Nat.le_refl _, Nat.le_refl _⟩ (fun v3 hf H locs hR hS => ?_)
      refine x_if_ne (tgt := 51) hC dX10_settled_40 (by decide) hf (fun hf => ?_) (fun hf => ?_)
      · refine lv_aload_n hC.1 hC.2.1 dX10_settled_51 rfl (lv_at hl 0 rfl) ?_
        refine x_get (v := .ref (xz G + 1)) hC xf_X10_10 (xce_0 G kp _ _) rfl hR dX10_settled_52 ?_
        refine x_get (v := .ref (xz G + 28)) hC xf_X10_306 (xce_1 G kp _ _) rfl hR dX10_settled_55 ?_
        refine lv_iload_n hC.1 hC.2.1 dX10_settled_58 rfl (lv_at hl 1 rfl) ?_
        refine lv_iconst (v := 5) hC.1 hC.2.1 dX10_settled_59 (by decide) ?_
        refine lv_imul hC.1 hC.2.1 dX10_settled_60 ?_
        refine lv_iload_n hC.1 hC.2.1 dX10_settled_61 rfl (lv_at hl 2 rfl) ?_
        refine lv_iadd hC.1 hC.2.1 dX10_settled_62 ?_
        refine x_lal hC (xce_28 G kp _ _) hR dX10_settled_63 hf (fun v4 hf => ?_)
        obtain ⟨h91, h92⟩ := Prod.mk.inj (Option.some.inj hf)
        subst h91
        subst h92
        exact x_lret hC hR hS dX10_settled_64
      · refine lv_aload_n hC.1 hC.2.1 dX10_settled_43 rfl (lv_at hl 0 rfl) ?_
        refine lv_bipush (v := (-7)) hC.1 hC.2.1 dX10_settled_44 (by decide) ?_
        refine x_cvi10 (rest := []) hC xy_X10_refuseAsZero tw_474 hf (fun _ _ h => M_X10_refuseAsZero G l kp h) ⟨Nat.le_of_ble_eq_true rfl, Nat.le_of_ble_eq_true rfl⟩ (xce_0 G kp _ _) rfl rfl rfl (Nat.le_of_ble_eq_true rfl) hl.1 hR hS dX10_settled_46 ⟨Nat.le_refl _, Nat.le_refl _⟩ (fun v5 I6 hf H locs hR hS => ?_)
        refine lv_i2l hC.1 hC.2.1 dX10_settled_49 rfl ?_
        obtain ⟨h91, h92⟩ := Prod.mk.inj (Option.some.inj hf)
        subst h91
        subst h92
        exact x_lret hC hR hS dX10_settled_50
    · refine lv_aload_n hC.1 hC.2.1 dX10_settled_26 rfl (lv_at hl 0 rfl) ?_
      refine lv_bipush (v := (-3)) hC.1 hC.2.1 dX10_settled_27 (by decide) ?_
      refine x_cvi10 (rest := []) hC xy_X10_refuseAsZero tw_474 hf (fun _ _ h => M_X10_refuseAsZero G l kp h) ⟨Nat.le_of_ble_eq_true rfl, Nat.le_of_ble_eq_true rfl⟩ (xce_0 G kp _ _) rfl rfl rfl (Nat.le_of_ble_eq_true rfl) hl.1 hR hS dX10_settled_29 ⟨Nat.le_refl _, Nat.le_refl _⟩ (fun v7 I8 hf H locs hR hS => ?_)
      refine lv_i2l hC.1 hC.2.1 dX10_settled_32 rfl ?_
      obtain ⟨h91, h92⟩ := Prod.mk.inj (Option.some.inj hf)
      subst h91
      subst h92
      exact x_lret hC hR hS dX10_settled_33
  · refine lv_aload_n hC.1 hC.2.1 dX10_settled_10 rfl (lv_at hl 0 rfl) ?_
    refine lv_bipush (v := (-2)) hC.1 hC.2.1 dX10_settled_11 (by decide) ?_
    refine x_cvi10 (rest := []) hC xy_X10_refuseAsZero tw_474 hf (fun _ _ h => M_X10_refuseAsZero G l kp h) ⟨Nat.le_of_ble_eq_true rfl, Nat.le_of_ble_eq_true rfl⟩ (xce_0 G kp _ _) rfl rfl rfl (Nat.le_of_ble_eq_true rfl) hl.1 hR hS dX10_settled_13 ⟨Nat.le_refl _, Nat.le_refl _⟩ (fun v9 I10 hf H locs hR hS => ?_)
    refine lv_i2l hC.1 hC.2.1 dX10_settled_16 rfl ?_
    obtain ⟨h91, h92⟩ := Prod.mk.inj (Option.some.inj hf)
    subst h91
    subst h92
    exact x_lret hC hR hS dX10_settled_17
set_option maxRecDepth 20000 in
theorem W_J7_fill_53178_47_l5 {G : XG} {l : Launch} {kp : Bool} {p : Program} {e : Env} {s : State} {m : MethodId} {args : Array Value} {below : List Frame} {meth : Method} {c : Code} (hC : xC G p s m args meth c cJ7_fill_53178 4 RJ7 none) (N : Nat) {L : xTL} {rI : xTI} {x1 : Int32} {x3 : Int32} : ∀ (n : Nat) (x2 : Int32) (I : xTI) , xlp (F_J7_fill_53178_47_b5 N x1 x3 ) n (x2, I) = some rI → ∀ (H : Heap) (locs : List Loc) (ls : Array Slot), xRep G kp I L H → xS G s.heap H locs → lv_has ls 4 [(0, .ref (xz G + 47)), (1, .int x1), (2, .int x2), (3, .int x3)] → W p l e (xrm 0 0) s m args below meth c H locs 0 0 (xMQ G kp below args s none rI L) (F0 m 5 ls []) := by
  intro n
  induction n with
  | zero =>
    intro x2 I hf
    cases hf
  | succ n hk5 =>
    intro x2 I hf H locs ls hR hS hl
    rw [xlp_s, E_J7_fill_53178_47_b5] at hf
    unfold F_J7_fill_53178_47_c5 at hf
    refine lv_iload_n hC.1 hC.2.1 dJ7_fill_53178_5 rfl (lv_at hl 2 rfl) ?_
    refine lv_iload_n hC.1 hC.2.1 dJ7_fill_53178_6 rfl (lv_at hl 3 rfl) ?_
    refine x_ic_ge (tgt := 20) hC dJ7_fill_53178_7 (by decide) hf (fun hf => ?_) (fun hf => ?_)
    · have h9 := Option.some.inj hf
      subst h9
      exact x_vret hC hR hS dJ7_fill_53178_20
    · refine lv_aload_n hC.1 hC.2.1 dJ7_fill_53178_10 rfl (lv_at hl 0 rfl) ?_
      refine lv_iload_n hC.1 hC.2.1 dJ7_fill_53178_11 rfl (lv_at hl 2 rfl) ?_
      refine lv_iload_n hC.1 hC.2.1 dJ7_fill_53178_12 rfl (lv_at hl 1 rfl) ?_
      refine x_ias hC (fun f => (xce_47 G kp f _)) hR hS dJ7_fill_53178_13 hf (fun I1 hf H locs hR hS => ?_)
      refine x_iinc (d := 1) (lv' := fun y2 => [(2, .int y2), (0, .ref (xz G + 47)), (1, .int x1), (3, .int x3)]) (k := 2) hC hl dJ7_fill_53178_14 rfl (by decide) (Nat.le_of_ble_eq_true rfl) hf (fun _ => rfl) (fun y2 hf ls hl => ?_)
      refine lv_goto (tgt := 5) hC.1 hC.2.1 dJ7_fill_53178_17 (by decide) ?_
      exact hk5 y2 I1 hf _ _ _ hR hS (lv_sub hl [1, 2, 0, 3] rfl)
set_option maxRecDepth 20000 in
theorem M_J7_fill_53178_47 (G : XG) (l : Launch) (kp : Bool) (N : Nat) {I : xTI} {L : xTL} {x1 : Int32} {rI : xTI} (hf : F_J7_fill_53178_47 N I x1 = some rI) : xMet G l yJ7_fill_53178 cJ7_fill_53178 4 none 0 0 kp [.ref (xz G + 47), .int x1] I L none rI L := by
  refine xMet.ofW (by decide +kernel) (Nat.le_of_ble_eq_true rfl) ?_
  intro p e s m args below meth c hC H locs ls hR hS hl
  replace hC : xC G p s m args meth c cJ7_fill_53178 4 RJ7 none := hC
  replace hl : lv_has ls 4 [(0, .ref (xz G + 47)), (1, .int x1)] := hl
  unfold F_J7_fill_53178_47 at hf
  refine lv_iconst (v := 0) hC.1 hC.2.1 dJ7_fill_53178_0 (by decide) ?_
  refine lv_istore_n (lv' := [(2, .int 0), (0, .ref (xz G + 47)), (1, .int x1)]) hC.1 hC.2.1 dJ7_fill_53178_1 rfl hl (Nat.le_of_ble_eq_true rfl) rfl (fun ls hl => ?_)
  refine lv_aload_n hC.1 hC.2.1 dJ7_fill_53178_2 rfl (lv_at hl 1 rfl) ?_
  refine x_alen_i (v := 12) hC (xce_47 G kp _ _) rfl hR dJ7_fill_53178_3 ?_
  refine lv_istore_n (lv' := [(3, .int 12), (2, .int 0), (0, .ref (xz G + 47)), (1, .int x1)]) hC.1 hC.2.1 dJ7_fill_53178_4 rfl hl (Nat.le_of_ble_eq_true rfl) rfl (fun ls hl => ?_)
  exact W_J7_fill_53178_47_l5 hC N _ 0 I hf _ _ _ hR hS (lv_sub hl [2, 3, 1, 0] rfl)
set_option maxRecDepth 20000 in
theorem W_X0_netsInto_47_l8 {G : XG} {l : Launch} {kp : Bool} {p : Program} {e : Env} {s : State} {m : MethodId} {args : Array Value} {below : List Frame} {meth : Method} {c : Code} (hC : xC G p s m args meth c cX0_netsInto 5 RX0 none) (N : Nat) {L : xTL} {rI : xTI} {x2 : Int32} {x3 : Int32} : ∀ (n : Nat) (x4 : Int32) (I : xTI) , xlp (F_X0_netsInto_47_b8 N x2 x3 ) n (x4, I) = some rI → ∀ (H : Heap) (locs : List Loc) (ls : Array Slot), xRep G kp I L H → xS G s.heap H locs → lv_has ls 5 [(0, .ref (xz G + 11)), (1, .ref (xz G + 47)), (2, .int x2), (3, .int x3), (4, .int x4)] → W p l e (xrm 2 46) s m args below meth c H locs 0 0 (xMQ G kp below args s none rI L) (F0 m 8 ls []) := by
  intro n
  induction n with
  | zero =>
    intro x4 I hf
    cases hf
  | succ n hk8 =>
    intro x4 I hf H locs ls hR hS hl
    rw [xlp_s, E_X0_netsInto_47_b8] at hf
    unfold F_X0_netsInto_47_c8 at hf
    refine lv_iload hC.1 hC.2.1 dX0_netsInto_8 (lv_at hl 4 rfl) ?_
    refine lv_bipush (v := 60) hC.1 hC.2.1 dX0_netsInto_10 (by decide) ?_
    refine x_ic_ge (tgt := 82) hC dX0_netsInto_12 (by decide) hf (fun hf => ?_) (fun hf => ?_)
    · have h9 := Option.some.inj hf
      subst h9
      exact x_vret hC hR hS dX0_netsInto_82
    · refine lv_aload_n hC.1 hC.2.1 dX0_netsInto_15 rfl (lv_at hl 0 rfl) ?_
      refine lv_iload hC.1 hC.2.1 dX0_netsInto_16 (lv_at hl 4 rfl) ?_
      refine lv_iload_n hC.1 hC.2.1 dX0_netsInto_18 rfl (lv_at hl 2 rfl) ?_
      refine lv_iload_n hC.1 hC.2.1 dX0_netsInto_19 rfl (lv_at hl 3 rfl) ?_
      refine x_cvi00 (rest := []) hC xy_X0_standsIn tw_494 hf (fun _ h => M_X0_standsIn G l kp h) ⟨Nat.le_of_ble_eq_true rfl, Nat.le_of_ble_eq_true rfl⟩ (xce_11 G kp _ _) rfl rfl rfl (Nat.le_of_ble_eq_true rfl) hl.1 hR hS dX0_netsInto_20 ⟨Nat.le_refl _, Nat.le_refl _⟩ (fun v1 hf H locs hR hS => ?_)
      refine x_if_eq (tgt := 76) hC dX0_netsInto_23 (by decide) hf (fun hf => ?_) (fun hf => ?_)
      · refine x_iinc (d := 1) (lv' := fun y2 => [(4, .int y2), (0, .ref (xz G + 11)), (1, .ref (xz G + 47)), (2, .int x2), (3, .int x3)]) (k := 4) hC hl dX0_netsInto_76 rfl (by decide) (Nat.le_of_ble_eq_true rfl) hf (fun _ => rfl) (fun y2 hf ls hl => ?_)
        refine lv_goto (tgt := 8) hC.1 hC.2.1 dX0_netsInto_79 (by decide) ?_
        exact hk8 y2 I hf _ _ _ hR hS (lv_sub hl [1, 2, 3, 4, 0] rfl)
      · refine lv_aload_n hC.1 hC.2.1 dX0_netsInto_26 rfl (lv_at hl 1 rfl) ?_
        refine lv_aload_n hC.1 hC.2.1 dX0_netsInto_27 rfl (lv_at hl 0 rfl) ?_
        refine x_get (v := .ref (xz G + 12)) hC xf_X0_16 (xce_11 G kp _ _) rfl hR dX0_netsInto_28 ?_
        refine lv_iload hC.1 hC.2.1 dX0_netsInto_31 (lv_at hl 4 rfl) ?_
        refine lv_iconst (v := 1) hC.1 hC.2.1 dX0_netsInto_33 (by decide) ?_
        refine x_cvi00 (rest := [.ref (xz G + 47)]) hC xy_X8_at tw_462 hf (fun _ h => M_X8_at_12 G l kp h) ⟨Nat.le_of_ble_eq_true rfl, Nat.le_of_ble_eq_true rfl⟩ (xce_12 G kp _ _) rfl rfl rfl (Nat.le_of_ble_eq_true rfl) hl.1 hR hS dX0_netsInto_34 ⟨Nat.le_refl _, Nat.le_refl _⟩ (fun v3 hf H locs hR hS => ?_)
        refine lv_dup2_11 hC.1 hC.2.1 dX0_netsInto_37 rfl rfl ?_
        refine x_ial hC (xce_47 G kp _ _) hR dX0_netsInto_38 hf (fun v4 hf => ?_)
        refine lv_aload_n hC.1 hC.2.1 dX0_netsInto_39 rfl (lv_at hl 0 rfl) ?_
        refine x_get (v := .ref (xz G + 12)) hC xf_X0_16 (xce_11 G kp _ _) rfl hR dX0_netsInto_40 ?_
        refine lv_iload hC.1 hC.2.1 dX0_netsInto_43 (lv_at hl 4 rfl) ?_
        refine W.eq (g2 := F0 m 45 ls [.int x4, .ref (xz G + 12), .int v4, .int v3, .ref (xz G + 47)]) rfl ?_
        refine lv_iconst (v := 3) hC.1 hC.2.1 dX0_netsInto_45 (by decide) ?_
        refine x_cvi00 (rest := [.int v4, .int v3, .ref (xz G + 47)]) hC xy_X8_at tw_462 hf (fun _ h => M_X8_at_12 G l kp h) ⟨Nat.le_of_ble_eq_true rfl, Nat.le_of_ble_eq_true rfl⟩ (xce_12 G kp _ _) rfl rfl rfl (Nat.le_of_ble_eq_true rfl) hl.1 hR hS dX0_netsInto_46 ⟨Nat.le_refl _, Nat.le_refl _⟩ (fun v5 hf H locs hR hS => ?_)
        refine lv_iadd hC.1 hC.2.1 dX0_netsInto_49 ?_
        refine x_ias hC (fun f => (xce_47 G kp f _)) hR hS dX0_netsInto_50 hf (fun I6 hf H locs hR hS => ?_)
        refine lv_aload_n hC.1 hC.2.1 dX0_netsInto_51 rfl (lv_at hl 1 rfl) ?_
        refine lv_aload_n hC.1 hC.2.1 dX0_netsInto_52 rfl (lv_at hl 0 rfl) ?_
        refine x_get (v := .ref (xz G + 12)) hC xf_X0_16 (xce_11 G kp _ _) rfl hR dX0_netsInto_53 ?_
        refine lv_iload hC.1 hC.2.1 dX0_netsInto_56 (lv_at hl 4 rfl) ?_
        refine lv_iconst (v := 0) hC.1 hC.2.1 dX0_netsInto_58 (by decide) ?_
        refine x_cvi00 (rest := [.ref (xz G + 47)]) hC xy_X8_at tw_462 hf (fun _ h => M_X8_at_12 G l kp h) ⟨Nat.le_of_ble_eq_true rfl, Nat.le_of_ble_eq_true rfl⟩ (xce_12 G kp _ _) rfl rfl rfl (Nat.le_of_ble_eq_true rfl) hl.1 hR hS dX0_netsInto_59 ⟨Nat.le_refl _, Nat.le_refl _⟩ (fun v7 hf H locs hR hS => ?_)
        refine lv_dup2_11 hC.1 hC.2.1 dX0_netsInto_62 rfl rfl ?_
        refine x_ial hC (xce_47 G kp _ _) hR dX0_netsInto_63 hf (fun v8 hf => ?_)
        refine W.eq (g2 := F0 m 64 ls [.int v8, .int v7, .ref (xz G + 47)]) rfl ?_
        refine lv_aload_n hC.1 hC.2.1 dX0_netsInto_64 rfl (lv_at hl 0 rfl) ?_
        refine x_get (v := .ref (xz G + 12)) hC xf_X0_16 (xce_11 G kp _ _) rfl hR dX0_netsInto_65 ?_
        refine lv_iload hC.1 hC.2.1 dX0_netsInto_68 (lv_at hl 4 rfl) ?_
        refine lv_iconst (v := 3) hC.1 hC.2.1 dX0_netsInto_70 (by decide) ?_
        refine x_cvi00 (rest := [.int v8, .int v7, .ref (xz G + 47)]) hC xy_X8_at tw_462 hf (fun _ h => M_X8_at_12 G l kp h) ⟨Nat.le_of_ble_eq_true rfl, Nat.le_of_ble_eq_true rfl⟩ (xce_12 G kp _ _) rfl rfl rfl (Nat.le_of_ble_eq_true rfl) hl.1 hR hS dX0_netsInto_71 ⟨Nat.le_refl _, Nat.le_refl _⟩ (fun v9 hf H locs hR hS => ?_)
        refine lv_isub hC.1 hC.2.1 dX0_netsInto_74 ?_
        refine x_ias hC (fun f => (xce_47 G kp f _)) hR hS dX0_netsInto_75 hf (fun I10 hf H locs hR hS => ?_)
        refine x_iinc (d := 1) (lv' := fun y11 => [(4, .int y11), (0, .ref (xz G + 11)), (1, .ref (xz G + 47)), (2, .int x2), (3, .int x3)]) (k := 4) hC hl dX0_netsInto_76 rfl (by decide) (Nat.le_of_ble_eq_true rfl) hf (fun _ => rfl) (fun y11 hf ls hl => ?_)
        refine lv_goto (tgt := 8) hC.1 hC.2.1 dX0_netsInto_79 (by decide) ?_
        exact hk8 y11 I10 hf _ _ _ hR hS (lv_sub hl [1, 2, 3, 4, 0] rfl)
set_option maxRecDepth 20000 in
theorem M_X0_netsInto_47 (G : XG) (l : Launch) (kp : Bool) (N : Nat) {I : xTI} {L : xTL} {x2 : Int32} {x3 : Int32} {rI : xTI} (hf : F_X0_netsInto_47 N I x2 x3 = some rI) : xMet G l yX0_netsInto cX0_netsInto 5 none 2 46 kp [.ref (xz G + 11), .ref (xz G + 47), .int x2, .int x3] I L none rI L := by
  refine xMet.ofW (by decide +kernel) (Nat.le_of_ble_eq_true rfl) ?_
  intro p e s m args below meth c hC H locs ls hR hS hl
  replace hC : xC G p s m args meth c cX0_netsInto 5 RX0 none := hC
  replace hl : lv_has ls 5 [(0, .ref (xz G + 11)), (1, .ref (xz G + 47)), (2, .int x2), (3, .int x3)] := hl
  unfold F_X0_netsInto_47 at hf
  refine lv_aload_n hC.1 hC.2.1 dX0_netsInto_0 rfl (lv_at hl 1 rfl) ?_
  refine lv_iconst (v := 0) hC.1 hC.2.1 dX0_netsInto_1 (by decide) ?_
  refine x_csv10 (rest := []) hC xy_J7_fill_53178 tw_887 hf (fun _ h => M_J7_fill_53178_47 G l kp N h) ⟨Nat.le_of_ble_eq_true rfl, Nat.le_of_ble_eq_true rfl⟩ rfl rfl (Nat.le_of_ble_eq_true rfl) hl.1 hR hS dX0_netsInto_2 ⟨Nat.le_refl _, Nat.le_refl _⟩ (fun I1 hf H locs hR hS => ?_)
  refine lv_iconst (v := 0) hC.1 hC.2.1 dX0_netsInto_5 (by decide) ?_
  refine lv_istore (lv' := [(4, .int 0), (0, .ref (xz G + 11)), (1, .ref (xz G + 47)), (2, .int x2), (3, .int x3)]) hC.1 hC.2.1 dX0_netsInto_6 hl (Nat.le_of_ble_eq_true rfl) rfl (fun ls hl => ?_)
  exact W_X0_netsInto_47_l8 hC N _ 0 I1 hf _ _ _ hR hS (lv_sub hl [1, 2, 3, 4, 0] rfl)
set_option maxRecDepth 20000 in
theorem W_X7_mostParts_j118 {G : XG} {l : Launch} {kp : Bool} {p : Program} {e : Env} {s : State} {m : MethodId} {args : Array Value} {below : List Frame} {meth : Method} {c : Code} (hC : xC G p s m args meth c cX7_mostParts 7 RX7 (some .int)) (N : Nat) {I : xTI} {L : xTL} {r : Int32} {rI : xTI} {x1 : Int32} {x2 : Int32} {x3 : Int32} {t1 : Int32} {t2 : Int32} (k20 : Int32 × xTI → Option (Int32 × xTI)) (hk20 : ∀ (x3 : Int32) (I : xTI) , k20 (x3, I) = some (r, rI) → ∀ (H : Heap) (locs : List Loc) (ls : Array Slot), xRep G kp I L H → xS G s.heap H locs → lv_has ls 7 [(0, .ref (xz G + 46)), (1, .int x1), (2, .int x2), (3, .int x3)] → W p l e (xrm 1 23) s m args below meth c H locs 0 0 (xMQ G kp below args s (some (.int r)) rI L) (F0 m 20 ls [])) (hf : F_X7_mostParts_j118 k20 N I x1 x2 x3 t1 t2 = some (r, rI)) : ∀ (H : Heap) (locs : List Loc) (ls : Array Slot), xRep G kp I L H → xS G s.heap H locs → lv_has ls 7 [(0, .ref (xz G + 46)), (1, .int x1), (2, .int x2), (3, .int x3)] → W p l e (xrm 1 23) s m args below meth c H locs 0 0 (xMQ G kp below args s (some (.int r)) rI L) (F0 m 118 ls [.int t2, .int t1, .ref (xz G + 50)]) := by
  intro H locs ls hR hS hl
  unfold F_X7_mostParts_j118 at hf
  refine x_ias hC (fun f => (xce_50 G kp f _)) hR hS dX7_mostParts_118 hf (fun I1 hf H locs hR hS => ?_)
  refine x_iinc (d := 1) (lv' := fun y2 => [(3, .int y2), (0, .ref (xz G + 46)), (1, .int x1), (2, .int x2)]) (k := 3) hC hl dX7_mostParts_119 rfl (by decide) (Nat.le_of_ble_eq_true rfl) hf (fun _ => rfl) (fun y2 hf ls hl => ?_)
  refine lv_goto (tgt := 20) hC.1 hC.2.1 dX7_mostParts_122 (by decide) ?_
  exact hk20 y2 I1 hf _ _ _ hR hS (lv_sub hl [1, 2, 3, 0] rfl)
set_option maxRecDepth 20000 in
theorem W_X7_mostParts_l31 {G : XG} {l : Launch} {kp : Bool} {p : Program} {e : Env} {s : State} {m : MethodId} {args : Array Value} {below : List Frame} {meth : Method} {c : Code} (hC : xC G p s m args meth c cX7_mostParts 7 RX7 (some .int)) (N : Nat) {L : xTL} {r : Int32} {rI : xTI} {x1 : Int32} {x2 : Int32} {x3 : Int32} (k20 : Int32 × xTI → Option (Int32 × xTI)) (hk20 : ∀ (x3 : Int32) (I : xTI) , k20 (x3, I) = some (r, rI) → ∀ (H : Heap) (locs : List Loc) (ls : Array Slot), xRep G kp I L H → xS G s.heap H locs → lv_has ls 7 [(0, .ref (xz G + 46)), (1, .int x1), (2, .int x2), (3, .int x3)] → W p l e (xrm 1 23) s m args below meth c H locs 0 0 (xMQ G kp below args s (some (.int r)) rI L) (F0 m 20 ls [])) : ∀ (n : Nat) (x4 : Int32) (x5 : Int32) (I : xTI) , xlp (F_X7_mostParts_b31 k20 N x1 x2 x3 ) n (x4, x5, I) = some (r, rI) → ∀ (H : Heap) (locs : List Loc) (ls : Array Slot), xRep G kp I L H → xS G s.heap H locs → lv_has ls 7 [(0, .ref (xz G + 46)), (1, .int x1), (2, .int x2), (3, .int x3), (4, .int x4), (5, .int x5)] → W p l e (xrm 1 23) s m args below meth c H locs 0 0 (xMQ G kp below args s (some (.int r)) rI L) (F0 m 31 ls []) := by
  intro n
  induction n with
  | zero =>
    intro x4 x5 I hf
    cases hf
  | succ n hk31 =>
    intro x4 x5 I hf H locs ls hR hS hl
    rw [xlp_s, E_X7_mostParts_b31] at hf
    unfold F_X7_mostParts_c31 at hf
    refine lv_iload hC.1 hC.2.1 dX7_mostParts_31 (lv_at hl 5 rfl) ?_
    refine lv_iload_n hC.1 hC.2.1 dX7_mostParts_33 rfl (lv_at hl 1 rfl) ?_
    refine x_ic_ge (tgt := 95) hC dX7_mostParts_34 (by decide) hf (fun hf => ?_) (fun hf => ?_)
    · refine lv_aload_n hC.1 hC.2.1 dX7_mostParts_95 rfl (lv_at hl 0 rfl) ?_
      refine x_get (v := .ref (xz G + 50)) hC xf_X7_21 (xce_46 G kp _ _) rfl hR dX7_mostParts_96 ?_
      refine lv_iload_n hC.1 hC.2.1 dX7_mostParts_99 rfl (lv_at hl 3 rfl) ?_
      refine lv_aload_n hC.1 hC.2.1 dX7_mostParts_100 rfl (lv_at hl 0 rfl) ?_
      refine x_get (v := .ref (xz G + 49)) hC xf_X7_18 (xce_46 G kp _ _) rfl hR dX7_mostParts_101 ?_
      refine lv_iload_n hC.1 hC.2.1 dX7_mostParts_104 rfl (lv_at hl 3 rfl) ?_
      refine x_ial hC (xce_49 G kp _ _) hR dX7_mostParts_105 hf (fun v1 hf => ?_)
      refine x_if_ne (tgt := 116) hC dX7_mostParts_106 (by decide) hf (fun hf => ?_) (fun hf => ?_)
      · refine lv_iload hC.1 hC.2.1 dX7_mostParts_116 (lv_at hl 4 rfl) ?_
        exact W_X7_mostParts_j118 hC N _ hk20 hf _ _ _ hR hS (lv_sub hl [0, 1, 2, 3] rfl)
      · refine lv_iload hC.1 hC.2.1 dX7_mostParts_109 (lv_at hl 4 rfl) ?_
        refine lv_iconst (v := 1) hC.1 hC.2.1 dX7_mostParts_111 (by decide) ?_
        refine lv_iadd hC.1 hC.2.1 dX7_mostParts_112 ?_
        refine lv_goto (tgt := 118) hC.1 hC.2.1 dX7_mostParts_113 (by decide) ?_
        exact W_X7_mostParts_j118 hC N _ hk20 hf _ _ _ hR hS (lv_sub hl [0, 1, 2, 3] rfl)
    · refine lv_iload_n hC.1 hC.2.1 dX7_mostParts_37 rfl (lv_at hl 3 rfl) ?_
      refine lv_iload hC.1 hC.2.1 dX7_mostParts_38 (lv_at hl 5 rfl) ?_
      refine lv_ishr hC.1 hC.2.1 dX7_mostParts_40 ?_
      refine lv_iconst (v := 1) hC.1 hC.2.1 dX7_mostParts_41 (by decide) ?_
      refine lv_iand hC.1 hC.2.1 dX7_mostParts_42 ?_
      refine x_if_eq (tgt := 89) hC dX7_mostParts_43 (by decide) hf (fun hf => ?_) (fun hf => ?_)
      · refine x_iinc (d := 1) (lv' := fun y2 => [(5, .int y2), (0, .ref (xz G + 46)), (1, .int x1), (2, .int x2), (3, .int x3), (4, .int x4)]) (k := 5) hC hl dX7_mostParts_89 rfl (by decide) (Nat.le_of_ble_eq_true rfl) hf (fun _ => rfl) (fun y2 hf ls hl => ?_)
        refine lv_goto (tgt := 31) hC.1 hC.2.1 dX7_mostParts_92 (by decide) ?_
        exact hk31 x4 y2 I hf _ _ _ hR hS (lv_sub hl [1, 2, 3, 4, 5, 0] rfl)
      · refine lv_iload_n hC.1 hC.2.1 dX7_mostParts_46 rfl (lv_at hl 3 rfl) ?_
        refine lv_iconst (v := 1) hC.1 hC.2.1 dX7_mostParts_47 (by decide) ?_
        refine lv_iload hC.1 hC.2.1 dX7_mostParts_48 (lv_at hl 5 rfl) ?_
        refine lv_ishl hC.1 hC.2.1 dX7_mostParts_50 ?_
        refine lv_ixor hC.1 hC.2.1 dX7_mostParts_51 ?_
        refine x_ist (lv' := fun y3 => [(6, .int y3), (0, .ref (xz G + 46)), (1, .int x1), (2, .int x2), (3, .int x3), (4, .int x4), (5, .int x5)]) hC hl dX7_mostParts_52 (Nat.le_of_ble_eq_true rfl) hf (fun _ => rfl) (fun y3 hf ls hl => ?_)
        refine lv_aload_n hC.1 hC.2.1 dX7_mostParts_54 rfl (lv_at hl 1 rfl) ?_
        refine x_get (v := .ref (xz G + 49)) hC xf_X7_18 (xce_46 G kp _ _) rfl hR dX7_mostParts_55 ?_
        refine lv_iload_n hC.1 hC.2.1 dX7_mostParts_58 rfl (lv_at hl 4 rfl) ?_
        refine lv_aload_n hC.1 hC.2.1 dX7_mostParts_59 rfl (lv_at hl 1 rfl) ?_
        refine x_get (v := .ref (xz G + 49)) hC xf_X7_18 (xce_46 G kp _ _) rfl hR dX7_mostParts_60 ?_
        refine W.eq (g2 := F0 m 63 ls [.ref (xz G + 49), .int x3, .ref (xz G + 49)]) rfl ?_
        refine lv_iload hC.1 hC.2.1 dX7_mostParts_63 (lv_at hl 0 rfl) ?_
        refine x_ial hC (xce_49 G kp _ _) hR dX7_mostParts_65 hf (fun v4 hf => ?_)
        refine lv_aload_n hC.1 hC.2.1 dX7_mostParts_66 rfl (lv_at hl 1 rfl) ?_
        refine x_get (v := .ref (xz G + 48)) hC xf_X7_15 (xce_46 G kp _ _) rfl hR dX7_mostParts_67 ?_
        refine lv_iload hC.1 hC.2.1 dX7_mostParts_70 (lv_at hl 6 rfl) ?_
        refine x_ial hC (xce_48 G kp _ _) hR dX7_mostParts_72 hf (fun v5 hf => ?_)
        refine lv_iadd hC.1 hC.2.1 dX7_mostParts_73 ?_
        refine x_ias hC (fun f => (xce_49 G kp f _)) hR hS dX7_mostParts_74 hf (fun I6 hf H locs hR hS => ?_)
        refine lv_iload hC.1 hC.2.1 dX7_mostParts_75 (lv_at hl 5 rfl) ?_
        refine lv_aload_n hC.1 hC.2.1 dX7_mostParts_77 rfl (lv_at hl 1 rfl) ?_
        refine x_get (v := .ref (xz G + 50)) hC xf_X7_21 (xce_46 G kp _ _) rfl hR dX7_mostParts_78 ?_
        refine lv_iload hC.1 hC.2.1 dX7_mostParts_81 (lv_at hl 0 rfl) ?_
        refine W.eq (g2 := F0 m 83 ls [.int y3, .ref (xz G + 50), .int x4]) rfl ?_
        refine x_ial hC (xce_50 G kp _ _) hR dX7_mostParts_83 hf (fun v7 hf => ?_)
        refine x_mxi (rest := []) hC tw_1039 hl.1 (Nat.le_of_ble_eq_true rfl) (Nat.le_of_ble_eq_true rfl) dX7_mostParts_84 ⟨Nat.le_refl _, Nat.le_refl _⟩ hf (fun v8 hf => ?_)
        refine lv_istore (lv' := [(4, .int v8), (6, .int y3), (0, .ref (xz G + 46)), (1, .int x1), (2, .int x2), (3, .int x3), (5, .int x5)]) hC.1 hC.2.1 dX7_mostParts_87 hl (Nat.le_of_ble_eq_true rfl) rfl (fun ls hl => ?_)
        refine x_iinc (d := 1) (lv' := fun y9 => [(5, .int y9), (4, .int v8), (6, .int y3), (0, .ref (xz G + 46)), (1, .int x1), (2, .int x2), (3, .int x3)]) (k := 6) hC hl dX7_mostParts_89 rfl (by decide) (Nat.le_of_ble_eq_true rfl) hf (fun _ => rfl) (fun y9 hf ls hl => ?_)
        refine lv_goto (tgt := 31) hC.1 hC.2.1 dX7_mostParts_92 (by decide) ?_
        exact hk31 v8 y9 I6 hf _ _ _ hR hS (lv_sub hl [3, 4, 5, 6, 1, 0] rfl)
set_option maxRecDepth 20000 in
theorem W_X7_mostParts_l20 {G : XG} {l : Launch} {kp : Bool} {p : Program} {e : Env} {s : State} {m : MethodId} {args : Array Value} {below : List Frame} {meth : Method} {c : Code} (hC : xC G p s m args meth c cX7_mostParts 7 RX7 (some .int)) (N : Nat) {L : xTL} {r : Int32} {rI : xTI} {x1 : Int32} {x2 : Int32} : ∀ (n : Nat) (x3 : Int32) (I : xTI) , xlp (F_X7_mostParts_b20 N x1 x2 ) n (x3, I) = some (r, rI) → ∀ (H : Heap) (locs : List Loc) (ls : Array Slot), xRep G kp I L H → xS G s.heap H locs → lv_has ls 7 [(0, .ref (xz G + 46)), (1, .int x1), (2, .int x2), (3, .int x3)] → W p l e (xrm 1 23) s m args below meth c H locs 0 0 (xMQ G kp below args s (some (.int r)) rI L) (F0 m 20 ls []) := by
  intro n
  induction n with
  | zero =>
    intro x3 I hf
    cases hf
  | succ n hk20 =>
    intro x3 I hf H locs ls hR hS hl
    rw [xlp_s, E_X7_mostParts_b20] at hf
    unfold F_X7_mostParts_c20 at hf
    refine lv_iload_n hC.1 hC.2.1 dX7_mostParts_20 rfl (lv_at hl 3 rfl) ?_
    refine lv_iload_n hC.1 hC.2.1 dX7_mostParts_21 rfl (lv_at hl 2 rfl) ?_
    refine x_ic_ge (tgt := 125) hC dX7_mostParts_22 (by decide) hf (fun hf => ?_) (fun hf => ?_)
    · refine lv_aload_n hC.1 hC.2.1 dX7_mostParts_125 rfl (lv_at hl 0 rfl) ?_
      refine x_get (v := .ref (xz G + 50)) hC xf_X7_21 (xce_46 G kp _ _) rfl hR dX7_mostParts_126 ?_
      refine lv_iload_n hC.1 hC.2.1 dX7_mostParts_129 rfl (lv_at hl 2 rfl) ?_
      refine lv_iconst (v := 1) hC.1 hC.2.1 dX7_mostParts_130 (by decide) ?_
      refine lv_isub hC.1 hC.2.1 dX7_mostParts_131 ?_
      refine x_ial hC (xce_50 G kp _ _) hR dX7_mostParts_132 hf (fun v1 hf => ?_)
      obtain ⟨h91, h92⟩ := Prod.mk.inj (Option.some.inj hf)
      subst h91
      subst h92
      exact x_iret hC hR hS dX7_mostParts_133
    · refine lv_iconst (v := 0) hC.1 hC.2.1 dX7_mostParts_25 (by decide) ?_
      refine lv_istore (lv' := [(4, .int 0), (0, .ref (xz G + 46)), (1, .int x1), (2, .int x2), (3, .int x3)]) hC.1 hC.2.1 dX7_mostParts_26 hl (Nat.le_of_ble_eq_true rfl) rfl (fun ls hl => ?_)
      refine lv_iconst (v := 0) hC.1 hC.2.1 dX7_mostParts_28 (by decide) ?_
      refine lv_istore (lv' := [(5, .int 0), (4, .int 0), (0, .ref (xz G + 46)), (1, .int x1), (2, .int x2), (3, .int x3)]) hC.1 hC.2.1 dX7_mostParts_29 hl (Nat.le_of_ble_eq_true rfl) rfl (fun ls hl => ?_)
      exact W_X7_mostParts_l31 hC N _ hk20 _ 0 0 I hf _ _ _ hR hS (lv_sub hl [2, 3, 4, 5, 1, 0] rfl)
set_option maxRecDepth 20000 in
theorem M_X7_mostParts (G : XG) (l : Launch) (kp : Bool) (N : Nat) {I : xTI} {L : xTL} {x1 : Int32} {r : Int32} {rI : xTI} (hf : F_X7_mostParts N I x1 = some (r, rI)) : xMet G l yX7_mostParts cX7_mostParts 7 (some .int) 1 23 kp [.ref (xz G + 46), .int x1] I L (some (.int r)) rI L := by
  refine xMet.ofW (by decide +kernel) (Nat.le_of_ble_eq_true rfl) ?_
  intro p e s m args below meth c hC H locs ls hR hS hl
  replace hC : xC G p s m args meth c cX7_mostParts 7 RX7 (some .int) := hC
  replace hl : lv_has ls 7 [(0, .ref (xz G + 46)), (1, .int x1)] := hl
  unfold F_X7_mostParts at hf
  refine lv_iconst (v := 1) hC.1 hC.2.1 dX7_mostParts_0 (by decide) ?_
  refine lv_iload_n hC.1 hC.2.1 dX7_mostParts_1 rfl (lv_at hl 1 rfl) ?_
  refine lv_ishl hC.1 hC.2.1 dX7_mostParts_2 ?_
  refine x_istn (lv' := fun y1 => [(2, .int y1), (0, .ref (xz G + 46)), (1, .int x1)]) hC hl dX7_mostParts_3 rfl (Nat.le_of_ble_eq_true rfl) hf (fun _ => rfl) (fun y1 hf ls hl => ?_)
  refine lv_aload_n hC.1 hC.2.1 dX7_mostParts_4 rfl (lv_at hl 1 rfl) ?_
  refine x_get (v := .ref (xz G + 49)) hC xf_X7_18 (xce_46 G kp _ _) rfl hR dX7_mostParts_5 ?_
  refine lv_iconst (v := 0) hC.1 hC.2.1 dX7_mostParts_8 (by decide) ?_
  refine lv_iconst (v := 0) hC.1 hC.2.1 dX7_mostParts_9 (by decide) ?_
  refine x_ias hC (fun f => (xce_49 G kp f _)) hR hS dX7_mostParts_10 hf (fun I2 hf H locs hR hS => ?_)
  refine lv_aload_n hC.1 hC.2.1 dX7_mostParts_11 rfl (lv_at hl 1 rfl) ?_
  refine x_get (v := .ref (xz G + 50)) hC xf_X7_21 (xce_46 G kp _ _) rfl hR dX7_mostParts_12 ?_
  refine W.eq (g2 := F0 m 15 ls [.ref (xz G + 50)]) rfl ?_
  refine lv_iconst (v := 0) hC.1 hC.2.1 dX7_mostParts_15 (by decide) ?_
  refine lv_iconst (v := 0) hC.1 hC.2.1 dX7_mostParts_16 (by decide) ?_
  refine x_ias hC (fun f => (xce_50 G kp f _)) hR hS dX7_mostParts_17 hf (fun I3 hf H locs hR hS => ?_)
  refine lv_iconst (v := 1) hC.1 hC.2.1 dX7_mostParts_18 (by decide) ?_
  refine lv_istore_n (lv' := [(3, .int 1), (2, .int y1), (0, .ref (xz G + 46)), (1, .int x1)]) hC.1 hC.2.1 dX7_mostParts_19 rfl hl (Nat.le_of_ble_eq_true rfl) rfl (fun ls hl => ?_)
  exact W_X7_mostParts_l20 hC N _ 1 I3 hf _ _ _ hR hS (lv_sub hl [2, 3, 1, 0] rfl)
set_option maxRecDepth 20000 in
theorem W_X7_fewestPasses_l19 {G : XG} {l : Launch} {kp : Bool} {p : Program} {e : Env} {s : State} {m : MethodId} {args : Array Value} {below : List Frame} {meth : Method} {c : Code} (hC : xC G p s m args meth c cX7_fewestPasses 6 RX7 (some .int)) (N : Nat) {L : xTL} {r : Int32} {rI : xTI} : ∀ (n : Nat) (x4 : Int32) (x5 : Int32) (I : xTI) , xlp (F_X7_fewestPasses_b19 N ) n (x4, x5, I) = some (r, rI) → ∀ (H : Heap) (locs : List Loc) (ls : Array Slot), xRep G kp I L H → xS G s.heap H locs → lv_has ls 6 [(0, .ref (xz G + 46)), (4, .int x4), (5, .int x5)] → W p l e (xrm 3 70) s m args below meth c H locs 0 0 (xMQ G kp below args s (some (.int r)) rI L) (F0 m 19 ls []) := by
  intro n
  induction n with
  | zero =>
    intro x4 x5 I hf
    cases hf
  | succ n hk19 =>
    intro x4 x5 I hf H locs ls hR hS hl
    rw [xlp_s, E_X7_fewestPasses_b19] at hf
    unfold F_X7_fewestPasses_c19 at hf
    refine lv_iload hC.1 hC.2.1 dX7_fewestPasses_19 (lv_at hl 2 rfl) ?_
    refine lv_bipush (v := 12) hC.1 hC.2.1 dX7_fewestPasses_21 (by decide) ?_
    refine x_ic_ge (tgt := 68) hC dX7_fewestPasses_23 (by decide) hf (fun hf => ?_) (fun hf => ?_)
    · refine lv_iload hC.1 hC.2.1 dX7_fewestPasses_68 (lv_at hl 1 rfl) ?_
      refine lv_aload_n hC.1 hC.2.1 dX7_fewestPasses_70 rfl (lv_at hl 0 rfl) ?_
      refine lv_iload hC.1 hC.2.1 dX7_fewestPasses_71 (lv_at hl 1 rfl) ?_
      refine x_cvi10 (rest := [.int x4]) hC xy_X7_mostParts tw_1035 hf (fun _ _ h => M_X7_mostParts G l kp N h) ⟨Nat.le_of_ble_eq_true rfl, Nat.le_of_ble_eq_true rfl⟩ (xce_46 G kp _ _) rfl rfl rfl (Nat.le_of_ble_eq_true rfl) hl.1 hR hS dX7_fewestPasses_73 ⟨Nat.le_refl _, Nat.le_refl _⟩ (fun v1 I2 hf H locs hR hS => ?_)
      refine lv_isub hC.1 hC.2.1 dX7_fewestPasses_76 ?_
      obtain ⟨h91, h92⟩ := Prod.mk.inj (Option.some.inj hf)
      subst h91
      subst h92
      exact x_iret hC hR hS dX7_fewestPasses_77
    · refine lv_aload_n hC.1 hC.2.1 dX7_fewestPasses_26 rfl (lv_at hl 0 rfl) ?_
      refine x_get (v := .ref (xz G + 47)) hC xf_X7_11 (xce_46 G kp _ _) rfl hR dX7_fewestPasses_27 ?_
      refine lv_iload hC.1 hC.2.1 dX7_fewestPasses_30 (lv_at hl 2 rfl) ?_
      refine x_ial hC (xce_47 G kp _ _) hR dX7_fewestPasses_32 hf (fun v3 hf => ?_)
      refine x_if_eq (tgt := 62) hC dX7_fewestPasses_33 (by decide) hf (fun hf => ?_) (fun hf => ?_)
      · refine x_iinc (d := 1) (lv' := fun y4 => [(5, .int y4), (0, .ref (xz G + 46)), (4, .int x4)]) (k := 2) hC hl dX7_fewestPasses_62 rfl (by decide) (Nat.le_of_ble_eq_true rfl) hf (fun _ => rfl) (fun y4 hf ls hl => ?_)
        refine lv_goto (tgt := 19) hC.1 hC.2.1 dX7_fewestPasses_65 (by decide) ?_
        exact hk19 x4 y4 I hf _ _ _ hR hS (lv_sub hl [1, 2, 0] rfl)
      · refine lv_iload hC.1 hC.2.1 dX7_fewestPasses_36 (lv_at hl 1 rfl) ?_
        refine lv_bipush (v := 10) hC.1 hC.2.1 dX7_fewestPasses_38 (by decide) ?_
        refine x_ic_lt (tgt := 45) hC dX7_fewestPasses_40 (by decide) hf (fun hf => ?_) (fun hf => ?_)
        · refine lv_aload_n hC.1 hC.2.1 dX7_fewestPasses_45 rfl (lv_at hl 0 rfl) ?_
          refine x_get (v := .ref (xz G + 48)) hC xf_X7_15 (xce_46 G kp _ _) rfl hR dX7_fewestPasses_46 ?_
          refine lv_iload hC.1 hC.2.1 dX7_fewestPasses_49 (lv_at hl 1 rfl) ?_
          refine lv_aload_n hC.1 hC.2.1 dX7_fewestPasses_51 rfl (lv_at hl 0 rfl) ?_
          refine x_get (v := .ref (xz G + 47)) hC xf_X7_11 (xce_46 G kp _ _) rfl hR dX7_fewestPasses_52 ?_
          refine lv_iload hC.1 hC.2.1 dX7_fewestPasses_55 (lv_at hl 2 rfl) ?_
          refine x_ial hC (xce_47 G kp _ _) hR dX7_fewestPasses_57 hf (fun v5 hf => ?_)
          refine x_ias hC (fun f => (xce_48 G kp f _)) hR hS dX7_fewestPasses_58 hf (fun I6 hf H locs hR hS => ?_)
          refine x_iinc (d := 1) (lv' := fun y7 => [(4, .int y7), (0, .ref (xz G + 46)), (5, .int x5)]) (k := 1) hC hl dX7_fewestPasses_59 rfl (by decide) (Nat.le_of_ble_eq_true rfl) hf (fun _ => rfl) (fun y7 hf ls hl => ?_)
          refine x_iinc (d := 1) (lv' := fun y8 => [(5, .int y8), (4, .int y7), (0, .ref (xz G + 46))]) (k := 2) hC hl dX7_fewestPasses_62 rfl (by decide) (Nat.le_of_ble_eq_true rfl) hf (fun _ => rfl) (fun y8 hf ls hl => ?_)
          refine lv_goto (tgt := 19) hC.1 hC.2.1 dX7_fewestPasses_65 (by decide) ?_
          exact hk19 y7 y8 I6 hf _ _ _ hR hS (lv_sub hl [2, 1, 0] rfl)
        · refine lv_iconst (v := (-1)) hC.1 hC.2.1 dX7_fewestPasses_43 (by decide) ?_
          obtain ⟨h91, h92⟩ := Prod.mk.inj (Option.some.inj hf)
          subst h91
          subst h92
          exact x_iret hC hR hS dX7_fewestPasses_44
set_option maxRecDepth 20000 in
theorem M_X7_fewestPasses (G : XG) (l : Launch) (kp : Bool) (N : Nat) {I : xTI} {L : xTL} {x2 : Int32} {x3 : Int32} {r : Int32} {rI : xTI} (hf : F_X7_fewestPasses N I x2 x3 = some (r, rI)) : xMet G l yX7_fewestPasses cX7_fewestPasses 6 (some .int) 3 70 kp [.ref (xz G + 46), .ref (xz G + 1), .int x2, .int x3] I L (some (.int r)) rI L := by
  refine xMet.ofW (by decide +kernel) (Nat.le_of_ble_eq_true rfl) ?_
  intro p e s m args below meth c hC H locs ls hR hS hl
  replace hC : xC G p s m args meth c cX7_fewestPasses 6 RX7 (some .int) := hC
  replace hl : lv_has ls 6 [(0, .ref (xz G + 46)), (1, .ref (xz G + 1)), (2, .int x2), (3, .int x3)] := hl
  unfold F_X7_fewestPasses at hf
  refine lv_aload_n hC.1 hC.2.1 dX7_fewestPasses_0 rfl (lv_at hl 1 rfl) ?_
  refine x_get (v := .ref (xz G + 11)) hC xf_X7_37 (xce_1 G kp _ _) rfl hR dX7_fewestPasses_1 ?_
  refine lv_aload_n hC.1 hC.2.1 dX7_fewestPasses_4 rfl (lv_at hl 0 rfl) ?_
  refine x_get (v := .ref (xz G + 47)) hC xf_X7_11 (xce_46 G kp _ _) rfl hR dX7_fewestPasses_5 ?_
  refine lv_iload_n hC.1 hC.2.1 dX7_fewestPasses_8 rfl (lv_at hl 2 rfl) ?_
  refine lv_iload_n hC.1 hC.2.1 dX7_fewestPasses_9 rfl (lv_at hl 3 rfl) ?_
  refine x_cvv10 (rest := []) hC xy_X0_netsInto tw_1034 hf (fun _ h => M_X0_netsInto_47 G l kp N h) ⟨Nat.le_of_ble_eq_true rfl, Nat.le_of_ble_eq_true rfl⟩ (xce_11 G kp _ _) rfl rfl rfl (Nat.le_of_ble_eq_true rfl) hl.1 hR hS dX7_fewestPasses_10 ⟨Nat.le_refl _, Nat.le_refl _⟩ (fun I1 hf H locs hR hS => ?_)
  refine lv_iconst (v := 0) hC.1 hC.2.1 dX7_fewestPasses_13 (by decide) ?_
  refine lv_istore (lv' := [(4, .int 0), (0, .ref (xz G + 46)), (1, .ref (xz G + 1)), (2, .int x2), (3, .int x3)]) hC.1 hC.2.1 dX7_fewestPasses_14 hl (Nat.le_of_ble_eq_true rfl) rfl (fun ls hl => ?_)
  refine lv_iconst (v := 0) hC.1 hC.2.1 dX7_fewestPasses_16 (by decide) ?_
  refine lv_istore (lv' := [(5, .int 0), (4, .int 0), (0, .ref (xz G + 46)), (1, .ref (xz G + 1)), (2, .int x2), (3, .int x3)]) hC.1 hC.2.1 dX7_fewestPasses_17 hl (Nat.le_of_ble_eq_true rfl) rfl (fun ls hl => ?_)
  exact W_X7_fewestPasses_l19 hC N _ 0 0 I1 hf _ _ _ hR hS (lv_sub hl [2, 1, 0] rfl)
set_option maxRecDepth 20000 in
theorem M_X10_least (G : XG) (l : Launch) (kp : Bool) (N : Nat) {I : xTI} {L : xTL} {x1 : Int32} {x2 : Int32} {r : Int32} {rI : xTI} (hf : F_X10_least N I x1 x2 = some (r, rI)) : xMet G l yX10_least cX10_least 4 (some .int) 4 95 kp [.ref (xz G + 0), .int x1, .int x2] I L (some (.int r)) rI L := by
  refine xMet.ofW (by decide +kernel) (Nat.le_of_ble_eq_true rfl) ?_
  intro p e s m args below meth c hC H locs ls hR hS hl
  replace hC : xC G p s m args meth c cX10_least 4 RX10 (some .int) := hC
  replace hl : lv_has ls 4 [(0, .ref (xz G + 0)), (1, .int x1), (2, .int x2)] := hl
  unfold F_X10_least at hf
  refine lv_aload_n hC.1 hC.2.1 dX10_least_0 rfl (lv_at hl 0 rfl) ?_
  refine lv_iload_n hC.1 hC.2.1 dX10_least_1 rfl (lv_at hl 1 rfl) ?_
  refine x_cvi00 (rest := []) hC xy_X10_isStock tw_431 hf (fun _ h => M_X10_isStock G l kp h) ⟨Nat.le_of_ble_eq_true rfl, Nat.le_of_ble_eq_true rfl⟩ (xce_0 G kp _ _) rfl rfl rfl (Nat.le_of_ble_eq_true rfl) hl.1 hR hS dX10_least_2 ⟨Nat.le_refl _, Nat.le_refl _⟩ (fun v1 hf H locs hR hS => ?_)
  refine x_if_ne (tgt := 15) hC dX10_least_5 (by decide) hf (fun hf => ?_) (fun hf => ?_)
  · refine lv_iload_n hC.1 hC.2.1 dX10_least_15 rfl (lv_at hl 2 rfl) ?_
    refine x_if_ge (tgt := 26) hC dX10_least_16 (by decide) hf (fun hf => ?_) (fun hf => ?_)
    · refine lv_aload_n hC.1 hC.2.1 dX10_least_26 rfl (lv_at hl 0 rfl) ?_
      refine x_get (v := .ref (xz G + 46)) hC xf_X10_50 (xce_0 G kp _ _) rfl hR dX10_least_27 ?_
      refine lv_aload_n hC.1 hC.2.1 dX10_least_30 rfl (lv_at hl 0 rfl) ?_
      refine x_get (v := .ref (xz G + 1)) hC xf_X10_10 (xce_0 G kp _ _) rfl hR dX10_least_31 ?_
      refine lv_iload_n hC.1 hC.2.1 dX10_least_34 rfl (lv_at hl 1 rfl) ?_
      refine lv_iload_n hC.1 hC.2.1 dX10_least_35 rfl (lv_at hl 2 rfl) ?_
      refine x_cvi10 (rest := []) hC xy_X7_fewestPasses tw_1030 hf (fun _ _ h => M_X7_fewestPasses G l kp N h) ⟨Nat.le_of_ble_eq_true rfl, Nat.le_of_ble_eq_true rfl⟩ (xce_46 G kp _ _) rfl rfl rfl (Nat.le_of_ble_eq_true rfl) hl.1 hR hS dX10_least_36 ⟨Nat.le_refl _, Nat.le_refl _⟩ (fun v2 I3 hf H locs hR hS => ?_)
      refine lv_istore_n (lv' := [(3, .int v2), (0, .ref (xz G + 0)), (1, .int x1), (2, .int x2)]) hC.1 hC.2.1 dX10_least_39 rfl hl (Nat.le_of_ble_eq_true rfl) rfl (fun ls hl => ?_)
      refine lv_iload_n hC.1 hC.2.1 dX10_least_40 rfl (lv_at hl 0 rfl) ?_
      refine lv_iconst (v := (-1)) hC.1 hC.2.1 dX10_least_41 (by decide) ?_
      refine x_ic_ne (tgt := 54) hC dX10_least_42 (by decide) hf (fun hf => ?_) (fun hf => ?_)
      · refine lv_iload_n hC.1 hC.2.1 dX10_least_54 rfl (lv_at hl 0 rfl) ?_
        obtain ⟨h91, h92⟩ := Prod.mk.inj (Option.some.inj hf)
        subst h91
        subst h92
        exact x_iret hC hR hS dX10_least_55
      · refine lv_aload_n hC.1 hC.2.1 dX10_least_45 rfl (lv_at hl 1 rfl) ?_
        refine lv_bipush (v := (-5)) hC.1 hC.2.1 dX10_least_46 (by decide) ?_
        refine x_cvi10 (rest := []) hC xy_X10_refuse tw_411 hf (fun _ _ h => M_X10_refuse G l kp h) ⟨Nat.le_of_ble_eq_true rfl, Nat.le_of_ble_eq_true rfl⟩ (xce_0 G kp _ _) rfl rfl rfl (Nat.le_of_ble_eq_true rfl) hl.1 hR hS dX10_least_48 ⟨Nat.le_refl _, Nat.le_refl _⟩ (fun v4 I5 hf H locs hR hS => ?_)
        refine lv_goto (tgt := 55) hC.1 hC.2.1 dX10_least_51 (by decide) ?_
        obtain ⟨h91, h92⟩ := Prod.mk.inj (Option.some.inj hf)
        subst h91
        subst h92
        exact x_iret hC hR hS dX10_least_55
    · refine lv_aload_n hC.1 hC.2.1 dX10_least_19 rfl (lv_at hl 0 rfl) ?_
      refine lv_bipush (v := (-7)) hC.1 hC.2.1 dX10_least_20 (by decide) ?_
      refine x_cvi10 (rest := []) hC xy_X10_refuse tw_411 hf (fun _ _ h => M_X10_refuse G l kp h) ⟨Nat.le_of_ble_eq_true rfl, Nat.le_of_ble_eq_true rfl⟩ (xce_0 G kp _ _) rfl rfl rfl (Nat.le_of_ble_eq_true rfl) hl.1 hR hS dX10_least_22 ⟨Nat.le_refl _, Nat.le_refl _⟩ (fun v6 I7 hf H locs hR hS => ?_)
      obtain ⟨h91, h92⟩ := Prod.mk.inj (Option.some.inj hf)
      subst h91
      subst h92
      exact x_iret hC hR hS dX10_least_25
  · refine lv_aload_n hC.1 hC.2.1 dX10_least_8 rfl (lv_at hl 0 rfl) ?_
    refine lv_bipush (v := (-3)) hC.1 hC.2.1 dX10_least_9 (by decide) ?_
    refine x_cvi10 (rest := []) hC xy_X10_refuse tw_411 hf (fun _ _ h => M_X10_refuse G l kp h) ⟨Nat.le_of_ble_eq_true rfl, Nat.le_of_ble_eq_true rfl⟩ (xce_0 G kp _ _) rfl rfl rfl (Nat.le_of_ble_eq_true rfl) hl.1 hR hS dX10_least_11 ⟨Nat.le_refl _, Nat.le_refl _⟩ (fun v8 I9 hf H locs hR hS => ?_)
    obtain ⟨h91, h92⟩ := Prod.mk.inj (Option.some.inj hf)
    subst h91
    subst h92
    exact x_iret hC hR hS dX10_least_14
set_option maxRecDepth 20000 in
theorem W_J7_fill_d0a16_51_l6 {G : XG} {l : Launch} {kp : Bool} {p : Program} {e : Env} {s : State} {m : MethodId} {args : Array Value} {below : List Frame} {meth : Method} {c : Code} (hC : xC G p s m args meth c cJ7_fill_d0a16 5 RJ7 none) (N : Nat) {I : xTI} {rL : xTL} {x1 : Int64} {x4 : Int32} : ∀ (n : Nat) (x3 : Int32) (L : xTL) , xlp (F_J7_fill_d0a16_51_b6 N x1 x4 ) n (x3, L) = some rL → ∀ (H : Heap) (locs : List Loc) (ls : Array Slot), xRep G kp I L H → xS G s.heap H locs → lv_has ls 5 [(0, .ref (xz G + 51)), (1, .long x1), (3, .int x3), (4, .int x4)] → W p l e (xrm 0 0) s m args below meth c H locs 0 0 (xMQ G kp below args s none I rL) (F0 m 6 ls []) := by
  intro n
  induction n with
  | zero =>
    intro x3 L hf
    cases hf
  | succ n hk6 =>
    intro x3 L hf H locs ls hR hS hl
    rw [xlp_s, E_J7_fill_d0a16_51_b6] at hf
    unfold F_J7_fill_d0a16_51_c6 at hf
    refine lv_iload_n hC.1 hC.2.1 dJ7_fill_d0a16_6 rfl (lv_at hl 2 rfl) ?_
    refine lv_iload hC.1 hC.2.1 dJ7_fill_d0a16_7 (lv_at hl 3 rfl) ?_
    refine x_ic_ge (tgt := 22) hC dJ7_fill_d0a16_9 (by decide) hf (fun hf => ?_) (fun hf => ?_)
    · have h9 := Option.some.inj hf
      subst h9
      exact x_vret hC hR hS dJ7_fill_d0a16_22
    · refine lv_aload_n hC.1 hC.2.1 dJ7_fill_d0a16_12 rfl (lv_at hl 0 rfl) ?_
      refine lv_iload_n hC.1 hC.2.1 dJ7_fill_d0a16_13 rfl (lv_at hl 2 rfl) ?_
      refine lv_lload_n hC.1 hC.2.1 dJ7_fill_d0a16_14 rfl (lv_at hl 1 rfl) ?_
      refine x_las hC (fun f => (xce_51 G kp _ f)) hR hS dJ7_fill_d0a16_15 hf (fun L1 hf H locs hR hS => ?_)
      refine x_iinc (d := 1) (lv' := fun y2 => [(3, .int y2), (0, .ref (xz G + 51)), (1, .long x1), (4, .int x4)]) (k := 2) hC hl dJ7_fill_d0a16_16 rfl (by decide) (Nat.le_of_ble_eq_true rfl) hf (fun _ => rfl) (fun y2 hf ls hl => ?_)
      refine lv_goto (tgt := 6) hC.1 hC.2.1 dJ7_fill_d0a16_19 (by decide) ?_
      exact hk6 y2 L1 hf _ _ _ hR hS (lv_sub hl [1, 2, 0, 3] rfl)
set_option maxRecDepth 20000 in
theorem M_J7_fill_d0a16_51 (G : XG) (l : Launch) (kp : Bool) (N : Nat) {I : xTI} {L : xTL} {x1 : Int64} {rL : xTL} (hf : F_J7_fill_d0a16_51 N L x1 = some rL) : xMet G l yJ7_fill_d0a16 cJ7_fill_d0a16 5 none 0 0 kp [.ref (xz G + 51), .long x1] I L none I rL := by
  refine xMet.ofW (by decide +kernel) (Nat.le_of_ble_eq_true rfl) ?_
  intro p e s m args below meth c hC H locs ls hR hS hl
  replace hC : xC G p s m args meth c cJ7_fill_d0a16 5 RJ7 none := hC
  replace hl : lv_has ls 5 [(0, .ref (xz G + 51)), (1, .long x1)] := hl
  unfold F_J7_fill_d0a16_51 at hf
  refine lv_iconst (v := 0) hC.1 hC.2.1 dJ7_fill_d0a16_0 (by decide) ?_
  refine lv_istore_n (lv' := [(3, .int 0), (0, .ref (xz G + 51)), (1, .long x1)]) hC.1 hC.2.1 dJ7_fill_d0a16_1 rfl hl (Nat.le_of_ble_eq_true rfl) rfl (fun ls hl => ?_)
  refine lv_aload_n hC.1 hC.2.1 dJ7_fill_d0a16_2 rfl (lv_at hl 1 rfl) ?_
  refine x_alen_l (v := 12) hC (xce_51 G kp _ _) rfl hR dJ7_fill_d0a16_3 ?_
  refine lv_istore (lv' := [(4, .int 12), (3, .int 0), (0, .ref (xz G + 51)), (1, .long x1)]) hC.1 hC.2.1 dJ7_fill_d0a16_4 hl (Nat.le_of_ble_eq_true rfl) rfl (fun ls hl => ?_)
  exact W_J7_fill_d0a16_51_l6 hC N _ 0 L hf _ _ _ hR hS (lv_sub hl [2, 3, 1, 0] rfl)
set_option maxRecDepth 20000 in
theorem W_J7_fill_d0a16_52_l6 {G : XG} {l : Launch} {kp : Bool} {p : Program} {e : Env} {s : State} {m : MethodId} {args : Array Value} {below : List Frame} {meth : Method} {c : Code} (hC : xC G p s m args meth c cJ7_fill_d0a16 5 RJ7 none) (N : Nat) {I : xTI} {rL : xTL} {x1 : Int64} {x4 : Int32} : ∀ (n : Nat) (x3 : Int32) (L : xTL) , xlp (F_J7_fill_d0a16_52_b6 N x1 x4 ) n (x3, L) = some rL → ∀ (H : Heap) (locs : List Loc) (ls : Array Slot), xRep G kp I L H → xS G s.heap H locs → lv_has ls 5 [(0, .ref (xz G + 52)), (1, .long x1), (3, .int x3), (4, .int x4)] → W p l e (xrm 0 0) s m args below meth c H locs 0 0 (xMQ G kp below args s none I rL) (F0 m 6 ls []) := by
  intro n
  induction n with
  | zero =>
    intro x3 L hf
    cases hf
  | succ n hk6 =>
    intro x3 L hf H locs ls hR hS hl
    rw [xlp_s, E_J7_fill_d0a16_52_b6] at hf
    unfold F_J7_fill_d0a16_52_c6 at hf
    refine lv_iload_n hC.1 hC.2.1 dJ7_fill_d0a16_6 rfl (lv_at hl 2 rfl) ?_
    refine lv_iload hC.1 hC.2.1 dJ7_fill_d0a16_7 (lv_at hl 3 rfl) ?_
    refine x_ic_ge (tgt := 22) hC dJ7_fill_d0a16_9 (by decide) hf (fun hf => ?_) (fun hf => ?_)
    · have h9 := Option.some.inj hf
      subst h9
      exact x_vret hC hR hS dJ7_fill_d0a16_22
    · refine lv_aload_n hC.1 hC.2.1 dJ7_fill_d0a16_12 rfl (lv_at hl 0 rfl) ?_
      refine lv_iload_n hC.1 hC.2.1 dJ7_fill_d0a16_13 rfl (lv_at hl 2 rfl) ?_
      refine lv_lload_n hC.1 hC.2.1 dJ7_fill_d0a16_14 rfl (lv_at hl 1 rfl) ?_
      refine x_las hC (fun f => (xce_52 G kp _ f)) hR hS dJ7_fill_d0a16_15 hf (fun L1 hf H locs hR hS => ?_)
      refine x_iinc (d := 1) (lv' := fun y2 => [(3, .int y2), (0, .ref (xz G + 52)), (1, .long x1), (4, .int x4)]) (k := 2) hC hl dJ7_fill_d0a16_16 rfl (by decide) (Nat.le_of_ble_eq_true rfl) hf (fun _ => rfl) (fun y2 hf ls hl => ?_)
      refine lv_goto (tgt := 6) hC.1 hC.2.1 dJ7_fill_d0a16_19 (by decide) ?_
      exact hk6 y2 L1 hf _ _ _ hR hS (lv_sub hl [1, 2, 0, 3] rfl)
set_option maxRecDepth 20000 in
theorem M_J7_fill_d0a16_52 (G : XG) (l : Launch) (kp : Bool) (N : Nat) {I : xTI} {L : xTL} {x1 : Int64} {rL : xTL} (hf : F_J7_fill_d0a16_52 N L x1 = some rL) : xMet G l yJ7_fill_d0a16 cJ7_fill_d0a16 5 none 0 0 kp [.ref (xz G + 52), .long x1] I L none I rL := by
  refine xMet.ofW (by decide +kernel) (Nat.le_of_ble_eq_true rfl) ?_
  intro p e s m args below meth c hC H locs ls hR hS hl
  replace hC : xC G p s m args meth c cJ7_fill_d0a16 5 RJ7 none := hC
  replace hl : lv_has ls 5 [(0, .ref (xz G + 52)), (1, .long x1)] := hl
  unfold F_J7_fill_d0a16_52 at hf
  refine lv_iconst (v := 0) hC.1 hC.2.1 dJ7_fill_d0a16_0 (by decide) ?_
  refine lv_istore_n (lv' := [(3, .int 0), (0, .ref (xz G + 52)), (1, .long x1)]) hC.1 hC.2.1 dJ7_fill_d0a16_1 rfl hl (Nat.le_of_ble_eq_true rfl) rfl (fun ls hl => ?_)
  refine lv_aload_n hC.1 hC.2.1 dJ7_fill_d0a16_2 rfl (lv_at hl 1 rfl) ?_
  refine x_alen_l (v := 12) hC (xce_52 G kp _ _) rfl hR dJ7_fill_d0a16_3 ?_
  refine lv_istore (lv' := [(4, .int 12), (3, .int 0), (0, .ref (xz G + 52)), (1, .long x1)]) hC.1 hC.2.1 dJ7_fill_d0a16_4 hl (Nat.le_of_ble_eq_true rfl) rfl (fun ls hl => ?_)
  exact W_J7_fill_d0a16_52_l6 hC N _ 0 L hf _ _ _ hR hS (lv_sub hl [2, 3, 1, 0] rfl)
set_option maxRecDepth 20000 in
theorem W_X7_isWhole_j52 {G : XG} {l : Launch} {kp : Bool} {p : Program} {e : Env} {s : State} {m : MethodId} {args : Array Value} {below : List Frame} {meth : Method} {c : Code} (hC : xC G p s m args meth c cX7_isWhole 6 RX7 (some .boolean)) (N : Nat) {I : xTI} {L : xTL} {r : Int32} {rI : xTI} {x4 : Int32} {t0 : Int32} (k16 : Int32 → Option (Int32 × xTI)) (hk16 : ∀ (x4 : Int32) , k16 x4 = some (r, rI) → ∀ (H : Heap) (locs : List Loc) (ls : Array Slot), xRep G kp I L H → xS G s.heap H locs → lv_has ls 6 [(0, .ref (xz G + 46)), (4, .int x4)] → W p l e (xrm 3 70) s m args below meth c H locs 0 0 (xMQ G kp below args s (some (.int r)) rI L) (F0 m 16 ls [])) (hf : F_X7_isWhole_j52 k16 N I L x4 t0 = some (r, rI)) : ∀ (H : Heap) (locs : List Loc) (ls : Array Slot), xRep G kp I L H → xS G s.heap H locs → lv_has ls 6 [(0, .ref (xz G + 46)), (4, .int x4)] → W p l e (xrm 3 70) s m args below meth c H locs 0 0 (xMQ G kp below args s (some (.int r)) rI L) (F0 m 52 ls [.int t0]) := by
  intro H locs ls hR hS hl
  unfold F_X7_isWhole_j52 at hf
  refine lv_istore (lv' := [(5, .int t0), (0, .ref (xz G + 46)), (4, .int x4)]) hC.1 hC.2.1 dX7_isWhole_52 hl (Nat.le_of_ble_eq_true rfl) rfl (fun ls hl => ?_)
  refine lv_iload hC.1 hC.2.1 dX7_isWhole_54 (lv_at hl 0 rfl) ?_
  refine x_if_ne (tgt := 86) hC dX7_isWhole_56 (by decide) hf (fun hf => ?_) (fun hf => ?_)
  · refine lv_iconst (v := 0) hC.1 hC.2.1 dX7_isWhole_86 (by decide) ?_
    obtain ⟨h01, hf⟩ := xzc_some hf
    obtain ⟨h91, h92⟩ := Prod.mk.inj (Option.some.inj hf)
    subst h91
    subst h92
    exact x_zret h01 hC hR hS dX7_isWhole_87
  · refine lv_aload_n hC.1 hC.2.1 dX7_isWhole_59 rfl (lv_at hl 1 rfl) ?_
    refine x_get (v := .ref (xz G + 52)) hC xf_X7_28 (xce_46 G kp _ _) rfl hR dX7_isWhole_60 ?_
    refine lv_iload hC.1 hC.2.1 dX7_isWhole_63 (lv_at hl 2 rfl) ?_
    refine x_lal hC (xce_52 G kp _ _) hR dX7_isWhole_65 hf (fun v1 hf => ?_)
    refine lv_aload_n hC.1 hC.2.1 dX7_isWhole_66 rfl (lv_at hl 1 rfl) ?_
    refine x_get (v := .ref (xz G + 51)) hC xf_X7_24 (xce_46 G kp _ _) rfl hR dX7_isWhole_67 ?_
    refine lv_iload hC.1 hC.2.1 dX7_isWhole_70 (lv_at hl 2 rfl) ?_
    refine x_lal hC (xce_51 G kp _ _) hR dX7_isWhole_72 hf (fun v2 hf => ?_)
    refine lv_lsub hC.1 hC.2.1 dX7_isWhole_73 ?_
    refine lv_aload_n hC.1 hC.2.1 dX7_isWhole_74 rfl (lv_at hl 1 rfl) ?_
    refine x_get (v := .ref (xz G + 47)) hC xf_X7_11 (xce_46 G kp _ _) rfl hR dX7_isWhole_75 ?_
    refine W.eq (g2 := F0 m 78 ls [.ref (xz G + 47), .long (v1 - v2)]) rfl ?_
    refine lv_iload hC.1 hC.2.1 dX7_isWhole_78 (lv_at hl 2 rfl) ?_
    refine x_ial hC (xce_47 G kp _ _) hR dX7_isWhole_80 hf (fun v3 hf => ?_)
    refine lv_i2l hC.1 hC.2.1 dX7_isWhole_81 rfl ?_
    refine W.lcmp hC.1 hC.2.1 dX7_isWhole_82 ?_
    refine x_if_eq (tgt := 88) hC dX7_isWhole_83 (by decide) hf (fun hf => ?_) (fun hf => ?_)
    · refine x_iinc (d := 1) (lv' := fun y4 => [(4, .int y4), (5, .int t0), (0, .ref (xz G + 46))]) (k := 2) hC hl dX7_isWhole_88 rfl (by decide) (Nat.le_of_ble_eq_true rfl) hf (fun _ => rfl) (fun y4 hf ls hl => ?_)
      refine lv_goto (tgt := 16) hC.1 hC.2.1 dX7_isWhole_91 (by decide) ?_
      exact hk16 y4 hf _ _ _ hR hS (lv_sub hl [2, 0] rfl)
    · refine lv_iconst (v := 0) hC.1 hC.2.1 dX7_isWhole_86 (by decide) ?_
      obtain ⟨h01, hf⟩ := xzc_some hf
      obtain ⟨h91, h92⟩ := Prod.mk.inj (Option.some.inj hf)
      subst h91
      subst h92
      exact x_zret h01 hC hR hS dX7_isWhole_87
set_option maxRecDepth 20000 in
theorem W_X7_isWhole_l16 {G : XG} {l : Launch} {kp : Bool} {p : Program} {e : Env} {s : State} {m : MethodId} {args : Array Value} {below : List Frame} {meth : Method} {c : Code} (hC : xC G p s m args meth c cX7_isWhole 6 RX7 (some .boolean)) (N : Nat) {I : xTI} {L : xTL} {r : Int32} {rI : xTI} : ∀ (n : Nat) (x4 : Int32) , xlp (F_X7_isWhole_b16 N I L ) n x4 = some (r, rI) → ∀ (H : Heap) (locs : List Loc) (ls : Array Slot), xRep G kp I L H → xS G s.heap H locs → lv_has ls 6 [(0, .ref (xz G + 46)), (4, .int x4)] → W p l e (xrm 3 70) s m args below meth c H locs 0 0 (xMQ G kp below args s (some (.int r)) rI L) (F0 m 16 ls []) := by
  intro n
  induction n with
  | zero =>
    intro x4 hf
    cases hf
  | succ n hk16 =>
    intro x4 hf H locs ls hR hS hl
    rw [xlp_s, E_X7_isWhole_b16] at hf
    unfold F_X7_isWhole_c16 at hf
    refine lv_iload hC.1 hC.2.1 dX7_isWhole_16 (lv_at hl 1 rfl) ?_
    refine lv_bipush (v := 12) hC.1 hC.2.1 dX7_isWhole_18 (by decide) ?_
    refine x_ic_ge (tgt := 94) hC dX7_isWhole_20 (by decide) hf (fun hf => ?_) (fun hf => ?_)
    · refine lv_iconst (v := 1) hC.1 hC.2.1 dX7_isWhole_94 (by decide) ?_
      obtain ⟨h01, hf⟩ := xzc_some hf
      obtain ⟨h91, h92⟩ := Prod.mk.inj (Option.some.inj hf)
      subst h91
      subst h92
      exact x_zret h01 hC hR hS dX7_isWhole_95
    · refine lv_aload_n hC.1 hC.2.1 dX7_isWhole_23 rfl (lv_at hl 0 rfl) ?_
      refine x_get (v := .ref (xz G + 51)) hC xf_X7_24 (xce_46 G kp _ _) rfl hR dX7_isWhole_24 ?_
      refine lv_iload hC.1 hC.2.1 dX7_isWhole_27 (lv_at hl 1 rfl) ?_
      refine x_lal hC (xce_51 G kp _ _) hR dX7_isWhole_29 hf (fun v1 hf => ?_)
      refine lv_lconst (v := 0) hC.1 hC.2.1 dX7_isWhole_30 (by decide) ?_
      refine W.lcmp hC.1 hC.2.1 dX7_isWhole_31 ?_
      refine x_if_le (tgt := 51) hC dX7_isWhole_32 (by decide) hf (fun hf => ?_) (fun hf => ?_)
      · refine lv_iconst (v := 0) hC.1 hC.2.1 dX7_isWhole_51 (by decide) ?_
        exact W_X7_isWhole_j52 hC N _ hk16 hf _ _ _ hR hS (lv_sub hl [0, 1] rfl)
      · refine lv_aload_n hC.1 hC.2.1 dX7_isWhole_35 rfl (lv_at hl 0 rfl) ?_
        refine x_get (v := .ref (xz G + 52)) hC xf_X7_28 (xce_46 G kp _ _) rfl hR dX7_isWhole_36 ?_
        refine lv_iload hC.1 hC.2.1 dX7_isWhole_39 (lv_at hl 1 rfl) ?_
        refine x_lal hC (xce_52 G kp _ _) hR dX7_isWhole_41 hf (fun v2 hf => ?_)
        refine lv_lconst (v := 0) hC.1 hC.2.1 dX7_isWhole_42 (by decide) ?_
        refine W.lcmp hC.1 hC.2.1 dX7_isWhole_43 ?_
        refine x_if_le (tgt := 51) hC dX7_isWhole_44 (by decide) hf (fun hf => ?_) (fun hf => ?_)
        · refine lv_iconst (v := 0) hC.1 hC.2.1 dX7_isWhole_51 (by decide) ?_
          exact W_X7_isWhole_j52 hC N _ hk16 hf _ _ _ hR hS (lv_sub hl [0, 1] rfl)
        · refine lv_iconst (v := 1) hC.1 hC.2.1 dX7_isWhole_47 (by decide) ?_
          refine lv_goto (tgt := 52) hC.1 hC.2.1 dX7_isWhole_48 (by decide) ?_
          exact W_X7_isWhole_j52 hC N _ hk16 hf _ _ _ hR hS (lv_sub hl [0, 1] rfl)
set_option maxRecDepth 20000 in
theorem M_X7_isWhole (G : XG) (l : Launch) (kp : Bool) (N : Nat) {I : xTI} {L : xTL} {x2 : Int32} {x3 : Int32} {r : Int32} {rI : xTI} (hf : F_X7_isWhole N I L x2 x3 = some (r, rI)) : xMet G l yX7_isWhole cX7_isWhole 6 (some .boolean) 3 70 kp [.ref (xz G + 46), .ref (xz G + 1), .int x2, .int x3] I L (some (.int r)) rI L := by
  refine xMet.ofW (by decide +kernel) (Nat.le_of_ble_eq_true rfl) ?_
  intro p e s m args below meth c hC H locs ls hR hS hl
  replace hC : xC G p s m args meth c cX7_isWhole 6 RX7 (some .boolean) := hC
  replace hl : lv_has ls 6 [(0, .ref (xz G + 46)), (1, .ref (xz G + 1)), (2, .int x2), (3, .int x3)] := hl
  unfold F_X7_isWhole at hf
  refine lv_aload_n hC.1 hC.2.1 dX7_isWhole_0 rfl (lv_at hl 1 rfl) ?_
  refine x_get (v := .ref (xz G + 11)) hC xf_X7_37 (xce_1 G kp _ _) rfl hR dX7_isWhole_1 ?_
  refine lv_aload_n hC.1 hC.2.1 dX7_isWhole_4 rfl (lv_at hl 0 rfl) ?_
  refine x_get (v := .ref (xz G + 47)) hC xf_X7_11 (xce_46 G kp _ _) rfl hR dX7_isWhole_5 ?_
  refine lv_iload_n hC.1 hC.2.1 dX7_isWhole_8 rfl (lv_at hl 2 rfl) ?_
  refine lv_iload_n hC.1 hC.2.1 dX7_isWhole_9 rfl (lv_at hl 3 rfl) ?_
  refine x_cvv10 (rest := []) hC xy_X0_netsInto tw_1034 hf (fun _ h => M_X0_netsInto_47 G l kp N h) ⟨Nat.le_of_ble_eq_true rfl, Nat.le_of_ble_eq_true rfl⟩ (xce_11 G kp _ _) rfl rfl rfl (Nat.le_of_ble_eq_true rfl) hl.1 hR hS dX7_isWhole_10 ⟨Nat.le_refl _, Nat.le_refl _⟩ (fun I1 hf H locs hR hS => ?_)
  refine lv_iconst (v := 0) hC.1 hC.2.1 dX7_isWhole_13 (by decide) ?_
  refine lv_istore (lv' := [(4, .int 0), (0, .ref (xz G + 46)), (1, .ref (xz G + 1)), (2, .int x2), (3, .int x3)]) hC.1 hC.2.1 dX7_isWhole_14 hl (Nat.le_of_ble_eq_true rfl) rfl (fun ls hl => ?_)
  exact W_X7_isWhole_l16 hC N _ 0 hf _ _ _ hR hS (lv_sub hl [1, 0] rfl)
set_option maxRecDepth 20000 in
theorem W_X7_isGood_55_j83 {G : XG} {l : Launch} {kp : Bool} {p : Program} {e : Env} {s : State} {m : MethodId} {args : Array Value} {below : List Frame} {meth : Method} {c : Code} (hC : xC G p s m args meth c cX7_isGood 10 RX7 (some .boolean)) (N : Nat) {I : xTI} {L : xTL} {r : Int32} {rI : xTI} {rL : xTL} {x2 : Int32} {x3 : Int32} {x5 : Int32} {x6 : Int32} {x7 : Int32} {x8 : Int32} {t0 : Int32} (k19 : Int32 × xTL → Option (Int32 × xTI × xTL)) (hk19 : ∀ (x6 : Int32) (L : xTL) , k19 (x6, L) = some (r, rI, rL) → ∀ (H : Heap) (locs : List Loc) (ls : Array Slot), xRep G kp I L H → xS G s.heap H locs → lv_has ls 10 [(0, .ref (xz G + 46)), (1, .ref (xz G + 1)), (2, .int x2), (3, .int x3), (4, .ref (xz G + 55)), (5, .int x5), (6, .int x6)] → W p l e (xrm 4 95) s m args below meth c H locs 0 0 (xMQ G kp below args s (some (.int r)) rI rL) (F0 m 19 ls [])) (hf : F_X7_isGood_55_j83 k19 N I L x2 x3 x5 x6 x7 x8 t0 = some (r, rI, rL)) : ∀ (H : Heap) (locs : List Loc) (ls : Array Slot), xRep G kp I L H → xS G s.heap H locs → lv_has ls 10 [(0, .ref (xz G + 46)), (1, .ref (xz G + 1)), (2, .int x2), (3, .int x3), (4, .ref (xz G + 55)), (5, .int x5), (6, .int x6), (7, .int x7), (8, .int x8)] → W p l e (xrm 4 95) s m args below meth c H locs 0 0 (xMQ G kp below args s (some (.int r)) rI rL) (F0 m 83 ls [.int t0]) := by
  intro H locs ls hR hS hl
  unfold F_X7_isGood_55_j83 at hf
  refine lv_istore (lv' := [(9, .int t0), (0, .ref (xz G + 46)), (1, .ref (xz G + 1)), (2, .int x2), (3, .int x3), (4, .ref (xz G + 55)), (5, .int x5), (6, .int x6), (7, .int x7), (8, .int x8)]) hC.1 hC.2.1 dX7_isGood_83 hl (Nat.le_of_ble_eq_true rfl) rfl (fun ls hl => ?_)
  refine lv_iload hC.1 hC.2.1 dX7_isGood_85 (lv_at hl 0 rfl) ?_
  refine x_if_eq (tgt := 107) hC dX7_isGood_87 (by decide) hf (fun hf => ?_) (fun hf => ?_)
  · refine lv_iconst (v := 0) hC.1 hC.2.1 dX7_isGood_107 (by decide) ?_
    obtain ⟨h01, hf⟩ := xzc_some hf
    obtain ⟨h91, h90⟩ := Prod.mk.inj (Option.some.inj hf)
    obtain ⟨h92, h93⟩ := Prod.mk.inj h90
    subst h91
    subst h92
    subst h93
    exact x_zret h01 hC hR hS dX7_isGood_108
  · refine lv_iload hC.1 hC.2.1 dX7_isGood_90 (lv_at hl 8 rfl) ?_
    refine lv_iload hC.1 hC.2.1 dX7_isGood_92 (lv_at hl 9 rfl) ?_
    refine x_ic_eq (tgt := 107) hC dX7_isGood_94 (by decide) hf (fun hf => ?_) (fun hf => ?_)
    · refine lv_iconst (v := 0) hC.1 hC.2.1 dX7_isGood_107 (by decide) ?_
      obtain ⟨h01, hf⟩ := xzc_some hf
      obtain ⟨h91, h90⟩ := Prod.mk.inj (Option.some.inj hf)
      obtain ⟨h92, h93⟩ := Prod.mk.inj h90
      subst h91
      subst h92
      subst h93
      exact x_zret h01 hC hR hS dX7_isGood_108
    · refine lv_aload hC.1 hC.2.1 dX7_isGood_97 (lv_at hl 5 rfl) ?_
      refine lv_iload hC.1 hC.2.1 dX7_isGood_99 (lv_at hl 7 rfl) ?_
      refine lv_iconst (v := 2) hC.1 hC.2.1 dX7_isGood_101 (by decide) ?_
      refine lv_iadd hC.1 hC.2.1 dX7_isGood_102 ?_
      refine x_ial hC (xce_55 G kp _ _) hR dX7_isGood_103 hf (fun v1 hf => ?_)
      refine x_if_gt (tgt := 109) hC dX7_isGood_104 (by decide) hf (fun hf => ?_) (fun hf => ?_)
      · refine lv_aload_n hC.1 hC.2.1 dX7_isGood_109 rfl (lv_at hl 1 rfl) ?_
        refine x_get (v := .ref (xz G + 51)) hC xf_X7_24 (xce_46 G kp _ _) rfl hR dX7_isGood_110 ?_
        refine lv_iload hC.1 hC.2.1 dX7_isGood_113 (lv_at hl 8 rfl) ?_
        refine lv_dup2_11 hC.1 hC.2.1 dX7_isGood_115 rfl rfl ?_
        refine x_lal hC (xce_51 G kp _ _) hR dX7_isGood_116 hf (fun v2 hf => ?_)
        refine lv_aload hC.1 hC.2.1 dX7_isGood_117 (lv_at hl 5 rfl) ?_
        refine lv_iload hC.1 hC.2.1 dX7_isGood_119 (lv_at hl 7 rfl) ?_
        refine lv_iconst (v := 2) hC.1 hC.2.1 dX7_isGood_121 (by decide) ?_
        refine lv_iadd hC.1 hC.2.1 dX7_isGood_122 ?_
        refine x_ial hC (xce_55 G kp _ _) hR dX7_isGood_123 hf (fun v3 hf => ?_)
        refine lv_i2l hC.1 hC.2.1 dX7_isGood_124 rfl ?_
        refine W.eq (g2 := F0 m 125 ls [.long (v3.toInt64), .long v2, .int x7, .ref (xz G + 51)]) rfl ?_
        refine lv_ladd hC.1 hC.2.1 dX7_isGood_125 ?_
        refine x_las hC (fun f => (xce_51 G kp _ f)) hR hS dX7_isGood_126 hf (fun L4 hf H locs hR hS => ?_)
        refine lv_aload_n hC.1 hC.2.1 dX7_isGood_127 rfl (lv_at hl 1 rfl) ?_
        refine x_get (v := .ref (xz G + 52)) hC xf_X7_28 (xce_46 G kp _ _) rfl hR dX7_isGood_128 ?_
        refine lv_iload hC.1 hC.2.1 dX7_isGood_131 (lv_at hl 9 rfl) ?_
        refine lv_dup2_11 hC.1 hC.2.1 dX7_isGood_133 rfl rfl ?_
        refine x_lal hC (xce_52 G kp _ _) hR dX7_isGood_134 hf (fun v5 hf => ?_)
        refine lv_aload hC.1 hC.2.1 dX7_isGood_135 (lv_at hl 5 rfl) ?_
        refine lv_iload hC.1 hC.2.1 dX7_isGood_137 (lv_at hl 7 rfl) ?_
        refine lv_iconst (v := 2) hC.1 hC.2.1 dX7_isGood_139 (by decide) ?_
        refine lv_iadd hC.1 hC.2.1 dX7_isGood_140 ?_
        refine x_ial hC (xce_55 G kp _ _) hR dX7_isGood_141 hf (fun v6 hf => ?_)
        refine W.eq (g2 := F0 m 142 ls [.int v6, .long v5, .int x8, .ref (xz G + 52)]) rfl ?_
        refine lv_i2l hC.1 hC.2.1 dX7_isGood_142 rfl ?_
        refine lv_ladd hC.1 hC.2.1 dX7_isGood_143 ?_
        refine x_las hC (fun f => (xce_52 G kp _ f)) hR hS dX7_isGood_144 hf (fun L7 hf H locs hR hS => ?_)
        refine x_iinc (d := 3) (lv' := fun y8 => [(6, .int y8), (9, .int t0), (0, .ref (xz G + 46)), (1, .ref (xz G + 1)), (2, .int x2), (3, .int x3), (4, .ref (xz G + 55)), (5, .int x5), (7, .int x7), (8, .int x8)]) (k := 7) hC hl dX7_isGood_145 rfl (by decide) (Nat.le_of_ble_eq_true rfl) hf (fun _ => rfl) (fun y8 hf ls hl => ?_)
        refine lv_goto (tgt := 19) hC.1 hC.2.1 dX7_isGood_148 (by decide) ?_
        exact hk19 y8 L7 hf _ _ _ hR hS (lv_sub hl [2, 3, 4, 5, 6, 7, 0] rfl)
      · refine lv_iconst (v := 0) hC.1 hC.2.1 dX7_isGood_107 (by decide) ?_
        obtain ⟨h01, hf⟩ := xzc_some hf
        obtain ⟨h91, h90⟩ := Prod.mk.inj (Option.some.inj hf)
        obtain ⟨h92, h93⟩ := Prod.mk.inj h90
        subst h91
        subst h92
        subst h93
        exact x_zret h01 hC hR hS dX7_isGood_108
set_option maxRecDepth 20000 in
theorem W_X7_isGood_55_l19 {G : XG} {l : Launch} {kp : Bool} {p : Program} {e : Env} {s : State} {m : MethodId} {args : Array Value} {below : List Frame} {meth : Method} {c : Code} (hC : xC G p s m args meth c cX7_isGood 10 RX7 (some .boolean)) (N : Nat) {I : xTI} {r : Int32} {rI : xTI} {rL : xTL} {x2 : Int32} {x3 : Int32} {x5 : Int32} : ∀ (n : Nat) (x6 : Int32) (L : xTL) , xlp (F_X7_isGood_55_b19 N I x2 x3 x5 ) n (x6, L) = some (r, rI, rL) → ∀ (H : Heap) (locs : List Loc) (ls : Array Slot), xRep G kp I L H → xS G s.heap H locs → lv_has ls 10 [(0, .ref (xz G + 46)), (1, .ref (xz G + 1)), (2, .int x2), (3, .int x3), (4, .ref (xz G + 55)), (5, .int x5), (6, .int x6)] → W p l e (xrm 4 95) s m args below meth c H locs 0 0 (xMQ G kp below args s (some (.int r)) rI rL) (F0 m 19 ls []) := by
  intro n
  induction n with
  | zero =>
    intro x6 L hf
    cases hf
  | succ n hk19 =>
    intro x6 L hf H locs ls hR hS hl
    rw [xlp_s, E_X7_isGood_55_b19] at hf
    unfold F_X7_isGood_55_c19 at hf
    refine lv_iload hC.1 hC.2.1 dX7_isGood_19 (lv_at hl 6 rfl) ?_
    refine lv_iconst (v := 2) hC.1 hC.2.1 dX7_isGood_21 (by decide) ?_
    refine lv_iadd hC.1 hC.2.1 dX7_isGood_22 ?_
    refine lv_iload hC.1 hC.2.1 dX7_isGood_23 (lv_at hl 5 rfl) ?_
    refine x_ic_ge (tgt := 151) hC dX7_isGood_25 (by decide) hf (fun hf => ?_) (fun hf => ?_)
    · refine lv_aload_n hC.1 hC.2.1 dX7_isGood_151 rfl (lv_at hl 0 rfl) ?_
      refine lv_aload_n hC.1 hC.2.1 dX7_isGood_152 rfl (lv_at hl 1 rfl) ?_
      refine lv_iload_n hC.1 hC.2.1 dX7_isGood_153 rfl (lv_at hl 2 rfl) ?_
      refine lv_iload_n hC.1 hC.2.1 dX7_isGood_154 rfl (lv_at hl 3 rfl) ?_
      refine x_cvi10 (rest := []) hC xy_X7_isWhole tw_1049 hf (fun _ _ h => M_X7_isWhole G l kp N h) ⟨Nat.le_of_ble_eq_true rfl, Nat.le_of_ble_eq_true rfl⟩ (xce_46 G kp _ _) rfl rfl rfl (Nat.le_of_ble_eq_true rfl) hl.1 hR hS dX7_isGood_155 ⟨Nat.le_refl _, Nat.le_refl _⟩ (fun v1 I2 hf H locs hR hS => ?_)
      obtain ⟨h01, hf⟩ := xzc_some hf
      obtain ⟨h91, h90⟩ := Prod.mk.inj (Option.some.inj hf)
      obtain ⟨h92, h93⟩ := Prod.mk.inj h90
      subst h91
      subst h92
      subst h93
      exact x_zret h01 hC hR hS dX7_isGood_158
    · refine lv_aload hC.1 hC.2.1 dX7_isGood_28 (lv_at hl 4 rfl) ?_
      refine lv_iload hC.1 hC.2.1 dX7_isGood_30 (lv_at hl 6 rfl) ?_
      refine x_ial hC (xce_55 G kp _ _) hR dX7_isGood_32 hf (fun v3 hf => ?_)
      refine lv_istore (lv' := [(7, .int v3), (0, .ref (xz G + 46)), (1, .ref (xz G + 1)), (2, .int x2), (3, .int x3), (4, .ref (xz G + 55)), (5, .int x5), (6, .int x6)]) hC.1 hC.2.1 dX7_isGood_33 hl (Nat.le_of_ble_eq_true rfl) rfl (fun ls hl => ?_)
      refine lv_aload hC.1 hC.2.1 dX7_isGood_35 (lv_at hl 5 rfl) ?_
      refine lv_iload hC.1 hC.2.1 dX7_isGood_37 (lv_at hl 7 rfl) ?_
      refine lv_iconst (v := 1) hC.1 hC.2.1 dX7_isGood_39 (by decide) ?_
      refine lv_iadd hC.1 hC.2.1 dX7_isGood_40 ?_
      refine x_ial hC (xce_55 G kp _ _) hR dX7_isGood_41 hf (fun v4 hf => ?_)
      refine lv_istore (lv' := [(8, .int v4), (7, .int v3), (0, .ref (xz G + 46)), (1, .ref (xz G + 1)), (2, .int x2), (3, .int x3), (4, .ref (xz G + 55)), (5, .int x5), (6, .int x6)]) hC.1 hC.2.1 dX7_isGood_42 hl (Nat.le_of_ble_eq_true rfl) rfl (fun ls hl => ?_)
      refine lv_iload hC.1 hC.2.1 dX7_isGood_44 (lv_at hl 1 rfl) ?_
      refine W.eq (g2 := F0 m 46 ls [.int v3]) rfl ?_
      refine x_if_lt (tgt := 82) hC dX7_isGood_46 (by decide) hf (fun hf => ?_) (fun hf => ?_)
      · refine lv_iconst (v := 0) hC.1 hC.2.1 dX7_isGood_82 (by decide) ?_
        exact W_X7_isGood_55_j83 hC N _ hk19 hf _ _ _ hR hS (lv_sub hl [2, 3, 4, 5, 6, 7, 8, 1, 0] rfl)
      · refine lv_iload hC.1 hC.2.1 dX7_isGood_49 (lv_at hl 1 rfl) ?_
        refine lv_aload_n hC.1 hC.2.1 dX7_isGood_51 rfl (lv_at hl 3 rfl) ?_
        refine x_get (v := .ref (xz G + 3)) hC xf_X7_65 (xce_1 G kp _ _) rfl hR dX7_isGood_52 ?_
        refine x_getI hC xf_X7_69 (xce_3 G kp _ _) rfl hR dX7_isGood_55 hf (fun v5 hf => ?_)
        refine x_ic_ge (tgt := 82) hC dX7_isGood_58 (by decide) hf (fun hf => ?_) (fun hf => ?_)
        · refine lv_iconst (v := 0) hC.1 hC.2.1 dX7_isGood_82 (by decide) ?_
          exact W_X7_isGood_55_j83 hC N _ hk19 hf _ _ _ hR hS (lv_sub hl [2, 3, 4, 5, 6, 7, 8, 1, 0] rfl)
        · refine lv_iload hC.1 hC.2.1 dX7_isGood_61 (lv_at hl 0 rfl) ?_
          refine x_if_lt (tgt := 82) hC dX7_isGood_63 (by decide) hf (fun hf => ?_) (fun hf => ?_)
          · refine lv_iconst (v := 0) hC.1 hC.2.1 dX7_isGood_82 (by decide) ?_
            exact W_X7_isGood_55_j83 hC N _ hk19 hf _ _ _ hR hS (lv_sub hl [2, 3, 4, 5, 6, 7, 8, 1, 0] rfl)
          · refine lv_iload hC.1 hC.2.1 dX7_isGood_66 (lv_at hl 0 rfl) ?_
            refine lv_aload_n hC.1 hC.2.1 dX7_isGood_68 rfl (lv_at hl 3 rfl) ?_
            refine x_get (v := .ref (xz G + 3)) hC xf_X7_65 (xce_1 G kp _ _) rfl hR dX7_isGood_69 ?_
            refine x_getI hC xf_X7_69 (xce_3 G kp _ _) rfl hR dX7_isGood_72 hf (fun v6 hf => ?_)
            refine x_ic_ge (tgt := 82) hC dX7_isGood_75 (by decide) hf (fun hf => ?_) (fun hf => ?_)
            · refine lv_iconst (v := 0) hC.1 hC.2.1 dX7_isGood_82 (by decide) ?_
              exact W_X7_isGood_55_j83 hC N _ hk19 hf _ _ _ hR hS (lv_sub hl [2, 3, 4, 5, 6, 7, 8, 1, 0] rfl)
            · refine lv_iconst (v := 1) hC.1 hC.2.1 dX7_isGood_78 (by decide) ?_
              refine lv_goto (tgt := 83) hC.1 hC.2.1 dX7_isGood_79 (by decide) ?_
              exact W_X7_isGood_55_j83 hC N _ hk19 hf _ _ _ hR hS (lv_sub hl [2, 3, 4, 5, 6, 7, 8, 1, 0] rfl)
set_option maxRecDepth 20000 in
theorem M_X7_isGood_55 (G : XG) (l : Launch) (kp : Bool) (N : Nat) {I : xTI} {L : xTL} {x2 : Int32} {x3 : Int32} {x5 : Int32} {r : Int32} {rI : xTI} {rL : xTL} (hf : F_X7_isGood_55 N I L x2 x3 x5 = some (r, rI, rL)) : xMet G l yX7_isGood cX7_isGood 10 (some .boolean) 4 95 kp [.ref (xz G + 46), .ref (xz G + 1), .int x2, .int x3, .ref (xz G + 55), .int x5] I L (some (.int r)) rI rL := by
  refine xMet.ofW (by decide +kernel) (Nat.le_of_ble_eq_true rfl) ?_
  intro p e s m args below meth c hC H locs ls hR hS hl
  replace hC : xC G p s m args meth c cX7_isGood 10 RX7 (some .boolean) := hC
  replace hl : lv_has ls 10 [(0, .ref (xz G + 46)), (1, .ref (xz G + 1)), (2, .int x2), (3, .int x3), (4, .ref (xz G + 55)), (5, .int x5)] := hl
  unfold F_X7_isGood_55 at hf
  refine lv_aload_n hC.1 hC.2.1 dX7_isGood_0 rfl (lv_at hl 0 rfl) ?_
  refine x_get (v := .ref (xz G + 51)) hC xf_X7_24 (xce_46 G kp _ _) rfl hR dX7_isGood_1 ?_
  refine lv_lconst (v := 0) hC.1 hC.2.1 dX7_isGood_4 (by decide) ?_
  refine x_csv01 (rest := []) hC xy_J7_fill_d0a16 tw_1048 hf (fun _ h => M_J7_fill_d0a16_51 G l kp N h) ⟨Nat.le_of_ble_eq_true rfl, Nat.le_of_ble_eq_true rfl⟩ rfl rfl (Nat.le_of_ble_eq_true rfl) hl.1 hR hS dX7_isGood_5 ⟨Nat.le_refl _, Nat.le_refl _⟩ (fun L1 hf H locs hR hS => ?_)
  refine lv_aload_n hC.1 hC.2.1 dX7_isGood_8 rfl (lv_at hl 0 rfl) ?_
  refine x_get (v := .ref (xz G + 52)) hC xf_X7_28 (xce_46 G kp _ _) rfl hR dX7_isGood_9 ?_
  refine lv_lconst (v := 0) hC.1 hC.2.1 dX7_isGood_12 (by decide) ?_
  refine x_csv01 (rest := []) hC xy_J7_fill_d0a16 tw_1048 hf (fun _ h => M_J7_fill_d0a16_52 G l kp N h) ⟨Nat.le_of_ble_eq_true rfl, Nat.le_of_ble_eq_true rfl⟩ rfl rfl (Nat.le_of_ble_eq_true rfl) hl.1 hR hS dX7_isGood_13 ⟨Nat.le_refl _, Nat.le_refl _⟩ (fun L2 hf H locs hR hS => ?_)
  refine lv_iconst (v := 0) hC.1 hC.2.1 dX7_isGood_16 (by decide) ?_
  refine lv_istore (lv' := [(6, .int 0), (0, .ref (xz G + 46)), (1, .ref (xz G + 1)), (2, .int x2), (3, .int x3), (4, .ref (xz G + 55)), (5, .int x5)]) hC.1 hC.2.1 dX7_isGood_17 hl (Nat.le_of_ble_eq_true rfl) rfl (fun ls hl => ?_)
  exact W_X7_isGood_55_l19 hC N _ 0 L2 hf _ _ _ hR hS (lv_sub hl [1, 2, 3, 4, 5, 6, 0] rfl)
