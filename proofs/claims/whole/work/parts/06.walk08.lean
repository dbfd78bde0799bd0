set_option maxRecDepth 20000 in
theorem M_X11_isWord (G : XG) (l : Launch) (kp : Bool) {I : xTI} {L : xTL} {x1 : Int64} {r : Int32} (hf : F_X11_isWord I L x1 = some r) : xMet G l yX11_isWord cX11_isWord 3 (some .boolean) 0 0 kp [.ref (xz G + 57), .long x1] I L (some (.int r)) I L := by
  refine xMet.ofW (by decide +kernel) (Nat.le_of_ble_eq_true rfl) ?_
  intro p e s m args below meth c hC H locs ls hR hS hl
  replace hC : xC G p s m args meth c cX11_isWord 3 RX11 (some .boolean) := hC
  replace hl : lv_has ls 3 [(0, .ref (xz G + 57)), (1, .long x1)] := hl
  unfold F_X11_isWord at hf
  refine lv_aload_n hC.1 hC.2.1 dX11_isWord_0 rfl (lv_at hl 0 rfl) ?_
  refine x_getI hC xf_X11_202 (xce_57 G kp _ _) rfl hR dX11_isWord_1 hf (fun v1 hf => ?_)
  refine x_if_ne (tgt := 28) hC dX11_isWord_4 (by decide) hf (fun hf => ?_) (fun hf => ?_)
  · refine lv_iconst (v := 0) hC.1 hC.2.1 dX11_isWord_28 (by decide) ?_
    obtain ⟨h01, hf⟩ := xzc_some hf
    cases hf
    exact x_zret h01 hC hR hS dX11_isWord_29
  · refine lv_aload_n hC.1 hC.2.1 dX11_isWord_7 rfl (lv_at hl 0 rfl) ?_
    refine x_getI hC xf_X11_185 (xce_57 G kp _ _) rfl hR dX11_isWord_8 hf (fun v2 hf => ?_)
    refine lv_iconst (v := 1) hC.1 hC.2.1 dX11_isWord_11 (by decide) ?_
    refine x_ic_ne (tgt := 28) hC dX11_isWord_12 (by decide) hf (fun hf => ?_) (fun hf => ?_)
    · refine lv_iconst (v := 0) hC.1 hC.2.1 dX11_isWord_28 (by decide) ?_
      obtain ⟨h01, hf⟩ := xzc_some hf
      cases hf
      exact x_zret h01 hC hR hS dX11_isWord_29
    · refine lv_aload_n hC.1 hC.2.1 dX11_isWord_15 rfl (lv_at hl 0 rfl) ?_
      refine x_getL hC xf_X11_188 (xce_57 G kp _ _) rfl hR dX11_isWord_16 hf (fun v3 hf => ?_)
      refine lv_lload_n hC.1 hC.2.1 dX11_isWord_19 rfl (lv_at hl 1 rfl) ?_
      refine W.lcmp hC.1 hC.2.1 dX11_isWord_20 ?_
      refine x_if_ne (tgt := 28) hC dX11_isWord_21 (by decide) hf (fun hf => ?_) (fun hf => ?_)
      · refine lv_iconst (v := 0) hC.1 hC.2.1 dX11_isWord_28 (by decide) ?_
        obtain ⟨h01, hf⟩ := xzc_some hf
        cases hf
        exact x_zret h01 hC hR hS dX11_isWord_29
      · refine lv_iconst (v := 1) hC.1 hC.2.1 dX11_isWord_24 (by decide) ?_
        refine lv_goto (tgt := 29) hC.1 hC.2.1 dX11_isWord_25 (by decide) ?_
        obtain ⟨h01, hf⟩ := xzc_some hf
        cases hf
        exact x_zret h01 hC hR hS dX11_isWord_29
set_option maxRecDepth 20000 in
theorem M_X11_keyHere (G : XG) (l : Launch) (kp : Bool) {I : xTI} {L : xTL} {r : Int32} (hf : F_X11_keyHere I L = some r) : xMet G l yX11_keyHere cX11_keyHere 1 (some .int) 1 22 kp [.ref (xz G + 57)] I L (some (.int r)) I L := by
  refine xMet.ofW (by decide +kernel) (Nat.le_of_ble_eq_true rfl) ?_
  intro p e s m args below meth c hC H locs ls hR hS hl
  replace hC : xC G p s m args meth c cX11_keyHere 1 RX11 (some .int) := hC
  replace hl : lv_has ls 1 [(0, .ref (xz G + 57))] := hl
  unfold F_X11_keyHere at hf
  refine lv_aload_n hC.1 hC.2.1 dX11_keyHere_0 rfl (lv_at hl 0 rfl) ?_
  refine x_ldc2 (v := 355568) hC tw_1488 dX11_keyHere_1 ?_
  refine x_cvi00 (rest := []) hC xy_X11_isWord tw_1489 hf (fun _ h => M_X11_isWord G l kp h) ⟨Nat.le_of_ble_eq_true rfl, Nat.le_of_ble_eq_true rfl⟩ (xce_57 G kp _ _) rfl rfl rfl (Nat.le_of_ble_eq_true rfl) hl.1 hR hS dX11_keyHere_4 ⟨Nat.le_refl _, Nat.le_refl _⟩ (fun v1 hf H locs hR hS => ?_)
  refine x_if_eq (tgt := 14) hC dX11_keyHere_7 (by decide) hf (fun hf => ?_) (fun hf => ?_)
  · refine lv_aload_n hC.1 hC.2.1 dX11_keyHere_14 rfl (lv_at hl 0 rfl) ?_
    refine x_ldc2 (v := 168984) hC tw_1493 dX11_keyHere_15 ?_
    refine x_cvi00 (rest := []) hC xy_X11_isWord tw_1489 hf (fun _ h => M_X11_isWord G l kp h) ⟨Nat.le_of_ble_eq_true rfl, Nat.le_of_ble_eq_true rfl⟩ (xce_57 G kp _ _) rfl rfl rfl (Nat.le_of_ble_eq_true rfl) hl.1 hR hS dX11_keyHere_18 ⟨Nat.le_refl _, Nat.le_refl _⟩ (fun v2 hf H locs hR hS => ?_)
    refine x_if_eq (tgt := 28) hC dX11_keyHere_21 (by decide) hf (fun hf => ?_) (fun hf => ?_)
    · refine lv_aload_n hC.1 hC.2.1 dX11_keyHere_28 rfl (lv_at hl 0 rfl) ?_
      refine x_ldc2 (v := 237470) hC tw_1494 dX11_keyHere_29 ?_
      refine x_cvi00 (rest := []) hC xy_X11_isWord tw_1489 hf (fun _ h => M_X11_isWord G l kp h) ⟨Nat.le_of_ble_eq_true rfl, Nat.le_of_ble_eq_true rfl⟩ (xce_57 G kp _ _) rfl rfl rfl (Nat.le_of_ble_eq_true rfl) hl.1 hR hS dX11_keyHere_32 ⟨Nat.le_refl _, Nat.le_refl _⟩ (fun v3 hf H locs hR hS => ?_)
      refine x_if_eq (tgt := 42) hC dX11_keyHere_35 (by decide) hf (fun hf => ?_) (fun hf => ?_)
      · refine lv_aload_n hC.1 hC.2.1 dX11_keyHere_42 rfl (lv_at hl 0 rfl) ?_
        refine x_ldc2 (v := 257) hC tw_1495 dX11_keyHere_43 ?_
        refine x_cvi00 (rest := []) hC xy_X11_isWord tw_1489 hf (fun _ h => M_X11_isWord G l kp h) ⟨Nat.le_of_ble_eq_true rfl, Nat.le_of_ble_eq_true rfl⟩ (xce_57 G kp _ _) rfl rfl rfl (Nat.le_of_ble_eq_true rfl) hl.1 hR hS dX11_keyHere_46 ⟨Nat.le_refl _, Nat.le_refl _⟩ (fun v4 hf H locs hR hS => ?_)
        refine x_if_eq (tgt := 56) hC dX11_keyHere_49 (by decide) hf (fun hf => ?_) (fun hf => ?_)
        · refine lv_aload_n hC.1 hC.2.1 dX11_keyHere_56 rfl (lv_at hl 0 rfl) ?_
          refine x_ldc2 (v := 149125) hC tw_1496 dX11_keyHere_57 ?_
          refine x_cvi00 (rest := []) hC xy_X11_isWord tw_1489 hf (fun _ h => M_X11_isWord G l kp h) ⟨Nat.le_of_ble_eq_true rfl, Nat.le_of_ble_eq_true rfl⟩ (xce_57 G kp _ _) rfl rfl rfl (Nat.le_of_ble_eq_true rfl) hl.1 hR hS dX11_keyHere_60 ⟨Nat.le_refl _, Nat.le_refl _⟩ (fun v5 hf H locs hR hS => ?_)
          refine x_if_eq (tgt := 70) hC dX11_keyHere_63 (by decide) hf (fun hf => ?_) (fun hf => ?_)
          · refine lv_aload_n hC.1 hC.2.1 dX11_keyHere_70 rfl (lv_at hl 0 rfl) ?_
            refine x_ldc2 (v := 3181) hC tw_1497 dX11_keyHere_71 ?_
            refine x_cvi00 (rest := []) hC xy_X11_isWord tw_1489 hf (fun _ h => M_X11_isWord G l kp h) ⟨Nat.le_of_ble_eq_true rfl, Nat.le_of_ble_eq_true rfl⟩ (xce_57 G kp _ _) rfl rfl rfl (Nat.le_of_ble_eq_true rfl) hl.1 hR hS dX11_keyHere_74 ⟨Nat.le_refl _, Nat.le_refl _⟩ (fun v6 hf H locs hR hS => ?_)
            refine x_if_eq (tgt := 84) hC dX11_keyHere_77 (by decide) hf (fun hf => ?_) (fun hf => ?_)
            · refine lv_iconst (v := (-1)) hC.1 hC.2.1 dX11_keyHere_84 (by decide) ?_
              cases hf
              exact x_iret hC hR hS dX11_keyHere_85
            · refine lv_iconst (v := 5) hC.1 hC.2.1 dX11_keyHere_80 (by decide) ?_
              refine lv_goto (tgt := 85) hC.1 hC.2.1 dX11_keyHere_81 (by decide) ?_
              cases hf
              exact x_iret hC hR hS dX11_keyHere_85
          · refine lv_iconst (v := 4) hC.1 hC.2.1 dX11_keyHere_66 (by decide) ?_
            refine lv_goto (tgt := 85) hC.1 hC.2.1 dX11_keyHere_67 (by decide) ?_
            cases hf
            exact x_iret hC hR hS dX11_keyHere_85
        · refine lv_iconst (v := 3) hC.1 hC.2.1 dX11_keyHere_52 (by decide) ?_
          refine lv_goto (tgt := 85) hC.1 hC.2.1 dX11_keyHere_53 (by decide) ?_
          cases hf
          exact x_iret hC hR hS dX11_keyHere_85
      · refine lv_iconst (v := 2) hC.1 hC.2.1 dX11_keyHere_38 (by decide) ?_
        refine lv_goto (tgt := 85) hC.1 hC.2.1 dX11_keyHere_39 (by decide) ?_
        cases hf
        exact x_iret hC hR hS dX11_keyHere_85
    · refine lv_iconst (v := 1) hC.1 hC.2.1 dX11_keyHere_24 (by decide) ?_
      refine lv_goto (tgt := 85) hC.1 hC.2.1 dX11_keyHere_25 (by decide) ?_
      cases hf
      exact x_iret hC hR hS dX11_keyHere_85
  · refine lv_iconst (v := 0) hC.1 hC.2.1 dX11_keyHere_10 (by decide) ?_
    refine lv_goto (tgt := 85) hC.1 hC.2.1 dX11_keyHere_11 (by decide) ?_
    cases hf
    exact x_iret hC hR hS dX11_keyHere_85
set_option maxRecDepth 20000 in
theorem M_X11_fail (G : XG) (l : Launch) (kp : Bool) {I : xTI} {L : xTL} {rI : xTI} (hf : F_X11_fail I = some rI) : xMet G l yX11_fail cX11_fail 1 none 0 0 kp [.ref (xz G + 57)] I L none rI L := by
  refine xMet.ofW (by decide +kernel) (Nat.le_of_ble_eq_true rfl) ?_
  intro p e s m args below meth c hC H locs ls hR hS hl
  replace hC : xC G p s m args meth c cX11_fail 1 RX11 none := hC
  replace hl : lv_has ls 1 [(0, .ref (xz G + 57))] := hl
  unfold F_X11_fail at hf
  refine lv_aload_n hC.1 hC.2.1 dX11_fail_0 rfl (lv_at hl 0 rfl) ?_
  refine x_getI hC xf_X11_202 (xce_57 G kp _ _) rfl hR dX11_fail_1 hf (fun v1 hf => ?_)
  refine x_if_ne (tgt := 20) hC dX11_fail_4 (by decide) hf (fun hf => ?_) (fun hf => ?_)
  · cases hf
    exact x_vret hC hR hS dX11_fail_20
  · refine lv_aload_n hC.1 hC.2.1 dX11_fail_7 rfl (lv_at hl 0 rfl) ?_
    refine lv_iconst (v := 1) hC.1 hC.2.1 dX11_fail_8 (by decide) ?_
    refine x_putZ hC xf_X11_202 xp_11_13 (fun f => xce_57 G kp f _) rfl (Nat.le_of_ble_eq_true rfl) hR hS dX11_fail_9 hf (fun I2 hf H locs hR hS => ?_)
    refine lv_aload_n hC.1 hC.2.1 dX11_fail_12 rfl (lv_at hl 0 rfl) ?_
    refine lv_aload_n hC.1 hC.2.1 dX11_fail_13 rfl (lv_at hl 0 rfl) ?_
    refine x_getI hC xf_X11_182 (xce_57 G kp _ _) rfl hR dX11_fail_14 hf (fun v3 hf => ?_)
    refine x_putI hC xf_X11_206 xp_11_14 (fun f => xce_57 G kp f _) rfl (Nat.le_of_ble_eq_true rfl) hR hS dX11_fail_17 hf (fun I4 hf H locs hR hS => ?_)
    cases hf
    exact x_vret hC hR hS dX11_fail_20
set_option maxRecDepth 20000 in
theorem M_X11_opens (G : XG) (l : Launch) (kp : Bool) (N : Nat) {I : xTI} {L : xTL} {r : Int32} {rI : xTI} {rL : xTL} (hf : F_X11_opens N I L = some (r, rI, rL)) : xMet G l yX11_opens cX11_opens 1 (some .boolean) 2 44 kp [.ref (xz G + 57)] I L (some (.int r)) rI rL := by
  refine xMet.ofW (by decide +kernel) (Nat.le_of_ble_eq_true rfl) ?_
  intro p e s m args below meth c hC H locs ls hR hS hl
  replace hC : xC G p s m args meth c cX11_opens 1 RX11 (some .boolean) := hC
  replace hl : lv_has ls 1 [(0, .ref (xz G + 57))] := hl
  unfold F_X11_opens at hf
  refine lv_aload_n hC.1 hC.2.1 dX11_opens_0 rfl (lv_at hl 0 rfl) ?_
  refine x_getI hC xf_X11_209 (xce_57 G kp _ _) rfl hR dX11_opens_1 hf (fun v1 hf => ?_)
  refine lv_bipush (v := 6) hC.1 hC.2.1 dX11_opens_4 (by decide) ?_
  refine x_ic_ne (tgt := 15) hC dX11_opens_6 (by decide) hf (fun hf => ?_) (fun hf => ?_)
  · refine lv_aload_n hC.1 hC.2.1 dX11_opens_15 rfl (lv_at hl 0 rfl) ?_
    refine lv_dup hC.1 hC.2.1 dX11_opens_16 rfl ?_
    refine x_getI hC xf_X11_209 (xce_57 G kp _ _) rfl hR dX11_opens_17 hf (fun v2 hf => ?_)
    refine lv_iconst (v := 1) hC.1 hC.2.1 dX11_opens_20 (by decide) ?_
    refine lv_iadd hC.1 hC.2.1 dX11_opens_21 ?_
    refine x_putI hC xf_X11_209 xp_11_12 (fun f => xce_57 G kp f _) rfl (Nat.le_of_ble_eq_true rfl) hR hS dX11_opens_22 hf (fun I3 hf H locs hR hS => ?_)
    refine lv_aload_n hC.1 hC.2.1 dX11_opens_25 rfl (lv_at hl 0 rfl) ?_
    refine x_cvv11 (rest := []) hC xy_X11_next tw_1471 hf (fun _ _ h => M_X11_next G l kp N h) ⟨Nat.le_of_ble_eq_true rfl, Nat.le_of_ble_eq_true rfl⟩ (xce_57 G kp _ _) rfl rfl rfl (Nat.le_of_ble_eq_true rfl) hl.1 hR hS dX11_opens_26 ⟨Nat.le_refl _, Nat.le_refl _⟩ (fun I4 L5 hf H locs hR hS => ?_)
    refine lv_iconst (v := 1) hC.1 hC.2.1 dX11_opens_29 (by decide) ?_
    obtain ⟨h01, hf⟩ := xzc_some hf
    cases hf
    exact x_zret h01 hC hR hS dX11_opens_30
  · refine lv_aload_n hC.1 hC.2.1 dX11_opens_9 rfl (lv_at hl 0 rfl) ?_
    refine x_cvv10 (rest := []) hC xy_X11_fail tw_1498 hf (fun _ h => M_X11_fail G l kp h) ⟨Nat.le_of_ble_eq_true rfl, Nat.le_of_ble_eq_true rfl⟩ (xce_57 G kp _ _) rfl rfl rfl (Nat.le_of_ble_eq_true rfl) hl.1 hR hS dX11_opens_10 ⟨Nat.le_refl _, Nat.le_refl _⟩ (fun I6 hf H locs hR hS => ?_)
    refine lv_iconst (v := 0) hC.1 hC.2.1 dX11_opens_13 (by decide) ?_
    obtain ⟨h01, hf⟩ := xzc_some hf
    cases hf
    exact x_zret h01 hC hR hS dX11_opens_14
set_option maxRecDepth 20000 in
theorem W_X11_option_j16 {G : XG} {l : Launch} {kp : Bool} {p : Program} {e : Env} {s : State} {m : MethodId} {args : Array Value} {below : List Frame} {meth : Method} {c : Code} (hC : xC G p s m args meth c cX11_option 7 RX11 (some .int)) {I : xTI} {L : xTL} {r : Int32} {rI : xTI} {rL : xTL} (hf : F_X11_option_j16 I L = some (r, rI, rL)) : ∀ (H : Heap) (locs : List Loc) (ls : Array Slot), xRep G kp I L H → xS G s.heap H locs → lv_has ls 7 [(0, .ref (xz G + 57))] → W p l e (xrm 3 64) s m args below meth c H locs 0 0 (xMQ G kp below args s (some (.int r)) rI rL) (F0 m 16 ls []) := by
  intro H locs ls hR hS hl
  unfold F_X11_option_j16 at hf
  refine lv_aload_n hC.1 hC.2.1 dX11_option_16 rfl (lv_at hl 0 rfl) ?_
  refine lv_bipush (v := (-3)) hC.1 hC.2.1 dX11_option_17 (by decide) ?_
  refine x_cvi10 (rest := []) hC xy_X11_refuse tw_1338 hf (fun _ _ h => M_X11_refuse G l kp h) ⟨Nat.le_of_ble_eq_true rfl, Nat.le_of_ble_eq_true rfl⟩ (xce_57 G kp _ _) rfl rfl rfl (Nat.le_of_ble_eq_true rfl) hl.1 hR hS dX11_option_19 ⟨Nat.le_refl _, Nat.le_refl _⟩ (fun v1 I2 hf H locs hR hS => ?_)
  cases hf
  exact x_iret hC hR hS dX11_option_22
set_option maxRecDepth 20000 in
theorem W_X11_option_j103 {G : XG} {l : Launch} {kp : Bool} {p : Program} {e : Env} {s : State} {m : MethodId} {args : Array Value} {below : List Frame} {meth : Method} {c : Code} (hC : xC G p s m args meth c cX11_option 7 RX11 (some .int)) {I : xTI} {L : xTL} {r : Int32} {rI : xTI} {rL : xTL} (hf : F_X11_option_j103 I L = some (r, rI, rL)) : ∀ (H : Heap) (locs : List Loc) (ls : Array Slot), xRep G kp I L H → xS G s.heap H locs → lv_has ls 7 [(0, .ref (xz G + 57))] → W p l e (xrm 3 64) s m args below meth c H locs 0 0 (xMQ G kp below args s (some (.int r)) rI rL) (F0 m 103 ls []) := by
  intro H locs ls hR hS hl
  unfold F_X11_option_j103 at hf
  refine lv_aload_n hC.1 hC.2.1 dX11_option_103 rfl (lv_at hl 0 rfl) ?_
  refine lv_bipush (v := (-7)) hC.1 hC.2.1 dX11_option_104 (by decide) ?_
  refine x_cvi10 (rest := []) hC xy_X11_refuse tw_1338 hf (fun _ _ h => M_X11_refuse G l kp h) ⟨Nat.le_of_ble_eq_true rfl, Nat.le_of_ble_eq_true rfl⟩ (xce_57 G kp _ _) rfl rfl rfl (Nat.le_of_ble_eq_true rfl) hl.1 hR hS dX11_option_106 ⟨Nat.le_refl _, Nat.le_refl _⟩ (fun v1 I2 hf H locs hR hS => ?_)
  cases hf
  exact x_iret hC hR hS dX11_option_109
set_option maxRecDepth 20000 in
theorem M_X11_option (G : XG) (l : Launch) (kp : Bool) {I : xTI} {L : xTL} {x1 : Int32} {x2 : Int32} {x3 : Int32} {x4 : Int32} {r : Int32} {rI : xTI} {rL : xTL} (hf : F_X11_option I L x1 x2 x3 x4 = some (r, rI, rL)) : xMet G l yX11_option cX11_option 7 (some .int) 3 64 kp [.ref (xz G + 57), .int x1, .int x2, .int x3, .int x4] I L (some (.int r)) rI rL := by
  refine xMet.ofW (by decide +kernel) (Nat.le_of_ble_eq_true rfl) ?_
  intro p e s m args below meth c hC H locs ls hR hS hl
  replace hC : xC G p s m args meth c cX11_option 7 RX11 (some .int) := hC
  replace hl : lv_has ls 7 [(0, .ref (xz G + 57)), (1, .int x1), (2, .int x2), (3, .int x3), (4, .int x4)] := hl
  unfold F_X11_option at hf
  refine lv_aload_n hC.1 hC.2.1 dX11_option_0 rfl (lv_at hl 0 rfl) ?_
  refine lv_iload_n hC.1 hC.2.1 dX11_option_1 rfl (lv_at hl 1 rfl) ?_
  refine x_cvi00 (rest := []) hC xy_X11_areMen tw_1415 hf (fun _ h => M_X11_areMen G l kp h) ⟨Nat.le_of_ble_eq_true rfl, Nat.le_of_ble_eq_true rfl⟩ (xce_57 G kp _ _) rfl rfl rfl (Nat.le_of_ble_eq_true rfl) hl.1 hR hS dX11_option_2 ⟨Nat.le_refl _, Nat.le_refl _⟩ (fun v1 hf H locs hR hS => ?_)
  refine x_if_eq (tgt := 16) hC dX11_option_5 (by decide) hf (fun hf => ?_) (fun hf => ?_)
  · exact W_X11_option_j16 hC hf _ _ _ hR hS (lv_sub hl [0] rfl)
  · refine lv_aload_n hC.1 hC.2.1 dX11_option_8 rfl (lv_at hl 0 rfl) ?_
    refine lv_iload_n hC.1 hC.2.1 dX11_option_9 rfl (lv_at hl 2 rfl) ?_
    refine x_cvi00 (rest := []) hC xy_X11_isStock tw_1359 hf (fun _ h => M_X11_isStock G l kp h) ⟨Nat.le_of_ble_eq_true rfl, Nat.le_of_ble_eq_true rfl⟩ (xce_57 G kp _ _) rfl rfl rfl (Nat.le_of_ble_eq_true rfl) hl.1 hR hS dX11_option_10 ⟨Nat.le_refl _, Nat.le_refl _⟩ (fun v2 hf H locs hR hS => ?_)
    refine x_if_ne (tgt := 23) hC dX11_option_13 (by decide) hf (fun hf => ?_) (fun hf => ?_)
    · refine lv_iload_n hC.1 hC.2.1 dX11_option_23 rfl (lv_at hl 1 rfl) ?_
      refine lv_bipush (v := 100) hC.1 hC.2.1 dX11_option_24 (by decide) ?_
      refine lv_idiv hC.1 hC.2.1 dX11_option_26 (by decide) ?_
      refine x_ist (lv' := fun y3 => [(5, .int y3), (0, .ref (xz G + 57)), (1, .int x1), (2, .int x2), (3, .int x3), (4, .int x4)]) hC hl dX11_option_27 (Nat.le_of_ble_eq_true rfl) hf (fun _ => rfl) (fun y3 hf ls hl => ?_)
      refine lv_iload_n hC.1 hC.2.1 dX11_option_29 rfl (lv_at hl 4 rfl) ?_
      refine x_if_lt (tgt := 103) hC dX11_option_30 (by decide) hf (fun hf => ?_) (fun hf => ?_)
      · exact W_X11_option_j103 hC hf _ _ _ hR hS (lv_sub hl [1] rfl)
      · refine lv_iload_n hC.1 hC.2.1 dX11_option_33 rfl (lv_at hl 4 rfl) ?_
        refine lv_sipush (v := 10000) hC.1 hC.2.1 dX11_option_34 (by decide) ?_
        refine lv_idiv hC.1 hC.2.1 dX11_option_37 (by decide) ?_
        refine lv_iconst (v := 1) hC.1 hC.2.1 dX11_option_38 (by decide) ?_
        refine lv_bipush (v := 99) hC.1 hC.2.1 dX11_option_39 (by decide) ?_
        refine x_csi00 (rest := []) hC xy_X11_in tw_1335 hf (fun _ h => M_X11_in G l kp h) ⟨Nat.le_of_ble_eq_true rfl, Nat.le_of_ble_eq_true rfl⟩ rfl rfl (Nat.le_of_ble_eq_true rfl) hl.1 hR hS dX11_option_41 ⟨Nat.le_refl _, Nat.le_refl _⟩ (fun v4 hf H locs hR hS => ?_)
        refine x_if_eq (tgt := 103) hC dX11_option_44 (by decide) hf (fun hf => ?_) (fun hf => ?_)
        · exact W_X11_option_j103 hC hf _ _ _ hR hS (lv_sub hl [1] rfl)
        · refine lv_iload_n hC.1 hC.2.1 dX11_option_47 rfl (lv_at hl 4 rfl) ?_
          refine lv_sipush (v := 10000) hC.1 hC.2.1 dX11_option_48 (by decide) ?_
          refine lv_irem hC.1 hC.2.1 dX11_option_51 (by decide) ?_
          refine x_if_eq (tgt := 103) hC dX11_option_52 (by decide) hf (fun hf => ?_) (fun hf => ?_)
          · exact W_X11_option_j103 hC hf _ _ _ hR hS (lv_sub hl [1] rfl)
          · refine lv_iload hC.1 hC.2.1 dX11_option_55 (lv_at hl 5 rfl) ?_
            refine x_if_lt (tgt := 103) hC dX11_option_57 (by decide) hf (fun hf => ?_) (fun hf => ?_)
            · exact W_X11_option_j103 hC hf _ _ _ hR hS (lv_sub hl [1] rfl)
            · refine lv_iload hC.1 hC.2.1 dX11_option_60 (lv_at hl 5 rfl) ?_
              refine lv_sipush (v := 10000) hC.1 hC.2.1 dX11_option_62 (by decide) ?_
              refine lv_idiv hC.1 hC.2.1 dX11_option_65 (by decide) ?_
              refine lv_iconst (v := 1) hC.1 hC.2.1 dX11_option_66 (by decide) ?_
              refine lv_bipush (v := 40) hC.1 hC.2.1 dX11_option_67 (by decide) ?_
              refine x_csi00 (rest := []) hC xy_X11_in tw_1335 hf (fun _ h => M_X11_in G l kp h) ⟨Nat.le_of_ble_eq_true rfl, Nat.le_of_ble_eq_true rfl⟩ rfl rfl (Nat.le_of_ble_eq_true rfl) hl.1 hR hS dX11_option_69 ⟨Nat.le_refl _, Nat.le_refl _⟩ (fun v5 hf H locs hR hS => ?_)
              refine x_if_eq (tgt := 103) hC dX11_option_72 (by decide) hf (fun hf => ?_) (fun hf => ?_)
              · exact W_X11_option_j103 hC hf _ _ _ hR hS (lv_sub hl [1] rfl)
              · refine lv_aload_n hC.1 hC.2.1 dX11_option_75 rfl (lv_at hl 1 rfl) ?_
                refine lv_iload_n hC.1 hC.2.1 dX11_option_76 rfl (lv_at hl 2 rfl) ?_
                refine x_cvi00 (rest := []) hC xy_X11_mayDeal tw_1419 hf (fun _ h => M_X11_mayDeal G l kp h) ⟨Nat.le_of_ble_eq_true rfl, Nat.le_of_ble_eq_true rfl⟩ (xce_57 G kp _ _) rfl rfl rfl (Nat.le_of_ble_eq_true rfl) hl.1 hR hS dX11_option_77 ⟨Nat.le_refl _, Nat.le_refl _⟩ (fun v6 hf H locs hR hS => ?_)
                refine x_if_eq (tgt := 103) hC dX11_option_80 (by decide) hf (fun hf => ?_) (fun hf => ?_)
                · exact W_X11_option_j103 hC hf _ _ _ hR hS (lv_sub hl [1] rfl)
                · refine lv_aload_n hC.1 hC.2.1 dX11_option_83 rfl (lv_at hl 1 rfl) ?_
                  refine x_get (v := .ref (xz G + 59)) hC xf_X11_18 (xce_57 G kp _ _) rfl hR dX11_option_84 ?_
                  refine lv_iconst (v := 0) hC.1 hC.2.1 dX11_option_87 (by decide) ?_
                  refine lv_iload hC.1 hC.2.1 dX11_option_88 (lv_at hl 0 rfl) ?_
                  refine lv_iadd hC.1 hC.2.1 dX11_option_90 ?_
                  refine x_lal hC (xce_59 G kp _ _) hR dX11_option_91 hf (fun v7 hf => ?_)
                  refine lv_iload hC.1 hC.2.1 dX11_option_92 (lv_at hl 5 rfl) ?_
                  refine lv_sipush (v := 10000) hC.1 hC.2.1 dX11_option_94 (by decide) ?_
                  refine lv_irem hC.1 hC.2.1 dX11_option_97 (by decide) ?_
                  refine lv_i2l hC.1 hC.2.1 dX11_option_98 rfl ?_
                  refine W.lcmp hC.1 hC.2.1 dX11_option_99 ?_
                  refine x_if_ge (tgt := 110) hC dX11_option_100 (by decide) hf (fun hf => ?_) (fun hf => ?_)
                  · refine lv_aload_n hC.1 hC.2.1 dX11_option_110 rfl (lv_at hl 1 rfl) ?_
                    refine x_get (v := .ref (xz G + 58)) hC xf_X11_14 (xce_57 G kp _ _) rfl hR dX11_option_111 ?_
                    refine lv_iconst (v := 3) hC.1 hC.2.1 dX11_option_114 (by decide) ?_
                    refine x_ial hC (xce_58 G kp _ _) hR dX11_option_115 hf (fun v8 hf => ?_)
                    refine lv_bipush (v := 20) hC.1 hC.2.1 dX11_option_116 (by decide) ?_
                    refine x_ic_ne (tgt := 128) hC dX11_option_118 (by decide) hf (fun hf => ?_) (fun hf => ?_)
                    · refine lv_aload_n hC.1 hC.2.1 dX11_option_128 rfl (lv_at hl 1 rfl) ?_
                      refine x_get (v := .ref (xz G + 59)) hC xf_X11_18 (xce_57 G kp _ _) rfl hR dX11_option_129 ?_
                      refine lv_iconst (v := 0) hC.1 hC.2.1 dX11_option_132 (by decide) ?_
                      refine lv_iload hC.1 hC.2.1 dX11_option_133 (lv_at hl 0 rfl) ?_
                      refine lv_iadd hC.1 hC.2.1 dX11_option_135 ?_
                      refine lv_dup2_11 hC.1 hC.2.1 dX11_option_136 rfl rfl ?_
                      refine x_lal hC (xce_59 G kp _ _) hR dX11_option_137 hf (fun v9 hf => ?_)
                      refine lv_iload hC.1 hC.2.1 dX11_option_138 (lv_at hl 5 rfl) ?_
                      refine lv_sipush (v := 10000) hC.1 hC.2.1 dX11_option_140 (by decide) ?_
                      refine lv_irem hC.1 hC.2.1 dX11_option_143 (by decide) ?_
                      refine lv_i2l hC.1 hC.2.1 dX11_option_144 rfl ?_
                      refine lv_lsub hC.1 hC.2.1 dX11_option_145 ?_
                      refine x_las hC (fun f => xce_59 G kp _ f) hR hS dX11_option_146 hf (fun L10 hf H locs hR hS => ?_)
                      refine lv_aload_n hC.1 hC.2.1 dX11_option_147 rfl (lv_at hl 1 rfl) ?_
                      refine x_get (v := .ref (xz G + 59)) hC xf_X11_18 (xce_57 G kp _ _) rfl hR dX11_option_148 ?_
                      refine lv_iconst (v := 0) hC.1 hC.2.1 dX11_option_151 (by decide) ?_
                      refine lv_iload_n hC.1 hC.2.1 dX11_option_152 rfl (lv_at hl 2 rfl) ?_
                      refine lv_bipush (v := 100) hC.1 hC.2.1 dX11_option_153 (by decide) ?_
                      refine lv_irem hC.1 hC.2.1 dX11_option_155 (by decide) ?_
                      refine lv_iadd hC.1 hC.2.1 dX11_option_156 ?_
                      refine lv_dup2_11 hC.1 hC.2.1 dX11_option_157 rfl rfl ?_
                      refine x_lal hC (xce_59 G kp _ _) hR dX11_option_158 hf (fun v11 hf => ?_)
                      refine lv_iload hC.1 hC.2.1 dX11_option_159 (lv_at hl 5 rfl) ?_
                      refine lv_sipush (v := 10000) hC.1 hC.2.1 dX11_option_161 (by decide) ?_
                      refine lv_irem hC.1 hC.2.1 dX11_option_164 (by decide) ?_
                      refine lv_i2l hC.1 hC.2.1 dX11_option_165 rfl ?_
                      refine lv_ladd hC.1 hC.2.1 dX11_option_166 ?_
                      refine x_las hC (fun f => xce_59 G kp _ f) hR hS dX11_option_167 hf (fun L12 hf H locs hR hS => ?_)
                      refine lv_sipush (v := 912) hC.1 hC.2.1 dX11_option_168 (by decide) ?_
                      refine lv_bipush (v := 7) hC.1 hC.2.1 dX11_option_171 (by decide) ?_
                      refine lv_aload_n hC.1 hC.2.1 dX11_option_173 rfl (lv_at hl 1 rfl) ?_
                      refine x_get (v := .ref (xz G + 58)) hC xf_X11_14 (xce_57 G kp _ _) rfl hR dX11_option_174 ?_
                      refine lv_iconst (v := 3) hC.1 hC.2.1 dX11_option_177 (by decide) ?_
                      refine x_ial hC (xce_58 G kp _ _) hR dX11_option_178 hf (fun v13 hf => ?_)
                      refine lv_imul hC.1 hC.2.1 dX11_option_179 ?_
                      refine lv_iadd hC.1 hC.2.1 dX11_option_180 ?_
                      refine x_ist (lv' := fun y14 => [(6, .int y14), (5, .int y3), (0, .ref (xz G + 57)), (1, .int x1), (2, .int x2), (3, .int x3), (4, .int x4)]) hC hl dX11_option_181 (Nat.le_of_ble_eq_true rfl) hf (fun _ => rfl) (fun y14 hf ls hl => ?_)
                      refine lv_aload_n hC.1 hC.2.1 dX11_option_183 rfl (lv_at hl 2 rfl) ?_
                      refine x_get (v := .ref (xz G + 58)) hC xf_X11_14 (xce_57 G kp _ _) rfl hR dX11_option_184 ?_
                      refine lv_iload hC.1 hC.2.1 dX11_option_187 (lv_at hl 0 rfl) ?_
                      refine lv_iload hC.1 hC.2.1 dX11_option_189 (lv_at hl 1 rfl) ?_
                      refine x_ias hC (fun f => xce_58 G kp f _) hR hS dX11_option_191 hf (fun I15 hf H locs hR hS => ?_)
                      refine lv_aload_n hC.1 hC.2.1 dX11_option_192 rfl (lv_at hl 2 rfl) ?_
                      refine x_get (v := .ref (xz G + 58)) hC xf_X11_14 (xce_57 G kp _ _) rfl hR dX11_option_193 ?_
                      refine lv_iload hC.1 hC.2.1 dX11_option_196 (lv_at hl 0 rfl) ?_
                      refine lv_iconst (v := 1) hC.1 hC.2.1 dX11_option_198 (by decide) ?_
                      refine lv_iadd hC.1 hC.2.1 dX11_option_199 ?_
                      refine lv_iload_n hC.1 hC.2.1 dX11_option_200 rfl (lv_at hl 3 rfl) ?_
                      refine lv_bipush (v := 100) hC.1 hC.2.1 dX11_option_201 (by decide) ?_
                      refine lv_irem hC.1 hC.2.1 dX11_option_203 (by decide) ?_
                      refine x_ias hC (fun f => xce_58 G kp f _) hR hS dX11_option_204 hf (fun I16 hf H locs hR hS => ?_)
                      refine lv_aload_n hC.1 hC.2.1 dX11_option_205 rfl (lv_at hl 2 rfl) ?_
                      refine x_get (v := .ref (xz G + 58)) hC xf_X11_14 (xce_57 G kp _ _) rfl hR dX11_option_206 ?_
                      refine lv_iload hC.1 hC.2.1 dX11_option_209 (lv_at hl 0 rfl) ?_
                      refine lv_iconst (v := 2) hC.1 hC.2.1 dX11_option_211 (by decide) ?_
                      refine lv_iadd hC.1 hC.2.1 dX11_option_212 ?_
                      refine lv_iload_n hC.1 hC.2.1 dX11_option_213 rfl (lv_at hl 4 rfl) ?_
                      refine x_ias hC (fun f => xce_58 G kp f _) hR hS dX11_option_214 hf (fun I17 hf H locs hR hS => ?_)
                      refine lv_aload_n hC.1 hC.2.1 dX11_option_215 rfl (lv_at hl 2 rfl) ?_
                      refine x_get (v := .ref (xz G + 58)) hC xf_X11_14 (xce_57 G kp _ _) rfl hR dX11_option_216 ?_
                      refine lv_iload hC.1 hC.2.1 dX11_option_219 (lv_at hl 0 rfl) ?_
                      refine lv_iconst (v := 3) hC.1 hC.2.1 dX11_option_221 (by decide) ?_
                      refine lv_iadd hC.1 hC.2.1 dX11_option_222 ?_
                      refine lv_iload_n hC.1 hC.2.1 dX11_option_223 rfl (lv_at hl 5 rfl) ?_
                      refine lv_sipush (v := 10000) hC.1 hC.2.1 dX11_option_224 (by decide) ?_
                      refine lv_idiv hC.1 hC.2.1 dX11_option_227 (by decide) ?_
                      refine x_ias hC (fun f => xce_58 G kp f _) hR hS dX11_option_228 hf (fun I18 hf H locs hR hS => ?_)
                      refine lv_aload_n hC.1 hC.2.1 dX11_option_229 rfl (lv_at hl 2 rfl) ?_
                      refine x_get (v := .ref (xz G + 58)) hC xf_X11_14 (xce_57 G kp _ _) rfl hR dX11_option_230 ?_
                      refine lv_iload hC.1 hC.2.1 dX11_option_233 (lv_at hl 0 rfl) ?_
                      refine lv_iconst (v := 4) hC.1 hC.2.1 dX11_option_235 (by decide) ?_
                      refine lv_iadd hC.1 hC.2.1 dX11_option_236 ?_
                      refine lv_iload_n hC.1 hC.2.1 dX11_option_237 rfl (lv_at hl 5 rfl) ?_
                      refine lv_sipush (v := 10000) hC.1 hC.2.1 dX11_option_238 (by decide) ?_
                      refine lv_irem hC.1 hC.2.1 dX11_option_241 (by decide) ?_
                      refine x_ias hC (fun f => xce_58 G kp f _) hR hS dX11_option_242 hf (fun I19 hf H locs hR hS => ?_)
                      refine lv_aload_n hC.1 hC.2.1 dX11_option_243 rfl (lv_at hl 2 rfl) ?_
                      refine x_get (v := .ref (xz G + 58)) hC xf_X11_14 (xce_57 G kp _ _) rfl hR dX11_option_244 ?_
                      refine lv_iload hC.1 hC.2.1 dX11_option_247 (lv_at hl 0 rfl) ?_
                      refine lv_iconst (v := 5) hC.1 hC.2.1 dX11_option_249 (by decide) ?_
                      refine lv_iadd hC.1 hC.2.1 dX11_option_250 ?_
                      refine lv_aload_n hC.1 hC.2.1 dX11_option_251 rfl (lv_at hl 2 rfl) ?_
                      refine x_get (v := .ref (xz G + 58)) hC xf_X11_14 (xce_57 G kp _ _) rfl hR dX11_option_252 ?_
                      refine lv_iconst (v := 0) hC.1 hC.2.1 dX11_option_255 (by decide) ?_
                      refine x_ial hC (xce_58 G kp _ _) hR dX11_option_256 hf (fun v20 hf => ?_)
                      refine lv_iload hC.1 hC.2.1 dX11_option_257 (lv_at hl 6 rfl) ?_
                      refine lv_sipush (v := 10000) hC.1 hC.2.1 dX11_option_259 (by decide) ?_
                      refine lv_idiv hC.1 hC.2.1 dX11_option_262 (by decide) ?_
                      refine lv_iadd hC.1 hC.2.1 dX11_option_263 ?_
                      refine lv_iconst (v := 1) hC.1 hC.2.1 dX11_option_264 (by decide) ?_
                      refine lv_isub hC.1 hC.2.1 dX11_option_265 ?_
                      refine x_ias hC (fun f => xce_58 G kp f _) hR hS dX11_option_266 hf (fun I21 hf H locs hR hS => ?_)
                      refine lv_aload_n hC.1 hC.2.1 dX11_option_267 rfl (lv_at hl 2 rfl) ?_
                      refine x_get (v := .ref (xz G + 58)) hC xf_X11_14 (xce_57 G kp _ _) rfl hR dX11_option_268 ?_
                      refine lv_iload hC.1 hC.2.1 dX11_option_271 (lv_at hl 0 rfl) ?_
                      refine lv_bipush (v := 6) hC.1 hC.2.1 dX11_option_273 (by decide) ?_
                      refine lv_iadd hC.1 hC.2.1 dX11_option_275 ?_
                      refine lv_iconst (v := 0) hC.1 hC.2.1 dX11_option_276 (by decide) ?_
                      refine x_ias hC (fun f => xce_58 G kp f _) hR hS dX11_option_277 hf (fun I22 hf H locs hR hS => ?_)
                      refine lv_aload_n hC.1 hC.2.1 dX11_option_278 rfl (lv_at hl 2 rfl) ?_
                      refine x_get (v := .ref (xz G + 58)) hC xf_X11_14 (xce_57 G kp _ _) rfl hR dX11_option_279 ?_
                      refine lv_iconst (v := 3) hC.1 hC.2.1 dX11_option_282 (by decide) ?_
                      refine lv_dup2_11 hC.1 hC.2.1 dX11_option_283 rfl rfl ?_
                      refine x_ial hC (xce_58 G kp _ _) hR dX11_option_284 hf (fun v23 hf => ?_)
                      refine lv_iconst (v := 1) hC.1 hC.2.1 dX11_option_285 (by decide) ?_
                      refine lv_iadd hC.1 hC.2.1 dX11_option_286 ?_
                      refine x_ias hC (fun f => xce_58 G kp f _) hR hS dX11_option_287 hf (fun I24 hf H locs hR hS => ?_)
                      refine lv_aload_n hC.1 hC.2.1 dX11_option_288 rfl (lv_at hl 2 rfl) ?_
                      refine x_get (v := .ref (xz G + 58)) hC xf_X11_14 (xce_57 G kp _ _) rfl hR dX11_option_289 ?_
                      refine lv_iconst (v := 3) hC.1 hC.2.1 dX11_option_292 (by decide) ?_
                      refine x_ial hC (xce_58 G kp _ _) hR dX11_option_293 hf (fun v25 hf => ?_)
                      refine lv_iconst (v := 1) hC.1 hC.2.1 dX11_option_294 (by decide) ?_
                      refine lv_isub hC.1 hC.2.1 dX11_option_295 ?_
                      cases hf
                      exact x_iret hC hR hS dX11_option_296
                    · refine lv_aload_n hC.1 hC.2.1 dX11_option_121 rfl (lv_at hl 1 rfl) ?_
                      refine lv_bipush (v := (-8)) hC.1 hC.2.1 dX11_option_122 (by decide) ?_
                      refine x_cvi10 (rest := []) hC xy_X11_refuse tw_1338 hf (fun _ _ h => M_X11_refuse G l kp h) ⟨Nat.le_of_ble_eq_true rfl, Nat.le_of_ble_eq_true rfl⟩ (xce_57 G kp _ _) rfl rfl rfl (Nat.le_of_ble_eq_true rfl) hl.1 hR hS dX11_option_124 ⟨Nat.le_refl _, Nat.le_refl _⟩ (fun v26 I27 hf H locs hR hS => ?_)
                      cases hf
                      exact x_iret hC hR hS dX11_option_127
                  · exact W_X11_option_j103 hC hf _ _ _ hR hS (lv_sub hl [1] rfl)
    · exact W_X11_option_j16 hC hf _ _ _ hR hS (lv_sub hl [0] rfl)
set_option maxRecDepth 20000 in
theorem M_X11_op (G : XG) (l : Launch) (kp : Bool) {I : xTI} {L : xTL} {x1 : Int32} {x2 : Int32} {r : Int32} (hf : F_X11_op I x1 x2 = some r) : xMet G l yX11_op cX11_op 3 (some .int) 0 0 kp [.ref (xz G + 57), .int x1, .int x2] I L (some (.int r)) I L := by
  refine xMet.ofW (by decide +kernel) (Nat.le_of_ble_eq_true rfl) ?_
  intro p e s m args below meth c hC H locs ls hR hS hl
  replace hC : xC G p s m args meth c cX11_op 3 RX11 (some .int) := hC
  replace hl : lv_has ls 3 [(0, .ref (xz G + 57)), (1, .int x1), (2, .int x2)] := hl
  unfold F_X11_op at hf
  refine lv_aload_n hC.1 hC.2.1 dX11_op_0 rfl (lv_at hl 0 rfl) ?_
  refine x_get (v := .ref (xz G + 58)) hC xf_X11_14 (xce_57 G kp _ _) rfl hR dX11_op_1 ?_
  refine lv_sipush (v := 912) hC.1 hC.2.1 dX11_op_4 (by decide) ?_
  refine lv_bipush (v := 7) hC.1 hC.2.1 dX11_op_7 (by decide) ?_
  refine lv_iload_n hC.1 hC.2.1 dX11_op_9 rfl (lv_at hl 1 rfl) ?_
  refine lv_imul hC.1 hC.2.1 dX11_op_10 ?_
  refine lv_iadd hC.1 hC.2.1 dX11_op_11 ?_
  refine lv_iload_n hC.1 hC.2.1 dX11_op_12 rfl (lv_at hl 2 rfl) ?_
  refine lv_iadd hC.1 hC.2.1 dX11_op_13 ?_
  refine x_ial hC (xce_58 G kp _ _) hR dX11_op_14 hf (fun v1 hf => ?_)
  cases hf
  exact x_iret hC hR hS dX11_op_15
set_option maxRecDepth 20000 in
theorem W_X11_stand_j65 {G : XG} {l : Launch} {kp : Bool} {p : Program} {e : Env} {s : State} {m : MethodId} {args : Array Value} {below : List Frame} {meth : Method} {c : Code} (hC : xC G p s m args meth c cX11_stand 3 RX11 none) {I : xTI} {L : xTL} {rI : xTI} {x2 : Int32} (hf : F_X11_stand_j65 I x2 = some rI) : ∀ (H : Heap) (locs : List Loc) (ls : Array Slot), xRep G kp I L H → xS G s.heap H locs → lv_has ls 3 [(0, .ref (xz G + 57)), (2, .int x2)] → W p l e (xrm 0 0) s m args below meth c H locs 0 0 (xMQ G kp below args s none rI L) (F0 m 65 ls []) := by
  intro H locs ls hR hS hl
  unfold F_X11_stand_j65 at hf
  refine lv_aload_n hC.1 hC.2.1 dX11_stand_65 rfl (lv_at hl 0 rfl) ?_
  refine x_get (v := .ref (xz G + 58)) hC xf_X11_14 (xce_57 G kp _ _) rfl hR dX11_stand_66 ?_
  refine lv_iload_n hC.1 hC.2.1 dX11_stand_69 rfl (lv_at hl 1 rfl) ?_
  refine lv_bipush (v := 8) hC.1 hC.2.1 dX11_stand_70 (by decide) ?_
  refine lv_iadd hC.1 hC.2.1 dX11_stand_72 ?_
  refine lv_iconst (v := 1) hC.1 hC.2.1 dX11_stand_73 (by decide) ?_
  refine x_ias hC (fun f => xce_58 G kp f _) hR hS dX11_stand_74 hf (fun I1 hf H locs hR hS => ?_)
  cases hf
  exact x_vret hC hR hS dX11_stand_75
set_option maxRecDepth 20000 in
theorem W_X11_stand_j37 {G : XG} {l : Launch} {kp : Bool} {p : Program} {e : Env} {s : State} {m : MethodId} {args : Array Value} {below : List Frame} {meth : Method} {c : Code} (hC : xC G p s m args meth c cX11_stand 3 RX11 none) {I : xTI} {L : xTL} {rI : xTI} {x2 : Int32} (hf : F_X11_stand_j37 I x2 = some rI) : ∀ (H : Heap) (locs : List Loc) (ls : Array Slot), xRep G kp I L H → xS G s.heap H locs → lv_has ls 3 [(0, .ref (xz G + 57)), (2, .int x2)] → W p l e (xrm 0 0) s m args below meth c H locs 0 0 (xMQ G kp below args s none rI L) (F0 m 37 ls []) := by
  intro H locs ls hR hS hl
  unfold F_X11_stand_j37 at hf
  refine lv_aload_n hC.1 hC.2.1 dX11_stand_37 rfl (lv_at hl 0 rfl) ?_
  refine x_get (v := .ref (xz G + 58)) hC xf_X11_14 (xce_57 G kp _ _) rfl hR dX11_stand_38 ?_
  refine lv_iload_n hC.1 hC.2.1 dX11_stand_41 rfl (lv_at hl 1 rfl) ?_
  refine lv_bipush (v := 10) hC.1 hC.2.1 dX11_stand_42 (by decide) ?_
  refine lv_iadd hC.1 hC.2.1 dX11_stand_44 ?_
  refine x_ial hC (xce_58 G kp _ _) hR dX11_stand_45 hf (fun v1 hf => ?_)
  refine lv_iconst (v := (-1)) hC.1 hC.2.1 dX11_stand_46 (by decide) ?_
  refine x_ic_ne (tgt := 65) hC dX11_stand_47 (by decide) hf (fun hf => ?_) (fun hf => ?_)
  · exact W_X11_stand_j65 hC hf _ _ _ hR hS (lv_sub hl [0, 1] rfl)
  · refine lv_aload_n hC.1 hC.2.1 dX11_stand_50 rfl (lv_at hl 0 rfl) ?_
    refine x_get (v := .ref (xz G + 58)) hC xf_X11_14 (xce_57 G kp _ _) rfl hR dX11_stand_51 ?_
    refine lv_iload_n hC.1 hC.2.1 dX11_stand_54 rfl (lv_at hl 1 rfl) ?_
    refine lv_bipush (v := 10) hC.1 hC.2.1 dX11_stand_55 (by decide) ?_
    refine lv_iadd hC.1 hC.2.1 dX11_stand_57 ?_
    refine lv_aload_n hC.1 hC.2.1 dX11_stand_58 rfl (lv_at hl 0 rfl) ?_
    refine x_get (v := .ref (xz G + 58)) hC xf_X11_14 (xce_57 G kp _ _) rfl hR dX11_stand_59 ?_
    refine lv_iconst (v := 0) hC.1 hC.2.1 dX11_stand_62 (by decide) ?_
    refine x_ial hC (xce_58 G kp _ _) hR dX11_stand_63 hf (fun v2 hf => ?_)
    refine x_ias hC (fun f => xce_58 G kp f _) hR hS dX11_stand_64 hf (fun I3 hf H locs hR hS => ?_)
    exact W_X11_stand_j65 hC hf _ _ _ hR hS (lv_sub hl [0, 1] rfl)
set_option maxRecDepth 20000 in
theorem M_X11_stand (G : XG) (l : Launch) (kp : Bool) {I : xTI} {L : xTL} {x1 : Int32} {rI : xTI} (hf : F_X11_stand I x1 = some rI) : xMet G l yX11_stand cX11_stand 3 none 0 0 kp [.ref (xz G + 57), .int x1] I L none rI L := by
  refine xMet.ofW (by decide +kernel) (Nat.le_of_ble_eq_true rfl) ?_
  intro p e s m args below meth c hC H locs ls hR hS hl
  replace hC : xC G p s m args meth c cX11_stand 3 RX11 none := hC
  replace hl : lv_has ls 3 [(0, .ref (xz G + 57)), (1, .int x1)] := hl
  unfold F_X11_stand at hf
  refine lv_sipush (v := 192) hC.1 hC.2.1 dX11_stand_0 (by decide) ?_
  refine lv_bipush (v := 12) hC.1 hC.2.1 dX11_stand_3 (by decide) ?_
  refine lv_iload_n hC.1 hC.2.1 dX11_stand_5 rfl (lv_at hl 1 rfl) ?_
  refine lv_imul hC.1 hC.2.1 dX11_stand_6 ?_
  refine lv_iadd hC.1 hC.2.1 dX11_stand_7 ?_
  refine x_istn (lv' := fun y1 => [(2, .int y1), (0, .ref (xz G + 57)), (1, .int x1)]) hC hl dX11_stand_8 rfl (Nat.le_of_ble_eq_true rfl) hf (fun _ => rfl) (fun y1 hf ls hl => ?_)
  refine lv_aload_n hC.1 hC.2.1 dX11_stand_9 rfl (lv_at hl 1 rfl) ?_
  refine x_get (v := .ref (xz G + 58)) hC xf_X11_14 (xce_57 G kp _ _) rfl hR dX11_stand_10 ?_
  refine lv_iload_n hC.1 hC.2.1 dX11_stand_13 rfl (lv_at hl 0 rfl) ?_
  refine lv_bipush (v := 9) hC.1 hC.2.1 dX11_stand_14 (by decide) ?_
  refine lv_iadd hC.1 hC.2.1 dX11_stand_16 ?_
  refine x_ial hC (xce_58 G kp _ _) hR dX11_stand_17 hf (fun v2 hf => ?_)
  refine lv_iconst (v := (-1)) hC.1 hC.2.1 dX11_stand_18 (by decide) ?_
  refine x_ic_ne (tgt := 37) hC dX11_stand_19 (by decide) hf (fun hf => ?_) (fun hf => ?_)
  · exact W_X11_stand_j37 hC hf _ _ _ hR hS (lv_sub hl [1, 0] rfl)
  · refine lv_aload_n hC.1 hC.2.1 dX11_stand_22 rfl (lv_at hl 1 rfl) ?_
    refine x_get (v := .ref (xz G + 58)) hC xf_X11_14 (xce_57 G kp _ _) rfl hR dX11_stand_23 ?_
    refine lv_iload_n hC.1 hC.2.1 dX11_stand_26 rfl (lv_at hl 0 rfl) ?_
    refine lv_bipush (v := 9) hC.1 hC.2.1 dX11_stand_27 (by decide) ?_
    refine lv_iadd hC.1 hC.2.1 dX11_stand_29 ?_
    refine lv_aload_n hC.1 hC.2.1 dX11_stand_30 rfl (lv_at hl 1 rfl) ?_
    refine x_get (v := .ref (xz G + 58)) hC xf_X11_14 (xce_57 G kp _ _) rfl hR dX11_stand_31 ?_
    refine lv_iconst (v := 0) hC.1 hC.2.1 dX11_stand_34 (by decide) ?_
    refine x_ial hC (xce_58 G kp _ _) hR dX11_stand_35 hf (fun v3 hf => ?_)
    refine x_ias hC (fun f => xce_58 G kp f _) hR hS dX11_stand_36 hf (fun I4 hf H locs hR hS => ?_)
    exact W_X11_stand_j37 hC hf _ _ _ hR hS (lv_sub hl [1, 0] rfl)
set_option maxRecDepth 20000 in
theorem M_X11_declare (G : XG) (l : Launch) (kp : Bool) (N : Nat) {I : xTI} {L : xTL} {x1 : Int32} {r : Int32} {rI : xTI} (hf : F_X11_declare N I x1 = some (r, rI)) : xMet G l yX11_declare cX11_declare 3 (some .int) 3 72 kp [.ref (xz G + 57), .int x1] I L (some (.int r)) rI L := by
  refine xMet.ofW (by decide +kernel) (Nat.le_of_ble_eq_true rfl) ?_
  intro p e s m args below meth c hC H locs ls hR hS hl
  replace hC : xC G p s m args meth c cX11_declare 3 RX11 (some .int) := hC
  replace hl : lv_has ls 3 [(0, .ref (xz G + 57)), (1, .int x1)] := hl
  unfold F_X11_declare at hf
  refine lv_iload_n hC.1 hC.2.1 dX11_declare_0 rfl (lv_at hl 1 rfl) ?_
  refine lv_iconst (v := 0) hC.1 hC.2.1 dX11_declare_1 (by decide) ?_
  refine lv_aload_n hC.1 hC.2.1 dX11_declare_2 rfl (lv_at hl 0 rfl) ?_
  refine x_get (v := .ref (xz G + 58)) hC xf_X11_14 (xce_57 G kp _ _) rfl hR dX11_declare_3 ?_
  refine lv_iconst (v := 3) hC.1 hC.2.1 dX11_declare_6 (by decide) ?_
  refine x_ial hC (xce_58 G kp _ _) hR dX11_declare_7 hf (fun v1 hf => ?_)
  refine lv_iconst (v := 1) hC.1 hC.2.1 dX11_declare_8 (by decide) ?_
  refine lv_isub hC.1 hC.2.1 dX11_declare_9 ?_
  refine x_csi00 (rest := []) hC xy_X11_in tw_1335 hf (fun _ h => M_X11_in G l kp h) ⟨Nat.le_of_ble_eq_true rfl, Nat.le_of_ble_eq_true rfl⟩ rfl rfl (Nat.le_of_ble_eq_true rfl) hl.1 hR hS dX11_declare_10 ⟨Nat.le_refl _, Nat.le_refl _⟩ (fun v2 hf H locs hR hS => ?_)
  refine x_if_ne (tgt := 23) hC dX11_declare_13 (by decide) hf (fun hf => ?_) (fun hf => ?_)
  · refine lv_aload_n hC.1 hC.2.1 dX11_declare_23 rfl (lv_at hl 0 rfl) ?_
    refine lv_iload_n hC.1 hC.2.1 dX11_declare_24 rfl (lv_at hl 1 rfl) ?_
    refine lv_bipush (v := 6) hC.1 hC.2.1 dX11_declare_25 (by decide) ?_
    refine x_cvi00 (rest := []) hC xy_X11_op tw_1575 hf (fun _ h => M_X11_op G l kp h) ⟨Nat.le_of_ble_eq_true rfl, Nat.le_of_ble_eq_true rfl⟩ (xce_57 G kp _ _) rfl rfl rfl (Nat.le_of_ble_eq_true rfl) hl.1 hR hS dX11_declare_27 ⟨Nat.le_refl _, Nat.le_refl _⟩ (fun v3 hf H locs hR hS => ?_)
    refine x_if_eq (tgt := 40) hC dX11_declare_30 (by decide) hf (fun hf => ?_) (fun hf => ?_)
    · refine lv_aload_n hC.1 hC.2.1 dX11_declare_40 rfl (lv_at hl 0 rfl) ?_
      refine lv_iconst (v := 0) hC.1 hC.2.1 dX11_declare_41 (by decide) ?_
      refine x_cvi00 (rest := []) hC xy_X11_free tw_1423 hf (fun _ h => M_X11_free G l kp N h) ⟨Nat.le_of_ble_eq_true rfl, Nat.le_of_ble_eq_true rfl⟩ (xce_57 G kp _ _) rfl rfl rfl (Nat.le_of_ble_eq_true rfl) hl.1 hR hS dX11_declare_42 ⟨Nat.le_refl _, Nat.le_refl _⟩ (fun v4 hf H locs hR hS => ?_)
      refine lv_bipush (v := 60) hC.1 hC.2.1 dX11_declare_45 (by decide) ?_
      refine x_ic_ne (tgt := 57) hC dX11_declare_47 (by decide) hf (fun hf => ?_) (fun hf => ?_)
      · refine lv_aload_n hC.1 hC.2.1 dX11_declare_57 rfl (lv_at hl 0 rfl) ?_
        refine lv_aload_n hC.1 hC.2.1 dX11_declare_58 rfl (lv_at hl 0 rfl) ?_
        refine lv_iload_n hC.1 hC.2.1 dX11_declare_59 rfl (lv_at hl 1 rfl) ?_
        refine lv_iconst (v := 1) hC.1 hC.2.1 dX11_declare_60 (by decide) ?_
        refine x_cvi00 (rest := [.ref (xz G + 57)]) hC xy_X11_op tw_1575 hf (fun _ h => M_X11_op G l kp h) ⟨Nat.le_of_ble_eq_true rfl, Nat.le_of_ble_eq_true rfl⟩ (xce_57 G kp _ _) rfl rfl rfl (Nat.le_of_ble_eq_true rfl) hl.1 hR hS dX11_declare_61 ⟨Nat.le_refl _, Nat.le_refl _⟩ (fun v5 hf H locs hR hS => ?_)
        refine lv_aload_n hC.1 hC.2.1 dX11_declare_64 rfl (lv_at hl 0 rfl) ?_
        refine lv_iload_n hC.1 hC.2.1 dX11_declare_65 rfl (lv_at hl 1 rfl) ?_
        refine lv_iconst (v := 0) hC.1 hC.2.1 dX11_declare_66 (by decide) ?_
        refine x_cvi00 (rest := [.int v5, .ref (xz G + 57)]) hC xy_X11_op tw_1575 hf (fun _ h => M_X11_op G l kp h) ⟨Nat.le_of_ble_eq_true rfl, Nat.le_of_ble_eq_true rfl⟩ (xce_57 G kp _ _) rfl rfl rfl (Nat.le_of_ble_eq_true rfl) hl.1 hR hS dX11_declare_67 ⟨Nat.le_refl _, Nat.le_refl _⟩ (fun v6 hf H locs hR hS => ?_)
        refine lv_aload_n hC.1 hC.2.1 dX11_declare_70 rfl (lv_at hl 0 rfl) ?_
        refine lv_iload_n hC.1 hC.2.1 dX11_declare_71 rfl (lv_at hl 1 rfl) ?_
        refine lv_iconst (v := 2) hC.1 hC.2.1 dX11_declare_72 (by decide) ?_
        refine x_cvi00 (rest := [.int v6, .int v5, .ref (xz G + 57)]) hC xy_X11_op tw_1575 hf (fun _ h => M_X11_op G l kp h) ⟨Nat.le_of_ble_eq_true rfl, Nat.le_of_ble_eq_true rfl⟩ (xce_57 G kp _ _) rfl rfl rfl (Nat.le_of_ble_eq_true rfl) hl.1 hR hS dX11_declare_73 ⟨Nat.le_refl _, Nat.le_refl _⟩ (fun v7 hf H locs hR hS => ?_)
        refine lv_aload_n hC.1 hC.2.1 dX11_declare_76 rfl (lv_at hl 0 rfl) ?_
        refine lv_iload_n hC.1 hC.2.1 dX11_declare_77 rfl (lv_at hl 1 rfl) ?_
        refine lv_iconst (v := 3) hC.1 hC.2.1 dX11_declare_78 (by decide) ?_
        refine x_cvi00 (rest := [.int v7, .int v6, .int v5, .ref (xz G + 57)]) hC xy_X11_op tw_1575 hf (fun _ h => M_X11_op G l kp h) ⟨Nat.le_of_ble_eq_true rfl, Nat.le_of_ble_eq_true rfl⟩ (xce_57 G kp _ _) rfl rfl rfl (Nat.le_of_ble_eq_true rfl) hl.1 hR hS dX11_declare_79 ⟨Nat.le_refl _, Nat.le_refl _⟩ (fun v8 hf H locs hR hS => ?_)
        refine lv_aload_n hC.1 hC.2.1 dX11_declare_82 rfl (lv_at hl 0 rfl) ?_
        refine lv_iload_n hC.1 hC.2.1 dX11_declare_83 rfl (lv_at hl 1 rfl) ?_
        refine lv_iconst (v := 4) hC.1 hC.2.1 dX11_declare_84 (by decide) ?_
        refine x_cvi00 (rest := [.int v8, .int v7, .int v6, .int v5, .ref (xz G + 57)]) hC xy_X11_op tw_1575 hf (fun _ h => M_X11_op G l kp h) ⟨Nat.le_of_ble_eq_true rfl, Nat.le_of_ble_eq_true rfl⟩ (xce_57 G kp _ _) rfl rfl rfl (Nat.le_of_ble_eq_true rfl) hl.1 hR hS dX11_declare_85 ⟨Nat.le_refl _, Nat.le_refl _⟩ (fun v9 hf H locs hR hS => ?_)
        refine lv_aload_n hC.1 hC.2.1 dX11_declare_88 rfl (lv_at hl 0 rfl) ?_
        refine lv_aload_n hC.1 hC.2.1 dX11_declare_89 rfl (lv_at hl 0 rfl) ?_
        refine x_get (v := .ref (xz G + 58)) hC xf_X11_14 (xce_57 G kp _ _) rfl hR dX11_declare_90 ?_
        refine lv_iconst (v := 0) hC.1 hC.2.1 dX11_declare_93 (by decide) ?_
        refine x_ial hC (xce_58 G kp _ _) hR dX11_declare_94 hf (fun v10 hf => ?_)
        refine x_cvi00 (rest := [.int v9, .int v8, .int v7, .int v6, .int v5, .ref (xz G + 57)]) hC xy_X11_accountOf tw_1427 hf (fun _ h => M_X11_accountOf G l kp h) ⟨Nat.le_of_ble_eq_true rfl, Nat.le_of_ble_eq_true rfl⟩ (xce_57 G kp _ _) rfl rfl rfl (Nat.le_of_ble_eq_true rfl) hl.1 hR hS dX11_declare_95 ⟨Nat.le_refl _, Nat.le_refl _⟩ (fun v11 hf H locs hR hS => ?_)
        refine x_cvi10 (rest := []) hC xy_X11_makes tw_1431 hf (fun _ _ h => M_X11_makes G l kp N h) ⟨Nat.le_of_ble_eq_true rfl, Nat.le_of_ble_eq_true rfl⟩ (xce_57 G kp _ _) rfl rfl rfl (Nat.le_of_ble_eq_true rfl) hl.1 hR hS dX11_declare_98 ⟨Nat.le_refl _, Nat.le_refl _⟩ (fun v12 I13 hf H locs hR hS => ?_)
        refine lv_istore_n (lv' := [(2, .int v12), (0, .ref (xz G + 57)), (1, .int x1)]) hC.1 hC.2.1 dX11_declare_101 rfl hl (Nat.le_of_ble_eq_true rfl) rfl (fun ls hl => ?_)
        refine lv_aload_n hC.1 hC.2.1 dX11_declare_102 rfl (lv_at hl 1 rfl) ?_
        refine lv_iload_n hC.1 hC.2.1 dX11_declare_103 rfl (lv_at hl 0 rfl) ?_
        refine x_cvv10 (rest := []) hC xy_X11_stand tw_1563 hf (fun _ h => M_X11_stand G l kp h) ⟨Nat.le_of_ble_eq_true rfl, Nat.le_of_ble_eq_true rfl⟩ (xce_57 G kp _ _) rfl rfl rfl (Nat.le_of_ble_eq_true rfl) hl.1 hR hS dX11_declare_104 ⟨Nat.le_refl _, Nat.le_refl _⟩ (fun I14 hf H locs hR hS => ?_)
        refine lv_aload_n hC.1 hC.2.1 dX11_declare_107 rfl (lv_at hl 1 rfl) ?_
        refine x_get (v := .ref (xz G + 58)) hC xf_X11_14 (xce_57 G kp _ _) rfl hR dX11_declare_108 ?_
        refine lv_sipush (v := 912) hC.1 hC.2.1 dX11_declare_111 (by decide) ?_
        refine lv_bipush (v := 7) hC.1 hC.2.1 dX11_declare_114 (by decide) ?_
        refine lv_iload_n hC.1 hC.2.1 dX11_declare_116 rfl (lv_at hl 2 rfl) ?_
        refine lv_imul hC.1 hC.2.1 dX11_declare_117 ?_
        refine lv_iadd hC.1 hC.2.1 dX11_declare_118 ?_
        refine lv_bipush (v := 6) hC.1 hC.2.1 dX11_declare_119 (by decide) ?_
        refine lv_iadd hC.1 hC.2.1 dX11_declare_121 ?_
        refine lv_iconst (v := 1) hC.1 hC.2.1 dX11_declare_122 (by decide) ?_
        refine x_ias hC (fun f => xce_58 G kp f _) hR hS dX11_declare_123 hf (fun I15 hf H locs hR hS => ?_)
        refine lv_iload_n hC.1 hC.2.1 dX11_declare_124 rfl (lv_at hl 0 rfl) ?_
        cases hf
        exact x_iret hC hR hS dX11_declare_125
      · refine lv_aload_n hC.1 hC.2.1 dX11_declare_50 rfl (lv_at hl 0 rfl) ?_
        refine lv_bipush (v := (-8)) hC.1 hC.2.1 dX11_declare_51 (by decide) ?_
        refine x_cvi10 (rest := []) hC xy_X11_refuse tw_1338 hf (fun _ _ h => M_X11_refuse G l kp h) ⟨Nat.le_of_ble_eq_true rfl, Nat.le_of_ble_eq_true rfl⟩ (xce_57 G kp _ _) rfl rfl rfl (Nat.le_of_ble_eq_true rfl) hl.1 hR hS dX11_declare_53 ⟨Nat.le_refl _, Nat.le_refl _⟩ (fun v16 I17 hf H locs hR hS => ?_)
        cases hf
        exact x_iret hC hR hS dX11_declare_56
    · refine lv_aload_n hC.1 hC.2.1 dX11_declare_33 rfl (lv_at hl 0 rfl) ?_
      refine lv_bipush (v := (-7)) hC.1 hC.2.1 dX11_declare_34 (by decide) ?_
      refine x_cvi10 (rest := []) hC xy_X11_refuse tw_1338 hf (fun _ _ h => M_X11_refuse G l kp h) ⟨Nat.le_of_ble_eq_true rfl, Nat.le_of_ble_eq_true rfl⟩ (xce_57 G kp _ _) rfl rfl rfl (Nat.le_of_ble_eq_true rfl) hl.1 hR hS dX11_declare_36 ⟨Nat.le_refl _, Nat.le_refl _⟩ (fun v18 I19 hf H locs hR hS => ?_)
      cases hf
      exact x_iret hC hR hS dX11_declare_39
  · refine lv_aload_n hC.1 hC.2.1 dX11_declare_16 rfl (lv_at hl 0 rfl) ?_
    refine lv_bipush (v := (-3)) hC.1 hC.2.1 dX11_declare_17 (by decide) ?_
    refine x_cvi10 (rest := []) hC xy_X11_refuse tw_1338 hf (fun _ _ h => M_X11_refuse G l kp h) ⟨Nat.le_of_ble_eq_true rfl, Nat.le_of_ble_eq_true rfl⟩ (xce_57 G kp _ _) rfl rfl rfl (Nat.le_of_ble_eq_true rfl) hl.1 hR hS dX11_declare_19 ⟨Nat.le_refl _, Nat.le_refl _⟩ (fun v20 I21 hf H locs hR hS => ?_)
    cases hf
    exact x_iret hC hR hS dX11_declare_22
set_option maxRecDepth 20000 in
theorem M_X11_optionOf (G : XG) (l : Launch) (kp : Bool) {I : xTI} {L : xTL} {x1 : Int32} {x2 : Int32} {r : Int32} {rI : xTI} (hf : F_X11_optionOf I x1 x2 = some (r, rI)) : xMet G l yX11_optionOf cX11_optionOf 3 (some .int) 1 22 kp [.ref (xz G + 57), .int x1, .int x2] I L (some (.int r)) rI L := by
  refine xMet.ofW (by decide +kernel) (Nat.le_of_ble_eq_true rfl) ?_
  intro p e s m args below meth c hC H locs ls hR hS hl
  replace hC : xC G p s m args meth c cX11_optionOf 3 RX11 (some .int) := hC
  replace hl : lv_has ls 3 [(0, .ref (xz G + 57)), (1, .int x1), (2, .int x2)] := hl
  unfold F_X11_optionOf at hf
  refine lv_iload_n hC.1 hC.2.1 dX11_optionOf_0 rfl (lv_at hl 1 rfl) ?_
  refine lv_iconst (v := 0) hC.1 hC.2.1 dX11_optionOf_1 (by decide) ?_
  refine lv_aload_n hC.1 hC.2.1 dX11_optionOf_2 rfl (lv_at hl 0 rfl) ?_
  refine x_get (v := .ref (xz G + 58)) hC xf_X11_14 (xce_57 G kp _ _) rfl hR dX11_optionOf_3 ?_
  refine lv_iconst (v := 3) hC.1 hC.2.1 dX11_optionOf_6 (by decide) ?_
  refine x_ial hC (xce_58 G kp _ _) hR dX11_optionOf_7 hf (fun v1 hf => ?_)
  refine lv_iconst (v := 1) hC.1 hC.2.1 dX11_optionOf_8 (by decide) ?_
  refine lv_isub hC.1 hC.2.1 dX11_optionOf_9 ?_
  refine x_csi00 (rest := []) hC xy_X11_in tw_1335 hf (fun _ h => M_X11_in G l kp h) ⟨Nat.le_of_ble_eq_true rfl, Nat.le_of_ble_eq_true rfl⟩ rfl rfl (Nat.le_of_ble_eq_true rfl) hl.1 hR hS dX11_optionOf_10 ⟨Nat.le_refl _, Nat.le_refl _⟩ (fun v2 hf H locs hR hS => ?_)
  refine x_if_ne (tgt := 23) hC dX11_optionOf_13 (by decide) hf (fun hf => ?_) (fun hf => ?_)
  · refine lv_iload_n hC.1 hC.2.1 dX11_optionOf_23 rfl (lv_at hl 2 rfl) ?_
    refine lv_iconst (v := 0) hC.1 hC.2.1 dX11_optionOf_24 (by decide) ?_
    refine lv_bipush (v := 6) hC.1 hC.2.1 dX11_optionOf_25 (by decide) ?_
    refine x_csi00 (rest := []) hC xy_X11_in tw_1335 hf (fun _ h => M_X11_in G l kp h) ⟨Nat.le_of_ble_eq_true rfl, Nat.le_of_ble_eq_true rfl⟩ rfl rfl (Nat.le_of_ble_eq_true rfl) hl.1 hR hS dX11_optionOf_27 ⟨Nat.le_refl _, Nat.le_refl _⟩ (fun v3 hf H locs hR hS => ?_)
    refine x_if_eq (tgt := 42) hC dX11_optionOf_30 (by decide) hf (fun hf => ?_) (fun hf => ?_)
    · refine lv_aload_n hC.1 hC.2.1 dX11_optionOf_42 rfl (lv_at hl 0 rfl) ?_
      refine lv_bipush (v := (-7)) hC.1 hC.2.1 dX11_optionOf_43 (by decide) ?_
      refine x_cvi10 (rest := []) hC xy_X11_refuse tw_1338 hf (fun _ _ h => M_X11_refuse G l kp h) ⟨Nat.le_of_ble_eq_true rfl, Nat.le_of_ble_eq_true rfl⟩ (xce_57 G kp _ _) rfl rfl rfl (Nat.le_of_ble_eq_true rfl) hl.1 hR hS dX11_optionOf_45 ⟨Nat.le_refl _, Nat.le_refl _⟩ (fun v4 I5 hf H locs hR hS => ?_)
      cases hf
      exact x_iret hC hR hS dX11_optionOf_48
    · refine lv_aload_n hC.1 hC.2.1 dX11_optionOf_33 rfl (lv_at hl 0 rfl) ?_
      refine lv_iload_n hC.1 hC.2.1 dX11_optionOf_34 rfl (lv_at hl 1 rfl) ?_
      refine lv_iload_n hC.1 hC.2.1 dX11_optionOf_35 rfl (lv_at hl 2 rfl) ?_
      refine x_cvi00 (rest := []) hC xy_X11_op tw_1575 hf (fun _ h => M_X11_op G l kp h) ⟨Nat.le_of_ble_eq_true rfl, Nat.le_of_ble_eq_true rfl⟩ (xce_57 G kp _ _) rfl rfl rfl (Nat.le_of_ble_eq_true rfl) hl.1 hR hS dX11_optionOf_36 ⟨Nat.le_refl _, Nat.le_refl _⟩ (fun v6 hf H locs hR hS => ?_)
      refine lv_goto (tgt := 48) hC.1 hC.2.1 dX11_optionOf_39 (by decide) ?_
      cases hf
      exact x_iret hC hR hS dX11_optionOf_48
  · refine lv_aload_n hC.1 hC.2.1 dX11_optionOf_16 rfl (lv_at hl 0 rfl) ?_
    refine lv_bipush (v := (-3)) hC.1 hC.2.1 dX11_optionOf_17 (by decide) ?_
    refine x_cvi10 (rest := []) hC xy_X11_refuse tw_1338 hf (fun _ _ h => M_X11_refuse G l kp h) ⟨Nat.le_of_ble_eq_true rfl, Nat.le_of_ble_eq_true rfl⟩ (xce_57 G kp _ _) rfl rfl rfl (Nat.le_of_ble_eq_true rfl) hl.1 hR hS dX11_optionOf_19 ⟨Nat.le_refl _, Nat.le_refl _⟩ (fun v7 I8 hf H locs hR hS => ?_)
    cases hf
    exact x_iret hC hR hS dX11_optionOf_22
set_option maxRecDepth 20000 in
theorem W_X11_dividend_j42 {G : XG} {l : Launch} {kp : Bool} {p : Program} {e : Env} {s : State} {m : MethodId} {args : Array Value} {below : List Frame} {meth : Method} {c : Code} (hC : xC G p s m args meth c cX11_dividend 5 RX11 (some .int)) {I : xTI} {L : xTL} {r : Int32} {rI : xTI} (hf : F_X11_dividend_j42 I = some (r, rI)) : ∀ (H : Heap) (locs : List Loc) (ls : Array Slot), xRep G kp I L H → xS G s.heap H locs → lv_has ls 5 [(0, .ref (xz G + 57))] → W p l e (xrm 2 43) s m args below meth c H locs 0 0 (xMQ G kp below args s (some (.int r)) rI L) (F0 m 42 ls []) := by
  intro H locs ls hR hS hl
  unfold F_X11_dividend_j42 at hf
  refine lv_aload_n hC.1 hC.2.1 dX11_dividend_42 rfl (lv_at hl 0 rfl) ?_
  refine lv_bipush (v := (-7)) hC.1 hC.2.1 dX11_dividend_43 (by decide) ?_
  refine x_cvi10 (rest := []) hC xy_X11_refuse tw_1338 hf (fun _ _ h => M_X11_refuse G l kp h) ⟨Nat.le_of_ble_eq_true rfl, Nat.le_of_ble_eq_true rfl⟩ (xce_57 G kp _ _) rfl rfl rfl (Nat.le_of_ble_eq_true rfl) hl.1 hR hS dX11_dividend_45 ⟨Nat.le_refl _, Nat.le_refl _⟩ (fun v1 I2 hf H locs hR hS => ?_)
  cases hf
  exact x_iret hC hR hS dX11_dividend_48
set_option maxRecDepth 20000 in
theorem M_X11_dividend (G : XG) (l : Launch) (kp : Bool) {I : xTI} {L : xTL} {x1 : Int32} {x2 : Int32} {x3 : Int32} {r : Int32} {rI : xTI} (hf : F_X11_dividend I x1 x2 x3 = some (r, rI)) : xMet G l yX11_dividend cX11_dividend 5 (some .int) 2 43 kp [.ref (xz G + 57), .int x1, .int x2, .int x3] I L (some (.int r)) rI L := by
  refine xMet.ofW (by decide +kernel) (Nat.le_of_ble_eq_true rfl) ?_
  intro p e s m args below meth c hC H locs ls hR hS hl
  replace hC : xC G p s m args meth c cX11_dividend 5 RX11 (some .int) := hC
  replace hl : lv_has ls 5 [(0, .ref (xz G + 57)), (1, .int x1), (2, .int x2), (3, .int x3)] := hl
  unfold F_X11_dividend at hf
  refine lv_aload_n hC.1 hC.2.1 dX11_dividend_0 rfl (lv_at hl 0 rfl) ?_
  refine lv_iload_n hC.1 hC.2.1 dX11_dividend_1 rfl (lv_at hl 1 rfl) ?_
  refine x_cvi00 (rest := []) hC xy_X11_isStock tw_1359 hf (fun _ h => M_X11_isStock G l kp h) ⟨Nat.le_of_ble_eq_true rfl, Nat.le_of_ble_eq_true rfl⟩ (xce_57 G kp _ _) rfl rfl rfl (Nat.le_of_ble_eq_true rfl) hl.1 hR hS dX11_dividend_2 ⟨Nat.le_refl _, Nat.le_refl _⟩ (fun v1 hf H locs hR hS => ?_)
  refine x_if_ne (tgt := 15) hC dX11_dividend_5 (by decide) hf (fun hf => ?_) (fun hf => ?_)
  · refine lv_iload_n hC.1 hC.2.1 dX11_dividend_15 rfl (lv_at hl 2 rfl) ?_
    refine lv_aload_n hC.1 hC.2.1 dX11_dividend_16 rfl (lv_at hl 0 rfl) ?_
    refine x_get (v := .ref (xz G + 58)) hC xf_X11_14 (xce_57 G kp _ _) rfl hR dX11_dividend_17 ?_
    refine lv_iconst (v := 0) hC.1 hC.2.1 dX11_dividend_20 (by decide) ?_
    refine x_ial hC (xce_58 G kp _ _) hR dX11_dividend_21 hf (fun v2 hf => ?_)
    refine lv_sipush (v := 699) hC.1 hC.2.1 dX11_dividend_22 (by decide) ?_
    refine x_csi00 (rest := []) hC xy_X11_in tw_1335 hf (fun _ h => M_X11_in G l kp h) ⟨Nat.le_of_ble_eq_true rfl, Nat.le_of_ble_eq_true rfl⟩ rfl rfl (Nat.le_of_ble_eq_true rfl) hl.1 hR hS dX11_dividend_25 ⟨Nat.le_refl _, Nat.le_refl _⟩ (fun v3 hf H locs hR hS => ?_)
    refine x_if_eq (tgt := 42) hC dX11_dividend_28 (by decide) hf (fun hf => ?_) (fun hf => ?_)
    · exact W_X11_dividend_j42 hC hf _ _ _ hR hS (lv_sub hl [0] rfl)
    · refine lv_iload_n hC.1 hC.2.1 dX11_dividend_31 rfl (lv_at hl 3 rfl) ?_
      refine lv_iconst (v := 1) hC.1 hC.2.1 dX11_dividend_32 (by decide) ?_
      refine lv_sipush (v := 999) hC.1 hC.2.1 dX11_dividend_33 (by decide) ?_
      refine x_csi00 (rest := []) hC xy_X11_in tw_1335 hf (fun _ h => M_X11_in G l kp h) ⟨Nat.le_of_ble_eq_true rfl, Nat.le_of_ble_eq_true rfl⟩ rfl rfl (Nat.le_of_ble_eq_true rfl) hl.1 hR hS dX11_dividend_36 ⟨Nat.le_refl _, Nat.le_refl _⟩ (fun v4 hf H locs hR hS => ?_)
      refine x_if_ne (tgt := 49) hC dX11_dividend_39 (by decide) hf (fun hf => ?_) (fun hf => ?_)
      · refine lv_aload_n hC.1 hC.2.1 dX11_dividend_49 rfl (lv_at hl 0 rfl) ?_
        refine x_get (v := .ref (xz G + 58)) hC xf_X11_14 (xce_57 G kp _ _) rfl hR dX11_dividend_50 ?_
        refine lv_iconst (v := 5) hC.1 hC.2.1 dX11_dividend_53 (by decide) ?_
        refine x_ial hC (xce_58 G kp _ _) hR dX11_dividend_54 hf (fun v5 hf => ?_)
        refine lv_bipush (v := 10) hC.1 hC.2.1 dX11_dividend_55 (by decide) ?_
        refine x_ic_ne (tgt := 67) hC dX11_dividend_57 (by decide) hf (fun hf => ?_) (fun hf => ?_)
        · refine lv_sipush (v := 1052) hC.1 hC.2.1 dX11_dividend_67 (by decide) ?_
          refine lv_iconst (v := 3) hC.1 hC.2.1 dX11_dividend_70 (by decide) ?_
          refine lv_aload_n hC.1 hC.2.1 dX11_dividend_71 rfl (lv_at hl 0 rfl) ?_
          refine x_get (v := .ref (xz G + 58)) hC xf_X11_14 (xce_57 G kp _ _) rfl hR dX11_dividend_72 ?_
          refine lv_iconst (v := 5) hC.1 hC.2.1 dX11_dividend_75 (by decide) ?_
          refine x_ial hC (xce_58 G kp _ _) hR dX11_dividend_76 hf (fun v6 hf => ?_)
          refine lv_imul hC.1 hC.2.1 dX11_dividend_77 ?_
          refine lv_iadd hC.1 hC.2.1 dX11_dividend_78 ?_
          refine x_ist (lv' := fun y7 => [(4, .int y7), (0, .ref (xz G + 57)), (1, .int x1), (2, .int x2), (3, .int x3)]) hC hl dX11_dividend_79 (Nat.le_of_ble_eq_true rfl) hf (fun _ => rfl) (fun y7 hf ls hl => ?_)
          refine lv_aload_n hC.1 hC.2.1 dX11_dividend_81 rfl (lv_at hl 1 rfl) ?_
          refine x_get (v := .ref (xz G + 58)) hC xf_X11_14 (xce_57 G kp _ _) rfl hR dX11_dividend_82 ?_
          refine lv_iload hC.1 hC.2.1 dX11_dividend_85 (lv_at hl 0 rfl) ?_
          refine lv_iload_n hC.1 hC.2.1 dX11_dividend_87 rfl (lv_at hl 2 rfl) ?_
          refine x_ias hC (fun f => xce_58 G kp f _) hR hS dX11_dividend_88 hf (fun I8 hf H locs hR hS => ?_)
          refine lv_aload_n hC.1 hC.2.1 dX11_dividend_89 rfl (lv_at hl 1 rfl) ?_
          refine x_get (v := .ref (xz G + 58)) hC xf_X11_14 (xce_57 G kp _ _) rfl hR dX11_dividend_90 ?_
          refine lv_iload hC.1 hC.2.1 dX11_dividend_93 (lv_at hl 0 rfl) ?_
          refine lv_iconst (v := 1) hC.1 hC.2.1 dX11_dividend_95 (by decide) ?_
          refine lv_iadd hC.1 hC.2.1 dX11_dividend_96 ?_
          refine lv_iload_n hC.1 hC.2.1 dX11_dividend_97 rfl (lv_at hl 3 rfl) ?_
          refine x_ias hC (fun f => xce_58 G kp f _) hR hS dX11_dividend_98 hf (fun I9 hf H locs hR hS => ?_)
          refine lv_aload_n hC.1 hC.2.1 dX11_dividend_99 rfl (lv_at hl 1 rfl) ?_
          refine x_get (v := .ref (xz G + 58)) hC xf_X11_14 (xce_57 G kp _ _) rfl hR dX11_dividend_100 ?_
          refine lv_iload hC.1 hC.2.1 dX11_dividend_103 (lv_at hl 0 rfl) ?_
          refine lv_iconst (v := 2) hC.1 hC.2.1 dX11_dividend_105 (by decide) ?_
          refine lv_iadd hC.1 hC.2.1 dX11_dividend_106 ?_
          refine lv_iload_n hC.1 hC.2.1 dX11_dividend_107 rfl (lv_at hl 4 rfl) ?_
          refine x_ias hC (fun f => xce_58 G kp f _) hR hS dX11_dividend_108 hf (fun I10 hf H locs hR hS => ?_)
          refine lv_aload_n hC.1 hC.2.1 dX11_dividend_109 rfl (lv_at hl 1 rfl) ?_
          refine x_get (v := .ref (xz G + 58)) hC xf_X11_14 (xce_57 G kp _ _) rfl hR dX11_dividend_110 ?_
          refine lv_iconst (v := 5) hC.1 hC.2.1 dX11_dividend_113 (by decide) ?_
          refine lv_dup2_11 hC.1 hC.2.1 dX11_dividend_114 rfl rfl ?_
          refine x_ial hC (xce_58 G kp _ _) hR dX11_dividend_115 hf (fun v11 hf => ?_)
          refine lv_iconst (v := 1) hC.1 hC.2.1 dX11_dividend_116 (by decide) ?_
          refine lv_iadd hC.1 hC.2.1 dX11_dividend_117 ?_
          refine x_ias hC (fun f => xce_58 G kp f _) hR hS dX11_dividend_118 hf (fun I12 hf H locs hR hS => ?_)
          refine lv_aload_n hC.1 hC.2.1 dX11_dividend_119 rfl (lv_at hl 1 rfl) ?_
          refine x_get (v := .ref (xz G + 58)) hC xf_X11_14 (xce_57 G kp _ _) rfl hR dX11_dividend_120 ?_
          refine lv_iconst (v := 5) hC.1 hC.2.1 dX11_dividend_123 (by decide) ?_
          refine x_ial hC (xce_58 G kp _ _) hR dX11_dividend_124 hf (fun v13 hf => ?_)
          cases hf
          exact x_iret hC hR hS dX11_dividend_125
        · refine lv_aload_n hC.1 hC.2.1 dX11_dividend_60 rfl (lv_at hl 0 rfl) ?_
          refine lv_bipush (v := (-8)) hC.1 hC.2.1 dX11_dividend_61 (by decide) ?_
          refine x_cvi10 (rest := []) hC xy_X11_refuse tw_1338 hf (fun _ _ h => M_X11_refuse G l kp h) ⟨Nat.le_of_ble_eq_true rfl, Nat.le_of_ble_eq_true rfl⟩ (xce_57 G kp _ _) rfl rfl rfl (Nat.le_of_ble_eq_true rfl) hl.1 hR hS dX11_dividend_63 ⟨Nat.le_refl _, Nat.le_refl _⟩ (fun v14 I15 hf H locs hR hS => ?_)
          cases hf
          exact x_iret hC hR hS dX11_dividend_66
      · exact W_X11_dividend_j42 hC hf _ _ _ hR hS (lv_sub hl [0] rfl)
  · refine lv_aload_n hC.1 hC.2.1 dX11_dividend_8 rfl (lv_at hl 0 rfl) ?_
    refine lv_bipush (v := (-3)) hC.1 hC.2.1 dX11_dividend_9 (by decide) ?_
    refine x_cvi10 (rest := []) hC xy_X11_refuse tw_1338 hf (fun _ _ h => M_X11_refuse G l kp h) ⟨Nat.le_of_ble_eq_true rfl, Nat.le_of_ble_eq_true rfl⟩ (xce_57 G kp _ _) rfl rfl rfl (Nat.le_of_ble_eq_true rfl) hl.1 hR hS dX11_dividend_11 ⟨Nat.le_refl _, Nat.le_refl _⟩ (fun v16 I17 hf H locs hR hS => ?_)
    cases hf
    exact x_iret hC hR hS dX11_dividend_14
set_option maxRecDepth 20000 in
theorem W_X11_feed_l45 {G : XG} {l : Launch} {kp : Bool} {p : Program} {e : Env} {s : State} {m : MethodId} {args : Array Value} {below : List Frame} {meth : Method} {c : Code} (hC : xC G p s m args meth c cX11_feed 4 RX11 (some .int)) (N : Nat) {L : xTL} {r : Int32} {rI : xTI} {x1 : Int32} : ∀ (n : Nat) (x3 : Int32) (I : xTI) , xlp (F_X11_feed_b45 N x1 ) n (x3, I) = some (r, rI) → ∀ (H : Heap) (locs : List Loc) (ls : Array Slot), xRep G kp I L H → xS G s.heap H locs → lv_has ls 4 [(0, .ref (xz G + 57)), (1, .int x1), (3, .int x3)] → W p l e (xrm 1 21) s m args below meth c H locs 0 0 (xMQ G kp below args s (some (.int r)) rI L) (F0 m 45 ls []) := by
  intro n
  induction n with
  | zero =>
    intro x3 I hf
    cases hf
  | succ n hk45 =>
    intro x3 I hf H locs ls hR hS hl
    replace hf : F_X11_feed_c45 N x1 x3 I (xlp (F_X11_feed_b45 N x1 ) n) = some (r, rI) := hf
    unfold F_X11_feed_c45 at hf
    refine lv_iload_n hC.1 hC.2.1 dX11_feed_45 rfl (lv_at hl 2 rfl) ?_
    refine x_if_lt (tgt := 84) hC dX11_feed_46 (by decide) hf (fun hf => ?_) (fun hf => ?_)
    · refine lv_aload_n hC.1 hC.2.1 dX11_feed_84 rfl (lv_at hl 0 rfl) ?_
      refine x_getI hC xf_X11_329 (xce_57 G kp _ _) rfl hR dX11_feed_85 hf (fun v1 hf => ?_)
      cases hf
      exact x_iret hC hR hS dX11_feed_88
    · refine lv_aload_n hC.1 hC.2.1 dX11_feed_49 rfl (lv_at hl 0 rfl) ?_
      refine x_get (v := .ref (xz G + 61)) hC xf_X11_25 (xce_57 G kp _ _) rfl hR dX11_feed_50 ?_
      refine lv_aload_n hC.1 hC.2.1 dX11_feed_53 rfl (lv_at hl 0 rfl) ?_
      refine x_getI hC xf_X11_329 (xce_57 G kp _ _) rfl hR dX11_feed_54 hf (fun v2 hf => ?_)
      refine lv_iload_n hC.1 hC.2.1 dX11_feed_57 rfl (lv_at hl 1 rfl) ?_
      refine lv_bipush (v := 8) hC.1 hC.2.1 dX11_feed_58 (by decide) ?_
      refine lv_iload_n hC.1 hC.2.1 dX11_feed_60 rfl (lv_at hl 2 rfl) ?_
      refine lv_imul hC.1 hC.2.1 dX11_feed_61 ?_
      refine lv_ishr hC.1 hC.2.1 dX11_feed_62 ?_
      refine lv_sipush (v := 255) hC.1 hC.2.1 dX11_feed_63 (by decide) ?_
      refine lv_iand hC.1 hC.2.1 dX11_feed_66 ?_
      refine x_ias hC (fun f => xce_61 G kp f _) hR hS dX11_feed_67 hf (fun I3 hf H locs hR hS => ?_)
      refine lv_aload_n hC.1 hC.2.1 dX11_feed_68 rfl (lv_at hl 0 rfl) ?_
      refine lv_dup hC.1 hC.2.1 dX11_feed_69 rfl ?_
      refine x_getI hC xf_X11_329 (xce_57 G kp _ _) rfl hR dX11_feed_70 hf (fun v4 hf => ?_)
      refine lv_iconst (v := 1) hC.1 hC.2.1 dX11_feed_73 (by decide) ?_
      refine lv_iadd hC.1 hC.2.1 dX11_feed_74 ?_
      refine x_putI hC xf_X11_329 xp_11_5 (fun f => xce_57 G kp f _) rfl (Nat.le_of_ble_eq_true rfl) hR hS dX11_feed_75 hf (fun I5 hf H locs hR hS => ?_)
      refine x_iinc (d := (-1)) (lv' := fun y6 => [(3, .int y6), (0, .ref (xz G + 57)), (1, .int x1)]) (k := 2) hC hl dX11_feed_78 rfl (by decide) (Nat.le_of_ble_eq_true rfl) hf (fun _ => rfl) (fun y6 hf ls hl => ?_)
      refine lv_goto (tgt := 45) hC.1 hC.2.1 dX11_feed_81 (by decide) ?_
      exact hk45 y6 I5 hf _ _ _ hR hS (lv_sub hl [1, 2, 0] rfl)
set_option maxRecDepth 20000 in
theorem M_X11_feed (G : XG) (l : Launch) (kp : Bool) (N : Nat) {I : xTI} {L : xTL} {x1 : Int32} {x2 : Int32} {r : Int32} {rI : xTI} (hf : F_X11_feed N I x1 x2 = some (r, rI)) : xMet G l yX11_feed cX11_feed 4 (some .int) 1 21 kp [.ref (xz G + 57), .int x1, .int x2] I L (some (.int r)) rI L := by
  refine xMet.ofW (by decide +kernel) (Nat.le_of_ble_eq_true rfl) ?_
  intro p e s m args below meth c hC H locs ls hR hS hl
  replace hC : xC G p s m args meth c cX11_feed 4 RX11 (some .int) := hC
  replace hl : lv_has ls 4 [(0, .ref (xz G + 57)), (1, .int x1), (2, .int x2)] := hl
  unfold F_X11_feed at hf
  refine lv_iload_n hC.1 hC.2.1 dX11_feed_0 rfl (lv_at hl 2 rfl) ?_
  refine x_if_ge (tgt := 11) hC dX11_feed_1 (by decide) hf (fun hf => ?_) (fun hf => ?_)
  · refine lv_iload_n hC.1 hC.2.1 dX11_feed_11 rfl (lv_at hl 2 rfl) ?_
    refine lv_iconst (v := 4) hC.1 hC.2.1 dX11_feed_12 (by decide) ?_
    refine x_ic_le (tgt := 23) hC dX11_feed_13 (by decide) hf (fun hf => ?_) (fun hf => ?_)
    · refine lv_aload_n hC.1 hC.2.1 dX11_feed_23 rfl (lv_at hl 0 rfl) ?_
      refine x_getI hC xf_X11_329 (xce_57 G kp _ _) rfl hR dX11_feed_24 hf (fun v1 hf => ?_)
      refine lv_iload_n hC.1 hC.2.1 dX11_feed_27 rfl (lv_at hl 2 rfl) ?_
      refine lv_iadd hC.1 hC.2.1 dX11_feed_28 ?_
      refine lv_bipush (v := 120) hC.1 hC.2.1 dX11_feed_29 (by decide) ?_
      refine x_ic_le (tgt := 41) hC dX11_feed_31 (by decide) hf (fun hf => ?_) (fun hf => ?_)
      · refine lv_iload_n hC.1 hC.2.1 dX11_feed_41 rfl (lv_at hl 2 rfl) ?_
        refine lv_iconst (v := 1) hC.1 hC.2.1 dX11_feed_42 (by decide) ?_
        refine lv_isub hC.1 hC.2.1 dX11_feed_43 ?_
        refine x_istn (lv' := fun y2 => [(3, .int y2), (0, .ref (xz G + 57)), (1, .int x1), (2, .int x2)]) hC hl dX11_feed_44 rfl (Nat.le_of_ble_eq_true rfl) hf (fun _ => rfl) (fun y2 hf ls hl => ?_)
        exact W_X11_feed_l45 hC N _ y2 I hf _ _ _ hR hS (lv_sub hl [1, 2, 0] rfl)
      · refine lv_aload_n hC.1 hC.2.1 dX11_feed_34 rfl (lv_at hl 0 rfl) ?_
        refine lv_bipush (v := (-8)) hC.1 hC.2.1 dX11_feed_35 (by decide) ?_
        refine x_cvi10 (rest := []) hC xy_X11_refuse tw_1338 hf (fun _ _ h => M_X11_refuse G l kp h) ⟨Nat.le_of_ble_eq_true rfl, Nat.le_of_ble_eq_true rfl⟩ (xce_57 G kp _ _) rfl rfl rfl (Nat.le_of_ble_eq_true rfl) hl.1 hR hS dX11_feed_37 ⟨Nat.le_refl _, Nat.le_refl _⟩ (fun v3 I4 hf H locs hR hS => ?_)
        cases hf
        exact x_iret hC hR hS dX11_feed_40
    · refine lv_aload_n hC.1 hC.2.1 dX11_feed_16 rfl (lv_at hl 0 rfl) ?_
      refine lv_bipush (v := (-7)) hC.1 hC.2.1 dX11_feed_17 (by decide) ?_
      refine x_cvi10 (rest := []) hC xy_X11_refuse tw_1338 hf (fun _ _ h => M_X11_refuse G l kp h) ⟨Nat.le_of_ble_eq_true rfl, Nat.le_of_ble_eq_true rfl⟩ (xce_57 G kp _ _) rfl rfl rfl (Nat.le_of_ble_eq_true rfl) hl.1 hR hS dX11_feed_19 ⟨Nat.le_refl _, Nat.le_refl _⟩ (fun v5 I6 hf H locs hR hS => ?_)
      cases hf
      exact x_iret hC hR hS dX11_feed_22
  · refine lv_aload_n hC.1 hC.2.1 dX11_feed_4 rfl (lv_at hl 0 rfl) ?_
    refine lv_bipush (v := (-4)) hC.1 hC.2.1 dX11_feed_5 (by decide) ?_
    refine x_cvi10 (rest := []) hC xy_X11_refuse tw_1338 hf (fun _ _ h => M_X11_refuse G l kp h) ⟨Nat.le_of_ble_eq_true rfl, Nat.le_of_ble_eq_true rfl⟩ (xce_57 G kp _ _) rfl rfl rfl (Nat.le_of_ble_eq_true rfl) hl.1 hR hS dX11_feed_7 ⟨Nat.le_refl _, Nat.le_refl _⟩ (fun v7 I8 hf H locs hR hS => ?_)
    cases hf
    exact x_iret hC hR hS dX11_feed_10
set_option maxRecDepth 20000 in
theorem M_X11_wipe (G : XG) (l : Launch) (kp : Bool) {I : xTI} {L : xTL} {r : Int32} {rI : xTI} (hf : F_X11_wipe I = some (r, rI)) : xMet G l yX11_wipe cX11_wipe 2 (some .int) 0 0 kp [.ref (xz G + 57)] I L (some (.int r)) rI L := by
  refine xMet.ofW (by decide +kernel) (Nat.le_of_ble_eq_true rfl) ?_
  intro p e s m args below meth c hC H locs ls hR hS hl
  replace hC : xC G p s m args meth c cX11_wipe 2 RX11 (some .int) := hC
  replace hl : lv_has ls 2 [(0, .ref (xz G + 57))] := hl
  unfold F_X11_wipe at hf
  refine lv_aload_n hC.1 hC.2.1 dX11_wipe_0 rfl (lv_at hl 0 rfl) ?_
  refine x_getI hC xf_X11_329 (xce_57 G kp _ _) rfl hR dX11_wipe_1 hf (fun v1 hf => ?_)
  refine lv_istore_n (lv' := [(1, .int v1), (0, .ref (xz G + 57))]) hC.1 hC.2.1 dX11_wipe_4 rfl hl (Nat.le_of_ble_eq_true rfl) rfl (fun ls hl => ?_)
  refine lv_aload_n hC.1 hC.2.1 dX11_wipe_5 rfl (lv_at hl 1 rfl) ?_
  refine lv_iconst (v := 0) hC.1 hC.2.1 dX11_wipe_6 (by decide) ?_
  refine x_putI hC xf_X11_329 xp_11_5 (fun f => xce_57 G kp f _) rfl (Nat.le_of_ble_eq_true rfl) hR hS dX11_wipe_7 hf (fun I2 hf H locs hR hS => ?_)
  refine lv_iload_n hC.1 hC.2.1 dX11_wipe_10 rfl (lv_at hl 0 rfl) ?_
  cases hf
  exact x_iret hC hR hS dX11_wipe_11
set_option maxRecDepth 20000 in
theorem M_X11_isWho (G : XG) (l : Launch) (kp : Bool) {I : xTI} {L : xTL} {x1 : Int32} {x2 : Int32} {r : Int32} (hf : F_X11_isWho I x1 x2 = some r) : xMet G l yX11_isWho cX11_isWho 3 (some .boolean) 2 43 kp [.ref (xz G + 57), .int x1, .int x2] I L (some (.int r)) I L := by
  refine xMet.ofW (by decide +kernel) (Nat.le_of_ble_eq_true rfl) ?_
  intro p e s m args below meth c hC H locs ls hR hS hl
  replace hC : xC G p s m args meth c cX11_isWho 3 RX11 (some .boolean) := hC
  replace hl : lv_has ls 3 [(0, .ref (xz G + 57)), (1, .int x1), (2, .int x2)] := hl
  unfold F_X11_isWho at hf
  refine lv_iload_n hC.1 hC.2.1 dX11_isWho_0 rfl (lv_at hl 1 rfl) ?_
  refine lv_iconst (v := 0) hC.1 hC.2.1 dX11_isWho_1 (by decide) ?_
  refine lv_iconst (v := 5) hC.1 hC.2.1 dX11_isWho_2 (by decide) ?_
  refine x_csi00 (rest := []) hC xy_X11_in tw_1335 hf (fun _ h => M_X11_in G l kp h) ⟨Nat.le_of_ble_eq_true rfl, Nat.le_of_ble_eq_true rfl⟩ rfl rfl (Nat.le_of_ble_eq_true rfl) hl.1 hR hS dX11_isWho_3 ⟨Nat.le_refl _, Nat.le_refl _⟩ (fun v1 hf H locs hR hS => ?_)
  refine x_if_eq (tgt := 32) hC dX11_isWho_6 (by decide) hf (fun hf => ?_) (fun hf => ?_)
  · refine lv_iconst (v := 0) hC.1 hC.2.1 dX11_isWho_32 (by decide) ?_
    obtain ⟨h01, hf⟩ := xzc_some hf
    cases hf
    exact x_zret h01 hC hR hS dX11_isWho_33
  · refine lv_aload_n hC.1 hC.2.1 dX11_isWho_9 rfl (lv_at hl 0 rfl) ?_
    refine lv_iload_n hC.1 hC.2.1 dX11_isWho_10 rfl (lv_at hl 2 rfl) ?_
    refine x_cvi00 (rest := []) hC xy_X11_isStock tw_1359 hf (fun _ h => M_X11_isStock G l kp h) ⟨Nat.le_of_ble_eq_true rfl, Nat.le_of_ble_eq_true rfl⟩ (xce_57 G kp _ _) rfl rfl rfl (Nat.le_of_ble_eq_true rfl) hl.1 hR hS dX11_isWho_11 ⟨Nat.le_refl _, Nat.le_refl _⟩ (fun v2 hf H locs hR hS => ?_)
    refine x_if_ne (tgt := 28) hC dX11_isWho_14 (by decide) hf (fun hf => ?_) (fun hf => ?_)
    · refine lv_iconst (v := 1) hC.1 hC.2.1 dX11_isWho_28 (by decide) ?_
      refine lv_goto (tgt := 33) hC.1 hC.2.1 dX11_isWho_29 (by decide) ?_
      obtain ⟨h01, hf⟩ := xzc_some hf
      cases hf
      exact x_zret h01 hC hR hS dX11_isWho_33
    · refine lv_aload_n hC.1 hC.2.1 dX11_isWho_17 rfl (lv_at hl 0 rfl) ?_
      refine lv_iload_n hC.1 hC.2.1 dX11_isWho_18 rfl (lv_at hl 2 rfl) ?_
      refine lv_bipush (v := 100) hC.1 hC.2.1 dX11_isWho_19 (by decide) ?_
      refine lv_isub hC.1 hC.2.1 dX11_isWho_21 ?_
      refine x_cvi00 (rest := []) hC xy_X11_isBargain tw_1439 hf (fun _ h => M_X11_isBargain G l kp h) ⟨Nat.le_of_ble_eq_true rfl, Nat.le_of_ble_eq_true rfl⟩ (xce_57 G kp _ _) rfl rfl rfl (Nat.le_of_ble_eq_true rfl) hl.1 hR hS dX11_isWho_22 ⟨Nat.le_refl _, Nat.le_refl _⟩ (fun v3 hf H locs hR hS => ?_)
      refine x_if_eq (tgt := 32) hC dX11_isWho_25 (by decide) hf (fun hf => ?_) (fun hf => ?_)
      · refine lv_iconst (v := 0) hC.1 hC.2.1 dX11_isWho_32 (by decide) ?_
        obtain ⟨h01, hf⟩ := xzc_some hf
        cases hf
        exact x_zret h01 hC hR hS dX11_isWho_33
      · refine lv_iconst (v := 1) hC.1 hC.2.1 dX11_isWho_28 (by decide) ?_
        refine lv_goto (tgt := 33) hC.1 hC.2.1 dX11_isWho_29 (by decide) ?_
        obtain ⟨h01, hf⟩ := xzc_some hf
        cases hf
        exact x_zret h01 hC hR hS dX11_isWho_33
set_option maxRecDepth 20000 in
theorem M_X11_defaultOf (G : XG) (l : Launch) (kp : Bool) {I : xTI} {L : xTL} {x0 : Int32} {r : Int32} (hf : F_X11_defaultOf x0 = some r) : xMet G l yX11_defaultOf cX11_defaultOf 1 (some .int) 0 0 kp [.int x0] I L (some (.int r)) I L := by
  refine xMet.ofW (by decide +kernel) (Nat.le_of_ble_eq_true rfl) ?_
  intro p e s m args below meth c hC H locs ls hR hS hl
  replace hC : xC G p s m args meth c cX11_defaultOf 1 RX11 (some .int) := hC
  replace hl : lv_has ls 1 [(0, .int x0)] := hl
  unfold F_X11_defaultOf at hf
  refine lv_iload_n hC.1 hC.2.1 dX11_defaultOf_0 rfl (lv_at hl 0 rfl) ?_
  refine lv_iconst (v := 1) hC.1 hC.2.1 dX11_defaultOf_1 (by decide) ?_
  refine x_ic_ne (tgt := 10) hC dX11_defaultOf_2 (by decide) hf (fun hf => ?_) (fun hf => ?_)
  · refine lv_iload_n hC.1 hC.2.1 dX11_defaultOf_10 rfl (lv_at hl 0 rfl) ?_
    refine lv_iconst (v := 5) hC.1 hC.2.1 dX11_defaultOf_11 (by decide) ?_
    refine x_ic_ne (tgt := 19) hC dX11_defaultOf_12 (by decide) hf (fun hf => ?_) (fun hf => ?_)
    · refine lv_iconst (v := 0) hC.1 hC.2.1 dX11_defaultOf_19 (by decide) ?_
      cases hf
      exact x_iret hC hR hS dX11_defaultOf_20
    · refine lv_iconst (v := 1) hC.1 hC.2.1 dX11_defaultOf_15 (by decide) ?_
      refine lv_goto (tgt := 20) hC.1 hC.2.1 dX11_defaultOf_16 (by decide) ?_
      cases hf
      exact x_iret hC hR hS dX11_defaultOf_20
  · refine lv_bipush (v := 120) hC.1 hC.2.1 dX11_defaultOf_5 (by decide) ?_
    refine lv_goto (tgt := 20) hC.1 hC.2.1 dX11_defaultOf_7 (by decide) ?_
    cases hf
    exact x_iret hC hR hS dX11_defaultOf_20
set_option maxRecDepth 20000 in
theorem W_X11_menUp_j28 {G : XG} {l : Launch} {kp : Bool} {p : Program} {e : Env} {s : State} {m : MethodId} {args : Array Value} {below : List Frame} {meth : Method} {c : Code} (hC : xC G p s m args meth c cX11_menUp 3 RX11 (some .int)) (N : Nat) {I : xTI} {L : xTL} {r : Int32} {x2 : Int32} {t0 : Int32} {t1 : Int32} (k4 : Int32 × Int32 → Option (Int32)) (hk4 : ∀ (x1 : Int32) (x2 : Int32) , k4 (x1, x2) = some r → ∀ (H : Heap) (locs : List Loc) (ls : Array Slot), xRep G kp I L H → xS G s.heap H locs → lv_has ls 3 [(0, .ref (xz G + 57)), (1, .int x1), (2, .int x2)] → W p l e (xrm 1 21) s m args below meth c H locs 0 0 (xMQ G kp below args s (some (.int r)) I L) (F0 m 4 ls [])) (hf : F_X11_menUp_j28 k4 N I x2 t0 t1 = some r) : ∀ (H : Heap) (locs : List Loc) (ls : Array Slot), xRep G kp I L H → xS G s.heap H locs → lv_has ls 3 [(0, .ref (xz G + 57)), (2, .int x2)] → W p l e (xrm 1 21) s m args below meth c H locs 0 0 (xMQ G kp below args s (some (.int r)) I L) (F0 m 28 ls [.int t1, .int t0]) := by
  intro H locs ls hR hS hl
  unfold F_X11_menUp_j28 at hf
  refine lv_iadd hC.1 hC.2.1 dX11_menUp_28 ?_
  refine x_istn (lv' := fun y1 => [(1, .int y1), (0, .ref (xz G + 57)), (2, .int x2)]) hC hl dX11_menUp_29 rfl (Nat.le_of_ble_eq_true rfl) hf (fun _ => rfl) (fun y1 hf ls hl => ?_)
  refine x_iinc (d := 1) (lv' := fun y2 => [(2, .int y2), (1, .int y1), (0, .ref (xz G + 57))]) (k := 2) hC hl dX11_menUp_30 rfl (by decide) (Nat.le_of_ble_eq_true rfl) hf (fun _ => rfl) (fun y2 hf ls hl => ?_)
  refine lv_goto (tgt := 4) hC.1 hC.2.1 dX11_menUp_33 (by decide) ?_
  exact hk4 y1 y2 hf _ _ _ hR hS (lv_sub hl [2, 1, 0] rfl)
set_option maxRecDepth 20000 in
theorem W_X11_menUp_l4 {G : XG} {l : Launch} {kp : Bool} {p : Program} {e : Env} {s : State} {m : MethodId} {args : Array Value} {below : List Frame} {meth : Method} {c : Code} (hC : xC G p s m args meth c cX11_menUp 3 RX11 (some .int)) (N : Nat) {I : xTI} {L : xTL} {r : Int32} : ∀ (n : Nat) (x1 : Int32) (x2 : Int32) , xlp (F_X11_menUp_b4 N I ) n (x1, x2) = some r → ∀ (H : Heap) (locs : List Loc) (ls : Array Slot), xRep G kp I L H → xS G s.heap H locs → lv_has ls 3 [(0, .ref (xz G + 57)), (1, .int x1), (2, .int x2)] → W p l e (xrm 1 21) s m args below meth c H locs 0 0 (xMQ G kp below args s (some (.int r)) I L) (F0 m 4 ls []) := by
  intro n
  induction n with
  | zero =>
    intro x1 x2 hf
    cases hf
  | succ n hk4 =>
    intro x1 x2 hf H locs ls hR hS hl
    replace hf : F_X11_menUp_c4 N I x1 x2 (xlp (F_X11_menUp_b4 N I ) n) = some r := hf
    unfold F_X11_menUp_c4 at hf
    refine lv_iload_n hC.1 hC.2.1 dX11_menUp_4 rfl (lv_at hl 2 rfl) ?_
    refine lv_aload_n hC.1 hC.2.1 dX11_menUp_5 rfl (lv_at hl 0 rfl) ?_
    refine x_get (v := .ref (xz G + 58)) hC xf_X11_14 (xce_57 G kp _ _) rfl hR dX11_menUp_6 ?_
    refine lv_iconst (v := 1) hC.1 hC.2.1 dX11_menUp_9 (by decide) ?_
    refine x_ial hC (xce_58 G kp _ _) hR dX11_menUp_10 hf (fun v1 hf => ?_)
    refine x_ic_ge (tgt := 36) hC dX11_menUp_11 (by decide) hf (fun hf => ?_) (fun hf => ?_)
    · refine lv_iload_n hC.1 hC.2.1 dX11_menUp_36 rfl (lv_at hl 1 rfl) ?_
      cases hf
      exact x_iret hC hR hS dX11_menUp_37
    · refine lv_iload_n hC.1 hC.2.1 dX11_menUp_14 rfl (lv_at hl 1 rfl) ?_
      refine lv_aload_n hC.1 hC.2.1 dX11_menUp_15 rfl (lv_at hl 0 rfl) ?_
      refine lv_iload_n hC.1 hC.2.1 dX11_menUp_16 rfl (lv_at hl 2 rfl) ?_
      refine x_cvi00 (rest := [.int x1]) hC xy_X11_isUp tw_1363 hf (fun _ h => M_X11_isUp G l kp h) ⟨Nat.le_of_ble_eq_true rfl, Nat.le_of_ble_eq_true rfl⟩ (xce_57 G kp _ _) rfl rfl rfl (Nat.le_of_ble_eq_true rfl) hl.1 hR hS dX11_menUp_17 ⟨Nat.le_refl _, Nat.le_refl _⟩ (fun v2 hf H locs hR hS => ?_)
      refine x_if_eq (tgt := 27) hC dX11_menUp_20 (by decide) hf (fun hf => ?_) (fun hf => ?_)
      · refine lv_iconst (v := 0) hC.1 hC.2.1 dX11_menUp_27 (by decide) ?_
        exact W_X11_menUp_j28 hC N k4 hk4 hf _ _ _ hR hS (lv_sub hl [0, 2] rfl)
      · refine lv_iconst (v := 1) hC.1 hC.2.1 dX11_menUp_23 (by decide) ?_
        refine lv_goto (tgt := 28) hC.1 hC.2.1 dX11_menUp_24 (by decide) ?_
        exact W_X11_menUp_j28 hC N k4 hk4 hf _ _ _ hR hS (lv_sub hl [0, 2] rfl)
set_option maxRecDepth 20000 in
theorem M_X11_menUp (G : XG) (l : Launch) (kp : Bool) (N : Nat) {I : xTI} {L : xTL} {r : Int32} (hf : F_X11_menUp N I = some r) : xMet G l yX11_menUp cX11_menUp 3 (some .int) 1 21 kp [.ref (xz G + 57)] I L (some (.int r)) I L := by
  refine xMet.ofW (by decide +kernel) (Nat.le_of_ble_eq_true rfl) ?_
  intro p e s m args below meth c hC H locs ls hR hS hl
  replace hC : xC G p s m args meth c cX11_menUp 3 RX11 (some .int) := hC
  replace hl : lv_has ls 3 [(0, .ref (xz G + 57))] := hl
  unfold F_X11_menUp at hf
  refine lv_iconst (v := 0) hC.1 hC.2.1 dX11_menUp_0 (by decide) ?_
  refine lv_istore_n (lv' := [(1, .int 0), (0, .ref (xz G + 57))]) hC.1 hC.2.1 dX11_menUp_1 rfl hl (Nat.le_of_ble_eq_true rfl) rfl (fun ls hl => ?_)
  refine lv_iconst (v := 0) hC.1 hC.2.1 dX11_menUp_2 (by decide) ?_
  refine lv_istore_n (lv' := [(2, .int 0), (1, .int 0), (0, .ref (xz G + 57))]) hC.1 hC.2.1 dX11_menUp_3 rfl hl (Nat.le_of_ble_eq_true rfl) rfl (fun ls hl => ?_)
  exact W_X11_menUp_l4 hC N _ 0 0 hf _ _ _ hR hS (lv_sub hl [2, 1, 0] rfl)
set_option maxRecDepth 20000 in
theorem W_X11_pass_j39 {G : XG} {l : Launch} {kp : Bool} {p : Program} {e : Env} {s : State} {m : MethodId} {args : Array Value} {below : List Frame} {meth : Method} {c : Code} (hC : xC G p s m args meth c cX11_pass 3 RX11 (some .int)) {I : xTI} {L : xTL} {r : Int32} {rI : xTI} (hf : F_X11_pass_j39 I = some (r, rI)) : ∀ (H : Heap) (locs : List Loc) (ls : Array Slot), xRep G kp I L H → xS G s.heap H locs → lv_has ls 3 [(0, .ref (xz G + 57))] → W p l e (xrm 1 22) s m args below meth c H locs 0 0 (xMQ G kp below args s (some (.int r)) rI L) (F0 m 39 ls []) := by
  intro H locs ls hR hS hl
  unfold F_X11_pass_j39 at hf
  refine lv_aload_n hC.1 hC.2.1 dX11_pass_39 rfl (lv_at hl 0 rfl) ?_
  refine lv_bipush (v := (-3)) hC.1 hC.2.1 dX11_pass_40 (by decide) ?_
  refine x_cvi10 (rest := []) hC xy_X11_refuse tw_1338 hf (fun _ _ h => M_X11_refuse G l kp h) ⟨Nat.le_of_ble_eq_true rfl, Nat.le_of_ble_eq_true rfl⟩ (xce_57 G kp _ _) rfl rfl rfl (Nat.le_of_ble_eq_true rfl) hl.1 hR hS dX11_pass_42 ⟨Nat.le_refl _, Nat.le_refl _⟩ (fun v1 I2 hf H locs hR hS => ?_)
  cases hf
  exact x_iret hC hR hS dX11_pass_45
set_option maxRecDepth 20000 in
theorem M_X11_pass (G : XG) (l : Launch) (kp : Bool) {I : xTI} {L : xTL} {x1 : Int32} {x2 : Int32} {r : Int32} {rI : xTI} (hf : F_X11_pass I x1 x2 = some (r, rI)) : xMet G l yX11_pass cX11_pass 3 (some .int) 1 22 kp [.ref (xz G + 57), .int x1, .int x2] I L (some (.int r)) rI L := by
  refine xMet.ofW (by decide +kernel) (Nat.le_of_ble_eq_true rfl) ?_
  intro p e s m args below meth c hC H locs ls hR hS hl
  replace hC : xC G p s m args meth c cX11_pass 3 RX11 (some .int) := hC
  replace hl : lv_has ls 3 [(0, .ref (xz G + 57)), (1, .int x1), (2, .int x2)] := hl
  unfold F_X11_pass at hf
  refine lv_aload_n hC.1 hC.2.1 dX11_pass_0 rfl (lv_at hl 0 rfl) ?_
  refine x_get (v := .ref (xz G + 58)) hC xf_X11_14 (xce_57 G kp _ _) rfl hR dX11_pass_1 ?_
  refine lv_bipush (v := 8) hC.1 hC.2.1 dX11_pass_4 (by decide) ?_
  refine x_ial hC (xce_58 G kp _ _) hR dX11_pass_6 hf (fun v1 hf => ?_)
  refine x_if_ne (tgt := 17) hC dX11_pass_7 (by decide) hf (fun hf => ?_) (fun hf => ?_)
  · refine lv_iload_n hC.1 hC.2.1 dX11_pass_17 rfl (lv_at hl 1 rfl) ?_
    refine x_if_lt (tgt := 39) hC dX11_pass_18 (by decide) hf (fun hf => ?_) (fun hf => ?_)
    · exact W_X11_pass_j39 hC hf _ _ _ hR hS (lv_sub hl [0] rfl)
    · refine lv_iload_n hC.1 hC.2.1 dX11_pass_21 rfl (lv_at hl 1 rfl) ?_
      refine lv_aload_n hC.1 hC.2.1 dX11_pass_22 rfl (lv_at hl 0 rfl) ?_
      refine x_get (v := .ref (xz G + 58)) hC xf_X11_14 (xce_57 G kp _ _) rfl hR dX11_pass_23 ?_
      refine lv_bipush (v := 6) hC.1 hC.2.1 dX11_pass_26 (by decide) ?_
      refine x_ial hC (xce_58 G kp _ _) hR dX11_pass_28 hf (fun v2 hf => ?_)
      refine x_ic_ge (tgt := 39) hC dX11_pass_29 (by decide) hf (fun hf => ?_) (fun hf => ?_)
      · exact W_X11_pass_j39 hC hf _ _ _ hR hS (lv_sub hl [0] rfl)
      · refine lv_iload_n hC.1 hC.2.1 dX11_pass_32 rfl (lv_at hl 1 rfl) ?_
        refine lv_sipush (v := 300) hC.1 hC.2.1 dX11_pass_33 (by decide) ?_
        refine x_ic_lt (tgt := 46) hC dX11_pass_36 (by decide) hf (fun hf => ?_) (fun hf => ?_)
        · refine lv_iload_n hC.1 hC.2.1 dX11_pass_46 rfl (lv_at hl 2 rfl) ?_
          refine lv_iconst (v := 0) hC.1 hC.2.1 dX11_pass_47 (by decide) ?_
          refine lv_bipush (v := 6) hC.1 hC.2.1 dX11_pass_48 (by decide) ?_
          refine x_csi00 (rest := []) hC xy_X11_in tw_1335 hf (fun _ h => M_X11_in G l kp h) ⟨Nat.le_of_ble_eq_true rfl, Nat.le_of_ble_eq_true rfl⟩ rfl rfl (Nat.le_of_ble_eq_true rfl) hl.1 hR hS dX11_pass_50 ⟨Nat.le_refl _, Nat.le_refl _⟩ (fun v3 hf H locs hR hS => ?_)
          refine x_if_eq (tgt := 74) hC dX11_pass_53 (by decide) hf (fun hf => ?_) (fun hf => ?_)
          · refine lv_aload_n hC.1 hC.2.1 dX11_pass_74 rfl (lv_at hl 0 rfl) ?_
            refine lv_bipush (v := (-7)) hC.1 hC.2.1 dX11_pass_75 (by decide) ?_
            refine x_cvi10 (rest := []) hC xy_X11_refuse tw_1338 hf (fun _ _ h => M_X11_refuse G l kp h) ⟨Nat.le_of_ble_eq_true rfl, Nat.le_of_ble_eq_true rfl⟩ (xce_57 G kp _ _) rfl rfl rfl (Nat.le_of_ble_eq_true rfl) hl.1 hR hS dX11_pass_77 ⟨Nat.le_refl _, Nat.le_refl _⟩ (fun v4 I5 hf H locs hR hS => ?_)
            cases hf
            exact x_iret hC hR hS dX11_pass_80
          · refine lv_aload_n hC.1 hC.2.1 dX11_pass_56 rfl (lv_at hl 0 rfl) ?_
            refine x_get (v := .ref (xz G + 58)) hC xf_X11_14 (xce_57 G kp _ _) rfl hR dX11_pass_57 ?_
            refine lv_sipush (v := 2570) hC.1 hC.2.1 dX11_pass_60 (by decide) ?_
            refine lv_bipush (v := 7) hC.1 hC.2.1 dX11_pass_63 (by decide) ?_
            refine lv_iload_n hC.1 hC.2.1 dX11_pass_65 rfl (lv_at hl 1 rfl) ?_
            refine lv_imul hC.1 hC.2.1 dX11_pass_66 ?_
            refine lv_iadd hC.1 hC.2.1 dX11_pass_67 ?_
            refine lv_iload_n hC.1 hC.2.1 dX11_pass_68 rfl (lv_at hl 2 rfl) ?_
            refine lv_iadd hC.1 hC.2.1 dX11_pass_69 ?_
            refine x_ial hC (xce_58 G kp _ _) hR dX11_pass_70 hf (fun v6 hf => ?_)
            refine lv_goto (tgt := 80) hC.1 hC.2.1 dX11_pass_71 (by decide) ?_
            cases hf
            exact x_iret hC hR hS dX11_pass_80
        · exact W_X11_pass_j39 hC hf _ _ _ hR hS (lv_sub hl [0] rfl)
  · refine lv_aload_n hC.1 hC.2.1 dX11_pass_10 rfl (lv_at hl 0 rfl) ?_
    refine lv_bipush (v := (-2)) hC.1 hC.2.1 dX11_pass_11 (by decide) ?_
    refine x_cvi10 (rest := []) hC xy_X11_refuse tw_1338 hf (fun _ _ h => M_X11_refuse G l kp h) ⟨Nat.le_of_ble_eq_true rfl, Nat.le_of_ble_eq_true rfl⟩ (xce_57 G kp _ _) rfl rfl rfl (Nat.le_of_ble_eq_true rfl) hl.1 hR hS dX11_pass_13 ⟨Nat.le_refl _, Nat.le_refl _⟩ (fun v7 I8 hf H locs hR hS => ?_)
    cases hf
    exact x_iret hC hR hS dX11_pass_16
set_option maxRecDepth 20000 in
theorem W_X11_delivery_j39 {G : XG} {l : Launch} {kp : Bool} {p : Program} {e : Env} {s : State} {m : MethodId} {args : Array Value} {below : List Frame} {meth : Method} {c : Code} (hC : xC G p s m args meth c cX11_delivery 3 RX11 (some .int)) {I : xTI} {L : xTL} {r : Int32} {rI : xTI} (hf : F_X11_delivery_j39 I = some (r, rI)) : ∀ (H : Heap) (locs : List Loc) (ls : Array Slot), xRep G kp I L H → xS G s.heap H locs → lv_has ls 3 [(0, .ref (xz G + 57))] → W p l e (xrm 1 22) s m args below meth c H locs 0 0 (xMQ G kp below args s (some (.int r)) rI L) (F0 m 39 ls []) := by
  intro H locs ls hR hS hl
  unfold F_X11_delivery_j39 at hf
  refine lv_aload_n hC.1 hC.2.1 dX11_delivery_39 rfl (lv_at hl 0 rfl) ?_
  refine lv_bipush (v := (-3)) hC.1 hC.2.1 dX11_delivery_40 (by decide) ?_
  refine x_cvi10 (rest := []) hC xy_X11_refuse tw_1338 hf (fun _ _ h => M_X11_refuse G l kp h) ⟨Nat.le_of_ble_eq_true rfl, Nat.le_of_ble_eq_true rfl⟩ (xce_57 G kp _ _) rfl rfl rfl (Nat.le_of_ble_eq_true rfl) hl.1 hR hS dX11_delivery_42 ⟨Nat.le_refl _, Nat.le_refl _⟩ (fun v1 I2 hf H locs hR hS => ?_)
  cases hf
  exact x_iret hC hR hS dX11_delivery_45
set_option maxRecDepth 20000 in
theorem M_X11_delivery (G : XG) (l : Launch) (kp : Bool) {I : xTI} {L : xTL} {x1 : Int32} {x2 : Int32} {r : Int32} {rI : xTI} (hf : F_X11_delivery I x1 x2 = some (r, rI)) : xMet G l yX11_delivery cX11_delivery 3 (some .int) 1 22 kp [.ref (xz G + 57), .int x1, .int x2] I L (some (.int r)) rI L := by
  refine xMet.ofW (by decide +kernel) (Nat.le_of_ble_eq_true rfl) ?_
  intro p e s m args below meth c hC H locs ls hR hS hl
  replace hC : xC G p s m args meth c cX11_delivery 3 RX11 (some .int) := hC
  replace hl : lv_has ls 3 [(0, .ref (xz G + 57)), (1, .int x1), (2, .int x2)] := hl
  unfold F_X11_delivery at hf
  refine lv_aload_n hC.1 hC.2.1 dX11_delivery_0 rfl (lv_at hl 0 rfl) ?_
  refine x_get (v := .ref (xz G + 58)) hC xf_X11_14 (xce_57 G kp _ _) rfl hR dX11_delivery_1 ?_
  refine lv_bipush (v := 8) hC.1 hC.2.1 dX11_delivery_4 (by decide) ?_
  refine x_ial hC (xce_58 G kp _ _) hR dX11_delivery_6 hf (fun v1 hf => ?_)
  refine x_if_ne (tgt := 17) hC dX11_delivery_7 (by decide) hf (fun hf => ?_) (fun hf => ?_)
  · refine lv_iload_n hC.1 hC.2.1 dX11_delivery_17 rfl (lv_at hl 1 rfl) ?_
    refine x_if_lt (tgt := 39) hC dX11_delivery_18 (by decide) hf (fun hf => ?_) (fun hf => ?_)
    · exact W_X11_delivery_j39 hC hf _ _ _ hR hS (lv_sub hl [0] rfl)
    · refine lv_iload_n hC.1 hC.2.1 dX11_delivery_21 rfl (lv_at hl 1 rfl) ?_
      refine lv_aload_n hC.1 hC.2.1 dX11_delivery_22 rfl (lv_at hl 0 rfl) ?_
      refine x_get (v := .ref (xz G + 58)) hC xf_X11_14 (xce_57 G kp _ _) rfl hR dX11_delivery_23 ?_
      refine lv_bipush (v := 7) hC.1 hC.2.1 dX11_delivery_26 (by decide) ?_
      refine x_ial hC (xce_58 G kp _ _) hR dX11_delivery_28 hf (fun v2 hf => ?_)
      refine x_ic_ge (tgt := 39) hC dX11_delivery_29 (by decide) hf (fun hf => ?_) (fun hf => ?_)
      · exact W_X11_delivery_j39 hC hf _ _ _ hR hS (lv_sub hl [0] rfl)
      · refine lv_iload_n hC.1 hC.2.1 dX11_delivery_32 rfl (lv_at hl 1 rfl) ?_
        refine lv_sipush (v := 200) hC.1 hC.2.1 dX11_delivery_33 (by decide) ?_
        refine x_ic_lt (tgt := 46) hC dX11_delivery_36 (by decide) hf (fun hf => ?_) (fun hf => ?_)
        · refine lv_iload_n hC.1 hC.2.1 dX11_delivery_46 rfl (lv_at hl 2 rfl) ?_
          refine lv_iconst (v := 0) hC.1 hC.2.1 dX11_delivery_47 (by decide) ?_
          refine lv_iconst (v := 5) hC.1 hC.2.1 dX11_delivery_48 (by decide) ?_
          refine x_csi00 (rest := []) hC xy_X11_in tw_1335 hf (fun _ h => M_X11_in G l kp h) ⟨Nat.le_of_ble_eq_true rfl, Nat.le_of_ble_eq_true rfl⟩ rfl rfl (Nat.le_of_ble_eq_true rfl) hl.1 hR hS dX11_delivery_49 ⟨Nat.le_refl _, Nat.le_refl _⟩ (fun v3 hf H locs hR hS => ?_)
          refine x_if_eq (tgt := 73) hC dX11_delivery_52 (by decide) hf (fun hf => ?_) (fun hf => ?_)
          · refine lv_aload_n hC.1 hC.2.1 dX11_delivery_73 rfl (lv_at hl 0 rfl) ?_
            refine lv_bipush (v := (-7)) hC.1 hC.2.1 dX11_delivery_74 (by decide) ?_
            refine x_cvi10 (rest := []) hC xy_X11_refuse tw_1338 hf (fun _ _ h => M_X11_refuse G l kp h) ⟨Nat.le_of_ble_eq_true rfl, Nat.le_of_ble_eq_true rfl⟩ (xce_57 G kp _ _) rfl rfl rfl (Nat.le_of_ble_eq_true rfl) hl.1 hR hS dX11_delivery_76 ⟨Nat.le_refl _, Nat.le_refl _⟩ (fun v4 I5 hf H locs hR hS => ?_)
            cases hf
            exact x_iret hC hR hS dX11_delivery_79
          · refine lv_aload_n hC.1 hC.2.1 dX11_delivery_55 rfl (lv_at hl 0 rfl) ?_
            refine x_get (v := .ref (xz G + 58)) hC xf_X11_14 (xce_57 G kp _ _) rfl hR dX11_delivery_56 ?_
            refine lv_sipush (v := 4670) hC.1 hC.2.1 dX11_delivery_59 (by decide) ?_
            refine lv_bipush (v := 6) hC.1 hC.2.1 dX11_delivery_62 (by decide) ?_
            refine lv_iload_n hC.1 hC.2.1 dX11_delivery_64 rfl (lv_at hl 1 rfl) ?_
            refine lv_imul hC.1 hC.2.1 dX11_delivery_65 ?_
            refine lv_iadd hC.1 hC.2.1 dX11_delivery_66 ?_
            refine lv_iload_n hC.1 hC.2.1 dX11_delivery_67 rfl (lv_at hl 2 rfl) ?_
            refine lv_iadd hC.1 hC.2.1 dX11_delivery_68 ?_
            refine x_ial hC (xce_58 G kp _ _) hR dX11_delivery_69 hf (fun v6 hf => ?_)
            refine lv_goto (tgt := 79) hC.1 hC.2.1 dX11_delivery_70 (by decide) ?_
            cases hf
            exact x_iret hC hR hS dX11_delivery_79
        · exact W_X11_delivery_j39 hC hf _ _ _ hR hS (lv_sub hl [0] rfl)
  · refine lv_aload_n hC.1 hC.2.1 dX11_delivery_10 rfl (lv_at hl 0 rfl) ?_
    refine lv_bipush (v := (-2)) hC.1 hC.2.1 dX11_delivery_11 (by decide) ?_
    refine x_cvi10 (rest := []) hC xy_X11_refuse tw_1338 hf (fun _ _ h => M_X11_refuse G l kp h) ⟨Nat.le_of_ble_eq_true rfl, Nat.le_of_ble_eq_true rfl⟩ (xce_57 G kp _ _) rfl rfl rfl (Nat.le_of_ble_eq_true rfl) hl.1 hR hS dX11_delivery_13 ⟨Nat.le_refl _, Nat.le_refl _⟩ (fun v7 I8 hf H locs hR hS => ?_)
    cases hf
    exact x_iret hC hR hS dX11_delivery_16
