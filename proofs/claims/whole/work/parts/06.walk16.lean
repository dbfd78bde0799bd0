set_option maxRecDepth 20000 in
theorem M_X11_optionOf (G : XG) (l : Launch) (kp : Bool) {I : xTI} {L : xTL} {x1 : Int32} {x2 : Int32} {r : Int32} {rI : xTI} (hf : F_X11_optionOf I x1 x2 = some (r, rI)) : xMet G l yX11_optionOf cX11_optionOf 3 (some .int) 1 22 kp [.ref (xz G + 57), .int x1, .int x2] I L (some (.int r)) rI L := by
  refine xMet.ofW (by decide +kernel) (Nat.le_of_ble_eq_true rfl) ?_
  intro p e s m args below meth c hC H locs ls hR hS hl
  replace hC : xC G p s m args meth c cX11_optionOf 3 RX11 (some .int) := hC
  replace hl : lv_has ls 3 [(0, .ref (xz G + 57)), (1, .int x1), (2, .int x2)] := hl
  unfold F_X11_optionOf at hf
  refine lv_iload_n hC.1 hC.2.1 dX11_optionOf_0 rfl (lv_at hl 1 rfl) ?_
  refine lv_iconst (v := 0) hC.1 hC.2.1 dX11_optionOf_1 (by decide) ?_
  refine lv_aload_n hC.1 hC.2.1 dX11_optionOf_2 rfl (lv_at hl 0 rfl) ?_
  refine x_get (v := .ref (xz G + 58)) hC xf_X11_14 (xce_57 G kp _ _) rfl hR dX11_optionOf_3 ?_
  refine lv_iconst (v := 3) hC.1 hC.2.1 dX11_optionOf_6 (by decide) ?_
  refine x_ial hC (xce_58 G kp _ _) hR dX11_optionOf_7 hf (fun v1 hf => ?_)
  refine lv_iconst (v := 1) hC.1 hC.2.1 dX11_optionOf_8 (by decide) ?_
  refine lv_isub hC.1 hC.2.1 dX11_optionOf_9 ?_
  refine x_csi00 (rest := []) hC xy_X11_in tw_1335 hf (fun _ h => M_X11_in G l kp h) ⟨Nat.le_of_ble_eq_true rfl, Nat.le_of_ble_eq_true rfl⟩ rfl rfl (Nat.le_of_ble_eq_true rfl) hl.1 hR hS dX11_optionOf_10 ⟨Nat.le_refl _, Nat.le_refl _⟩ (fun v2 hf H locs hR hS => ?_)
  refine x_if_ne (tgt := 23) hC dX11_optionOf_13 (by decide) hf (fun hf => ?_) (fun hf => ?_)
  · refine lv_iload_n hC.1 hC.2.1 dX11_optionOf_23 rfl (lv_at hl 2 rfl) ?_
    refine lv_iconst (v := 0) hC.1 hC.2.1 dX11_optionOf_24 (by decide) ?_
    refine lv_bipush (v := 6) hC.1 hC.2.1 dX11_optionOf_25 (by decide) ?_
    refine x_csi00 (rest := []) hC xy_X11_in tw_1335 hf (fun _ h => M_X11_in G l kp h) ⟨Nat.le_of_ble_eq_true rfl, Nat.le_of_ble_eq_true rfl⟩ rfl rfl (Nat.le_of_ble_eq_true rfl) hl.1 hR hS dX11_optionOf_27 ⟨Nat.le_refl _, Nat.le_refl _⟩ (fun v3 hf H locs hR hS => ?_)
    refine x_if_eq (tgt := 42) hC dX11_optionOf_30 (by decide) hf (fun hf => ?_) (fun hf => ?_)
    · refine lv_aload_n hC.1 hC.2.1 dX11_optionOf_42 rfl (lv_at hl 0 rfl) ?_
      refine lv_bipush (v := (-7)) hC.1 hC.2.1 dX11_optionOf_43 (by decide) ?_
      refine x_cvi10 (rest := []) hC xy_X11_refuse tw_1338 hf (fun _ _ h => M_X11_refuse G l kp h) ⟨Nat.le_of_ble_eq_true rfl, Nat.le_of_ble_eq_true rfl⟩ (xce_57 G kp _ _) rfl rfl rfl (Nat.le_of_ble_eq_true rfl) hl.1 hR hS dX11_optionOf_45 ⟨Nat.le_refl _, Nat.le_refl _⟩ (fun v4 I5 hf H locs hR hS => ?_)
      obtain ⟨h91, h92⟩ := Prod.mk.inj (Option.some.inj hf)
      subst h91
      subst h92
      exact x_iret hC hR hS dX11_optionOf_48
    · refine lv_aload_n hC.1 hC.2.1 dX11_optionOf_33 rfl (lv_at hl 0 rfl) ?_
      refine lv_iload_n hC.1 hC.2.1 dX11_optionOf_34 rfl (lv_at hl 1 rfl) ?_
      refine lv_iload_n hC.1 hC.2.1 dX11_optionOf_35 rfl (lv_at hl 2 rfl) ?_
      refine x_cvi00 (rest := []) hC xy_X11_op tw_1575 hf (fun _ h => M_X11_op G l kp h) ⟨Nat.le_of_ble_eq_true rfl, Nat.le_of_ble_eq_true rfl⟩ (xce_57 G kp _ _) rfl rfl rfl (Nat.le_of_ble_eq_true rfl) hl.1 hR hS dX11_optionOf_36 ⟨Nat.le_refl _, Nat.le_refl _⟩ (fun v6 hf H locs hR hS => ?_)
      refine lv_goto (tgt := 48) hC.1 hC.2.1 dX11_optionOf_39 (by decide) ?_
      obtain ⟨h91, h92⟩ := Prod.mk.inj (Option.some.inj hf)
      subst h91
      subst h92
      exact x_iret hC hR hS dX11_optionOf_48
  · refine lv_aload_n hC.1 hC.2.1 dX11_optionOf_16 rfl (lv_at hl 0 rfl) ?_
    refine lv_bipush (v := (-3)) hC.1 hC.2.1 dX11_optionOf_17 (by decide) ?_
    refine x_cvi10 (rest := []) hC xy_X11_refuse tw_1338 hf (fun _ _ h => M_X11_refuse G l kp h) ⟨Nat.le_of_ble_eq_true rfl, Nat.le_of_ble_eq_true rfl⟩ (xce_57 G kp _ _) rfl rfl rfl (Nat.le_of_ble_eq_true rfl) hl.1 hR hS dX11_optionOf_19 ⟨Nat.le_refl _, Nat.le_refl _⟩ (fun v7 I8 hf H locs hR hS => ?_)
    obtain ⟨h91, h92⟩ := Prod.mk.inj (Option.some.inj hf)
    subst h91
    subst h92
    exact x_iret hC hR hS dX11_optionOf_22
set_option maxRecDepth 20000 in
theorem W_X11_dividend_j42 {G : XG} {l : Launch} {kp : Bool} {p : Program} {e : Env} {s : State} {m : MethodId} {args : Array Value} {below : List Frame} {meth : Method} {c : Code} (hC : xC G p s m args meth c cX11_dividend 5 RX11 (some .int)) {I : xTI} {L : xTL} {r : Int32} {rI : xTI} (hf : F_X11_dividend_j42 I = some (r, rI)) : ∀ (H : Heap) (locs : List Loc) (ls : Array Slot), xRep G kp I L H → xS G s.heap H locs → lv_has ls 5 [(0, .ref (xz G + 57))] → W p l e (xrm 2 43) s m args below meth c H locs 0 0 (xMQ G kp below args s (some (.int r)) rI L) (F0 m 42 ls []) := by
  intro H locs ls hR hS hl
  unfold F_X11_dividend_j42 at hf
  refine lv_aload_n hC.1 hC.2.1 dX11_dividend_42 rfl (lv_at hl 0 rfl) ?_
  refine lv_bipush (v := (-7)) hC.1 hC.2.1 dX11_dividend_43 (by decide) ?_
  refine x_cvi10 (rest := []) hC xy_X11_refuse tw_1338 hf (fun _ _ h => M_X11_refuse G l kp h) ⟨Nat.le_of_ble_eq_true rfl, Nat.le_of_ble_eq_true rfl⟩ (xce_57 G kp _ _) rfl rfl rfl (Nat.le_of_ble_eq_true rfl) hl.1 hR hS dX11_dividend_45 ⟨Nat.le_refl _, Nat.le_refl _⟩ (fun v1 I2 hf H locs hR hS => ?_)
  obtain ⟨h91, h92⟩ := Prod.mk.inj (Option.some.inj hf)
  subst h91
  subst h92
  exact x_iret hC hR hS dX11_dividend_48
set_option maxRecDepth 20000 in
theorem M_X11_dividend (G : XG) (l : Launch) (kp : Bool) {I : xTI} {L : xTL} {x1 : Int32} {x2 : Int32} {x3 : Int32} {r : Int32} {rI : xTI} (hf : F_X11_dividend I x1 x2 x3 = some (r, rI)) : xMet G l yX11_dividend cX11_dividend 5 (some .int) 2 43 kp [.ref (xz G + 57), .int x1, .int x2, .int x3] I L (some (.int r)) rI L := by
  refine xMet.ofW (by decide +kernel) (Nat.le_of_ble_eq_true rfl) ?_
  intro p e s m args below meth c hC H locs ls hR hS hl
  replace hC : xC G p s m args meth c cX11_dividend 5 RX11 (some .int) := hC
  replace hl : lv_has ls 5 [(0, .ref (xz G + 57)), (1, .int x1), (2, .int x2), (3, .int x3)] := hl
  unfold F_X11_dividend at hf
  refine lv_aload_n hC.1 hC.2.1 dX11_dividend_0 rfl (lv_at hl 0 rfl) ?_
  refine lv_iload_n hC.1 hC.2.1 dX11_dividend_1 rfl (lv_at hl 1 rfl) ?_
  refine x_cvi00 (rest := []) hC xy_X11_isStock tw_1359 hf (fun _ h => M_X11_isStock G l kp h) ⟨Nat.le_of_ble_eq_true rfl, Nat.le_of_ble_eq_true rfl⟩ (xce_57 G kp _ _) rfl rfl rfl (Nat.le_of_ble_eq_true rfl) hl.1 hR hS dX11_dividend_2 ⟨Nat.le_refl _, Nat.le_refl _⟩ (fun v1 hf H locs hR hS => ?_)
  refine x_if_ne (tgt := 15) hC dX11_dividend_5 (by decide) hf (fun hf => ?_) (fun hf => ?_)
  · refine lv_iload_n hC.1 hC.2.1 dX11_dividend_15 rfl (lv_at hl 2 rfl) ?_
    refine lv_aload_n hC.1 hC.2.1 dX11_dividend_16 rfl (lv_at hl 0 rfl) ?_
    refine x_get (v := .ref (xz G + 58)) hC xf_X11_14 (xce_57 G kp _ _) rfl hR dX11_dividend_17 ?_
    refine lv_iconst (v := 0) hC.1 hC.2.1 dX11_dividend_20 (by decide) ?_
    refine x_ial hC (xce_58 G kp _ _) hR dX11_dividend_21 hf (fun v2 hf => ?_)
    refine lv_sipush (v := 699) hC.1 hC.2.1 dX11_dividend_22 (by decide) ?_
    refine x_csi00 (rest := []) hC xy_X11_in tw_1335 hf (fun _ h => M_X11_in G l kp h) ⟨Nat.le_of_ble_eq_true rfl, Nat.le_of_ble_eq_true rfl⟩ rfl rfl (Nat.le_of_ble_eq_true rfl) hl.1 hR hS dX11_dividend_25 ⟨Nat.le_refl _, Nat.le_refl _⟩ (fun v3 hf H locs hR hS => ?_)
    refine x_if_eq (tgt := 42) hC dX11_dividend_28 (by decide) hf (fun hf => ?_) (fun hf => ?_)
    · exact W_X11_dividend_j42 hC hf _ _ _ hR hS (lv_sub hl [0] rfl)
    · refine lv_iload_n hC.1 hC.2.1 dX11_dividend_31 rfl (lv_at hl 3 rfl) ?_
      refine lv_iconst (v := 1) hC.1 hC.2.1 dX11_dividend_32 (by decide) ?_
      refine lv_sipush (v := 999) hC.1 hC.2.1 dX11_dividend_33 (by decide) ?_
      refine x_csi00 (rest := []) hC xy_X11_in tw_1335 hf (fun _ h => M_X11_in G l kp h) ⟨Nat.le_of_ble_eq_true rfl, Nat.le_of_ble_eq_true rfl⟩ rfl rfl (Nat.le_of_ble_eq_true rfl) hl.1 hR hS dX11_dividend_36 ⟨Nat.le_refl _, Nat.le_refl _⟩ (fun v4 hf H locs hR hS => ?_)
      refine x_if_ne (tgt := 49) hC dX11_dividend_39 (by decide) hf (fun hf => ?_) (fun hf => ?_)
      · refine lv_aload_n hC.1 hC.2.1 dX11_dividend_49 rfl (lv_at hl 0 rfl) ?_
        refine x_get (v := .ref (xz G + 58)) hC xf_X11_14 (xce_57 G kp _ _) rfl hR dX11_dividend_50 ?_
        refine lv_iconst (v := 5) hC.1 hC.2.1 dX11_dividend_53 (by decide) ?_
        refine x_ial hC (xce_58 G kp _ _) hR dX11_dividend_54 hf (fun v5 hf => ?_)
        refine lv_bipush (v := 10) hC.1 hC.2.1 dX11_dividend_55 (by decide) ?_
        refine x_ic_ne (tgt := 67) hC dX11_dividend_57 (by decide) hf (fun hf => ?_) (fun hf => ?_)
        · refine lv_sipush (v := 1052) hC.1 hC.2.1 dX11_dividend_67 (by decide) ?_
          refine lv_iconst (v := 3) hC.1 hC.2.1 dX11_dividend_70 (by decide) ?_
          refine lv_aload_n hC.1 hC.2.1 dX11_dividend_71 rfl (lv_at hl 0 rfl) ?_
          refine x_get (v := .ref (xz G + 58)) hC xf_X11_14 (xce_57 G kp _ _) rfl hR dX11_dividend_72 ?_
          refine lv_iconst (v := 5) hC.1 hC.2.1 dX11_dividend_75 (by decide) ?_
          refine x_ial hC (xce_58 G kp _ _) hR dX11_dividend_76 hf (fun v6 hf => ?_)
          refine lv_imul hC.1 hC.2.1 dX11_dividend_77 ?_
          refine lv_iadd hC.1 hC.2.1 dX11_dividend_78 ?_
          refine x_ist (lv' := fun y7 => [(4, .int y7), (0, .ref (xz G + 57)), (1, .int x1), (2, .int x2), (3, .int x3)]) hC hl dX11_dividend_79 (Nat.le_of_ble_eq_true rfl) hf (fun _ => rfl) (fun y7 hf ls hl => ?_)
          refine lv_aload_n hC.1 hC.2.1 dX11_dividend_81 rfl (lv_at hl 1 rfl) ?_
          refine x_get (v := .ref (xz G + 58)) hC xf_X11_14 (xce_57 G kp _ _) rfl hR dX11_dividend_82 ?_
          refine W.eq (g2 := F0 m 85 ls [.ref (xz G + 58)]) rfl ?_
          refine lv_iload hC.1 hC.2.1 dX11_dividend_85 (lv_at hl 0 rfl) ?_
          refine lv_iload_n hC.1 hC.2.1 dX11_dividend_87 rfl (lv_at hl 2 rfl) ?_
          refine x_ias hC (fun f => (xce_58 G kp f _)) hR hS dX11_dividend_88 hf (fun I8 hf H locs hR hS => ?_)
          refine lv_aload_n hC.1 hC.2.1 dX11_dividend_89 rfl (lv_at hl 1 rfl) ?_
          refine x_get (v := .ref (xz G + 58)) hC xf_X11_14 (xce_57 G kp _ _) rfl hR dX11_dividend_90 ?_
          refine lv_iload hC.1 hC.2.1 dX11_dividend_93 (lv_at hl 0 rfl) ?_
          refine lv_iconst (v := 1) hC.1 hC.2.1 dX11_dividend_95 (by decide) ?_
          refine lv_iadd hC.1 hC.2.1 dX11_dividend_96 ?_
          refine lv_iload_n hC.1 hC.2.1 dX11_dividend_97 rfl (lv_at hl 3 rfl) ?_
          refine x_ias hC (fun f => (xce_58 G kp f _)) hR hS dX11_dividend_98 hf (fun I9 hf H locs hR hS => ?_)
          refine lv_aload_n hC.1 hC.2.1 dX11_dividend_99 rfl (lv_at hl 1 rfl) ?_
          refine x_get (v := .ref (xz G + 58)) hC xf_X11_14 (xce_57 G kp _ _) rfl hR dX11_dividend_100 ?_
          refine W.eq (g2 := F0 m 103 ls [.ref (xz G + 58)]) rfl ?_
          refine lv_iload hC.1 hC.2.1 dX11_dividend_103 (lv_at hl 0 rfl) ?_
          refine lv_iconst (v := 2) hC.1 hC.2.1 dX11_dividend_105 (by decide) ?_
          refine lv_iadd hC.1 hC.2.1 dX11_dividend_106 ?_
          refine lv_iload_n hC.1 hC.2.1 dX11_dividend_107 rfl (lv_at hl 4 rfl) ?_
          refine x_ias hC (fun f => (xce_58 G kp f _)) hR hS dX11_dividend_108 hf (fun I10 hf H locs hR hS => ?_)
          refine lv_aload_n hC.1 hC.2.1 dX11_dividend_109 rfl (lv_at hl 1 rfl) ?_
          refine x_get (v := .ref (xz G + 58)) hC xf_X11_14 (xce_57 G kp _ _) rfl hR dX11_dividend_110 ?_
          refine lv_iconst (v := 5) hC.1 hC.2.1 dX11_dividend_113 (by decide) ?_
          refine lv_dup2_11 hC.1 hC.2.1 dX11_dividend_114 rfl rfl ?_
          refine x_ial hC (xce_58 G kp _ _) hR dX11_dividend_115 hf (fun v11 hf => ?_)
          refine lv_iconst (v := 1) hC.1 hC.2.1 dX11_dividend_116 (by decide) ?_
          refine lv_iadd hC.1 hC.2.1 dX11_dividend_117 ?_
          refine W.eq (g2 := F0 m 118 ls [.int (v11 + 1), .int 5, .ref (xz G + 58)]) rfl ?_
          refine x_ias hC (fun f => (xce_58 G kp f _)) hR hS dX11_dividend_118 hf (fun I12 hf H locs hR hS => ?_)
          refine lv_aload_n hC.1 hC.2.1 dX11_dividend_119 rfl (lv_at hl 1 rfl) ?_
          refine x_get (v := .ref (xz G + 58)) hC xf_X11_14 (xce_57 G kp _ _) rfl hR dX11_dividend_120 ?_
          refine lv_iconst (v := 5) hC.1 hC.2.1 dX11_dividend_123 (by decide) ?_
          refine x_ial hC (xce_58 G kp _ _) hR dX11_dividend_124 hf (fun v13 hf => ?_)
          obtain ⟨h91, h92⟩ := Prod.mk.inj (Option.some.inj hf)
          subst h91
          subst h92
          exact x_iret hC hR hS dX11_dividend_125
        · refine lv_aload_n hC.1 hC.2.1 dX11_dividend_60 rfl (lv_at hl 0 rfl) ?_
          refine lv_bipush (v := (-8)) hC.1 hC.2.1 dX11_dividend_61 (by decide) ?_
          refine x_cvi10 (rest := []) hC xy_X11_refuse tw_1338 hf (fun _ _ h => M_X11_refuse G l kp h) ⟨Nat.le_of_ble_eq_true rfl, Nat.le_of_ble_eq_true rfl⟩ (xce_57 G kp _ _) rfl rfl rfl (Nat.le_of_ble_eq_true rfl) hl.1 hR hS dX11_dividend_63 ⟨Nat.le_refl _, Nat.le_refl _⟩ (fun v14 I15 hf H locs hR hS => ?_)
          obtain ⟨h91, h92⟩ := Prod.mk.inj (Option.some.inj hf)
          subst h91
          subst h92
          exact x_iret hC hR hS dX11_dividend_66
      · exact W_X11_dividend_j42 hC hf _ _ _ hR hS (lv_sub hl [0] rfl)
  · refine lv_aload_n hC.1 hC.2.1 dX11_dividend_8 rfl (lv_at hl 0 rfl) ?_
    refine lv_bipush (v := (-3)) hC.1 hC.2.1 dX11_dividend_9 (by decide) ?_
    refine x_cvi10 (rest := []) hC xy_X11_refuse tw_1338 hf (fun _ _ h => M_X11_refuse G l kp h) ⟨Nat.le_of_ble_eq_true rfl, Nat.le_of_ble_eq_true rfl⟩ (xce_57 G kp _ _) rfl rfl rfl (Nat.le_of_ble_eq_true rfl) hl.1 hR hS dX11_dividend_11 ⟨Nat.le_refl _, Nat.le_refl _⟩ (fun v16 I17 hf H locs hR hS => ?_)
    obtain ⟨h91, h92⟩ := Prod.mk.inj (Option.some.inj hf)
    subst h91
    subst h92
    exact x_iret hC hR hS dX11_dividend_14
set_option maxRecDepth 20000 in
theorem W_X11_feed_l45 {G : XG} {l : Launch} {kp : Bool} {p : Program} {e : Env} {s : State} {m : MethodId} {args : Array Value} {below : List Frame} {meth : Method} {c : Code} (hC : xC G p s m args meth c cX11_feed 4 RX11 (some .int)) (N : Nat) {L : xTL} {r : Int32} {rI : xTI} {x1 : Int32} : ∀ (n : Nat) (x3 : Int32) (I : xTI) , xlp (F_X11_feed_b45 N x1 ) n (x3, I) = some (r, rI) → ∀ (H : Heap) (locs : List Loc) (ls : Array Slot), xRep G kp I L H → xS G s.heap H locs → lv_has ls 4 [(0, .ref (xz G + 57)), (1, .int x1), (3, .int x3)] → W p l e (xrm 1 21) s m args below meth c H locs 0 0 (xMQ G kp below args s (some (.int r)) rI L) (F0 m 45 ls []) := by
  intro n
  induction n with
  | zero =>
    intro x3 I hf
    cases hf
  | succ n hk45 =>
    intro x3 I hf H locs ls hR hS hl
    rw [xlp_s, E_X11_feed_b45] at hf
    unfold F_X11_feed_c45 at hf
    refine lv_iload_n hC.1 hC.2.1 dX11_feed_45 rfl (lv_at hl 2 rfl) ?_
    refine x_if_lt (tgt := 84) hC dX11_feed_46 (by decide) hf (fun hf => ?_) (fun hf => ?_)
    · refine lv_aload_n hC.1 hC.2.1 dX11_feed_84 rfl (lv_at hl 0 rfl) ?_
      refine x_getI hC xf_X11_329 (xce_57 G kp _ _) rfl hR dX11_feed_85 hf (fun v1 hf => ?_)
      obtain ⟨h91, h92⟩ := Prod.mk.inj (Option.some.inj hf)
      subst h91
      subst h92
      exact x_iret hC hR hS dX11_feed_88
    · refine lv_aload_n hC.1 hC.2.1 dX11_feed_49 rfl (lv_at hl 0 rfl) ?_
      refine x_get (v := .ref (xz G + 61)) hC xf_X11_25 (xce_57 G kp _ _) rfl hR dX11_feed_50 ?_
      refine lv_aload_n hC.1 hC.2.1 dX11_feed_53 rfl (lv_at hl 0 rfl) ?_
      refine x_getI hC xf_X11_329 (xce_57 G kp _ _) rfl hR dX11_feed_54 hf (fun v2 hf => ?_)
      refine lv_iload_n hC.1 hC.2.1 dX11_feed_57 rfl (lv_at hl 1 rfl) ?_
      refine lv_bipush (v := 8) hC.1 hC.2.1 dX11_feed_58 (by decide) ?_
      refine lv_iload_n hC.1 hC.2.1 dX11_feed_60 rfl (lv_at hl 2 rfl) ?_
      refine lv_imul hC.1 hC.2.1 dX11_feed_61 ?_
      refine lv_ishr hC.1 hC.2.1 dX11_feed_62 ?_
      refine lv_sipush (v := 255) hC.1 hC.2.1 dX11_feed_63 (by decide) ?_
      refine lv_iand hC.1 hC.2.1 dX11_feed_66 ?_
      refine W.eq (g2 := F0 m 67 ls [.int ((x1 >>> ((8 * x3) &&& 31)) &&& 255), .int v2, .ref (xz G + 61)]) rfl ?_
      refine x_ias hC (fun f => (xce_61 G kp f _)) hR hS dX11_feed_67 hf (fun I3 hf H locs hR hS => ?_)
      refine lv_aload_n hC.1 hC.2.1 dX11_feed_68 rfl (lv_at hl 0 rfl) ?_
      refine lv_dup hC.1 hC.2.1 dX11_feed_69 rfl ?_
      refine x_getI hC xf_X11_329 (xce_57 G kp _ _) rfl hR dX11_feed_70 hf (fun v4 hf => ?_)
      refine lv_iconst (v := 1) hC.1 hC.2.1 dX11_feed_73 (by decide) ?_
      refine lv_iadd hC.1 hC.2.1 dX11_feed_74 ?_
      refine x_putI hC xf_X11_329 xp_11_5 (fun f => (xce_57 G kp f _)) rfl (Nat.le_of_ble_eq_true rfl) hR hS dX11_feed_75 hf (fun I5 hf H locs hR hS => ?_)
      refine x_iinc (d := (-1)) (lv' := fun y6 => [(3, .int y6), (0, .ref (xz G + 57)), (1, .int x1)]) (k := 2) hC hl dX11_feed_78 rfl (by decide) (Nat.le_of_ble_eq_true rfl) hf (fun _ => rfl) (fun y6 hf ls hl => ?_)
      refine lv_goto (tgt := 45) hC.1 hC.2.1 dX11_feed_81 (by decide) ?_
      exact hk45 y6 I5 hf _ _ _ hR hS (lv_sub hl [1, 2, 0] rfl)
set_option maxRecDepth 20000 in
theorem M_X11_feed (G : XG) (l : Launch) (kp : Bool) (N : Nat) {I : xTI} {L : xTL} {x1 : Int32} {x2 : Int32} {r : Int32} {rI : xTI} (hf : F_X11_feed N I x1 x2 = some (r, rI)) : xMet G l yX11_feed cX11_feed 4 (some .int) 1 21 kp [.ref (xz G + 57), .int x1, .int x2] I L (some (.int r)) rI L := by
  refine xMet.ofW (by decide +kernel) (Nat.le_of_ble_eq_true rfl) ?_
  intro p e s m args below meth c hC H locs ls hR hS hl
  replace hC : xC G p s m args meth c cX11_feed 4 RX11 (some .int) := hC
  replace hl : lv_has ls 4 [(0, .ref (xz G + 57)), (1, .int x1), (2, .int x2)] := hl
  unfold F_X11_feed at hf
  refine lv_iload_n hC.1 hC.2.1 dX11_feed_0 rfl (lv_at hl 2 rfl) ?_
  refine x_if_ge (tgt := 11) hC dX11_feed_1 (by decide) hf (fun hf => ?_) (fun hf => ?_)
  · refine lv_iload_n hC.1 hC.2.1 dX11_feed_11 rfl (lv_at hl 2 rfl) ?_
    refine lv_iconst (v := 4) hC.1 hC.2.1 dX11_feed_12 (by decide) ?_
    refine x_ic_le (tgt := 23) hC dX11_feed_13 (by decide) hf (fun hf => ?_) (fun hf => ?_)
    · refine lv_aload_n hC.1 hC.2.1 dX11_feed_23 rfl (lv_at hl 0 rfl) ?_
      refine x_getI hC xf_X11_329 (xce_57 G kp _ _) rfl hR dX11_feed_24 hf (fun v1 hf => ?_)
      refine lv_iload_n hC.1 hC.2.1 dX11_feed_27 rfl (lv_at hl 2 rfl) ?_
      refine lv_iadd hC.1 hC.2.1 dX11_feed_28 ?_
      refine lv_bipush (v := 120) hC.1 hC.2.1 dX11_feed_29 (by decide) ?_
      refine x_ic_le (tgt := 41) hC dX11_feed_31 (by decide) hf (fun hf => ?_) (fun hf => ?_)
      · refine lv_iload_n hC.1 hC.2.1 dX11_feed_41 rfl (lv_at hl 2 rfl) ?_
        refine lv_iconst (v := 1) hC.1 hC.2.1 dX11_feed_42 (by decide) ?_
        refine lv_isub hC.1 hC.2.1 dX11_feed_43 ?_
        refine x_istn (lv' := fun y2 => [(3, .int y2), (0, .ref (xz G + 57)), (1, .int x1), (2, .int x2)]) hC hl dX11_feed_44 rfl (Nat.le_of_ble_eq_true rfl) hf (fun _ => rfl) (fun y2 hf ls hl => ?_)
        exact W_X11_feed_l45 hC N _ y2 I hf _ _ _ hR hS (lv_sub hl [1, 2, 0] rfl)
      · refine lv_aload_n hC.1 hC.2.1 dX11_feed_34 rfl (lv_at hl 0 rfl) ?_
        refine lv_bipush (v := (-8)) hC.1 hC.2.1 dX11_feed_35 (by decide) ?_
        refine x_cvi10 (rest := []) hC xy_X11_refuse tw_1338 hf (fun _ _ h => M_X11_refuse G l kp h) ⟨Nat.le_of_ble_eq_true rfl, Nat.le_of_ble_eq_true rfl⟩ (xce_57 G kp _ _) rfl rfl rfl (Nat.le_of_ble_eq_true rfl) hl.1 hR hS dX11_feed_37 ⟨Nat.le_refl _, Nat.le_refl _⟩ (fun v3 I4 hf H locs hR hS => ?_)
        obtain ⟨h91, h92⟩ := Prod.mk.inj (Option.some.inj hf)
        subst h91
        subst h92
        exact x_iret hC hR hS dX11_feed_40
    · refine lv_aload_n hC.1 hC.2.1 dX11_feed_16 rfl (lv_at hl 0 rfl) ?_
      refine lv_bipush (v := (-7)) hC.1 hC.2.1 dX11_feed_17 (by decide) ?_
      refine x_cvi10 (rest := []) hC xy_X11_refuse tw_1338 hf (fun _ _ h => M_X11_refuse G l kp h) ⟨Nat.le_of_ble_eq_true rfl, Nat.le_of_ble_eq_true rfl⟩ (xce_57 G kp _ _) rfl rfl rfl (Nat.le_of_ble_eq_true rfl) hl.1 hR hS dX11_feed_19 ⟨Nat.le_refl _, Nat.le_refl _⟩ (fun v5 I6 hf H locs hR hS => ?_)
      obtain ⟨h91, h92⟩ := Prod.mk.inj (Option.some.inj hf)
      subst h91
      subst h92
      exact x_iret hC hR hS dX11_feed_22
  · refine lv_aload_n hC.1 hC.2.1 dX11_feed_4 rfl (lv_at hl 0 rfl) ?_
    refine lv_bipush (v := (-4)) hC.1 hC.2.1 dX11_feed_5 (by decide) ?_
    refine x_cvi10 (rest := []) hC xy_X11_refuse tw_1338 hf (fun _ _ h => M_X11_refuse G l kp h) ⟨Nat.le_of_ble_eq_true rfl, Nat.le_of_ble_eq_true rfl⟩ (xce_57 G kp _ _) rfl rfl rfl (Nat.le_of_ble_eq_true rfl) hl.1 hR hS dX11_feed_7 ⟨Nat.le_refl _, Nat.le_refl _⟩ (fun v7 I8 hf H locs hR hS => ?_)
    obtain ⟨h91, h92⟩ := Prod.mk.inj (Option.some.inj hf)
    subst h91
    subst h92
    exact x_iret hC hR hS dX11_feed_10
set_option maxRecDepth 20000 in
theorem M_X11_wipe (G : XG) (l : Launch) (kp : Bool) {I : xTI} {L : xTL} {r : Int32} {rI : xTI} (hf : F_X11_wipe I = some (r, rI)) : xMet G l yX11_wipe cX11_wipe 2 (some .int) 0 0 kp [.ref (xz G + 57)] I L (some (.int r)) rI L := by
  refine xMet.ofW (by decide +kernel) (Nat.le_of_ble_eq_true rfl) ?_
  intro p e s m args below meth c hC H locs ls hR hS hl
  replace hC : xC G p s m args meth c cX11_wipe 2 RX11 (some .int) := hC
  replace hl : lv_has ls 2 [(0, .ref (xz G + 57))] := hl
  unfold F_X11_wipe at hf
  refine lv_aload_n hC.1 hC.2.1 dX11_wipe_0 rfl (lv_at hl 0 rfl) ?_
  refine x_getI hC xf_X11_329 (xce_57 G kp _ _) rfl hR dX11_wipe_1 hf (fun v1 hf => ?_)
  refine lv_istore_n (lv' := [(1, .int v1), (0, .ref (xz G + 57))]) hC.1 hC.2.1 dX11_wipe_4 rfl hl (Nat.le_of_ble_eq_true rfl) rfl (fun ls hl => ?_)
  refine lv_aload_n hC.1 hC.2.1 dX11_wipe_5 rfl (lv_at hl 1 rfl) ?_
  refine lv_iconst (v := 0) hC.1 hC.2.1 dX11_wipe_6 (by decide) ?_
  refine x_putI hC xf_X11_329 xp_11_5 (fun f => (xce_57 G kp f _)) rfl (Nat.le_of_ble_eq_true rfl) hR hS dX11_wipe_7 hf (fun I2 hf H locs hR hS => ?_)
  refine lv_iload_n hC.1 hC.2.1 dX11_wipe_10 rfl (lv_at hl 0 rfl) ?_
  obtain ⟨h91, h92⟩ := Prod.mk.inj (Option.some.inj hf)
  subst h91
  subst h92
  exact x_iret hC hR hS dX11_wipe_11
set_option maxRecDepth 20000 in
theorem W_X11_rule_j27 {G : XG} {l : Launch} {kp : Bool} {p : Program} {e : Env} {s : State} {m : MethodId} {args : Array Value} {below : List Frame} {meth : Method} {c : Code} (hC : xC G p s m args meth c cX11_rule 5 RX11 (some .int)) (N : Nat) {I : xTI} {L : xTL} {r : Int32} {rI : xTI} {rL : xTL} (hf : F_X11_rule_j27 N I L = some (r, rI, rL)) : ∀ (H : Heap) (locs : List Loc) (ls : Array Slot), xRep G kp I L H → xS G s.heap H locs → lv_has ls 5 [(0, .ref (xz G + 57))] → W p l e (xrm 85 2028) s m args below meth c H locs 0 0 (xMQ G kp below args s (some (.int r)) rI rL) (F0 m 27 ls []) := by
  intro H locs ls hR hS hl
  unfold F_X11_rule_j27 at hf
  refine lv_aload_n hC.1 hC.2.1 dX11_rule_27 rfl (lv_at hl 0 rfl) ?_
  refine lv_bipush (v := (-7)) hC.1 hC.2.1 dX11_rule_28 (by decide) ?_
  refine x_cvi10 (rest := []) hC xy_X11_refuse tw_1338 hf (fun _ _ h => M_X11_refuse G l kp h) ⟨Nat.le_of_ble_eq_true rfl, Nat.le_of_ble_eq_true rfl⟩ (xce_57 G kp _ _) rfl rfl rfl (Nat.le_of_ble_eq_true rfl) hl.1 hR hS dX11_rule_30 ⟨Nat.le_refl _, Nat.le_refl _⟩ (fun v1 I2 hf H locs hR hS => ?_)
  obtain ⟨h91, h90⟩ := Prod.mk.inj (Option.some.inj hf)
  obtain ⟨h92, h93⟩ := Prod.mk.inj h90
  subst h91
  subst h92
  subst h93
  exact x_iret hC hR hS dX11_rule_33
set_option maxRecDepth 20000 in
theorem W_X11_rule_l166 {G : XG} {l : Launch} {kp : Bool} {p : Program} {e : Env} {s : State} {m : MethodId} {args : Array Value} {below : List Frame} {meth : Method} {c : Code} (hC : xC G p s m args meth c cX11_rule 5 RX11 (some .int)) (N : Nat) {L : xTL} {r : Int32} {rI : xTI} {rL : xTL} {x3 : Int32} : ∀ (n : Nat) (x4 : Int32) (I : xTI) , xlp (F_X11_rule_b166 N L x3 ) n (x4, I) = some (r, rI, rL) → ∀ (H : Heap) (locs : List Loc) (ls : Array Slot), xRep G kp I L H → xS G s.heap H locs → lv_has ls 5 [(0, .ref (xz G + 57)), (3, .int x3), (4, .int x4)] → W p l e (xrm 85 2028) s m args below meth c H locs 0 0 (xMQ G kp below args s (some (.int r)) rI rL) (F0 m 166 ls []) := by
  intro n
  induction n with
  | zero =>
    intro x4 I hf
    cases hf
  | succ n hk166 =>
    intro x4 I hf H locs ls hR hS hl
    rw [xlp_s, E_X11_rule_b166] at hf
    unfold F_X11_rule_c166 at hf
    refine lv_iload hC.1 hC.2.1 dX11_rule_166 (lv_at hl 2 rfl) ?_
    refine lv_aload_n hC.1 hC.2.1 dX11_rule_168 rfl (lv_at hl 0 rfl) ?_
    refine x_getI hC xf_X11_329 (xce_57 G kp _ _) rfl hR dX11_rule_169 hf (fun v1 hf => ?_)
    refine x_ic_ge (tgt := 199) hC dX11_rule_172 (by decide) hf (fun hf => ?_) (fun hf => ?_)
    · refine lv_aload_n hC.1 hC.2.1 dX11_rule_199 rfl (lv_at hl 0 rfl) ?_
      refine lv_iconst (v := 0) hC.1 hC.2.1 dX11_rule_200 (by decide) ?_
      refine x_putI hC xf_X11_329 xp_11_5 (fun f => (xce_57 G kp f _)) rfl (Nat.le_of_ble_eq_true rfl) hR hS dX11_rule_201 hf (fun I2 hf H locs hR hS => ?_)
      refine lv_aload_n hC.1 hC.2.1 dX11_rule_204 rfl (lv_at hl 0 rfl) ?_
      refine x_get (v := .ref (xz G + 58)) hC xf_X11_14 (xce_57 G kp _ _) rfl hR dX11_rule_205 ?_
      refine lv_iconst (v := 4) hC.1 hC.2.1 dX11_rule_208 (by decide) ?_
      refine lv_dup2_11 hC.1 hC.2.1 dX11_rule_209 rfl rfl ?_
      refine x_ial hC (xce_58 G kp _ _) hR dX11_rule_210 hf (fun v3 hf => ?_)
      refine lv_iconst (v := 1) hC.1 hC.2.1 dX11_rule_211 (by decide) ?_
      refine lv_iadd hC.1 hC.2.1 dX11_rule_212 ?_
      refine x_ias hC (fun f => (xce_58 G kp f _)) hR hS dX11_rule_213 hf (fun I4 hf H locs hR hS => ?_)
      refine W.eq (g2 := F0 m 214 ls []) rfl ?_
      refine lv_aload_n hC.1 hC.2.1 dX11_rule_214 rfl (lv_at hl 0 rfl) ?_
      refine x_get (v := .ref (xz G + 58)) hC xf_X11_14 (xce_57 G kp _ _) rfl hR dX11_rule_215 ?_
      refine lv_iconst (v := 4) hC.1 hC.2.1 dX11_rule_218 (by decide) ?_
      refine x_ial hC (xce_58 G kp _ _) hR dX11_rule_219 hf (fun v5 hf => ?_)
      refine lv_iconst (v := 1) hC.1 hC.2.1 dX11_rule_220 (by decide) ?_
      refine lv_isub hC.1 hC.2.1 dX11_rule_221 ?_
      obtain ⟨h91, h90⟩ := Prod.mk.inj (Option.some.inj hf)
      obtain ⟨h92, h93⟩ := Prod.mk.inj h90
      subst h91
      subst h92
      subst h93
      exact x_iret hC hR hS dX11_rule_222
    · refine lv_aload_n hC.1 hC.2.1 dX11_rule_175 rfl (lv_at hl 0 rfl) ?_
      refine x_get (v := .ref (xz G + 58)) hC xf_X11_14 (xce_57 G kp _ _) rfl hR dX11_rule_176 ?_
      refine lv_iload_n hC.1 hC.2.1 dX11_rule_179 rfl (lv_at hl 1 rfl) ?_
      refine lv_iconst (v := 4) hC.1 hC.2.1 dX11_rule_180 (by decide) ?_
      refine lv_iadd hC.1 hC.2.1 dX11_rule_181 ?_
      refine lv_iload hC.1 hC.2.1 dX11_rule_182 (lv_at hl 2 rfl) ?_
      refine lv_iadd hC.1 hC.2.1 dX11_rule_184 ?_
      refine lv_aload_n hC.1 hC.2.1 dX11_rule_185 rfl (lv_at hl 0 rfl) ?_
      refine x_get (v := .ref (xz G + 61)) hC xf_X11_25 (xce_57 G kp _ _) rfl hR dX11_rule_186 ?_
      refine lv_iload hC.1 hC.2.1 dX11_rule_189 (lv_at hl 2 rfl) ?_
      refine x_ial hC (xce_61 G kp _ _) hR dX11_rule_191 hf (fun v6 hf => ?_)
      refine W.eq (g2 := F0 m 192 ls [.int v6, .int ((x3 + 4) + x4), .ref (xz G + 58)]) rfl ?_
      refine x_ias hC (fun f => (xce_58 G kp f _)) hR hS dX11_rule_192 hf (fun I7 hf H locs hR hS => ?_)
      refine x_iinc (d := 1) (lv' := fun y8 => [(4, .int y8), (0, .ref (xz G + 57)), (3, .int x3)]) (k := 2) hC hl dX11_rule_193 rfl (by decide) (Nat.le_of_ble_eq_true rfl) hf (fun _ => rfl) (fun y8 hf ls hl => ?_)
      refine lv_goto (tgt := 166) hC.1 hC.2.1 dX11_rule_196 (by decide) ?_
      exact hk166 y8 I7 hf _ _ _ hR hS (lv_sub hl [1, 2, 0] rfl)
set_option maxRecDepth 20000 in
theorem W_X11_rule_l62 {G : XG} {l : Launch} {kp : Bool} {p : Program} {e : Env} {s : State} {m : MethodId} {args : Array Value} {below : List Frame} {meth : Method} {c : Code} (hC : xC G p s m args meth c cX11_rule 5 RX11 (some .int)) (N : Nat) {L : xTL} {r : Int32} {rI : xTI} {rL : xTL} {x1 : Int32} {x2 : Int32} : ∀ (n : Nat) (x3 : Int32) (I : xTI) , xlp (F_X11_rule_b62 N L x1 x2 ) n (x3, I) = some (r, rI, rL) → ∀ (H : Heap) (locs : List Loc) (ls : Array Slot), xRep G kp I L H → xS G s.heap H locs → lv_has ls 5 [(0, .ref (xz G + 57)), (1, .int x1), (2, .int x2), (3, .int x3)] → W p l e (xrm 85 2028) s m args below meth c H locs 0 0 (xMQ G kp below args s (some (.int r)) rI rL) (F0 m 62 ls []) := by
  intro n
  induction n with
  | zero =>
    intro x3 I hf
    cases hf
  | succ n hk62 =>
    intro x3 I hf H locs ls hR hS hl
    rw [xlp_s, E_X11_rule_b62] at hf
    unfold F_X11_rule_c62 at hf
    refine lv_iload_n hC.1 hC.2.1 dX11_rule_62 rfl (lv_at hl 3 rfl) ?_
    refine lv_aload_n hC.1 hC.2.1 dX11_rule_63 rfl (lv_at hl 0 rfl) ?_
    refine x_getI hC xf_X11_329 (xce_57 G kp _ _) rfl hR dX11_rule_64 hf (fun v1 hf => ?_)
    refine x_ic_ge (tgt := 88) hC dX11_rule_67 (by decide) hf (fun hf => ?_) (fun hf => ?_)
    · refine lv_aload_n hC.1 hC.2.1 dX11_rule_88 rfl (lv_at hl 0 rfl) ?_
      refine lv_iconst (v := 0) hC.1 hC.2.1 dX11_rule_89 (by decide) ?_
      refine lv_iconst (v := (-1)) hC.1 hC.2.1 dX11_rule_90 (by decide) ?_
      refine x_cvv11 (rest := []) hC xy_X11_readRule tw_1467 hf (fun _ _ h => M_X11_readRule G l kp N h) ⟨Nat.le_of_ble_eq_true rfl, Nat.le_of_ble_eq_true rfl⟩ (xce_57 G kp _ _) rfl rfl rfl (Nat.le_of_ble_eq_true rfl) hl.1 hR hS dX11_rule_91 ⟨Nat.le_refl _, Nat.le_refl _⟩ (fun I2 L3 hf H locs hR hS => ?_)
      refine lv_aload_n hC.1 hC.2.1 dX11_rule_94 rfl (lv_at hl 0 rfl) ?_
      refine x_getI hC xf_X11_202 (xce_57 G kp _ _) rfl hR dX11_rule_95 hf (fun v4 hf => ?_)
      refine x_if_eq (tgt := 109) hC dX11_rule_98 (by decide) hf (fun hf => ?_) (fun hf => ?_)
      · refine lv_sipush (v := 1082) hC.1 hC.2.1 dX11_rule_109 (by decide) ?_
        refine lv_bipush (v := 124) hC.1 hC.2.1 dX11_rule_112 (by decide) ?_
        refine lv_aload_n hC.1 hC.2.1 dX11_rule_114 rfl (lv_at hl 0 rfl) ?_
        refine x_get (v := .ref (xz G + 58)) hC xf_X11_14 (xce_57 G kp _ _) rfl hR dX11_rule_115 ?_
        refine lv_iconst (v := 4) hC.1 hC.2.1 dX11_rule_118 (by decide) ?_
        refine x_ial hC (xce_58 G kp _ _) hR dX11_rule_119 hf (fun v5 hf => ?_)
        refine lv_imul hC.1 hC.2.1 dX11_rule_120 ?_
        refine lv_iadd hC.1 hC.2.1 dX11_rule_121 ?_
        refine x_istn (lv' := fun y6 => [(3, .int y6), (0, .ref (xz G + 57)), (1, .int x1), (2, .int x2)]) hC hl dX11_rule_122 rfl (Nat.le_of_ble_eq_true rfl) hf (fun _ => rfl) (fun y6 hf ls hl => ?_)
        refine lv_aload_n hC.1 hC.2.1 dX11_rule_123 rfl (lv_at hl 1 rfl) ?_
        refine x_get (v := .ref (xz G + 58)) hC xf_X11_14 (xce_57 G kp _ _) rfl hR dX11_rule_124 ?_
        refine W.eq (g2 := F0 m 127 ls [.ref (xz G + 58)]) rfl ?_
        refine lv_iload_n hC.1 hC.2.1 dX11_rule_127 rfl (lv_at hl 0 rfl) ?_
        refine lv_aload_n hC.1 hC.2.1 dX11_rule_128 rfl (lv_at hl 1 rfl) ?_
        refine x_getI hC xf_X11_311 (xce_57 G kp _ _) rfl hR dX11_rule_129 hf (fun v7 hf => ?_)
        refine x_ias hC (fun f => (xce_58 G kp f _)) hR hS dX11_rule_132 hf (fun I8 hf H locs hR hS => ?_)
        refine lv_aload_n hC.1 hC.2.1 dX11_rule_133 rfl (lv_at hl 1 rfl) ?_
        refine x_get (v := .ref (xz G + 58)) hC xf_X11_14 (xce_57 G kp _ _) rfl hR dX11_rule_134 ?_
        refine lv_iload_n hC.1 hC.2.1 dX11_rule_137 rfl (lv_at hl 0 rfl) ?_
        refine lv_iconst (v := 1) hC.1 hC.2.1 dX11_rule_138 (by decide) ?_
        refine lv_iadd hC.1 hC.2.1 dX11_rule_139 ?_
        refine lv_iload_n hC.1 hC.2.1 dX11_rule_140 rfl (lv_at hl 2 rfl) ?_
        refine x_ias hC (fun f => (xce_58 G kp f _)) hR hS dX11_rule_141 hf (fun I9 hf H locs hR hS => ?_)
        refine lv_aload_n hC.1 hC.2.1 dX11_rule_142 rfl (lv_at hl 1 rfl) ?_
        refine W.eq (g2 := F0 m 143 ls [.ref (xz G + 57)]) rfl ?_
        refine x_get (v := .ref (xz G + 58)) hC xf_X11_14 (xce_57 G kp _ _) rfl hR dX11_rule_143 ?_
        refine lv_iload_n hC.1 hC.2.1 dX11_rule_146 rfl (lv_at hl 0 rfl) ?_
        refine lv_iconst (v := 2) hC.1 hC.2.1 dX11_rule_147 (by decide) ?_
        refine lv_iadd hC.1 hC.2.1 dX11_rule_148 ?_
        refine lv_iload_n hC.1 hC.2.1 dX11_rule_149 rfl (lv_at hl 3 rfl) ?_
        refine x_ias hC (fun f => (xce_58 G kp f _)) hR hS dX11_rule_150 hf (fun I10 hf H locs hR hS => ?_)
        refine lv_aload_n hC.1 hC.2.1 dX11_rule_151 rfl (lv_at hl 1 rfl) ?_
        refine x_get (v := .ref (xz G + 58)) hC xf_X11_14 (xce_57 G kp _ _) rfl hR dX11_rule_152 ?_
        refine lv_iload_n hC.1 hC.2.1 dX11_rule_155 rfl (lv_at hl 0 rfl) ?_
        refine lv_iconst (v := 3) hC.1 hC.2.1 dX11_rule_156 (by decide) ?_
        refine lv_iadd hC.1 hC.2.1 dX11_rule_157 ?_
        refine lv_aload_n hC.1 hC.2.1 dX11_rule_158 rfl (lv_at hl 1 rfl) ?_
        refine W.eq (g2 := F0 m 159 ls [.ref (xz G + 57), .int (y6 + 3), .ref (xz G + 58)]) rfl ?_
        refine x_getI hC xf_X11_329 (xce_57 G kp _ _) rfl hR dX11_rule_159 hf (fun v11 hf => ?_)
        refine x_ias hC (fun f => (xce_58 G kp f _)) hR hS dX11_rule_162 hf (fun I12 hf H locs hR hS => ?_)
        refine lv_iconst (v := 0) hC.1 hC.2.1 dX11_rule_163 (by decide) ?_
        refine lv_istore (lv' := [(4, .int 0), (3, .int y6), (0, .ref (xz G + 57)), (1, .int x1), (2, .int x2)]) hC.1 hC.2.1 dX11_rule_164 hl (Nat.le_of_ble_eq_true rfl) rfl (fun ls hl => ?_)
        exact W_X11_rule_l166 hC N _ 0 I12 hf _ _ _ hR hS (lv_sub hl [2, 1, 0] rfl)
      · refine lv_bipush (v := (-10)) hC.1 hC.2.1 dX11_rule_101 (by decide) ?_
        refine lv_aload_n hC.1 hC.2.1 dX11_rule_103 rfl (lv_at hl 0 rfl) ?_
        refine x_getI hC xf_X11_206 (xce_57 G kp _ _) rfl hR dX11_rule_104 hf (fun v13 hf => ?_)
        refine lv_isub hC.1 hC.2.1 dX11_rule_107 ?_
        obtain ⟨h91, h90⟩ := Prod.mk.inj (Option.some.inj hf)
        obtain ⟨h92, h93⟩ := Prod.mk.inj h90
        subst h91
        subst h92
        subst h93
        exact x_iret hC hR hS dX11_rule_108
    · refine lv_aload_n hC.1 hC.2.1 dX11_rule_70 rfl (lv_at hl 0 rfl) ?_
      refine x_get (v := .ref (xz G + 62)) hC xf_X11_28 (xce_57 G kp _ _) rfl hR dX11_rule_71 ?_
      refine lv_iload_n hC.1 hC.2.1 dX11_rule_74 rfl (lv_at hl 3 rfl) ?_
      refine lv_aload_n hC.1 hC.2.1 dX11_rule_75 rfl (lv_at hl 0 rfl) ?_
      refine x_get (v := .ref (xz G + 61)) hC xf_X11_25 (xce_57 G kp _ _) rfl hR dX11_rule_76 ?_
      refine lv_iload_n hC.1 hC.2.1 dX11_rule_79 rfl (lv_at hl 3 rfl) ?_
      refine x_ial hC (xce_61 G kp _ _) hR dX11_rule_80 hf (fun v14 hf => ?_)
      refine x_ias hC (fun f => (xce_62 G kp f _)) hR hS dX11_rule_81 hf (fun I15 hf H locs hR hS => ?_)
      refine x_iinc (d := 1) (lv' := fun y16 => [(3, .int y16), (0, .ref (xz G + 57)), (1, .int x1), (2, .int x2)]) (k := 3) hC hl dX11_rule_82 rfl (by decide) (Nat.le_of_ble_eq_true rfl) hf (fun _ => rfl) (fun y16 hf ls hl => ?_)
      refine lv_goto (tgt := 62) hC.1 hC.2.1 dX11_rule_85 (by decide) ?_
      exact hk62 y16 I15 hf _ _ _ hR hS (lv_sub hl [1, 2, 3, 0] rfl)
set_option maxRecDepth 20000 in
theorem M_X11_rule (G : XG) (l : Launch) (kp : Bool) (N : Nat) {I : xTI} {L : xTL} {x1 : Int32} {x2 : Int32} {r : Int32} {rI : xTI} {rL : xTL} (hf : F_X11_rule N I L x1 x2 = some (r, rI, rL)) : xMet G l yX11_rule cX11_rule 5 (some .int) 85 2028 kp [.ref (xz G + 57), .int x1, .int x2] I L (some (.int r)) rI rL := by
  refine xMet.ofW (by decide +kernel) (Nat.le_of_ble_eq_true rfl) ?_
  intro p e s m args below meth c hC H locs ls hR hS hl
  replace hC : xC G p s m args meth c cX11_rule 5 RX11 (some .int) := hC
  replace hl : lv_has ls 5 [(0, .ref (xz G + 57)), (1, .int x1), (2, .int x2)] := hl
  unfold F_X11_rule at hf
  refine lv_iload_n hC.1 hC.2.1 dX11_rule_0 rfl (lv_at hl 1 rfl) ?_
  refine lv_iconst (v := 0) hC.1 hC.2.1 dX11_rule_1 (by decide) ?_
  refine lv_sipush (v := 1000) hC.1 hC.2.1 dX11_rule_2 (by decide) ?_
  refine x_csi00 (rest := []) hC xy_X11_in tw_1335 hf (fun _ h => M_X11_in G l kp h) ⟨Nat.le_of_ble_eq_true rfl, Nat.le_of_ble_eq_true rfl⟩ rfl rfl (Nat.le_of_ble_eq_true rfl) hl.1 hR hS dX11_rule_5 ⟨Nat.le_refl _, Nat.le_refl _⟩ (fun v1 hf H locs hR hS => ?_)
  refine x_if_eq (tgt := 27) hC dX11_rule_8 (by decide) hf (fun hf => ?_) (fun hf => ?_)
  · exact W_X11_rule_j27 hC N hf _ _ _ hR hS (lv_sub hl [0] rfl)
  · refine lv_iload_n hC.1 hC.2.1 dX11_rule_11 rfl (lv_at hl 2 rfl) ?_
    refine lv_iconst (v := 0) hC.1 hC.2.1 dX11_rule_12 (by decide) ?_
    refine lv_sipush (v := 1000) hC.1 hC.2.1 dX11_rule_13 (by decide) ?_
    refine x_csi00 (rest := []) hC xy_X11_in tw_1335 hf (fun _ h => M_X11_in G l kp h) ⟨Nat.le_of_ble_eq_true rfl, Nat.le_of_ble_eq_true rfl⟩ rfl rfl (Nat.le_of_ble_eq_true rfl) hl.1 hR hS dX11_rule_16 ⟨Nat.le_refl _, Nat.le_refl _⟩ (fun v2 hf H locs hR hS => ?_)
    refine x_if_eq (tgt := 27) hC dX11_rule_19 (by decide) hf (fun hf => ?_) (fun hf => ?_)
    · exact W_X11_rule_j27 hC N hf _ _ _ hR hS (lv_sub hl [0] rfl)
    · refine lv_iload_n hC.1 hC.2.1 dX11_rule_22 rfl (lv_at hl 1 rfl) ?_
      refine lv_iload_n hC.1 hC.2.1 dX11_rule_23 rfl (lv_at hl 2 rfl) ?_
      refine x_ic_lt (tgt := 34) hC dX11_rule_24 (by decide) hf (fun hf => ?_) (fun hf => ?_)
      · refine lv_aload_n hC.1 hC.2.1 dX11_rule_34 rfl (lv_at hl 0 rfl) ?_
        refine x_get (v := .ref (xz G + 58)) hC xf_X11_14 (xce_57 G kp _ _) rfl hR dX11_rule_35 ?_
        refine lv_iconst (v := 4) hC.1 hC.2.1 dX11_rule_38 (by decide) ?_
        refine x_ial hC (xce_58 G kp _ _) hR dX11_rule_39 hf (fun v3 hf => ?_)
        refine lv_bipush (v := 12) hC.1 hC.2.1 dX11_rule_40 (by decide) ?_
        refine x_ic_ne (tgt := 52) hC dX11_rule_42 (by decide) hf (fun hf => ?_) (fun hf => ?_)
        · refine lv_aload_n hC.1 hC.2.1 dX11_rule_52 rfl (lv_at hl 0 rfl) ?_
          refine lv_aload_n hC.1 hC.2.1 dX11_rule_53 rfl (lv_at hl 0 rfl) ?_
          refine x_getI hC xf_X11_329 (xce_57 G kp _ _) rfl hR dX11_rule_54 hf (fun v4 hf => ?_)
          refine x_putI hC xf_X11_173 xp_11_7 (fun f => (xce_57 G kp f _)) rfl (Nat.le_of_ble_eq_true rfl) hR hS dX11_rule_57 hf (fun I5 hf H locs hR hS => ?_)
          refine lv_iconst (v := 0) hC.1 hC.2.1 dX11_rule_60 (by decide) ?_
          refine lv_istore_n (lv' := [(3, .int 0), (0, .ref (xz G + 57)), (1, .int x1), (2, .int x2)]) hC.1 hC.2.1 dX11_rule_61 rfl hl (Nat.le_of_ble_eq_true rfl) rfl (fun ls hl => ?_)
          exact W_X11_rule_l62 hC N _ 0 I5 hf _ _ _ hR hS (lv_sub hl [1, 2, 3, 0] rfl)
        · refine lv_aload_n hC.1 hC.2.1 dX11_rule_45 rfl (lv_at hl 0 rfl) ?_
          refine lv_bipush (v := (-8)) hC.1 hC.2.1 dX11_rule_46 (by decide) ?_
          refine x_cvi10 (rest := []) hC xy_X11_refuse tw_1338 hf (fun _ _ h => M_X11_refuse G l kp h) ⟨Nat.le_of_ble_eq_true rfl, Nat.le_of_ble_eq_true rfl⟩ (xce_57 G kp _ _) rfl rfl rfl (Nat.le_of_ble_eq_true rfl) hl.1 hR hS dX11_rule_48 ⟨Nat.le_refl _, Nat.le_refl _⟩ (fun v6 I7 hf H locs hR hS => ?_)
          obtain ⟨h91, h90⟩ := Prod.mk.inj (Option.some.inj hf)
          obtain ⟨h92, h93⟩ := Prod.mk.inj h90
          subst h91
          subst h92
          subst h93
          exact x_iret hC hR hS dX11_rule_51
      · exact W_X11_rule_j27 hC N hf _ _ _ hR hS (lv_sub hl [0] rfl)
set_option maxRecDepth 20000 in
theorem M_X11_isWho (G : XG) (l : Launch) (kp : Bool) {I : xTI} {L : xTL} {x1 : Int32} {x2 : Int32} {r : Int32} (hf : F_X11_isWho I x1 x2 = some r) : xMet G l yX11_isWho cX11_isWho 3 (some .boolean) 2 43 kp [.ref (xz G + 57), .int x1, .int x2] I L (some (.int r)) I L := by
  refine xMet.ofW (by decide +kernel) (Nat.le_of_ble_eq_true rfl) ?_
  intro p e s m args below meth c hC H locs ls hR hS hl
  replace hC : xC G p s m args meth c cX11_isWho 3 RX11 (some .boolean) := hC
  replace hl : lv_has ls 3 [(0, .ref (xz G + 57)), (1, .int x1), (2, .int x2)] := hl
  unfold F_X11_isWho at hf
  refine lv_iload_n hC.1 hC.2.1 dX11_isWho_0 rfl (lv_at hl 1 rfl) ?_
  refine lv_iconst (v := 0) hC.1 hC.2.1 dX11_isWho_1 (by decide) ?_
  refine lv_iconst (v := 5) hC.1 hC.2.1 dX11_isWho_2 (by decide) ?_
  refine x_csi00 (rest := []) hC xy_X11_in tw_1335 hf (fun _ h => M_X11_in G l kp h) ⟨Nat.le_of_ble_eq_true rfl, Nat.le_of_ble_eq_true rfl⟩ rfl rfl (Nat.le_of_ble_eq_true rfl) hl.1 hR hS dX11_isWho_3 ⟨Nat.le_refl _, Nat.le_refl _⟩ (fun v1 hf H locs hR hS => ?_)
  refine x_if_eq (tgt := 32) hC dX11_isWho_6 (by decide) hf (fun hf => ?_) (fun hf => ?_)
  · refine lv_iconst (v := 0) hC.1 hC.2.1 dX11_isWho_32 (by decide) ?_
    obtain ⟨h01, hf⟩ := xzc_some hf
    have h9 := Option.some.inj hf
    subst h9
    exact x_zret h01 hC hR hS dX11_isWho_33
  · refine lv_aload_n hC.1 hC.2.1 dX11_isWho_9 rfl (lv_at hl 0 rfl) ?_
    refine lv_iload_n hC.1 hC.2.1 dX11_isWho_10 rfl (lv_at hl 2 rfl) ?_
    refine x_cvi00 (rest := []) hC xy_X11_isStock tw_1359 hf (fun _ h => M_X11_isStock G l kp h) ⟨Nat.le_of_ble_eq_true rfl, Nat.le_of_ble_eq_true rfl⟩ (xce_57 G kp _ _) rfl rfl rfl (Nat.le_of_ble_eq_true rfl) hl.1 hR hS dX11_isWho_11 ⟨Nat.le_refl _, Nat.le_refl _⟩ (fun v2 hf H locs hR hS => ?_)
    refine x_if_ne (tgt := 28) hC dX11_isWho_14 (by decide) hf (fun hf => ?_) (fun hf => ?_)
    · refine lv_iconst (v := 1) hC.1 hC.2.1 dX11_isWho_28 (by decide) ?_
      refine lv_goto (tgt := 33) hC.1 hC.2.1 dX11_isWho_29 (by decide) ?_
      obtain ⟨h01, hf⟩ := xzc_some hf
      have h9 := Option.some.inj hf
      subst h9
      exact x_zret h01 hC hR hS dX11_isWho_33
    · refine lv_aload_n hC.1 hC.2.1 dX11_isWho_17 rfl (lv_at hl 0 rfl) ?_
      refine lv_iload_n hC.1 hC.2.1 dX11_isWho_18 rfl (lv_at hl 2 rfl) ?_
      refine lv_bipush (v := 100) hC.1 hC.2.1 dX11_isWho_19 (by decide) ?_
      refine lv_isub hC.1 hC.2.1 dX11_isWho_21 ?_
      refine x_cvi00 (rest := []) hC xy_X11_isBargain tw_1439 hf (fun _ h => M_X11_isBargain G l kp h) ⟨Nat.le_of_ble_eq_true rfl, Nat.le_of_ble_eq_true rfl⟩ (xce_57 G kp _ _) rfl rfl rfl (Nat.le_of_ble_eq_true rfl) hl.1 hR hS dX11_isWho_22 ⟨Nat.le_refl _, Nat.le_refl _⟩ (fun v3 hf H locs hR hS => ?_)
      refine x_if_eq (tgt := 32) hC dX11_isWho_25 (by decide) hf (fun hf => ?_) (fun hf => ?_)
      · refine lv_iconst (v := 0) hC.1 hC.2.1 dX11_isWho_32 (by decide) ?_
        obtain ⟨h01, hf⟩ := xzc_some hf
        have h9 := Option.some.inj hf
        subst h9
        exact x_zret h01 hC hR hS dX11_isWho_33
      · refine lv_iconst (v := 1) hC.1 hC.2.1 dX11_isWho_28 (by decide) ?_
        refine lv_goto (tgt := 33) hC.1 hC.2.1 dX11_isWho_29 (by decide) ?_
        obtain ⟨h01, hf⟩ := xzc_some hf
        have h9 := Option.some.inj hf
        subst h9
        exact x_zret h01 hC hR hS dX11_isWho_33
set_option maxRecDepth 20000 in
theorem M_X11_defaultOf (G : XG) (l : Launch) (kp : Bool) {I : xTI} {L : xTL} {x0 : Int32} {r : Int32} (hf : F_X11_defaultOf x0 = some r) : xMet G l yX11_defaultOf cX11_defaultOf 1 (some .int) 0 0 kp [.int x0] I L (some (.int r)) I L := by
  refine xMet.ofW (by decide +kernel) (Nat.le_of_ble_eq_true rfl) ?_
  intro p e s m args below meth c hC H locs ls hR hS hl
  replace hC : xC G p s m args meth c cX11_defaultOf 1 RX11 (some .int) := hC
  replace hl : lv_has ls 1 [(0, .int x0)] := hl
  unfold F_X11_defaultOf at hf
  refine lv_iload_n hC.1 hC.2.1 dX11_defaultOf_0 rfl (lv_at hl 0 rfl) ?_
  refine lv_iconst (v := 1) hC.1 hC.2.1 dX11_defaultOf_1 (by decide) ?_
  refine x_ic_ne (tgt := 10) hC dX11_defaultOf_2 (by decide) hf (fun hf => ?_) (fun hf => ?_)
  · refine lv_iload_n hC.1 hC.2.1 dX11_defaultOf_10 rfl (lv_at hl 0 rfl) ?_
    refine lv_iconst (v := 5) hC.1 hC.2.1 dX11_defaultOf_11 (by decide) ?_
    refine x_ic_ne (tgt := 19) hC dX11_defaultOf_12 (by decide) hf (fun hf => ?_) (fun hf => ?_)
    · refine lv_iconst (v := 0) hC.1 hC.2.1 dX11_defaultOf_19 (by decide) ?_
      have h9 := Option.some.inj hf
      subst h9
      exact x_iret hC hR hS dX11_defaultOf_20
    · refine lv_iconst (v := 1) hC.1 hC.2.1 dX11_defaultOf_15 (by decide) ?_
      refine lv_goto (tgt := 20) hC.1 hC.2.1 dX11_defaultOf_16 (by decide) ?_
      have h9 := Option.some.inj hf
      subst h9
      exact x_iret hC hR hS dX11_defaultOf_20
  · refine lv_bipush (v := 120) hC.1 hC.2.1 dX11_defaultOf_5 (by decide) ?_
    refine lv_goto (tgt := 20) hC.1 hC.2.1 dX11_defaultOf_7 (by decide) ?_
    have h9 := Option.some.inj hf
    subst h9
    exact x_iret hC hR hS dX11_defaultOf_20
set_option maxRecDepth 20000 in
theorem M_X11_says (G : XG) (l : Launch) (kp : Bool) (N : Nat) {I : xTI} {L : xTL} {x1 : Int32} {x2 : Int32} {r : Int32} {rI : xTI} {rL : xTL} (hf : F_X11_says N I L x1 x2 = some (r, rI, rL)) : xMet G l yX11_says cX11_says 3 (some .int) 87 2078 kp [.ref (xz G + 57), .int x1, .int x2] I L (some (.int r)) rI rL := by
  refine xMet.ofW (by decide +kernel) (Nat.le_of_ble_eq_true rfl) ?_
  intro p e s m args below meth c hC H locs ls hR hS hl
  replace hC : xC G p s m args meth c cX11_says 3 RX11 (some .int) := hC
  replace hl : lv_has ls 3 [(0, .ref (xz G + 57)), (1, .int x1), (2, .int x2)] := hl
  unfold F_X11_says at hf
  refine lv_aload_n hC.1 hC.2.1 dX11_says_0 rfl (lv_at hl 0 rfl) ?_
  refine lv_iload_n hC.1 hC.2.1 dX11_says_1 rfl (lv_at hl 1 rfl) ?_
  refine lv_iload_n hC.1 hC.2.1 dX11_says_2 rfl (lv_at hl 2 rfl) ?_
  refine x_cvi00 (rest := []) hC xy_X11_isWho tw_1603 hf (fun _ h => M_X11_isWho G l kp h) ⟨Nat.le_of_ble_eq_true rfl, Nat.le_of_ble_eq_true rfl⟩ (xce_57 G kp _ _) rfl rfl rfl (Nat.le_of_ble_eq_true rfl) hl.1 hR hS dX11_says_3 ⟨Nat.le_refl _, Nat.le_refl _⟩ (fun v1 hf H locs hR hS => ?_)
  refine x_if_eq (tgt := 22) hC dX11_says_6 (by decide) hf (fun hf => ?_) (fun hf => ?_)
  · refine lv_aload_n hC.1 hC.2.1 dX11_says_22 rfl (lv_at hl 0 rfl) ?_
    refine lv_bipush (v := (-3)) hC.1 hC.2.1 dX11_says_23 (by decide) ?_
    refine x_cvi10 (rest := []) hC xy_X11_hush tw_1391 hf (fun _ _ h => M_X11_hush G l kp h) ⟨Nat.le_of_ble_eq_true rfl, Nat.le_of_ble_eq_true rfl⟩ (xce_57 G kp _ _) rfl rfl rfl (Nat.le_of_ble_eq_true rfl) hl.1 hR hS dX11_says_25 ⟨Nat.le_refl _, Nat.le_refl _⟩ (fun v2 I3 hf H locs hR hS => ?_)
    obtain ⟨h91, h90⟩ := Prod.mk.inj (Option.some.inj hf)
    obtain ⟨h92, h93⟩ := Prod.mk.inj h90
    subst h91
    subst h92
    subst h93
    exact x_iret hC hR hS dX11_says_28
  · refine lv_aload_n hC.1 hC.2.1 dX11_says_9 rfl (lv_at hl 0 rfl) ?_
    refine lv_iload_n hC.1 hC.2.1 dX11_says_10 rfl (lv_at hl 1 rfl) ?_
    refine lv_iload_n hC.1 hC.2.1 dX11_says_11 rfl (lv_at hl 2 rfl) ?_
    refine lv_iload_n hC.1 hC.2.1 dX11_says_12 rfl (lv_at hl 1 rfl) ?_
    refine x_csi00 (rest := [.int x2, .int x1, .ref (xz G + 57)]) hC xy_X11_defaultOf tw_1607 hf (fun _ h => M_X11_defaultOf G l kp h) ⟨Nat.le_of_ble_eq_true rfl, Nat.le_of_ble_eq_true rfl⟩ rfl rfl (Nat.le_of_ble_eq_true rfl) hl.1 hR hS dX11_says_13 ⟨Nat.le_refl _, Nat.le_refl _⟩ (fun v4 hf H locs hR hS => ?_)
    refine x_cvi11 (rest := []) hC xy_X11_ruled tw_1459 hf (fun _ _ _ h => M_X11_ruled G l kp N h) ⟨Nat.le_of_ble_eq_true rfl, Nat.le_of_ble_eq_true rfl⟩ (xce_57 G kp _ _) rfl rfl rfl (Nat.le_of_ble_eq_true rfl) hl.1 hR hS dX11_says_16 ⟨Nat.le_refl _, Nat.le_refl _⟩ (fun v5 I6 L7 hf H locs hR hS => ?_)
    refine lv_goto (tgt := 28) hC.1 hC.2.1 dX11_says_19 (by decide) ?_
    obtain ⟨h91, h90⟩ := Prod.mk.inj (Option.some.inj hf)
    obtain ⟨h92, h93⟩ := Prod.mk.inj h90
    subst h91
    subst h92
    subst h93
    exact x_iret hC hR hS dX11_says_28
set_option maxRecDepth 20000 in
theorem M_X11_why (G : XG) (l : Launch) (kp : Bool) (N : Nat) {I : xTI} {L : xTL} {x1 : Int32} {x2 : Int32} {r : Int32} {rI : xTI} {rL : xTL} (hf : F_X11_why N I L x1 x2 = some (r, rI, rL)) : xMet G l yX11_why cX11_why 3 (some .int) 86 2055 kp [.ref (xz G + 57), .int x1, .int x2] I L (some (.int r)) rI rL := by
  refine xMet.ofW (by decide +kernel) (Nat.le_of_ble_eq_true rfl) ?_
  intro p e s m args below meth c hC H locs ls hR hS hl
  replace hC : xC G p s m args meth c cX11_why 3 RX11 (some .int) := hC
  replace hl : lv_has ls 3 [(0, .ref (xz G + 57)), (1, .int x1), (2, .int x2)] := hl
  unfold F_X11_why at hf
  refine lv_aload_n hC.1 hC.2.1 dX11_why_0 rfl (lv_at hl 0 rfl) ?_
  refine lv_iload_n hC.1 hC.2.1 dX11_why_1 rfl (lv_at hl 1 rfl) ?_
  refine lv_iload_n hC.1 hC.2.1 dX11_why_2 rfl (lv_at hl 2 rfl) ?_
  refine x_cvi00 (rest := []) hC xy_X11_isWho tw_1603 hf (fun _ h => M_X11_isWho G l kp h) ⟨Nat.le_of_ble_eq_true rfl, Nat.le_of_ble_eq_true rfl⟩ (xce_57 G kp _ _) rfl rfl rfl (Nat.le_of_ble_eq_true rfl) hl.1 hR hS dX11_why_3 ⟨Nat.le_refl _, Nat.le_refl _⟩ (fun v1 hf H locs hR hS => ?_)
  refine x_if_eq (tgt := 18) hC dX11_why_6 (by decide) hf (fun hf => ?_) (fun hf => ?_)
  · refine lv_aload_n hC.1 hC.2.1 dX11_why_18 rfl (lv_at hl 0 rfl) ?_
    refine lv_bipush (v := (-3)) hC.1 hC.2.1 dX11_why_19 (by decide) ?_
    refine x_cvi10 (rest := []) hC xy_X11_refuse tw_1338 hf (fun _ _ h => M_X11_refuse G l kp h) ⟨Nat.le_of_ble_eq_true rfl, Nat.le_of_ble_eq_true rfl⟩ (xce_57 G kp _ _) rfl rfl rfl (Nat.le_of_ble_eq_true rfl) hl.1 hR hS dX11_why_21 ⟨Nat.le_refl _, Nat.le_refl _⟩ (fun v2 I3 hf H locs hR hS => ?_)
    obtain ⟨h91, h90⟩ := Prod.mk.inj (Option.some.inj hf)
    obtain ⟨h92, h93⟩ := Prod.mk.inj h90
    subst h91
    subst h92
    subst h93
    exact x_iret hC hR hS dX11_why_24
  · refine lv_aload_n hC.1 hC.2.1 dX11_why_9 rfl (lv_at hl 0 rfl) ?_
    refine lv_iload_n hC.1 hC.2.1 dX11_why_10 rfl (lv_at hl 1 rfl) ?_
    refine lv_iload_n hC.1 hC.2.1 dX11_why_11 rfl (lv_at hl 2 rfl) ?_
    refine x_cvi11 (rest := []) hC xy_X11_rules tw_1463 hf (fun _ _ _ h => M_X11_rules G l kp N h) ⟨Nat.le_of_ble_eq_true rfl, Nat.le_of_ble_eq_true rfl⟩ (xce_57 G kp _ _) rfl rfl rfl (Nat.le_of_ble_eq_true rfl) hl.1 hR hS dX11_why_12 ⟨Nat.le_refl _, Nat.le_refl _⟩ (fun v4 I5 L6 hf H locs hR hS => ?_)
    refine lv_goto (tgt := 24) hC.1 hC.2.1 dX11_why_15 (by decide) ?_
    obtain ⟨h91, h90⟩ := Prod.mk.inj (Option.some.inj hf)
    obtain ⟨h92, h93⟩ := Prod.mk.inj h90
    subst h91
    subst h92
    subst h93
    exact x_iret hC hR hS dX11_why_24
set_option maxRecDepth 20000 in
theorem W_X11_paysOut_l56 {G : XG} {l : Launch} {kp : Bool} {p : Program} {e : Env} {s : State} {m : MethodId} {args : Array Value} {below : List Frame} {meth : Method} {c : Code} (hC : xC G p s m args meth c cX11_paysOut 4 RX11 none) (N : Nat) {rI : xTI} {rL : xTL} {x1 : Int32} {x2 : Int32} : ∀ (n : Nat) (x3 : Int32) (I : xTI) (L : xTL) , xlp (F_X11_paysOut_b56 N x1 x2 ) n (x3, I, L) = some (rI, rL) → ∀ (H : Heap) (locs : List Loc) (ls : Array Slot), xRep G kp I L H → xS G s.heap H locs → lv_has ls 4 [(0, .ref (xz G + 57)), (1, .int x1), (2, .int x2), (3, .int x3)] → W p l e (xrm 87 2078) s m args below meth c H locs 0 0 (xMQ G kp below args s none rI rL) (F0 m 56 ls []) := by
  intro n
  induction n with
  | zero =>
    intro x3 I L hf
    cases hf
  | succ n hk56 =>
    intro x3 I L hf H locs ls hR hS hl
    rw [xlp_s, E_X11_paysOut_b56] at hf
    unfold F_X11_paysOut_c56 at hf
    refine lv_iload_n hC.1 hC.2.1 dX11_paysOut_56 rfl (lv_at hl 3 rfl) ?_
    refine lv_bipush (v := 60) hC.1 hC.2.1 dX11_paysOut_57 (by decide) ?_
    refine x_ic_ge (tgt := 152) hC dX11_paysOut_59 (by decide) hf (fun hf => ?_) (fun hf => ?_)
    · obtain ⟨h91, h92⟩ := Prod.mk.inj (Option.some.inj hf)
      subst h91
      subst h92
      exact x_vret hC hR hS dX11_paysOut_152
    · refine lv_aload_n hC.1 hC.2.1 dX11_paysOut_62 rfl (lv_at hl 0 rfl) ?_
      refine lv_iload_n hC.1 hC.2.1 dX11_paysOut_63 rfl (lv_at hl 3 rfl) ?_
      refine x_cvi00 (rest := []) hC xy_X11_stands tw_1403 hf (fun _ h => M_X11_stands G l kp h) ⟨Nat.le_of_ble_eq_true rfl, Nat.le_of_ble_eq_true rfl⟩ (xce_57 G kp _ _) rfl rfl rfl (Nat.le_of_ble_eq_true rfl) hl.1 hR hS dX11_paysOut_64 ⟨Nat.le_refl _, Nat.le_refl _⟩ (fun v1 hf H locs hR hS => ?_)
      refine x_if_eq (tgt := 146) hC dX11_paysOut_67 (by decide) hf (fun hf => ?_) (fun hf => ?_)
      · refine x_iinc (d := 1) (lv' := fun y2 => [(3, .int y2), (0, .ref (xz G + 57)), (1, .int x1), (2, .int x2)]) (k := 3) hC hl dX11_paysOut_146 rfl (by decide) (Nat.le_of_ble_eq_true rfl) hf (fun _ => rfl) (fun y2 hf ls hl => ?_)
        refine lv_goto (tgt := 56) hC.1 hC.2.1 dX11_paysOut_149 (by decide) ?_
        exact hk56 y2 I L hf _ _ _ hR hS (lv_sub hl [1, 2, 3, 0] rfl)
      · refine lv_aload_n hC.1 hC.2.1 dX11_paysOut_70 rfl (lv_at hl 0 rfl) ?_
        refine lv_iload_n hC.1 hC.2.1 dX11_paysOut_71 rfl (lv_at hl 3 rfl) ?_
        refine lv_iconst (v := 3) hC.1 hC.2.1 dX11_paysOut_72 (by decide) ?_
        refine x_cvi00 (rest := []) hC xy_X11_bg tw_1383 hf (fun _ h => M_X11_bg G l kp h) ⟨Nat.le_of_ble_eq_true rfl, Nat.le_of_ble_eq_true rfl⟩ (xce_57 G kp _ _) rfl rfl rfl (Nat.le_of_ble_eq_true rfl) hl.1 hR hS dX11_paysOut_73 ⟨Nat.le_refl _, Nat.le_refl _⟩ (fun v3 hf H locs hR hS => ?_)
        refine lv_iload_n hC.1 hC.2.1 dX11_paysOut_76 rfl (lv_at hl 1 rfl) ?_
        refine x_ic_ne (tgt := 146) hC dX11_paysOut_77 (by decide) hf (fun hf => ?_) (fun hf => ?_)
        · refine x_iinc (d := 1) (lv' := fun y4 => [(3, .int y4), (0, .ref (xz G + 57)), (1, .int x1), (2, .int x2)]) (k := 3) hC hl dX11_paysOut_146 rfl (by decide) (Nat.le_of_ble_eq_true rfl) hf (fun _ => rfl) (fun y4 hf ls hl => ?_)
          refine lv_goto (tgt := 56) hC.1 hC.2.1 dX11_paysOut_149 (by decide) ?_
          exact hk56 y4 I L hf _ _ _ hR hS (lv_sub hl [1, 2, 3, 0] rfl)
        · refine lv_aload_n hC.1 hC.2.1 dX11_paysOut_80 rfl (lv_at hl 0 rfl) ?_
          refine lv_iload_n hC.1 hC.2.1 dX11_paysOut_81 rfl (lv_at hl 3 rfl) ?_
          refine lv_bipush (v := 6) hC.1 hC.2.1 dX11_paysOut_82 (by decide) ?_
          refine x_cvi00 (rest := []) hC xy_X11_bg tw_1383 hf (fun _ h => M_X11_bg G l kp h) ⟨Nat.le_of_ble_eq_true rfl, Nat.le_of_ble_eq_true rfl⟩ (xce_57 G kp _ _) rfl rfl rfl (Nat.le_of_ble_eq_true rfl) hl.1 hR hS dX11_paysOut_84 ⟨Nat.le_refl _, Nat.le_refl _⟩ (fun v5 hf H locs hR hS => ?_)
          refine lv_aload_n hC.1 hC.2.1 dX11_paysOut_87 rfl (lv_at hl 0 rfl) ?_
          refine x_get (v := .ref (xz G + 58)) hC xf_X11_14 (xce_57 G kp _ _) rfl hR dX11_paysOut_88 ?_
          refine lv_iconst (v := 0) hC.1 hC.2.1 dX11_paysOut_91 (by decide) ?_
          refine x_ial hC (xce_58 G kp _ _) hR dX11_paysOut_92 hf (fun v6 hf => ?_)
          refine x_ic_ge (tgt := 146) hC dX11_paysOut_93 (by decide) hf (fun hf => ?_) (fun hf => ?_)
          · refine x_iinc (d := 1) (lv' := fun y7 => [(3, .int y7), (0, .ref (xz G + 57)), (1, .int x1), (2, .int x2)]) (k := 3) hC hl dX11_paysOut_146 rfl (by decide) (Nat.le_of_ble_eq_true rfl) hf (fun _ => rfl) (fun y7 hf ls hl => ?_)
            refine lv_goto (tgt := 56) hC.1 hC.2.1 dX11_paysOut_149 (by decide) ?_
            exact hk56 y7 I L hf _ _ _ hR hS (lv_sub hl [1, 2, 3, 0] rfl)
          · refine lv_aload_n hC.1 hC.2.1 dX11_paysOut_96 rfl (lv_at hl 0 rfl) ?_
            refine lv_iconst (v := 5) hC.1 hC.2.1 dX11_paysOut_97 (by decide) ?_
            refine lv_bipush (v := 100) hC.1 hC.2.1 dX11_paysOut_98 (by decide) ?_
            refine lv_iload_n hC.1 hC.2.1 dX11_paysOut_100 rfl (lv_at hl 3 rfl) ?_
            refine lv_iadd hC.1 hC.2.1 dX11_paysOut_101 ?_
            refine lv_iconst (v := 1) hC.1 hC.2.1 dX11_paysOut_102 (by decide) ?_
            refine x_cvi11 (rest := []) hC xy_X11_ruled tw_1459 hf (fun _ _ _ h => M_X11_ruled G l kp N h) ⟨Nat.le_of_ble_eq_true rfl, Nat.le_of_ble_eq_true rfl⟩ (xce_57 G kp _ _) rfl rfl rfl (Nat.le_of_ble_eq_true rfl) hl.1 hR hS dX11_paysOut_103 ⟨Nat.le_refl _, Nat.le_refl _⟩ (fun v8 I9 L10 hf H locs hR hS => ?_)
            refine x_if_eq (tgt := 146) hC dX11_paysOut_106 (by decide) hf (fun hf => ?_) (fun hf => ?_)
            · refine x_iinc (d := 1) (lv' := fun y11 => [(3, .int y11), (0, .ref (xz G + 57)), (1, .int x1), (2, .int x2)]) (k := 3) hC hl dX11_paysOut_146 rfl (by decide) (Nat.le_of_ble_eq_true rfl) hf (fun _ => rfl) (fun y11 hf ls hl => ?_)
              refine lv_goto (tgt := 56) hC.1 hC.2.1 dX11_paysOut_149 (by decide) ?_
              exact hk56 y11 I9 L10 hf _ _ _ hR hS (lv_sub hl [1, 2, 3, 0] rfl)
            · refine lv_aload_n hC.1 hC.2.1 dX11_paysOut_109 rfl (lv_at hl 0 rfl) ?_
              refine x_get (v := .ref (xz G + 59)) hC xf_X11_18 (xce_57 G kp _ _) rfl hR dX11_paysOut_110 ?_
              refine lv_bipush (v := 24) hC.1 hC.2.1 dX11_paysOut_113 (by decide) ?_
              refine lv_bipush (v := 12) hC.1 hC.2.1 dX11_paysOut_115 (by decide) ?_
              refine lv_aload_n hC.1 hC.2.1 dX11_paysOut_117 rfl (lv_at hl 0 rfl) ?_
              refine lv_iload_n hC.1 hC.2.1 dX11_paysOut_118 rfl (lv_at hl 3 rfl) ?_
              refine lv_iconst (v := 1) hC.1 hC.2.1 dX11_paysOut_119 (by decide) ?_
              refine x_cvi00 (rest := [.int 12, .int 24, .ref (xz G + 59)]) hC xy_X11_bg tw_1383 hf (fun _ h => M_X11_bg G l kp h) ⟨Nat.le_of_ble_eq_true rfl, Nat.le_of_ble_eq_true rfl⟩ (xce_57 G kp _ _) rfl rfl rfl (Nat.le_of_ble_eq_true rfl) hl.1 hR hS dX11_paysOut_120 ⟨Nat.le_refl _, Nat.le_refl _⟩ (fun v12 hf H locs hR hS => ?_)
              refine lv_imul hC.1 hC.2.1 dX11_paysOut_123 ?_
              refine lv_iadd hC.1 hC.2.1 dX11_paysOut_124 ?_
              refine lv_aload_n hC.1 hC.2.1 dX11_paysOut_125 rfl (lv_at hl 0 rfl) ?_
              refine W.eq (g2 := F0 m 126 ls [.ref (xz G + 57), .int (24 + (12 * v12)), .ref (xz G + 59)]) rfl ?_
              refine lv_iload_n hC.1 hC.2.1 dX11_paysOut_126 rfl (lv_at hl 3 rfl) ?_
              refine lv_iconst (v := 2) hC.1 hC.2.1 dX11_paysOut_127 (by decide) ?_
              refine x_cvi00 (rest := [.int (24 + (12 * v12)), .ref (xz G + 59)]) hC xy_X11_bg tw_1383 hf (fun _ h => M_X11_bg G l kp h) ⟨Nat.le_of_ble_eq_true rfl, Nat.le_of_ble_eq_true rfl⟩ (xce_57 G kp _ _) rfl rfl rfl (Nat.le_of_ble_eq_true rfl) hl.1 hR hS dX11_paysOut_128 ⟨Nat.le_refl _, Nat.le_refl _⟩ (fun v13 hf H locs hR hS => ?_)
              refine lv_iadd hC.1 hC.2.1 dX11_paysOut_131 ?_
              refine lv_dup2_11 hC.1 hC.2.1 dX11_paysOut_132 rfl rfl ?_
              refine x_lal hC (xce_59 G kp _ _) hR dX11_paysOut_133 hf (fun v14 hf => ?_)
              refine lv_aload_n hC.1 hC.2.1 dX11_paysOut_134 rfl (lv_at hl 0 rfl) ?_
              refine lv_iload_n hC.1 hC.2.1 dX11_paysOut_135 rfl (lv_at hl 3 rfl) ?_
              refine lv_iconst (v := 4) hC.1 hC.2.1 dX11_paysOut_136 (by decide) ?_
              refine x_cvi00 (rest := [.long v14, .int ((24 + (12 * v12)) + v13), .ref (xz G + 59)]) hC xy_X11_bg tw_1383 hf (fun _ h => M_X11_bg G l kp h) ⟨Nat.le_of_ble_eq_true rfl, Nat.le_of_ble_eq_true rfl⟩ (xce_57 G kp _ _) rfl rfl rfl (Nat.le_of_ble_eq_true rfl) hl.1 hR hS dX11_paysOut_137 ⟨Nat.le_refl _, Nat.le_refl _⟩ (fun v15 hf H locs hR hS => ?_)
              refine lv_i2l hC.1 hC.2.1 dX11_paysOut_140 rfl ?_
              refine lv_iload_n hC.1 hC.2.1 dX11_paysOut_141 rfl (lv_at hl 2 rfl) ?_
              refine W.eq (g2 := F0 m 142 ls [.int x2, .long (v15.toInt64), .long v14, .int ((24 + (12 * v12)) + v13), .ref (xz G + 59)]) rfl ?_
              refine lv_i2l hC.1 hC.2.1 dX11_paysOut_142 rfl ?_
              refine lv_lmul hC.1 hC.2.1 dX11_paysOut_143 ?_
              refine lv_ladd hC.1 hC.2.1 dX11_paysOut_144 ?_
              refine x_las hC (fun f => (xce_59 G kp _ f)) hR hS dX11_paysOut_145 hf (fun L16 hf H locs hR hS => ?_)
              refine x_iinc (d := 1) (lv' := fun y17 => [(3, .int y17), (0, .ref (xz G + 57)), (1, .int x1), (2, .int x2)]) (k := 3) hC hl dX11_paysOut_146 rfl (by decide) (Nat.le_of_ble_eq_true rfl) hf (fun _ => rfl) (fun y17 hf ls hl => ?_)
              refine lv_goto (tgt := 56) hC.1 hC.2.1 dX11_paysOut_149 (by decide) ?_
              exact hk56 y17 I9 L16 hf _ _ _ hR hS (lv_sub hl [1, 2, 3, 0] rfl)
set_option maxRecDepth 20000 in
theorem W_X11_paysOut_l2 {G : XG} {l : Launch} {kp : Bool} {p : Program} {e : Env} {s : State} {m : MethodId} {args : Array Value} {below : List Frame} {meth : Method} {c : Code} (hC : xC G p s m args meth c cX11_paysOut 4 RX11 none) (N : Nat) {I : xTI} {rI : xTI} {rL : xTL} {x1 : Int32} {x2 : Int32} : ∀ (n : Nat) (x3 : Int32) (L : xTL) , xlp (F_X11_paysOut_b2 N I x1 x2 ) n (x3, L) = some (rI, rL) → ∀ (H : Heap) (locs : List Loc) (ls : Array Slot), xRep G kp I L H → xS G s.heap H locs → lv_has ls 4 [(0, .ref (xz G + 57)), (1, .int x1), (2, .int x2), (3, .int x3)] → W p l e (xrm 87 2078) s m args below meth c H locs 0 0 (xMQ G kp below args s none rI rL) (F0 m 2 ls []) := by
  intro n
  induction n with
  | zero =>
    intro x3 L hf
    cases hf
  | succ n hk2 =>
    intro x3 L hf H locs ls hR hS hl
    rw [xlp_s, E_X11_paysOut_b2] at hf
    unfold F_X11_paysOut_c2 at hf
    refine lv_iload_n hC.1 hC.2.1 dX11_paysOut_2 rfl (lv_at hl 3 rfl) ?_
    refine lv_aload_n hC.1 hC.2.1 dX11_paysOut_3 rfl (lv_at hl 0 rfl) ?_
    refine x_get (v := .ref (xz G + 58)) hC xf_X11_14 (xce_57 G kp _ _) rfl hR dX11_paysOut_4 ?_
    refine lv_iconst (v := 1) hC.1 hC.2.1 dX11_paysOut_7 (by decide) ?_
    refine x_ial hC (xce_58 G kp _ _) hR dX11_paysOut_8 hf (fun v1 hf => ?_)
    refine x_ic_ge (tgt := 54) hC dX11_paysOut_9 (by decide) hf (fun hf => ?_) (fun hf => ?_)
    · refine lv_iconst (v := 0) hC.1 hC.2.1 dX11_paysOut_54 (by decide) ?_
      refine lv_istore_n (lv' := [(3, .int 0), (0, .ref (xz G + 57)), (1, .int x1), (2, .int x2)]) hC.1 hC.2.1 dX11_paysOut_55 rfl hl (Nat.le_of_ble_eq_true rfl) rfl (fun ls hl => ?_)
      exact W_X11_paysOut_l56 hC N _ 0 I L hf _ _ _ hR hS (lv_sub hl [1, 2, 3, 0] rfl)
    · refine lv_aload_n hC.1 hC.2.1 dX11_paysOut_12 rfl (lv_at hl 0 rfl) ?_
      refine lv_iload_n hC.1 hC.2.1 dX11_paysOut_13 rfl (lv_at hl 3 rfl) ?_
      refine x_cvi00 (rest := []) hC xy_X11_isUp tw_1363 hf (fun _ h => M_X11_isUp G l kp h) ⟨Nat.le_of_ble_eq_true rfl, Nat.le_of_ble_eq_true rfl⟩ (xce_57 G kp _ _) rfl rfl rfl (Nat.le_of_ble_eq_true rfl) hl.1 hR hS dX11_paysOut_14 ⟨Nat.le_refl _, Nat.le_refl _⟩ (fun v2 hf H locs hR hS => ?_)
      refine x_if_eq (tgt := 48) hC dX11_paysOut_17 (by decide) hf (fun hf => ?_) (fun hf => ?_)
      · refine x_iinc (d := 1) (lv' := fun y3 => [(3, .int y3), (0, .ref (xz G + 57)), (1, .int x1), (2, .int x2)]) (k := 3) hC hl dX11_paysOut_48 rfl (by decide) (Nat.le_of_ble_eq_true rfl) hf (fun _ => rfl) (fun y3 hf ls hl => ?_)
        refine lv_goto (tgt := 2) hC.1 hC.2.1 dX11_paysOut_51 (by decide) ?_
        exact hk2 y3 L hf _ _ _ hR hS (lv_sub hl [1, 2, 3, 0] rfl)
      · refine lv_aload_n hC.1 hC.2.1 dX11_paysOut_20 rfl (lv_at hl 0 rfl) ?_
        refine x_get (v := .ref (xz G + 59)) hC xf_X11_18 (xce_57 G kp _ _) rfl hR dX11_paysOut_21 ?_
        refine lv_iconst (v := 0) hC.1 hC.2.1 dX11_paysOut_24 (by decide) ?_
        refine lv_iload_n hC.1 hC.2.1 dX11_paysOut_25 rfl (lv_at hl 3 rfl) ?_
        refine lv_iadd hC.1 hC.2.1 dX11_paysOut_26 ?_
        refine lv_dup2_11 hC.1 hC.2.1 dX11_paysOut_27 rfl rfl ?_
        refine x_lal hC (xce_59 G kp _ _) hR dX11_paysOut_28 hf (fun v4 hf => ?_)
        refine lv_aload_n hC.1 hC.2.1 dX11_paysOut_29 rfl (lv_at hl 0 rfl) ?_
        refine x_get (v := .ref (xz G + 58)) hC xf_X11_14 (xce_57 G kp _ _) rfl hR dX11_paysOut_30 ?_
        refine lv_bipush (v := 64) hC.1 hC.2.1 dX11_paysOut_33 (by decide) ?_
        refine lv_iconst (v := 5) hC.1 hC.2.1 dX11_paysOut_35 (by decide) ?_
        refine W.eq (g2 := F0 m 36 ls [.int 5, .int 64, .ref (xz G + 58), .long v4, .int (0 + x3), .ref (xz G + 59)]) rfl ?_
        refine lv_iload_n hC.1 hC.2.1 dX11_paysOut_36 rfl (lv_at hl 3 rfl) ?_
        refine lv_imul hC.1 hC.2.1 dX11_paysOut_37 ?_
        refine lv_iadd hC.1 hC.2.1 dX11_paysOut_38 ?_
        refine lv_iload_n hC.1 hC.2.1 dX11_paysOut_39 rfl (lv_at hl 1 rfl) ?_
        refine lv_iadd hC.1 hC.2.1 dX11_paysOut_40 ?_
        refine x_ial hC (xce_58 G kp _ _) hR dX11_paysOut_41 hf (fun v5 hf => ?_)
        refine lv_i2l hC.1 hC.2.1 dX11_paysOut_42 rfl ?_
        refine lv_iload_n hC.1 hC.2.1 dX11_paysOut_43 rfl (lv_at hl 2 rfl) ?_
        refine lv_i2l hC.1 hC.2.1 dX11_paysOut_44 rfl ?_
        refine lv_lmul hC.1 hC.2.1 dX11_paysOut_45 ?_
        refine lv_ladd hC.1 hC.2.1 dX11_paysOut_46 ?_
        refine x_las hC (fun f => (xce_59 G kp _ f)) hR hS dX11_paysOut_47 hf (fun L6 hf H locs hR hS => ?_)
        refine W.eq (g2 := F0 m 48 ls []) rfl ?_
        refine x_iinc (d := 1) (lv' := fun y7 => [(3, .int y7), (0, .ref (xz G + 57)), (1, .int x1), (2, .int x2)]) (k := 3) hC hl dX11_paysOut_48 rfl (by decide) (Nat.le_of_ble_eq_true rfl) hf (fun _ => rfl) (fun y7 hf ls hl => ?_)
        refine lv_goto (tgt := 2) hC.1 hC.2.1 dX11_paysOut_51 (by decide) ?_
        exact hk2 y7 L6 hf _ _ _ hR hS (lv_sub hl [1, 2, 3, 0] rfl)
set_option maxRecDepth 20000 in
theorem M_X11_paysOut (G : XG) (l : Launch) (kp : Bool) (N : Nat) {I : xTI} {L : xTL} {x1 : Int32} {x2 : Int32} {rI : xTI} {rL : xTL} (hf : F_X11_paysOut N I L x1 x2 = some (rI, rL)) : xMet G l yX11_paysOut cX11_paysOut 4 none 87 2078 kp [.ref (xz G + 57), .int x1, .int x2] I L none rI rL := by
  refine xMet.ofW (by decide +kernel) (Nat.le_of_ble_eq_true rfl) ?_
  intro p e s m args below meth c hC H locs ls hR hS hl
  replace hC : xC G p s m args meth c cX11_paysOut 4 RX11 none := hC
  replace hl : lv_has ls 4 [(0, .ref (xz G + 57)), (1, .int x1), (2, .int x2)] := hl
  unfold F_X11_paysOut at hf
  refine lv_iconst (v := 0) hC.1 hC.2.1 dX11_paysOut_0 (by decide) ?_
  refine lv_istore_n (lv' := [(3, .int 0), (0, .ref (xz G + 57)), (1, .int x1), (2, .int x2)]) hC.1 hC.2.1 dX11_paysOut_1 rfl hl (Nat.le_of_ble_eq_true rfl) rfl (fun ls hl => ?_)
  exact W_X11_paysOut_l2 hC N _ 0 L hf _ _ _ hR hS (lv_sub hl [1, 2, 3, 0] rfl)
set_option maxRecDepth 20000 in
theorem W_X11_marksUp_l17 {G : XG} {l : Launch} {kp : Bool} {p : Program} {e : Env} {s : State} {m : MethodId} {args : Array Value} {below : List Frame} {meth : Method} {c : Code} (hC : xC G p s m args meth c cX11_marksUp 5 RX11 none) (N : Nat) {I : xTI} {L : xTL} {rI : xTI} {x1 : Int32} {x2 : Int32} (k2 : Int32 × xTI → Option (xTI)) (hk2 : ∀ (x2 : Int32) (I : xTI) , k2 (x2, I) = some rI → ∀ (H : Heap) (locs : List Loc) (ls : Array Slot), xRep G kp I L H → xS G s.heap H locs → lv_has ls 5 [(0, .ref (xz G + 57)), (1, .int x1), (2, .int x2)] → W p l e (xrm 2 43) s m args below meth c H locs 0 0 (xMQ G kp below args s none rI L) (F0 m 2 ls [])) : ∀ (n : Nat) (x3 : Int32) (x4 : Int32) , xlp (F_X11_marksUp_b17 k2 N I x1 x2 ) n (x3, x4) = some rI → ∀ (H : Heap) (locs : List Loc) (ls : Array Slot), xRep G kp I L H → xS G s.heap H locs → lv_has ls 5 [(0, .ref (xz G + 57)), (1, .int x1), (2, .int x2), (3, .int x3), (4, .int x4)] → W p l e (xrm 2 43) s m args below meth c H locs 0 0 (xMQ G kp below args s none rI L) (F0 m 17 ls []) := by
  intro n
  induction n with
  | zero =>
    intro x3 x4 hf
    cases hf
  | succ n hk17 =>
    intro x3 x4 hf H locs ls hR hS hl
    rw [xlp_s, E_X11_marksUp_b17] at hf
    unfold F_X11_marksUp_c17 at hf
    refine lv_iload hC.1 hC.2.1 dX11_marksUp_17 (lv_at hl 4 rfl) ?_
    refine lv_bipush (v := 60) hC.1 hC.2.1 dX11_marksUp_19 (by decide) ?_
    refine x_ic_ge (tgt := 99) hC dX11_marksUp_21 (by decide) hf (fun hf => ?_) (fun hf => ?_)
    · refine lv_iload_n hC.1 hC.2.1 dX11_marksUp_99 rfl (lv_at hl 3 rfl) ?_
      refine lv_iconst (v := (-1)) hC.1 hC.2.1 dX11_marksUp_100 (by decide) ?_
      refine x_ic_eq (tgt := 120) hC dX11_marksUp_101 (by decide) hf (fun hf => ?_) (fun hf => ?_)
      · refine x_iinc (d := 1) (lv' := fun y1 => [(2, .int y1), (0, .ref (xz G + 57)), (1, .int x1), (3, .int x3), (4, .int x4)]) (k := 2) hC hl dX11_marksUp_120 rfl (by decide) (Nat.le_of_ble_eq_true rfl) hf (fun _ => rfl) (fun y1 hf ls hl => ?_)
        refine lv_goto (tgt := 2) hC.1 hC.2.1 dX11_marksUp_123 (by decide) ?_
        exact hk2 y1 I hf _ _ _ hR hS (lv_sub hl [1, 2, 0] rfl)
      · refine lv_aload_n hC.1 hC.2.1 dX11_marksUp_104 rfl (lv_at hl 0 rfl) ?_
        refine x_get (v := .ref (xz G + 58)) hC xf_X11_14 (xce_57 G kp _ _) rfl hR dX11_marksUp_105 ?_
        refine lv_sipush (v := 184) hC.1 hC.2.1 dX11_marksUp_108 (by decide) ?_
        refine lv_iload_n hC.1 hC.2.1 dX11_marksUp_111 rfl (lv_at hl 2 rfl) ?_
        refine lv_iadd hC.1 hC.2.1 dX11_marksUp_112 ?_
        refine lv_aload_n hC.1 hC.2.1 dX11_marksUp_113 rfl (lv_at hl 0 rfl) ?_
        refine lv_iload_n hC.1 hC.2.1 dX11_marksUp_114 rfl (lv_at hl 3 rfl) ?_
        refine lv_iconst (v := 5) hC.1 hC.2.1 dX11_marksUp_115 (by decide) ?_
        refine x_cvi00 (rest := [.int (184 + x2), .ref (xz G + 58)]) hC xy_X11_bg tw_1383 hf (fun _ h => M_X11_bg G l kp h) ⟨Nat.le_of_ble_eq_true rfl, Nat.le_of_ble_eq_true rfl⟩ (xce_57 G kp _ _) rfl rfl rfl (Nat.le_of_ble_eq_true rfl) hl.1 hR hS dX11_marksUp_116 ⟨Nat.le_refl _, Nat.le_refl _⟩ (fun v2 hf H locs hR hS => ?_)
        refine x_ias hC (fun f => (xce_58 G kp f _)) hR hS dX11_marksUp_119 hf (fun I3 hf H locs hR hS => ?_)
        refine x_iinc (d := 1) (lv' := fun y4 => [(2, .int y4), (0, .ref (xz G + 57)), (1, .int x1), (3, .int x3), (4, .int x4)]) (k := 2) hC hl dX11_marksUp_120 rfl (by decide) (Nat.le_of_ble_eq_true rfl) hf (fun _ => rfl) (fun y4 hf ls hl => ?_)
        refine W.eq (g2 := F0 m 123 ls []) rfl ?_
        refine lv_goto (tgt := 2) hC.1 hC.2.1 dX11_marksUp_123 (by decide) ?_
        exact hk2 y4 I3 hf _ _ _ hR hS (lv_sub hl [1, 2, 0] rfl)
    · refine lv_aload_n hC.1 hC.2.1 dX11_marksUp_24 rfl (lv_at hl 0 rfl) ?_
      refine lv_iload hC.1 hC.2.1 dX11_marksUp_25 (lv_at hl 4 rfl) ?_
      refine x_cvi00 (rest := []) hC xy_X11_stands tw_1403 hf (fun _ h => M_X11_stands G l kp h) ⟨Nat.le_of_ble_eq_true rfl, Nat.le_of_ble_eq_true rfl⟩ (xce_57 G kp _ _) rfl rfl rfl (Nat.le_of_ble_eq_true rfl) hl.1 hR hS dX11_marksUp_27 ⟨Nat.le_refl _, Nat.le_refl _⟩ (fun v5 hf H locs hR hS => ?_)
      refine x_if_eq (tgt := 93) hC dX11_marksUp_30 (by decide) hf (fun hf => ?_) (fun hf => ?_)
      · refine x_iinc (d := 1) (lv' := fun y6 => [(4, .int y6), (0, .ref (xz G + 57)), (1, .int x1), (2, .int x2), (3, .int x3)]) (k := 4) hC hl dX11_marksUp_93 rfl (by decide) (Nat.le_of_ble_eq_true rfl) hf (fun _ => rfl) (fun y6 hf ls hl => ?_)
        refine lv_goto (tgt := 17) hC.1 hC.2.1 dX11_marksUp_96 (by decide) ?_
        exact hk17 x3 y6 hf _ _ _ hR hS (lv_sub hl [1, 2, 3, 4, 0] rfl)
      · refine lv_aload_n hC.1 hC.2.1 dX11_marksUp_33 rfl (lv_at hl 0 rfl) ?_
        refine lv_iload hC.1 hC.2.1 dX11_marksUp_34 (lv_at hl 4 rfl) ?_
        refine lv_iconst (v := 3) hC.1 hC.2.1 dX11_marksUp_36 (by decide) ?_
        refine x_cvi00 (rest := []) hC xy_X11_bg tw_1383 hf (fun _ h => M_X11_bg G l kp h) ⟨Nat.le_of_ble_eq_true rfl, Nat.le_of_ble_eq_true rfl⟩ (xce_57 G kp _ _) rfl rfl rfl (Nat.le_of_ble_eq_true rfl) hl.1 hR hS dX11_marksUp_37 ⟨Nat.le_refl _, Nat.le_refl _⟩ (fun v7 hf H locs hR hS => ?_)
        refine lv_iload_n hC.1 hC.2.1 dX11_marksUp_40 rfl (lv_at hl 2 rfl) ?_
        refine x_ic_ne (tgt := 93) hC dX11_marksUp_41 (by decide) hf (fun hf => ?_) (fun hf => ?_)
        · refine x_iinc (d := 1) (lv' := fun y8 => [(4, .int y8), (0, .ref (xz G + 57)), (1, .int x1), (2, .int x2), (3, .int x3)]) (k := 4) hC hl dX11_marksUp_93 rfl (by decide) (Nat.le_of_ble_eq_true rfl) hf (fun _ => rfl) (fun y8 hf ls hl => ?_)
          refine lv_goto (tgt := 17) hC.1 hC.2.1 dX11_marksUp_96 (by decide) ?_
          exact hk17 x3 y8 hf _ _ _ hR hS (lv_sub hl [1, 2, 3, 4, 0] rfl)
        · refine lv_aload_n hC.1 hC.2.1 dX11_marksUp_44 rfl (lv_at hl 0 rfl) ?_
          refine lv_iload hC.1 hC.2.1 dX11_marksUp_45 (lv_at hl 4 rfl) ?_
          refine lv_bipush (v := 7) hC.1 hC.2.1 dX11_marksUp_47 (by decide) ?_
          refine x_cvi00 (rest := []) hC xy_X11_bg tw_1383 hf (fun _ h => M_X11_bg G l kp h) ⟨Nat.le_of_ble_eq_true rfl, Nat.le_of_ble_eq_true rfl⟩ (xce_57 G kp _ _) rfl rfl rfl (Nat.le_of_ble_eq_true rfl) hl.1 hR hS dX11_marksUp_49 ⟨Nat.le_refl _, Nat.le_refl _⟩ (fun v9 hf H locs hR hS => ?_)
          refine lv_iload_n hC.1 hC.2.1 dX11_marksUp_52 rfl (lv_at hl 1 rfl) ?_
          refine x_ic_ne (tgt := 93) hC dX11_marksUp_53 (by decide) hf (fun hf => ?_) (fun hf => ?_)
          · refine x_iinc (d := 1) (lv' := fun y10 => [(4, .int y10), (0, .ref (xz G + 57)), (1, .int x1), (2, .int x2), (3, .int x3)]) (k := 4) hC hl dX11_marksUp_93 rfl (by decide) (Nat.le_of_ble_eq_true rfl) hf (fun _ => rfl) (fun y10 hf ls hl => ?_)
            refine lv_goto (tgt := 17) hC.1 hC.2.1 dX11_marksUp_96 (by decide) ?_
            exact hk17 x3 y10 hf _ _ _ hR hS (lv_sub hl [1, 2, 3, 4, 0] rfl)
          · refine lv_aload_n hC.1 hC.2.1 dX11_marksUp_56 rfl (lv_at hl 0 rfl) ?_
            refine lv_iload hC.1 hC.2.1 dX11_marksUp_57 (lv_at hl 4 rfl) ?_
            refine lv_bipush (v := 11) hC.1 hC.2.1 dX11_marksUp_59 (by decide) ?_
            refine x_cvi00 (rest := []) hC xy_X11_bg tw_1383 hf (fun _ h => M_X11_bg G l kp h) ⟨Nat.le_of_ble_eq_true rfl, Nat.le_of_ble_eq_true rfl⟩ (xce_57 G kp _ _) rfl rfl rfl (Nat.le_of_ble_eq_true rfl) hl.1 hR hS dX11_marksUp_61 ⟨Nat.le_refl _, Nat.le_refl _⟩ (fun v11 hf H locs hR hS => ?_)
            refine x_if_ne (tgt := 93) hC dX11_marksUp_64 (by decide) hf (fun hf => ?_) (fun hf => ?_)
            · refine x_iinc (d := 1) (lv' := fun y12 => [(4, .int y12), (0, .ref (xz G + 57)), (1, .int x1), (2, .int x2), (3, .int x3)]) (k := 4) hC hl dX11_marksUp_93 rfl (by decide) (Nat.le_of_ble_eq_true rfl) hf (fun _ => rfl) (fun y12 hf ls hl => ?_)
              refine lv_goto (tgt := 17) hC.1 hC.2.1 dX11_marksUp_96 (by decide) ?_
              exact hk17 x3 y12 hf _ _ _ hR hS (lv_sub hl [1, 2, 3, 4, 0] rfl)
            · refine lv_iload_n hC.1 hC.2.1 dX11_marksUp_67 rfl (lv_at hl 3 rfl) ?_
              refine lv_iconst (v := (-1)) hC.1 hC.2.1 dX11_marksUp_68 (by decide) ?_
              refine x_ic_eq (tgt := 90) hC dX11_marksUp_69 (by decide) hf (fun hf => ?_) (fun hf => ?_)
              · refine lv_iload hC.1 hC.2.1 dX11_marksUp_90 (lv_at hl 4 rfl) ?_
                refine lv_istore_n (lv' := [(3, .int x4), (0, .ref (xz G + 57)), (1, .int x1), (2, .int x2), (4, .int x4)]) hC.1 hC.2.1 dX11_marksUp_92 rfl hl (Nat.le_of_ble_eq_true rfl) rfl (fun ls hl => ?_)
                refine x_iinc (d := 1) (lv' := fun y13 => [(4, .int y13), (3, .int x4), (0, .ref (xz G + 57)), (1, .int x1), (2, .int x2)]) (k := 4) hC hl dX11_marksUp_93 rfl (by decide) (Nat.le_of_ble_eq_true rfl) hf (fun _ => rfl) (fun y13 hf ls hl => ?_)
                refine lv_goto (tgt := 17) hC.1 hC.2.1 dX11_marksUp_96 (by decide) ?_
                exact hk17 x4 y13 hf _ _ _ hR hS (lv_sub hl [2, 3, 4, 1, 0] rfl)
              · refine lv_aload_n hC.1 hC.2.1 dX11_marksUp_72 rfl (lv_at hl 0 rfl) ?_
                refine lv_iload hC.1 hC.2.1 dX11_marksUp_73 (lv_at hl 4 rfl) ?_
                refine lv_bipush (v := 6) hC.1 hC.2.1 dX11_marksUp_75 (by decide) ?_
                refine x_cvi00 (rest := []) hC xy_X11_bg tw_1383 hf (fun _ h => M_X11_bg G l kp h) ⟨Nat.le_of_ble_eq_true rfl, Nat.le_of_ble_eq_true rfl⟩ (xce_57 G kp _ _) rfl rfl rfl (Nat.le_of_ble_eq_true rfl) hl.1 hR hS dX11_marksUp_77 ⟨Nat.le_refl _, Nat.le_refl _⟩ (fun v14 hf H locs hR hS => ?_)
                refine lv_aload_n hC.1 hC.2.1 dX11_marksUp_80 rfl (lv_at hl 0 rfl) ?_
                refine lv_iload_n hC.1 hC.2.1 dX11_marksUp_81 rfl (lv_at hl 3 rfl) ?_
                refine lv_bipush (v := 6) hC.1 hC.2.1 dX11_marksUp_82 (by decide) ?_
                refine x_cvi00 (rest := [.int v14]) hC xy_X11_bg tw_1383 hf (fun _ h => M_X11_bg G l kp h) ⟨Nat.le_of_ble_eq_true rfl, Nat.le_of_ble_eq_true rfl⟩ (xce_57 G kp _ _) rfl rfl rfl (Nat.le_of_ble_eq_true rfl) hl.1 hR hS dX11_marksUp_84 ⟨Nat.le_refl _, Nat.le_refl _⟩ (fun v15 hf H locs hR hS => ?_)
                refine x_ic_lt (tgt := 93) hC dX11_marksUp_87 (by decide) hf (fun hf => ?_) (fun hf => ?_)
                · refine x_iinc (d := 1) (lv' := fun y16 => [(4, .int y16), (0, .ref (xz G + 57)), (1, .int x1), (2, .int x2), (3, .int x3)]) (k := 4) hC hl dX11_marksUp_93 rfl (by decide) (Nat.le_of_ble_eq_true rfl) hf (fun _ => rfl) (fun y16 hf ls hl => ?_)
                  refine lv_goto (tgt := 17) hC.1 hC.2.1 dX11_marksUp_96 (by decide) ?_
                  exact hk17 x3 y16 hf _ _ _ hR hS (lv_sub hl [1, 2, 3, 4, 0] rfl)
                · refine lv_iload hC.1 hC.2.1 dX11_marksUp_90 (lv_at hl 4 rfl) ?_
                  refine lv_istore_n (lv' := [(3, .int x4), (0, .ref (xz G + 57)), (1, .int x1), (2, .int x2), (4, .int x4)]) hC.1 hC.2.1 dX11_marksUp_92 rfl hl (Nat.le_of_ble_eq_true rfl) rfl (fun ls hl => ?_)
                  refine x_iinc (d := 1) (lv' := fun y17 => [(4, .int y17), (3, .int x4), (0, .ref (xz G + 57)), (1, .int x1), (2, .int x2)]) (k := 4) hC hl dX11_marksUp_93 rfl (by decide) (Nat.le_of_ble_eq_true rfl) hf (fun _ => rfl) (fun y17 hf ls hl => ?_)
                  refine lv_goto (tgt := 17) hC.1 hC.2.1 dX11_marksUp_96 (by decide) ?_
                  exact hk17 x4 y17 hf _ _ _ hR hS (lv_sub hl [2, 3, 4, 1, 0] rfl)
set_option maxRecDepth 20000 in
theorem W_X11_marksUp_l2 {G : XG} {l : Launch} {kp : Bool} {p : Program} {e : Env} {s : State} {m : MethodId} {args : Array Value} {below : List Frame} {meth : Method} {c : Code} (hC : xC G p s m args meth c cX11_marksUp 5 RX11 none) (N : Nat) {L : xTL} {rI : xTI} {x1 : Int32} : ∀ (n : Nat) (x2 : Int32) (I : xTI) , xlp (F_X11_marksUp_b2 N x1 ) n (x2, I) = some rI → ∀ (H : Heap) (locs : List Loc) (ls : Array Slot), xRep G kp I L H → xS G s.heap H locs → lv_has ls 5 [(0, .ref (xz G + 57)), (1, .int x1), (2, .int x2)] → W p l e (xrm 2 43) s m args below meth c H locs 0 0 (xMQ G kp below args s none rI L) (F0 m 2 ls []) := by
  intro n
  induction n with
  | zero =>
    intro x2 I hf
    cases hf
  | succ n hk2 =>
    intro x2 I hf H locs ls hR hS hl
    rw [xlp_s, E_X11_marksUp_b2] at hf
    unfold F_X11_marksUp_c2 at hf
    refine lv_iload_n hC.1 hC.2.1 dX11_marksUp_2 rfl (lv_at hl 2 rfl) ?_
    refine lv_aload_n hC.1 hC.2.1 dX11_marksUp_3 rfl (lv_at hl 0 rfl) ?_
    refine x_get (v := .ref (xz G + 58)) hC xf_X11_14 (xce_57 G kp _ _) rfl hR dX11_marksUp_4 ?_
    refine lv_iconst (v := 2) hC.1 hC.2.1 dX11_marksUp_7 (by decide) ?_
    refine x_ial hC (xce_58 G kp _ _) hR dX11_marksUp_8 hf (fun v1 hf => ?_)
    refine x_ic_ge (tgt := 126) hC dX11_marksUp_9 (by decide) hf (fun hf => ?_) (fun hf => ?_)
    · have h9 := Option.some.inj hf
      subst h9
      exact x_vret hC hR hS dX11_marksUp_126
    · refine lv_iconst (v := (-1)) hC.1 hC.2.1 dX11_marksUp_12 (by decide) ?_
      refine x_istn (lv' := fun y2 => [(3, .int y2), (0, .ref (xz G + 57)), (1, .int x1), (2, .int x2)]) hC hl dX11_marksUp_13 rfl (Nat.le_of_ble_eq_true rfl) hf (fun _ => rfl) (fun y2 hf ls hl => ?_)
      refine lv_iconst (v := 0) hC.1 hC.2.1 dX11_marksUp_14 (by decide) ?_
      refine lv_istore (lv' := [(4, .int 0), (3, .int y2), (0, .ref (xz G + 57)), (1, .int x1), (2, .int x2)]) hC.1 hC.2.1 dX11_marksUp_15 hl (Nat.le_of_ble_eq_true rfl) rfl (fun ls hl => ?_)
      exact W_X11_marksUp_l17 hC N _ hk2 _ y2 0 hf _ _ _ hR hS (lv_sub hl [2, 3, 4, 1, 0] rfl)
set_option maxRecDepth 20000 in
theorem M_X11_marksUp (G : XG) (l : Launch) (kp : Bool) (N : Nat) {I : xTI} {L : xTL} {x1 : Int32} {rI : xTI} (hf : F_X11_marksUp N I x1 = some rI) : xMet G l yX11_marksUp cX11_marksUp 5 none 2 43 kp [.ref (xz G + 57), .int x1] I L none rI L := by
  refine xMet.ofW (by decide +kernel) (Nat.le_of_ble_eq_true rfl) ?_
  intro p e s m args below meth c hC H locs ls hR hS hl
  replace hC : xC G p s m args meth c cX11_marksUp 5 RX11 none := hC
  replace hl : lv_has ls 5 [(0, .ref (xz G + 57)), (1, .int x1)] := hl
  unfold F_X11_marksUp at hf
  refine lv_iconst (v := 0) hC.1 hC.2.1 dX11_marksUp_0 (by decide) ?_
  refine lv_istore_n (lv' := [(2, .int 0), (0, .ref (xz G + 57)), (1, .int x1)]) hC.1 hC.2.1 dX11_marksUp_1 rfl hl (Nat.le_of_ble_eq_true rfl) rfl (fun ls hl => ?_)
  exact W_X11_marksUp_l2 hC N _ 0 I hf _ _ _ hR hS (lv_sub hl [1, 2, 0] rfl)
set_option maxRecDepth 20000 in
theorem M_X11_waits (G : XG) (l : Launch) (kp : Bool) {I : xTI} {L : xTL} {x1 : Int32} {x2 : Int32} {x3 : Int32} {x4 : Int32} {x5 : Int32} {rI : xTI} (hf : F_X11_waits I x1 x2 x3 x4 x5 = some rI) : xMet G l yX11_waits cX11_waits 6 none 0 0 kp [.ref (xz G + 57), .int x1, .int x2, .int x3, .int x4, .int x5] I L none rI L := by
  refine xMet.ofW (by decide +kernel) (Nat.le_of_ble_eq_true rfl) ?_
  intro p e s m args below meth c hC H locs ls hR hS hl
  replace hC : xC G p s m args meth c cX11_waits 6 RX11 none := hC
  replace hl : lv_has ls 6 [(0, .ref (xz G + 57)), (1, .int x1), (2, .int x2), (3, .int x3), (4, .int x4), (5, .int x5)] := hl
  unfold F_X11_waits at hf
  refine lv_aload_n hC.1 hC.2.1 dX11_waits_0 rfl (lv_at hl 0 rfl) ?_
  refine x_get (v := .ref (xz G + 63)) hC xf_X11_31 (xce_57 G kp _ _) rfl hR dX11_waits_1 ?_
  refine lv_aload_n hC.1 hC.2.1 dX11_waits_4 rfl (lv_at hl 0 rfl) ?_
  refine x_getI hC xf_X11_339 (xce_57 G kp _ _) rfl hR dX11_waits_5 hf (fun v1 hf => ?_)
  refine lv_iload_n hC.1 hC.2.1 dX11_waits_8 rfl (lv_at hl 1 rfl) ?_
  refine x_ias hC (fun f => (xce_63 G kp f _)) hR hS dX11_waits_9 hf (fun I2 hf H locs hR hS => ?_)
  refine lv_aload_n hC.1 hC.2.1 dX11_waits_10 rfl (lv_at hl 0 rfl) ?_
  refine x_get (v := .ref (xz G + 64)) hC xf_X11_34 (xce_57 G kp _ _) rfl hR dX11_waits_11 ?_
  refine lv_aload_n hC.1 hC.2.1 dX11_waits_14 rfl (lv_at hl 0 rfl) ?_
  refine x_getI hC xf_X11_339 (xce_57 G kp _ _) rfl hR dX11_waits_15 hf (fun v3 hf => ?_)
  refine lv_iload_n hC.1 hC.2.1 dX11_waits_18 rfl (lv_at hl 2 rfl) ?_
  refine W.eq (g2 := F0 m 19 ls [.int x2, .int v3, .ref (xz G + 64)]) rfl ?_
  refine x_ias hC (fun f => (xce_64 G kp f _)) hR hS dX11_waits_19 hf (fun I4 hf H locs hR hS => ?_)
  refine lv_aload_n hC.1 hC.2.1 dX11_waits_20 rfl (lv_at hl 0 rfl) ?_
  refine x_get (v := .ref (xz G + 65)) hC xf_X11_37 (xce_57 G kp _ _) rfl hR dX11_waits_21 ?_
  refine lv_aload_n hC.1 hC.2.1 dX11_waits_24 rfl (lv_at hl 0 rfl) ?_
  refine x_getI hC xf_X11_339 (xce_57 G kp _ _) rfl hR dX11_waits_25 hf (fun v5 hf => ?_)
  refine lv_iload_n hC.1 hC.2.1 dX11_waits_28 rfl (lv_at hl 3 rfl) ?_
  refine x_ias hC (fun f => (xce_65 G kp f _)) hR hS dX11_waits_29 hf (fun I6 hf H locs hR hS => ?_)
  refine lv_aload_n hC.1 hC.2.1 dX11_waits_30 rfl (lv_at hl 0 rfl) ?_
  refine x_get (v := .ref (xz G + 66)) hC xf_X11_40 (xce_57 G kp _ _) rfl hR dX11_waits_31 ?_
  refine lv_aload_n hC.1 hC.2.1 dX11_waits_34 rfl (lv_at hl 0 rfl) ?_
  refine x_getI hC xf_X11_339 (xce_57 G kp _ _) rfl hR dX11_waits_35 hf (fun v7 hf => ?_)
  refine lv_iload hC.1 hC.2.1 dX11_waits_38 (lv_at hl 4 rfl) ?_
  refine W.eq (g2 := F0 m 40 ls [.int x4, .int v7, .ref (xz G + 66)]) rfl ?_
  refine x_ias hC (fun f => (xce_66 G kp f _)) hR hS dX11_waits_40 hf (fun I8 hf H locs hR hS => ?_)
  refine lv_aload_n hC.1 hC.2.1 dX11_waits_41 rfl (lv_at hl 0 rfl) ?_
  refine x_get (v := .ref (xz G + 67)) hC xf_X11_43 (xce_57 G kp _ _) rfl hR dX11_waits_42 ?_
  refine lv_aload_n hC.1 hC.2.1 dX11_waits_45 rfl (lv_at hl 0 rfl) ?_
  refine x_getI hC xf_X11_339 (xce_57 G kp _ _) rfl hR dX11_waits_46 hf (fun v9 hf => ?_)
  refine lv_iload hC.1 hC.2.1 dX11_waits_49 (lv_at hl 5 rfl) ?_
  refine x_ias hC (fun f => (xce_67 G kp f _)) hR hS dX11_waits_51 hf (fun I10 hf H locs hR hS => ?_)
  refine lv_aload_n hC.1 hC.2.1 dX11_waits_52 rfl (lv_at hl 0 rfl) ?_
  refine lv_dup hC.1 hC.2.1 dX11_waits_53 rfl ?_
  refine x_getI hC xf_X11_339 (xce_57 G kp _ _) rfl hR dX11_waits_54 hf (fun v11 hf => ?_)
  refine lv_iconst (v := 1) hC.1 hC.2.1 dX11_waits_57 (by decide) ?_
  refine lv_iadd hC.1 hC.2.1 dX11_waits_58 ?_
  refine W.eq (g2 := F0 m 59 ls [.int (v11 + 1), .ref (xz G + 57)]) rfl ?_
  refine x_putI hC xf_X11_339 xp_11_25 (fun f => (xce_57 G kp f _)) rfl (Nat.le_of_ble_eq_true rfl) hR hS dX11_waits_59 hf (fun I12 hf H locs hR hS => ?_)
  have h9 := Option.some.inj hf
  subst h9
  exact x_vret hC hR hS dX11_waits_62
set_option maxRecDepth 20000 in
theorem M_X11_delivers (G : XG) (l : Launch) (kp : Bool) {I : xTI} {L : xTL} {x1 : Int32} {x2 : Int32} {x3 : Int32} {rI : xTI} (hf : F_X11_delivers I x1 x2 x3 = some rI) : xMet G l yX11_delivers cX11_delivers 5 none 0 0 kp [.ref (xz G + 57), .int x1, .int x2, .int x3] I L none rI L := by
  refine xMet.ofW (by decide +kernel) (Nat.le_of_ble_eq_true rfl) ?_
  intro p e s m args below meth c hC H locs ls hR hS hl
  replace hC : xC G p s m args meth c cX11_delivers 5 RX11 none := hC
  replace hl : lv_has ls 5 [(0, .ref (xz G + 57)), (1, .int x1), (2, .int x2), (3, .int x3)] := hl
  unfold F_X11_delivers at hf
  refine lv_sipush (v := 4670) hC.1 hC.2.1 dX11_delivers_0 (by decide) ?_
  refine lv_bipush (v := 6) hC.1 hC.2.1 dX11_delivers_3 (by decide) ?_
  refine lv_aload_n hC.1 hC.2.1 dX11_delivers_5 rfl (lv_at hl 0 rfl) ?_
  refine x_get (v := .ref (xz G + 58)) hC xf_X11_14 (xce_57 G kp _ _) rfl hR dX11_delivers_6 ?_
  refine lv_bipush (v := 7) hC.1 hC.2.1 dX11_delivers_9 (by decide) ?_
  refine x_ial hC (xce_58 G kp _ _) hR dX11_delivers_11 hf (fun v1 hf => ?_)
  refine lv_imul hC.1 hC.2.1 dX11_delivers_12 ?_
  refine lv_iadd hC.1 hC.2.1 dX11_delivers_13 ?_
  refine x_ist (lv' := fun y2 => [(4, .int y2), (0, .ref (xz G + 57)), (1, .int x1), (2, .int x2), (3, .int x3)]) hC hl dX11_delivers_14 (Nat.le_of_ble_eq_true rfl) hf (fun _ => rfl) (fun y2 hf ls hl => ?_)
  refine lv_aload_n hC.1 hC.2.1 dX11_delivers_16 rfl (lv_at hl 1 rfl) ?_
  refine x_get (v := .ref (xz G + 58)) hC xf_X11_14 (xce_57 G kp _ _) rfl hR dX11_delivers_17 ?_
  refine W.eq (g2 := F0 m 20 ls [.ref (xz G + 58)]) rfl ?_
  refine lv_iload hC.1 hC.2.1 dX11_delivers_20 (lv_at hl 0 rfl) ?_
  refine lv_iload_n hC.1 hC.2.1 dX11_delivers_22 rfl (lv_at hl 2 rfl) ?_
  refine x_ias hC (fun f => (xce_58 G kp f _)) hR hS dX11_delivers_23 hf (fun I3 hf H locs hR hS => ?_)
  refine lv_aload_n hC.1 hC.2.1 dX11_delivers_24 rfl (lv_at hl 1 rfl) ?_
  refine x_get (v := .ref (xz G + 58)) hC xf_X11_14 (xce_57 G kp _ _) rfl hR dX11_delivers_25 ?_
  refine lv_iload hC.1 hC.2.1 dX11_delivers_28 (lv_at hl 0 rfl) ?_
  refine lv_iconst (v := 1) hC.1 hC.2.1 dX11_delivers_30 (by decide) ?_
  refine lv_iadd hC.1 hC.2.1 dX11_delivers_31 ?_
  refine lv_aload_n hC.1 hC.2.1 dX11_delivers_32 rfl (lv_at hl 1 rfl) ?_
  refine x_get (v := .ref (xz G + 64)) hC xf_X11_34 (xce_57 G kp _ _) rfl hR dX11_delivers_33 ?_
  refine lv_iload_n hC.1 hC.2.1 dX11_delivers_36 rfl (lv_at hl 3 rfl) ?_
  refine x_ial hC (xce_64 G kp _ _) hR dX11_delivers_37 hf (fun v4 hf => ?_)
  refine W.eq (g2 := F0 m 38 ls [.int v4, .int (y2 + 1), .ref (xz G + 58)]) rfl ?_
  refine x_ias hC (fun f => (xce_58 G kp f _)) hR hS dX11_delivers_38 hf (fun I5 hf H locs hR hS => ?_)
  refine lv_aload_n hC.1 hC.2.1 dX11_delivers_39 rfl (lv_at hl 1 rfl) ?_
  refine x_get (v := .ref (xz G + 58)) hC xf_X11_14 (xce_57 G kp _ _) rfl hR dX11_delivers_40 ?_
  refine lv_iload hC.1 hC.2.1 dX11_delivers_43 (lv_at hl 0 rfl) ?_
  refine lv_iconst (v := 2) hC.1 hC.2.1 dX11_delivers_45 (by decide) ?_
  refine lv_iadd hC.1 hC.2.1 dX11_delivers_46 ?_
  refine lv_aload_n hC.1 hC.2.1 dX11_delivers_47 rfl (lv_at hl 1 rfl) ?_
  refine x_get (v := .ref (xz G + 63)) hC xf_X11_31 (xce_57 G kp _ _) rfl hR dX11_delivers_48 ?_
  refine lv_iload_n hC.1 hC.2.1 dX11_delivers_51 rfl (lv_at hl 3 rfl) ?_
  refine x_ial hC (xce_63 G kp _ _) hR dX11_delivers_52 hf (fun v6 hf => ?_)
  refine x_ias hC (fun f => (xce_58 G kp f _)) hR hS dX11_delivers_53 hf (fun I7 hf H locs hR hS => ?_)
  refine lv_aload_n hC.1 hC.2.1 dX11_delivers_54 rfl (lv_at hl 1 rfl) ?_
  refine W.eq (g2 := F0 m 55 ls [.ref (xz G + 57)]) rfl ?_
  refine x_get (v := .ref (xz G + 58)) hC xf_X11_14 (xce_57 G kp _ _) rfl hR dX11_delivers_55 ?_
  refine lv_iload hC.1 hC.2.1 dX11_delivers_58 (lv_at hl 0 rfl) ?_
  refine lv_iconst (v := 3) hC.1 hC.2.1 dX11_delivers_60 (by decide) ?_
  refine lv_iadd hC.1 hC.2.1 dX11_delivers_61 ?_
  refine lv_iload_n hC.1 hC.2.1 dX11_delivers_62 rfl (lv_at hl 4 rfl) ?_
  refine x_ias hC (fun f => (xce_58 G kp f _)) hR hS dX11_delivers_63 hf (fun I8 hf H locs hR hS => ?_)
  refine lv_aload_n hC.1 hC.2.1 dX11_delivers_64 rfl (lv_at hl 1 rfl) ?_
  refine x_get (v := .ref (xz G + 58)) hC xf_X11_14 (xce_57 G kp _ _) rfl hR dX11_delivers_65 ?_
  refine lv_iload hC.1 hC.2.1 dX11_delivers_68 (lv_at hl 0 rfl) ?_
  refine lv_iconst (v := 4) hC.1 hC.2.1 dX11_delivers_70 (by decide) ?_
  refine lv_iadd hC.1 hC.2.1 dX11_delivers_71 ?_
  refine lv_aload_n hC.1 hC.2.1 dX11_delivers_72 rfl (lv_at hl 1 rfl) ?_
  refine W.eq (g2 := F0 m 73 ls [.ref (xz G + 57), .int (y2 + 4), .ref (xz G + 58)]) rfl ?_
  refine x_get (v := .ref (xz G + 66)) hC xf_X11_40 (xce_57 G kp _ _) rfl hR dX11_delivers_73 ?_
  refine lv_iload_n hC.1 hC.2.1 dX11_delivers_76 rfl (lv_at hl 3 rfl) ?_
  refine x_ial hC (xce_66 G kp _ _) hR dX11_delivers_77 hf (fun v9 hf => ?_)
  refine x_ias hC (fun f => (xce_58 G kp f _)) hR hS dX11_delivers_78 hf (fun I10 hf H locs hR hS => ?_)
  refine lv_aload_n hC.1 hC.2.1 dX11_delivers_79 rfl (lv_at hl 1 rfl) ?_
  refine x_get (v := .ref (xz G + 58)) hC xf_X11_14 (xce_57 G kp _ _) rfl hR dX11_delivers_80 ?_
  refine lv_iload hC.1 hC.2.1 dX11_delivers_83 (lv_at hl 0 rfl) ?_
  refine lv_iconst (v := 5) hC.1 hC.2.1 dX11_delivers_85 (by decide) ?_
  refine lv_iadd hC.1 hC.2.1 dX11_delivers_86 ?_
  refine lv_aload_n hC.1 hC.2.1 dX11_delivers_87 rfl (lv_at hl 1 rfl) ?_
  refine x_get (v := .ref (xz G + 67)) hC xf_X11_43 (xce_57 G kp _ _) rfl hR dX11_delivers_88 ?_
  refine lv_iload_n hC.1 hC.2.1 dX11_delivers_91 rfl (lv_at hl 3 rfl) ?_
  refine W.eq (g2 := F0 m 92 ls [.int x2, .ref (xz G + 67), .int (y2 + 5), .ref (xz G + 58)]) rfl ?_
  refine x_ial hC (xce_67 G kp _ _) hR dX11_delivers_92 hf (fun v11 hf => ?_)
  refine x_ias hC (fun f => (xce_58 G kp f _)) hR hS dX11_delivers_93 hf (fun I12 hf H locs hR hS => ?_)
  refine lv_aload_n hC.1 hC.2.1 dX11_delivers_94 rfl (lv_at hl 1 rfl) ?_
  refine x_get (v := .ref (xz G + 58)) hC xf_X11_14 (xce_57 G kp _ _) rfl hR dX11_delivers_95 ?_
  refine lv_bipush (v := 7) hC.1 hC.2.1 dX11_delivers_98 (by decide) ?_
  refine lv_dup2_11 hC.1 hC.2.1 dX11_delivers_100 rfl rfl ?_
  refine x_ial hC (xce_58 G kp _ _) hR dX11_delivers_101 hf (fun v13 hf => ?_)
  refine lv_iconst (v := 1) hC.1 hC.2.1 dX11_delivers_102 (by decide) ?_
  refine lv_iadd hC.1 hC.2.1 dX11_delivers_103 ?_
  refine x_ias hC (fun f => (xce_58 G kp f _)) hR hS dX11_delivers_104 hf (fun I14 hf H locs hR hS => ?_)
  have h9 := Option.some.inj hf
  subst h9
  exact x_vret hC hR hS dX11_delivers_105
set_option maxRecDepth 20000 in
theorem W_X11_passes_j111 {G : XG} {l : Launch} {kp : Bool} {p : Program} {e : Env} {s : State} {m : MethodId} {args : Array Value} {below : List Frame} {meth : Method} {c : Code} (hC : xC G p s m args meth c cX11_passes 8 RX11 none) {I : xTI} {L : xTL} {rI : xTI} {x2 : Int32} {x3 : Int32} {x4 : Int32} {x5 : Int32} {x6 : Int32} (hf : F_X11_passes_j111 I x2 x3 x4 x5 x6 = some rI) : ∀ (H : Heap) (locs : List Loc) (ls : Array Slot), xRep G kp I L H → xS G s.heap H locs → lv_has ls 8 [(0, .ref (xz G + 57)), (2, .int x2), (3, .int x3), (4, .int x4), (5, .int x5), (6, .int x6)] → W p l e (xrm 1 25) s m args below meth c H locs 0 0 (xMQ G kp below args s none rI L) (F0 m 111 ls []) := by
  intro H locs ls hR hS hl
  unfold F_X11_passes_j111 at hf
  refine lv_aload_n hC.1 hC.2.1 dX11_passes_111 rfl (lv_at hl 0 rfl) ?_
  refine x_get (v := .ref (xz G + 58)) hC xf_X11_14 (xce_57 G kp _ _) rfl hR dX11_passes_112 ?_
  refine lv_bipush (v := 6) hC.1 hC.2.1 dX11_passes_115 (by decide) ?_
  refine lv_dup2_11 hC.1 hC.2.1 dX11_passes_117 rfl rfl ?_
  refine x_ial hC (xce_58 G kp _ _) hR dX11_passes_118 hf (fun v1 hf => ?_)
  refine lv_iconst (v := 1) hC.1 hC.2.1 dX11_passes_119 (by decide) ?_
  refine lv_iadd hC.1 hC.2.1 dX11_passes_120 ?_
  refine x_ias hC (fun f => (xce_58 G kp f _)) hR hS dX11_passes_121 hf (fun I2 hf H locs hR hS => ?_)
  refine lv_aload_n hC.1 hC.2.1 dX11_passes_122 rfl (lv_at hl 0 rfl) ?_
  refine lv_aload_n hC.1 hC.2.1 dX11_passes_123 rfl (lv_at hl 0 rfl) ?_
  refine x_get (v := .ref (xz G + 63)) hC xf_X11_31 (xce_57 G kp _ _) rfl hR dX11_passes_124 ?_
  refine W.eq (g2 := F0 m 127 ls [.ref (xz G + 63), .ref (xz G + 57)]) rfl ?_
  refine lv_iload_n hC.1 hC.2.1 dX11_passes_127 rfl (lv_at hl 1 rfl) ?_
  refine x_ial hC (xce_63 G kp _ _) hR dX11_passes_128 hf (fun v3 hf => ?_)
  refine lv_iload_n hC.1 hC.2.1 dX11_passes_129 rfl (lv_at hl 2 rfl) ?_
  refine lv_iload hC.1 hC.2.1 dX11_passes_130 (lv_at hl 3 rfl) ?_
  refine lv_iload hC.1 hC.2.1 dX11_passes_132 (lv_at hl 4 rfl) ?_
  refine lv_iload hC.1 hC.2.1 dX11_passes_134 (lv_at hl 5 rfl) ?_
  refine x_cvv10 (rest := []) hC xy_X11_waits tw_1634 hf (fun _ h => M_X11_waits G l kp h) ⟨Nat.le_of_ble_eq_true rfl, Nat.le_of_ble_eq_true rfl⟩ (xce_57 G kp _ _) rfl rfl rfl (Nat.le_of_ble_eq_true rfl) hl.1 hR hS dX11_passes_136 ⟨Nat.le_refl _, Nat.le_refl _⟩ (fun I4 hf H locs hR hS => ?_)
  have h9 := Option.some.inj hf
  subst h9
  exact x_vret hC hR hS dX11_passes_139
set_option maxRecDepth 20000 in
theorem M_X11_passes (G : XG) (l : Launch) (kp : Bool) {I : xTI} {L : xTL} {x1 : Int32} {x2 : Int32} {x3 : Int32} {x4 : Int32} {x5 : Int32} {x6 : Int32} {rI : xTI} (hf : F_X11_passes I x1 x2 x3 x4 x5 x6 = some rI) : xMet G l yX11_passes cX11_passes 8 none 1 25 kp [.ref (xz G + 57), .int x1, .int x2, .int x3, .int x4, .int x5, .int x6] I L none rI L := by
  refine xMet.ofW (by decide +kernel) (Nat.le_of_ble_eq_true rfl) ?_
  intro p e s m args below meth c hC H locs ls hR hS hl
  replace hC : xC G p s m args meth c cX11_passes 8 RX11 none := hC
  replace hl : lv_has ls 8 [(0, .ref (xz G + 57)), (1, .int x1), (2, .int x2), (3, .int x3), (4, .int x4), (5, .int x5), (6, .int x6)] := hl
  unfold F_X11_passes at hf
  refine lv_aload_n hC.1 hC.2.1 dX11_passes_0 rfl (lv_at hl 0 rfl) ?_
  refine x_get (v := .ref (xz G + 58)) hC xf_X11_14 (xce_57 G kp _ _) rfl hR dX11_passes_1 ?_
  refine lv_bipush (v := 6) hC.1 hC.2.1 dX11_passes_4 (by decide) ?_
  refine x_ial hC (xce_58 G kp _ _) hR dX11_passes_6 hf (fun v1 hf => ?_)
  refine lv_sipush (v := 300) hC.1 hC.2.1 dX11_passes_7 (by decide) ?_
  refine x_ic_ge (tgt := 111) hC dX11_passes_10 (by decide) hf (fun hf => ?_) (fun hf => ?_)
  · exact W_X11_passes_j111 hC hf _ _ _ hR hS (lv_sub hl [0, 2, 3, 4, 5, 6] rfl)
  · refine lv_sipush (v := 2570) hC.1 hC.2.1 dX11_passes_13 (by decide) ?_
    refine lv_bipush (v := 7) hC.1 hC.2.1 dX11_passes_16 (by decide) ?_
    refine lv_aload_n hC.1 hC.2.1 dX11_passes_18 rfl (lv_at hl 0 rfl) ?_
    refine x_get (v := .ref (xz G + 58)) hC xf_X11_14 (xce_57 G kp _ _) rfl hR dX11_passes_19 ?_
    refine lv_bipush (v := 6) hC.1 hC.2.1 dX11_passes_22 (by decide) ?_
    refine x_ial hC (xce_58 G kp _ _) hR dX11_passes_24 hf (fun v2 hf => ?_)
    refine lv_imul hC.1 hC.2.1 dX11_passes_25 ?_
    refine lv_iadd hC.1 hC.2.1 dX11_passes_26 ?_
    refine x_ist (lv' := fun y3 => [(7, .int y3), (0, .ref (xz G + 57)), (1, .int x1), (2, .int x2), (3, .int x3), (4, .int x4), (5, .int x5), (6, .int x6)]) hC hl dX11_passes_27 (Nat.le_of_ble_eq_true rfl) hf (fun _ => rfl) (fun y3 hf ls hl => ?_)
    refine lv_aload_n hC.1 hC.2.1 dX11_passes_29 rfl (lv_at hl 1 rfl) ?_
    refine x_get (v := .ref (xz G + 58)) hC xf_X11_14 (xce_57 G kp _ _) rfl hR dX11_passes_30 ?_
    refine W.eq (g2 := F0 m 33 ls [.ref (xz G + 58)]) rfl ?_
    refine lv_iload hC.1 hC.2.1 dX11_passes_33 (lv_at hl 0 rfl) ?_
    refine lv_iload_n hC.1 hC.2.1 dX11_passes_35 rfl (lv_at hl 2 rfl) ?_
    refine x_ias hC (fun f => (xce_58 G kp f _)) hR hS dX11_passes_36 hf (fun I4 hf H locs hR hS => ?_)
    refine lv_aload_n hC.1 hC.2.1 dX11_passes_37 rfl (lv_at hl 1 rfl) ?_
    refine x_get (v := .ref (xz G + 58)) hC xf_X11_14 (xce_57 G kp _ _) rfl hR dX11_passes_38 ?_
    refine lv_iload hC.1 hC.2.1 dX11_passes_41 (lv_at hl 0 rfl) ?_
    refine lv_iconst (v := 1) hC.1 hC.2.1 dX11_passes_43 (by decide) ?_
    refine lv_iadd hC.1 hC.2.1 dX11_passes_44 ?_
    refine lv_aload_n hC.1 hC.2.1 dX11_passes_45 rfl (lv_at hl 1 rfl) ?_
    refine x_get (v := .ref (xz G + 64)) hC xf_X11_34 (xce_57 G kp _ _) rfl hR dX11_passes_46 ?_
    refine lv_iload_n hC.1 hC.2.1 dX11_passes_49 rfl (lv_at hl 3 rfl) ?_
    refine x_ial hC (xce_64 G kp _ _) hR dX11_passes_50 hf (fun v5 hf => ?_)
    refine W.eq (g2 := F0 m 51 ls [.int v5, .int (y3 + 1), .ref (xz G + 58)]) rfl ?_
    refine x_ias hC (fun f => (xce_58 G kp f _)) hR hS dX11_passes_51 hf (fun I6 hf H locs hR hS => ?_)
    refine lv_aload_n hC.1 hC.2.1 dX11_passes_52 rfl (lv_at hl 1 rfl) ?_
    refine x_get (v := .ref (xz G + 58)) hC xf_X11_14 (xce_57 G kp _ _) rfl hR dX11_passes_53 ?_
    refine lv_iload hC.1 hC.2.1 dX11_passes_56 (lv_at hl 0 rfl) ?_
    refine lv_iconst (v := 2) hC.1 hC.2.1 dX11_passes_58 (by decide) ?_
    refine lv_iadd hC.1 hC.2.1 dX11_passes_59 ?_
    refine lv_iload_n hC.1 hC.2.1 dX11_passes_60 rfl (lv_at hl 4 rfl) ?_
    refine x_ias hC (fun f => (xce_58 G kp f _)) hR hS dX11_passes_61 hf (fun I7 hf H locs hR hS => ?_)
    refine lv_aload_n hC.1 hC.2.1 dX11_passes_62 rfl (lv_at hl 1 rfl) ?_
    refine x_get (v := .ref (xz G + 58)) hC xf_X11_14 (xce_57 G kp _ _) rfl hR dX11_passes_63 ?_
    refine lv_iload hC.1 hC.2.1 dX11_passes_66 (lv_at hl 0 rfl) ?_
    refine lv_iconst (v := 3) hC.1 hC.2.1 dX11_passes_68 (by decide) ?_
    refine W.eq (g2 := F0 m 69 ls [.int 3, .int y3, .ref (xz G + 58)]) rfl ?_
    refine lv_iadd hC.1 hC.2.1 dX11_passes_69 ?_
    refine lv_aload_n hC.1 hC.2.1 dX11_passes_70 rfl (lv_at hl 1 rfl) ?_
    refine x_get (v := .ref (xz G + 63)) hC xf_X11_31 (xce_57 G kp _ _) rfl hR dX11_passes_71 ?_
    refine lv_iload_n hC.1 hC.2.1 dX11_passes_74 rfl (lv_at hl 3 rfl) ?_
    refine x_ial hC (xce_63 G kp _ _) hR dX11_passes_75 hf (fun v8 hf => ?_)
    refine x_ias hC (fun f => (xce_58 G kp f _)) hR hS dX11_passes_76 hf (fun I9 hf H locs hR hS => ?_)
    refine lv_aload_n hC.1 hC.2.1 dX11_passes_77 rfl (lv_at hl 1 rfl) ?_
    refine x_get (v := .ref (xz G + 58)) hC xf_X11_14 (xce_57 G kp _ _) rfl hR dX11_passes_78 ?_
    refine lv_iload hC.1 hC.2.1 dX11_passes_81 (lv_at hl 0 rfl) ?_
    refine lv_iconst (v := 4) hC.1 hC.2.1 dX11_passes_83 (by decide) ?_
    refine lv_iadd hC.1 hC.2.1 dX11_passes_84 ?_
    refine lv_iload hC.1 hC.2.1 dX11_passes_85 (lv_at hl 5 rfl) ?_
    refine W.eq (g2 := F0 m 87 ls [.int x4, .int (y3 + 4), .ref (xz G + 58)]) rfl ?_
    refine x_ias hC (fun f => (xce_58 G kp f _)) hR hS dX11_passes_87 hf (fun I10 hf H locs hR hS => ?_)
    refine lv_aload_n hC.1 hC.2.1 dX11_passes_88 rfl (lv_at hl 1 rfl) ?_
    refine x_get (v := .ref (xz G + 58)) hC xf_X11_14 (xce_57 G kp _ _) rfl hR dX11_passes_89 ?_
    refine lv_iload hC.1 hC.2.1 dX11_passes_92 (lv_at hl 0 rfl) ?_
    refine lv_iconst (v := 5) hC.1 hC.2.1 dX11_passes_94 (by decide) ?_
    refine lv_iadd hC.1 hC.2.1 dX11_passes_95 ?_
    refine lv_iload hC.1 hC.2.1 dX11_passes_96 (lv_at hl 6 rfl) ?_
    refine x_ias hC (fun f => (xce_58 G kp f _)) hR hS dX11_passes_98 hf (fun I11 hf H locs hR hS => ?_)
    refine lv_aload_n hC.1 hC.2.1 dX11_passes_99 rfl (lv_at hl 1 rfl) ?_
    refine x_get (v := .ref (xz G + 58)) hC xf_X11_14 (xce_57 G kp _ _) rfl hR dX11_passes_100 ?_
    refine lv_iload hC.1 hC.2.1 dX11_passes_103 (lv_at hl 0 rfl) ?_
    refine lv_bipush (v := 6) hC.1 hC.2.1 dX11_passes_105 (by decide) ?_
    refine W.eq (g2 := F0 m 107 ls [.int 6, .int y3, .ref (xz G + 58)]) rfl ?_
    refine lv_iadd hC.1 hC.2.1 dX11_passes_107 ?_
    refine lv_iload hC.1 hC.2.1 dX11_passes_108 (lv_at hl 7 rfl) ?_
    refine x_ias hC (fun f => (xce_58 G kp f _)) hR hS dX11_passes_110 hf (fun I12 hf H locs hR hS => ?_)
    exact W_X11_passes_j111 hC hf _ _ _ hR hS (lv_sub hl [1, 3, 4, 5, 6, 7] rfl)
