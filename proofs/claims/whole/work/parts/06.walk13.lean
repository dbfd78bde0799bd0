set_option maxRecDepth 20000 in
theorem M_X11_isBargain (G : XG) (l : Launch) (kp : Bool) {I : xTI} {L : xTL} {x1 : Int32} {r : Int32} (hf : F_X11_isBargain I x1 = some r) : xMet G l yX11_isBargain cX11_isBargain 2 (some .boolean) 1 22 kp [.ref (xz G + 57), .int x1] I L (some (.int r)) I L := by
  refine xMet.ofW (by decide +kernel) (Nat.le_of_ble_eq_true rfl) ?_
  intro p e s m args below meth c hC H locs ls hR hS hl
  replace hC : xC G p s m args meth c cX11_isBargain 2 RX11 (some .boolean) := hC
  replace hl : lv_has ls 2 [(0, .ref (xz G + 57)), (1, .int x1)] := hl
  unfold F_X11_isBargain at hf
  refine lv_iload_n hC.1 hC.2.1 dX11_isBargain_0 rfl (lv_at hl 1 rfl) ?_
  refine lv_iconst (v := 0) hC.1 hC.2.1 dX11_isBargain_1 (by decide) ?_
  refine lv_bipush (v := 59) hC.1 hC.2.1 dX11_isBargain_2 (by decide) ?_
  refine x_csi00 (rest := []) hC xy_X11_in tw_1335 hf (fun _ h => M_X11_in G l kp h) ⟨Nat.le_of_ble_eq_true rfl, Nat.le_of_ble_eq_true rfl⟩ rfl rfl (Nat.le_of_ble_eq_true rfl) hl.1 hR hS dX11_isBargain_4 ⟨Nat.le_refl _, Nat.le_refl _⟩ (fun v1 hf H locs hR hS => ?_)
  refine x_if_eq (tgt := 24) hC dX11_isBargain_7 (by decide) hf (fun hf => ?_) (fun hf => ?_)
  · refine lv_iconst (v := 0) hC.1 hC.2.1 dX11_isBargain_24 (by decide) ?_
    obtain ⟨h01, hf⟩ := xzc_some hf
    have h9 := Option.some.inj hf
    subst h9
    exact x_zret h01 hC hR hS dX11_isBargain_25
  · refine lv_aload_n hC.1 hC.2.1 dX11_isBargain_10 rfl (lv_at hl 0 rfl) ?_
    refine lv_iload_n hC.1 hC.2.1 dX11_isBargain_11 rfl (lv_at hl 1 rfl) ?_
    refine lv_iconst (v := 0) hC.1 hC.2.1 dX11_isBargain_12 (by decide) ?_
    refine x_cvi00 (rest := []) hC xy_X11_bg tw_1383 hf (fun _ h => M_X11_bg G l kp h) ⟨Nat.le_of_ble_eq_true rfl, Nat.le_of_ble_eq_true rfl⟩ (xce_57 G kp _ _) rfl rfl rfl (Nat.le_of_ble_eq_true rfl) hl.1 hR hS dX11_isBargain_13 ⟨Nat.le_refl _, Nat.le_refl _⟩ (fun v2 hf H locs hR hS => ?_)
    refine lv_iconst (v := 1) hC.1 hC.2.1 dX11_isBargain_16 (by decide) ?_
    refine x_ic_ne (tgt := 24) hC dX11_isBargain_17 (by decide) hf (fun hf => ?_) (fun hf => ?_)
    · refine lv_iconst (v := 0) hC.1 hC.2.1 dX11_isBargain_24 (by decide) ?_
      obtain ⟨h01, hf⟩ := xzc_some hf
      have h9 := Option.some.inj hf
      subst h9
      exact x_zret h01 hC hR hS dX11_isBargain_25
    · refine lv_iconst (v := 1) hC.1 hC.2.1 dX11_isBargain_20 (by decide) ?_
      refine lv_goto (tgt := 25) hC.1 hC.2.1 dX11_isBargain_21 (by decide) ?_
      obtain ⟨h01, hf⟩ := xzc_some hf
      have h9 := Option.some.inj hf
      subst h9
      exact x_zret h01 hC hR hS dX11_isBargain_25
set_option maxRecDepth 20000 in
theorem W_X11_mark_j16 {G : XG} {l : Launch} {kp : Bool} {p : Program} {e : Env} {s : State} {m : MethodId} {args : Array Value} {below : List Frame} {meth : Method} {c : Code} (hC : xC G p s m args meth c cX11_mark 4 RX11 (some .int)) {I : xTI} {L : xTL} {r : Int32} {rI : xTI} (hf : F_X11_mark_j16 I = some (r, rI)) : ∀ (H : Heap) (locs : List Loc) (ls : Array Slot), xRep G kp I L H → xS G s.heap H locs → lv_has ls 4 [(0, .ref (xz G + 57))] → W p l e (xrm 2 43) s m args below meth c H locs 0 0 (xMQ G kp below args s (some (.int r)) rI L) (F0 m 16 ls []) := by
  intro H locs ls hR hS hl
  unfold F_X11_mark_j16 at hf
  refine lv_aload_n hC.1 hC.2.1 dX11_mark_16 rfl (lv_at hl 0 rfl) ?_
  refine lv_bipush (v := (-3)) hC.1 hC.2.1 dX11_mark_17 (by decide) ?_
  refine x_cvi10 (rest := []) hC xy_X11_refuse tw_1338 hf (fun _ _ h => M_X11_refuse G l kp h) ⟨Nat.le_of_ble_eq_true rfl, Nat.le_of_ble_eq_true rfl⟩ (xce_57 G kp _ _) rfl rfl rfl (Nat.le_of_ble_eq_true rfl) hl.1 hR hS dX11_mark_19 ⟨Nat.le_refl _, Nat.le_refl _⟩ (fun v1 I2 hf H locs hR hS => ?_)
  obtain ⟨h91, h92⟩ := Prod.mk.inj (Option.some.inj hf)
  subst h91
  subst h92
  exact x_iret hC hR hS dX11_mark_22
set_option maxRecDepth 20000 in
theorem W_X11_mark_j97 {G : XG} {l : Launch} {kp : Bool} {p : Program} {e : Env} {s : State} {m : MethodId} {args : Array Value} {below : List Frame} {meth : Method} {c : Code} (hC : xC G p s m args meth c cX11_mark 4 RX11 (some .int)) {I : xTI} {L : xTL} {r : Int32} {rI : xTI} (hf : F_X11_mark_j97 I = some (r, rI)) : ∀ (H : Heap) (locs : List Loc) (ls : Array Slot), xRep G kp I L H → xS G s.heap H locs → lv_has ls 4 [(0, .ref (xz G + 57))] → W p l e (xrm 2 43) s m args below meth c H locs 0 0 (xMQ G kp below args s (some (.int r)) rI L) (F0 m 97 ls []) := by
  intro H locs ls hR hS hl
  unfold F_X11_mark_j97 at hf
  refine lv_aload_n hC.1 hC.2.1 dX11_mark_97 rfl (lv_at hl 0 rfl) ?_
  refine lv_bipush (v := (-7)) hC.1 hC.2.1 dX11_mark_98 (by decide) ?_
  refine x_cvi10 (rest := []) hC xy_X11_refuse tw_1338 hf (fun _ _ h => M_X11_refuse G l kp h) ⟨Nat.le_of_ble_eq_true rfl, Nat.le_of_ble_eq_true rfl⟩ (xce_57 G kp _ _) rfl rfl rfl (Nat.le_of_ble_eq_true rfl) hl.1 hR hS dX11_mark_100 ⟨Nat.le_refl _, Nat.le_refl _⟩ (fun v1 I2 hf H locs hR hS => ?_)
  obtain ⟨h91, h92⟩ := Prod.mk.inj (Option.some.inj hf)
  subst h91
  subst h92
  exact x_iret hC hR hS dX11_mark_103
set_option maxRecDepth 20000 in
theorem W_X11_mark_j75 {G : XG} {l : Launch} {kp : Bool} {p : Program} {e : Env} {s : State} {m : MethodId} {args : Array Value} {below : List Frame} {meth : Method} {c : Code} (hC : xC G p s m args meth c cX11_mark 4 RX11 (some .int)) {I : xTI} {L : xTL} {r : Int32} {rI : xTI} {x1 : Int32} {t0 : Int32} {t1 : Int32} (hf : F_X11_mark_j75 I x1 t0 t1 = some (r, rI)) : ∀ (H : Heap) (locs : List Loc) (ls : Array Slot), xRep G kp I L H → xS G s.heap H locs → lv_has ls 4 [(0, .ref (xz G + 57)), (1, .int x1)] → W p l e (xrm 2 43) s m args below meth c H locs 0 0 (xMQ G kp below args s (some (.int r)) rI L) (F0 m 75 ls [.int t1, .int t0]) := by
  intro H locs ls hR hS hl
  unfold F_X11_mark_j75 at hf
  refine lv_iadd hC.1 hC.2.1 dX11_mark_75 ?_
  refine x_istn (lv' := fun y1 => [(3, .int y1), (0, .ref (xz G + 57)), (1, .int x1)]) hC hl dX11_mark_76 rfl (Nat.le_of_ble_eq_true rfl) hf (fun _ => rfl) (fun y1 hf ls hl => ?_)
  refine lv_aload_n hC.1 hC.2.1 dX11_mark_77 rfl (lv_at hl 1 rfl) ?_
  refine lv_iload_n hC.1 hC.2.1 dX11_mark_78 rfl (lv_at hl 2 rfl) ?_
  refine lv_bipush (v := 8) hC.1 hC.2.1 dX11_mark_79 (by decide) ?_
  refine x_cvi00 (rest := []) hC xy_X11_bg tw_1383 hf (fun _ h => M_X11_bg G l kp h) ⟨Nat.le_of_ble_eq_true rfl, Nat.le_of_ble_eq_true rfl⟩ (xce_57 G kp _ _) rfl rfl rfl (Nat.le_of_ble_eq_true rfl) hl.1 hR hS dX11_mark_81 ⟨Nat.le_refl _, Nat.le_refl _⟩ (fun v2 hf H locs hR hS => ?_)
  refine x_if_ne (tgt := 97) hC dX11_mark_84 (by decide) hf (fun hf => ?_) (fun hf => ?_)
  · exact W_X11_mark_j97 hC hf _ _ _ hR hS (lv_sub hl [1] rfl)
  · refine lv_aload_n hC.1 hC.2.1 dX11_mark_87 rfl (lv_at hl 1 rfl) ?_
    refine x_get (v := .ref (xz G + 58)) hC xf_X11_14 (xce_57 G kp _ _) rfl hR dX11_mark_88 ?_
    refine lv_iload_n hC.1 hC.2.1 dX11_mark_91 rfl (lv_at hl 0 rfl) ?_
    refine x_ial hC (xce_58 G kp _ _) hR dX11_mark_92 hf (fun v3 hf => ?_)
    refine lv_iconst (v := (-1)) hC.1 hC.2.1 dX11_mark_93 (by decide) ?_
    refine x_ic_eq (tgt := 104) hC dX11_mark_94 (by decide) hf (fun hf => ?_) (fun hf => ?_)
    · refine lv_aload_n hC.1 hC.2.1 dX11_mark_104 rfl (lv_at hl 1 rfl) ?_
      refine x_get (v := .ref (xz G + 58)) hC xf_X11_14 (xce_57 G kp _ _) rfl hR dX11_mark_105 ?_
      refine lv_iload_n hC.1 hC.2.1 dX11_mark_108 rfl (lv_at hl 0 rfl) ?_
      refine lv_aload_n hC.1 hC.2.1 dX11_mark_109 rfl (lv_at hl 1 rfl) ?_
      refine x_get (v := .ref (xz G + 58)) hC xf_X11_14 (xce_57 G kp _ _) rfl hR dX11_mark_110 ?_
      refine lv_iconst (v := 0) hC.1 hC.2.1 dX11_mark_113 (by decide) ?_
      refine x_ial hC (xce_58 G kp _ _) hR dX11_mark_114 hf (fun v4 hf => ?_)
      refine x_ias hC (fun f => (xce_58 G kp f _)) hR hS dX11_mark_115 hf (fun I5 hf H locs hR hS => ?_)
      refine lv_aload_n hC.1 hC.2.1 dX11_mark_116 rfl (lv_at hl 1 rfl) ?_
      refine lv_iload_n hC.1 hC.2.1 dX11_mark_117 rfl (lv_at hl 2 rfl) ?_
      refine lv_bipush (v := 9) hC.1 hC.2.1 dX11_mark_118 (by decide) ?_
      refine W.eq (g2 := F0 m 120 ls [.int 9, .int x1, .ref (xz G + 57)]) rfl ?_
      refine x_cvi00 (rest := []) hC xy_X11_bg tw_1383 hf (fun _ h => M_X11_bg G l kp h) ⟨Nat.le_of_ble_eq_true rfl, Nat.le_of_ble_eq_true rfl⟩ (xce_57 G kp _ _) rfl rfl rfl (Nat.le_of_ble_eq_true rfl) hl.1 hR hS dX11_mark_120 ⟨Nat.le_refl _, Nat.le_refl _⟩ (fun v6 hf H locs hR hS => ?_)
      refine lv_iconst (v := (-1)) hC.1 hC.2.1 dX11_mark_123 (by decide) ?_
      refine x_ic_eq (tgt := 138) hC dX11_mark_124 (by decide) hf (fun hf => ?_) (fun hf => ?_)
      · refine lv_iconst (v := 0) hC.1 hC.2.1 dX11_mark_138 (by decide) ?_
        obtain ⟨h91, h92⟩ := Prod.mk.inj (Option.some.inj hf)
        subst h91
        subst h92
        exact x_iret hC hR hS dX11_mark_139
      · refine lv_aload_n hC.1 hC.2.1 dX11_mark_127 rfl (lv_at hl 1 rfl) ?_
        refine lv_iload_n hC.1 hC.2.1 dX11_mark_128 rfl (lv_at hl 2 rfl) ?_
        refine lv_bipush (v := 10) hC.1 hC.2.1 dX11_mark_129 (by decide) ?_
        refine x_cvi00 (rest := []) hC xy_X11_bg tw_1383 hf (fun _ h => M_X11_bg G l kp h) ⟨Nat.le_of_ble_eq_true rfl, Nat.le_of_ble_eq_true rfl⟩ (xce_57 G kp _ _) rfl rfl rfl (Nat.le_of_ble_eq_true rfl) hl.1 hR hS dX11_mark_131 ⟨Nat.le_refl _, Nat.le_refl _⟩ (fun v7 hf H locs hR hS => ?_)
        refine lv_iconst (v := (-1)) hC.1 hC.2.1 dX11_mark_134 (by decide) ?_
        refine x_ic_ne (tgt := 140) hC dX11_mark_135 (by decide) hf (fun hf => ?_) (fun hf => ?_)
        · refine lv_aload_n hC.1 hC.2.1 dX11_mark_140 rfl (lv_at hl 1 rfl) ?_
          refine x_get (v := .ref (xz G + 58)) hC xf_X11_14 (xce_57 G kp _ _) rfl hR dX11_mark_141 ?_
          refine lv_sipush (v := 192) hC.1 hC.2.1 dX11_mark_144 (by decide) ?_
          refine lv_bipush (v := 12) hC.1 hC.2.1 dX11_mark_147 (by decide) ?_
          refine lv_iload_n hC.1 hC.2.1 dX11_mark_149 rfl (lv_at hl 2 rfl) ?_
          refine lv_imul hC.1 hC.2.1 dX11_mark_150 ?_
          refine lv_iadd hC.1 hC.2.1 dX11_mark_151 ?_
          refine lv_bipush (v := 8) hC.1 hC.2.1 dX11_mark_152 (by decide) ?_
          refine lv_iadd hC.1 hC.2.1 dX11_mark_154 ?_
          refine lv_iconst (v := 1) hC.1 hC.2.1 dX11_mark_155 (by decide) ?_
          refine x_ias hC (fun f => (xce_58 G kp f _)) hR hS dX11_mark_156 hf (fun I8 hf H locs hR hS => ?_)
          refine W.eq (g2 := F0 m 157 ls []) rfl ?_
          refine lv_iconst (v := 1) hC.1 hC.2.1 dX11_mark_157 (by decide) ?_
          obtain ⟨h91, h92⟩ := Prod.mk.inj (Option.some.inj hf)
          subst h91
          subst h92
          exact x_iret hC hR hS dX11_mark_158
        · refine lv_iconst (v := 0) hC.1 hC.2.1 dX11_mark_138 (by decide) ?_
          obtain ⟨h91, h92⟩ := Prod.mk.inj (Option.some.inj hf)
          subst h91
          subst h92
          exact x_iret hC hR hS dX11_mark_139
    · exact W_X11_mark_j97 hC hf _ _ _ hR hS (lv_sub hl [1] rfl)
set_option maxRecDepth 20000 in
theorem W_X11_mark_j50 {G : XG} {l : Launch} {kp : Bool} {p : Program} {e : Env} {s : State} {m : MethodId} {args : Array Value} {below : List Frame} {meth : Method} {c : Code} (hC : xC G p s m args meth c cX11_mark 4 RX11 (some .int)) {I : xTI} {L : xTL} {r : Int32} {rI : xTI} {x1 : Int32} {x2 : Int32} (hf : F_X11_mark_j50 I x1 x2 = some (r, rI)) : ∀ (H : Heap) (locs : List Loc) (ls : Array Slot), xRep G kp I L H → xS G s.heap H locs → lv_has ls 4 [(0, .ref (xz G + 57)), (1, .int x1), (2, .int x2)] → W p l e (xrm 2 43) s m args below meth c H locs 0 0 (xMQ G kp below args s (some (.int r)) rI L) (F0 m 50 ls []) := by
  intro H locs ls hR hS hl
  unfold F_X11_mark_j50 at hf
  refine lv_sipush (v := 192) hC.1 hC.2.1 dX11_mark_50 (by decide) ?_
  refine lv_bipush (v := 12) hC.1 hC.2.1 dX11_mark_53 (by decide) ?_
  refine lv_iload_n hC.1 hC.2.1 dX11_mark_55 rfl (lv_at hl 1 rfl) ?_
  refine lv_imul hC.1 hC.2.1 dX11_mark_56 ?_
  refine lv_iadd hC.1 hC.2.1 dX11_mark_57 ?_
  refine lv_aload_n hC.1 hC.2.1 dX11_mark_58 rfl (lv_at hl 0 rfl) ?_
  refine lv_iload_n hC.1 hC.2.1 dX11_mark_59 rfl (lv_at hl 1 rfl) ?_
  refine lv_iconst (v := 1) hC.1 hC.2.1 dX11_mark_60 (by decide) ?_
  refine x_cvi00 (rest := [.int (192 + (12 * x1))]) hC xy_X11_bg tw_1383 hf (fun _ h => M_X11_bg G l kp h) ⟨Nat.le_of_ble_eq_true rfl, Nat.le_of_ble_eq_true rfl⟩ (xce_57 G kp _ _) rfl rfl rfl (Nat.le_of_ble_eq_true rfl) hl.1 hR hS dX11_mark_61 ⟨Nat.le_refl _, Nat.le_refl _⟩ (fun v1 hf H locs hR hS => ?_)
  refine lv_iload_n hC.1 hC.2.1 dX11_mark_64 rfl (lv_at hl 2 rfl) ?_
  refine x_ic_ne (tgt := 73) hC dX11_mark_65 (by decide) hf (fun hf => ?_) (fun hf => ?_)
  · refine lv_bipush (v := 10) hC.1 hC.2.1 dX11_mark_73 (by decide) ?_
    exact W_X11_mark_j75 hC hf _ _ _ hR hS (lv_sub hl [0, 1] rfl)
  · refine lv_bipush (v := 9) hC.1 hC.2.1 dX11_mark_68 (by decide) ?_
    refine lv_goto (tgt := 75) hC.1 hC.2.1 dX11_mark_70 (by decide) ?_
    exact W_X11_mark_j75 hC hf _ _ _ hR hS (lv_sub hl [0, 1] rfl)
set_option maxRecDepth 20000 in
theorem M_X11_mark (G : XG) (l : Launch) (kp : Bool) {I : xTI} {L : xTL} {x1 : Int32} {x2 : Int32} {r : Int32} {rI : xTI} (hf : F_X11_mark I x1 x2 = some (r, rI)) : xMet G l yX11_mark cX11_mark 4 (some .int) 2 43 kp [.ref (xz G + 57), .int x1, .int x2] I L (some (.int r)) rI L := by
  refine xMet.ofW (by decide +kernel) (Nat.le_of_ble_eq_true rfl) ?_
  intro p e s m args below meth c hC H locs ls hR hS hl
  replace hC : xC G p s m args meth c cX11_mark 4 RX11 (some .int) := hC
  replace hl : lv_has ls 4 [(0, .ref (xz G + 57)), (1, .int x1), (2, .int x2)] := hl
  unfold F_X11_mark at hf
  refine lv_aload_n hC.1 hC.2.1 dX11_mark_0 rfl (lv_at hl 0 rfl) ?_
  refine lv_iload_n hC.1 hC.2.1 dX11_mark_1 rfl (lv_at hl 1 rfl) ?_
  refine x_cvi00 (rest := []) hC xy_X11_isBargain tw_1439 hf (fun _ h => M_X11_isBargain G l kp h) ⟨Nat.le_of_ble_eq_true rfl, Nat.le_of_ble_eq_true rfl⟩ (xce_57 G kp _ _) rfl rfl rfl (Nat.le_of_ble_eq_true rfl) hl.1 hR hS dX11_mark_2 ⟨Nat.le_refl _, Nat.le_refl _⟩ (fun v1 hf H locs hR hS => ?_)
  refine x_if_eq (tgt := 16) hC dX11_mark_5 (by decide) hf (fun hf => ?_) (fun hf => ?_)
  · exact W_X11_mark_j16 hC hf _ _ _ hR hS (lv_sub hl [0] rfl)
  · refine lv_aload_n hC.1 hC.2.1 dX11_mark_8 rfl (lv_at hl 0 rfl) ?_
    refine lv_iload_n hC.1 hC.2.1 dX11_mark_9 rfl (lv_at hl 2 rfl) ?_
    refine x_cvi00 (rest := []) hC xy_X11_isMan tw_1355 hf (fun _ h => M_X11_isMan G l kp h) ⟨Nat.le_of_ble_eq_true rfl, Nat.le_of_ble_eq_true rfl⟩ (xce_57 G kp _ _) rfl rfl rfl (Nat.le_of_ble_eq_true rfl) hl.1 hR hS dX11_mark_10 ⟨Nat.le_refl _, Nat.le_refl _⟩ (fun v2 hf H locs hR hS => ?_)
    refine x_if_ne (tgt := 23) hC dX11_mark_13 (by decide) hf (fun hf => ?_) (fun hf => ?_)
    · refine lv_aload_n hC.1 hC.2.1 dX11_mark_23 rfl (lv_at hl 0 rfl) ?_
      refine lv_iload_n hC.1 hC.2.1 dX11_mark_24 rfl (lv_at hl 1 rfl) ?_
      refine lv_iconst (v := 1) hC.1 hC.2.1 dX11_mark_25 (by decide) ?_
      refine x_cvi00 (rest := []) hC xy_X11_bg tw_1383 hf (fun _ h => M_X11_bg G l kp h) ⟨Nat.le_of_ble_eq_true rfl, Nat.le_of_ble_eq_true rfl⟩ (xce_57 G kp _ _) rfl rfl rfl (Nat.le_of_ble_eq_true rfl) hl.1 hR hS dX11_mark_26 ⟨Nat.le_refl _, Nat.le_refl _⟩ (fun v3 hf H locs hR hS => ?_)
      refine lv_iload_n hC.1 hC.2.1 dX11_mark_29 rfl (lv_at hl 2 rfl) ?_
      refine x_ic_eq (tgt := 50) hC dX11_mark_30 (by decide) hf (fun hf => ?_) (fun hf => ?_)
      · exact W_X11_mark_j50 hC hf _ _ _ hR hS (lv_sub hl [0, 1, 2] rfl)
      · refine lv_aload_n hC.1 hC.2.1 dX11_mark_33 rfl (lv_at hl 0 rfl) ?_
        refine lv_iload_n hC.1 hC.2.1 dX11_mark_34 rfl (lv_at hl 1 rfl) ?_
        refine lv_iconst (v := 2) hC.1 hC.2.1 dX11_mark_35 (by decide) ?_
        refine x_cvi00 (rest := []) hC xy_X11_bg tw_1383 hf (fun _ h => M_X11_bg G l kp h) ⟨Nat.le_of_ble_eq_true rfl, Nat.le_of_ble_eq_true rfl⟩ (xce_57 G kp _ _) rfl rfl rfl (Nat.le_of_ble_eq_true rfl) hl.1 hR hS dX11_mark_36 ⟨Nat.le_refl _, Nat.le_refl _⟩ (fun v4 hf H locs hR hS => ?_)
        refine lv_iload_n hC.1 hC.2.1 dX11_mark_39 rfl (lv_at hl 2 rfl) ?_
        refine x_ic_eq (tgt := 50) hC dX11_mark_40 (by decide) hf (fun hf => ?_) (fun hf => ?_)
        · exact W_X11_mark_j50 hC hf _ _ _ hR hS (lv_sub hl [0, 1, 2] rfl)
        · refine lv_aload_n hC.1 hC.2.1 dX11_mark_43 rfl (lv_at hl 0 rfl) ?_
          refine lv_bipush (v := (-5)) hC.1 hC.2.1 dX11_mark_44 (by decide) ?_
          refine x_cvi10 (rest := []) hC xy_X11_refuse tw_1338 hf (fun _ _ h => M_X11_refuse G l kp h) ⟨Nat.le_of_ble_eq_true rfl, Nat.le_of_ble_eq_true rfl⟩ (xce_57 G kp _ _) rfl rfl rfl (Nat.le_of_ble_eq_true rfl) hl.1 hR hS dX11_mark_46 ⟨Nat.le_refl _, Nat.le_refl _⟩ (fun v5 I6 hf H locs hR hS => ?_)
          obtain ⟨h91, h92⟩ := Prod.mk.inj (Option.some.inj hf)
          subst h91
          subst h92
          exact x_iret hC hR hS dX11_mark_49
    · exact W_X11_mark_j16 hC hf _ _ _ hR hS (lv_sub hl [0] rfl)
set_option maxRecDepth 20000 in
theorem M_X11_clear (G : XG) (l : Launch) (kp : Bool) {I : xTI} {L : xTL} {x1 : Int32} {r : Int32} {rI : xTI} (hf : F_X11_clear I x1 = some (r, rI)) : xMet G l yX11_clear cX11_clear 2 (some .int) 2 43 kp [.ref (xz G + 57), .int x1] I L (some (.int r)) rI L := by
  refine xMet.ofW (by decide +kernel) (Nat.le_of_ble_eq_true rfl) ?_
  intro p e s m args below meth c hC H locs ls hR hS hl
  replace hC : xC G p s m args meth c cX11_clear 2 RX11 (some .int) := hC
  replace hl : lv_has ls 2 [(0, .ref (xz G + 57)), (1, .int x1)] := hl
  unfold F_X11_clear at hf
  refine lv_aload_n hC.1 hC.2.1 dX11_clear_0 rfl (lv_at hl 0 rfl) ?_
  refine lv_iload_n hC.1 hC.2.1 dX11_clear_1 rfl (lv_at hl 1 rfl) ?_
  refine x_cvi00 (rest := []) hC xy_X11_isBargain tw_1439 hf (fun _ h => M_X11_isBargain G l kp h) ⟨Nat.le_of_ble_eq_true rfl, Nat.le_of_ble_eq_true rfl⟩ (xce_57 G kp _ _) rfl rfl rfl (Nat.le_of_ble_eq_true rfl) hl.1 hR hS dX11_clear_2 ⟨Nat.le_refl _, Nat.le_refl _⟩ (fun v1 hf H locs hR hS => ?_)
  refine x_if_ne (tgt := 15) hC dX11_clear_5 (by decide) hf (fun hf => ?_) (fun hf => ?_)
  · refine lv_aload_n hC.1 hC.2.1 dX11_clear_15 rfl (lv_at hl 0 rfl) ?_
    refine lv_iload_n hC.1 hC.2.1 dX11_clear_16 rfl (lv_at hl 1 rfl) ?_
    refine x_cvi00 (rest := []) hC xy_X11_isLive tw_1379 hf (fun _ h => M_X11_isLive G l kp h) ⟨Nat.le_of_ble_eq_true rfl, Nat.le_of_ble_eq_true rfl⟩ (xce_57 G kp _ _) rfl rfl rfl (Nat.le_of_ble_eq_true rfl) hl.1 hR hS dX11_clear_17 ⟨Nat.le_refl _, Nat.le_refl _⟩ (fun v2 hf H locs hR hS => ?_)
    refine x_if_eq (tgt := 30) hC dX11_clear_20 (by decide) hf (fun hf => ?_) (fun hf => ?_)
    · refine lv_aload_n hC.1 hC.2.1 dX11_clear_30 rfl (lv_at hl 0 rfl) ?_
      refine x_get (v := .ref (xz G + 58)) hC xf_X11_14 (xce_57 G kp _ _) rfl hR dX11_clear_31 ?_
      refine lv_sipush (v := 192) hC.1 hC.2.1 dX11_clear_34 (by decide) ?_
      refine lv_bipush (v := 12) hC.1 hC.2.1 dX11_clear_37 (by decide) ?_
      refine lv_iload_n hC.1 hC.2.1 dX11_clear_39 rfl (lv_at hl 1 rfl) ?_
      refine lv_imul hC.1 hC.2.1 dX11_clear_40 ?_
      refine lv_iadd hC.1 hC.2.1 dX11_clear_41 ?_
      refine lv_iconst (v := 0) hC.1 hC.2.1 dX11_clear_42 (by decide) ?_
      refine x_ias hC (fun f => (xce_58 G kp f _)) hR hS dX11_clear_43 hf (fun I3 hf H locs hR hS => ?_)
      refine lv_aload_n hC.1 hC.2.1 dX11_clear_44 rfl (lv_at hl 0 rfl) ?_
      refine lv_iload_n hC.1 hC.2.1 dX11_clear_45 rfl (lv_at hl 1 rfl) ?_
      refine W.eq (g2 := F0 m 46 ls [.int x1, .ref (xz G + 57)]) rfl ?_
      refine lv_bipush (v := 8) hC.1 hC.2.1 dX11_clear_46 (by decide) ?_
      refine x_cvi00 (rest := []) hC xy_X11_bg tw_1383 hf (fun _ h => M_X11_bg G l kp h) ⟨Nat.le_of_ble_eq_true rfl, Nat.le_of_ble_eq_true rfl⟩ (xce_57 G kp _ _) rfl rfl rfl (Nat.le_of_ble_eq_true rfl) hl.1 hR hS dX11_clear_48 ⟨Nat.le_refl _, Nat.le_refl _⟩ (fun v4 hf H locs hR hS => ?_)
      obtain ⟨h91, h92⟩ := Prod.mk.inj (Option.some.inj hf)
      subst h91
      subst h92
      exact x_iret hC hR hS dX11_clear_51
    · refine lv_aload_n hC.1 hC.2.1 dX11_clear_23 rfl (lv_at hl 0 rfl) ?_
      refine lv_bipush (v := (-7)) hC.1 hC.2.1 dX11_clear_24 (by decide) ?_
      refine x_cvi10 (rest := []) hC xy_X11_refuse tw_1338 hf (fun _ _ h => M_X11_refuse G l kp h) ⟨Nat.le_of_ble_eq_true rfl, Nat.le_of_ble_eq_true rfl⟩ (xce_57 G kp _ _) rfl rfl rfl (Nat.le_of_ble_eq_true rfl) hl.1 hR hS dX11_clear_26 ⟨Nat.le_refl _, Nat.le_refl _⟩ (fun v5 I6 hf H locs hR hS => ?_)
      obtain ⟨h91, h92⟩ := Prod.mk.inj (Option.some.inj hf)
      subst h91
      subst h92
      exact x_iret hC hR hS dX11_clear_29
  · refine lv_aload_n hC.1 hC.2.1 dX11_clear_8 rfl (lv_at hl 0 rfl) ?_
    refine lv_bipush (v := (-3)) hC.1 hC.2.1 dX11_clear_9 (by decide) ?_
    refine x_cvi10 (rest := []) hC xy_X11_refuse tw_1338 hf (fun _ _ h => M_X11_refuse G l kp h) ⟨Nat.le_of_ble_eq_true rfl, Nat.le_of_ble_eq_true rfl⟩ (xce_57 G kp _ _) rfl rfl rfl (Nat.le_of_ble_eq_true rfl) hl.1 hR hS dX11_clear_11 ⟨Nat.le_refl _, Nat.le_refl _⟩ (fun v7 I8 hf H locs hR hS => ?_)
    obtain ⟨h91, h92⟩ := Prod.mk.inj (Option.some.inj hf)
    subst h91
    subst h92
    exact x_iret hC hR hS dX11_clear_14
set_option maxRecDepth 20000 in
theorem M_X11_of (G : XG) (l : Launch) (kp : Bool) {I : xTI} {L : xTL} {x1 : Int32} {x2 : Int32} {r : Int32} {rI : xTI} (hf : F_X11_of I x1 x2 = some (r, rI)) : xMet G l yX11_of cX11_of 3 (some .int) 2 43 kp [.ref (xz G + 57), .int x1, .int x2] I L (some (.int r)) rI L := by
  refine xMet.ofW (by decide +kernel) (Nat.le_of_ble_eq_true rfl) ?_
  intro p e s m args below meth c hC H locs ls hR hS hl
  replace hC : xC G p s m args meth c cX11_of 3 RX11 (some .int) := hC
  replace hl : lv_has ls 3 [(0, .ref (xz G + 57)), (1, .int x1), (2, .int x2)] := hl
  unfold F_X11_of at hf
  refine lv_aload_n hC.1 hC.2.1 dX11_of_0 rfl (lv_at hl 0 rfl) ?_
  refine lv_iload_n hC.1 hC.2.1 dX11_of_1 rfl (lv_at hl 1 rfl) ?_
  refine x_cvi00 (rest := []) hC xy_X11_isBargain tw_1439 hf (fun _ h => M_X11_isBargain G l kp h) ⟨Nat.le_of_ble_eq_true rfl, Nat.le_of_ble_eq_true rfl⟩ (xce_57 G kp _ _) rfl rfl rfl (Nat.le_of_ble_eq_true rfl) hl.1 hR hS dX11_of_2 ⟨Nat.le_refl _, Nat.le_refl _⟩ (fun v1 hf H locs hR hS => ?_)
  refine x_if_ne (tgt := 15) hC dX11_of_5 (by decide) hf (fun hf => ?_) (fun hf => ?_)
  · refine lv_iload_n hC.1 hC.2.1 dX11_of_15 rfl (lv_at hl 2 rfl) ?_
    refine lv_iconst (v := 0) hC.1 hC.2.1 dX11_of_16 (by decide) ?_
    refine lv_bipush (v := 10) hC.1 hC.2.1 dX11_of_17 (by decide) ?_
    refine x_csi00 (rest := []) hC xy_X11_in tw_1335 hf (fun _ h => M_X11_in G l kp h) ⟨Nat.le_of_ble_eq_true rfl, Nat.le_of_ble_eq_true rfl⟩ rfl rfl (Nat.le_of_ble_eq_true rfl) hl.1 hR hS dX11_of_19 ⟨Nat.le_refl _, Nat.le_refl _⟩ (fun v2 hf H locs hR hS => ?_)
    refine x_if_eq (tgt := 36) hC dX11_of_22 (by decide) hf (fun hf => ?_) (fun hf => ?_)
    · refine lv_aload_n hC.1 hC.2.1 dX11_of_36 rfl (lv_at hl 0 rfl) ?_
      refine lv_bipush (v := (-7)) hC.1 hC.2.1 dX11_of_37 (by decide) ?_
      refine x_cvi10 (rest := []) hC xy_X11_refuse tw_1338 hf (fun _ _ h => M_X11_refuse G l kp h) ⟨Nat.le_of_ble_eq_true rfl, Nat.le_of_ble_eq_true rfl⟩ (xce_57 G kp _ _) rfl rfl rfl (Nat.le_of_ble_eq_true rfl) hl.1 hR hS dX11_of_39 ⟨Nat.le_refl _, Nat.le_refl _⟩ (fun v3 I4 hf H locs hR hS => ?_)
      obtain ⟨h91, h92⟩ := Prod.mk.inj (Option.some.inj hf)
      subst h91
      subst h92
      exact x_iret hC hR hS dX11_of_42
    · refine lv_aload_n hC.1 hC.2.1 dX11_of_25 rfl (lv_at hl 0 rfl) ?_
      refine lv_iload_n hC.1 hC.2.1 dX11_of_26 rfl (lv_at hl 1 rfl) ?_
      refine lv_iconst (v := 1) hC.1 hC.2.1 dX11_of_27 (by decide) ?_
      refine lv_iload_n hC.1 hC.2.1 dX11_of_28 rfl (lv_at hl 2 rfl) ?_
      refine lv_iadd hC.1 hC.2.1 dX11_of_29 ?_
      refine x_cvi00 (rest := []) hC xy_X11_bg tw_1383 hf (fun _ h => M_X11_bg G l kp h) ⟨Nat.le_of_ble_eq_true rfl, Nat.le_of_ble_eq_true rfl⟩ (xce_57 G kp _ _) rfl rfl rfl (Nat.le_of_ble_eq_true rfl) hl.1 hR hS dX11_of_30 ⟨Nat.le_refl _, Nat.le_refl _⟩ (fun v5 hf H locs hR hS => ?_)
      refine lv_goto (tgt := 42) hC.1 hC.2.1 dX11_of_33 (by decide) ?_
      obtain ⟨h91, h92⟩ := Prod.mk.inj (Option.some.inj hf)
      subst h91
      subst h92
      exact x_iret hC hR hS dX11_of_42
  · refine lv_aload_n hC.1 hC.2.1 dX11_of_8 rfl (lv_at hl 0 rfl) ?_
    refine lv_bipush (v := (-3)) hC.1 hC.2.1 dX11_of_9 (by decide) ?_
    refine x_cvi10 (rest := []) hC xy_X11_refuse tw_1338 hf (fun _ _ h => M_X11_refuse G l kp h) ⟨Nat.le_of_ble_eq_true rfl, Nat.le_of_ble_eq_true rfl⟩ (xce_57 G kp _ _) rfl rfl rfl (Nat.le_of_ble_eq_true rfl) hl.1 hR hS dX11_of_11 ⟨Nat.le_refl _, Nat.le_refl _⟩ (fun v6 I7 hf H locs hR hS => ?_)
    obtain ⟨h91, h92⟩ := Prod.mk.inj (Option.some.inj hf)
    subst h91
    subst h92
    exact x_iret hC hR hS dX11_of_14
set_option maxRecDepth 20000 in
theorem W_X11_knew_j16 {G : XG} {l : Launch} {kp : Bool} {p : Program} {e : Env} {s : State} {m : MethodId} {args : Array Value} {below : List Frame} {meth : Method} {c : Code} (hC : xC G p s m args meth c cX11_knew 7 RX11 (some .int)) (N : Nat) {I : xTI} {L : xTL} {r : Int32} {rI : xTI} (hf : F_X11_knew_j16 N I = some (r, rI)) : ∀ (H : Heap) (locs : List Loc) (ls : Array Slot), xRep G kp I L H → xS G s.heap H locs → lv_has ls 7 [(0, .ref (xz G + 57))] → W p l e (xrm 2 43) s m args below meth c H locs 0 0 (xMQ G kp below args s (some (.int r)) rI L) (F0 m 16 ls []) := by
  intro H locs ls hR hS hl
  unfold F_X11_knew_j16 at hf
  refine lv_aload_n hC.1 hC.2.1 dX11_knew_16 rfl (lv_at hl 0 rfl) ?_
  refine lv_bipush (v := (-3)) hC.1 hC.2.1 dX11_knew_17 (by decide) ?_
  refine x_cvi10 (rest := []) hC xy_X11_hush tw_1391 hf (fun _ _ h => M_X11_hush G l kp h) ⟨Nat.le_of_ble_eq_true rfl, Nat.le_of_ble_eq_true rfl⟩ (xce_57 G kp _ _) rfl rfl rfl (Nat.le_of_ble_eq_true rfl) hl.1 hR hS dX11_knew_19 ⟨Nat.le_refl _, Nat.le_refl _⟩ (fun v1 I2 hf H locs hR hS => ?_)
  obtain ⟨h91, h92⟩ := Prod.mk.inj (Option.some.inj hf)
  subst h91
  subst h92
  exact x_iret hC hR hS dX11_knew_22
set_option maxRecDepth 20000 in
theorem W_X11_knew_j42 {G : XG} {l : Launch} {kp : Bool} {p : Program} {e : Env} {s : State} {m : MethodId} {args : Array Value} {below : List Frame} {meth : Method} {c : Code} (hC : xC G p s m args meth c cX11_knew 7 RX11 (some .int)) (N : Nat) {I : xTI} {L : xTL} {r : Int32} {rI : xTI} (hf : F_X11_knew_j42 N I = some (r, rI)) : ∀ (H : Heap) (locs : List Loc) (ls : Array Slot), xRep G kp I L H → xS G s.heap H locs → lv_has ls 7 [(0, .ref (xz G + 57))] → W p l e (xrm 2 43) s m args below meth c H locs 0 0 (xMQ G kp below args s (some (.int r)) rI L) (F0 m 42 ls []) := by
  intro H locs ls hR hS hl
  unfold F_X11_knew_j42 at hf
  refine lv_aload_n hC.1 hC.2.1 dX11_knew_42 rfl (lv_at hl 0 rfl) ?_
  refine lv_bipush (v := (-7)) hC.1 hC.2.1 dX11_knew_43 (by decide) ?_
  refine x_cvi10 (rest := []) hC xy_X11_hush tw_1391 hf (fun _ _ h => M_X11_hush G l kp h) ⟨Nat.le_of_ble_eq_true rfl, Nat.le_of_ble_eq_true rfl⟩ (xce_57 G kp _ _) rfl rfl rfl (Nat.le_of_ble_eq_true rfl) hl.1 hR hS dX11_knew_45 ⟨Nat.le_refl _, Nat.le_refl _⟩ (fun v1 I2 hf H locs hR hS => ?_)
  obtain ⟨h91, h92⟩ := Prod.mk.inj (Option.some.inj hf)
  subst h91
  subst h92
  exact x_iret hC hR hS dX11_knew_48
set_option maxRecDepth 20000 in
theorem W_X11_knew_j198 {G : XG} {l : Launch} {kp : Bool} {p : Program} {e : Env} {s : State} {m : MethodId} {args : Array Value} {below : List Frame} {meth : Method} {c : Code} (hC : xC G p s m args meth c cX11_knew 7 RX11 (some .int)) (N : Nat) {I : xTI} {L : xTL} {r : Int32} {rI : xTI} {x1 : Int32} {x2 : Int32} {x3 : Int32} {x4 : Int32} {x6 : Int32} {t0 : Int32} {t1 : Int32} (k55 : Int32 × Int32 → Option (Int32 × xTI)) (hk55 : ∀ (x5 : Int32) (x6 : Int32) , k55 (x5, x6) = some (r, rI) → ∀ (H : Heap) (locs : List Loc) (ls : Array Slot), xRep G kp I L H → xS G s.heap H locs → lv_has ls 7 [(0, .ref (xz G + 57)), (1, .int x1), (2, .int x2), (3, .int x3), (4, .int x4), (5, .int x5), (6, .int x6)] → W p l e (xrm 2 43) s m args below meth c H locs 0 0 (xMQ G kp below args s (some (.int r)) rI L) (F0 m 55 ls [])) (hf : F_X11_knew_j198 k55 N I x1 x2 x3 x4 x6 t0 t1 = some (r, rI)) : ∀ (H : Heap) (locs : List Loc) (ls : Array Slot), xRep G kp I L H → xS G s.heap H locs → lv_has ls 7 [(0, .ref (xz G + 57)), (1, .int x1), (2, .int x2), (3, .int x3), (4, .int x4), (6, .int x6)] → W p l e (xrm 2 43) s m args below meth c H locs 0 0 (xMQ G kp below args s (some (.int r)) rI L) (F0 m 198 ls [.int t1, .int t0]) := by
  intro H locs ls hR hS hl
  unfold F_X11_knew_j198 at hf
  refine lv_isub hC.1 hC.2.1 dX11_knew_198 ?_
  refine x_ist (lv' := fun y1 => [(5, .int y1), (0, .ref (xz G + 57)), (1, .int x1), (2, .int x2), (3, .int x3), (4, .int x4), (6, .int x6)]) hC hl dX11_knew_199 (Nat.le_of_ble_eq_true rfl) hf (fun _ => rfl) (fun y1 hf ls hl => ?_)
  refine x_iinc (d := 1) (lv' := fun y2 => [(6, .int y2), (5, .int y1), (0, .ref (xz G + 57)), (1, .int x1), (2, .int x2), (3, .int x3), (4, .int x4)]) (k := 6) hC hl dX11_knew_201 rfl (by decide) (Nat.le_of_ble_eq_true rfl) hf (fun _ => rfl) (fun y2 hf ls hl => ?_)
  refine lv_goto (tgt := 55) hC.1 hC.2.1 dX11_knew_204 (by decide) ?_
  exact hk55 y1 y2 hf _ _ _ hR hS (lv_sub hl [2, 3, 4, 5, 6, 1, 0] rfl)
set_option maxRecDepth 20000 in
theorem W_X11_knew_j171 {G : XG} {l : Launch} {kp : Bool} {p : Program} {e : Env} {s : State} {m : MethodId} {args : Array Value} {below : List Frame} {meth : Method} {c : Code} (hC : xC G p s m args meth c cX11_knew 7 RX11 (some .int)) (N : Nat) {I : xTI} {L : xTL} {r : Int32} {rI : xTI} {x1 : Int32} {x2 : Int32} {x3 : Int32} {x4 : Int32} {x6 : Int32} {t0 : Int32} {t1 : Int32} (k55 : Int32 × Int32 → Option (Int32 × xTI)) (hk55 : ∀ (x5 : Int32) (x6 : Int32) , k55 (x5, x6) = some (r, rI) → ∀ (H : Heap) (locs : List Loc) (ls : Array Slot), xRep G kp I L H → xS G s.heap H locs → lv_has ls 7 [(0, .ref (xz G + 57)), (1, .int x1), (2, .int x2), (3, .int x3), (4, .int x4), (5, .int x5), (6, .int x6)] → W p l e (xrm 2 43) s m args below meth c H locs 0 0 (xMQ G kp below args s (some (.int r)) rI L) (F0 m 55 ls [])) (hf : F_X11_knew_j171 k55 N I x1 x2 x3 x4 x6 t0 t1 = some (r, rI)) : ∀ (H : Heap) (locs : List Loc) (ls : Array Slot), xRep G kp I L H → xS G s.heap H locs → lv_has ls 7 [(0, .ref (xz G + 57)), (1, .int x1), (2, .int x2), (3, .int x3), (4, .int x4), (6, .int x6)] → W p l e (xrm 2 43) s m args below meth c H locs 0 0 (xMQ G kp below args s (some (.int r)) rI L) (F0 m 171 ls [.int t1, .int t0]) := by
  intro H locs ls hR hS hl
  unfold F_X11_knew_j171 at hf
  refine lv_iadd hC.1 hC.2.1 dX11_knew_171 ?_
  refine x_ist (lv' := fun y1 => [(5, .int y1), (0, .ref (xz G + 57)), (1, .int x1), (2, .int x2), (3, .int x3), (4, .int x4), (6, .int x6)]) hC hl dX11_knew_172 (Nat.le_of_ble_eq_true rfl) hf (fun _ => rfl) (fun y1 hf ls hl => ?_)
  refine lv_iload hC.1 hC.2.1 dX11_knew_174 (lv_at hl 0 rfl) ?_
  refine lv_aload_n hC.1 hC.2.1 dX11_knew_176 rfl (lv_at hl 1 rfl) ?_
  refine lv_iload hC.1 hC.2.1 dX11_knew_177 (lv_at hl 6 rfl) ?_
  refine lv_iconst (v := 1) hC.1 hC.2.1 dX11_knew_179 (by decide) ?_
  refine x_cvi00 (rest := [.int y1]) hC xy_X11_bg tw_1383 hf (fun _ h => M_X11_bg G l kp h) ⟨Nat.le_of_ble_eq_true rfl, Nat.le_of_ble_eq_true rfl⟩ (xce_57 G kp _ _) rfl rfl rfl (Nat.le_of_ble_eq_true rfl) hl.1 hR hS dX11_knew_180 ⟨Nat.le_refl _, Nat.le_refl _⟩ (fun v2 hf H locs hR hS => ?_)
  refine lv_iload_n hC.1 hC.2.1 dX11_knew_183 rfl (lv_at hl 2 rfl) ?_
  refine x_ic_ne (tgt := 197) hC dX11_knew_184 (by decide) hf (fun hf => ?_) (fun hf => ?_)
  · refine lv_iconst (v := 0) hC.1 hC.2.1 dX11_knew_197 (by decide) ?_
    exact W_X11_knew_j198 hC N _ hk55 hf _ _ _ hR hS (lv_sub hl [1, 2, 3, 4, 5, 6] rfl)
  · refine lv_aload_n hC.1 hC.2.1 dX11_knew_187 rfl (lv_at hl 1 rfl) ?_
    refine lv_iload hC.1 hC.2.1 dX11_knew_188 (lv_at hl 6 rfl) ?_
    refine lv_iconst (v := 4) hC.1 hC.2.1 dX11_knew_190 (by decide) ?_
    refine x_cvi00 (rest := [.int y1]) hC xy_X11_bg tw_1383 hf (fun _ h => M_X11_bg G l kp h) ⟨Nat.le_of_ble_eq_true rfl, Nat.le_of_ble_eq_true rfl⟩ (xce_57 G kp _ _) rfl rfl rfl (Nat.le_of_ble_eq_true rfl) hl.1 hR hS dX11_knew_191 ⟨Nat.le_refl _, Nat.le_refl _⟩ (fun v3 hf H locs hR hS => ?_)
    refine lv_goto (tgt := 198) hC.1 hC.2.1 dX11_knew_194 (by decide) ?_
    exact W_X11_knew_j198 hC N _ hk55 hf _ _ _ hR hS (lv_sub hl [1, 2, 3, 4, 5, 6] rfl)
set_option maxRecDepth 20000 in
theorem W_X11_knew_l55 {G : XG} {l : Launch} {kp : Bool} {p : Program} {e : Env} {s : State} {m : MethodId} {args : Array Value} {below : List Frame} {meth : Method} {c : Code} (hC : xC G p s m args meth c cX11_knew 7 RX11 (some .int)) (N : Nat) {I : xTI} {L : xTL} {r : Int32} {rI : xTI} {x1 : Int32} {x2 : Int32} {x3 : Int32} {x4 : Int32} : ∀ (n : Nat) (x5 : Int32) (x6 : Int32) , xlp (F_X11_knew_b55 N I x1 x2 x3 x4 ) n (x5, x6) = some (r, rI) → ∀ (H : Heap) (locs : List Loc) (ls : Array Slot), xRep G kp I L H → xS G s.heap H locs → lv_has ls 7 [(0, .ref (xz G + 57)), (1, .int x1), (2, .int x2), (3, .int x3), (4, .int x4), (5, .int x5), (6, .int x6)] → W p l e (xrm 2 43) s m args below meth c H locs 0 0 (xMQ G kp below args s (some (.int r)) rI L) (F0 m 55 ls []) := by
  intro n
  induction n with
  | zero =>
    intro x5 x6 hf
    cases hf
  | succ n hk55 =>
    intro x5 x6 hf H locs ls hR hS hl
    rw [xlp_s, E_X11_knew_b55] at hf
    unfold F_X11_knew_c55 at hf
    refine lv_iload hC.1 hC.2.1 dX11_knew_55 (lv_at hl 6 rfl) ?_
    refine lv_bipush (v := 60) hC.1 hC.2.1 dX11_knew_57 (by decide) ?_
    refine x_ic_ge (tgt := 207) hC dX11_knew_59 (by decide) hf (fun hf => ?_) (fun hf => ?_)
    · refine lv_iload hC.1 hC.2.1 dX11_knew_207 (lv_at hl 5 rfl) ?_
      obtain ⟨h91, h92⟩ := Prod.mk.inj (Option.some.inj hf)
      subst h91
      subst h92
      exact x_iret hC hR hS dX11_knew_209
    · refine lv_aload_n hC.1 hC.2.1 dX11_knew_62 rfl (lv_at hl 0 rfl) ?_
      refine lv_iload hC.1 hC.2.1 dX11_knew_63 (lv_at hl 6 rfl) ?_
      refine x_cvi00 (rest := []) hC xy_X11_isLive tw_1379 hf (fun _ h => M_X11_isLive G l kp h) ⟨Nat.le_of_ble_eq_true rfl, Nat.le_of_ble_eq_true rfl⟩ (xce_57 G kp _ _) rfl rfl rfl (Nat.le_of_ble_eq_true rfl) hl.1 hR hS dX11_knew_65 ⟨Nat.le_refl _, Nat.le_refl _⟩ (fun v1 hf H locs hR hS => ?_)
      refine x_if_eq (tgt := 201) hC dX11_knew_68 (by decide) hf (fun hf => ?_) (fun hf => ?_)
      · refine x_iinc (d := 1) (lv' := fun y2 => [(6, .int y2), (0, .ref (xz G + 57)), (1, .int x1), (2, .int x2), (3, .int x3), (4, .int x4), (5, .int x5)]) (k := 6) hC hl dX11_knew_201 rfl (by decide) (Nat.le_of_ble_eq_true rfl) hf (fun _ => rfl) (fun y2 hf ls hl => ?_)
        refine lv_goto (tgt := 55) hC.1 hC.2.1 dX11_knew_204 (by decide) ?_
        exact hk55 x5 y2 hf _ _ _ hR hS (lv_sub hl [1, 2, 3, 4, 5, 6, 0] rfl)
      · refine lv_aload_n hC.1 hC.2.1 dX11_knew_71 rfl (lv_at hl 0 rfl) ?_
        refine lv_iload hC.1 hC.2.1 dX11_knew_72 (lv_at hl 6 rfl) ?_
        refine lv_iconst (v := 3) hC.1 hC.2.1 dX11_knew_74 (by decide) ?_
        refine x_cvi00 (rest := []) hC xy_X11_bg tw_1383 hf (fun _ h => M_X11_bg G l kp h) ⟨Nat.le_of_ble_eq_true rfl, Nat.le_of_ble_eq_true rfl⟩ (xce_57 G kp _ _) rfl rfl rfl (Nat.le_of_ble_eq_true rfl) hl.1 hR hS dX11_knew_75 ⟨Nat.le_refl _, Nat.le_refl _⟩ (fun v3 hf H locs hR hS => ?_)
        refine lv_iload_n hC.1 hC.2.1 dX11_knew_78 rfl (lv_at hl 2 rfl) ?_
        refine x_ic_ne (tgt := 201) hC dX11_knew_79 (by decide) hf (fun hf => ?_) (fun hf => ?_)
        · refine x_iinc (d := 1) (lv' := fun y4 => [(6, .int y4), (0, .ref (xz G + 57)), (1, .int x1), (2, .int x2), (3, .int x3), (4, .int x4), (5, .int x5)]) (k := 6) hC hl dX11_knew_201 rfl (by decide) (Nat.le_of_ble_eq_true rfl) hf (fun _ => rfl) (fun y4 hf ls hl => ?_)
          refine lv_goto (tgt := 55) hC.1 hC.2.1 dX11_knew_204 (by decide) ?_
          exact hk55 x5 y4 hf _ _ _ hR hS (lv_sub hl [1, 2, 3, 4, 5, 6, 0] rfl)
        · refine lv_aload_n hC.1 hC.2.1 dX11_knew_82 rfl (lv_at hl 0 rfl) ?_
          refine lv_iload hC.1 hC.2.1 dX11_knew_83 (lv_at hl 6 rfl) ?_
          refine lv_bipush (v := 7) hC.1 hC.2.1 dX11_knew_85 (by decide) ?_
          refine x_cvi00 (rest := []) hC xy_X11_bg tw_1383 hf (fun _ h => M_X11_bg G l kp h) ⟨Nat.le_of_ble_eq_true rfl, Nat.le_of_ble_eq_true rfl⟩ (xce_57 G kp _ _) rfl rfl rfl (Nat.le_of_ble_eq_true rfl) hl.1 hR hS dX11_knew_87 ⟨Nat.le_refl _, Nat.le_refl _⟩ (fun v5 hf H locs hR hS => ?_)
          refine lv_iload_n hC.1 hC.2.1 dX11_knew_90 rfl (lv_at hl 3 rfl) ?_
          refine x_ic_ne (tgt := 201) hC dX11_knew_91 (by decide) hf (fun hf => ?_) (fun hf => ?_)
          · refine x_iinc (d := 1) (lv' := fun y6 => [(6, .int y6), (0, .ref (xz G + 57)), (1, .int x1), (2, .int x2), (3, .int x3), (4, .int x4), (5, .int x5)]) (k := 6) hC hl dX11_knew_201 rfl (by decide) (Nat.le_of_ble_eq_true rfl) hf (fun _ => rfl) (fun y6 hf ls hl => ?_)
            refine lv_goto (tgt := 55) hC.1 hC.2.1 dX11_knew_204 (by decide) ?_
            exact hk55 x5 y6 hf _ _ _ hR hS (lv_sub hl [1, 2, 3, 4, 5, 6, 0] rfl)
          · refine lv_aload_n hC.1 hC.2.1 dX11_knew_94 rfl (lv_at hl 0 rfl) ?_
            refine lv_iload hC.1 hC.2.1 dX11_knew_95 (lv_at hl 6 rfl) ?_
            refine lv_bipush (v := 9) hC.1 hC.2.1 dX11_knew_97 (by decide) ?_
            refine x_cvi00 (rest := []) hC xy_X11_bg tw_1383 hf (fun _ h => M_X11_bg G l kp h) ⟨Nat.le_of_ble_eq_true rfl, Nat.le_of_ble_eq_true rfl⟩ (xce_57 G kp _ _) rfl rfl rfl (Nat.le_of_ble_eq_true rfl) hl.1 hR hS dX11_knew_99 ⟨Nat.le_refl _, Nat.le_refl _⟩ (fun v7 hf H locs hR hS => ?_)
            refine lv_iconst (v := (-1)) hC.1 hC.2.1 dX11_knew_102 (by decide) ?_
            refine x_ic_eq (tgt := 201) hC dX11_knew_103 (by decide) hf (fun hf => ?_) (fun hf => ?_)
            · refine x_iinc (d := 1) (lv' := fun y8 => [(6, .int y8), (0, .ref (xz G + 57)), (1, .int x1), (2, .int x2), (3, .int x3), (4, .int x4), (5, .int x5)]) (k := 6) hC hl dX11_knew_201 rfl (by decide) (Nat.le_of_ble_eq_true rfl) hf (fun _ => rfl) (fun y8 hf ls hl => ?_)
              refine lv_goto (tgt := 55) hC.1 hC.2.1 dX11_knew_204 (by decide) ?_
              exact hk55 x5 y8 hf _ _ _ hR hS (lv_sub hl [1, 2, 3, 4, 5, 6, 0] rfl)
            · refine lv_aload_n hC.1 hC.2.1 dX11_knew_106 rfl (lv_at hl 0 rfl) ?_
              refine lv_iload hC.1 hC.2.1 dX11_knew_107 (lv_at hl 6 rfl) ?_
              refine lv_bipush (v := 9) hC.1 hC.2.1 dX11_knew_109 (by decide) ?_
              refine x_cvi00 (rest := []) hC xy_X11_bg tw_1383 hf (fun _ h => M_X11_bg G l kp h) ⟨Nat.le_of_ble_eq_true rfl, Nat.le_of_ble_eq_true rfl⟩ (xce_57 G kp _ _) rfl rfl rfl (Nat.le_of_ble_eq_true rfl) hl.1 hR hS dX11_knew_111 ⟨Nat.le_refl _, Nat.le_refl _⟩ (fun v9 hf H locs hR hS => ?_)
              refine lv_iload hC.1 hC.2.1 dX11_knew_114 (lv_at hl 4 rfl) ?_
              refine x_ic_gt (tgt := 201) hC dX11_knew_116 (by decide) hf (fun hf => ?_) (fun hf => ?_)
              · refine x_iinc (d := 1) (lv' := fun y10 => [(6, .int y10), (0, .ref (xz G + 57)), (1, .int x1), (2, .int x2), (3, .int x3), (4, .int x4), (5, .int x5)]) (k := 6) hC hl dX11_knew_201 rfl (by decide) (Nat.le_of_ble_eq_true rfl) hf (fun _ => rfl) (fun y10 hf ls hl => ?_)
                refine lv_goto (tgt := 55) hC.1 hC.2.1 dX11_knew_204 (by decide) ?_
                exact hk55 x5 y10 hf _ _ _ hR hS (lv_sub hl [1, 2, 3, 4, 5, 6, 0] rfl)
              · refine lv_aload_n hC.1 hC.2.1 dX11_knew_119 rfl (lv_at hl 0 rfl) ?_
                refine lv_iload hC.1 hC.2.1 dX11_knew_120 (lv_at hl 6 rfl) ?_
                refine lv_bipush (v := 10) hC.1 hC.2.1 dX11_knew_122 (by decide) ?_
                refine x_cvi00 (rest := []) hC xy_X11_bg tw_1383 hf (fun _ h => M_X11_bg G l kp h) ⟨Nat.le_of_ble_eq_true rfl, Nat.le_of_ble_eq_true rfl⟩ (xce_57 G kp _ _) rfl rfl rfl (Nat.le_of_ble_eq_true rfl) hl.1 hR hS dX11_knew_124 ⟨Nat.le_refl _, Nat.le_refl _⟩ (fun v11 hf H locs hR hS => ?_)
                refine lv_iconst (v := (-1)) hC.1 hC.2.1 dX11_knew_127 (by decide) ?_
                refine x_ic_eq (tgt := 201) hC dX11_knew_128 (by decide) hf (fun hf => ?_) (fun hf => ?_)
                · refine x_iinc (d := 1) (lv' := fun y12 => [(6, .int y12), (0, .ref (xz G + 57)), (1, .int x1), (2, .int x2), (3, .int x3), (4, .int x4), (5, .int x5)]) (k := 6) hC hl dX11_knew_201 rfl (by decide) (Nat.le_of_ble_eq_true rfl) hf (fun _ => rfl) (fun y12 hf ls hl => ?_)
                  refine lv_goto (tgt := 55) hC.1 hC.2.1 dX11_knew_204 (by decide) ?_
                  exact hk55 x5 y12 hf _ _ _ hR hS (lv_sub hl [1, 2, 3, 4, 5, 6, 0] rfl)
                · refine lv_aload_n hC.1 hC.2.1 dX11_knew_131 rfl (lv_at hl 0 rfl) ?_
                  refine lv_iload hC.1 hC.2.1 dX11_knew_132 (lv_at hl 6 rfl) ?_
                  refine lv_bipush (v := 10) hC.1 hC.2.1 dX11_knew_134 (by decide) ?_
                  refine x_cvi00 (rest := []) hC xy_X11_bg tw_1383 hf (fun _ h => M_X11_bg G l kp h) ⟨Nat.le_of_ble_eq_true rfl, Nat.le_of_ble_eq_true rfl⟩ (xce_57 G kp _ _) rfl rfl rfl (Nat.le_of_ble_eq_true rfl) hl.1 hR hS dX11_knew_136 ⟨Nat.le_refl _, Nat.le_refl _⟩ (fun v13 hf H locs hR hS => ?_)
                  refine lv_iload hC.1 hC.2.1 dX11_knew_139 (lv_at hl 4 rfl) ?_
                  refine x_ic_le (tgt := 147) hC dX11_knew_141 (by decide) hf (fun hf => ?_) (fun hf => ?_)
                  · refine lv_iload hC.1 hC.2.1 dX11_knew_147 (lv_at hl 5 rfl) ?_
                    refine lv_aload_n hC.1 hC.2.1 dX11_knew_149 rfl (lv_at hl 0 rfl) ?_
                    refine lv_iload hC.1 hC.2.1 dX11_knew_150 (lv_at hl 6 rfl) ?_
                    refine lv_iconst (v := 2) hC.1 hC.2.1 dX11_knew_152 (by decide) ?_
                    refine x_cvi00 (rest := [.int x5]) hC xy_X11_bg tw_1383 hf (fun _ h => M_X11_bg G l kp h) ⟨Nat.le_of_ble_eq_true rfl, Nat.le_of_ble_eq_true rfl⟩ (xce_57 G kp _ _) rfl rfl rfl (Nat.le_of_ble_eq_true rfl) hl.1 hR hS dX11_knew_153 ⟨Nat.le_refl _, Nat.le_refl _⟩ (fun v14 hf H locs hR hS => ?_)
                    refine lv_iload_n hC.1 hC.2.1 dX11_knew_156 rfl (lv_at hl 1 rfl) ?_
                    refine x_ic_ne (tgt := 170) hC dX11_knew_157 (by decide) hf (fun hf => ?_) (fun hf => ?_)
                    · refine lv_iconst (v := 0) hC.1 hC.2.1 dX11_knew_170 (by decide) ?_
                      exact W_X11_knew_j171 hC N _ hk55 hf _ _ _ hR hS (lv_sub hl [0, 1, 2, 3, 4, 6] rfl)
                    · refine lv_aload_n hC.1 hC.2.1 dX11_knew_160 rfl (lv_at hl 0 rfl) ?_
                      refine lv_iload hC.1 hC.2.1 dX11_knew_161 (lv_at hl 6 rfl) ?_
                      refine lv_iconst (v := 4) hC.1 hC.2.1 dX11_knew_163 (by decide) ?_
                      refine x_cvi00 (rest := [.int x5]) hC xy_X11_bg tw_1383 hf (fun _ h => M_X11_bg G l kp h) ⟨Nat.le_of_ble_eq_true rfl, Nat.le_of_ble_eq_true rfl⟩ (xce_57 G kp _ _) rfl rfl rfl (Nat.le_of_ble_eq_true rfl) hl.1 hR hS dX11_knew_164 ⟨Nat.le_refl _, Nat.le_refl _⟩ (fun v15 hf H locs hR hS => ?_)
                      refine lv_goto (tgt := 171) hC.1 hC.2.1 dX11_knew_167 (by decide) ?_
                      exact W_X11_knew_j171 hC N _ hk55 hf _ _ _ hR hS (lv_sub hl [0, 1, 2, 3, 4, 6] rfl)
                  · refine lv_goto (tgt := 201) hC.1 hC.2.1 dX11_knew_144 (by decide) ?_
                    refine x_iinc (d := 1) (lv' := fun y16 => [(6, .int y16), (0, .ref (xz G + 57)), (1, .int x1), (2, .int x2), (3, .int x3), (4, .int x4), (5, .int x5)]) (k := 6) hC hl dX11_knew_201 rfl (by decide) (Nat.le_of_ble_eq_true rfl) hf (fun _ => rfl) (fun y16 hf ls hl => ?_)
                    refine lv_goto (tgt := 55) hC.1 hC.2.1 dX11_knew_204 (by decide) ?_
                    exact hk55 x5 y16 hf _ _ _ hR hS (lv_sub hl [1, 2, 3, 4, 5, 6, 0] rfl)
set_option maxRecDepth 20000 in
theorem M_X11_knew (G : XG) (l : Launch) (kp : Bool) (N : Nat) {I : xTI} {L : xTL} {x1 : Int32} {x2 : Int32} {x3 : Int32} {x4 : Int32} {r : Int32} {rI : xTI} (hf : F_X11_knew N I x1 x2 x3 x4 = some (r, rI)) : xMet G l yX11_knew cX11_knew 7 (some .int) 2 43 kp [.ref (xz G + 57), .int x1, .int x2, .int x3, .int x4] I L (some (.int r)) rI L := by
  refine xMet.ofW (by decide +kernel) (Nat.le_of_ble_eq_true rfl) ?_
  intro p e s m args below meth c hC H locs ls hR hS hl
  replace hC : xC G p s m args meth c cX11_knew 7 RX11 (some .int) := hC
  replace hl : lv_has ls 7 [(0, .ref (xz G + 57)), (1, .int x1), (2, .int x2), (3, .int x3), (4, .int x4)] := hl
  unfold F_X11_knew at hf
  refine lv_aload_n hC.1 hC.2.1 dX11_knew_0 rfl (lv_at hl 0 rfl) ?_
  refine lv_iload_n hC.1 hC.2.1 dX11_knew_1 rfl (lv_at hl 1 rfl) ?_
  refine x_cvi00 (rest := []) hC xy_X11_isMan tw_1355 hf (fun _ h => M_X11_isMan G l kp h) ⟨Nat.le_of_ble_eq_true rfl, Nat.le_of_ble_eq_true rfl⟩ (xce_57 G kp _ _) rfl rfl rfl (Nat.le_of_ble_eq_true rfl) hl.1 hR hS dX11_knew_2 ⟨Nat.le_refl _, Nat.le_refl _⟩ (fun v1 hf H locs hR hS => ?_)
  refine x_if_eq (tgt := 16) hC dX11_knew_5 (by decide) hf (fun hf => ?_) (fun hf => ?_)
  · exact W_X11_knew_j16 hC N hf _ _ _ hR hS (lv_sub hl [0] rfl)
  · refine lv_aload_n hC.1 hC.2.1 dX11_knew_8 rfl (lv_at hl 0 rfl) ?_
    refine lv_iload_n hC.1 hC.2.1 dX11_knew_9 rfl (lv_at hl 2 rfl) ?_
    refine x_cvi00 (rest := []) hC xy_X11_isStock tw_1359 hf (fun _ h => M_X11_isStock G l kp h) ⟨Nat.le_of_ble_eq_true rfl, Nat.le_of_ble_eq_true rfl⟩ (xce_57 G kp _ _) rfl rfl rfl (Nat.le_of_ble_eq_true rfl) hl.1 hR hS dX11_knew_10 ⟨Nat.le_refl _, Nat.le_refl _⟩ (fun v2 hf H locs hR hS => ?_)
    refine x_if_ne (tgt := 23) hC dX11_knew_13 (by decide) hf (fun hf => ?_) (fun hf => ?_)
    · refine lv_iload_n hC.1 hC.2.1 dX11_knew_23 rfl (lv_at hl 3 rfl) ?_
      refine x_if_lt (tgt := 42) hC dX11_knew_24 (by decide) hf (fun hf => ?_) (fun hf => ?_)
      · exact W_X11_knew_j42 hC N hf _ _ _ hR hS (lv_sub hl [0] rfl)
      · refine lv_iload hC.1 hC.2.1 dX11_knew_27 (lv_at hl 4 rfl) ?_
        refine lv_iconst (v := 0) hC.1 hC.2.1 dX11_knew_29 (by decide) ?_
        refine lv_aload_n hC.1 hC.2.1 dX11_knew_30 rfl (lv_at hl 0 rfl) ?_
        refine x_get (v := .ref (xz G + 58)) hC xf_X11_14 (xce_57 G kp _ _) rfl hR dX11_knew_31 ?_
        refine lv_iconst (v := 0) hC.1 hC.2.1 dX11_knew_34 (by decide) ?_
        refine x_ial hC (xce_58 G kp _ _) hR dX11_knew_35 hf (fun v3 hf => ?_)
        refine x_csi00 (rest := []) hC xy_X11_in tw_1335 hf (fun _ h => M_X11_in G l kp h) ⟨Nat.le_of_ble_eq_true rfl, Nat.le_of_ble_eq_true rfl⟩ rfl rfl (Nat.le_of_ble_eq_true rfl) hl.1 hR hS dX11_knew_36 ⟨Nat.le_refl _, Nat.le_refl _⟩ (fun v4 hf H locs hR hS => ?_)
        refine x_if_ne (tgt := 49) hC dX11_knew_39 (by decide) hf (fun hf => ?_) (fun hf => ?_)
        · refine lv_iconst (v := 0) hC.1 hC.2.1 dX11_knew_49 (by decide) ?_
          refine lv_istore (lv' := [(5, .int 0), (0, .ref (xz G + 57)), (1, .int x1), (2, .int x2), (3, .int x3), (4, .int x4)]) hC.1 hC.2.1 dX11_knew_50 hl (Nat.le_of_ble_eq_true rfl) rfl (fun ls hl => ?_)
          refine lv_iconst (v := 0) hC.1 hC.2.1 dX11_knew_52 (by decide) ?_
          refine lv_istore (lv' := [(6, .int 0), (5, .int 0), (0, .ref (xz G + 57)), (1, .int x1), (2, .int x2), (3, .int x3), (4, .int x4)]) hC.1 hC.2.1 dX11_knew_53 hl (Nat.le_of_ble_eq_true rfl) rfl (fun ls hl => ?_)
          exact W_X11_knew_l55 hC N _ 0 0 hf _ _ _ hR hS (lv_sub hl [2, 3, 4, 5, 6, 1, 0] rfl)
        · exact W_X11_knew_j42 hC N hf _ _ _ hR hS (lv_sub hl [0] rfl)
    · exact W_X11_knew_j16 hC N hf _ _ _ hR hS (lv_sub hl [0] rfl)
set_option maxRecDepth 20000 in
theorem M_X11_byteAt (G : XG) (l : Launch) (kp : Bool) {I : xTI} {L : xTL} {x1 : Int32} {r : Int32} (hf : F_X11_byteAt I x1 = some r) : xMet G l yX11_byteAt cX11_byteAt 2 (some .int) 0 0 kp [.ref (xz G + 57), .int x1] I L (some (.int r)) I L := by
  refine xMet.ofW (by decide +kernel) (Nat.le_of_ble_eq_true rfl) ?_
  intro p e s m args below meth c hC H locs ls hR hS hl
  replace hC : xC G p s m args meth c cX11_byteAt 2 RX11 (some .int) := hC
  replace hl : lv_has ls 2 [(0, .ref (xz G + 57)), (1, .int x1)] := hl
  unfold F_X11_byteAt at hf
  refine lv_iload_n hC.1 hC.2.1 dX11_byteAt_0 rfl (lv_at hl 1 rfl) ?_
  refine lv_aload_n hC.1 hC.2.1 dX11_byteAt_1 rfl (lv_at hl 0 rfl) ?_
  refine x_getI hC xf_X11_173 (xce_57 G kp _ _) rfl hR dX11_byteAt_2 hf (fun v1 hf => ?_)
  refine x_ic_ge (tgt := 17) hC dX11_byteAt_5 (by decide) hf (fun hf => ?_) (fun hf => ?_)
  · refine lv_iconst (v := (-1)) hC.1 hC.2.1 dX11_byteAt_17 (by decide) ?_
    have h9 := Option.some.inj hf
    subst h9
    exact x_iret hC hR hS dX11_byteAt_18
  · refine lv_aload_n hC.1 hC.2.1 dX11_byteAt_8 rfl (lv_at hl 0 rfl) ?_
    refine x_get (v := .ref (xz G + 62)) hC xf_X11_28 (xce_57 G kp _ _) rfl hR dX11_byteAt_9 ?_
    refine lv_iload_n hC.1 hC.2.1 dX11_byteAt_12 rfl (lv_at hl 1 rfl) ?_
    refine x_ial hC (xce_62 G kp _ _) hR dX11_byteAt_13 hf (fun v2 hf => ?_)
    refine lv_goto (tgt := 18) hC.1 hC.2.1 dX11_byteAt_14 (by decide) ?_
    have h9 := Option.some.inj hf
    subst h9
    exact x_iret hC hR hS dX11_byteAt_18
set_option maxRecDepth 20000 in
theorem W_X11_next_j338 {G : XG} {l : Launch} {kp : Bool} {p : Program} {e : Env} {s : State} {m : MethodId} {args : Array Value} {below : List Frame} {meth : Method} {c : Code} (hC : xC G p s m args meth c cX11_next 3 RX11 none) (N : Nat) {I : xTI} {L : xTL} {rI : xTI} {rL : xTL} {x1 : Int32} (hf : F_X11_next_j338 N I L x1 = some (rI, rL)) : ∀ (H : Heap) (locs : List Loc) (ls : Array Slot), xRep G kp I L H → xS G s.heap H locs → lv_has ls 3 [(0, .ref (xz G + 57)), (1, .int x1)] → W p l e (xrm 1 22) s m args below meth c H locs 0 0 (xMQ G kp below args s none rI rL) (F0 m 338 ls []) := by
  intro H locs ls hR hS hl
  unfold F_X11_next_j338 at hf
  refine lv_aload_n hC.1 hC.2.1 dX11_next_338 rfl (lv_at hl 0 rfl) ?_
  refine lv_iconst (v := 3) hC.1 hC.2.1 dX11_next_339 (by decide) ?_
  refine x_putI hC xf_X11_185 xp_11_8 (fun f => (xce_57 G kp f _)) rfl (Nat.le_of_ble_eq_true rfl) hR hS dX11_next_340 hf (fun I1 hf H locs hR hS => ?_)
  refine lv_aload_n hC.1 hC.2.1 dX11_next_343 rfl (lv_at hl 0 rfl) ?_
  refine lv_iload_n hC.1 hC.2.1 dX11_next_344 rfl (lv_at hl 1 rfl) ?_
  refine lv_i2l hC.1 hC.2.1 dX11_next_345 rfl ?_
  refine x_putL hC xf_X11_188 xp_11_10 (fun f => (xce_57 G kp _ f)) rfl (Nat.le_of_ble_eq_true rfl) hR hS dX11_next_346 hf (fun L2 hf H locs hR hS => ?_)
  refine lv_aload_n hC.1 hC.2.1 dX11_next_349 rfl (lv_at hl 0 rfl) ?_
  refine lv_dup hC.1 hC.2.1 dX11_next_350 rfl ?_
  refine x_getI hC xf_X11_176 (xce_57 G kp _ _) rfl hR dX11_next_351 hf (fun v3 hf => ?_)
  refine lv_iconst (v := 1) hC.1 hC.2.1 dX11_next_354 (by decide) ?_
  refine W.eq (g2 := F0 m 355 ls [.int 1, .int v3, .ref (xz G + 57)]) rfl ?_
  refine lv_iadd hC.1 hC.2.1 dX11_next_355 ?_
  refine x_putI hC xf_X11_176 xp_11_11 (fun f => (xce_57 G kp f _)) rfl (Nat.le_of_ble_eq_true rfl) hR hS dX11_next_356 hf (fun I4 hf H locs hR hS => ?_)
  obtain ⟨h91, h92⟩ := Prod.mk.inj (Option.some.inj hf)
  subst h91
  subst h92
  exact x_vret hC hR hS dX11_next_359
set_option maxRecDepth 20000 in
theorem W_X11_next_j272 {G : XG} {l : Launch} {kp : Bool} {p : Program} {e : Env} {s : State} {m : MethodId} {args : Array Value} {below : List Frame} {meth : Method} {c : Code} (hC : xC G p s m args meth c cX11_next 3 RX11 none) (N : Nat) {I : xTI} {L : xTL} {rI : xTI} {rL : xTL} {t1 : Int32} (hf : F_X11_next_j272 N I L t1 = some (rI, rL)) : ∀ (H : Heap) (locs : List Loc) (ls : Array Slot), xRep G kp I L H → xS G s.heap H locs → lv_has ls 3 [] → W p l e (xrm 1 22) s m args below meth c H locs 0 0 (xMQ G kp below args s none rI rL) (F0 m 272 ls [.int t1, .ref (xz G + 57)]) := by
  intro H locs ls hR hS hl
  unfold F_X11_next_j272 at hf
  refine x_putI hC xf_X11_185 xp_11_8 (fun f => (xce_57 G kp f _)) rfl (Nat.le_of_ble_eq_true rfl) hR hS dX11_next_272 hf (fun I1 hf H locs hR hS => ?_)
  refine lv_goto (tgt := 359) hC.1 hC.2.1 dX11_next_275 (by decide) ?_
  obtain ⟨h91, h92⟩ := Prod.mk.inj (Option.some.inj hf)
  subst h91
  subst h92
  exact x_vret hC hR hS dX11_next_359
set_option maxRecDepth 20000 in
theorem W_X11_next_j242 {G : XG} {l : Launch} {kp : Bool} {p : Program} {e : Env} {s : State} {m : MethodId} {args : Array Value} {below : List Frame} {meth : Method} {c : Code} (hC : xC G p s m args meth c cX11_next 3 RX11 none) (N : Nat) {I : xTI} {L : xTL} {rI : xTI} {rL : xTL} {x2 : Int32} {t1 : Int64} (k189 : Int32 × xTI × xTL → Option (xTI × xTL)) (hk189 : ∀ (x2 : Int32) (I : xTI) (L : xTL) , k189 (x2, I, L) = some (rI, rL) → ∀ (H : Heap) (locs : List Loc) (ls : Array Slot), xRep G kp I L H → xS G s.heap H locs → lv_has ls 3 [(0, .ref (xz G + 57)), (2, .int x2)] → W p l e (xrm 1 22) s m args below meth c H locs 0 0 (xMQ G kp below args s none rI rL) (F0 m 189 ls [])) (hf : F_X11_next_j242 k189 N I L x2 t1 = some (rI, rL)) : ∀ (H : Heap) (locs : List Loc) (ls : Array Slot), xRep G kp I L H → xS G s.heap H locs → lv_has ls 3 [(0, .ref (xz G + 57)), (2, .int x2)] → W p l e (xrm 1 22) s m args below meth c H locs 0 0 (xMQ G kp below args s none rI rL) (F0 m 242 ls [.long t1, .ref (xz G + 57)]) := by
  intro H locs ls hR hS hl
  unfold F_X11_next_j242 at hf
  refine x_putL hC xf_X11_188 xp_11_10 (fun f => (xce_57 G kp _ f)) rfl (Nat.le_of_ble_eq_true rfl) hR hS dX11_next_242 hf (fun L1 hf H locs hR hS => ?_)
  refine x_iinc (d := 1) (lv' := fun y2 => [(2, .int y2), (0, .ref (xz G + 57))]) (k := 1) hC hl dX11_next_245 rfl (by decide) (Nat.le_of_ble_eq_true rfl) hf (fun _ => rfl) (fun y2 hf ls hl => ?_)
  refine lv_aload_n hC.1 hC.2.1 dX11_next_248 rfl (lv_at hl 1 rfl) ?_
  refine lv_dup hC.1 hC.2.1 dX11_next_249 rfl ?_
  refine x_getI hC xf_X11_176 (xce_57 G kp _ _) rfl hR dX11_next_250 hf (fun v3 hf => ?_)
  refine lv_iconst (v := 1) hC.1 hC.2.1 dX11_next_253 (by decide) ?_
  refine lv_iadd hC.1 hC.2.1 dX11_next_254 ?_
  refine x_putI hC xf_X11_176 xp_11_11 (fun f => (xce_57 G kp f _)) rfl (Nat.le_of_ble_eq_true rfl) hR hS dX11_next_255 hf (fun I4 hf H locs hR hS => ?_)
  refine lv_goto (tgt := 189) hC.1 hC.2.1 dX11_next_258 (by decide) ?_
  exact hk189 y2 I4 L1 hf _ _ _ hR hS (lv_sub hl [1, 0] rfl)
set_option maxRecDepth 20000 in
theorem W_X11_next_l189 {G : XG} {l : Launch} {kp : Bool} {p : Program} {e : Env} {s : State} {m : MethodId} {args : Array Value} {below : List Frame} {meth : Method} {c : Code} (hC : xC G p s m args meth c cX11_next 3 RX11 none) (N : Nat) {rI : xTI} {rL : xTL} : ∀ (n : Nat) (x2 : Int32) (I : xTI) (L : xTL) , xlp (F_X11_next_b189 N ) n (x2, I, L) = some (rI, rL) → ∀ (H : Heap) (locs : List Loc) (ls : Array Slot), xRep G kp I L H → xS G s.heap H locs → lv_has ls 3 [(0, .ref (xz G + 57)), (2, .int x2)] → W p l e (xrm 1 22) s m args below meth c H locs 0 0 (xMQ G kp below args s none rI rL) (F0 m 189 ls []) := by
  intro n
  induction n with
  | zero =>
    intro x2 I L hf
    cases hf
  | succ n hk189 =>
    intro x2 I L hf H locs ls hR hS hl
    rw [xlp_s, E_X11_next_b189] at hf
    unfold F_X11_next_c189 at hf
    refine lv_aload_n hC.1 hC.2.1 dX11_next_189 rfl (lv_at hl 0 rfl) ?_
    refine lv_aload_n hC.1 hC.2.1 dX11_next_190 rfl (lv_at hl 0 rfl) ?_
    refine x_getI hC xf_X11_176 (xce_57 G kp _ _) rfl hR dX11_next_191 hf (fun v1 hf => ?_)
    refine x_cvi00 (rest := []) hC xy_X11_byteAt tw_1475 hf (fun _ h => M_X11_byteAt G l kp h) ⟨Nat.le_of_ble_eq_true rfl, Nat.le_of_ble_eq_true rfl⟩ (xce_57 G kp _ _) rfl rfl rfl (Nat.le_of_ble_eq_true rfl) hl.1 hR hS dX11_next_194 ⟨Nat.le_refl _, Nat.le_refl _⟩ (fun v2 hf H locs hR hS => ?_)
    refine lv_bipush (v := 48) hC.1 hC.2.1 dX11_next_197 (by decide) ?_
    refine lv_bipush (v := 57) hC.1 hC.2.1 dX11_next_199 (by decide) ?_
    refine x_csi00 (rest := []) hC xy_X11_in tw_1335 hf (fun _ h => M_X11_in G l kp h) ⟨Nat.le_of_ble_eq_true rfl, Nat.le_of_ble_eq_true rfl⟩ rfl rfl (Nat.le_of_ble_eq_true rfl) hl.1 hR hS dX11_next_201 ⟨Nat.le_refl _, Nat.le_refl _⟩ (fun v3 hf H locs hR hS => ?_)
    refine x_if_eq (tgt := 261) hC dX11_next_204 (by decide) hf (fun hf => ?_) (fun hf => ?_)
    · refine lv_aload_n hC.1 hC.2.1 dX11_next_261 rfl (lv_at hl 0 rfl) ?_
      refine lv_iload_n hC.1 hC.2.1 dX11_next_262 rfl (lv_at hl 1 rfl) ?_
      refine lv_iconst (v := 5) hC.1 hC.2.1 dX11_next_263 (by decide) ?_
      refine x_ic_le (tgt := 271) hC dX11_next_264 (by decide) hf (fun hf => ?_) (fun hf => ?_)
      · refine lv_iconst (v := 2) hC.1 hC.2.1 dX11_next_271 (by decide) ?_
        exact W_X11_next_j272 hC N hf _ _ _ hR hS (lv_sub hl [] rfl)
      · refine lv_iconst (v := 4) hC.1 hC.2.1 dX11_next_267 (by decide) ?_
        refine lv_goto (tgt := 272) hC.1 hC.2.1 dX11_next_268 (by decide) ?_
        exact W_X11_next_j272 hC N hf _ _ _ hR hS (lv_sub hl [] rfl)
    · refine lv_aload_n hC.1 hC.2.1 dX11_next_207 rfl (lv_at hl 0 rfl) ?_
      refine lv_iload_n hC.1 hC.2.1 dX11_next_208 rfl (lv_at hl 1 rfl) ?_
      refine lv_iconst (v := 5) hC.1 hC.2.1 dX11_next_209 (by decide) ?_
      refine x_ic_ge (tgt := 238) hC dX11_next_210 (by decide) hf (fun hf => ?_) (fun hf => ?_)
      · refine lv_aload_n hC.1 hC.2.1 dX11_next_238 rfl (lv_at hl 0 rfl) ?_
        refine x_getL hC xf_X11_188 (xce_57 G kp _ _) rfl hR dX11_next_239 hf (fun v4 hf => ?_)
        exact W_X11_next_j242 hC N _ hk189 hf _ _ _ hR hS (lv_sub hl [0, 1] rfl)
      · refine x_ldc2 (v := 10) hC tw_1482 dX11_next_213 ?_
        refine lv_aload_n hC.1 hC.2.1 dX11_next_216 rfl (lv_at hl 0 rfl) ?_
        refine x_getL hC xf_X11_188 (xce_57 G kp _ _) rfl hR dX11_next_217 hf (fun v5 hf => ?_)
        refine lv_lmul hC.1 hC.2.1 dX11_next_220 ?_
        refine lv_aload_n hC.1 hC.2.1 dX11_next_221 rfl (lv_at hl 0 rfl) ?_
        refine lv_aload_n hC.1 hC.2.1 dX11_next_222 rfl (lv_at hl 0 rfl) ?_
        refine x_getI hC xf_X11_176 (xce_57 G kp _ _) rfl hR dX11_next_223 hf (fun v6 hf => ?_)
        refine x_cvi00 (rest := [.long (10 * v5), .ref (xz G + 57)]) hC xy_X11_byteAt tw_1475 hf (fun _ h => M_X11_byteAt G l kp h) ⟨Nat.le_of_ble_eq_true rfl, Nat.le_of_ble_eq_true rfl⟩ (xce_57 G kp _ _) rfl rfl rfl (Nat.le_of_ble_eq_true rfl) hl.1 hR hS dX11_next_226 ⟨Nat.le_refl _, Nat.le_refl _⟩ (fun v7 hf H locs hR hS => ?_)
        refine lv_i2l hC.1 hC.2.1 dX11_next_229 rfl ?_
        refine lv_ladd hC.1 hC.2.1 dX11_next_230 ?_
        refine x_ldc2 (v := 48) hC tw_1483 dX11_next_231 ?_
        refine W.eq (g2 := F0 m 234 ls [.long 48, .long ((10 * v5) + (v7.toInt64)), .ref (xz G + 57)]) rfl ?_
        refine lv_lsub hC.1 hC.2.1 dX11_next_234 ?_
        refine lv_goto (tgt := 242) hC.1 hC.2.1 dX11_next_235 (by decide) ?_
        exact W_X11_next_j242 hC N _ hk189 hf _ _ _ hR hS (lv_sub hl [0, 1] rfl)
set_option maxRecDepth 20000 in
theorem W_X11_next_j144 {G : XG} {l : Launch} {kp : Bool} {p : Program} {e : Env} {s : State} {m : MethodId} {args : Array Value} {below : List Frame} {meth : Method} {c : Code} (hC : xC G p s m args meth c cX11_next 3 RX11 none) (N : Nat) {I : xTI} {L : xTL} {rI : xTI} {rL : xTL} {x2 : Int32} {t1 : Int64} (k91 : Int32 × xTI × xTL → Option (xTI × xTL)) (hk91 : ∀ (x2 : Int32) (I : xTI) (L : xTL) , k91 (x2, I, L) = some (rI, rL) → ∀ (H : Heap) (locs : List Loc) (ls : Array Slot), xRep G kp I L H → xS G s.heap H locs → lv_has ls 3 [(0, .ref (xz G + 57)), (2, .int x2)] → W p l e (xrm 1 22) s m args below meth c H locs 0 0 (xMQ G kp below args s none rI rL) (F0 m 91 ls [])) (hf : F_X11_next_j144 k91 N I L x2 t1 = some (rI, rL)) : ∀ (H : Heap) (locs : List Loc) (ls : Array Slot), xRep G kp I L H → xS G s.heap H locs → lv_has ls 3 [(0, .ref (xz G + 57)), (2, .int x2)] → W p l e (xrm 1 22) s m args below meth c H locs 0 0 (xMQ G kp below args s none rI rL) (F0 m 144 ls [.long t1, .ref (xz G + 57)]) := by
  intro H locs ls hR hS hl
  unfold F_X11_next_j144 at hf
  refine x_putL hC xf_X11_188 xp_11_10 (fun f => (xce_57 G kp _ f)) rfl (Nat.le_of_ble_eq_true rfl) hR hS dX11_next_144 hf (fun L1 hf H locs hR hS => ?_)
  refine x_iinc (d := 1) (lv' := fun y2 => [(2, .int y2), (0, .ref (xz G + 57))]) (k := 1) hC hl dX11_next_147 rfl (by decide) (Nat.le_of_ble_eq_true rfl) hf (fun _ => rfl) (fun y2 hf ls hl => ?_)
  refine lv_aload_n hC.1 hC.2.1 dX11_next_150 rfl (lv_at hl 1 rfl) ?_
  refine lv_dup hC.1 hC.2.1 dX11_next_151 rfl ?_
  refine x_getI hC xf_X11_176 (xce_57 G kp _ _) rfl hR dX11_next_152 hf (fun v3 hf => ?_)
  refine lv_iconst (v := 1) hC.1 hC.2.1 dX11_next_155 (by decide) ?_
  refine lv_iadd hC.1 hC.2.1 dX11_next_156 ?_
  refine x_putI hC xf_X11_176 xp_11_11 (fun f => (xce_57 G kp f _)) rfl (Nat.le_of_ble_eq_true rfl) hR hS dX11_next_157 hf (fun I4 hf H locs hR hS => ?_)
  refine lv_goto (tgt := 91) hC.1 hC.2.1 dX11_next_160 (by decide) ?_
  exact hk91 y2 I4 L1 hf _ _ _ hR hS (lv_sub hl [1, 0] rfl)
set_option maxRecDepth 20000 in
theorem W_X11_next_l91 {G : XG} {l : Launch} {kp : Bool} {p : Program} {e : Env} {s : State} {m : MethodId} {args : Array Value} {below : List Frame} {meth : Method} {c : Code} (hC : xC G p s m args meth c cX11_next 3 RX11 none) (N : Nat) {rI : xTI} {rL : xTL} : ∀ (n : Nat) (x2 : Int32) (I : xTI) (L : xTL) , xlp (F_X11_next_b91 N ) n (x2, I, L) = some (rI, rL) → ∀ (H : Heap) (locs : List Loc) (ls : Array Slot), xRep G kp I L H → xS G s.heap H locs → lv_has ls 3 [(0, .ref (xz G + 57)), (2, .int x2)] → W p l e (xrm 1 22) s m args below meth c H locs 0 0 (xMQ G kp below args s none rI rL) (F0 m 91 ls []) := by
  intro n
  induction n with
  | zero =>
    intro x2 I L hf
    cases hf
  | succ n hk91 =>
    intro x2 I L hf H locs ls hR hS hl
    rw [xlp_s, E_X11_next_b91] at hf
    unfold F_X11_next_c91 at hf
    refine lv_aload_n hC.1 hC.2.1 dX11_next_91 rfl (lv_at hl 0 rfl) ?_
    refine lv_aload_n hC.1 hC.2.1 dX11_next_92 rfl (lv_at hl 0 rfl) ?_
    refine x_getI hC xf_X11_176 (xce_57 G kp _ _) rfl hR dX11_next_93 hf (fun v1 hf => ?_)
    refine x_cvi00 (rest := []) hC xy_X11_byteAt tw_1475 hf (fun _ h => M_X11_byteAt G l kp h) ⟨Nat.le_of_ble_eq_true rfl, Nat.le_of_ble_eq_true rfl⟩ (xce_57 G kp _ _) rfl rfl rfl (Nat.le_of_ble_eq_true rfl) hl.1 hR hS dX11_next_96 ⟨Nat.le_refl _, Nat.le_refl _⟩ (fun v2 hf H locs hR hS => ?_)
    refine lv_bipush (v := 97) hC.1 hC.2.1 dX11_next_99 (by decide) ?_
    refine lv_bipush (v := 122) hC.1 hC.2.1 dX11_next_101 (by decide) ?_
    refine x_csi00 (rest := []) hC xy_X11_in tw_1335 hf (fun _ h => M_X11_in G l kp h) ⟨Nat.le_of_ble_eq_true rfl, Nat.le_of_ble_eq_true rfl⟩ rfl rfl (Nat.le_of_ble_eq_true rfl) hl.1 hR hS dX11_next_103 ⟨Nat.le_refl _, Nat.le_refl _⟩ (fun v3 hf H locs hR hS => ?_)
    refine x_if_eq (tgt := 163) hC dX11_next_106 (by decide) hf (fun hf => ?_) (fun hf => ?_)
    · refine lv_goto (tgt := 359) hC.1 hC.2.1 dX11_next_163 (by decide) ?_
      obtain ⟨h91, h92⟩ := Prod.mk.inj (Option.some.inj hf)
      subst h91
      subst h92
      exact x_vret hC hR hS dX11_next_359
    · refine lv_aload_n hC.1 hC.2.1 dX11_next_109 rfl (lv_at hl 0 rfl) ?_
      refine lv_iload_n hC.1 hC.2.1 dX11_next_110 rfl (lv_at hl 1 rfl) ?_
      refine lv_bipush (v := 7) hC.1 hC.2.1 dX11_next_111 (by decide) ?_
      refine x_ic_ge (tgt := 141) hC dX11_next_113 (by decide) hf (fun hf => ?_) (fun hf => ?_)
      · refine x_ldc2 (v := (-1)) hC tw_1481 dX11_next_141 ?_
        exact W_X11_next_j144 hC N _ hk91 hf _ _ _ hR hS (lv_sub hl [0, 1] rfl)
      · refine x_ldc2 (v := 27) hC tw_1479 dX11_next_116 ?_
        refine lv_aload_n hC.1 hC.2.1 dX11_next_119 rfl (lv_at hl 0 rfl) ?_
        refine x_getL hC xf_X11_188 (xce_57 G kp _ _) rfl hR dX11_next_120 hf (fun v4 hf => ?_)
        refine lv_lmul hC.1 hC.2.1 dX11_next_123 ?_
        refine lv_aload_n hC.1 hC.2.1 dX11_next_124 rfl (lv_at hl 0 rfl) ?_
        refine lv_aload_n hC.1 hC.2.1 dX11_next_125 rfl (lv_at hl 0 rfl) ?_
        refine x_getI hC xf_X11_176 (xce_57 G kp _ _) rfl hR dX11_next_126 hf (fun v5 hf => ?_)
        refine x_cvi00 (rest := [.long (27 * v4), .ref (xz G + 57)]) hC xy_X11_byteAt tw_1475 hf (fun _ h => M_X11_byteAt G l kp h) ⟨Nat.le_of_ble_eq_true rfl, Nat.le_of_ble_eq_true rfl⟩ (xce_57 G kp _ _) rfl rfl rfl (Nat.le_of_ble_eq_true rfl) hl.1 hR hS dX11_next_129 ⟨Nat.le_refl _, Nat.le_refl _⟩ (fun v6 hf H locs hR hS => ?_)
        refine lv_i2l hC.1 hC.2.1 dX11_next_132 rfl ?_
        refine lv_ladd hC.1 hC.2.1 dX11_next_133 ?_
        refine x_ldc2 (v := 96) hC tw_1480 dX11_next_134 ?_
        refine W.eq (g2 := F0 m 137 ls [.long 96, .long ((27 * v4) + (v6.toInt64)), .ref (xz G + 57)]) rfl ?_
        refine lv_lsub hC.1 hC.2.1 dX11_next_137 ?_
        refine lv_goto (tgt := 144) hC.1 hC.2.1 dX11_next_138 (by decide) ?_
        exact W_X11_next_j144 hC N _ hk91 hf _ _ _ hR hS (lv_sub hl [0, 1] rfl)
set_option maxRecDepth 20000 in
theorem W_X11_next_l0 {G : XG} {l : Launch} {kp : Bool} {p : Program} {e : Env} {s : State} {m : MethodId} {args : Array Value} {below : List Frame} {meth : Method} {c : Code} (hC : xC G p s m args meth c cX11_next 3 RX11 none) (N : Nat) {L : xTL} {rI : xTI} {rL : xTL} : ∀ (n : Nat) (I : xTI) , xlp (F_X11_next_b0 N L ) n I = some (rI, rL) → ∀ (H : Heap) (locs : List Loc) (ls : Array Slot), xRep G kp I L H → xS G s.heap H locs → lv_has ls 3 [(0, .ref (xz G + 57))] → W p l e (xrm 1 22) s m args below meth c H locs 0 0 (xMQ G kp below args s none rI rL) (F0 m 0 ls []) := by
  intro n
  induction n with
  | zero =>
    intro I hf
    cases hf
  | succ n hk0 =>
    intro I hf H locs ls hR hS hl
    rw [xlp_s, E_X11_next_b0] at hf
    unfold F_X11_next_c0 at hf
    refine lv_aload_n hC.1 hC.2.1 dX11_next_0 rfl (lv_at hl 0 rfl) ?_
    refine lv_aload_n hC.1 hC.2.1 dX11_next_1 rfl (lv_at hl 0 rfl) ?_
    refine x_getI hC xf_X11_176 (xce_57 G kp _ _) rfl hR dX11_next_2 hf (fun v1 hf => ?_)
    refine x_cvi00 (rest := []) hC xy_X11_byteAt tw_1475 hf (fun _ h => M_X11_byteAt G l kp h) ⟨Nat.le_of_ble_eq_true rfl, Nat.le_of_ble_eq_true rfl⟩ (xce_57 G kp _ _) rfl rfl rfl (Nat.le_of_ble_eq_true rfl) hl.1 hR hS dX11_next_5 ⟨Nat.le_refl _, Nat.le_refl _⟩ (fun v2 hf H locs hR hS => ?_)
    refine lv_bipush (v := 32) hC.1 hC.2.1 dX11_next_8 (by decide) ?_
    refine x_ic_ne (tgt := 26) hC dX11_next_10 (by decide) hf (fun hf => ?_) (fun hf => ?_)
    · refine lv_aload_n hC.1 hC.2.1 dX11_next_26 rfl (lv_at hl 0 rfl) ?_
      refine lv_aload_n hC.1 hC.2.1 dX11_next_27 rfl (lv_at hl 0 rfl) ?_
      refine x_getI hC xf_X11_176 (xce_57 G kp _ _) rfl hR dX11_next_28 hf (fun v3 hf => ?_)
      refine x_putI hC xf_X11_182 xp_11_9 (fun f => (xce_57 G kp f _)) rfl (Nat.le_of_ble_eq_true rfl) hR hS dX11_next_31 hf (fun I4 hf H locs hR hS => ?_)
      refine lv_aload_n hC.1 hC.2.1 dX11_next_34 rfl (lv_at hl 0 rfl) ?_
      refine lv_aload_n hC.1 hC.2.1 dX11_next_35 rfl (lv_at hl 0 rfl) ?_
      refine x_getI hC xf_X11_176 (xce_57 G kp _ _) rfl hR dX11_next_36 hf (fun v5 hf => ?_)
      refine x_cvi00 (rest := []) hC xy_X11_byteAt tw_1475 hf (fun _ h => M_X11_byteAt G l kp h) ⟨Nat.le_of_ble_eq_true rfl, Nat.le_of_ble_eq_true rfl⟩ (xce_57 G kp _ _) rfl rfl rfl (Nat.le_of_ble_eq_true rfl) hl.1 hR hS dX11_next_39 ⟨Nat.le_refl _, Nat.le_refl _⟩ (fun v6 hf H locs hR hS => ?_)
      refine lv_istore_n (lv' := [(1, .int v6), (0, .ref (xz G + 57))]) hC.1 hC.2.1 dX11_next_42 rfl hl (Nat.le_of_ble_eq_true rfl) rfl (fun ls hl => ?_)
      refine lv_aload_n hC.1 hC.2.1 dX11_next_43 rfl (lv_at hl 1 rfl) ?_
      refine lv_iconst (v := 4) hC.1 hC.2.1 dX11_next_44 (by decide) ?_
      refine W.eq (g2 := F0 m 45 ls [.int 4, .ref (xz G + 57)]) rfl ?_
      refine x_putI hC xf_X11_185 xp_11_8 (fun f => (xce_57 G kp f _)) rfl (Nat.le_of_ble_eq_true rfl) hR hS dX11_next_45 hf (fun I7 hf H locs hR hS => ?_)
      refine lv_iload_n hC.1 hC.2.1 dX11_next_48 rfl (lv_at hl 0 rfl) ?_
      refine x_if_ge (tgt := 68) hC dX11_next_49 (by decide) hf (fun hf => ?_) (fun hf => ?_)
      · refine lv_iload_n hC.1 hC.2.1 dX11_next_68 rfl (lv_at hl 0 rfl) ?_
        refine lv_bipush (v := 97) hC.1 hC.2.1 dX11_next_69 (by decide) ?_
        refine lv_bipush (v := 122) hC.1 hC.2.1 dX11_next_71 (by decide) ?_
        refine x_csi00 (rest := []) hC xy_X11_in tw_1335 hf (fun _ h => M_X11_in G l kp h) ⟨Nat.le_of_ble_eq_true rfl, Nat.le_of_ble_eq_true rfl⟩ rfl rfl (Nat.le_of_ble_eq_true rfl) hl.1 hR hS dX11_next_73 ⟨Nat.le_refl _, Nat.le_refl _⟩ (fun v8 hf H locs hR hS => ?_)
        refine x_if_eq (tgt := 166) hC dX11_next_76 (by decide) hf (fun hf => ?_) (fun hf => ?_)
        · refine lv_iload_n hC.1 hC.2.1 dX11_next_166 rfl (lv_at hl 0 rfl) ?_
          refine lv_bipush (v := 48) hC.1 hC.2.1 dX11_next_167 (by decide) ?_
          refine lv_bipush (v := 57) hC.1 hC.2.1 dX11_next_169 (by decide) ?_
          refine x_csi00 (rest := []) hC xy_X11_in tw_1335 hf (fun _ h => M_X11_in G l kp h) ⟨Nat.le_of_ble_eq_true rfl, Nat.le_of_ble_eq_true rfl⟩ rfl rfl (Nat.le_of_ble_eq_true rfl) hl.1 hR hS dX11_next_171 ⟨Nat.le_refl _, Nat.le_refl _⟩ (fun v9 hf H locs hR hS => ?_)
          refine x_if_eq (tgt := 278) hC dX11_next_174 (by decide) hf (fun hf => ?_) (fun hf => ?_)
          · refine lv_iload_n hC.1 hC.2.1 dX11_next_278 rfl (lv_at hl 0 rfl) ?_
            refine lv_bipush (v := 40) hC.1 hC.2.1 dX11_next_279 (by decide) ?_
            refine x_ic_eq (tgt := 338) hC dX11_next_281 (by decide) hf (fun hf => ?_) (fun hf => ?_)
            · exact W_X11_next_j338 hC N hf _ _ _ hR hS (lv_sub hl [1, 0] rfl)
            · refine lv_iload_n hC.1 hC.2.1 dX11_next_284 rfl (lv_at hl 0 rfl) ?_
              refine lv_bipush (v := 41) hC.1 hC.2.1 dX11_next_285 (by decide) ?_
              refine x_ic_eq (tgt := 338) hC dX11_next_287 (by decide) hf (fun hf => ?_) (fun hf => ?_)
              · exact W_X11_next_j338 hC N hf _ _ _ hR hS (lv_sub hl [1, 0] rfl)
              · refine lv_iload_n hC.1 hC.2.1 dX11_next_290 rfl (lv_at hl 0 rfl) ?_
                refine lv_bipush (v := 43) hC.1 hC.2.1 dX11_next_291 (by decide) ?_
                refine x_ic_eq (tgt := 338) hC dX11_next_293 (by decide) hf (fun hf => ?_) (fun hf => ?_)
                · exact W_X11_next_j338 hC N hf _ _ _ hR hS (lv_sub hl [1, 0] rfl)
                · refine lv_iload_n hC.1 hC.2.1 dX11_next_296 rfl (lv_at hl 0 rfl) ?_
                  refine lv_bipush (v := 45) hC.1 hC.2.1 dX11_next_297 (by decide) ?_
                  refine x_ic_eq (tgt := 338) hC dX11_next_299 (by decide) hf (fun hf => ?_) (fun hf => ?_)
                  · exact W_X11_next_j338 hC N hf _ _ _ hR hS (lv_sub hl [1, 0] rfl)
                  · refine lv_iload_n hC.1 hC.2.1 dX11_next_302 rfl (lv_at hl 0 rfl) ?_
                    refine lv_bipush (v := 42) hC.1 hC.2.1 dX11_next_303 (by decide) ?_
                    refine x_ic_eq (tgt := 338) hC dX11_next_305 (by decide) hf (fun hf => ?_) (fun hf => ?_)
                    · exact W_X11_next_j338 hC N hf _ _ _ hR hS (lv_sub hl [1, 0] rfl)
                    · refine lv_iload_n hC.1 hC.2.1 dX11_next_308 rfl (lv_at hl 0 rfl) ?_
                      refine lv_bipush (v := 47) hC.1 hC.2.1 dX11_next_309 (by decide) ?_
                      refine x_ic_eq (tgt := 338) hC dX11_next_311 (by decide) hf (fun hf => ?_) (fun hf => ?_)
                      · exact W_X11_next_j338 hC N hf _ _ _ hR hS (lv_sub hl [1, 0] rfl)
                      · refine lv_iload_n hC.1 hC.2.1 dX11_next_314 rfl (lv_at hl 0 rfl) ?_
                        refine lv_bipush (v := 37) hC.1 hC.2.1 dX11_next_315 (by decide) ?_
                        refine x_ic_eq (tgt := 338) hC dX11_next_317 (by decide) hf (fun hf => ?_) (fun hf => ?_)
                        · exact W_X11_next_j338 hC N hf _ _ _ hR hS (lv_sub hl [1, 0] rfl)
                        · refine lv_iload_n hC.1 hC.2.1 dX11_next_320 rfl (lv_at hl 0 rfl) ?_
                          refine lv_bipush (v := 61) hC.1 hC.2.1 dX11_next_321 (by decide) ?_
                          refine x_ic_eq (tgt := 338) hC dX11_next_323 (by decide) hf (fun hf => ?_) (fun hf => ?_)
                          · exact W_X11_next_j338 hC N hf _ _ _ hR hS (lv_sub hl [1, 0] rfl)
                          · refine lv_iload_n hC.1 hC.2.1 dX11_next_326 rfl (lv_at hl 0 rfl) ?_
                            refine lv_bipush (v := 60) hC.1 hC.2.1 dX11_next_327 (by decide) ?_
                            refine x_ic_eq (tgt := 338) hC dX11_next_329 (by decide) hf (fun hf => ?_) (fun hf => ?_)
                            · exact W_X11_next_j338 hC N hf _ _ _ hR hS (lv_sub hl [1, 0] rfl)
                            · refine lv_iload_n hC.1 hC.2.1 dX11_next_332 rfl (lv_at hl 0 rfl) ?_
                              refine lv_bipush (v := 62) hC.1 hC.2.1 dX11_next_333 (by decide) ?_
                              refine x_ic_ne (tgt := 359) hC dX11_next_335 (by decide) hf (fun hf => ?_) (fun hf => ?_)
                              · obtain ⟨h91, h92⟩ := Prod.mk.inj (Option.some.inj hf)
                                subst h91
                                subst h92
                                exact x_vret hC hR hS dX11_next_359
                              · exact W_X11_next_j338 hC N hf _ _ _ hR hS (lv_sub hl [1, 0] rfl)
          · refine lv_aload_n hC.1 hC.2.1 dX11_next_177 rfl (lv_at hl 1 rfl) ?_
            refine lv_iconst (v := 2) hC.1 hC.2.1 dX11_next_178 (by decide) ?_
            refine x_putI hC xf_X11_185 xp_11_8 (fun f => (xce_57 G kp f _)) rfl (Nat.le_of_ble_eq_true rfl) hR hS dX11_next_179 hf (fun I10 hf H locs hR hS => ?_)
            refine lv_aload_n hC.1 hC.2.1 dX11_next_182 rfl (lv_at hl 1 rfl) ?_
            refine lv_lconst (v := 0) hC.1 hC.2.1 dX11_next_183 (by decide) ?_
            refine x_putL hC xf_X11_188 xp_11_10 (fun f => (xce_57 G kp _ f)) rfl (Nat.le_of_ble_eq_true rfl) hR hS dX11_next_184 hf (fun L11 hf H locs hR hS => ?_)
            refine lv_iconst (v := 0) hC.1 hC.2.1 dX11_next_187 (by decide) ?_
            refine lv_istore_n (lv' := [(2, .int 0), (1, .int v6), (0, .ref (xz G + 57))]) hC.1 hC.2.1 dX11_next_188 rfl hl (Nat.le_of_ble_eq_true rfl) rfl (fun ls hl => ?_)
            exact W_X11_next_l189 hC N _ 0 I10 L11 hf _ _ _ hR hS (lv_sub hl [2, 0] rfl)
        · refine lv_aload_n hC.1 hC.2.1 dX11_next_79 rfl (lv_at hl 1 rfl) ?_
          refine lv_iconst (v := 1) hC.1 hC.2.1 dX11_next_80 (by decide) ?_
          refine x_putI hC xf_X11_185 xp_11_8 (fun f => (xce_57 G kp f _)) rfl (Nat.le_of_ble_eq_true rfl) hR hS dX11_next_81 hf (fun I12 hf H locs hR hS => ?_)
          refine lv_aload_n hC.1 hC.2.1 dX11_next_84 rfl (lv_at hl 1 rfl) ?_
          refine lv_lconst (v := 0) hC.1 hC.2.1 dX11_next_85 (by decide) ?_
          refine x_putL hC xf_X11_188 xp_11_10 (fun f => (xce_57 G kp _ f)) rfl (Nat.le_of_ble_eq_true rfl) hR hS dX11_next_86 hf (fun L13 hf H locs hR hS => ?_)
          refine lv_iconst (v := 0) hC.1 hC.2.1 dX11_next_89 (by decide) ?_
          refine lv_istore_n (lv' := [(2, .int 0), (1, .int v6), (0, .ref (xz G + 57))]) hC.1 hC.2.1 dX11_next_90 rfl hl (Nat.le_of_ble_eq_true rfl) rfl (fun ls hl => ?_)
          exact W_X11_next_l91 hC N _ 0 I12 L13 hf _ _ _ hR hS (lv_sub hl [2, 0] rfl)
      · refine lv_aload_n hC.1 hC.2.1 dX11_next_52 rfl (lv_at hl 1 rfl) ?_
        refine lv_iconst (v := 0) hC.1 hC.2.1 dX11_next_53 (by decide) ?_
        refine x_putI hC xf_X11_185 xp_11_8 (fun f => (xce_57 G kp f _)) rfl (Nat.le_of_ble_eq_true rfl) hR hS dX11_next_54 hf (fun I14 hf H locs hR hS => ?_)
        refine lv_aload_n hC.1 hC.2.1 dX11_next_57 rfl (lv_at hl 1 rfl) ?_
        refine lv_aload_n hC.1 hC.2.1 dX11_next_58 rfl (lv_at hl 1 rfl) ?_
        refine x_getI hC xf_X11_173 (xce_57 G kp _ _) rfl hR dX11_next_59 hf (fun v15 hf => ?_)
        refine x_putI hC xf_X11_182 xp_11_9 (fun f => (xce_57 G kp f _)) rfl (Nat.le_of_ble_eq_true rfl) hR hS dX11_next_62 hf (fun I16 hf H locs hR hS => ?_)
        refine lv_goto (tgt := 359) hC.1 hC.2.1 dX11_next_65 (by decide) ?_
        obtain ⟨h91, h92⟩ := Prod.mk.inj (Option.some.inj hf)
        subst h91
        subst h92
        exact x_vret hC hR hS dX11_next_359
    · refine lv_aload_n hC.1 hC.2.1 dX11_next_13 rfl (lv_at hl 0 rfl) ?_
      refine lv_dup hC.1 hC.2.1 dX11_next_14 rfl ?_
      refine x_getI hC xf_X11_176 (xce_57 G kp _ _) rfl hR dX11_next_15 hf (fun v17 hf => ?_)
      refine lv_iconst (v := 1) hC.1 hC.2.1 dX11_next_18 (by decide) ?_
      refine lv_iadd hC.1 hC.2.1 dX11_next_19 ?_
      refine x_putI hC xf_X11_176 xp_11_11 (fun f => (xce_57 G kp f _)) rfl (Nat.le_of_ble_eq_true rfl) hR hS dX11_next_20 hf (fun I18 hf H locs hR hS => ?_)
      refine lv_goto (tgt := 0) hC.1 hC.2.1 dX11_next_23 (by decide) ?_
      exact hk0 I18 hf _ _ _ hR hS (lv_sub hl [0] rfl)
set_option maxRecDepth 20000 in
theorem M_X11_next (G : XG) (l : Launch) (kp : Bool) (N : Nat) {I : xTI} {L : xTL} {rI : xTI} {rL : xTL} (hf : F_X11_next N I L = some (rI, rL)) : xMet G l yX11_next cX11_next 3 none 1 22 kp [.ref (xz G + 57)] I L none rI rL := by
  refine xMet.ofW (by decide +kernel) (Nat.le_of_ble_eq_true rfl) ?_
  intro p e s m args below meth c hC H locs ls hR hS hl
  replace hC : xC G p s m args meth c cX11_next 3 RX11 none := hC
  replace hl : lv_has ls 3 [(0, .ref (xz G + 57))] := hl
  unfold F_X11_next at hf
  exact W_X11_next_l0 hC N _ I hf _ _ _ hR hS (lv_sub hl [0] rfl)
set_option maxRecDepth 20000 in
theorem M_X11_isWord (G : XG) (l : Launch) (kp : Bool) {I : xTI} {L : xTL} {x1 : Int64} {r : Int32} (hf : F_X11_isWord I L x1 = some r) : xMet G l yX11_isWord cX11_isWord 3 (some .boolean) 0 0 kp [.ref (xz G + 57), .long x1] I L (some (.int r)) I L := by
  refine xMet.ofW (by decide +kernel) (Nat.le_of_ble_eq_true rfl) ?_
  intro p e s m args below meth c hC H locs ls hR hS hl
  replace hC : xC G p s m args meth c cX11_isWord 3 RX11 (some .boolean) := hC
  replace hl : lv_has ls 3 [(0, .ref (xz G + 57)), (1, .long x1)] := hl
  unfold F_X11_isWord at hf
  refine lv_aload_n hC.1 hC.2.1 dX11_isWord_0 rfl (lv_at hl 0 rfl) ?_
  refine x_getI hC xf_X11_202 (xce_57 G kp _ _) rfl hR dX11_isWord_1 hf (fun v1 hf => ?_)
  refine x_if_ne (tgt := 28) hC dX11_isWord_4 (by decide) hf (fun hf => ?_) (fun hf => ?_)
  · refine lv_iconst (v := 0) hC.1 hC.2.1 dX11_isWord_28 (by decide) ?_
    obtain ⟨h01, hf⟩ := xzc_some hf
    have h9 := Option.some.inj hf
    subst h9
    exact x_zret h01 hC hR hS dX11_isWord_29
  · refine lv_aload_n hC.1 hC.2.1 dX11_isWord_7 rfl (lv_at hl 0 rfl) ?_
    refine x_getI hC xf_X11_185 (xce_57 G kp _ _) rfl hR dX11_isWord_8 hf (fun v2 hf => ?_)
    refine lv_iconst (v := 1) hC.1 hC.2.1 dX11_isWord_11 (by decide) ?_
    refine x_ic_ne (tgt := 28) hC dX11_isWord_12 (by decide) hf (fun hf => ?_) (fun hf => ?_)
    · refine lv_iconst (v := 0) hC.1 hC.2.1 dX11_isWord_28 (by decide) ?_
      obtain ⟨h01, hf⟩ := xzc_some hf
      have h9 := Option.some.inj hf
      subst h9
      exact x_zret h01 hC hR hS dX11_isWord_29
    · refine lv_aload_n hC.1 hC.2.1 dX11_isWord_15 rfl (lv_at hl 0 rfl) ?_
      refine x_getL hC xf_X11_188 (xce_57 G kp _ _) rfl hR dX11_isWord_16 hf (fun v3 hf => ?_)
      refine lv_lload_n hC.1 hC.2.1 dX11_isWord_19 rfl (lv_at hl 1 rfl) ?_
      refine W.lcmp hC.1 hC.2.1 dX11_isWord_20 ?_
      refine x_if_ne (tgt := 28) hC dX11_isWord_21 (by decide) hf (fun hf => ?_) (fun hf => ?_)
      · refine lv_iconst (v := 0) hC.1 hC.2.1 dX11_isWord_28 (by decide) ?_
        obtain ⟨h01, hf⟩ := xzc_some hf
        have h9 := Option.some.inj hf
        subst h9
        exact x_zret h01 hC hR hS dX11_isWord_29
      · refine lv_iconst (v := 1) hC.1 hC.2.1 dX11_isWord_24 (by decide) ?_
        refine lv_goto (tgt := 29) hC.1 hC.2.1 dX11_isWord_25 (by decide) ?_
        obtain ⟨h01, hf⟩ := xzc_some hf
        have h9 := Option.some.inj hf
        subst h9
        exact x_zret h01 hC hR hS dX11_isWord_29
set_option maxRecDepth 20000 in
theorem M_X11_keyHere (G : XG) (l : Launch) (kp : Bool) {I : xTI} {L : xTL} {r : Int32} (hf : F_X11_keyHere I L = some r) : xMet G l yX11_keyHere cX11_keyHere 1 (some .int) 1 22 kp [.ref (xz G + 57)] I L (some (.int r)) I L := by
  refine xMet.ofW (by decide +kernel) (Nat.le_of_ble_eq_true rfl) ?_
  intro p e s m args below meth c hC H locs ls hR hS hl
  replace hC : xC G p s m args meth c cX11_keyHere 1 RX11 (some .int) := hC
  replace hl : lv_has ls 1 [(0, .ref (xz G + 57))] := hl
  unfold F_X11_keyHere at hf
  refine lv_aload_n hC.1 hC.2.1 dX11_keyHere_0 rfl (lv_at hl 0 rfl) ?_
  refine x_ldc2 (v := 355568) hC tw_1488 dX11_keyHere_1 ?_
  refine x_cvi00 (rest := []) hC xy_X11_isWord tw_1489 hf (fun _ h => M_X11_isWord G l kp h) ⟨Nat.le_of_ble_eq_true rfl, Nat.le_of_ble_eq_true rfl⟩ (xce_57 G kp _ _) rfl rfl rfl (Nat.le_of_ble_eq_true rfl) hl.1 hR hS dX11_keyHere_4 ⟨Nat.le_refl _, Nat.le_refl _⟩ (fun v1 hf H locs hR hS => ?_)
  refine x_if_eq (tgt := 14) hC dX11_keyHere_7 (by decide) hf (fun hf => ?_) (fun hf => ?_)
  · refine lv_aload_n hC.1 hC.2.1 dX11_keyHere_14 rfl (lv_at hl 0 rfl) ?_
    refine x_ldc2 (v := 168984) hC tw_1493 dX11_keyHere_15 ?_
    refine x_cvi00 (rest := []) hC xy_X11_isWord tw_1489 hf (fun _ h => M_X11_isWord G l kp h) ⟨Nat.le_of_ble_eq_true rfl, Nat.le_of_ble_eq_true rfl⟩ (xce_57 G kp _ _) rfl rfl rfl (Nat.le_of_ble_eq_true rfl) hl.1 hR hS dX11_keyHere_18 ⟨Nat.le_refl _, Nat.le_refl _⟩ (fun v2 hf H locs hR hS => ?_)
    refine x_if_eq (tgt := 28) hC dX11_keyHere_21 (by decide) hf (fun hf => ?_) (fun hf => ?_)
    · refine lv_aload_n hC.1 hC.2.1 dX11_keyHere_28 rfl (lv_at hl 0 rfl) ?_
      refine x_ldc2 (v := 237470) hC tw_1494 dX11_keyHere_29 ?_
      refine x_cvi00 (rest := []) hC xy_X11_isWord tw_1489 hf (fun _ h => M_X11_isWord G l kp h) ⟨Nat.le_of_ble_eq_true rfl, Nat.le_of_ble_eq_true rfl⟩ (xce_57 G kp _ _) rfl rfl rfl (Nat.le_of_ble_eq_true rfl) hl.1 hR hS dX11_keyHere_32 ⟨Nat.le_refl _, Nat.le_refl _⟩ (fun v3 hf H locs hR hS => ?_)
      refine x_if_eq (tgt := 42) hC dX11_keyHere_35 (by decide) hf (fun hf => ?_) (fun hf => ?_)
      · refine lv_aload_n hC.1 hC.2.1 dX11_keyHere_42 rfl (lv_at hl 0 rfl) ?_
        refine x_ldc2 (v := 257) hC tw_1495 dX11_keyHere_43 ?_
        refine x_cvi00 (rest := []) hC xy_X11_isWord tw_1489 hf (fun _ h => M_X11_isWord G l kp h) ⟨Nat.le_of_ble_eq_true rfl, Nat.le_of_ble_eq_true rfl⟩ (xce_57 G kp _ _) rfl rfl rfl (Nat.le_of_ble_eq_true rfl) hl.1 hR hS dX11_keyHere_46 ⟨Nat.le_refl _, Nat.le_refl _⟩ (fun v4 hf H locs hR hS => ?_)
        refine x_if_eq (tgt := 56) hC dX11_keyHere_49 (by decide) hf (fun hf => ?_) (fun hf => ?_)
        · refine lv_aload_n hC.1 hC.2.1 dX11_keyHere_56 rfl (lv_at hl 0 rfl) ?_
          refine x_ldc2 (v := 149125) hC tw_1496 dX11_keyHere_57 ?_
          refine x_cvi00 (rest := []) hC xy_X11_isWord tw_1489 hf (fun _ h => M_X11_isWord G l kp h) ⟨Nat.le_of_ble_eq_true rfl, Nat.le_of_ble_eq_true rfl⟩ (xce_57 G kp _ _) rfl rfl rfl (Nat.le_of_ble_eq_true rfl) hl.1 hR hS dX11_keyHere_60 ⟨Nat.le_refl _, Nat.le_refl _⟩ (fun v5 hf H locs hR hS => ?_)
          refine x_if_eq (tgt := 70) hC dX11_keyHere_63 (by decide) hf (fun hf => ?_) (fun hf => ?_)
          · refine lv_aload_n hC.1 hC.2.1 dX11_keyHere_70 rfl (lv_at hl 0 rfl) ?_
            refine x_ldc2 (v := 3181) hC tw_1497 dX11_keyHere_71 ?_
            refine x_cvi00 (rest := []) hC xy_X11_isWord tw_1489 hf (fun _ h => M_X11_isWord G l kp h) ⟨Nat.le_of_ble_eq_true rfl, Nat.le_of_ble_eq_true rfl⟩ (xce_57 G kp _ _) rfl rfl rfl (Nat.le_of_ble_eq_true rfl) hl.1 hR hS dX11_keyHere_74 ⟨Nat.le_refl _, Nat.le_refl _⟩ (fun v6 hf H locs hR hS => ?_)
            refine x_if_eq (tgt := 84) hC dX11_keyHere_77 (by decide) hf (fun hf => ?_) (fun hf => ?_)
            · refine lv_iconst (v := (-1)) hC.1 hC.2.1 dX11_keyHere_84 (by decide) ?_
              have h9 := Option.some.inj hf
              subst h9
              exact x_iret hC hR hS dX11_keyHere_85
            · refine lv_iconst (v := 5) hC.1 hC.2.1 dX11_keyHere_80 (by decide) ?_
              refine lv_goto (tgt := 85) hC.1 hC.2.1 dX11_keyHere_81 (by decide) ?_
              have h9 := Option.some.inj hf
              subst h9
              exact x_iret hC hR hS dX11_keyHere_85
          · refine lv_iconst (v := 4) hC.1 hC.2.1 dX11_keyHere_66 (by decide) ?_
            refine lv_goto (tgt := 85) hC.1 hC.2.1 dX11_keyHere_67 (by decide) ?_
            have h9 := Option.some.inj hf
            subst h9
            exact x_iret hC hR hS dX11_keyHere_85
        · refine lv_iconst (v := 3) hC.1 hC.2.1 dX11_keyHere_52 (by decide) ?_
          refine lv_goto (tgt := 85) hC.1 hC.2.1 dX11_keyHere_53 (by decide) ?_
          have h9 := Option.some.inj hf
          subst h9
          exact x_iret hC hR hS dX11_keyHere_85
      · refine lv_iconst (v := 2) hC.1 hC.2.1 dX11_keyHere_38 (by decide) ?_
        refine lv_goto (tgt := 85) hC.1 hC.2.1 dX11_keyHere_39 (by decide) ?_
        have h9 := Option.some.inj hf
        subst h9
        exact x_iret hC hR hS dX11_keyHere_85
    · refine lv_iconst (v := 1) hC.1 hC.2.1 dX11_keyHere_24 (by decide) ?_
      refine lv_goto (tgt := 85) hC.1 hC.2.1 dX11_keyHere_25 (by decide) ?_
      have h9 := Option.some.inj hf
      subst h9
      exact x_iret hC hR hS dX11_keyHere_85
  · refine lv_iconst (v := 0) hC.1 hC.2.1 dX11_keyHere_10 (by decide) ?_
    refine lv_goto (tgt := 85) hC.1 hC.2.1 dX11_keyHere_11 (by decide) ?_
    have h9 := Option.some.inj hf
    subst h9
    exact x_iret hC hR hS dX11_keyHere_85
set_option maxRecDepth 20000 in
theorem M_X11_fail (G : XG) (l : Launch) (kp : Bool) {I : xTI} {L : xTL} {rI : xTI} (hf : F_X11_fail I = some rI) : xMet G l yX11_fail cX11_fail 1 none 0 0 kp [.ref (xz G + 57)] I L none rI L := by
  refine xMet.ofW (by decide +kernel) (Nat.le_of_ble_eq_true rfl) ?_
  intro p e s m args below meth c hC H locs ls hR hS hl
  replace hC : xC G p s m args meth c cX11_fail 1 RX11 none := hC
  replace hl : lv_has ls 1 [(0, .ref (xz G + 57))] := hl
  unfold F_X11_fail at hf
  refine lv_aload_n hC.1 hC.2.1 dX11_fail_0 rfl (lv_at hl 0 rfl) ?_
  refine x_getI hC xf_X11_202 (xce_57 G kp _ _) rfl hR dX11_fail_1 hf (fun v1 hf => ?_)
  refine x_if_ne (tgt := 20) hC dX11_fail_4 (by decide) hf (fun hf => ?_) (fun hf => ?_)
  · have h9 := Option.some.inj hf
    subst h9
    exact x_vret hC hR hS dX11_fail_20
  · refine lv_aload_n hC.1 hC.2.1 dX11_fail_7 rfl (lv_at hl 0 rfl) ?_
    refine lv_iconst (v := 1) hC.1 hC.2.1 dX11_fail_8 (by decide) ?_
    refine x_putZ hC xf_X11_202 xp_11_13 (fun f => (xce_57 G kp f _)) rfl (Nat.le_of_ble_eq_true rfl) hR hS dX11_fail_9 hf (fun I2 hf H locs hR hS => ?_)
    refine lv_aload_n hC.1 hC.2.1 dX11_fail_12 rfl (lv_at hl 0 rfl) ?_
    refine lv_aload_n hC.1 hC.2.1 dX11_fail_13 rfl (lv_at hl 0 rfl) ?_
    refine x_getI hC xf_X11_182 (xce_57 G kp _ _) rfl hR dX11_fail_14 hf (fun v3 hf => ?_)
    refine x_putI hC xf_X11_206 xp_11_14 (fun f => (xce_57 G kp f _)) rfl (Nat.le_of_ble_eq_true rfl) hR hS dX11_fail_17 hf (fun I4 hf H locs hR hS => ?_)
    have h9 := Option.some.inj hf
    subst h9
    exact x_vret hC hR hS dX11_fail_20
set_option maxRecDepth 20000 in
theorem M_X11_isSign (G : XG) (l : Launch) (kp : Bool) {I : xTI} {L : xTL} {x1 : Int32} {r : Int32} (hf : F_X11_isSign I L x1 = some r) : xMet G l yX11_isSign cX11_isSign 2 (some .boolean) 0 0 kp [.ref (xz G + 57), .int x1] I L (some (.int r)) I L := by
  refine xMet.ofW (by decide +kernel) (Nat.le_of_ble_eq_true rfl) ?_
  intro p e s m args below meth c hC H locs ls hR hS hl
  replace hC : xC G p s m args meth c cX11_isSign 2 RX11 (some .boolean) := hC
  replace hl : lv_has ls 2 [(0, .ref (xz G + 57)), (1, .int x1)] := hl
  unfold F_X11_isSign at hf
  refine lv_aload_n hC.1 hC.2.1 dX11_isSign_0 rfl (lv_at hl 0 rfl) ?_
  refine x_getI hC xf_X11_202 (xce_57 G kp _ _) rfl hR dX11_isSign_1 hf (fun v1 hf => ?_)
  refine x_if_ne (tgt := 29) hC dX11_isSign_4 (by decide) hf (fun hf => ?_) (fun hf => ?_)
  · refine lv_iconst (v := 0) hC.1 hC.2.1 dX11_isSign_29 (by decide) ?_
    obtain ⟨h01, hf⟩ := xzc_some hf
    have h9 := Option.some.inj hf
    subst h9
    exact x_zret h01 hC hR hS dX11_isSign_30
  · refine lv_aload_n hC.1 hC.2.1 dX11_isSign_7 rfl (lv_at hl 0 rfl) ?_
    refine x_getI hC xf_X11_185 (xce_57 G kp _ _) rfl hR dX11_isSign_8 hf (fun v2 hf => ?_)
    refine lv_iconst (v := 3) hC.1 hC.2.1 dX11_isSign_11 (by decide) ?_
    refine x_ic_ne (tgt := 29) hC dX11_isSign_12 (by decide) hf (fun hf => ?_) (fun hf => ?_)
    · refine lv_iconst (v := 0) hC.1 hC.2.1 dX11_isSign_29 (by decide) ?_
      obtain ⟨h01, hf⟩ := xzc_some hf
      have h9 := Option.some.inj hf
      subst h9
      exact x_zret h01 hC hR hS dX11_isSign_30
    · refine lv_aload_n hC.1 hC.2.1 dX11_isSign_15 rfl (lv_at hl 0 rfl) ?_
      refine x_getL hC xf_X11_188 (xce_57 G kp _ _) rfl hR dX11_isSign_16 hf (fun v3 hf => ?_)
      refine lv_iload_n hC.1 hC.2.1 dX11_isSign_19 rfl (lv_at hl 1 rfl) ?_
      refine lv_i2l hC.1 hC.2.1 dX11_isSign_20 rfl ?_
      refine W.lcmp hC.1 hC.2.1 dX11_isSign_21 ?_
      refine x_if_ne (tgt := 29) hC dX11_isSign_22 (by decide) hf (fun hf => ?_) (fun hf => ?_)
      · refine lv_iconst (v := 0) hC.1 hC.2.1 dX11_isSign_29 (by decide) ?_
        obtain ⟨h01, hf⟩ := xzc_some hf
        have h9 := Option.some.inj hf
        subst h9
        exact x_zret h01 hC hR hS dX11_isSign_30
      · refine lv_iconst (v := 1) hC.1 hC.2.1 dX11_isSign_25 (by decide) ?_
        refine lv_goto (tgt := 30) hC.1 hC.2.1 dX11_isSign_26 (by decide) ?_
        obtain ⟨h01, hf⟩ := xzc_some hf
        have h9 := Option.some.inj hf
        subst h9
        exact x_zret h01 hC hR hS dX11_isSign_30
set_option maxRecDepth 20000 in
theorem M_X11_opens (G : XG) (l : Launch) (kp : Bool) (N : Nat) {I : xTI} {L : xTL} {r : Int32} {rI : xTI} {rL : xTL} (hf : F_X11_opens N I L = some (r, rI, rL)) : xMet G l yX11_opens cX11_opens 1 (some .boolean) 2 44 kp [.ref (xz G + 57)] I L (some (.int r)) rI rL := by
  refine xMet.ofW (by decide +kernel) (Nat.le_of_ble_eq_true rfl) ?_
  intro p e s m args below meth c hC H locs ls hR hS hl
  replace hC : xC G p s m args meth c cX11_opens 1 RX11 (some .boolean) := hC
  replace hl : lv_has ls 1 [(0, .ref (xz G + 57))] := hl
  unfold F_X11_opens at hf
  refine lv_aload_n hC.1 hC.2.1 dX11_opens_0 rfl (lv_at hl 0 rfl) ?_
  refine x_getI hC xf_X11_209 (xce_57 G kp _ _) rfl hR dX11_opens_1 hf (fun v1 hf => ?_)
  refine lv_bipush (v := 6) hC.1 hC.2.1 dX11_opens_4 (by decide) ?_
  refine x_ic_ne (tgt := 15) hC dX11_opens_6 (by decide) hf (fun hf => ?_) (fun hf => ?_)
  · refine lv_aload_n hC.1 hC.2.1 dX11_opens_15 rfl (lv_at hl 0 rfl) ?_
    refine lv_dup hC.1 hC.2.1 dX11_opens_16 rfl ?_
    refine x_getI hC xf_X11_209 (xce_57 G kp _ _) rfl hR dX11_opens_17 hf (fun v2 hf => ?_)
    refine lv_iconst (v := 1) hC.1 hC.2.1 dX11_opens_20 (by decide) ?_
    refine lv_iadd hC.1 hC.2.1 dX11_opens_21 ?_
    refine x_putI hC xf_X11_209 xp_11_12 (fun f => (xce_57 G kp f _)) rfl (Nat.le_of_ble_eq_true rfl) hR hS dX11_opens_22 hf (fun I3 hf H locs hR hS => ?_)
    refine lv_aload_n hC.1 hC.2.1 dX11_opens_25 rfl (lv_at hl 0 rfl) ?_
    refine x_cvv11 (rest := []) hC xy_X11_next tw_1471 hf (fun _ _ h => M_X11_next G l kp N h) ⟨Nat.le_of_ble_eq_true rfl, Nat.le_of_ble_eq_true rfl⟩ (xce_57 G kp _ _) rfl rfl rfl (Nat.le_of_ble_eq_true rfl) hl.1 hR hS dX11_opens_26 ⟨Nat.le_refl _, Nat.le_refl _⟩ (fun I4 L5 hf H locs hR hS => ?_)
    refine lv_iconst (v := 1) hC.1 hC.2.1 dX11_opens_29 (by decide) ?_
    obtain ⟨h01, hf⟩ := xzc_some hf
    obtain ⟨h91, h90⟩ := Prod.mk.inj (Option.some.inj hf)
    obtain ⟨h92, h93⟩ := Prod.mk.inj h90
    subst h91
    subst h92
    subst h93
    exact x_zret h01 hC hR hS dX11_opens_30
  · refine lv_aload_n hC.1 hC.2.1 dX11_opens_9 rfl (lv_at hl 0 rfl) ?_
    refine x_cvv10 (rest := []) hC xy_X11_fail tw_1498 hf (fun _ h => M_X11_fail G l kp h) ⟨Nat.le_of_ble_eq_true rfl, Nat.le_of_ble_eq_true rfl⟩ (xce_57 G kp _ _) rfl rfl rfl (Nat.le_of_ble_eq_true rfl) hl.1 hR hS dX11_opens_10 ⟨Nat.le_refl _, Nat.le_refl _⟩ (fun I6 hf H locs hR hS => ?_)
    refine lv_iconst (v := 0) hC.1 hC.2.1 dX11_opens_13 (by decide) ?_
    obtain ⟨h01, hf⟩ := xzc_some hf
    obtain ⟨h91, h90⟩ := Prod.mk.inj (Option.some.inj hf)
    obtain ⟨h92, h93⟩ := Prod.mk.inj h90
    subst h91
    subst h92
    subst h93
    exact x_zret h01 hC hR hS dX11_opens_14
