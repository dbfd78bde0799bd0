set_option maxRecDepth 20000 in
theorem W_X11_readRule_j110 {G : XG} {l : Launch} {kp : Bool} {p : Program} {e : Env} {s : State} {m : MethodId} {args : Array Value} {below : List Frame} {meth : Method} {c : Code} (hC : xC G p s m args meth c cX11_readRule 3 RX11 none) (N : Nat) {I : xTI} {L : xTL} {rI : xTI} {rL : xTL} (hf : F_X11_readRule_j110 N I L = some (rI, rL)) : ∀ (H : Heap) (locs : List Loc) (ls : Array Slot), xRep G kp I L H → xS G s.heap H locs → lv_has ls 3 [(0, .ref (xz G + 57))] → W p l e (xrm 84 2006) s m args below meth c H locs 0 0 (xMQ G kp below args s none rI rL) (F0 m 110 ls []) := by
  intro H locs ls hR hS hl
  unfold F_X11_readRule_j110 at hf
  refine lv_aload_n hC.1 hC.2.1 dX11_readRule_110 rfl (lv_at hl 0 rfl) ?_
  refine x_getI hC xf_X11_202 (xce_57 G kp _ _) rfl hR dX11_readRule_111 hf (fun v1 hf => ?_)
  refine x_if_ne (tgt := 128) hC dX11_readRule_114 (by decide) hf (fun hf => ?_) (fun hf => ?_)
  · obtain ⟨h91, h92⟩ := Prod.mk.inj (Option.some.inj hf)
    subst h91
    subst h92
    exact x_vret hC hR hS dX11_readRule_128
  · refine lv_aload_n hC.1 hC.2.1 dX11_readRule_117 rfl (lv_at hl 0 rfl) ?_
    refine x_getI hC xf_X11_185 (xce_57 G kp _ _) rfl hR dX11_readRule_118 hf (fun v2 hf => ?_)
    refine x_if_eq (tgt := 128) hC dX11_readRule_121 (by decide) hf (fun hf => ?_) (fun hf => ?_)
    · obtain ⟨h91, h92⟩ := Prod.mk.inj (Option.some.inj hf)
      subst h91
      subst h92
      exact x_vret hC hR hS dX11_readRule_128
    · refine lv_aload_n hC.1 hC.2.1 dX11_readRule_124 rfl (lv_at hl 0 rfl) ?_
      refine x_cvv10 (rest := []) hC xy_X11_fail tw_1498 hf (fun _ h => M_X11_fail G l kp h) ⟨Nat.le_of_ble_eq_true rfl, Nat.le_of_ble_eq_true rfl⟩ (xce_57 G kp _ _) rfl rfl rfl (Nat.le_of_ble_eq_true rfl) hl.1 hR hS dX11_readRule_125 ⟨Nat.le_refl _, Nat.le_refl _⟩ (fun I3 hf H locs hR hS => ?_)
      obtain ⟨h91, h92⟩ := Prod.mk.inj (Option.some.inj hf)
      subst h91
      subst h92
      exact x_vret hC hR hS dX11_readRule_128
set_option maxRecDepth 20000 in
theorem W_X11_readRule_j107 {G : XG} {l : Launch} {kp : Bool} {p : Program} {e : Env} {s : State} {m : MethodId} {args : Array Value} {below : List Frame} {meth : Method} {c : Code} (hC : xC G p s m args meth c cX11_readRule 3 RX11 none) (N : Nat) {I : xTI} {L : xTL} {rI : xTI} {rL : xTL} {t1 : Int32} (hf : F_X11_readRule_j107 N I L t1 = some (rI, rL)) : ∀ (H : Heap) (locs : List Loc) (ls : Array Slot), xRep G kp I L H → xS G s.heap H locs → lv_has ls 3 [(0, .ref (xz G + 57))] → W p l e (xrm 84 2006) s m args below meth c H locs 0 0 (xMQ G kp below args s none rI rL) (F0 m 107 ls [.int t1, .ref (xz G + 57)]) := by
  intro H locs ls hR hS hl
  unfold F_X11_readRule_j107 at hf
  refine x_putZ hC xf_X11_317 xp_11_19 (fun f => (xce_57 G kp f _)) rfl (Nat.le_of_ble_eq_true rfl) hR hS dX11_readRule_107 hf (fun I1 hf H locs hR hS => ?_)
  exact W_X11_readRule_j110 hC N hf _ _ _ hR hS (lv_sub hl [0] rfl)
set_option maxRecDepth 20000 in
theorem W_X11_readRule_j72 {G : XG} {l : Launch} {kp : Bool} {p : Program} {e : Env} {s : State} {m : MethodId} {args : Array Value} {below : List Frame} {meth : Method} {c : Code} (hC : xC G p s m args meth c cX11_readRule 3 RX11 none) (N : Nat) {I : xTI} {L : xTL} {rI : xTI} {rL : xTL} {t1 : Int32} (hf : F_X11_readRule_j72 N I L t1 = some (rI, rL)) : ∀ (H : Heap) (locs : List Loc) (ls : Array Slot), xRep G kp I L H → xS G s.heap H locs → lv_has ls 3 [(0, .ref (xz G + 57))] → W p l e (xrm 84 2006) s m args below meth c H locs 0 0 (xMQ G kp below args s none rI rL) (F0 m 72 ls [.int t1, .ref (xz G + 57)]) := by
  intro H locs ls hR hS hl
  unfold F_X11_readRule_j72 at hf
  refine x_putI hC xf_X11_314 xp_11_18 (fun f => (xce_57 G kp f _)) rfl (Nat.le_of_ble_eq_true rfl) hR hS dX11_readRule_72 hf (fun I1 hf H locs hR hS => ?_)
  refine lv_aload_n hC.1 hC.2.1 dX11_readRule_75 rfl (lv_at hl 0 rfl) ?_
  refine lv_iconst (v := 1) hC.1 hC.2.1 dX11_readRule_76 (by decide) ?_
  refine x_putZ hC xf_X11_317 xp_11_19 (fun f => (xce_57 G kp f _)) rfl (Nat.le_of_ble_eq_true rfl) hR hS dX11_readRule_77 hf (fun I2 hf H locs hR hS => ?_)
  refine lv_aload_n hC.1 hC.2.1 dX11_readRule_80 rfl (lv_at hl 0 rfl) ?_
  refine x_ldc2 (v := 249) hC tw_1560 dX11_readRule_81 ?_
  refine x_cvi00 (rest := []) hC xy_X11_isWord tw_1489 hf (fun _ h => M_X11_isWord G l kp h) ⟨Nat.le_of_ble_eq_true rfl, Nat.le_of_ble_eq_true rfl⟩ (xce_57 G kp _ _) rfl rfl rfl (Nat.le_of_ble_eq_true rfl) hl.1 hR hS dX11_readRule_84 ⟨Nat.le_refl _, Nat.le_refl _⟩ (fun v3 hf H locs hR hS => ?_)
  refine x_if_eq (tgt := 110) hC dX11_readRule_87 (by decide) hf (fun hf => ?_) (fun hf => ?_)
  · exact W_X11_readRule_j110 hC N hf _ _ _ hR hS (lv_sub hl [0] rfl)
  · refine lv_aload_n hC.1 hC.2.1 dX11_readRule_90 rfl (lv_at hl 0 rfl) ?_
    refine x_cvv11 (rest := []) hC xy_X11_next tw_1471 hf (fun _ _ h => M_X11_next G l kp N h) ⟨Nat.le_of_ble_eq_true rfl, Nat.le_of_ble_eq_true rfl⟩ (xce_57 G kp _ _) rfl rfl rfl (Nat.le_of_ble_eq_true rfl) hl.1 hR hS dX11_readRule_91 ⟨Nat.le_refl _, Nat.le_refl _⟩ (fun I4 L5 hf H locs hR hS => ?_)
    refine lv_aload_n hC.1 hC.2.1 dX11_readRule_94 rfl (lv_at hl 0 rfl) ?_
    refine lv_aload_n hC.1 hC.2.1 dX11_readRule_95 rfl (lv_at hl 0 rfl) ?_
    refine x_cvi11 (rest := [.ref (xz G + 57)]) hC xy_X11_either tw_1502 hf (fun _ _ _ h => M_X11_either G l kp N h) ⟨Nat.le_of_ble_eq_true rfl, Nat.le_of_ble_eq_true rfl⟩ (xce_57 G kp _ _) rfl rfl rfl (Nat.le_of_ble_eq_true rfl) hl.1 hR hS dX11_readRule_96 ⟨Nat.le_refl _, Nat.le_refl _⟩ (fun v6 I7 L8 hf H locs hR hS => ?_)
    refine x_if_eq (tgt := 106) hC dX11_readRule_99 (by decide) hf (fun hf => ?_) (fun hf => ?_)
    · refine lv_iconst (v := 0) hC.1 hC.2.1 dX11_readRule_106 (by decide) ?_
      exact W_X11_readRule_j107 hC N hf _ _ _ hR hS (lv_sub hl [0] rfl)
    · refine lv_iconst (v := 1) hC.1 hC.2.1 dX11_readRule_102 (by decide) ?_
      refine lv_goto (tgt := 107) hC.1 hC.2.1 dX11_readRule_103 (by decide) ?_
      exact W_X11_readRule_j107 hC N hf _ _ _ hR hS (lv_sub hl [0] rfl)
set_option maxRecDepth 20000 in
theorem W_X11_readRule_j56 {G : XG} {l : Launch} {kp : Bool} {p : Program} {e : Env} {s : State} {m : MethodId} {args : Array Value} {below : List Frame} {meth : Method} {c : Code} (hC : xC G p s m args meth c cX11_readRule 3 RX11 none) (N : Nat) {I : xTI} {L : xTL} {rI : xTI} {rL : xTL} (hf : F_X11_readRule_j56 N I L = some (rI, rL)) : ∀ (H : Heap) (locs : List Loc) (ls : Array Slot), xRep G kp I L H → xS G s.heap H locs → lv_has ls 3 [(0, .ref (xz G + 57))] → W p l e (xrm 84 2006) s m args below meth c H locs 0 0 (xMQ G kp below args s none rI rL) (F0 m 56 ls []) := by
  intro H locs ls hR hS hl
  unfold F_X11_readRule_j56 at hf
  refine lv_aload_n hC.1 hC.2.1 dX11_readRule_56 rfl (lv_at hl 0 rfl) ?_
  refine lv_aload_n hC.1 hC.2.1 dX11_readRule_57 rfl (lv_at hl 0 rfl) ?_
  refine x_getI hC xf_X11_202 (xce_57 G kp _ _) rfl hR dX11_readRule_58 hf (fun v1 hf => ?_)
  refine x_if_eq (tgt := 68) hC dX11_readRule_61 (by decide) hf (fun hf => ?_) (fun hf => ?_)
  · refine lv_aload_n hC.1 hC.2.1 dX11_readRule_68 rfl (lv_at hl 0 rfl) ?_
    refine x_cvi11 (rest := [.ref (xz G + 57)]) hC xy_X11_either tw_1502 hf (fun _ _ _ h => M_X11_either G l kp N h) ⟨Nat.le_of_ble_eq_true rfl, Nat.le_of_ble_eq_true rfl⟩ (xce_57 G kp _ _) rfl rfl rfl (Nat.le_of_ble_eq_true rfl) hl.1 hR hS dX11_readRule_69 ⟨Nat.le_refl _, Nat.le_refl _⟩ (fun v2 I3 L4 hf H locs hR hS => ?_)
    exact W_X11_readRule_j72 hC N hf _ _ _ hR hS (lv_sub hl [0] rfl)
  · refine lv_iconst (v := 0) hC.1 hC.2.1 dX11_readRule_64 (by decide) ?_
    refine lv_goto (tgt := 72) hC.1 hC.2.1 dX11_readRule_65 (by decide) ?_
    exact W_X11_readRule_j72 hC N hf _ _ _ hR hS (lv_sub hl [0] rfl)
set_option maxRecDepth 20000 in
theorem M_X11_readRule (G : XG) (l : Launch) (kp : Bool) (N : Nat) {I : xTI} {L : xTL} {x1 : Int32} {x2 : Int32} {rI : xTI} {rL : xTL} (hf : F_X11_readRule N I L x1 x2 = some (rI, rL)) : xMet G l yX11_readRule cX11_readRule 3 none 84 2006 kp [.ref (xz G + 57), .int x1, .int x2] I L none rI rL := by
  refine xMet.ofW (by decide +kernel) (Nat.le_of_ble_eq_true rfl) ?_
  intro p e s m args below meth c hC H locs ls hR hS hl
  replace hC : xC G p s m args meth c cX11_readRule 3 RX11 none := hC
  replace hl : lv_has ls 3 [(0, .ref (xz G + 57)), (1, .int x1), (2, .int x2)] := hl
  unfold F_X11_readRule at hf
  refine lv_aload_n hC.1 hC.2.1 dX11_readRule_0 rfl (lv_at hl 0 rfl) ?_
  refine lv_iload_n hC.1 hC.2.1 dX11_readRule_1 rfl (lv_at hl 1 rfl) ?_
  refine x_putI hC xf_X11_224 xp_11_15 (fun f => (xce_57 G kp f _)) rfl (Nat.le_of_ble_eq_true rfl) hR hS dX11_readRule_2 hf (fun I1 hf H locs hR hS => ?_)
  refine lv_aload_n hC.1 hC.2.1 dX11_readRule_5 rfl (lv_at hl 0 rfl) ?_
  refine lv_iload_n hC.1 hC.2.1 dX11_readRule_6 rfl (lv_at hl 2 rfl) ?_
  refine x_putI hC xf_X11_249 xp_11_16 (fun f => (xce_57 G kp f _)) rfl (Nat.le_of_ble_eq_true rfl) hR hS dX11_readRule_7 hf (fun I2 hf H locs hR hS => ?_)
  refine lv_aload_n hC.1 hC.2.1 dX11_readRule_10 rfl (lv_at hl 0 rfl) ?_
  refine lv_iconst (v := 0) hC.1 hC.2.1 dX11_readRule_11 (by decide) ?_
  refine x_putI hC xf_X11_176 xp_11_11 (fun f => (xce_57 G kp f _)) rfl (Nat.le_of_ble_eq_true rfl) hR hS dX11_readRule_12 hf (fun I3 hf H locs hR hS => ?_)
  refine lv_aload_n hC.1 hC.2.1 dX11_readRule_15 rfl (lv_at hl 0 rfl) ?_
  refine lv_iconst (v := 0) hC.1 hC.2.1 dX11_readRule_16 (by decide) ?_
  refine W.eq (g2 := F0 m 17 ls [.int 0, .ref (xz G + 57)]) rfl ?_
  refine x_putI hC xf_X11_209 xp_11_12 (fun f => (xce_57 G kp f _)) rfl (Nat.le_of_ble_eq_true rfl) hR hS dX11_readRule_17 hf (fun I4 hf H locs hR hS => ?_)
  refine lv_aload_n hC.1 hC.2.1 dX11_readRule_20 rfl (lv_at hl 0 rfl) ?_
  refine lv_iconst (v := 0) hC.1 hC.2.1 dX11_readRule_21 (by decide) ?_
  refine x_putZ hC xf_X11_202 xp_11_13 (fun f => (xce_57 G kp f _)) rfl (Nat.le_of_ble_eq_true rfl) hR hS dX11_readRule_22 hf (fun I5 hf H locs hR hS => ?_)
  refine lv_aload_n hC.1 hC.2.1 dX11_readRule_25 rfl (lv_at hl 0 rfl) ?_
  refine x_cvv11 (rest := []) hC xy_X11_next tw_1471 hf (fun _ _ h => M_X11_next G l kp N h) ⟨Nat.le_of_ble_eq_true rfl, Nat.le_of_ble_eq_true rfl⟩ (xce_57 G kp _ _) rfl rfl rfl (Nat.le_of_ble_eq_true rfl) hl.1 hR hS dX11_readRule_26 ⟨Nat.le_refl _, Nat.le_refl _⟩ (fun I6 L7 hf H locs hR hS => ?_)
  refine lv_aload_n hC.1 hC.2.1 dX11_readRule_29 rfl (lv_at hl 0 rfl) ?_
  refine lv_aload_n hC.1 hC.2.1 dX11_readRule_30 rfl (lv_at hl 0 rfl) ?_
  refine x_cvi00 (rest := [.ref (xz G + 57)]) hC xy_X11_keyHere tw_1484 hf (fun _ h => M_X11_keyHere G l kp h) ⟨Nat.le_of_ble_eq_true rfl, Nat.le_of_ble_eq_true rfl⟩ (xce_57 G kp _ _) rfl rfl rfl (Nat.le_of_ble_eq_true rfl) hl.1 hR hS dX11_readRule_31 ⟨Nat.le_refl _, Nat.le_refl _⟩ (fun v8 hf H locs hR hS => ?_)
  refine x_putI hC xf_X11_311 xp_11_17 (fun f => (xce_57 G kp f _)) rfl (Nat.le_of_ble_eq_true rfl) hR hS dX11_readRule_34 hf (fun I9 hf H locs hR hS => ?_)
  refine lv_aload_n hC.1 hC.2.1 dX11_readRule_37 rfl (lv_at hl 0 rfl) ?_
  refine x_getI hC xf_X11_311 (xce_57 G kp _ _) rfl hR dX11_readRule_38 hf (fun v10 hf => ?_)
  refine W.eq (g2 := F0 m 41 ls [.int v10]) rfl ?_
  refine lv_iconst (v := (-1)) hC.1 hC.2.1 dX11_readRule_41 (by decide) ?_
  refine x_ic_ne (tgt := 52) hC dX11_readRule_42 (by decide) hf (fun hf => ?_) (fun hf => ?_)
  · refine lv_aload_n hC.1 hC.2.1 dX11_readRule_52 rfl (lv_at hl 0 rfl) ?_
    refine x_cvv11 (rest := []) hC xy_X11_next tw_1471 hf (fun _ _ h => M_X11_next G l kp N h) ⟨Nat.le_of_ble_eq_true rfl, Nat.le_of_ble_eq_true rfl⟩ (xce_57 G kp _ _) rfl rfl rfl (Nat.le_of_ble_eq_true rfl) hl.1 hR hS dX11_readRule_53 ⟨Nat.le_refl _, Nat.le_refl _⟩ (fun I11 L12 hf H locs hR hS => ?_)
    exact W_X11_readRule_j56 hC N hf _ _ _ hR hS (lv_sub hl [0] rfl)
  · refine lv_aload_n hC.1 hC.2.1 dX11_readRule_45 rfl (lv_at hl 0 rfl) ?_
    refine x_cvv10 (rest := []) hC xy_X11_fail tw_1498 hf (fun _ h => M_X11_fail G l kp h) ⟨Nat.le_of_ble_eq_true rfl, Nat.le_of_ble_eq_true rfl⟩ (xce_57 G kp _ _) rfl rfl rfl (Nat.le_of_ble_eq_true rfl) hl.1 hR hS dX11_readRule_46 ⟨Nat.le_refl _, Nat.le_refl _⟩ (fun I13 hf H locs hR hS => ?_)
    refine lv_goto (tgt := 56) hC.1 hC.2.1 dX11_readRule_49 (by decide) ?_
    exact W_X11_readRule_j56 hC N hf _ _ _ hR hS (lv_sub hl [0] rfl)
set_option maxRecDepth 20000 in
theorem W_X11_rules_l125 {G : XG} {l : Launch} {kp : Bool} {p : Program} {e : Env} {s : State} {m : MethodId} {args : Array Value} {below : List Frame} {meth : Method} {c : Code} (hC : xC G p s m args meth c cX11_rules 8 RX11 (some .int)) (N : Nat) {L : xTL} {r : Int32} {rI : xTI} {rL : xTL} {x1 : Int32} {x3 : Int32} {x4 : Int32} {x5 : Int32} {x6 : Int32} (k43 : Int32 × xTI × xTL → Option (Int32 × xTI × xTL)) (hk43 : ∀ (x5 : Int32) (I : xTI) (L : xTL) , k43 (x5, I, L) = some (r, rI, rL) → ∀ (H : Heap) (locs : List Loc) (ls : Array Slot), xRep G kp I L H → xS G s.heap H locs → lv_has ls 8 [(0, .ref (xz G + 57)), (1, .int x1), (3, .int x3), (4, .int x4), (5, .int x5)] → W p l e (xrm 85 2028) s m args below meth c H locs 0 0 (xMQ G kp below args s (some (.int r)) rI rL) (F0 m 43 ls [])) : ∀ (n : Nat) (x7 : Int32) (I : xTI) , xlp (F_X11_rules_b125 k43 N L x1 x3 x4 x5 x6 ) n (x7, I) = some (r, rI, rL) → ∀ (H : Heap) (locs : List Loc) (ls : Array Slot), xRep G kp I L H → xS G s.heap H locs → lv_has ls 8 [(0, .ref (xz G + 57)), (1, .int x1), (3, .int x3), (4, .int x4), (5, .int x5), (6, .int x6), (7, .int x7)] → W p l e (xrm 85 2028) s m args below meth c H locs 0 0 (xMQ G kp below args s (some (.int r)) rI rL) (F0 m 125 ls []) := by
  intro n
  induction n with
  | zero =>
    intro x7 I hf
    cases hf
  | succ n hk125 =>
    intro x7 I hf H locs ls hR hS hl
    rw [xlp_s, E_X11_rules_b125] at hf
    unfold F_X11_rules_c125 at hf
    refine lv_iload hC.1 hC.2.1 dX11_rules_125 (lv_at hl 6 rfl) ?_
    refine lv_aload_n hC.1 hC.2.1 dX11_rules_127 rfl (lv_at hl 0 rfl) ?_
    refine x_getI hC xf_X11_173 (xce_57 G kp _ _) rfl hR dX11_rules_128 hf (fun v1 hf => ?_)
    refine x_ic_ge (tgt := 159) hC dX11_rules_131 (by decide) hf (fun hf => ?_) (fun hf => ?_)
    · refine lv_aload_n hC.1 hC.2.1 dX11_rules_159 rfl (lv_at hl 0 rfl) ?_
      refine lv_iload hC.1 hC.2.1 dX11_rules_160 (lv_at hl 3 rfl) ?_
      refine lv_iload_n hC.1 hC.2.1 dX11_rules_162 rfl (lv_at hl 2 rfl) ?_
      refine x_cvv11 (rest := []) hC xy_X11_readRule tw_1467 hf (fun _ _ h => M_X11_readRule G l kp N h) ⟨Nat.le_of_ble_eq_true rfl, Nat.le_of_ble_eq_true rfl⟩ (xce_57 G kp _ _) rfl rfl rfl (Nat.le_of_ble_eq_true rfl) hl.1 hR hS dX11_rules_163 ⟨Nat.le_refl _, Nat.le_refl _⟩ (fun I2 L3 hf H locs hR hS => ?_)
      refine lv_aload_n hC.1 hC.2.1 dX11_rules_166 rfl (lv_at hl 0 rfl) ?_
      refine x_getI hC xf_X11_317 (xce_57 G kp _ _) rfl hR dX11_rules_167 hf (fun v4 hf => ?_)
      refine x_if_eq (tgt := 176) hC dX11_rules_170 (by decide) hf (fun hf => ?_) (fun hf => ?_)
      · refine x_iinc (d := (-1)) (lv' := fun y5 => [(5, .int y5), (0, .ref (xz G + 57)), (1, .int x1), (3, .int x3), (4, .int x4), (6, .int x6), (7, .int x7)]) (k := 4) hC hl dX11_rules_176 rfl (by decide) (Nat.le_of_ble_eq_true rfl) hf (fun _ => rfl) (fun y5 hf ls hl => ?_)
        refine lv_goto (tgt := 43) hC.1 hC.2.1 dX11_rules_179 (by decide) ?_
        exact hk43 y5 I2 L3 hf _ _ _ hR hS (lv_sub hl [1, 2, 3, 4, 0] rfl)
      · refine lv_iload hC.1 hC.2.1 dX11_rules_173 (lv_at hl 4 rfl) ?_
        obtain ⟨h91, h90⟩ := Prod.mk.inj (Option.some.inj hf)
        obtain ⟨h92, h93⟩ := Prod.mk.inj h90
        subst h91
        subst h92
        subst h93
        exact x_iret hC hR hS dX11_rules_175
    · refine lv_aload_n hC.1 hC.2.1 dX11_rules_134 rfl (lv_at hl 0 rfl) ?_
      refine x_get (v := .ref (xz G + 62)) hC xf_X11_28 (xce_57 G kp _ _) rfl hR dX11_rules_135 ?_
      refine lv_iload hC.1 hC.2.1 dX11_rules_138 (lv_at hl 6 rfl) ?_
      refine lv_aload_n hC.1 hC.2.1 dX11_rules_140 rfl (lv_at hl 0 rfl) ?_
      refine x_get (v := .ref (xz G + 58)) hC xf_X11_14 (xce_57 G kp _ _) rfl hR dX11_rules_141 ?_
      refine lv_iload hC.1 hC.2.1 dX11_rules_144 (lv_at hl 5 rfl) ?_
      refine lv_iconst (v := 4) hC.1 hC.2.1 dX11_rules_146 (by decide) ?_
      refine lv_iadd hC.1 hC.2.1 dX11_rules_147 ?_
      refine lv_iload hC.1 hC.2.1 dX11_rules_148 (lv_at hl 6 rfl) ?_
      refine lv_iadd hC.1 hC.2.1 dX11_rules_150 ?_
      refine x_ial hC (xce_58 G kp _ _) hR dX11_rules_151 hf (fun v6 hf => ?_)
      refine W.eq (g2 := F0 m 152 ls [.int v6, .int x7, .ref (xz G + 62)]) rfl ?_
      refine x_ias hC (fun f => (xce_62 G kp f _)) hR hS dX11_rules_152 hf (fun I7 hf H locs hR hS => ?_)
      refine x_iinc (d := 1) (lv' := fun y8 => [(7, .int y8), (0, .ref (xz G + 57)), (1, .int x1), (3, .int x3), (4, .int x4), (5, .int x5), (6, .int x6)]) (k := 6) hC hl dX11_rules_153 rfl (by decide) (Nat.le_of_ble_eq_true rfl) hf (fun _ => rfl) (fun y8 hf ls hl => ?_)
      refine lv_goto (tgt := 125) hC.1 hC.2.1 dX11_rules_156 (by decide) ?_
      exact hk125 y8 I7 hf _ _ _ hR hS (lv_sub hl [1, 2, 3, 4, 5, 6, 0] rfl)
set_option maxRecDepth 20000 in
theorem W_X11_rules_l43 {G : XG} {l : Launch} {kp : Bool} {p : Program} {e : Env} {s : State} {m : MethodId} {args : Array Value} {below : List Frame} {meth : Method} {c : Code} (hC : xC G p s m args meth c cX11_rules 8 RX11 (some .int)) (N : Nat) {r : Int32} {rI : xTI} {rL : xTL} {x1 : Int32} {x3 : Int32} {x4 : Int32} : ∀ (n : Nat) (x5 : Int32) (I : xTI) (L : xTL) , xlp (F_X11_rules_b43 N x1 x3 x4 ) n (x5, I, L) = some (r, rI, rL) → ∀ (H : Heap) (locs : List Loc) (ls : Array Slot), xRep G kp I L H → xS G s.heap H locs → lv_has ls 8 [(0, .ref (xz G + 57)), (1, .int x1), (3, .int x3), (4, .int x4), (5, .int x5)] → W p l e (xrm 85 2028) s m args below meth c H locs 0 0 (xMQ G kp below args s (some (.int r)) rI rL) (F0 m 43 ls []) := by
  intro n
  induction n with
  | zero =>
    intro x5 I L hf
    cases hf
  | succ n hk43 =>
    intro x5 I L hf H locs ls hR hS hl
    rw [xlp_s, E_X11_rules_b43] at hf
    unfold F_X11_rules_c43 at hf
    refine lv_iload hC.1 hC.2.1 dX11_rules_43 (lv_at hl 4 rfl) ?_
    refine x_if_lt (tgt := 182) hC dX11_rules_45 (by decide) hf (fun hf => ?_) (fun hf => ?_)
    · refine lv_iconst (v := (-1)) hC.1 hC.2.1 dX11_rules_182 (by decide) ?_
      obtain ⟨h91, h90⟩ := Prod.mk.inj (Option.some.inj hf)
      obtain ⟨h92, h93⟩ := Prod.mk.inj h90
      subst h91
      subst h92
      subst h93
      exact x_iret hC hR hS dX11_rules_183
    · refine lv_sipush (v := 1082) hC.1 hC.2.1 dX11_rules_48 (by decide) ?_
      refine lv_bipush (v := 124) hC.1 hC.2.1 dX11_rules_51 (by decide) ?_
      refine lv_iload hC.1 hC.2.1 dX11_rules_53 (lv_at hl 4 rfl) ?_
      refine lv_imul hC.1 hC.2.1 dX11_rules_55 ?_
      refine lv_iadd hC.1 hC.2.1 dX11_rules_56 ?_
      refine x_ist (lv' := fun y1 => [(6, .int y1), (0, .ref (xz G + 57)), (1, .int x1), (3, .int x3), (4, .int x4), (5, .int x5)]) hC hl dX11_rules_57 (Nat.le_of_ble_eq_true rfl) hf (fun _ => rfl) (fun y1 hf ls hl => ?_)
      refine lv_aload_n hC.1 hC.2.1 dX11_rules_59 rfl (lv_at hl 1 rfl) ?_
      refine x_get (v := .ref (xz G + 58)) hC xf_X11_14 (xce_57 G kp _ _) rfl hR dX11_rules_60 ?_
      refine lv_iload hC.1 hC.2.1 dX11_rules_63 (lv_at hl 0 rfl) ?_
      refine x_ial hC (xce_58 G kp _ _) hR dX11_rules_65 hf (fun v2 hf => ?_)
      refine lv_iload_n hC.1 hC.2.1 dX11_rules_66 rfl (lv_at hl 2 rfl) ?_
      refine W.eq (g2 := F0 m 67 ls [.int x1, .int v2]) rfl ?_
      refine x_ic_ne (tgt := 176) hC dX11_rules_67 (by decide) hf (fun hf => ?_) (fun hf => ?_)
      · refine x_iinc (d := (-1)) (lv' := fun y3 => [(5, .int y3), (6, .int y1), (0, .ref (xz G + 57)), (1, .int x1), (3, .int x3), (4, .int x4)]) (k := 5) hC hl dX11_rules_176 rfl (by decide) (Nat.le_of_ble_eq_true rfl) hf (fun _ => rfl) (fun y3 hf ls hl => ?_)
        refine lv_goto (tgt := 43) hC.1 hC.2.1 dX11_rules_179 (by decide) ?_
        exact hk43 y3 I L hf _ _ _ hR hS (lv_sub hl [2, 3, 4, 5, 0] rfl)
      · refine lv_aload_n hC.1 hC.2.1 dX11_rules_70 rfl (lv_at hl 1 rfl) ?_
        refine x_get (v := .ref (xz G + 58)) hC xf_X11_14 (xce_57 G kp _ _) rfl hR dX11_rules_71 ?_
        refine lv_iload hC.1 hC.2.1 dX11_rules_74 (lv_at hl 0 rfl) ?_
        refine lv_iconst (v := 1) hC.1 hC.2.1 dX11_rules_76 (by decide) ?_
        refine lv_iadd hC.1 hC.2.1 dX11_rules_77 ?_
        refine x_ial hC (xce_58 G kp _ _) hR dX11_rules_78 hf (fun v4 hf => ?_)
        refine lv_aload_n hC.1 hC.2.1 dX11_rules_79 rfl (lv_at hl 1 rfl) ?_
        refine x_get (v := .ref (xz G + 58)) hC xf_X11_14 (xce_57 G kp _ _) rfl hR dX11_rules_80 ?_
        refine lv_iconst (v := 0) hC.1 hC.2.1 dX11_rules_83 (by decide) ?_
        refine x_ial hC (xce_58 G kp _ _) hR dX11_rules_84 hf (fun v5 hf => ?_)
        refine x_ic_gt (tgt := 176) hC dX11_rules_85 (by decide) hf (fun hf => ?_) (fun hf => ?_)
        · refine x_iinc (d := (-1)) (lv' := fun y6 => [(5, .int y6), (6, .int y1), (0, .ref (xz G + 57)), (1, .int x1), (3, .int x3), (4, .int x4)]) (k := 5) hC hl dX11_rules_176 rfl (by decide) (Nat.le_of_ble_eq_true rfl) hf (fun _ => rfl) (fun y6 hf ls hl => ?_)
          refine lv_goto (tgt := 43) hC.1 hC.2.1 dX11_rules_179 (by decide) ?_
          exact hk43 y6 I L hf _ _ _ hR hS (lv_sub hl [2, 3, 4, 5, 0] rfl)
        · refine lv_aload_n hC.1 hC.2.1 dX11_rules_88 rfl (lv_at hl 1 rfl) ?_
          refine x_get (v := .ref (xz G + 58)) hC xf_X11_14 (xce_57 G kp _ _) rfl hR dX11_rules_89 ?_
          refine lv_iload hC.1 hC.2.1 dX11_rules_92 (lv_at hl 0 rfl) ?_
          refine lv_iconst (v := 2) hC.1 hC.2.1 dX11_rules_94 (by decide) ?_
          refine lv_iadd hC.1 hC.2.1 dX11_rules_95 ?_
          refine x_ial hC (xce_58 G kp _ _) hR dX11_rules_96 hf (fun v7 hf => ?_)
          refine lv_aload_n hC.1 hC.2.1 dX11_rules_97 rfl (lv_at hl 1 rfl) ?_
          refine x_get (v := .ref (xz G + 58)) hC xf_X11_14 (xce_57 G kp _ _) rfl hR dX11_rules_98 ?_
          refine lv_iconst (v := 0) hC.1 hC.2.1 dX11_rules_101 (by decide) ?_
          refine x_ial hC (xce_58 G kp _ _) hR dX11_rules_102 hf (fun v8 hf => ?_)
          refine x_ic_gt (tgt := 109) hC dX11_rules_103 (by decide) hf (fun hf => ?_) (fun hf => ?_)
          · refine lv_aload_n hC.1 hC.2.1 dX11_rules_109 rfl (lv_at hl 1 rfl) ?_
            refine lv_aload_n hC.1 hC.2.1 dX11_rules_110 rfl (lv_at hl 1 rfl) ?_
            refine x_get (v := .ref (xz G + 58)) hC xf_X11_14 (xce_57 G kp _ _) rfl hR dX11_rules_111 ?_
            refine lv_iload hC.1 hC.2.1 dX11_rules_114 (lv_at hl 0 rfl) ?_
            refine lv_iconst (v := 3) hC.1 hC.2.1 dX11_rules_116 (by decide) ?_
            refine lv_iadd hC.1 hC.2.1 dX11_rules_117 ?_
            refine x_ial hC (xce_58 G kp _ _) hR dX11_rules_118 hf (fun v9 hf => ?_)
            refine x_putI hC xf_X11_173 xp_11_7 (fun f => (xce_57 G kp f _)) rfl (Nat.le_of_ble_eq_true rfl) hR hS dX11_rules_119 hf (fun I10 hf H locs hR hS => ?_)
            refine lv_iconst (v := 0) hC.1 hC.2.1 dX11_rules_122 (by decide) ?_
            refine lv_istore (lv' := [(7, .int 0), (6, .int y1), (0, .ref (xz G + 57)), (1, .int x1), (3, .int x3), (4, .int x4), (5, .int x5)]) hC.1 hC.2.1 dX11_rules_123 hl (Nat.le_of_ble_eq_true rfl) rfl (fun ls hl => ?_)
            exact W_X11_rules_l125 hC N _ hk43 _ 0 I10 hf _ _ _ hR hS (lv_sub hl [2, 3, 4, 5, 6, 1, 0] rfl)
          · refine lv_goto (tgt := 176) hC.1 hC.2.1 dX11_rules_106 (by decide) ?_
            refine x_iinc (d := (-1)) (lv' := fun y11 => [(5, .int y11), (6, .int y1), (0, .ref (xz G + 57)), (1, .int x1), (3, .int x3), (4, .int x4)]) (k := 5) hC hl dX11_rules_176 rfl (by decide) (Nat.le_of_ble_eq_true rfl) hf (fun _ => rfl) (fun y11 hf ls hl => ?_)
            refine lv_goto (tgt := 43) hC.1 hC.2.1 dX11_rules_179 (by decide) ?_
            exact hk43 y11 I L hf _ _ _ hR hS (lv_sub hl [2, 3, 4, 5, 0] rfl)
set_option maxRecDepth 20000 in
theorem W_X11_rules_j31 {G : XG} {l : Launch} {kp : Bool} {p : Program} {e : Env} {s : State} {m : MethodId} {args : Array Value} {below : List Frame} {meth : Method} {c : Code} (hC : xC G p s m args meth c cX11_rules 8 RX11 (some .int)) (N : Nat) {I : xTI} {L : xTL} {r : Int32} {rI : xTI} {rL : xTL} {x1 : Int32} {x3 : Int32} {t0 : Int32} (hf : F_X11_rules_j31 N I L x1 x3 t0 = some (r, rI, rL)) : ∀ (H : Heap) (locs : List Loc) (ls : Array Slot), xRep G kp I L H → xS G s.heap H locs → lv_has ls 8 [(0, .ref (xz G + 57)), (1, .int x1), (3, .int x3)] → W p l e (xrm 85 2028) s m args below meth c H locs 0 0 (xMQ G kp below args s (some (.int r)) rI rL) (F0 m 31 ls [.int t0]) := by
  intro H locs ls hR hS hl
  unfold F_X11_rules_j31 at hf
  refine lv_istore (lv' := [(4, .int t0), (0, .ref (xz G + 57)), (1, .int x1), (3, .int x3)]) hC.1 hC.2.1 dX11_rules_31 hl (Nat.le_of_ble_eq_true rfl) rfl (fun ls hl => ?_)
  refine lv_aload_n hC.1 hC.2.1 dX11_rules_33 rfl (lv_at hl 1 rfl) ?_
  refine x_get (v := .ref (xz G + 58)) hC xf_X11_14 (xce_57 G kp _ _) rfl hR dX11_rules_34 ?_
  refine lv_iconst (v := 4) hC.1 hC.2.1 dX11_rules_37 (by decide) ?_
  refine x_ial hC (xce_58 G kp _ _) hR dX11_rules_38 hf (fun v1 hf => ?_)
  refine lv_iconst (v := 1) hC.1 hC.2.1 dX11_rules_39 (by decide) ?_
  refine lv_isub hC.1 hC.2.1 dX11_rules_40 ?_
  refine x_ist (lv' := fun y2 => [(5, .int y2), (4, .int t0), (0, .ref (xz G + 57)), (1, .int x1), (3, .int x3)]) hC hl dX11_rules_41 (Nat.le_of_ble_eq_true rfl) hf (fun _ => rfl) (fun y2 hf ls hl => ?_)
  exact W_X11_rules_l43 hC N _ y2 I L hf _ _ _ hR hS (lv_sub hl [2, 3, 4, 1, 0] rfl)
set_option maxRecDepth 20000 in
theorem W_X11_rules_j14 {G : XG} {l : Launch} {kp : Bool} {p : Program} {e : Env} {s : State} {m : MethodId} {args : Array Value} {below : List Frame} {meth : Method} {c : Code} (hC : xC G p s m args meth c cX11_rules 8 RX11 (some .int)) (N : Nat) {I : xTI} {L : xTL} {r : Int32} {rI : xTI} {rL : xTL} {x1 : Int32} {x2 : Int32} {t0 : Int32} (hf : F_X11_rules_j14 N I L x1 x2 t0 = some (r, rI, rL)) : ∀ (H : Heap) (locs : List Loc) (ls : Array Slot), xRep G kp I L H → xS G s.heap H locs → lv_has ls 8 [(0, .ref (xz G + 57)), (1, .int x1), (2, .int x2)] → W p l e (xrm 85 2028) s m args below meth c H locs 0 0 (xMQ G kp below args s (some (.int r)) rI rL) (F0 m 14 ls [.int t0]) := by
  intro H locs ls hR hS hl
  unfold F_X11_rules_j14 at hf
  refine lv_istore_n (lv' := [(3, .int t0), (0, .ref (xz G + 57)), (1, .int x1), (2, .int x2)]) hC.1 hC.2.1 dX11_rules_14 rfl hl (Nat.le_of_ble_eq_true rfl) rfl (fun ls hl => ?_)
  refine lv_iload_n hC.1 hC.2.1 dX11_rules_15 rfl (lv_at hl 3 rfl) ?_
  refine lv_bipush (v := 100) hC.1 hC.2.1 dX11_rules_16 (by decide) ?_
  refine x_ic_lt (tgt := 30) hC dX11_rules_18 (by decide) hf (fun hf => ?_) (fun hf => ?_)
  · refine lv_iload_n hC.1 hC.2.1 dX11_rules_30 rfl (lv_at hl 3 rfl) ?_
    exact W_X11_rules_j31 hC N hf _ _ _ hR hS (lv_sub hl [1, 2, 0] rfl)
  · refine lv_aload_n hC.1 hC.2.1 dX11_rules_21 rfl (lv_at hl 1 rfl) ?_
    refine lv_iload_n hC.1 hC.2.1 dX11_rules_22 rfl (lv_at hl 0 rfl) ?_
    refine lv_iconst (v := 3) hC.1 hC.2.1 dX11_rules_23 (by decide) ?_
    refine x_cvi00 (rest := []) hC xy_X11_bg tw_1383 hf (fun _ h => M_X11_bg G l kp h) ⟨Nat.le_of_ble_eq_true rfl, Nat.le_of_ble_eq_true rfl⟩ (xce_57 G kp _ _) rfl rfl rfl (Nat.le_of_ble_eq_true rfl) hl.1 hR hS dX11_rules_24 ⟨Nat.le_refl _, Nat.le_refl _⟩ (fun v1 hf H locs hR hS => ?_)
    refine lv_goto (tgt := 31) hC.1 hC.2.1 dX11_rules_27 (by decide) ?_
    exact W_X11_rules_j31 hC N hf _ _ _ hR hS (lv_sub hl [1, 2, 0] rfl)
set_option maxRecDepth 20000 in
theorem M_X11_rules (G : XG) (l : Launch) (kp : Bool) (N : Nat) {I : xTI} {L : xTL} {x1 : Int32} {x2 : Int32} {r : Int32} {rI : xTI} {rL : xTL} (hf : F_X11_rules N I L x1 x2 = some (r, rI, rL)) : xMet G l yX11_rules cX11_rules 8 (some .int) 85 2028 kp [.ref (xz G + 57), .int x1, .int x2] I L (some (.int r)) rI rL := by
  refine xMet.ofW (by decide +kernel) (Nat.le_of_ble_eq_true rfl) ?_
  intro p e s m args below meth c hC H locs ls hR hS hl
  replace hC : xC G p s m args meth c cX11_rules 8 RX11 (some .int) := hC
  replace hl : lv_has ls 8 [(0, .ref (xz G + 57)), (1, .int x1), (2, .int x2)] := hl
  unfold F_X11_rules at hf
  refine lv_iload_n hC.1 hC.2.1 dX11_rules_0 rfl (lv_at hl 2 rfl) ?_
  refine lv_bipush (v := 100) hC.1 hC.2.1 dX11_rules_1 (by decide) ?_
  refine x_ic_lt (tgt := 13) hC dX11_rules_3 (by decide) hf (fun hf => ?_) (fun hf => ?_)
  · refine lv_iconst (v := (-1)) hC.1 hC.2.1 dX11_rules_13 (by decide) ?_
    exact W_X11_rules_j14 hC N hf _ _ _ hR hS (lv_sub hl [0, 1, 2] rfl)
  · refine lv_iload_n hC.1 hC.2.1 dX11_rules_6 rfl (lv_at hl 2 rfl) ?_
    refine lv_bipush (v := 100) hC.1 hC.2.1 dX11_rules_7 (by decide) ?_
    refine lv_isub hC.1 hC.2.1 dX11_rules_9 ?_
    refine lv_goto (tgt := 14) hC.1 hC.2.1 dX11_rules_10 (by decide) ?_
    exact W_X11_rules_j14 hC N hf _ _ _ hR hS (lv_sub hl [0, 1, 2] rfl)
set_option maxRecDepth 20000 in
theorem M_X11_ruled (G : XG) (l : Launch) (kp : Bool) (N : Nat) {I : xTI} {L : xTL} {x1 : Int32} {x2 : Int32} {x3 : Int32} {r : Int32} {rI : xTI} {rL : xTL} (hf : F_X11_ruled N I L x1 x2 x3 = some (r, rI, rL)) : xMet G l yX11_ruled cX11_ruled 4 (some .int) 86 2055 kp [.ref (xz G + 57), .int x1, .int x2, .int x3] I L (some (.int r)) rI rL := by
  refine xMet.ofW (by decide +kernel) (Nat.le_of_ble_eq_true rfl) ?_
  intro p e s m args below meth c hC H locs ls hR hS hl
  replace hC : xC G p s m args meth c cX11_ruled 4 RX11 (some .int) := hC
  replace hl : lv_has ls 4 [(0, .ref (xz G + 57)), (1, .int x1), (2, .int x2), (3, .int x3)] := hl
  unfold F_X11_ruled at hf
  refine lv_aload_n hC.1 hC.2.1 dX11_ruled_0 rfl (lv_at hl 0 rfl) ?_
  refine lv_iload_n hC.1 hC.2.1 dX11_ruled_1 rfl (lv_at hl 1 rfl) ?_
  refine lv_iload_n hC.1 hC.2.1 dX11_ruled_2 rfl (lv_at hl 2 rfl) ?_
  refine x_cvi11 (rest := []) hC xy_X11_rules tw_1463 hf (fun _ _ _ h => M_X11_rules G l kp N h) ⟨Nat.le_of_ble_eq_true rfl, Nat.le_of_ble_eq_true rfl⟩ (xce_57 G kp _ _) rfl rfl rfl (Nat.le_of_ble_eq_true rfl) hl.1 hR hS dX11_ruled_3 ⟨Nat.le_refl _, Nat.le_refl _⟩ (fun v1 I2 L3 hf H locs hR hS => ?_)
  refine lv_iconst (v := (-1)) hC.1 hC.2.1 dX11_ruled_6 (by decide) ?_
  refine x_ic_eq (tgt := 17) hC dX11_ruled_7 (by decide) hf (fun hf => ?_) (fun hf => ?_)
  · refine lv_iload_n hC.1 hC.2.1 dX11_ruled_17 rfl (lv_at hl 3 rfl) ?_
    obtain ⟨h91, h90⟩ := Prod.mk.inj (Option.some.inj hf)
    obtain ⟨h92, h93⟩ := Prod.mk.inj h90
    subst h91
    subst h92
    subst h93
    exact x_iret hC hR hS dX11_ruled_18
  · refine lv_aload_n hC.1 hC.2.1 dX11_ruled_10 rfl (lv_at hl 0 rfl) ?_
    refine x_getI hC xf_X11_314 (xce_57 G kp _ _) rfl hR dX11_ruled_11 hf (fun v4 hf => ?_)
    refine lv_goto (tgt := 18) hC.1 hC.2.1 dX11_ruled_14 (by decide) ?_
    obtain ⟨h91, h90⟩ := Prod.mk.inj (Option.some.inj hf)
    obtain ⟨h92, h93⟩ := Prod.mk.inj h90
    subst h91
    subst h92
    subst h93
    exact x_iret hC hR hS dX11_ruled_18
set_option maxRecDepth 20000 in
theorem W_X11_stand_j65 {G : XG} {l : Launch} {kp : Bool} {p : Program} {e : Env} {s : State} {m : MethodId} {args : Array Value} {below : List Frame} {meth : Method} {c : Code} (hC : xC G p s m args meth c cX11_stand 3 RX11 none) {I : xTI} {L : xTL} {rI : xTI} {x2 : Int32} (hf : F_X11_stand_j65 I x2 = some rI) : ∀ (H : Heap) (locs : List Loc) (ls : Array Slot), xRep G kp I L H → xS G s.heap H locs → lv_has ls 3 [(0, .ref (xz G + 57)), (2, .int x2)] → W p l e (xrm 0 0) s m args below meth c H locs 0 0 (xMQ G kp below args s none rI L) (F0 m 65 ls []) := by
  intro H locs ls hR hS hl
  unfold F_X11_stand_j65 at hf
  refine lv_aload_n hC.1 hC.2.1 dX11_stand_65 rfl (lv_at hl 0 rfl) ?_
  refine x_get (v := .ref (xz G + 58)) hC xf_X11_14 (xce_57 G kp _ _) rfl hR dX11_stand_66 ?_
  refine lv_iload_n hC.1 hC.2.1 dX11_stand_69 rfl (lv_at hl 1 rfl) ?_
  refine lv_bipush (v := 8) hC.1 hC.2.1 dX11_stand_70 (by decide) ?_
  refine lv_iadd hC.1 hC.2.1 dX11_stand_72 ?_
  refine lv_iconst (v := 1) hC.1 hC.2.1 dX11_stand_73 (by decide) ?_
  refine x_ias hC (fun f => (xce_58 G kp f _)) hR hS dX11_stand_74 hf (fun I1 hf H locs hR hS => ?_)
  have h9 := Option.some.inj hf
  subst h9
  exact x_vret hC hR hS dX11_stand_75
set_option maxRecDepth 20000 in
theorem W_X11_stand_j37 {G : XG} {l : Launch} {kp : Bool} {p : Program} {e : Env} {s : State} {m : MethodId} {args : Array Value} {below : List Frame} {meth : Method} {c : Code} (hC : xC G p s m args meth c cX11_stand 3 RX11 none) {I : xTI} {L : xTL} {rI : xTI} {x2 : Int32} (hf : F_X11_stand_j37 I x2 = some rI) : ∀ (H : Heap) (locs : List Loc) (ls : Array Slot), xRep G kp I L H → xS G s.heap H locs → lv_has ls 3 [(0, .ref (xz G + 57)), (2, .int x2)] → W p l e (xrm 0 0) s m args below meth c H locs 0 0 (xMQ G kp below args s none rI L) (F0 m 37 ls []) := by
  intro H locs ls hR hS hl
  unfold F_X11_stand_j37 at hf
  refine lv_aload_n hC.1 hC.2.1 dX11_stand_37 rfl (lv_at hl 0 rfl) ?_
  refine x_get (v := .ref (xz G + 58)) hC xf_X11_14 (xce_57 G kp _ _) rfl hR dX11_stand_38 ?_
  refine lv_iload_n hC.1 hC.2.1 dX11_stand_41 rfl (lv_at hl 1 rfl) ?_
  refine lv_bipush (v := 10) hC.1 hC.2.1 dX11_stand_42 (by decide) ?_
  refine lv_iadd hC.1 hC.2.1 dX11_stand_44 ?_
  refine x_ial hC (xce_58 G kp _ _) hR dX11_stand_45 hf (fun v1 hf => ?_)
  refine lv_iconst (v := (-1)) hC.1 hC.2.1 dX11_stand_46 (by decide) ?_
  refine x_ic_ne (tgt := 65) hC dX11_stand_47 (by decide) hf (fun hf => ?_) (fun hf => ?_)
  · exact W_X11_stand_j65 hC hf _ _ _ hR hS (lv_sub hl [0, 1] rfl)
  · refine lv_aload_n hC.1 hC.2.1 dX11_stand_50 rfl (lv_at hl 0 rfl) ?_
    refine x_get (v := .ref (xz G + 58)) hC xf_X11_14 (xce_57 G kp _ _) rfl hR dX11_stand_51 ?_
    refine lv_iload_n hC.1 hC.2.1 dX11_stand_54 rfl (lv_at hl 1 rfl) ?_
    refine lv_bipush (v := 10) hC.1 hC.2.1 dX11_stand_55 (by decide) ?_
    refine lv_iadd hC.1 hC.2.1 dX11_stand_57 ?_
    refine lv_aload_n hC.1 hC.2.1 dX11_stand_58 rfl (lv_at hl 0 rfl) ?_
    refine x_get (v := .ref (xz G + 58)) hC xf_X11_14 (xce_57 G kp _ _) rfl hR dX11_stand_59 ?_
    refine lv_iconst (v := 0) hC.1 hC.2.1 dX11_stand_62 (by decide) ?_
    refine x_ial hC (xce_58 G kp _ _) hR dX11_stand_63 hf (fun v2 hf => ?_)
    refine x_ias hC (fun f => (xce_58 G kp f _)) hR hS dX11_stand_64 hf (fun I3 hf H locs hR hS => ?_)
    exact W_X11_stand_j65 hC hf _ _ _ hR hS (lv_sub hl [0, 1] rfl)
set_option maxRecDepth 20000 in
theorem M_X11_stand (G : XG) (l : Launch) (kp : Bool) {I : xTI} {L : xTL} {x1 : Int32} {rI : xTI} (hf : F_X11_stand I x1 = some rI) : xMet G l yX11_stand cX11_stand 3 none 0 0 kp [.ref (xz G + 57), .int x1] I L none rI L := by
  refine xMet.ofW (by decide +kernel) (Nat.le_of_ble_eq_true rfl) ?_
  intro p e s m args below meth c hC H locs ls hR hS hl
  replace hC : xC G p s m args meth c cX11_stand 3 RX11 none := hC
  replace hl : lv_has ls 3 [(0, .ref (xz G + 57)), (1, .int x1)] := hl
  unfold F_X11_stand at hf
  refine lv_sipush (v := 192) hC.1 hC.2.1 dX11_stand_0 (by decide) ?_
  refine lv_bipush (v := 12) hC.1 hC.2.1 dX11_stand_3 (by decide) ?_
  refine lv_iload_n hC.1 hC.2.1 dX11_stand_5 rfl (lv_at hl 1 rfl) ?_
  refine lv_imul hC.1 hC.2.1 dX11_stand_6 ?_
  refine lv_iadd hC.1 hC.2.1 dX11_stand_7 ?_
  refine x_istn (lv' := fun y1 => [(2, .int y1), (0, .ref (xz G + 57)), (1, .int x1)]) hC hl dX11_stand_8 rfl (Nat.le_of_ble_eq_true rfl) hf (fun _ => rfl) (fun y1 hf ls hl => ?_)
  refine lv_aload_n hC.1 hC.2.1 dX11_stand_9 rfl (lv_at hl 1 rfl) ?_
  refine x_get (v := .ref (xz G + 58)) hC xf_X11_14 (xce_57 G kp _ _) rfl hR dX11_stand_10 ?_
  refine lv_iload_n hC.1 hC.2.1 dX11_stand_13 rfl (lv_at hl 0 rfl) ?_
  refine lv_bipush (v := 9) hC.1 hC.2.1 dX11_stand_14 (by decide) ?_
  refine lv_iadd hC.1 hC.2.1 dX11_stand_16 ?_
  refine W.eq (g2 := F0 m 17 ls [.int (y1 + 9), .ref (xz G + 58)]) rfl ?_
  refine x_ial hC (xce_58 G kp _ _) hR dX11_stand_17 hf (fun v2 hf => ?_)
  refine lv_iconst (v := (-1)) hC.1 hC.2.1 dX11_stand_18 (by decide) ?_
  refine x_ic_ne (tgt := 37) hC dX11_stand_19 (by decide) hf (fun hf => ?_) (fun hf => ?_)
  · exact W_X11_stand_j37 hC hf _ _ _ hR hS (lv_sub hl [1, 0] rfl)
  · refine lv_aload_n hC.1 hC.2.1 dX11_stand_22 rfl (lv_at hl 1 rfl) ?_
    refine x_get (v := .ref (xz G + 58)) hC xf_X11_14 (xce_57 G kp _ _) rfl hR dX11_stand_23 ?_
    refine lv_iload_n hC.1 hC.2.1 dX11_stand_26 rfl (lv_at hl 0 rfl) ?_
    refine lv_bipush (v := 9) hC.1 hC.2.1 dX11_stand_27 (by decide) ?_
    refine lv_iadd hC.1 hC.2.1 dX11_stand_29 ?_
    refine lv_aload_n hC.1 hC.2.1 dX11_stand_30 rfl (lv_at hl 1 rfl) ?_
    refine x_get (v := .ref (xz G + 58)) hC xf_X11_14 (xce_57 G kp _ _) rfl hR dX11_stand_31 ?_
    refine lv_iconst (v := 0) hC.1 hC.2.1 dX11_stand_34 (by decide) ?_
    refine x_ial hC (xce_58 G kp _ _) hR dX11_stand_35 hf (fun v3 hf => ?_)
    refine x_ias hC (fun f => (xce_58 G kp f _)) hR hS dX11_stand_36 hf (fun I4 hf H locs hR hS => ?_)
    exact W_X11_stand_j37 hC hf _ _ _ hR hS (lv_sub hl [1, 0] rfl)
set_option maxRecDepth 20000 in
theorem W_X11_putOff_j16 {G : XG} {l : Launch} {kp : Bool} {p : Program} {e : Env} {s : State} {m : MethodId} {args : Array Value} {below : List Frame} {meth : Method} {c : Code} (hC : xC G p s m args meth c cX11_putOff 11 RX11 (some .int)) (N : Nat) {I : xTI} {L : xTL} {r : Int32} {rI : xTI} {rL : xTL} (hf : F_X11_putOff_j16 N I L = some (r, rI, rL)) : ∀ (H : Heap) (locs : List Loc) (ls : Array Slot), xRep G kp I L H → xS G s.heap H locs → lv_has ls 11 [(0, .ref (xz G + 57))] → W p l e (xrm 87 2078) s m args below meth c H locs 0 0 (xMQ G kp below args s (some (.int r)) rI rL) (F0 m 16 ls []) := by
  intro H locs ls hR hS hl
  unfold F_X11_putOff_j16 at hf
  refine lv_aload_n hC.1 hC.2.1 dX11_putOff_16 rfl (lv_at hl 0 rfl) ?_
  refine lv_bipush (v := (-3)) hC.1 hC.2.1 dX11_putOff_17 (by decide) ?_
  refine x_cvi10 (rest := []) hC xy_X11_refuse tw_1338 hf (fun _ _ h => M_X11_refuse G l kp h) ⟨Nat.le_of_ble_eq_true rfl, Nat.le_of_ble_eq_true rfl⟩ (xce_57 G kp _ _) rfl rfl rfl (Nat.le_of_ble_eq_true rfl) hl.1 hR hS dX11_putOff_19 ⟨Nat.le_refl _, Nat.le_refl _⟩ (fun v1 I2 hf H locs hR hS => ?_)
  obtain ⟨h91, h90⟩ := Prod.mk.inj (Option.some.inj hf)
  obtain ⟨h92, h93⟩ := Prod.mk.inj h90
  subst h91
  subst h92
  subst h93
  exact x_iret hC hR hS dX11_putOff_22
set_option maxRecDepth 20000 in
theorem W_X11_putOff_j72 {G : XG} {l : Launch} {kp : Bool} {p : Program} {e : Env} {s : State} {m : MethodId} {args : Array Value} {below : List Frame} {meth : Method} {c : Code} (hC : xC G p s m args meth c cX11_putOff 11 RX11 (some .int)) (N : Nat) {I : xTI} {L : xTL} {r : Int32} {rI : xTI} {rL : xTL} (hf : F_X11_putOff_j72 N I L = some (r, rI, rL)) : ∀ (H : Heap) (locs : List Loc) (ls : Array Slot), xRep G kp I L H → xS G s.heap H locs → lv_has ls 11 [(0, .ref (xz G + 57))] → W p l e (xrm 87 2078) s m args below meth c H locs 0 0 (xMQ G kp below args s (some (.int r)) rI rL) (F0 m 72 ls []) := by
  intro H locs ls hR hS hl
  unfold F_X11_putOff_j72 at hf
  refine lv_aload_n hC.1 hC.2.1 dX11_putOff_72 rfl (lv_at hl 0 rfl) ?_
  refine lv_bipush (v := (-7)) hC.1 hC.2.1 dX11_putOff_73 (by decide) ?_
  refine x_cvi10 (rest := []) hC xy_X11_refuse tw_1338 hf (fun _ _ h => M_X11_refuse G l kp h) ⟨Nat.le_of_ble_eq_true rfl, Nat.le_of_ble_eq_true rfl⟩ (xce_57 G kp _ _) rfl rfl rfl (Nat.le_of_ble_eq_true rfl) hl.1 hR hS dX11_putOff_75 ⟨Nat.le_refl _, Nat.le_refl _⟩ (fun v1 I2 hf H locs hR hS => ?_)
  obtain ⟨h91, h90⟩ := Prod.mk.inj (Option.some.inj hf)
  obtain ⟨h92, h93⟩ := Prod.mk.inj h90
  subst h91
  subst h92
  subst h93
  exact x_iret hC hR hS dX11_putOff_78
set_option maxRecDepth 20000 in
theorem W_X11_putOff_j195 {G : XG} {l : Launch} {kp : Bool} {p : Program} {e : Env} {s : State} {m : MethodId} {args : Array Value} {below : List Frame} {meth : Method} {c : Code} (hC : xC G p s m args meth c cX11_putOff 11 RX11 (some .int)) (N : Nat) {I : xTI} {L : xTL} {r : Int32} {rI : xTI} {rL : xTL} {x9 : Int32} {t1 : Int32} {t2 : Int32} {t3 : Int32} {t4 : Int32} {t5 : Int32} (hf : F_X11_putOff_j195 N I L x9 t1 t2 t3 t4 t5 = some (r, rI, rL)) : ∀ (H : Heap) (locs : List Loc) (ls : Array Slot), xRep G kp I L H → xS G s.heap H locs → lv_has ls 11 [(0, .ref (xz G + 57)), (9, .int x9)] → W p l e (xrm 87 2078) s m args below meth c H locs 0 0 (xMQ G kp below args s (some (.int r)) rI rL) (F0 m 195 ls [.int t5, .int t4, .int t3, .int t2, .int t1, .ref (xz G + 57)]) := by
  intro H locs ls hR hS hl
  unfold F_X11_putOff_j195 at hf
  refine lv_aload_n hC.1 hC.2.1 dX11_putOff_195 rfl (lv_at hl 0 rfl) ?_
  refine x_get (v := .ref (xz G + 58)) hC xf_X11_14 (xce_57 G kp _ _) rfl hR dX11_putOff_196 ?_
  refine lv_iconst (v := 0) hC.1 hC.2.1 dX11_putOff_199 (by decide) ?_
  refine x_ial hC (xce_58 G kp _ _) hR dX11_putOff_200 hf (fun v1 hf => ?_)
  refine lv_bipush (v := 14) hC.1 hC.2.1 dX11_putOff_201 (by decide) ?_
  refine lv_idiv hC.1 hC.2.1 dX11_putOff_203 (by decide) ?_
  refine lv_iconst (v := 1) hC.1 hC.2.1 dX11_putOff_204 (by decide) ?_
  refine lv_iadd hC.1 hC.2.1 dX11_putOff_205 ?_
  refine x_cvi10 (rest := []) hC xy_X11_makes tw_1431 hf (fun _ _ h => M_X11_makes G l kp N h) ⟨Nat.le_of_ble_eq_true rfl, Nat.le_of_ble_eq_true rfl⟩ (xce_57 G kp _ _) rfl rfl rfl (Nat.le_of_ble_eq_true rfl) hl.1 hR hS dX11_putOff_206 ⟨Nat.le_refl _, Nat.le_refl _⟩ (fun v2 I3 hf H locs hR hS => ?_)
  refine lv_istore (lv' := [(10, .int v2), (0, .ref (xz G + 57)), (9, .int x9)]) hC.1 hC.2.1 dX11_putOff_209 hl (Nat.le_of_ble_eq_true rfl) rfl (fun ls hl => ?_)
  refine lv_aload_n hC.1 hC.2.1 dX11_putOff_211 rfl (lv_at hl 1 rfl) ?_
  refine W.eq (g2 := F0 m 212 ls [.ref (xz G + 57)]) rfl ?_
  refine x_get (v := .ref (xz G + 58)) hC xf_X11_14 (xce_57 G kp _ _) rfl hR dX11_putOff_212 ?_
  refine lv_sipush (v := 192) hC.1 hC.2.1 dX11_putOff_215 (by decide) ?_
  refine lv_bipush (v := 12) hC.1 hC.2.1 dX11_putOff_218 (by decide) ?_
  refine lv_iload hC.1 hC.2.1 dX11_putOff_220 (lv_at hl 2 rfl) ?_
  refine lv_imul hC.1 hC.2.1 dX11_putOff_222 ?_
  refine lv_iadd hC.1 hC.2.1 dX11_putOff_223 ?_
  refine lv_bipush (v := 11) hC.1 hC.2.1 dX11_putOff_224 (by decide) ?_
  refine lv_iadd hC.1 hC.2.1 dX11_putOff_226 ?_
  refine lv_iconst (v := 1) hC.1 hC.2.1 dX11_putOff_227 (by decide) ?_
  refine x_ias hC (fun f => (xce_58 G kp f _)) hR hS dX11_putOff_228 hf (fun I4 hf H locs hR hS => ?_)
  refine lv_aload_n hC.1 hC.2.1 dX11_putOff_229 rfl (lv_at hl 1 rfl) ?_
  refine x_get (v := .ref (xz G + 58)) hC xf_X11_14 (xce_57 G kp _ _) rfl hR dX11_putOff_230 ?_
  refine W.eq (g2 := F0 m 233 ls [.ref (xz G + 58)]) rfl ?_
  refine lv_sipush (v := 192) hC.1 hC.2.1 dX11_putOff_233 (by decide) ?_
  refine lv_bipush (v := 12) hC.1 hC.2.1 dX11_putOff_236 (by decide) ?_
  refine lv_iload hC.1 hC.2.1 dX11_putOff_238 (lv_at hl 0 rfl) ?_
  refine lv_imul hC.1 hC.2.1 dX11_putOff_240 ?_
  refine lv_iadd hC.1 hC.2.1 dX11_putOff_241 ?_
  refine lv_bipush (v := 11) hC.1 hC.2.1 dX11_putOff_242 (by decide) ?_
  refine lv_iadd hC.1 hC.2.1 dX11_putOff_244 ?_
  refine lv_iconst (v := 1) hC.1 hC.2.1 dX11_putOff_245 (by decide) ?_
  refine x_ias hC (fun f => (xce_58 G kp f _)) hR hS dX11_putOff_246 hf (fun I5 hf H locs hR hS => ?_)
  refine lv_aload_n hC.1 hC.2.1 dX11_putOff_247 rfl (lv_at hl 1 rfl) ?_
  refine lv_iload hC.1 hC.2.1 dX11_putOff_248 (lv_at hl 2 rfl) ?_
  refine x_cvv10 (rest := []) hC xy_X11_stand tw_1563 hf (fun _ h => M_X11_stand G l kp h) ⟨Nat.le_of_ble_eq_true rfl, Nat.le_of_ble_eq_true rfl⟩ (xce_57 G kp _ _) rfl rfl rfl (Nat.le_of_ble_eq_true rfl) hl.1 hR hS dX11_putOff_250 ⟨Nat.le_refl _, Nat.le_refl _⟩ (fun I6 hf H locs hR hS => ?_)
  refine W.eq (g2 := F0 m 253 ls []) rfl ?_
  refine lv_aload_n hC.1 hC.2.1 dX11_putOff_253 rfl (lv_at hl 1 rfl) ?_
  refine lv_iload hC.1 hC.2.1 dX11_putOff_254 (lv_at hl 0 rfl) ?_
  refine x_cvv10 (rest := []) hC xy_X11_stand tw_1563 hf (fun _ h => M_X11_stand G l kp h) ⟨Nat.le_of_ble_eq_true rfl, Nat.le_of_ble_eq_true rfl⟩ (xce_57 G kp _ _) rfl rfl rfl (Nat.le_of_ble_eq_true rfl) hl.1 hR hS dX11_putOff_256 ⟨Nat.le_refl _, Nat.le_refl _⟩ (fun I7 hf H locs hR hS => ?_)
  refine lv_iload hC.1 hC.2.1 dX11_putOff_259 (lv_at hl 0 rfl) ?_
  obtain ⟨h91, h90⟩ := Prod.mk.inj (Option.some.inj hf)
  obtain ⟨h92, h93⟩ := Prod.mk.inj h90
  subst h91
  subst h92
  subst h93
  exact x_iret hC hR hS dX11_putOff_261
set_option maxRecDepth 20000 in
theorem M_X11_putOff (G : XG) (l : Launch) (kp : Bool) (N : Nat) {I : xTI} {L : xTL} {x1 : Int32} {x2 : Int32} {x3 : Int32} {r : Int32} {rI : xTI} {rL : xTL} (hf : F_X11_putOff N I L x1 x2 x3 = some (r, rI, rL)) : xMet G l yX11_putOff cX11_putOff 11 (some .int) 87 2078 kp [.ref (xz G + 57), .int x1, .int x2, .int x3] I L (some (.int r)) rI rL := by
  refine xMet.ofW (by decide +kernel) (Nat.le_of_ble_eq_true rfl) ?_
  intro p e s m args below meth c hC H locs ls hR hS hl
  replace hC : xC G p s m args meth c cX11_putOff 11 RX11 (some .int) := hC
  replace hl : lv_has ls 11 [(0, .ref (xz G + 57)), (1, .int x1), (2, .int x2), (3, .int x3)] := hl
  unfold F_X11_putOff at hf
  refine lv_aload_n hC.1 hC.2.1 dX11_putOff_0 rfl (lv_at hl 0 rfl) ?_
  refine lv_iload_n hC.1 hC.2.1 dX11_putOff_1 rfl (lv_at hl 1 rfl) ?_
  refine x_cvi00 (rest := []) hC xy_X11_areMen tw_1415 hf (fun _ h => M_X11_areMen G l kp h) ⟨Nat.le_of_ble_eq_true rfl, Nat.le_of_ble_eq_true rfl⟩ (xce_57 G kp _ _) rfl rfl rfl (Nat.le_of_ble_eq_true rfl) hl.1 hR hS dX11_putOff_2 ⟨Nat.le_refl _, Nat.le_refl _⟩ (fun v1 hf H locs hR hS => ?_)
  refine x_if_eq (tgt := 16) hC dX11_putOff_5 (by decide) hf (fun hf => ?_) (fun hf => ?_)
  · exact W_X11_putOff_j16 hC N hf _ _ _ hR hS (lv_sub hl [0] rfl)
  · refine lv_aload_n hC.1 hC.2.1 dX11_putOff_8 rfl (lv_at hl 0 rfl) ?_
    refine lv_iload_n hC.1 hC.2.1 dX11_putOff_9 rfl (lv_at hl 2 rfl) ?_
    refine x_cvi00 (rest := []) hC xy_X11_isStock tw_1359 hf (fun _ h => M_X11_isStock G l kp h) ⟨Nat.le_of_ble_eq_true rfl, Nat.le_of_ble_eq_true rfl⟩ (xce_57 G kp _ _) rfl rfl rfl (Nat.le_of_ble_eq_true rfl) hl.1 hR hS dX11_putOff_10 ⟨Nat.le_refl _, Nat.le_refl _⟩ (fun v2 hf H locs hR hS => ?_)
    refine x_if_ne (tgt := 23) hC dX11_putOff_13 (by decide) hf (fun hf => ?_) (fun hf => ?_)
    · refine lv_aload_n hC.1 hC.2.1 dX11_putOff_23 rfl (lv_at hl 0 rfl) ?_
      refine x_get (v := .ref (xz G + 58)) hC xf_X11_14 (xce_57 G kp _ _) rfl hR dX11_putOff_24 ?_
      refine lv_sipush (v := 184) hC.1 hC.2.1 dX11_putOff_27 (by decide) ?_
      refine lv_iload_n hC.1 hC.2.1 dX11_putOff_30 rfl (lv_at hl 2 rfl) ?_
      refine lv_iadd hC.1 hC.2.1 dX11_putOff_31 ?_
      refine x_ial hC (xce_58 G kp _ _) hR dX11_putOff_32 hf (fun v3 hf => ?_)
      refine lv_istore (lv' := [(4, .int v3), (0, .ref (xz G + 57)), (1, .int x1), (2, .int x2), (3, .int x3)]) hC.1 hC.2.1 dX11_putOff_33 hl (Nat.le_of_ble_eq_true rfl) rfl (fun ls hl => ?_)
      refine lv_iload_n hC.1 hC.2.1 dX11_putOff_35 rfl (lv_at hl 4 rfl) ?_
      refine lv_iconst (v := 1) hC.1 hC.2.1 dX11_putOff_36 (by decide) ?_
      refine lv_bipush (v := 99) hC.1 hC.2.1 dX11_putOff_37 (by decide) ?_
      refine x_csi00 (rest := []) hC xy_X11_in tw_1335 hf (fun _ h => M_X11_in G l kp h) ⟨Nat.le_of_ble_eq_true rfl, Nat.le_of_ble_eq_true rfl⟩ rfl rfl (Nat.le_of_ble_eq_true rfl) hl.1 hR hS dX11_putOff_39 ⟨Nat.le_refl _, Nat.le_refl _⟩ (fun v4 hf H locs hR hS => ?_)
      refine W.eq (g2 := F0 m 42 ls [.int v4]) rfl ?_
      refine x_if_eq (tgt := 72) hC dX11_putOff_42 (by decide) hf (fun hf => ?_) (fun hf => ?_)
      · exact W_X11_putOff_j72 hC N hf _ _ _ hR hS (lv_sub hl [1] rfl)
      · refine lv_aload_n hC.1 hC.2.1 dX11_putOff_45 rfl (lv_at hl 1 rfl) ?_
        refine lv_iload_n hC.1 hC.2.1 dX11_putOff_46 rfl (lv_at hl 2 rfl) ?_
        refine x_cvi00 (rest := []) hC xy_X11_mayDeal tw_1419 hf (fun _ h => M_X11_mayDeal G l kp h) ⟨Nat.le_of_ble_eq_true rfl, Nat.le_of_ble_eq_true rfl⟩ (xce_57 G kp _ _) rfl rfl rfl (Nat.le_of_ble_eq_true rfl) hl.1 hR hS dX11_putOff_47 ⟨Nat.le_refl _, Nat.le_refl _⟩ (fun v5 hf H locs hR hS => ?_)
        refine x_if_eq (tgt := 72) hC dX11_putOff_50 (by decide) hf (fun hf => ?_) (fun hf => ?_)
        · exact W_X11_putOff_j72 hC N hf _ _ _ hR hS (lv_sub hl [1] rfl)
        · refine lv_aload_n hC.1 hC.2.1 dX11_putOff_53 rfl (lv_at hl 1 rfl) ?_
          refine x_get (v := .ref (xz G + 58)) hC xf_X11_14 (xce_57 G kp _ _) rfl hR dX11_putOff_54 ?_
          refine lv_iconst (v := 0) hC.1 hC.2.1 dX11_putOff_57 (by decide) ?_
          refine x_ial hC (xce_58 G kp _ _) hR dX11_putOff_58 hf (fun v6 hf => ?_)
          refine lv_bipush (v := 14) hC.1 hC.2.1 dX11_putOff_59 (by decide) ?_
          refine lv_irem hC.1 hC.2.1 dX11_putOff_61 (by decide) ?_
          refine lv_bipush (v := 10) hC.1 hC.2.1 dX11_putOff_62 (by decide) ?_
          refine x_ic_ne (tgt := 72) hC dX11_putOff_64 (by decide) hf (fun hf => ?_) (fun hf => ?_)
          · exact W_X11_putOff_j72 hC N hf _ _ _ hR hS (lv_sub hl [1] rfl)
          · refine lv_iload hC.1 hC.2.1 dX11_putOff_67 (lv_at hl 0 rfl) ?_
            refine x_if_ne (tgt := 79) hC dX11_putOff_69 (by decide) hf (fun hf => ?_) (fun hf => ?_)
            · refine lv_aload_n hC.1 hC.2.1 dX11_putOff_79 rfl (lv_at hl 1 rfl) ?_
              refine lv_aload_n hC.1 hC.2.1 dX11_putOff_80 rfl (lv_at hl 1 rfl) ?_
              refine lv_iconst (v := 0) hC.1 hC.2.1 dX11_putOff_81 (by decide) ?_
              refine x_cvi00 (rest := [.ref (xz G + 57)]) hC xy_X11_free tw_1423 hf (fun _ h => M_X11_free G l kp N h) ⟨Nat.le_of_ble_eq_true rfl, Nat.le_of_ble_eq_true rfl⟩ (xce_57 G kp _ _) rfl rfl rfl (Nat.le_of_ble_eq_true rfl) hl.1 hR hS dX11_putOff_82 ⟨Nat.le_refl _, Nat.le_refl _⟩ (fun v7 hf H locs hR hS => ?_)
              refine lv_iconst (v := 1) hC.1 hC.2.1 dX11_putOff_85 (by decide) ?_
              refine lv_iadd hC.1 hC.2.1 dX11_putOff_86 ?_
              refine x_cvi00 (rest := []) hC xy_X11_free tw_1423 hf (fun _ h => M_X11_free G l kp N h) ⟨Nat.le_of_ble_eq_true rfl, Nat.le_of_ble_eq_true rfl⟩ (xce_57 G kp _ _) rfl rfl rfl (Nat.le_of_ble_eq_true rfl) hl.1 hR hS dX11_putOff_87 ⟨Nat.le_refl _, Nat.le_refl _⟩ (fun v8 hf H locs hR hS => ?_)
              refine lv_bipush (v := 60) hC.1 hC.2.1 dX11_putOff_90 (by decide) ?_
              refine x_ic_lt (tgt := 102) hC dX11_putOff_92 (by decide) hf (fun hf => ?_) (fun hf => ?_)
              · refine lv_iload hC.1 hC.2.1 dX11_putOff_102 (lv_at hl 0 rfl) ?_
                refine lv_i2l hC.1 hC.2.1 dX11_putOff_104 rfl ?_
                refine lv_iload hC.1 hC.2.1 dX11_putOff_105 (lv_at hl 0 rfl) ?_
                refine lv_i2l hC.1 hC.2.1 dX11_putOff_107 rfl ?_
                refine lv_aload_n hC.1 hC.2.1 dX11_putOff_108 rfl (lv_at hl 1 rfl) ?_
                refine lv_iconst (v := 0) hC.1 hC.2.1 dX11_putOff_109 (by decide) ?_
                refine lv_iload_n hC.1 hC.2.1 dX11_putOff_110 rfl (lv_at hl 3 rfl) ?_
                refine lv_iconst (v := 0) hC.1 hC.2.1 dX11_putOff_111 (by decide) ?_
                refine x_cvi11 (rest := [.long (v3.toInt64), .long (v3.toInt64)]) hC xy_X11_ruled tw_1459 hf (fun _ _ _ h => M_X11_ruled G l kp N h) ⟨Nat.le_of_ble_eq_true rfl, Nat.le_of_ble_eq_true rfl⟩ (xce_57 G kp _ _) rfl rfl rfl (Nat.le_of_ble_eq_true rfl) hl.1 hR hS dX11_putOff_112 ⟨Nat.le_refl _, Nat.le_refl _⟩ (fun v9 I10 L11 hf H locs hR hS => ?_)
                refine lv_i2l hC.1 hC.2.1 dX11_putOff_115 rfl ?_
                refine lv_lmul hC.1 hC.2.1 dX11_putOff_116 ?_
                refine W.eq (g2 := F0 m 117 ls [.long ((v3.toInt64) * (v9.toInt64)), .long (v3.toInt64)]) rfl ?_
                refine x_ldc2 (v := 10000) hC tw_1561 dX11_putOff_117 ?_
                refine lv_ldiv hC.1 hC.2.1 dX11_putOff_120 (by decide) ?_
                refine lv_ladd hC.1 hC.2.1 dX11_putOff_121 ?_
                refine x_lst (lv' := fun y12 => [(5, .long y12), (4, .int v3), (0, .ref (xz G + 57)), (1, .int x1), (2, .int x2), (3, .int x3)]) hC hl dX11_putOff_122 (Nat.le_of_ble_eq_true rfl) hf (fun _ => rfl) (fun y12 hf ls hl => ?_)
                refine lv_iload_n hC.1 hC.2.1 dX11_putOff_124 rfl (lv_at hl 3 rfl) ?_
                refine lv_bipush (v := 100) hC.1 hC.2.1 dX11_putOff_125 (by decide) ?_
                refine lv_idiv hC.1 hC.2.1 dX11_putOff_127 (by decide) ?_
                refine x_ist (lv' := fun y13 => [(7, .int y13), (5, .long y12), (4, .int v3), (0, .ref (xz G + 57)), (1, .int x1), (2, .int x2), (3, .int x3)]) hC hl dX11_putOff_128 (Nat.le_of_ble_eq_true rfl) hf (fun _ => rfl) (fun y13 hf ls hl => ?_)
                refine lv_iload_n hC.1 hC.2.1 dX11_putOff_130 rfl (lv_at hl 4 rfl) ?_
                refine lv_bipush (v := 100) hC.1 hC.2.1 dX11_putOff_131 (by decide) ?_
                refine lv_irem hC.1 hC.2.1 dX11_putOff_133 (by decide) ?_
                refine x_ist (lv' := fun y14 => [(8, .int y14), (7, .int y13), (5, .long y12), (4, .int v3), (0, .ref (xz G + 57)), (1, .int x1), (2, .int x2), (3, .int x3)]) hC hl dX11_putOff_134 (Nat.le_of_ble_eq_true rfl) hf (fun _ => rfl) (fun y14 hf ls hl => ?_)
                refine W.eq (g2 := F0 m 136 ls []) rfl ?_
                refine lv_aload_n hC.1 hC.2.1 dX11_putOff_136 rfl (lv_at hl 4 rfl) ?_
                refine lv_iload hC.1 hC.2.1 dX11_putOff_137 (lv_at hl 1 rfl) ?_
                refine lv_iload hC.1 hC.2.1 dX11_putOff_139 (lv_at hl 0 rfl) ?_
                refine lv_iload_n hC.1 hC.2.1 dX11_putOff_141 rfl (lv_at hl 6 rfl) ?_
                refine lv_iload_n hC.1 hC.2.1 dX11_putOff_142 rfl (lv_at hl 7 rfl) ?_
                refine lv_iload hC.1 hC.2.1 dX11_putOff_143 (lv_at hl 3 rfl) ?_
                refine lv_aload_n hC.1 hC.2.1 dX11_putOff_145 rfl (lv_at hl 4 rfl) ?_
                refine x_get (v := .ref (xz G + 58)) hC xf_X11_14 (xce_57 G kp _ _) rfl hR dX11_putOff_146 ?_
                refine lv_iconst (v := 0) hC.1 hC.2.1 dX11_putOff_149 (by decide) ?_
                refine x_ial hC (xce_58 G kp _ _) hR dX11_putOff_150 hf (fun v15 hf => ?_)
                refine lv_bipush (v := 14) hC.1 hC.2.1 dX11_putOff_151 (by decide) ?_
                refine lv_idiv hC.1 hC.2.1 dX11_putOff_153 (by decide) ?_
                refine W.eq (g2 := F0 m 154 ls [.int (v15 / 14), .int v3, .int x3, .int x2, .int y14, .int y13, .ref (xz G + 57)]) rfl ?_
                refine x_cvi10 (rest := []) hC xy_X11_makes tw_1431 hf (fun _ _ h => M_X11_makes G l kp N h) ⟨Nat.le_of_ble_eq_true rfl, Nat.le_of_ble_eq_true rfl⟩ (xce_57 G kp _ _) rfl rfl rfl (Nat.le_of_ble_eq_true rfl) hl.1 hR hS dX11_putOff_154 ⟨Nat.le_refl _, Nat.le_refl _⟩ (fun v16 I17 hf H locs hR hS => ?_)
                refine lv_istore (lv' := [(9, .int v16), (8, .int y14), (7, .int y13), (5, .long y12), (4, .int v3), (0, .ref (xz G + 57)), (1, .int x1), (2, .int x2), (3, .int x3)]) hC.1 hC.2.1 dX11_putOff_157 hl (Nat.le_of_ble_eq_true rfl) rfl (fun ls hl => ?_)
                refine lv_aload_n hC.1 hC.2.1 dX11_putOff_159 rfl (lv_at hl 5 rfl) ?_
                refine lv_iload hC.1 hC.2.1 dX11_putOff_160 (lv_at hl 1 rfl) ?_
                refine lv_iload hC.1 hC.2.1 dX11_putOff_162 (lv_at hl 2 rfl) ?_
                refine lv_iload_n hC.1 hC.2.1 dX11_putOff_164 rfl (lv_at hl 7 rfl) ?_
                refine lv_iload_n hC.1 hC.2.1 dX11_putOff_165 rfl (lv_at hl 8 rfl) ?_
                refine lv_lload hC.1 hC.2.1 dX11_putOff_166 (lv_at hl 3 rfl) ?_
                refine lv_lconst (v := 1) hC.1 hC.2.1 dX11_putOff_168 (by decide) ?_
                refine W.lcmp hC.1 hC.2.1 dX11_putOff_169 ?_
                refine x_if_ge (tgt := 177) hC dX11_putOff_170 (by decide) hf (fun hf => ?_) (fun hf => ?_)
                · refine lv_lload hC.1 hC.2.1 dX11_putOff_177 (lv_at hl 3 rfl) ?_
                  refine x_ldc2 (v := 9999) hC tw_1562 dX11_putOff_179 ?_
                  refine W.lcmp hC.1 hC.2.1 dX11_putOff_182 ?_
                  refine x_if_le (tgt := 192) hC dX11_putOff_183 (by decide) hf (fun hf => ?_) (fun hf => ?_)
                  · refine lv_lload hC.1 hC.2.1 dX11_putOff_192 (lv_at hl 3 rfl) ?_
                    refine lv_l2i hC.1 hC.2.1 dX11_putOff_194 rfl ?_
                    exact W_X11_putOff_j195 hC N hf _ _ _ hR hS (lv_sub hl [5, 0] rfl)
                  · refine lv_sipush (v := 9999) hC.1 hC.2.1 dX11_putOff_186 (by decide) ?_
                    refine lv_goto (tgt := 195) hC.1 hC.2.1 dX11_putOff_189 (by decide) ?_
                    exact W_X11_putOff_j195 hC N hf _ _ _ hR hS (lv_sub hl [5, 0] rfl)
                · refine lv_iconst (v := 1) hC.1 hC.2.1 dX11_putOff_173 (by decide) ?_
                  refine lv_goto (tgt := 195) hC.1 hC.2.1 dX11_putOff_174 (by decide) ?_
                  exact W_X11_putOff_j195 hC N hf _ _ _ hR hS (lv_sub hl [5, 0] rfl)
              · refine lv_aload_n hC.1 hC.2.1 dX11_putOff_95 rfl (lv_at hl 1 rfl) ?_
                refine lv_bipush (v := (-8)) hC.1 hC.2.1 dX11_putOff_96 (by decide) ?_
                refine x_cvi10 (rest := []) hC xy_X11_refuse tw_1338 hf (fun _ _ h => M_X11_refuse G l kp h) ⟨Nat.le_of_ble_eq_true rfl, Nat.le_of_ble_eq_true rfl⟩ (xce_57 G kp _ _) rfl rfl rfl (Nat.le_of_ble_eq_true rfl) hl.1 hR hS dX11_putOff_98 ⟨Nat.le_refl _, Nat.le_refl _⟩ (fun v18 I19 hf H locs hR hS => ?_)
                obtain ⟨h91, h90⟩ := Prod.mk.inj (Option.some.inj hf)
                obtain ⟨h92, h93⟩ := Prod.mk.inj h90
                subst h91
                subst h92
                subst h93
                exact x_iret hC hR hS dX11_putOff_101
            · exact W_X11_putOff_j72 hC N hf _ _ _ hR hS (lv_sub hl [1] rfl)
    · exact W_X11_putOff_j16 hC N hf _ _ _ hR hS (lv_sub hl [0] rfl)
set_option maxRecDepth 20000 in
theorem W_X11_option_j16 {G : XG} {l : Launch} {kp : Bool} {p : Program} {e : Env} {s : State} {m : MethodId} {args : Array Value} {below : List Frame} {meth : Method} {c : Code} (hC : xC G p s m args meth c cX11_option 7 RX11 (some .int)) {I : xTI} {L : xTL} {r : Int32} {rI : xTI} {rL : xTL} (hf : F_X11_option_j16 I L = some (r, rI, rL)) : ∀ (H : Heap) (locs : List Loc) (ls : Array Slot), xRep G kp I L H → xS G s.heap H locs → lv_has ls 7 [(0, .ref (xz G + 57))] → W p l e (xrm 3 64) s m args below meth c H locs 0 0 (xMQ G kp below args s (some (.int r)) rI rL) (F0 m 16 ls []) := by
  intro H locs ls hR hS hl
  unfold F_X11_option_j16 at hf
  refine lv_aload_n hC.1 hC.2.1 dX11_option_16 rfl (lv_at hl 0 rfl) ?_
  refine lv_bipush (v := (-3)) hC.1 hC.2.1 dX11_option_17 (by decide) ?_
  refine x_cvi10 (rest := []) hC xy_X11_refuse tw_1338 hf (fun _ _ h => M_X11_refuse G l kp h) ⟨Nat.le_of_ble_eq_true rfl, Nat.le_of_ble_eq_true rfl⟩ (xce_57 G kp _ _) rfl rfl rfl (Nat.le_of_ble_eq_true rfl) hl.1 hR hS dX11_option_19 ⟨Nat.le_refl _, Nat.le_refl _⟩ (fun v1 I2 hf H locs hR hS => ?_)
  obtain ⟨h91, h90⟩ := Prod.mk.inj (Option.some.inj hf)
  obtain ⟨h92, h93⟩ := Prod.mk.inj h90
  subst h91
  subst h92
  subst h93
  exact x_iret hC hR hS dX11_option_22
set_option maxRecDepth 20000 in
theorem W_X11_option_j103 {G : XG} {l : Launch} {kp : Bool} {p : Program} {e : Env} {s : State} {m : MethodId} {args : Array Value} {below : List Frame} {meth : Method} {c : Code} (hC : xC G p s m args meth c cX11_option 7 RX11 (some .int)) {I : xTI} {L : xTL} {r : Int32} {rI : xTI} {rL : xTL} (hf : F_X11_option_j103 I L = some (r, rI, rL)) : ∀ (H : Heap) (locs : List Loc) (ls : Array Slot), xRep G kp I L H → xS G s.heap H locs → lv_has ls 7 [(0, .ref (xz G + 57))] → W p l e (xrm 3 64) s m args below meth c H locs 0 0 (xMQ G kp below args s (some (.int r)) rI rL) (F0 m 103 ls []) := by
  intro H locs ls hR hS hl
  unfold F_X11_option_j103 at hf
  refine lv_aload_n hC.1 hC.2.1 dX11_option_103 rfl (lv_at hl 0 rfl) ?_
  refine lv_bipush (v := (-7)) hC.1 hC.2.1 dX11_option_104 (by decide) ?_
  refine x_cvi10 (rest := []) hC xy_X11_refuse tw_1338 hf (fun _ _ h => M_X11_refuse G l kp h) ⟨Nat.le_of_ble_eq_true rfl, Nat.le_of_ble_eq_true rfl⟩ (xce_57 G kp _ _) rfl rfl rfl (Nat.le_of_ble_eq_true rfl) hl.1 hR hS dX11_option_106 ⟨Nat.le_refl _, Nat.le_refl _⟩ (fun v1 I2 hf H locs hR hS => ?_)
  obtain ⟨h91, h90⟩ := Prod.mk.inj (Option.some.inj hf)
  obtain ⟨h92, h93⟩ := Prod.mk.inj h90
  subst h91
  subst h92
  subst h93
  exact x_iret hC hR hS dX11_option_109
set_option maxRecDepth 20000 in
theorem M_X11_option (G : XG) (l : Launch) (kp : Bool) {I : xTI} {L : xTL} {x1 : Int32} {x2 : Int32} {x3 : Int32} {x4 : Int32} {r : Int32} {rI : xTI} {rL : xTL} (hf : F_X11_option I L x1 x2 x3 x4 = some (r, rI, rL)) : xMet G l yX11_option cX11_option 7 (some .int) 3 64 kp [.ref (xz G + 57), .int x1, .int x2, .int x3, .int x4] I L (some (.int r)) rI rL := by
  refine xMet.ofW (by decide +kernel) (Nat.le_of_ble_eq_true rfl) ?_
  intro p e s m args below meth c hC H locs ls hR hS hl
  replace hC : xC G p s m args meth c cX11_option 7 RX11 (some .int) := hC
  replace hl : lv_has ls 7 [(0, .ref (xz G + 57)), (1, .int x1), (2, .int x2), (3, .int x3), (4, .int x4)] := hl
  unfold F_X11_option at hf
  refine lv_aload_n hC.1 hC.2.1 dX11_option_0 rfl (lv_at hl 0 rfl) ?_
  refine lv_iload_n hC.1 hC.2.1 dX11_option_1 rfl (lv_at hl 1 rfl) ?_
  refine x_cvi00 (rest := []) hC xy_X11_areMen tw_1415 hf (fun _ h => M_X11_areMen G l kp h) ⟨Nat.le_of_ble_eq_true rfl, Nat.le_of_ble_eq_true rfl⟩ (xce_57 G kp _ _) rfl rfl rfl (Nat.le_of_ble_eq_true rfl) hl.1 hR hS dX11_option_2 ⟨Nat.le_refl _, Nat.le_refl _⟩ (fun v1 hf H locs hR hS => ?_)
  refine x_if_eq (tgt := 16) hC dX11_option_5 (by decide) hf (fun hf => ?_) (fun hf => ?_)
  · exact W_X11_option_j16 hC hf _ _ _ hR hS (lv_sub hl [0] rfl)
  · refine lv_aload_n hC.1 hC.2.1 dX11_option_8 rfl (lv_at hl 0 rfl) ?_
    refine lv_iload_n hC.1 hC.2.1 dX11_option_9 rfl (lv_at hl 2 rfl) ?_
    refine x_cvi00 (rest := []) hC xy_X11_isStock tw_1359 hf (fun _ h => M_X11_isStock G l kp h) ⟨Nat.le_of_ble_eq_true rfl, Nat.le_of_ble_eq_true rfl⟩ (xce_57 G kp _ _) rfl rfl rfl (Nat.le_of_ble_eq_true rfl) hl.1 hR hS dX11_option_10 ⟨Nat.le_refl _, Nat.le_refl _⟩ (fun v2 hf H locs hR hS => ?_)
    refine x_if_ne (tgt := 23) hC dX11_option_13 (by decide) hf (fun hf => ?_) (fun hf => ?_)
    · refine lv_iload_n hC.1 hC.2.1 dX11_option_23 rfl (lv_at hl 1 rfl) ?_
      refine lv_bipush (v := 100) hC.1 hC.2.1 dX11_option_24 (by decide) ?_
      refine lv_idiv hC.1 hC.2.1 dX11_option_26 (by decide) ?_
      refine x_ist (lv' := fun y3 => [(5, .int y3), (0, .ref (xz G + 57)), (1, .int x1), (2, .int x2), (3, .int x3), (4, .int x4)]) hC hl dX11_option_27 (Nat.le_of_ble_eq_true rfl) hf (fun _ => rfl) (fun y3 hf ls hl => ?_)
      refine lv_iload_n hC.1 hC.2.1 dX11_option_29 rfl (lv_at hl 4 rfl) ?_
      refine x_if_lt (tgt := 103) hC dX11_option_30 (by decide) hf (fun hf => ?_) (fun hf => ?_)
      · exact W_X11_option_j103 hC hf _ _ _ hR hS (lv_sub hl [1] rfl)
      · refine lv_iload_n hC.1 hC.2.1 dX11_option_33 rfl (lv_at hl 4 rfl) ?_
        refine lv_sipush (v := 10000) hC.1 hC.2.1 dX11_option_34 (by decide) ?_
        refine lv_idiv hC.1 hC.2.1 dX11_option_37 (by decide) ?_
        refine lv_iconst (v := 1) hC.1 hC.2.1 dX11_option_38 (by decide) ?_
        refine lv_bipush (v := 99) hC.1 hC.2.1 dX11_option_39 (by decide) ?_
        refine x_csi00 (rest := []) hC xy_X11_in tw_1335 hf (fun _ h => M_X11_in G l kp h) ⟨Nat.le_of_ble_eq_true rfl, Nat.le_of_ble_eq_true rfl⟩ rfl rfl (Nat.le_of_ble_eq_true rfl) hl.1 hR hS dX11_option_41 ⟨Nat.le_refl _, Nat.le_refl _⟩ (fun v4 hf H locs hR hS => ?_)
        refine x_if_eq (tgt := 103) hC dX11_option_44 (by decide) hf (fun hf => ?_) (fun hf => ?_)
        · exact W_X11_option_j103 hC hf _ _ _ hR hS (lv_sub hl [1] rfl)
        · refine lv_iload_n hC.1 hC.2.1 dX11_option_47 rfl (lv_at hl 4 rfl) ?_
          refine lv_sipush (v := 10000) hC.1 hC.2.1 dX11_option_48 (by decide) ?_
          refine lv_irem hC.1 hC.2.1 dX11_option_51 (by decide) ?_
          refine x_if_eq (tgt := 103) hC dX11_option_52 (by decide) hf (fun hf => ?_) (fun hf => ?_)
          · exact W_X11_option_j103 hC hf _ _ _ hR hS (lv_sub hl [1] rfl)
          · refine lv_iload hC.1 hC.2.1 dX11_option_55 (lv_at hl 5 rfl) ?_
            refine x_if_lt (tgt := 103) hC dX11_option_57 (by decide) hf (fun hf => ?_) (fun hf => ?_)
            · exact W_X11_option_j103 hC hf _ _ _ hR hS (lv_sub hl [1] rfl)
            · refine lv_iload hC.1 hC.2.1 dX11_option_60 (lv_at hl 5 rfl) ?_
              refine lv_sipush (v := 10000) hC.1 hC.2.1 dX11_option_62 (by decide) ?_
              refine lv_idiv hC.1 hC.2.1 dX11_option_65 (by decide) ?_
              refine lv_iconst (v := 1) hC.1 hC.2.1 dX11_option_66 (by decide) ?_
              refine lv_bipush (v := 40) hC.1 hC.2.1 dX11_option_67 (by decide) ?_
              refine x_csi00 (rest := []) hC xy_X11_in tw_1335 hf (fun _ h => M_X11_in G l kp h) ⟨Nat.le_of_ble_eq_true rfl, Nat.le_of_ble_eq_true rfl⟩ rfl rfl (Nat.le_of_ble_eq_true rfl) hl.1 hR hS dX11_option_69 ⟨Nat.le_refl _, Nat.le_refl _⟩ (fun v5 hf H locs hR hS => ?_)
              refine x_if_eq (tgt := 103) hC dX11_option_72 (by decide) hf (fun hf => ?_) (fun hf => ?_)
              · exact W_X11_option_j103 hC hf _ _ _ hR hS (lv_sub hl [1] rfl)
              · refine lv_aload_n hC.1 hC.2.1 dX11_option_75 rfl (lv_at hl 1 rfl) ?_
                refine lv_iload_n hC.1 hC.2.1 dX11_option_76 rfl (lv_at hl 2 rfl) ?_
                refine x_cvi00 (rest := []) hC xy_X11_mayDeal tw_1419 hf (fun _ h => M_X11_mayDeal G l kp h) ⟨Nat.le_of_ble_eq_true rfl, Nat.le_of_ble_eq_true rfl⟩ (xce_57 G kp _ _) rfl rfl rfl (Nat.le_of_ble_eq_true rfl) hl.1 hR hS dX11_option_77 ⟨Nat.le_refl _, Nat.le_refl _⟩ (fun v6 hf H locs hR hS => ?_)
                refine x_if_eq (tgt := 103) hC dX11_option_80 (by decide) hf (fun hf => ?_) (fun hf => ?_)
                · exact W_X11_option_j103 hC hf _ _ _ hR hS (lv_sub hl [1] rfl)
                · refine lv_aload_n hC.1 hC.2.1 dX11_option_83 rfl (lv_at hl 1 rfl) ?_
                  refine x_get (v := .ref (xz G + 59)) hC xf_X11_18 (xce_57 G kp _ _) rfl hR dX11_option_84 ?_
                  refine lv_iconst (v := 0) hC.1 hC.2.1 dX11_option_87 (by decide) ?_
                  refine lv_iload hC.1 hC.2.1 dX11_option_88 (lv_at hl 0 rfl) ?_
                  refine lv_iadd hC.1 hC.2.1 dX11_option_90 ?_
                  refine x_lal hC (xce_59 G kp _ _) hR dX11_option_91 hf (fun v7 hf => ?_)
                  refine lv_iload hC.1 hC.2.1 dX11_option_92 (lv_at hl 5 rfl) ?_
                  refine lv_sipush (v := 10000) hC.1 hC.2.1 dX11_option_94 (by decide) ?_
                  refine lv_irem hC.1 hC.2.1 dX11_option_97 (by decide) ?_
                  refine lv_i2l hC.1 hC.2.1 dX11_option_98 rfl ?_
                  refine W.lcmp hC.1 hC.2.1 dX11_option_99 ?_
                  refine W.eq (g2 := F0 m 100 ls [.int (lg_cmp v7 ((x4 - x4 / 10000 * 10000).toInt64))]) rfl ?_
                  refine x_if_ge (tgt := 110) hC dX11_option_100 (by decide) hf (fun hf => ?_) (fun hf => ?_)
                  · refine lv_aload_n hC.1 hC.2.1 dX11_option_110 rfl (lv_at hl 1 rfl) ?_
                    refine x_get (v := .ref (xz G + 58)) hC xf_X11_14 (xce_57 G kp _ _) rfl hR dX11_option_111 ?_
                    refine lv_iconst (v := 3) hC.1 hC.2.1 dX11_option_114 (by decide) ?_
                    refine x_ial hC (xce_58 G kp _ _) hR dX11_option_115 hf (fun v8 hf => ?_)
                    refine lv_bipush (v := 20) hC.1 hC.2.1 dX11_option_116 (by decide) ?_
                    refine x_ic_ne (tgt := 128) hC dX11_option_118 (by decide) hf (fun hf => ?_) (fun hf => ?_)
                    · refine lv_aload_n hC.1 hC.2.1 dX11_option_128 rfl (lv_at hl 1 rfl) ?_
                      refine x_get (v := .ref (xz G + 59)) hC xf_X11_18 (xce_57 G kp _ _) rfl hR dX11_option_129 ?_
                      refine lv_iconst (v := 0) hC.1 hC.2.1 dX11_option_132 (by decide) ?_
                      refine lv_iload hC.1 hC.2.1 dX11_option_133 (lv_at hl 0 rfl) ?_
                      refine lv_iadd hC.1 hC.2.1 dX11_option_135 ?_
                      refine lv_dup2_11 hC.1 hC.2.1 dX11_option_136 rfl rfl ?_
                      refine x_lal hC (xce_59 G kp _ _) hR dX11_option_137 hf (fun v9 hf => ?_)
                      refine lv_iload hC.1 hC.2.1 dX11_option_138 (lv_at hl 5 rfl) ?_
                      refine lv_sipush (v := 10000) hC.1 hC.2.1 dX11_option_140 (by decide) ?_
                      refine lv_irem hC.1 hC.2.1 dX11_option_143 (by decide) ?_
                      refine lv_i2l hC.1 hC.2.1 dX11_option_144 rfl ?_
                      refine W.eq (g2 := F0 m 145 ls [.long ((x4 - x4 / 10000 * 10000).toInt64), .long v9, .int (0 + y3), .ref (xz G + 59)]) rfl ?_
                      refine lv_lsub hC.1 hC.2.1 dX11_option_145 ?_
                      refine x_las hC (fun f => (xce_59 G kp _ f)) hR hS dX11_option_146 hf (fun L10 hf H locs hR hS => ?_)
                      refine lv_aload_n hC.1 hC.2.1 dX11_option_147 rfl (lv_at hl 1 rfl) ?_
                      refine x_get (v := .ref (xz G + 59)) hC xf_X11_18 (xce_57 G kp _ _) rfl hR dX11_option_148 ?_
                      refine lv_iconst (v := 0) hC.1 hC.2.1 dX11_option_151 (by decide) ?_
                      refine lv_iload_n hC.1 hC.2.1 dX11_option_152 rfl (lv_at hl 2 rfl) ?_
                      refine lv_bipush (v := 100) hC.1 hC.2.1 dX11_option_153 (by decide) ?_
                      refine lv_irem hC.1 hC.2.1 dX11_option_155 (by decide) ?_
                      refine lv_iadd hC.1 hC.2.1 dX11_option_156 ?_
                      refine lv_dup2_11 hC.1 hC.2.1 dX11_option_157 rfl rfl ?_
                      refine x_lal hC (xce_59 G kp _ _) hR dX11_option_158 hf (fun v11 hf => ?_)
                      refine lv_iload hC.1 hC.2.1 dX11_option_159 (lv_at hl 5 rfl) ?_
                      refine W.eq (g2 := F0 m 161 ls [.int x4, .long v11, .int (0 + (x1 - x1 / 100 * 100)), .ref (xz G + 59)]) rfl ?_
                      refine lv_sipush (v := 10000) hC.1 hC.2.1 dX11_option_161 (by decide) ?_
                      refine lv_irem hC.1 hC.2.1 dX11_option_164 (by decide) ?_
                      refine lv_i2l hC.1 hC.2.1 dX11_option_165 rfl ?_
                      refine lv_ladd hC.1 hC.2.1 dX11_option_166 ?_
                      refine x_las hC (fun f => (xce_59 G kp _ f)) hR hS dX11_option_167 hf (fun L12 hf H locs hR hS => ?_)
                      refine lv_sipush (v := 912) hC.1 hC.2.1 dX11_option_168 (by decide) ?_
                      refine lv_bipush (v := 7) hC.1 hC.2.1 dX11_option_171 (by decide) ?_
                      refine lv_aload_n hC.1 hC.2.1 dX11_option_173 rfl (lv_at hl 1 rfl) ?_
                      refine x_get (v := .ref (xz G + 58)) hC xf_X11_14 (xce_57 G kp _ _) rfl hR dX11_option_174 ?_
                      refine lv_iconst (v := 3) hC.1 hC.2.1 dX11_option_177 (by decide) ?_
                      refine x_ial hC (xce_58 G kp _ _) hR dX11_option_178 hf (fun v13 hf => ?_)
                      refine lv_imul hC.1 hC.2.1 dX11_option_179 ?_
                      refine W.eq (g2 := F0 m 180 ls [.int (7 * v13), .int 912]) rfl ?_
                      refine lv_iadd hC.1 hC.2.1 dX11_option_180 ?_
                      refine x_ist (lv' := fun y14 => [(6, .int y14), (5, .int y3), (0, .ref (xz G + 57)), (1, .int x1), (2, .int x2), (3, .int x3), (4, .int x4)]) hC hl dX11_option_181 (Nat.le_of_ble_eq_true rfl) hf (fun _ => rfl) (fun y14 hf ls hl => ?_)
                      refine lv_aload_n hC.1 hC.2.1 dX11_option_183 rfl (lv_at hl 2 rfl) ?_
                      refine x_get (v := .ref (xz G + 58)) hC xf_X11_14 (xce_57 G kp _ _) rfl hR dX11_option_184 ?_
                      refine lv_iload hC.1 hC.2.1 dX11_option_187 (lv_at hl 0 rfl) ?_
                      refine lv_iload hC.1 hC.2.1 dX11_option_189 (lv_at hl 1 rfl) ?_
                      refine x_ias hC (fun f => (xce_58 G kp f _)) hR hS dX11_option_191 hf (fun I15 hf H locs hR hS => ?_)
                      refine lv_aload_n hC.1 hC.2.1 dX11_option_192 rfl (lv_at hl 2 rfl) ?_
                      refine x_get (v := .ref (xz G + 58)) hC xf_X11_14 (xce_57 G kp _ _) rfl hR dX11_option_193 ?_
                      refine lv_iload hC.1 hC.2.1 dX11_option_196 (lv_at hl 0 rfl) ?_
                      refine lv_iconst (v := 1) hC.1 hC.2.1 dX11_option_198 (by decide) ?_
                      refine lv_iadd hC.1 hC.2.1 dX11_option_199 ?_
                      refine W.eq (g2 := F0 m 200 ls [.int (y14 + 1), .ref (xz G + 58)]) rfl ?_
                      refine lv_iload_n hC.1 hC.2.1 dX11_option_200 rfl (lv_at hl 3 rfl) ?_
                      refine lv_bipush (v := 100) hC.1 hC.2.1 dX11_option_201 (by decide) ?_
                      refine lv_irem hC.1 hC.2.1 dX11_option_203 (by decide) ?_
                      refine x_ias hC (fun f => (xce_58 G kp f _)) hR hS dX11_option_204 hf (fun I16 hf H locs hR hS => ?_)
                      refine lv_aload_n hC.1 hC.2.1 dX11_option_205 rfl (lv_at hl 2 rfl) ?_
                      refine x_get (v := .ref (xz G + 58)) hC xf_X11_14 (xce_57 G kp _ _) rfl hR dX11_option_206 ?_
                      refine lv_iload hC.1 hC.2.1 dX11_option_209 (lv_at hl 0 rfl) ?_
                      refine lv_iconst (v := 2) hC.1 hC.2.1 dX11_option_211 (by decide) ?_
                      refine lv_iadd hC.1 hC.2.1 dX11_option_212 ?_
                      refine lv_iload_n hC.1 hC.2.1 dX11_option_213 rfl (lv_at hl 4 rfl) ?_
                      refine x_ias hC (fun f => (xce_58 G kp f _)) hR hS dX11_option_214 hf (fun I17 hf H locs hR hS => ?_)
                      refine lv_aload_n hC.1 hC.2.1 dX11_option_215 rfl (lv_at hl 2 rfl) ?_
                      refine W.eq (g2 := F0 m 216 ls [.ref (xz G + 57)]) rfl ?_
                      refine x_get (v := .ref (xz G + 58)) hC xf_X11_14 (xce_57 G kp _ _) rfl hR dX11_option_216 ?_
                      refine lv_iload hC.1 hC.2.1 dX11_option_219 (lv_at hl 0 rfl) ?_
                      refine lv_iconst (v := 3) hC.1 hC.2.1 dX11_option_221 (by decide) ?_
                      refine lv_iadd hC.1 hC.2.1 dX11_option_222 ?_
                      refine lv_iload_n hC.1 hC.2.1 dX11_option_223 rfl (lv_at hl 5 rfl) ?_
                      refine lv_sipush (v := 10000) hC.1 hC.2.1 dX11_option_224 (by decide) ?_
                      refine lv_idiv hC.1 hC.2.1 dX11_option_227 (by decide) ?_
                      refine x_ias hC (fun f => (xce_58 G kp f _)) hR hS dX11_option_228 hf (fun I18 hf H locs hR hS => ?_)
                      refine lv_aload_n hC.1 hC.2.1 dX11_option_229 rfl (lv_at hl 2 rfl) ?_
                      refine x_get (v := .ref (xz G + 58)) hC xf_X11_14 (xce_57 G kp _ _) rfl hR dX11_option_230 ?_
                      refine lv_iload hC.1 hC.2.1 dX11_option_233 (lv_at hl 0 rfl) ?_
                      refine lv_iconst (v := 4) hC.1 hC.2.1 dX11_option_235 (by decide) ?_
                      refine W.eq (g2 := F0 m 236 ls [.int 4, .int y14, .ref (xz G + 58)]) rfl ?_
                      refine lv_iadd hC.1 hC.2.1 dX11_option_236 ?_
                      refine lv_iload_n hC.1 hC.2.1 dX11_option_237 rfl (lv_at hl 5 rfl) ?_
                      refine lv_sipush (v := 10000) hC.1 hC.2.1 dX11_option_238 (by decide) ?_
                      refine lv_irem hC.1 hC.2.1 dX11_option_241 (by decide) ?_
                      refine x_ias hC (fun f => (xce_58 G kp f _)) hR hS dX11_option_242 hf (fun I19 hf H locs hR hS => ?_)
                      refine lv_aload_n hC.1 hC.2.1 dX11_option_243 rfl (lv_at hl 2 rfl) ?_
                      refine x_get (v := .ref (xz G + 58)) hC xf_X11_14 (xce_57 G kp _ _) rfl hR dX11_option_244 ?_
                      refine lv_iload hC.1 hC.2.1 dX11_option_247 (lv_at hl 0 rfl) ?_
                      refine lv_iconst (v := 5) hC.1 hC.2.1 dX11_option_249 (by decide) ?_
                      refine lv_iadd hC.1 hC.2.1 dX11_option_250 ?_
                      refine lv_aload_n hC.1 hC.2.1 dX11_option_251 rfl (lv_at hl 2 rfl) ?_
                      refine x_get (v := .ref (xz G + 58)) hC xf_X11_14 (xce_57 G kp _ _) rfl hR dX11_option_252 ?_
                      refine W.eq (g2 := F0 m 255 ls [.ref (xz G + 58), .int (y14 + 5), .ref (xz G + 58)]) rfl ?_
                      refine lv_iconst (v := 0) hC.1 hC.2.1 dX11_option_255 (by decide) ?_
                      refine x_ial hC (xce_58 G kp _ _) hR dX11_option_256 hf (fun v20 hf => ?_)
                      refine lv_iload hC.1 hC.2.1 dX11_option_257 (lv_at hl 6 rfl) ?_
                      refine lv_sipush (v := 10000) hC.1 hC.2.1 dX11_option_259 (by decide) ?_
                      refine lv_idiv hC.1 hC.2.1 dX11_option_262 (by decide) ?_
                      refine lv_iadd hC.1 hC.2.1 dX11_option_263 ?_
                      refine lv_iconst (v := 1) hC.1 hC.2.1 dX11_option_264 (by decide) ?_
                      refine lv_isub hC.1 hC.2.1 dX11_option_265 ?_
                      refine x_ias hC (fun f => (xce_58 G kp f _)) hR hS dX11_option_266 hf (fun I21 hf H locs hR hS => ?_)
                      refine lv_aload_n hC.1 hC.2.1 dX11_option_267 rfl (lv_at hl 2 rfl) ?_
                      refine x_get (v := .ref (xz G + 58)) hC xf_X11_14 (xce_57 G kp _ _) rfl hR dX11_option_268 ?_
                      refine lv_iload hC.1 hC.2.1 dX11_option_271 (lv_at hl 0 rfl) ?_
                      refine W.eq (g2 := F0 m 273 ls [.int y14, .ref (xz G + 58)]) rfl ?_
                      refine lv_bipush (v := 6) hC.1 hC.2.1 dX11_option_273 (by decide) ?_
                      refine lv_iadd hC.1 hC.2.1 dX11_option_275 ?_
                      refine lv_iconst (v := 0) hC.1 hC.2.1 dX11_option_276 (by decide) ?_
                      refine x_ias hC (fun f => (xce_58 G kp f _)) hR hS dX11_option_277 hf (fun I22 hf H locs hR hS => ?_)
                      refine lv_aload_n hC.1 hC.2.1 dX11_option_278 rfl (lv_at hl 2 rfl) ?_
                      refine x_get (v := .ref (xz G + 58)) hC xf_X11_14 (xce_57 G kp _ _) rfl hR dX11_option_279 ?_
                      refine lv_iconst (v := 3) hC.1 hC.2.1 dX11_option_282 (by decide) ?_
                      refine lv_dup2_11 hC.1 hC.2.1 dX11_option_283 rfl rfl ?_
                      refine x_ial hC (xce_58 G kp _ _) hR dX11_option_284 hf (fun v23 hf => ?_)
                      refine lv_iconst (v := 1) hC.1 hC.2.1 dX11_option_285 (by decide) ?_
                      refine lv_iadd hC.1 hC.2.1 dX11_option_286 ?_
                      refine x_ias hC (fun f => (xce_58 G kp f _)) hR hS dX11_option_287 hf (fun I24 hf H locs hR hS => ?_)
                      refine W.eq (g2 := F0 m 288 ls []) rfl ?_
                      refine lv_aload_n hC.1 hC.2.1 dX11_option_288 rfl (lv_at hl 2 rfl) ?_
                      refine x_get (v := .ref (xz G + 58)) hC xf_X11_14 (xce_57 G kp _ _) rfl hR dX11_option_289 ?_
                      refine lv_iconst (v := 3) hC.1 hC.2.1 dX11_option_292 (by decide) ?_
                      refine x_ial hC (xce_58 G kp _ _) hR dX11_option_293 hf (fun v25 hf => ?_)
                      refine lv_iconst (v := 1) hC.1 hC.2.1 dX11_option_294 (by decide) ?_
                      refine lv_isub hC.1 hC.2.1 dX11_option_295 ?_
                      obtain ⟨h91, h90⟩ := Prod.mk.inj (Option.some.inj hf)
                      obtain ⟨h92, h93⟩ := Prod.mk.inj h90
                      subst h91
                      subst h92
                      subst h93
                      exact x_iret hC hR hS dX11_option_296
                    · refine lv_aload_n hC.1 hC.2.1 dX11_option_121 rfl (lv_at hl 1 rfl) ?_
                      refine lv_bipush (v := (-8)) hC.1 hC.2.1 dX11_option_122 (by decide) ?_
                      refine x_cvi10 (rest := []) hC xy_X11_refuse tw_1338 hf (fun _ _ h => M_X11_refuse G l kp h) ⟨Nat.le_of_ble_eq_true rfl, Nat.le_of_ble_eq_true rfl⟩ (xce_57 G kp _ _) rfl rfl rfl (Nat.le_of_ble_eq_true rfl) hl.1 hR hS dX11_option_124 ⟨Nat.le_refl _, Nat.le_refl _⟩ (fun v26 I27 hf H locs hR hS => ?_)
                      obtain ⟨h91, h90⟩ := Prod.mk.inj (Option.some.inj hf)
                      obtain ⟨h92, h93⟩ := Prod.mk.inj h90
                      subst h91
                      subst h92
                      subst h93
                      exact x_iret hC hR hS dX11_option_127
                  · exact W_X11_option_j103 hC hf _ _ _ hR hS (lv_sub hl [1] rfl)
    · exact W_X11_option_j16 hC hf _ _ _ hR hS (lv_sub hl [0] rfl)
set_option maxRecDepth 20000 in
theorem M_X11_op (G : XG) (l : Launch) (kp : Bool) {I : xTI} {L : xTL} {x1 : Int32} {x2 : Int32} {r : Int32} (hf : F_X11_op I x1 x2 = some r) : xMet G l yX11_op cX11_op 3 (some .int) 0 0 kp [.ref (xz G + 57), .int x1, .int x2] I L (some (.int r)) I L := by
  refine xMet.ofW (by decide +kernel) (Nat.le_of_ble_eq_true rfl) ?_
  intro p e s m args below meth c hC H locs ls hR hS hl
  replace hC : xC G p s m args meth c cX11_op 3 RX11 (some .int) := hC
  replace hl : lv_has ls 3 [(0, .ref (xz G + 57)), (1, .int x1), (2, .int x2)] := hl
  unfold F_X11_op at hf
  refine lv_aload_n hC.1 hC.2.1 dX11_op_0 rfl (lv_at hl 0 rfl) ?_
  refine x_get (v := .ref (xz G + 58)) hC xf_X11_14 (xce_57 G kp _ _) rfl hR dX11_op_1 ?_
  refine lv_sipush (v := 912) hC.1 hC.2.1 dX11_op_4 (by decide) ?_
  refine lv_bipush (v := 7) hC.1 hC.2.1 dX11_op_7 (by decide) ?_
  refine lv_iload_n hC.1 hC.2.1 dX11_op_9 rfl (lv_at hl 1 rfl) ?_
  refine lv_imul hC.1 hC.2.1 dX11_op_10 ?_
  refine lv_iadd hC.1 hC.2.1 dX11_op_11 ?_
  refine lv_iload_n hC.1 hC.2.1 dX11_op_12 rfl (lv_at hl 2 rfl) ?_
  refine lv_iadd hC.1 hC.2.1 dX11_op_13 ?_
  refine x_ial hC (xce_58 G kp _ _) hR dX11_op_14 hf (fun v1 hf => ?_)
  have h9 := Option.some.inj hf
  subst h9
  exact x_iret hC hR hS dX11_op_15
set_option maxRecDepth 20000 in
theorem M_X11_declare (G : XG) (l : Launch) (kp : Bool) (N : Nat) {I : xTI} {L : xTL} {x1 : Int32} {r : Int32} {rI : xTI} (hf : F_X11_declare N I x1 = some (r, rI)) : xMet G l yX11_declare cX11_declare 3 (some .int) 3 72 kp [.ref (xz G + 57), .int x1] I L (some (.int r)) rI L := by
  refine xMet.ofW (by decide +kernel) (Nat.le_of_ble_eq_true rfl) ?_
  intro p e s m args below meth c hC H locs ls hR hS hl
  replace hC : xC G p s m args meth c cX11_declare 3 RX11 (some .int) := hC
  replace hl : lv_has ls 3 [(0, .ref (xz G + 57)), (1, .int x1)] := hl
  unfold F_X11_declare at hf
  refine lv_iload_n hC.1 hC.2.1 dX11_declare_0 rfl (lv_at hl 1 rfl) ?_
  refine lv_iconst (v := 0) hC.1 hC.2.1 dX11_declare_1 (by decide) ?_
  refine lv_aload_n hC.1 hC.2.1 dX11_declare_2 rfl (lv_at hl 0 rfl) ?_
  refine x_get (v := .ref (xz G + 58)) hC xf_X11_14 (xce_57 G kp _ _) rfl hR dX11_declare_3 ?_
  refine lv_iconst (v := 3) hC.1 hC.2.1 dX11_declare_6 (by decide) ?_
  refine x_ial hC (xce_58 G kp _ _) hR dX11_declare_7 hf (fun v1 hf => ?_)
  refine lv_iconst (v := 1) hC.1 hC.2.1 dX11_declare_8 (by decide) ?_
  refine lv_isub hC.1 hC.2.1 dX11_declare_9 ?_
  refine x_csi00 (rest := []) hC xy_X11_in tw_1335 hf (fun _ h => M_X11_in G l kp h) ⟨Nat.le_of_ble_eq_true rfl, Nat.le_of_ble_eq_true rfl⟩ rfl rfl (Nat.le_of_ble_eq_true rfl) hl.1 hR hS dX11_declare_10 ⟨Nat.le_refl _, Nat.le_refl _⟩ (fun v2 hf H locs hR hS => ?_)
  refine x_if_ne (tgt := 23) hC dX11_declare_13 (by decide) hf (fun hf => ?_) (fun hf => ?_)
  · refine lv_aload_n hC.1 hC.2.1 dX11_declare_23 rfl (lv_at hl 0 rfl) ?_
    refine lv_iload_n hC.1 hC.2.1 dX11_declare_24 rfl (lv_at hl 1 rfl) ?_
    refine lv_bipush (v := 6) hC.1 hC.2.1 dX11_declare_25 (by decide) ?_
    refine x_cvi00 (rest := []) hC xy_X11_op tw_1575 hf (fun _ h => M_X11_op G l kp h) ⟨Nat.le_of_ble_eq_true rfl, Nat.le_of_ble_eq_true rfl⟩ (xce_57 G kp _ _) rfl rfl rfl (Nat.le_of_ble_eq_true rfl) hl.1 hR hS dX11_declare_27 ⟨Nat.le_refl _, Nat.le_refl _⟩ (fun v3 hf H locs hR hS => ?_)
    refine x_if_eq (tgt := 40) hC dX11_declare_30 (by decide) hf (fun hf => ?_) (fun hf => ?_)
    · refine lv_aload_n hC.1 hC.2.1 dX11_declare_40 rfl (lv_at hl 0 rfl) ?_
      refine lv_iconst (v := 0) hC.1 hC.2.1 dX11_declare_41 (by decide) ?_
      refine x_cvi00 (rest := []) hC xy_X11_free tw_1423 hf (fun _ h => M_X11_free G l kp N h) ⟨Nat.le_of_ble_eq_true rfl, Nat.le_of_ble_eq_true rfl⟩ (xce_57 G kp _ _) rfl rfl rfl (Nat.le_of_ble_eq_true rfl) hl.1 hR hS dX11_declare_42 ⟨Nat.le_refl _, Nat.le_refl _⟩ (fun v4 hf H locs hR hS => ?_)
      refine lv_bipush (v := 60) hC.1 hC.2.1 dX11_declare_45 (by decide) ?_
      refine x_ic_ne (tgt := 57) hC dX11_declare_47 (by decide) hf (fun hf => ?_) (fun hf => ?_)
      · refine lv_aload_n hC.1 hC.2.1 dX11_declare_57 rfl (lv_at hl 0 rfl) ?_
        refine lv_aload_n hC.1 hC.2.1 dX11_declare_58 rfl (lv_at hl 0 rfl) ?_
        refine lv_iload_n hC.1 hC.2.1 dX11_declare_59 rfl (lv_at hl 1 rfl) ?_
        refine lv_iconst (v := 1) hC.1 hC.2.1 dX11_declare_60 (by decide) ?_
        refine x_cvi00 (rest := [.ref (xz G + 57)]) hC xy_X11_op tw_1575 hf (fun _ h => M_X11_op G l kp h) ⟨Nat.le_of_ble_eq_true rfl, Nat.le_of_ble_eq_true rfl⟩ (xce_57 G kp _ _) rfl rfl rfl (Nat.le_of_ble_eq_true rfl) hl.1 hR hS dX11_declare_61 ⟨Nat.le_refl _, Nat.le_refl _⟩ (fun v5 hf H locs hR hS => ?_)
        refine lv_aload_n hC.1 hC.2.1 dX11_declare_64 rfl (lv_at hl 0 rfl) ?_
        refine lv_iload_n hC.1 hC.2.1 dX11_declare_65 rfl (lv_at hl 1 rfl) ?_
        refine lv_iconst (v := 0) hC.1 hC.2.1 dX11_declare_66 (by decide) ?_
        refine x_cvi00 (rest := [.int v5, .ref (xz G + 57)]) hC xy_X11_op tw_1575 hf (fun _ h => M_X11_op G l kp h) ⟨Nat.le_of_ble_eq_true rfl, Nat.le_of_ble_eq_true rfl⟩ (xce_57 G kp _ _) rfl rfl rfl (Nat.le_of_ble_eq_true rfl) hl.1 hR hS dX11_declare_67 ⟨Nat.le_refl _, Nat.le_refl _⟩ (fun v6 hf H locs hR hS => ?_)
        refine lv_aload_n hC.1 hC.2.1 dX11_declare_70 rfl (lv_at hl 0 rfl) ?_
        refine lv_iload_n hC.1 hC.2.1 dX11_declare_71 rfl (lv_at hl 1 rfl) ?_
        refine W.eq (g2 := F0 m 72 ls [.int x1, .ref (xz G + 57), .int v6, .int v5, .ref (xz G + 57)]) rfl ?_
        refine lv_iconst (v := 2) hC.1 hC.2.1 dX11_declare_72 (by decide) ?_
        refine x_cvi00 (rest := [.int v6, .int v5, .ref (xz G + 57)]) hC xy_X11_op tw_1575 hf (fun _ h => M_X11_op G l kp h) ⟨Nat.le_of_ble_eq_true rfl, Nat.le_of_ble_eq_true rfl⟩ (xce_57 G kp _ _) rfl rfl rfl (Nat.le_of_ble_eq_true rfl) hl.1 hR hS dX11_declare_73 ⟨Nat.le_refl _, Nat.le_refl _⟩ (fun v7 hf H locs hR hS => ?_)
        refine lv_aload_n hC.1 hC.2.1 dX11_declare_76 rfl (lv_at hl 0 rfl) ?_
        refine lv_iload_n hC.1 hC.2.1 dX11_declare_77 rfl (lv_at hl 1 rfl) ?_
        refine lv_iconst (v := 3) hC.1 hC.2.1 dX11_declare_78 (by decide) ?_
        refine x_cvi00 (rest := [.int v7, .int v6, .int v5, .ref (xz G + 57)]) hC xy_X11_op tw_1575 hf (fun _ h => M_X11_op G l kp h) ⟨Nat.le_of_ble_eq_true rfl, Nat.le_of_ble_eq_true rfl⟩ (xce_57 G kp _ _) rfl rfl rfl (Nat.le_of_ble_eq_true rfl) hl.1 hR hS dX11_declare_79 ⟨Nat.le_refl _, Nat.le_refl _⟩ (fun v8 hf H locs hR hS => ?_)
        refine lv_aload_n hC.1 hC.2.1 dX11_declare_82 rfl (lv_at hl 0 rfl) ?_
        refine lv_iload_n hC.1 hC.2.1 dX11_declare_83 rfl (lv_at hl 1 rfl) ?_
        refine lv_iconst (v := 4) hC.1 hC.2.1 dX11_declare_84 (by decide) ?_
        refine x_cvi00 (rest := [.int v8, .int v7, .int v6, .int v5, .ref (xz G + 57)]) hC xy_X11_op tw_1575 hf (fun _ h => M_X11_op G l kp h) ⟨Nat.le_of_ble_eq_true rfl, Nat.le_of_ble_eq_true rfl⟩ (xce_57 G kp _ _) rfl rfl rfl (Nat.le_of_ble_eq_true rfl) hl.1 hR hS dX11_declare_85 ⟨Nat.le_refl _, Nat.le_refl _⟩ (fun v9 hf H locs hR hS => ?_)
        refine lv_aload_n hC.1 hC.2.1 dX11_declare_88 rfl (lv_at hl 0 rfl) ?_
        refine lv_aload_n hC.1 hC.2.1 dX11_declare_89 rfl (lv_at hl 0 rfl) ?_
        refine W.eq (g2 := F0 m 90 ls [.ref (xz G + 57), .ref (xz G + 57), .int v9, .int v8, .int v7, .int v6, .int v5, .ref (xz G + 57)]) rfl ?_
        refine x_get (v := .ref (xz G + 58)) hC xf_X11_14 (xce_57 G kp _ _) rfl hR dX11_declare_90 ?_
        refine lv_iconst (v := 0) hC.1 hC.2.1 dX11_declare_93 (by decide) ?_
        refine x_ial hC (xce_58 G kp _ _) hR dX11_declare_94 hf (fun v10 hf => ?_)
        refine x_cvi00 (rest := [.int v9, .int v8, .int v7, .int v6, .int v5, .ref (xz G + 57)]) hC xy_X11_accountOf tw_1427 hf (fun _ h => M_X11_accountOf G l kp h) ⟨Nat.le_of_ble_eq_true rfl, Nat.le_of_ble_eq_true rfl⟩ (xce_57 G kp _ _) rfl rfl rfl (Nat.le_of_ble_eq_true rfl) hl.1 hR hS dX11_declare_95 ⟨Nat.le_refl _, Nat.le_refl _⟩ (fun v11 hf H locs hR hS => ?_)
        refine x_cvi10 (rest := []) hC xy_X11_makes tw_1431 hf (fun _ _ h => M_X11_makes G l kp N h) ⟨Nat.le_of_ble_eq_true rfl, Nat.le_of_ble_eq_true rfl⟩ (xce_57 G kp _ _) rfl rfl rfl (Nat.le_of_ble_eq_true rfl) hl.1 hR hS dX11_declare_98 ⟨Nat.le_refl _, Nat.le_refl _⟩ (fun v12 I13 hf H locs hR hS => ?_)
        refine lv_istore_n (lv' := [(2, .int v12), (0, .ref (xz G + 57)), (1, .int x1)]) hC.1 hC.2.1 dX11_declare_101 rfl hl (Nat.le_of_ble_eq_true rfl) rfl (fun ls hl => ?_)
        refine lv_aload_n hC.1 hC.2.1 dX11_declare_102 rfl (lv_at hl 1 rfl) ?_
        refine lv_iload_n hC.1 hC.2.1 dX11_declare_103 rfl (lv_at hl 0 rfl) ?_
        refine x_cvv10 (rest := []) hC xy_X11_stand tw_1563 hf (fun _ h => M_X11_stand G l kp h) ⟨Nat.le_of_ble_eq_true rfl, Nat.le_of_ble_eq_true rfl⟩ (xce_57 G kp _ _) rfl rfl rfl (Nat.le_of_ble_eq_true rfl) hl.1 hR hS dX11_declare_104 ⟨Nat.le_refl _, Nat.le_refl _⟩ (fun I14 hf H locs hR hS => ?_)
        refine lv_aload_n hC.1 hC.2.1 dX11_declare_107 rfl (lv_at hl 1 rfl) ?_
        refine x_get (v := .ref (xz G + 58)) hC xf_X11_14 (xce_57 G kp _ _) rfl hR dX11_declare_108 ?_
        refine lv_sipush (v := 912) hC.1 hC.2.1 dX11_declare_111 (by decide) ?_
        refine W.eq (g2 := F0 m 114 ls [.int 912, .ref (xz G + 58)]) rfl ?_
        refine lv_bipush (v := 7) hC.1 hC.2.1 dX11_declare_114 (by decide) ?_
        refine lv_iload_n hC.1 hC.2.1 dX11_declare_116 rfl (lv_at hl 2 rfl) ?_
        refine lv_imul hC.1 hC.2.1 dX11_declare_117 ?_
        refine lv_iadd hC.1 hC.2.1 dX11_declare_118 ?_
        refine lv_bipush (v := 6) hC.1 hC.2.1 dX11_declare_119 (by decide) ?_
        refine lv_iadd hC.1 hC.2.1 dX11_declare_121 ?_
        refine lv_iconst (v := 1) hC.1 hC.2.1 dX11_declare_122 (by decide) ?_
        refine x_ias hC (fun f => (xce_58 G kp f _)) hR hS dX11_declare_123 hf (fun I15 hf H locs hR hS => ?_)
        refine lv_iload_n hC.1 hC.2.1 dX11_declare_124 rfl (lv_at hl 0 rfl) ?_
        obtain ⟨h91, h92⟩ := Prod.mk.inj (Option.some.inj hf)
        subst h91
        subst h92
        exact x_iret hC hR hS dX11_declare_125
      · refine lv_aload_n hC.1 hC.2.1 dX11_declare_50 rfl (lv_at hl 0 rfl) ?_
        refine lv_bipush (v := (-8)) hC.1 hC.2.1 dX11_declare_51 (by decide) ?_
        refine x_cvi10 (rest := []) hC xy_X11_refuse tw_1338 hf (fun _ _ h => M_X11_refuse G l kp h) ⟨Nat.le_of_ble_eq_true rfl, Nat.le_of_ble_eq_true rfl⟩ (xce_57 G kp _ _) rfl rfl rfl (Nat.le_of_ble_eq_true rfl) hl.1 hR hS dX11_declare_53 ⟨Nat.le_refl _, Nat.le_refl _⟩ (fun v16 I17 hf H locs hR hS => ?_)
        obtain ⟨h91, h92⟩ := Prod.mk.inj (Option.some.inj hf)
        subst h91
        subst h92
        exact x_iret hC hR hS dX11_declare_56
    · refine lv_aload_n hC.1 hC.2.1 dX11_declare_33 rfl (lv_at hl 0 rfl) ?_
      refine lv_bipush (v := (-7)) hC.1 hC.2.1 dX11_declare_34 (by decide) ?_
      refine x_cvi10 (rest := []) hC xy_X11_refuse tw_1338 hf (fun _ _ h => M_X11_refuse G l kp h) ⟨Nat.le_of_ble_eq_true rfl, Nat.le_of_ble_eq_true rfl⟩ (xce_57 G kp _ _) rfl rfl rfl (Nat.le_of_ble_eq_true rfl) hl.1 hR hS dX11_declare_36 ⟨Nat.le_refl _, Nat.le_refl _⟩ (fun v18 I19 hf H locs hR hS => ?_)
      obtain ⟨h91, h92⟩ := Prod.mk.inj (Option.some.inj hf)
      subst h91
      subst h92
      exact x_iret hC hR hS dX11_declare_39
  · refine lv_aload_n hC.1 hC.2.1 dX11_declare_16 rfl (lv_at hl 0 rfl) ?_
    refine lv_bipush (v := (-3)) hC.1 hC.2.1 dX11_declare_17 (by decide) ?_
    refine x_cvi10 (rest := []) hC xy_X11_refuse tw_1338 hf (fun _ _ h => M_X11_refuse G l kp h) ⟨Nat.le_of_ble_eq_true rfl, Nat.le_of_ble_eq_true rfl⟩ (xce_57 G kp _ _) rfl rfl rfl (Nat.le_of_ble_eq_true rfl) hl.1 hR hS dX11_declare_19 ⟨Nat.le_refl _, Nat.le_refl _⟩ (fun v20 I21 hf H locs hR hS => ?_)
    obtain ⟨h91, h92⟩ := Prod.mk.inj (Option.some.inj hf)
    subst h91
    subst h92
    exact x_iret hC hR hS dX11_declare_22
