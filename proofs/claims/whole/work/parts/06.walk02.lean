set_option maxRecDepth 20000 in
theorem W_J7_fill_53178_18_l5 {G : XG} {l : Launch} {kp : Bool} {p : Program} {e : Env} {s : State} {m : MethodId} {args : Array Value} {below : List Frame} {meth : Method} {c : Code} (hC : xC G p s m args meth c cJ7_fill_53178 4 RJ7 none) (N : Nat) {L : xTL} {rI : xTI} {x1 : Int32} {x3 : Int32} : ∀ (n : Nat) (x2 : Int32) (I : xTI) , xlp (F_J7_fill_53178_18_b5 N x1 x3 ) n (x2, I) = some rI → ∀ (H : Heap) (locs : List Loc) (ls : Array Slot), xRep G kp I L H → xS G s.heap H locs → lv_has ls 4 [(0, .ref (xz G + 18)), (1, .int x1), (2, .int x2), (3, .int x3)] → W p l e (xrm 0 0) s m args below meth c H locs 0 0 (xMQ G kp below args s none rI L) (F0 m 5 ls []) := by
  intro n
  induction n with
  | zero =>
    intro x2 I hf
    cases hf
  | succ n hk5 =>
    intro x2 I hf H locs ls hR hS hl
    rw [xlp_s, E_J7_fill_53178_18_b5] at hf
    unfold F_J7_fill_53178_18_c5 at hf
    refine lv_iload_n hC.1 hC.2.1 dJ7_fill_53178_5 rfl (lv_at hl 2 rfl) ?_
    refine lv_iload_n hC.1 hC.2.1 dJ7_fill_53178_6 rfl (lv_at hl 3 rfl) ?_
    refine x_ic_ge (tgt := 20) hC dJ7_fill_53178_7 (by decide) hf (fun hf => ?_) (fun hf => ?_)
    · have h9 := Option.some.inj hf
      subst h9
      exact x_vret hC hR hS dJ7_fill_53178_20
    · refine lv_aload_n hC.1 hC.2.1 dJ7_fill_53178_10 rfl (lv_at hl 0 rfl) ?_
      refine lv_iload_n hC.1 hC.2.1 dJ7_fill_53178_11 rfl (lv_at hl 2 rfl) ?_
      refine lv_iload_n hC.1 hC.2.1 dJ7_fill_53178_12 rfl (lv_at hl 1 rfl) ?_
      refine x_ias hC (fun f => (xce_18 G kp f _)) hR hS dJ7_fill_53178_13 hf (fun I1 hf H locs hR hS => ?_)
      refine x_iinc (d := 1) (lv' := fun y2 => [(2, .int y2), (0, .ref (xz G + 18)), (1, .int x1), (3, .int x3)]) (k := 2) hC hl dJ7_fill_53178_14 rfl (by decide) (Nat.le_of_ble_eq_true rfl) hf (fun _ => rfl) (fun y2 hf ls hl => ?_)
      refine lv_goto (tgt := 5) hC.1 hC.2.1 dJ7_fill_53178_17 (by decide) ?_
      exact hk5 y2 I1 hf _ _ _ hR hS (lv_sub hl [1, 2, 0, 3] rfl)
set_option maxRecDepth 20000 in
theorem M_J7_fill_53178_18 (G : XG) (l : Launch) (kp : Bool) (N : Nat) {I : xTI} {L : xTL} {x1 : Int32} {rI : xTI} (hf : F_J7_fill_53178_18 N I x1 = some rI) : xMet G l yJ7_fill_53178 cJ7_fill_53178 4 none 0 0 kp [.ref (xz G + 18), .int x1] I L none rI L := by
  refine xMet.ofW (by decide +kernel) (Nat.le_of_ble_eq_true rfl) ?_
  intro p e s m args below meth c hC H locs ls hR hS hl
  replace hC : xC G p s m args meth c cJ7_fill_53178 4 RJ7 none := hC
  replace hl : lv_has ls 4 [(0, .ref (xz G + 18)), (1, .int x1)] := hl
  unfold F_J7_fill_53178_18 at hf
  refine lv_iconst (v := 0) hC.1 hC.2.1 dJ7_fill_53178_0 (by decide) ?_
  refine lv_istore_n (lv' := [(2, .int 0), (0, .ref (xz G + 18)), (1, .int x1)]) hC.1 hC.2.1 dJ7_fill_53178_1 rfl hl (Nat.le_of_ble_eq_true rfl) rfl (fun ls hl => ?_)
  refine lv_aload_n hC.1 hC.2.1 dJ7_fill_53178_2 rfl (lv_at hl 1 rfl) ?_
  refine x_alen_i (v := 10) hC (xce_18 G kp _ _) rfl hR dJ7_fill_53178_3 ?_
  refine lv_istore_n (lv' := [(3, .int 10), (2, .int 0), (0, .ref (xz G + 18)), (1, .int x1)]) hC.1 hC.2.1 dJ7_fill_53178_4 rfl hl (Nat.le_of_ble_eq_true rfl) rfl (fun ls hl => ?_)
  exact W_J7_fill_53178_18_l5 hC N _ 0 I hf _ _ _ hR hS (lv_sub hl [2, 3, 1, 0] rfl)
set_option maxRecDepth 20000 in
theorem W_X3_upCount_l4 {G : XG} {l : Launch} {kp : Bool} {p : Program} {e : Env} {s : State} {m : MethodId} {args : Array Value} {below : List Frame} {meth : Method} {c : Code} (hC : xC G p s m args meth c cX3_upCount 3 RX3 (some .int)) (N : Nat) {I : xTI} {L : xTL} {r : Int32} : ∀ (n : Nat) (x1 : Int32) (x2 : Int32) , xlp (F_X3_upCount_b4 N I ) n (x1, x2) = some r → ∀ (H : Heap) (locs : List Loc) (ls : Array Slot), xRep G kp I L H → xS G s.heap H locs → lv_has ls 3 [(0, .ref (xz G + 3)), (1, .int x1), (2, .int x2)] → W p l e (xrm 1 21) s m args below meth c H locs 0 0 (xMQ G kp below args s (some (.int r)) I L) (F0 m 4 ls []) := by
  intro n
  induction n with
  | zero =>
    intro x1 x2 hf
    cases hf
  | succ n hk4 =>
    intro x1 x2 hf H locs ls hR hS hl
    rw [xlp_s, E_X3_upCount_b4] at hf
    unfold F_X3_upCount_c4 at hf
    refine lv_iload_n hC.1 hC.2.1 dX3_upCount_4 rfl (lv_at hl 2 rfl) ?_
    refine lv_aload_n hC.1 hC.2.1 dX3_upCount_5 rfl (lv_at hl 0 rfl) ?_
    refine x_getI hC xf_X3_34 (xce_3 G kp _ _) rfl hR dX3_upCount_6 hf (fun v1 hf => ?_)
    refine x_ic_ge (tgt := 29) hC dX3_upCount_9 (by decide) hf (fun hf => ?_) (fun hf => ?_)
    · refine lv_iload_n hC.1 hC.2.1 dX3_upCount_29 rfl (lv_at hl 1 rfl) ?_
      have h9 := Option.some.inj hf
      subst h9
      exact x_iret hC hR hS dX3_upCount_30
    · refine lv_aload_n hC.1 hC.2.1 dX3_upCount_12 rfl (lv_at hl 0 rfl) ?_
      refine lv_iload_n hC.1 hC.2.1 dX3_upCount_13 rfl (lv_at hl 2 rfl) ?_
      refine x_cvi00 (rest := []) hC xy_X3_isUp tw_600 hf (fun _ h => M_X3_isUp G l kp h) ⟨Nat.le_of_ble_eq_true rfl, Nat.le_of_ble_eq_true rfl⟩ (xce_3 G kp _ _) rfl rfl rfl (Nat.le_of_ble_eq_true rfl) hl.1 hR hS dX3_upCount_14 ⟨Nat.le_refl _, Nat.le_refl _⟩ (fun v2 hf H locs hR hS => ?_)
      refine x_if_eq (tgt := 23) hC dX3_upCount_17 (by decide) hf (fun hf => ?_) (fun hf => ?_)
      · refine x_iinc (d := 1) (lv' := fun y3 => [(2, .int y3), (0, .ref (xz G + 3)), (1, .int x1)]) (k := 2) hC hl dX3_upCount_23 rfl (by decide) (Nat.le_of_ble_eq_true rfl) hf (fun _ => rfl) (fun y3 hf ls hl => ?_)
        refine lv_goto (tgt := 4) hC.1 hC.2.1 dX3_upCount_26 (by decide) ?_
        exact hk4 x1 y3 hf _ _ _ hR hS (lv_sub hl [1, 2, 0] rfl)
      · refine x_iinc (d := 1) (lv' := fun y4 => [(1, .int y4), (0, .ref (xz G + 3)), (2, .int x2)]) (k := 1) hC hl dX3_upCount_20 rfl (by decide) (Nat.le_of_ble_eq_true rfl) hf (fun _ => rfl) (fun y4 hf ls hl => ?_)
        refine x_iinc (d := 1) (lv' := fun y5 => [(2, .int y5), (1, .int y4), (0, .ref (xz G + 3))]) (k := 2) hC hl dX3_upCount_23 rfl (by decide) (Nat.le_of_ble_eq_true rfl) hf (fun _ => rfl) (fun y5 hf ls hl => ?_)
        refine lv_goto (tgt := 4) hC.1 hC.2.1 dX3_upCount_26 (by decide) ?_
        exact hk4 y4 y5 hf _ _ _ hR hS (lv_sub hl [2, 1, 0] rfl)
set_option maxRecDepth 20000 in
theorem M_X3_upCount (G : XG) (l : Launch) (kp : Bool) (N : Nat) {I : xTI} {L : xTL} {r : Int32} (hf : F_X3_upCount N I = some r) : xMet G l yX3_upCount cX3_upCount 3 (some .int) 1 21 kp [.ref (xz G + 3)] I L (some (.int r)) I L := by
  refine xMet.ofW (by decide +kernel) (Nat.le_of_ble_eq_true rfl) ?_
  intro p e s m args below meth c hC H locs ls hR hS hl
  replace hC : xC G p s m args meth c cX3_upCount 3 RX3 (some .int) := hC
  replace hl : lv_has ls 3 [(0, .ref (xz G + 3))] := hl
  unfold F_X3_upCount at hf
  refine lv_iconst (v := 0) hC.1 hC.2.1 dX3_upCount_0 (by decide) ?_
  refine lv_istore_n (lv' := [(1, .int 0), (0, .ref (xz G + 3))]) hC.1 hC.2.1 dX3_upCount_1 rfl hl (Nat.le_of_ble_eq_true rfl) rfl (fun ls hl => ?_)
  refine lv_iconst (v := 0) hC.1 hC.2.1 dX3_upCount_2 (by decide) ?_
  refine lv_istore_n (lv' := [(2, .int 0), (1, .int 0), (0, .ref (xz G + 3))]) hC.1 hC.2.1 dX3_upCount_3 rfl hl (Nat.le_of_ble_eq_true rfl) rfl (fun ls hl => ?_)
  exact W_X3_upCount_l4 hC N _ 0 0 hf _ _ _ hR hS (lv_sub hl [2, 1, 0] rfl)
set_option maxRecDepth 20000 in
theorem W_X0_marksOf_j19 {G : XG} {l : Launch} {kp : Bool} {p : Program} {e : Env} {s : State} {m : MethodId} {args : Array Value} {below : List Frame} {meth : Method} {c : Code} (hC : xC G p s m args meth c cX0_marksOf 3 RX0 (some .int)) {I : xTI} {L : xTL} {r : Int32} {x1 : Int32} {t0 : Int32} (hf : F_X0_marksOf_j19 I x1 t0 = some r) : ∀ (H : Heap) (locs : List Loc) (ls : Array Slot), xRep G kp I L H → xS G s.heap H locs → lv_has ls 3 [(0, .ref (xz G + 11)), (1, .int x1)] → W p l e (xrm 1 23) s m args below meth c H locs 0 0 (xMQ G kp below args s (some (.int r)) I L) (F0 m 19 ls [.int t0]) := by
  intro H locs ls hR hS hl
  unfold F_X0_marksOf_j19 at hf
  refine lv_istore_n (lv' := [(2, .int t0), (0, .ref (xz G + 11)), (1, .int x1)]) hC.1 hC.2.1 dX0_marksOf_19 rfl hl (Nat.le_of_ble_eq_true rfl) rfl (fun ls hl => ?_)
  refine lv_aload_n hC.1 hC.2.1 dX0_marksOf_20 rfl (lv_at hl 1 rfl) ?_
  refine x_get (v := .ref (xz G + 12)) hC xf_X0_16 (xce_11 G kp _ _) rfl hR dX0_marksOf_21 ?_
  refine lv_iload_n hC.1 hC.2.1 dX0_marksOf_24 rfl (lv_at hl 2 rfl) ?_
  refine lv_bipush (v := 9) hC.1 hC.2.1 dX0_marksOf_25 (by decide) ?_
  refine x_cvi00 (rest := []) hC xy_X8_at tw_462 hf (fun _ h => M_X8_at_12 G l kp h) ⟨Nat.le_of_ble_eq_true rfl, Nat.le_of_ble_eq_true rfl⟩ (xce_12 G kp _ _) rfl rfl rfl (Nat.le_of_ble_eq_true rfl) hl.1 hR hS dX0_marksOf_27 ⟨Nat.le_refl _, Nat.le_refl _⟩ (fun v1 hf H locs hR hS => ?_)
  refine lv_iconst (v := (-1)) hC.1 hC.2.1 dX0_marksOf_30 (by decide) ?_
  refine x_ic_ne (tgt := 38) hC dX0_marksOf_31 (by decide) hf (fun hf => ?_) (fun hf => ?_)
  · refine lv_iload_n hC.1 hC.2.1 dX0_marksOf_38 rfl (lv_at hl 0 rfl) ?_
    refine lv_iconst (v := 2) hC.1 hC.2.1 dX0_marksOf_39 (by decide) ?_
    refine lv_iadd hC.1 hC.2.1 dX0_marksOf_40 ?_
    have h9 := Option.some.inj hf
    subst h9
    exact x_iret hC hR hS dX0_marksOf_41
  · refine lv_iload_n hC.1 hC.2.1 dX0_marksOf_34 rfl (lv_at hl 0 rfl) ?_
    refine lv_goto (tgt := 41) hC.1 hC.2.1 dX0_marksOf_35 (by decide) ?_
    have h9 := Option.some.inj hf
    subst h9
    exact x_iret hC hR hS dX0_marksOf_41
set_option maxRecDepth 20000 in
theorem M_X0_marksOf (G : XG) (l : Launch) (kp : Bool) {I : xTI} {L : xTL} {x1 : Int32} {r : Int32} (hf : F_X0_marksOf I x1 = some r) : xMet G l yX0_marksOf cX0_marksOf 3 (some .int) 1 23 kp [.ref (xz G + 11), .int x1] I L (some (.int r)) I L := by
  refine xMet.ofW (by decide +kernel) (Nat.le_of_ble_eq_true rfl) ?_
  intro p e s m args below meth c hC H locs ls hR hS hl
  replace hC : xC G p s m args meth c cX0_marksOf 3 RX0 (some .int) := hC
  replace hl : lv_has ls 3 [(0, .ref (xz G + 11)), (1, .int x1)] := hl
  unfold F_X0_marksOf at hf
  refine lv_aload_n hC.1 hC.2.1 dX0_marksOf_0 rfl (lv_at hl 0 rfl) ?_
  refine x_get (v := .ref (xz G + 12)) hC xf_X0_16 (xce_11 G kp _ _) rfl hR dX0_marksOf_1 ?_
  refine lv_iload_n hC.1 hC.2.1 dX0_marksOf_4 rfl (lv_at hl 1 rfl) ?_
  refine lv_bipush (v := 8) hC.1 hC.2.1 dX0_marksOf_5 (by decide) ?_
  refine x_cvi00 (rest := []) hC xy_X8_at tw_462 hf (fun _ h => M_X8_at_12 G l kp h) ⟨Nat.le_of_ble_eq_true rfl, Nat.le_of_ble_eq_true rfl⟩ (xce_12 G kp _ _) rfl rfl rfl (Nat.le_of_ble_eq_true rfl) hl.1 hR hS dX0_marksOf_7 ⟨Nat.le_refl _, Nat.le_refl _⟩ (fun v1 hf H locs hR hS => ?_)
  refine lv_iconst (v := (-1)) hC.1 hC.2.1 dX0_marksOf_10 (by decide) ?_
  refine x_ic_ne (tgt := 18) hC dX0_marksOf_11 (by decide) hf (fun hf => ?_) (fun hf => ?_)
  · refine lv_iconst (v := 1) hC.1 hC.2.1 dX0_marksOf_18 (by decide) ?_
    exact W_X0_marksOf_j19 hC hf _ _ _ hR hS (lv_sub hl [0, 1] rfl)
  · refine lv_iconst (v := 0) hC.1 hC.2.1 dX0_marksOf_14 (by decide) ?_
    refine lv_goto (tgt := 19) hC.1 hC.2.1 dX0_marksOf_15 (by decide) ?_
    exact W_X0_marksOf_j19 hC hf _ _ _ hR hS (lv_sub hl [0, 1] rfl)
set_option maxRecDepth 20000 in
theorem M_X5_nameAll (G : XG) (l : Launch) (kp : Bool) (N : Nat) {I : xTI} {L : xTL} {x2 : Int32} {x3 : Int32} {rI : xTI} (hf : F_X5_nameAll N I x2 x3 = some rI) : xMet G l yX5_nameAll cX5_nameAll 4 none 2 45 kp [.ref (xz G + 14), .ref (xz G + 1), .int x2, .int x3] I L none rI L := by
  refine xMet.ofW (by decide +kernel) (Nat.le_of_ble_eq_true rfl) ?_
  intro p e s m args below meth c hC H locs ls hR hS hl
  replace hC : xC G p s m args meth c cX5_nameAll 4 RX5 none := hC
  replace hl : lv_has ls 4 [(0, .ref (xz G + 14)), (1, .ref (xz G + 1)), (2, .int x2), (3, .int x3)] := hl
  unfold F_X5_nameAll at hf
  refine lv_aload_n hC.1 hC.2.1 dX5_nameAll_0 rfl (lv_at hl 0 rfl) ?_
  refine x_get (v := .ref (xz G + 18)) hC xf_X5_24 (xce_14 G kp _ _) rfl hR dX5_nameAll_1 ?_
  refine lv_iconst (v := 0) hC.1 hC.2.1 dX5_nameAll_4 (by decide) ?_
  refine x_csv10 (rest := []) hC xy_J7_fill_53178 tw_592 hf (fun _ h => M_J7_fill_53178_18 G l kp N h) ⟨Nat.le_of_ble_eq_true rfl, Nat.le_of_ble_eq_true rfl⟩ rfl rfl (Nat.le_of_ble_eq_true rfl) hl.1 hR hS dX5_nameAll_5 ⟨Nat.le_refl _, Nat.le_refl _⟩ (fun I1 hf H locs hR hS => ?_)
  refine lv_aload_n hC.1 hC.2.1 dX5_nameAll_8 rfl (lv_at hl 0 rfl) ?_
  refine x_get (v := .ref (xz G + 18)) hC xf_X5_24 (xce_14 G kp _ _) rfl hR dX5_nameAll_9 ?_
  refine lv_iconst (v := 0) hC.1 hC.2.1 dX5_nameAll_12 (by decide) ?_
  refine lv_iload_n hC.1 hC.2.1 dX5_nameAll_13 rfl (lv_at hl 2 rfl) ?_
  refine x_ias hC (fun f => (xce_18 G kp f _)) hR hS dX5_nameAll_14 hf (fun I2 hf H locs hR hS => ?_)
  refine lv_aload_n hC.1 hC.2.1 dX5_nameAll_15 rfl (lv_at hl 0 rfl) ?_
  refine x_get (v := .ref (xz G + 18)) hC xf_X5_24 (xce_14 G kp _ _) rfl hR dX5_nameAll_16 ?_
  refine W.eq (g2 := F0 m 19 ls [.ref (xz G + 18)]) rfl ?_
  refine lv_iconst (v := 1) hC.1 hC.2.1 dX5_nameAll_19 (by decide) ?_
  refine lv_aload_n hC.1 hC.2.1 dX5_nameAll_20 rfl (lv_at hl 1 rfl) ?_
  refine x_get (v := .ref (xz G + 2)) hC xf_X5_86 (xce_1 G kp _ _) rfl hR dX5_nameAll_21 ?_
  refine lv_iload_n hC.1 hC.2.1 dX5_nameAll_24 rfl (lv_at hl 2 rfl) ?_
  refine x_ial hC (xce_2 G kp _ _) hR dX5_nameAll_25 hf (fun v3 hf => ?_)
  refine x_ias hC (fun f => (xce_18 G kp f _)) hR hS dX5_nameAll_26 hf (fun I4 hf H locs hR hS => ?_)
  refine lv_aload_n hC.1 hC.2.1 dX5_nameAll_27 rfl (lv_at hl 0 rfl) ?_
  refine x_get (v := .ref (xz G + 18)) hC xf_X5_24 (xce_14 G kp _ _) rfl hR dX5_nameAll_28 ?_
  refine lv_iconst (v := 2) hC.1 hC.2.1 dX5_nameAll_31 (by decide) ?_
  refine lv_aload_n hC.1 hC.2.1 dX5_nameAll_32 rfl (lv_at hl 1 rfl) ?_
  refine x_getI hC xf_X5_75 (xce_1 G kp _ _) rfl hR dX5_nameAll_33 hf (fun v5 hf => ?_)
  refine x_ias hC (fun f => (xce_18 G kp f _)) hR hS dX5_nameAll_36 hf (fun I6 hf H locs hR hS => ?_)
  refine W.eq (g2 := F0 m 37 ls []) rfl ?_
  refine lv_aload_n hC.1 hC.2.1 dX5_nameAll_37 rfl (lv_at hl 0 rfl) ?_
  refine x_get (v := .ref (xz G + 18)) hC xf_X5_24 (xce_14 G kp _ _) rfl hR dX5_nameAll_38 ?_
  refine lv_iconst (v := 3) hC.1 hC.2.1 dX5_nameAll_41 (by decide) ?_
  refine lv_aload_n hC.1 hC.2.1 dX5_nameAll_42 rfl (lv_at hl 1 rfl) ?_
  refine x_cvi00 (rest := [.int 3, .ref (xz G + 18)]) hC xy_X1_place tw_595 hf (fun _ h => M_X1_place G l kp h) ⟨Nat.le_of_ble_eq_true rfl, Nat.le_of_ble_eq_true rfl⟩ (xce_1 G kp _ _) rfl rfl rfl (Nat.le_of_ble_eq_true rfl) hl.1 hR hS dX5_nameAll_43 ⟨Nat.le_refl _, Nat.le_refl _⟩ (fun v7 hf H locs hR hS => ?_)
  refine x_ias hC (fun f => (xce_18 G kp f _)) hR hS dX5_nameAll_46 hf (fun I8 hf H locs hR hS => ?_)
  refine lv_aload_n hC.1 hC.2.1 dX5_nameAll_47 rfl (lv_at hl 0 rfl) ?_
  refine x_get (v := .ref (xz G + 18)) hC xf_X5_24 (xce_14 G kp _ _) rfl hR dX5_nameAll_48 ?_
  refine lv_iconst (v := 4) hC.1 hC.2.1 dX5_nameAll_51 (by decide) ?_
  refine lv_aload_n hC.1 hC.2.1 dX5_nameAll_52 rfl (lv_at hl 1 rfl) ?_
  refine x_get (v := .ref (xz G + 3)) hC xf_X5_93 (xce_1 G kp _ _) rfl hR dX5_nameAll_53 ?_
  refine x_cvi00 (rest := [.int 4, .ref (xz G + 18)]) hC xy_X3_upCount tw_596 hf (fun _ h => M_X3_upCount G l kp N h) ⟨Nat.le_of_ble_eq_true rfl, Nat.le_of_ble_eq_true rfl⟩ (xce_3 G kp _ _) rfl rfl rfl (Nat.le_of_ble_eq_true rfl) hl.1 hR hS dX5_nameAll_56 ⟨Nat.le_refl _, Nat.le_refl _⟩ (fun v9 hf H locs hR hS => ?_)
  refine W.eq (g2 := F0 m 59 ls [.int v9, .int 4, .ref (xz G + 18)]) rfl ?_
  refine x_ias hC (fun f => (xce_18 G kp f _)) hR hS dX5_nameAll_59 hf (fun I10 hf H locs hR hS => ?_)
  refine lv_iload_n hC.1 hC.2.1 dX5_nameAll_60 rfl (lv_at hl 3 rfl) ?_
  refine lv_iconst (v := (-1)) hC.1 hC.2.1 dX5_nameAll_61 (by decide) ?_
  refine x_ic_eq (tgt := 143) hC dX5_nameAll_62 (by decide) hf (fun hf => ?_) (fun hf => ?_)
  · have h9 := Option.some.inj hf
    subst h9
    exact x_vret hC hR hS dX5_nameAll_143
  · refine lv_aload_n hC.1 hC.2.1 dX5_nameAll_65 rfl (lv_at hl 0 rfl) ?_
    refine x_get (v := .ref (xz G + 18)) hC xf_X5_24 (xce_14 G kp _ _) rfl hR dX5_nameAll_66 ?_
    refine lv_iconst (v := 5) hC.1 hC.2.1 dX5_nameAll_69 (by decide) ?_
    refine lv_aload_n hC.1 hC.2.1 dX5_nameAll_70 rfl (lv_at hl 1 rfl) ?_
    refine x_get (v := .ref (xz G + 11)) hC xf_X5_102 (xce_1 G kp _ _) rfl hR dX5_nameAll_71 ?_
    refine lv_iload_n hC.1 hC.2.1 dX5_nameAll_74 rfl (lv_at hl 3 rfl) ?_
    refine lv_iconst (v := 3) hC.1 hC.2.1 dX5_nameAll_75 (by decide) ?_
    refine x_cvi00 (rest := [.int 5, .ref (xz G + 18)]) hC xy_X0_at tw_601 hf (fun _ h => M_X0_at G l kp h) ⟨Nat.le_of_ble_eq_true rfl, Nat.le_of_ble_eq_true rfl⟩ (xce_11 G kp _ _) rfl rfl rfl (Nat.le_of_ble_eq_true rfl) hl.1 hR hS dX5_nameAll_76 ⟨Nat.le_refl _, Nat.le_refl _⟩ (fun v11 hf H locs hR hS => ?_)
    refine x_ias hC (fun f => (xce_18 G kp f _)) hR hS dX5_nameAll_79 hf (fun I12 hf H locs hR hS => ?_)
    refine lv_aload_n hC.1 hC.2.1 dX5_nameAll_80 rfl (lv_at hl 0 rfl) ?_
    refine x_get (v := .ref (xz G + 18)) hC xf_X5_24 (xce_14 G kp _ _) rfl hR dX5_nameAll_81 ?_
    refine W.eq (g2 := F0 m 84 ls [.ref (xz G + 18)]) rfl ?_
    refine lv_bipush (v := 6) hC.1 hC.2.1 dX5_nameAll_84 (by decide) ?_
    refine lv_aload_n hC.1 hC.2.1 dX5_nameAll_86 rfl (lv_at hl 1 rfl) ?_
    refine x_get (v := .ref (xz G + 11)) hC xf_X5_102 (xce_1 G kp _ _) rfl hR dX5_nameAll_87 ?_
    refine lv_iload_n hC.1 hC.2.1 dX5_nameAll_90 rfl (lv_at hl 3 rfl) ?_
    refine lv_iconst (v := 4) hC.1 hC.2.1 dX5_nameAll_91 (by decide) ?_
    refine x_cvi00 (rest := [.int 6, .ref (xz G + 18)]) hC xy_X0_at tw_601 hf (fun _ h => M_X0_at G l kp h) ⟨Nat.le_of_ble_eq_true rfl, Nat.le_of_ble_eq_true rfl⟩ (xce_11 G kp _ _) rfl rfl rfl (Nat.le_of_ble_eq_true rfl) hl.1 hR hS dX5_nameAll_92 ⟨Nat.le_refl _, Nat.le_refl _⟩ (fun v13 hf H locs hR hS => ?_)
    refine x_ias hC (fun f => (xce_18 G kp f _)) hR hS dX5_nameAll_95 hf (fun I14 hf H locs hR hS => ?_)
    refine lv_aload_n hC.1 hC.2.1 dX5_nameAll_96 rfl (lv_at hl 0 rfl) ?_
    refine x_get (v := .ref (xz G + 18)) hC xf_X5_24 (xce_14 G kp _ _) rfl hR dX5_nameAll_97 ?_
    refine lv_bipush (v := 7) hC.1 hC.2.1 dX5_nameAll_100 (by decide) ?_
    refine lv_aload_n hC.1 hC.2.1 dX5_nameAll_102 rfl (lv_at hl 1 rfl) ?_
    refine x_get (v := .ref (xz G + 11)) hC xf_X5_102 (xce_1 G kp _ _) rfl hR dX5_nameAll_103 ?_
    refine W.eq (g2 := F0 m 106 ls [.ref (xz G + 11), .int 7, .ref (xz G + 18)]) rfl ?_
    refine lv_iload_n hC.1 hC.2.1 dX5_nameAll_106 rfl (lv_at hl 3 rfl) ?_
    refine lv_iconst (v := 0) hC.1 hC.2.1 dX5_nameAll_107 (by decide) ?_
    refine x_cvi00 (rest := [.int 7, .ref (xz G + 18)]) hC xy_X0_at tw_601 hf (fun _ h => M_X0_at G l kp h) ⟨Nat.le_of_ble_eq_true rfl, Nat.le_of_ble_eq_true rfl⟩ (xce_11 G kp _ _) rfl rfl rfl (Nat.le_of_ble_eq_true rfl) hl.1 hR hS dX5_nameAll_108 ⟨Nat.le_refl _, Nat.le_refl _⟩ (fun v15 hf H locs hR hS => ?_)
    refine x_ias hC (fun f => (xce_18 G kp f _)) hR hS dX5_nameAll_111 hf (fun I16 hf H locs hR hS => ?_)
    refine lv_aload_n hC.1 hC.2.1 dX5_nameAll_112 rfl (lv_at hl 0 rfl) ?_
    refine x_get (v := .ref (xz G + 18)) hC xf_X5_24 (xce_14 G kp _ _) rfl hR dX5_nameAll_113 ?_
    refine lv_bipush (v := 8) hC.1 hC.2.1 dX5_nameAll_116 (by decide) ?_
    refine lv_aload_n hC.1 hC.2.1 dX5_nameAll_118 rfl (lv_at hl 1 rfl) ?_
    refine x_get (v := .ref (xz G + 11)) hC xf_X5_102 (xce_1 G kp _ _) rfl hR dX5_nameAll_119 ?_
    refine lv_iload_n hC.1 hC.2.1 dX5_nameAll_122 rfl (lv_at hl 3 rfl) ?_
    refine lv_iconst (v := 1) hC.1 hC.2.1 dX5_nameAll_123 (by decide) ?_
    refine x_cvi00 (rest := [.int 8, .ref (xz G + 18)]) hC xy_X0_at tw_601 hf (fun _ h => M_X0_at G l kp h) ⟨Nat.le_of_ble_eq_true rfl, Nat.le_of_ble_eq_true rfl⟩ (xce_11 G kp _ _) rfl rfl rfl (Nat.le_of_ble_eq_true rfl) hl.1 hR hS dX5_nameAll_124 ⟨Nat.le_refl _, Nat.le_refl _⟩ (fun v17 hf H locs hR hS => ?_)
    refine W.eq (g2 := F0 m 127 ls [.int v17, .int 8, .ref (xz G + 18)]) rfl ?_
    refine x_ias hC (fun f => (xce_18 G kp f _)) hR hS dX5_nameAll_127 hf (fun I18 hf H locs hR hS => ?_)
    refine lv_aload_n hC.1 hC.2.1 dX5_nameAll_128 rfl (lv_at hl 0 rfl) ?_
    refine x_get (v := .ref (xz G + 18)) hC xf_X5_24 (xce_14 G kp _ _) rfl hR dX5_nameAll_129 ?_
    refine lv_bipush (v := 9) hC.1 hC.2.1 dX5_nameAll_132 (by decide) ?_
    refine lv_aload_n hC.1 hC.2.1 dX5_nameAll_134 rfl (lv_at hl 1 rfl) ?_
    refine x_get (v := .ref (xz G + 11)) hC xf_X5_102 (xce_1 G kp _ _) rfl hR dX5_nameAll_135 ?_
    refine lv_iload_n hC.1 hC.2.1 dX5_nameAll_138 rfl (lv_at hl 3 rfl) ?_
    refine x_cvi00 (rest := [.int 9, .ref (xz G + 18)]) hC xy_X0_marksOf tw_602 hf (fun _ h => M_X0_marksOf G l kp h) ⟨Nat.le_of_ble_eq_true rfl, Nat.le_of_ble_eq_true rfl⟩ (xce_11 G kp _ _) rfl rfl rfl (Nat.le_of_ble_eq_true rfl) hl.1 hR hS dX5_nameAll_139 ⟨Nat.le_refl _, Nat.le_refl _⟩ (fun v19 hf H locs hR hS => ?_)
    refine x_ias hC (fun f => (xce_18 G kp f _)) hR hS dX5_nameAll_142 hf (fun I20 hf H locs hR hS => ?_)
    have h9 := Option.some.inj hf
    subst h9
    exact x_vret hC hR hS dX5_nameAll_143
set_option maxRecDepth 20000 in
theorem W_X8_at_15_j29 {G : XG} {l : Launch} {kp : Bool} {p : Program} {e : Env} {s : State} {m : MethodId} {args : Array Value} {below : List Frame} {meth : Method} {c : Code} (hC : xC G p s m args meth c cX8_at 4 RX8 (some .int)) {I : xTI} {L : xTL} {r : Int32} {x1 : Int32} {x2 : Int32} {t0 : Int32} (hf : F_X8_at_15_j29 I x1 x2 t0 = some r) : ∀ (H : Heap) (locs : List Loc) (ls : Array Slot), xRep G kp I L H → xS G s.heap H locs → lv_has ls 4 [(0, .ref (xz G + 15)), (1, .int x1), (2, .int x2)] → W p l e (xrm 0 0) s m args below meth c H locs 0 0 (xMQ G kp below args s (some (.int r)) I L) (F0 m 29 ls [.int t0]) := by
  intro H locs ls hR hS hl
  unfold F_X8_at_15_j29 at hf
  refine lv_istore_n (lv' := [(3, .int t0), (0, .ref (xz G + 15)), (1, .int x1), (2, .int x2)]) hC.1 hC.2.1 dX8_at_29 rfl hl (Nat.le_of_ble_eq_true rfl) rfl (fun ls hl => ?_)
  refine lv_iload_n hC.1 hC.2.1 dX8_at_30 rfl (lv_at hl 0 rfl) ?_
  refine x_if_eq (tgt := 50) hC dX8_at_31 (by decide) hf (fun hf => ?_) (fun hf => ?_)
  · refine lv_iconst (v := 0) hC.1 hC.2.1 dX8_at_50 (by decide) ?_
    have h9 := Option.some.inj hf
    subst h9
    exact x_iret hC hR hS dX8_at_51
  · refine lv_aload_n hC.1 hC.2.1 dX8_at_34 rfl (lv_at hl 1 rfl) ?_
    refine x_get (v := .ref (xz G + 16)) hC xf_X8_16 (xce_15 G kp _ _) rfl hR dX8_at_35 ?_
    refine lv_iload_n hC.1 hC.2.1 dX8_at_38 rfl (lv_at hl 2 rfl) ?_
    refine lv_aload_n hC.1 hC.2.1 dX8_at_39 rfl (lv_at hl 1 rfl) ?_
    refine x_get (v := .int 5) hC xf_X8_13 (xce_15 G kp _ _) rfl hR dX8_at_40 ?_
    refine lv_imul hC.1 hC.2.1 dX8_at_43 ?_
    refine lv_iload_n hC.1 hC.2.1 dX8_at_44 rfl (lv_at hl 3 rfl) ?_
    refine lv_iadd hC.1 hC.2.1 dX8_at_45 ?_
    refine x_ial hC (xce_16 G kp _ _) hR dX8_at_46 hf (fun v1 hf => ?_)
    refine lv_goto (tgt := 51) hC.1 hC.2.1 dX8_at_47 (by decide) ?_
    have h9 := Option.some.inj hf
    subst h9
    exact x_iret hC hR hS dX8_at_51
set_option maxRecDepth 20000 in
theorem M_X8_at_15 (G : XG) (l : Launch) (kp : Bool) {I : xTI} {L : xTL} {x1 : Int32} {x2 : Int32} {r : Int32} (hf : F_X8_at_15 I x1 x2 = some r) : xMet G l yX8_at cX8_at 4 (some .int) 0 0 kp [.ref (xz G + 15), .int x1, .int x2] I L (some (.int r)) I L := by
  refine xMet.ofW (by decide +kernel) (Nat.le_of_ble_eq_true rfl) ?_
  intro p e s m args below meth c hC H locs ls hR hS hl
  replace hC : xC G p s m args meth c cX8_at 4 RX8 (some .int) := hC
  replace hl : lv_has ls 4 [(0, .ref (xz G + 15)), (1, .int x1), (2, .int x2)] := hl
  unfold F_X8_at_15 at hf
  refine lv_iload_n hC.1 hC.2.1 dX8_at_0 rfl (lv_at hl 1 rfl) ?_
  refine x_if_lt (tgt := 28) hC dX8_at_1 (by decide) hf (fun hf => ?_) (fun hf => ?_)
  · refine lv_iconst (v := 0) hC.1 hC.2.1 dX8_at_28 (by decide) ?_
    exact W_X8_at_15_j29 hC hf _ _ _ hR hS (lv_sub hl [0, 1, 2] rfl)
  · refine lv_iload_n hC.1 hC.2.1 dX8_at_4 rfl (lv_at hl 1 rfl) ?_
    refine lv_aload_n hC.1 hC.2.1 dX8_at_5 rfl (lv_at hl 0 rfl) ?_
    refine x_get (v := .int 12) hC xf_X8_7 (xce_15 G kp _ _) rfl hR dX8_at_6 ?_
    refine x_ic_ge (tgt := 28) hC dX8_at_9 (by decide) hf (fun hf => ?_) (fun hf => ?_)
    · refine lv_iconst (v := 0) hC.1 hC.2.1 dX8_at_28 (by decide) ?_
      exact W_X8_at_15_j29 hC hf _ _ _ hR hS (lv_sub hl [0, 1, 2] rfl)
    · refine lv_iload_n hC.1 hC.2.1 dX8_at_12 rfl (lv_at hl 2 rfl) ?_
      refine x_if_lt (tgt := 28) hC dX8_at_13 (by decide) hf (fun hf => ?_) (fun hf => ?_)
      · refine lv_iconst (v := 0) hC.1 hC.2.1 dX8_at_28 (by decide) ?_
        exact W_X8_at_15_j29 hC hf _ _ _ hR hS (lv_sub hl [0, 1, 2] rfl)
      · refine lv_iload_n hC.1 hC.2.1 dX8_at_16 rfl (lv_at hl 2 rfl) ?_
        refine lv_aload_n hC.1 hC.2.1 dX8_at_17 rfl (lv_at hl 0 rfl) ?_
        refine x_get (v := .int 5) hC xf_X8_13 (xce_15 G kp _ _) rfl hR dX8_at_18 ?_
        refine x_ic_ge (tgt := 28) hC dX8_at_21 (by decide) hf (fun hf => ?_) (fun hf => ?_)
        · refine lv_iconst (v := 0) hC.1 hC.2.1 dX8_at_28 (by decide) ?_
          exact W_X8_at_15_j29 hC hf _ _ _ hR hS (lv_sub hl [0, 1, 2] rfl)
        · refine lv_iconst (v := 1) hC.1 hC.2.1 dX8_at_24 (by decide) ?_
          refine lv_goto (tgt := 29) hC.1 hC.2.1 dX8_at_25 (by decide) ?_
          exact W_X8_at_15_j29 hC hf _ _ _ hR hS (lv_sub hl [0, 1, 2] rfl)
set_option maxRecDepth 20000 in
theorem M_X5_joined (G : XG) (l : Launch) (kp : Bool) {I : xTI} {L : xTL} {x0 : Int32} {x1 : Int32} {x2 : Int32} {r : Int32} (hf : F_X5_joined x0 x1 x2 = some r) : xMet G l yX5_joined cX5_joined 3 (some .int) 0 0 kp [.int x0, .int x1, .int x2] I L (some (.int r)) I L := by
  refine xMet.ofW (by decide +kernel) (Nat.le_of_ble_eq_true rfl) ?_
  intro p e s m args below meth c hC H locs ls hR hS hl
  replace hC : xC G p s m args meth c cX5_joined 3 RX5 (some .int) := hC
  replace hl : lv_has ls 3 [(0, .int x0), (1, .int x1), (2, .int x2)] := hl
  unfold F_X5_joined at hf
  refine lv_iload_n hC.1 hC.2.1 dX5_joined_0 rfl (lv_at hl 0 rfl) ?_
  try dsimp only at hf
  by_cases hc : x0 = 5
  · rw [if_pos hc] at hf
    refine x_lsi (tgt := 153) hC dX5_joined_1 hc (by decide +kernel) ?_
    refine lv_iload_n hC.1 hC.2.1 dX5_joined_153 rfl (lv_at hl 1 rfl) ?_
    refine x_if_ne (tgt := 161) hC dX5_joined_154 (by decide) hf (fun hf => ?_) (fun hf => ?_)
    · refine lv_iconst (v := 1) hC.1 hC.2.1 dX5_joined_161 (by decide) ?_
      refine lv_goto (tgt := 166) hC.1 hC.2.1 dX5_joined_162 (by decide) ?_
      have h9 := Option.some.inj hf
      subst h9
      exact x_iret hC hR hS dX5_joined_166
    · refine lv_iload_n hC.1 hC.2.1 dX5_joined_157 rfl (lv_at hl 2 rfl) ?_
      refine x_if_eq (tgt := 165) hC dX5_joined_158 (by decide) hf (fun hf => ?_) (fun hf => ?_)
      · refine lv_iconst (v := 0) hC.1 hC.2.1 dX5_joined_165 (by decide) ?_
        have h9 := Option.some.inj hf
        subst h9
        exact x_iret hC hR hS dX5_joined_166
      · refine lv_iconst (v := 1) hC.1 hC.2.1 dX5_joined_161 (by decide) ?_
        refine lv_goto (tgt := 166) hC.1 hC.2.1 dX5_joined_162 (by decide) ?_
        have h9 := Option.some.inj hf
        subst h9
        exact x_iret hC hR hS dX5_joined_166
  rw [if_neg hc] at hf
  have hc5 := hc
  clear hc
  by_cases hc : x0 = 37
  · rw [if_pos hc] at hf
    refine x_lsi (tgt := 108) hC dX5_joined_1 hc (by decide +kernel) ?_
    refine lv_iload_n hC.1 hC.2.1 dX5_joined_108 rfl (lv_at hl 2 rfl) ?_
    refine x_if_ne (tgt := 116) hC dX5_joined_109 (by decide) hf (fun hf => ?_) (fun hf => ?_)
    · refine lv_iload_n hC.1 hC.2.1 dX5_joined_116 rfl (lv_at hl 1 rfl) ?_
      refine lv_iload_n hC.1 hC.2.1 dX5_joined_117 rfl (lv_at hl 2 rfl) ?_
      refine x_irem hC dX5_joined_118 hf (fun v1 hf => ?_)
      have h9 := Option.some.inj hf
      subst h9
      exact x_iret hC hR hS dX5_joined_119
    · refine lv_iconst (v := 0) hC.1 hC.2.1 dX5_joined_112 (by decide) ?_
      refine lv_goto (tgt := 119) hC.1 hC.2.1 dX5_joined_113 (by decide) ?_
      have h9 := Option.some.inj hf
      subst h9
      exact x_iret hC hR hS dX5_joined_119
  rw [if_neg hc] at hf
  have hc37 := hc
  clear hc
  by_cases hc : x0 = 42
  · rw [if_pos hc] at hf
    refine x_lsi (tgt := 92) hC dX5_joined_1 hc (by decide +kernel) ?_
    refine lv_iload_n hC.1 hC.2.1 dX5_joined_92 rfl (lv_at hl 1 rfl) ?_
    refine lv_iload_n hC.1 hC.2.1 dX5_joined_93 rfl (lv_at hl 2 rfl) ?_
    refine lv_imul hC.1 hC.2.1 dX5_joined_94 ?_
    have h9 := Option.some.inj hf
    subst h9
    exact x_iret hC hR hS dX5_joined_95
  rw [if_neg hc] at hf
  have hc42 := hc
  clear hc
  by_cases hc : x0 = 43
  · rw [if_pos hc] at hf
    refine x_lsi (tgt := 84) hC dX5_joined_1 hc (by decide +kernel) ?_
    refine lv_iload_n hC.1 hC.2.1 dX5_joined_84 rfl (lv_at hl 1 rfl) ?_
    refine lv_iload_n hC.1 hC.2.1 dX5_joined_85 rfl (lv_at hl 2 rfl) ?_
    refine lv_iadd hC.1 hC.2.1 dX5_joined_86 ?_
    have h9 := Option.some.inj hf
    subst h9
    exact x_iret hC hR hS dX5_joined_87
  rw [if_neg hc] at hf
  have hc43 := hc
  clear hc
  by_cases hc : x0 = 45
  · rw [if_pos hc] at hf
    refine x_lsi (tgt := 88) hC dX5_joined_1 hc (by decide +kernel) ?_
    refine lv_iload_n hC.1 hC.2.1 dX5_joined_88 rfl (lv_at hl 1 rfl) ?_
    refine lv_iload_n hC.1 hC.2.1 dX5_joined_89 rfl (lv_at hl 2 rfl) ?_
    refine lv_isub hC.1 hC.2.1 dX5_joined_90 ?_
    have h9 := Option.some.inj hf
    subst h9
    exact x_iret hC hR hS dX5_joined_91
  rw [if_neg hc] at hf
  have hc45 := hc
  clear hc
  by_cases hc : x0 = 47
  · rw [if_pos hc] at hf
    refine x_lsi (tgt := 96) hC dX5_joined_1 hc (by decide +kernel) ?_
    refine lv_iload_n hC.1 hC.2.1 dX5_joined_96 rfl (lv_at hl 2 rfl) ?_
    refine x_if_ne (tgt := 104) hC dX5_joined_97 (by decide) hf (fun hf => ?_) (fun hf => ?_)
    · refine lv_iload_n hC.1 hC.2.1 dX5_joined_104 rfl (lv_at hl 1 rfl) ?_
      refine lv_iload_n hC.1 hC.2.1 dX5_joined_105 rfl (lv_at hl 2 rfl) ?_
      refine x_idiv hC dX5_joined_106 hf (fun v2 hf => ?_)
      have h9 := Option.some.inj hf
      subst h9
      exact x_iret hC hR hS dX5_joined_107
    · refine lv_iconst (v := 0) hC.1 hC.2.1 dX5_joined_100 (by decide) ?_
      refine lv_goto (tgt := 107) hC.1 hC.2.1 dX5_joined_101 (by decide) ?_
      have h9 := Option.some.inj hf
      subst h9
      exact x_iret hC hR hS dX5_joined_107
  rw [if_neg hc] at hf
  have hc47 := hc
  clear hc
  by_cases hc : x0 = 60
  · rw [if_pos hc] at hf
    refine x_lsi (tgt := 131) hC dX5_joined_1 hc (by decide +kernel) ?_
    refine lv_iload_n hC.1 hC.2.1 dX5_joined_131 rfl (lv_at hl 1 rfl) ?_
    refine lv_iload_n hC.1 hC.2.1 dX5_joined_132 rfl (lv_at hl 2 rfl) ?_
    refine x_ic_ge (tgt := 140) hC dX5_joined_133 (by decide) hf (fun hf => ?_) (fun hf => ?_)
    · refine lv_iconst (v := 0) hC.1 hC.2.1 dX5_joined_140 (by decide) ?_
      have h9 := Option.some.inj hf
      subst h9
      exact x_iret hC hR hS dX5_joined_141
    · refine lv_iconst (v := 1) hC.1 hC.2.1 dX5_joined_136 (by decide) ?_
      refine lv_goto (tgt := 141) hC.1 hC.2.1 dX5_joined_137 (by decide) ?_
      have h9 := Option.some.inj hf
      subst h9
      exact x_iret hC hR hS dX5_joined_141
  rw [if_neg hc] at hf
  have hc60 := hc
  clear hc
  by_cases hc : x0 = 61
  · rw [if_pos hc] at hf
    refine x_lsi (tgt := 120) hC dX5_joined_1 hc (by decide +kernel) ?_
    refine lv_iload_n hC.1 hC.2.1 dX5_joined_120 rfl (lv_at hl 1 rfl) ?_
    refine lv_iload_n hC.1 hC.2.1 dX5_joined_121 rfl (lv_at hl 2 rfl) ?_
    refine x_ic_ne (tgt := 129) hC dX5_joined_122 (by decide) hf (fun hf => ?_) (fun hf => ?_)
    · refine lv_iconst (v := 0) hC.1 hC.2.1 dX5_joined_129 (by decide) ?_
      have h9 := Option.some.inj hf
      subst h9
      exact x_iret hC hR hS dX5_joined_130
    · refine lv_iconst (v := 1) hC.1 hC.2.1 dX5_joined_125 (by decide) ?_
      refine lv_goto (tgt := 130) hC.1 hC.2.1 dX5_joined_126 (by decide) ?_
      have h9 := Option.some.inj hf
      subst h9
      exact x_iret hC hR hS dX5_joined_130
  rw [if_neg hc] at hf
  have hc61 := hc
  clear hc
  by_cases hc : x0 = 62
  · rw [if_pos hc] at hf
    refine x_lsi (tgt := 142) hC dX5_joined_1 hc (by decide +kernel) ?_
    refine lv_iload_n hC.1 hC.2.1 dX5_joined_142 rfl (lv_at hl 1 rfl) ?_
    refine lv_iload_n hC.1 hC.2.1 dX5_joined_143 rfl (lv_at hl 2 rfl) ?_
    refine x_ic_le (tgt := 151) hC dX5_joined_144 (by decide) hf (fun hf => ?_) (fun hf => ?_)
    · refine lv_iconst (v := 0) hC.1 hC.2.1 dX5_joined_151 (by decide) ?_
      have h9 := Option.some.inj hf
      subst h9
      exact x_iret hC hR hS dX5_joined_152
    · refine lv_iconst (v := 1) hC.1 hC.2.1 dX5_joined_147 (by decide) ?_
      refine lv_goto (tgt := 152) hC.1 hC.2.1 dX5_joined_148 (by decide) ?_
      have h9 := Option.some.inj hf
      subst h9
      exact x_iret hC hR hS dX5_joined_152
  rw [if_neg hc] at hf
  have hc62 := hc
  clear hc
  have e5 : (x0).toInt ≠ 5 := fun h => hc5 (Int32.toInt_inj.mp (h.trans (by decide)))
  have e37 : (x0).toInt ≠ 37 := fun h => hc37 (Int32.toInt_inj.mp (h.trans (by decide)))
  have e42 : (x0).toInt ≠ 42 := fun h => hc42 (Int32.toInt_inj.mp (h.trans (by decide)))
  have e43 : (x0).toInt ≠ 43 := fun h => hc43 (Int32.toInt_inj.mp (h.trans (by decide)))
  have e45 : (x0).toInt ≠ 45 := fun h => hc45 (Int32.toInt_inj.mp (h.trans (by decide)))
  have e47 : (x0).toInt ≠ 47 := fun h => hc47 (Int32.toInt_inj.mp (h.trans (by decide)))
  have e60 : (x0).toInt ≠ 60 := fun h => hc60 (Int32.toInt_inj.mp (h.trans (by decide)))
  have e61 : (x0).toInt ≠ 61 := fun h => hc61 (Int32.toInt_inj.mp (h.trans (by decide)))
  have e62 : (x0).toInt ≠ 62 := fun h => hc62 (Int32.toInt_inj.mp (h.trans (by decide)))
  refine x_lso (tgt := 167) hC dX5_joined_1 (by decide +kernel) (by simp; omega) ?_
  refine lv_iload_n hC.1 hC.2.1 dX5_joined_167 rfl (lv_at hl 1 rfl) ?_
  refine x_if_eq (tgt := 179) hC dX5_joined_168 (by decide) hf (fun hf => ?_) (fun hf => ?_)
  · refine lv_iconst (v := 0) hC.1 hC.2.1 dX5_joined_179 (by decide) ?_
    have h9 := Option.some.inj hf
    subst h9
    exact x_iret hC hR hS dX5_joined_180
  · refine lv_iload_n hC.1 hC.2.1 dX5_joined_171 rfl (lv_at hl 2 rfl) ?_
    refine x_if_eq (tgt := 179) hC dX5_joined_172 (by decide) hf (fun hf => ?_) (fun hf => ?_)
    · refine lv_iconst (v := 0) hC.1 hC.2.1 dX5_joined_179 (by decide) ?_
      have h9 := Option.some.inj hf
      subst h9
      exact x_iret hC hR hS dX5_joined_180
    · refine lv_iconst (v := 1) hC.1 hC.2.1 dX5_joined_175 (by decide) ?_
      refine lv_goto (tgt := 180) hC.1 hC.2.1 dX5_joined_176 (by decide) ?_
      have h9 := Option.some.inj hf
      subst h9
      exact x_iret hC hR hS dX5_joined_180
set_option maxRecDepth 20000 in
theorem W_X5_work_j187 {G : XG} {l : Launch} {kp : Bool} {p : Program} {e : Env} {s : State} {m : MethodId} {args : Array Value} {below : List Frame} {meth : Method} {c : Code} (hC : xC G p s m args meth c cX5_work 7 RX5 (some .int)) (N : Nat) {I : xTI} {L : xTL} {r : Int32} {rI : xTI} {x4 : Int32} (hf : F_X5_work_j187 N I x4 = some (r, rI)) : ∀ (H : Heap) (locs : List Loc) (ls : Array Slot), xRep G kp I L H → xS G s.heap H locs → lv_has ls 7 [(0, .ref (xz G + 14)), (4, .int x4)] → W p l e (xrm 1 22) s m args below meth c H locs 0 0 (xMQ G kp below args s (some (.int r)) rI L) (F0 m 187 ls []) := by
  intro H locs ls hR hS hl
  unfold F_X5_work_j187 at hf
  refine lv_iload hC.1 hC.2.1 dX5_work_187 (lv_at hl 1 rfl) ?_
  refine x_if_lt (tgt := 202) hC dX5_work_189 (by decide) hf (fun hf => ?_) (fun hf => ?_)
  · refine lv_iconst (v := 0) hC.1 hC.2.1 dX5_work_202 (by decide) ?_
    obtain ⟨h91, h92⟩ := Prod.mk.inj (Option.some.inj hf)
    subst h91
    subst h92
    exact x_iret hC hR hS dX5_work_203
  · refine lv_aload_n hC.1 hC.2.1 dX5_work_192 rfl (lv_at hl 0 rfl) ?_
    refine x_get (v := .ref (xz G + 19)) hC xf_X5_27 (xce_14 G kp _ _) rfl hR dX5_work_193 ?_
    refine lv_iload hC.1 hC.2.1 dX5_work_196 (lv_at hl 1 rfl) ?_
    refine x_ial hC (xce_19 G kp _ _) hR dX5_work_198 hf (fun v1 hf => ?_)
    refine lv_goto (tgt := 203) hC.1 hC.2.1 dX5_work_199 (by decide) ?_
    obtain ⟨h91, h92⟩ := Prod.mk.inj (Option.some.inj hf)
    subst h91
    subst h92
    exact x_iret hC hR hS dX5_work_203
set_option maxRecDepth 20000 in
theorem W_X5_work_j137 {G : XG} {l : Launch} {kp : Bool} {p : Program} {e : Env} {s : State} {m : MethodId} {args : Array Value} {below : List Frame} {meth : Method} {c : Code} (hC : xC G p s m args meth c cX5_work 7 RX5 (some .int)) (N : Nat) {I : xTI} {L : xTL} {r : Int32} {rI : xTI} {x1 : Int32} {x3 : Int32} {x4 : Int32} {x5 : Int32} {t1 : Int32} {t2 : Int32} (k6 : Int32 × Int32 × xTI → Option (Int32 × xTI)) (hk6 : ∀ (x4 : Int32) (x5 : Int32) (I : xTI) , k6 (x4, x5, I) = some (r, rI) → ∀ (H : Heap) (locs : List Loc) (ls : Array Slot), xRep G kp I L H → xS G s.heap H locs → lv_has ls 7 [(0, .ref (xz G + 14)), (1, .int x1), (3, .int x3), (4, .int x4), (5, .int x5)] → W p l e (xrm 1 22) s m args below meth c H locs 0 0 (xMQ G kp below args s (some (.int r)) rI L) (F0 m 6 ls [])) (hf : F_X5_work_j137 k6 N I x1 x3 x4 x5 t1 t2 = some (r, rI)) : ∀ (H : Heap) (locs : List Loc) (ls : Array Slot), xRep G kp I L H → xS G s.heap H locs → lv_has ls 7 [(0, .ref (xz G + 14)), (1, .int x1), (3, .int x3), (4, .int x4), (5, .int x5)] → W p l e (xrm 1 22) s m args below meth c H locs 0 0 (xMQ G kp below args s (some (.int r)) rI L) (F0 m 137 ls [.int t2, .int t1, .ref (xz G + 19)]) := by
  intro H locs ls hR hS hl
  unfold F_X5_work_j137 at hf
  refine x_ias hC (fun f => (xce_19 G kp f _)) hR hS dX5_work_137 hf (fun I1 hf H locs hR hS => ?_)
  refine lv_goto (tgt := 181) hC.1 hC.2.1 dX5_work_138 (by decide) ?_
  refine x_iinc (d := 1) (lv' := fun y2 => [(5, .int y2), (0, .ref (xz G + 14)), (1, .int x1), (3, .int x3), (4, .int x4)]) (k := 4) hC hl dX5_work_181 rfl (by decide) (Nat.le_of_ble_eq_true rfl) hf (fun _ => rfl) (fun y2 hf ls hl => ?_)
  refine lv_goto (tgt := 6) hC.1 hC.2.1 dX5_work_184 (by decide) ?_
  exact hk6 x4 y2 I1 hf _ _ _ hR hS (lv_sub hl [1, 2, 3, 4, 0] rfl)
set_option maxRecDepth 20000 in
theorem W_X5_work_j93 {G : XG} {l : Launch} {kp : Bool} {p : Program} {e : Env} {s : State} {m : MethodId} {args : Array Value} {below : List Frame} {meth : Method} {c : Code} (hC : xC G p s m args meth c cX5_work 7 RX5 (some .int)) (N : Nat) {I : xTI} {L : xTL} {r : Int32} {rI : xTI} {x1 : Int32} {x3 : Int32} {x4 : Int32} {x5 : Int32} {x6 : Int32} (k6 : Int32 × Int32 × xTI → Option (Int32 × xTI)) (hk6 : ∀ (x4 : Int32) (x5 : Int32) (I : xTI) , k6 (x4, x5, I) = some (r, rI) → ∀ (H : Heap) (locs : List Loc) (ls : Array Slot), xRep G kp I L H → xS G s.heap H locs → lv_has ls 7 [(0, .ref (xz G + 14)), (1, .int x1), (3, .int x3), (4, .int x4), (5, .int x5)] → W p l e (xrm 1 22) s m args below meth c H locs 0 0 (xMQ G kp below args s (some (.int r)) rI L) (F0 m 6 ls [])) (hf : F_X5_work_j93 k6 N I x1 x3 x4 x5 x6 = some (r, rI)) : ∀ (H : Heap) (locs : List Loc) (ls : Array Slot), xRep G kp I L H → xS G s.heap H locs → lv_has ls 7 [(0, .ref (xz G + 14)), (1, .int x1), (3, .int x3), (4, .int x4), (5, .int x5), (6, .int x6)] → W p l e (xrm 1 22) s m args below meth c H locs 0 0 (xMQ G kp below args s (some (.int r)) rI L) (F0 m 93 ls []) := by
  intro H locs ls hR hS hl
  unfold F_X5_work_j93 at hf
  refine lv_iload hC.1 hC.2.1 dX5_work_93 (lv_at hl 3 rfl) ?_
  refine x_if_lt (tgt := 181) hC dX5_work_95 (by decide) hf (fun hf => ?_) (fun hf => ?_)
  · refine x_iinc (d := 1) (lv' := fun y1 => [(5, .int y1), (0, .ref (xz G + 14)), (1, .int x1), (3, .int x3), (4, .int x4), (6, .int x6)]) (k := 4) hC hl dX5_work_181 rfl (by decide) (Nat.le_of_ble_eq_true rfl) hf (fun _ => rfl) (fun y1 hf ls hl => ?_)
    refine lv_goto (tgt := 6) hC.1 hC.2.1 dX5_work_184 (by decide) ?_
    exact hk6 x4 y1 I hf _ _ _ hR hS (lv_sub hl [1, 2, 3, 4, 0] rfl)
  · refine lv_aload_n hC.1 hC.2.1 dX5_work_98 rfl (lv_at hl 0 rfl) ?_
    refine x_get (v := .ref (xz G + 19)) hC xf_X5_27 (xce_14 G kp _ _) rfl hR dX5_work_99 ?_
    refine lv_iload hC.1 hC.2.1 dX5_work_102 (lv_at hl 3 rfl) ?_
    refine lv_iload hC.1 hC.2.1 dX5_work_104 (lv_at hl 5 rfl) ?_
    refine lv_bipush (v := (-21)) hC.1 hC.2.1 dX5_work_106 (by decide) ?_
    refine x_ic_ne (tgt := 122) hC dX5_work_108 (by decide) hf (fun hf => ?_) (fun hf => ?_)
    · refine lv_aload_n hC.1 hC.2.1 dX5_work_122 rfl (lv_at hl 0 rfl) ?_
      refine x_get (v := .ref (xz G + 19)) hC xf_X5_27 (xce_14 G kp _ _) rfl hR dX5_work_123 ?_
      refine lv_iload hC.1 hC.2.1 dX5_work_126 (lv_at hl 3 rfl) ?_
      refine x_ial hC (xce_19 G kp _ _) hR dX5_work_128 hf (fun v2 hf => ?_)
      refine x_if_ne (tgt := 136) hC dX5_work_129 (by decide) hf (fun hf => ?_) (fun hf => ?_)
      · refine lv_iconst (v := 0) hC.1 hC.2.1 dX5_work_136 (by decide) ?_
        exact W_X5_work_j137 hC N _ hk6 hf _ _ _ hR hS (lv_sub hl [0, 1, 2, 3, 4] rfl)
      · refine lv_iconst (v := 1) hC.1 hC.2.1 dX5_work_132 (by decide) ?_
        refine lv_goto (tgt := 137) hC.1 hC.2.1 dX5_work_133 (by decide) ?_
        exact W_X5_work_j137 hC N _ hk6 hf _ _ _ hR hS (lv_sub hl [0, 1, 2, 3, 4] rfl)
    · refine lv_aload_n hC.1 hC.2.1 dX5_work_111 rfl (lv_at hl 0 rfl) ?_
      refine x_get (v := .ref (xz G + 19)) hC xf_X5_27 (xce_14 G kp _ _) rfl hR dX5_work_112 ?_
      refine lv_iload hC.1 hC.2.1 dX5_work_115 (lv_at hl 3 rfl) ?_
      refine x_ial hC (xce_19 G kp _ _) hR dX5_work_117 hf (fun v3 hf => ?_)
      refine lv_ineg hC.1 hC.2.1 dX5_work_118 ?_
      refine lv_goto (tgt := 137) hC.1 hC.2.1 dX5_work_119 (by decide) ?_
      exact W_X5_work_j137 hC N _ hk6 hf _ _ _ hR hS (lv_sub hl [0, 1, 2, 3, 4] rfl)
set_option maxRecDepth 20000 in
theorem W_X5_work_j75 {G : XG} {l : Launch} {kp : Bool} {p : Program} {e : Env} {s : State} {m : MethodId} {args : Array Value} {below : List Frame} {meth : Method} {c : Code} (hC : xC G p s m args meth c cX5_work 7 RX5 (some .int)) (N : Nat) {I : xTI} {L : xTL} {r : Int32} {rI : xTI} {x1 : Int32} {x3 : Int32} {x4 : Int32} {x5 : Int32} {t1 : Int32} {t2 : Int32} (k6 : Int32 × Int32 × xTI → Option (Int32 × xTI)) (hk6 : ∀ (x4 : Int32) (x5 : Int32) (I : xTI) , k6 (x4, x5, I) = some (r, rI) → ∀ (H : Heap) (locs : List Loc) (ls : Array Slot), xRep G kp I L H → xS G s.heap H locs → lv_has ls 7 [(0, .ref (xz G + 14)), (1, .int x1), (3, .int x3), (4, .int x4), (5, .int x5)] → W p l e (xrm 1 22) s m args below meth c H locs 0 0 (xMQ G kp below args s (some (.int r)) rI L) (F0 m 6 ls [])) (hf : F_X5_work_j75 k6 N I x1 x3 x4 x5 t1 t2 = some (r, rI)) : ∀ (H : Heap) (locs : List Loc) (ls : Array Slot), xRep G kp I L H → xS G s.heap H locs → lv_has ls 7 [(0, .ref (xz G + 14)), (1, .int x1), (3, .int x3), (4, .int x4), (5, .int x5)] → W p l e (xrm 1 22) s m args below meth c H locs 0 0 (xMQ G kp below args s (some (.int r)) rI L) (F0 m 75 ls [.int t2, .int t1, .ref (xz G + 19)]) := by
  intro H locs ls hR hS hl
  unfold F_X5_work_j75 at hf
  refine x_ias hC (fun f => (xce_19 G kp f _)) hR hS dX5_work_75 hf (fun I1 hf H locs hR hS => ?_)
  refine lv_goto (tgt := 181) hC.1 hC.2.1 dX5_work_76 (by decide) ?_
  refine x_iinc (d := 1) (lv' := fun y2 => [(5, .int y2), (0, .ref (xz G + 14)), (1, .int x1), (3, .int x3), (4, .int x4)]) (k := 4) hC hl dX5_work_181 rfl (by decide) (Nat.le_of_ble_eq_true rfl) hf (fun _ => rfl) (fun y2 hf ls hl => ?_)
  refine lv_goto (tgt := 6) hC.1 hC.2.1 dX5_work_184 (by decide) ?_
  exact hk6 x4 y2 I1 hf _ _ _ hR hS (lv_sub hl [1, 2, 3, 4, 0] rfl)
set_option maxRecDepth 20000 in
theorem W_X5_work_l6 {G : XG} {l : Launch} {kp : Bool} {p : Program} {e : Env} {s : State} {m : MethodId} {args : Array Value} {below : List Frame} {meth : Method} {c : Code} (hC : xC G p s m args meth c cX5_work 7 RX5 (some .int)) (N : Nat) {L : xTL} {r : Int32} {rI : xTI} {x1 : Int32} {x3 : Int32} : ∀ (n : Nat) (x4 : Int32) (x5 : Int32) (I : xTI) , xlp (F_X5_work_b6 N x1 x3 ) n (x4, x5, I) = some (r, rI) → ∀ (H : Heap) (locs : List Loc) (ls : Array Slot), xRep G kp I L H → xS G s.heap H locs → lv_has ls 7 [(0, .ref (xz G + 14)), (1, .int x1), (3, .int x3), (4, .int x4), (5, .int x5)] → W p l e (xrm 1 22) s m args below meth c H locs 0 0 (xMQ G kp below args s (some (.int r)) rI L) (F0 m 6 ls []) := by
  intro n
  induction n with
  | zero =>
    intro x4 x5 I hf
    cases hf
  | succ n hk6 =>
    intro x4 x5 I hf H locs ls hR hS hl
    rw [xlp_s, E_X5_work_b6] at hf
    unfold F_X5_work_c6 at hf
    refine lv_iload hC.1 hC.2.1 dX5_work_6 (lv_at hl 4 rfl) ?_
    refine lv_iload_n hC.1 hC.2.1 dX5_work_8 rfl (lv_at hl 2 rfl) ?_
    refine x_ic_ge (tgt := 187) hC dX5_work_9 (by decide) hf (fun hf => ?_) (fun hf => ?_)
    · exact W_X5_work_j187 hC N hf _ _ _ hR hS (lv_sub hl [0, 3] rfl)
    · refine lv_iload hC.1 hC.2.1 dX5_work_12 (lv_at hl 4 rfl) ?_
      refine lv_bipush (v := 120) hC.1 hC.2.1 dX5_work_14 (by decide) ?_
      refine x_ic_ge (tgt := 187) hC dX5_work_16 (by decide) hf (fun hf => ?_) (fun hf => ?_)
      · exact W_X5_work_j187 hC N hf _ _ _ hR hS (lv_sub hl [0, 3] rfl)
      · refine lv_aload_n hC.1 hC.2.1 dX5_work_19 rfl (lv_at hl 0 rfl) ?_
        refine x_get (v := .ref (xz G + 17)) hC xf_X5_20 (xce_14 G kp _ _) rfl hR dX5_work_20 ?_
        refine lv_iload_n hC.1 hC.2.1 dX5_work_23 rfl (lv_at hl 1 rfl) ?_
        refine lv_bipush (v := 120) hC.1 hC.2.1 dX5_work_24 (by decide) ?_
        refine lv_imul hC.1 hC.2.1 dX5_work_26 ?_
        refine lv_iload hC.1 hC.2.1 dX5_work_27 (lv_at hl 4 rfl) ?_
        refine lv_iadd hC.1 hC.2.1 dX5_work_29 ?_
        refine x_ial hC (xce_17 G kp _ _) hR dX5_work_30 hf (fun v1 hf => ?_)
        refine lv_istore (lv' := [(6, .int v1), (0, .ref (xz G + 14)), (1, .int x1), (3, .int x3), (4, .int x4), (5, .int x5)]) hC.1 hC.2.1 dX5_work_31 hl (Nat.le_of_ble_eq_true rfl) rfl (fun ls hl => ?_)
        refine lv_iload hC.1 hC.2.1 dX5_work_33 (lv_at hl 0 rfl) ?_
        refine lv_bipush (v := (-11)) hC.1 hC.2.1 dX5_work_35 (by decide) ?_
        refine W.eq (g2 := F0 m 37 ls [.int (-11), .int v1]) rfl ?_
        refine x_ic_le (tgt := 79) hC dX5_work_37 (by decide) hf (fun hf => ?_) (fun hf => ?_)
        · refine lv_iload hC.1 hC.2.1 dX5_work_79 (lv_at hl 0 rfl) ?_
          refine lv_bipush (v := (-20)) hC.1 hC.2.1 dX5_work_81 (by decide) ?_
          refine x_ic_eq (tgt := 93) hC dX5_work_83 (by decide) hf (fun hf => ?_) (fun hf => ?_)
          · exact W_X5_work_j93 hC N _ hk6 hf _ _ _ hR hS (lv_sub hl [1, 2, 3, 4, 5, 0] rfl)
          · refine lv_iload hC.1 hC.2.1 dX5_work_86 (lv_at hl 0 rfl) ?_
            refine lv_bipush (v := (-21)) hC.1 hC.2.1 dX5_work_88 (by decide) ?_
            refine x_ic_ne (tgt := 141) hC dX5_work_90 (by decide) hf (fun hf => ?_) (fun hf => ?_)
            · refine lv_iload hC.1 hC.2.1 dX5_work_141 (lv_at hl 4 rfl) ?_
              refine lv_iconst (v := 1) hC.1 hC.2.1 dX5_work_143 (by decide) ?_
              refine x_ic_lt (tgt := 181) hC dX5_work_144 (by decide) hf (fun hf => ?_) (fun hf => ?_)
              · refine x_iinc (d := 1) (lv' := fun y2 => [(5, .int y2), (6, .int v1), (0, .ref (xz G + 14)), (1, .int x1), (3, .int x3), (4, .int x4)]) (k := 5) hC hl dX5_work_181 rfl (by decide) (Nat.le_of_ble_eq_true rfl) hf (fun _ => rfl) (fun y2 hf ls hl => ?_)
                refine lv_goto (tgt := 6) hC.1 hC.2.1 dX5_work_184 (by decide) ?_
                exact hk6 x4 y2 I hf _ _ _ hR hS (lv_sub hl [2, 3, 4, 5, 0] rfl)
              · refine x_iinc (d := (-1)) (lv' := fun y3 => [(4, .int y3), (6, .int v1), (0, .ref (xz G + 14)), (1, .int x1), (3, .int x3), (5, .int x5)]) (k := 4) hC hl dX5_work_147 rfl (by decide) (Nat.le_of_ble_eq_true rfl) hf (fun _ => rfl) (fun y3 hf ls hl => ?_)
                refine lv_aload_n hC.1 hC.2.1 dX5_work_150 rfl (lv_at hl 2 rfl) ?_
                refine x_get (v := .ref (xz G + 19)) hC xf_X5_27 (xce_14 G kp _ _) rfl hR dX5_work_151 ?_
                refine lv_iload hC.1 hC.2.1 dX5_work_154 (lv_at hl 0 rfl) ?_
                refine lv_bipush (v := (-100)) hC.1 hC.2.1 dX5_work_156 (by decide) ?_
                refine lv_iload hC.1 hC.2.1 dX5_work_158 (lv_at hl 1 rfl) ?_
                refine lv_isub hC.1 hC.2.1 dX5_work_160 ?_
                refine lv_aload_n hC.1 hC.2.1 dX5_work_161 rfl (lv_at hl 2 rfl) ?_
                refine x_get (v := .ref (xz G + 19)) hC xf_X5_27 (xce_14 G kp _ _) rfl hR dX5_work_162 ?_
                refine lv_iload hC.1 hC.2.1 dX5_work_165 (lv_at hl 0 rfl) ?_
                refine x_ial hC (xce_19 G kp _ _) hR dX5_work_167 hf (fun v4 hf => ?_)
                refine W.eq (g2 := F0 m 168 ls [.int v4, .int ((-100) - v1), .int y3, .ref (xz G + 19)]) rfl ?_
                refine lv_aload_n hC.1 hC.2.1 dX5_work_168 rfl (lv_at hl 2 rfl) ?_
                refine x_get (v := .ref (xz G + 19)) hC xf_X5_27 (xce_14 G kp _ _) rfl hR dX5_work_169 ?_
                refine lv_iload hC.1 hC.2.1 dX5_work_172 (lv_at hl 0 rfl) ?_
                refine lv_iconst (v := 1) hC.1 hC.2.1 dX5_work_174 (by decide) ?_
                refine lv_iadd hC.1 hC.2.1 dX5_work_175 ?_
                refine x_ial hC (xce_19 G kp _ _) hR dX5_work_176 hf (fun v5 hf => ?_)
                refine x_csi00 (rest := [.int y3, .ref (xz G + 19)]) hC xy_X5_joined tw_611 hf (fun _ h => M_X5_joined G l kp h) ⟨Nat.le_of_ble_eq_true rfl, Nat.le_of_ble_eq_true rfl⟩ rfl rfl (Nat.le_of_ble_eq_true rfl) hl.1 hR hS dX5_work_177 ⟨Nat.le_refl _, Nat.le_refl _⟩ (fun v6 hf H locs hR hS => ?_)
                refine x_ias hC (fun f => (xce_19 G kp f _)) hR hS dX5_work_180 hf (fun I7 hf H locs hR hS => ?_)
                refine x_iinc (d := 1) (lv' := fun y8 => [(5, .int y8), (4, .int y3), (6, .int v1), (0, .ref (xz G + 14)), (1, .int x1), (3, .int x3)]) (k := 5) hC hl dX5_work_181 rfl (by decide) (Nat.le_of_ble_eq_true rfl) hf (fun _ => rfl) (fun y8 hf ls hl => ?_)
                refine lv_goto (tgt := 6) hC.1 hC.2.1 dX5_work_184 (by decide) ?_
                exact hk6 y3 y8 I7 hf _ _ _ hR hS (lv_sub hl [3, 4, 5, 1, 0] rfl)
            · exact W_X5_work_j93 hC N _ hk6 hf _ _ _ hR hS (lv_sub hl [1, 2, 3, 4, 5, 0] rfl)
        · refine lv_iload hC.1 hC.2.1 dX5_work_40 (lv_at hl 4 rfl) ?_
          refine lv_bipush (v := 119) hC.1 hC.2.1 dX5_work_42 (by decide) ?_
          refine x_ic_ge (tgt := 181) hC dX5_work_44 (by decide) hf (fun hf => ?_) (fun hf => ?_)
          · refine x_iinc (d := 1) (lv' := fun y9 => [(5, .int y9), (6, .int v1), (0, .ref (xz G + 14)), (1, .int x1), (3, .int x3), (4, .int x4)]) (k := 5) hC hl dX5_work_181 rfl (by decide) (Nat.le_of_ble_eq_true rfl) hf (fun _ => rfl) (fun y9 hf ls hl => ?_)
            refine lv_goto (tgt := 6) hC.1 hC.2.1 dX5_work_184 (by decide) ?_
            exact hk6 x4 y9 I hf _ _ _ hR hS (lv_sub hl [2, 3, 4, 5, 0] rfl)
          · refine x_iinc (d := 1) (lv' := fun y10 => [(4, .int y10), (6, .int v1), (0, .ref (xz G + 14)), (1, .int x1), (3, .int x3), (5, .int x5)]) (k := 4) hC hl dX5_work_47 rfl (by decide) (Nat.le_of_ble_eq_true rfl) hf (fun _ => rfl) (fun y10 hf ls hl => ?_)
            refine lv_aload_n hC.1 hC.2.1 dX5_work_50 rfl (lv_at hl 2 rfl) ?_
            refine x_get (v := .ref (xz G + 19)) hC xf_X5_27 (xce_14 G kp _ _) rfl hR dX5_work_51 ?_
            refine lv_iload hC.1 hC.2.1 dX5_work_54 (lv_at hl 0 rfl) ?_
            refine lv_iload hC.1 hC.2.1 dX5_work_56 (lv_at hl 1 rfl) ?_
            refine x_if_lt (tgt := 66) hC dX5_work_58 (by decide) hf (fun hf => ?_) (fun hf => ?_)
            · refine lv_aload_n hC.1 hC.2.1 dX5_work_66 rfl (lv_at hl 2 rfl) ?_
              refine x_get (v := .ref (xz G + 18)) hC xf_X5_24 (xce_14 G kp _ _) rfl hR dX5_work_67 ?_
              refine lv_iconst (v := (-1)) hC.1 hC.2.1 dX5_work_70 (by decide) ?_
              refine lv_iload hC.1 hC.2.1 dX5_work_71 (lv_at hl 1 rfl) ?_
              refine lv_isub hC.1 hC.2.1 dX5_work_73 ?_
              refine x_ial hC (xce_18 G kp _ _) hR dX5_work_74 hf (fun v11 hf => ?_)
              exact W_X5_work_j75 hC N _ hk6 hf _ _ _ hR hS (lv_sub hl [2, 3, 4, 0, 5] rfl)
            · refine lv_iload hC.1 hC.2.1 dX5_work_61 (lv_at hl 1 rfl) ?_
              refine lv_goto (tgt := 75) hC.1 hC.2.1 dX5_work_63 (by decide) ?_
              exact W_X5_work_j75 hC N _ hk6 hf _ _ _ hR hS (lv_sub hl [2, 3, 4, 0, 5] rfl)
set_option maxRecDepth 20000 in
theorem M_X5_work (G : XG) (l : Launch) (kp : Bool) (N : Nat) {I : xTI} {L : xTL} {x1 : Int32} {x2 : Int32} {x3 : Int32} {r : Int32} {rI : xTI} (hf : F_X5_work N I x1 x2 x3 = some (r, rI)) : xMet G l yX5_work cX5_work 7 (some .int) 1 22 kp [.ref (xz G + 14), .int x1, .int x2, .int x3] I L (some (.int r)) rI L := by
  refine xMet.ofW (by decide +kernel) (Nat.le_of_ble_eq_true rfl) ?_
  intro p e s m args below meth c hC H locs ls hR hS hl
  replace hC : xC G p s m args meth c cX5_work 7 RX5 (some .int) := hC
  replace hl : lv_has ls 7 [(0, .ref (xz G + 14)), (1, .int x1), (2, .int x2), (3, .int x3)] := hl
  unfold F_X5_work at hf
  refine lv_iconst (v := (-1)) hC.1 hC.2.1 dX5_work_0 (by decide) ?_
  refine x_ist (lv' := fun y1 => [(4, .int y1), (0, .ref (xz G + 14)), (1, .int x1), (2, .int x2), (3, .int x3)]) hC hl dX5_work_1 (Nat.le_of_ble_eq_true rfl) hf (fun _ => rfl) (fun y1 hf ls hl => ?_)
  refine lv_iload_n hC.1 hC.2.1 dX5_work_3 rfl (lv_at hl 3 rfl) ?_
  refine lv_istore (lv' := [(5, .int x2), (4, .int y1), (0, .ref (xz G + 14)), (1, .int x1), (2, .int x2), (3, .int x3)]) hC.1 hC.2.1 dX5_work_4 hl (Nat.le_of_ble_eq_true rfl) rfl (fun ls hl => ?_)
  exact W_X5_work_l6 hC N _ y1 x2 I hf _ _ _ hR hS (lv_sub hl [2, 3, 5, 1, 0] rfl)
set_option maxRecDepth 20000 in
theorem W_X5_find_j63 {G : XG} {l : Launch} {kp : Bool} {p : Program} {e : Env} {s : State} {m : MethodId} {args : Array Value} {below : List Frame} {meth : Method} {c : Code} (hC : xC G p s m args meth c cX5_find 9 RX5 (some .int)) (N : Nat) {I : xTI} {L : xTL} {r : Int32} {rI : xTI} {x1 : Int32} {x5 : Int32} {t0 : Int32} (k19 : Int32 × xTI → Option (Int32 × xTI)) (hk19 : ∀ (x5 : Int32) (I : xTI) , k19 (x5, I) = some (r, rI) → ∀ (H : Heap) (locs : List Loc) (ls : Array Slot), xRep G kp I L H → xS G s.heap H locs → lv_has ls 9 [(0, .ref (xz G + 14)), (1, .int x1), (2, .ref (xz G + 1)), (5, .int x5)] → W p l e (xrm 3 68) s m args below meth c H locs 0 0 (xMQ G kp below args s (some (.int r)) rI L) (F0 m 19 ls [])) (hf : F_X5_find_j63 k19 N I x1 x5 t0 = some (r, rI)) : ∀ (H : Heap) (locs : List Loc) (ls : Array Slot), xRep G kp I L H → xS G s.heap H locs → lv_has ls 9 [(0, .ref (xz G + 14)), (1, .int x1), (2, .ref (xz G + 1)), (5, .int x5)] → W p l e (xrm 3 68) s m args below meth c H locs 0 0 (xMQ G kp below args s (some (.int r)) rI L) (F0 m 63 ls [.int t0]) := by
  intro H locs ls hR hS hl
  unfold F_X5_find_j63 at hf
  refine lv_istore (lv' := [(6, .int t0), (0, .ref (xz G + 14)), (1, .int x1), (2, .ref (xz G + 1)), (5, .int x5)]) hC.1 hC.2.1 dX5_find_63 hl (Nat.le_of_ble_eq_true rfl) rfl (fun ls hl => ?_)
  refine lv_iload hC.1 hC.2.1 dX5_find_65 (lv_at hl 0 rfl) ?_
  refine x_if_eq (tgt := 131) hC dX5_find_67 (by decide) hf (fun hf => ?_) (fun hf => ?_)
  · refine x_iinc (d := (-1)) (lv' := fun y1 => [(5, .int y1), (6, .int t0), (0, .ref (xz G + 14)), (1, .int x1), (2, .ref (xz G + 1))]) (k := 4) hC hl dX5_find_131 rfl (by decide) (Nat.le_of_ble_eq_true rfl) hf (fun _ => rfl) (fun y1 hf ls hl => ?_)
    refine lv_goto (tgt := 19) hC.1 hC.2.1 dX5_find_134 (by decide) ?_
    exact hk19 y1 I hf _ _ _ hR hS (lv_sub hl [2, 3, 4, 0] rfl)
  · refine lv_aload_n hC.1 hC.2.1 dX5_find_70 rfl (lv_at hl 1 rfl) ?_
    refine x_get (v := .ref (xz G + 15)) hC xf_X5_16 (xce_14 G kp _ _) rfl hR dX5_find_71 ?_
    refine lv_iload hC.1 hC.2.1 dX5_find_74 (lv_at hl 4 rfl) ?_
    refine lv_iconst (v := 0) hC.1 hC.2.1 dX5_find_76 (by decide) ?_
    refine x_cvi00 (rest := []) hC xy_X8_at tw_606 hf (fun _ h => M_X8_at_15 G l kp h) ⟨Nat.le_of_ble_eq_true rfl, Nat.le_of_ble_eq_true rfl⟩ (xce_15 G kp _ _) rfl rfl rfl (Nat.le_of_ble_eq_true rfl) hl.1 hR hS dX5_find_77 ⟨Nat.le_refl _, Nat.le_refl _⟩ (fun v2 hf H locs hR hS => ?_)
    refine lv_iload_n hC.1 hC.2.1 dX5_find_80 rfl (lv_at hl 2 rfl) ?_
    refine x_ic_ne (tgt := 131) hC dX5_find_81 (by decide) hf (fun hf => ?_) (fun hf => ?_)
    · refine x_iinc (d := (-1)) (lv' := fun y3 => [(5, .int y3), (6, .int t0), (0, .ref (xz G + 14)), (1, .int x1), (2, .ref (xz G + 1))]) (k := 4) hC hl dX5_find_131 rfl (by decide) (Nat.le_of_ble_eq_true rfl) hf (fun _ => rfl) (fun y3 hf ls hl => ?_)
      refine lv_goto (tgt := 19) hC.1 hC.2.1 dX5_find_134 (by decide) ?_
      exact hk19 y3 I hf _ _ _ hR hS (lv_sub hl [2, 3, 4, 0] rfl)
    · refine lv_aload_n hC.1 hC.2.1 dX5_find_84 rfl (lv_at hl 1 rfl) ?_
      refine x_get (v := .ref (xz G + 15)) hC xf_X5_16 (xce_14 G kp _ _) rfl hR dX5_find_85 ?_
      refine lv_iload hC.1 hC.2.1 dX5_find_88 (lv_at hl 4 rfl) ?_
      refine lv_iconst (v := 3) hC.1 hC.2.1 dX5_find_90 (by decide) ?_
      refine x_cvi00 (rest := []) hC xy_X8_at tw_606 hf (fun _ h => M_X8_at_15 G l kp h) ⟨Nat.le_of_ble_eq_true rfl, Nat.le_of_ble_eq_true rfl⟩ (xce_15 G kp _ _) rfl rfl rfl (Nat.le_of_ble_eq_true rfl) hl.1 hR hS dX5_find_91 ⟨Nat.le_refl _, Nat.le_refl _⟩ (fun v4 hf H locs hR hS => ?_)
      refine lv_istore (lv' := [(7, .int v4), (6, .int t0), (0, .ref (xz G + 14)), (1, .int x1), (2, .ref (xz G + 1)), (5, .int x5)]) hC.1 hC.2.1 dX5_find_94 hl (Nat.le_of_ble_eq_true rfl) rfl (fun ls hl => ?_)
      refine lv_aload_n hC.1 hC.2.1 dX5_find_96 rfl (lv_at hl 2 rfl) ?_
      refine x_get (v := .ref (xz G + 15)) hC xf_X5_16 (xce_14 G kp _ _) rfl hR dX5_find_97 ?_
      refine lv_iload hC.1 hC.2.1 dX5_find_100 (lv_at hl 5 rfl) ?_
      refine lv_iconst (v := 4) hC.1 hC.2.1 dX5_find_102 (by decide) ?_
      refine x_cvi00 (rest := []) hC xy_X8_at tw_606 hf (fun _ h => M_X8_at_15 G l kp h) ⟨Nat.le_of_ble_eq_true rfl, Nat.le_of_ble_eq_true rfl⟩ (xce_15 G kp _ _) rfl rfl rfl (Nat.le_of_ble_eq_true rfl) hl.1 hR hS dX5_find_103 ⟨Nat.le_refl _, Nat.le_refl _⟩ (fun v5 hf H locs hR hS => ?_)
      refine W.eq (g2 := F0 m 106 ls [.int v5]) rfl ?_
      refine lv_istore (lv' := [(8, .int v5), (7, .int v4), (6, .int t0), (0, .ref (xz G + 14)), (1, .int x1), (2, .ref (xz G + 1)), (5, .int x5)]) hC.1 hC.2.1 dX5_find_106 hl (Nat.le_of_ble_eq_true rfl) rfl (fun ls hl => ?_)
      refine lv_iload hC.1 hC.2.1 dX5_find_108 (lv_at hl 1 rfl) ?_
      refine lv_iload hC.1 hC.2.1 dX5_find_110 (lv_at hl 0 rfl) ?_
      refine x_ic_eq (tgt := 128) hC dX5_find_112 (by decide) hf (fun hf => ?_) (fun hf => ?_)
      · refine lv_iload hC.1 hC.2.1 dX5_find_128 (lv_at hl 6 rfl) ?_
        obtain ⟨h91, h92⟩ := Prod.mk.inj (Option.some.inj hf)
        subst h91
        subst h92
        exact x_iret hC hR hS dX5_find_130
      · refine lv_aload_n hC.1 hC.2.1 dX5_find_115 rfl (lv_at hl 3 rfl) ?_
        refine lv_iload hC.1 hC.2.1 dX5_find_116 (lv_at hl 6 rfl) ?_
        refine lv_iload hC.1 hC.2.1 dX5_find_118 (lv_at hl 1 rfl) ?_
        refine lv_iload hC.1 hC.2.1 dX5_find_120 (lv_at hl 0 rfl) ?_
        refine x_cvi10 (rest := []) hC xy_X5_work tw_607 hf (fun _ _ h => M_X5_work G l kp N h) ⟨Nat.le_of_ble_eq_true rfl, Nat.le_of_ble_eq_true rfl⟩ (xce_14 G kp _ _) rfl rfl rfl (Nat.le_of_ble_eq_true rfl) hl.1 hR hS dX5_find_122 ⟨Nat.le_refl _, Nat.le_refl _⟩ (fun v6 I7 hf H locs hR hS => ?_)
        refine x_if_eq (tgt := 131) hC dX5_find_125 (by decide) hf (fun hf => ?_) (fun hf => ?_)
        · refine x_iinc (d := (-1)) (lv' := fun y8 => [(5, .int y8), (8, .int v5), (7, .int v4), (6, .int t0), (0, .ref (xz G + 14)), (1, .int x1), (2, .ref (xz G + 1))]) (k := 6) hC hl dX5_find_131 rfl (by decide) (Nat.le_of_ble_eq_true rfl) hf (fun _ => rfl) (fun y8 hf ls hl => ?_)
          refine lv_goto (tgt := 19) hC.1 hC.2.1 dX5_find_134 (by decide) ?_
          exact hk19 y8 I7 hf _ _ _ hR hS (lv_sub hl [4, 5, 6, 0] rfl)
        · refine lv_iload hC.1 hC.2.1 dX5_find_128 (lv_at hl 6 rfl) ?_
          obtain ⟨h91, h92⟩ := Prod.mk.inj (Option.some.inj hf)
          subst h91
          subst h92
          exact x_iret hC hR hS dX5_find_130
set_option maxRecDepth 20000 in
theorem W_X5_find_l19 {G : XG} {l : Launch} {kp : Bool} {p : Program} {e : Env} {s : State} {m : MethodId} {args : Array Value} {below : List Frame} {meth : Method} {c : Code} (hC : xC G p s m args meth c cX5_find 9 RX5 (some .int)) (N : Nat) {L : xTL} {r : Int32} {rI : xTI} {x1 : Int32} : ∀ (n : Nat) (x5 : Int32) (I : xTI) , xlp (F_X5_find_b19 N x1 ) n (x5, I) = some (r, rI) → ∀ (H : Heap) (locs : List Loc) (ls : Array Slot), xRep G kp I L H → xS G s.heap H locs → lv_has ls 9 [(0, .ref (xz G + 14)), (1, .int x1), (2, .ref (xz G + 1)), (5, .int x5)] → W p l e (xrm 3 68) s m args below meth c H locs 0 0 (xMQ G kp below args s (some (.int r)) rI L) (F0 m 19 ls []) := by
  intro n
  induction n with
  | zero =>
    intro x5 I hf
    cases hf
  | succ n hk19 =>
    intro x5 I hf H locs ls hR hS hl
    rw [xlp_s, E_X5_find_b19] at hf
    unfold F_X5_find_c19 at hf
    refine lv_iload hC.1 hC.2.1 dX5_find_19 (lv_at hl 3 rfl) ?_
    refine x_if_lt (tgt := 137) hC dX5_find_21 (by decide) hf (fun hf => ?_) (fun hf => ?_)
    · refine lv_iconst (v := (-1)) hC.1 hC.2.1 dX5_find_137 (by decide) ?_
      obtain ⟨h91, h92⟩ := Prod.mk.inj (Option.some.inj hf)
      subst h91
      subst h92
      exact x_iret hC hR hS dX5_find_138
    · refine lv_aload_n hC.1 hC.2.1 dX5_find_24 rfl (lv_at hl 0 rfl) ?_
      refine x_get (v := .ref (xz G + 15)) hC xf_X5_16 (xce_14 G kp _ _) rfl hR dX5_find_25 ?_
      refine lv_iload hC.1 hC.2.1 dX5_find_28 (lv_at hl 3 rfl) ?_
      refine lv_iconst (v := 1) hC.1 hC.2.1 dX5_find_30 (by decide) ?_
      refine x_cvi00 (rest := []) hC xy_X8_at tw_606 hf (fun _ h => M_X8_at_15 G l kp h) ⟨Nat.le_of_ble_eq_true rfl, Nat.le_of_ble_eq_true rfl⟩ (xce_15 G kp _ _) rfl rfl rfl (Nat.le_of_ble_eq_true rfl) hl.1 hR hS dX5_find_31 ⟨Nat.le_refl _, Nat.le_refl _⟩ (fun v1 hf H locs hR hS => ?_)
      refine lv_aload_n hC.1 hC.2.1 dX5_find_34 rfl (lv_at hl 2 rfl) ?_
      refine x_getI hC xf_X5_75 (xce_1 G kp _ _) rfl hR dX5_find_35 hf (fun v2 hf => ?_)
      refine x_ic_gt (tgt := 62) hC dX5_find_38 (by decide) hf (fun hf => ?_) (fun hf => ?_)
      · refine lv_iconst (v := 0) hC.1 hC.2.1 dX5_find_62 (by decide) ?_
        exact W_X5_find_j63 hC N _ hk19 hf _ _ _ hR hS (lv_sub hl [0, 1, 2, 3] rfl)
      · refine lv_aload_n hC.1 hC.2.1 dX5_find_41 rfl (lv_at hl 2 rfl) ?_
        refine x_getI hC xf_X5_75 (xce_1 G kp _ _) rfl hR dX5_find_42 hf (fun v3 hf => ?_)
        refine lv_aload_n hC.1 hC.2.1 dX5_find_45 rfl (lv_at hl 0 rfl) ?_
        refine x_get (v := .ref (xz G + 15)) hC xf_X5_16 (xce_14 G kp _ _) rfl hR dX5_find_46 ?_
        refine lv_iload hC.1 hC.2.1 dX5_find_49 (lv_at hl 3 rfl) ?_
        refine lv_iconst (v := 2) hC.1 hC.2.1 dX5_find_51 (by decide) ?_
        refine x_cvi00 (rest := [.int v3]) hC xy_X8_at tw_606 hf (fun _ h => M_X8_at_15 G l kp h) ⟨Nat.le_of_ble_eq_true rfl, Nat.le_of_ble_eq_true rfl⟩ (xce_15 G kp _ _) rfl rfl rfl (Nat.le_of_ble_eq_true rfl) hl.1 hR hS dX5_find_52 ⟨Nat.le_refl _, Nat.le_refl _⟩ (fun v4 hf H locs hR hS => ?_)
        refine x_ic_ge (tgt := 62) hC dX5_find_55 (by decide) hf (fun hf => ?_) (fun hf => ?_)
        · refine lv_iconst (v := 0) hC.1 hC.2.1 dX5_find_62 (by decide) ?_
          exact W_X5_find_j63 hC N _ hk19 hf _ _ _ hR hS (lv_sub hl [0, 1, 2, 3] rfl)
        · refine lv_iconst (v := 1) hC.1 hC.2.1 dX5_find_58 (by decide) ?_
          refine lv_goto (tgt := 63) hC.1 hC.2.1 dX5_find_59 (by decide) ?_
          exact W_X5_find_j63 hC N _ hk19 hf _ _ _ hR hS (lv_sub hl [0, 1, 2, 3] rfl)
set_option maxRecDepth 20000 in
theorem M_X5_find (G : XG) (l : Launch) (kp : Bool) (N : Nat) {I : xTI} {L : xTL} {x1 : Int32} {x3 : Int32} {x4 : Int32} {r : Int32} {rI : xTI} (hf : F_X5_find N I x1 x3 x4 = some (r, rI)) : xMet G l yX5_find cX5_find 9 (some .int) 3 68 kp [.ref (xz G + 14), .int x1, .ref (xz G + 1), .int x3, .int x4] I L (some (.int r)) rI L := by
  refine xMet.ofW (by decide +kernel) (Nat.le_of_ble_eq_true rfl) ?_
  intro p e s m args below meth c hC H locs ls hR hS hl
  replace hC : xC G p s m args meth c cX5_find 9 RX5 (some .int) := hC
  replace hl : lv_has ls 9 [(0, .ref (xz G + 14)), (1, .int x1), (2, .ref (xz G + 1)), (3, .int x3), (4, .int x4)] := hl
  unfold F_X5_find at hf
  refine lv_aload_n hC.1 hC.2.1 dX5_find_0 rfl (lv_at hl 0 rfl) ?_
  refine lv_aload_n hC.1 hC.2.1 dX5_find_1 rfl (lv_at hl 2 rfl) ?_
  refine lv_iload_n hC.1 hC.2.1 dX5_find_2 rfl (lv_at hl 3 rfl) ?_
  refine lv_iload hC.1 hC.2.1 dX5_find_3 (lv_at hl 4 rfl) ?_
  refine x_cvv10 (rest := []) hC xy_X5_nameAll tw_588 hf (fun _ h => M_X5_nameAll G l kp N h) ⟨Nat.le_of_ble_eq_true rfl, Nat.le_of_ble_eq_true rfl⟩ (xce_14 G kp _ _) rfl rfl rfl (Nat.le_of_ble_eq_true rfl) hl.1 hR hS dX5_find_5 ⟨Nat.le_refl _, Nat.le_refl _⟩ (fun I1 hf H locs hR hS => ?_)
  refine lv_aload_n hC.1 hC.2.1 dX5_find_8 rfl (lv_at hl 0 rfl) ?_
  refine x_get (v := .ref (xz G + 15)) hC xf_X5_16 (xce_14 G kp _ _) rfl hR dX5_find_9 ?_
  refine x_getI hC xf_X5_30 (xce_15 G kp _ _) rfl hR dX5_find_12 hf (fun v2 hf => ?_)
  refine lv_iconst (v := 1) hC.1 hC.2.1 dX5_find_15 (by decide) ?_
  refine lv_isub hC.1 hC.2.1 dX5_find_16 ?_
  refine x_ist (lv' := fun y3 => [(5, .int y3), (0, .ref (xz G + 14)), (1, .int x1), (2, .ref (xz G + 1)), (3, .int x3), (4, .int x4)]) hC hl dX5_find_17 (Nat.le_of_ble_eq_true rfl) hf (fun _ => rfl) (fun y3 hf ls hl => ?_)
  exact W_X5_find_l19 hC N _ y3 I1 hf _ _ _ hR hS (lv_sub hl [1, 2, 3, 0] rfl)
set_option maxRecDepth 20000 in
theorem M_X5_tells (G : XG) (l : Launch) (kp : Bool) (N : Nat) {I : xTI} {L : xTL} {x1 : Int32} {x3 : Int32} {x4 : Int32} {r : Int32} {rI : xTI} (hf : F_X5_tells N I x1 x3 x4 = some (r, rI)) : xMet G l yX5_tells cX5_tells 6 (some .int) 4 96 kp [.ref (xz G + 14), .int x1, .ref (xz G + 1), .int x3, .int x4] I L (some (.int r)) rI L := by
  refine xMet.ofW (by decide +kernel) (Nat.le_of_ble_eq_true rfl) ?_
  intro p e s m args below meth c hC H locs ls hR hS hl
  replace hC : xC G p s m args meth c cX5_tells 6 RX5 (some .int) := hC
  replace hl : lv_has ls 6 [(0, .ref (xz G + 14)), (1, .int x1), (2, .ref (xz G + 1)), (3, .int x3), (4, .int x4)] := hl
  unfold F_X5_tells at hf
  refine lv_aload_n hC.1 hC.2.1 dX5_tells_0 rfl (lv_at hl 0 rfl) ?_
  refine lv_iload_n hC.1 hC.2.1 dX5_tells_1 rfl (lv_at hl 1 rfl) ?_
  refine lv_aload_n hC.1 hC.2.1 dX5_tells_2 rfl (lv_at hl 2 rfl) ?_
  refine lv_iload_n hC.1 hC.2.1 dX5_tells_3 rfl (lv_at hl 3 rfl) ?_
  refine lv_iload hC.1 hC.2.1 dX5_tells_4 (lv_at hl 4 rfl) ?_
  refine x_cvi10 (rest := []) hC xy_X5_find tw_584 hf (fun _ _ h => M_X5_find G l kp N h) ⟨Nat.le_of_ble_eq_true rfl, Nat.le_of_ble_eq_true rfl⟩ (xce_14 G kp _ _) rfl rfl rfl (Nat.le_of_ble_eq_true rfl) hl.1 hR hS dX5_tells_6 ⟨Nat.le_refl _, Nat.le_refl _⟩ (fun v1 I2 hf H locs hR hS => ?_)
  refine lv_istore (lv' := [(5, .int v1), (0, .ref (xz G + 14)), (1, .int x1), (2, .ref (xz G + 1)), (3, .int x3), (4, .int x4)]) hC.1 hC.2.1 dX5_tells_9 hl (Nat.le_of_ble_eq_true rfl) rfl (fun ls hl => ?_)
  refine lv_iload hC.1 hC.2.1 dX5_tells_11 (lv_at hl 0 rfl) ?_
  refine lv_iconst (v := (-1)) hC.1 hC.2.1 dX5_tells_13 (by decide) ?_
  refine x_ic_ne (tgt := 25) hC dX5_tells_14 (by decide) hf (fun hf => ?_) (fun hf => ?_)
  · refine lv_aload_n hC.1 hC.2.1 dX5_tells_25 rfl (lv_at hl 1 rfl) ?_
    refine lv_iload hC.1 hC.2.1 dX5_tells_26 (lv_at hl 0 rfl) ?_
    refine lv_iconst (v := 0) hC.1 hC.2.1 dX5_tells_28 (by decide) ?_
    refine lv_aload_n hC.1 hC.2.1 dX5_tells_29 rfl (lv_at hl 1 rfl) ?_
    refine x_get (v := .ref (xz G + 15)) hC xf_X5_16 (xce_14 G kp _ _) rfl hR dX5_tells_30 ?_
    refine lv_iload hC.1 hC.2.1 dX5_tells_33 (lv_at hl 0 rfl) ?_
    refine lv_iconst (v := 3) hC.1 hC.2.1 dX5_tells_35 (by decide) ?_
    refine x_cvi00 (rest := [.int 0, .int v1, .ref (xz G + 14)]) hC xy_X8_at tw_606 hf (fun _ h => M_X8_at_15 G l kp h) ⟨Nat.le_of_ble_eq_true rfl, Nat.le_of_ble_eq_true rfl⟩ (xce_15 G kp _ _) rfl rfl rfl (Nat.le_of_ble_eq_true rfl) hl.1 hR hS dX5_tells_36 ⟨Nat.le_refl _, Nat.le_refl _⟩ (fun v3 hf H locs hR hS => ?_)
    refine x_cvi10 (rest := []) hC xy_X5_work tw_607 hf (fun _ _ h => M_X5_work G l kp N h) ⟨Nat.le_of_ble_eq_true rfl, Nat.le_of_ble_eq_true rfl⟩ (xce_14 G kp _ _) rfl rfl rfl (Nat.le_of_ble_eq_true rfl) hl.1 hR hS dX5_tells_39 ⟨Nat.le_refl _, Nat.le_refl _⟩ (fun v4 I5 hf H locs hR hS => ?_)
    obtain ⟨h91, h92⟩ := Prod.mk.inj (Option.some.inj hf)
    subst h91
    subst h92
    exact x_iret hC hR hS dX5_tells_42
  · refine x_gsW hC hS hR tw_614 dX5_tells_17 ?_
    refine lv_iload_n hC.1 hC.2.1 dX5_tells_20 rfl (lv_at hl 2 rfl) ?_
    refine x_wal hC hS hR dX5_tells_21 hf (fun v6 hf => ?_)
    refine lv_goto (tgt := 42) hC.1 hC.2.1 dX5_tells_22 (by decide) ?_
    obtain ⟨h91, h92⟩ := Prod.mk.inj (Option.some.inj hf)
    subst h91
    subst h92
    exact x_iret hC hR hS dX5_tells_42
set_option maxRecDepth 20000 in
theorem M_X10_putOffPrice (G : XG) (l : Launch) (kp : Bool) {I : xTI} {L : xTL} {x0 : Int32} {x1 : Int32} {r : Int32} (hf : F_X10_putOffPrice x0 x1 = some r) : xMet G l yX10_putOffPrice cX10_putOffPrice 4 (some .int) 1 23 kp [.int x0, .int x1] I L (some (.int r)) I L := by
  refine xMet.ofW (by decide +kernel) (Nat.le_of_ble_eq_true rfl) ?_
  intro p e s m args below meth c hC H locs ls hR hS hl
  replace hC : xC G p s m args meth c cX10_putOffPrice 4 RX10 (some .int) := hC
  replace hl : lv_has ls 4 [(0, .int x0), (1, .int x1)] := hl
  unfold F_X10_putOffPrice at hf
  refine lv_iload_n hC.1 hC.2.1 dX10_putOffPrice_0 rfl (lv_at hl 0 rfl) ?_
  refine lv_i2l hC.1 hC.2.1 dX10_putOffPrice_1 rfl ?_
  refine lv_iload_n hC.1 hC.2.1 dX10_putOffPrice_2 rfl (lv_at hl 0 rfl) ?_
  refine lv_i2l hC.1 hC.2.1 dX10_putOffPrice_3 rfl ?_
  refine lv_iload_n hC.1 hC.2.1 dX10_putOffPrice_4 rfl (lv_at hl 1 rfl) ?_
  refine lv_i2l hC.1 hC.2.1 dX10_putOffPrice_5 rfl ?_
  refine lv_lmul hC.1 hC.2.1 dX10_putOffPrice_6 ?_
  refine x_ldc2 (v := 10000) hC tw_619 dX10_putOffPrice_7 ?_
  refine lv_ldiv hC.1 hC.2.1 dX10_putOffPrice_10 (by decide) ?_
  refine lv_ladd hC.1 hC.2.1 dX10_putOffPrice_11 ?_
  refine x_lstn (lv' := fun y1 => [(2, .long y1), (0, .int x0), (1, .int x1)]) hC hl dX10_putOffPrice_12 rfl (Nat.le_of_ble_eq_true rfl) hf (fun _ => rfl) (fun y1 hf ls hl => ?_)
  refine W.eq (g2 := F0 m 13 ls []) rfl ?_
  refine lv_lconst (v := 1) hC.1 hC.2.1 dX10_putOffPrice_13 (by decide) ?_
  refine lv_lload_n hC.1 hC.2.1 dX10_putOffPrice_14 rfl (lv_at hl 0 rfl) ?_
  refine x_ldc2 (v := 9999) hC tw_620 dX10_putOffPrice_15 ?_
  refine x_mnl (rest := [.long 1]) hC tw_621 hl.1 (Nat.le_of_ble_eq_true rfl) (Nat.le_of_ble_eq_true rfl) dX10_putOffPrice_18 ⟨Nat.le_refl _, Nat.le_refl _⟩ hf (fun v2 hf => ?_)
  refine x_mxl (rest := []) hC tw_624 hl.1 (Nat.le_of_ble_eq_true rfl) (Nat.le_of_ble_eq_true rfl) dX10_putOffPrice_21 ⟨Nat.le_refl _, Nat.le_refl _⟩ hf (fun v3 hf => ?_)
  refine lv_l2i hC.1 hC.2.1 dX10_putOffPrice_24 rfl ?_
  have h9 := Option.some.inj hf
  subst h9
  exact x_iret hC hR hS dX10_putOffPrice_25
set_option maxRecDepth 20000 in
theorem W_X0_makeStand_j50 {G : XG} {l : Launch} {kp : Bool} {p : Program} {e : Env} {s : State} {m : MethodId} {args : Array Value} {below : List Frame} {meth : Method} {c : Code} (hC : xC G p s m args meth c cX0_makeStand 3 RX0 none) {I : xTI} {L : xTL} {rI : xTI} {x1 : Int32} (hf : F_X0_makeStand_j50 I x1 = some rI) : ∀ (H : Heap) (locs : List Loc) (ls : Array Slot), xRep G kp I L H → xS G s.heap H locs → lv_has ls 3 [(0, .ref (xz G + 11)), (1, .int x1)] → W p l e (xrm 1 24) s m args below meth c H locs 0 0 (xMQ G kp below args s none rI L) (F0 m 50 ls []) := by
  intro H locs ls hR hS hl
  unfold F_X0_makeStand_j50 at hf
  refine lv_aload_n hC.1 hC.2.1 dX0_makeStand_50 rfl (lv_at hl 0 rfl) ?_
  refine x_get (v := .ref (xz G + 12)) hC xf_X0_16 (xce_11 G kp _ _) rfl hR dX0_makeStand_51 ?_
  refine lv_iload_n hC.1 hC.2.1 dX0_makeStand_54 rfl (lv_at hl 1 rfl) ?_
  refine lv_bipush (v := 7) hC.1 hC.2.1 dX0_makeStand_55 (by decide) ?_
  refine lv_iconst (v := 1) hC.1 hC.2.1 dX0_makeStand_57 (by decide) ?_
  refine x_cvv10 (rest := []) hC xy_X8_put tw_120 hf (fun _ h => M_X8_put_12 G l kp h) ⟨Nat.le_of_ble_eq_true rfl, Nat.le_of_ble_eq_true rfl⟩ (xce_12 G kp _ _) rfl rfl rfl (Nat.le_of_ble_eq_true rfl) hl.1 hR hS dX0_makeStand_58 ⟨Nat.le_refl _, Nat.le_refl _⟩ (fun I1 hf H locs hR hS => ?_)
  have h9 := Option.some.inj hf
  subst h9
  exact x_vret hC hR hS dX0_makeStand_61
set_option maxRecDepth 20000 in
theorem W_X0_makeStand_j25 {G : XG} {l : Launch} {kp : Bool} {p : Program} {e : Env} {s : State} {m : MethodId} {args : Array Value} {below : List Frame} {meth : Method} {c : Code} (hC : xC G p s m args meth c cX0_makeStand 3 RX0 none) {I : xTI} {L : xTL} {rI : xTI} {x1 : Int32} {x2 : Int32} (hf : F_X0_makeStand_j25 I x1 x2 = some rI) : ∀ (H : Heap) (locs : List Loc) (ls : Array Slot), xRep G kp I L H → xS G s.heap H locs → lv_has ls 3 [(0, .ref (xz G + 11)), (1, .int x1), (2, .int x2)] → W p l e (xrm 1 24) s m args below meth c H locs 0 0 (xMQ G kp below args s none rI L) (F0 m 25 ls []) := by
  intro H locs ls hR hS hl
  unfold F_X0_makeStand_j25 at hf
  refine lv_aload_n hC.1 hC.2.1 dX0_makeStand_25 rfl (lv_at hl 0 rfl) ?_
  refine x_get (v := .ref (xz G + 12)) hC xf_X0_16 (xce_11 G kp _ _) rfl hR dX0_makeStand_26 ?_
  refine lv_iload_n hC.1 hC.2.1 dX0_makeStand_29 rfl (lv_at hl 1 rfl) ?_
  refine lv_bipush (v := 9) hC.1 hC.2.1 dX0_makeStand_30 (by decide) ?_
  refine x_cvi00 (rest := []) hC xy_X8_at tw_462 hf (fun _ h => M_X8_at_12 G l kp h) ⟨Nat.le_of_ble_eq_true rfl, Nat.le_of_ble_eq_true rfl⟩ (xce_12 G kp _ _) rfl rfl rfl (Nat.le_of_ble_eq_true rfl) hl.1 hR hS dX0_makeStand_32 ⟨Nat.le_refl _, Nat.le_refl _⟩ (fun v1 hf H locs hR hS => ?_)
  refine lv_iconst (v := (-1)) hC.1 hC.2.1 dX0_makeStand_35 (by decide) ?_
  refine x_ic_ne (tgt := 50) hC dX0_makeStand_36 (by decide) hf (fun hf => ?_) (fun hf => ?_)
  · exact W_X0_makeStand_j50 hC hf _ _ _ hR hS (lv_sub hl [0, 1] rfl)
  · refine lv_aload_n hC.1 hC.2.1 dX0_makeStand_39 rfl (lv_at hl 0 rfl) ?_
    refine x_get (v := .ref (xz G + 12)) hC xf_X0_16 (xce_11 G kp _ _) rfl hR dX0_makeStand_40 ?_
    refine lv_iload_n hC.1 hC.2.1 dX0_makeStand_43 rfl (lv_at hl 1 rfl) ?_
    refine lv_bipush (v := 9) hC.1 hC.2.1 dX0_makeStand_44 (by decide) ?_
    refine lv_iload_n hC.1 hC.2.1 dX0_makeStand_46 rfl (lv_at hl 2 rfl) ?_
    refine x_cvv10 (rest := []) hC xy_X8_put tw_120 hf (fun _ h => M_X8_put_12 G l kp h) ⟨Nat.le_of_ble_eq_true rfl, Nat.le_of_ble_eq_true rfl⟩ (xce_12 G kp _ _) rfl rfl rfl (Nat.le_of_ble_eq_true rfl) hl.1 hR hS dX0_makeStand_47 ⟨Nat.le_refl _, Nat.le_refl _⟩ (fun I2 hf H locs hR hS => ?_)
    exact W_X0_makeStand_j50 hC hf _ _ _ hR hS (lv_sub hl [0, 1] rfl)
set_option maxRecDepth 20000 in
theorem M_X0_makeStand (G : XG) (l : Launch) (kp : Bool) {I : xTI} {L : xTL} {x1 : Int32} {x2 : Int32} {rI : xTI} (hf : F_X0_makeStand I x1 x2 = some rI) : xMet G l yX0_makeStand cX0_makeStand 3 none 1 24 kp [.ref (xz G + 11), .int x1, .int x2] I L none rI L := by
  refine xMet.ofW (by decide +kernel) (Nat.le_of_ble_eq_true rfl) ?_
  intro p e s m args below meth c hC H locs ls hR hS hl
  replace hC : xC G p s m args meth c cX0_makeStand 3 RX0 none := hC
  replace hl : lv_has ls 3 [(0, .ref (xz G + 11)), (1, .int x1), (2, .int x2)] := hl
  unfold F_X0_makeStand at hf
  refine lv_aload_n hC.1 hC.2.1 dX0_makeStand_0 rfl (lv_at hl 0 rfl) ?_
  refine x_get (v := .ref (xz G + 12)) hC xf_X0_16 (xce_11 G kp _ _) rfl hR dX0_makeStand_1 ?_
  refine lv_iload_n hC.1 hC.2.1 dX0_makeStand_4 rfl (lv_at hl 1 rfl) ?_
  refine lv_bipush (v := 8) hC.1 hC.2.1 dX0_makeStand_5 (by decide) ?_
  refine x_cvi00 (rest := []) hC xy_X8_at tw_462 hf (fun _ h => M_X8_at_12 G l kp h) ⟨Nat.le_of_ble_eq_true rfl, Nat.le_of_ble_eq_true rfl⟩ (xce_12 G kp _ _) rfl rfl rfl (Nat.le_of_ble_eq_true rfl) hl.1 hR hS dX0_makeStand_7 ⟨Nat.le_refl _, Nat.le_refl _⟩ (fun v1 hf H locs hR hS => ?_)
  refine lv_iconst (v := (-1)) hC.1 hC.2.1 dX0_makeStand_10 (by decide) ?_
  refine x_ic_ne (tgt := 25) hC dX0_makeStand_11 (by decide) hf (fun hf => ?_) (fun hf => ?_)
  · exact W_X0_makeStand_j25 hC hf _ _ _ hR hS (lv_sub hl [0, 1, 2] rfl)
  · refine lv_aload_n hC.1 hC.2.1 dX0_makeStand_14 rfl (lv_at hl 0 rfl) ?_
    refine x_get (v := .ref (xz G + 12)) hC xf_X0_16 (xce_11 G kp _ _) rfl hR dX0_makeStand_15 ?_
    refine lv_iload_n hC.1 hC.2.1 dX0_makeStand_18 rfl (lv_at hl 1 rfl) ?_
    refine lv_bipush (v := 8) hC.1 hC.2.1 dX0_makeStand_19 (by decide) ?_
    refine lv_iload_n hC.1 hC.2.1 dX0_makeStand_21 rfl (lv_at hl 2 rfl) ?_
    refine x_cvv10 (rest := []) hC xy_X8_put tw_120 hf (fun _ h => M_X8_put_12 G l kp h) ⟨Nat.le_of_ble_eq_true rfl, Nat.le_of_ble_eq_true rfl⟩ (xce_12 G kp _ _) rfl rfl rfl (Nat.le_of_ble_eq_true rfl) hl.1 hR hS dX0_makeStand_22 ⟨Nat.le_refl _, Nat.le_refl _⟩ (fun I2 hf H locs hR hS => ?_)
    exact W_X0_makeStand_j25 hC hf _ _ _ hR hS (lv_sub hl [0, 1, 2] rfl)
set_option maxRecDepth 20000 in
theorem M_X0_makePutOff (G : XG) (l : Launch) (kp : Bool) {I : xTI} {L : xTL} {x1 : Int32} {x2 : Int32} {x3 : Int32} {rI : xTI} (hf : F_X0_makePutOff I x1 x2 x3 = some rI) : xMet G l yX0_makePutOff cX0_makePutOff 4 none 2 46 kp [.ref (xz G + 11), .int x1, .int x2, .int x3] I L none rI L := by
  refine xMet.ofW (by decide +kernel) (Nat.le_of_ble_eq_true rfl) ?_
  intro p e s m args below meth c hC H locs ls hR hS hl
  replace hC : xC G p s m args meth c cX0_makePutOff 4 RX0 none := hC
  replace hl : lv_has ls 4 [(0, .ref (xz G + 11)), (1, .int x1), (2, .int x2), (3, .int x3)] := hl
  unfold F_X0_makePutOff at hf
  refine lv_aload_n hC.1 hC.2.1 dX0_makePutOff_0 rfl (lv_at hl 0 rfl) ?_
  refine x_get (v := .ref (xz G + 12)) hC xf_X0_16 (xce_11 G kp _ _) rfl hR dX0_makePutOff_1 ?_
  refine lv_iload_n hC.1 hC.2.1 dX0_makePutOff_4 rfl (lv_at hl 1 rfl) ?_
  refine lv_bipush (v := 6) hC.1 hC.2.1 dX0_makePutOff_5 (by decide) ?_
  refine lv_iload_n hC.1 hC.2.1 dX0_makePutOff_7 rfl (lv_at hl 2 rfl) ?_
  refine x_cvv10 (rest := []) hC xy_X8_put tw_120 hf (fun _ h => M_X8_put_12 G l kp h) ⟨Nat.le_of_ble_eq_true rfl, Nat.le_of_ble_eq_true rfl⟩ (xce_12 G kp _ _) rfl rfl rfl (Nat.le_of_ble_eq_true rfl) hl.1 hR hS dX0_makePutOff_8 ⟨Nat.le_refl _, Nat.le_refl _⟩ (fun I1 hf H locs hR hS => ?_)
  refine lv_aload_n hC.1 hC.2.1 dX0_makePutOff_11 rfl (lv_at hl 0 rfl) ?_
  refine x_get (v := .ref (xz G + 12)) hC xf_X0_16 (xce_11 G kp _ _) rfl hR dX0_makePutOff_12 ?_
  refine lv_iload_n hC.1 hC.2.1 dX0_makePutOff_15 rfl (lv_at hl 1 rfl) ?_
  refine lv_bipush (v := 10) hC.1 hC.2.1 dX0_makePutOff_16 (by decide) ?_
  refine lv_iconst (v := 1) hC.1 hC.2.1 dX0_makePutOff_18 (by decide) ?_
  refine W.eq (g2 := F0 m 19 ls [.int 1, .int 10, .int x1, .ref (xz G + 12)]) rfl ?_
  refine x_cvv10 (rest := []) hC xy_X8_put tw_120 hf (fun _ h => M_X8_put_12 G l kp h) ⟨Nat.le_of_ble_eq_true rfl, Nat.le_of_ble_eq_true rfl⟩ (xce_12 G kp _ _) rfl rfl rfl (Nat.le_of_ble_eq_true rfl) hl.1 hR hS dX0_makePutOff_19 ⟨Nat.le_refl _, Nat.le_refl _⟩ (fun I2 hf H locs hR hS => ?_)
  refine lv_aload_n hC.1 hC.2.1 dX0_makePutOff_22 rfl (lv_at hl 0 rfl) ?_
  refine lv_iload_n hC.1 hC.2.1 dX0_makePutOff_23 rfl (lv_at hl 1 rfl) ?_
  refine lv_iload_n hC.1 hC.2.1 dX0_makePutOff_24 rfl (lv_at hl 3 rfl) ?_
  refine x_cvv10 (rest := []) hC xy_X0_makeStand tw_631 hf (fun _ h => M_X0_makeStand G l kp h) ⟨Nat.le_of_ble_eq_true rfl, Nat.le_of_ble_eq_true rfl⟩ (xce_11 G kp _ _) rfl rfl rfl (Nat.le_of_ble_eq_true rfl) hl.1 hR hS dX0_makePutOff_25 ⟨Nat.le_refl _, Nat.le_refl _⟩ (fun I3 hf H locs hR hS => ?_)
  have h9 := Option.some.inj hf
  subst h9
  exact x_vret hC hR hS dX0_makePutOff_28
set_option maxRecDepth 20000 in
theorem W_X10_putOff_j16 {G : XG} {l : Launch} {kp : Bool} {p : Program} {e : Env} {s : State} {m : MethodId} {args : Array Value} {below : List Frame} {meth : Method} {c : Code} (hC : xC G p s m args meth c cX10_putOff 7 RX10 (some .int)) (N : Nat) {I : xTI} {L : xTL} {r : Int32} {rI : xTI} (hf : F_X10_putOff_j16 N I = some (r, rI)) : ∀ (H : Heap) (locs : List Loc) (ls : Array Slot), xRep G kp I L H → xS G s.heap H locs → lv_has ls 7 [(0, .ref (xz G + 0))] → W p l e (xrm 5 121) s m args below meth c H locs 0 0 (xMQ G kp below args s (some (.int r)) rI L) (F0 m 16 ls []) := by
  intro H locs ls hR hS hl
  unfold F_X10_putOff_j16 at hf
  refine lv_aload_n hC.1 hC.2.1 dX10_putOff_16 rfl (lv_at hl 0 rfl) ?_
  refine lv_bipush (v := (-3)) hC.1 hC.2.1 dX10_putOff_17 (by decide) ?_
  refine x_cvi10 (rest := []) hC xy_X10_refuse tw_411 hf (fun _ _ h => M_X10_refuse G l kp h) ⟨Nat.le_of_ble_eq_true rfl, Nat.le_of_ble_eq_true rfl⟩ (xce_0 G kp _ _) rfl rfl rfl (Nat.le_of_ble_eq_true rfl) hl.1 hR hS dX10_putOff_19 ⟨Nat.le_refl _, Nat.le_refl _⟩ (fun v1 I2 hf H locs hR hS => ?_)
  obtain ⟨h91, h92⟩ := Prod.mk.inj (Option.some.inj hf)
  subst h91
  subst h92
  exact x_iret hC hR hS dX10_putOff_22
set_option maxRecDepth 20000 in
theorem W_X10_putOff_j65 {G : XG} {l : Launch} {kp : Bool} {p : Program} {e : Env} {s : State} {m : MethodId} {args : Array Value} {below : List Frame} {meth : Method} {c : Code} (hC : xC G p s m args meth c cX10_putOff 7 RX10 (some .int)) (N : Nat) {I : xTI} {L : xTL} {r : Int32} {rI : xTI} (hf : F_X10_putOff_j65 N I = some (r, rI)) : ∀ (H : Heap) (locs : List Loc) (ls : Array Slot), xRep G kp I L H → xS G s.heap H locs → lv_has ls 7 [(0, .ref (xz G + 0))] → W p l e (xrm 5 121) s m args below meth c H locs 0 0 (xMQ G kp below args s (some (.int r)) rI L) (F0 m 65 ls []) := by
  intro H locs ls hR hS hl
  unfold F_X10_putOff_j65 at hf
  refine lv_aload_n hC.1 hC.2.1 dX10_putOff_65 rfl (lv_at hl 0 rfl) ?_
  refine lv_bipush (v := (-7)) hC.1 hC.2.1 dX10_putOff_66 (by decide) ?_
  refine x_cvi10 (rest := []) hC xy_X10_refuse tw_411 hf (fun _ _ h => M_X10_refuse G l kp h) ⟨Nat.le_of_ble_eq_true rfl, Nat.le_of_ble_eq_true rfl⟩ (xce_0 G kp _ _) rfl rfl rfl (Nat.le_of_ble_eq_true rfl) hl.1 hR hS dX10_putOff_68 ⟨Nat.le_refl _, Nat.le_refl _⟩ (fun v1 I2 hf H locs hR hS => ?_)
  obtain ⟨h91, h92⟩ := Prod.mk.inj (Option.some.inj hf)
  subst h91
  subst h92
  exact x_iret hC hR hS dX10_putOff_71
set_option maxRecDepth 20000 in
theorem W_X10_putOff_j109 {G : XG} {l : Launch} {kp : Bool} {p : Program} {e : Env} {s : State} {m : MethodId} {args : Array Value} {below : List Frame} {meth : Method} {c : Code} (hC : xC G p s m args meth c cX10_putOff 7 RX10 (some .int)) (N : Nat) {I : xTI} {L : xTL} {r : Int32} {rI : xTI} {x1 : Int32} {x2 : Int32} {x3 : Int32} {x4 : Int32} {t0 : Int32} (hf : F_X10_putOff_j109 N I x1 x2 x3 x4 t0 = some (r, rI)) : ∀ (H : Heap) (locs : List Loc) (ls : Array Slot), xRep G kp I L H → xS G s.heap H locs → lv_has ls 7 [(0, .ref (xz G + 0)), (1, .int x1), (2, .int x2), (3, .int x3), (4, .int x4)] → W p l e (xrm 5 121) s m args below meth c H locs 0 0 (xMQ G kp below args s (some (.int r)) rI L) (F0 m 109 ls [.int t0]) := by
  intro H locs ls hR hS hl
  unfold F_X10_putOff_j109 at hf
  refine lv_istore (lv' := [(5, .int t0), (0, .ref (xz G + 0)), (1, .int x1), (2, .int x2), (3, .int x3), (4, .int x4)]) hC.1 hC.2.1 dX10_putOff_109 hl (Nat.le_of_ble_eq_true rfl) rfl (fun ls hl => ?_)
  refine lv_iload hC.1 hC.2.1 dX10_putOff_111 (lv_at hl 0 rfl) ?_
  refine lv_iconst (v := (-1)) hC.1 hC.2.1 dX10_putOff_113 (by decide) ?_
  refine x_ic_ne (tgt := 124) hC dX10_putOff_114 (by decide) hf (fun hf => ?_) (fun hf => ?_)
  · refine lv_aload_n hC.1 hC.2.1 dX10_putOff_124 rfl (lv_at hl 1 rfl) ?_
    refine x_get (v := .ref (xz G + 1)) hC xf_X10_10 (xce_0 G kp _ _) rfl hR dX10_putOff_125 ?_
    refine x_get (v := .ref (xz G + 2)) hC xf_X10_146 (xce_1 G kp _ _) rfl hR dX10_putOff_128 ?_
    refine lv_iload_n hC.1 hC.2.1 dX10_putOff_131 rfl (lv_at hl 3 rfl) ?_
    refine x_ial hC (xce_2 G kp _ _) hR dX10_putOff_132 hf (fun v1 hf => ?_)
    refine lv_aload_n hC.1 hC.2.1 dX10_putOff_133 rfl (lv_at hl 1 rfl) ?_
    refine x_get (v := .ref (xz G + 1)) hC xf_X10_10 (xce_0 G kp _ _) rfl hR dX10_putOff_134 ?_
    refine x_get (v := .ref (xz G + 14)) hC xf_X10_196 (xce_1 G kp _ _) rfl hR dX10_putOff_137 ?_
    refine lv_iconst (v := 0) hC.1 hC.2.1 dX10_putOff_140 (by decide) ?_
    refine lv_aload_n hC.1 hC.2.1 dX10_putOff_141 rfl (lv_at hl 1 rfl) ?_
    refine x_get (v := .ref (xz G + 1)) hC xf_X10_10 (xce_0 G kp _ _) rfl hR dX10_putOff_142 ?_
    refine W.eq (g2 := F0 m 145 ls [.ref (xz G + 1), .int 0, .ref (xz G + 14), .int v1]) rfl ?_
    refine lv_iload_n hC.1 hC.2.1 dX10_putOff_145 rfl (lv_at hl 3 rfl) ?_
    refine lv_iconst (v := (-1)) hC.1 hC.2.1 dX10_putOff_146 (by decide) ?_
    refine x_cvi10 (rest := [.int v1]) hC xy_X5_tells tw_580 hf (fun _ _ h => M_X5_tells G l kp N h) ⟨Nat.le_of_ble_eq_true rfl, Nat.le_of_ble_eq_true rfl⟩ (xce_14 G kp _ _) rfl rfl rfl (Nat.le_of_ble_eq_true rfl) hl.1 hR hS dX10_putOff_147 ⟨Nat.le_refl _, Nat.le_refl _⟩ (fun v2 I3 hf H locs hR hS => ?_)
    refine x_csi00 (rest := []) hC xy_X10_putOffPrice tw_616 hf (fun _ h => M_X10_putOffPrice G l kp h) ⟨Nat.le_of_ble_eq_true rfl, Nat.le_of_ble_eq_true rfl⟩ rfl rfl (Nat.le_of_ble_eq_true rfl) hl.1 hR hS dX10_putOff_150 ⟨Nat.le_refl _, Nat.le_refl _⟩ (fun v4 hf H locs hR hS => ?_)
    refine lv_istore (lv' := [(6, .int v4), (5, .int t0), (0, .ref (xz G + 0)), (1, .int x1), (2, .int x2), (3, .int x3), (4, .int x4)]) hC.1 hC.2.1 dX10_putOff_153 hl (Nat.le_of_ble_eq_true rfl) rfl (fun ls hl => ?_)
    refine lv_aload_n hC.1 hC.2.1 dX10_putOff_155 rfl (lv_at hl 2 rfl) ?_
    refine x_get (v := .ref (xz G + 1)) hC xf_X10_10 (xce_0 G kp _ _) rfl hR dX10_putOff_156 ?_
    refine x_get (v := .ref (xz G + 11)) hC xf_X10_119 (xce_1 G kp _ _) rfl hR dX10_putOff_159 ?_
    refine lv_iload hC.1 hC.2.1 dX10_putOff_162 (lv_at hl 6 rfl) ?_
    refine lv_iload_n hC.1 hC.2.1 dX10_putOff_164 rfl (lv_at hl 3 rfl) ?_
    refine x_csi00 (rest := [.int x4, .ref (xz G + 11)]) hC xy_X10_first tw_510 hf (fun _ h => M_X10_first G l kp h) ⟨Nat.le_of_ble_eq_true rfl, Nat.le_of_ble_eq_true rfl⟩ rfl rfl (Nat.le_of_ble_eq_true rfl) hl.1 hR hS dX10_putOff_165 ⟨Nat.le_refl _, Nat.le_refl _⟩ (fun v5 hf H locs hR hS => ?_)
    refine lv_iload_n hC.1 hC.2.1 dX10_putOff_168 rfl (lv_at hl 3 rfl) ?_
    refine W.eq (g2 := F0 m 169 ls [.int x1, .int v5, .int x4, .ref (xz G + 11)]) rfl ?_
    refine x_csi00 (rest := [.int v5, .int x4, .ref (xz G + 11)]) hC xy_X10_second tw_513 hf (fun _ h => M_X10_second G l kp h) ⟨Nat.le_of_ble_eq_true rfl, Nat.le_of_ble_eq_true rfl⟩ rfl rfl (Nat.le_of_ble_eq_true rfl) hl.1 hR hS dX10_putOff_169 ⟨Nat.le_refl _, Nat.le_refl _⟩ (fun v6 hf H locs hR hS => ?_)
    refine lv_iload_n hC.1 hC.2.1 dX10_putOff_172 rfl (lv_at hl 4 rfl) ?_
    refine lv_iload_n hC.1 hC.2.1 dX10_putOff_173 rfl (lv_at hl 5 rfl) ?_
    refine lv_aload_n hC.1 hC.2.1 dX10_putOff_174 rfl (lv_at hl 2 rfl) ?_
    refine x_get (v := .ref (xz G + 1)) hC xf_X10_10 (xce_0 G kp _ _) rfl hR dX10_putOff_175 ?_
    refine x_get (v := .ref (xz G + 2)) hC xf_X10_146 (xce_1 G kp _ _) rfl hR dX10_putOff_178 ?_
    refine lv_iload_n hC.1 hC.2.1 dX10_putOff_181 rfl (lv_at hl 4 rfl) ?_
    refine x_ial hC (xce_2 G kp _ _) hR dX10_putOff_182 hf (fun v7 hf => ?_)
    refine lv_aload_n hC.1 hC.2.1 dX10_putOff_183 rfl (lv_at hl 2 rfl) ?_
    refine x_get (v := .ref (xz G + 1)) hC xf_X10_10 (xce_0 G kp _ _) rfl hR dX10_putOff_184 ?_
    refine x_getI hC xf_X10_164 (xce_1 G kp _ _) rfl hR dX10_putOff_187 hf (fun v8 hf => ?_)
    refine x_cvv10 (rest := []) hC xy_X0_write tw_527 hf (fun _ h => M_X0_write G l kp h) ⟨Nat.le_of_ble_eq_true rfl, Nat.le_of_ble_eq_true rfl⟩ (xce_11 G kp _ _) rfl rfl rfl (Nat.le_of_ble_eq_true rfl) hl.1 hR hS dX10_putOff_190 ⟨Nat.le_refl _, Nat.le_refl _⟩ (fun I9 hf H locs hR hS => ?_)
    refine W.eq (g2 := F0 m 193 ls []) rfl ?_
    refine lv_aload_n hC.1 hC.2.1 dX10_putOff_193 rfl (lv_at hl 2 rfl) ?_
    refine x_get (v := .ref (xz G + 1)) hC xf_X10_10 (xce_0 G kp _ _) rfl hR dX10_putOff_194 ?_
    refine x_get (v := .ref (xz G + 11)) hC xf_X10_119 (xce_1 G kp _ _) rfl hR dX10_putOff_197 ?_
    refine lv_iload hC.1 hC.2.1 dX10_putOff_200 (lv_at hl 6 rfl) ?_
    refine lv_aload_n hC.1 hC.2.1 dX10_putOff_202 rfl (lv_at hl 2 rfl) ?_
    refine x_get (v := .ref (xz G + 1)) hC xf_X10_10 (xce_0 G kp _ _) rfl hR dX10_putOff_203 ?_
    refine x_cvi00 (rest := [.int x4, .ref (xz G + 11)]) hC xy_X1_account tw_486 hf (fun _ h => M_X1_account G l kp h) ⟨Nat.le_of_ble_eq_true rfl, Nat.le_of_ble_eq_true rfl⟩ (xce_1 G kp _ _) rfl rfl rfl (Nat.le_of_ble_eq_true rfl) hl.1 hR hS dX10_putOff_206 ⟨Nat.le_refl _, Nat.le_refl _⟩ (fun v10 hf H locs hR hS => ?_)
    refine lv_aload_n hC.1 hC.2.1 dX10_putOff_209 rfl (lv_at hl 2 rfl) ?_
    refine x_get (v := .ref (xz G + 1)) hC xf_X10_10 (xce_0 G kp _ _) rfl hR dX10_putOff_210 ?_
    refine x_getI hC xf_X10_164 (xce_1 G kp _ _) rfl hR dX10_putOff_213 hf (fun v11 hf => ?_)
    refine x_cvv10 (rest := []) hC xy_X0_makePutOff tw_627 hf (fun _ h => M_X0_makePutOff G l kp h) ⟨Nat.le_of_ble_eq_true rfl, Nat.le_of_ble_eq_true rfl⟩ (xce_11 G kp _ _) rfl rfl rfl (Nat.le_of_ble_eq_true rfl) hl.1 hR hS dX10_putOff_216 ⟨Nat.le_refl _, Nat.le_refl _⟩ (fun I12 hf H locs hR hS => ?_)
    refine lv_aload_n hC.1 hC.2.1 dX10_putOff_219 rfl (lv_at hl 2 rfl) ?_
    refine W.eq (g2 := F0 m 220 ls [.ref (xz G + 0)]) rfl ?_
    refine x_get (v := .ref (xz G + 1)) hC xf_X10_10 (xce_0 G kp _ _) rfl hR dX10_putOff_220 ?_
    refine x_get (v := .ref (xz G + 11)) hC xf_X10_119 (xce_1 G kp _ _) rfl hR dX10_putOff_223 ?_
    refine lv_iload hC.1 hC.2.1 dX10_putOff_226 (lv_at hl 1 rfl) ?_
    refine lv_iload_n hC.1 hC.2.1 dX10_putOff_228 rfl (lv_at hl 3 rfl) ?_
    refine x_csi00 (rest := [.int t0, .ref (xz G + 11)]) hC xy_X10_second tw_513 hf (fun _ h => M_X10_second G l kp h) ⟨Nat.le_of_ble_eq_true rfl, Nat.le_of_ble_eq_true rfl⟩ rfl rfl (Nat.le_of_ble_eq_true rfl) hl.1 hR hS dX10_putOff_229 ⟨Nat.le_refl _, Nat.le_refl _⟩ (fun v13 hf H locs hR hS => ?_)
    refine lv_iload_n hC.1 hC.2.1 dX10_putOff_232 rfl (lv_at hl 3 rfl) ?_
    refine x_csi00 (rest := [.int v13, .int t0, .ref (xz G + 11)]) hC xy_X10_first tw_510 hf (fun _ h => M_X10_first G l kp h) ⟨Nat.le_of_ble_eq_true rfl, Nat.le_of_ble_eq_true rfl⟩ rfl rfl (Nat.le_of_ble_eq_true rfl) hl.1 hR hS dX10_putOff_233 ⟨Nat.le_refl _, Nat.le_refl _⟩ (fun v14 hf H locs hR hS => ?_)
    refine lv_iload_n hC.1 hC.2.1 dX10_putOff_236 rfl (lv_at hl 4 rfl) ?_
    refine lv_iload_n hC.1 hC.2.1 dX10_putOff_237 rfl (lv_at hl 5 rfl) ?_
    refine lv_iload hC.1 hC.2.1 dX10_putOff_238 (lv_at hl 0 rfl) ?_
    refine lv_aload_n hC.1 hC.2.1 dX10_putOff_240 rfl (lv_at hl 2 rfl) ?_
    refine x_get (v := .ref (xz G + 1)) hC xf_X10_10 (xce_0 G kp _ _) rfl hR dX10_putOff_241 ?_
    refine W.eq (g2 := F0 m 244 ls [.ref (xz G + 1), .int v4, .int x3, .int x2, .int v14, .int v13, .int t0, .ref (xz G + 11)]) rfl ?_
    refine x_getI hC xf_X10_164 (xce_1 G kp _ _) rfl hR dX10_putOff_244 hf (fun v15 hf => ?_)
    refine x_cvv10 (rest := []) hC xy_X0_write tw_527 hf (fun _ h => M_X0_write G l kp h) ⟨Nat.le_of_ble_eq_true rfl, Nat.le_of_ble_eq_true rfl⟩ (xce_11 G kp _ _) rfl rfl rfl (Nat.le_of_ble_eq_true rfl) hl.1 hR hS dX10_putOff_247 ⟨Nat.le_refl _, Nat.le_refl _⟩ (fun I16 hf H locs hR hS => ?_)
    refine lv_aload_n hC.1 hC.2.1 dX10_putOff_250 rfl (lv_at hl 2 rfl) ?_
    refine x_get (v := .ref (xz G + 1)) hC xf_X10_10 (xce_0 G kp _ _) rfl hR dX10_putOff_251 ?_
    refine x_get (v := .ref (xz G + 11)) hC xf_X10_119 (xce_1 G kp _ _) rfl hR dX10_putOff_254 ?_
    refine lv_iload hC.1 hC.2.1 dX10_putOff_257 (lv_at hl 1 rfl) ?_
    refine lv_aload_n hC.1 hC.2.1 dX10_putOff_259 rfl (lv_at hl 2 rfl) ?_
    refine x_get (v := .ref (xz G + 1)) hC xf_X10_10 (xce_0 G kp _ _) rfl hR dX10_putOff_260 ?_
    refine x_cvi00 (rest := [.int t0, .ref (xz G + 11)]) hC xy_X1_account tw_486 hf (fun _ h => M_X1_account G l kp h) ⟨Nat.le_of_ble_eq_true rfl, Nat.le_of_ble_eq_true rfl⟩ (xce_1 G kp _ _) rfl rfl rfl (Nat.le_of_ble_eq_true rfl) hl.1 hR hS dX10_putOff_263 ⟨Nat.le_refl _, Nat.le_refl _⟩ (fun v17 hf H locs hR hS => ?_)
    refine lv_iconst (v := 1) hC.1 hC.2.1 dX10_putOff_266 (by decide) ?_
    refine lv_iadd hC.1 hC.2.1 dX10_putOff_267 ?_
    refine lv_aload_n hC.1 hC.2.1 dX10_putOff_268 rfl (lv_at hl 2 rfl) ?_
    refine W.eq (g2 := F0 m 269 ls [.ref (xz G + 0), .int (v17 + 1), .int t0, .ref (xz G + 11)]) rfl ?_
    refine x_get (v := .ref (xz G + 1)) hC xf_X10_10 (xce_0 G kp _ _) rfl hR dX10_putOff_269 ?_
    refine x_getI hC xf_X10_164 (xce_1 G kp _ _) rfl hR dX10_putOff_272 hf (fun v18 hf => ?_)
    refine x_cvv10 (rest := []) hC xy_X0_makePutOff tw_627 hf (fun _ h => M_X0_makePutOff G l kp h) ⟨Nat.le_of_ble_eq_true rfl, Nat.le_of_ble_eq_true rfl⟩ (xce_11 G kp _ _) rfl rfl rfl (Nat.le_of_ble_eq_true rfl) hl.1 hR hS dX10_putOff_275 ⟨Nat.le_refl _, Nat.le_refl _⟩ (fun I19 hf H locs hR hS => ?_)
    refine lv_iload hC.1 hC.2.1 dX10_putOff_278 (lv_at hl 1 rfl) ?_
    obtain ⟨h91, h92⟩ := Prod.mk.inj (Option.some.inj hf)
    subst h91
    subst h92
    exact x_iret hC hR hS dX10_putOff_280
  · refine lv_aload_n hC.1 hC.2.1 dX10_putOff_117 rfl (lv_at hl 1 rfl) ?_
    refine lv_bipush (v := (-8)) hC.1 hC.2.1 dX10_putOff_118 (by decide) ?_
    refine x_cvi10 (rest := []) hC xy_X10_refuse tw_411 hf (fun _ _ h => M_X10_refuse G l kp h) ⟨Nat.le_of_ble_eq_true rfl, Nat.le_of_ble_eq_true rfl⟩ (xce_0 G kp _ _) rfl rfl rfl (Nat.le_of_ble_eq_true rfl) hl.1 hR hS dX10_putOff_120 ⟨Nat.le_refl _, Nat.le_refl _⟩ (fun v20 I21 hf H locs hR hS => ?_)
    obtain ⟨h91, h92⟩ := Prod.mk.inj (Option.some.inj hf)
    subst h91
    subst h92
    exact x_iret hC hR hS dX10_putOff_123
set_option maxRecDepth 20000 in
theorem M_X10_putOff (G : XG) (l : Launch) (kp : Bool) (N : Nat) {I : xTI} {L : xTL} {x1 : Int32} {x2 : Int32} {x3 : Int32} {r : Int32} {rI : xTI} (hf : F_X10_putOff N I x1 x2 x3 = some (r, rI)) : xMet G l yX10_putOff cX10_putOff 7 (some .int) 5 121 kp [.ref (xz G + 0), .int x1, .int x2, .int x3] I L (some (.int r)) rI L := by
  refine xMet.ofW (by decide +kernel) (Nat.le_of_ble_eq_true rfl) ?_
  intro p e s m args below meth c hC H locs ls hR hS hl
  replace hC : xC G p s m args meth c cX10_putOff 7 RX10 (some .int) := hC
  replace hl : lv_has ls 7 [(0, .ref (xz G + 0)), (1, .int x1), (2, .int x2), (3, .int x3)] := hl
  unfold F_X10_putOff at hf
  refine lv_aload_n hC.1 hC.2.1 dX10_putOff_0 rfl (lv_at hl 0 rfl) ?_
  refine lv_iload_n hC.1 hC.2.1 dX10_putOff_1 rfl (lv_at hl 1 rfl) ?_
  refine x_cvi00 (rest := []) hC xy_X10_areMen tw_506 hf (fun _ h => M_X10_areMen G l kp h) ⟨Nat.le_of_ble_eq_true rfl, Nat.le_of_ble_eq_true rfl⟩ (xce_0 G kp _ _) rfl rfl rfl (Nat.le_of_ble_eq_true rfl) hl.1 hR hS dX10_putOff_2 ⟨Nat.le_refl _, Nat.le_refl _⟩ (fun v1 hf H locs hR hS => ?_)
  refine x_if_eq (tgt := 16) hC dX10_putOff_5 (by decide) hf (fun hf => ?_) (fun hf => ?_)
  · exact W_X10_putOff_j16 hC N hf _ _ _ hR hS (lv_sub hl [0] rfl)
  · refine lv_aload_n hC.1 hC.2.1 dX10_putOff_8 rfl (lv_at hl 0 rfl) ?_
    refine lv_iload_n hC.1 hC.2.1 dX10_putOff_9 rfl (lv_at hl 2 rfl) ?_
    refine x_cvi00 (rest := []) hC xy_X10_isStock tw_431 hf (fun _ h => M_X10_isStock G l kp h) ⟨Nat.le_of_ble_eq_true rfl, Nat.le_of_ble_eq_true rfl⟩ (xce_0 G kp _ _) rfl rfl rfl (Nat.le_of_ble_eq_true rfl) hl.1 hR hS dX10_putOff_10 ⟨Nat.le_refl _, Nat.le_refl _⟩ (fun v2 hf H locs hR hS => ?_)
    refine x_if_ne (tgt := 23) hC dX10_putOff_13 (by decide) hf (fun hf => ?_) (fun hf => ?_)
    · refine lv_iload_n hC.1 hC.2.1 dX10_putOff_23 rfl (lv_at hl 3 rfl) ?_
      refine lv_iconst (v := 1) hC.1 hC.2.1 dX10_putOff_24 (by decide) ?_
      refine lv_bipush (v := 99) hC.1 hC.2.1 dX10_putOff_25 (by decide) ?_
      refine x_csi00 (rest := []) hC xy_X10_isWithin tw_408 hf (fun _ h => M_X10_isWithin G l kp h) ⟨Nat.le_of_ble_eq_true rfl, Nat.le_of_ble_eq_true rfl⟩ rfl rfl (Nat.le_of_ble_eq_true rfl) hl.1 hR hS dX10_putOff_27 ⟨Nat.le_refl _, Nat.le_refl _⟩ (fun v3 hf H locs hR hS => ?_)
      refine x_if_eq (tgt := 65) hC dX10_putOff_30 (by decide) hf (fun hf => ?_) (fun hf => ?_)
      · exact W_X10_putOff_j65 hC N hf _ _ _ hR hS (lv_sub hl [0] rfl)
      · refine lv_aload_n hC.1 hC.2.1 dX10_putOff_33 rfl (lv_at hl 0 rfl) ?_
        refine lv_iload_n hC.1 hC.2.1 dX10_putOff_34 rfl (lv_at hl 1 rfl) ?_
        refine x_cvi00 (rest := []) hC xy_X10_mayDeal tw_516 hf (fun _ h => M_X10_mayDeal G l kp h) ⟨Nat.le_of_ble_eq_true rfl, Nat.le_of_ble_eq_true rfl⟩ (xce_0 G kp _ _) rfl rfl rfl (Nat.le_of_ble_eq_true rfl) hl.1 hR hS dX10_putOff_35 ⟨Nat.le_refl _, Nat.le_refl _⟩ (fun v4 hf H locs hR hS => ?_)
        refine x_if_eq (tgt := 65) hC dX10_putOff_38 (by decide) hf (fun hf => ?_) (fun hf => ?_)
        · exact W_X10_putOff_j65 hC N hf _ _ _ hR hS (lv_sub hl [0] rfl)
        · refine lv_aload_n hC.1 hC.2.1 dX10_putOff_41 rfl (lv_at hl 0 rfl) ?_
          refine x_get (v := .ref (xz G + 1)) hC xf_X10_10 (xce_0 G kp _ _) rfl hR dX10_putOff_42 ?_
          refine x_cvi00 (rest := []) hC xy_X1_place tw_576 hf (fun _ h => M_X1_place G l kp h) ⟨Nat.le_of_ble_eq_true rfl, Nat.le_of_ble_eq_true rfl⟩ (xce_1 G kp _ _) rfl rfl rfl (Nat.le_of_ble_eq_true rfl) hl.1 hR hS dX10_putOff_45 ⟨Nat.le_refl _, Nat.le_refl _⟩ (fun v5 hf H locs hR hS => ?_)
          refine lv_bipush (v := 10) hC.1 hC.2.1 dX10_putOff_48 (by decide) ?_
          refine x_ic_ne (tgt := 65) hC dX10_putOff_50 (by decide) hf (fun hf => ?_) (fun hf => ?_)
          · exact W_X10_putOff_j65 hC N hf _ _ _ hR hS (lv_sub hl [0] rfl)
          · refine lv_aload_n hC.1 hC.2.1 dX10_putOff_53 rfl (lv_at hl 0 rfl) ?_
            refine x_get (v := .ref (xz G + 1)) hC xf_X10_10 (xce_0 G kp _ _) rfl hR dX10_putOff_54 ?_
            refine x_get (v := .ref (xz G + 2)) hC xf_X10_146 (xce_1 G kp _ _) rfl hR dX10_putOff_57 ?_
            refine lv_iload_n hC.1 hC.2.1 dX10_putOff_60 rfl (lv_at hl 2 rfl) ?_
            refine x_ial hC (xce_2 G kp _ _) hR dX10_putOff_61 hf (fun v6 hf => ?_)
            refine x_if_ne (tgt := 72) hC dX10_putOff_62 (by decide) hf (fun hf => ?_) (fun hf => ?_)
            · refine lv_aload_n hC.1 hC.2.1 dX10_putOff_72 rfl (lv_at hl 0 rfl) ?_
              refine x_get (v := .ref (xz G + 1)) hC xf_X10_10 (xce_0 G kp _ _) rfl hR dX10_putOff_73 ?_
              refine x_get (v := .ref (xz G + 11)) hC xf_X10_119 (xce_1 G kp _ _) rfl hR dX10_putOff_76 ?_
              refine lv_iconst (v := 0) hC.1 hC.2.1 dX10_putOff_79 (by decide) ?_
              refine x_cvi00 (rest := []) hC xy_X0_leastFree tw_520 hf (fun _ h => M_X0_leastFree G l kp N h) ⟨Nat.le_of_ble_eq_true rfl, Nat.le_of_ble_eq_true rfl⟩ (xce_11 G kp _ _) rfl rfl rfl (Nat.le_of_ble_eq_true rfl) hl.1 hR hS dX10_putOff_80 ⟨Nat.le_refl _, Nat.le_refl _⟩ (fun v7 hf H locs hR hS => ?_)
              refine lv_istore (lv' := [(4, .int v7), (0, .ref (xz G + 0)), (1, .int x1), (2, .int x2), (3, .int x3)]) hC.1 hC.2.1 dX10_putOff_83 hl (Nat.le_of_ble_eq_true rfl) rfl (fun ls hl => ?_)
              refine lv_iload hC.1 hC.2.1 dX10_putOff_85 (lv_at hl 0 rfl) ?_
              refine lv_iconst (v := (-1)) hC.1 hC.2.1 dX10_putOff_87 (by decide) ?_
              refine x_ic_ne (tgt := 95) hC dX10_putOff_88 (by decide) hf (fun hf => ?_) (fun hf => ?_)
              · refine lv_aload_n hC.1 hC.2.1 dX10_putOff_95 rfl (lv_at hl 1 rfl) ?_
                refine x_get (v := .ref (xz G + 1)) hC xf_X10_10 (xce_0 G kp _ _) rfl hR dX10_putOff_96 ?_
                refine x_get (v := .ref (xz G + 11)) hC xf_X10_119 (xce_1 G kp _ _) rfl hR dX10_putOff_99 ?_
                refine lv_iload hC.1 hC.2.1 dX10_putOff_102 (lv_at hl 0 rfl) ?_
                refine lv_iconst (v := 1) hC.1 hC.2.1 dX10_putOff_104 (by decide) ?_
                refine lv_iadd hC.1 hC.2.1 dX10_putOff_105 ?_
                refine x_cvi00 (rest := []) hC xy_X0_leastFree tw_520 hf (fun _ h => M_X0_leastFree G l kp N h) ⟨Nat.le_of_ble_eq_true rfl, Nat.le_of_ble_eq_true rfl⟩ (xce_11 G kp _ _) rfl rfl rfl (Nat.le_of_ble_eq_true rfl) hl.1 hR hS dX10_putOff_106 ⟨Nat.le_refl _, Nat.le_refl _⟩ (fun v8 hf H locs hR hS => ?_)
                exact W_X10_putOff_j109 hC N hf _ _ _ hR hS (lv_sub hl [1, 2, 3, 4, 0] rfl)
              · refine lv_iconst (v := (-1)) hC.1 hC.2.1 dX10_putOff_91 (by decide) ?_
                refine lv_goto (tgt := 109) hC.1 hC.2.1 dX10_putOff_92 (by decide) ?_
                exact W_X10_putOff_j109 hC N hf _ _ _ hR hS (lv_sub hl [1, 2, 3, 4, 0] rfl)
            · exact W_X10_putOff_j65 hC N hf _ _ _ hR hS (lv_sub hl [0] rfl)
    · exact W_X10_putOff_j16 hC N hf _ _ _ hR hS (lv_sub hl [0] rfl)
