set_option maxRecDepth 20000 in
theorem W_X2_makeUp_l2 {G : XG} {l : Launch} {kp : Bool} {p : Program} {e : Env} {s : State} {m : MethodId} {args : Array Value} {below : List Frame} {meth : Method} {c : Code} (hC : xC G p s m args meth c cX2_makeUp 4 RX2 none) (N : Nat) {L : xTL} {rI : xTI} : ∀ (n : Nat) (x2 : Int32) (I : xTI) , xlp (F_X2_makeUp_b2 N ) n (x2, I) = some rI → ∀ (H : Heap) (locs : List Loc) (ls : Array Slot), xRep G kp I L H → xS G s.heap H locs → lv_has ls 4 [(0, .ref (xz G + 32)), (1, .ref (xz G + 1)), (2, .int x2)] → W p l e (xrm 3 72) s m args below meth c H locs 0 0 (xMQ G kp below args s none rI L) (F0 m 2 ls []) := by
  intro n
  induction n with
  | zero =>
    intro x2 I hf
    cases hf
  | succ n hk2 =>
    intro x2 I hf H locs ls hR hS hl
    rw [xlp_s, E_X2_makeUp_b2] at hf
    unfold F_X2_makeUp_c2 at hf
    refine lv_iload_n hC.1 hC.2.1 dX2_makeUp_2 rfl (lv_at hl 2 rfl) ?_
    refine lv_aload_n hC.1 hC.2.1 dX2_makeUp_3 rfl (lv_at hl 1 rfl) ?_
    refine x_getI hC xf_X2_95 (xce_1 G kp _ _) rfl hR dX2_makeUp_4 hf (fun v1 hf => ?_)
    refine x_ic_ge (tgt := 50) hC dX2_makeUp_7 (by decide) hf (fun hf => ?_) (fun hf => ?_)
    · have h9 := Option.some.inj hf
      subst h9
      exact x_vret hC hR hS dX2_makeUp_50
    · refine lv_aload_n hC.1 hC.2.1 dX2_makeUp_10 rfl (lv_at hl 0 rfl) ?_
      refine lv_aload_n hC.1 hC.2.1 dX2_makeUp_11 rfl (lv_at hl 1 rfl) ?_
      refine x_get (v := .ref (xz G + 11)) hC xf_X2_9 (xce_1 G kp _ _) rfl hR dX2_makeUp_12 ?_
      refine lv_iload_n hC.1 hC.2.1 dX2_makeUp_15 rfl (lv_at hl 2 rfl) ?_
      refine lv_aload_n hC.1 hC.2.1 dX2_makeUp_16 rfl (lv_at hl 1 rfl) ?_
      refine x_cvi00 (rest := [.int x2, .ref (xz G + 11), .ref (xz G + 32)]) hC xy_X1_account tw_869 hf (fun _ h => M_X1_account G l kp h) ⟨Nat.le_of_ble_eq_true rfl, Nat.le_of_ble_eq_true rfl⟩ (xce_1 G kp _ _) rfl rfl rfl (Nat.le_of_ble_eq_true rfl) hl.1 hR hS dX2_makeUp_17 ⟨Nat.le_refl _, Nat.le_refl _⟩ (fun v2 hf H locs hR hS => ?_)
      refine x_cvi00 (rest := []) hC xy_X2_lastMade tw_870 hf (fun _ h => M_X2_lastMade G l kp N h) ⟨Nat.le_of_ble_eq_true rfl, Nat.le_of_ble_eq_true rfl⟩ (xce_32 G kp _ _) rfl rfl rfl (Nat.le_of_ble_eq_true rfl) hl.1 hR hS dX2_makeUp_20 ⟨Nat.le_refl _, Nat.le_refl _⟩ (fun v3 hf H locs hR hS => ?_)
      refine lv_istore_n (lv' := [(3, .int v3), (0, .ref (xz G + 32)), (1, .ref (xz G + 1)), (2, .int x2)]) hC.1 hC.2.1 dX2_makeUp_23 rfl hl (Nat.le_of_ble_eq_true rfl) rfl (fun ls hl => ?_)
      refine lv_iload_n hC.1 hC.2.1 dX2_makeUp_24 rfl (lv_at hl 0 rfl) ?_
      refine lv_iconst (v := (-1)) hC.1 hC.2.1 dX2_makeUp_25 (by decide) ?_
      refine x_ic_eq (tgt := 44) hC dX2_makeUp_26 (by decide) hf (fun hf => ?_) (fun hf => ?_)
      · refine x_iinc (d := 1) (lv' := fun y4 => [(2, .int y4), (3, .int v3), (0, .ref (xz G + 32)), (1, .ref (xz G + 1))]) (k := 3) hC hl dX2_makeUp_44 rfl (by decide) (Nat.le_of_ble_eq_true rfl) hf (fun _ => rfl) (fun y4 hf ls hl => ?_)
        refine lv_goto (tgt := 2) hC.1 hC.2.1 dX2_makeUp_47 (by decide) ?_
        exact hk2 y4 I hf _ _ _ hR hS (lv_sub hl [2, 3, 0] rfl)
      · refine lv_aload_n hC.1 hC.2.1 dX2_makeUp_29 rfl (lv_at hl 2 rfl) ?_
        refine x_get (v := .ref (xz G + 2)) hC xf_X2_106 (xce_1 G kp _ _) rfl hR dX2_makeUp_30 ?_
        refine lv_iload_n hC.1 hC.2.1 dX2_makeUp_33 rfl (lv_at hl 3 rfl) ?_
        refine lv_aload_n hC.1 hC.2.1 dX2_makeUp_34 rfl (lv_at hl 2 rfl) ?_
        refine x_get (v := .ref (xz G + 11)) hC xf_X2_9 (xce_1 G kp _ _) rfl hR dX2_makeUp_35 ?_
        refine lv_iload_n hC.1 hC.2.1 dX2_makeUp_38 rfl (lv_at hl 0 rfl) ?_
        refine lv_iconst (v := 4) hC.1 hC.2.1 dX2_makeUp_39 (by decide) ?_
        refine x_cvi00 (rest := [.int x2, .ref (xz G + 2)]) hC xy_X0_at tw_842 hf (fun _ h => M_X0_at G l kp h) ⟨Nat.le_of_ble_eq_true rfl, Nat.le_of_ble_eq_true rfl⟩ (xce_11 G kp _ _) rfl rfl rfl (Nat.le_of_ble_eq_true rfl) hl.1 hR hS dX2_makeUp_40 ⟨Nat.le_refl _, Nat.le_refl _⟩ (fun v5 hf H locs hR hS => ?_)
        refine x_ias hC (fun f => (xce_2 G kp f _)) hR hS dX2_makeUp_43 hf (fun I6 hf H locs hR hS => ?_)
        refine x_iinc (d := 1) (lv' := fun y7 => [(2, .int y7), (3, .int v3), (0, .ref (xz G + 32)), (1, .ref (xz G + 1))]) (k := 3) hC hl dX2_makeUp_44 rfl (by decide) (Nat.le_of_ble_eq_true rfl) hf (fun _ => rfl) (fun y7 hf ls hl => ?_)
        refine lv_goto (tgt := 2) hC.1 hC.2.1 dX2_makeUp_47 (by decide) ?_
        exact hk2 y7 I6 hf _ _ _ hR hS (lv_sub hl [2, 3, 0] rfl)
set_option maxRecDepth 20000 in
theorem M_X2_makeUp (G : XG) (l : Launch) (kp : Bool) (N : Nat) {I : xTI} {L : xTL} {rI : xTI} (hf : F_X2_makeUp N I = some rI) : xMet G l yX2_makeUp cX2_makeUp 4 none 3 72 kp [.ref (xz G + 32), .ref (xz G + 1)] I L none rI L := by
  refine xMet.ofW (by decide +kernel) (Nat.le_of_ble_eq_true rfl) ?_
  intro p e s m args below meth c hC H locs ls hR hS hl
  replace hC : xC G p s m args meth c cX2_makeUp 4 RX2 none := hC
  replace hl : lv_has ls 4 [(0, .ref (xz G + 32)), (1, .ref (xz G + 1))] := hl
  unfold F_X2_makeUp at hf
  refine lv_iconst (v := 0) hC.1 hC.2.1 dX2_makeUp_0 (by decide) ?_
  refine lv_istore_n (lv' := [(2, .int 0), (0, .ref (xz G + 32)), (1, .ref (xz G + 1))]) hC.1 hC.2.1 dX2_makeUp_1 rfl hl (Nat.le_of_ble_eq_true rfl) rfl (fun ls hl => ?_)
  exact W_X2_makeUp_l2 hC N _ 0 I hf _ _ _ hR hS (lv_sub hl [1, 2, 0] rfl)
set_option maxRecDepth 20000 in
theorem W_J7_fill_53178_39_l5 {G : XG} {l : Launch} {kp : Bool} {p : Program} {e : Env} {s : State} {m : MethodId} {args : Array Value} {below : List Frame} {meth : Method} {c : Code} (hC : xC G p s m args meth c cJ7_fill_53178 4 RJ7 none) (N : Nat) {L : xTL} {rI : xTI} {x1 : Int32} {x3 : Int32} : ∀ (n : Nat) (x2 : Int32) (I : xTI) , xlp (F_J7_fill_53178_39_b5 N x1 x3 ) n (x2, I) = some rI → ∀ (H : Heap) (locs : List Loc) (ls : Array Slot), xRep G kp I L H → xS G s.heap H locs → lv_has ls 4 [(0, .ref (xz G + 39)), (1, .int x1), (2, .int x2), (3, .int x3)] → W p l e (xrm 0 0) s m args below meth c H locs 0 0 (xMQ G kp below args s none rI L) (F0 m 5 ls []) := by
  intro n
  induction n with
  | zero =>
    intro x2 I hf
    cases hf
  | succ n hk5 =>
    intro x2 I hf H locs ls hR hS hl
    rw [xlp_s, E_J7_fill_53178_39_b5] at hf
    unfold F_J7_fill_53178_39_c5 at hf
    refine lv_iload_n hC.1 hC.2.1 dJ7_fill_53178_5 rfl (lv_at hl 2 rfl) ?_
    refine lv_iload_n hC.1 hC.2.1 dJ7_fill_53178_6 rfl (lv_at hl 3 rfl) ?_
    refine x_ic_ge (tgt := 20) hC dJ7_fill_53178_7 (by decide) hf (fun hf => ?_) (fun hf => ?_)
    · have h9 := Option.some.inj hf
      subst h9
      exact x_vret hC hR hS dJ7_fill_53178_20
    · refine lv_aload_n hC.1 hC.2.1 dJ7_fill_53178_10 rfl (lv_at hl 0 rfl) ?_
      refine lv_iload_n hC.1 hC.2.1 dJ7_fill_53178_11 rfl (lv_at hl 2 rfl) ?_
      refine lv_iload_n hC.1 hC.2.1 dJ7_fill_53178_12 rfl (lv_at hl 1 rfl) ?_
      refine x_ias hC (fun f => (xce_39 G kp f _)) hR hS dJ7_fill_53178_13 hf (fun I1 hf H locs hR hS => ?_)
      refine x_iinc (d := 1) (lv' := fun y2 => [(2, .int y2), (0, .ref (xz G + 39)), (1, .int x1), (3, .int x3)]) (k := 2) hC hl dJ7_fill_53178_14 rfl (by decide) (Nat.le_of_ble_eq_true rfl) hf (fun _ => rfl) (fun y2 hf ls hl => ?_)
      refine lv_goto (tgt := 5) hC.1 hC.2.1 dJ7_fill_53178_17 (by decide) ?_
      exact hk5 y2 I1 hf _ _ _ hR hS (lv_sub hl [1, 2, 0, 3] rfl)
set_option maxRecDepth 20000 in
theorem M_J7_fill_53178_39 (G : XG) (l : Launch) (kp : Bool) (N : Nat) {I : xTI} {L : xTL} {x1 : Int32} {rI : xTI} (hf : F_J7_fill_53178_39 N I x1 = some rI) : xMet G l yJ7_fill_53178 cJ7_fill_53178 4 none 0 0 kp [.ref (xz G + 39), .int x1] I L none rI L := by
  refine xMet.ofW (by decide +kernel) (Nat.le_of_ble_eq_true rfl) ?_
  intro p e s m args below meth c hC H locs ls hR hS hl
  replace hC : xC G p s m args meth c cJ7_fill_53178 4 RJ7 none := hC
  replace hl : lv_has ls 4 [(0, .ref (xz G + 39)), (1, .int x1)] := hl
  unfold F_J7_fill_53178_39 at hf
  refine lv_iconst (v := 0) hC.1 hC.2.1 dJ7_fill_53178_0 (by decide) ?_
  refine lv_istore_n (lv' := [(2, .int 0), (0, .ref (xz G + 39)), (1, .int x1)]) hC.1 hC.2.1 dJ7_fill_53178_1 rfl hl (Nat.le_of_ble_eq_true rfl) rfl (fun ls hl => ?_)
  refine lv_aload_n hC.1 hC.2.1 dJ7_fill_53178_2 rfl (lv_at hl 1 rfl) ?_
  refine x_alen_i (v := 12) hC (xce_39 G kp _ _) rfl hR dJ7_fill_53178_3 ?_
  refine lv_istore_n (lv' := [(3, .int 12), (2, .int 0), (0, .ref (xz G + 39)), (1, .int x1)]) hC.1 hC.2.1 dJ7_fill_53178_4 rfl hl (Nat.le_of_ble_eq_true rfl) rfl (fun ls hl => ?_)
  exact W_J7_fill_53178_39_l5 hC N _ 0 I hf _ _ _ hR hS (lv_sub hl [2, 3, 1, 0] rfl)
set_option maxRecDepth 20000 in
theorem W_X0_netsInto_39_l8 {G : XG} {l : Launch} {kp : Bool} {p : Program} {e : Env} {s : State} {m : MethodId} {args : Array Value} {below : List Frame} {meth : Method} {c : Code} (hC : xC G p s m args meth c cX0_netsInto 5 RX0 none) (N : Nat) {L : xTL} {rI : xTI} {x2 : Int32} {x3 : Int32} : ∀ (n : Nat) (x4 : Int32) (I : xTI) , xlp (F_X0_netsInto_39_b8 N x2 x3 ) n (x4, I) = some rI → ∀ (H : Heap) (locs : List Loc) (ls : Array Slot), xRep G kp I L H → xS G s.heap H locs → lv_has ls 5 [(0, .ref (xz G + 11)), (1, .ref (xz G + 39)), (2, .int x2), (3, .int x3), (4, .int x4)] → W p l e (xrm 2 46) s m args below meth c H locs 0 0 (xMQ G kp below args s none rI L) (F0 m 8 ls []) := by
  intro n
  induction n with
  | zero =>
    intro x4 I hf
    cases hf
  | succ n hk8 =>
    intro x4 I hf H locs ls hR hS hl
    rw [xlp_s, E_X0_netsInto_39_b8] at hf
    unfold F_X0_netsInto_39_c8 at hf
    refine lv_iload hC.1 hC.2.1 dX0_netsInto_8 (lv_at hl 4 rfl) ?_
    refine lv_bipush (v := 60) hC.1 hC.2.1 dX0_netsInto_10 (by decide) ?_
    refine x_ic_ge (tgt := 82) hC dX0_netsInto_12 (by decide) hf (fun hf => ?_) (fun hf => ?_)
    · have h9 := Option.some.inj hf
      subst h9
      exact x_vret hC hR hS dX0_netsInto_82
    · refine lv_aload_n hC.1 hC.2.1 dX0_netsInto_15 rfl (lv_at hl 0 rfl) ?_
      refine lv_iload hC.1 hC.2.1 dX0_netsInto_16 (lv_at hl 4 rfl) ?_
      refine lv_iload_n hC.1 hC.2.1 dX0_netsInto_18 rfl (lv_at hl 2 rfl) ?_
      refine lv_iload_n hC.1 hC.2.1 dX0_netsInto_19 rfl (lv_at hl 3 rfl) ?_
      refine x_cvi00 (rest := []) hC xy_X0_standsIn tw_494 hf (fun _ h => M_X0_standsIn G l kp h) ⟨Nat.le_of_ble_eq_true rfl, Nat.le_of_ble_eq_true rfl⟩ (xce_11 G kp _ _) rfl rfl rfl (Nat.le_of_ble_eq_true rfl) hl.1 hR hS dX0_netsInto_20 ⟨Nat.le_refl _, Nat.le_refl _⟩ (fun v1 hf H locs hR hS => ?_)
      refine x_if_eq (tgt := 76) hC dX0_netsInto_23 (by decide) hf (fun hf => ?_) (fun hf => ?_)
      · refine x_iinc (d := 1) (lv' := fun y2 => [(4, .int y2), (0, .ref (xz G + 11)), (1, .ref (xz G + 39)), (2, .int x2), (3, .int x3)]) (k := 4) hC hl dX0_netsInto_76 rfl (by decide) (Nat.le_of_ble_eq_true rfl) hf (fun _ => rfl) (fun y2 hf ls hl => ?_)
        refine lv_goto (tgt := 8) hC.1 hC.2.1 dX0_netsInto_79 (by decide) ?_
        exact hk8 y2 I hf _ _ _ hR hS (lv_sub hl [1, 2, 3, 4, 0] rfl)
      · refine lv_aload_n hC.1 hC.2.1 dX0_netsInto_26 rfl (lv_at hl 1 rfl) ?_
        refine lv_aload_n hC.1 hC.2.1 dX0_netsInto_27 rfl (lv_at hl 0 rfl) ?_
        refine x_get (v := .ref (xz G + 12)) hC xf_X0_16 (xce_11 G kp _ _) rfl hR dX0_netsInto_28 ?_
        refine lv_iload hC.1 hC.2.1 dX0_netsInto_31 (lv_at hl 4 rfl) ?_
        refine lv_iconst (v := 1) hC.1 hC.2.1 dX0_netsInto_33 (by decide) ?_
        refine x_cvi00 (rest := [.ref (xz G + 39)]) hC xy_X8_at tw_462 hf (fun _ h => M_X8_at_12 G l kp h) ⟨Nat.le_of_ble_eq_true rfl, Nat.le_of_ble_eq_true rfl⟩ (xce_12 G kp _ _) rfl rfl rfl (Nat.le_of_ble_eq_true rfl) hl.1 hR hS dX0_netsInto_34 ⟨Nat.le_refl _, Nat.le_refl _⟩ (fun v3 hf H locs hR hS => ?_)
        refine lv_dup2_11 hC.1 hC.2.1 dX0_netsInto_37 rfl rfl ?_
        refine x_ial hC (xce_39 G kp _ _) hR dX0_netsInto_38 hf (fun v4 hf => ?_)
        refine lv_aload_n hC.1 hC.2.1 dX0_netsInto_39 rfl (lv_at hl 0 rfl) ?_
        refine x_get (v := .ref (xz G + 12)) hC xf_X0_16 (xce_11 G kp _ _) rfl hR dX0_netsInto_40 ?_
        refine lv_iload hC.1 hC.2.1 dX0_netsInto_43 (lv_at hl 4 rfl) ?_
        refine W.eq (g2 := F0 m 45 ls [.int x4, .ref (xz G + 12), .int v4, .int v3, .ref (xz G + 39)]) rfl ?_
        refine lv_iconst (v := 3) hC.1 hC.2.1 dX0_netsInto_45 (by decide) ?_
        refine x_cvi00 (rest := [.int v4, .int v3, .ref (xz G + 39)]) hC xy_X8_at tw_462 hf (fun _ h => M_X8_at_12 G l kp h) ⟨Nat.le_of_ble_eq_true rfl, Nat.le_of_ble_eq_true rfl⟩ (xce_12 G kp _ _) rfl rfl rfl (Nat.le_of_ble_eq_true rfl) hl.1 hR hS dX0_netsInto_46 ⟨Nat.le_refl _, Nat.le_refl _⟩ (fun v5 hf H locs hR hS => ?_)
        refine lv_iadd hC.1 hC.2.1 dX0_netsInto_49 ?_
        refine x_ias hC (fun f => (xce_39 G kp f _)) hR hS dX0_netsInto_50 hf (fun I6 hf H locs hR hS => ?_)
        refine lv_aload_n hC.1 hC.2.1 dX0_netsInto_51 rfl (lv_at hl 1 rfl) ?_
        refine lv_aload_n hC.1 hC.2.1 dX0_netsInto_52 rfl (lv_at hl 0 rfl) ?_
        refine x_get (v := .ref (xz G + 12)) hC xf_X0_16 (xce_11 G kp _ _) rfl hR dX0_netsInto_53 ?_
        refine lv_iload hC.1 hC.2.1 dX0_netsInto_56 (lv_at hl 4 rfl) ?_
        refine lv_iconst (v := 0) hC.1 hC.2.1 dX0_netsInto_58 (by decide) ?_
        refine x_cvi00 (rest := [.ref (xz G + 39)]) hC xy_X8_at tw_462 hf (fun _ h => M_X8_at_12 G l kp h) ⟨Nat.le_of_ble_eq_true rfl, Nat.le_of_ble_eq_true rfl⟩ (xce_12 G kp _ _) rfl rfl rfl (Nat.le_of_ble_eq_true rfl) hl.1 hR hS dX0_netsInto_59 ⟨Nat.le_refl _, Nat.le_refl _⟩ (fun v7 hf H locs hR hS => ?_)
        refine lv_dup2_11 hC.1 hC.2.1 dX0_netsInto_62 rfl rfl ?_
        refine x_ial hC (xce_39 G kp _ _) hR dX0_netsInto_63 hf (fun v8 hf => ?_)
        refine W.eq (g2 := F0 m 64 ls [.int v8, .int v7, .ref (xz G + 39)]) rfl ?_
        refine lv_aload_n hC.1 hC.2.1 dX0_netsInto_64 rfl (lv_at hl 0 rfl) ?_
        refine x_get (v := .ref (xz G + 12)) hC xf_X0_16 (xce_11 G kp _ _) rfl hR dX0_netsInto_65 ?_
        refine lv_iload hC.1 hC.2.1 dX0_netsInto_68 (lv_at hl 4 rfl) ?_
        refine lv_iconst (v := 3) hC.1 hC.2.1 dX0_netsInto_70 (by decide) ?_
        refine x_cvi00 (rest := [.int v8, .int v7, .ref (xz G + 39)]) hC xy_X8_at tw_462 hf (fun _ h => M_X8_at_12 G l kp h) ⟨Nat.le_of_ble_eq_true rfl, Nat.le_of_ble_eq_true rfl⟩ (xce_12 G kp _ _) rfl rfl rfl (Nat.le_of_ble_eq_true rfl) hl.1 hR hS dX0_netsInto_71 ⟨Nat.le_refl _, Nat.le_refl _⟩ (fun v9 hf H locs hR hS => ?_)
        refine lv_isub hC.1 hC.2.1 dX0_netsInto_74 ?_
        refine x_ias hC (fun f => (xce_39 G kp f _)) hR hS dX0_netsInto_75 hf (fun I10 hf H locs hR hS => ?_)
        refine x_iinc (d := 1) (lv' := fun y11 => [(4, .int y11), (0, .ref (xz G + 11)), (1, .ref (xz G + 39)), (2, .int x2), (3, .int x3)]) (k := 4) hC hl dX0_netsInto_76 rfl (by decide) (Nat.le_of_ble_eq_true rfl) hf (fun _ => rfl) (fun y11 hf ls hl => ?_)
        refine lv_goto (tgt := 8) hC.1 hC.2.1 dX0_netsInto_79 (by decide) ?_
        exact hk8 y11 I10 hf _ _ _ hR hS (lv_sub hl [1, 2, 3, 4, 0] rfl)
set_option maxRecDepth 20000 in
theorem M_X0_netsInto_39 (G : XG) (l : Launch) (kp : Bool) (N : Nat) {I : xTI} {L : xTL} {x2 : Int32} {x3 : Int32} {rI : xTI} (hf : F_X0_netsInto_39 N I x2 x3 = some rI) : xMet G l yX0_netsInto cX0_netsInto 5 none 2 46 kp [.ref (xz G + 11), .ref (xz G + 39), .int x2, .int x3] I L none rI L := by
  refine xMet.ofW (by decide +kernel) (Nat.le_of_ble_eq_true rfl) ?_
  intro p e s m args below meth c hC H locs ls hR hS hl
  replace hC : xC G p s m args meth c cX0_netsInto 5 RX0 none := hC
  replace hl : lv_has ls 5 [(0, .ref (xz G + 11)), (1, .ref (xz G + 39)), (2, .int x2), (3, .int x3)] := hl
  unfold F_X0_netsInto_39 at hf
  refine lv_aload_n hC.1 hC.2.1 dX0_netsInto_0 rfl (lv_at hl 1 rfl) ?_
  refine lv_iconst (v := 0) hC.1 hC.2.1 dX0_netsInto_1 (by decide) ?_
  refine x_csv10 (rest := []) hC xy_J7_fill_53178 tw_887 hf (fun _ h => M_J7_fill_53178_39 G l kp N h) ⟨Nat.le_of_ble_eq_true rfl, Nat.le_of_ble_eq_true rfl⟩ rfl rfl (Nat.le_of_ble_eq_true rfl) hl.1 hR hS dX0_netsInto_2 ⟨Nat.le_refl _, Nat.le_refl _⟩ (fun I1 hf H locs hR hS => ?_)
  refine lv_iconst (v := 0) hC.1 hC.2.1 dX0_netsInto_5 (by decide) ?_
  refine lv_istore (lv' := [(4, .int 0), (0, .ref (xz G + 11)), (1, .ref (xz G + 39)), (2, .int x2), (3, .int x3)]) hC.1 hC.2.1 dX0_netsInto_6 hl (Nat.le_of_ble_eq_true rfl) rfl (fun ls hl => ?_)
  exact W_X0_netsInto_39_l8 hC N _ 0 I1 hf _ _ _ hR hS (lv_sub hl [1, 2, 3, 4, 0] rfl)
set_option maxRecDepth 20000 in
theorem M_X4_line (G : XG) (l : Launch) (kp : Bool) {I : xTI} {L : xTL} {x1 : Int32} {x2 : Int32} {x3 : Int32} {x4 : Int32} {x5 : Int32} {r : Int32} {rI : xTI} (hf : F_X4_line I x1 x2 x3 x4 x5 = some (r, rI)) : xMet G l yX4_line cX4_line 7 (some .int) 0 0 kp [.ref (xz G + 33), .int x1, .int x2, .int x3, .int x4, .int x5] I L (some (.int r)) rI L := by
  refine xMet.ofW (by decide +kernel) (Nat.le_of_ble_eq_true rfl) ?_
  intro p e s m args below meth c hC H locs ls hR hS hl
  replace hC : xC G p s m args meth c cX4_line 7 RX4 (some .int) := hC
  replace hl : lv_has ls 7 [(0, .ref (xz G + 33)), (1, .int x1), (2, .int x2), (3, .int x3), (4, .int x4), (5, .int x5)] := hl
  unfold F_X4_line at hf
  refine lv_aload_n hC.1 hC.2.1 dX4_line_0 rfl (lv_at hl 0 rfl) ?_
  refine x_getI hC xf_X4_93 (xce_33 G kp _ _) rfl hR dX4_line_1 hf (fun v1 hf => ?_)
  refine lv_aload_n hC.1 hC.2.1 dX4_line_4 rfl (lv_at hl 0 rfl) ?_
  refine x_getI hC xf_X4_69 (xce_33 G kp _ _) rfl hR dX4_line_5 hf (fun v2 hf => ?_)
  refine lv_iadd hC.1 hC.2.1 dX4_line_8 ?_
  refine lv_bipush (v := 127) hC.1 hC.2.1 dX4_line_9 (by decide) ?_
  refine lv_iand hC.1 hC.2.1 dX4_line_11 ?_
  refine x_ist (lv' := fun y3 => [(6, .int y3), (0, .ref (xz G + 33)), (1, .int x1), (2, .int x2), (3, .int x3), (4, .int x4), (5, .int x5)]) hC hl dX4_line_12 (Nat.le_of_ble_eq_true rfl) hf (fun _ => rfl) (fun y3 hf ls hl => ?_)
  refine lv_aload_n hC.1 hC.2.1 dX4_line_14 rfl (lv_at hl 1 rfl) ?_
  refine x_get (v := .ref (xz G + 34)) hC xf_X4_11 (xce_33 G kp _ _) rfl hR dX4_line_15 ?_
  refine lv_iload hC.1 hC.2.1 dX4_line_18 (lv_at hl 0 rfl) ?_
  refine W.eq (g2 := F0 m 20 ls [.int y3, .ref (xz G + 34)]) rfl ?_
  refine lv_iload_n hC.1 hC.2.1 dX4_line_20 rfl (lv_at hl 2 rfl) ?_
  refine x_ias hC (fun f => (xce_34 G kp f _)) hR hS dX4_line_21 hf (fun I4 hf H locs hR hS => ?_)
  refine lv_aload_n hC.1 hC.2.1 dX4_line_22 rfl (lv_at hl 1 rfl) ?_
  refine x_get (v := .ref (xz G + 35)) hC xf_X4_15 (xce_33 G kp _ _) rfl hR dX4_line_23 ?_
  refine lv_iload hC.1 hC.2.1 dX4_line_26 (lv_at hl 0 rfl) ?_
  refine lv_iload_n hC.1 hC.2.1 dX4_line_28 rfl (lv_at hl 3 rfl) ?_
  refine x_ias hC (fun f => (xce_35 G kp f _)) hR hS dX4_line_29 hf (fun I5 hf H locs hR hS => ?_)
  refine lv_aload_n hC.1 hC.2.1 dX4_line_30 rfl (lv_at hl 1 rfl) ?_
  refine x_get (v := .ref (xz G + 36)) hC xf_X4_18 (xce_33 G kp _ _) rfl hR dX4_line_31 ?_
  refine lv_iload hC.1 hC.2.1 dX4_line_34 (lv_at hl 0 rfl) ?_
  refine lv_iload_n hC.1 hC.2.1 dX4_line_36 rfl (lv_at hl 4 rfl) ?_
  refine x_ias hC (fun f => (xce_36 G kp f _)) hR hS dX4_line_37 hf (fun I6 hf H locs hR hS => ?_)
  refine W.eq (g2 := F0 m 38 ls []) rfl ?_
  refine lv_aload_n hC.1 hC.2.1 dX4_line_38 rfl (lv_at hl 1 rfl) ?_
  refine x_get (v := .ref (xz G + 37)) hC xf_X4_21 (xce_33 G kp _ _) rfl hR dX4_line_39 ?_
  refine lv_iload hC.1 hC.2.1 dX4_line_42 (lv_at hl 0 rfl) ?_
  refine lv_iload hC.1 hC.2.1 dX4_line_44 (lv_at hl 5 rfl) ?_
  refine x_ias hC (fun f => (xce_37 G kp f _)) hR hS dX4_line_46 hf (fun I7 hf H locs hR hS => ?_)
  refine lv_aload_n hC.1 hC.2.1 dX4_line_47 rfl (lv_at hl 1 rfl) ?_
  refine x_get (v := .ref (xz G + 38)) hC xf_X4_24 (xce_33 G kp _ _) rfl hR dX4_line_48 ?_
  refine lv_iload hC.1 hC.2.1 dX4_line_51 (lv_at hl 0 rfl) ?_
  refine lv_iload hC.1 hC.2.1 dX4_line_53 (lv_at hl 6 rfl) ?_
  refine x_ias hC (fun f => (xce_38 G kp f _)) hR hS dX4_line_55 hf (fun I8 hf H locs hR hS => ?_)
  refine lv_aload_n hC.1 hC.2.1 dX4_line_56 rfl (lv_at hl 1 rfl) ?_
  refine lv_dup hC.1 hC.2.1 dX4_line_57 rfl ?_
  refine W.eq (g2 := F0 m 58 ls [.ref (xz G + 33), .ref (xz G + 33)]) rfl ?_
  refine x_getI hC xf_X4_69 (xce_33 G kp _ _) rfl hR dX4_line_58 hf (fun v9 hf => ?_)
  refine lv_iconst (v := 1) hC.1 hC.2.1 dX4_line_61 (by decide) ?_
  refine lv_iadd hC.1 hC.2.1 dX4_line_62 ?_
  refine x_putI hC xf_X4_69 xp_4_6 (fun f => (xce_33 G kp f _)) rfl (Nat.le_of_ble_eq_true rfl) hR hS dX4_line_63 hf (fun I10 hf H locs hR hS => ?_)
  refine lv_iload hC.1 hC.2.1 dX4_line_66 (lv_at hl 0 rfl) ?_
  obtain ⟨h91, h92⟩ := Prod.mk.inj (Option.some.inj hf)
  subst h91
  subst h92
  exact x_iret hC hR hS dX4_line_68
set_option maxRecDepth 20000 in
theorem W_X4_layOut_l81 {G : XG} {l : Launch} {kp : Bool} {p : Program} {e : Env} {s : State} {m : MethodId} {args : Array Value} {below : List Frame} {meth : Method} {c : Code} (hC : xC G p s m args meth c cX4_layOut 6 RX4 none) (N : Nat) {L : xTL} {rI : xTI} : ∀ (n : Nat) (x4 : Int32) (I : xTI) , xlp (F_X4_layOut_b81 N ) n (x4, I) = some rI → ∀ (H : Heap) (locs : List Loc) (ls : Array Slot), xRep G kp I L H → xS G s.heap H locs → lv_has ls 6 [(0, .ref (xz G + 33)), (4, .int x4)] → W p l e (xrm 3 70) s m args below meth c H locs 0 0 (xMQ G kp below args s none rI L) (F0 m 81 ls []) := by
  intro n
  induction n with
  | zero =>
    intro x4 I hf
    cases hf
  | succ n hk81 =>
    intro x4 I hf H locs ls hR hS hl
    rw [xlp_s, E_X4_layOut_b81] at hf
    unfold F_X4_layOut_c81 at hf
    refine lv_iload hC.1 hC.2.1 dX4_layOut_81 (lv_at hl 1 rfl) ?_
    refine lv_bipush (v := 12) hC.1 hC.2.1 dX4_layOut_83 (by decide) ?_
    refine x_ic_ge (tgt := 122) hC dX4_layOut_85 (by decide) hf (fun hf => ?_) (fun hf => ?_)
    · have h9 := Option.some.inj hf
      subst h9
      exact x_vret hC hR hS dX4_layOut_122
    · refine lv_aload_n hC.1 hC.2.1 dX4_layOut_88 rfl (lv_at hl 0 rfl) ?_
      refine x_get (v := .ref (xz G + 39)) hC xf_X4_27 (xce_33 G kp _ _) rfl hR dX4_layOut_89 ?_
      refine lv_iload hC.1 hC.2.1 dX4_layOut_92 (lv_at hl 1 rfl) ?_
      refine x_ial hC (xce_39 G kp _ _) hR dX4_layOut_94 hf (fun v1 hf => ?_)
      refine x_if_le (tgt := 116) hC dX4_layOut_95 (by decide) hf (fun hf => ?_) (fun hf => ?_)
      · refine x_iinc (d := 1) (lv' := fun y2 => [(4, .int y2), (0, .ref (xz G + 33))]) (k := 1) hC hl dX4_layOut_116 rfl (by decide) (Nat.le_of_ble_eq_true rfl) hf (fun _ => rfl) (fun y2 hf ls hl => ?_)
        refine lv_goto (tgt := 81) hC.1 hC.2.1 dX4_layOut_119 (by decide) ?_
        exact hk81 y2 I hf _ _ _ hR hS (lv_sub hl [1, 0] rfl)
      · refine lv_aload_n hC.1 hC.2.1 dX4_layOut_98 rfl (lv_at hl 0 rfl) ?_
        refine lv_iload hC.1 hC.2.1 dX4_layOut_99 (lv_at hl 1 rfl) ?_
        refine lv_iload hC.1 hC.2.1 dX4_layOut_101 (lv_at hl 1 rfl) ?_
        refine lv_aload_n hC.1 hC.2.1 dX4_layOut_103 rfl (lv_at hl 0 rfl) ?_
        refine x_get (v := .ref (xz G + 39)) hC xf_X4_27 (xce_33 G kp _ _) rfl hR dX4_layOut_104 ?_
        refine lv_iload hC.1 hC.2.1 dX4_layOut_107 (lv_at hl 1 rfl) ?_
        refine x_ial hC (xce_39 G kp _ _) hR dX4_layOut_109 hf (fun v3 hf => ?_)
        refine lv_iconst (v := 0) hC.1 hC.2.1 dX4_layOut_110 (by decide) ?_
        refine lv_iconst (v := (-1)) hC.1 hC.2.1 dX4_layOut_111 (by decide) ?_
        refine x_cvi10 (rest := []) hC xy_X4_line tw_890 hf (fun _ _ h => M_X4_line G l kp h) ⟨Nat.le_of_ble_eq_true rfl, Nat.le_of_ble_eq_true rfl⟩ (xce_33 G kp _ _) rfl rfl rfl (Nat.le_of_ble_eq_true rfl) hl.1 hR hS dX4_layOut_112 ⟨Nat.le_refl _, Nat.le_refl _⟩ (fun v4 I5 hf H locs hR hS => ?_)
        refine lv_pop hC.1 hC.2.1 dX4_layOut_115 rfl ?_
        refine W.eq (g2 := F0 m 116 ls []) rfl ?_
        refine x_iinc (d := 1) (lv' := fun y6 => [(4, .int y6), (0, .ref (xz G + 33))]) (k := 1) hC hl dX4_layOut_116 rfl (by decide) (Nat.le_of_ble_eq_true rfl) hf (fun _ => rfl) (fun y6 hf ls hl => ?_)
        refine lv_goto (tgt := 81) hC.1 hC.2.1 dX4_layOut_119 (by decide) ?_
        exact hk81 y6 I5 hf _ _ _ hR hS (lv_sub hl [1, 0] rfl)
set_option maxRecDepth 20000 in
theorem W_X4_layOut_j61 {G : XG} {l : Launch} {kp : Bool} {p : Program} {e : Env} {s : State} {m : MethodId} {args : Array Value} {below : List Frame} {meth : Method} {c : Code} (hC : xC G p s m args meth c cX4_layOut 6 RX4 none) (N : Nat) {I : xTI} {L : xTL} {rI : xTI} {x2 : Int32} {x3 : Int32} {x4 : Int32} {t1 : Int32} {t2 : Int32} (k16 : Int32 × xTI → Option (xTI)) (hk16 : ∀ (x4 : Int32) (I : xTI) , k16 (x4, I) = some rI → ∀ (H : Heap) (locs : List Loc) (ls : Array Slot), xRep G kp I L H → xS G s.heap H locs → lv_has ls 6 [(0, .ref (xz G + 33)), (1, .ref (xz G + 1)), (2, .int x2), (3, .int x3), (4, .int x4)] → W p l e (xrm 3 70) s m args below meth c H locs 0 0 (xMQ G kp below args s none rI L) (F0 m 16 ls [])) (hf : F_X4_layOut_j61 k16 N I x2 x3 x4 t1 t2 = some rI) : ∀ (H : Heap) (locs : List Loc) (ls : Array Slot), xRep G kp I L H → xS G s.heap H locs → lv_has ls 6 [(0, .ref (xz G + 33)), (1, .ref (xz G + 1)), (2, .int x2), (3, .int x3), (4, .int x4)] → W p l e (xrm 3 70) s m args below meth c H locs 0 0 (xMQ G kp below args s none rI L) (F0 m 61 ls [.int t2, .int t1, .ref (xz G + 40)]) := by
  intro H locs ls hR hS hl
  unfold F_X4_layOut_j61 at hf
  refine x_ias hC (fun f => (xce_40 G kp f _)) hR hS dX4_layOut_61 hf (fun I1 hf H locs hR hS => ?_)
  refine x_iinc (d := 1) (lv' := fun y2 => [(4, .int y2), (0, .ref (xz G + 33)), (1, .ref (xz G + 1)), (2, .int x2), (3, .int x3)]) (k := 4) hC hl dX4_layOut_62 rfl (by decide) (Nat.le_of_ble_eq_true rfl) hf (fun _ => rfl) (fun y2 hf ls hl => ?_)
  refine lv_goto (tgt := 16) hC.1 hC.2.1 dX4_layOut_65 (by decide) ?_
  exact hk16 y2 I1 hf _ _ _ hR hS (lv_sub hl [1, 2, 3, 4, 0] rfl)
set_option maxRecDepth 20000 in
theorem W_X4_layOut_l16 {G : XG} {l : Launch} {kp : Bool} {p : Program} {e : Env} {s : State} {m : MethodId} {args : Array Value} {below : List Frame} {meth : Method} {c : Code} (hC : xC G p s m args meth c cX4_layOut 6 RX4 none) (N : Nat) {L : xTL} {rI : xTI} {x2 : Int32} {x3 : Int32} : ∀ (n : Nat) (x4 : Int32) (I : xTI) , xlp (F_X4_layOut_b16 N x2 x3 ) n (x4, I) = some rI → ∀ (H : Heap) (locs : List Loc) (ls : Array Slot), xRep G kp I L H → xS G s.heap H locs → lv_has ls 6 [(0, .ref (xz G + 33)), (1, .ref (xz G + 1)), (2, .int x2), (3, .int x3), (4, .int x4)] → W p l e (xrm 3 70) s m args below meth c H locs 0 0 (xMQ G kp below args s none rI L) (F0 m 16 ls []) := by
  intro n
  induction n with
  | zero =>
    intro x4 I hf
    cases hf
  | succ n hk16 =>
    intro x4 I hf H locs ls hR hS hl
    rw [xlp_s, E_X4_layOut_b16] at hf
    unfold F_X4_layOut_c16 at hf
    refine lv_iload hC.1 hC.2.1 dX4_layOut_16 (lv_at hl 4 rfl) ?_
    refine lv_bipush (v := 60) hC.1 hC.2.1 dX4_layOut_18 (by decide) ?_
    refine x_ic_ge (tgt := 68) hC dX4_layOut_20 (by decide) hf (fun hf => ?_) (fun hf => ?_)
    · refine lv_aload_n hC.1 hC.2.1 dX4_layOut_68 rfl (lv_at hl 0 rfl) ?_
      refine lv_iconst (v := 0) hC.1 hC.2.1 dX4_layOut_69 (by decide) ?_
      refine x_putI hC xf_X4_93 xp_4_5 (fun f => (xce_33 G kp f _)) rfl (Nat.le_of_ble_eq_true rfl) hR hS dX4_layOut_70 hf (fun I1 hf H locs hR hS => ?_)
      refine lv_aload_n hC.1 hC.2.1 dX4_layOut_73 rfl (lv_at hl 0 rfl) ?_
      refine lv_iconst (v := 0) hC.1 hC.2.1 dX4_layOut_74 (by decide) ?_
      refine x_putI hC xf_X4_69 xp_4_6 (fun f => (xce_33 G kp f _)) rfl (Nat.le_of_ble_eq_true rfl) hR hS dX4_layOut_75 hf (fun I2 hf H locs hR hS => ?_)
      refine lv_iconst (v := 0) hC.1 hC.2.1 dX4_layOut_78 (by decide) ?_
      refine lv_istore (lv' := [(4, .int 0), (0, .ref (xz G + 33)), (1, .ref (xz G + 1)), (2, .int x2), (3, .int x3)]) hC.1 hC.2.1 dX4_layOut_79 hl (Nat.le_of_ble_eq_true rfl) rfl (fun ls hl => ?_)
      exact W_X4_layOut_l81 hC N _ 0 I2 hf _ _ _ hR hS (lv_sub hl [1, 0] rfl)
    · refine lv_aload_n hC.1 hC.2.1 dX4_layOut_23 rfl (lv_at hl 1 rfl) ?_
      refine x_get (v := .ref (xz G + 11)) hC xf_X4_75 (xce_1 G kp _ _) rfl hR dX4_layOut_24 ?_
      refine lv_iload hC.1 hC.2.1 dX4_layOut_27 (lv_at hl 4 rfl) ?_
      refine lv_iload_n hC.1 hC.2.1 dX4_layOut_29 rfl (lv_at hl 2 rfl) ?_
      refine lv_iload_n hC.1 hC.2.1 dX4_layOut_30 rfl (lv_at hl 3 rfl) ?_
      refine x_cvi00 (rest := []) hC xy_X0_standsIn tw_888 hf (fun _ h => M_X0_standsIn G l kp h) ⟨Nat.le_of_ble_eq_true rfl, Nat.le_of_ble_eq_true rfl⟩ (xce_11 G kp _ _) rfl rfl rfl (Nat.le_of_ble_eq_true rfl) hl.1 hR hS dX4_layOut_31 ⟨Nat.le_refl _, Nat.le_refl _⟩ (fun v3 hf H locs hR hS => ?_)
      refine lv_istore (lv' := [(5, .int v3), (0, .ref (xz G + 33)), (1, .ref (xz G + 1)), (2, .int x2), (3, .int x3), (4, .int x4)]) hC.1 hC.2.1 dX4_layOut_34 hl (Nat.le_of_ble_eq_true rfl) rfl (fun ls hl => ?_)
      refine lv_aload_n hC.1 hC.2.1 dX4_layOut_36 rfl (lv_at hl 1 rfl) ?_
      refine x_get (v := .ref (xz G + 40)) hC xf_X4_30 (xce_33 G kp _ _) rfl hR dX4_layOut_37 ?_
      refine lv_iload hC.1 hC.2.1 dX4_layOut_40 (lv_at hl 5 rfl) ?_
      refine lv_iload hC.1 hC.2.1 dX4_layOut_42 (lv_at hl 0 rfl) ?_
      refine W.eq (g2 := F0 m 44 ls [.int v3, .int x4, .ref (xz G + 40)]) rfl ?_
      refine x_if_eq (tgt := 60) hC dX4_layOut_44 (by decide) hf (fun hf => ?_) (fun hf => ?_)
      · refine lv_iconst (v := 0) hC.1 hC.2.1 dX4_layOut_60 (by decide) ?_
        exact W_X4_layOut_j61 hC N _ hk16 hf _ _ _ hR hS (lv_sub hl [1, 2, 3, 4, 5] rfl)
      · refine lv_aload_n hC.1 hC.2.1 dX4_layOut_47 rfl (lv_at hl 2 rfl) ?_
        refine x_get (v := .ref (xz G + 11)) hC xf_X4_75 (xce_1 G kp _ _) rfl hR dX4_layOut_48 ?_
        refine lv_iload hC.1 hC.2.1 dX4_layOut_51 (lv_at hl 5 rfl) ?_
        refine lv_iconst (v := 3) hC.1 hC.2.1 dX4_layOut_53 (by decide) ?_
        refine x_cvi00 (rest := [.int x4, .ref (xz G + 40)]) hC xy_X0_at tw_889 hf (fun _ h => M_X0_at G l kp h) ⟨Nat.le_of_ble_eq_true rfl, Nat.le_of_ble_eq_true rfl⟩ (xce_11 G kp _ _) rfl rfl rfl (Nat.le_of_ble_eq_true rfl) hl.1 hR hS dX4_layOut_54 ⟨Nat.le_refl _, Nat.le_refl _⟩ (fun v4 hf H locs hR hS => ?_)
        refine lv_goto (tgt := 61) hC.1 hC.2.1 dX4_layOut_57 (by decide) ?_
        exact W_X4_layOut_j61 hC N _ hk16 hf _ _ _ hR hS (lv_sub hl [1, 2, 3, 4, 5] rfl)
set_option maxRecDepth 20000 in
theorem M_X4_layOut (G : XG) (l : Launch) (kp : Bool) (N : Nat) {I : xTI} {L : xTL} {x2 : Int32} {x3 : Int32} {rI : xTI} (hf : F_X4_layOut N I x2 x3 = some rI) : xMet G l yX4_layOut cX4_layOut 6 none 3 70 kp [.ref (xz G + 33), .ref (xz G + 1), .int x2, .int x3] I L none rI L := by
  refine xMet.ofW (by decide +kernel) (Nat.le_of_ble_eq_true rfl) ?_
  intro p e s m args below meth c hC H locs ls hR hS hl
  replace hC : xC G p s m args meth c cX4_layOut 6 RX4 none := hC
  replace hl : lv_has ls 6 [(0, .ref (xz G + 33)), (1, .ref (xz G + 1)), (2, .int x2), (3, .int x3)] := hl
  unfold F_X4_layOut at hf
  refine lv_aload_n hC.1 hC.2.1 dX4_layOut_0 rfl (lv_at hl 1 rfl) ?_
  refine x_get (v := .ref (xz G + 11)) hC xf_X4_75 (xce_1 G kp _ _) rfl hR dX4_layOut_1 ?_
  refine lv_aload_n hC.1 hC.2.1 dX4_layOut_4 rfl (lv_at hl 0 rfl) ?_
  refine x_get (v := .ref (xz G + 39)) hC xf_X4_27 (xce_33 G kp _ _) rfl hR dX4_layOut_5 ?_
  refine lv_iload_n hC.1 hC.2.1 dX4_layOut_8 rfl (lv_at hl 2 rfl) ?_
  refine lv_iload_n hC.1 hC.2.1 dX4_layOut_9 rfl (lv_at hl 3 rfl) ?_
  refine x_cvv10 (rest := []) hC xy_X0_netsInto tw_883 hf (fun _ h => M_X0_netsInto_39 G l kp N h) ⟨Nat.le_of_ble_eq_true rfl, Nat.le_of_ble_eq_true rfl⟩ (xce_11 G kp _ _) rfl rfl rfl (Nat.le_of_ble_eq_true rfl) hl.1 hR hS dX4_layOut_10 ⟨Nat.le_refl _, Nat.le_refl _⟩ (fun I1 hf H locs hR hS => ?_)
  refine lv_iconst (v := 0) hC.1 hC.2.1 dX4_layOut_13 (by decide) ?_
  refine lv_istore (lv' := [(4, .int 0), (0, .ref (xz G + 33)), (1, .ref (xz G + 1)), (2, .int x2), (3, .int x3)]) hC.1 hC.2.1 dX4_layOut_14 hl (Nat.le_of_ble_eq_true rfl) rfl (fun ls hl => ?_)
  exact W_X4_layOut_l16 hC N _ 0 I1 hf _ _ _ hR hS (lv_sub hl [1, 2, 3, 4, 0] rfl)
set_option maxRecDepth 20000 in
theorem W_X8_put_26_j29 {G : XG} {l : Launch} {kp : Bool} {p : Program} {e : Env} {s : State} {m : MethodId} {args : Array Value} {below : List Frame} {meth : Method} {c : Code} (hC : xC G p s m args meth c cX8_put 5 RX8 none) {I : xTI} {L : xTL} {rI : xTI} {x1 : Int32} {x2 : Int32} {x3 : Int32} {t0 : Int32} (hf : F_X8_put_26_j29 I x1 x2 x3 t0 = some rI) : ∀ (H : Heap) (locs : List Loc) (ls : Array Slot), xRep G kp I L H → xS G s.heap H locs → lv_has ls 5 [(0, .ref (xz G + 26)), (1, .int x1), (2, .int x2), (3, .int x3)] → W p l e (xrm 0 0) s m args below meth c H locs 0 0 (xMQ G kp below args s none rI L) (F0 m 29 ls [.int t0]) := by
  intro H locs ls hR hS hl
  unfold F_X8_put_26_j29 at hf
  refine lv_istore (lv' := [(4, .int t0), (0, .ref (xz G + 26)), (1, .int x1), (2, .int x2), (3, .int x3)]) hC.1 hC.2.1 dX8_put_29 hl (Nat.le_of_ble_eq_true rfl) rfl (fun ls hl => ?_)
  refine lv_iload hC.1 hC.2.1 dX8_put_31 (lv_at hl 0 rfl) ?_
  refine x_if_eq (tgt := 50) hC dX8_put_33 (by decide) hf (fun hf => ?_) (fun hf => ?_)
  · have h9 := Option.some.inj hf
    subst h9
    exact x_vret hC hR hS dX8_put_50
  · refine lv_aload_n hC.1 hC.2.1 dX8_put_36 rfl (lv_at hl 1 rfl) ?_
    refine x_get (v := .ref (xz G + 27)) hC xf_X8_16 (xce_26 G kp _ _) rfl hR dX8_put_37 ?_
    refine lv_iload_n hC.1 hC.2.1 dX8_put_40 rfl (lv_at hl 2 rfl) ?_
    refine lv_aload_n hC.1 hC.2.1 dX8_put_41 rfl (lv_at hl 1 rfl) ?_
    refine x_get (v := .int 6) hC xf_X8_13 (xce_26 G kp _ _) rfl hR dX8_put_42 ?_
    refine lv_imul hC.1 hC.2.1 dX8_put_45 ?_
    refine lv_iload_n hC.1 hC.2.1 dX8_put_46 rfl (lv_at hl 3 rfl) ?_
    refine lv_iadd hC.1 hC.2.1 dX8_put_47 ?_
    refine lv_iload_n hC.1 hC.2.1 dX8_put_48 rfl (lv_at hl 4 rfl) ?_
    refine x_ias hC (fun f => (xce_27 G kp f _)) hR hS dX8_put_49 hf (fun I1 hf H locs hR hS => ?_)
    have h9 := Option.some.inj hf
    subst h9
    exact x_vret hC hR hS dX8_put_50
set_option maxRecDepth 20000 in
theorem M_X8_put_26 (G : XG) (l : Launch) (kp : Bool) {I : xTI} {L : xTL} {x1 : Int32} {x2 : Int32} {x3 : Int32} {rI : xTI} (hf : F_X8_put_26 I x1 x2 x3 = some rI) : xMet G l yX8_put cX8_put 5 none 0 0 kp [.ref (xz G + 26), .int x1, .int x2, .int x3] I L none rI L := by
  refine xMet.ofW (by decide +kernel) (Nat.le_of_ble_eq_true rfl) ?_
  intro p e s m args below meth c hC H locs ls hR hS hl
  replace hC : xC G p s m args meth c cX8_put 5 RX8 none := hC
  replace hl : lv_has ls 5 [(0, .ref (xz G + 26)), (1, .int x1), (2, .int x2), (3, .int x3)] := hl
  unfold F_X8_put_26 at hf
  refine lv_iload_n hC.1 hC.2.1 dX8_put_0 rfl (lv_at hl 1 rfl) ?_
  refine x_if_lt (tgt := 28) hC dX8_put_1 (by decide) hf (fun hf => ?_) (fun hf => ?_)
  · refine lv_iconst (v := 0) hC.1 hC.2.1 dX8_put_28 (by decide) ?_
    exact W_X8_put_26_j29 hC hf _ _ _ hR hS (lv_sub hl [0, 1, 2, 3] rfl)
  · refine lv_iload_n hC.1 hC.2.1 dX8_put_4 rfl (lv_at hl 1 rfl) ?_
    refine lv_aload_n hC.1 hC.2.1 dX8_put_5 rfl (lv_at hl 0 rfl) ?_
    refine x_get (v := .int 200) hC xf_X8_7 (xce_26 G kp _ _) rfl hR dX8_put_6 ?_
    refine x_ic_ge (tgt := 28) hC dX8_put_9 (by decide) hf (fun hf => ?_) (fun hf => ?_)
    · refine lv_iconst (v := 0) hC.1 hC.2.1 dX8_put_28 (by decide) ?_
      exact W_X8_put_26_j29 hC hf _ _ _ hR hS (lv_sub hl [0, 1, 2, 3] rfl)
    · refine lv_iload_n hC.1 hC.2.1 dX8_put_12 rfl (lv_at hl 2 rfl) ?_
      refine x_if_lt (tgt := 28) hC dX8_put_13 (by decide) hf (fun hf => ?_) (fun hf => ?_)
      · refine lv_iconst (v := 0) hC.1 hC.2.1 dX8_put_28 (by decide) ?_
        exact W_X8_put_26_j29 hC hf _ _ _ hR hS (lv_sub hl [0, 1, 2, 3] rfl)
      · refine lv_iload_n hC.1 hC.2.1 dX8_put_16 rfl (lv_at hl 2 rfl) ?_
        refine lv_aload_n hC.1 hC.2.1 dX8_put_17 rfl (lv_at hl 0 rfl) ?_
        refine x_get (v := .int 6) hC xf_X8_13 (xce_26 G kp _ _) rfl hR dX8_put_18 ?_
        refine x_ic_ge (tgt := 28) hC dX8_put_21 (by decide) hf (fun hf => ?_) (fun hf => ?_)
        · refine lv_iconst (v := 0) hC.1 hC.2.1 dX8_put_28 (by decide) ?_
          exact W_X8_put_26_j29 hC hf _ _ _ hR hS (lv_sub hl [0, 1, 2, 3] rfl)
        · refine lv_iconst (v := 1) hC.1 hC.2.1 dX8_put_24 (by decide) ?_
          refine lv_goto (tgt := 29) hC.1 hC.2.1 dX8_put_25 (by decide) ?_
          exact W_X8_put_26_j29 hC hf _ _ _ hR hS (lv_sub hl [0, 1, 2, 3] rfl)
set_option maxRecDepth 20000 in
theorem M_X4_noteDelivery (G : XG) (l : Launch) (kp : Bool) {I : xTI} {L : xTL} {x2 : Int32} {x3 : Int32} {x4 : Int32} {rI : xTI} (hf : F_X4_noteDelivery I x2 x3 x4 = some rI) : xMet G l yX4_noteDelivery cX4_noteDelivery 7 none 1 24 kp [.ref (xz G + 33), .ref (xz G + 1), .int x2, .int x3, .int x4] I L none rI L := by
  refine xMet.ofW (by decide +kernel) (Nat.le_of_ble_eq_true rfl) ?_
  intro p e s m args below meth c hC H locs ls hR hS hl
  replace hC : xC G p s m args meth c cX4_noteDelivery 7 RX4 none := hC
  replace hl : lv_has ls 7 [(0, .ref (xz G + 33)), (1, .ref (xz G + 1)), (2, .int x2), (3, .int x3), (4, .int x4)] := hl
  unfold F_X4_noteDelivery at hf
  refine lv_aload_n hC.1 hC.2.1 dX4_noteDelivery_0 rfl (lv_at hl 1 rfl) ?_
  refine x_get (v := .ref (xz G + 26)) hC xf_X4_49 (xce_1 G kp _ _) rfl hR dX4_noteDelivery_1 ?_
  refine lv_astore (lv' := [(5, .ref (xz G + 26)), (0, .ref (xz G + 33)), (1, .ref (xz G + 1)), (2, .int x2), (3, .int x3), (4, .int x4)]) hC.1 hC.2.1 dX4_noteDelivery_4 hl (Nat.le_of_ble_eq_true rfl) rfl (fun ls hl => ?_)
  refine lv_aload hC.1 hC.2.1 dX4_noteDelivery_6 (lv_at hl 0 rfl) ?_
  refine x_getI hC xf_X4_43 (xce_26 G kp _ _) rfl hR dX4_noteDelivery_8 hf (fun v1 hf => ?_)
  refine lv_istore (lv' := [(6, .int v1), (5, .ref (xz G + 26)), (0, .ref (xz G + 33)), (1, .ref (xz G + 1)), (2, .int x2), (3, .int x3), (4, .int x4)]) hC.1 hC.2.1 dX4_noteDelivery_11 hl (Nat.le_of_ble_eq_true rfl) rfl (fun ls hl => ?_)
  refine lv_aload hC.1 hC.2.1 dX4_noteDelivery_13 (lv_at hl 1 rfl) ?_
  refine lv_dup hC.1 hC.2.1 dX4_noteDelivery_15 rfl ?_
  refine x_getI hC xf_X4_43 (xce_26 G kp _ _) rfl hR dX4_noteDelivery_16 hf (fun v2 hf => ?_)
  refine lv_iconst (v := 1) hC.1 hC.2.1 dX4_noteDelivery_19 (by decide) ?_
  refine lv_iadd hC.1 hC.2.1 dX4_noteDelivery_20 ?_
  refine W.eq (g2 := F0 m 21 ls [.int (v2 + 1), .ref (xz G + 26)]) rfl ?_
  refine x_putI hC xf_X4_43 xp_8_3 (fun f => (xce_26 G kp f _)) rfl (Nat.le_of_ble_eq_true rfl) hR hS dX4_noteDelivery_21 hf (fun I3 hf H locs hR hS => ?_)
  refine lv_aload hC.1 hC.2.1 dX4_noteDelivery_24 (lv_at hl 1 rfl) ?_
  refine lv_iload hC.1 hC.2.1 dX4_noteDelivery_26 (lv_at hl 0 rfl) ?_
  refine lv_iconst (v := 0) hC.1 hC.2.1 dX4_noteDelivery_28 (by decide) ?_
  refine lv_iload_n hC.1 hC.2.1 dX4_noteDelivery_29 rfl (lv_at hl 4 rfl) ?_
  refine x_cvv10 (rest := []) hC xy_X8_put tw_905 hf (fun _ h => M_X8_put_26 G l kp h) ⟨Nat.le_of_ble_eq_true rfl, Nat.le_of_ble_eq_true rfl⟩ (xce_26 G kp _ _) rfl rfl rfl (Nat.le_of_ble_eq_true rfl) hl.1 hR hS dX4_noteDelivery_30 ⟨Nat.le_refl _, Nat.le_refl _⟩ (fun I4 hf H locs hR hS => ?_)
  refine lv_aload hC.1 hC.2.1 dX4_noteDelivery_33 (lv_at hl 1 rfl) ?_
  refine lv_iload hC.1 hC.2.1 dX4_noteDelivery_35 (lv_at hl 0 rfl) ?_
  refine lv_iconst (v := 1) hC.1 hC.2.1 dX4_noteDelivery_37 (by decide) ?_
  refine lv_aload_n hC.1 hC.2.1 dX4_noteDelivery_38 rfl (lv_at hl 2 rfl) ?_
  refine x_get (v := .ref (xz G + 35)) hC xf_X4_15 (xce_33 G kp _ _) rfl hR dX4_noteDelivery_39 ?_
  refine lv_iload_n hC.1 hC.2.1 dX4_noteDelivery_42 rfl (lv_at hl 5 rfl) ?_
  refine W.eq (g2 := F0 m 43 ls [.int x3, .ref (xz G + 35), .int 1, .int v1, .ref (xz G + 26)]) rfl ?_
  refine x_ial hC (xce_35 G kp _ _) hR dX4_noteDelivery_43 hf (fun v5 hf => ?_)
  refine x_cvv10 (rest := []) hC xy_X8_put tw_905 hf (fun _ h => M_X8_put_26 G l kp h) ⟨Nat.le_of_ble_eq_true rfl, Nat.le_of_ble_eq_true rfl⟩ (xce_26 G kp _ _) rfl rfl rfl (Nat.le_of_ble_eq_true rfl) hl.1 hR hS dX4_noteDelivery_44 ⟨Nat.le_refl _, Nat.le_refl _⟩ (fun I6 hf H locs hR hS => ?_)
  refine lv_aload hC.1 hC.2.1 dX4_noteDelivery_47 (lv_at hl 1 rfl) ?_
  refine lv_iload hC.1 hC.2.1 dX4_noteDelivery_49 (lv_at hl 0 rfl) ?_
  refine lv_iconst (v := 2) hC.1 hC.2.1 dX4_noteDelivery_51 (by decide) ?_
  refine lv_aload_n hC.1 hC.2.1 dX4_noteDelivery_52 rfl (lv_at hl 2 rfl) ?_
  refine x_get (v := .ref (xz G + 34)) hC xf_X4_11 (xce_33 G kp _ _) rfl hR dX4_noteDelivery_53 ?_
  refine lv_iload_n hC.1 hC.2.1 dX4_noteDelivery_56 rfl (lv_at hl 5 rfl) ?_
  refine x_ial hC (xce_34 G kp _ _) hR dX4_noteDelivery_57 hf (fun v7 hf => ?_)
  refine x_cvv10 (rest := []) hC xy_X8_put tw_905 hf (fun _ h => M_X8_put_26 G l kp h) ⟨Nat.le_of_ble_eq_true rfl, Nat.le_of_ble_eq_true rfl⟩ (xce_26 G kp _ _) rfl rfl rfl (Nat.le_of_ble_eq_true rfl) hl.1 hR hS dX4_noteDelivery_58 ⟨Nat.le_refl _, Nat.le_refl _⟩ (fun I8 hf H locs hR hS => ?_)
  refine lv_aload hC.1 hC.2.1 dX4_noteDelivery_61 (lv_at hl 1 rfl) ?_
  refine lv_iload hC.1 hC.2.1 dX4_noteDelivery_63 (lv_at hl 0 rfl) ?_
  refine W.eq (g2 := F0 m 65 ls [.int v1, .ref (xz G + 26)]) rfl ?_
  refine lv_iconst (v := 3) hC.1 hC.2.1 dX4_noteDelivery_65 (by decide) ?_
  refine lv_iload hC.1 hC.2.1 dX4_noteDelivery_66 (lv_at hl 6 rfl) ?_
  refine x_cvv10 (rest := []) hC xy_X8_put tw_905 hf (fun _ h => M_X8_put_26 G l kp h) ⟨Nat.le_of_ble_eq_true rfl, Nat.le_of_ble_eq_true rfl⟩ (xce_26 G kp _ _) rfl rfl rfl (Nat.le_of_ble_eq_true rfl) hl.1 hR hS dX4_noteDelivery_68 ⟨Nat.le_refl _, Nat.le_refl _⟩ (fun I9 hf H locs hR hS => ?_)
  refine lv_aload hC.1 hC.2.1 dX4_noteDelivery_71 (lv_at hl 1 rfl) ?_
  refine lv_iload hC.1 hC.2.1 dX4_noteDelivery_73 (lv_at hl 0 rfl) ?_
  refine lv_iconst (v := 4) hC.1 hC.2.1 dX4_noteDelivery_75 (by decide) ?_
  refine lv_aload_n hC.1 hC.2.1 dX4_noteDelivery_76 rfl (lv_at hl 2 rfl) ?_
  refine x_get (v := .ref (xz G + 37)) hC xf_X4_21 (xce_33 G kp _ _) rfl hR dX4_noteDelivery_77 ?_
  refine lv_iload_n hC.1 hC.2.1 dX4_noteDelivery_80 rfl (lv_at hl 5 rfl) ?_
  refine x_ial hC (xce_37 G kp _ _) hR dX4_noteDelivery_81 hf (fun v10 hf => ?_)
  refine x_cvv10 (rest := []) hC xy_X8_put tw_905 hf (fun _ h => M_X8_put_26 G l kp h) ⟨Nat.le_of_ble_eq_true rfl, Nat.le_of_ble_eq_true rfl⟩ (xce_26 G kp _ _) rfl rfl rfl (Nat.le_of_ble_eq_true rfl) hl.1 hR hS dX4_noteDelivery_82 ⟨Nat.le_refl _, Nat.le_refl _⟩ (fun I11 hf H locs hR hS => ?_)
  refine lv_aload hC.1 hC.2.1 dX4_noteDelivery_85 (lv_at hl 1 rfl) ?_
  refine W.eq (g2 := F0 m 87 ls [.ref (xz G + 26)]) rfl ?_
  refine lv_iload hC.1 hC.2.1 dX4_noteDelivery_87 (lv_at hl 0 rfl) ?_
  refine lv_iconst (v := 5) hC.1 hC.2.1 dX4_noteDelivery_89 (by decide) ?_
  refine lv_aload_n hC.1 hC.2.1 dX4_noteDelivery_90 rfl (lv_at hl 2 rfl) ?_
  refine x_get (v := .ref (xz G + 38)) hC xf_X4_24 (xce_33 G kp _ _) rfl hR dX4_noteDelivery_91 ?_
  refine lv_iload_n hC.1 hC.2.1 dX4_noteDelivery_94 rfl (lv_at hl 5 rfl) ?_
  refine x_ial hC (xce_38 G kp _ _) hR dX4_noteDelivery_95 hf (fun v12 hf => ?_)
  refine x_cvv10 (rest := []) hC xy_X8_put tw_905 hf (fun _ h => M_X8_put_26 G l kp h) ⟨Nat.le_of_ble_eq_true rfl, Nat.le_of_ble_eq_true rfl⟩ (xce_26 G kp _ _) rfl rfl rfl (Nat.le_of_ble_eq_true rfl) hl.1 hR hS dX4_noteDelivery_96 ⟨Nat.le_refl _, Nat.le_refl _⟩ (fun I13 hf H locs hR hS => ?_)
  have h9 := Option.some.inj hf
  subst h9
  exact x_vret hC hR hS dX4_noteDelivery_99
set_option maxRecDepth 20000 in
theorem W_X8_put_24_j29 {G : XG} {l : Launch} {kp : Bool} {p : Program} {e : Env} {s : State} {m : MethodId} {args : Array Value} {below : List Frame} {meth : Method} {c : Code} (hC : xC G p s m args meth c cX8_put 5 RX8 none) {I : xTI} {L : xTL} {rI : xTI} {x1 : Int32} {x2 : Int32} {x3 : Int32} {t0 : Int32} (hf : F_X8_put_24_j29 I x1 x2 x3 t0 = some rI) : ∀ (H : Heap) (locs : List Loc) (ls : Array Slot), xRep G kp I L H → xS G s.heap H locs → lv_has ls 5 [(0, .ref (xz G + 24)), (1, .int x1), (2, .int x2), (3, .int x3)] → W p l e (xrm 0 0) s m args below meth c H locs 0 0 (xMQ G kp below args s none rI L) (F0 m 29 ls [.int t0]) := by
  intro H locs ls hR hS hl
  unfold F_X8_put_24_j29 at hf
  refine lv_istore (lv' := [(4, .int t0), (0, .ref (xz G + 24)), (1, .int x1), (2, .int x2), (3, .int x3)]) hC.1 hC.2.1 dX8_put_29 hl (Nat.le_of_ble_eq_true rfl) rfl (fun ls hl => ?_)
  refine lv_iload hC.1 hC.2.1 dX8_put_31 (lv_at hl 0 rfl) ?_
  refine x_if_eq (tgt := 50) hC dX8_put_33 (by decide) hf (fun hf => ?_) (fun hf => ?_)
  · have h9 := Option.some.inj hf
    subst h9
    exact x_vret hC hR hS dX8_put_50
  · refine lv_aload_n hC.1 hC.2.1 dX8_put_36 rfl (lv_at hl 1 rfl) ?_
    refine x_get (v := .ref (xz G + 25)) hC xf_X8_16 (xce_24 G kp _ _) rfl hR dX8_put_37 ?_
    refine lv_iload_n hC.1 hC.2.1 dX8_put_40 rfl (lv_at hl 2 rfl) ?_
    refine lv_aload_n hC.1 hC.2.1 dX8_put_41 rfl (lv_at hl 1 rfl) ?_
    refine x_get (v := .int 7) hC xf_X8_13 (xce_24 G kp _ _) rfl hR dX8_put_42 ?_
    refine lv_imul hC.1 hC.2.1 dX8_put_45 ?_
    refine lv_iload_n hC.1 hC.2.1 dX8_put_46 rfl (lv_at hl 3 rfl) ?_
    refine lv_iadd hC.1 hC.2.1 dX8_put_47 ?_
    refine lv_iload_n hC.1 hC.2.1 dX8_put_48 rfl (lv_at hl 4 rfl) ?_
    refine x_ias hC (fun f => (xce_25 G kp f _)) hR hS dX8_put_49 hf (fun I1 hf H locs hR hS => ?_)
    have h9 := Option.some.inj hf
    subst h9
    exact x_vret hC hR hS dX8_put_50
set_option maxRecDepth 20000 in
theorem M_X8_put_24 (G : XG) (l : Launch) (kp : Bool) {I : xTI} {L : xTL} {x1 : Int32} {x2 : Int32} {x3 : Int32} {rI : xTI} (hf : F_X8_put_24 I x1 x2 x3 = some rI) : xMet G l yX8_put cX8_put 5 none 0 0 kp [.ref (xz G + 24), .int x1, .int x2, .int x3] I L none rI L := by
  refine xMet.ofW (by decide +kernel) (Nat.le_of_ble_eq_true rfl) ?_
  intro p e s m args below meth c hC H locs ls hR hS hl
  replace hC : xC G p s m args meth c cX8_put 5 RX8 none := hC
  replace hl : lv_has ls 5 [(0, .ref (xz G + 24)), (1, .int x1), (2, .int x2), (3, .int x3)] := hl
  unfold F_X8_put_24 at hf
  refine lv_iload_n hC.1 hC.2.1 dX8_put_0 rfl (lv_at hl 1 rfl) ?_
  refine x_if_lt (tgt := 28) hC dX8_put_1 (by decide) hf (fun hf => ?_) (fun hf => ?_)
  · refine lv_iconst (v := 0) hC.1 hC.2.1 dX8_put_28 (by decide) ?_
    exact W_X8_put_24_j29 hC hf _ _ _ hR hS (lv_sub hl [0, 1, 2, 3] rfl)
  · refine lv_iload_n hC.1 hC.2.1 dX8_put_4 rfl (lv_at hl 1 rfl) ?_
    refine lv_aload_n hC.1 hC.2.1 dX8_put_5 rfl (lv_at hl 0 rfl) ?_
    refine x_get (v := .int 300) hC xf_X8_7 (xce_24 G kp _ _) rfl hR dX8_put_6 ?_
    refine x_ic_ge (tgt := 28) hC dX8_put_9 (by decide) hf (fun hf => ?_) (fun hf => ?_)
    · refine lv_iconst (v := 0) hC.1 hC.2.1 dX8_put_28 (by decide) ?_
      exact W_X8_put_24_j29 hC hf _ _ _ hR hS (lv_sub hl [0, 1, 2, 3] rfl)
    · refine lv_iload_n hC.1 hC.2.1 dX8_put_12 rfl (lv_at hl 2 rfl) ?_
      refine x_if_lt (tgt := 28) hC dX8_put_13 (by decide) hf (fun hf => ?_) (fun hf => ?_)
      · refine lv_iconst (v := 0) hC.1 hC.2.1 dX8_put_28 (by decide) ?_
        exact W_X8_put_24_j29 hC hf _ _ _ hR hS (lv_sub hl [0, 1, 2, 3] rfl)
      · refine lv_iload_n hC.1 hC.2.1 dX8_put_16 rfl (lv_at hl 2 rfl) ?_
        refine lv_aload_n hC.1 hC.2.1 dX8_put_17 rfl (lv_at hl 0 rfl) ?_
        refine x_get (v := .int 7) hC xf_X8_13 (xce_24 G kp _ _) rfl hR dX8_put_18 ?_
        refine x_ic_ge (tgt := 28) hC dX8_put_21 (by decide) hf (fun hf => ?_) (fun hf => ?_)
        · refine lv_iconst (v := 0) hC.1 hC.2.1 dX8_put_28 (by decide) ?_
          exact W_X8_put_24_j29 hC hf _ _ _ hR hS (lv_sub hl [0, 1, 2, 3] rfl)
        · refine lv_iconst (v := 1) hC.1 hC.2.1 dX8_put_24 (by decide) ?_
          refine lv_goto (tgt := 29) hC.1 hC.2.1 dX8_put_25 (by decide) ?_
          exact W_X8_put_24_j29 hC hf _ _ _ hR hS (lv_sub hl [0, 1, 2, 3] rfl)
set_option maxRecDepth 20000 in
theorem M_X4_notePass_24 (G : XG) (l : Launch) (kp : Bool) {I : xTI} {L : xTL} {x2 : Int32} {x3 : Int32} {x4 : Int32} {rI : xTI} (hf : F_X4_notePass_24 I x2 x3 x4 = some rI) : xMet G l yX4_notePass cX4_notePass 6 none 1 24 kp [.ref (xz G + 33), .ref (xz G + 24), .int x2, .int x3, .int x4] I L none rI L := by
  refine xMet.ofW (by decide +kernel) (Nat.le_of_ble_eq_true rfl) ?_
  intro p e s m args below meth c hC H locs ls hR hS hl
  replace hC : xC G p s m args meth c cX4_notePass 6 RX4 none := hC
  replace hl : lv_has ls 6 [(0, .ref (xz G + 33)), (1, .ref (xz G + 24)), (2, .int x2), (3, .int x3), (4, .int x4)] := hl
  unfold F_X4_notePass_24 at hf
  refine lv_aload_n hC.1 hC.2.1 dX4_notePass_0 rfl (lv_at hl 1 rfl) ?_
  refine x_getI hC xf_X4_43 (xce_24 G kp _ _) rfl hR dX4_notePass_1 hf (fun v1 hf => ?_)
  refine lv_istore (lv' := [(5, .int v1), (0, .ref (xz G + 33)), (1, .ref (xz G + 24)), (2, .int x2), (3, .int x3), (4, .int x4)]) hC.1 hC.2.1 dX4_notePass_4 hl (Nat.le_of_ble_eq_true rfl) rfl (fun ls hl => ?_)
  refine lv_aload_n hC.1 hC.2.1 dX4_notePass_6 rfl (lv_at hl 2 rfl) ?_
  refine lv_dup hC.1 hC.2.1 dX4_notePass_7 rfl ?_
  refine x_getI hC xf_X4_43 (xce_24 G kp _ _) rfl hR dX4_notePass_8 hf (fun v2 hf => ?_)
  refine lv_iconst (v := 1) hC.1 hC.2.1 dX4_notePass_11 (by decide) ?_
  refine lv_iadd hC.1 hC.2.1 dX4_notePass_12 ?_
  refine x_putI hC xf_X4_43 xp_8_3 (fun f => (xce_24 G kp f _)) rfl (Nat.le_of_ble_eq_true rfl) hR hS dX4_notePass_13 hf (fun I3 hf H locs hR hS => ?_)
  refine lv_aload_n hC.1 hC.2.1 dX4_notePass_16 rfl (lv_at hl 2 rfl) ?_
  refine lv_iload hC.1 hC.2.1 dX4_notePass_17 (lv_at hl 0 rfl) ?_
  refine W.eq (g2 := F0 m 19 ls [.int v1, .ref (xz G + 24)]) rfl ?_
  refine lv_iconst (v := 0) hC.1 hC.2.1 dX4_notePass_19 (by decide) ?_
  refine lv_iload_n hC.1 hC.2.1 dX4_notePass_20 rfl (lv_at hl 3 rfl) ?_
  refine x_cvv10 (rest := []) hC xy_X8_put tw_905 hf (fun _ h => M_X8_put_24 G l kp h) ⟨Nat.le_of_ble_eq_true rfl, Nat.le_of_ble_eq_true rfl⟩ (xce_24 G kp _ _) rfl rfl rfl (Nat.le_of_ble_eq_true rfl) hl.1 hR hS dX4_notePass_21 ⟨Nat.le_refl _, Nat.le_refl _⟩ (fun I4 hf H locs hR hS => ?_)
  refine lv_aload_n hC.1 hC.2.1 dX4_notePass_24 rfl (lv_at hl 2 rfl) ?_
  refine lv_iload hC.1 hC.2.1 dX4_notePass_25 (lv_at hl 0 rfl) ?_
  refine lv_iconst (v := 1) hC.1 hC.2.1 dX4_notePass_27 (by decide) ?_
  refine lv_iload_n hC.1 hC.2.1 dX4_notePass_28 rfl (lv_at hl 4 rfl) ?_
  refine x_cvv10 (rest := []) hC xy_X8_put tw_905 hf (fun _ h => M_X8_put_24 G l kp h) ⟨Nat.le_of_ble_eq_true rfl, Nat.le_of_ble_eq_true rfl⟩ (xce_24 G kp _ _) rfl rfl rfl (Nat.le_of_ble_eq_true rfl) hl.1 hR hS dX4_notePass_29 ⟨Nat.le_refl _, Nat.le_refl _⟩ (fun I5 hf H locs hR hS => ?_)
  refine lv_aload_n hC.1 hC.2.1 dX4_notePass_32 rfl (lv_at hl 2 rfl) ?_
  refine lv_iload hC.1 hC.2.1 dX4_notePass_33 (lv_at hl 0 rfl) ?_
  refine lv_iconst (v := 2) hC.1 hC.2.1 dX4_notePass_35 (by decide) ?_
  refine lv_aload_n hC.1 hC.2.1 dX4_notePass_36 rfl (lv_at hl 1 rfl) ?_
  refine W.eq (g2 := F0 m 37 ls [.ref (xz G + 33), .int 2, .int v1, .ref (xz G + 24)]) rfl ?_
  refine x_get (v := .ref (xz G + 35)) hC xf_X4_15 (xce_33 G kp _ _) rfl hR dX4_notePass_37 ?_
  refine lv_iload hC.1 hC.2.1 dX4_notePass_40 (lv_at hl 5 rfl) ?_
  refine x_ial hC (xce_35 G kp _ _) hR dX4_notePass_42 hf (fun v6 hf => ?_)
  refine x_cvv10 (rest := []) hC xy_X8_put tw_905 hf (fun _ h => M_X8_put_24 G l kp h) ⟨Nat.le_of_ble_eq_true rfl, Nat.le_of_ble_eq_true rfl⟩ (xce_24 G kp _ _) rfl rfl rfl (Nat.le_of_ble_eq_true rfl) hl.1 hR hS dX4_notePass_43 ⟨Nat.le_refl _, Nat.le_refl _⟩ (fun I7 hf H locs hR hS => ?_)
  refine lv_aload_n hC.1 hC.2.1 dX4_notePass_46 rfl (lv_at hl 2 rfl) ?_
  refine lv_iload hC.1 hC.2.1 dX4_notePass_47 (lv_at hl 0 rfl) ?_
  refine lv_iconst (v := 3) hC.1 hC.2.1 dX4_notePass_49 (by decide) ?_
  refine lv_aload_n hC.1 hC.2.1 dX4_notePass_50 rfl (lv_at hl 1 rfl) ?_
  refine x_get (v := .ref (xz G + 34)) hC xf_X4_11 (xce_33 G kp _ _) rfl hR dX4_notePass_51 ?_
  refine lv_iload hC.1 hC.2.1 dX4_notePass_54 (lv_at hl 5 rfl) ?_
  refine x_ial hC (xce_34 G kp _ _) hR dX4_notePass_56 hf (fun v8 hf => ?_)
  refine x_cvv10 (rest := []) hC xy_X8_put tw_905 hf (fun _ h => M_X8_put_24 G l kp h) ⟨Nat.le_of_ble_eq_true rfl, Nat.le_of_ble_eq_true rfl⟩ (xce_24 G kp _ _) rfl rfl rfl (Nat.le_of_ble_eq_true rfl) hl.1 hR hS dX4_notePass_57 ⟨Nat.le_refl _, Nat.le_refl _⟩ (fun I9 hf H locs hR hS => ?_)
  refine W.eq (g2 := F0 m 60 ls []) rfl ?_
  refine lv_aload_n hC.1 hC.2.1 dX4_notePass_60 rfl (lv_at hl 2 rfl) ?_
  refine lv_iload hC.1 hC.2.1 dX4_notePass_61 (lv_at hl 0 rfl) ?_
  refine lv_iconst (v := 4) hC.1 hC.2.1 dX4_notePass_63 (by decide) ?_
  refine lv_aload_n hC.1 hC.2.1 dX4_notePass_64 rfl (lv_at hl 1 rfl) ?_
  refine x_get (v := .ref (xz G + 36)) hC xf_X4_18 (xce_33 G kp _ _) rfl hR dX4_notePass_65 ?_
  refine lv_iload hC.1 hC.2.1 dX4_notePass_68 (lv_at hl 5 rfl) ?_
  refine x_ial hC (xce_36 G kp _ _) hR dX4_notePass_70 hf (fun v10 hf => ?_)
  refine x_cvv10 (rest := []) hC xy_X8_put tw_905 hf (fun _ h => M_X8_put_24 G l kp h) ⟨Nat.le_of_ble_eq_true rfl, Nat.le_of_ble_eq_true rfl⟩ (xce_24 G kp _ _) rfl rfl rfl (Nat.le_of_ble_eq_true rfl) hl.1 hR hS dX4_notePass_71 ⟨Nat.le_refl _, Nat.le_refl _⟩ (fun I11 hf H locs hR hS => ?_)
  refine lv_aload_n hC.1 hC.2.1 dX4_notePass_74 rfl (lv_at hl 2 rfl) ?_
  refine lv_iload hC.1 hC.2.1 dX4_notePass_75 (lv_at hl 0 rfl) ?_
  refine lv_iconst (v := 5) hC.1 hC.2.1 dX4_notePass_77 (by decide) ?_
  refine lv_aload_n hC.1 hC.2.1 dX4_notePass_78 rfl (lv_at hl 1 rfl) ?_
  refine W.eq (g2 := F0 m 79 ls [.ref (xz G + 33), .int 5, .int v1, .ref (xz G + 24)]) rfl ?_
  refine x_get (v := .ref (xz G + 37)) hC xf_X4_21 (xce_33 G kp _ _) rfl hR dX4_notePass_79 ?_
  refine lv_iload hC.1 hC.2.1 dX4_notePass_82 (lv_at hl 5 rfl) ?_
  refine x_ial hC (xce_37 G kp _ _) hR dX4_notePass_84 hf (fun v12 hf => ?_)
  refine x_cvv10 (rest := []) hC xy_X8_put tw_905 hf (fun _ h => M_X8_put_24 G l kp h) ⟨Nat.le_of_ble_eq_true rfl, Nat.le_of_ble_eq_true rfl⟩ (xce_24 G kp _ _) rfl rfl rfl (Nat.le_of_ble_eq_true rfl) hl.1 hR hS dX4_notePass_85 ⟨Nat.le_refl _, Nat.le_refl _⟩ (fun I13 hf H locs hR hS => ?_)
  refine lv_aload_n hC.1 hC.2.1 dX4_notePass_88 rfl (lv_at hl 2 rfl) ?_
  refine lv_iload hC.1 hC.2.1 dX4_notePass_89 (lv_at hl 0 rfl) ?_
  refine lv_bipush (v := 6) hC.1 hC.2.1 dX4_notePass_91 (by decide) ?_
  refine lv_aload_n hC.1 hC.2.1 dX4_notePass_93 rfl (lv_at hl 1 rfl) ?_
  refine x_get (v := .ref (xz G + 38)) hC xf_X4_24 (xce_33 G kp _ _) rfl hR dX4_notePass_94 ?_
  refine lv_iload hC.1 hC.2.1 dX4_notePass_97 (lv_at hl 5 rfl) ?_
  refine x_ial hC (xce_38 G kp _ _) hR dX4_notePass_99 hf (fun v14 hf => ?_)
  refine x_cvv10 (rest := []) hC xy_X8_put tw_905 hf (fun _ h => M_X8_put_24 G l kp h) ⟨Nat.le_of_ble_eq_true rfl, Nat.le_of_ble_eq_true rfl⟩ (xce_24 G kp _ _) rfl rfl rfl (Nat.le_of_ble_eq_true rfl) hl.1 hR hS dX4_notePass_100 ⟨Nat.le_refl _, Nat.le_refl _⟩ (fun I15 hf H locs hR hS => ?_)
  refine W.eq (g2 := F0 m 103 ls []) rfl ?_
  have h9 := Option.some.inj hf
  subst h9
  exact x_vret hC hR hS dX4_notePass_103
set_option maxRecDepth 20000 in
theorem W_X4_passOn_l95 {G : XG} {l : Launch} {kp : Bool} {p : Program} {e : Env} {s : State} {m : MethodId} {args : Array Value} {below : List Frame} {meth : Method} {c : Code} (hC : xC G p s m args meth c cX4_passOn 13 RX4 none) (N : Nat) {L : xTL} {rI : xTI} {x2 : Int32} {x4 : Int32} {x5 : Int32} {x6 : Int32} {x8 : Int32} : ∀ (n : Nat) (x9 : Int32) (x10 : Int32) (I : xTI) , xlp (F_X4_passOn_b95 N x2 x4 x5 x6 x8 ) n (x9, x10, I) = some rI → ∀ (H : Heap) (locs : List Loc) (ls : Array Slot), xRep G kp I L H → xS G s.heap H locs → lv_has ls 13 [(0, .ref (xz G + 33)), (1, .ref (xz G + 1)), (2, .int x2), (4, .int x4), (5, .int x5), (6, .int x6), (8, .int x8), (9, .int x9), (10, .int x10)] → W p l e (xrm 2 49) s m args below meth c H locs 0 0 (xMQ G kp below args s none rI L) (F0 m 95 ls []) := by
  intro n
  induction n with
  | zero =>
    intro x9 x10 I hf
    cases hf
  | succ n hk95 =>
    intro x9 x10 I hf H locs ls hR hS hl
    rw [xlp_s, E_X4_passOn_b95] at hf
    unfold F_X4_passOn_c95 at hf
    refine lv_iload hC.1 hC.2.1 dX4_passOn_95 (lv_at hl 8 rfl) ?_
    refine lv_bipush (v := 60) hC.1 hC.2.1 dX4_passOn_97 (by decide) ?_
    refine x_ic_ge (tgt := 208) hC dX4_passOn_99 (by decide) hf (fun hf => ?_) (fun hf => ?_)
    · have h9 := Option.some.inj hf
      subst h9
      exact x_vret hC hR hS dX4_passOn_208
    · refine lv_iload hC.1 hC.2.1 dX4_passOn_102 (lv_at hl 7 rfl) ?_
      refine x_if_le (tgt := 208) hC dX4_passOn_104 (by decide) hf (fun hf => ?_) (fun hf => ?_)
      · have h9 := Option.some.inj hf
        subst h9
        exact x_vret hC hR hS dX4_passOn_208
      · refine lv_aload_n hC.1 hC.2.1 dX4_passOn_107 rfl (lv_at hl 0 rfl) ?_
        refine x_get (v := .ref (xz G + 40)) hC xf_X4_30 (xce_33 G kp _ _) rfl hR dX4_passOn_108 ?_
        refine lv_iload hC.1 hC.2.1 dX4_passOn_111 (lv_at hl 8 rfl) ?_
        refine x_ial hC (xce_40 G kp _ _) hR dX4_passOn_113 hf (fun v1 hf => ?_)
        refine lv_iload hC.1 hC.2.1 dX4_passOn_114 (lv_at hl 7 rfl) ?_
        refine x_mni (rest := []) hC tw_900 hl.1 (Nat.le_of_ble_eq_true rfl) (Nat.le_of_ble_eq_true rfl) dX4_passOn_116 ⟨Nat.le_refl _, Nat.le_refl _⟩ hf (fun v2 hf => ?_)
        refine lv_istore (lv' := [(11, .int v2), (0, .ref (xz G + 33)), (1, .ref (xz G + 1)), (2, .int x2), (4, .int x4), (5, .int x5), (6, .int x6), (8, .int x8), (9, .int x9), (10, .int x10)]) hC.1 hC.2.1 dX4_passOn_119 hl (Nat.le_of_ble_eq_true rfl) rfl (fun ls hl => ?_)
        refine lv_iload hC.1 hC.2.1 dX4_passOn_121 (lv_at hl 0 rfl) ?_
        refine x_if_le (tgt := 202) hC dX4_passOn_123 (by decide) hf (fun hf => ?_) (fun hf => ?_)
        · refine x_iinc (d := 1) (lv' := fun y3 => [(10, .int y3), (11, .int v2), (0, .ref (xz G + 33)), (1, .ref (xz G + 1)), (2, .int x2), (4, .int x4), (5, .int x5), (6, .int x6), (8, .int x8), (9, .int x9)]) (k := 9) hC hl dX4_passOn_202 rfl (by decide) (Nat.le_of_ble_eq_true rfl) hf (fun _ => rfl) (fun y3 hf ls hl => ?_)
          refine lv_goto (tgt := 95) hC.1 hC.2.1 dX4_passOn_205 (by decide) ?_
          exact hk95 x9 y3 I hf _ _ _ hR hS (lv_sub hl [2, 3, 4, 5, 6, 7, 8, 9, 0] rfl)
        · refine lv_aload_n hC.1 hC.2.1 dX4_passOn_126 rfl (lv_at hl 2 rfl) ?_
          refine x_get (v := .ref (xz G + 11)) hC xf_X4_75 (xce_1 G kp _ _) rfl hR dX4_passOn_127 ?_
          refine lv_iload hC.1 hC.2.1 dX4_passOn_130 (lv_at hl 9 rfl) ?_
          refine lv_iconst (v := 1) hC.1 hC.2.1 dX4_passOn_132 (by decide) ?_
          refine x_cvi00 (rest := []) hC xy_X0_at tw_889 hf (fun _ h => M_X0_at G l kp h) ⟨Nat.le_of_ble_eq_true rfl, Nat.le_of_ble_eq_true rfl⟩ (xce_11 G kp _ _) rfl rfl rfl (Nat.le_of_ble_eq_true rfl) hl.1 hR hS dX4_passOn_133 ⟨Nat.le_refl _, Nat.le_refl _⟩ (fun v4 hf H locs hR hS => ?_)
          refine lv_iload hC.1 hC.2.1 dX4_passOn_136 (lv_at hl 5 rfl) ?_
          refine x_ic_ne (tgt := 202) hC dX4_passOn_138 (by decide) hf (fun hf => ?_) (fun hf => ?_)
          · refine x_iinc (d := 1) (lv' := fun y5 => [(10, .int y5), (11, .int v2), (0, .ref (xz G + 33)), (1, .ref (xz G + 1)), (2, .int x2), (4, .int x4), (5, .int x5), (6, .int x6), (8, .int x8), (9, .int x9)]) (k := 9) hC hl dX4_passOn_202 rfl (by decide) (Nat.le_of_ble_eq_true rfl) hf (fun _ => rfl) (fun y5 hf ls hl => ?_)
            refine lv_goto (tgt := 95) hC.1 hC.2.1 dX4_passOn_205 (by decide) ?_
            exact hk95 x9 y5 I hf _ _ _ hR hS (lv_sub hl [2, 3, 4, 5, 6, 7, 8, 9, 0] rfl)
          · refine lv_aload_n hC.1 hC.2.1 dX4_passOn_141 rfl (lv_at hl 1 rfl) ?_
            refine x_get (v := .ref (xz G + 40)) hC xf_X4_30 (xce_33 G kp _ _) rfl hR dX4_passOn_142 ?_
            refine lv_iload hC.1 hC.2.1 dX4_passOn_145 (lv_at hl 9 rfl) ?_
            refine lv_dup2_11 hC.1 hC.2.1 dX4_passOn_147 rfl rfl ?_
            refine x_ial hC (xce_40 G kp _ _) hR dX4_passOn_148 hf (fun v6 hf => ?_)
            refine lv_iload hC.1 hC.2.1 dX4_passOn_149 (lv_at hl 0 rfl) ?_
            refine lv_isub hC.1 hC.2.1 dX4_passOn_151 ?_
            refine x_ias hC (fun f => (xce_40 G kp f _)) hR hS dX4_passOn_152 hf (fun I7 hf H locs hR hS => ?_)
            refine lv_iload hC.1 hC.2.1 dX4_passOn_153 (lv_at hl 8 rfl) ?_
            refine lv_iload hC.1 hC.2.1 dX4_passOn_155 (lv_at hl 0 rfl) ?_
            refine lv_isub hC.1 hC.2.1 dX4_passOn_157 ?_
            refine W.eq (g2 := F0 m 158 ls [.int (x9 - v2)]) rfl ?_
            refine x_ist (lv' := fun y8 => [(9, .int y8), (11, .int v2), (0, .ref (xz G + 33)), (1, .ref (xz G + 1)), (2, .int x2), (4, .int x4), (5, .int x5), (6, .int x6), (8, .int x8), (10, .int x10)]) hC hl dX4_passOn_158 (Nat.le_of_ble_eq_true rfl) hf (fun _ => rfl) (fun y8 hf ls hl => ?_)
            refine lv_aload_n hC.1 hC.2.1 dX4_passOn_160 rfl (lv_at hl 2 rfl) ?_
            refine lv_aload_n hC.1 hC.2.1 dX4_passOn_161 rfl (lv_at hl 2 rfl) ?_
            refine x_get (v := .ref (xz G + 34)) hC xf_X4_11 (xce_33 G kp _ _) rfl hR dX4_passOn_162 ?_
            refine lv_iload hC.1 hC.2.1 dX4_passOn_165 (lv_at hl 5 rfl) ?_
            refine x_ial hC (xce_34 G kp _ _) hR dX4_passOn_167 hf (fun v9 hf => ?_)
            refine lv_aload_n hC.1 hC.2.1 dX4_passOn_168 rfl (lv_at hl 3 rfl) ?_
            refine x_get (v := .ref (xz G + 11)) hC xf_X4_75 (xce_1 G kp _ _) rfl hR dX4_passOn_169 ?_
            refine lv_iload hC.1 hC.2.1 dX4_passOn_172 (lv_at hl 9 rfl) ?_
            refine lv_iconst (v := 0) hC.1 hC.2.1 dX4_passOn_174 (by decide) ?_
            refine x_cvi00 (rest := [.int v9, .ref (xz G + 33)]) hC xy_X0_at tw_889 hf (fun _ h => M_X0_at G l kp h) ⟨Nat.le_of_ble_eq_true rfl, Nat.le_of_ble_eq_true rfl⟩ (xce_11 G kp _ _) rfl rfl rfl (Nat.le_of_ble_eq_true rfl) hl.1 hR hS dX4_passOn_175 ⟨Nat.le_refl _, Nat.le_refl _⟩ (fun v10 hf H locs hR hS => ?_)
            refine lv_iload hC.1 hC.2.1 dX4_passOn_178 (lv_at hl 1 rfl) ?_
            refine W.eq (g2 := F0 m 180 ls [.int v2, .int v10, .int v9, .ref (xz G + 33)]) rfl ?_
            refine lv_iload hC.1 hC.2.1 dX4_passOn_180 (lv_at hl 7 rfl) ?_
            refine lv_iload hC.1 hC.2.1 dX4_passOn_182 (lv_at hl 8 rfl) ?_
            refine x_cvi10 (rest := []) hC xy_X4_line tw_890 hf (fun _ _ h => M_X4_line G l kp h) ⟨Nat.le_of_ble_eq_true rfl, Nat.le_of_ble_eq_true rfl⟩ (xce_33 G kp _ _) rfl rfl rfl (Nat.le_of_ble_eq_true rfl) hl.1 hR hS dX4_passOn_184 ⟨Nat.le_refl _, Nat.le_refl _⟩ (fun v11 I12 hf H locs hR hS => ?_)
            refine lv_istore (lv' := [(12, .int v11), (9, .int y8), (11, .int v2), (0, .ref (xz G + 33)), (1, .ref (xz G + 1)), (2, .int x2), (4, .int x4), (5, .int x5), (6, .int x6), (8, .int x8), (10, .int x10)]) hC.1 hC.2.1 dX4_passOn_187 hl (Nat.le_of_ble_eq_true rfl) rfl (fun ls hl => ?_)
            refine lv_aload_n hC.1 hC.2.1 dX4_passOn_189 rfl (lv_at hl 3 rfl) ?_
            refine lv_aload_n hC.1 hC.2.1 dX4_passOn_190 rfl (lv_at hl 4 rfl) ?_
            refine x_get (v := .ref (xz G + 24)) hC xf_X4_39 (xce_1 G kp _ _) rfl hR dX4_passOn_191 ?_
            refine lv_iload_n hC.1 hC.2.1 dX4_passOn_194 rfl (lv_at hl 5 rfl) ?_
            refine lv_iload hC.1 hC.2.1 dX4_passOn_195 (lv_at hl 7 rfl) ?_
            refine lv_iload hC.1 hC.2.1 dX4_passOn_197 (lv_at hl 0 rfl) ?_
            refine x_cvv10 (rest := []) hC xy_X4_notePass tw_910 hf (fun _ h => M_X4_notePass_24 G l kp h) ⟨Nat.le_of_ble_eq_true rfl, Nat.le_of_ble_eq_true rfl⟩ (xce_33 G kp _ _) rfl rfl rfl (Nat.le_of_ble_eq_true rfl) hl.1 hR hS dX4_passOn_199 ⟨Nat.le_refl _, Nat.le_refl _⟩ (fun I13 hf H locs hR hS => ?_)
            refine x_iinc (d := 1) (lv' := fun y14 => [(10, .int y14), (12, .int v11), (9, .int y8), (11, .int v2), (0, .ref (xz G + 33)), (1, .ref (xz G + 1)), (2, .int x2), (4, .int x4), (5, .int x5), (6, .int x6), (8, .int x8)]) (k := 10) hC hl dX4_passOn_202 rfl (by decide) (Nat.le_of_ble_eq_true rfl) hf (fun _ => rfl) (fun y14 hf ls hl => ?_)
            refine W.eq (g2 := F0 m 205 ls []) rfl ?_
            refine lv_goto (tgt := 95) hC.1 hC.2.1 dX4_passOn_205 (by decide) ?_
            exact hk95 y8 y14 I13 hf _ _ _ hR hS (lv_sub hl [4, 5, 6, 7, 8, 9, 10, 2, 0] rfl)
set_option maxRecDepth 20000 in
theorem W_X4_passOn_j81 {G : XG} {l : Launch} {kp : Bool} {p : Program} {e : Env} {s : State} {m : MethodId} {args : Array Value} {below : List Frame} {meth : Method} {c : Code} (hC : xC G p s m args meth c cX4_passOn 13 RX4 none) (N : Nat) {I : xTI} {L : xTL} {rI : xTI} {x2 : Int32} {x4 : Int32} {x5 : Int32} {x6 : Int32} {t0 : Int32} (hf : F_X4_passOn_j81 N I x2 x4 x5 x6 t0 = some rI) : ∀ (H : Heap) (locs : List Loc) (ls : Array Slot), xRep G kp I L H → xS G s.heap H locs → lv_has ls 13 [(0, .ref (xz G + 33)), (1, .ref (xz G + 1)), (2, .int x2), (4, .int x4), (5, .int x5), (6, .int x6)] → W p l e (xrm 2 49) s m args below meth c H locs 0 0 (xMQ G kp below args s none rI L) (F0 m 81 ls [.int t0]) := by
  intro H locs ls hR hS hl
  unfold F_X4_passOn_j81 at hf
  refine lv_istore (lv' := [(8, .int t0), (0, .ref (xz G + 33)), (1, .ref (xz G + 1)), (2, .int x2), (4, .int x4), (5, .int x5), (6, .int x6)]) hC.1 hC.2.1 dX4_passOn_81 hl (Nat.le_of_ble_eq_true rfl) rfl (fun ls hl => ?_)
  refine lv_aload_n hC.1 hC.2.1 dX4_passOn_83 rfl (lv_at hl 1 rfl) ?_
  refine x_get (v := .ref (xz G + 36)) hC xf_X4_18 (xce_33 G kp _ _) rfl hR dX4_passOn_84 ?_
  refine lv_iload hC.1 hC.2.1 dX4_passOn_87 (lv_at hl 4 rfl) ?_
  refine x_ial hC (xce_36 G kp _ _) hR dX4_passOn_89 hf (fun v1 hf => ?_)
  refine lv_istore (lv' := [(9, .int v1), (8, .int t0), (0, .ref (xz G + 33)), (1, .ref (xz G + 1)), (2, .int x2), (4, .int x4), (5, .int x5), (6, .int x6)]) hC.1 hC.2.1 dX4_passOn_90 hl (Nat.le_of_ble_eq_true rfl) rfl (fun ls hl => ?_)
  refine lv_iconst (v := 0) hC.1 hC.2.1 dX4_passOn_92 (by decide) ?_
  refine lv_istore (lv' := [(10, .int 0), (9, .int v1), (8, .int t0), (0, .ref (xz G + 33)), (1, .ref (xz G + 1)), (2, .int x2), (4, .int x4), (5, .int x5), (6, .int x6)]) hC.1 hC.2.1 dX4_passOn_93 hl (Nat.le_of_ble_eq_true rfl) rfl (fun ls hl => ?_)
  exact W_X4_passOn_l95 hC N _ v1 0 I hf _ _ _ hR hS (lv_sub hl [3, 4, 5, 6, 7, 8, 2, 1, 0] rfl)
set_option maxRecDepth 20000 in
theorem W_X4_passOn_j74 {G : XG} {l : Launch} {kp : Bool} {p : Program} {e : Env} {s : State} {m : MethodId} {args : Array Value} {below : List Frame} {meth : Method} {c : Code} (hC : xC G p s m args meth c cX4_passOn 13 RX4 none) (N : Nat) {I : xTI} {L : xTL} {rI : xTI} {x2 : Int32} {x4 : Int32} {x5 : Int32} {x6 : Int32} (hf : F_X4_passOn_j74 N I x2 x4 x5 x6 = some rI) : ∀ (H : Heap) (locs : List Loc) (ls : Array Slot), xRep G kp I L H → xS G s.heap H locs → lv_has ls 13 [(0, .ref (xz G + 33)), (1, .ref (xz G + 1)), (2, .int x2), (4, .int x4), (5, .int x5), (6, .int x6)] → W p l e (xrm 2 49) s m args below meth c H locs 0 0 (xMQ G kp below args s none rI L) (F0 m 74 ls []) := by
  intro H locs ls hR hS hl
  unfold F_X4_passOn_j74 at hf
  refine lv_aload_n hC.1 hC.2.1 dX4_passOn_74 rfl (lv_at hl 0 rfl) ?_
  refine x_get (v := .ref (xz G + 38)) hC xf_X4_24 (xce_33 G kp _ _) rfl hR dX4_passOn_75 ?_
  refine lv_iload hC.1 hC.2.1 dX4_passOn_78 (lv_at hl 3 rfl) ?_
  refine x_ial hC (xce_38 G kp _ _) hR dX4_passOn_80 hf (fun v1 hf => ?_)
  exact W_X4_passOn_j81 hC N hf _ _ _ hR hS (lv_sub hl [0, 1, 2, 3, 4, 5] rfl)
set_option maxRecDepth 20000 in
theorem W_X4_passOn_j51 {G : XG} {l : Launch} {kp : Bool} {p : Program} {e : Env} {s : State} {m : MethodId} {args : Array Value} {below : List Frame} {meth : Method} {c : Code} (hC : xC G p s m args meth c cX4_passOn 13 RX4 none) (N : Nat) {I : xTI} {L : xTL} {rI : xTI} {x2 : Int32} {x4 : Int32} {x5 : Int32} {x6 : Int32} {t0 : Int32} (hf : F_X4_passOn_j51 N I x2 x4 x5 x6 t0 = some rI) : ∀ (H : Heap) (locs : List Loc) (ls : Array Slot), xRep G kp I L H → xS G s.heap H locs → lv_has ls 13 [(0, .ref (xz G + 33)), (1, .ref (xz G + 1)), (2, .int x2), (4, .int x4), (5, .int x5), (6, .int x6)] → W p l e (xrm 2 49) s m args below meth c H locs 0 0 (xMQ G kp below args s none rI L) (F0 m 51 ls [.int t0]) := by
  intro H locs ls hR hS hl
  unfold F_X4_passOn_j51 at hf
  refine lv_istore (lv' := [(7, .int t0), (0, .ref (xz G + 33)), (1, .ref (xz G + 1)), (2, .int x2), (4, .int x4), (5, .int x5), (6, .int x6)]) hC.1 hC.2.1 dX4_passOn_51 hl (Nat.le_of_ble_eq_true rfl) rfl (fun ls hl => ?_)
  refine lv_iload hC.1 hC.2.1 dX4_passOn_53 (lv_at hl 0 rfl) ?_
  refine x_if_eq (tgt := 74) hC dX4_passOn_55 (by decide) hf (fun hf => ?_) (fun hf => ?_)
  · exact W_X4_passOn_j74 hC N hf _ _ _ hR hS (lv_sub hl [1, 2, 3, 4, 5, 6] rfl)
  · refine lv_aload_n hC.1 hC.2.1 dX4_passOn_58 rfl (lv_at hl 1 rfl) ?_
    refine x_get (v := .ref (xz G + 38)) hC xf_X4_24 (xce_33 G kp _ _) rfl hR dX4_passOn_59 ?_
    refine lv_iload hC.1 hC.2.1 dX4_passOn_62 (lv_at hl 4 rfl) ?_
    refine x_ial hC (xce_38 G kp _ _) hR dX4_passOn_64 hf (fun v1 hf => ?_)
    refine lv_iconst (v := (-1)) hC.1 hC.2.1 dX4_passOn_65 (by decide) ?_
    refine x_ic_ne (tgt := 74) hC dX4_passOn_66 (by decide) hf (fun hf => ?_) (fun hf => ?_)
    · exact W_X4_passOn_j74 hC N hf _ _ _ hR hS (lv_sub hl [1, 2, 3, 4, 5, 6] rfl)
    · refine lv_iload hC.1 hC.2.1 dX4_passOn_69 (lv_at hl 5 rfl) ?_
      refine lv_goto (tgt := 81) hC.1 hC.2.1 dX4_passOn_71 (by decide) ?_
      exact W_X4_passOn_j81 hC N hf _ _ _ hR hS (lv_sub hl [1, 2, 3, 4, 5, 6] rfl)
set_option maxRecDepth 20000 in
theorem M_X4_passOn (G : XG) (l : Launch) (kp : Bool) (N : Nat) {I : xTI} {L : xTL} {x2 : Int32} {x3 : Int32} {x4 : Int32} {rI : xTI} (hf : F_X4_passOn N I x2 x3 x4 = some rI) : xMet G l yX4_passOn cX4_passOn 13 none 2 49 kp [.ref (xz G + 33), .ref (xz G + 1), .int x2, .int x3, .int x4] I L none rI L := by
  refine xMet.ofW (by decide +kernel) (Nat.le_of_ble_eq_true rfl) ?_
  intro p e s m args below meth c hC H locs ls hR hS hl
  replace hC : xC G p s m args meth c cX4_passOn 13 RX4 none := hC
  replace hl : lv_has ls 13 [(0, .ref (xz G + 33)), (1, .ref (xz G + 1)), (2, .int x2), (3, .int x3), (4, .int x4)] := hl
  unfold F_X4_passOn at hf
  refine lv_aload_n hC.1 hC.2.1 dX4_passOn_0 rfl (lv_at hl 0 rfl) ?_
  refine x_get (v := .ref (xz G + 35)) hC xf_X4_15 (xce_33 G kp _ _) rfl hR dX4_passOn_1 ?_
  refine lv_iload hC.1 hC.2.1 dX4_passOn_4 (lv_at hl 4 rfl) ?_
  refine x_ial hC (xce_35 G kp _ _) hR dX4_passOn_6 hf (fun v1 hf => ?_)
  refine lv_istore (lv' := [(5, .int v1), (0, .ref (xz G + 33)), (1, .ref (xz G + 1)), (2, .int x2), (3, .int x3), (4, .int x4)]) hC.1 hC.2.1 dX4_passOn_7 hl (Nat.le_of_ble_eq_true rfl) rfl (fun ls hl => ?_)
  refine lv_aload_n hC.1 hC.2.1 dX4_passOn_9 rfl (lv_at hl 1 rfl) ?_
  refine x_get (v := .ref (xz G + 37)) hC xf_X4_21 (xce_33 G kp _ _) rfl hR dX4_passOn_10 ?_
  refine lv_iload hC.1 hC.2.1 dX4_passOn_13 (lv_at hl 5 rfl) ?_
  refine x_ial hC (xce_37 G kp _ _) hR dX4_passOn_15 hf (fun v2 hf => ?_)
  refine lv_aload_n hC.1 hC.2.1 dX4_passOn_16 rfl (lv_at hl 2 rfl) ?_
  refine x_get (v := .ref (xz G + 3)) hC xf_X4_119 (xce_1 G kp _ _) rfl hR dX4_passOn_17 ?_
  refine W.eq (g2 := F0 m 20 ls [.ref (xz G + 3), .int v2]) rfl ?_
  refine x_get (v := .ref (xz G + 7)) hC xf_X4_123 (xce_3 G kp _ _) rfl hR dX4_passOn_20 ?_
  refine lv_iload hC.1 hC.2.1 dX4_passOn_23 (lv_at hl 0 rfl) ?_
  refine x_ial hC (xce_7 G kp _ _) hR dX4_passOn_25 hf (fun v3 hf => ?_)
  refine lv_iadd hC.1 hC.2.1 dX4_passOn_26 ?_
  refine x_ist (lv' := fun y4 => [(6, .int y4), (5, .int v1), (0, .ref (xz G + 33)), (1, .ref (xz G + 1)), (2, .int x2), (3, .int x3), (4, .int x4)]) hC hl dX4_passOn_27 (Nat.le_of_ble_eq_true rfl) hf (fun _ => rfl) (fun y4 hf ls hl => ?_)
  refine lv_aload_n hC.1 hC.2.1 dX4_passOn_29 rfl (lv_at hl 2 rfl) ?_
  refine x_get (v := .ref (xz G + 37)) hC xf_X4_21 (xce_33 G kp _ _) rfl hR dX4_passOn_30 ?_
  refine lv_iload hC.1 hC.2.1 dX4_passOn_33 (lv_at hl 6 rfl) ?_
  refine x_ial hC (xce_37 G kp _ _) hR dX4_passOn_35 hf (fun v5 hf => ?_)
  refine lv_iload_n hC.1 hC.2.1 dX4_passOn_36 rfl (lv_at hl 5 rfl) ?_
  refine x_ic_gt (tgt := 50) hC dX4_passOn_37 (by decide) hf (fun hf => ?_) (fun hf => ?_)
  · refine lv_iconst (v := 0) hC.1 hC.2.1 dX4_passOn_50 (by decide) ?_
    exact W_X4_passOn_j51 hC N hf _ _ _ hR hS (lv_sub hl [2, 3, 4, 6, 1, 0] rfl)
  · refine lv_iload hC.1 hC.2.1 dX4_passOn_40 (lv_at hl 0 rfl) ?_
    refine lv_iload_n hC.1 hC.2.1 dX4_passOn_42 rfl (lv_at hl 5 rfl) ?_
    refine x_ic_le (tgt := 50) hC dX4_passOn_43 (by decide) hf (fun hf => ?_) (fun hf => ?_)
    · refine lv_iconst (v := 0) hC.1 hC.2.1 dX4_passOn_50 (by decide) ?_
      exact W_X4_passOn_j51 hC N hf _ _ _ hR hS (lv_sub hl [2, 3, 4, 6, 1, 0] rfl)
    · refine lv_iconst (v := 1) hC.1 hC.2.1 dX4_passOn_46 (by decide) ?_
      refine lv_goto (tgt := 51) hC.1 hC.2.1 dX4_passOn_47 (by decide) ?_
      exact W_X4_passOn_j51 hC N hf _ _ _ hR hS (lv_sub hl [2, 3, 4, 6, 1, 0] rfl)
set_option maxRecDepth 20000 in
theorem W_X4_takeFirst_j113 {G : XG} {l : Launch} {kp : Bool} {p : Program} {e : Env} {s : State} {m : MethodId} {args : Array Value} {below : List Frame} {meth : Method} {c : Code} (hC : xC G p s m args meth c cX4_takeFirst 7 RX4 none) (N : Nat) {I : xTI} {L : xTL} {rI : xTI} {x2 : Int32} {x3 : Int32} {x4 : Int32} (hf : F_X4_takeFirst_j113 N I x2 x3 x4 = some rI) : ∀ (H : Heap) (locs : List Loc) (ls : Array Slot), xRep G kp I L H → xS G s.heap H locs → lv_has ls 7 [(0, .ref (xz G + 33)), (1, .ref (xz G + 1)), (2, .int x2), (3, .int x3), (4, .int x4)] → W p l e (xrm 3 81) s m args below meth c H locs 0 0 (xMQ G kp below args s none rI L) (F0 m 113 ls []) := by
  intro H locs ls hR hS hl
  unfold F_X4_takeFirst_j113 at hf
  refine lv_aload_n hC.1 hC.2.1 dX4_takeFirst_113 rfl (lv_at hl 0 rfl) ?_
  refine lv_aload_n hC.1 hC.2.1 dX4_takeFirst_114 rfl (lv_at hl 1 rfl) ?_
  refine lv_iload_n hC.1 hC.2.1 dX4_takeFirst_115 rfl (lv_at hl 2 rfl) ?_
  refine lv_iload_n hC.1 hC.2.1 dX4_takeFirst_116 rfl (lv_at hl 3 rfl) ?_
  refine lv_iload hC.1 hC.2.1 dX4_takeFirst_117 (lv_at hl 4 rfl) ?_
  refine x_cvv10 (rest := []) hC xy_X4_passOn tw_906 hf (fun _ h => M_X4_passOn G l kp N h) ⟨Nat.le_of_ble_eq_true rfl, Nat.le_of_ble_eq_true rfl⟩ (xce_33 G kp _ _) rfl rfl rfl (Nat.le_of_ble_eq_true rfl) hl.1 hR hS dX4_takeFirst_119 ⟨Nat.le_refl _, Nat.le_refl _⟩ (fun I1 hf H locs hR hS => ?_)
  have h9 := Option.some.inj hf
  subst h9
  exact x_vret hC hR hS dX4_takeFirst_122
set_option maxRecDepth 20000 in
theorem M_X4_takeFirst (G : XG) (l : Launch) (kp : Bool) (N : Nat) {I : xTI} {L : xTL} {x2 : Int32} {x3 : Int32} {rI : xTI} (hf : F_X4_takeFirst N I x2 x3 = some rI) : xMet G l yX4_takeFirst cX4_takeFirst 7 none 3 81 kp [.ref (xz G + 33), .ref (xz G + 1), .int x2, .int x3] I L none rI L := by
  refine xMet.ofW (by decide +kernel) (Nat.le_of_ble_eq_true rfl) ?_
  intro p e s m args below meth c hC H locs ls hR hS hl
  replace hC : xC G p s m args meth c cX4_takeFirst 7 RX4 none := hC
  replace hl : lv_has ls 7 [(0, .ref (xz G + 33)), (1, .ref (xz G + 1)), (2, .int x2), (3, .int x3)] := hl
  unfold F_X4_takeFirst at hf
  refine lv_aload_n hC.1 hC.2.1 dX4_takeFirst_0 rfl (lv_at hl 0 rfl) ?_
  refine x_getI hC xf_X4_93 (xce_33 G kp _ _) rfl hR dX4_takeFirst_1 hf (fun v1 hf => ?_)
  refine lv_istore (lv' := [(4, .int v1), (0, .ref (xz G + 33)), (1, .ref (xz G + 1)), (2, .int x2), (3, .int x3)]) hC.1 hC.2.1 dX4_takeFirst_4 hl (Nat.le_of_ble_eq_true rfl) rfl (fun ls hl => ?_)
  refine lv_aload_n hC.1 hC.2.1 dX4_takeFirst_6 rfl (lv_at hl 1 rfl) ?_
  refine lv_aload_n hC.1 hC.2.1 dX4_takeFirst_7 rfl (lv_at hl 1 rfl) ?_
  refine x_getI hC xf_X4_93 (xce_33 G kp _ _) rfl hR dX4_takeFirst_8 hf (fun v2 hf => ?_)
  refine lv_iconst (v := 1) hC.1 hC.2.1 dX4_takeFirst_11 (by decide) ?_
  refine lv_iadd hC.1 hC.2.1 dX4_takeFirst_12 ?_
  refine lv_bipush (v := 127) hC.1 hC.2.1 dX4_takeFirst_13 (by decide) ?_
  refine lv_iand hC.1 hC.2.1 dX4_takeFirst_15 ?_
  refine x_putI hC xf_X4_93 xp_4_5 (fun f => (xce_33 G kp f _)) rfl (Nat.le_of_ble_eq_true rfl) hR hS dX4_takeFirst_16 hf (fun I3 hf H locs hR hS => ?_)
  refine W.eq (g2 := F0 m 19 ls []) rfl ?_
  refine lv_aload_n hC.1 hC.2.1 dX4_takeFirst_19 rfl (lv_at hl 1 rfl) ?_
  refine lv_dup hC.1 hC.2.1 dX4_takeFirst_20 rfl ?_
  refine x_getI hC xf_X4_69 (xce_33 G kp _ _) rfl hR dX4_takeFirst_21 hf (fun v4 hf => ?_)
  refine lv_iconst (v := 1) hC.1 hC.2.1 dX4_takeFirst_24 (by decide) ?_
  refine lv_isub hC.1 hC.2.1 dX4_takeFirst_25 ?_
  refine x_putI hC xf_X4_69 xp_4_6 (fun f => (xce_33 G kp f _)) rfl (Nat.le_of_ble_eq_true rfl) hR hS dX4_takeFirst_26 hf (fun I5 hf H locs hR hS => ?_)
  refine lv_aload_n hC.1 hC.2.1 dX4_takeFirst_29 rfl (lv_at hl 1 rfl) ?_
  refine x_get (v := .ref (xz G + 35)) hC xf_X4_15 (xce_33 G kp _ _) rfl hR dX4_takeFirst_30 ?_
  refine lv_iload hC.1 hC.2.1 dX4_takeFirst_33 (lv_at hl 0 rfl) ?_
  refine x_ial hC (xce_35 G kp _ _) hR dX4_takeFirst_35 hf (fun v6 hf => ?_)
  refine lv_istore (lv' := [(5, .int v6), (4, .int v1), (0, .ref (xz G + 33)), (1, .ref (xz G + 1)), (2, .int x2), (3, .int x3)]) hC.1 hC.2.1 dX4_takeFirst_36 hl (Nat.le_of_ble_eq_true rfl) rfl (fun ls hl => ?_)
  refine lv_iload hC.1 hC.2.1 dX4_takeFirst_38 (lv_at hl 0 rfl) ?_
  refine W.eq (g2 := F0 m 40 ls [.int v6]) rfl ?_
  refine lv_aload_n hC.1 hC.2.1 dX4_takeFirst_40 rfl (lv_at hl 2 rfl) ?_
  refine x_get (v := .ref (xz G + 34)) hC xf_X4_11 (xce_33 G kp _ _) rfl hR dX4_takeFirst_41 ?_
  refine lv_iload hC.1 hC.2.1 dX4_takeFirst_44 (lv_at hl 1 rfl) ?_
  refine x_ial hC (xce_34 G kp _ _) hR dX4_takeFirst_46 hf (fun v7 hf => ?_)
  refine x_ic_eq (tgt := 113) hC dX4_takeFirst_47 (by decide) hf (fun hf => ?_) (fun hf => ?_)
  · exact W_X4_takeFirst_j113 hC N hf _ _ _ hR hS (lv_sub hl [2, 3, 4, 5, 1] rfl)
  · refine lv_aload_n hC.1 hC.2.1 dX4_takeFirst_50 rfl (lv_at hl 2 rfl) ?_
    refine x_get (v := .ref (xz G + 36)) hC xf_X4_18 (xce_33 G kp _ _) rfl hR dX4_takeFirst_51 ?_
    refine lv_iload hC.1 hC.2.1 dX4_takeFirst_54 (lv_at hl 1 rfl) ?_
    refine x_ial hC (xce_36 G kp _ _) hR dX4_takeFirst_56 hf (fun v8 hf => ?_)
    refine lv_aload_n hC.1 hC.2.1 dX4_takeFirst_57 rfl (lv_at hl 2 rfl) ?_
    refine x_get (v := .ref (xz G + 39)) hC xf_X4_27 (xce_33 G kp _ _) rfl hR dX4_takeFirst_58 ?_
    refine lv_iload hC.1 hC.2.1 dX4_takeFirst_61 (lv_at hl 0 rfl) ?_
    refine x_ial hC (xce_39 G kp _ _) hR dX4_takeFirst_63 hf (fun v9 hf => ?_)
    refine lv_ineg hC.1 hC.2.1 dX4_takeFirst_64 ?_
    refine lv_iconst (v := 0) hC.1 hC.2.1 dX4_takeFirst_65 (by decide) ?_
    refine x_mxi (rest := [.int v8]) hC tw_899 hl.1 (Nat.le_of_ble_eq_true rfl) (Nat.le_of_ble_eq_true rfl) dX4_takeFirst_66 ⟨Nat.le_refl _, Nat.le_refl _⟩ hf (fun v10 hf => ?_)
    refine W.eq (g2 := F0 m 69 ls [.int v10, .int v8]) rfl ?_
    refine x_mni (rest := []) hC tw_900 hl.1 (Nat.le_of_ble_eq_true rfl) (Nat.le_of_ble_eq_true rfl) dX4_takeFirst_69 ⟨Nat.le_refl _, Nat.le_refl _⟩ hf (fun v11 hf => ?_)
    refine lv_istore (lv' := [(6, .int v11), (5, .int v6), (4, .int v1), (0, .ref (xz G + 33)), (1, .ref (xz G + 1)), (2, .int x2), (3, .int x3)]) hC.1 hC.2.1 dX4_takeFirst_72 hl (Nat.le_of_ble_eq_true rfl) rfl (fun ls hl => ?_)
    refine lv_iload hC.1 hC.2.1 dX4_takeFirst_74 (lv_at hl 0 rfl) ?_
    refine x_if_le (tgt := 113) hC dX4_takeFirst_76 (by decide) hf (fun hf => ?_) (fun hf => ?_)
    · exact W_X4_takeFirst_j113 hC N hf _ _ _ hR hS (lv_sub hl [3, 4, 5, 6, 2] rfl)
    · refine lv_aload_n hC.1 hC.2.1 dX4_takeFirst_79 rfl (lv_at hl 3 rfl) ?_
      refine x_get (v := .ref (xz G + 39)) hC xf_X4_27 (xce_33 G kp _ _) rfl hR dX4_takeFirst_80 ?_
      refine lv_iload hC.1 hC.2.1 dX4_takeFirst_83 (lv_at hl 1 rfl) ?_
      refine lv_dup2_11 hC.1 hC.2.1 dX4_takeFirst_85 rfl rfl ?_
      refine x_ial hC (xce_39 G kp _ _) hR dX4_takeFirst_86 hf (fun v12 hf => ?_)
      refine lv_iload hC.1 hC.2.1 dX4_takeFirst_87 (lv_at hl 0 rfl) ?_
      refine lv_iadd hC.1 hC.2.1 dX4_takeFirst_89 ?_
      refine x_ias hC (fun f => (xce_39 G kp f _)) hR hS dX4_takeFirst_90 hf (fun I13 hf H locs hR hS => ?_)
      refine lv_aload_n hC.1 hC.2.1 dX4_takeFirst_91 rfl (lv_at hl 3 rfl) ?_
      refine x_get (v := .ref (xz G + 36)) hC xf_X4_18 (xce_33 G kp _ _) rfl hR dX4_takeFirst_92 ?_
      refine lv_iload hC.1 hC.2.1 dX4_takeFirst_95 (lv_at hl 2 rfl) ?_
      refine W.eq (g2 := F0 m 97 ls [.int v1, .ref (xz G + 36)]) rfl ?_
      refine lv_dup2_11 hC.1 hC.2.1 dX4_takeFirst_97 rfl rfl ?_
      refine x_ial hC (xce_36 G kp _ _) hR dX4_takeFirst_98 hf (fun v14 hf => ?_)
      refine lv_iload hC.1 hC.2.1 dX4_takeFirst_99 (lv_at hl 0 rfl) ?_
      refine lv_isub hC.1 hC.2.1 dX4_takeFirst_101 ?_
      refine x_ias hC (fun f => (xce_36 G kp f _)) hR hS dX4_takeFirst_102 hf (fun I15 hf H locs hR hS => ?_)
      refine lv_aload_n hC.1 hC.2.1 dX4_takeFirst_103 rfl (lv_at hl 3 rfl) ?_
      refine lv_aload_n hC.1 hC.2.1 dX4_takeFirst_104 rfl (lv_at hl 4 rfl) ?_
      refine lv_iload_n hC.1 hC.2.1 dX4_takeFirst_105 rfl (lv_at hl 5 rfl) ?_
      refine lv_iload hC.1 hC.2.1 dX4_takeFirst_106 (lv_at hl 2 rfl) ?_
      refine lv_iload hC.1 hC.2.1 dX4_takeFirst_108 (lv_at hl 0 rfl) ?_
      refine x_cvv10 (rest := []) hC xy_X4_noteDelivery tw_901 hf (fun _ h => M_X4_noteDelivery G l kp h) ⟨Nat.le_of_ble_eq_true rfl, Nat.le_of_ble_eq_true rfl⟩ (xce_33 G kp _ _) rfl rfl rfl (Nat.le_of_ble_eq_true rfl) hl.1 hR hS dX4_takeFirst_110 ⟨Nat.le_refl _, Nat.le_refl _⟩ (fun I16 hf H locs hR hS => ?_)
      exact W_X4_takeFirst_j113 hC N hf _ _ _ hR hS (lv_sub hl [3, 4, 5, 6, 2] rfl)
set_option maxRecDepth 20000 in
theorem W_X4_nameAccount_l54 {G : XG} {l : Launch} {kp : Bool} {p : Program} {e : Env} {s : State} {m : MethodId} {args : Array Value} {below : List Frame} {meth : Method} {c : Code} (hC : xC G p s m args meth c cX4_nameAccount 6 RX4 none) (N : Nat) {L : xTL} {rI : xTI} {x2 : Int32} {x3 : Int32} {x4 : Int32} (k23 : Int32 × xTI → Option (xTI)) (hk23 : ∀ (x3 : Int32) (I : xTI) , k23 (x3, I) = some rI → ∀ (H : Heap) (locs : List Loc) (ls : Array Slot), xRep G kp I L H → xS G s.heap H locs → lv_has ls 6 [(0, .ref (xz G + 33)), (1, .ref (xz G + 1)), (2, .int x2), (3, .int x3)] → W p l e (xrm 5 121) s m args below meth c H locs 0 0 (xMQ G kp below args s none rI L) (F0 m 23 ls [])) : ∀ (n : Nat) (x5 : Int32) (I : xTI) , xlp (F_X4_nameAccount_b54 k23 N x2 x3 x4 ) n (x5, I) = some rI → ∀ (H : Heap) (locs : List Loc) (ls : Array Slot), xRep G kp I L H → xS G s.heap H locs → lv_has ls 6 [(0, .ref (xz G + 33)), (1, .ref (xz G + 1)), (2, .int x2), (3, .int x3), (4, .int x4), (5, .int x5)] → W p l e (xrm 5 121) s m args below meth c H locs 0 0 (xMQ G kp below args s none rI L) (F0 m 54 ls []) := by
  intro n
  induction n with
  | zero =>
    intro x5 I hf
    cases hf
  | succ n hk54 =>
    intro x5 I hf H locs ls hR hS hl
    rw [xlp_s, E_X4_nameAccount_b54] at hf
    unfold F_X4_nameAccount_c54 at hf
    refine lv_iload hC.1 hC.2.1 dX4_nameAccount_54 (lv_at hl 5 rfl) ?_
    refine lv_sipush (v := 5952) hC.1 hC.2.1 dX4_nameAccount_56 (by decide) ?_
    refine x_ic_ge (tgt := 83) hC dX4_nameAccount_59 (by decide) hf (fun hf => ?_) (fun hf => ?_)
    · refine x_iinc (d := 1) (lv' := fun y1 => [(3, .int y1), (0, .ref (xz G + 33)), (1, .ref (xz G + 1)), (2, .int x2), (4, .int x4), (5, .int x5)]) (k := 3) hC hl dX4_nameAccount_83 rfl (by decide) (Nat.le_of_ble_eq_true rfl) hf (fun _ => rfl) (fun y1 hf ls hl => ?_)
      refine lv_goto (tgt := 23) hC.1 hC.2.1 dX4_nameAccount_86 (by decide) ?_
      exact hk23 y1 I hf _ _ _ hR hS (lv_sub hl [1, 2, 3, 0] rfl)
    · refine lv_aload_n hC.1 hC.2.1 dX4_nameAccount_62 rfl (lv_at hl 0 rfl) ?_
      refine x_getI hC xf_X4_69 (xce_33 G kp _ _) rfl hR dX4_nameAccount_63 hf (fun v2 hf => ?_)
      refine x_if_le (tgt := 83) hC dX4_nameAccount_66 (by decide) hf (fun hf => ?_) (fun hf => ?_)
      · refine x_iinc (d := 1) (lv' := fun y3 => [(3, .int y3), (0, .ref (xz G + 33)), (1, .ref (xz G + 1)), (2, .int x2), (4, .int x4), (5, .int x5)]) (k := 3) hC hl dX4_nameAccount_83 rfl (by decide) (Nat.le_of_ble_eq_true rfl) hf (fun _ => rfl) (fun y3 hf ls hl => ?_)
        refine lv_goto (tgt := 23) hC.1 hC.2.1 dX4_nameAccount_86 (by decide) ?_
        exact hk23 y3 I hf _ _ _ hR hS (lv_sub hl [1, 2, 3, 0] rfl)
      · refine lv_aload_n hC.1 hC.2.1 dX4_nameAccount_69 rfl (lv_at hl 0 rfl) ?_
        refine lv_aload_n hC.1 hC.2.1 dX4_nameAccount_70 rfl (lv_at hl 1 rfl) ?_
        refine lv_iload_n hC.1 hC.2.1 dX4_nameAccount_71 rfl (lv_at hl 3 rfl) ?_
        refine lv_iload hC.1 hC.2.1 dX4_nameAccount_72 (lv_at hl 4 rfl) ?_
        refine x_cvv10 (rest := []) hC xy_X4_takeFirst tw_895 hf (fun _ h => M_X4_takeFirst G l kp N h) ⟨Nat.le_of_ble_eq_true rfl, Nat.le_of_ble_eq_true rfl⟩ (xce_33 G kp _ _) rfl rfl rfl (Nat.le_of_ble_eq_true rfl) hl.1 hR hS dX4_nameAccount_74 ⟨Nat.le_refl _, Nat.le_refl _⟩ (fun I4 hf H locs hR hS => ?_)
        refine x_iinc (d := 1) (lv' := fun y5 => [(5, .int y5), (0, .ref (xz G + 33)), (1, .ref (xz G + 1)), (2, .int x2), (3, .int x3), (4, .int x4)]) (k := 5) hC hl dX4_nameAccount_77 rfl (by decide) (Nat.le_of_ble_eq_true rfl) hf (fun _ => rfl) (fun y5 hf ls hl => ?_)
        refine lv_goto (tgt := 54) hC.1 hC.2.1 dX4_nameAccount_80 (by decide) ?_
        exact hk54 y5 I4 hf _ _ _ hR hS (lv_sub hl [1, 2, 3, 4, 5, 0] rfl)
set_option maxRecDepth 20000 in
theorem W_X4_nameAccount_l23 {G : XG} {l : Launch} {kp : Bool} {p : Program} {e : Env} {s : State} {m : MethodId} {args : Array Value} {below : List Frame} {meth : Method} {c : Code} (hC : xC G p s m args meth c cX4_nameAccount 6 RX4 none) (N : Nat) {L : xTL} {rI : xTI} {x2 : Int32} : ∀ (n : Nat) (x3 : Int32) (I : xTI) , xlp (F_X4_nameAccount_b23 N x2 ) n (x3, I) = some rI → ∀ (H : Heap) (locs : List Loc) (ls : Array Slot), xRep G kp I L H → xS G s.heap H locs → lv_has ls 6 [(0, .ref (xz G + 33)), (1, .ref (xz G + 1)), (2, .int x2), (3, .int x3)] → W p l e (xrm 5 121) s m args below meth c H locs 0 0 (xMQ G kp below args s none rI L) (F0 m 23 ls []) := by
  intro n
  induction n with
  | zero =>
    intro x3 I hf
    cases hf
  | succ n hk23 =>
    intro x3 I hf H locs ls hR hS hl
    rw [xlp_s, E_X4_nameAccount_b23] at hf
    unfold F_X4_nameAccount_c23 at hf
    refine lv_iload_n hC.1 hC.2.1 dX4_nameAccount_23 rfl (lv_at hl 3 rfl) ?_
    refine lv_aload_n hC.1 hC.2.1 dX4_nameAccount_24 rfl (lv_at hl 1 rfl) ?_
    refine x_getI hC xf_X4_52 (xce_1 G kp _ _) rfl hR dX4_nameAccount_25 hf (fun v1 hf => ?_)
    refine x_ic_ge (tgt := 89) hC dX4_nameAccount_28 (by decide) hf (fun hf => ?_) (fun hf => ?_)
    · have h9 := Option.some.inj hf
      subst h9
      exact x_vret hC hR hS dX4_nameAccount_89
    · refine lv_aload_n hC.1 hC.2.1 dX4_nameAccount_31 rfl (lv_at hl 0 rfl) ?_
      refine lv_aload_n hC.1 hC.2.1 dX4_nameAccount_32 rfl (lv_at hl 1 rfl) ?_
      refine lv_iload_n hC.1 hC.2.1 dX4_nameAccount_33 rfl (lv_at hl 3 rfl) ?_
      refine lv_iload_n hC.1 hC.2.1 dX4_nameAccount_34 rfl (lv_at hl 2 rfl) ?_
      refine x_cvv10 (rest := []) hC xy_X4_layOut tw_879 hf (fun _ h => M_X4_layOut G l kp N h) ⟨Nat.le_of_ble_eq_true rfl, Nat.le_of_ble_eq_true rfl⟩ (xce_33 G kp _ _) rfl rfl rfl (Nat.le_of_ble_eq_true rfl) hl.1 hR hS dX4_nameAccount_35 ⟨Nat.le_refl _, Nat.le_refl _⟩ (fun I2 hf H locs hR hS => ?_)
      refine lv_aload_n hC.1 hC.2.1 dX4_nameAccount_38 rfl (lv_at hl 1 rfl) ?_
      refine x_get (v := .ref (xz G + 14)) hC xf_X4_59 (xce_1 G kp _ _) rfl hR dX4_nameAccount_39 ?_
      refine lv_iconst (v := 1) hC.1 hC.2.1 dX4_nameAccount_42 (by decide) ?_
      refine lv_aload_n hC.1 hC.2.1 dX4_nameAccount_43 rfl (lv_at hl 1 rfl) ?_
      refine lv_iload_n hC.1 hC.2.1 dX4_nameAccount_44 rfl (lv_at hl 3 rfl) ?_
      refine lv_iconst (v := (-1)) hC.1 hC.2.1 dX4_nameAccount_45 (by decide) ?_
      refine W.eq (g2 := F0 m 46 ls [.int (-1), .int x3, .ref (xz G + 1), .int 1, .ref (xz G + 14)]) rfl ?_
      refine x_cvi10 (rest := []) hC xy_X5_tells tw_894 hf (fun _ _ h => M_X5_tells G l kp N h) ⟨Nat.le_of_ble_eq_true rfl, Nat.le_of_ble_eq_true rfl⟩ (xce_14 G kp _ _) rfl rfl rfl (Nat.le_of_ble_eq_true rfl) hl.1 hR hS dX4_nameAccount_46 ⟨Nat.le_refl _, Nat.le_refl _⟩ (fun v3 I4 hf H locs hR hS => ?_)
      refine lv_istore (lv' := [(4, .int v3), (0, .ref (xz G + 33)), (1, .ref (xz G + 1)), (2, .int x2), (3, .int x3)]) hC.1 hC.2.1 dX4_nameAccount_49 hl (Nat.le_of_ble_eq_true rfl) rfl (fun ls hl => ?_)
      refine lv_iconst (v := 0) hC.1 hC.2.1 dX4_nameAccount_51 (by decide) ?_
      refine lv_istore (lv' := [(5, .int 0), (4, .int v3), (0, .ref (xz G + 33)), (1, .ref (xz G + 1)), (2, .int x2), (3, .int x3)]) hC.1 hC.2.1 dX4_nameAccount_52 hl (Nat.le_of_ble_eq_true rfl) rfl (fun ls hl => ?_)
      exact W_X4_nameAccount_l54 hC N _ hk23 _ 0 I4 hf _ _ _ hR hS (lv_sub hl [2, 3, 4, 5, 1, 0] rfl)
set_option maxRecDepth 20000 in
theorem M_X4_nameAccount (G : XG) (l : Launch) (kp : Bool) (N : Nat) {I : xTI} {L : xTL} {x2 : Int32} {rI : xTI} (hf : F_X4_nameAccount N I x2 = some rI) : xMet G l yX4_nameAccount cX4_nameAccount 6 none 5 121 kp [.ref (xz G + 33), .ref (xz G + 1), .int x2] I L none rI L := by
  refine xMet.ofW (by decide +kernel) (Nat.le_of_ble_eq_true rfl) ?_
  intro p e s m args below meth c hC H locs ls hR hS hl
  replace hC : xC G p s m args meth c cX4_nameAccount 6 RX4 none := hC
  replace hl : lv_has ls 6 [(0, .ref (xz G + 33)), (1, .ref (xz G + 1)), (2, .int x2)] := hl
  unfold F_X4_nameAccount at hf
  refine lv_aload_n hC.1 hC.2.1 dX4_nameAccount_0 rfl (lv_at hl 1 rfl) ?_
  refine lv_iconst (v := 1) hC.1 hC.2.1 dX4_nameAccount_1 (by decide) ?_
  refine x_putZ hC xf_X4_33 xp_1_11 (fun f => (xce_1 G kp f _)) rfl (Nat.le_of_ble_eq_true rfl) hR hS dX4_nameAccount_2 hf (fun I1 hf H locs hR hS => ?_)
  refine lv_aload_n hC.1 hC.2.1 dX4_nameAccount_5 rfl (lv_at hl 1 rfl) ?_
  refine x_get (v := .ref (xz G + 24)) hC xf_X4_39 (xce_1 G kp _ _) rfl hR dX4_nameAccount_6 ?_
  refine lv_iconst (v := 0) hC.1 hC.2.1 dX4_nameAccount_9 (by decide) ?_
  refine x_putI hC xf_X4_43 xp_8_3 (fun f => (xce_24 G kp f _)) rfl (Nat.le_of_ble_eq_true rfl) hR hS dX4_nameAccount_10 hf (fun I2 hf H locs hR hS => ?_)
  refine lv_aload_n hC.1 hC.2.1 dX4_nameAccount_13 rfl (lv_at hl 1 rfl) ?_
  refine x_get (v := .ref (xz G + 26)) hC xf_X4_49 (xce_1 G kp _ _) rfl hR dX4_nameAccount_14 ?_
  refine lv_iconst (v := 0) hC.1 hC.2.1 dX4_nameAccount_17 (by decide) ?_
  refine x_putI hC xf_X4_43 xp_8_3 (fun f => (xce_26 G kp f _)) rfl (Nat.le_of_ble_eq_true rfl) hR hS dX4_nameAccount_18 hf (fun I3 hf H locs hR hS => ?_)
  refine W.eq (g2 := F0 m 21 ls []) rfl ?_
  refine lv_iconst (v := 0) hC.1 hC.2.1 dX4_nameAccount_21 (by decide) ?_
  refine lv_istore_n (lv' := [(3, .int 0), (0, .ref (xz G + 33)), (1, .ref (xz G + 1)), (2, .int x2)]) hC.1 hC.2.1 dX4_nameAccount_22 rfl hl (Nat.le_of_ble_eq_true rfl) rfl (fun ls hl => ?_)
  exact W_X4_nameAccount_l23 hC N _ 0 I3 hf _ _ _ hR hS (lv_sub hl [1, 2, 3, 0] rfl)
