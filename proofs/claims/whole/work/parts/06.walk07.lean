set_option maxRecDepth 20000 in
theorem W_J7_fill_d0a16_42_l6 {G : XG} {l : Launch} {kp : Bool} {p : Program} {e : Env} {s : State} {m : MethodId} {args : Array Value} {below : List Frame} {meth : Method} {c : Code} (hC : xC G p s m args meth c cJ7_fill_d0a16 5 RJ7 none) (N : Nat) {I : xTI} {rL : xTL} {x1 : Int64} {x4 : Int32} : ∀ (n : Nat) (x3 : Int32) (L : xTL) , xlp (F_J7_fill_d0a16_42_b6 N x1 x4 ) n (x3, L) = some rL → ∀ (H : Heap) (locs : List Loc) (ls : Array Slot), xRep G kp I L H → xS G s.heap H locs → lv_has ls 5 [(0, .ref (xz G + 42)), (1, .long x1), (3, .int x3), (4, .int x4)] → W p l e (xrm 0 0) s m args below meth c H locs 0 0 (xMQ G kp below args s none I rL) (F0 m 6 ls []) := by
  intro n
  induction n with
  | zero =>
    intro x3 L hf
    cases hf
  | succ n hk6 =>
    intro x3 L hf H locs ls hR hS hl
    rw [xlp_s, E_J7_fill_d0a16_42_b6] at hf
    unfold F_J7_fill_d0a16_42_c6 at hf
    refine lv_iload_n hC.1 hC.2.1 dJ7_fill_d0a16_6 rfl (lv_at hl 2 rfl) ?_
    refine lv_iload hC.1 hC.2.1 dJ7_fill_d0a16_7 (lv_at hl 3 rfl) ?_
    refine x_ic_ge (tgt := 22) hC dJ7_fill_d0a16_9 (by decide) hf (fun hf => ?_) (fun hf => ?_)
    · have h9 := Option.some.inj hf
      subst h9
      exact x_vret hC hR hS dJ7_fill_d0a16_22
    · refine lv_aload_n hC.1 hC.2.1 dJ7_fill_d0a16_12 rfl (lv_at hl 0 rfl) ?_
      refine lv_iload_n hC.1 hC.2.1 dJ7_fill_d0a16_13 rfl (lv_at hl 2 rfl) ?_
      refine lv_lload_n hC.1 hC.2.1 dJ7_fill_d0a16_14 rfl (lv_at hl 1 rfl) ?_
      refine x_las hC (fun f => (xce_42 G kp _ f)) hR hS dJ7_fill_d0a16_15 hf (fun L1 hf H locs hR hS => ?_)
      refine x_iinc (d := 1) (lv' := fun y2 => [(3, .int y2), (0, .ref (xz G + 42)), (1, .long x1), (4, .int x4)]) (k := 2) hC hl dJ7_fill_d0a16_16 rfl (by decide) (Nat.le_of_ble_eq_true rfl) hf (fun _ => rfl) (fun y2 hf ls hl => ?_)
      refine lv_goto (tgt := 6) hC.1 hC.2.1 dJ7_fill_d0a16_19 (by decide) ?_
      exact hk6 y2 L1 hf _ _ _ hR hS (lv_sub hl [1, 2, 0, 3] rfl)
set_option maxRecDepth 20000 in
theorem M_J7_fill_d0a16_42 (G : XG) (l : Launch) (kp : Bool) (N : Nat) {I : xTI} {L : xTL} {x1 : Int64} {rL : xTL} (hf : F_J7_fill_d0a16_42 N L x1 = some rL) : xMet G l yJ7_fill_d0a16 cJ7_fill_d0a16 5 none 0 0 kp [.ref (xz G + 42), .long x1] I L none I rL := by
  refine xMet.ofW (by decide +kernel) (Nat.le_of_ble_eq_true rfl) ?_
  intro p e s m args below meth c hC H locs ls hR hS hl
  replace hC : xC G p s m args meth c cJ7_fill_d0a16 5 RJ7 none := hC
  replace hl : lv_has ls 5 [(0, .ref (xz G + 42)), (1, .long x1)] := hl
  unfold F_J7_fill_d0a16_42 at hf
  refine lv_iconst (v := 0) hC.1 hC.2.1 dJ7_fill_d0a16_0 (by decide) ?_
  refine lv_istore_n (lv' := [(3, .int 0), (0, .ref (xz G + 42)), (1, .long x1)]) hC.1 hC.2.1 dJ7_fill_d0a16_1 rfl hl (Nat.le_of_ble_eq_true rfl) rfl (fun ls hl => ?_)
  refine lv_aload_n hC.1 hC.2.1 dJ7_fill_d0a16_2 rfl (lv_at hl 1 rfl) ?_
  refine x_alen_l (v := 156) hC (xce_42 G kp _ _) rfl hR dJ7_fill_d0a16_3 ?_
  refine lv_istore (lv' := [(4, .int 156), (3, .int 0), (0, .ref (xz G + 42)), (1, .long x1)]) hC.1 hC.2.1 dJ7_fill_d0a16_4 hl (Nat.le_of_ble_eq_true rfl) rfl (fun ls hl => ?_)
  exact W_J7_fill_d0a16_42_l6 hC N _ 0 L hf _ _ _ hR hS (lv_sub hl [2, 3, 1, 0] rfl)
set_option maxRecDepth 20000 in
theorem W_J7_fill_d0a16_28_l6 {G : XG} {l : Launch} {kp : Bool} {p : Program} {e : Env} {s : State} {m : MethodId} {args : Array Value} {below : List Frame} {meth : Method} {c : Code} (hC : xC G p s m args meth c cJ7_fill_d0a16 5 RJ7 none) (N : Nat) {I : xTI} {rL : xTL} {x1 : Int64} {x4 : Int32} : ∀ (n : Nat) (x3 : Int32) (L : xTL) , xlp (F_J7_fill_d0a16_28_b6 N x1 x4 ) n (x3, L) = some rL → ∀ (H : Heap) (locs : List Loc) (ls : Array Slot), xRep G kp I L H → xS G s.heap H locs → lv_has ls 5 [(0, .ref (xz G + 28)), (1, .long x1), (3, .int x3), (4, .int x4)] → W p l e (xrm 0 0) s m args below meth c H locs 0 0 (xMQ G kp below args s none I rL) (F0 m 6 ls []) := by
  intro n
  induction n with
  | zero =>
    intro x3 L hf
    cases hf
  | succ n hk6 =>
    intro x3 L hf H locs ls hR hS hl
    rw [xlp_s, E_J7_fill_d0a16_28_b6] at hf
    unfold F_J7_fill_d0a16_28_c6 at hf
    refine lv_iload_n hC.1 hC.2.1 dJ7_fill_d0a16_6 rfl (lv_at hl 2 rfl) ?_
    refine lv_iload hC.1 hC.2.1 dJ7_fill_d0a16_7 (lv_at hl 3 rfl) ?_
    refine x_ic_ge (tgt := 22) hC dJ7_fill_d0a16_9 (by decide) hf (fun hf => ?_) (fun hf => ?_)
    · have h9 := Option.some.inj hf
      subst h9
      exact x_vret hC hR hS dJ7_fill_d0a16_22
    · refine lv_aload_n hC.1 hC.2.1 dJ7_fill_d0a16_12 rfl (lv_at hl 0 rfl) ?_
      refine lv_iload_n hC.1 hC.2.1 dJ7_fill_d0a16_13 rfl (lv_at hl 2 rfl) ?_
      refine lv_lload_n hC.1 hC.2.1 dJ7_fill_d0a16_14 rfl (lv_at hl 1 rfl) ?_
      refine x_las hC (fun f => (xce_28 G kp _ f)) hR hS dJ7_fill_d0a16_15 hf (fun L1 hf H locs hR hS => ?_)
      refine x_iinc (d := 1) (lv' := fun y2 => [(3, .int y2), (0, .ref (xz G + 28)), (1, .long x1), (4, .int x4)]) (k := 2) hC hl dJ7_fill_d0a16_16 rfl (by decide) (Nat.le_of_ble_eq_true rfl) hf (fun _ => rfl) (fun y2 hf ls hl => ?_)
      refine lv_goto (tgt := 6) hC.1 hC.2.1 dJ7_fill_d0a16_19 (by decide) ?_
      exact hk6 y2 L1 hf _ _ _ hR hS (lv_sub hl [1, 2, 0, 3] rfl)
set_option maxRecDepth 20000 in
theorem M_J7_fill_d0a16_28 (G : XG) (l : Launch) (kp : Bool) (N : Nat) {I : xTI} {L : xTL} {x1 : Int64} {rL : xTL} (hf : F_J7_fill_d0a16_28 N L x1 = some rL) : xMet G l yJ7_fill_d0a16 cJ7_fill_d0a16 5 none 0 0 kp [.ref (xz G + 28), .long x1] I L none I rL := by
  refine xMet.ofW (by decide +kernel) (Nat.le_of_ble_eq_true rfl) ?_
  intro p e s m args below meth c hC H locs ls hR hS hl
  replace hC : xC G p s m args meth c cJ7_fill_d0a16 5 RJ7 none := hC
  replace hl : lv_has ls 5 [(0, .ref (xz G + 28)), (1, .long x1)] := hl
  unfold F_J7_fill_d0a16_28 at hf
  refine lv_iconst (v := 0) hC.1 hC.2.1 dJ7_fill_d0a16_0 (by decide) ?_
  refine lv_istore_n (lv' := [(3, .int 0), (0, .ref (xz G + 28)), (1, .long x1)]) hC.1 hC.2.1 dJ7_fill_d0a16_1 rfl hl (Nat.le_of_ble_eq_true rfl) rfl (fun ls hl => ?_)
  refine lv_aload_n hC.1 hC.2.1 dJ7_fill_d0a16_2 rfl (lv_at hl 1 rfl) ?_
  refine x_alen_l (v := 60) hC (xce_28 G kp _ _) rfl hR dJ7_fill_d0a16_3 ?_
  refine lv_istore (lv' := [(4, .int 60), (3, .int 0), (0, .ref (xz G + 28)), (1, .long x1)]) hC.1 hC.2.1 dJ7_fill_d0a16_4 hl (Nat.le_of_ble_eq_true rfl) rfl (fun ls hl => ?_)
  exact W_J7_fill_d0a16_28_l6 hC N _ 0 L hf _ _ _ hR hS (lv_sub hl [2, 3, 1, 0] rfl)
set_option maxRecDepth 20000 in
theorem M_X0_standsFor (G : XG) (l : Launch) (kp : Bool) {I : xTI} {L : xTL} {x1 : Int32} {x2 : Int32} {r : Int32} (hf : F_X0_standsFor I x1 x2 = some r) : xMet G l yX0_standsFor cX0_standsFor 3 (some .boolean) 1 23 kp [.ref (xz G + 11), .int x1, .int x2] I L (some (.int r)) I L := by
  refine xMet.ofW (by decide +kernel) (Nat.le_of_ble_eq_true rfl) ?_
  intro p e s m args below meth c hC H locs ls hR hS hl
  replace hC : xC G p s m args meth c cX0_standsFor 3 RX0 (some .boolean) := hC
  replace hl : lv_has ls 3 [(0, .ref (xz G + 11)), (1, .int x1), (2, .int x2)] := hl
  unfold F_X0_standsFor at hf
  refine lv_aload_n hC.1 hC.2.1 dX0_standsFor_0 rfl (lv_at hl 0 rfl) ?_
  refine x_get (v := .ref (xz G + 12)) hC xf_X0_16 (xce_11 G kp _ _) rfl hR dX0_standsFor_1 ?_
  refine lv_iload_n hC.1 hC.2.1 dX0_standsFor_4 rfl (lv_at hl 1 rfl) ?_
  refine lv_bipush (v := 7) hC.1 hC.2.1 dX0_standsFor_5 (by decide) ?_
  refine x_cvi00 (rest := []) hC xy_X8_at tw_462 hf (fun _ h => M_X8_at_12 G l kp h) ⟨Nat.le_of_ble_eq_true rfl, Nat.le_of_ble_eq_true rfl⟩ (xce_12 G kp _ _) rfl rfl rfl (Nat.le_of_ble_eq_true rfl) hl.1 hR hS dX0_standsFor_7 ⟨Nat.le_refl _, Nat.le_refl _⟩ (fun v1 hf H locs hR hS => ?_)
  refine lv_iconst (v := 1) hC.1 hC.2.1 dX0_standsFor_10 (by decide) ?_
  refine x_ic_ne (tgt := 32) hC dX0_standsFor_11 (by decide) hf (fun hf => ?_) (fun hf => ?_)
  · refine lv_iconst (v := 0) hC.1 hC.2.1 dX0_standsFor_32 (by decide) ?_
    obtain ⟨h01, hf⟩ := xzc_some hf
    have h9 := Option.some.inj hf
    subst h9
    exact x_zret h01 hC hR hS dX0_standsFor_33
  · refine lv_aload_n hC.1 hC.2.1 dX0_standsFor_14 rfl (lv_at hl 0 rfl) ?_
    refine x_get (v := .ref (xz G + 12)) hC xf_X0_16 (xce_11 G kp _ _) rfl hR dX0_standsFor_15 ?_
    refine lv_iload_n hC.1 hC.2.1 dX0_standsFor_18 rfl (lv_at hl 1 rfl) ?_
    refine lv_bipush (v := 6) hC.1 hC.2.1 dX0_standsFor_19 (by decide) ?_
    refine x_cvi00 (rest := []) hC xy_X8_at tw_462 hf (fun _ h => M_X8_at_12 G l kp h) ⟨Nat.le_of_ble_eq_true rfl, Nat.le_of_ble_eq_true rfl⟩ (xce_12 G kp _ _) rfl rfl rfl (Nat.le_of_ble_eq_true rfl) hl.1 hR hS dX0_standsFor_21 ⟨Nat.le_refl _, Nat.le_refl _⟩ (fun v2 hf H locs hR hS => ?_)
    refine lv_iload_n hC.1 hC.2.1 dX0_standsFor_24 rfl (lv_at hl 2 rfl) ?_
    refine x_ic_ne (tgt := 32) hC dX0_standsFor_25 (by decide) hf (fun hf => ?_) (fun hf => ?_)
    · refine lv_iconst (v := 0) hC.1 hC.2.1 dX0_standsFor_32 (by decide) ?_
      obtain ⟨h01, hf⟩ := xzc_some hf
      have h9 := Option.some.inj hf
      subst h9
      exact x_zret h01 hC hR hS dX0_standsFor_33
    · refine lv_iconst (v := 1) hC.1 hC.2.1 dX0_standsFor_28 (by decide) ?_
      refine lv_goto (tgt := 33) hC.1 hC.2.1 dX0_standsFor_29 (by decide) ?_
      obtain ⟨h01, hf⟩ := xzc_some hf
      have h9 := Option.some.inj hf
      subst h9
      exact x_zret h01 hC hR hS dX0_standsFor_33
set_option maxRecDepth 20000 in
theorem M_X6_owe (G : XG) (l : Launch) (kp : Bool) {I : xTI} {L : xTL} {x1 : Int32} {x2 : Int32} {x3 : Int64} {rL : xTL} (hf : F_X6_owe L x1 x2 x3 = some rL) : xMet G l yX6_owe cX6_owe 5 none 0 0 kp [.ref (xz G + 41), .int x1, .int x2, .long x3] I L none I rL := by
  refine xMet.ofW (by decide +kernel) (Nat.le_of_ble_eq_true rfl) ?_
  intro p e s m args below meth c hC H locs ls hR hS hl
  replace hC : xC G p s m args meth c cX6_owe 5 RX6 none := hC
  replace hl : lv_has ls 5 [(0, .ref (xz G + 41)), (1, .int x1), (2, .int x2), (3, .long x3)] := hl
  unfold F_X6_owe at hf
  refine lv_iload_n hC.1 hC.2.1 dX6_owe_0 rfl (lv_at hl 1 rfl) ?_
  refine lv_iload_n hC.1 hC.2.1 dX6_owe_1 rfl (lv_at hl 2 rfl) ?_
  refine x_ic_eq (tgt := 20) hC dX6_owe_2 (by decide) hf (fun hf => ?_) (fun hf => ?_)
  · have h9 := Option.some.inj hf
    subst h9
    exact x_vret hC hR hS dX6_owe_20
  · refine lv_aload_n hC.1 hC.2.1 dX6_owe_5 rfl (lv_at hl 0 rfl) ?_
    refine x_get (v := .ref (xz G + 42)) hC xf_X6_11 (xce_41 G kp _ _) rfl hR dX6_owe_6 ?_
    refine lv_iload_n hC.1 hC.2.1 dX6_owe_9 rfl (lv_at hl 1 rfl) ?_
    refine lv_bipush (v := 13) hC.1 hC.2.1 dX6_owe_10 (by decide) ?_
    refine lv_imul hC.1 hC.2.1 dX6_owe_12 ?_
    refine lv_iload_n hC.1 hC.2.1 dX6_owe_13 rfl (lv_at hl 2 rfl) ?_
    refine lv_iadd hC.1 hC.2.1 dX6_owe_14 ?_
    refine lv_dup2_11 hC.1 hC.2.1 dX6_owe_15 rfl rfl ?_
    refine x_lal hC (xce_42 G kp _ _) hR dX6_owe_16 hf (fun v1 hf => ?_)
    refine lv_lload_n hC.1 hC.2.1 dX6_owe_17 rfl (lv_at hl 3 rfl) ?_
    refine lv_ladd hC.1 hC.2.1 dX6_owe_18 ?_
    refine W.eq (g2 := F0 m 19 ls [.long (v1 + x3), .int ((x1 * 13) + x2), .ref (xz G + 42)]) rfl ?_
    refine x_las hC (fun f => (xce_42 G kp _ f)) hR hS dX6_owe_19 hf (fun L2 hf H locs hR hS => ?_)
    have h9 := Option.some.inj hf
    subst h9
    exact x_vret hC hR hS dX6_owe_20
set_option maxRecDepth 20000 in
theorem W_X6_oweDifferences_l8 {G : XG} {l : Launch} {kp : Bool} {p : Program} {e : Env} {s : State} {m : MethodId} {args : Array Value} {below : List Frame} {meth : Method} {c : Code} (hC : xC G p s m args meth c cX6_oweDifferences 6 RX6 none) (N : Nat) {I : xTI} {rL : xTL} {x2 : Int32} : ∀ (n : Nat) (x4 : Int32) (L : xTL) , xlp (F_X6_oweDifferences_b8 N I x2 ) n (x4, L) = some rL → ∀ (H : Heap) (locs : List Loc) (ls : Array Slot), xRep G kp I L H → xS G s.heap H locs → lv_has ls 6 [(0, .ref (xz G + 41)), (1, .ref (xz G + 1)), (2, .int x2), (3, .ref (xz G + 11)), (4, .int x4)] → W p l e (xrm 2 45) s m args below meth c H locs 0 0 (xMQ G kp below args s none I rL) (F0 m 8 ls []) := by
  intro n
  induction n with
  | zero =>
    intro x4 L hf
    cases hf
  | succ n hk8 =>
    intro x4 L hf H locs ls hR hS hl
    rw [xlp_s, E_X6_oweDifferences_b8] at hf
    unfold F_X6_oweDifferences_c8 at hf
    refine lv_iload hC.1 hC.2.1 dX6_oweDifferences_8 (lv_at hl 4 rfl) ?_
    refine lv_bipush (v := 60) hC.1 hC.2.1 dX6_oweDifferences_10 (by decide) ?_
    refine x_ic_ge (tgt := 83) hC dX6_oweDifferences_12 (by decide) hf (fun hf => ?_) (fun hf => ?_)
    · have h9 := Option.some.inj hf
      subst h9
      exact x_vret hC hR hS dX6_oweDifferences_83
    · refine lv_aload_n hC.1 hC.2.1 dX6_oweDifferences_15 rfl (lv_at hl 3 rfl) ?_
      refine lv_iload hC.1 hC.2.1 dX6_oweDifferences_16 (lv_at hl 4 rfl) ?_
      refine lv_iload_n hC.1 hC.2.1 dX6_oweDifferences_18 rfl (lv_at hl 2 rfl) ?_
      refine x_cvi00 (rest := []) hC xy_X0_standsFor tw_925 hf (fun _ h => M_X0_standsFor G l kp h) ⟨Nat.le_of_ble_eq_true rfl, Nat.le_of_ble_eq_true rfl⟩ (xce_11 G kp _ _) rfl rfl rfl (Nat.le_of_ble_eq_true rfl) hl.1 hR hS dX6_oweDifferences_19 ⟨Nat.le_refl _, Nat.le_refl _⟩ (fun v1 hf H locs hR hS => ?_)
      refine x_if_eq (tgt := 77) hC dX6_oweDifferences_22 (by decide) hf (fun hf => ?_) (fun hf => ?_)
      · refine x_iinc (d := 1) (lv' := fun y2 => [(4, .int y2), (0, .ref (xz G + 41)), (1, .ref (xz G + 1)), (2, .int x2), (3, .ref (xz G + 11))]) (k := 4) hC hl dX6_oweDifferences_77 rfl (by decide) (Nat.le_of_ble_eq_true rfl) hf (fun _ => rfl) (fun y2 hf ls hl => ?_)
        refine lv_goto (tgt := 8) hC.1 hC.2.1 dX6_oweDifferences_80 (by decide) ?_
        exact hk8 y2 L hf _ _ _ hR hS (lv_sub hl [1, 2, 3, 4, 0] rfl)
      · refine lv_aload_n hC.1 hC.2.1 dX6_oweDifferences_25 rfl (lv_at hl 3 rfl) ?_
        refine lv_iload hC.1 hC.2.1 dX6_oweDifferences_26 (lv_at hl 4 rfl) ?_
        refine lv_iconst (v := 4) hC.1 hC.2.1 dX6_oweDifferences_28 (by decide) ?_
        refine x_cvi00 (rest := []) hC xy_X0_at tw_929 hf (fun _ h => M_X0_at G l kp h) ⟨Nat.le_of_ble_eq_true rfl, Nat.le_of_ble_eq_true rfl⟩ (xce_11 G kp _ _) rfl rfl rfl (Nat.le_of_ble_eq_true rfl) hl.1 hR hS dX6_oweDifferences_29 ⟨Nat.le_refl _, Nat.le_refl _⟩ (fun v3 hf H locs hR hS => ?_)
        refine lv_aload_n hC.1 hC.2.1 dX6_oweDifferences_32 rfl (lv_at hl 1 rfl) ?_
        refine x_get (v := .ref (xz G + 2)) hC xf_X6_89 (xce_1 G kp _ _) rfl hR dX6_oweDifferences_33 ?_
        refine lv_aload_n hC.1 hC.2.1 dX6_oweDifferences_36 rfl (lv_at hl 3 rfl) ?_
        refine lv_iload hC.1 hC.2.1 dX6_oweDifferences_37 (lv_at hl 4 rfl) ?_
        refine lv_iconst (v := 2) hC.1 hC.2.1 dX6_oweDifferences_39 (by decide) ?_
        refine x_cvi00 (rest := [.ref (xz G + 2), .int v3]) hC xy_X0_at tw_929 hf (fun _ h => M_X0_at G l kp h) ⟨Nat.le_of_ble_eq_true rfl, Nat.le_of_ble_eq_true rfl⟩ (xce_11 G kp _ _) rfl rfl rfl (Nat.le_of_ble_eq_true rfl) hl.1 hR hS dX6_oweDifferences_40 ⟨Nat.le_refl _, Nat.le_refl _⟩ (fun v4 hf H locs hR hS => ?_)
        refine x_ial hC (xce_2 G kp _ _) hR dX6_oweDifferences_43 hf (fun v5 hf => ?_)
        refine W.eq (g2 := F0 m 44 ls [.int v5, .int v3]) rfl ?_
        refine lv_isub hC.1 hC.2.1 dX6_oweDifferences_44 ?_
        refine x_ist (lv' := fun y6 => [(5, .int y6), (0, .ref (xz G + 41)), (1, .ref (xz G + 1)), (2, .int x2), (3, .ref (xz G + 11)), (4, .int x4)]) hC hl dX6_oweDifferences_45 (Nat.le_of_ble_eq_true rfl) hf (fun _ => rfl) (fun y6 hf ls hl => ?_)
        refine lv_aload_n hC.1 hC.2.1 dX6_oweDifferences_47 rfl (lv_at hl 1 rfl) ?_
        refine lv_aload_n hC.1 hC.2.1 dX6_oweDifferences_48 rfl (lv_at hl 4 rfl) ?_
        refine lv_iload hC.1 hC.2.1 dX6_oweDifferences_49 (lv_at hl 5 rfl) ?_
        refine lv_iconst (v := 1) hC.1 hC.2.1 dX6_oweDifferences_51 (by decide) ?_
        refine x_cvi00 (rest := [.ref (xz G + 41)]) hC xy_X0_at tw_929 hf (fun _ h => M_X0_at G l kp h) ⟨Nat.le_of_ble_eq_true rfl, Nat.le_of_ble_eq_true rfl⟩ (xce_11 G kp _ _) rfl rfl rfl (Nat.le_of_ble_eq_true rfl) hl.1 hR hS dX6_oweDifferences_52 ⟨Nat.le_refl _, Nat.le_refl _⟩ (fun v7 hf H locs hR hS => ?_)
        refine lv_aload_n hC.1 hC.2.1 dX6_oweDifferences_55 rfl (lv_at hl 4 rfl) ?_
        refine lv_iload hC.1 hC.2.1 dX6_oweDifferences_56 (lv_at hl 5 rfl) ?_
        refine lv_iconst (v := 0) hC.1 hC.2.1 dX6_oweDifferences_58 (by decide) ?_
        refine x_cvi00 (rest := [.int v7, .ref (xz G + 41)]) hC xy_X0_at tw_929 hf (fun _ h => M_X0_at G l kp h) ⟨Nat.le_of_ble_eq_true rfl, Nat.le_of_ble_eq_true rfl⟩ (xce_11 G kp _ _) rfl rfl rfl (Nat.le_of_ble_eq_true rfl) hl.1 hR hS dX6_oweDifferences_59 ⟨Nat.le_refl _, Nat.le_refl _⟩ (fun v8 hf H locs hR hS => ?_)
        refine lv_aload_n hC.1 hC.2.1 dX6_oweDifferences_62 rfl (lv_at hl 4 rfl) ?_
        refine W.eq (g2 := F0 m 63 ls [.ref (xz G + 11), .int v8, .int v7, .ref (xz G + 41)]) rfl ?_
        refine lv_iload hC.1 hC.2.1 dX6_oweDifferences_63 (lv_at hl 5 rfl) ?_
        refine lv_iconst (v := 3) hC.1 hC.2.1 dX6_oweDifferences_65 (by decide) ?_
        refine x_cvi00 (rest := [.int v8, .int v7, .ref (xz G + 41)]) hC xy_X0_at tw_929 hf (fun _ h => M_X0_at G l kp h) ⟨Nat.le_of_ble_eq_true rfl, Nat.le_of_ble_eq_true rfl⟩ (xce_11 G kp _ _) rfl rfl rfl (Nat.le_of_ble_eq_true rfl) hl.1 hR hS dX6_oweDifferences_66 ⟨Nat.le_refl _, Nat.le_refl _⟩ (fun v9 hf H locs hR hS => ?_)
        refine lv_i2l hC.1 hC.2.1 dX6_oweDifferences_69 rfl ?_
        refine lv_iload hC.1 hC.2.1 dX6_oweDifferences_70 (lv_at hl 0 rfl) ?_
        refine lv_i2l hC.1 hC.2.1 dX6_oweDifferences_72 rfl ?_
        refine lv_lmul hC.1 hC.2.1 dX6_oweDifferences_73 ?_
        refine x_cvv01 (rest := []) hC xy_X6_owe tw_930 hf (fun _ h => M_X6_owe G l kp h) ⟨Nat.le_of_ble_eq_true rfl, Nat.le_of_ble_eq_true rfl⟩ (xce_41 G kp _ _) rfl rfl rfl (Nat.le_of_ble_eq_true rfl) hl.1 hR hS dX6_oweDifferences_74 ⟨Nat.le_refl _, Nat.le_refl _⟩ (fun L10 hf H locs hR hS => ?_)
        refine x_iinc (d := 1) (lv' := fun y11 => [(4, .int y11), (5, .int y6), (0, .ref (xz G + 41)), (1, .ref (xz G + 1)), (2, .int x2), (3, .ref (xz G + 11))]) (k := 5) hC hl dX6_oweDifferences_77 rfl (by decide) (Nat.le_of_ble_eq_true rfl) hf (fun _ => rfl) (fun y11 hf ls hl => ?_)
        refine lv_goto (tgt := 8) hC.1 hC.2.1 dX6_oweDifferences_80 (by decide) ?_
        exact hk8 y11 L10 hf _ _ _ hR hS (lv_sub hl [2, 3, 4, 5, 0] rfl)
set_option maxRecDepth 20000 in
theorem M_X6_oweDifferences (G : XG) (l : Launch) (kp : Bool) (N : Nat) {I : xTI} {L : xTL} {x2 : Int32} {rL : xTL} (hf : F_X6_oweDifferences N I L x2 = some rL) : xMet G l yX6_oweDifferences cX6_oweDifferences 6 none 2 45 kp [.ref (xz G + 41), .ref (xz G + 1), .int x2] I L none I rL := by
  refine xMet.ofW (by decide +kernel) (Nat.le_of_ble_eq_true rfl) ?_
  intro p e s m args below meth c hC H locs ls hR hS hl
  replace hC : xC G p s m args meth c cX6_oweDifferences 6 RX6 none := hC
  replace hl : lv_has ls 6 [(0, .ref (xz G + 41)), (1, .ref (xz G + 1)), (2, .int x2)] := hl
  unfold F_X6_oweDifferences at hf
  refine lv_aload_n hC.1 hC.2.1 dX6_oweDifferences_0 rfl (lv_at hl 1 rfl) ?_
  refine x_get (v := .ref (xz G + 11)) hC xf_X6_64 (xce_1 G kp _ _) rfl hR dX6_oweDifferences_1 ?_
  refine lv_astore_n (lv' := [(3, .ref (xz G + 11)), (0, .ref (xz G + 41)), (1, .ref (xz G + 1)), (2, .int x2)]) hC.1 hC.2.1 dX6_oweDifferences_4 rfl hl (Nat.le_of_ble_eq_true rfl) rfl (fun ls hl => ?_)
  refine lv_iconst (v := 0) hC.1 hC.2.1 dX6_oweDifferences_5 (by decide) ?_
  refine lv_istore (lv' := [(4, .int 0), (3, .ref (xz G + 11)), (0, .ref (xz G + 41)), (1, .ref (xz G + 1)), (2, .int x2)]) hC.1 hC.2.1 dX6_oweDifferences_6 hl (Nat.le_of_ble_eq_true rfl) rfl (fun ls hl => ?_)
  exact W_X6_oweDifferences_l8 hC N _ 0 L hf _ _ _ hR hS (lv_sub hl [2, 3, 4, 1, 0] rfl)
set_option maxRecDepth 20000 in
theorem W_X8_at_26_j29 {G : XG} {l : Launch} {kp : Bool} {p : Program} {e : Env} {s : State} {m : MethodId} {args : Array Value} {below : List Frame} {meth : Method} {c : Code} (hC : xC G p s m args meth c cX8_at 4 RX8 (some .int)) {I : xTI} {L : xTL} {r : Int32} {x1 : Int32} {x2 : Int32} {t0 : Int32} (hf : F_X8_at_26_j29 I x1 x2 t0 = some r) : ∀ (H : Heap) (locs : List Loc) (ls : Array Slot), xRep G kp I L H → xS G s.heap H locs → lv_has ls 4 [(0, .ref (xz G + 26)), (1, .int x1), (2, .int x2)] → W p l e (xrm 0 0) s m args below meth c H locs 0 0 (xMQ G kp below args s (some (.int r)) I L) (F0 m 29 ls [.int t0]) := by
  intro H locs ls hR hS hl
  unfold F_X8_at_26_j29 at hf
  refine lv_istore_n (lv' := [(3, .int t0), (0, .ref (xz G + 26)), (1, .int x1), (2, .int x2)]) hC.1 hC.2.1 dX8_at_29 rfl hl (Nat.le_of_ble_eq_true rfl) rfl (fun ls hl => ?_)
  refine lv_iload_n hC.1 hC.2.1 dX8_at_30 rfl (lv_at hl 0 rfl) ?_
  refine x_if_eq (tgt := 50) hC dX8_at_31 (by decide) hf (fun hf => ?_) (fun hf => ?_)
  · refine lv_iconst (v := 0) hC.1 hC.2.1 dX8_at_50 (by decide) ?_
    have h9 := Option.some.inj hf
    subst h9
    exact x_iret hC hR hS dX8_at_51
  · refine lv_aload_n hC.1 hC.2.1 dX8_at_34 rfl (lv_at hl 1 rfl) ?_
    refine x_get (v := .ref (xz G + 27)) hC xf_X8_16 (xce_26 G kp _ _) rfl hR dX8_at_35 ?_
    refine lv_iload_n hC.1 hC.2.1 dX8_at_38 rfl (lv_at hl 2 rfl) ?_
    refine lv_aload_n hC.1 hC.2.1 dX8_at_39 rfl (lv_at hl 1 rfl) ?_
    refine x_get (v := .int 6) hC xf_X8_13 (xce_26 G kp _ _) rfl hR dX8_at_40 ?_
    refine lv_imul hC.1 hC.2.1 dX8_at_43 ?_
    refine lv_iload_n hC.1 hC.2.1 dX8_at_44 rfl (lv_at hl 3 rfl) ?_
    refine lv_iadd hC.1 hC.2.1 dX8_at_45 ?_
    refine x_ial hC (xce_27 G kp _ _) hR dX8_at_46 hf (fun v1 hf => ?_)
    refine lv_goto (tgt := 51) hC.1 hC.2.1 dX8_at_47 (by decide) ?_
    have h9 := Option.some.inj hf
    subst h9
    exact x_iret hC hR hS dX8_at_51
set_option maxRecDepth 20000 in
theorem M_X8_at_26 (G : XG) (l : Launch) (kp : Bool) {I : xTI} {L : xTL} {x1 : Int32} {x2 : Int32} {r : Int32} (hf : F_X8_at_26 I x1 x2 = some r) : xMet G l yX8_at cX8_at 4 (some .int) 0 0 kp [.ref (xz G + 26), .int x1, .int x2] I L (some (.int r)) I L := by
  refine xMet.ofW (by decide +kernel) (Nat.le_of_ble_eq_true rfl) ?_
  intro p e s m args below meth c hC H locs ls hR hS hl
  replace hC : xC G p s m args meth c cX8_at 4 RX8 (some .int) := hC
  replace hl : lv_has ls 4 [(0, .ref (xz G + 26)), (1, .int x1), (2, .int x2)] := hl
  unfold F_X8_at_26 at hf
  refine lv_iload_n hC.1 hC.2.1 dX8_at_0 rfl (lv_at hl 1 rfl) ?_
  refine x_if_lt (tgt := 28) hC dX8_at_1 (by decide) hf (fun hf => ?_) (fun hf => ?_)
  · refine lv_iconst (v := 0) hC.1 hC.2.1 dX8_at_28 (by decide) ?_
    exact W_X8_at_26_j29 hC hf _ _ _ hR hS (lv_sub hl [0, 1, 2] rfl)
  · refine lv_iload_n hC.1 hC.2.1 dX8_at_4 rfl (lv_at hl 1 rfl) ?_
    refine lv_aload_n hC.1 hC.2.1 dX8_at_5 rfl (lv_at hl 0 rfl) ?_
    refine x_get (v := .int 200) hC xf_X8_7 (xce_26 G kp _ _) rfl hR dX8_at_6 ?_
    refine x_ic_ge (tgt := 28) hC dX8_at_9 (by decide) hf (fun hf => ?_) (fun hf => ?_)
    · refine lv_iconst (v := 0) hC.1 hC.2.1 dX8_at_28 (by decide) ?_
      exact W_X8_at_26_j29 hC hf _ _ _ hR hS (lv_sub hl [0, 1, 2] rfl)
    · refine lv_iload_n hC.1 hC.2.1 dX8_at_12 rfl (lv_at hl 2 rfl) ?_
      refine x_if_lt (tgt := 28) hC dX8_at_13 (by decide) hf (fun hf => ?_) (fun hf => ?_)
      · refine lv_iconst (v := 0) hC.1 hC.2.1 dX8_at_28 (by decide) ?_
        exact W_X8_at_26_j29 hC hf _ _ _ hR hS (lv_sub hl [0, 1, 2] rfl)
      · refine lv_iload_n hC.1 hC.2.1 dX8_at_16 rfl (lv_at hl 2 rfl) ?_
        refine lv_aload_n hC.1 hC.2.1 dX8_at_17 rfl (lv_at hl 0 rfl) ?_
        refine x_get (v := .int 6) hC xf_X8_13 (xce_26 G kp _ _) rfl hR dX8_at_18 ?_
        refine x_ic_ge (tgt := 28) hC dX8_at_21 (by decide) hf (fun hf => ?_) (fun hf => ?_)
        · refine lv_iconst (v := 0) hC.1 hC.2.1 dX8_at_28 (by decide) ?_
          exact W_X8_at_26_j29 hC hf _ _ _ hR hS (lv_sub hl [0, 1, 2] rfl)
        · refine lv_iconst (v := 1) hC.1 hC.2.1 dX8_at_24 (by decide) ?_
          refine lv_goto (tgt := 29) hC.1 hC.2.1 dX8_at_25 (by decide) ?_
          exact W_X8_at_26_j29 hC hf _ _ _ hR hS (lv_sub hl [0, 1, 2] rfl)
set_option maxRecDepth 20000 in
theorem M_X6_moveShares (G : XG) (l : Launch) (kp : Bool) {I : xTI} {L : xTL} {x2 : Int32} {x3 : Int32} {x4 : Int32} {x5 : Int32} {r : Int32} {rI : xTI} (hf : F_X6_moveShares I x2 x3 x4 x5 = some (r, rI)) : xMet G l yX6_moveShares cX6_moveShares 7 (some .int) 1 23 kp [.ref (xz G + 41), .ref (xz G + 3), .int x2, .int x3, .int x4, .int x5] I L (some (.int r)) rI L := by
  refine xMet.ofW (by decide +kernel) (Nat.le_of_ble_eq_true rfl) ?_
  intro p e s m args below meth c hC H locs ls hR hS hl
  replace hC : xC G p s m args meth c cX6_moveShares 7 RX6 (some .int) := hC
  replace hl : lv_has ls 7 [(0, .ref (xz G + 41)), (1, .ref (xz G + 3)), (2, .int x2), (3, .int x3), (4, .int x4), (5, .int x5)] := hl
  unfold F_X6_moveShares at hf
  refine lv_iload hC.1 hC.2.1 dX6_moveShares_0 (lv_at hl 5 rfl) ?_
  refine lv_aload_n hC.1 hC.2.1 dX6_moveShares_2 rfl (lv_at hl 1 rfl) ?_
  refine x_get (v := .ref (xz G + 9)) hC xf_X6_133 (xce_3 G kp _ _) rfl hR dX6_moveShares_3 ?_
  refine lv_iload_n hC.1 hC.2.1 dX6_moveShares_6 rfl (lv_at hl 3 rfl) ?_
  refine lv_iload_n hC.1 hC.2.1 dX6_moveShares_7 rfl (lv_at hl 2 rfl) ?_
  refine x_csi00 (rest := [.ref (xz G + 9), .int x5]) hC xy_X3_place tw_944 hf (fun _ h => M_X3_place G l kp h) ⟨Nat.le_of_ble_eq_true rfl, Nat.le_of_ble_eq_true rfl⟩ rfl rfl (Nat.le_of_ble_eq_true rfl) hl.1 hR hS dX6_moveShares_8 ⟨Nat.le_refl _, Nat.le_refl _⟩ (fun v1 hf H locs hR hS => ?_)
  refine x_ial hC (xce_9 G kp _ _) hR dX6_moveShares_11 hf (fun v2 hf => ?_)
  refine x_mni (rest := []) hC tw_938 hl.1 (Nat.le_of_ble_eq_true rfl) (Nat.le_of_ble_eq_true rfl) dX6_moveShares_12 ⟨Nat.le_refl _, Nat.le_refl _⟩ hf (fun v3 hf => ?_)
  refine lv_istore (lv' := [(6, .int v3), (0, .ref (xz G + 41)), (1, .ref (xz G + 3)), (2, .int x2), (3, .int x3), (4, .int x4), (5, .int x5)]) hC.1 hC.2.1 dX6_moveShares_15 hl (Nat.le_of_ble_eq_true rfl) rfl (fun ls hl => ?_)
  refine lv_aload_n hC.1 hC.2.1 dX6_moveShares_17 rfl (lv_at hl 2 rfl) ?_
  refine x_get (v := .ref (xz G + 9)) hC xf_X6_133 (xce_3 G kp _ _) rfl hR dX6_moveShares_18 ?_
  refine W.eq (g2 := F0 m 21 ls [.ref (xz G + 9)]) rfl ?_
  refine lv_iload_n hC.1 hC.2.1 dX6_moveShares_21 rfl (lv_at hl 4 rfl) ?_
  refine lv_iload_n hC.1 hC.2.1 dX6_moveShares_22 rfl (lv_at hl 3 rfl) ?_
  refine x_csi00 (rest := [.ref (xz G + 9)]) hC xy_X3_place tw_944 hf (fun _ h => M_X3_place G l kp h) ⟨Nat.le_of_ble_eq_true rfl, Nat.le_of_ble_eq_true rfl⟩ rfl rfl (Nat.le_of_ble_eq_true rfl) hl.1 hR hS dX6_moveShares_23 ⟨Nat.le_refl _, Nat.le_refl _⟩ (fun v4 hf H locs hR hS => ?_)
  refine lv_dup2_11 hC.1 hC.2.1 dX6_moveShares_26 rfl rfl ?_
  refine x_ial hC (xce_9 G kp _ _) hR dX6_moveShares_27 hf (fun v5 hf => ?_)
  refine lv_iload hC.1 hC.2.1 dX6_moveShares_28 (lv_at hl 0 rfl) ?_
  refine lv_isub hC.1 hC.2.1 dX6_moveShares_30 ?_
  refine x_ias hC (fun f => (xce_9 G kp f _)) hR hS dX6_moveShares_31 hf (fun I6 hf H locs hR hS => ?_)
  refine lv_aload_n hC.1 hC.2.1 dX6_moveShares_32 rfl (lv_at hl 2 rfl) ?_
  refine x_get (v := .ref (xz G + 9)) hC xf_X6_133 (xce_3 G kp _ _) rfl hR dX6_moveShares_33 ?_
  refine lv_iload hC.1 hC.2.1 dX6_moveShares_36 (lv_at hl 5 rfl) ?_
  refine lv_iload_n hC.1 hC.2.1 dX6_moveShares_38 rfl (lv_at hl 3 rfl) ?_
  refine W.eq (g2 := F0 m 39 ls [.int x2, .int x4, .ref (xz G + 9)]) rfl ?_
  refine x_csi00 (rest := [.ref (xz G + 9)]) hC xy_X3_place tw_944 hf (fun _ h => M_X3_place G l kp h) ⟨Nat.le_of_ble_eq_true rfl, Nat.le_of_ble_eq_true rfl⟩ rfl rfl (Nat.le_of_ble_eq_true rfl) hl.1 hR hS dX6_moveShares_39 ⟨Nat.le_refl _, Nat.le_refl _⟩ (fun v7 hf H locs hR hS => ?_)
  refine lv_dup2_11 hC.1 hC.2.1 dX6_moveShares_42 rfl rfl ?_
  refine x_ial hC (xce_9 G kp _ _) hR dX6_moveShares_43 hf (fun v8 hf => ?_)
  refine lv_iload hC.1 hC.2.1 dX6_moveShares_44 (lv_at hl 6 rfl) ?_
  refine lv_iadd hC.1 hC.2.1 dX6_moveShares_46 ?_
  refine x_ias hC (fun f => (xce_9 G kp f _)) hR hS dX6_moveShares_47 hf (fun I9 hf H locs hR hS => ?_)
  refine lv_iload hC.1 hC.2.1 dX6_moveShares_48 (lv_at hl 6 rfl) ?_
  refine lv_iload hC.1 hC.2.1 dX6_moveShares_50 (lv_at hl 0 rfl) ?_
  refine lv_isub hC.1 hC.2.1 dX6_moveShares_52 ?_
  obtain ⟨h91, h92⟩ := Prod.mk.inj (Option.some.inj hf)
  subst h91
  subst h92
  exact x_iret hC hR hS dX6_moveShares_53
set_option maxRecDepth 20000 in
theorem M_X6_percent (G : XG) (l : Launch) (kp : Bool) {I : xTI} {L : xTL} {x0 : Int32} {r : Int32} (hf : F_X6_percent x0 = some r) : xMet G l yX6_percent cX6_percent 1 (some .int) 1 23 kp [.int x0] I L (some (.int r)) I L := by
  refine xMet.ofW (by decide +kernel) (Nat.le_of_ble_eq_true rfl) ?_
  intro p e s m args below meth c hC H locs ls hR hS hl
  replace hC : xC G p s m args meth c cX6_percent 1 RX6 (some .int) := hC
  replace hl : lv_has ls 1 [(0, .int x0)] := hl
  unfold F_X6_percent at hf
  refine lv_iconst (v := 0) hC.1 hC.2.1 dX6_percent_0 (by decide) ?_
  refine lv_iload_n hC.1 hC.2.1 dX6_percent_1 rfl (lv_at hl 0 rfl) ?_
  refine lv_sipush (v := 1000) hC.1 hC.2.1 dX6_percent_2 (by decide) ?_
  refine x_mni (rest := [.int 0]) hC tw_938 hl.1 (Nat.le_of_ble_eq_true rfl) (Nat.le_of_ble_eq_true rfl) dX6_percent_5 ⟨Nat.le_refl _, Nat.le_refl _⟩ hf (fun v1 hf => ?_)
  refine x_mxi (rest := []) hC tw_949 hl.1 (Nat.le_of_ble_eq_true rfl) (Nat.le_of_ble_eq_true rfl) dX6_percent_8 ⟨Nat.le_refl _, Nat.le_refl _⟩ hf (fun v2 hf => ?_)
  have h9 := Option.some.inj hf
  subst h9
  exact x_iret hC hR hS dX6_percent_11
set_option maxRecDepth 20000 in
theorem W_X6_oweDeliveries_l19 {G : XG} {l : Launch} {kp : Bool} {p : Program} {e : Env} {s : State} {m : MethodId} {args : Array Value} {below : List Frame} {meth : Method} {c : Code} (hC : xC G p s m args meth c cX6_oweDeliveries 14 RX6 none) (N : Nat) {rI : xTI} {rL : xTL} {x3 : Int32} : ∀ (n : Nat) (x4 : Int32) (I : xTI) (L : xTL) , xlp (F_X6_oweDeliveries_b19 N x3 ) n (x4, I, L) = some (rI, rL) → ∀ (H : Heap) (locs : List Loc) (ls : Array Slot), xRep G kp I L H → xS G s.heap H locs → lv_has ls 14 [(0, .ref (xz G + 41)), (1, .ref (xz G + 1)), (2, .ref (xz G + 26)), (3, .int x3), (4, .int x4)] → W p l e (xrm 5 121) s m args below meth c H locs 0 0 (xMQ G kp below args s none rI rL) (F0 m 19 ls []) := by
  intro n
  induction n with
  | zero =>
    intro x4 I L hf
    cases hf
  | succ n hk19 =>
    intro x4 I L hf H locs ls hR hS hl
    rw [xlp_s, E_X6_oweDeliveries_b19] at hf
    unfold F_X6_oweDeliveries_c19 at hf
    refine lv_iload hC.1 hC.2.1 dX6_oweDeliveries_19 (lv_at hl 4 rfl) ?_
    refine lv_iload_n hC.1 hC.2.1 dX6_oweDeliveries_21 rfl (lv_at hl 3 rfl) ?_
    refine x_ic_ge (tgt := 220) hC dX6_oweDeliveries_22 (by decide) hf (fun hf => ?_) (fun hf => ?_)
    · obtain ⟨h91, h92⟩ := Prod.mk.inj (Option.some.inj hf)
      subst h91
      subst h92
      exact x_vret hC hR hS dX6_oweDeliveries_220
    · refine lv_aload_n hC.1 hC.2.1 dX6_oweDeliveries_25 rfl (lv_at hl 2 rfl) ?_
      refine lv_iload hC.1 hC.2.1 dX6_oweDeliveries_26 (lv_at hl 4 rfl) ?_
      refine lv_iconst (v := 0) hC.1 hC.2.1 dX6_oweDeliveries_28 (by decide) ?_
      refine x_cvi00 (rest := []) hC xy_X8_at tw_939 hf (fun _ h => M_X8_at_26 G l kp h) ⟨Nat.le_of_ble_eq_true rfl, Nat.le_of_ble_eq_true rfl⟩ (xce_26 G kp _ _) rfl rfl rfl (Nat.le_of_ble_eq_true rfl) hl.1 hR hS dX6_oweDeliveries_29 ⟨Nat.le_refl _, Nat.le_refl _⟩ (fun v1 hf H locs hR hS => ?_)
      refine lv_istore (lv' := [(5, .int v1), (0, .ref (xz G + 41)), (1, .ref (xz G + 1)), (2, .ref (xz G + 26)), (3, .int x3), (4, .int x4)]) hC.1 hC.2.1 dX6_oweDeliveries_32 hl (Nat.le_of_ble_eq_true rfl) rfl (fun ls hl => ?_)
      refine lv_aload_n hC.1 hC.2.1 dX6_oweDeliveries_34 rfl (lv_at hl 3 rfl) ?_
      refine lv_iload hC.1 hC.2.1 dX6_oweDeliveries_35 (lv_at hl 5 rfl) ?_
      refine lv_iconst (v := 1) hC.1 hC.2.1 dX6_oweDeliveries_37 (by decide) ?_
      refine x_cvi00 (rest := []) hC xy_X8_at tw_939 hf (fun _ h => M_X8_at_26 G l kp h) ⟨Nat.le_of_ble_eq_true rfl, Nat.le_of_ble_eq_true rfl⟩ (xce_26 G kp _ _) rfl rfl rfl (Nat.le_of_ble_eq_true rfl) hl.1 hR hS dX6_oweDeliveries_38 ⟨Nat.le_refl _, Nat.le_refl _⟩ (fun v2 hf H locs hR hS => ?_)
      refine lv_istore (lv' := [(6, .int v2), (5, .int v1), (0, .ref (xz G + 41)), (1, .ref (xz G + 1)), (2, .ref (xz G + 26)), (3, .int x3), (4, .int x4)]) hC.1 hC.2.1 dX6_oweDeliveries_41 hl (Nat.le_of_ble_eq_true rfl) rfl (fun ls hl => ?_)
      refine lv_aload_n hC.1 hC.2.1 dX6_oweDeliveries_43 rfl (lv_at hl 4 rfl) ?_
      refine W.eq (g2 := F0 m 44 ls [.ref (xz G + 26)]) rfl ?_
      refine lv_iload hC.1 hC.2.1 dX6_oweDeliveries_44 (lv_at hl 6 rfl) ?_
      refine lv_iconst (v := 2) hC.1 hC.2.1 dX6_oweDeliveries_46 (by decide) ?_
      refine x_cvi00 (rest := []) hC xy_X8_at tw_939 hf (fun _ h => M_X8_at_26 G l kp h) ⟨Nat.le_of_ble_eq_true rfl, Nat.le_of_ble_eq_true rfl⟩ (xce_26 G kp _ _) rfl rfl rfl (Nat.le_of_ble_eq_true rfl) hl.1 hR hS dX6_oweDeliveries_47 ⟨Nat.le_refl _, Nat.le_refl _⟩ (fun v3 hf H locs hR hS => ?_)
      refine lv_istore (lv' := [(7, .int v3), (6, .int v2), (5, .int v1), (0, .ref (xz G + 41)), (1, .ref (xz G + 1)), (2, .ref (xz G + 26)), (3, .int x3), (4, .int x4)]) hC.1 hC.2.1 dX6_oweDeliveries_50 hl (Nat.le_of_ble_eq_true rfl) rfl (fun ls hl => ?_)
      refine lv_aload_n hC.1 hC.2.1 dX6_oweDeliveries_52 rfl (lv_at hl 5 rfl) ?_
      refine lv_iload hC.1 hC.2.1 dX6_oweDeliveries_53 (lv_at hl 7 rfl) ?_
      refine lv_iconst (v := 3) hC.1 hC.2.1 dX6_oweDeliveries_55 (by decide) ?_
      refine x_cvi00 (rest := []) hC xy_X8_at tw_939 hf (fun _ h => M_X8_at_26 G l kp h) ⟨Nat.le_of_ble_eq_true rfl, Nat.le_of_ble_eq_true rfl⟩ (xce_26 G kp _ _) rfl rfl rfl (Nat.le_of_ble_eq_true rfl) hl.1 hR hS dX6_oweDeliveries_56 ⟨Nat.le_refl _, Nat.le_refl _⟩ (fun v4 hf H locs hR hS => ?_)
      refine lv_istore (lv' := [(8, .int v4), (7, .int v3), (6, .int v2), (5, .int v1), (0, .ref (xz G + 41)), (1, .ref (xz G + 1)), (2, .ref (xz G + 26)), (3, .int x3), (4, .int x4)]) hC.1 hC.2.1 dX6_oweDeliveries_59 hl (Nat.le_of_ble_eq_true rfl) rfl (fun ls hl => ?_)
      refine lv_iload hC.1 hC.2.1 dX6_oweDeliveries_61 (lv_at hl 0 rfl) ?_
      refine lv_i2l hC.1 hC.2.1 dX6_oweDeliveries_63 rfl ?_
      refine lv_aload_n hC.1 hC.2.1 dX6_oweDeliveries_64 rfl (lv_at hl 5 rfl) ?_
      refine W.eq (g2 := F0 m 65 ls [.ref (xz G + 1), .long (v4.toInt64)]) rfl ?_
      refine x_get (v := .ref (xz G + 2)) hC xf_X6_89 (xce_1 G kp _ _) rfl hR dX6_oweDeliveries_65 ?_
      refine lv_iload hC.1 hC.2.1 dX6_oweDeliveries_68 (lv_at hl 3 rfl) ?_
      refine x_ial hC (xce_2 G kp _ _) hR dX6_oweDeliveries_70 hf (fun v5 hf => ?_)
      refine lv_i2l hC.1 hC.2.1 dX6_oweDeliveries_71 rfl ?_
      refine lv_lmul hC.1 hC.2.1 dX6_oweDeliveries_72 ?_
      refine x_lst (lv' := fun y6 => [(9, .long y6), (8, .int v4), (7, .int v3), (6, .int v2), (5, .int v1), (0, .ref (xz G + 41)), (1, .ref (xz G + 1)), (2, .ref (xz G + 26)), (3, .int x3), (4, .int x4)]) hC hl dX6_oweDeliveries_73 (Nat.le_of_ble_eq_true rfl) hf (fun _ => rfl) (fun y6 hf ls hl => ?_)
      refine lv_aload_n hC.1 hC.2.1 dX6_oweDeliveries_75 rfl (lv_at hl 5 rfl) ?_
      refine lv_iload hC.1 hC.2.1 dX6_oweDeliveries_76 (lv_at hl 2 rfl) ?_
      refine lv_iload hC.1 hC.2.1 dX6_oweDeliveries_78 (lv_at hl 3 rfl) ?_
      refine lv_lload hC.1 hC.2.1 dX6_oweDeliveries_80 (lv_at hl 0 rfl) ?_
      refine x_cvv01 (rest := []) hC xy_X6_owe tw_930 hf (fun _ h => M_X6_owe G l kp h) ⟨Nat.le_of_ble_eq_true rfl, Nat.le_of_ble_eq_true rfl⟩ (xce_41 G kp _ _) rfl rfl rfl (Nat.le_of_ble_eq_true rfl) hl.1 hR hS dX6_oweDeliveries_82 ⟨Nat.le_refl _, Nat.le_refl _⟩ (fun L7 hf H locs hR hS => ?_)
      refine lv_aload_n hC.1 hC.2.1 dX6_oweDeliveries_85 rfl (lv_at hl 5 rfl) ?_
      refine W.eq (g2 := F0 m 86 ls [.ref (xz G + 41)]) rfl ?_
      refine lv_aload_n hC.1 hC.2.1 dX6_oweDeliveries_86 rfl (lv_at hl 6 rfl) ?_
      refine x_get (v := .ref (xz G + 3)) hC xf_X6_47 (xce_1 G kp _ _) rfl hR dX6_oweDeliveries_87 ?_
      refine lv_iload hC.1 hC.2.1 dX6_oweDeliveries_90 (lv_at hl 4 rfl) ?_
      refine lv_iload hC.1 hC.2.1 dX6_oweDeliveries_92 (lv_at hl 3 rfl) ?_
      refine lv_iload hC.1 hC.2.1 dX6_oweDeliveries_94 (lv_at hl 2 rfl) ?_
      refine lv_iload hC.1 hC.2.1 dX6_oweDeliveries_96 (lv_at hl 1 rfl) ?_
      refine x_cvi10 (rest := []) hC xy_X6_moveShares tw_940 hf (fun _ _ h => M_X6_moveShares G l kp h) ⟨Nat.le_of_ble_eq_true rfl, Nat.le_of_ble_eq_true rfl⟩ (xce_41 G kp _ _) rfl rfl rfl (Nat.le_of_ble_eq_true rfl) hl.1 hR hS dX6_oweDeliveries_98 ⟨Nat.le_refl _, Nat.le_refl _⟩ (fun v8 I9 hf H locs hR hS => ?_)
      refine lv_istore (lv' := [(11, .int v8), (9, .long y6), (8, .int v4), (7, .int v3), (6, .int v2), (5, .int v1), (0, .ref (xz G + 41)), (1, .ref (xz G + 1)), (2, .ref (xz G + 26)), (3, .int x3), (4, .int x4)]) hC.1 hC.2.1 dX6_oweDeliveries_101 hl (Nat.le_of_ble_eq_true rfl) rfl (fun ls hl => ?_)
      refine lv_aload_n hC.1 hC.2.1 dX6_oweDeliveries_103 rfl (lv_at hl 7 rfl) ?_
      refine x_get (v := .ref (xz G + 14)) hC xf_X6_117 (xce_1 G kp _ _) rfl hR dX6_oweDeliveries_104 ?_
      refine lv_iconst (v := 3) hC.1 hC.2.1 dX6_oweDeliveries_107 (by decide) ?_
      refine lv_aload_n hC.1 hC.2.1 dX6_oweDeliveries_108 rfl (lv_at hl 7 rfl) ?_
      refine W.eq (g2 := F0 m 109 ls [.ref (xz G + 1), .int 3, .ref (xz G + 14)]) rfl ?_
      refine lv_iload hC.1 hC.2.1 dX6_oweDeliveries_109 (lv_at hl 5 rfl) ?_
      refine lv_iconst (v := (-1)) hC.1 hC.2.1 dX6_oweDeliveries_111 (by decide) ?_
      refine x_cvi10 (rest := []) hC xy_X5_tells tw_945 hf (fun _ _ h => M_X5_tells G l kp N h) ⟨Nat.le_of_ble_eq_true rfl, Nat.le_of_ble_eq_true rfl⟩ (xce_14 G kp _ _) rfl rfl rfl (Nat.le_of_ble_eq_true rfl) hl.1 hR hS dX6_oweDeliveries_112 ⟨Nat.le_refl _, Nat.le_refl _⟩ (fun v10 I11 hf H locs hR hS => ?_)
      refine x_csi00 (rest := []) hC xy_X6_percent tw_946 hf (fun _ h => M_X6_percent G l kp h) ⟨Nat.le_of_ble_eq_true rfl, Nat.le_of_ble_eq_true rfl⟩ rfl rfl (Nat.le_of_ble_eq_true rfl) hl.1 hR hS dX6_oweDeliveries_115 ⟨Nat.le_refl _, Nat.le_refl _⟩ (fun v12 hf H locs hR hS => ?_)
      refine lv_istore (lv' := [(12, .int v12), (11, .int v8), (9, .long y6), (8, .int v4), (7, .int v3), (6, .int v2), (5, .int v1), (0, .ref (xz G + 41)), (1, .ref (xz G + 1)), (2, .ref (xz G + 26)), (3, .int x3), (4, .int x4)]) hC.1 hC.2.1 dX6_oweDeliveries_118 hl (Nat.le_of_ble_eq_true rfl) rfl (fun ls hl => ?_)
      refine lv_aload_n hC.1 hC.2.1 dX6_oweDeliveries_120 rfl (lv_at hl 7 rfl) ?_
      refine lv_iload hC.1 hC.2.1 dX6_oweDeliveries_121 (lv_at hl 5 rfl) ?_
      refine lv_bipush (v := 12) hC.1 hC.2.1 dX6_oweDeliveries_123 (by decide) ?_
      refine lv_iload hC.1 hC.2.1 dX6_oweDeliveries_125 (lv_at hl 1 rfl) ?_
      refine lv_i2l hC.1 hC.2.1 dX6_oweDeliveries_127 rfl ?_
      refine lv_aload_n hC.1 hC.2.1 dX6_oweDeliveries_128 rfl (lv_at hl 8 rfl) ?_
      refine x_get (v := .ref (xz G + 2)) hC xf_X6_89 (xce_1 G kp _ _) rfl hR dX6_oweDeliveries_129 ?_
      refine W.eq (g2 := F0 m 132 ls [.ref (xz G + 2), .long (v8.toInt64), .int 12, .int v2, .ref (xz G + 41)]) rfl ?_
      refine lv_iload hC.1 hC.2.1 dX6_oweDeliveries_132 (lv_at hl 6 rfl) ?_
      refine x_ial hC (xce_2 G kp _ _) hR dX6_oweDeliveries_134 hf (fun v13 hf => ?_)
      refine lv_i2l hC.1 hC.2.1 dX6_oweDeliveries_135 rfl ?_
      refine lv_lmul hC.1 hC.2.1 dX6_oweDeliveries_136 ?_
      refine lv_bipush (v := 100) hC.1 hC.2.1 dX6_oweDeliveries_137 (by decide) ?_
      refine lv_iload hC.1 hC.2.1 dX6_oweDeliveries_139 (lv_at hl 0 rfl) ?_
      refine lv_iadd hC.1 hC.2.1 dX6_oweDeliveries_141 ?_
      refine lv_i2l hC.1 hC.2.1 dX6_oweDeliveries_142 rfl ?_
      refine lv_lmul hC.1 hC.2.1 dX6_oweDeliveries_143 ?_
      refine x_ldc2 (v := 100) hC tw_950 dX6_oweDeliveries_144 ?_
      refine lv_ldiv hC.1 hC.2.1 dX6_oweDeliveries_147 (by decide) ?_
      refine x_cvv01 (rest := []) hC xy_X6_owe tw_930 hf (fun _ h => M_X6_owe G l kp h) ⟨Nat.le_of_ble_eq_true rfl, Nat.le_of_ble_eq_true rfl⟩ (xce_41 G kp _ _) rfl rfl rfl (Nat.le_of_ble_eq_true rfl) hl.1 hR hS dX6_oweDeliveries_148 ⟨Nat.le_refl _, Nat.le_refl _⟩ (fun L14 hf H locs hR hS => ?_)
      refine W.eq (g2 := F0 m 151 ls []) rfl ?_
      refine lv_aload_n hC.1 hC.2.1 dX6_oweDeliveries_151 rfl (lv_at hl 8 rfl) ?_
      refine x_get (v := .ref (xz G + 28)) hC xf_X6_36 (xce_1 G kp _ _) rfl hR dX6_oweDeliveries_152 ?_
      refine lv_iload hC.1 hC.2.1 dX6_oweDeliveries_155 (lv_at hl 5 rfl) ?_
      refine lv_iconst (v := 5) hC.1 hC.2.1 dX6_oweDeliveries_157 (by decide) ?_
      refine lv_imul hC.1 hC.2.1 dX6_oweDeliveries_158 ?_
      refine lv_iconst (v := 4) hC.1 hC.2.1 dX6_oweDeliveries_159 (by decide) ?_
      refine lv_iadd hC.1 hC.2.1 dX6_oweDeliveries_160 ?_
      refine lv_dup2_11 hC.1 hC.2.1 dX6_oweDeliveries_161 rfl rfl ?_
      refine x_lal hC (xce_28 G kp _ _) hR dX6_oweDeliveries_162 hf (fun v15 hf => ?_)
      refine lv_iload hC.1 hC.2.1 dX6_oweDeliveries_163 (lv_at hl 1 rfl) ?_
      refine lv_i2l hC.1 hC.2.1 dX6_oweDeliveries_165 rfl ?_
      refine lv_ladd hC.1 hC.2.1 dX6_oweDeliveries_166 ?_
      refine W.eq (g2 := F0 m 167 ls [.long (v15 + (v8.toInt64)), .int ((v2 * 5) + 4), .ref (xz G + 28)]) rfl ?_
      refine x_las hC (fun f => (xce_28 G kp _ f)) hR hS dX6_oweDeliveries_167 hf (fun L16 hf H locs hR hS => ?_)
      refine lv_aload_n hC.1 hC.2.1 dX6_oweDeliveries_168 rfl (lv_at hl 9 rfl) ?_
      refine lv_iload hC.1 hC.2.1 dX6_oweDeliveries_169 (lv_at hl 11 rfl) ?_
      refine lv_iconst (v := 5) hC.1 hC.2.1 dX6_oweDeliveries_171 (by decide) ?_
      refine x_cvi00 (rest := []) hC xy_X8_at tw_939 hf (fun _ h => M_X8_at_26 G l kp h) ⟨Nat.le_of_ble_eq_true rfl, Nat.le_of_ble_eq_true rfl⟩ (xce_26 G kp _ _) rfl rfl rfl (Nat.le_of_ble_eq_true rfl) hl.1 hR hS dX6_oweDeliveries_172 ⟨Nat.le_refl _, Nat.le_refl _⟩ (fun v17 hf H locs hR hS => ?_)
      refine lv_istore (lv' := [(13, .int v17), (12, .int v12), (11, .int v8), (9, .long y6), (8, .int v4), (7, .int v3), (6, .int v2), (5, .int v1), (0, .ref (xz G + 41)), (1, .ref (xz G + 1)), (2, .ref (xz G + 26)), (3, .int x3), (4, .int x4)]) hC.1 hC.2.1 dX6_oweDeliveries_175 hl (Nat.le_of_ble_eq_true rfl) rfl (fun ls hl => ?_)
      refine lv_iload hC.1 hC.2.1 dX6_oweDeliveries_177 (lv_at hl 0 rfl) ?_
      refine lv_iconst (v := (-1)) hC.1 hC.2.1 dX6_oweDeliveries_179 (by decide) ?_
      refine x_ic_eq (tgt := 214) hC dX6_oweDeliveries_180 (by decide) hf (fun hf => ?_) (fun hf => ?_)
      · refine x_iinc (d := 1) (lv' := fun y18 => [(4, .int y18), (13, .int v17), (12, .int v12), (11, .int v8), (9, .long y6), (8, .int v4), (7, .int v3), (6, .int v2), (5, .int v1), (0, .ref (xz G + 41)), (1, .ref (xz G + 1)), (2, .ref (xz G + 26)), (3, .int x3)]) (k := 12) hC hl dX6_oweDeliveries_214 rfl (by decide) (Nat.le_of_ble_eq_true rfl) hf (fun _ => rfl) (fun y18 hf ls hl => ?_)
        refine lv_goto (tgt := 19) hC.1 hC.2.1 dX6_oweDeliveries_217 (by decide) ?_
        exact hk19 y18 I11 L16 hf _ _ _ hR hS (lv_sub hl [9, 10, 11, 12, 0] rfl)
      · refine lv_aload_n hC.1 hC.2.1 dX6_oweDeliveries_183 rfl (lv_at hl 8 rfl) ?_
        refine lv_iload hC.1 hC.2.1 dX6_oweDeliveries_184 (lv_at hl 0 rfl) ?_
        refine lv_iload hC.1 hC.2.1 dX6_oweDeliveries_186 (lv_at hl 5 rfl) ?_
        refine lv_lload hC.1 hC.2.1 dX6_oweDeliveries_188 (lv_at hl 3 rfl) ?_
        refine lv_aload_n hC.1 hC.2.1 dX6_oweDeliveries_190 rfl (lv_at hl 9 rfl) ?_
        refine x_get (v := .ref (xz G + 14)) hC xf_X6_117 (xce_1 G kp _ _) rfl hR dX6_oweDeliveries_191 ?_
        refine lv_iconst (v := 2) hC.1 hC.2.1 dX6_oweDeliveries_194 (by decide) ?_
        refine lv_aload_n hC.1 hC.2.1 dX6_oweDeliveries_195 rfl (lv_at hl 9 rfl) ?_
        refine lv_iload hC.1 hC.2.1 dX6_oweDeliveries_196 (lv_at hl 7 rfl) ?_
        refine lv_iconst (v := (-1)) hC.1 hC.2.1 dX6_oweDeliveries_198 (by decide) ?_
        refine x_cvi10 (rest := [.long y6, .int v3, .int v17, .ref (xz G + 41)]) hC xy_X5_tells tw_945 hf (fun _ _ h => M_X5_tells G l kp N h) ⟨Nat.le_of_ble_eq_true rfl, Nat.le_of_ble_eq_true rfl⟩ (xce_14 G kp _ _) rfl rfl rfl (Nat.le_of_ble_eq_true rfl) hl.1 hR hS dX6_oweDeliveries_199 ⟨Nat.le_refl _, Nat.le_refl _⟩ (fun v19 I20 hf H locs hR hS => ?_)
        refine W.eq (g2 := F0 m 202 ls [.int v19, .long y6, .int v3, .int v17, .ref (xz G + 41)]) rfl ?_
        refine x_csi00 (rest := [.long y6, .int v3, .int v17, .ref (xz G + 41)]) hC xy_X6_percent tw_946 hf (fun _ h => M_X6_percent G l kp h) ⟨Nat.le_of_ble_eq_true rfl, Nat.le_of_ble_eq_true rfl⟩ rfl rfl (Nat.le_of_ble_eq_true rfl) hl.1 hR hS dX6_oweDeliveries_202 ⟨Nat.le_refl _, Nat.le_refl _⟩ (fun v21 hf H locs hR hS => ?_)
        refine lv_i2l hC.1 hC.2.1 dX6_oweDeliveries_205 rfl ?_
        refine lv_lmul hC.1 hC.2.1 dX6_oweDeliveries_206 ?_
        refine x_ldc2 (v := 100) hC tw_950 dX6_oweDeliveries_207 ?_
        refine lv_ldiv hC.1 hC.2.1 dX6_oweDeliveries_210 (by decide) ?_
        refine x_cvv01 (rest := []) hC xy_X6_owe tw_930 hf (fun _ h => M_X6_owe G l kp h) ⟨Nat.le_of_ble_eq_true rfl, Nat.le_of_ble_eq_true rfl⟩ (xce_41 G kp _ _) rfl rfl rfl (Nat.le_of_ble_eq_true rfl) hl.1 hR hS dX6_oweDeliveries_211 ⟨Nat.le_refl _, Nat.le_refl _⟩ (fun L22 hf H locs hR hS => ?_)
        refine x_iinc (d := 1) (lv' := fun y23 => [(4, .int y23), (13, .int v17), (12, .int v12), (11, .int v8), (9, .long y6), (8, .int v4), (7, .int v3), (6, .int v2), (5, .int v1), (0, .ref (xz G + 41)), (1, .ref (xz G + 1)), (2, .ref (xz G + 26)), (3, .int x3)]) (k := 12) hC hl dX6_oweDeliveries_214 rfl (by decide) (Nat.le_of_ble_eq_true rfl) hf (fun _ => rfl) (fun y23 hf ls hl => ?_)
        refine lv_goto (tgt := 19) hC.1 hC.2.1 dX6_oweDeliveries_217 (by decide) ?_
        exact hk19 y23 I20 L22 hf _ _ _ hR hS (lv_sub hl [9, 10, 11, 12, 0] rfl)
set_option maxRecDepth 20000 in
theorem M_X6_oweDeliveries (G : XG) (l : Launch) (kp : Bool) (N : Nat) {I : xTI} {L : xTL} {rI : xTI} {rL : xTL} (hf : F_X6_oweDeliveries N I L = some (rI, rL)) : xMet G l yX6_oweDeliveries cX6_oweDeliveries 14 none 5 121 kp [.ref (xz G + 41), .ref (xz G + 1)] I L none rI rL := by
  refine xMet.ofW (by decide +kernel) (Nat.le_of_ble_eq_true rfl) ?_
  intro p e s m args below meth c hC H locs ls hR hS hl
  replace hC : xC G p s m args meth c cX6_oweDeliveries 14 RX6 none := hC
  replace hl : lv_has ls 14 [(0, .ref (xz G + 41)), (1, .ref (xz G + 1))] := hl
  unfold F_X6_oweDeliveries at hf
  refine lv_aload_n hC.1 hC.2.1 dX6_oweDeliveries_0 rfl (lv_at hl 1 rfl) ?_
  refine x_get (v := .ref (xz G + 26)) hC xf_X6_97 (xce_1 G kp _ _) rfl hR dX6_oweDeliveries_1 ?_
  refine lv_astore_n (lv' := [(2, .ref (xz G + 26)), (0, .ref (xz G + 41)), (1, .ref (xz G + 1))]) hC.1 hC.2.1 dX6_oweDeliveries_4 rfl hl (Nat.le_of_ble_eq_true rfl) rfl (fun ls hl => ?_)
  refine lv_aload_n hC.1 hC.2.1 dX6_oweDeliveries_5 rfl (lv_at hl 0 rfl) ?_
  refine x_getI hC xf_X6_101 (xce_26 G kp _ _) rfl hR dX6_oweDeliveries_6 hf (fun v1 hf => ?_)
  refine lv_sipush (v := 200) hC.1 hC.2.1 dX6_oweDeliveries_9 (by decide) ?_
  refine x_mni (rest := []) hC tw_938 hl.1 (Nat.le_of_ble_eq_true rfl) (Nat.le_of_ble_eq_true rfl) dX6_oweDeliveries_12 ⟨Nat.le_refl _, Nat.le_refl _⟩ hf (fun v2 hf => ?_)
  refine lv_istore_n (lv' := [(3, .int v2), (2, .ref (xz G + 26)), (0, .ref (xz G + 41)), (1, .ref (xz G + 1))]) hC.1 hC.2.1 dX6_oweDeliveries_15 rfl hl (Nat.le_of_ble_eq_true rfl) rfl (fun ls hl => ?_)
  refine lv_iconst (v := 0) hC.1 hC.2.1 dX6_oweDeliveries_16 (by decide) ?_
  refine lv_istore (lv' := [(4, .int 0), (3, .int v2), (2, .ref (xz G + 26)), (0, .ref (xz G + 41)), (1, .ref (xz G + 1))]) hC.1 hC.2.1 dX6_oweDeliveries_17 hl (Nat.le_of_ble_eq_true rfl) rfl (fun ls hl => ?_)
  exact W_X6_oweDeliveries_l19 hC N _ 0 I L hf _ _ _ hR hS (lv_sub hl [3, 4, 2, 1, 0] rfl)
set_option maxRecDepth 20000 in
theorem W_J7_fill_d0a16_6_l6 {G : XG} {l : Launch} {kp : Bool} {p : Program} {e : Env} {s : State} {m : MethodId} {args : Array Value} {below : List Frame} {meth : Method} {c : Code} (hC : xC G p s m args meth c cJ7_fill_d0a16 5 RJ7 none) (N : Nat) {I : xTI} {rL : xTL} {x1 : Int64} {x4 : Int32} : ∀ (n : Nat) (x3 : Int32) (L : xTL) , xlp (F_J7_fill_d0a16_6_b6 N x1 x4 ) n (x3, L) = some rL → ∀ (H : Heap) (locs : List Loc) (ls : Array Slot), xRep G kp I L H → xS G s.heap H locs → lv_has ls 5 [(0, .ref (xz G + 6)), (1, .long x1), (3, .int x3), (4, .int x4)] → W p l e (xrm 0 0) s m args below meth c H locs 0 0 (xMQ G kp below args s none I rL) (F0 m 6 ls []) := by
  intro n
  induction n with
  | zero =>
    intro x3 L hf
    cases hf
  | succ n hk6 =>
    intro x3 L hf H locs ls hR hS hl
    rw [xlp_s, E_J7_fill_d0a16_6_b6] at hf
    unfold F_J7_fill_d0a16_6_c6 at hf
    refine lv_iload_n hC.1 hC.2.1 dJ7_fill_d0a16_6 rfl (lv_at hl 2 rfl) ?_
    refine lv_iload hC.1 hC.2.1 dJ7_fill_d0a16_7 (lv_at hl 3 rfl) ?_
    refine x_ic_ge (tgt := 22) hC dJ7_fill_d0a16_9 (by decide) hf (fun hf => ?_) (fun hf => ?_)
    · have h9 := Option.some.inj hf
      subst h9
      exact x_vret hC hR hS dJ7_fill_d0a16_22
    · refine lv_aload_n hC.1 hC.2.1 dJ7_fill_d0a16_12 rfl (lv_at hl 0 rfl) ?_
      refine lv_iload_n hC.1 hC.2.1 dJ7_fill_d0a16_13 rfl (lv_at hl 2 rfl) ?_
      refine lv_lload_n hC.1 hC.2.1 dJ7_fill_d0a16_14 rfl (lv_at hl 1 rfl) ?_
      refine x_las hC (fun f => (xce_6 G kp _ f)) hR hS dJ7_fill_d0a16_15 hf (fun L1 hf H locs hR hS => ?_)
      refine x_iinc (d := 1) (lv' := fun y2 => [(3, .int y2), (0, .ref (xz G + 6)), (1, .long x1), (4, .int x4)]) (k := 2) hC hl dJ7_fill_d0a16_16 rfl (by decide) (Nat.le_of_ble_eq_true rfl) hf (fun _ => rfl) (fun y2 hf ls hl => ?_)
      refine lv_goto (tgt := 6) hC.1 hC.2.1 dJ7_fill_d0a16_19 (by decide) ?_
      exact hk6 y2 L1 hf _ _ _ hR hS (lv_sub hl [1, 2, 0, 3] rfl)
set_option maxRecDepth 20000 in
theorem M_J7_fill_d0a16_6 (G : XG) (l : Launch) (kp : Bool) (N : Nat) {I : xTI} {L : xTL} {x1 : Int64} {rL : xTL} (hf : F_J7_fill_d0a16_6 N L x1 = some rL) : xMet G l yJ7_fill_d0a16 cJ7_fill_d0a16 5 none 0 0 kp [.ref (xz G + 6), .long x1] I L none I rL := by
  refine xMet.ofW (by decide +kernel) (Nat.le_of_ble_eq_true rfl) ?_
  intro p e s m args below meth c hC H locs ls hR hS hl
  replace hC : xC G p s m args meth c cJ7_fill_d0a16 5 RJ7 none := hC
  replace hl : lv_has ls 5 [(0, .ref (xz G + 6)), (1, .long x1)] := hl
  unfold F_J7_fill_d0a16_6 at hf
  refine lv_iconst (v := 0) hC.1 hC.2.1 dJ7_fill_d0a16_0 (by decide) ?_
  refine lv_istore_n (lv' := [(3, .int 0), (0, .ref (xz G + 6)), (1, .long x1)]) hC.1 hC.2.1 dJ7_fill_d0a16_1 rfl hl (Nat.le_of_ble_eq_true rfl) rfl (fun ls hl => ?_)
  refine lv_aload_n hC.1 hC.2.1 dJ7_fill_d0a16_2 rfl (lv_at hl 1 rfl) ?_
  refine x_alen_l (v := 144) hC (xce_6 G kp _ _) rfl hR dJ7_fill_d0a16_3 ?_
  refine lv_istore (lv' := [(4, .int 144), (3, .int 0), (0, .ref (xz G + 6)), (1, .long x1)]) hC.1 hC.2.1 dJ7_fill_d0a16_4 hl (Nat.le_of_ble_eq_true rfl) rfl (fun ls hl => ?_)
  exact W_J7_fill_d0a16_6_l6 hC N _ 0 L hf _ _ _ hR hS (lv_sub hl [2, 3, 1, 0] rfl)
set_option maxRecDepth 20000 in
theorem W_X6_oweExtra_l10 {G : XG} {l : Launch} {kp : Bool} {p : Program} {e : Env} {s : State} {m : MethodId} {args : Array Value} {below : List Frame} {meth : Method} {c : Code} (hC : xC G p s m args meth c cX6_oweExtra 4 RX6 none) (N : Nat) {I : xTI} {rL : xTL} {x2 : Int32} (k2 : Int32 × xTL → Option (xTL)) (hk2 : ∀ (x2 : Int32) (L : xTL) , k2 (x2, L) = some rL → ∀ (H : Heap) (locs : List Loc) (ls : Array Slot), xRep G kp I L H → xS G s.heap H locs → lv_has ls 4 [(0, .ref (xz G + 41)), (1, .ref (xz G + 3)), (2, .int x2)] → W p l e (xrm 1 24) s m args below meth c H locs 0 0 (xMQ G kp below args s none I rL) (F0 m 2 ls [])) : ∀ (n : Nat) (x3 : Int32) (L : xTL) , xlp (F_X6_oweExtra_b10 k2 N x2 ) n (x3, L) = some rL → ∀ (H : Heap) (locs : List Loc) (ls : Array Slot), xRep G kp I L H → xS G s.heap H locs → lv_has ls 4 [(0, .ref (xz G + 41)), (1, .ref (xz G + 3)), (2, .int x2), (3, .int x3)] → W p l e (xrm 1 24) s m args below meth c H locs 0 0 (xMQ G kp below args s none I rL) (F0 m 10 ls []) := by
  intro n
  induction n with
  | zero =>
    intro x3 L hf
    cases hf
  | succ n hk10 =>
    intro x3 L hf H locs ls hR hS hl
    rw [xlp_s, E_X6_oweExtra_b10] at hf
    unfold F_X6_oweExtra_c10 at hf
    refine lv_iload_n hC.1 hC.2.1 dX6_oweExtra_10 rfl (lv_at hl 3 rfl) ?_
    refine lv_bipush (v := 12) hC.1 hC.2.1 dX6_oweExtra_11 (by decide) ?_
    refine x_ic_ge (tgt := 39) hC dX6_oweExtra_13 (by decide) hf (fun hf => ?_) (fun hf => ?_)
    · refine x_iinc (d := 1) (lv' := fun y1 => [(2, .int y1), (0, .ref (xz G + 41)), (1, .ref (xz G + 3)), (3, .int x3)]) (k := 2) hC hl dX6_oweExtra_39 rfl (by decide) (Nat.le_of_ble_eq_true rfl) hf (fun _ => rfl) (fun y1 hf ls hl => ?_)
      refine lv_goto (tgt := 2) hC.1 hC.2.1 dX6_oweExtra_42 (by decide) ?_
      exact hk2 y1 L hf _ _ _ hR hS (lv_sub hl [1, 2, 0] rfl)
    · refine lv_aload_n hC.1 hC.2.1 dX6_oweExtra_16 rfl (lv_at hl 0 rfl) ?_
      refine lv_iload_n hC.1 hC.2.1 dX6_oweExtra_17 rfl (lv_at hl 2 rfl) ?_
      refine lv_iload_n hC.1 hC.2.1 dX6_oweExtra_18 rfl (lv_at hl 3 rfl) ?_
      refine lv_aload_n hC.1 hC.2.1 dX6_oweExtra_19 rfl (lv_at hl 1 rfl) ?_
      refine x_get (v := .ref (xz G + 6)) hC xf_X6_144 (xce_3 G kp _ _) rfl hR dX6_oweExtra_20 ?_
      refine lv_iload_n hC.1 hC.2.1 dX6_oweExtra_23 rfl (lv_at hl 2 rfl) ?_
      refine lv_bipush (v := 12) hC.1 hC.2.1 dX6_oweExtra_24 (by decide) ?_
      refine lv_imul hC.1 hC.2.1 dX6_oweExtra_26 ?_
      refine lv_iload_n hC.1 hC.2.1 dX6_oweExtra_27 rfl (lv_at hl 3 rfl) ?_
      refine lv_iadd hC.1 hC.2.1 dX6_oweExtra_28 ?_
      refine x_lal hC (xce_6 G kp _ _) hR dX6_oweExtra_29 hf (fun v2 hf => ?_)
      refine W.eq (g2 := F0 m 30 ls [.long v2, .int x3, .int x2, .ref (xz G + 41)]) rfl ?_
      refine x_cvv01 (rest := []) hC xy_X6_owe tw_930 hf (fun _ h => M_X6_owe G l kp h) ⟨Nat.le_of_ble_eq_true rfl, Nat.le_of_ble_eq_true rfl⟩ (xce_41 G kp _ _) rfl rfl rfl (Nat.le_of_ble_eq_true rfl) hl.1 hR hS dX6_oweExtra_30 ⟨Nat.le_refl _, Nat.le_refl _⟩ (fun L3 hf H locs hR hS => ?_)
      refine x_iinc (d := 1) (lv' := fun y4 => [(3, .int y4), (0, .ref (xz G + 41)), (1, .ref (xz G + 3)), (2, .int x2)]) (k := 3) hC hl dX6_oweExtra_33 rfl (by decide) (Nat.le_of_ble_eq_true rfl) hf (fun _ => rfl) (fun y4 hf ls hl => ?_)
      refine lv_goto (tgt := 10) hC.1 hC.2.1 dX6_oweExtra_36 (by decide) ?_
      exact hk10 y4 L3 hf _ _ _ hR hS (lv_sub hl [1, 2, 3, 0] rfl)
set_option maxRecDepth 20000 in
theorem W_X6_oweExtra_l2 {G : XG} {l : Launch} {kp : Bool} {p : Program} {e : Env} {s : State} {m : MethodId} {args : Array Value} {below : List Frame} {meth : Method} {c : Code} (hC : xC G p s m args meth c cX6_oweExtra 4 RX6 none) (N : Nat) {I : xTI} {rL : xTL} : ∀ (n : Nat) (x2 : Int32) (L : xTL) , xlp (F_X6_oweExtra_b2 N ) n (x2, L) = some rL → ∀ (H : Heap) (locs : List Loc) (ls : Array Slot), xRep G kp I L H → xS G s.heap H locs → lv_has ls 4 [(0, .ref (xz G + 41)), (1, .ref (xz G + 3)), (2, .int x2)] → W p l e (xrm 1 24) s m args below meth c H locs 0 0 (xMQ G kp below args s none I rL) (F0 m 2 ls []) := by
  intro n
  induction n with
  | zero =>
    intro x2 L hf
    cases hf
  | succ n hk2 =>
    intro x2 L hf H locs ls hR hS hl
    rw [xlp_s, E_X6_oweExtra_b2] at hf
    unfold F_X6_oweExtra_c2 at hf
    refine lv_iload_n hC.1 hC.2.1 dX6_oweExtra_2 rfl (lv_at hl 2 rfl) ?_
    refine lv_bipush (v := 12) hC.1 hC.2.1 dX6_oweExtra_3 (by decide) ?_
    refine x_ic_ge (tgt := 45) hC dX6_oweExtra_5 (by decide) hf (fun hf => ?_) (fun hf => ?_)
    · refine lv_aload_n hC.1 hC.2.1 dX6_oweExtra_45 rfl (lv_at hl 1 rfl) ?_
      refine x_get (v := .ref (xz G + 6)) hC xf_X6_144 (xce_3 G kp _ _) rfl hR dX6_oweExtra_46 ?_
      refine lv_lconst (v := 0) hC.1 hC.2.1 dX6_oweExtra_49 (by decide) ?_
      refine x_csv01 (rest := []) hC xy_J7_fill_d0a16 tw_918 hf (fun _ h => M_J7_fill_d0a16_6 G l kp N h) ⟨Nat.le_of_ble_eq_true rfl, Nat.le_of_ble_eq_true rfl⟩ rfl rfl (Nat.le_of_ble_eq_true rfl) hl.1 hR hS dX6_oweExtra_50 ⟨Nat.le_refl _, Nat.le_refl _⟩ (fun L1 hf H locs hR hS => ?_)
      have h9 := Option.some.inj hf
      subst h9
      exact x_vret hC hR hS dX6_oweExtra_53
    · refine lv_iconst (v := 0) hC.1 hC.2.1 dX6_oweExtra_8 (by decide) ?_
      refine lv_istore_n (lv' := [(3, .int 0), (0, .ref (xz G + 41)), (1, .ref (xz G + 3)), (2, .int x2)]) hC.1 hC.2.1 dX6_oweExtra_9 rfl hl (Nat.le_of_ble_eq_true rfl) rfl (fun ls hl => ?_)
      exact W_X6_oweExtra_l10 hC N _ hk2 _ 0 L hf _ _ _ hR hS (lv_sub hl [1, 2, 3, 0] rfl)
set_option maxRecDepth 20000 in
theorem M_X6_oweExtra (G : XG) (l : Launch) (kp : Bool) (N : Nat) {I : xTI} {L : xTL} {rL : xTL} (hf : F_X6_oweExtra N L = some rL) : xMet G l yX6_oweExtra cX6_oweExtra 4 none 1 24 kp [.ref (xz G + 41), .ref (xz G + 3)] I L none I rL := by
  refine xMet.ofW (by decide +kernel) (Nat.le_of_ble_eq_true rfl) ?_
  intro p e s m args below meth c hC H locs ls hR hS hl
  replace hC : xC G p s m args meth c cX6_oweExtra 4 RX6 none := hC
  replace hl : lv_has ls 4 [(0, .ref (xz G + 41)), (1, .ref (xz G + 3))] := hl
  unfold F_X6_oweExtra at hf
  refine lv_iconst (v := 0) hC.1 hC.2.1 dX6_oweExtra_0 (by decide) ?_
  refine lv_istore_n (lv' := [(2, .int 0), (0, .ref (xz G + 41)), (1, .ref (xz G + 3))]) hC.1 hC.2.1 dX6_oweExtra_1 rfl hl (Nat.le_of_ble_eq_true rfl) rfl (fun ls hl => ?_)
  exact W_X6_oweExtra_l2 hC N _ 0 L hf _ _ _ hR hS (lv_sub hl [1, 2, 0] rfl)
set_option maxRecDepth 20000 in
theorem W_X6_sumOf_42_l5 {G : XG} {l : Launch} {kp : Bool} {p : Program} {e : Env} {s : State} {m : MethodId} {args : Array Value} {below : List Frame} {meth : Method} {c : Code} (hC : xC G p s m args meth c cX6_sumOf 6 RX6 (some .long)) (N : Nat) {I : xTI} {L : xTL} {r : Int64} {x2 : Int32} : ∀ (n : Nat) (x3 : Int64) (x5 : Int32) , xlp (F_X6_sumOf_42_b5 N L x2 ) n (x3, x5) = some r → ∀ (H : Heap) (locs : List Loc) (ls : Array Slot), xRep G kp I L H → xS G s.heap H locs → lv_has ls 6 [(1, .ref (xz G + 42)), (2, .int x2), (3, .long x3), (5, .int x5)] → W p l e (xrm 0 0) s m args below meth c H locs 0 0 (xMQ G kp below args s (some (.long r)) I L) (F0 m 5 ls []) := by
  intro n
  induction n with
  | zero =>
    intro x3 x5 hf
    cases hf
  | succ n hk5 =>
    intro x3 x5 hf H locs ls hR hS hl
    rw [xlp_s, E_X6_sumOf_42_b5] at hf
    unfold F_X6_sumOf_42_c5 at hf
    refine lv_iload hC.1 hC.2.1 dX6_sumOf_5 (lv_at hl 3 rfl) ?_
    refine lv_bipush (v := 13) hC.1 hC.2.1 dX6_sumOf_7 (by decide) ?_
    refine x_ic_ge (tgt := 30) hC dX6_sumOf_9 (by decide) hf (fun hf => ?_) (fun hf => ?_)
    · refine lv_lload_n hC.1 hC.2.1 dX6_sumOf_30 rfl (lv_at hl 2 rfl) ?_
      have h9 := Option.some.inj hf
      subst h9
      exact x_lret hC hR hS dX6_sumOf_31
    · refine lv_lload_n hC.1 hC.2.1 dX6_sumOf_12 rfl (lv_at hl 2 rfl) ?_
      refine lv_aload_n hC.1 hC.2.1 dX6_sumOf_13 rfl (lv_at hl 0 rfl) ?_
      refine lv_iload_n hC.1 hC.2.1 dX6_sumOf_14 rfl (lv_at hl 1 rfl) ?_
      refine lv_bipush (v := 13) hC.1 hC.2.1 dX6_sumOf_15 (by decide) ?_
      refine lv_imul hC.1 hC.2.1 dX6_sumOf_17 ?_
      refine lv_iload hC.1 hC.2.1 dX6_sumOf_18 (lv_at hl 3 rfl) ?_
      refine lv_iadd hC.1 hC.2.1 dX6_sumOf_20 ?_
      refine x_lal hC (xce_42 G kp _ _) hR dX6_sumOf_21 hf (fun v1 hf => ?_)
      refine lv_ladd hC.1 hC.2.1 dX6_sumOf_22 ?_
      refine x_lstn (lv' := fun y2 => [(3, .long y2), (1, .ref (xz G + 42)), (2, .int x2), (5, .int x5)]) hC hl dX6_sumOf_23 rfl (Nat.le_of_ble_eq_true rfl) hf (fun _ => rfl) (fun y2 hf ls hl => ?_)
      refine x_iinc (d := 1) (lv' := fun y3 => [(5, .int y3), (3, .long y2), (1, .ref (xz G + 42)), (2, .int x2)]) (k := 3) hC hl dX6_sumOf_24 rfl (by decide) (Nat.le_of_ble_eq_true rfl) hf (fun _ => rfl) (fun y3 hf ls hl => ?_)
      refine W.eq (g2 := F0 m 27 ls []) rfl ?_
      refine lv_goto (tgt := 5) hC.1 hC.2.1 dX6_sumOf_27 (by decide) ?_
      exact hk5 y2 y3 hf _ _ _ hR hS (lv_sub hl [2, 3, 1, 0] rfl)
set_option maxRecDepth 20000 in
theorem M_X6_sumOf_42 (G : XG) (l : Launch) (kp : Bool) (N : Nat) {I : xTI} {L : xTL} {x2 : Int32} {r : Int64} (hf : F_X6_sumOf_42 N L x2 = some r) : xMet G l yX6_sumOf cX6_sumOf 6 (some .long) 0 0 kp [.ref (xz G + 41), .ref (xz G + 42), .int x2] I L (some (.long r)) I L := by
  refine xMet.ofW (by decide +kernel) (Nat.le_of_ble_eq_true rfl) ?_
  intro p e s m args below meth c hC H locs ls hR hS hl
  replace hC : xC G p s m args meth c cX6_sumOf 6 RX6 (some .long) := hC
  replace hl : lv_has ls 6 [(0, .ref (xz G + 41)), (1, .ref (xz G + 42)), (2, .int x2)] := hl
  unfold F_X6_sumOf_42 at hf
  refine lv_lconst (v := 0) hC.1 hC.2.1 dX6_sumOf_0 (by decide) ?_
  refine lv_lstore_n (lv' := [(3, .long 0), (0, .ref (xz G + 41)), (1, .ref (xz G + 42)), (2, .int x2)]) hC.1 hC.2.1 dX6_sumOf_1 rfl hl (Nat.le_of_ble_eq_true rfl) rfl (fun ls hl => ?_)
  refine lv_iconst (v := 0) hC.1 hC.2.1 dX6_sumOf_2 (by decide) ?_
  refine lv_istore (lv' := [(5, .int 0), (3, .long 0), (0, .ref (xz G + 41)), (1, .ref (xz G + 42)), (2, .int x2)]) hC.1 hC.2.1 dX6_sumOf_3 hl (Nat.le_of_ble_eq_true rfl) rfl (fun ls hl => ?_)
  exact W_X6_sumOf_42_l5 hC N _ 0 0 hf _ _ _ hR hS (lv_sub hl [3, 4, 1, 0] rfl)
set_option maxRecDepth 20000 in
theorem W_X6_leaveTheRest_l86 {G : XG} {l : Launch} {kp : Bool} {p : Program} {e : Env} {s : State} {m : MethodId} {args : Array Value} {below : List Frame} {meth : Method} {c : Code} (hC : xC G p s m args meth c cX6_leaveTheRest 5 RX6 none) (N : Nat) {I : xTI} {rL : xTL} : ∀ (n : Nat) (x1 : Int32) (L : xTL) , xlp (F_X6_leaveTheRest_b86 N ) n (x1, L) = some rL → ∀ (H : Heap) (locs : List Loc) (ls : Array Slot), xRep G kp I L H → xS G s.heap H locs → lv_has ls 5 [(0, .ref (xz G + 41)), (1, .int x1)] → W p l e (xrm 1 25) s m args below meth c H locs 0 0 (xMQ G kp below args s none I rL) (F0 m 86 ls []) := by
  intro n
  induction n with
  | zero =>
    intro x1 L hf
    cases hf
  | succ n hk86 =>
    intro x1 L hf H locs ls hR hS hl
    rw [xlp_s, E_X6_leaveTheRest_b86] at hf
    unfold F_X6_leaveTheRest_c86 at hf
    refine lv_iload_n hC.1 hC.2.1 dX6_leaveTheRest_86 rfl (lv_at hl 1 rfl) ?_
    refine lv_bipush (v := 12) hC.1 hC.2.1 dX6_leaveTheRest_87 (by decide) ?_
    refine x_ic_ge (tgt := 113) hC dX6_leaveTheRest_89 (by decide) hf (fun hf => ?_) (fun hf => ?_)
    · have h9 := Option.some.inj hf
      subst h9
      exact x_vret hC hR hS dX6_leaveTheRest_113
    · refine lv_aload_n hC.1 hC.2.1 dX6_leaveTheRest_92 rfl (lv_at hl 0 rfl) ?_
      refine x_get (v := .ref (xz G + 45)) hC xf_X6_21 (xce_41 G kp _ _) rfl hR dX6_leaveTheRest_93 ?_
      refine lv_iload_n hC.1 hC.2.1 dX6_leaveTheRest_96 rfl (lv_at hl 1 rfl) ?_
      refine lv_aload_n hC.1 hC.2.1 dX6_leaveTheRest_97 rfl (lv_at hl 0 rfl) ?_
      refine lv_aload_n hC.1 hC.2.1 dX6_leaveTheRest_98 rfl (lv_at hl 0 rfl) ?_
      refine x_get (v := .ref (xz G + 42)) hC xf_X6_11 (xce_41 G kp _ _) rfl hR dX6_leaveTheRest_99 ?_
      refine lv_iload_n hC.1 hC.2.1 dX6_leaveTheRest_102 rfl (lv_at hl 1 rfl) ?_
      refine x_cvl00 (rest := [.int x1, .ref (xz G + 45)]) hC xy_X6_sumOf tw_960 hf (fun _ h => M_X6_sumOf_42 G l kp N h) ⟨Nat.le_of_ble_eq_true rfl, Nat.le_of_ble_eq_true rfl⟩ (xce_41 G kp _ _) rfl rfl rfl (Nat.le_of_ble_eq_true rfl) hl.1 hR hS dX6_leaveTheRest_103 ⟨Nat.le_refl _, Nat.le_refl _⟩ (fun v1 hf H locs hR hS => ?_)
      refine x_las hC (fun f => (xce_45 G kp _ f)) hR hS dX6_leaveTheRest_106 hf (fun L2 hf H locs hR hS => ?_)
      refine x_iinc (d := 1) (lv' := fun y3 => [(1, .int y3), (0, .ref (xz G + 41))]) (k := 1) hC hl dX6_leaveTheRest_107 rfl (by decide) (Nat.le_of_ble_eq_true rfl) hf (fun _ => rfl) (fun y3 hf ls hl => ?_)
      refine lv_goto (tgt := 86) hC.1 hC.2.1 dX6_leaveTheRest_110 (by decide) ?_
      exact hk86 y3 L2 hf _ _ _ hR hS (lv_sub hl [1, 0] rfl)
set_option maxRecDepth 20000 in
theorem W_X6_leaveTheRest_l10 {G : XG} {l : Launch} {kp : Bool} {p : Program} {e : Env} {s : State} {m : MethodId} {args : Array Value} {below : List Frame} {meth : Method} {c : Code} (hC : xC G p s m args meth c cX6_leaveTheRest 5 RX6 none) (N : Nat) {I : xTI} {rL : xTL} {x1 : Int32} (k2 : Int32 × xTL → Option (xTL)) (hk2 : ∀ (x1 : Int32) (L : xTL) , k2 (x1, L) = some rL → ∀ (H : Heap) (locs : List Loc) (ls : Array Slot), xRep G kp I L H → xS G s.heap H locs → lv_has ls 5 [(0, .ref (xz G + 41)), (1, .int x1)] → W p l e (xrm 1 25) s m args below meth c H locs 0 0 (xMQ G kp below args s none I rL) (F0 m 2 ls [])) : ∀ (n : Nat) (x2 : Int32) (L : xTL) , xlp (F_X6_leaveTheRest_b10 k2 N x1 ) n (x2, L) = some rL → ∀ (H : Heap) (locs : List Loc) (ls : Array Slot), xRep G kp I L H → xS G s.heap H locs → lv_has ls 5 [(0, .ref (xz G + 41)), (1, .int x1), (2, .int x2)] → W p l e (xrm 1 25) s m args below meth c H locs 0 0 (xMQ G kp below args s none I rL) (F0 m 10 ls []) := by
  intro n
  induction n with
  | zero =>
    intro x2 L hf
    cases hf
  | succ n hk10 =>
    intro x2 L hf H locs ls hR hS hl
    rw [xlp_s, E_X6_leaveTheRest_b10] at hf
    unfold F_X6_leaveTheRest_c10 at hf
    refine lv_iload_n hC.1 hC.2.1 dX6_leaveTheRest_10 rfl (lv_at hl 2 rfl) ?_
    refine lv_iload_n hC.1 hC.2.1 dX6_leaveTheRest_11 rfl (lv_at hl 1 rfl) ?_
    refine x_ic_ge (tgt := 78) hC dX6_leaveTheRest_12 (by decide) hf (fun hf => ?_) (fun hf => ?_)
    · refine x_iinc (d := 1) (lv' := fun y1 => [(1, .int y1), (0, .ref (xz G + 41)), (2, .int x2)]) (k := 1) hC hl dX6_leaveTheRest_78 rfl (by decide) (Nat.le_of_ble_eq_true rfl) hf (fun _ => rfl) (fun y1 hf ls hl => ?_)
      refine lv_goto (tgt := 2) hC.1 hC.2.1 dX6_leaveTheRest_81 (by decide) ?_
      exact hk2 y1 L hf _ _ _ hR hS (lv_sub hl [1, 0] rfl)
    · refine lv_aload_n hC.1 hC.2.1 dX6_leaveTheRest_15 rfl (lv_at hl 0 rfl) ?_
      refine x_get (v := .ref (xz G + 42)) hC xf_X6_11 (xce_41 G kp _ _) rfl hR dX6_leaveTheRest_16 ?_
      refine lv_iload_n hC.1 hC.2.1 dX6_leaveTheRest_19 rfl (lv_at hl 1 rfl) ?_
      refine lv_bipush (v := 13) hC.1 hC.2.1 dX6_leaveTheRest_20 (by decide) ?_
      refine lv_imul hC.1 hC.2.1 dX6_leaveTheRest_22 ?_
      refine lv_iload_n hC.1 hC.2.1 dX6_leaveTheRest_23 rfl (lv_at hl 2 rfl) ?_
      refine lv_iadd hC.1 hC.2.1 dX6_leaveTheRest_24 ?_
      refine x_lal hC (xce_42 G kp _ _) hR dX6_leaveTheRest_25 hf (fun v2 hf => ?_)
      refine lv_aload_n hC.1 hC.2.1 dX6_leaveTheRest_26 rfl (lv_at hl 0 rfl) ?_
      refine x_get (v := .ref (xz G + 42)) hC xf_X6_11 (xce_41 G kp _ _) rfl hR dX6_leaveTheRest_27 ?_
      refine lv_iload_n hC.1 hC.2.1 dX6_leaveTheRest_30 rfl (lv_at hl 2 rfl) ?_
      refine W.eq (g2 := F0 m 31 ls [.int x2, .ref (xz G + 42), .long v2]) rfl ?_
      refine lv_bipush (v := 13) hC.1 hC.2.1 dX6_leaveTheRest_31 (by decide) ?_
      refine lv_imul hC.1 hC.2.1 dX6_leaveTheRest_33 ?_
      refine lv_iload_n hC.1 hC.2.1 dX6_leaveTheRest_34 rfl (lv_at hl 1 rfl) ?_
      refine lv_iadd hC.1 hC.2.1 dX6_leaveTheRest_35 ?_
      refine x_lal hC (xce_42 G kp _ _) hR dX6_leaveTheRest_36 hf (fun v3 hf => ?_)
      refine lv_lsub hC.1 hC.2.1 dX6_leaveTheRest_37 ?_
      refine x_lstn (lv' := fun y4 => [(3, .long y4), (0, .ref (xz G + 41)), (1, .int x1), (2, .int x2)]) hC hl dX6_leaveTheRest_38 rfl (Nat.le_of_ble_eq_true rfl) hf (fun _ => rfl) (fun y4 hf ls hl => ?_)
      refine lv_aload_n hC.1 hC.2.1 dX6_leaveTheRest_39 rfl (lv_at hl 1 rfl) ?_
      refine x_get (v := .ref (xz G + 42)) hC xf_X6_11 (xce_41 G kp _ _) rfl hR dX6_leaveTheRest_40 ?_
      refine lv_iload_n hC.1 hC.2.1 dX6_leaveTheRest_43 rfl (lv_at hl 2 rfl) ?_
      refine lv_bipush (v := 13) hC.1 hC.2.1 dX6_leaveTheRest_44 (by decide) ?_
      refine lv_imul hC.1 hC.2.1 dX6_leaveTheRest_46 ?_
      refine W.eq (g2 := F0 m 47 ls [.int (x1 * 13), .ref (xz G + 42)]) rfl ?_
      refine lv_iload_n hC.1 hC.2.1 dX6_leaveTheRest_47 rfl (lv_at hl 3 rfl) ?_
      refine lv_iadd hC.1 hC.2.1 dX6_leaveTheRest_48 ?_
      refine lv_lload_n hC.1 hC.2.1 dX6_leaveTheRest_49 rfl (lv_at hl 0 rfl) ?_
      refine lv_lconst (v := 0) hC.1 hC.2.1 dX6_leaveTheRest_50 (by decide) ?_
      refine x_mxl (rest := [.int ((x1 * 13) + x2), .ref (xz G + 42)]) hC tw_959 hl.1 (Nat.le_of_ble_eq_true rfl) (Nat.le_of_ble_eq_true rfl) dX6_leaveTheRest_51 ⟨Nat.le_refl _, Nat.le_refl _⟩ hf (fun v5 hf => ?_)
      refine x_las hC (fun f => (xce_42 G kp _ f)) hR hS dX6_leaveTheRest_54 hf (fun L6 hf H locs hR hS => ?_)
      refine lv_aload_n hC.1 hC.2.1 dX6_leaveTheRest_55 rfl (lv_at hl 1 rfl) ?_
      refine x_get (v := .ref (xz G + 42)) hC xf_X6_11 (xce_41 G kp _ _) rfl hR dX6_leaveTheRest_56 ?_
      refine lv_iload_n hC.1 hC.2.1 dX6_leaveTheRest_59 rfl (lv_at hl 3 rfl) ?_
      refine lv_bipush (v := 13) hC.1 hC.2.1 dX6_leaveTheRest_60 (by decide) ?_
      refine lv_imul hC.1 hC.2.1 dX6_leaveTheRest_62 ?_
      refine lv_iload_n hC.1 hC.2.1 dX6_leaveTheRest_63 rfl (lv_at hl 2 rfl) ?_
      refine W.eq (g2 := F0 m 64 ls [.int x1, .int (x2 * 13), .ref (xz G + 42)]) rfl ?_
      refine lv_iadd hC.1 hC.2.1 dX6_leaveTheRest_64 ?_
      refine lv_lload_n hC.1 hC.2.1 dX6_leaveTheRest_65 rfl (lv_at hl 0 rfl) ?_
      refine lv_lneg hC.1 hC.2.1 dX6_leaveTheRest_66 ?_
      refine lv_lconst (v := 0) hC.1 hC.2.1 dX6_leaveTheRest_67 (by decide) ?_
      refine x_mxl (rest := [.int ((x2 * 13) + x1), .ref (xz G + 42)]) hC tw_959 hl.1 (Nat.le_of_ble_eq_true rfl) (Nat.le_of_ble_eq_true rfl) dX6_leaveTheRest_68 ⟨Nat.le_refl _, Nat.le_refl _⟩ hf (fun v7 hf => ?_)
      refine x_las hC (fun f => (xce_42 G kp _ f)) hR hS dX6_leaveTheRest_71 hf (fun L8 hf H locs hR hS => ?_)
      refine x_iinc (d := 1) (lv' := fun y9 => [(2, .int y9), (3, .long y4), (0, .ref (xz G + 41)), (1, .int x1)]) (k := 3) hC hl dX6_leaveTheRest_72 rfl (by decide) (Nat.le_of_ble_eq_true rfl) hf (fun _ => rfl) (fun y9 hf ls hl => ?_)
      refine lv_goto (tgt := 10) hC.1 hC.2.1 dX6_leaveTheRest_75 (by decide) ?_
      exact hk10 y9 L8 hf _ _ _ hR hS (lv_sub hl [2, 3, 0] rfl)
set_option maxRecDepth 20000 in
theorem W_X6_leaveTheRest_l2 {G : XG} {l : Launch} {kp : Bool} {p : Program} {e : Env} {s : State} {m : MethodId} {args : Array Value} {below : List Frame} {meth : Method} {c : Code} (hC : xC G p s m args meth c cX6_leaveTheRest 5 RX6 none) (N : Nat) {I : xTI} {rL : xTL} : ∀ (n : Nat) (x1 : Int32) (L : xTL) , xlp (F_X6_leaveTheRest_b2 N ) n (x1, L) = some rL → ∀ (H : Heap) (locs : List Loc) (ls : Array Slot), xRep G kp I L H → xS G s.heap H locs → lv_has ls 5 [(0, .ref (xz G + 41)), (1, .int x1)] → W p l e (xrm 1 25) s m args below meth c H locs 0 0 (xMQ G kp below args s none I rL) (F0 m 2 ls []) := by
  intro n
  induction n with
  | zero =>
    intro x1 L hf
    cases hf
  | succ n hk2 =>
    intro x1 L hf H locs ls hR hS hl
    rw [xlp_s, E_X6_leaveTheRest_b2] at hf
    unfold F_X6_leaveTheRest_c2 at hf
    refine lv_iload_n hC.1 hC.2.1 dX6_leaveTheRest_2 rfl (lv_at hl 1 rfl) ?_
    refine lv_bipush (v := 12) hC.1 hC.2.1 dX6_leaveTheRest_3 (by decide) ?_
    refine x_ic_ge (tgt := 84) hC dX6_leaveTheRest_5 (by decide) hf (fun hf => ?_) (fun hf => ?_)
    · refine lv_iconst (v := 0) hC.1 hC.2.1 dX6_leaveTheRest_84 (by decide) ?_
      refine lv_istore_n (lv' := [(1, .int 0), (0, .ref (xz G + 41))]) hC.1 hC.2.1 dX6_leaveTheRest_85 rfl hl (Nat.le_of_ble_eq_true rfl) rfl (fun ls hl => ?_)
      exact W_X6_leaveTheRest_l86 hC N _ 0 L hf _ _ _ hR hS (lv_sub hl [1, 0] rfl)
    · refine lv_iconst (v := 0) hC.1 hC.2.1 dX6_leaveTheRest_8 (by decide) ?_
      refine lv_istore_n (lv' := [(2, .int 0), (0, .ref (xz G + 41)), (1, .int x1)]) hC.1 hC.2.1 dX6_leaveTheRest_9 rfl hl (Nat.le_of_ble_eq_true rfl) rfl (fun ls hl => ?_)
      exact W_X6_leaveTheRest_l10 hC N _ hk2 _ 0 L hf _ _ _ hR hS (lv_sub hl [1, 2, 0] rfl)
set_option maxRecDepth 20000 in
theorem M_X6_leaveTheRest (G : XG) (l : Launch) (kp : Bool) (N : Nat) {I : xTI} {L : xTL} {rL : xTL} (hf : F_X6_leaveTheRest N L = some rL) : xMet G l yX6_leaveTheRest cX6_leaveTheRest 5 none 1 25 kp [.ref (xz G + 41)] I L none I rL := by
  refine xMet.ofW (by decide +kernel) (Nat.le_of_ble_eq_true rfl) ?_
  intro p e s m args below meth c hC H locs ls hR hS hl
  replace hC : xC G p s m args meth c cX6_leaveTheRest 5 RX6 none := hC
  replace hl : lv_has ls 5 [(0, .ref (xz G + 41))] := hl
  unfold F_X6_leaveTheRest at hf
  refine lv_iconst (v := 0) hC.1 hC.2.1 dX6_leaveTheRest_0 (by decide) ?_
  refine lv_istore_n (lv' := [(1, .int 0), (0, .ref (xz G + 41))]) hC.1 hC.2.1 dX6_leaveTheRest_1 rfl hl (Nat.le_of_ble_eq_true rfl) rfl (fun ls hl => ?_)
  exact W_X6_leaveTheRest_l2 hC N _ 0 L hf _ _ _ hR hS (lv_sub hl [1, 0] rfl)
set_option maxRecDepth 20000 in
theorem W_J7_fill_d0a16_43_l6 {G : XG} {l : Launch} {kp : Bool} {p : Program} {e : Env} {s : State} {m : MethodId} {args : Array Value} {below : List Frame} {meth : Method} {c : Code} (hC : xC G p s m args meth c cJ7_fill_d0a16 5 RJ7 none) (N : Nat) {I : xTI} {rL : xTL} {x1 : Int64} {x4 : Int32} : ∀ (n : Nat) (x3 : Int32) (L : xTL) , xlp (F_J7_fill_d0a16_43_b6 N x1 x4 ) n (x3, L) = some rL → ∀ (H : Heap) (locs : List Loc) (ls : Array Slot), xRep G kp I L H → xS G s.heap H locs → lv_has ls 5 [(0, .ref (xz G + 43)), (1, .long x1), (3, .int x3), (4, .int x4)] → W p l e (xrm 0 0) s m args below meth c H locs 0 0 (xMQ G kp below args s none I rL) (F0 m 6 ls []) := by
  intro n
  induction n with
  | zero =>
    intro x3 L hf
    cases hf
  | succ n hk6 =>
    intro x3 L hf H locs ls hR hS hl
    rw [xlp_s, E_J7_fill_d0a16_43_b6] at hf
    unfold F_J7_fill_d0a16_43_c6 at hf
    refine lv_iload_n hC.1 hC.2.1 dJ7_fill_d0a16_6 rfl (lv_at hl 2 rfl) ?_
    refine lv_iload hC.1 hC.2.1 dJ7_fill_d0a16_7 (lv_at hl 3 rfl) ?_
    refine x_ic_ge (tgt := 22) hC dJ7_fill_d0a16_9 (by decide) hf (fun hf => ?_) (fun hf => ?_)
    · have h9 := Option.some.inj hf
      subst h9
      exact x_vret hC hR hS dJ7_fill_d0a16_22
    · refine lv_aload_n hC.1 hC.2.1 dJ7_fill_d0a16_12 rfl (lv_at hl 0 rfl) ?_
      refine lv_iload_n hC.1 hC.2.1 dJ7_fill_d0a16_13 rfl (lv_at hl 2 rfl) ?_
      refine lv_lload_n hC.1 hC.2.1 dJ7_fill_d0a16_14 rfl (lv_at hl 1 rfl) ?_
      refine x_las hC (fun f => (xce_43 G kp _ f)) hR hS dJ7_fill_d0a16_15 hf (fun L1 hf H locs hR hS => ?_)
      refine x_iinc (d := 1) (lv' := fun y2 => [(3, .int y2), (0, .ref (xz G + 43)), (1, .long x1), (4, .int x4)]) (k := 2) hC hl dJ7_fill_d0a16_16 rfl (by decide) (Nat.le_of_ble_eq_true rfl) hf (fun _ => rfl) (fun y2 hf ls hl => ?_)
      refine lv_goto (tgt := 6) hC.1 hC.2.1 dJ7_fill_d0a16_19 (by decide) ?_
      exact hk6 y2 L1 hf _ _ _ hR hS (lv_sub hl [1, 2, 0, 3] rfl)
set_option maxRecDepth 20000 in
theorem M_J7_fill_d0a16_43 (G : XG) (l : Launch) (kp : Bool) (N : Nat) {I : xTI} {L : xTL} {x1 : Int64} {rL : xTL} (hf : F_J7_fill_d0a16_43 N L x1 = some rL) : xMet G l yJ7_fill_d0a16 cJ7_fill_d0a16 5 none 0 0 kp [.ref (xz G + 43), .long x1] I L none I rL := by
  refine xMet.ofW (by decide +kernel) (Nat.le_of_ble_eq_true rfl) ?_
  intro p e s m args below meth c hC H locs ls hR hS hl
  replace hC : xC G p s m args meth c cJ7_fill_d0a16 5 RJ7 none := hC
  replace hl : lv_has ls 5 [(0, .ref (xz G + 43)), (1, .long x1)] := hl
  unfold F_J7_fill_d0a16_43 at hf
  refine lv_iconst (v := 0) hC.1 hC.2.1 dJ7_fill_d0a16_0 (by decide) ?_
  refine lv_istore_n (lv' := [(3, .int 0), (0, .ref (xz G + 43)), (1, .long x1)]) hC.1 hC.2.1 dJ7_fill_d0a16_1 rfl hl (Nat.le_of_ble_eq_true rfl) rfl (fun ls hl => ?_)
  refine lv_aload_n hC.1 hC.2.1 dJ7_fill_d0a16_2 rfl (lv_at hl 1 rfl) ?_
  refine x_alen_l (v := 156) hC (xce_43 G kp _ _) rfl hR dJ7_fill_d0a16_3 ?_
  refine lv_istore (lv' := [(4, .int 156), (3, .int 0), (0, .ref (xz G + 43)), (1, .long x1)]) hC.1 hC.2.1 dJ7_fill_d0a16_4 hl (Nat.le_of_ble_eq_true rfl) rfl (fun ls hl => ?_)
  exact W_J7_fill_d0a16_43_l6 hC N _ 0 L hf _ _ _ hR hS (lv_sub hl [2, 3, 1, 0] rfl)
set_option maxRecDepth 20000 in
theorem W_X6_sumTo_44_l5 {G : XG} {l : Launch} {kp : Bool} {p : Program} {e : Env} {s : State} {m : MethodId} {args : Array Value} {below : List Frame} {meth : Method} {c : Code} (hC : xC G p s m args meth c cX6_sumTo 6 RX6 (some .long)) (N : Nat) {I : xTI} {L : xTL} {r : Int64} {x2 : Int32} : ∀ (n : Nat) (x3 : Int64) (x5 : Int32) , xlp (F_X6_sumTo_44_b5 N L x2 ) n (x3, x5) = some r → ∀ (H : Heap) (locs : List Loc) (ls : Array Slot), xRep G kp I L H → xS G s.heap H locs → lv_has ls 6 [(1, .ref (xz G + 44)), (2, .int x2), (3, .long x3), (5, .int x5)] → W p l e (xrm 0 0) s m args below meth c H locs 0 0 (xMQ G kp below args s (some (.long r)) I L) (F0 m 5 ls []) := by
  intro n
  induction n with
  | zero =>
    intro x3 x5 hf
    cases hf
  | succ n hk5 =>
    intro x3 x5 hf H locs ls hR hS hl
    rw [xlp_s, E_X6_sumTo_44_b5] at hf
    unfold F_X6_sumTo_44_c5 at hf
    refine lv_iload hC.1 hC.2.1 dX6_sumTo_5 (lv_at hl 3 rfl) ?_
    refine lv_bipush (v := 12) hC.1 hC.2.1 dX6_sumTo_7 (by decide) ?_
    refine x_ic_ge (tgt := 30) hC dX6_sumTo_9 (by decide) hf (fun hf => ?_) (fun hf => ?_)
    · refine lv_lload_n hC.1 hC.2.1 dX6_sumTo_30 rfl (lv_at hl 2 rfl) ?_
      have h9 := Option.some.inj hf
      subst h9
      exact x_lret hC hR hS dX6_sumTo_31
    · refine lv_lload_n hC.1 hC.2.1 dX6_sumTo_12 rfl (lv_at hl 2 rfl) ?_
      refine lv_aload_n hC.1 hC.2.1 dX6_sumTo_13 rfl (lv_at hl 0 rfl) ?_
      refine lv_iload hC.1 hC.2.1 dX6_sumTo_14 (lv_at hl 3 rfl) ?_
      refine lv_bipush (v := 13) hC.1 hC.2.1 dX6_sumTo_16 (by decide) ?_
      refine lv_imul hC.1 hC.2.1 dX6_sumTo_18 ?_
      refine lv_iload_n hC.1 hC.2.1 dX6_sumTo_19 rfl (lv_at hl 1 rfl) ?_
      refine lv_iadd hC.1 hC.2.1 dX6_sumTo_20 ?_
      refine x_lal hC (xce_44 G kp _ _) hR dX6_sumTo_21 hf (fun v1 hf => ?_)
      refine lv_ladd hC.1 hC.2.1 dX6_sumTo_22 ?_
      refine x_lstn (lv' := fun y2 => [(3, .long y2), (1, .ref (xz G + 44)), (2, .int x2), (5, .int x5)]) hC hl dX6_sumTo_23 rfl (Nat.le_of_ble_eq_true rfl) hf (fun _ => rfl) (fun y2 hf ls hl => ?_)
      refine x_iinc (d := 1) (lv' := fun y3 => [(5, .int y3), (3, .long y2), (1, .ref (xz G + 44)), (2, .int x2)]) (k := 3) hC hl dX6_sumTo_24 rfl (by decide) (Nat.le_of_ble_eq_true rfl) hf (fun _ => rfl) (fun y3 hf ls hl => ?_)
      refine W.eq (g2 := F0 m 27 ls []) rfl ?_
      refine lv_goto (tgt := 5) hC.1 hC.2.1 dX6_sumTo_27 (by decide) ?_
      exact hk5 y2 y3 hf _ _ _ hR hS (lv_sub hl [2, 3, 1, 0] rfl)
set_option maxRecDepth 20000 in
theorem M_X6_sumTo_44 (G : XG) (l : Launch) (kp : Bool) (N : Nat) {I : xTI} {L : xTL} {x2 : Int32} {r : Int64} (hf : F_X6_sumTo_44 N L x2 = some r) : xMet G l yX6_sumTo cX6_sumTo 6 (some .long) 0 0 kp [.ref (xz G + 41), .ref (xz G + 44), .int x2] I L (some (.long r)) I L := by
  refine xMet.ofW (by decide +kernel) (Nat.le_of_ble_eq_true rfl) ?_
  intro p e s m args below meth c hC H locs ls hR hS hl
  replace hC : xC G p s m args meth c cX6_sumTo 6 RX6 (some .long) := hC
  replace hl : lv_has ls 6 [(0, .ref (xz G + 41)), (1, .ref (xz G + 44)), (2, .int x2)] := hl
  unfold F_X6_sumTo_44 at hf
  refine lv_lconst (v := 0) hC.1 hC.2.1 dX6_sumTo_0 (by decide) ?_
  refine lv_lstore_n (lv' := [(3, .long 0), (0, .ref (xz G + 41)), (1, .ref (xz G + 44)), (2, .int x2)]) hC.1 hC.2.1 dX6_sumTo_1 rfl hl (Nat.le_of_ble_eq_true rfl) rfl (fun ls hl => ?_)
  refine lv_iconst (v := 0) hC.1 hC.2.1 dX6_sumTo_2 (by decide) ?_
  refine lv_istore (lv' := [(5, .int 0), (3, .long 0), (0, .ref (xz G + 41)), (1, .ref (xz G + 44)), (2, .int x2)]) hC.1 hC.2.1 dX6_sumTo_3 hl (Nat.le_of_ble_eq_true rfl) rfl (fun ls hl => ?_)
  exact W_X6_sumTo_44_l5 hC N _ 0 0 hf _ _ _ hR hS (lv_sub hl [3, 4, 1, 0] rfl)
set_option maxRecDepth 20000 in
theorem M_X6_part (G : XG) (l : Launch) (kp : Bool) {I : xTI} {L : xTL} {x0 : Int64} {x2 : Int64} {x4 : Int64} {r : Int64} (hf : F_X6_part x0 x2 x4 = some r) : xMet G l yX6_part cX6_part 10 (some .long) 0 0 kp [.long x0, .long x2, .long x4] I L (some (.long r)) I L := by
  refine xMet.ofW (by decide +kernel) (Nat.le_of_ble_eq_true rfl) ?_
  intro p e s m args below meth c hC H locs ls hR hS hl
  replace hC : xC G p s m args meth c cX6_part 10 RX6 (some .long) := hC
  replace hl : lv_has ls 10 [(0, .long x0), (2, .long x2), (4, .long x4)] := hl
  unfold F_X6_part at hf
  refine lv_lload hC.1 hC.2.1 dX6_part_0 (lv_at hl 2 rfl) ?_
  refine lv_lconst (v := 0) hC.1 hC.2.1 dX6_part_2 (by decide) ?_
  refine W.lcmp hC.1 hC.2.1 dX6_part_3 ?_
  refine x_if_gt (tgt := 9) hC dX6_part_4 (by decide) hf (fun hf => ?_) (fun hf => ?_)
  · refine lv_lload_n hC.1 hC.2.1 dX6_part_9 rfl (lv_at hl 0 rfl) ?_
    refine lv_lload_n hC.1 hC.2.1 dX6_part_10 rfl (lv_at hl 1 rfl) ?_
    refine lv_bipush (v := 20) hC.1 hC.2.1 dX6_part_11 (by decide) ?_
    refine lv_lshr hC.1 hC.2.1 dX6_part_13 rfl ?_
    refine lv_lmul hC.1 hC.2.1 dX6_part_14 ?_
    refine x_lst (lv' := fun y1 => [(6, .long y1), (0, .long x0), (2, .long x2), (4, .long x4)]) hC hl dX6_part_15 (Nat.le_of_ble_eq_true rfl) hf (fun _ => rfl) (fun y1 hf ls hl => ?_)
    refine lv_lload_n hC.1 hC.2.1 dX6_part_17 rfl (lv_at hl 1 rfl) ?_
    refine lv_lload_n hC.1 hC.2.1 dX6_part_18 rfl (lv_at hl 2 rfl) ?_
    refine x_ldc2 (v := 1048575) hC tw_980 dX6_part_19 ?_
    refine lv_land hC.1 hC.2.1 dX6_part_22 ?_
    refine lv_lmul hC.1 hC.2.1 dX6_part_23 ?_
    refine W.eq (g2 := F0 m 24 ls [.long (x0 * (x2 &&& 1048575))]) rfl ?_
    refine x_lst (lv' := fun y2 => [(8, .long y2), (6, .long y1), (0, .long x0), (2, .long x2), (4, .long x4)]) hC hl dX6_part_24 (Nat.le_of_ble_eq_true rfl) hf (fun _ => rfl) (fun y2 hf ls hl => ?_)
    refine lv_lload hC.1 hC.2.1 dX6_part_26 (lv_at hl 1 rfl) ?_
    refine lv_lload hC.1 hC.2.1 dX6_part_28 (lv_at hl 4 rfl) ?_
    refine x_ldiv hC dX6_part_30 hf (fun v3 hf => ?_)
    refine lv_bipush (v := 20) hC.1 hC.2.1 dX6_part_31 (by decide) ?_
    refine lv_lshl hC.1 hC.2.1 dX6_part_33 rfl ?_
    refine lv_lload hC.1 hC.2.1 dX6_part_34 (lv_at hl 1 rfl) ?_
    refine lv_lload hC.1 hC.2.1 dX6_part_36 (lv_at hl 4 rfl) ?_
    refine x_lrem hC dX6_part_38 hf (fun v4 hf => ?_)
    refine lv_bipush (v := 20) hC.1 hC.2.1 dX6_part_39 (by decide) ?_
    refine lv_lshl hC.1 hC.2.1 dX6_part_41 rfl ?_
    refine lv_lload hC.1 hC.2.1 dX6_part_42 (lv_at hl 0 rfl) ?_
    refine W.eq (g2 := F0 m 44 ls [.long y2, .long (v4 <<< ((20 : Int32).toInt64 &&& 63)), .long (v3 <<< ((20 : Int32).toInt64 &&& 63))]) rfl ?_
    refine lv_ladd hC.1 hC.2.1 dX6_part_44 ?_
    refine lv_lload hC.1 hC.2.1 dX6_part_45 (lv_at hl 4 rfl) ?_
    refine x_ldiv hC dX6_part_47 hf (fun v5 hf => ?_)
    refine lv_ladd hC.1 hC.2.1 dX6_part_48 ?_
    have h9 := Option.some.inj hf
    subst h9
    exact x_lret hC hR hS dX6_part_49
  · refine lv_lconst (v := 0) hC.1 hC.2.1 dX6_part_7 (by decide) ?_
    have h9 := Option.some.inj hf
    subst h9
    exact x_lret hC hR hS dX6_part_8
set_option maxRecDepth 20000 in
theorem W_X6_payOf_j66 {G : XG} {l : Launch} {kp : Bool} {p : Program} {e : Env} {s : State} {m : MethodId} {args : Array Value} {below : List Frame} {meth : Method} {c : Code} (hC : xC G p s m args meth c cX6_payOf 7 RX6 (some .boolean)) (N : Nat) {I : xTI} {L : xTL} {r : Int32} {rL : xTL} {x1 : Int32} {x2 : Int64} {x4 : Int32} {x5 : Int32} {x6 : Int32} {t1 : Int32} {t2 : Int64} (k6 : Int32 × Int32 × xTL → Option (Int32 × xTL)) (hk6 : ∀ (x4 : Int32) (x5 : Int32) (L : xTL) , k6 (x4, x5, L) = some (r, rL) → ∀ (H : Heap) (locs : List Loc) (ls : Array Slot), xRep G kp I L H → xS G s.heap H locs → lv_has ls 7 [(0, .ref (xz G + 41)), (1, .int x1), (2, .long x2), (4, .int x4), (5, .int x5)] → W p l e (xrm 1 29) s m args below meth c H locs 0 0 (xMQ G kp below args s (some (.int r)) I rL) (F0 m 6 ls [])) (hf : F_X6_payOf_j66 k6 N L x1 x2 x4 x5 x6 t1 t2 = some (r, rL)) : ∀ (H : Heap) (locs : List Loc) (ls : Array Slot), xRep G kp I L H → xS G s.heap H locs → lv_has ls 7 [(0, .ref (xz G + 41)), (1, .int x1), (2, .long x2), (4, .int x4), (5, .int x5), (6, .int x6)] → W p l e (xrm 1 29) s m args below meth c H locs 0 0 (xMQ G kp below args s (some (.int r)) I rL) (F0 m 66 ls [.long t2, .int t1, .ref (xz G + 43)]) := by
  intro H locs ls hR hS hl
  unfold F_X6_payOf_j66 at hf
  refine x_las hC (fun f => (xce_43 G kp _ f)) hR hS dX6_payOf_66 hf (fun L1 hf H locs hR hS => ?_)
  refine lv_iload hC.1 hC.2.1 dX6_payOf_67 (lv_at hl 3 rfl) ?_
  refine x_if_ne (tgt := 90) hC dX6_payOf_69 (by decide) hf (fun hf => ?_) (fun hf => ?_)
  · refine lv_iconst (v := 1) hC.1 hC.2.1 dX6_payOf_90 (by decide) ?_
    refine lv_goto (tgt := 95) hC.1 hC.2.1 dX6_payOf_91 (by decide) ?_
    refine lv_istore (lv' := [(4, .int 1), (0, .ref (xz G + 41)), (1, .int x1), (2, .long x2), (5, .int x5), (6, .int x6)]) hC.1 hC.2.1 dX6_payOf_95 hl (Nat.le_of_ble_eq_true rfl) rfl (fun ls hl => ?_)
    refine x_iinc (d := 1) (lv' := fun y2 => [(5, .int y2), (4, .int 1), (0, .ref (xz G + 41)), (1, .int x1), (2, .long x2), (6, .int x6)]) (k := 4) hC hl dX6_payOf_97 rfl (by decide) (Nat.le_of_ble_eq_true rfl) hf (fun _ => rfl) (fun y2 hf ls hl => ?_)
    refine lv_goto (tgt := 6) hC.1 hC.2.1 dX6_payOf_100 (by decide) ?_
    exact hk6 1 y2 L1 hf _ _ _ hR hS (lv_sub hl [2, 3, 4, 1, 0] rfl)
  · refine lv_aload_n hC.1 hC.2.1 dX6_payOf_72 rfl (lv_at hl 0 rfl) ?_
    refine x_get (v := .ref (xz G + 43)) hC xf_X6_15 (xce_41 G kp _ _) rfl hR dX6_payOf_73 ?_
    refine lv_iload hC.1 hC.2.1 dX6_payOf_76 (lv_at hl 5 rfl) ?_
    refine x_lal hC (xce_43 G kp _ _) hR dX6_payOf_78 hf (fun v3 hf => ?_)
    refine lv_aload_n hC.1 hC.2.1 dX6_payOf_79 rfl (lv_at hl 0 rfl) ?_
    refine x_get (v := .ref (xz G + 44)) hC xf_X6_18 (xce_41 G kp _ _) rfl hR dX6_payOf_80 ?_
    refine lv_iload hC.1 hC.2.1 dX6_payOf_83 (lv_at hl 5 rfl) ?_
    refine x_lal hC (xce_44 G kp _ _) hR dX6_payOf_85 hf (fun v4 hf => ?_)
    refine W.lcmp hC.1 hC.2.1 dX6_payOf_86 ?_
    refine x_if_eq (tgt := 94) hC dX6_payOf_87 (by decide) hf (fun hf => ?_) (fun hf => ?_)
    · refine lv_iconst (v := 0) hC.1 hC.2.1 dX6_payOf_94 (by decide) ?_
      refine lv_istore (lv' := [(4, .int 0), (0, .ref (xz G + 41)), (1, .int x1), (2, .long x2), (5, .int x5), (6, .int x6)]) hC.1 hC.2.1 dX6_payOf_95 hl (Nat.le_of_ble_eq_true rfl) rfl (fun ls hl => ?_)
      refine x_iinc (d := 1) (lv' := fun y5 => [(5, .int y5), (4, .int 0), (0, .ref (xz G + 41)), (1, .int x1), (2, .long x2), (6, .int x6)]) (k := 4) hC hl dX6_payOf_97 rfl (by decide) (Nat.le_of_ble_eq_true rfl) hf (fun _ => rfl) (fun y5 hf ls hl => ?_)
      refine lv_goto (tgt := 6) hC.1 hC.2.1 dX6_payOf_100 (by decide) ?_
      exact hk6 0 y5 L1 hf _ _ _ hR hS (lv_sub hl [2, 3, 4, 1, 0] rfl)
    · refine lv_iconst (v := 1) hC.1 hC.2.1 dX6_payOf_90 (by decide) ?_
      refine lv_goto (tgt := 95) hC.1 hC.2.1 dX6_payOf_91 (by decide) ?_
      refine lv_istore (lv' := [(4, .int 1), (0, .ref (xz G + 41)), (1, .int x1), (2, .long x2), (5, .int x5), (6, .int x6)]) hC.1 hC.2.1 dX6_payOf_95 hl (Nat.le_of_ble_eq_true rfl) rfl (fun ls hl => ?_)
      refine x_iinc (d := 1) (lv' := fun y6 => [(5, .int y6), (4, .int 1), (0, .ref (xz G + 41)), (1, .int x1), (2, .long x2), (6, .int x6)]) (k := 4) hC hl dX6_payOf_97 rfl (by decide) (Nat.le_of_ble_eq_true rfl) hf (fun _ => rfl) (fun y6 hf ls hl => ?_)
      refine lv_goto (tgt := 6) hC.1 hC.2.1 dX6_payOf_100 (by decide) ?_
      exact hk6 1 y6 L1 hf _ _ _ hR hS (lv_sub hl [2, 3, 4, 1, 0] rfl)
set_option maxRecDepth 20000 in
theorem W_X6_payOf_l6 {G : XG} {l : Launch} {kp : Bool} {p : Program} {e : Env} {s : State} {m : MethodId} {args : Array Value} {below : List Frame} {meth : Method} {c : Code} (hC : xC G p s m args meth c cX6_payOf 7 RX6 (some .boolean)) (N : Nat) {I : xTI} {r : Int32} {rL : xTL} {x1 : Int32} {x2 : Int64} : ∀ (n : Nat) (x4 : Int32) (x5 : Int32) (L : xTL) , xlp (F_X6_payOf_b6 N x1 x2 ) n (x4, x5, L) = some (r, rL) → ∀ (H : Heap) (locs : List Loc) (ls : Array Slot), xRep G kp I L H → xS G s.heap H locs → lv_has ls 7 [(0, .ref (xz G + 41)), (1, .int x1), (2, .long x2), (4, .int x4), (5, .int x5)] → W p l e (xrm 1 29) s m args below meth c H locs 0 0 (xMQ G kp below args s (some (.int r)) I rL) (F0 m 6 ls []) := by
  intro n
  induction n with
  | zero =>
    intro x4 x5 L hf
    cases hf
  | succ n hk6 =>
    intro x4 x5 L hf H locs ls hR hS hl
    rw [xlp_s, E_X6_payOf_b6] at hf
    unfold F_X6_payOf_c6 at hf
    refine lv_iload hC.1 hC.2.1 dX6_payOf_6 (lv_at hl 4 rfl) ?_
    refine lv_bipush (v := 13) hC.1 hC.2.1 dX6_payOf_8 (by decide) ?_
    refine x_ic_ge (tgt := 103) hC dX6_payOf_10 (by decide) hf (fun hf => ?_) (fun hf => ?_)
    · refine lv_iload hC.1 hC.2.1 dX6_payOf_103 (lv_at hl 3 rfl) ?_
      obtain ⟨h01, hf⟩ := xzc_some hf
      obtain ⟨h91, h92⟩ := Prod.mk.inj (Option.some.inj hf)
      subst h91
      subst h92
      exact x_zret h01 hC hR hS dX6_payOf_105
    · refine lv_iload_n hC.1 hC.2.1 dX6_payOf_13 rfl (lv_at hl 1 rfl) ?_
      refine lv_bipush (v := 13) hC.1 hC.2.1 dX6_payOf_14 (by decide) ?_
      refine lv_imul hC.1 hC.2.1 dX6_payOf_16 ?_
      refine lv_iload hC.1 hC.2.1 dX6_payOf_17 (lv_at hl 4 rfl) ?_
      refine lv_iadd hC.1 hC.2.1 dX6_payOf_19 ?_
      refine x_ist (lv' := fun y1 => [(6, .int y1), (0, .ref (xz G + 41)), (1, .int x1), (2, .long x2), (4, .int x4), (5, .int x5)]) hC hl dX6_payOf_20 (Nat.le_of_ble_eq_true rfl) hf (fun _ => rfl) (fun y1 hf ls hl => ?_)
      refine lv_aload_n hC.1 hC.2.1 dX6_payOf_22 rfl (lv_at hl 1 rfl) ?_
      refine x_get (v := .ref (xz G + 43)) hC xf_X6_15 (xce_41 G kp _ _) rfl hR dX6_payOf_23 ?_
      refine lv_iload hC.1 hC.2.1 dX6_payOf_26 (lv_at hl 0 rfl) ?_
      refine lv_lload_n hC.1 hC.2.1 dX6_payOf_28 rfl (lv_at hl 3 rfl) ?_
      refine lv_aload_n hC.1 hC.2.1 dX6_payOf_29 rfl (lv_at hl 1 rfl) ?_
      refine W.eq (g2 := F0 m 30 ls [.ref (xz G + 41), .long x2, .int y1, .ref (xz G + 43)]) rfl ?_
      refine x_get (v := .ref (xz G + 45)) hC xf_X6_21 (xce_41 G kp _ _) rfl hR dX6_payOf_30 ?_
      refine lv_iload_n hC.1 hC.2.1 dX6_payOf_33 rfl (lv_at hl 2 rfl) ?_
      refine x_lal hC (xce_45 G kp _ _) hR dX6_payOf_34 hf (fun v2 hf => ?_)
      refine W.lcmp hC.1 hC.2.1 dX6_payOf_35 ?_
      refine x_if_ge (tgt := 59) hC dX6_payOf_36 (by decide) hf (fun hf => ?_) (fun hf => ?_)
      · refine lv_aload_n hC.1 hC.2.1 dX6_payOf_59 rfl (lv_at hl 1 rfl) ?_
        refine x_get (v := .ref (xz G + 42)) hC xf_X6_11 (xce_41 G kp _ _) rfl hR dX6_payOf_60 ?_
        refine lv_iload hC.1 hC.2.1 dX6_payOf_63 (lv_at hl 0 rfl) ?_
        refine x_lal hC (xce_42 G kp _ _) hR dX6_payOf_65 hf (fun v3 hf => ?_)
        exact W_X6_payOf_j66 hC N _ hk6 hf _ _ _ hR hS (lv_sub hl [1, 2, 3, 4, 5, 0] rfl)
      · refine lv_aload_n hC.1 hC.2.1 dX6_payOf_39 rfl (lv_at hl 1 rfl) ?_
        refine x_get (v := .ref (xz G + 42)) hC xf_X6_11 (xce_41 G kp _ _) rfl hR dX6_payOf_40 ?_
        refine lv_iload hC.1 hC.2.1 dX6_payOf_43 (lv_at hl 0 rfl) ?_
        refine x_lal hC (xce_42 G kp _ _) hR dX6_payOf_45 hf (fun v4 hf => ?_)
        refine lv_lload_n hC.1 hC.2.1 dX6_payOf_46 rfl (lv_at hl 3 rfl) ?_
        refine lv_aload_n hC.1 hC.2.1 dX6_payOf_47 rfl (lv_at hl 1 rfl) ?_
        refine x_get (v := .ref (xz G + 45)) hC xf_X6_21 (xce_41 G kp _ _) rfl hR dX6_payOf_48 ?_
        refine lv_iload_n hC.1 hC.2.1 dX6_payOf_51 rfl (lv_at hl 2 rfl) ?_
        refine x_lal hC (xce_45 G kp _ _) hR dX6_payOf_52 hf (fun v5 hf => ?_)
        refine x_csl00 (rest := [.int y1, .ref (xz G + 43)]) hC xy_X6_part tw_977 hf (fun _ h => M_X6_part G l kp h) ⟨Nat.le_of_ble_eq_true rfl, Nat.le_of_ble_eq_true rfl⟩ rfl rfl (Nat.le_of_ble_eq_true rfl) hl.1 hR hS dX6_payOf_53 ⟨Nat.le_refl _, Nat.le_refl _⟩ (fun v6 hf H locs hR hS => ?_)
        refine lv_goto (tgt := 66) hC.1 hC.2.1 dX6_payOf_56 (by decide) ?_
        exact W_X6_payOf_j66 hC N _ hk6 hf _ _ _ hR hS (lv_sub hl [1, 2, 3, 4, 5, 0] rfl)
set_option maxRecDepth 20000 in
theorem M_X6_payOf (G : XG) (l : Launch) (kp : Bool) (N : Nat) {I : xTI} {L : xTL} {x1 : Int32} {x2 : Int64} {r : Int32} {rL : xTL} (hf : F_X6_payOf N L x1 x2 = some (r, rL)) : xMet G l yX6_payOf cX6_payOf 7 (some .boolean) 1 29 kp [.ref (xz G + 41), .int x1, .long x2] I L (some (.int r)) I rL := by
  refine xMet.ofW (by decide +kernel) (Nat.le_of_ble_eq_true rfl) ?_
  intro p e s m args below meth c hC H locs ls hR hS hl
  replace hC : xC G p s m args meth c cX6_payOf 7 RX6 (some .boolean) := hC
  replace hl : lv_has ls 7 [(0, .ref (xz G + 41)), (1, .int x1), (2, .long x2)] := hl
  unfold F_X6_payOf at hf
  refine lv_iconst (v := 0) hC.1 hC.2.1 dX6_payOf_0 (by decide) ?_
  refine lv_istore (lv' := [(4, .int 0), (0, .ref (xz G + 41)), (1, .int x1), (2, .long x2)]) hC.1 hC.2.1 dX6_payOf_1 hl (Nat.le_of_ble_eq_true rfl) rfl (fun ls hl => ?_)
  refine lv_iconst (v := 0) hC.1 hC.2.1 dX6_payOf_3 (by decide) ?_
  refine lv_istore (lv' := [(5, .int 0), (4, .int 0), (0, .ref (xz G + 41)), (1, .int x1), (2, .long x2)]) hC.1 hC.2.1 dX6_payOf_4 hl (Nat.le_of_ble_eq_true rfl) rfl (fun ls hl => ?_)
  exact W_X6_payOf_l6 hC N _ 0 0 L hf _ _ _ hR hS (lv_sub hl [2, 3, 4, 1, 0] rfl)
