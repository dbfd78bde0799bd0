set_option maxRecDepth 20000 in
theorem M_X10_made (G : XG) (l : Launch) (kp : Bool) {I : xTI} {L : xTL} {x1 : Int32} {r : Int32} {rI : xTI} (hf : F_X10_made I x1 = some (r, rI)) : xMet G l yX10_made cX10_made 2 (some .int) 2 43 kp [.ref (xz G + 0), .int x1] I L (some (.int r)) rI L := by
  refine xMet.ofW (by decide +kernel) (Nat.le_of_ble_eq_true rfl) ?_
  intro p e s m args below meth c hC H locs ls hR hS hl
  replace hC : xC G p s m args meth c cX10_made 2 RX10 (some .int) := hC
  replace hl : lv_has ls 2 [(0, .ref (xz G + 0)), (1, .int x1)] := hl
  unfold F_X10_made at hf
  refine lv_aload_n hC.1 hC.2.1 dX10_made_0 rfl (lv_at hl 0 rfl) ?_
  refine lv_iload_n hC.1 hC.2.1 dX10_made_1 rfl (lv_at hl 1 rfl) ?_
  refine x_cvi00 (rest := []) hC xy_X10_isStock tw_431 hf (fun _ h => M_X10_isStock G l kp h) ⟨Nat.le_of_ble_eq_true rfl, Nat.le_of_ble_eq_true rfl⟩ (xce_0 G kp _ _) rfl rfl rfl (Nat.le_of_ble_eq_true rfl) hl.1 hR hS dX10_made_2 ⟨Nat.le_refl _, Nat.le_refl _⟩ (fun v1 hf H locs hR hS => ?_)
  refine x_if_eq (tgt := 20) hC dX10_made_5 (by decide) hf (fun hf => ?_) (fun hf => ?_)
  · refine lv_aload_n hC.1 hC.2.1 dX10_made_20 rfl (lv_at hl 0 rfl) ?_
    refine lv_bipush (v := (-3)) hC.1 hC.2.1 dX10_made_21 (by decide) ?_
    refine x_cvi10 (rest := []) hC xy_X10_refuse tw_411 hf (fun _ _ h => M_X10_refuse G l kp h) ⟨Nat.le_of_ble_eq_true rfl, Nat.le_of_ble_eq_true rfl⟩ (xce_0 G kp _ _) rfl rfl rfl (Nat.le_of_ble_eq_true rfl) hl.1 hR hS dX10_made_23 ⟨Nat.le_refl _, Nat.le_refl _⟩ (fun v2 I3 hf H locs hR hS => ?_)
    obtain ⟨h91, h92⟩ := Prod.mk.inj (Option.some.inj hf)
    subst h91
    subst h92
    exact x_iret hC hR hS dX10_made_26
  · refine lv_aload_n hC.1 hC.2.1 dX10_made_8 rfl (lv_at hl 0 rfl) ?_
    refine x_get (v := .ref (xz G + 1)) hC xf_X10_10 (xce_0 G kp _ _) rfl hR dX10_made_9 ?_
    refine x_get (v := .ref (xz G + 2)) hC xf_X10_146 (xce_1 G kp _ _) rfl hR dX10_made_12 ?_
    refine lv_iload_n hC.1 hC.2.1 dX10_made_15 rfl (lv_at hl 1 rfl) ?_
    refine x_ial hC (xce_2 G kp _ _) hR dX10_made_16 hf (fun v4 hf => ?_)
    refine lv_goto (tgt := 26) hC.1 hC.2.1 dX10_made_17 (by decide) ?_
    obtain ⟨h91, h92⟩ := Prod.mk.inj (Option.some.inj hf)
    subst h91
    subst h92
    exact x_iret hC hR hS dX10_made_26
set_option maxRecDepth 20000 in
theorem M_X10_first (G : XG) (l : Launch) (kp : Bool) {I : xTI} {L : xTL} {x0 : Int32} {r : Int32} (hf : F_X10_first x0 = some r) : xMet G l yX10_first cX10_first 1 (some .int) 0 0 kp [.int x0] I L (some (.int r)) I L := by
  refine xMet.ofW (by decide +kernel) (Nat.le_of_ble_eq_true rfl) ?_
  intro p e s m args below meth c hC H locs ls hR hS hl
  replace hC : xC G p s m args meth c cX10_first 1 RX10 (some .int) := hC
  replace hl : lv_has ls 1 [(0, .int x0)] := hl
  unfold F_X10_first at hf
  refine lv_iload_n hC.1 hC.2.1 dX10_first_0 rfl (lv_at hl 0 rfl) ?_
  refine lv_bipush (v := 100) hC.1 hC.2.1 dX10_first_1 (by decide) ?_
  refine lv_idiv hC.1 hC.2.1 dX10_first_3 (by decide) ?_
  have h9 := Option.some.inj hf
  subst h9
  exact x_iret hC hR hS dX10_first_4
set_option maxRecDepth 20000 in
theorem M_X10_second (G : XG) (l : Launch) (kp : Bool) {I : xTI} {L : xTL} {x0 : Int32} {r : Int32} (hf : F_X10_second x0 = some r) : xMet G l yX10_second cX10_second 1 (some .int) 0 0 kp [.int x0] I L (some (.int r)) I L := by
  refine xMet.ofW (by decide +kernel) (Nat.le_of_ble_eq_true rfl) ?_
  intro p e s m args below meth c hC H locs ls hR hS hl
  replace hC : xC G p s m args meth c cX10_second 1 RX10 (some .int) := hC
  replace hl : lv_has ls 1 [(0, .int x0)] := hl
  unfold F_X10_second at hf
  refine lv_iload_n hC.1 hC.2.1 dX10_second_0 rfl (lv_at hl 0 rfl) ?_
  refine lv_bipush (v := 100) hC.1 hC.2.1 dX10_second_1 (by decide) ?_
  refine lv_irem hC.1 hC.2.1 dX10_second_3 (by decide) ?_
  have h9 := Option.some.inj hf
  subst h9
  exact x_iret hC hR hS dX10_second_4
set_option maxRecDepth 20000 in
theorem M_X10_areMen (G : XG) (l : Launch) (kp : Bool) {I : xTI} {L : xTL} {x1 : Int32} {r : Int32} (hf : F_X10_areMen I x1 = some r) : xMet G l yX10_areMen cX10_areMen 2 (some .boolean) 2 43 kp [.ref (xz G + 0), .int x1] I L (some (.int r)) I L := by
  refine xMet.ofW (by decide +kernel) (Nat.le_of_ble_eq_true rfl) ?_
  intro p e s m args below meth c hC H locs ls hR hS hl
  replace hC : xC G p s m args meth c cX10_areMen 2 RX10 (some .boolean) := hC
  replace hl : lv_has ls 2 [(0, .ref (xz G + 0)), (1, .int x1)] := hl
  unfold F_X10_areMen at hf
  refine lv_aload_n hC.1 hC.2.1 dX10_areMen_0 rfl (lv_at hl 0 rfl) ?_
  refine lv_iload_n hC.1 hC.2.1 dX10_areMen_1 rfl (lv_at hl 1 rfl) ?_
  refine x_csi00 (rest := [.ref (xz G + 0)]) hC xy_X10_first tw_510 hf (fun _ h => M_X10_first G l kp h) ⟨Nat.le_of_ble_eq_true rfl, Nat.le_of_ble_eq_true rfl⟩ rfl rfl (Nat.le_of_ble_eq_true rfl) hl.1 hR hS dX10_areMen_2 ⟨Nat.le_refl _, Nat.le_refl _⟩ (fun v1 hf H locs hR hS => ?_)
  refine x_cvi00 (rest := []) hC xy_X10_isMan tw_427 hf (fun _ h => M_X10_isMan G l kp h) ⟨Nat.le_of_ble_eq_true rfl, Nat.le_of_ble_eq_true rfl⟩ (xce_0 G kp _ _) rfl rfl rfl (Nat.le_of_ble_eq_true rfl) hl.1 hR hS dX10_areMen_5 ⟨Nat.le_refl _, Nat.le_refl _⟩ (fun v2 hf H locs hR hS => ?_)
  refine x_if_eq (tgt := 26) hC dX10_areMen_8 (by decide) hf (fun hf => ?_) (fun hf => ?_)
  · refine lv_iconst (v := 0) hC.1 hC.2.1 dX10_areMen_26 (by decide) ?_
    obtain ⟨h01, hf⟩ := xzc_some hf
    have h9 := Option.some.inj hf
    subst h9
    exact x_zret h01 hC hR hS dX10_areMen_27
  · refine lv_aload_n hC.1 hC.2.1 dX10_areMen_11 rfl (lv_at hl 0 rfl) ?_
    refine lv_iload_n hC.1 hC.2.1 dX10_areMen_12 rfl (lv_at hl 1 rfl) ?_
    refine x_csi00 (rest := [.ref (xz G + 0)]) hC xy_X10_second tw_513 hf (fun _ h => M_X10_second G l kp h) ⟨Nat.le_of_ble_eq_true rfl, Nat.le_of_ble_eq_true rfl⟩ rfl rfl (Nat.le_of_ble_eq_true rfl) hl.1 hR hS dX10_areMen_13 ⟨Nat.le_refl _, Nat.le_refl _⟩ (fun v3 hf H locs hR hS => ?_)
    refine x_cvi00 (rest := []) hC xy_X10_isMan tw_427 hf (fun _ h => M_X10_isMan G l kp h) ⟨Nat.le_of_ble_eq_true rfl, Nat.le_of_ble_eq_true rfl⟩ (xce_0 G kp _ _) rfl rfl rfl (Nat.le_of_ble_eq_true rfl) hl.1 hR hS dX10_areMen_16 ⟨Nat.le_refl _, Nat.le_refl _⟩ (fun v4 hf H locs hR hS => ?_)
    refine x_if_eq (tgt := 26) hC dX10_areMen_19 (by decide) hf (fun hf => ?_) (fun hf => ?_)
    · refine lv_iconst (v := 0) hC.1 hC.2.1 dX10_areMen_26 (by decide) ?_
      obtain ⟨h01, hf⟩ := xzc_some hf
      have h9 := Option.some.inj hf
      subst h9
      exact x_zret h01 hC hR hS dX10_areMen_27
    · refine lv_iconst (v := 1) hC.1 hC.2.1 dX10_areMen_22 (by decide) ?_
      refine lv_goto (tgt := 27) hC.1 hC.2.1 dX10_areMen_23 (by decide) ?_
      obtain ⟨h01, hf⟩ := xzc_some hf
      have h9 := Option.some.inj hf
      subst h9
      exact x_zret h01 hC hR hS dX10_areMen_27
set_option maxRecDepth 20000 in
theorem M_X10_mayDeal (G : XG) (l : Launch) (kp : Bool) {I : xTI} {L : xTL} {x1 : Int32} {r : Int32} (hf : F_X10_mayDeal I x1 = some r) : xMet G l yX10_mayDeal cX10_mayDeal 2 (some .boolean) 1 21 kp [.ref (xz G + 0), .int x1] I L (some (.int r)) I L := by
  refine xMet.ofW (by decide +kernel) (Nat.le_of_ble_eq_true rfl) ?_
  intro p e s m args below meth c hC H locs ls hR hS hl
  replace hC : xC G p s m args meth c cX10_mayDeal 2 RX10 (some .boolean) := hC
  replace hl : lv_has ls 2 [(0, .ref (xz G + 0)), (1, .int x1)] := hl
  unfold F_X10_mayDeal at hf
  refine lv_iload_n hC.1 hC.2.1 dX10_mayDeal_0 rfl (lv_at hl 1 rfl) ?_
  refine x_csi00 (rest := []) hC xy_X10_first tw_510 hf (fun _ h => M_X10_first G l kp h) ⟨Nat.le_of_ble_eq_true rfl, Nat.le_of_ble_eq_true rfl⟩ rfl rfl (Nat.le_of_ble_eq_true rfl) hl.1 hR hS dX10_mayDeal_1 ⟨Nat.le_refl _, Nat.le_refl _⟩ (fun v1 hf H locs hR hS => ?_)
  refine lv_iload_n hC.1 hC.2.1 dX10_mayDeal_4 rfl (lv_at hl 1 rfl) ?_
  refine x_csi00 (rest := [.int v1]) hC xy_X10_second tw_513 hf (fun _ h => M_X10_second G l kp h) ⟨Nat.le_of_ble_eq_true rfl, Nat.le_of_ble_eq_true rfl⟩ rfl rfl (Nat.le_of_ble_eq_true rfl) hl.1 hR hS dX10_mayDeal_5 ⟨Nat.le_refl _, Nat.le_refl _⟩ (fun v2 hf H locs hR hS => ?_)
  refine x_ic_eq (tgt := 49) hC dX10_mayDeal_8 (by decide) hf (fun hf => ?_) (fun hf => ?_)
  · refine lv_iconst (v := 0) hC.1 hC.2.1 dX10_mayDeal_49 (by decide) ?_
    obtain ⟨h01, hf⟩ := xzc_some hf
    have h9 := Option.some.inj hf
    subst h9
    exact x_zret h01 hC hR hS dX10_mayDeal_50
  · refine lv_aload_n hC.1 hC.2.1 dX10_mayDeal_11 rfl (lv_at hl 0 rfl) ?_
    refine x_get (v := .ref (xz G + 1)) hC xf_X10_10 (xce_0 G kp _ _) rfl hR dX10_mayDeal_12 ?_
    refine x_get (v := .ref (xz G + 3)) hC xf_X10_74 (xce_1 G kp _ _) rfl hR dX10_mayDeal_15 ?_
    refine lv_iload_n hC.1 hC.2.1 dX10_mayDeal_18 rfl (lv_at hl 1 rfl) ?_
    refine x_csi00 (rest := [.ref (xz G + 3)]) hC xy_X10_first tw_510 hf (fun _ h => M_X10_first G l kp h) ⟨Nat.le_of_ble_eq_true rfl, Nat.le_of_ble_eq_true rfl⟩ rfl rfl (Nat.le_of_ble_eq_true rfl) hl.1 hR hS dX10_mayDeal_19 ⟨Nat.le_refl _, Nat.le_refl _⟩ (fun v3 hf H locs hR hS => ?_)
    refine x_cvi00 (rest := []) hC xy_X3_isUp tw_435 hf (fun _ h => M_X3_isUp G l kp h) ⟨Nat.le_of_ble_eq_true rfl, Nat.le_of_ble_eq_true rfl⟩ (xce_3 G kp _ _) rfl rfl rfl (Nat.le_of_ble_eq_true rfl) hl.1 hR hS dX10_mayDeal_22 ⟨Nat.le_refl _, Nat.le_refl _⟩ (fun v4 hf H locs hR hS => ?_)
    refine x_if_eq (tgt := 49) hC dX10_mayDeal_25 (by decide) hf (fun hf => ?_) (fun hf => ?_)
    · refine lv_iconst (v := 0) hC.1 hC.2.1 dX10_mayDeal_49 (by decide) ?_
      obtain ⟨h01, hf⟩ := xzc_some hf
      have h9 := Option.some.inj hf
      subst h9
      exact x_zret h01 hC hR hS dX10_mayDeal_50
    · refine lv_aload_n hC.1 hC.2.1 dX10_mayDeal_28 rfl (lv_at hl 0 rfl) ?_
      refine x_get (v := .ref (xz G + 1)) hC xf_X10_10 (xce_0 G kp _ _) rfl hR dX10_mayDeal_29 ?_
      refine x_get (v := .ref (xz G + 3)) hC xf_X10_74 (xce_1 G kp _ _) rfl hR dX10_mayDeal_32 ?_
      refine lv_iload_n hC.1 hC.2.1 dX10_mayDeal_35 rfl (lv_at hl 1 rfl) ?_
      refine x_csi00 (rest := [.ref (xz G + 3)]) hC xy_X10_second tw_513 hf (fun _ h => M_X10_second G l kp h) ⟨Nat.le_of_ble_eq_true rfl, Nat.le_of_ble_eq_true rfl⟩ rfl rfl (Nat.le_of_ble_eq_true rfl) hl.1 hR hS dX10_mayDeal_36 ⟨Nat.le_refl _, Nat.le_refl _⟩ (fun v5 hf H locs hR hS => ?_)
      refine x_cvi00 (rest := []) hC xy_X3_isUp tw_435 hf (fun _ h => M_X3_isUp G l kp h) ⟨Nat.le_of_ble_eq_true rfl, Nat.le_of_ble_eq_true rfl⟩ (xce_3 G kp _ _) rfl rfl rfl (Nat.le_of_ble_eq_true rfl) hl.1 hR hS dX10_mayDeal_39 ⟨Nat.le_refl _, Nat.le_refl _⟩ (fun v6 hf H locs hR hS => ?_)
      refine x_if_eq (tgt := 49) hC dX10_mayDeal_42 (by decide) hf (fun hf => ?_) (fun hf => ?_)
      · refine lv_iconst (v := 0) hC.1 hC.2.1 dX10_mayDeal_49 (by decide) ?_
        obtain ⟨h01, hf⟩ := xzc_some hf
        have h9 := Option.some.inj hf
        subst h9
        exact x_zret h01 hC hR hS dX10_mayDeal_50
      · refine lv_iconst (v := 1) hC.1 hC.2.1 dX10_mayDeal_45 (by decide) ?_
        refine lv_goto (tgt := 50) hC.1 hC.2.1 dX10_mayDeal_46 (by decide) ?_
        obtain ⟨h01, hf⟩ := xzc_some hf
        have h9 := Option.some.inj hf
        subst h9
        exact x_zret h01 hC hR hS dX10_mayDeal_50
set_option maxRecDepth 20000 in
theorem W_X0_leastFree_l6 {G : XG} {l : Launch} {kp : Bool} {p : Program} {e : Env} {s : State} {m : MethodId} {args : Array Value} {below : List Frame} {meth : Method} {c : Code} (hC : xC G p s m args meth c cX0_leastFree 3 RX0 (some .int)) (N : Nat) {I : xTI} {L : xTL} {r : Int32} : ∀ (n : Nat) (x2 : Int32) , xlp (F_X0_leastFree_b6 N I ) n x2 = some r → ∀ (H : Heap) (locs : List Loc) (ls : Array Slot), xRep G kp I L H → xS G s.heap H locs → lv_has ls 3 [(0, .ref (xz G + 11)), (2, .int x2)] → W p l e (xrm 1 23) s m args below meth c H locs 0 0 (xMQ G kp below args s (some (.int r)) I L) (F0 m 6 ls []) := by
  intro n
  induction n with
  | zero =>
    intro x2 hf
    cases hf
  | succ n hk6 =>
    intro x2 hf H locs ls hR hS hl
    rw [xlp_s, E_X0_leastFree_b6] at hf
    unfold F_X0_leastFree_c6 at hf
    refine lv_iload_n hC.1 hC.2.1 dX0_leastFree_6 rfl (lv_at hl 1 rfl) ?_
    refine lv_bipush (v := 60) hC.1 hC.2.1 dX0_leastFree_7 (by decide) ?_
    refine x_ic_ge (tgt := 34) hC dX0_leastFree_9 (by decide) hf (fun hf => ?_) (fun hf => ?_)
    · refine lv_iconst (v := (-1)) hC.1 hC.2.1 dX0_leastFree_34 (by decide) ?_
      have h9 := Option.some.inj hf
      subst h9
      exact x_iret hC hR hS dX0_leastFree_35
    · refine lv_aload_n hC.1 hC.2.1 dX0_leastFree_12 rfl (lv_at hl 0 rfl) ?_
      refine x_get (v := .ref (xz G + 12)) hC xf_X0_16 (xce_11 G kp _ _) rfl hR dX0_leastFree_13 ?_
      refine lv_iload_n hC.1 hC.2.1 dX0_leastFree_16 rfl (lv_at hl 1 rfl) ?_
      refine lv_bipush (v := 7) hC.1 hC.2.1 dX0_leastFree_17 (by decide) ?_
      refine x_cvi00 (rest := []) hC xy_X8_at tw_462 hf (fun _ h => M_X8_at_12 G l kp h) ⟨Nat.le_of_ble_eq_true rfl, Nat.le_of_ble_eq_true rfl⟩ (xce_12 G kp _ _) rfl rfl rfl (Nat.le_of_ble_eq_true rfl) hl.1 hR hS dX0_leastFree_19 ⟨Nat.le_refl _, Nat.le_refl _⟩ (fun v1 hf H locs hR hS => ?_)
      refine lv_iconst (v := (-1)) hC.1 hC.2.1 dX0_leastFree_22 (by decide) ?_
      refine x_ic_ne (tgt := 28) hC dX0_leastFree_23 (by decide) hf (fun hf => ?_) (fun hf => ?_)
      · refine x_iinc (d := 1) (lv' := fun y2 => [(2, .int y2), (0, .ref (xz G + 11))]) (k := 1) hC hl dX0_leastFree_28 rfl (by decide) (Nat.le_of_ble_eq_true rfl) hf (fun _ => rfl) (fun y2 hf ls hl => ?_)
        refine lv_goto (tgt := 6) hC.1 hC.2.1 dX0_leastFree_31 (by decide) ?_
        exact hk6 y2 hf _ _ _ hR hS (lv_sub hl [1, 0] rfl)
      · refine lv_iload_n hC.1 hC.2.1 dX0_leastFree_26 rfl (lv_at hl 1 rfl) ?_
        have h9 := Option.some.inj hf
        subst h9
        exact x_iret hC hR hS dX0_leastFree_27
set_option maxRecDepth 20000 in
theorem M_X0_leastFree (G : XG) (l : Launch) (kp : Bool) (N : Nat) {I : xTI} {L : xTL} {x1 : Int32} {r : Int32} (hf : F_X0_leastFree N I x1 = some r) : xMet G l yX0_leastFree cX0_leastFree 3 (some .int) 1 23 kp [.ref (xz G + 11), .int x1] I L (some (.int r)) I L := by
  refine xMet.ofW (by decide +kernel) (Nat.le_of_ble_eq_true rfl) ?_
  intro p e s m args below meth c hC H locs ls hR hS hl
  replace hC : xC G p s m args meth c cX0_leastFree 3 RX0 (some .int) := hC
  replace hl : lv_has ls 3 [(0, .ref (xz G + 11)), (1, .int x1)] := hl
  unfold F_X0_leastFree at hf
  refine lv_iload_n hC.1 hC.2.1 dX0_leastFree_0 rfl (lv_at hl 1 rfl) ?_
  refine lv_iconst (v := 0) hC.1 hC.2.1 dX0_leastFree_1 (by decide) ?_
  refine x_mxi (rest := []) hC tw_524 hl.1 (Nat.le_of_ble_eq_true rfl) (Nat.le_of_ble_eq_true rfl) dX0_leastFree_2 ⟨Nat.le_refl _, Nat.le_refl _⟩ hf (fun v1 hf => ?_)
  refine lv_istore_n (lv' := [(2, .int v1), (0, .ref (xz G + 11)), (1, .int x1)]) hC.1 hC.2.1 dX0_leastFree_5 rfl hl (Nat.le_of_ble_eq_true rfl) rfl (fun ls hl => ?_)
  exact W_X0_leastFree_l6 hC N _ v1 hf _ _ _ hR hS (lv_sub hl [1, 0] rfl)
set_option maxRecDepth 20000 in
theorem W_X8_put_12_j29 {G : XG} {l : Launch} {kp : Bool} {p : Program} {e : Env} {s : State} {m : MethodId} {args : Array Value} {below : List Frame} {meth : Method} {c : Code} (hC : xC G p s m args meth c cX8_put 5 RX8 none) {I : xTI} {L : xTL} {rI : xTI} {x1 : Int32} {x2 : Int32} {x3 : Int32} {t0 : Int32} (hf : F_X8_put_12_j29 I x1 x2 x3 t0 = some rI) : ∀ (H : Heap) (locs : List Loc) (ls : Array Slot), xRep G kp I L H → xS G s.heap H locs → lv_has ls 5 [(0, .ref (xz G + 12)), (1, .int x1), (2, .int x2), (3, .int x3)] → W p l e (xrm 0 0) s m args below meth c H locs 0 0 (xMQ G kp below args s none rI L) (F0 m 29 ls [.int t0]) := by
  intro H locs ls hR hS hl
  unfold F_X8_put_12_j29 at hf
  refine lv_istore (lv' := [(4, .int t0), (0, .ref (xz G + 12)), (1, .int x1), (2, .int x2), (3, .int x3)]) hC.1 hC.2.1 dX8_put_29 hl (Nat.le_of_ble_eq_true rfl) rfl (fun ls hl => ?_)
  refine lv_iload hC.1 hC.2.1 dX8_put_31 (lv_at hl 0 rfl) ?_
  refine x_if_eq (tgt := 50) hC dX8_put_33 (by decide) hf (fun hf => ?_) (fun hf => ?_)
  · have h9 := Option.some.inj hf
    subst h9
    exact x_vret hC hR hS dX8_put_50
  · refine lv_aload_n hC.1 hC.2.1 dX8_put_36 rfl (lv_at hl 1 rfl) ?_
    refine x_get (v := .ref (xz G + 13)) hC xf_X8_16 (xce_12 G kp _ _) rfl hR dX8_put_37 ?_
    refine lv_iload_n hC.1 hC.2.1 dX8_put_40 rfl (lv_at hl 2 rfl) ?_
    refine lv_aload_n hC.1 hC.2.1 dX8_put_41 rfl (lv_at hl 1 rfl) ?_
    refine x_get (v := .int 11) hC xf_X8_13 (xce_12 G kp _ _) rfl hR dX8_put_42 ?_
    refine lv_imul hC.1 hC.2.1 dX8_put_45 ?_
    refine lv_iload_n hC.1 hC.2.1 dX8_put_46 rfl (lv_at hl 3 rfl) ?_
    refine lv_iadd hC.1 hC.2.1 dX8_put_47 ?_
    refine lv_iload_n hC.1 hC.2.1 dX8_put_48 rfl (lv_at hl 4 rfl) ?_
    refine x_ias hC (fun f => (xce_13 G kp f _)) hR hS dX8_put_49 hf (fun I1 hf H locs hR hS => ?_)
    have h9 := Option.some.inj hf
    subst h9
    exact x_vret hC hR hS dX8_put_50
set_option maxRecDepth 20000 in
theorem M_X8_put_12 (G : XG) (l : Launch) (kp : Bool) {I : xTI} {L : xTL} {x1 : Int32} {x2 : Int32} {x3 : Int32} {rI : xTI} (hf : F_X8_put_12 I x1 x2 x3 = some rI) : xMet G l yX8_put cX8_put 5 none 0 0 kp [.ref (xz G + 12), .int x1, .int x2, .int x3] I L none rI L := by
  refine xMet.ofW (by decide +kernel) (Nat.le_of_ble_eq_true rfl) ?_
  intro p e s m args below meth c hC H locs ls hR hS hl
  replace hC : xC G p s m args meth c cX8_put 5 RX8 none := hC
  replace hl : lv_has ls 5 [(0, .ref (xz G + 12)), (1, .int x1), (2, .int x2), (3, .int x3)] := hl
  unfold F_X8_put_12 at hf
  refine lv_iload_n hC.1 hC.2.1 dX8_put_0 rfl (lv_at hl 1 rfl) ?_
  refine x_if_lt (tgt := 28) hC dX8_put_1 (by decide) hf (fun hf => ?_) (fun hf => ?_)
  · refine lv_iconst (v := 0) hC.1 hC.2.1 dX8_put_28 (by decide) ?_
    exact W_X8_put_12_j29 hC hf _ _ _ hR hS (lv_sub hl [0, 1, 2, 3] rfl)
  · refine lv_iload_n hC.1 hC.2.1 dX8_put_4 rfl (lv_at hl 1 rfl) ?_
    refine lv_aload_n hC.1 hC.2.1 dX8_put_5 rfl (lv_at hl 0 rfl) ?_
    refine x_get (v := .int 60) hC xf_X8_7 (xce_12 G kp _ _) rfl hR dX8_put_6 ?_
    refine x_ic_ge (tgt := 28) hC dX8_put_9 (by decide) hf (fun hf => ?_) (fun hf => ?_)
    · refine lv_iconst (v := 0) hC.1 hC.2.1 dX8_put_28 (by decide) ?_
      exact W_X8_put_12_j29 hC hf _ _ _ hR hS (lv_sub hl [0, 1, 2, 3] rfl)
    · refine lv_iload_n hC.1 hC.2.1 dX8_put_12 rfl (lv_at hl 2 rfl) ?_
      refine x_if_lt (tgt := 28) hC dX8_put_13 (by decide) hf (fun hf => ?_) (fun hf => ?_)
      · refine lv_iconst (v := 0) hC.1 hC.2.1 dX8_put_28 (by decide) ?_
        exact W_X8_put_12_j29 hC hf _ _ _ hR hS (lv_sub hl [0, 1, 2, 3] rfl)
      · refine lv_iload_n hC.1 hC.2.1 dX8_put_16 rfl (lv_at hl 2 rfl) ?_
        refine lv_aload_n hC.1 hC.2.1 dX8_put_17 rfl (lv_at hl 0 rfl) ?_
        refine x_get (v := .int 11) hC xf_X8_13 (xce_12 G kp _ _) rfl hR dX8_put_18 ?_
        refine x_ic_ge (tgt := 28) hC dX8_put_21 (by decide) hf (fun hf => ?_) (fun hf => ?_)
        · refine lv_iconst (v := 0) hC.1 hC.2.1 dX8_put_28 (by decide) ?_
          exact W_X8_put_12_j29 hC hf _ _ _ hR hS (lv_sub hl [0, 1, 2, 3] rfl)
        · refine lv_iconst (v := 1) hC.1 hC.2.1 dX8_put_24 (by decide) ?_
          refine lv_goto (tgt := 29) hC.1 hC.2.1 dX8_put_25 (by decide) ?_
          exact W_X8_put_12_j29 hC hf _ _ _ hR hS (lv_sub hl [0, 1, 2, 3] rfl)
set_option maxRecDepth 20000 in
theorem W_X0_write_j103 {G : XG} {l : Launch} {kp : Bool} {p : Program} {e : Env} {s : State} {m : MethodId} {args : Array Value} {below : List Frame} {meth : Method} {c : Code} (hC : xC G p s m args meth c cX0_write 9 RX0 none) {I : xTI} {L : xTL} {rI : xTI} {x1 : Int32} {t1 : Int32} {t2 : Int32} {t3 : Int32} {t4 : Int32} (hf : F_X0_write_j103 I x1 t1 t2 t3 t4 = some rI) : ∀ (H : Heap) (locs : List Loc) (ls : Array Slot), xRep G kp I L H → xS G s.heap H locs → lv_has ls 9 [(0, .ref (xz G + 11)), (1, .int x1)] → W p l e (xrm 1 24) s m args below meth c H locs 0 0 (xMQ G kp below args s none rI L) (F0 m 103 ls [.int t4, .int t3, .int t2, .int t1, .ref (xz G + 12)]) := by
  intro H locs ls hR hS hl
  unfold F_X0_write_j103 at hf
  refine lv_iadd hC.1 hC.2.1 dX0_write_103 ?_
  refine x_cvv10 (rest := []) hC xy_X8_put tw_120 hf (fun _ h => M_X8_put_12 G l kp h) ⟨Nat.le_of_ble_eq_true rfl, Nat.le_of_ble_eq_true rfl⟩ (xce_12 G kp _ _) rfl rfl rfl (Nat.le_of_ble_eq_true rfl) hl.1 hR hS dX0_write_104 ⟨Nat.le_refl _, Nat.le_refl _⟩ (fun I1 hf H locs hR hS => ?_)
  refine lv_aload_n hC.1 hC.2.1 dX0_write_107 rfl (lv_at hl 0 rfl) ?_
  refine x_get (v := .ref (xz G + 12)) hC xf_X0_16 (xce_11 G kp _ _) rfl hR dX0_write_108 ?_
  refine lv_iload_n hC.1 hC.2.1 dX0_write_111 rfl (lv_at hl 1 rfl) ?_
  refine lv_bipush (v := 7) hC.1 hC.2.1 dX0_write_112 (by decide) ?_
  refine lv_iconst (v := 0) hC.1 hC.2.1 dX0_write_114 (by decide) ?_
  refine x_cvv10 (rest := []) hC xy_X8_put tw_120 hf (fun _ h => M_X8_put_12 G l kp h) ⟨Nat.le_of_ble_eq_true rfl, Nat.le_of_ble_eq_true rfl⟩ (xce_12 G kp _ _) rfl rfl rfl (Nat.le_of_ble_eq_true rfl) hl.1 hR hS dX0_write_115 ⟨Nat.le_refl _, Nat.le_refl _⟩ (fun I2 hf H locs hR hS => ?_)
  refine lv_aload_n hC.1 hC.2.1 dX0_write_118 rfl (lv_at hl 0 rfl) ?_
  refine x_get (v := .ref (xz G + 12)) hC xf_X0_16 (xce_11 G kp _ _) rfl hR dX0_write_119 ?_
  refine lv_iload_n hC.1 hC.2.1 dX0_write_122 rfl (lv_at hl 1 rfl) ?_
  refine W.eq (g2 := F0 m 123 ls [.int x1, .ref (xz G + 12)]) rfl ?_
  refine lv_bipush (v := 8) hC.1 hC.2.1 dX0_write_123 (by decide) ?_
  refine lv_iconst (v := (-1)) hC.1 hC.2.1 dX0_write_125 (by decide) ?_
  refine x_cvv10 (rest := []) hC xy_X8_put tw_120 hf (fun _ h => M_X8_put_12 G l kp h) ⟨Nat.le_of_ble_eq_true rfl, Nat.le_of_ble_eq_true rfl⟩ (xce_12 G kp _ _) rfl rfl rfl (Nat.le_of_ble_eq_true rfl) hl.1 hR hS dX0_write_126 ⟨Nat.le_refl _, Nat.le_refl _⟩ (fun I3 hf H locs hR hS => ?_)
  refine lv_aload_n hC.1 hC.2.1 dX0_write_129 rfl (lv_at hl 0 rfl) ?_
  refine x_get (v := .ref (xz G + 12)) hC xf_X0_16 (xce_11 G kp _ _) rfl hR dX0_write_130 ?_
  refine lv_iload_n hC.1 hC.2.1 dX0_write_133 rfl (lv_at hl 1 rfl) ?_
  refine lv_bipush (v := 9) hC.1 hC.2.1 dX0_write_134 (by decide) ?_
  refine lv_iconst (v := (-1)) hC.1 hC.2.1 dX0_write_136 (by decide) ?_
  refine x_cvv10 (rest := []) hC xy_X8_put tw_120 hf (fun _ h => M_X8_put_12 G l kp h) ⟨Nat.le_of_ble_eq_true rfl, Nat.le_of_ble_eq_true rfl⟩ (xce_12 G kp _ _) rfl rfl rfl (Nat.le_of_ble_eq_true rfl) hl.1 hR hS dX0_write_137 ⟨Nat.le_refl _, Nat.le_refl _⟩ (fun I4 hf H locs hR hS => ?_)
  refine lv_aload_n hC.1 hC.2.1 dX0_write_140 rfl (lv_at hl 0 rfl) ?_
  refine x_get (v := .ref (xz G + 12)) hC xf_X0_16 (xce_11 G kp _ _) rfl hR dX0_write_141 ?_
  refine lv_iload_n hC.1 hC.2.1 dX0_write_144 rfl (lv_at hl 1 rfl) ?_
  refine W.eq (g2 := F0 m 145 ls [.int x1, .ref (xz G + 12)]) rfl ?_
  refine lv_bipush (v := 10) hC.1 hC.2.1 dX0_write_145 (by decide) ?_
  refine lv_iconst (v := 0) hC.1 hC.2.1 dX0_write_147 (by decide) ?_
  refine x_cvv10 (rest := []) hC xy_X8_put tw_120 hf (fun _ h => M_X8_put_12 G l kp h) ⟨Nat.le_of_ble_eq_true rfl, Nat.le_of_ble_eq_true rfl⟩ (xce_12 G kp _ _) rfl rfl rfl (Nat.le_of_ble_eq_true rfl) hl.1 hR hS dX0_write_148 ⟨Nat.le_refl _, Nat.le_refl _⟩ (fun I5 hf H locs hR hS => ?_)
  have h9 := Option.some.inj hf
  subst h9
  exact x_vret hC hR hS dX0_write_151
set_option maxRecDepth 20000 in
theorem W_X0_write_j79 {G : XG} {l : Launch} {kp : Bool} {p : Program} {e : Env} {s : State} {m : MethodId} {args : Array Value} {below : List Frame} {meth : Method} {c : Code} (hC : xC G p s m args meth c cX0_write 9 RX0 none) {I : xTI} {L : xTL} {rI : xTI} {x1 : Int32} {x7 : Int32} {t0 : Int32} (hf : F_X0_write_j79 I x1 x7 t0 = some rI) : ∀ (H : Heap) (locs : List Loc) (ls : Array Slot), xRep G kp I L H → xS G s.heap H locs → lv_has ls 9 [(0, .ref (xz G + 11)), (1, .int x1), (7, .int x7)] → W p l e (xrm 1 24) s m args below meth c H locs 0 0 (xMQ G kp below args s none rI L) (F0 m 79 ls [.int t0]) := by
  intro H locs ls hR hS hl
  unfold F_X0_write_j79 at hf
  refine lv_istore (lv' := [(8, .int t0), (0, .ref (xz G + 11)), (1, .int x1), (7, .int x7)]) hC.1 hC.2.1 dX0_write_79 hl (Nat.le_of_ble_eq_true rfl) rfl (fun ls hl => ?_)
  refine lv_aload_n hC.1 hC.2.1 dX0_write_81 rfl (lv_at hl 1 rfl) ?_
  refine x_get (v := .ref (xz G + 12)) hC xf_X0_16 (xce_11 G kp _ _) rfl hR dX0_write_82 ?_
  refine lv_iload_n hC.1 hC.2.1 dX0_write_85 rfl (lv_at hl 2 rfl) ?_
  refine lv_bipush (v := 6) hC.1 hC.2.1 dX0_write_86 (by decide) ?_
  refine lv_iload hC.1 hC.2.1 dX0_write_88 (lv_at hl 3 rfl) ?_
  refine lv_bipush (v := 14) hC.1 hC.2.1 dX0_write_90 (by decide) ?_
  refine lv_idiv hC.1 hC.2.1 dX0_write_92 (by decide) ?_
  refine lv_iload hC.1 hC.2.1 dX0_write_93 (lv_at hl 0 rfl) ?_
  refine x_if_eq (tgt := 102) hC dX0_write_95 (by decide) hf (fun hf => ?_) (fun hf => ?_)
  · refine lv_iconst (v := 0) hC.1 hC.2.1 dX0_write_102 (by decide) ?_
    exact W_X0_write_j103 hC hf _ _ _ hR hS (lv_sub hl [1, 2] rfl)
  · refine lv_iconst (v := 1) hC.1 hC.2.1 dX0_write_98 (by decide) ?_
    refine lv_goto (tgt := 103) hC.1 hC.2.1 dX0_write_99 (by decide) ?_
    exact W_X0_write_j103 hC hf _ _ _ hR hS (lv_sub hl [1, 2] rfl)
set_option maxRecDepth 20000 in
theorem M_X0_write (G : XG) (l : Launch) (kp : Bool) {I : xTI} {L : xTL} {x1 : Int32} {x2 : Int32} {x3 : Int32} {x4 : Int32} {x5 : Int32} {x6 : Int32} {x7 : Int32} {rI : xTI} (hf : F_X0_write I x1 x2 x3 x4 x5 x6 x7 = some rI) : xMet G l yX0_write cX0_write 9 none 1 24 kp [.ref (xz G + 11), .int x1, .int x2, .int x3, .int x4, .int x5, .int x6, .int x7] I L none rI L := by
  refine xMet.ofW (by decide +kernel) (Nat.le_of_ble_eq_true rfl) ?_
  intro p e s m args below meth c hC H locs ls hR hS hl
  replace hC : xC G p s m args meth c cX0_write 9 RX0 none := hC
  replace hl : lv_has ls 9 [(0, .ref (xz G + 11)), (1, .int x1), (2, .int x2), (3, .int x3), (4, .int x4), (5, .int x5), (6, .int x6), (7, .int x7)] := hl
  unfold F_X0_write at hf
  refine lv_aload_n hC.1 hC.2.1 dX0_write_0 rfl (lv_at hl 0 rfl) ?_
  refine x_get (v := .ref (xz G + 12)) hC xf_X0_16 (xce_11 G kp _ _) rfl hR dX0_write_1 ?_
  refine lv_iload_n hC.1 hC.2.1 dX0_write_4 rfl (lv_at hl 1 rfl) ?_
  refine lv_iconst (v := 0) hC.1 hC.2.1 dX0_write_5 (by decide) ?_
  refine lv_iload_n hC.1 hC.2.1 dX0_write_6 rfl (lv_at hl 2 rfl) ?_
  refine x_cvv10 (rest := []) hC xy_X8_put tw_120 hf (fun _ h => M_X8_put_12 G l kp h) ⟨Nat.le_of_ble_eq_true rfl, Nat.le_of_ble_eq_true rfl⟩ (xce_12 G kp _ _) rfl rfl rfl (Nat.le_of_ble_eq_true rfl) hl.1 hR hS dX0_write_7 ⟨Nat.le_refl _, Nat.le_refl _⟩ (fun I1 hf H locs hR hS => ?_)
  refine lv_aload_n hC.1 hC.2.1 dX0_write_10 rfl (lv_at hl 0 rfl) ?_
  refine x_get (v := .ref (xz G + 12)) hC xf_X0_16 (xce_11 G kp _ _) rfl hR dX0_write_11 ?_
  refine lv_iload_n hC.1 hC.2.1 dX0_write_14 rfl (lv_at hl 1 rfl) ?_
  refine lv_iconst (v := 1) hC.1 hC.2.1 dX0_write_15 (by decide) ?_
  refine lv_iload_n hC.1 hC.2.1 dX0_write_16 rfl (lv_at hl 3 rfl) ?_
  refine W.eq (g2 := F0 m 17 ls [.int x3, .int 1, .int x1, .ref (xz G + 12)]) rfl ?_
  refine x_cvv10 (rest := []) hC xy_X8_put tw_120 hf (fun _ h => M_X8_put_12 G l kp h) ⟨Nat.le_of_ble_eq_true rfl, Nat.le_of_ble_eq_true rfl⟩ (xce_12 G kp _ _) rfl rfl rfl (Nat.le_of_ble_eq_true rfl) hl.1 hR hS dX0_write_17 ⟨Nat.le_refl _, Nat.le_refl _⟩ (fun I2 hf H locs hR hS => ?_)
  refine lv_aload_n hC.1 hC.2.1 dX0_write_20 rfl (lv_at hl 0 rfl) ?_
  refine x_get (v := .ref (xz G + 12)) hC xf_X0_16 (xce_11 G kp _ _) rfl hR dX0_write_21 ?_
  refine lv_iload_n hC.1 hC.2.1 dX0_write_24 rfl (lv_at hl 1 rfl) ?_
  refine lv_iconst (v := 2) hC.1 hC.2.1 dX0_write_25 (by decide) ?_
  refine lv_iload hC.1 hC.2.1 dX0_write_26 (lv_at hl 4 rfl) ?_
  refine x_cvv10 (rest := []) hC xy_X8_put tw_120 hf (fun _ h => M_X8_put_12 G l kp h) ⟨Nat.le_of_ble_eq_true rfl, Nat.le_of_ble_eq_true rfl⟩ (xce_12 G kp _ _) rfl rfl rfl (Nat.le_of_ble_eq_true rfl) hl.1 hR hS dX0_write_28 ⟨Nat.le_refl _, Nat.le_refl _⟩ (fun I3 hf H locs hR hS => ?_)
  refine lv_aload_n hC.1 hC.2.1 dX0_write_31 rfl (lv_at hl 0 rfl) ?_
  refine x_get (v := .ref (xz G + 12)) hC xf_X0_16 (xce_11 G kp _ _) rfl hR dX0_write_32 ?_
  refine lv_iload_n hC.1 hC.2.1 dX0_write_35 rfl (lv_at hl 1 rfl) ?_
  refine lv_iconst (v := 3) hC.1 hC.2.1 dX0_write_36 (by decide) ?_
  refine lv_iload hC.1 hC.2.1 dX0_write_37 (lv_at hl 5 rfl) ?_
  refine W.eq (g2 := F0 m 39 ls [.int x5, .int 3, .int x1, .ref (xz G + 12)]) rfl ?_
  refine x_cvv10 (rest := []) hC xy_X8_put tw_120 hf (fun _ h => M_X8_put_12 G l kp h) ⟨Nat.le_of_ble_eq_true rfl, Nat.le_of_ble_eq_true rfl⟩ (xce_12 G kp _ _) rfl rfl rfl (Nat.le_of_ble_eq_true rfl) hl.1 hR hS dX0_write_39 ⟨Nat.le_refl _, Nat.le_refl _⟩ (fun I4 hf H locs hR hS => ?_)
  refine lv_aload_n hC.1 hC.2.1 dX0_write_42 rfl (lv_at hl 0 rfl) ?_
  refine x_get (v := .ref (xz G + 12)) hC xf_X0_16 (xce_11 G kp _ _) rfl hR dX0_write_43 ?_
  refine lv_iload_n hC.1 hC.2.1 dX0_write_46 rfl (lv_at hl 1 rfl) ?_
  refine lv_iconst (v := 4) hC.1 hC.2.1 dX0_write_47 (by decide) ?_
  refine lv_iload hC.1 hC.2.1 dX0_write_48 (lv_at hl 6 rfl) ?_
  refine x_cvv10 (rest := []) hC xy_X8_put tw_120 hf (fun _ h => M_X8_put_12 G l kp h) ⟨Nat.le_of_ble_eq_true rfl, Nat.le_of_ble_eq_true rfl⟩ (xce_12 G kp _ _) rfl rfl rfl (Nat.le_of_ble_eq_true rfl) hl.1 hR hS dX0_write_50 ⟨Nat.le_refl _, Nat.le_refl _⟩ (fun I5 hf H locs hR hS => ?_)
  refine lv_aload_n hC.1 hC.2.1 dX0_write_53 rfl (lv_at hl 0 rfl) ?_
  refine x_get (v := .ref (xz G + 12)) hC xf_X0_16 (xce_11 G kp _ _) rfl hR dX0_write_54 ?_
  refine lv_iload_n hC.1 hC.2.1 dX0_write_57 rfl (lv_at hl 1 rfl) ?_
  refine lv_iconst (v := 5) hC.1 hC.2.1 dX0_write_58 (by decide) ?_
  refine lv_iload hC.1 hC.2.1 dX0_write_59 (lv_at hl 7 rfl) ?_
  refine W.eq (g2 := F0 m 61 ls [.int x7, .int 5, .int x1, .ref (xz G + 12)]) rfl ?_
  refine x_cvv10 (rest := []) hC xy_X8_put tw_120 hf (fun _ h => M_X8_put_12 G l kp h) ⟨Nat.le_of_ble_eq_true rfl, Nat.le_of_ble_eq_true rfl⟩ (xce_12 G kp _ _) rfl rfl rfl (Nat.le_of_ble_eq_true rfl) hl.1 hR hS dX0_write_61 ⟨Nat.le_refl _, Nat.le_refl _⟩ (fun I6 hf H locs hR hS => ?_)
  refine lv_iload hC.1 hC.2.1 dX0_write_64 (lv_at hl 7 rfl) ?_
  refine lv_bipush (v := 14) hC.1 hC.2.1 dX0_write_66 (by decide) ?_
  refine lv_irem hC.1 hC.2.1 dX0_write_68 (by decide) ?_
  refine lv_bipush (v := 10) hC.1 hC.2.1 dX0_write_69 (by decide) ?_
  refine x_ic_lt (tgt := 78) hC dX0_write_71 (by decide) hf (fun hf => ?_) (fun hf => ?_)
  · refine lv_iconst (v := 0) hC.1 hC.2.1 dX0_write_78 (by decide) ?_
    exact W_X0_write_j79 hC hf _ _ _ hR hS (lv_sub hl [0, 1, 7] rfl)
  · refine lv_iconst (v := 1) hC.1 hC.2.1 dX0_write_74 (by decide) ?_
    refine lv_goto (tgt := 79) hC.1 hC.2.1 dX0_write_75 (by decide) ?_
    exact W_X0_write_j79 hC hf _ _ _ hR hS (lv_sub hl [0, 1, 7] rfl)
set_option maxRecDepth 20000 in
theorem W_X10_bargain_j16 {G : XG} {l : Launch} {kp : Bool} {p : Program} {e : Env} {s : State} {m : MethodId} {args : Array Value} {below : List Frame} {meth : Method} {c : Code} (hC : xC G p s m args meth c cX10_bargain 7 RX10 (some .int)) (N : Nat) {I : xTI} {L : xTL} {r : Int32} {rI : xTI} (hf : F_X10_bargain_j16 N I = some (r, rI)) : ∀ (H : Heap) (locs : List Loc) (ls : Array Slot), xRep G kp I L H → xS G s.heap H locs → lv_has ls 7 [(0, .ref (xz G + 0))] → W p l e (xrm 3 64) s m args below meth c H locs 0 0 (xMQ G kp below args s (some (.int r)) rI L) (F0 m 16 ls []) := by
  intro H locs ls hR hS hl
  unfold F_X10_bargain_j16 at hf
  refine lv_aload_n hC.1 hC.2.1 dX10_bargain_16 rfl (lv_at hl 0 rfl) ?_
  refine lv_bipush (v := (-3)) hC.1 hC.2.1 dX10_bargain_17 (by decide) ?_
  refine x_cvi10 (rest := []) hC xy_X10_refuse tw_411 hf (fun _ _ h => M_X10_refuse G l kp h) ⟨Nat.le_of_ble_eq_true rfl, Nat.le_of_ble_eq_true rfl⟩ (xce_0 G kp _ _) rfl rfl rfl (Nat.le_of_ble_eq_true rfl) hl.1 hR hS dX10_bargain_19 ⟨Nat.le_refl _, Nat.le_refl _⟩ (fun v1 I2 hf H locs hR hS => ?_)
  obtain ⟨h91, h92⟩ := Prod.mk.inj (Option.some.inj hf)
  subst h91
  subst h92
  exact x_iret hC hR hS dX10_bargain_22
set_option maxRecDepth 20000 in
theorem W_X10_bargain_j65 {G : XG} {l : Launch} {kp : Bool} {p : Program} {e : Env} {s : State} {m : MethodId} {args : Array Value} {below : List Frame} {meth : Method} {c : Code} (hC : xC G p s m args meth c cX10_bargain 7 RX10 (some .int)) (N : Nat) {I : xTI} {L : xTL} {r : Int32} {rI : xTI} (hf : F_X10_bargain_j65 N I = some (r, rI)) : ∀ (H : Heap) (locs : List Loc) (ls : Array Slot), xRep G kp I L H → xS G s.heap H locs → lv_has ls 7 [(0, .ref (xz G + 0))] → W p l e (xrm 3 64) s m args below meth c H locs 0 0 (xMQ G kp below args s (some (.int r)) rI L) (F0 m 65 ls []) := by
  intro H locs ls hR hS hl
  unfold F_X10_bargain_j65 at hf
  refine lv_aload_n hC.1 hC.2.1 dX10_bargain_65 rfl (lv_at hl 0 rfl) ?_
  refine lv_bipush (v := (-7)) hC.1 hC.2.1 dX10_bargain_66 (by decide) ?_
  refine x_cvi10 (rest := []) hC xy_X10_refuse tw_411 hf (fun _ _ h => M_X10_refuse G l kp h) ⟨Nat.le_of_ble_eq_true rfl, Nat.le_of_ble_eq_true rfl⟩ (xce_0 G kp _ _) rfl rfl rfl (Nat.le_of_ble_eq_true rfl) hl.1 hR hS dX10_bargain_68 ⟨Nat.le_refl _, Nat.le_refl _⟩ (fun v1 I2 hf H locs hR hS => ?_)
  obtain ⟨h91, h92⟩ := Prod.mk.inj (Option.some.inj hf)
  subst h91
  subst h92
  exact x_iret hC hR hS dX10_bargain_71
set_option maxRecDepth 20000 in
theorem W_X10_bargain_j50 {G : XG} {l : Launch} {kp : Bool} {p : Program} {e : Env} {s : State} {m : MethodId} {args : Array Value} {below : List Frame} {meth : Method} {c : Code} (hC : xC G p s m args meth c cX10_bargain 7 RX10 (some .int)) (N : Nat) {I : xTI} {L : xTL} {r : Int32} {rI : xTI} {x1 : Int32} {x2 : Int32} {x3 : Int32} {x4 : Int32} {t0 : Int32} (hf : F_X10_bargain_j50 N I x1 x2 x3 x4 t0 = some (r, rI)) : ∀ (H : Heap) (locs : List Loc) (ls : Array Slot), xRep G kp I L H → xS G s.heap H locs → lv_has ls 7 [(0, .ref (xz G + 0)), (1, .int x1), (2, .int x2), (3, .int x3), (4, .int x4)] → W p l e (xrm 3 64) s m args below meth c H locs 0 0 (xMQ G kp below args s (some (.int r)) rI L) (F0 m 50 ls [.int t0]) := by
  intro H locs ls hR hS hl
  unfold F_X10_bargain_j50 at hf
  refine lv_istore (lv' := [(5, .int t0), (0, .ref (xz G + 0)), (1, .int x1), (2, .int x2), (3, .int x3), (4, .int x4)]) hC.1 hC.2.1 dX10_bargain_50 hl (Nat.le_of_ble_eq_true rfl) rfl (fun ls hl => ?_)
  refine lv_iload hC.1 hC.2.1 dX10_bargain_52 (lv_at hl 0 rfl) ?_
  refine x_if_eq (tgt := 65) hC dX10_bargain_54 (by decide) hf (fun hf => ?_) (fun hf => ?_)
  · exact W_X10_bargain_j65 hC N hf _ _ _ hR hS (lv_sub hl [1] rfl)
  · refine lv_aload_n hC.1 hC.2.1 dX10_bargain_57 rfl (lv_at hl 1 rfl) ?_
    refine lv_iload_n hC.1 hC.2.1 dX10_bargain_58 rfl (lv_at hl 2 rfl) ?_
    refine x_cvi00 (rest := []) hC xy_X10_mayDeal tw_516 hf (fun _ h => M_X10_mayDeal G l kp h) ⟨Nat.le_of_ble_eq_true rfl, Nat.le_of_ble_eq_true rfl⟩ (xce_0 G kp _ _) rfl rfl rfl (Nat.le_of_ble_eq_true rfl) hl.1 hR hS dX10_bargain_59 ⟨Nat.le_refl _, Nat.le_refl _⟩ (fun v1 hf H locs hR hS => ?_)
    refine x_if_ne (tgt := 72) hC dX10_bargain_62 (by decide) hf (fun hf => ?_) (fun hf => ?_)
    · refine lv_aload_n hC.1 hC.2.1 dX10_bargain_72 rfl (lv_at hl 1 rfl) ?_
      refine x_get (v := .ref (xz G + 1)) hC xf_X10_10 (xce_0 G kp _ _) rfl hR dX10_bargain_73 ?_
      refine x_get (v := .ref (xz G + 11)) hC xf_X10_119 (xce_1 G kp _ _) rfl hR dX10_bargain_76 ?_
      refine lv_iconst (v := 0) hC.1 hC.2.1 dX10_bargain_79 (by decide) ?_
      refine x_cvi00 (rest := []) hC xy_X0_leastFree tw_520 hf (fun _ h => M_X0_leastFree G l kp N h) ⟨Nat.le_of_ble_eq_true rfl, Nat.le_of_ble_eq_true rfl⟩ (xce_11 G kp _ _) rfl rfl rfl (Nat.le_of_ble_eq_true rfl) hl.1 hR hS dX10_bargain_80 ⟨Nat.le_refl _, Nat.le_refl _⟩ (fun v2 hf H locs hR hS => ?_)
      refine lv_istore (lv' := [(6, .int v2), (5, .int t0), (0, .ref (xz G + 0)), (1, .int x1), (2, .int x2), (3, .int x3), (4, .int x4)]) hC.1 hC.2.1 dX10_bargain_83 hl (Nat.le_of_ble_eq_true rfl) rfl (fun ls hl => ?_)
      refine lv_iload hC.1 hC.2.1 dX10_bargain_85 (lv_at hl 0 rfl) ?_
      refine lv_iconst (v := (-1)) hC.1 hC.2.1 dX10_bargain_87 (by decide) ?_
      refine x_ic_ne (tgt := 98) hC dX10_bargain_88 (by decide) hf (fun hf => ?_) (fun hf => ?_)
      · refine lv_aload_n hC.1 hC.2.1 dX10_bargain_98 rfl (lv_at hl 2 rfl) ?_
        refine x_get (v := .ref (xz G + 1)) hC xf_X10_10 (xce_0 G kp _ _) rfl hR dX10_bargain_99 ?_
        refine x_get (v := .ref (xz G + 11)) hC xf_X10_119 (xce_1 G kp _ _) rfl hR dX10_bargain_102 ?_
        refine lv_iload hC.1 hC.2.1 dX10_bargain_105 (lv_at hl 0 rfl) ?_
        refine lv_iload_n hC.1 hC.2.1 dX10_bargain_107 rfl (lv_at hl 3 rfl) ?_
        refine x_csi00 (rest := [.int v2, .ref (xz G + 11)]) hC xy_X10_first tw_510 hf (fun _ h => M_X10_first G l kp h) ⟨Nat.le_of_ble_eq_true rfl, Nat.le_of_ble_eq_true rfl⟩ rfl rfl (Nat.le_of_ble_eq_true rfl) hl.1 hR hS dX10_bargain_108 ⟨Nat.le_refl _, Nat.le_refl _⟩ (fun v3 hf H locs hR hS => ?_)
        refine lv_iload_n hC.1 hC.2.1 dX10_bargain_111 rfl (lv_at hl 3 rfl) ?_
        refine x_csi00 (rest := [.int v3, .int v2, .ref (xz G + 11)]) hC xy_X10_second tw_513 hf (fun _ h => M_X10_second G l kp h) ⟨Nat.le_of_ble_eq_true rfl, Nat.le_of_ble_eq_true rfl⟩ rfl rfl (Nat.le_of_ble_eq_true rfl) hl.1 hR hS dX10_bargain_112 ⟨Nat.le_refl _, Nat.le_refl _⟩ (fun v4 hf H locs hR hS => ?_)
        refine lv_iload_n hC.1 hC.2.1 dX10_bargain_115 rfl (lv_at hl 4 rfl) ?_
        refine lv_iload_n hC.1 hC.2.1 dX10_bargain_116 rfl (lv_at hl 5 rfl) ?_
        refine lv_iload hC.1 hC.2.1 dX10_bargain_117 (lv_at hl 6 rfl) ?_
        refine W.eq (g2 := F0 m 119 ls [.int x4, .int x3, .int x2, .int v4, .int v3, .int v2, .ref (xz G + 11)]) rfl ?_
        refine lv_aload_n hC.1 hC.2.1 dX10_bargain_119 rfl (lv_at hl 2 rfl) ?_
        refine x_get (v := .ref (xz G + 1)) hC xf_X10_10 (xce_0 G kp _ _) rfl hR dX10_bargain_120 ?_
        refine x_getI hC xf_X10_164 (xce_1 G kp _ _) rfl hR dX10_bargain_123 hf (fun v5 hf => ?_)
        refine x_cvv10 (rest := []) hC xy_X0_write tw_527 hf (fun _ h => M_X0_write G l kp h) ⟨Nat.le_of_ble_eq_true rfl, Nat.le_of_ble_eq_true rfl⟩ (xce_11 G kp _ _) rfl rfl rfl (Nat.le_of_ble_eq_true rfl) hl.1 hR hS dX10_bargain_126 ⟨Nat.le_refl _, Nat.le_refl _⟩ (fun I6 hf H locs hR hS => ?_)
        refine lv_iload hC.1 hC.2.1 dX10_bargain_129 (lv_at hl 0 rfl) ?_
        obtain ⟨h91, h92⟩ := Prod.mk.inj (Option.some.inj hf)
        subst h91
        subst h92
        exact x_iret hC hR hS dX10_bargain_131
      · refine lv_aload_n hC.1 hC.2.1 dX10_bargain_91 rfl (lv_at hl 2 rfl) ?_
        refine lv_bipush (v := (-8)) hC.1 hC.2.1 dX10_bargain_92 (by decide) ?_
        refine x_cvi10 (rest := []) hC xy_X10_refuse tw_411 hf (fun _ _ h => M_X10_refuse G l kp h) ⟨Nat.le_of_ble_eq_true rfl, Nat.le_of_ble_eq_true rfl⟩ (xce_0 G kp _ _) rfl rfl rfl (Nat.le_of_ble_eq_true rfl) hl.1 hR hS dX10_bargain_94 ⟨Nat.le_refl _, Nat.le_refl _⟩ (fun v7 I8 hf H locs hR hS => ?_)
        obtain ⟨h91, h92⟩ := Prod.mk.inj (Option.some.inj hf)
        subst h91
        subst h92
        exact x_iret hC hR hS dX10_bargain_97
    · exact W_X10_bargain_j65 hC N hf _ _ _ hR hS (lv_sub hl [1] rfl)
set_option maxRecDepth 20000 in
theorem M_X10_bargain (G : XG) (l : Launch) (kp : Bool) (N : Nat) {I : xTI} {L : xTL} {x1 : Int32} {x2 : Int32} {x3 : Int32} {x4 : Int32} {r : Int32} {rI : xTI} (hf : F_X10_bargain N I x1 x2 x3 x4 = some (r, rI)) : xMet G l yX10_bargain cX10_bargain 7 (some .int) 3 64 kp [.ref (xz G + 0), .int x1, .int x2, .int x3, .int x4] I L (some (.int r)) rI L := by
  refine xMet.ofW (by decide +kernel) (Nat.le_of_ble_eq_true rfl) ?_
  intro p e s m args below meth c hC H locs ls hR hS hl
  replace hC : xC G p s m args meth c cX10_bargain 7 RX10 (some .int) := hC
  replace hl : lv_has ls 7 [(0, .ref (xz G + 0)), (1, .int x1), (2, .int x2), (3, .int x3), (4, .int x4)] := hl
  unfold F_X10_bargain at hf
  refine lv_aload_n hC.1 hC.2.1 dX10_bargain_0 rfl (lv_at hl 0 rfl) ?_
  refine lv_iload_n hC.1 hC.2.1 dX10_bargain_1 rfl (lv_at hl 1 rfl) ?_
  refine x_cvi00 (rest := []) hC xy_X10_areMen tw_506 hf (fun _ h => M_X10_areMen G l kp h) ⟨Nat.le_of_ble_eq_true rfl, Nat.le_of_ble_eq_true rfl⟩ (xce_0 G kp _ _) rfl rfl rfl (Nat.le_of_ble_eq_true rfl) hl.1 hR hS dX10_bargain_2 ⟨Nat.le_refl _, Nat.le_refl _⟩ (fun v1 hf H locs hR hS => ?_)
  refine x_if_eq (tgt := 16) hC dX10_bargain_5 (by decide) hf (fun hf => ?_) (fun hf => ?_)
  · exact W_X10_bargain_j16 hC N hf _ _ _ hR hS (lv_sub hl [0] rfl)
  · refine lv_aload_n hC.1 hC.2.1 dX10_bargain_8 rfl (lv_at hl 0 rfl) ?_
    refine lv_iload_n hC.1 hC.2.1 dX10_bargain_9 rfl (lv_at hl 2 rfl) ?_
    refine x_cvi00 (rest := []) hC xy_X10_isStock tw_431 hf (fun _ h => M_X10_isStock G l kp h) ⟨Nat.le_of_ble_eq_true rfl, Nat.le_of_ble_eq_true rfl⟩ (xce_0 G kp _ _) rfl rfl rfl (Nat.le_of_ble_eq_true rfl) hl.1 hR hS dX10_bargain_10 ⟨Nat.le_refl _, Nat.le_refl _⟩ (fun v2 hf H locs hR hS => ?_)
    refine x_if_ne (tgt := 23) hC dX10_bargain_13 (by decide) hf (fun hf => ?_) (fun hf => ?_)
    · refine lv_iload_n hC.1 hC.2.1 dX10_bargain_23 rfl (lv_at hl 3 rfl) ?_
      refine lv_iconst (v := 1) hC.1 hC.2.1 dX10_bargain_24 (by decide) ?_
      refine lv_bipush (v := 99) hC.1 hC.2.1 dX10_bargain_25 (by decide) ?_
      refine x_csi00 (rest := []) hC xy_X10_isWithin tw_408 hf (fun _ h => M_X10_isWithin G l kp h) ⟨Nat.le_of_ble_eq_true rfl, Nat.le_of_ble_eq_true rfl⟩ rfl rfl (Nat.le_of_ble_eq_true rfl) hl.1 hR hS dX10_bargain_27 ⟨Nat.le_refl _, Nat.le_refl _⟩ (fun v3 hf H locs hR hS => ?_)
      refine x_if_eq (tgt := 49) hC dX10_bargain_30 (by decide) hf (fun hf => ?_) (fun hf => ?_)
      · refine lv_iconst (v := 0) hC.1 hC.2.1 dX10_bargain_49 (by decide) ?_
        exact W_X10_bargain_j50 hC N hf _ _ _ hR hS (lv_sub hl [0, 1, 2, 3, 4] rfl)
      · refine lv_iload hC.1 hC.2.1 dX10_bargain_33 (lv_at hl 4 rfl) ?_
        refine lv_iconst (v := 1) hC.1 hC.2.1 dX10_bargain_35 (by decide) ?_
        refine lv_sipush (v := 9999) hC.1 hC.2.1 dX10_bargain_36 (by decide) ?_
        refine x_csi00 (rest := []) hC xy_X10_isWithin tw_408 hf (fun _ h => M_X10_isWithin G l kp h) ⟨Nat.le_of_ble_eq_true rfl, Nat.le_of_ble_eq_true rfl⟩ rfl rfl (Nat.le_of_ble_eq_true rfl) hl.1 hR hS dX10_bargain_39 ⟨Nat.le_refl _, Nat.le_refl _⟩ (fun v4 hf H locs hR hS => ?_)
        refine x_if_eq (tgt := 49) hC dX10_bargain_42 (by decide) hf (fun hf => ?_) (fun hf => ?_)
        · refine lv_iconst (v := 0) hC.1 hC.2.1 dX10_bargain_49 (by decide) ?_
          exact W_X10_bargain_j50 hC N hf _ _ _ hR hS (lv_sub hl [0, 1, 2, 3, 4] rfl)
        · refine lv_iconst (v := 1) hC.1 hC.2.1 dX10_bargain_45 (by decide) ?_
          refine lv_goto (tgt := 50) hC.1 hC.2.1 dX10_bargain_46 (by decide) ?_
          exact W_X10_bargain_j50 hC N hf _ _ _ hR hS (lv_sub hl [0, 1, 2, 3, 4] rfl)
    · exact W_X10_bargain_j16 hC N hf _ _ _ hR hS (lv_sub hl [0] rfl)
set_option maxRecDepth 20000 in
theorem M_X0_isThere (G : XG) (l : Launch) (kp : Bool) {I : xTI} {L : xTL} {x1 : Int32} {r : Int32} (hf : F_X0_isThere I x1 = some r) : xMet G l yX0_isThere cX0_isThere 2 (some .boolean) 1 23 kp [.ref (xz G + 11), .int x1] I L (some (.int r)) I L := by
  refine xMet.ofW (by decide +kernel) (Nat.le_of_ble_eq_true rfl) ?_
  intro p e s m args below meth c hC H locs ls hR hS hl
  replace hC : xC G p s m args meth c cX0_isThere 2 RX0 (some .boolean) := hC
  replace hl : lv_has ls 2 [(0, .ref (xz G + 11)), (1, .int x1)] := hl
  unfold F_X0_isThere at hf
  refine lv_iload_n hC.1 hC.2.1 dX0_isThere_0 rfl (lv_at hl 1 rfl) ?_
  refine x_if_lt (tgt := 28) hC dX0_isThere_1 (by decide) hf (fun hf => ?_) (fun hf => ?_)
  · refine lv_iconst (v := 0) hC.1 hC.2.1 dX0_isThere_28 (by decide) ?_
    obtain ⟨h01, hf⟩ := xzc_some hf
    have h9 := Option.some.inj hf
    subst h9
    exact x_zret h01 hC hR hS dX0_isThere_29
  · refine lv_iload_n hC.1 hC.2.1 dX0_isThere_4 rfl (lv_at hl 1 rfl) ?_
    refine lv_bipush (v := 60) hC.1 hC.2.1 dX0_isThere_5 (by decide) ?_
    refine x_ic_ge (tgt := 28) hC dX0_isThere_7 (by decide) hf (fun hf => ?_) (fun hf => ?_)
    · refine lv_iconst (v := 0) hC.1 hC.2.1 dX0_isThere_28 (by decide) ?_
      obtain ⟨h01, hf⟩ := xzc_some hf
      have h9 := Option.some.inj hf
      subst h9
      exact x_zret h01 hC hR hS dX0_isThere_29
    · refine lv_aload_n hC.1 hC.2.1 dX0_isThere_10 rfl (lv_at hl 0 rfl) ?_
      refine x_get (v := .ref (xz G + 12)) hC xf_X0_16 (xce_11 G kp _ _) rfl hR dX0_isThere_11 ?_
      refine lv_iload_n hC.1 hC.2.1 dX0_isThere_14 rfl (lv_at hl 1 rfl) ?_
      refine lv_bipush (v := 7) hC.1 hC.2.1 dX0_isThere_15 (by decide) ?_
      refine x_cvi00 (rest := []) hC xy_X8_at tw_462 hf (fun _ h => M_X8_at_12 G l kp h) ⟨Nat.le_of_ble_eq_true rfl, Nat.le_of_ble_eq_true rfl⟩ (xce_12 G kp _ _) rfl rfl rfl (Nat.le_of_ble_eq_true rfl) hl.1 hR hS dX0_isThere_17 ⟨Nat.le_refl _, Nat.le_refl _⟩ (fun v1 hf H locs hR hS => ?_)
      refine lv_iconst (v := (-1)) hC.1 hC.2.1 dX0_isThere_20 (by decide) ?_
      refine x_ic_eq (tgt := 28) hC dX0_isThere_21 (by decide) hf (fun hf => ?_) (fun hf => ?_)
      · refine lv_iconst (v := 0) hC.1 hC.2.1 dX0_isThere_28 (by decide) ?_
        obtain ⟨h01, hf⟩ := xzc_some hf
        have h9 := Option.some.inj hf
        subst h9
        exact x_zret h01 hC hR hS dX0_isThere_29
      · refine lv_iconst (v := 1) hC.1 hC.2.1 dX0_isThere_24 (by decide) ?_
        refine lv_goto (tgt := 29) hC.1 hC.2.1 dX0_isThere_25 (by decide) ?_
        obtain ⟨h01, hf⟩ := xzc_some hf
        have h9 := Option.some.inj hf
        subst h9
        exact x_zret h01 hC hR hS dX0_isThere_29
set_option maxRecDepth 20000 in
theorem M_X0_markColumnOf (G : XG) (l : Launch) (kp : Bool) {I : xTI} {L : xTL} {x1 : Int32} {x2 : Int32} {r : Int32} (hf : F_X0_markColumnOf I x1 x2 = some r) : xMet G l yX0_markColumnOf cX0_markColumnOf 3 (some .int) 1 23 kp [.ref (xz G + 11), .int x1, .int x2] I L (some (.int r)) I L := by
  refine xMet.ofW (by decide +kernel) (Nat.le_of_ble_eq_true rfl) ?_
  intro p e s m args below meth c hC H locs ls hR hS hl
  replace hC : xC G p s m args meth c cX0_markColumnOf 3 RX0 (some .int) := hC
  replace hl : lv_has ls 3 [(0, .ref (xz G + 11)), (1, .int x1), (2, .int x2)] := hl
  unfold F_X0_markColumnOf at hf
  refine lv_aload_n hC.1 hC.2.1 dX0_markColumnOf_0 rfl (lv_at hl 0 rfl) ?_
  refine x_get (v := .ref (xz G + 12)) hC xf_X0_16 (xce_11 G kp _ _) rfl hR dX0_markColumnOf_1 ?_
  refine lv_iload_n hC.1 hC.2.1 dX0_markColumnOf_4 rfl (lv_at hl 1 rfl) ?_
  refine lv_iconst (v := 0) hC.1 hC.2.1 dX0_markColumnOf_5 (by decide) ?_
  refine x_cvi00 (rest := []) hC xy_X8_at tw_462 hf (fun _ h => M_X8_at_12 G l kp h) ⟨Nat.le_of_ble_eq_true rfl, Nat.le_of_ble_eq_true rfl⟩ (xce_12 G kp _ _) rfl rfl rfl (Nat.le_of_ble_eq_true rfl) hl.1 hR hS dX0_markColumnOf_6 ⟨Nat.le_refl _, Nat.le_refl _⟩ (fun v1 hf H locs hR hS => ?_)
  refine lv_iload_n hC.1 hC.2.1 dX0_markColumnOf_9 rfl (lv_at hl 2 rfl) ?_
  refine x_ic_ne (tgt := 16) hC dX0_markColumnOf_10 (by decide) hf (fun hf => ?_) (fun hf => ?_)
  · refine lv_aload_n hC.1 hC.2.1 dX0_markColumnOf_16 rfl (lv_at hl 0 rfl) ?_
    refine x_get (v := .ref (xz G + 12)) hC xf_X0_16 (xce_11 G kp _ _) rfl hR dX0_markColumnOf_17 ?_
    refine lv_iload_n hC.1 hC.2.1 dX0_markColumnOf_20 rfl (lv_at hl 1 rfl) ?_
    refine lv_iconst (v := 1) hC.1 hC.2.1 dX0_markColumnOf_21 (by decide) ?_
    refine x_cvi00 (rest := []) hC xy_X8_at tw_462 hf (fun _ h => M_X8_at_12 G l kp h) ⟨Nat.le_of_ble_eq_true rfl, Nat.le_of_ble_eq_true rfl⟩ (xce_12 G kp _ _) rfl rfl rfl (Nat.le_of_ble_eq_true rfl) hl.1 hR hS dX0_markColumnOf_22 ⟨Nat.le_refl _, Nat.le_refl _⟩ (fun v2 hf H locs hR hS => ?_)
    refine lv_iload_n hC.1 hC.2.1 dX0_markColumnOf_25 rfl (lv_at hl 2 rfl) ?_
    refine x_ic_ne (tgt := 34) hC dX0_markColumnOf_26 (by decide) hf (fun hf => ?_) (fun hf => ?_)
    · refine lv_iconst (v := (-1)) hC.1 hC.2.1 dX0_markColumnOf_34 (by decide) ?_
      have h9 := Option.some.inj hf
      subst h9
      exact x_iret hC hR hS dX0_markColumnOf_35
    · refine lv_bipush (v := 9) hC.1 hC.2.1 dX0_markColumnOf_29 (by decide) ?_
      refine lv_goto (tgt := 35) hC.1 hC.2.1 dX0_markColumnOf_31 (by decide) ?_
      have h9 := Option.some.inj hf
      subst h9
      exact x_iret hC hR hS dX0_markColumnOf_35
  · refine lv_bipush (v := 8) hC.1 hC.2.1 dX0_markColumnOf_13 (by decide) ?_
    have h9 := Option.some.inj hf
    subst h9
    exact x_iret hC hR hS dX0_markColumnOf_15
set_option maxRecDepth 20000 in
theorem M_X0_at (G : XG) (l : Launch) (kp : Bool) {I : xTI} {L : xTL} {x1 : Int32} {x2 : Int32} {r : Int32} (hf : F_X0_at I x1 x2 = some r) : xMet G l yX0_at cX0_at 3 (some .int) 1 23 kp [.ref (xz G + 11), .int x1, .int x2] I L (some (.int r)) I L := by
  refine xMet.ofW (by decide +kernel) (Nat.le_of_ble_eq_true rfl) ?_
  intro p e s m args below meth c hC H locs ls hR hS hl
  replace hC : xC G p s m args meth c cX0_at 3 RX0 (some .int) := hC
  replace hl : lv_has ls 3 [(0, .ref (xz G + 11)), (1, .int x1), (2, .int x2)] := hl
  unfold F_X0_at at hf
  refine lv_aload_n hC.1 hC.2.1 dX0_at_0 rfl (lv_at hl 0 rfl) ?_
  refine x_get (v := .ref (xz G + 12)) hC xf_X0_16 (xce_11 G kp _ _) rfl hR dX0_at_1 ?_
  refine lv_iload_n hC.1 hC.2.1 dX0_at_4 rfl (lv_at hl 1 rfl) ?_
  refine lv_iload_n hC.1 hC.2.1 dX0_at_5 rfl (lv_at hl 2 rfl) ?_
  refine x_cvi00 (rest := []) hC xy_X8_at tw_462 hf (fun _ h => M_X8_at_12 G l kp h) ⟨Nat.le_of_ble_eq_true rfl, Nat.le_of_ble_eq_true rfl⟩ (xce_12 G kp _ _) rfl rfl rfl (Nat.le_of_ble_eq_true rfl) hl.1 hR hS dX0_at_6 ⟨Nat.le_refl _, Nat.le_refl _⟩ (fun v1 hf H locs hR hS => ?_)
  have h9 := Option.some.inj hf
  subst h9
  exact x_iret hC hR hS dX0_at_9
set_option maxRecDepth 20000 in
theorem W_X0_markBy_j43 {G : XG} {l : Launch} {kp : Bool} {p : Program} {e : Env} {s : State} {m : MethodId} {args : Array Value} {below : List Frame} {meth : Method} {c : Code} (hC : xC G p s m args meth c cX0_markBy 5 RX0 (some .boolean)) {I : xTI} {L : xTL} {r : Int32} {rI : xTI} {x1 : Int32} {t0 : Int32} (hf : F_X0_markBy_j43 I x1 t0 = some (r, rI)) : ∀ (H : Heap) (locs : List Loc) (ls : Array Slot), xRep G kp I L H → xS G s.heap H locs → lv_has ls 5 [(0, .ref (xz G + 11)), (1, .int x1)] → W p l e (xrm 1 24) s m args below meth c H locs 0 0 (xMQ G kp below args s (some (.int r)) rI L) (F0 m 43 ls [.int t0]) := by
  intro H locs ls hR hS hl
  unfold F_X0_markBy_j43 at hf
  refine lv_istore (lv' := [(4, .int t0), (0, .ref (xz G + 11)), (1, .int x1)]) hC.1 hC.2.1 dX0_markBy_43 hl (Nat.le_of_ble_eq_true rfl) rfl (fun ls hl => ?_)
  refine lv_iload hC.1 hC.2.1 dX0_markBy_45 (lv_at hl 0 rfl) ?_
  refine x_if_eq (tgt := 61) hC dX0_markBy_47 (by decide) hf (fun hf => ?_) (fun hf => ?_)
  · refine lv_iload hC.1 hC.2.1 dX0_markBy_61 (lv_at hl 0 rfl) ?_
    obtain ⟨h01, hf⟩ := xzc_some hf
    obtain ⟨h91, h92⟩ := Prod.mk.inj (Option.some.inj hf)
    subst h91
    subst h92
    exact x_zret h01 hC hR hS dX0_markBy_63
  · refine lv_aload_n hC.1 hC.2.1 dX0_markBy_50 rfl (lv_at hl 1 rfl) ?_
    refine x_get (v := .ref (xz G + 12)) hC xf_X0_16 (xce_11 G kp _ _) rfl hR dX0_markBy_51 ?_
    refine lv_iload_n hC.1 hC.2.1 dX0_markBy_54 rfl (lv_at hl 2 rfl) ?_
    refine lv_bipush (v := 7) hC.1 hC.2.1 dX0_markBy_55 (by decide) ?_
    refine lv_iconst (v := 1) hC.1 hC.2.1 dX0_markBy_57 (by decide) ?_
    refine x_cvv10 (rest := []) hC xy_X8_put tw_120 hf (fun _ h => M_X8_put_12 G l kp h) ⟨Nat.le_of_ble_eq_true rfl, Nat.le_of_ble_eq_true rfl⟩ (xce_12 G kp _ _) rfl rfl rfl (Nat.le_of_ble_eq_true rfl) hl.1 hR hS dX0_markBy_58 ⟨Nat.le_refl _, Nat.le_refl _⟩ (fun I1 hf H locs hR hS => ?_)
    refine lv_iload hC.1 hC.2.1 dX0_markBy_61 (lv_at hl 0 rfl) ?_
    obtain ⟨h01, hf⟩ := xzc_some hf
    obtain ⟨h91, h92⟩ := Prod.mk.inj (Option.some.inj hf)
    subst h91
    subst h92
    exact x_zret h01 hC hR hS dX0_markBy_63
set_option maxRecDepth 20000 in
theorem M_X0_markBy (G : XG) (l : Launch) (kp : Bool) {I : xTI} {L : xTL} {x1 : Int32} {x2 : Int32} {x3 : Int32} {r : Int32} {rI : xTI} (hf : F_X0_markBy I x1 x2 x3 = some (r, rI)) : xMet G l yX0_markBy cX0_markBy 5 (some .boolean) 1 24 kp [.ref (xz G + 11), .int x1, .int x2, .int x3] I L (some (.int r)) rI L := by
  refine xMet.ofW (by decide +kernel) (Nat.le_of_ble_eq_true rfl) ?_
  intro p e s m args below meth c hC H locs ls hR hS hl
  replace hC : xC G p s m args meth c cX0_markBy 5 RX0 (some .boolean) := hC
  replace hl : lv_has ls 5 [(0, .ref (xz G + 11)), (1, .int x1), (2, .int x2), (3, .int x3)] := hl
  unfold F_X0_markBy at hf
  refine lv_aload_n hC.1 hC.2.1 dX0_markBy_0 rfl (lv_at hl 0 rfl) ?_
  refine x_get (v := .ref (xz G + 12)) hC xf_X0_16 (xce_11 G kp _ _) rfl hR dX0_markBy_1 ?_
  refine lv_iload_n hC.1 hC.2.1 dX0_markBy_4 rfl (lv_at hl 1 rfl) ?_
  refine lv_iload_n hC.1 hC.2.1 dX0_markBy_5 rfl (lv_at hl 2 rfl) ?_
  refine lv_iload_n hC.1 hC.2.1 dX0_markBy_6 rfl (lv_at hl 3 rfl) ?_
  refine x_cvv10 (rest := []) hC xy_X8_put tw_120 hf (fun _ h => M_X8_put_12 G l kp h) ⟨Nat.le_of_ble_eq_true rfl, Nat.le_of_ble_eq_true rfl⟩ (xce_12 G kp _ _) rfl rfl rfl (Nat.le_of_ble_eq_true rfl) hl.1 hR hS dX0_markBy_7 ⟨Nat.le_refl _, Nat.le_refl _⟩ (fun I1 hf H locs hR hS => ?_)
  refine lv_aload_n hC.1 hC.2.1 dX0_markBy_10 rfl (lv_at hl 0 rfl) ?_
  refine x_get (v := .ref (xz G + 12)) hC xf_X0_16 (xce_11 G kp _ _) rfl hR dX0_markBy_11 ?_
  refine lv_iload_n hC.1 hC.2.1 dX0_markBy_14 rfl (lv_at hl 1 rfl) ?_
  refine lv_bipush (v := 8) hC.1 hC.2.1 dX0_markBy_15 (by decide) ?_
  refine x_cvi00 (rest := []) hC xy_X8_at tw_462 hf (fun _ h => M_X8_at_12 G l kp h) ⟨Nat.le_of_ble_eq_true rfl, Nat.le_of_ble_eq_true rfl⟩ (xce_12 G kp _ _) rfl rfl rfl (Nat.le_of_ble_eq_true rfl) hl.1 hR hS dX0_markBy_17 ⟨Nat.le_refl _, Nat.le_refl _⟩ (fun v2 hf H locs hR hS => ?_)
  refine W.eq (g2 := F0 m 20 ls [.int v2]) rfl ?_
  refine lv_iconst (v := (-1)) hC.1 hC.2.1 dX0_markBy_20 (by decide) ?_
  refine x_ic_eq (tgt := 42) hC dX0_markBy_21 (by decide) hf (fun hf => ?_) (fun hf => ?_)
  · refine lv_iconst (v := 0) hC.1 hC.2.1 dX0_markBy_42 (by decide) ?_
    exact W_X0_markBy_j43 hC hf _ _ _ hR hS (lv_sub hl [0, 1] rfl)
  · refine lv_aload_n hC.1 hC.2.1 dX0_markBy_24 rfl (lv_at hl 0 rfl) ?_
    refine x_get (v := .ref (xz G + 12)) hC xf_X0_16 (xce_11 G kp _ _) rfl hR dX0_markBy_25 ?_
    refine lv_iload_n hC.1 hC.2.1 dX0_markBy_28 rfl (lv_at hl 1 rfl) ?_
    refine lv_bipush (v := 9) hC.1 hC.2.1 dX0_markBy_29 (by decide) ?_
    refine x_cvi00 (rest := []) hC xy_X8_at tw_462 hf (fun _ h => M_X8_at_12 G l kp h) ⟨Nat.le_of_ble_eq_true rfl, Nat.le_of_ble_eq_true rfl⟩ (xce_12 G kp _ _) rfl rfl rfl (Nat.le_of_ble_eq_true rfl) hl.1 hR hS dX0_markBy_31 ⟨Nat.le_refl _, Nat.le_refl _⟩ (fun v3 hf H locs hR hS => ?_)
    refine lv_iconst (v := (-1)) hC.1 hC.2.1 dX0_markBy_34 (by decide) ?_
    refine x_ic_eq (tgt := 42) hC dX0_markBy_35 (by decide) hf (fun hf => ?_) (fun hf => ?_)
    · refine lv_iconst (v := 0) hC.1 hC.2.1 dX0_markBy_42 (by decide) ?_
      exact W_X0_markBy_j43 hC hf _ _ _ hR hS (lv_sub hl [0, 1] rfl)
    · refine lv_iconst (v := 1) hC.1 hC.2.1 dX0_markBy_38 (by decide) ?_
      refine lv_goto (tgt := 43) hC.1 hC.2.1 dX0_markBy_39 (by decide) ?_
      exact W_X0_markBy_j43 hC hf _ _ _ hR hS (lv_sub hl [0, 1] rfl)
set_option maxRecDepth 20000 in
theorem W_X10_mark_j22 {G : XG} {l : Launch} {kp : Bool} {p : Program} {e : Env} {s : State} {m : MethodId} {args : Array Value} {below : List Frame} {meth : Method} {c : Code} (hC : xC G p s m args meth c cX10_mark 4 RX10 (some .int)) {I : xTI} {L : xTL} {r : Int32} {rI : xTI} (hf : F_X10_mark_j22 I = some (r, rI)) : ∀ (H : Heap) (locs : List Loc) (ls : Array Slot), xRep G kp I L H → xS G s.heap H locs → lv_has ls 4 [(0, .ref (xz G + 0))] → W p l e (xrm 2 48) s m args below meth c H locs 0 0 (xMQ G kp below args s (some (.int r)) rI L) (F0 m 22 ls []) := by
  intro H locs ls hR hS hl
  unfold F_X10_mark_j22 at hf
  refine lv_aload_n hC.1 hC.2.1 dX10_mark_22 rfl (lv_at hl 0 rfl) ?_
  refine lv_bipush (v := (-3)) hC.1 hC.2.1 dX10_mark_23 (by decide) ?_
  refine x_cvi10 (rest := []) hC xy_X10_refuse tw_411 hf (fun _ _ h => M_X10_refuse G l kp h) ⟨Nat.le_of_ble_eq_true rfl, Nat.le_of_ble_eq_true rfl⟩ (xce_0 G kp _ _) rfl rfl rfl (Nat.le_of_ble_eq_true rfl) hl.1 hR hS dX10_mark_25 ⟨Nat.le_refl _, Nat.le_refl _⟩ (fun v1 I2 hf H locs hR hS => ?_)
  obtain ⟨h91, h92⟩ := Prod.mk.inj (Option.some.inj hf)
  subst h91
  subst h92
  exact x_iret hC hR hS dX10_mark_28
set_option maxRecDepth 20000 in
theorem W_X10_mark_j86 {G : XG} {l : Launch} {kp : Bool} {p : Program} {e : Env} {s : State} {m : MethodId} {args : Array Value} {below : List Frame} {meth : Method} {c : Code} (hC : xC G p s m args meth c cX10_mark 4 RX10 (some .int)) {I : xTI} {L : xTL} {r : Int32} {rI : xTI} (hf : F_X10_mark_j86 I = some (r, rI)) : ∀ (H : Heap) (locs : List Loc) (ls : Array Slot), xRep G kp I L H → xS G s.heap H locs → lv_has ls 4 [(0, .ref (xz G + 0))] → W p l e (xrm 2 48) s m args below meth c H locs 0 0 (xMQ G kp below args s (some (.int r)) rI L) (F0 m 86 ls []) := by
  intro H locs ls hR hS hl
  unfold F_X10_mark_j86 at hf
  refine lv_aload_n hC.1 hC.2.1 dX10_mark_86 rfl (lv_at hl 0 rfl) ?_
  refine lv_bipush (v := (-7)) hC.1 hC.2.1 dX10_mark_87 (by decide) ?_
  refine x_cvi10 (rest := []) hC xy_X10_refuse tw_411 hf (fun _ _ h => M_X10_refuse G l kp h) ⟨Nat.le_of_ble_eq_true rfl, Nat.le_of_ble_eq_true rfl⟩ (xce_0 G kp _ _) rfl rfl rfl (Nat.le_of_ble_eq_true rfl) hl.1 hR hS dX10_mark_89 ⟨Nat.le_refl _, Nat.le_refl _⟩ (fun v1 I2 hf H locs hR hS => ?_)
  obtain ⟨h91, h92⟩ := Prod.mk.inj (Option.some.inj hf)
  subst h91
  subst h92
  exact x_iret hC hR hS dX10_mark_92
set_option maxRecDepth 20000 in
theorem M_X10_mark (G : XG) (l : Launch) (kp : Bool) {I : xTI} {L : xTL} {x1 : Int32} {x2 : Int32} {r : Int32} {rI : xTI} (hf : F_X10_mark I x1 x2 = some (r, rI)) : xMet G l yX10_mark cX10_mark 4 (some .int) 2 48 kp [.ref (xz G + 0), .int x1, .int x2] I L (some (.int r)) rI L := by
  refine xMet.ofW (by decide +kernel) (Nat.le_of_ble_eq_true rfl) ?_
  intro p e s m args below meth c hC H locs ls hR hS hl
  replace hC : xC G p s m args meth c cX10_mark 4 RX10 (some .int) := hC
  replace hl : lv_has ls 4 [(0, .ref (xz G + 0)), (1, .int x1), (2, .int x2)] := hl
  unfold F_X10_mark at hf
  refine lv_aload_n hC.1 hC.2.1 dX10_mark_0 rfl (lv_at hl 0 rfl) ?_
  refine x_get (v := .ref (xz G + 1)) hC xf_X10_10 (xce_0 G kp _ _) rfl hR dX10_mark_1 ?_
  refine x_get (v := .ref (xz G + 11)) hC xf_X10_119 (xce_1 G kp _ _) rfl hR dX10_mark_4 ?_
  refine lv_iload_n hC.1 hC.2.1 dX10_mark_7 rfl (lv_at hl 1 rfl) ?_
  refine x_cvi00 (rest := []) hC xy_X0_isThere tw_535 hf (fun _ h => M_X0_isThere G l kp h) ⟨Nat.le_of_ble_eq_true rfl, Nat.le_of_ble_eq_true rfl⟩ (xce_11 G kp _ _) rfl rfl rfl (Nat.le_of_ble_eq_true rfl) hl.1 hR hS dX10_mark_8 ⟨Nat.le_refl _, Nat.le_refl _⟩ (fun v1 hf H locs hR hS => ?_)
  refine x_if_eq (tgt := 22) hC dX10_mark_11 (by decide) hf (fun hf => ?_) (fun hf => ?_)
  · exact W_X10_mark_j22 hC hf _ _ _ hR hS (lv_sub hl [0] rfl)
  · refine lv_aload_n hC.1 hC.2.1 dX10_mark_14 rfl (lv_at hl 0 rfl) ?_
    refine lv_iload_n hC.1 hC.2.1 dX10_mark_15 rfl (lv_at hl 2 rfl) ?_
    refine x_cvi00 (rest := []) hC xy_X10_isMan tw_427 hf (fun _ h => M_X10_isMan G l kp h) ⟨Nat.le_of_ble_eq_true rfl, Nat.le_of_ble_eq_true rfl⟩ (xce_0 G kp _ _) rfl rfl rfl (Nat.le_of_ble_eq_true rfl) hl.1 hR hS dX10_mark_16 ⟨Nat.le_refl _, Nat.le_refl _⟩ (fun v2 hf H locs hR hS => ?_)
    refine x_if_ne (tgt := 29) hC dX10_mark_19 (by decide) hf (fun hf => ?_) (fun hf => ?_)
    · refine lv_aload_n hC.1 hC.2.1 dX10_mark_29 rfl (lv_at hl 0 rfl) ?_
      refine x_get (v := .ref (xz G + 1)) hC xf_X10_10 (xce_0 G kp _ _) rfl hR dX10_mark_30 ?_
      refine x_get (v := .ref (xz G + 11)) hC xf_X10_119 (xce_1 G kp _ _) rfl hR dX10_mark_33 ?_
      refine lv_iload_n hC.1 hC.2.1 dX10_mark_36 rfl (lv_at hl 1 rfl) ?_
      refine lv_iload_n hC.1 hC.2.1 dX10_mark_37 rfl (lv_at hl 2 rfl) ?_
      refine x_cvi00 (rest := []) hC xy_X0_markColumnOf tw_539 hf (fun _ h => M_X0_markColumnOf G l kp h) ⟨Nat.le_of_ble_eq_true rfl, Nat.le_of_ble_eq_true rfl⟩ (xce_11 G kp _ _) rfl rfl rfl (Nat.le_of_ble_eq_true rfl) hl.1 hR hS dX10_mark_38 ⟨Nat.le_refl _, Nat.le_refl _⟩ (fun v3 hf H locs hR hS => ?_)
      refine lv_istore_n (lv' := [(3, .int v3), (0, .ref (xz G + 0)), (1, .int x1), (2, .int x2)]) hC.1 hC.2.1 dX10_mark_41 rfl hl (Nat.le_of_ble_eq_true rfl) rfl (fun ls hl => ?_)
      refine lv_iload_n hC.1 hC.2.1 dX10_mark_42 rfl (lv_at hl 0 rfl) ?_
      refine lv_iconst (v := (-1)) hC.1 hC.2.1 dX10_mark_43 (by decide) ?_
      refine x_ic_ne (tgt := 54) hC dX10_mark_44 (by decide) hf (fun hf => ?_) (fun hf => ?_)
      · refine lv_aload_n hC.1 hC.2.1 dX10_mark_54 rfl (lv_at hl 1 rfl) ?_
        refine x_get (v := .ref (xz G + 1)) hC xf_X10_10 (xce_0 G kp _ _) rfl hR dX10_mark_55 ?_
        refine x_get (v := .ref (xz G + 11)) hC xf_X10_119 (xce_1 G kp _ _) rfl hR dX10_mark_58 ?_
        refine lv_iload_n hC.1 hC.2.1 dX10_mark_61 rfl (lv_at hl 2 rfl) ?_
        refine lv_bipush (v := 7) hC.1 hC.2.1 dX10_mark_62 (by decide) ?_
        refine x_cvi00 (rest := []) hC xy_X0_at tw_543 hf (fun _ h => M_X0_at G l kp h) ⟨Nat.le_of_ble_eq_true rfl, Nat.le_of_ble_eq_true rfl⟩ (xce_11 G kp _ _) rfl rfl rfl (Nat.le_of_ble_eq_true rfl) hl.1 hR hS dX10_mark_64 ⟨Nat.le_refl _, Nat.le_refl _⟩ (fun v4 hf H locs hR hS => ?_)
        refine x_if_ne (tgt := 86) hC dX10_mark_67 (by decide) hf (fun hf => ?_) (fun hf => ?_)
        · exact W_X10_mark_j86 hC hf _ _ _ hR hS (lv_sub hl [1] rfl)
        · refine lv_aload_n hC.1 hC.2.1 dX10_mark_70 rfl (lv_at hl 1 rfl) ?_
          refine x_get (v := .ref (xz G + 1)) hC xf_X10_10 (xce_0 G kp _ _) rfl hR dX10_mark_71 ?_
          refine x_get (v := .ref (xz G + 11)) hC xf_X10_119 (xce_1 G kp _ _) rfl hR dX10_mark_74 ?_
          refine lv_iload_n hC.1 hC.2.1 dX10_mark_77 rfl (lv_at hl 2 rfl) ?_
          refine lv_iload_n hC.1 hC.2.1 dX10_mark_78 rfl (lv_at hl 0 rfl) ?_
          refine x_cvi00 (rest := []) hC xy_X0_at tw_543 hf (fun _ h => M_X0_at G l kp h) ⟨Nat.le_of_ble_eq_true rfl, Nat.le_of_ble_eq_true rfl⟩ (xce_11 G kp _ _) rfl rfl rfl (Nat.le_of_ble_eq_true rfl) hl.1 hR hS dX10_mark_79 ⟨Nat.le_refl _, Nat.le_refl _⟩ (fun v5 hf H locs hR hS => ?_)
          refine lv_iconst (v := (-1)) hC.1 hC.2.1 dX10_mark_82 (by decide) ?_
          refine x_ic_eq (tgt := 93) hC dX10_mark_83 (by decide) hf (fun hf => ?_) (fun hf => ?_)
          · refine lv_aload_n hC.1 hC.2.1 dX10_mark_93 rfl (lv_at hl 1 rfl) ?_
            refine x_get (v := .ref (xz G + 1)) hC xf_X10_10 (xce_0 G kp _ _) rfl hR dX10_mark_94 ?_
            refine x_get (v := .ref (xz G + 11)) hC xf_X10_119 (xce_1 G kp _ _) rfl hR dX10_mark_97 ?_
            refine lv_iload_n hC.1 hC.2.1 dX10_mark_100 rfl (lv_at hl 2 rfl) ?_
            refine lv_iload_n hC.1 hC.2.1 dX10_mark_101 rfl (lv_at hl 0 rfl) ?_
            refine lv_aload_n hC.1 hC.2.1 dX10_mark_102 rfl (lv_at hl 1 rfl) ?_
            refine x_get (v := .ref (xz G + 1)) hC xf_X10_10 (xce_0 G kp _ _) rfl hR dX10_mark_103 ?_
            refine x_getI hC xf_X10_164 (xce_1 G kp _ _) rfl hR dX10_mark_106 hf (fun v6 hf => ?_)
            refine x_cvi10 (rest := []) hC xy_X0_markBy tw_547 hf (fun _ _ h => M_X0_markBy G l kp h) ⟨Nat.le_of_ble_eq_true rfl, Nat.le_of_ble_eq_true rfl⟩ (xce_11 G kp _ _) rfl rfl rfl (Nat.le_of_ble_eq_true rfl) hl.1 hR hS dX10_mark_109 ⟨Nat.le_refl _, Nat.le_refl _⟩ (fun v7 I8 hf H locs hR hS => ?_)
            refine x_if_eq (tgt := 119) hC dX10_mark_112 (by decide) hf (fun hf => ?_) (fun hf => ?_)
            · refine lv_iconst (v := 0) hC.1 hC.2.1 dX10_mark_119 (by decide) ?_
              obtain ⟨h91, h92⟩ := Prod.mk.inj (Option.some.inj hf)
              subst h91
              subst h92
              exact x_iret hC hR hS dX10_mark_120
            · refine lv_iconst (v := 1) hC.1 hC.2.1 dX10_mark_115 (by decide) ?_
              refine lv_goto (tgt := 120) hC.1 hC.2.1 dX10_mark_116 (by decide) ?_
              obtain ⟨h91, h92⟩ := Prod.mk.inj (Option.some.inj hf)
              subst h91
              subst h92
              exact x_iret hC hR hS dX10_mark_120
          · exact W_X10_mark_j86 hC hf _ _ _ hR hS (lv_sub hl [1] rfl)
      · refine lv_aload_n hC.1 hC.2.1 dX10_mark_47 rfl (lv_at hl 1 rfl) ?_
        refine lv_bipush (v := (-5)) hC.1 hC.2.1 dX10_mark_48 (by decide) ?_
        refine x_cvi10 (rest := []) hC xy_X10_refuse tw_411 hf (fun _ _ h => M_X10_refuse G l kp h) ⟨Nat.le_of_ble_eq_true rfl, Nat.le_of_ble_eq_true rfl⟩ (xce_0 G kp _ _) rfl rfl rfl (Nat.le_of_ble_eq_true rfl) hl.1 hR hS dX10_mark_50 ⟨Nat.le_refl _, Nat.le_refl _⟩ (fun v9 I10 hf H locs hR hS => ?_)
        obtain ⟨h91, h92⟩ := Prod.mk.inj (Option.some.inj hf)
        subst h91
        subst h92
        exact x_iret hC hR hS dX10_mark_53
    · exact W_X10_mark_j22 hC hf _ _ _ hR hS (lv_sub hl [0] rfl)
set_option maxRecDepth 20000 in
theorem M_X0_putState (G : XG) (l : Launch) (kp : Bool) {I : xTI} {L : xTL} {x1 : Int32} {x2 : Int32} {rI : xTI} (hf : F_X0_putState I x1 x2 = some rI) : xMet G l yX0_putState cX0_putState 3 none 1 24 kp [.ref (xz G + 11), .int x1, .int x2] I L none rI L := by
  refine xMet.ofW (by decide +kernel) (Nat.le_of_ble_eq_true rfl) ?_
  intro p e s m args below meth c hC H locs ls hR hS hl
  replace hC : xC G p s m args meth c cX0_putState 3 RX0 none := hC
  replace hl : lv_has ls 3 [(0, .ref (xz G + 11)), (1, .int x1), (2, .int x2)] := hl
  unfold F_X0_putState at hf
  refine lv_aload_n hC.1 hC.2.1 dX0_putState_0 rfl (lv_at hl 0 rfl) ?_
  refine x_get (v := .ref (xz G + 12)) hC xf_X0_16 (xce_11 G kp _ _) rfl hR dX0_putState_1 ?_
  refine lv_iload_n hC.1 hC.2.1 dX0_putState_4 rfl (lv_at hl 1 rfl) ?_
  refine lv_bipush (v := 7) hC.1 hC.2.1 dX0_putState_5 (by decide) ?_
  refine lv_iload_n hC.1 hC.2.1 dX0_putState_7 rfl (lv_at hl 2 rfl) ?_
  refine x_cvv10 (rest := []) hC xy_X8_put tw_120 hf (fun _ h => M_X8_put_12 G l kp h) ⟨Nat.le_of_ble_eq_true rfl, Nat.le_of_ble_eq_true rfl⟩ (xce_12 G kp _ _) rfl rfl rfl (Nat.le_of_ble_eq_true rfl) hl.1 hR hS dX0_putState_8 ⟨Nat.le_refl _, Nat.le_refl _⟩ (fun I1 hf H locs hR hS => ?_)
  have h9 := Option.some.inj hf
  subst h9
  exact x_vret hC hR hS dX0_putState_11
set_option maxRecDepth 20000 in
theorem M_X10_clear (G : XG) (l : Launch) (kp : Bool) {I : xTI} {L : xTL} {x1 : Int32} {r : Int32} {rI : xTI} (hf : F_X10_clear I x1 = some (r, rI)) : xMet G l yX10_clear cX10_clear 3 (some .int) 2 46 kp [.ref (xz G + 0), .int x1] I L (some (.int r)) rI L := by
  refine xMet.ofW (by decide +kernel) (Nat.le_of_ble_eq_true rfl) ?_
  intro p e s m args below meth c hC H locs ls hR hS hl
  replace hC : xC G p s m args meth c cX10_clear 3 RX10 (some .int) := hC
  replace hl : lv_has ls 3 [(0, .ref (xz G + 0)), (1, .int x1)] := hl
  unfold F_X10_clear at hf
  refine lv_aload_n hC.1 hC.2.1 dX10_clear_0 rfl (lv_at hl 0 rfl) ?_
  refine x_get (v := .ref (xz G + 1)) hC xf_X10_10 (xce_0 G kp _ _) rfl hR dX10_clear_1 ?_
  refine x_get (v := .ref (xz G + 11)) hC xf_X10_119 (xce_1 G kp _ _) rfl hR dX10_clear_4 ?_
  refine lv_iload_n hC.1 hC.2.1 dX10_clear_7 rfl (lv_at hl 1 rfl) ?_
  refine x_cvi00 (rest := []) hC xy_X0_isThere tw_535 hf (fun _ h => M_X0_isThere G l kp h) ⟨Nat.le_of_ble_eq_true rfl, Nat.le_of_ble_eq_true rfl⟩ (xce_11 G kp _ _) rfl rfl rfl (Nat.le_of_ble_eq_true rfl) hl.1 hR hS dX10_clear_8 ⟨Nat.le_refl _, Nat.le_refl _⟩ (fun v1 hf H locs hR hS => ?_)
  refine x_if_ne (tgt := 21) hC dX10_clear_11 (by decide) hf (fun hf => ?_) (fun hf => ?_)
  · refine lv_aload_n hC.1 hC.2.1 dX10_clear_21 rfl (lv_at hl 0 rfl) ?_
    refine x_get (v := .ref (xz G + 1)) hC xf_X10_10 (xce_0 G kp _ _) rfl hR dX10_clear_22 ?_
    refine x_get (v := .ref (xz G + 11)) hC xf_X10_119 (xce_1 G kp _ _) rfl hR dX10_clear_25 ?_
    refine lv_iload_n hC.1 hC.2.1 dX10_clear_28 rfl (lv_at hl 1 rfl) ?_
    refine x_cvi00 (rest := []) hC xy_X0_isLiving tw_555 hf (fun _ h => M_X0_isLiving G l kp h) ⟨Nat.le_of_ble_eq_true rfl, Nat.le_of_ble_eq_true rfl⟩ (xce_11 G kp _ _) rfl rfl rfl (Nat.le_of_ble_eq_true rfl) hl.1 hR hS dX10_clear_29 ⟨Nat.le_refl _, Nat.le_refl _⟩ (fun v2 hf H locs hR hS => ?_)
    refine x_if_eq (tgt := 42) hC dX10_clear_32 (by decide) hf (fun hf => ?_) (fun hf => ?_)
    · refine lv_aload_n hC.1 hC.2.1 dX10_clear_42 rfl (lv_at hl 0 rfl) ?_
      refine x_get (v := .ref (xz G + 1)) hC xf_X10_10 (xce_0 G kp _ _) rfl hR dX10_clear_43 ?_
      refine x_get (v := .ref (xz G + 11)) hC xf_X10_119 (xce_1 G kp _ _) rfl hR dX10_clear_46 ?_
      refine lv_iload_n hC.1 hC.2.1 dX10_clear_49 rfl (lv_at hl 1 rfl) ?_
      refine lv_bipush (v := 7) hC.1 hC.2.1 dX10_clear_50 (by decide) ?_
      refine x_cvi00 (rest := []) hC xy_X0_at tw_543 hf (fun _ h => M_X0_at G l kp h) ⟨Nat.le_of_ble_eq_true rfl, Nat.le_of_ble_eq_true rfl⟩ (xce_11 G kp _ _) rfl rfl rfl (Nat.le_of_ble_eq_true rfl) hl.1 hR hS dX10_clear_52 ⟨Nat.le_refl _, Nat.le_refl _⟩ (fun v3 hf H locs hR hS => ?_)
      refine lv_istore_n (lv' := [(2, .int v3), (0, .ref (xz G + 0)), (1, .int x1)]) hC.1 hC.2.1 dX10_clear_55 rfl hl (Nat.le_of_ble_eq_true rfl) rfl (fun ls hl => ?_)
      refine lv_aload_n hC.1 hC.2.1 dX10_clear_56 rfl (lv_at hl 1 rfl) ?_
      refine x_get (v := .ref (xz G + 1)) hC xf_X10_10 (xce_0 G kp _ _) rfl hR dX10_clear_57 ?_
      refine x_get (v := .ref (xz G + 11)) hC xf_X10_119 (xce_1 G kp _ _) rfl hR dX10_clear_60 ?_
      refine lv_iload_n hC.1 hC.2.1 dX10_clear_63 rfl (lv_at hl 2 rfl) ?_
      refine W.eq (g2 := F0 m 64 ls [.int x1, .ref (xz G + 11)]) rfl ?_
      refine lv_iconst (v := (-1)) hC.1 hC.2.1 dX10_clear_64 (by decide) ?_
      refine x_cvv10 (rest := []) hC xy_X0_putState tw_556 hf (fun _ h => M_X0_putState G l kp h) ⟨Nat.le_of_ble_eq_true rfl, Nat.le_of_ble_eq_true rfl⟩ (xce_11 G kp _ _) rfl rfl rfl (Nat.le_of_ble_eq_true rfl) hl.1 hR hS dX10_clear_65 ⟨Nat.le_refl _, Nat.le_refl _⟩ (fun I4 hf H locs hR hS => ?_)
      refine lv_iload_n hC.1 hC.2.1 dX10_clear_68 rfl (lv_at hl 0 rfl) ?_
      obtain ⟨h91, h92⟩ := Prod.mk.inj (Option.some.inj hf)
      subst h91
      subst h92
      exact x_iret hC hR hS dX10_clear_69
    · refine lv_aload_n hC.1 hC.2.1 dX10_clear_35 rfl (lv_at hl 0 rfl) ?_
      refine lv_bipush (v := (-7)) hC.1 hC.2.1 dX10_clear_36 (by decide) ?_
      refine x_cvi10 (rest := []) hC xy_X10_refuse tw_411 hf (fun _ _ h => M_X10_refuse G l kp h) ⟨Nat.le_of_ble_eq_true rfl, Nat.le_of_ble_eq_true rfl⟩ (xce_0 G kp _ _) rfl rfl rfl (Nat.le_of_ble_eq_true rfl) hl.1 hR hS dX10_clear_38 ⟨Nat.le_refl _, Nat.le_refl _⟩ (fun v5 I6 hf H locs hR hS => ?_)
      obtain ⟨h91, h92⟩ := Prod.mk.inj (Option.some.inj hf)
      subst h91
      subst h92
      exact x_iret hC hR hS dX10_clear_41
  · refine lv_aload_n hC.1 hC.2.1 dX10_clear_14 rfl (lv_at hl 0 rfl) ?_
    refine lv_bipush (v := (-3)) hC.1 hC.2.1 dX10_clear_15 (by decide) ?_
    refine x_cvi10 (rest := []) hC xy_X10_refuse tw_411 hf (fun _ _ h => M_X10_refuse G l kp h) ⟨Nat.le_of_ble_eq_true rfl, Nat.le_of_ble_eq_true rfl⟩ (xce_0 G kp _ _) rfl rfl rfl (Nat.le_of_ble_eq_true rfl) hl.1 hR hS dX10_clear_17 ⟨Nat.le_refl _, Nat.le_refl _⟩ (fun v7 I8 hf H locs hR hS => ?_)
    obtain ⟨h91, h92⟩ := Prod.mk.inj (Option.some.inj hf)
    subst h91
    subst h92
    exact x_iret hC hR hS dX10_clear_20
set_option maxRecDepth 20000 in
theorem M_X10_of (G : XG) (l : Launch) (kp : Bool) {I : xTI} {L : xTL} {x1 : Int32} {x2 : Int32} {r : Int32} {rI : xTI} (hf : F_X10_of I x1 x2 = some (r, rI)) : xMet G l yX10_of cX10_of 3 (some .int) 2 45 kp [.ref (xz G + 0), .int x1, .int x2] I L (some (.int r)) rI L := by
  refine xMet.ofW (by decide +kernel) (Nat.le_of_ble_eq_true rfl) ?_
  intro p e s m args below meth c hC H locs ls hR hS hl
  replace hC : xC G p s m args meth c cX10_of 3 RX10 (some .int) := hC
  replace hl : lv_has ls 3 [(0, .ref (xz G + 0)), (1, .int x1), (2, .int x2)] := hl
  unfold F_X10_of at hf
  refine lv_aload_n hC.1 hC.2.1 dX10_of_0 rfl (lv_at hl 0 rfl) ?_
  refine x_get (v := .ref (xz G + 1)) hC xf_X10_10 (xce_0 G kp _ _) rfl hR dX10_of_1 ?_
  refine x_get (v := .ref (xz G + 11)) hC xf_X10_119 (xce_1 G kp _ _) rfl hR dX10_of_4 ?_
  refine lv_iload_n hC.1 hC.2.1 dX10_of_7 rfl (lv_at hl 1 rfl) ?_
  refine x_cvi00 (rest := []) hC xy_X0_isThere tw_535 hf (fun _ h => M_X0_isThere G l kp h) ⟨Nat.le_of_ble_eq_true rfl, Nat.le_of_ble_eq_true rfl⟩ (xce_11 G kp _ _) rfl rfl rfl (Nat.le_of_ble_eq_true rfl) hl.1 hR hS dX10_of_8 ⟨Nat.le_refl _, Nat.le_refl _⟩ (fun v1 hf H locs hR hS => ?_)
  refine x_if_ne (tgt := 21) hC dX10_of_11 (by decide) hf (fun hf => ?_) (fun hf => ?_)
  · refine lv_iload_n hC.1 hC.2.1 dX10_of_21 rfl (lv_at hl 2 rfl) ?_
    refine lv_iconst (v := 0) hC.1 hC.2.1 dX10_of_22 (by decide) ?_
    refine lv_bipush (v := 10) hC.1 hC.2.1 dX10_of_23 (by decide) ?_
    refine x_csi00 (rest := []) hC xy_X10_isWithin tw_408 hf (fun _ h => M_X10_isWithin G l kp h) ⟨Nat.le_of_ble_eq_true rfl, Nat.le_of_ble_eq_true rfl⟩ rfl rfl (Nat.le_of_ble_eq_true rfl) hl.1 hR hS dX10_of_25 ⟨Nat.le_refl _, Nat.le_refl _⟩ (fun v2 hf H locs hR hS => ?_)
    refine x_if_eq (tgt := 46) hC dX10_of_28 (by decide) hf (fun hf => ?_) (fun hf => ?_)
    · refine lv_aload_n hC.1 hC.2.1 dX10_of_46 rfl (lv_at hl 0 rfl) ?_
      refine lv_bipush (v := (-7)) hC.1 hC.2.1 dX10_of_47 (by decide) ?_
      refine x_cvi10 (rest := []) hC xy_X10_refuse tw_411 hf (fun _ _ h => M_X10_refuse G l kp h) ⟨Nat.le_of_ble_eq_true rfl, Nat.le_of_ble_eq_true rfl⟩ (xce_0 G kp _ _) rfl rfl rfl (Nat.le_of_ble_eq_true rfl) hl.1 hR hS dX10_of_49 ⟨Nat.le_refl _, Nat.le_refl _⟩ (fun v3 I4 hf H locs hR hS => ?_)
      obtain ⟨h91, h92⟩ := Prod.mk.inj (Option.some.inj hf)
      subst h91
      subst h92
      exact x_iret hC hR hS dX10_of_52
    · refine lv_aload_n hC.1 hC.2.1 dX10_of_31 rfl (lv_at hl 0 rfl) ?_
      refine x_get (v := .ref (xz G + 1)) hC xf_X10_10 (xce_0 G kp _ _) rfl hR dX10_of_32 ?_
      refine x_get (v := .ref (xz G + 11)) hC xf_X10_119 (xce_1 G kp _ _) rfl hR dX10_of_35 ?_
      refine lv_iload_n hC.1 hC.2.1 dX10_of_38 rfl (lv_at hl 1 rfl) ?_
      refine lv_iload_n hC.1 hC.2.1 dX10_of_39 rfl (lv_at hl 2 rfl) ?_
      refine x_cvi00 (rest := []) hC xy_X0_at tw_543 hf (fun _ h => M_X0_at G l kp h) ⟨Nat.le_of_ble_eq_true rfl, Nat.le_of_ble_eq_true rfl⟩ (xce_11 G kp _ _) rfl rfl rfl (Nat.le_of_ble_eq_true rfl) hl.1 hR hS dX10_of_40 ⟨Nat.le_refl _, Nat.le_refl _⟩ (fun v5 hf H locs hR hS => ?_)
      refine lv_goto (tgt := 52) hC.1 hC.2.1 dX10_of_43 (by decide) ?_
      obtain ⟨h91, h92⟩ := Prod.mk.inj (Option.some.inj hf)
      subst h91
      subst h92
      exact x_iret hC hR hS dX10_of_52
  · refine lv_aload_n hC.1 hC.2.1 dX10_of_14 rfl (lv_at hl 0 rfl) ?_
    refine lv_bipush (v := (-3)) hC.1 hC.2.1 dX10_of_15 (by decide) ?_
    refine x_cvi10 (rest := []) hC xy_X10_refuse tw_411 hf (fun _ _ h => M_X10_refuse G l kp h) ⟨Nat.le_of_ble_eq_true rfl, Nat.le_of_ble_eq_true rfl⟩ (xce_0 G kp _ _) rfl rfl rfl (Nat.le_of_ble_eq_true rfl) hl.1 hR hS dX10_of_17 ⟨Nat.le_refl _, Nat.le_refl _⟩ (fun v6 I7 hf H locs hR hS => ?_)
    obtain ⟨h91, h92⟩ := Prod.mk.inj (Option.some.inj hf)
    subst h91
    subst h92
    exact x_iret hC hR hS dX10_of_20
set_option maxRecDepth 20000 in
theorem W_X0_netKnownOf_l6 {G : XG} {l : Launch} {kp : Bool} {p : Program} {e : Env} {s : State} {m : MethodId} {args : Array Value} {below : List Frame} {meth : Method} {c : Code} (hC : xC G p s m args meth c cX0_netKnownOf 8 RX0 (some .int)) (N : Nat) {I : xTI} {L : xTL} {r : Int32} {x1 : Int32} {x2 : Int32} {x3 : Int32} {x4 : Int32} : ∀ (n : Nat) (x5 : Int32) (x6 : Int32) , xlp (F_X0_netKnownOf_b6 N I x1 x2 x3 x4 ) n (x5, x6) = some r → ∀ (H : Heap) (locs : List Loc) (ls : Array Slot), xRep G kp I L H → xS G s.heap H locs → lv_has ls 8 [(0, .ref (xz G + 11)), (1, .int x1), (2, .int x2), (3, .int x3), (4, .int x4), (5, .int x5), (6, .int x6)] → W p l e (xrm 2 46) s m args below meth c H locs 0 0 (xMQ G kp below args s (some (.int r)) I L) (F0 m 6 ls []) := by
  intro n
  induction n with
  | zero =>
    intro x5 x6 hf
    cases hf
  | succ n hk6 =>
    intro x5 x6 hf H locs ls hR hS hl
    rw [xlp_s, E_X0_netKnownOf_b6] at hf
    unfold F_X0_netKnownOf_c6 at hf
    refine lv_iload hC.1 hC.2.1 dX0_netKnownOf_6 (lv_at hl 6 rfl) ?_
    refine lv_bipush (v := 60) hC.1 hC.2.1 dX0_netKnownOf_8 (by decide) ?_
    refine x_ic_ge (tgt := 76) hC dX0_netKnownOf_10 (by decide) hf (fun hf => ?_) (fun hf => ?_)
    · refine lv_iload hC.1 hC.2.1 dX0_netKnownOf_76 (lv_at hl 5 rfl) ?_
      have h9 := Option.some.inj hf
      subst h9
      exact x_iret hC hR hS dX0_netKnownOf_78
    · refine lv_aload_n hC.1 hC.2.1 dX0_netKnownOf_13 rfl (lv_at hl 0 rfl) ?_
      refine x_get (v := .ref (xz G + 12)) hC xf_X0_16 (xce_11 G kp _ _) rfl hR dX0_netKnownOf_14 ?_
      refine lv_iload hC.1 hC.2.1 dX0_netKnownOf_17 (lv_at hl 6 rfl) ?_
      refine lv_bipush (v := 8) hC.1 hC.2.1 dX0_netKnownOf_19 (by decide) ?_
      refine x_cvi00 (rest := []) hC xy_X8_at tw_462 hf (fun _ h => M_X8_at_12 G l kp h) ⟨Nat.le_of_ble_eq_true rfl, Nat.le_of_ble_eq_true rfl⟩ (xce_12 G kp _ _) rfl rfl rfl (Nat.le_of_ble_eq_true rfl) hl.1 hR hS dX0_netKnownOf_21 ⟨Nat.le_refl _, Nat.le_refl _⟩ (fun v1 hf H locs hR hS => ?_)
      refine lv_aload_n hC.1 hC.2.1 dX0_netKnownOf_24 rfl (lv_at hl 0 rfl) ?_
      refine x_get (v := .ref (xz G + 12)) hC xf_X0_16 (xce_11 G kp _ _) rfl hR dX0_netKnownOf_25 ?_
      refine lv_iload hC.1 hC.2.1 dX0_netKnownOf_28 (lv_at hl 6 rfl) ?_
      refine lv_bipush (v := 9) hC.1 hC.2.1 dX0_netKnownOf_30 (by decide) ?_
      refine x_cvi00 (rest := [.int v1]) hC xy_X8_at tw_462 hf (fun _ h => M_X8_at_12 G l kp h) ⟨Nat.le_of_ble_eq_true rfl, Nat.le_of_ble_eq_true rfl⟩ (xce_12 G kp _ _) rfl rfl rfl (Nat.le_of_ble_eq_true rfl) hl.1 hR hS dX0_netKnownOf_32 ⟨Nat.le_refl _, Nat.le_refl _⟩ (fun v2 hf H locs hR hS => ?_)
      refine x_mxi (rest := []) hC tw_524 hl.1 (Nat.le_of_ble_eq_true rfl) (Nat.le_of_ble_eq_true rfl) dX0_netKnownOf_35 ⟨Nat.le_refl _, Nat.le_refl _⟩ hf (fun v3 hf => ?_)
      refine W.eq (g2 := F0 m 38 ls [.int v3]) rfl ?_
      refine lv_istore (lv' := [(7, .int v3), (0, .ref (xz G + 11)), (1, .int x1), (2, .int x2), (3, .int x3), (4, .int x4), (5, .int x5), (6, .int x6)]) hC.1 hC.2.1 dX0_netKnownOf_38 hl (Nat.le_of_ble_eq_true rfl) rfl (fun ls hl => ?_)
      refine lv_aload_n hC.1 hC.2.1 dX0_netKnownOf_40 rfl (lv_at hl 1 rfl) ?_
      refine lv_iload hC.1 hC.2.1 dX0_netKnownOf_41 (lv_at hl 7 rfl) ?_
      refine lv_iload_n hC.1 hC.2.1 dX0_netKnownOf_43 rfl (lv_at hl 3 rfl) ?_
      refine lv_iload_n hC.1 hC.2.1 dX0_netKnownOf_44 rfl (lv_at hl 4 rfl) ?_
      refine x_cvi00 (rest := []) hC xy_X0_standsIn tw_494 hf (fun _ h => M_X0_standsIn G l kp h) ⟨Nat.le_of_ble_eq_true rfl, Nat.le_of_ble_eq_true rfl⟩ (xce_11 G kp _ _) rfl rfl rfl (Nat.le_of_ble_eq_true rfl) hl.1 hR hS dX0_netKnownOf_45 ⟨Nat.le_refl _, Nat.le_refl _⟩ (fun v4 hf H locs hR hS => ?_)
      refine x_if_eq (tgt := 70) hC dX0_netKnownOf_48 (by decide) hf (fun hf => ?_) (fun hf => ?_)
      · refine x_iinc (d := 1) (lv' := fun y5 => [(6, .int y5), (7, .int v3), (0, .ref (xz G + 11)), (1, .int x1), (2, .int x2), (3, .int x3), (4, .int x4), (5, .int x5)]) (k := 7) hC hl dX0_netKnownOf_70 rfl (by decide) (Nat.le_of_ble_eq_true rfl) hf (fun _ => rfl) (fun y5 hf ls hl => ?_)
        refine lv_goto (tgt := 6) hC.1 hC.2.1 dX0_netKnownOf_73 (by decide) ?_
        exact hk6 x5 y5 hf _ _ _ hR hS (lv_sub hl [2, 3, 4, 5, 6, 7, 0] rfl)
      · refine lv_iload hC.1 hC.2.1 dX0_netKnownOf_51 (lv_at hl 0 rfl) ?_
        refine lv_iload hC.1 hC.2.1 dX0_netKnownOf_53 (lv_at hl 5 rfl) ?_
        refine x_ic_gt (tgt := 70) hC dX0_netKnownOf_55 (by decide) hf (fun hf => ?_) (fun hf => ?_)
        · refine x_iinc (d := 1) (lv' := fun y6 => [(6, .int y6), (7, .int v3), (0, .ref (xz G + 11)), (1, .int x1), (2, .int x2), (3, .int x3), (4, .int x4), (5, .int x5)]) (k := 7) hC hl dX0_netKnownOf_70 rfl (by decide) (Nat.le_of_ble_eq_true rfl) hf (fun _ => rfl) (fun y6 hf ls hl => ?_)
          refine lv_goto (tgt := 6) hC.1 hC.2.1 dX0_netKnownOf_73 (by decide) ?_
          exact hk6 x5 y6 hf _ _ _ hR hS (lv_sub hl [2, 3, 4, 5, 6, 7, 0] rfl)
        · refine lv_iload hC.1 hC.2.1 dX0_netKnownOf_58 (lv_at hl 6 rfl) ?_
          refine lv_aload_n hC.1 hC.2.1 dX0_netKnownOf_60 rfl (lv_at hl 1 rfl) ?_
          refine lv_iload hC.1 hC.2.1 dX0_netKnownOf_61 (lv_at hl 7 rfl) ?_
          refine lv_iload_n hC.1 hC.2.1 dX0_netKnownOf_63 rfl (lv_at hl 2 rfl) ?_
          refine x_cvi00 (rest := [.int x5]) hC xy_X0_gainOf tw_466 hf (fun _ h => M_X0_gainOf G l kp h) ⟨Nat.le_of_ble_eq_true rfl, Nat.le_of_ble_eq_true rfl⟩ (xce_11 G kp _ _) rfl rfl rfl (Nat.le_of_ble_eq_true rfl) hl.1 hR hS dX0_netKnownOf_64 ⟨Nat.le_refl _, Nat.le_refl _⟩ (fun v7 hf H locs hR hS => ?_)
          refine lv_iadd hC.1 hC.2.1 dX0_netKnownOf_67 ?_
          refine x_ist (lv' := fun y8 => [(5, .int y8), (7, .int v3), (0, .ref (xz G + 11)), (1, .int x1), (2, .int x2), (3, .int x3), (4, .int x4), (6, .int x6)]) hC hl dX0_netKnownOf_68 (Nat.le_of_ble_eq_true rfl) hf (fun _ => rfl) (fun y8 hf ls hl => ?_)
          refine x_iinc (d := 1) (lv' := fun y9 => [(6, .int y9), (5, .int y8), (7, .int v3), (0, .ref (xz G + 11)), (1, .int x1), (2, .int x2), (3, .int x3), (4, .int x4)]) (k := 7) hC hl dX0_netKnownOf_70 rfl (by decide) (Nat.le_of_ble_eq_true rfl) hf (fun _ => rfl) (fun y9 hf ls hl => ?_)
          refine lv_goto (tgt := 6) hC.1 hC.2.1 dX0_netKnownOf_73 (by decide) ?_
          exact hk6 y8 y9 hf _ _ _ hR hS (lv_sub hl [3, 4, 5, 6, 7, 1, 0] rfl)
set_option maxRecDepth 20000 in
theorem M_X0_netKnownOf (G : XG) (l : Launch) (kp : Bool) (N : Nat) {I : xTI} {L : xTL} {x1 : Int32} {x2 : Int32} {x3 : Int32} {x4 : Int32} {r : Int32} (hf : F_X0_netKnownOf N I x1 x2 x3 x4 = some r) : xMet G l yX0_netKnownOf cX0_netKnownOf 8 (some .int) 2 46 kp [.ref (xz G + 11), .int x1, .int x2, .int x3, .int x4] I L (some (.int r)) I L := by
  refine xMet.ofW (by decide +kernel) (Nat.le_of_ble_eq_true rfl) ?_
  intro p e s m args below meth c hC H locs ls hR hS hl
  replace hC : xC G p s m args meth c cX0_netKnownOf 8 RX0 (some .int) := hC
  replace hl : lv_has ls 8 [(0, .ref (xz G + 11)), (1, .int x1), (2, .int x2), (3, .int x3), (4, .int x4)] := hl
  unfold F_X0_netKnownOf at hf
  refine lv_iconst (v := 0) hC.1 hC.2.1 dX0_netKnownOf_0 (by decide) ?_
  refine lv_istore (lv' := [(5, .int 0), (0, .ref (xz G + 11)), (1, .int x1), (2, .int x2), (3, .int x3), (4, .int x4)]) hC.1 hC.2.1 dX0_netKnownOf_1 hl (Nat.le_of_ble_eq_true rfl) rfl (fun ls hl => ?_)
  refine lv_iconst (v := 0) hC.1 hC.2.1 dX0_netKnownOf_3 (by decide) ?_
  refine lv_istore (lv' := [(6, .int 0), (5, .int 0), (0, .ref (xz G + 11)), (1, .int x1), (2, .int x2), (3, .int x3), (4, .int x4)]) hC.1 hC.2.1 dX0_netKnownOf_4 hl (Nat.le_of_ble_eq_true rfl) rfl (fun ls hl => ?_)
  exact W_X0_netKnownOf_l6 hC N _ 0 0 hf _ _ _ hR hS (lv_sub hl [2, 3, 4, 5, 6, 1, 0] rfl)
set_option maxRecDepth 20000 in
theorem W_X10_knew_j16 {G : XG} {l : Launch} {kp : Bool} {p : Program} {e : Env} {s : State} {m : MethodId} {args : Array Value} {below : List Frame} {meth : Method} {c : Code} (hC : xC G p s m args meth c cX10_knew 5 RX10 (some .int)) (N : Nat) {I : xTI} {L : xTL} {r : Int32} {rI : xTI} (hf : F_X10_knew_j16 N I = some (r, rI)) : ∀ (H : Heap) (locs : List Loc) (ls : Array Slot), xRep G kp I L H → xS G s.heap H locs → lv_has ls 5 [(0, .ref (xz G + 0))] → W p l e (xrm 3 73) s m args below meth c H locs 0 0 (xMQ G kp below args s (some (.int r)) rI L) (F0 m 16 ls []) := by
  intro H locs ls hR hS hl
  unfold F_X10_knew_j16 at hf
  refine lv_aload_n hC.1 hC.2.1 dX10_knew_16 rfl (lv_at hl 0 rfl) ?_
  refine lv_bipush (v := (-3)) hC.1 hC.2.1 dX10_knew_17 (by decide) ?_
  refine x_cvi10 (rest := []) hC xy_X10_refuseAsZero tw_474 hf (fun _ _ h => M_X10_refuseAsZero G l kp h) ⟨Nat.le_of_ble_eq_true rfl, Nat.le_of_ble_eq_true rfl⟩ (xce_0 G kp _ _) rfl rfl rfl (Nat.le_of_ble_eq_true rfl) hl.1 hR hS dX10_knew_19 ⟨Nat.le_refl _, Nat.le_refl _⟩ (fun v1 I2 hf H locs hR hS => ?_)
  obtain ⟨h91, h92⟩ := Prod.mk.inj (Option.some.inj hf)
  subst h91
  subst h92
  exact x_iret hC hR hS dX10_knew_22
set_option maxRecDepth 20000 in
theorem W_X10_knew_j43 {G : XG} {l : Launch} {kp : Bool} {p : Program} {e : Env} {s : State} {m : MethodId} {args : Array Value} {below : List Frame} {meth : Method} {c : Code} (hC : xC G p s m args meth c cX10_knew 5 RX10 (some .int)) (N : Nat) {I : xTI} {L : xTL} {r : Int32} {rI : xTI} (hf : F_X10_knew_j43 N I = some (r, rI)) : ∀ (H : Heap) (locs : List Loc) (ls : Array Slot), xRep G kp I L H → xS G s.heap H locs → lv_has ls 5 [(0, .ref (xz G + 0))] → W p l e (xrm 3 73) s m args below meth c H locs 0 0 (xMQ G kp below args s (some (.int r)) rI L) (F0 m 43 ls []) := by
  intro H locs ls hR hS hl
  unfold F_X10_knew_j43 at hf
  refine lv_aload_n hC.1 hC.2.1 dX10_knew_43 rfl (lv_at hl 0 rfl) ?_
  refine lv_bipush (v := (-7)) hC.1 hC.2.1 dX10_knew_44 (by decide) ?_
  refine x_cvi10 (rest := []) hC xy_X10_refuseAsZero tw_474 hf (fun _ _ h => M_X10_refuseAsZero G l kp h) ⟨Nat.le_of_ble_eq_true rfl, Nat.le_of_ble_eq_true rfl⟩ (xce_0 G kp _ _) rfl rfl rfl (Nat.le_of_ble_eq_true rfl) hl.1 hR hS dX10_knew_46 ⟨Nat.le_refl _, Nat.le_refl _⟩ (fun v1 I2 hf H locs hR hS => ?_)
  obtain ⟨h91, h92⟩ := Prod.mk.inj (Option.some.inj hf)
  subst h91
  subst h92
  exact x_iret hC hR hS dX10_knew_49
set_option maxRecDepth 20000 in
theorem M_X10_knew (G : XG) (l : Launch) (kp : Bool) (N : Nat) {I : xTI} {L : xTL} {x1 : Int32} {x2 : Int32} {x3 : Int32} {x4 : Int32} {r : Int32} {rI : xTI} (hf : F_X10_knew N I x1 x2 x3 x4 = some (r, rI)) : xMet G l yX10_knew cX10_knew 5 (some .int) 3 73 kp [.ref (xz G + 0), .int x1, .int x2, .int x3, .int x4] I L (some (.int r)) rI L := by
  refine xMet.ofW (by decide +kernel) (Nat.le_of_ble_eq_true rfl) ?_
  intro p e s m args below meth c hC H locs ls hR hS hl
  replace hC : xC G p s m args meth c cX10_knew 5 RX10 (some .int) := hC
  replace hl : lv_has ls 5 [(0, .ref (xz G + 0)), (1, .int x1), (2, .int x2), (3, .int x3), (4, .int x4)] := hl
  unfold F_X10_knew at hf
  refine lv_aload_n hC.1 hC.2.1 dX10_knew_0 rfl (lv_at hl 0 rfl) ?_
  refine lv_iload_n hC.1 hC.2.1 dX10_knew_1 rfl (lv_at hl 1 rfl) ?_
  refine x_cvi00 (rest := []) hC xy_X10_isMan tw_427 hf (fun _ h => M_X10_isMan G l kp h) ⟨Nat.le_of_ble_eq_true rfl, Nat.le_of_ble_eq_true rfl⟩ (xce_0 G kp _ _) rfl rfl rfl (Nat.le_of_ble_eq_true rfl) hl.1 hR hS dX10_knew_2 ⟨Nat.le_refl _, Nat.le_refl _⟩ (fun v1 hf H locs hR hS => ?_)
  refine x_if_eq (tgt := 16) hC dX10_knew_5 (by decide) hf (fun hf => ?_) (fun hf => ?_)
  · exact W_X10_knew_j16 hC N hf _ _ _ hR hS (lv_sub hl [0] rfl)
  · refine lv_aload_n hC.1 hC.2.1 dX10_knew_8 rfl (lv_at hl 0 rfl) ?_
    refine lv_iload_n hC.1 hC.2.1 dX10_knew_9 rfl (lv_at hl 2 rfl) ?_
    refine x_cvi00 (rest := []) hC xy_X10_isStock tw_431 hf (fun _ h => M_X10_isStock G l kp h) ⟨Nat.le_of_ble_eq_true rfl, Nat.le_of_ble_eq_true rfl⟩ (xce_0 G kp _ _) rfl rfl rfl (Nat.le_of_ble_eq_true rfl) hl.1 hR hS dX10_knew_10 ⟨Nat.le_refl _, Nat.le_refl _⟩ (fun v2 hf H locs hR hS => ?_)
    refine x_if_ne (tgt := 23) hC dX10_knew_13 (by decide) hf (fun hf => ?_) (fun hf => ?_)
    · refine lv_iload_n hC.1 hC.2.1 dX10_knew_23 rfl (lv_at hl 3 rfl) ?_
      refine x_if_lt (tgt := 43) hC dX10_knew_24 (by decide) hf (fun hf => ?_) (fun hf => ?_)
      · exact W_X10_knew_j43 hC N hf _ _ _ hR hS (lv_sub hl [0] rfl)
      · refine lv_iload hC.1 hC.2.1 dX10_knew_27 (lv_at hl 4 rfl) ?_
        refine lv_iconst (v := 0) hC.1 hC.2.1 dX10_knew_29 (by decide) ?_
        refine lv_aload_n hC.1 hC.2.1 dX10_knew_30 rfl (lv_at hl 0 rfl) ?_
        refine x_get (v := .ref (xz G + 1)) hC xf_X10_10 (xce_0 G kp _ _) rfl hR dX10_knew_31 ?_
        refine x_getI hC xf_X10_164 (xce_1 G kp _ _) rfl hR dX10_knew_34 hf (fun v3 hf => ?_)
        refine x_csi00 (rest := []) hC xy_X10_isWithin tw_408 hf (fun _ h => M_X10_isWithin G l kp h) ⟨Nat.le_of_ble_eq_true rfl, Nat.le_of_ble_eq_true rfl⟩ rfl rfl (Nat.le_of_ble_eq_true rfl) hl.1 hR hS dX10_knew_37 ⟨Nat.le_refl _, Nat.le_refl _⟩ (fun v4 hf H locs hR hS => ?_)
        refine x_if_ne (tgt := 50) hC dX10_knew_40 (by decide) hf (fun hf => ?_) (fun hf => ?_)
        · refine lv_aload_n hC.1 hC.2.1 dX10_knew_50 rfl (lv_at hl 0 rfl) ?_
          refine x_get (v := .ref (xz G + 1)) hC xf_X10_10 (xce_0 G kp _ _) rfl hR dX10_knew_51 ?_
          refine x_get (v := .ref (xz G + 11)) hC xf_X10_119 (xce_1 G kp _ _) rfl hR dX10_knew_54 ?_
          refine lv_iload_n hC.1 hC.2.1 dX10_knew_57 rfl (lv_at hl 1 rfl) ?_
          refine lv_iload_n hC.1 hC.2.1 dX10_knew_58 rfl (lv_at hl 2 rfl) ?_
          refine lv_iload_n hC.1 hC.2.1 dX10_knew_59 rfl (lv_at hl 3 rfl) ?_
          refine lv_iload hC.1 hC.2.1 dX10_knew_60 (lv_at hl 4 rfl) ?_
          refine x_cvi00 (rest := []) hC xy_X0_netKnownOf tw_568 hf (fun _ h => M_X0_netKnownOf G l kp N h) ⟨Nat.le_of_ble_eq_true rfl, Nat.le_of_ble_eq_true rfl⟩ (xce_11 G kp _ _) rfl rfl rfl (Nat.le_of_ble_eq_true rfl) hl.1 hR hS dX10_knew_62 ⟨Nat.le_refl _, Nat.le_refl _⟩ (fun v5 hf H locs hR hS => ?_)
          obtain ⟨h91, h92⟩ := Prod.mk.inj (Option.some.inj hf)
          subst h91
          subst h92
          exact x_iret hC hR hS dX10_knew_65
        · exact W_X10_knew_j43 hC N hf _ _ _ hR hS (lv_sub hl [0] rfl)
    · exact W_X10_knew_j16 hC N hf _ _ _ hR hS (lv_sub hl [0] rfl)
set_option maxRecDepth 20000 in
theorem M_X1_place (G : XG) (l : Launch) (kp : Bool) {I : xTI} {L : xTL} {r : Int32} (hf : F_X1_place I = some r) : xMet G l yX1_place cX1_place 1 (some .int) 0 0 kp [.ref (xz G + 1)] I L (some (.int r)) I L := by
  refine xMet.ofW (by decide +kernel) (Nat.le_of_ble_eq_true rfl) ?_
  intro p e s m args below meth c hC H locs ls hR hS hl
  replace hC : xC G p s m args meth c cX1_place 1 RX1 (some .int) := hC
  replace hl : lv_has ls 1 [(0, .ref (xz G + 1))] := hl
  unfold F_X1_place at hf
  refine lv_aload_n hC.1 hC.2.1 dX1_place_0 rfl (lv_at hl 0 rfl) ?_
  refine x_getI hC xf_X1_58 (xce_1 G kp _ _) rfl hR dX1_place_1 hf (fun v1 hf => ?_)
  refine lv_bipush (v := 14) hC.1 hC.2.1 dX1_place_4 (by decide) ?_
  refine lv_irem hC.1 hC.2.1 dX1_place_6 (by decide) ?_
  have h9 := Option.some.inj hf
  subst h9
  exact x_iret hC hR hS dX1_place_7
