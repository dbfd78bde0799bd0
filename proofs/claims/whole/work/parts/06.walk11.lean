set_option maxRecDepth 20000 in
theorem W_X7_failingByClearing_l99 {G : XG} {l : Launch} {kp : Bool} {p : Program} {e : Env} {s : State} {m : MethodId} {args : Array Value} {below : List Frame} {meth : Method} {c : Code} (hC : xC G p s m args meth c cX7_failingByClearing 5 RX7 (some .int)) (N : Nat) {I : xTI} {L : xTL} {r : Int32} {rL : xTL} : ∀ (n : Nat) (x3 : Int32) (x4 : Int32) , xlp (F_X7_failingByClearing_b99 N I L ) n (x3, x4) = some (r, rL) → ∀ (H : Heap) (locs : List Loc) (ls : Array Slot), xRep G kp I L H → xS G s.heap H locs → lv_has ls 5 [(0, .ref (xz G + 46)), (1, .ref (xz G + 1)), (3, .int x3), (4, .int x4)] → W p l e (xrm 3 119) s m args below meth c H locs 0 0 (xMQ G kp below args s (some (.int r)) I rL) (F0 m 99 ls []) := by
  intro n
  induction n with
  | zero =>
    intro x3 x4 hf
    cases hf
  | succ n hk99 =>
    intro x3 x4 hf H locs ls hR hS hl
    rw [xlp_s, E_X7_failingByClearing_b99] at hf
    unfold F_X7_failingByClearing_c99 at hf
    refine lv_iload hC.1 hC.2.1 dX7_failingByClearing_99 (lv_at hl 3 rfl) ?_
    refine lv_aload_n hC.1 hC.2.1 dX7_failingByClearing_101 rfl (lv_at hl 1 rfl) ?_
    refine x_get (v := .ref (xz G + 3)) hC xf_X7_65 (xce_1 G kp _ _) rfl hR dX7_failingByClearing_102 ?_
    refine x_getI hC xf_X7_69 (xce_3 G kp _ _) rfl hR dX7_failingByClearing_105 hf (fun v1 hf => ?_)
    refine x_ic_ge (tgt := 132) hC dX7_failingByClearing_108 (by decide) hf (fun hf => ?_) (fun hf => ?_)
    · refine lv_iload_n hC.1 hC.2.1 dX7_failingByClearing_132 rfl (lv_at hl 2 rfl) ?_
      obtain ⟨h91, h92⟩ := Prod.mk.inj (Option.some.inj hf)
      subst h91
      subst h92
      exact x_iret hC hR hS dX7_failingByClearing_133
    · refine lv_aload_n hC.1 hC.2.1 dX7_failingByClearing_111 rfl (lv_at hl 0 rfl) ?_
      refine x_get (v := .ref (xz G + 54)) hC xf_X7_34 (xce_46 G kp _ _) rfl hR dX7_failingByClearing_112 ?_
      refine lv_iload hC.1 hC.2.1 dX7_failingByClearing_115 (lv_at hl 3 rfl) ?_
      refine x_lal hC (xce_54 G kp _ _) hR dX7_failingByClearing_117 hf (fun v2 hf => ?_)
      refine lv_lconst (v := 0) hC.1 hC.2.1 dX7_failingByClearing_118 (by decide) ?_
      refine W.lcmp hC.1 hC.2.1 dX7_failingByClearing_119 ?_
      refine x_if_ge (tgt := 126) hC dX7_failingByClearing_120 (by decide) hf (fun hf => ?_) (fun hf => ?_)
      · refine x_iinc (d := 1) (lv' := fun y3 => [(4, .int y3), (0, .ref (xz G + 46)), (1, .ref (xz G + 1)), (3, .int x3)]) (k := 3) hC hl dX7_failingByClearing_126 rfl (by decide) (Nat.le_of_ble_eq_true rfl) hf (fun _ => rfl) (fun y3 hf ls hl => ?_)
        refine lv_goto (tgt := 99) hC.1 hC.2.1 dX7_failingByClearing_129 (by decide) ?_
        exact hk99 x3 y3 hf _ _ _ hR hS (lv_sub hl [1, 2, 3, 0] rfl)
      · refine x_iinc (d := 1) (lv' := fun y4 => [(3, .int y4), (0, .ref (xz G + 46)), (1, .ref (xz G + 1)), (4, .int x4)]) (k := 2) hC hl dX7_failingByClearing_123 rfl (by decide) (Nat.le_of_ble_eq_true rfl) hf (fun _ => rfl) (fun y4 hf ls hl => ?_)
        refine x_iinc (d := 1) (lv' := fun y5 => [(4, .int y5), (3, .int y4), (0, .ref (xz G + 46)), (1, .ref (xz G + 1))]) (k := 3) hC hl dX7_failingByClearing_126 rfl (by decide) (Nat.le_of_ble_eq_true rfl) hf (fun _ => rfl) (fun y5 hf ls hl => ?_)
        refine lv_goto (tgt := 99) hC.1 hC.2.1 dX7_failingByClearing_129 (by decide) ?_
        exact hk99 y4 y5 hf _ _ _ hR hS (lv_sub hl [2, 3, 1, 0] rfl)
set_option maxRecDepth 20000 in
theorem W_X7_failingByClearing_l20 {G : XG} {l : Launch} {kp : Bool} {p : Program} {e : Env} {s : State} {m : MethodId} {args : Array Value} {below : List Frame} {meth : Method} {c : Code} (hC : xC G p s m args meth c cX7_failingByClearing 5 RX7 (some .int)) (N : Nat) {I : xTI} {r : Int32} {rL : xTL} {x2 : Int32} : ∀ (n : Nat) (x3 : Int32) (L : xTL) , xlp (F_X7_failingByClearing_b20 N I x2 ) n (x3, L) = some (r, rL) → ∀ (H : Heap) (locs : List Loc) (ls : Array Slot), xRep G kp I L H → xS G s.heap H locs → lv_has ls 5 [(0, .ref (xz G + 46)), (1, .ref (xz G + 1)), (2, .int x2), (3, .int x3)] → W p l e (xrm 3 119) s m args below meth c H locs 0 0 (xMQ G kp below args s (some (.int r)) I rL) (F0 m 20 ls []) := by
  intro n
  induction n with
  | zero =>
    intro x3 L hf
    cases hf
  | succ n hk20 =>
    intro x3 L hf H locs ls hR hS hl
    rw [xlp_s, E_X7_failingByClearing_b20] at hf
    unfold F_X7_failingByClearing_c20 at hf
    refine lv_iload_n hC.1 hC.2.1 dX7_failingByClearing_20 rfl (lv_at hl 3 rfl) ?_
    refine lv_bipush (v := 60) hC.1 hC.2.1 dX7_failingByClearing_21 (by decide) ?_
    refine x_ic_ge (tgt := 94) hC dX7_failingByClearing_23 (by decide) hf (fun hf => ?_) (fun hf => ?_)
    · refine lv_iconst (v := 0) hC.1 hC.2.1 dX7_failingByClearing_94 (by decide) ?_
      refine lv_istore_n (lv' := [(3, .int 0), (0, .ref (xz G + 46)), (1, .ref (xz G + 1)), (2, .int x2)]) hC.1 hC.2.1 dX7_failingByClearing_95 rfl hl (Nat.le_of_ble_eq_true rfl) rfl (fun ls hl => ?_)
      refine lv_iconst (v := 0) hC.1 hC.2.1 dX7_failingByClearing_96 (by decide) ?_
      refine lv_istore (lv' := [(4, .int 0), (3, .int 0), (0, .ref (xz G + 46)), (1, .ref (xz G + 1)), (2, .int x2)]) hC.1 hC.2.1 dX7_failingByClearing_97 hl (Nat.le_of_ble_eq_true rfl) rfl (fun ls hl => ?_)
      exact W_X7_failingByClearing_l99 hC N _ 0 0 hf _ _ _ hR hS (lv_sub hl [2, 3, 1, 0] rfl)
    · refine lv_aload_n hC.1 hC.2.1 dX7_failingByClearing_26 rfl (lv_at hl 1 rfl) ?_
      refine x_get (v := .ref (xz G + 11)) hC xf_X7_37 (xce_1 G kp _ _) rfl hR dX7_failingByClearing_27 ?_
      refine lv_iload_n hC.1 hC.2.1 dX7_failingByClearing_30 rfl (lv_at hl 3 rfl) ?_
      refine lv_iload_n hC.1 hC.2.1 dX7_failingByClearing_31 rfl (lv_at hl 2 rfl) ?_
      refine x_cvi00 (rest := []) hC xy_X0_standsFor tw_1098 hf (fun _ h => M_X0_standsFor G l kp h) ⟨Nat.le_of_ble_eq_true rfl, Nat.le_of_ble_eq_true rfl⟩ (xce_11 G kp _ _) rfl rfl rfl (Nat.le_of_ble_eq_true rfl) hl.1 hR hS dX7_failingByClearing_32 ⟨Nat.le_refl _, Nat.le_refl _⟩ (fun v1 hf H locs hR hS => ?_)
      refine x_if_eq (tgt := 88) hC dX7_failingByClearing_35 (by decide) hf (fun hf => ?_) (fun hf => ?_)
      · refine x_iinc (d := 1) (lv' := fun y2 => [(3, .int y2), (0, .ref (xz G + 46)), (1, .ref (xz G + 1)), (2, .int x2)]) (k := 3) hC hl dX7_failingByClearing_88 rfl (by decide) (Nat.le_of_ble_eq_true rfl) hf (fun _ => rfl) (fun y2 hf ls hl => ?_)
        refine lv_goto (tgt := 20) hC.1 hC.2.1 dX7_failingByClearing_91 (by decide) ?_
        exact hk20 y2 L hf _ _ _ hR hS (lv_sub hl [1, 2, 3, 0] rfl)
      · refine lv_aload_n hC.1 hC.2.1 dX7_failingByClearing_38 rfl (lv_at hl 0 rfl) ?_
        refine x_get (v := .ref (xz G + 54)) hC xf_X7_34 (xce_46 G kp _ _) rfl hR dX7_failingByClearing_39 ?_
        refine lv_aload_n hC.1 hC.2.1 dX7_failingByClearing_42 rfl (lv_at hl 1 rfl) ?_
        refine x_get (v := .ref (xz G + 11)) hC xf_X7_37 (xce_1 G kp _ _) rfl hR dX7_failingByClearing_43 ?_
        refine lv_iload_n hC.1 hC.2.1 dX7_failingByClearing_46 rfl (lv_at hl 3 rfl) ?_
        refine lv_iconst (v := 1) hC.1 hC.2.1 dX7_failingByClearing_47 (by decide) ?_
        refine x_cvi00 (rest := [.ref (xz G + 54)]) hC xy_X0_at tw_1099 hf (fun _ h => M_X0_at G l kp h) ⟨Nat.le_of_ble_eq_true rfl, Nat.le_of_ble_eq_true rfl⟩ (xce_11 G kp _ _) rfl rfl rfl (Nat.le_of_ble_eq_true rfl) hl.1 hR hS dX7_failingByClearing_48 ⟨Nat.le_refl _, Nat.le_refl _⟩ (fun v3 hf H locs hR hS => ?_)
        refine lv_dup2_11 hC.1 hC.2.1 dX7_failingByClearing_51 rfl rfl ?_
        refine x_lal hC (xce_54 G kp _ _) hR dX7_failingByClearing_52 hf (fun v4 hf => ?_)
        refine lv_aload_n hC.1 hC.2.1 dX7_failingByClearing_53 rfl (lv_at hl 1 rfl) ?_
        refine x_get (v := .ref (xz G + 11)) hC xf_X7_37 (xce_1 G kp _ _) rfl hR dX7_failingByClearing_54 ?_
        refine W.eq (g2 := F0 m 57 ls [.ref (xz G + 11), .long v4, .int v3, .ref (xz G + 54)]) rfl ?_
        refine lv_iload_n hC.1 hC.2.1 dX7_failingByClearing_57 rfl (lv_at hl 3 rfl) ?_
        refine x_csl00 (rest := [.long v4, .int v3, .ref (xz G + 54)]) hC xy_X7_worth tw_1104 hf (fun _ h => M_X7_worth G l kp h) ⟨Nat.le_of_ble_eq_true rfl, Nat.le_of_ble_eq_true rfl⟩ rfl rfl (Nat.le_of_ble_eq_true rfl) hl.1 hR hS dX7_failingByClearing_58 ⟨Nat.le_refl _, Nat.le_refl _⟩ (fun v5 hf H locs hR hS => ?_)
        refine lv_lsub hC.1 hC.2.1 dX7_failingByClearing_61 ?_
        refine x_las hC (fun f => (xce_54 G kp _ f)) hR hS dX7_failingByClearing_62 hf (fun L6 hf H locs hR hS => ?_)
        refine lv_aload_n hC.1 hC.2.1 dX7_failingByClearing_63 rfl (lv_at hl 0 rfl) ?_
        refine x_get (v := .ref (xz G + 54)) hC xf_X7_34 (xce_46 G kp _ _) rfl hR dX7_failingByClearing_64 ?_
        refine lv_aload_n hC.1 hC.2.1 dX7_failingByClearing_67 rfl (lv_at hl 1 rfl) ?_
        refine x_get (v := .ref (xz G + 11)) hC xf_X7_37 (xce_1 G kp _ _) rfl hR dX7_failingByClearing_68 ?_
        refine lv_iload_n hC.1 hC.2.1 dX7_failingByClearing_71 rfl (lv_at hl 3 rfl) ?_
        refine lv_iconst (v := 0) hC.1 hC.2.1 dX7_failingByClearing_72 (by decide) ?_
        refine x_cvi00 (rest := [.ref (xz G + 54)]) hC xy_X0_at tw_1099 hf (fun _ h => M_X0_at G l kp h) ⟨Nat.le_of_ble_eq_true rfl, Nat.le_of_ble_eq_true rfl⟩ (xce_11 G kp _ _) rfl rfl rfl (Nat.le_of_ble_eq_true rfl) hl.1 hR hS dX7_failingByClearing_73 ⟨Nat.le_refl _, Nat.le_refl _⟩ (fun v7 hf H locs hR hS => ?_)
        refine lv_dup2_11 hC.1 hC.2.1 dX7_failingByClearing_76 rfl rfl ?_
        refine W.eq (g2 := F0 m 77 ls [.int v7, .ref (xz G + 54), .int v7, .ref (xz G + 54)]) rfl ?_
        refine x_lal hC (xce_54 G kp _ _) hR dX7_failingByClearing_77 hf (fun v8 hf => ?_)
        refine lv_aload_n hC.1 hC.2.1 dX7_failingByClearing_78 rfl (lv_at hl 1 rfl) ?_
        refine x_get (v := .ref (xz G + 11)) hC xf_X7_37 (xce_1 G kp _ _) rfl hR dX7_failingByClearing_79 ?_
        refine lv_iload_n hC.1 hC.2.1 dX7_failingByClearing_82 rfl (lv_at hl 3 rfl) ?_
        refine x_csl00 (rest := [.long v8, .int v7, .ref (xz G + 54)]) hC xy_X7_worth tw_1104 hf (fun _ h => M_X7_worth G l kp h) ⟨Nat.le_of_ble_eq_true rfl, Nat.le_of_ble_eq_true rfl⟩ rfl rfl (Nat.le_of_ble_eq_true rfl) hl.1 hR hS dX7_failingByClearing_83 ⟨Nat.le_refl _, Nat.le_refl _⟩ (fun v9 hf H locs hR hS => ?_)
        refine lv_ladd hC.1 hC.2.1 dX7_failingByClearing_86 ?_
        refine x_las hC (fun f => (xce_54 G kp _ f)) hR hS dX7_failingByClearing_87 hf (fun L10 hf H locs hR hS => ?_)
        refine x_iinc (d := 1) (lv' := fun y11 => [(3, .int y11), (0, .ref (xz G + 46)), (1, .ref (xz G + 1)), (2, .int x2)]) (k := 3) hC hl dX7_failingByClearing_88 rfl (by decide) (Nat.le_of_ble_eq_true rfl) hf (fun _ => rfl) (fun y11 hf ls hl => ?_)
        refine lv_goto (tgt := 20) hC.1 hC.2.1 dX7_failingByClearing_91 (by decide) ?_
        exact hk20 y11 L10 hf _ _ _ hR hS (lv_sub hl [1, 2, 3, 0] rfl)
set_option maxRecDepth 20000 in
theorem M_X7_failingByClearing (G : XG) (l : Launch) (kp : Bool) (N : Nat) {I : xTI} {L : xTL} {x2 : Int32} {r : Int32} {rL : xTL} (hf : F_X7_failingByClearing N I L x2 = some (r, rL)) : xMet G l yX7_failingByClearing cX7_failingByClearing 5 (some .int) 3 119 kp [.ref (xz G + 46), .ref (xz G + 1), .int x2] I L (some (.int r)) I rL := by
  refine xMet.ofW (by decide +kernel) (Nat.le_of_ble_eq_true rfl) ?_
  intro p e s m args below meth c hC H locs ls hR hS hl
  replace hC : xC G p s m args meth c cX7_failingByClearing 5 RX7 (some .int) := hC
  replace hl : lv_has ls 5 [(0, .ref (xz G + 46)), (1, .ref (xz G + 1)), (2, .int x2)] := hl
  unfold F_X7_failingByClearing at hf
  refine lv_aload_n hC.1 hC.2.1 dX7_failingByClearing_0 rfl (lv_at hl 1 rfl) ?_
  refine x_get (v := .ref (xz G + 3)) hC xf_X7_65 (xce_1 G kp _ _) rfl hR dX7_failingByClearing_1 ?_
  refine x_get (v := .ref (xz G + 4)) hC xf_X7_116 (xce_3 G kp _ _) rfl hR dX7_failingByClearing_4 ?_
  refine lv_iconst (v := 0) hC.1 hC.2.1 dX7_failingByClearing_7 (by decide) ?_
  refine lv_aload_n hC.1 hC.2.1 dX7_failingByClearing_8 rfl (lv_at hl 0 rfl) ?_
  refine x_get (v := .ref (xz G + 54)) hC xf_X7_34 (xce_46 G kp _ _) rfl hR dX7_failingByClearing_9 ?_
  refine lv_iconst (v := 0) hC.1 hC.2.1 dX7_failingByClearing_12 (by decide) ?_
  refine lv_bipush (v := 12) hC.1 hC.2.1 dX7_failingByClearing_13 (by decide) ?_
  refine x_cpl (rest := []) hC tw_1097 (xce_4 G kp _ _) (fun f => (xce_54 G kp _ f)) hl.1 hR hS (Nat.le_of_ble_eq_true rfl) (Nat.le_of_ble_eq_true rfl) dX7_failingByClearing_15 hf (fun L1 hf H locs hR hS => ?_)
  refine lv_iconst (v := 0) hC.1 hC.2.1 dX7_failingByClearing_18 (by decide) ?_
  refine lv_istore_n (lv' := [(3, .int 0), (0, .ref (xz G + 46)), (1, .ref (xz G + 1)), (2, .int x2)]) hC.1 hC.2.1 dX7_failingByClearing_19 rfl hl (Nat.le_of_ble_eq_true rfl) rfl (fun ls hl => ?_)
  exact W_X7_failingByClearing_l20 hC N _ 0 L1 hf _ _ _ hR hS (lv_sub hl [1, 2, 3, 0] rfl)
set_option maxRecDepth 20000 in
theorem M_X10_clearing (G : XG) (l : Launch) (kp : Bool) (N : Nat) {I : xTI} {L : xTL} {x1 : Int32} {r : Int32} {rI : xTI} {rL : xTL} (hf : F_X10_clearing N I L x1 = some (r, rI, rL)) : xMet G l yX10_clearing cX10_clearing 2 (some .int) 4 143 kp [.ref (xz G + 0), .int x1] I L (some (.int r)) rI rL := by
  refine xMet.ofW (by decide +kernel) (Nat.le_of_ble_eq_true rfl) ?_
  intro p e s m args below meth c hC H locs ls hR hS hl
  replace hC : xC G p s m args meth c cX10_clearing 2 RX10 (some .int) := hC
  replace hl : lv_has ls 2 [(0, .ref (xz G + 0)), (1, .int x1)] := hl
  unfold F_X10_clearing at hf
  refine lv_iload_n hC.1 hC.2.1 dX10_clearing_0 rfl (lv_at hl 1 rfl) ?_
  refine x_if_ge (tgt := 13) hC dX10_clearing_1 (by decide) hf (fun hf => ?_) (fun hf => ?_)
  · refine lv_aload_n hC.1 hC.2.1 dX10_clearing_13 rfl (lv_at hl 0 rfl) ?_
    refine x_get (v := .ref (xz G + 46)) hC xf_X10_50 (xce_0 G kp _ _) rfl hR dX10_clearing_14 ?_
    refine lv_aload_n hC.1 hC.2.1 dX10_clearing_17 rfl (lv_at hl 0 rfl) ?_
    refine x_get (v := .ref (xz G + 1)) hC xf_X10_10 (xce_0 G kp _ _) rfl hR dX10_clearing_18 ?_
    refine lv_iload_n hC.1 hC.2.1 dX10_clearing_21 rfl (lv_at hl 1 rfl) ?_
    refine x_cvi01 (rest := []) hC xy_X7_failingByClearing tw_1111 hf (fun _ _ h => M_X7_failingByClearing G l kp N h) ⟨Nat.le_of_ble_eq_true rfl, Nat.le_of_ble_eq_true rfl⟩ (xce_46 G kp _ _) rfl rfl rfl (Nat.le_of_ble_eq_true rfl) hl.1 hR hS dX10_clearing_22 ⟨Nat.le_refl _, Nat.le_refl _⟩ (fun v1 L2 hf H locs hR hS => ?_)
    obtain ⟨h91, h90⟩ := Prod.mk.inj (Option.some.inj hf)
    obtain ⟨h92, h93⟩ := Prod.mk.inj h90
    subst h91
    subst h92
    subst h93
    exact x_iret hC hR hS dX10_clearing_25
  · refine lv_aload_n hC.1 hC.2.1 dX10_clearing_4 rfl (lv_at hl 0 rfl) ?_
    refine lv_bipush (v := (-7)) hC.1 hC.2.1 dX10_clearing_5 (by decide) ?_
    refine x_cvi10 (rest := []) hC xy_X10_refuse tw_411 hf (fun _ _ h => M_X10_refuse G l kp h) ⟨Nat.le_of_ble_eq_true rfl, Nat.le_of_ble_eq_true rfl⟩ (xce_0 G kp _ _) rfl rfl rfl (Nat.le_of_ble_eq_true rfl) hl.1 hR hS dX10_clearing_7 ⟨Nat.le_refl _, Nat.le_refl _⟩ (fun v3 I4 hf H locs hR hS => ?_)
    refine lv_goto (tgt := 25) hC.1 hC.2.1 dX10_clearing_10 (by decide) ?_
    obtain ⟨h91, h90⟩ := Prod.mk.inj (Option.some.inj hf)
    obtain ⟨h92, h93⟩ := Prod.mk.inj h90
    subst h91
    subst h92
    subst h93
    exact x_iret hC hR hS dX10_clearing_25
set_option maxRecDepth 20000 in
theorem W_X0_inState_l4 {G : XG} {l : Launch} {kp : Bool} {p : Program} {e : Env} {s : State} {m : MethodId} {args : Array Value} {below : List Frame} {meth : Method} {c : Code} (hC : xC G p s m args meth c cX0_inState 4 RX0 (some .int)) (N : Nat) {I : xTI} {L : xTL} {r : Int32} {x1 : Int32} : ∀ (n : Nat) (x2 : Int32) (x3 : Int32) , xlp (F_X0_inState_b4 N I x1 ) n (x2, x3) = some r → ∀ (H : Heap) (locs : List Loc) (ls : Array Slot), xRep G kp I L H → xS G s.heap H locs → lv_has ls 4 [(0, .ref (xz G + 11)), (1, .int x1), (2, .int x2), (3, .int x3)] → W p l e (xrm 1 23) s m args below meth c H locs 0 0 (xMQ G kp below args s (some (.int r)) I L) (F0 m 4 ls []) := by
  intro n
  induction n with
  | zero =>
    intro x2 x3 hf
    cases hf
  | succ n hk4 =>
    intro x2 x3 hf H locs ls hR hS hl
    rw [xlp_s, E_X0_inState_b4] at hf
    unfold F_X0_inState_c4 at hf
    refine lv_iload_n hC.1 hC.2.1 dX0_inState_4 rfl (lv_at hl 3 rfl) ?_
    refine lv_bipush (v := 60) hC.1 hC.2.1 dX0_inState_5 (by decide) ?_
    refine x_ic_ge (tgt := 33) hC dX0_inState_7 (by decide) hf (fun hf => ?_) (fun hf => ?_)
    · refine lv_iload_n hC.1 hC.2.1 dX0_inState_33 rfl (lv_at hl 2 rfl) ?_
      have h9 := Option.some.inj hf
      subst h9
      exact x_iret hC hR hS dX0_inState_34
    · refine lv_aload_n hC.1 hC.2.1 dX0_inState_10 rfl (lv_at hl 0 rfl) ?_
      refine x_get (v := .ref (xz G + 12)) hC xf_X0_16 (xce_11 G kp _ _) rfl hR dX0_inState_11 ?_
      refine lv_iload_n hC.1 hC.2.1 dX0_inState_14 rfl (lv_at hl 3 rfl) ?_
      refine lv_bipush (v := 7) hC.1 hC.2.1 dX0_inState_15 (by decide) ?_
      refine x_cvi00 (rest := []) hC xy_X8_at tw_462 hf (fun _ h => M_X8_at_12 G l kp h) ⟨Nat.le_of_ble_eq_true rfl, Nat.le_of_ble_eq_true rfl⟩ (xce_12 G kp _ _) rfl rfl rfl (Nat.le_of_ble_eq_true rfl) hl.1 hR hS dX0_inState_17 ⟨Nat.le_refl _, Nat.le_refl _⟩ (fun v1 hf H locs hR hS => ?_)
      refine lv_iload_n hC.1 hC.2.1 dX0_inState_20 rfl (lv_at hl 1 rfl) ?_
      refine x_ic_ne (tgt := 27) hC dX0_inState_21 (by decide) hf (fun hf => ?_) (fun hf => ?_)
      · refine x_iinc (d := 1) (lv' := fun y2 => [(3, .int y2), (0, .ref (xz G + 11)), (1, .int x1), (2, .int x2)]) (k := 3) hC hl dX0_inState_27 rfl (by decide) (Nat.le_of_ble_eq_true rfl) hf (fun _ => rfl) (fun y2 hf ls hl => ?_)
        refine lv_goto (tgt := 4) hC.1 hC.2.1 dX0_inState_30 (by decide) ?_
        exact hk4 x2 y2 hf _ _ _ hR hS (lv_sub hl [1, 2, 3, 0] rfl)
      · refine x_iinc (d := 1) (lv' := fun y3 => [(2, .int y3), (0, .ref (xz G + 11)), (1, .int x1), (3, .int x3)]) (k := 2) hC hl dX0_inState_24 rfl (by decide) (Nat.le_of_ble_eq_true rfl) hf (fun _ => rfl) (fun y3 hf ls hl => ?_)
        refine x_iinc (d := 1) (lv' := fun y4 => [(3, .int y4), (2, .int y3), (0, .ref (xz G + 11)), (1, .int x1)]) (k := 3) hC hl dX0_inState_27 rfl (by decide) (Nat.le_of_ble_eq_true rfl) hf (fun _ => rfl) (fun y4 hf ls hl => ?_)
        refine lv_goto (tgt := 4) hC.1 hC.2.1 dX0_inState_30 (by decide) ?_
        exact hk4 y3 y4 hf _ _ _ hR hS (lv_sub hl [2, 3, 1, 0] rfl)
set_option maxRecDepth 20000 in
theorem M_X0_inState (G : XG) (l : Launch) (kp : Bool) (N : Nat) {I : xTI} {L : xTL} {x1 : Int32} {r : Int32} (hf : F_X0_inState N I x1 = some r) : xMet G l yX0_inState cX0_inState 4 (some .int) 1 23 kp [.ref (xz G + 11), .int x1] I L (some (.int r)) I L := by
  refine xMet.ofW (by decide +kernel) (Nat.le_of_ble_eq_true rfl) ?_
  intro p e s m args below meth c hC H locs ls hR hS hl
  replace hC : xC G p s m args meth c cX0_inState 4 RX0 (some .int) := hC
  replace hl : lv_has ls 4 [(0, .ref (xz G + 11)), (1, .int x1)] := hl
  unfold F_X0_inState at hf
  refine lv_iconst (v := 0) hC.1 hC.2.1 dX0_inState_0 (by decide) ?_
  refine lv_istore_n (lv' := [(2, .int 0), (0, .ref (xz G + 11)), (1, .int x1)]) hC.1 hC.2.1 dX0_inState_1 rfl hl (Nat.le_of_ble_eq_true rfl) rfl (fun ls hl => ?_)
  refine lv_iconst (v := 0) hC.1 hC.2.1 dX0_inState_2 (by decide) ?_
  refine lv_istore_n (lv' := [(3, .int 0), (2, .int 0), (0, .ref (xz G + 11)), (1, .int x1)]) hC.1 hC.2.1 dX0_inState_3 rfl hl (Nat.le_of_ble_eq_true rfl) rfl (fun ls hl => ?_)
  exact W_X0_inState_l4 hC N _ 0 0 hf _ _ _ hR hS (lv_sub hl [2, 3, 1, 0] rfl)
set_option maxRecDepth 20000 in
theorem M_X10_count (G : XG) (l : Launch) (kp : Bool) (N : Nat) {I : xTI} {L : xTL} {x1 : Int32} {r : Int32} {rI : xTI} (hf : F_X10_count N I x1 = some (r, rI)) : xMet G l yX10_count cX10_count 2 (some .int) 2 46 kp [.ref (xz G + 0), .int x1] I L (some (.int r)) rI L := by
  refine xMet.ofW (by decide +kernel) (Nat.le_of_ble_eq_true rfl) ?_
  intro p e s m args below meth c hC H locs ls hR hS hl
  replace hC : xC G p s m args meth c cX10_count 2 RX10 (some .int) := hC
  replace hl : lv_has ls 2 [(0, .ref (xz G + 0)), (1, .int x1)] := hl
  unfold F_X10_count at hf
  refine lv_iload_n hC.1 hC.2.1 dX10_count_0 rfl (lv_at hl 1 rfl) ?_
  try dsimp only at hf
  by_cases hc : x1 = 0
  · rw [if_pos hc] at hf
    refine x_tsi (tgt := 80) hC dX10_count_1 hc (by decide +kernel) ?_
    refine lv_aload_n hC.1 hC.2.1 dX10_count_80 rfl (lv_at hl 0 rfl) ?_
    refine x_get (v := .ref (xz G + 1)) hC xf_X10_10 (xce_0 G kp _ _) rfl hR dX10_count_81 ?_
    refine x_getI hC xf_X10_164 (xce_1 G kp _ _) rfl hR dX10_count_84 hf (fun v1 hf => ?_)
    obtain ⟨h91, h92⟩ := Prod.mk.inj (Option.some.inj hf)
    subst h91
    subst h92
    exact x_iret hC hR hS dX10_count_87
  rw [if_neg hc] at hf
  have hc0 := hc
  clear hc
  by_cases hc : x1 = 1
  · rw [if_pos hc] at hf
    refine x_tsi (tgt := 88) hC dX10_count_1 hc (by decide +kernel) ?_
    refine lv_aload_n hC.1 hC.2.1 dX10_count_88 rfl (lv_at hl 0 rfl) ?_
    refine x_get (v := .ref (xz G + 1)) hC xf_X10_10 (xce_0 G kp _ _) rfl hR dX10_count_89 ?_
    refine x_cvi00 (rest := []) hC xy_X1_place tw_576 hf (fun _ h => M_X1_place G l kp h) ⟨Nat.le_of_ble_eq_true rfl, Nat.le_of_ble_eq_true rfl⟩ (xce_1 G kp _ _) rfl rfl rfl (Nat.le_of_ble_eq_true rfl) hl.1 hR hS dX10_count_92 ⟨Nat.le_refl _, Nat.le_refl _⟩ (fun v2 hf H locs hR hS => ?_)
    obtain ⟨h91, h92⟩ := Prod.mk.inj (Option.some.inj hf)
    subst h91
    subst h92
    exact x_iret hC hR hS dX10_count_95
  rw [if_neg hc] at hf
  have hc1 := hc
  clear hc
  by_cases hc : x1 = 2
  · rw [if_pos hc] at hf
    refine x_tsi (tgt := 96) hC dX10_count_1 hc (by decide +kernel) ?_
    refine lv_aload_n hC.1 hC.2.1 dX10_count_96 rfl (lv_at hl 0 rfl) ?_
    refine x_get (v := .ref (xz G + 1)) hC xf_X10_10 (xce_0 G kp _ _) rfl hR dX10_count_97 ?_
    refine x_cvi00 (rest := []) hC xy_X1_account tw_486 hf (fun _ h => M_X1_account G l kp h) ⟨Nat.le_of_ble_eq_true rfl, Nat.le_of_ble_eq_true rfl⟩ (xce_1 G kp _ _) rfl rfl rfl (Nat.le_of_ble_eq_true rfl) hl.1 hR hS dX10_count_100 ⟨Nat.le_refl _, Nat.le_refl _⟩ (fun v3 hf H locs hR hS => ?_)
    obtain ⟨h91, h92⟩ := Prod.mk.inj (Option.some.inj hf)
    subst h91
    subst h92
    exact x_iret hC hR hS dX10_count_103
  rw [if_neg hc] at hf
  have hc2 := hc
  clear hc
  by_cases hc : x1 = 3
  · rw [if_pos hc] at hf
    refine x_tsi (tgt := 104) hC dX10_count_1 hc (by decide +kernel) ?_
    refine lv_aload_n hC.1 hC.2.1 dX10_count_104 rfl (lv_at hl 0 rfl) ?_
    refine x_get (v := .ref (xz G + 1)) hC xf_X10_10 (xce_0 G kp _ _) rfl hR dX10_count_105 ?_
    refine x_get (v := .ref (xz G + 3)) hC xf_X10_74 (xce_1 G kp _ _) rfl hR dX10_count_108 ?_
    refine x_getI hC xf_X10_78 (xce_3 G kp _ _) rfl hR dX10_count_111 hf (fun v4 hf => ?_)
    obtain ⟨h91, h92⟩ := Prod.mk.inj (Option.some.inj hf)
    subst h91
    subst h92
    exact x_iret hC hR hS dX10_count_114
  rw [if_neg hc] at hf
  have hc3 := hc
  clear hc
  by_cases hc : x1 = 4
  · rw [if_pos hc] at hf
    refine x_tsi (tgt := 115) hC dX10_count_1 hc (by decide +kernel) ?_
    refine lv_aload_n hC.1 hC.2.1 dX10_count_115 rfl (lv_at hl 0 rfl) ?_
    refine x_get (v := .ref (xz G + 1)) hC xf_X10_10 (xce_0 G kp _ _) rfl hR dX10_count_116 ?_
    refine x_getI hC xf_X10_87 (xce_1 G kp _ _) rfl hR dX10_count_119 hf (fun v5 hf => ?_)
    obtain ⟨h91, h92⟩ := Prod.mk.inj (Option.some.inj hf)
    subst h91
    subst h92
    exact x_iret hC hR hS dX10_count_122
  rw [if_neg hc] at hf
  have hc4 := hc
  clear hc
  by_cases hc : x1 = 5
  · rw [if_pos hc] at hf
    refine x_tsi (tgt := 123) hC dX10_count_1 hc (by decide +kernel) ?_
    refine lv_aload_n hC.1 hC.2.1 dX10_count_123 rfl (lv_at hl 0 rfl) ?_
    refine x_get (v := .ref (xz G + 1)) hC xf_X10_10 (xce_0 G kp _ _) rfl hR dX10_count_124 ?_
    refine x_get (v := .ref (xz G + 11)) hC xf_X10_119 (xce_1 G kp _ _) rfl hR dX10_count_127 ?_
    refine lv_iload_n hC.1 hC.2.1 dX10_count_130 rfl (lv_at hl 1 rfl) ?_
    refine lv_iconst (v := 5) hC.1 hC.2.1 dX10_count_131 (by decide) ?_
    refine lv_isub hC.1 hC.2.1 dX10_count_132 ?_
    refine x_cvi00 (rest := []) hC xy_X0_inState tw_1119 hf (fun _ h => M_X0_inState G l kp N h) ⟨Nat.le_of_ble_eq_true rfl, Nat.le_of_ble_eq_true rfl⟩ (xce_11 G kp _ _) rfl rfl rfl (Nat.le_of_ble_eq_true rfl) hl.1 hR hS dX10_count_133 ⟨Nat.le_refl _, Nat.le_refl _⟩ (fun v6 hf H locs hR hS => ?_)
    obtain ⟨h91, h92⟩ := Prod.mk.inj (Option.some.inj hf)
    subst h91
    subst h92
    exact x_iret hC hR hS dX10_count_136
  rw [if_neg hc] at hf
  have hc5 := hc
  clear hc
  by_cases hc : x1 = 6
  · rw [if_pos hc] at hf
    refine x_tsi (tgt := 123) hC dX10_count_1 hc (by decide +kernel) ?_
    refine lv_aload_n hC.1 hC.2.1 dX10_count_123 rfl (lv_at hl 0 rfl) ?_
    refine x_get (v := .ref (xz G + 1)) hC xf_X10_10 (xce_0 G kp _ _) rfl hR dX10_count_124 ?_
    refine x_get (v := .ref (xz G + 11)) hC xf_X10_119 (xce_1 G kp _ _) rfl hR dX10_count_127 ?_
    refine lv_iload_n hC.1 hC.2.1 dX10_count_130 rfl (lv_at hl 1 rfl) ?_
    refine lv_iconst (v := 5) hC.1 hC.2.1 dX10_count_131 (by decide) ?_
    refine lv_isub hC.1 hC.2.1 dX10_count_132 ?_
    refine x_cvi00 (rest := []) hC xy_X0_inState tw_1119 hf (fun _ h => M_X0_inState G l kp N h) ⟨Nat.le_of_ble_eq_true rfl, Nat.le_of_ble_eq_true rfl⟩ (xce_11 G kp _ _) rfl rfl rfl (Nat.le_of_ble_eq_true rfl) hl.1 hR hS dX10_count_133 ⟨Nat.le_refl _, Nat.le_refl _⟩ (fun v7 hf H locs hR hS => ?_)
    obtain ⟨h91, h92⟩ := Prod.mk.inj (Option.some.inj hf)
    subst h91
    subst h92
    exact x_iret hC hR hS dX10_count_136
  rw [if_neg hc] at hf
  have hc6 := hc
  clear hc
  by_cases hc : x1 = 7
  · rw [if_pos hc] at hf
    refine x_tsi (tgt := 123) hC dX10_count_1 hc (by decide +kernel) ?_
    refine lv_aload_n hC.1 hC.2.1 dX10_count_123 rfl (lv_at hl 0 rfl) ?_
    refine x_get (v := .ref (xz G + 1)) hC xf_X10_10 (xce_0 G kp _ _) rfl hR dX10_count_124 ?_
    refine x_get (v := .ref (xz G + 11)) hC xf_X10_119 (xce_1 G kp _ _) rfl hR dX10_count_127 ?_
    refine lv_iload_n hC.1 hC.2.1 dX10_count_130 rfl (lv_at hl 1 rfl) ?_
    refine lv_iconst (v := 5) hC.1 hC.2.1 dX10_count_131 (by decide) ?_
    refine lv_isub hC.1 hC.2.1 dX10_count_132 ?_
    refine x_cvi00 (rest := []) hC xy_X0_inState tw_1119 hf (fun _ h => M_X0_inState G l kp N h) ⟨Nat.le_of_ble_eq_true rfl, Nat.le_of_ble_eq_true rfl⟩ (xce_11 G kp _ _) rfl rfl rfl (Nat.le_of_ble_eq_true rfl) hl.1 hR hS dX10_count_133 ⟨Nat.le_refl _, Nat.le_refl _⟩ (fun v8 hf H locs hR hS => ?_)
    obtain ⟨h91, h92⟩ := Prod.mk.inj (Option.some.inj hf)
    subst h91
    subst h92
    exact x_iret hC hR hS dX10_count_136
  rw [if_neg hc] at hf
  have hc7 := hc
  clear hc
  by_cases hc : x1 = 8
  · rw [if_pos hc] at hf
    refine x_tsi (tgt := 123) hC dX10_count_1 hc (by decide +kernel) ?_
    refine lv_aload_n hC.1 hC.2.1 dX10_count_123 rfl (lv_at hl 0 rfl) ?_
    refine x_get (v := .ref (xz G + 1)) hC xf_X10_10 (xce_0 G kp _ _) rfl hR dX10_count_124 ?_
    refine x_get (v := .ref (xz G + 11)) hC xf_X10_119 (xce_1 G kp _ _) rfl hR dX10_count_127 ?_
    refine lv_iload_n hC.1 hC.2.1 dX10_count_130 rfl (lv_at hl 1 rfl) ?_
    refine lv_iconst (v := 5) hC.1 hC.2.1 dX10_count_131 (by decide) ?_
    refine lv_isub hC.1 hC.2.1 dX10_count_132 ?_
    refine x_cvi00 (rest := []) hC xy_X0_inState tw_1119 hf (fun _ h => M_X0_inState G l kp N h) ⟨Nat.le_of_ble_eq_true rfl, Nat.le_of_ble_eq_true rfl⟩ (xce_11 G kp _ _) rfl rfl rfl (Nat.le_of_ble_eq_true rfl) hl.1 hR hS dX10_count_133 ⟨Nat.le_refl _, Nat.le_refl _⟩ (fun v9 hf H locs hR hS => ?_)
    obtain ⟨h91, h92⟩ := Prod.mk.inj (Option.some.inj hf)
    subst h91
    subst h92
    exact x_iret hC hR hS dX10_count_136
  rw [if_neg hc] at hf
  have hc8 := hc
  clear hc
  by_cases hc : x1 = 9
  · rw [if_pos hc] at hf
    refine x_tsi (tgt := 137) hC dX10_count_1 hc (by decide +kernel) ?_
    refine lv_aload_n hC.1 hC.2.1 dX10_count_137 rfl (lv_at hl 0 rfl) ?_
    refine x_get (v := .ref (xz G + 1)) hC xf_X10_10 (xce_0 G kp _ _) rfl hR dX10_count_138 ?_
    refine x_get (v := .ref (xz G + 20)) hC xf_X10_213 (xce_1 G kp _ _) rfl hR dX10_count_141 ?_
    refine x_getI hC xf_X10_341 (xce_20 G kp _ _) rfl hR dX10_count_144 hf (fun v10 hf => ?_)
    obtain ⟨h91, h92⟩ := Prod.mk.inj (Option.some.inj hf)
    subst h91
    subst h92
    exact x_iret hC hR hS dX10_count_147
  rw [if_neg hc] at hf
  have hc9 := hc
  clear hc
  by_cases hc : x1 = 10
  · rw [if_pos hc] at hf
    refine x_tsi (tgt := 148) hC dX10_count_1 hc (by decide +kernel) ?_
    refine lv_aload_n hC.1 hC.2.1 dX10_count_148 rfl (lv_at hl 0 rfl) ?_
    refine x_get (v := .ref (xz G + 1)) hC xf_X10_10 (xce_0 G kp _ _) rfl hR dX10_count_149 ?_
    refine x_get (v := .ref (xz G + 14)) hC xf_X10_196 (xce_1 G kp _ _) rfl hR dX10_count_152 ?_
    refine x_get (v := .ref (xz G + 15)) hC xf_X10_248 (xce_14 G kp _ _) rfl hR dX10_count_155 ?_
    refine x_getI hC xf_X10_341 (xce_15 G kp _ _) rfl hR dX10_count_158 hf (fun v11 hf => ?_)
    obtain ⟨h91, h92⟩ := Prod.mk.inj (Option.some.inj hf)
    subst h91
    subst h92
    exact x_iret hC hR hS dX10_count_161
  rw [if_neg hc] at hf
  have hc10 := hc
  clear hc
  by_cases hc : x1 = 11
  · rw [if_pos hc] at hf
    refine x_tsi (tgt := 162) hC dX10_count_1 hc (by decide +kernel) ?_
    refine lv_aload_n hC.1 hC.2.1 dX10_count_162 rfl (lv_at hl 0 rfl) ?_
    refine x_get (v := .ref (xz G + 29)) hC xf_X10_22 (xce_0 G kp _ _) rfl hR dX10_count_163 ?_
    refine x_getI hC xf_X10_244 (xce_29 G kp _ _) rfl hR dX10_count_166 hf (fun v12 hf => ?_)
    obtain ⟨h91, h92⟩ := Prod.mk.inj (Option.some.inj hf)
    subst h91
    subst h92
    exact x_iret hC hR hS dX10_count_169
  rw [if_neg hc] at hf
  have hc11 := hc
  clear hc
  by_cases hc : x1 = 12
  · rw [if_pos hc] at hf
    refine x_tsi (tgt := 170) hC dX10_count_1 hc (by decide +kernel) ?_
    refine lv_aload_n hC.1 hC.2.1 dX10_count_170 rfl (lv_at hl 0 rfl) ?_
    refine x_get (v := .ref (xz G + 1)) hC xf_X10_10 (xce_0 G kp _ _) rfl hR dX10_count_171 ?_
    refine x_get (v := .ref (xz G + 3)) hC xf_X10_74 (xce_1 G kp _ _) rfl hR dX10_count_174 ?_
    refine x_getI hC xf_X10_78 (xce_3 G kp _ _) rfl hR dX10_count_177 hf (fun v13 hf => ?_)
    refine lv_aload_n hC.1 hC.2.1 dX10_count_180 rfl (lv_at hl 0 rfl) ?_
    refine x_get (v := .ref (xz G + 1)) hC xf_X10_10 (xce_0 G kp _ _) rfl hR dX10_count_181 ?_
    refine x_get (v := .ref (xz G + 3)) hC xf_X10_74 (xce_1 G kp _ _) rfl hR dX10_count_184 ?_
    refine x_cvi00 (rest := [.int v13]) hC xy_X3_upCount tw_1123 hf (fun _ h => M_X3_upCount G l kp N h) ⟨Nat.le_of_ble_eq_true rfl, Nat.le_of_ble_eq_true rfl⟩ (xce_3 G kp _ _) rfl rfl rfl (Nat.le_of_ble_eq_true rfl) hl.1 hR hS dX10_count_187 ⟨Nat.le_refl _, Nat.le_refl _⟩ (fun v14 hf H locs hR hS => ?_)
    refine lv_isub hC.1 hC.2.1 dX10_count_190 ?_
    obtain ⟨h91, h92⟩ := Prod.mk.inj (Option.some.inj hf)
    subst h91
    subst h92
    exact x_iret hC hR hS dX10_count_191
  rw [if_neg hc] at hf
  have hc12 := hc
  clear hc
  by_cases hc : x1 = 13
  · rw [if_pos hc] at hf
    refine x_tsi (tgt := 192) hC dX10_count_1 hc (by decide +kernel) ?_
    refine lv_aload_n hC.1 hC.2.1 dX10_count_192 rfl (lv_at hl 0 rfl) ?_
    refine x_get (v := .ref (xz G + 1)) hC xf_X10_10 (xce_0 G kp _ _) rfl hR dX10_count_193 ?_
    refine x_get (v := .ref (xz G + 24)) hC xf_X10_297 (xce_1 G kp _ _) rfl hR dX10_count_196 ?_
    refine x_getI hC xf_X10_341 (xce_24 G kp _ _) rfl hR dX10_count_199 hf (fun v15 hf => ?_)
    obtain ⟨h91, h92⟩ := Prod.mk.inj (Option.some.inj hf)
    subst h91
    subst h92
    exact x_iret hC hR hS dX10_count_202
  rw [if_neg hc] at hf
  have hc13 := hc
  clear hc
  by_cases hc : x1 = 14
  · rw [if_pos hc] at hf
    refine x_tsi (tgt := 203) hC dX10_count_1 hc (by decide +kernel) ?_
    refine lv_aload_n hC.1 hC.2.1 dX10_count_203 rfl (lv_at hl 0 rfl) ?_
    refine x_get (v := .ref (xz G + 1)) hC xf_X10_10 (xce_0 G kp _ _) rfl hR dX10_count_204 ?_
    refine x_get (v := .ref (xz G + 26)) hC xf_X10_300 (xce_1 G kp _ _) rfl hR dX10_count_207 ?_
    refine x_getI hC xf_X10_341 (xce_26 G kp _ _) rfl hR dX10_count_210 hf (fun v16 hf => ?_)
    obtain ⟨h91, h92⟩ := Prod.mk.inj (Option.some.inj hf)
    subst h91
    subst h92
    exact x_iret hC hR hS dX10_count_213
  rw [if_neg hc] at hf
  have hc14 := hc
  clear hc
  by_cases hc : x1 = 15
  · rw [if_pos hc] at hf
    refine x_tsi (tgt := 214) hC dX10_count_1 hc (by decide +kernel) ?_
    refine lv_aload_n hC.1 hC.2.1 dX10_count_214 rfl (lv_at hl 0 rfl) ?_
    refine x_get (v := .ref (xz G + 1)) hC xf_X10_10 (xce_0 G kp _ _) rfl hR dX10_count_215 ?_
    refine x_get (v := .ref (xz G + 22)) hC xf_X10_238 (xce_1 G kp _ _) rfl hR dX10_count_218 ?_
    refine x_getI hC xf_X10_341 (xce_22 G kp _ _) rfl hR dX10_count_221 hf (fun v17 hf => ?_)
    obtain ⟨h91, h92⟩ := Prod.mk.inj (Option.some.inj hf)
    subst h91
    subst h92
    exact x_iret hC hR hS dX10_count_224
  rw [if_neg hc] at hf
  have hc15 := hc
  clear hc
  have e0 : (x1).toInt ≠ 0 := fun h => hc0 (Int32.toInt_inj.mp (h.trans (by decide)))
  have e1 : (x1).toInt ≠ 1 := fun h => hc1 (Int32.toInt_inj.mp (h.trans (by decide)))
  have e2 : (x1).toInt ≠ 2 := fun h => hc2 (Int32.toInt_inj.mp (h.trans (by decide)))
  have e3 : (x1).toInt ≠ 3 := fun h => hc3 (Int32.toInt_inj.mp (h.trans (by decide)))
  have e4 : (x1).toInt ≠ 4 := fun h => hc4 (Int32.toInt_inj.mp (h.trans (by decide)))
  have e5 : (x1).toInt ≠ 5 := fun h => hc5 (Int32.toInt_inj.mp (h.trans (by decide)))
  have e6 : (x1).toInt ≠ 6 := fun h => hc6 (Int32.toInt_inj.mp (h.trans (by decide)))
  have e7 : (x1).toInt ≠ 7 := fun h => hc7 (Int32.toInt_inj.mp (h.trans (by decide)))
  have e8 : (x1).toInt ≠ 8 := fun h => hc8 (Int32.toInt_inj.mp (h.trans (by decide)))
  have e9 : (x1).toInt ≠ 9 := fun h => hc9 (Int32.toInt_inj.mp (h.trans (by decide)))
  have e10 : (x1).toInt ≠ 10 := fun h => hc10 (Int32.toInt_inj.mp (h.trans (by decide)))
  have e11 : (x1).toInt ≠ 11 := fun h => hc11 (Int32.toInt_inj.mp (h.trans (by decide)))
  have e12 : (x1).toInt ≠ 12 := fun h => hc12 (Int32.toInt_inj.mp (h.trans (by decide)))
  have e13 : (x1).toInt ≠ 13 := fun h => hc13 (Int32.toInt_inj.mp (h.trans (by decide)))
  have e14 : (x1).toInt ≠ 14 := fun h => hc14 (Int32.toInt_inj.mp (h.trans (by decide)))
  have e15 : (x1).toInt ≠ 15 := fun h => hc15 (Int32.toInt_inj.mp (h.trans (by decide)))
  refine x_tso (tgt := 225) hC dX10_count_1 (by omega) (by decide) ?_
  refine lv_aload_n hC.1 hC.2.1 dX10_count_225 rfl (lv_at hl 0 rfl) ?_
  refine lv_bipush (v := (-7)) hC.1 hC.2.1 dX10_count_226 (by decide) ?_
  refine x_cvi10 (rest := []) hC xy_X10_refuse tw_411 hf (fun _ _ h => M_X10_refuse G l kp h) ⟨Nat.le_of_ble_eq_true rfl, Nat.le_of_ble_eq_true rfl⟩ (xce_0 G kp _ _) rfl rfl rfl (Nat.le_of_ble_eq_true rfl) hl.1 hR hS dX10_count_228 ⟨Nat.le_refl _, Nat.le_refl _⟩ (fun v18 I19 hf H locs hR hS => ?_)
  obtain ⟨h91, h92⟩ := Prod.mk.inj (Option.some.inj hf)
  subst h91
  subst h92
  exact x_iret hC hR hS dX10_count_231
set_option maxRecDepth 20000 in
theorem W_J7_fill_53178_55_l5 {G : XG} {l : Launch} {kp : Bool} {p : Program} {e : Env} {s : State} {m : MethodId} {args : Array Value} {below : List Frame} {meth : Method} {c : Code} (hC : xC G p s m args meth c cJ7_fill_53178 4 RJ7 none) (N : Nat) {L : xTL} {rI : xTI} {x1 : Int32} {x3 : Int32} : ∀ (n : Nat) (x2 : Int32) (I : xTI) , xlp (F_J7_fill_53178_55_b5 N x1 x3 ) n (x2, I) = some rI → ∀ (H : Heap) (locs : List Loc) (ls : Array Slot), xRep G kp I L H → xS G s.heap H locs → lv_has ls 4 [(0, .ref (xz G + 55)), (1, .int x1), (2, .int x2), (3, .int x3)] → W p l e (xrm 0 0) s m args below meth c H locs 0 0 (xMQ G kp below args s none rI L) (F0 m 5 ls []) := by
  intro n
  induction n with
  | zero =>
    intro x2 I hf
    cases hf
  | succ n hk5 =>
    intro x2 I hf H locs ls hR hS hl
    rw [xlp_s, E_J7_fill_53178_55_b5] at hf
    unfold F_J7_fill_53178_55_c5 at hf
    refine lv_iload_n hC.1 hC.2.1 dJ7_fill_53178_5 rfl (lv_at hl 2 rfl) ?_
    refine lv_iload_n hC.1 hC.2.1 dJ7_fill_53178_6 rfl (lv_at hl 3 rfl) ?_
    refine x_ic_ge (tgt := 20) hC dJ7_fill_53178_7 (by decide) hf (fun hf => ?_) (fun hf => ?_)
    · have h9 := Option.some.inj hf
      subst h9
      exact x_vret hC hR hS dJ7_fill_53178_20
    · refine lv_aload_n hC.1 hC.2.1 dJ7_fill_53178_10 rfl (lv_at hl 0 rfl) ?_
      refine lv_iload_n hC.1 hC.2.1 dJ7_fill_53178_11 rfl (lv_at hl 2 rfl) ?_
      refine lv_iload_n hC.1 hC.2.1 dJ7_fill_53178_12 rfl (lv_at hl 1 rfl) ?_
      refine x_ias hC (fun f => (xce_55 G kp f _)) hR hS dJ7_fill_53178_13 hf (fun I1 hf H locs hR hS => ?_)
      refine x_iinc (d := 1) (lv' := fun y2 => [(2, .int y2), (0, .ref (xz G + 55)), (1, .int x1), (3, .int x3)]) (k := 2) hC hl dJ7_fill_53178_14 rfl (by decide) (Nat.le_of_ble_eq_true rfl) hf (fun _ => rfl) (fun y2 hf ls hl => ?_)
      refine lv_goto (tgt := 5) hC.1 hC.2.1 dJ7_fill_53178_17 (by decide) ?_
      exact hk5 y2 I1 hf _ _ _ hR hS (lv_sub hl [1, 2, 0, 3] rfl)
set_option maxRecDepth 20000 in
theorem M_J7_fill_53178_55 (G : XG) (l : Launch) (kp : Bool) (N : Nat) {I : xTI} {L : xTL} {x1 : Int32} {rI : xTI} (hf : F_J7_fill_53178_55 N I x1 = some rI) : xMet G l yJ7_fill_53178 cJ7_fill_53178 4 none 0 0 kp [.ref (xz G + 55), .int x1] I L none rI L := by
  refine xMet.ofW (by decide +kernel) (Nat.le_of_ble_eq_true rfl) ?_
  intro p e s m args below meth c hC H locs ls hR hS hl
  replace hC : xC G p s m args meth c cJ7_fill_53178 4 RJ7 none := hC
  replace hl : lv_has ls 4 [(0, .ref (xz G + 55)), (1, .int x1)] := hl
  unfold F_J7_fill_53178_55 at hf
  refine lv_iconst (v := 0) hC.1 hC.2.1 dJ7_fill_53178_0 (by decide) ?_
  refine lv_istore_n (lv' := [(2, .int 0), (0, .ref (xz G + 55)), (1, .int x1)]) hC.1 hC.2.1 dJ7_fill_53178_1 rfl hl (Nat.le_of_ble_eq_true rfl) rfl (fun ls hl => ?_)
  refine lv_aload_n hC.1 hC.2.1 dJ7_fill_53178_2 rfl (lv_at hl 1 rfl) ?_
  refine x_alen_i (v := 60) hC (xce_55 G kp _ _) rfl hR dJ7_fill_53178_3 ?_
  refine lv_istore_n (lv' := [(3, .int 60), (2, .int 0), (0, .ref (xz G + 55)), (1, .int x1)]) hC.1 hC.2.1 dJ7_fill_53178_4 rfl hl (Nat.le_of_ble_eq_true rfl) rfl (fun ls hl => ?_)
  exact W_J7_fill_53178_55_l5 hC N _ 0 I hf _ _ _ hR hS (lv_sub hl [2, 3, 1, 0] rfl)
set_option maxRecDepth 20000 in
theorem M_X10_lay (G : XG) (l : Launch) (kp : Bool) (N : Nat) {I : xTI} {L : xTL} {x1 : Int32} {r : Int32} {rI : xTI} (hf : F_X10_lay N I x1 = some (r, rI)) : xMet G l yX10_lay cX10_lay 2 (some .int) 1 23 kp [.ref (xz G + 0), .int x1] I L (some (.int r)) rI L := by
  refine xMet.ofW (by decide +kernel) (Nat.le_of_ble_eq_true rfl) ?_
  intro p e s m args below meth c hC H locs ls hR hS hl
  replace hC : xC G p s m args meth c cX10_lay 2 RX10 (some .int) := hC
  replace hl : lv_has ls 2 [(0, .ref (xz G + 0)), (1, .int x1)] := hl
  unfold F_X10_lay at hf
  refine lv_iload_n hC.1 hC.2.1 dX10_lay_0 rfl (lv_at hl 1 rfl) ?_
  refine x_if_ge (tgt := 11) hC dX10_lay_1 (by decide) hf (fun hf => ?_) (fun hf => ?_)
  · refine lv_iload_n hC.1 hC.2.1 dX10_lay_11 rfl (lv_at hl 1 rfl) ?_
    refine lv_bipush (v := 60) hC.1 hC.2.1 dX10_lay_12 (by decide) ?_
    refine x_ic_le (tgt := 24) hC dX10_lay_14 (by decide) hf (fun hf => ?_) (fun hf => ?_)
    · refine lv_aload_n hC.1 hC.2.1 dX10_lay_24 rfl (lv_at hl 0 rfl) ?_
      refine x_get (v := .ref (xz G + 55)) hC xf_X10_54 (xce_0 G kp _ _) rfl hR dX10_lay_25 ?_
      refine lv_iconst (v := 0) hC.1 hC.2.1 dX10_lay_28 (by decide) ?_
      refine x_csv10 (rest := []) hC xy_J7_fill_53178 tw_1157 hf (fun _ h => M_J7_fill_53178_55 G l kp N h) ⟨Nat.le_of_ble_eq_true rfl, Nat.le_of_ble_eq_true rfl⟩ rfl rfl (Nat.le_of_ble_eq_true rfl) hl.1 hR hS dX10_lay_29 ⟨Nat.le_refl _, Nat.le_refl _⟩ (fun I1 hf H locs hR hS => ?_)
      refine lv_aload_n hC.1 hC.2.1 dX10_lay_32 rfl (lv_at hl 0 rfl) ?_
      refine lv_iload_n hC.1 hC.2.1 dX10_lay_33 rfl (lv_at hl 1 rfl) ?_
      refine x_putI hC xf_X10_58 xp_10_8 (fun f => (xce_0 G kp f _)) rfl (Nat.le_of_ble_eq_true rfl) hR hS dX10_lay_34 hf (fun I2 hf H locs hR hS => ?_)
      refine lv_iload_n hC.1 hC.2.1 dX10_lay_37 rfl (lv_at hl 1 rfl) ?_
      obtain ⟨h91, h92⟩ := Prod.mk.inj (Option.some.inj hf)
      subst h91
      subst h92
      exact x_iret hC hR hS dX10_lay_38
    · refine lv_aload_n hC.1 hC.2.1 dX10_lay_17 rfl (lv_at hl 0 rfl) ?_
      refine lv_bipush (v := (-7)) hC.1 hC.2.1 dX10_lay_18 (by decide) ?_
      refine x_cvi10 (rest := []) hC xy_X10_refuse tw_411 hf (fun _ _ h => M_X10_refuse G l kp h) ⟨Nat.le_of_ble_eq_true rfl, Nat.le_of_ble_eq_true rfl⟩ (xce_0 G kp _ _) rfl rfl rfl (Nat.le_of_ble_eq_true rfl) hl.1 hR hS dX10_lay_20 ⟨Nat.le_refl _, Nat.le_refl _⟩ (fun v3 I4 hf H locs hR hS => ?_)
      obtain ⟨h91, h92⟩ := Prod.mk.inj (Option.some.inj hf)
      subst h91
      subst h92
      exact x_iret hC hR hS dX10_lay_23
  · refine lv_aload_n hC.1 hC.2.1 dX10_lay_4 rfl (lv_at hl 0 rfl) ?_
    refine lv_bipush (v := (-4)) hC.1 hC.2.1 dX10_lay_5 (by decide) ?_
    refine x_cvi10 (rest := []) hC xy_X10_refuse tw_411 hf (fun _ _ h => M_X10_refuse G l kp h) ⟨Nat.le_of_ble_eq_true rfl, Nat.le_of_ble_eq_true rfl⟩ (xce_0 G kp _ _) rfl rfl rfl (Nat.le_of_ble_eq_true rfl) hl.1 hR hS dX10_lay_7 ⟨Nat.le_refl _, Nat.le_refl _⟩ (fun v5 I6 hf H locs hR hS => ?_)
    obtain ⟨h91, h92⟩ := Prod.mk.inj (Option.some.inj hf)
    subst h91
    subst h92
    exact x_iret hC hR hS dX10_lay_10
set_option maxRecDepth 20000 in
theorem M_X10_set (G : XG) (l : Launch) (kp : Bool) {I : xTI} {L : xTL} {x1 : Int32} {x2 : Int32} {r : Int32} {rI : xTI} (hf : F_X10_set I x1 x2 = some (r, rI)) : xMet G l yX10_set cX10_set 4 (some .int) 2 42 kp [.ref (xz G + 0), .int x1, .int x2] I L (some (.int r)) rI L := by
  refine xMet.ofW (by decide +kernel) (Nat.le_of_ble_eq_true rfl) ?_
  intro p e s m args below meth c hC H locs ls hR hS hl
  replace hC : xC G p s m args meth c cX10_set 4 RX10 (some .int) := hC
  replace hl : lv_has ls 4 [(0, .ref (xz G + 0)), (1, .int x1), (2, .int x2)] := hl
  unfold F_X10_set at hf
  refine lv_aload_n hC.1 hC.2.1 dX10_set_0 rfl (lv_at hl 0 rfl) ?_
  refine x_getI hC xf_X10_58 (xce_0 G kp _ _) rfl hR dX10_set_1 hf (fun v1 hf => ?_)
  refine lv_iconst (v := (-1)) hC.1 hC.2.1 dX10_set_4 (by decide) ?_
  refine x_ic_ne (tgt := 15) hC dX10_set_5 (by decide) hf (fun hf => ?_) (fun hf => ?_)
  · refine lv_iload_n hC.1 hC.2.1 dX10_set_15 rfl (lv_at hl 1 rfl) ?_
    refine lv_iconst (v := 0) hC.1 hC.2.1 dX10_set_16 (by decide) ?_
    refine lv_aload_n hC.1 hC.2.1 dX10_set_17 rfl (lv_at hl 0 rfl) ?_
    refine x_getI hC xf_X10_58 (xce_0 G kp _ _) rfl hR dX10_set_18 hf (fun v2 hf => ?_)
    refine lv_iconst (v := 1) hC.1 hC.2.1 dX10_set_21 (by decide) ?_
    refine lv_isub hC.1 hC.2.1 dX10_set_22 ?_
    refine x_csi00 (rest := []) hC xy_X10_isWithin tw_408 hf (fun _ h => M_X10_isWithin G l kp h) ⟨Nat.le_of_ble_eq_true rfl, Nat.le_of_ble_eq_true rfl⟩ rfl rfl (Nat.le_of_ble_eq_true rfl) hl.1 hR hS dX10_set_23 ⟨Nat.le_refl _, Nat.le_refl _⟩ (fun v3 hf H locs hR hS => ?_)
    refine x_if_ne (tgt := 36) hC dX10_set_26 (by decide) hf (fun hf => ?_) (fun hf => ?_)
    · refine lv_aload_n hC.1 hC.2.1 dX10_set_36 rfl (lv_at hl 0 rfl) ?_
      refine x_get (v := .ref (xz G + 55)) hC xf_X10_54 (xce_0 G kp _ _) rfl hR dX10_set_37 ?_
      refine lv_iload_n hC.1 hC.2.1 dX10_set_40 rfl (lv_at hl 1 rfl) ?_
      refine x_ial hC (xce_55 G kp _ _) hR dX10_set_41 hf (fun v4 hf => ?_)
      refine lv_istore_n (lv' := [(3, .int v4), (0, .ref (xz G + 0)), (1, .int x1), (2, .int x2)]) hC.1 hC.2.1 dX10_set_42 rfl hl (Nat.le_of_ble_eq_true rfl) rfl (fun ls hl => ?_)
      refine lv_aload_n hC.1 hC.2.1 dX10_set_43 rfl (lv_at hl 1 rfl) ?_
      refine x_get (v := .ref (xz G + 55)) hC xf_X10_54 (xce_0 G kp _ _) rfl hR dX10_set_44 ?_
      refine lv_iload_n hC.1 hC.2.1 dX10_set_47 rfl (lv_at hl 2 rfl) ?_
      refine lv_iload_n hC.1 hC.2.1 dX10_set_48 rfl (lv_at hl 3 rfl) ?_
      refine x_ias hC (fun f => (xce_55 G kp f _)) hR hS dX10_set_49 hf (fun I5 hf H locs hR hS => ?_)
      refine lv_iload_n hC.1 hC.2.1 dX10_set_50 rfl (lv_at hl 0 rfl) ?_
      refine W.eq (g2 := F0 m 51 ls [.int v4]) rfl ?_
      obtain ⟨h91, h92⟩ := Prod.mk.inj (Option.some.inj hf)
      subst h91
      subst h92
      exact x_iret hC hR hS dX10_set_51
    · refine lv_aload_n hC.1 hC.2.1 dX10_set_29 rfl (lv_at hl 0 rfl) ?_
      refine lv_bipush (v := (-3)) hC.1 hC.2.1 dX10_set_30 (by decide) ?_
      refine x_cvi10 (rest := []) hC xy_X10_refuseAsZero tw_474 hf (fun _ _ h => M_X10_refuseAsZero G l kp h) ⟨Nat.le_of_ble_eq_true rfl, Nat.le_of_ble_eq_true rfl⟩ (xce_0 G kp _ _) rfl rfl rfl (Nat.le_of_ble_eq_true rfl) hl.1 hR hS dX10_set_32 ⟨Nat.le_refl _, Nat.le_refl _⟩ (fun v6 I7 hf H locs hR hS => ?_)
      obtain ⟨h91, h92⟩ := Prod.mk.inj (Option.some.inj hf)
      subst h91
      subst h92
      exact x_iret hC hR hS dX10_set_35
  · refine lv_aload_n hC.1 hC.2.1 dX10_set_8 rfl (lv_at hl 0 rfl) ?_
    refine lv_bipush (v := (-2)) hC.1 hC.2.1 dX10_set_9 (by decide) ?_
    refine x_cvi10 (rest := []) hC xy_X10_refuseAsZero tw_474 hf (fun _ _ h => M_X10_refuseAsZero G l kp h) ⟨Nat.le_of_ble_eq_true rfl, Nat.le_of_ble_eq_true rfl⟩ (xce_0 G kp _ _) rfl rfl rfl (Nat.le_of_ble_eq_true rfl) hl.1 hR hS dX10_set_11 ⟨Nat.le_refl _, Nat.le_refl _⟩ (fun v8 I9 hf H locs hR hS => ?_)
    obtain ⟨h91, h92⟩ := Prod.mk.inj (Option.some.inj hf)
    subst h91
    subst h92
    exact x_iret hC hR hS dX10_set_14
set_option maxRecDepth 20000 in
theorem W_X10_tear_j13 {G : XG} {l : Launch} {kp : Bool} {p : Program} {e : Env} {s : State} {m : MethodId} {args : Array Value} {below : List Frame} {meth : Method} {c : Code} (hC : xC G p s m args meth c cX10_tear 2 RX10 (some .int)) {I : xTI} {L : xTL} {r : Int32} {rI : xTI} {t0 : Int32} (hf : F_X10_tear_j13 I t0 = some (r, rI)) : ∀ (H : Heap) (locs : List Loc) (ls : Array Slot), xRep G kp I L H → xS G s.heap H locs → lv_has ls 2 [(0, .ref (xz G + 0))] → W p l e (xrm 0 0) s m args below meth c H locs 0 0 (xMQ G kp below args s (some (.int r)) rI L) (F0 m 13 ls [.int t0]) := by
  intro H locs ls hR hS hl
  unfold F_X10_tear_j13 at hf
  refine lv_istore_n (lv' := [(1, .int t0), (0, .ref (xz G + 0))]) hC.1 hC.2.1 dX10_tear_13 rfl hl (Nat.le_of_ble_eq_true rfl) rfl (fun ls hl => ?_)
  refine lv_aload_n hC.1 hC.2.1 dX10_tear_14 rfl (lv_at hl 1 rfl) ?_
  refine lv_iconst (v := (-1)) hC.1 hC.2.1 dX10_tear_15 (by decide) ?_
  refine x_putI hC xf_X10_58 xp_10_8 (fun f => (xce_0 G kp f _)) rfl (Nat.le_of_ble_eq_true rfl) hR hS dX10_tear_16 hf (fun I1 hf H locs hR hS => ?_)
  refine lv_iload_n hC.1 hC.2.1 dX10_tear_19 rfl (lv_at hl 0 rfl) ?_
  obtain ⟨h91, h92⟩ := Prod.mk.inj (Option.some.inj hf)
  subst h91
  subst h92
  exact x_iret hC hR hS dX10_tear_20
set_option maxRecDepth 20000 in
theorem M_X10_tear (G : XG) (l : Launch) (kp : Bool) {I : xTI} {L : xTL} {r : Int32} {rI : xTI} (hf : F_X10_tear I = some (r, rI)) : xMet G l yX10_tear cX10_tear 2 (some .int) 0 0 kp [.ref (xz G + 0)] I L (some (.int r)) rI L := by
  refine xMet.ofW (by decide +kernel) (Nat.le_of_ble_eq_true rfl) ?_
  intro p e s m args below meth c hC H locs ls hR hS hl
  replace hC : xC G p s m args meth c cX10_tear 2 RX10 (some .int) := hC
  replace hl : lv_has ls 2 [(0, .ref (xz G + 0))] := hl
  unfold F_X10_tear at hf
  refine lv_aload_n hC.1 hC.2.1 dX10_tear_0 rfl (lv_at hl 0 rfl) ?_
  refine x_getI hC xf_X10_58 (xce_0 G kp _ _) rfl hR dX10_tear_1 hf (fun v1 hf => ?_)
  refine lv_iconst (v := (-1)) hC.1 hC.2.1 dX10_tear_4 (by decide) ?_
  refine x_ic_ne (tgt := 12) hC dX10_tear_5 (by decide) hf (fun hf => ?_) (fun hf => ?_)
  · refine lv_iconst (v := 1) hC.1 hC.2.1 dX10_tear_12 (by decide) ?_
    exact W_X10_tear_j13 hC hf _ _ _ hR hS (lv_sub hl [0] rfl)
  · refine lv_iconst (v := 0) hC.1 hC.2.1 dX10_tear_8 (by decide) ?_
    refine lv_goto (tgt := 13) hC.1 hC.2.1 dX10_tear_9 (by decide) ?_
    exact W_X10_tear_j13 hC hf _ _ _ hR hS (lv_sub hl [0] rfl)
set_option maxRecDepth 20000 in
theorem M_X10_row (G : XG) (l : Launch) (kp : Bool) {I : xTI} {L : xTL} {x1 : Int32} {r : Int32} {rI : xTI} (hf : F_X10_row I x1 = some (r, rI)) : xMet G l yX10_row cX10_row 2 (some .int) 2 42 kp [.ref (xz G + 0), .int x1] I L (some (.int r)) rI L := by
  refine xMet.ofW (by decide +kernel) (Nat.le_of_ble_eq_true rfl) ?_
  intro p e s m args below meth c hC H locs ls hR hS hl
  replace hC : xC G p s m args meth c cX10_row 2 RX10 (some .int) := hC
  replace hl : lv_has ls 2 [(0, .ref (xz G + 0)), (1, .int x1)] := hl
  unfold F_X10_row at hf
  refine lv_aload_n hC.1 hC.2.1 dX10_row_0 rfl (lv_at hl 0 rfl) ?_
  refine x_getI hC xf_X10_58 (xce_0 G kp _ _) rfl hR dX10_row_1 hf (fun v1 hf => ?_)
  refine lv_iconst (v := (-1)) hC.1 hC.2.1 dX10_row_4 (by decide) ?_
  refine x_ic_ne (tgt := 15) hC dX10_row_5 (by decide) hf (fun hf => ?_) (fun hf => ?_)
  · refine lv_iload_n hC.1 hC.2.1 dX10_row_15 rfl (lv_at hl 1 rfl) ?_
    refine lv_iconst (v := 0) hC.1 hC.2.1 dX10_row_16 (by decide) ?_
    refine lv_aload_n hC.1 hC.2.1 dX10_row_17 rfl (lv_at hl 0 rfl) ?_
    refine x_getI hC xf_X10_58 (xce_0 G kp _ _) rfl hR dX10_row_18 hf (fun v2 hf => ?_)
    refine lv_iconst (v := 1) hC.1 hC.2.1 dX10_row_21 (by decide) ?_
    refine lv_isub hC.1 hC.2.1 dX10_row_22 ?_
    refine x_csi00 (rest := []) hC xy_X10_isWithin tw_408 hf (fun _ h => M_X10_isWithin G l kp h) ⟨Nat.le_of_ble_eq_true rfl, Nat.le_of_ble_eq_true rfl⟩ rfl rfl (Nat.le_of_ble_eq_true rfl) hl.1 hR hS dX10_row_23 ⟨Nat.le_refl _, Nat.le_refl _⟩ (fun v3 hf H locs hR hS => ?_)
    refine x_if_eq (tgt := 38) hC dX10_row_26 (by decide) hf (fun hf => ?_) (fun hf => ?_)
    · refine lv_aload_n hC.1 hC.2.1 dX10_row_38 rfl (lv_at hl 0 rfl) ?_
      refine lv_bipush (v := (-3)) hC.1 hC.2.1 dX10_row_39 (by decide) ?_
      refine x_cvi10 (rest := []) hC xy_X10_refuseAsZero tw_474 hf (fun _ _ h => M_X10_refuseAsZero G l kp h) ⟨Nat.le_of_ble_eq_true rfl, Nat.le_of_ble_eq_true rfl⟩ (xce_0 G kp _ _) rfl rfl rfl (Nat.le_of_ble_eq_true rfl) hl.1 hR hS dX10_row_41 ⟨Nat.le_refl _, Nat.le_refl _⟩ (fun v4 I5 hf H locs hR hS => ?_)
      obtain ⟨h91, h92⟩ := Prod.mk.inj (Option.some.inj hf)
      subst h91
      subst h92
      exact x_iret hC hR hS dX10_row_44
    · refine lv_aload_n hC.1 hC.2.1 dX10_row_29 rfl (lv_at hl 0 rfl) ?_
      refine x_get (v := .ref (xz G + 55)) hC xf_X10_54 (xce_0 G kp _ _) rfl hR dX10_row_30 ?_
      refine lv_iload_n hC.1 hC.2.1 dX10_row_33 rfl (lv_at hl 1 rfl) ?_
      refine x_ial hC (xce_55 G kp _ _) hR dX10_row_34 hf (fun v6 hf => ?_)
      refine lv_goto (tgt := 44) hC.1 hC.2.1 dX10_row_35 (by decide) ?_
      obtain ⟨h91, h92⟩ := Prod.mk.inj (Option.some.inj hf)
      subst h91
      subst h92
      exact x_iret hC hR hS dX10_row_44
  · refine lv_aload_n hC.1 hC.2.1 dX10_row_8 rfl (lv_at hl 0 rfl) ?_
    refine lv_bipush (v := (-2)) hC.1 hC.2.1 dX10_row_9 (by decide) ?_
    refine x_cvi10 (rest := []) hC xy_X10_refuseAsZero tw_474 hf (fun _ _ h => M_X10_refuseAsZero G l kp h) ⟨Nat.le_of_ble_eq_true rfl, Nat.le_of_ble_eq_true rfl⟩ (xce_0 G kp _ _) rfl rfl rfl (Nat.le_of_ble_eq_true rfl) hl.1 hR hS dX10_row_11 ⟨Nat.le_refl _, Nat.le_refl _⟩ (fun v7 I8 hf H locs hR hS => ?_)
    obtain ⟨h91, h92⟩ := Prod.mk.inj (Option.some.inj hf)
    subst h91
    subst h92
    exact x_iret hC hR hS dX10_row_14
set_option maxRecDepth 20000 in
theorem W_X10_copy_j54 {G : XG} {l : Launch} {kp : Bool} {p : Program} {e : Env} {s : State} {m : MethodId} {args : Array Value} {below : List Frame} {meth : Method} {c : Code} (hC : xC G p s m args meth c cX10_copy 5 RX10 (some .int)) {I : xTI} {L : xTL} {r : Int32} {rI : xTI} (hf : F_X10_copy_j54 I = some (r, rI)) : ∀ (H : Heap) (locs : List Loc) (ls : Array Slot), xRep G kp I L H → xS G s.heap H locs → lv_has ls 5 [(0, .ref (xz G + 0))] → W p l e (xrm 1 119) s m args below meth c H locs 0 0 (xMQ G kp below args s (some (.int r)) rI L) (F0 m 54 ls []) := by
  intro H locs ls hR hS hl
  unfold F_X10_copy_j54 at hf
  refine lv_aload_n hC.1 hC.2.1 dX10_copy_54 rfl (lv_at hl 0 rfl) ?_
  refine lv_bipush (v := (-6)) hC.1 hC.2.1 dX10_copy_55 (by decide) ?_
  refine x_cvi10 (rest := []) hC xy_X10_refuse tw_411 hf (fun _ _ h => M_X10_refuse G l kp h) ⟨Nat.le_of_ble_eq_true rfl, Nat.le_of_ble_eq_true rfl⟩ (xce_0 G kp _ _) rfl rfl rfl (Nat.le_of_ble_eq_true rfl) hl.1 hR hS dX10_copy_57 ⟨Nat.le_refl _, Nat.le_refl _⟩ (fun v1 I2 hf H locs hR hS => ?_)
  obtain ⟨h91, h92⟩ := Prod.mk.inj (Option.some.inj hf)
  subst h91
  subst h92
  exact x_iret hC hR hS dX10_copy_60
set_option maxRecDepth 20000 in
theorem M_X10_copy (G : XG) (l : Launch) (kp : Bool) {I : xTI} {L : xTL} {x1 : Int32} {x2 : Int32} {x3 : Int32} {r : Int32} {rI : xTI} (hf : F_X10_copy I x1 x2 x3 = some (r, rI)) : xMet G l yX10_copy cX10_copy 5 (some .int) 1 119 kp [.ref (xz G + 0), .int x1, .int x2, .int x3] I L (some (.int r)) rI L := by
  refine xMet.ofW (by decide +kernel) (Nat.le_of_ble_eq_true rfl) ?_
  intro p e s m args below meth c hC H locs ls hR hS hl
  replace hC : xC G p s m args meth c cX10_copy 5 RX10 (some .int) := hC
  replace hl : lv_has ls 5 [(0, .ref (xz G + 0)), (1, .int x1), (2, .int x2), (3, .int x3)] := hl
  unfold F_X10_copy at hf
  refine lv_aload_n hC.1 hC.2.1 dX10_copy_0 rfl (lv_at hl 0 rfl) ?_
  refine x_getI hC xf_X10_58 (xce_0 G kp _ _) rfl hR dX10_copy_1 hf (fun v1 hf => ?_)
  refine lv_iconst (v := (-1)) hC.1 hC.2.1 dX10_copy_4 (by decide) ?_
  refine x_ic_ne (tgt := 15) hC dX10_copy_5 (by decide) hf (fun hf => ?_) (fun hf => ?_)
  · refine lv_iload_n hC.1 hC.2.1 dX10_copy_15 rfl (lv_at hl 3 rfl) ?_
    refine x_if_ge (tgt := 26) hC dX10_copy_16 (by decide) hf (fun hf => ?_) (fun hf => ?_)
    · refine lv_aload_n hC.1 hC.2.1 dX10_copy_26 rfl (lv_at hl 0 rfl) ?_
      refine x_getI hC xf_X10_58 (xce_0 G kp _ _) rfl hR dX10_copy_27 hf (fun v2 hf => ?_)
      refine lv_iload_n hC.1 hC.2.1 dX10_copy_30 rfl (lv_at hl 3 rfl) ?_
      refine lv_isub hC.1 hC.2.1 dX10_copy_31 ?_
      refine x_ist (lv' := fun y3 => [(4, .int y3), (0, .ref (xz G + 0)), (1, .int x1), (2, .int x2), (3, .int x3)]) hC hl dX10_copy_32 (Nat.le_of_ble_eq_true rfl) hf (fun _ => rfl) (fun y3 hf ls hl => ?_)
      refine lv_iload_n hC.1 hC.2.1 dX10_copy_34 rfl (lv_at hl 2 rfl) ?_
      refine lv_iconst (v := 0) hC.1 hC.2.1 dX10_copy_35 (by decide) ?_
      refine lv_iload hC.1 hC.2.1 dX10_copy_36 (lv_at hl 0 rfl) ?_
      refine x_csi00 (rest := []) hC xy_X10_isWithin tw_408 hf (fun _ h => M_X10_isWithin G l kp h) ⟨Nat.le_of_ble_eq_true rfl, Nat.le_of_ble_eq_true rfl⟩ rfl rfl (Nat.le_of_ble_eq_true rfl) hl.1 hR hS dX10_copy_38 ⟨Nat.le_refl _, Nat.le_refl _⟩ (fun v4 hf H locs hR hS => ?_)
      refine x_if_eq (tgt := 54) hC dX10_copy_41 (by decide) hf (fun hf => ?_) (fun hf => ?_)
      · exact W_X10_copy_j54 hC hf _ _ _ hR hS (lv_sub hl [1] rfl)
      · refine lv_iload_n hC.1 hC.2.1 dX10_copy_44 rfl (lv_at hl 3 rfl) ?_
        refine lv_iconst (v := 0) hC.1 hC.2.1 dX10_copy_45 (by decide) ?_
        refine lv_iload hC.1 hC.2.1 dX10_copy_46 (lv_at hl 0 rfl) ?_
        refine x_csi00 (rest := []) hC xy_X10_isWithin tw_408 hf (fun _ h => M_X10_isWithin G l kp h) ⟨Nat.le_of_ble_eq_true rfl, Nat.le_of_ble_eq_true rfl⟩ rfl rfl (Nat.le_of_ble_eq_true rfl) hl.1 hR hS dX10_copy_48 ⟨Nat.le_refl _, Nat.le_refl _⟩ (fun v5 hf H locs hR hS => ?_)
        refine x_if_ne (tgt := 61) hC dX10_copy_51 (by decide) hf (fun hf => ?_) (fun hf => ?_)
        · refine lv_aload_n hC.1 hC.2.1 dX10_copy_61 rfl (lv_at hl 1 rfl) ?_
          refine x_get (v := .ref (xz G + 55)) hC xf_X10_54 (xce_0 G kp _ _) rfl hR dX10_copy_62 ?_
          refine lv_iload_n hC.1 hC.2.1 dX10_copy_65 rfl (lv_at hl 2 rfl) ?_
          refine lv_aload_n hC.1 hC.2.1 dX10_copy_66 rfl (lv_at hl 1 rfl) ?_
          refine x_get (v := .ref (xz G + 55)) hC xf_X10_54 (xce_0 G kp _ _) rfl hR dX10_copy_67 ?_
          refine lv_iload_n hC.1 hC.2.1 dX10_copy_70 rfl (lv_at hl 3 rfl) ?_
          refine lv_iload_n hC.1 hC.2.1 dX10_copy_71 rfl (lv_at hl 4 rfl) ?_
          refine x_cpi (rest := []) hC tw_1174 (xce_55 G kp _ _) (fun f => (xce_55 G kp f _)) hl.1 hR hS (Nat.le_of_ble_eq_true rfl) (Nat.le_of_ble_eq_true rfl) dX10_copy_72 hf (fun I6 hf H locs hR hS => ?_)
          refine lv_iload_n hC.1 hC.2.1 dX10_copy_75 rfl (lv_at hl 4 rfl) ?_
          obtain ⟨h91, h92⟩ := Prod.mk.inj (Option.some.inj hf)
          subst h91
          subst h92
          exact x_iret hC hR hS dX10_copy_76
        · exact W_X10_copy_j54 hC hf _ _ _ hR hS (lv_sub hl [1] rfl)
    · refine lv_aload_n hC.1 hC.2.1 dX10_copy_19 rfl (lv_at hl 0 rfl) ?_
      refine lv_bipush (v := (-4)) hC.1 hC.2.1 dX10_copy_20 (by decide) ?_
      refine x_cvi10 (rest := []) hC xy_X10_refuse tw_411 hf (fun _ _ h => M_X10_refuse G l kp h) ⟨Nat.le_of_ble_eq_true rfl, Nat.le_of_ble_eq_true rfl⟩ (xce_0 G kp _ _) rfl rfl rfl (Nat.le_of_ble_eq_true rfl) hl.1 hR hS dX10_copy_22 ⟨Nat.le_refl _, Nat.le_refl _⟩ (fun v7 I8 hf H locs hR hS => ?_)
      obtain ⟨h91, h92⟩ := Prod.mk.inj (Option.some.inj hf)
      subst h91
      subst h92
      exact x_iret hC hR hS dX10_copy_25
  · refine lv_aload_n hC.1 hC.2.1 dX10_copy_8 rfl (lv_at hl 0 rfl) ?_
    refine lv_bipush (v := (-2)) hC.1 hC.2.1 dX10_copy_9 (by decide) ?_
    refine x_cvi10 (rest := []) hC xy_X10_refuse tw_411 hf (fun _ _ h => M_X10_refuse G l kp h) ⟨Nat.le_of_ble_eq_true rfl, Nat.le_of_ble_eq_true rfl⟩ (xce_0 G kp _ _) rfl rfl rfl (Nat.le_of_ble_eq_true rfl) hl.1 hR hS dX10_copy_11 ⟨Nat.le_refl _, Nat.le_refl _⟩ (fun v9 I10 hf H locs hR hS => ?_)
    obtain ⟨h91, h92⟩ := Prod.mk.inj (Option.some.inj hf)
    subst h91
    subst h92
    exact x_iret hC hR hS dX10_copy_14
set_option maxRecDepth 20000 in
theorem M_X10_status (G : XG) (l : Launch) (kp : Bool) {I : xTI} {L : xTL} {x1 : Int32} {r : Int32} {rI : xTI} (hf : F_X10_status I x1 = some (r, rI)) : xMet G l yX10_status cX10_status 2 (some .int) 1 22 kp [.ref (xz G + 0), .int x1] I L (some (.int r)) rI L := by
  refine xMet.ofW (by decide +kernel) (Nat.le_of_ble_eq_true rfl) ?_
  intro p e s m args below meth c hC H locs ls hR hS hl
  replace hC : xC G p s m args meth c cX10_status 2 RX10 (some .int) := hC
  replace hl : lv_has ls 2 [(0, .ref (xz G + 0)), (1, .int x1)] := hl
  unfold F_X10_status at hf
  refine lv_iload_n hC.1 hC.2.1 dX10_status_0 rfl (lv_at hl 1 rfl) ?_
  refine lv_bipush (v := (-8)) hC.1 hC.2.1 dX10_status_1 (by decide) ?_
  refine lv_bipush (v := (-2)) hC.1 hC.2.1 dX10_status_3 (by decide) ?_
  refine x_csi00 (rest := []) hC xy_X10_isWithin tw_408 hf (fun _ h => M_X10_isWithin G l kp h) ⟨Nat.le_of_ble_eq_true rfl, Nat.le_of_ble_eq_true rfl⟩ rfl rfl (Nat.le_of_ble_eq_true rfl) hl.1 hR hS dX10_status_5 ⟨Nat.le_refl _, Nat.le_refl _⟩ (fun v1 hf H locs hR hS => ?_)
  refine x_if_eq (tgt := 21) hC dX10_status_8 (by decide) hf (fun hf => ?_) (fun hf => ?_)
  · refine lv_aload_n hC.1 hC.2.1 dX10_status_21 rfl (lv_at hl 0 rfl) ?_
    refine lv_bipush (v := (-7)) hC.1 hC.2.1 dX10_status_22 (by decide) ?_
    refine x_cvi10 (rest := []) hC xy_X10_refuse tw_411 hf (fun _ _ h => M_X10_refuse G l kp h) ⟨Nat.le_of_ble_eq_true rfl, Nat.le_of_ble_eq_true rfl⟩ (xce_0 G kp _ _) rfl rfl rfl (Nat.le_of_ble_eq_true rfl) hl.1 hR hS dX10_status_24 ⟨Nat.le_refl _, Nat.le_refl _⟩ (fun v2 I3 hf H locs hR hS => ?_)
    obtain ⟨h91, h92⟩ := Prod.mk.inj (Option.some.inj hf)
    subst h91
    subst h92
    exact x_iret hC hR hS dX10_status_27
  · refine lv_aload_n hC.1 hC.2.1 dX10_status_11 rfl (lv_at hl 0 rfl) ?_
    refine x_get (v := .ref (xz G + 56)) hC xf_X10_62 (xce_0 G kp _ _) rfl hR dX10_status_12 ?_
    refine lv_iload_n hC.1 hC.2.1 dX10_status_15 rfl (lv_at hl 1 rfl) ?_
    refine lv_ineg hC.1 hC.2.1 dX10_status_16 ?_
    refine x_ial hC (xce_56 G kp _ _) hR dX10_status_17 hf (fun v4 hf => ?_)
    refine lv_goto (tgt := 27) hC.1 hC.2.1 dX10_status_18 (by decide) ?_
    obtain ⟨h91, h92⟩ := Prod.mk.inj (Option.some.inj hf)
    subst h91
    subst h92
    exact x_iret hC hR hS dX10_status_27
set_option maxRecDepth 20000 in
theorem M_X11_in (G : XG) (l : Launch) (kp : Bool) {I : xTI} {L : xTL} {x0 : Int32} {x1 : Int32} {x2 : Int32} {r : Int32} (hf : F_X11_in x0 x1 x2 = some r) : xMet G l yX11_in cX11_in 3 (some .boolean) 0 0 kp [.int x0, .int x1, .int x2] I L (some (.int r)) I L := by
  refine xMet.ofW (by decide +kernel) (Nat.le_of_ble_eq_true rfl) ?_
  intro p e s m args below meth c hC H locs ls hR hS hl
  replace hC : xC G p s m args meth c cX11_in 3 RX11 (some .boolean) := hC
  replace hl : lv_has ls 3 [(0, .int x0), (1, .int x1), (2, .int x2)] := hl
  unfold F_X11_in at hf
  refine lv_iload_n hC.1 hC.2.1 dX11_in_0 rfl (lv_at hl 0 rfl) ?_
  refine lv_iload_n hC.1 hC.2.1 dX11_in_1 rfl (lv_at hl 1 rfl) ?_
  refine x_ic_lt (tgt := 14) hC dX11_in_2 (by decide) hf (fun hf => ?_) (fun hf => ?_)
  · refine lv_iconst (v := 0) hC.1 hC.2.1 dX11_in_14 (by decide) ?_
    obtain ⟨h01, hf⟩ := xzc_some hf
    have h9 := Option.some.inj hf
    subst h9
    exact x_zret h01 hC hR hS dX11_in_15
  · refine lv_iload_n hC.1 hC.2.1 dX11_in_5 rfl (lv_at hl 0 rfl) ?_
    refine lv_iload_n hC.1 hC.2.1 dX11_in_6 rfl (lv_at hl 2 rfl) ?_
    refine x_ic_gt (tgt := 14) hC dX11_in_7 (by decide) hf (fun hf => ?_) (fun hf => ?_)
    · refine lv_iconst (v := 0) hC.1 hC.2.1 dX11_in_14 (by decide) ?_
      obtain ⟨h01, hf⟩ := xzc_some hf
      have h9 := Option.some.inj hf
      subst h9
      exact x_zret h01 hC hR hS dX11_in_15
    · refine lv_iconst (v := 1) hC.1 hC.2.1 dX11_in_10 (by decide) ?_
      refine lv_goto (tgt := 15) hC.1 hC.2.1 dX11_in_11 (by decide) ?_
      obtain ⟨h01, hf⟩ := xzc_some hf
      have h9 := Option.some.inj hf
      subst h9
      exact x_zret h01 hC hR hS dX11_in_15
set_option maxRecDepth 20000 in
theorem M_X11_refuse (G : XG) (l : Launch) (kp : Bool) {I : xTI} {L : xTL} {x1 : Int32} {r : Int32} {rI : xTI} (hf : F_X11_refuse I x1 = some (r, rI)) : xMet G l yX11_refuse cX11_refuse 2 (some .int) 0 0 kp [.ref (xz G + 57), .int x1] I L (some (.int r)) rI L := by
  refine xMet.ofW (by decide +kernel) (Nat.le_of_ble_eq_true rfl) ?_
  intro p e s m args below meth c hC H locs ls hR hS hl
  replace hC : xC G p s m args meth c cX11_refuse 2 RX11 (some .int) := hC
  replace hl : lv_has ls 2 [(0, .ref (xz G + 57)), (1, .int x1)] := hl
  unfold F_X11_refuse at hf
  refine lv_aload_n hC.1 hC.2.1 dX11_refuse_0 rfl (lv_at hl 0 rfl) ?_
  refine x_get (v := .ref (xz G + 60)) hC xf_X11_22 (xce_57 G kp _ _) rfl hR dX11_refuse_1 ?_
  refine lv_iload_n hC.1 hC.2.1 dX11_refuse_4 rfl (lv_at hl 1 rfl) ?_
  refine lv_ineg hC.1 hC.2.1 dX11_refuse_5 ?_
  refine lv_dup2_11 hC.1 hC.2.1 dX11_refuse_6 rfl rfl ?_
  refine x_ial hC (xce_60 G kp _ _) hR dX11_refuse_7 hf (fun v1 hf => ?_)
  refine lv_iconst (v := 1) hC.1 hC.2.1 dX11_refuse_8 (by decide) ?_
  refine lv_iadd hC.1 hC.2.1 dX11_refuse_9 ?_
  refine x_ias hC (fun f => (xce_60 G kp f _)) hR hS dX11_refuse_10 hf (fun I2 hf H locs hR hS => ?_)
  refine lv_iload_n hC.1 hC.2.1 dX11_refuse_11 rfl (lv_at hl 1 rfl) ?_
  obtain ⟨h91, h92⟩ := Prod.mk.inj (Option.some.inj hf)
  subst h91
  subst h92
  exact x_iret hC hR hS dX11_refuse_12
set_option maxRecDepth 20000 in
theorem M_X11_status (G : XG) (l : Launch) (kp : Bool) {I : xTI} {L : xTL} {x1 : Int32} {r : Int32} {rI : xTI} (hf : F_X11_status I x1 = some (r, rI)) : xMet G l yX11_status cX11_status 2 (some .int) 1 22 kp [.ref (xz G + 57), .int x1] I L (some (.int r)) rI L := by
  refine xMet.ofW (by decide +kernel) (Nat.le_of_ble_eq_true rfl) ?_
  intro p e s m args below meth c hC H locs ls hR hS hl
  replace hC : xC G p s m args meth c cX11_status 2 RX11 (some .int) := hC
  replace hl : lv_has ls 2 [(0, .ref (xz G + 57)), (1, .int x1)] := hl
  unfold F_X11_status at hf
  refine lv_iload_n hC.1 hC.2.1 dX11_status_0 rfl (lv_at hl 1 rfl) ?_
  refine lv_bipush (v := (-8)) hC.1 hC.2.1 dX11_status_1 (by decide) ?_
  refine lv_bipush (v := (-2)) hC.1 hC.2.1 dX11_status_3 (by decide) ?_
  refine x_csi00 (rest := []) hC xy_X11_in tw_1335 hf (fun _ h => M_X11_in G l kp h) ⟨Nat.le_of_ble_eq_true rfl, Nat.le_of_ble_eq_true rfl⟩ rfl rfl (Nat.le_of_ble_eq_true rfl) hl.1 hR hS dX11_status_5 ⟨Nat.le_refl _, Nat.le_refl _⟩ (fun v1 hf H locs hR hS => ?_)
  refine x_if_eq (tgt := 21) hC dX11_status_8 (by decide) hf (fun hf => ?_) (fun hf => ?_)
  · refine lv_aload_n hC.1 hC.2.1 dX11_status_21 rfl (lv_at hl 0 rfl) ?_
    refine lv_bipush (v := (-7)) hC.1 hC.2.1 dX11_status_22 (by decide) ?_
    refine x_cvi10 (rest := []) hC xy_X11_refuse tw_1338 hf (fun _ _ h => M_X11_refuse G l kp h) ⟨Nat.le_of_ble_eq_true rfl, Nat.le_of_ble_eq_true rfl⟩ (xce_57 G kp _ _) rfl rfl rfl (Nat.le_of_ble_eq_true rfl) hl.1 hR hS dX11_status_24 ⟨Nat.le_refl _, Nat.le_refl _⟩ (fun v2 I3 hf H locs hR hS => ?_)
    obtain ⟨h91, h92⟩ := Prod.mk.inj (Option.some.inj hf)
    subst h91
    subst h92
    exact x_iret hC hR hS dX11_status_27
  · refine lv_aload_n hC.1 hC.2.1 dX11_status_11 rfl (lv_at hl 0 rfl) ?_
    refine x_get (v := .ref (xz G + 60)) hC xf_X11_22 (xce_57 G kp _ _) rfl hR dX11_status_12 ?_
    refine lv_iload_n hC.1 hC.2.1 dX11_status_15 rfl (lv_at hl 1 rfl) ?_
    refine lv_ineg hC.1 hC.2.1 dX11_status_16 ?_
    refine x_ial hC (xce_60 G kp _ _) hR dX11_status_17 hf (fun v4 hf => ?_)
    refine lv_goto (tgt := 27) hC.1 hC.2.1 dX11_status_18 (by decide) ?_
    obtain ⟨h91, h92⟩ := Prod.mk.inj (Option.some.inj hf)
    subst h91
    subst h92
    exact x_iret hC hR hS dX11_status_27
set_option maxRecDepth 20000 in
theorem W_X11_man_j20 {G : XG} {l : Launch} {kp : Bool} {p : Program} {e : Env} {s : State} {m : MethodId} {args : Array Value} {below : List Frame} {meth : Method} {c : Code} (hC : xC G p s m args meth c cX11_man 4 RX11 (some .int)) {I : xTI} {L : xTL} {r : Int32} {rI : xTI} {rL : xTL} (hf : F_X11_man_j20 I L = some (r, rI, rL)) : ∀ (H : Heap) (locs : List Loc) (ls : Array Slot), xRep G kp I L H → xS G s.heap H locs → lv_has ls 4 [(0, .ref (xz G + 57))] → W p l e (xrm 1 22) s m args below meth c H locs 0 0 (xMQ G kp below args s (some (.int r)) rI rL) (F0 m 20 ls []) := by
  intro H locs ls hR hS hl
  unfold F_X11_man_j20 at hf
  refine lv_aload_n hC.1 hC.2.1 dX11_man_20 rfl (lv_at hl 0 rfl) ?_
  refine lv_bipush (v := (-7)) hC.1 hC.2.1 dX11_man_21 (by decide) ?_
  refine x_cvi10 (rest := []) hC xy_X11_refuse tw_1338 hf (fun _ _ h => M_X11_refuse G l kp h) ⟨Nat.le_of_ble_eq_true rfl, Nat.le_of_ble_eq_true rfl⟩ (xce_57 G kp _ _) rfl rfl rfl (Nat.le_of_ble_eq_true rfl) hl.1 hR hS dX11_man_23 ⟨Nat.le_refl _, Nat.le_refl _⟩ (fun v1 I2 hf H locs hR hS => ?_)
  obtain ⟨h91, h90⟩ := Prod.mk.inj (Option.some.inj hf)
  obtain ⟨h92, h93⟩ := Prod.mk.inj h90
  subst h91
  subst h92
  subst h93
  exact x_iret hC hR hS dX11_man_26
set_option maxRecDepth 20000 in
theorem M_X11_man (G : XG) (l : Launch) (kp : Bool) {I : xTI} {L : xTL} {x1 : Int32} {x2 : Int32} {r : Int32} {rI : xTI} {rL : xTL} (hf : F_X11_man I L x1 x2 = some (r, rI, rL)) : xMet G l yX11_man cX11_man 4 (some .int) 1 22 kp [.ref (xz G + 57), .int x1, .int x2] I L (some (.int r)) rI rL := by
  refine xMet.ofW (by decide +kernel) (Nat.le_of_ble_eq_true rfl) ?_
  intro p e s m args below meth c hC H locs ls hR hS hl
  replace hC : xC G p s m args meth c cX11_man 4 RX11 (some .int) := hC
  replace hl : lv_has ls 4 [(0, .ref (xz G + 57)), (1, .int x1), (2, .int x2)] := hl
  unfold F_X11_man at hf
  refine lv_iload_n hC.1 hC.2.1 dX11_man_0 rfl (lv_at hl 1 rfl) ?_
  refine lv_iconst (v := 0) hC.1 hC.2.1 dX11_man_1 (by decide) ?_
  refine x_ldc (v := 100000000) hC tw_1346 dX11_man_2 ?_
  refine x_csi00 (rest := []) hC xy_X11_in tw_1335 hf (fun _ h => M_X11_in G l kp h) ⟨Nat.le_of_ble_eq_true rfl, Nat.le_of_ble_eq_true rfl⟩ rfl rfl (Nat.le_of_ble_eq_true rfl) hl.1 hR hS dX11_man_4 ⟨Nat.le_refl _, Nat.le_refl _⟩ (fun v1 hf H locs hR hS => ?_)
  refine x_if_eq (tgt := 20) hC dX11_man_7 (by decide) hf (fun hf => ?_) (fun hf => ?_)
  · exact W_X11_man_j20 hC hf _ _ _ hR hS (lv_sub hl [0] rfl)
  · refine lv_iload_n hC.1 hC.2.1 dX11_man_10 rfl (lv_at hl 2 rfl) ?_
    refine lv_iconst (v := 0) hC.1 hC.2.1 dX11_man_11 (by decide) ?_
    refine lv_bipush (v := 99) hC.1 hC.2.1 dX11_man_12 (by decide) ?_
    refine x_csi00 (rest := []) hC xy_X11_in tw_1335 hf (fun _ h => M_X11_in G l kp h) ⟨Nat.le_of_ble_eq_true rfl, Nat.le_of_ble_eq_true rfl⟩ rfl rfl (Nat.le_of_ble_eq_true rfl) hl.1 hR hS dX11_man_14 ⟨Nat.le_refl _, Nat.le_refl _⟩ (fun v2 hf H locs hR hS => ?_)
    refine x_if_ne (tgt := 27) hC dX11_man_17 (by decide) hf (fun hf => ?_) (fun hf => ?_)
    · refine lv_aload_n hC.1 hC.2.1 dX11_man_27 rfl (lv_at hl 0 rfl) ?_
      refine x_get (v := .ref (xz G + 58)) hC xf_X11_14 (xce_57 G kp _ _) rfl hR dX11_man_28 ?_
      refine lv_iconst (v := 1) hC.1 hC.2.1 dX11_man_31 (by decide) ?_
      refine x_ial hC (xce_58 G kp _ _) hR dX11_man_32 hf (fun v3 hf => ?_)
      refine lv_bipush (v := 12) hC.1 hC.2.1 dX11_man_33 (by decide) ?_
      refine x_ic_ne (tgt := 45) hC dX11_man_35 (by decide) hf (fun hf => ?_) (fun hf => ?_)
      · refine lv_aload_n hC.1 hC.2.1 dX11_man_45 rfl (lv_at hl 0 rfl) ?_
        refine x_get (v := .ref (xz G + 58)) hC xf_X11_14 (xce_57 G kp _ _) rfl hR dX11_man_46 ?_
        refine lv_iconst (v := 1) hC.1 hC.2.1 dX11_man_49 (by decide) ?_
        refine x_ial hC (xce_58 G kp _ _) hR dX11_man_50 hf (fun v4 hf => ?_)
        refine lv_istore_n (lv' := [(3, .int v4), (0, .ref (xz G + 57)), (1, .int x1), (2, .int x2)]) hC.1 hC.2.1 dX11_man_51 rfl hl (Nat.le_of_ble_eq_true rfl) rfl (fun ls hl => ?_)
        refine lv_aload_n hC.1 hC.2.1 dX11_man_52 rfl (lv_at hl 1 rfl) ?_
        refine x_get (v := .ref (xz G + 58)) hC xf_X11_14 (xce_57 G kp _ _) rfl hR dX11_man_53 ?_
        refine lv_bipush (v := 16) hC.1 hC.2.1 dX11_man_56 (by decide) ?_
        refine lv_iconst (v := 4) hC.1 hC.2.1 dX11_man_58 (by decide) ?_
        refine lv_iload_n hC.1 hC.2.1 dX11_man_59 rfl (lv_at hl 0 rfl) ?_
        refine lv_imul hC.1 hC.2.1 dX11_man_60 ?_
        refine W.eq (g2 := F0 m 61 ls [.int (4 * v4), .int 16, .ref (xz G + 58)]) rfl ?_
        refine lv_iadd hC.1 hC.2.1 dX11_man_61 ?_
        refine lv_iconst (v := 1) hC.1 hC.2.1 dX11_man_62 (by decide) ?_
        refine x_ias hC (fun f => (xce_58 G kp f _)) hR hS dX11_man_63 hf (fun I5 hf H locs hR hS => ?_)
        refine lv_aload_n hC.1 hC.2.1 dX11_man_64 rfl (lv_at hl 1 rfl) ?_
        refine x_get (v := .ref (xz G + 58)) hC xf_X11_14 (xce_57 G kp _ _) rfl hR dX11_man_65 ?_
        refine lv_bipush (v := 16) hC.1 hC.2.1 dX11_man_68 (by decide) ?_
        refine lv_iconst (v := 4) hC.1 hC.2.1 dX11_man_70 (by decide) ?_
        refine lv_iload_n hC.1 hC.2.1 dX11_man_71 rfl (lv_at hl 0 rfl) ?_
        refine lv_imul hC.1 hC.2.1 dX11_man_72 ?_
        refine lv_iadd hC.1 hC.2.1 dX11_man_73 ?_
        refine lv_iconst (v := 1) hC.1 hC.2.1 dX11_man_74 (by decide) ?_
        refine lv_iadd hC.1 hC.2.1 dX11_man_75 ?_
        refine W.eq (g2 := F0 m 76 ls [.int ((16 + (4 * v4)) + 1), .ref (xz G + 58)]) rfl ?_
        refine lv_iload_n hC.1 hC.2.1 dX11_man_76 rfl (lv_at hl 3 rfl) ?_
        refine x_ias hC (fun f => (xce_58 G kp f _)) hR hS dX11_man_77 hf (fun I6 hf H locs hR hS => ?_)
        refine lv_aload_n hC.1 hC.2.1 dX11_man_78 rfl (lv_at hl 1 rfl) ?_
        refine x_get (v := .ref (xz G + 58)) hC xf_X11_14 (xce_57 G kp _ _) rfl hR dX11_man_79 ?_
        refine lv_bipush (v := 16) hC.1 hC.2.1 dX11_man_82 (by decide) ?_
        refine lv_iconst (v := 4) hC.1 hC.2.1 dX11_man_84 (by decide) ?_
        refine lv_iload_n hC.1 hC.2.1 dX11_man_85 rfl (lv_at hl 0 rfl) ?_
        refine lv_imul hC.1 hC.2.1 dX11_man_86 ?_
        refine lv_iadd hC.1 hC.2.1 dX11_man_87 ?_
        refine lv_iconst (v := 2) hC.1 hC.2.1 dX11_man_88 (by decide) ?_
        refine lv_iadd hC.1 hC.2.1 dX11_man_89 ?_
        refine lv_iconst (v := (-1)) hC.1 hC.2.1 dX11_man_90 (by decide) ?_
        refine W.eq (g2 := F0 m 91 ls [.int (-1), .int ((16 + (4 * v4)) + 2), .ref (xz G + 58)]) rfl ?_
        refine x_ias hC (fun f => (xce_58 G kp f _)) hR hS dX11_man_91 hf (fun I7 hf H locs hR hS => ?_)
        refine lv_aload_n hC.1 hC.2.1 dX11_man_92 rfl (lv_at hl 1 rfl) ?_
        refine x_get (v := .ref (xz G + 58)) hC xf_X11_14 (xce_57 G kp _ _) rfl hR dX11_man_93 ?_
        refine lv_bipush (v := 16) hC.1 hC.2.1 dX11_man_96 (by decide) ?_
        refine lv_iconst (v := 4) hC.1 hC.2.1 dX11_man_98 (by decide) ?_
        refine lv_iload_n hC.1 hC.2.1 dX11_man_99 rfl (lv_at hl 0 rfl) ?_
        refine lv_imul hC.1 hC.2.1 dX11_man_100 ?_
        refine lv_iadd hC.1 hC.2.1 dX11_man_101 ?_
        refine lv_iconst (v := 3) hC.1 hC.2.1 dX11_man_102 (by decide) ?_
        refine lv_iadd hC.1 hC.2.1 dX11_man_103 ?_
        refine lv_iconst (v := 0) hC.1 hC.2.1 dX11_man_104 (by decide) ?_
        refine x_ias hC (fun f => (xce_58 G kp f _)) hR hS dX11_man_105 hf (fun I8 hf H locs hR hS => ?_)
        refine W.eq (g2 := F0 m 106 ls []) rfl ?_
        refine lv_aload_n hC.1 hC.2.1 dX11_man_106 rfl (lv_at hl 1 rfl) ?_
        refine x_get (v := .ref (xz G + 59)) hC xf_X11_18 (xce_57 G kp _ _) rfl hR dX11_man_107 ?_
        refine lv_iconst (v := 0) hC.1 hC.2.1 dX11_man_110 (by decide) ?_
        refine lv_iload_n hC.1 hC.2.1 dX11_man_111 rfl (lv_at hl 0 rfl) ?_
        refine lv_iadd hC.1 hC.2.1 dX11_man_112 ?_
        refine lv_iload_n hC.1 hC.2.1 dX11_man_113 rfl (lv_at hl 2 rfl) ?_
        refine lv_i2l hC.1 hC.2.1 dX11_man_114 rfl ?_
        refine x_las hC (fun f => (xce_59 G kp _ f)) hR hS dX11_man_115 hf (fun L9 hf H locs hR hS => ?_)
        refine lv_aload_n hC.1 hC.2.1 dX11_man_116 rfl (lv_at hl 1 rfl) ?_
        refine x_get (v := .ref (xz G + 58)) hC xf_X11_14 (xce_57 G kp _ _) rfl hR dX11_man_117 ?_
        refine lv_iconst (v := 1) hC.1 hC.2.1 dX11_man_120 (by decide) ?_
        refine lv_dup2_11 hC.1 hC.2.1 dX11_man_121 rfl rfl ?_
        refine W.eq (g2 := F0 m 122 ls [.int 1, .ref (xz G + 58), .int 1, .ref (xz G + 58)]) rfl ?_
        refine x_ial hC (xce_58 G kp _ _) hR dX11_man_122 hf (fun v10 hf => ?_)
        refine lv_iconst (v := 1) hC.1 hC.2.1 dX11_man_123 (by decide) ?_
        refine lv_iadd hC.1 hC.2.1 dX11_man_124 ?_
        refine x_ias hC (fun f => (xce_58 G kp f _)) hR hS dX11_man_125 hf (fun I11 hf H locs hR hS => ?_)
        refine lv_iload_n hC.1 hC.2.1 dX11_man_126 rfl (lv_at hl 0 rfl) ?_
        obtain ⟨h91, h90⟩ := Prod.mk.inj (Option.some.inj hf)
        obtain ⟨h92, h93⟩ := Prod.mk.inj h90
        subst h91
        subst h92
        subst h93
        exact x_iret hC hR hS dX11_man_127
      · refine lv_aload_n hC.1 hC.2.1 dX11_man_38 rfl (lv_at hl 0 rfl) ?_
        refine lv_bipush (v := (-8)) hC.1 hC.2.1 dX11_man_39 (by decide) ?_
        refine x_cvi10 (rest := []) hC xy_X11_refuse tw_1338 hf (fun _ _ h => M_X11_refuse G l kp h) ⟨Nat.le_of_ble_eq_true rfl, Nat.le_of_ble_eq_true rfl⟩ (xce_57 G kp _ _) rfl rfl rfl (Nat.le_of_ble_eq_true rfl) hl.1 hR hS dX11_man_41 ⟨Nat.le_refl _, Nat.le_refl _⟩ (fun v12 I13 hf H locs hR hS => ?_)
        obtain ⟨h91, h90⟩ := Prod.mk.inj (Option.some.inj hf)
        obtain ⟨h92, h93⟩ := Prod.mk.inj h90
        subst h91
        subst h92
        subst h93
        exact x_iret hC hR hS dX11_man_44
    · exact W_X11_man_j20 hC hf _ _ _ hR hS (lv_sub hl [0] rfl)
set_option maxRecDepth 20000 in
theorem M_X11_stock (G : XG) (l : Launch) (kp : Bool) {I : xTI} {L : xTL} {r : Int32} {rI : xTI} (hf : F_X11_stock I = some (r, rI)) : xMet G l yX11_stock cX11_stock 1 (some .int) 1 21 kp [.ref (xz G + 57)] I L (some (.int r)) rI L := by
  refine xMet.ofW (by decide +kernel) (Nat.le_of_ble_eq_true rfl) ?_
  intro p e s m args below meth c hC H locs ls hR hS hl
  replace hC : xC G p s m args meth c cX11_stock 1 RX11 (some .int) := hC
  replace hl : lv_has ls 1 [(0, .ref (xz G + 57))] := hl
  unfold F_X11_stock at hf
  refine lv_aload_n hC.1 hC.2.1 dX11_stock_0 rfl (lv_at hl 0 rfl) ?_
  refine x_get (v := .ref (xz G + 58)) hC xf_X11_14 (xce_57 G kp _ _) rfl hR dX11_stock_1 ?_
  refine lv_iconst (v := 2) hC.1 hC.2.1 dX11_stock_4 (by decide) ?_
  refine x_ial hC (xce_58 G kp _ _) hR dX11_stock_5 hf (fun v1 hf => ?_)
  refine lv_iconst (v := 5) hC.1 hC.2.1 dX11_stock_6 (by decide) ?_
  refine x_ic_ne (tgt := 17) hC dX11_stock_7 (by decide) hf (fun hf => ?_) (fun hf => ?_)
  · refine lv_aload_n hC.1 hC.2.1 dX11_stock_17 rfl (lv_at hl 0 rfl) ?_
    refine x_get (v := .ref (xz G + 58)) hC xf_X11_14 (xce_57 G kp _ _) rfl hR dX11_stock_18 ?_
    refine lv_iconst (v := 2) hC.1 hC.2.1 dX11_stock_21 (by decide) ?_
    refine lv_dup2_11 hC.1 hC.2.1 dX11_stock_22 rfl rfl ?_
    refine x_ial hC (xce_58 G kp _ _) hR dX11_stock_23 hf (fun v2 hf => ?_)
    refine lv_iconst (v := 1) hC.1 hC.2.1 dX11_stock_24 (by decide) ?_
    refine lv_iadd hC.1 hC.2.1 dX11_stock_25 ?_
    refine x_ias hC (fun f => (xce_58 G kp f _)) hR hS dX11_stock_26 hf (fun I3 hf H locs hR hS => ?_)
    refine lv_aload_n hC.1 hC.2.1 dX11_stock_27 rfl (lv_at hl 0 rfl) ?_
    refine x_get (v := .ref (xz G + 58)) hC xf_X11_14 (xce_57 G kp _ _) rfl hR dX11_stock_28 ?_
    refine lv_iconst (v := 2) hC.1 hC.2.1 dX11_stock_31 (by decide) ?_
    refine W.eq (g2 := F0 m 32 ls [.int 2, .ref (xz G + 58)]) rfl ?_
    refine x_ial hC (xce_58 G kp _ _) hR dX11_stock_32 hf (fun v4 hf => ?_)
    refine lv_iconst (v := 1) hC.1 hC.2.1 dX11_stock_33 (by decide) ?_
    refine lv_isub hC.1 hC.2.1 dX11_stock_34 ?_
    obtain ⟨h91, h92⟩ := Prod.mk.inj (Option.some.inj hf)
    subst h91
    subst h92
    exact x_iret hC hR hS dX11_stock_35
  · refine lv_aload_n hC.1 hC.2.1 dX11_stock_10 rfl (lv_at hl 0 rfl) ?_
    refine lv_bipush (v := (-8)) hC.1 hC.2.1 dX11_stock_11 (by decide) ?_
    refine x_cvi10 (rest := []) hC xy_X11_refuse tw_1338 hf (fun _ _ h => M_X11_refuse G l kp h) ⟨Nat.le_of_ble_eq_true rfl, Nat.le_of_ble_eq_true rfl⟩ (xce_57 G kp _ _) rfl rfl rfl (Nat.le_of_ble_eq_true rfl) hl.1 hR hS dX11_stock_13 ⟨Nat.le_refl _, Nat.le_refl _⟩ (fun v5 I6 hf H locs hR hS => ?_)
    obtain ⟨h91, h92⟩ := Prod.mk.inj (Option.some.inj hf)
    subst h91
    subst h92
    exact x_iret hC hR hS dX11_stock_16
set_option maxRecDepth 20000 in
theorem M_X11_isMan (G : XG) (l : Launch) (kp : Bool) {I : xTI} {L : xTL} {x1 : Int32} {r : Int32} (hf : F_X11_isMan I x1 = some r) : xMet G l yX11_isMan cX11_isMan 2 (some .boolean) 1 22 kp [.ref (xz G + 57), .int x1] I L (some (.int r)) I L := by
  refine xMet.ofW (by decide +kernel) (Nat.le_of_ble_eq_true rfl) ?_
  intro p e s m args below meth c hC H locs ls hR hS hl
  replace hC : xC G p s m args meth c cX11_isMan 2 RX11 (some .boolean) := hC
  replace hl : lv_has ls 2 [(0, .ref (xz G + 57)), (1, .int x1)] := hl
  unfold F_X11_isMan at hf
  refine lv_iload_n hC.1 hC.2.1 dX11_isMan_0 rfl (lv_at hl 1 rfl) ?_
  refine lv_iconst (v := 0) hC.1 hC.2.1 dX11_isMan_1 (by decide) ?_
  refine lv_aload_n hC.1 hC.2.1 dX11_isMan_2 rfl (lv_at hl 0 rfl) ?_
  refine x_get (v := .ref (xz G + 58)) hC xf_X11_14 (xce_57 G kp _ _) rfl hR dX11_isMan_3 ?_
  refine lv_iconst (v := 1) hC.1 hC.2.1 dX11_isMan_6 (by decide) ?_
  refine x_ial hC (xce_58 G kp _ _) hR dX11_isMan_7 hf (fun v1 hf => ?_)
  refine lv_iconst (v := 1) hC.1 hC.2.1 dX11_isMan_8 (by decide) ?_
  refine lv_isub hC.1 hC.2.1 dX11_isMan_9 ?_
  refine x_csi00 (rest := []) hC xy_X11_in tw_1335 hf (fun _ h => M_X11_in G l kp h) ⟨Nat.le_of_ble_eq_true rfl, Nat.le_of_ble_eq_true rfl⟩ rfl rfl (Nat.le_of_ble_eq_true rfl) hl.1 hR hS dX11_isMan_10 ⟨Nat.le_refl _, Nat.le_refl _⟩ (fun v2 hf H locs hR hS => ?_)
  obtain ⟨h01, hf⟩ := xzc_some hf
  have h9 := Option.some.inj hf
  subst h9
  exact x_zret h01 hC hR hS dX11_isMan_13
set_option maxRecDepth 20000 in
theorem M_X11_isStock (G : XG) (l : Launch) (kp : Bool) {I : xTI} {L : xTL} {x1 : Int32} {r : Int32} (hf : F_X11_isStock I x1 = some r) : xMet G l yX11_isStock cX11_isStock 2 (some .boolean) 1 22 kp [.ref (xz G + 57), .int x1] I L (some (.int r)) I L := by
  refine xMet.ofW (by decide +kernel) (Nat.le_of_ble_eq_true rfl) ?_
  intro p e s m args below meth c hC H locs ls hR hS hl
  replace hC : xC G p s m args meth c cX11_isStock 2 RX11 (some .boolean) := hC
  replace hl : lv_has ls 2 [(0, .ref (xz G + 57)), (1, .int x1)] := hl
  unfold F_X11_isStock at hf
  refine lv_iload_n hC.1 hC.2.1 dX11_isStock_0 rfl (lv_at hl 1 rfl) ?_
  refine lv_iconst (v := 0) hC.1 hC.2.1 dX11_isStock_1 (by decide) ?_
  refine lv_aload_n hC.1 hC.2.1 dX11_isStock_2 rfl (lv_at hl 0 rfl) ?_
  refine x_get (v := .ref (xz G + 58)) hC xf_X11_14 (xce_57 G kp _ _) rfl hR dX11_isStock_3 ?_
  refine lv_iconst (v := 2) hC.1 hC.2.1 dX11_isStock_6 (by decide) ?_
  refine x_ial hC (xce_58 G kp _ _) hR dX11_isStock_7 hf (fun v1 hf => ?_)
  refine lv_iconst (v := 1) hC.1 hC.2.1 dX11_isStock_8 (by decide) ?_
  refine lv_isub hC.1 hC.2.1 dX11_isStock_9 ?_
  refine x_csi00 (rest := []) hC xy_X11_in tw_1335 hf (fun _ h => M_X11_in G l kp h) ⟨Nat.le_of_ble_eq_true rfl, Nat.le_of_ble_eq_true rfl⟩ rfl rfl (Nat.le_of_ble_eq_true rfl) hl.1 hR hS dX11_isStock_10 ⟨Nat.le_refl _, Nat.le_refl _⟩ (fun v2 hf H locs hR hS => ?_)
  obtain ⟨h01, hf⟩ := xzc_some hf
  have h9 := Option.some.inj hf
  subst h9
  exact x_zret h01 hC hR hS dX11_isStock_13
set_option maxRecDepth 20000 in
theorem M_X11_isUp (G : XG) (l : Launch) (kp : Bool) {I : xTI} {L : xTL} {x1 : Int32} {r : Int32} (hf : F_X11_isUp I x1 = some r) : xMet G l yX11_isUp cX11_isUp 2 (some .boolean) 0 0 kp [.ref (xz G + 57), .int x1] I L (some (.int r)) I L := by
  refine xMet.ofW (by decide +kernel) (Nat.le_of_ble_eq_true rfl) ?_
  intro p e s m args below meth c hC H locs ls hR hS hl
  replace hC : xC G p s m args meth c cX11_isUp 2 RX11 (some .boolean) := hC
  replace hl : lv_has ls 2 [(0, .ref (xz G + 57)), (1, .int x1)] := hl
  unfold F_X11_isUp at hf
  refine lv_aload_n hC.1 hC.2.1 dX11_isUp_0 rfl (lv_at hl 0 rfl) ?_
  refine x_get (v := .ref (xz G + 58)) hC xf_X11_14 (xce_57 G kp _ _) rfl hR dX11_isUp_1 ?_
  refine lv_bipush (v := 16) hC.1 hC.2.1 dX11_isUp_4 (by decide) ?_
  refine lv_iconst (v := 4) hC.1 hC.2.1 dX11_isUp_6 (by decide) ?_
  refine lv_iload_n hC.1 hC.2.1 dX11_isUp_7 rfl (lv_at hl 1 rfl) ?_
  refine lv_imul hC.1 hC.2.1 dX11_isUp_8 ?_
  refine lv_iadd hC.1 hC.2.1 dX11_isUp_9 ?_
  refine x_ial hC (xce_58 G kp _ _) hR dX11_isUp_10 hf (fun v1 hf => ?_)
  refine lv_iconst (v := 1) hC.1 hC.2.1 dX11_isUp_11 (by decide) ?_
  refine x_ic_ne (tgt := 19) hC dX11_isUp_12 (by decide) hf (fun hf => ?_) (fun hf => ?_)
  · refine lv_iconst (v := 0) hC.1 hC.2.1 dX11_isUp_19 (by decide) ?_
    obtain ⟨h01, hf⟩ := xzc_some hf
    have h9 := Option.some.inj hf
    subst h9
    exact x_zret h01 hC hR hS dX11_isUp_20
  · refine lv_iconst (v := 1) hC.1 hC.2.1 dX11_isUp_15 (by decide) ?_
    refine lv_goto (tgt := 20) hC.1 hC.2.1 dX11_isUp_16 (by decide) ?_
    obtain ⟨h01, hf⟩ := xzc_some hf
    have h9 := Option.some.inj hf
    subst h9
    exact x_zret h01 hC hR hS dX11_isUp_20
set_option maxRecDepth 20000 in
theorem W_X11_hold_j16 {G : XG} {l : Launch} {kp : Bool} {p : Program} {e : Env} {s : State} {m : MethodId} {args : Array Value} {below : List Frame} {meth : Method} {c : Code} (hC : xC G p s m args meth c cX11_hold 4 RX11 (some .int)) {I : xTI} {L : xTL} {r : Int32} {rI : xTI} (hf : F_X11_hold_j16 I = some (r, rI)) : ∀ (H : Heap) (locs : List Loc) (ls : Array Slot), xRep G kp I L H → xS G s.heap H locs → lv_has ls 4 [(0, .ref (xz G + 57))] → W p l e (xrm 2 43) s m args below meth c H locs 0 0 (xMQ G kp below args s (some (.int r)) rI L) (F0 m 16 ls []) := by
  intro H locs ls hR hS hl
  unfold F_X11_hold_j16 at hf
  refine lv_aload_n hC.1 hC.2.1 dX11_hold_16 rfl (lv_at hl 0 rfl) ?_
  refine lv_bipush (v := (-3)) hC.1 hC.2.1 dX11_hold_17 (by decide) ?_
  refine x_cvi10 (rest := []) hC xy_X11_refuse tw_1338 hf (fun _ _ h => M_X11_refuse G l kp h) ⟨Nat.le_of_ble_eq_true rfl, Nat.le_of_ble_eq_true rfl⟩ (xce_57 G kp _ _) rfl rfl rfl (Nat.le_of_ble_eq_true rfl) hl.1 hR hS dX11_hold_19 ⟨Nat.le_refl _, Nat.le_refl _⟩ (fun v1 I2 hf H locs hR hS => ?_)
  obtain ⟨h91, h92⟩ := Prod.mk.inj (Option.some.inj hf)
  subst h91
  subst h92
  exact x_iret hC hR hS dX11_hold_22
set_option maxRecDepth 20000 in
theorem W_X11_hold_j42 {G : XG} {l : Launch} {kp : Bool} {p : Program} {e : Env} {s : State} {m : MethodId} {args : Array Value} {below : List Frame} {meth : Method} {c : Code} (hC : xC G p s m args meth c cX11_hold 4 RX11 (some .int)) {I : xTI} {L : xTL} {r : Int32} {rI : xTI} (hf : F_X11_hold_j42 I = some (r, rI)) : ∀ (H : Heap) (locs : List Loc) (ls : Array Slot), xRep G kp I L H → xS G s.heap H locs → lv_has ls 4 [(0, .ref (xz G + 57))] → W p l e (xrm 2 43) s m args below meth c H locs 0 0 (xMQ G kp below args s (some (.int r)) rI L) (F0 m 42 ls []) := by
  intro H locs ls hR hS hl
  unfold F_X11_hold_j42 at hf
  refine lv_aload_n hC.1 hC.2.1 dX11_hold_42 rfl (lv_at hl 0 rfl) ?_
  refine lv_bipush (v := (-7)) hC.1 hC.2.1 dX11_hold_43 (by decide) ?_
  refine x_cvi10 (rest := []) hC xy_X11_refuse tw_1338 hf (fun _ _ h => M_X11_refuse G l kp h) ⟨Nat.le_of_ble_eq_true rfl, Nat.le_of_ble_eq_true rfl⟩ (xce_57 G kp _ _) rfl rfl rfl (Nat.le_of_ble_eq_true rfl) hl.1 hR hS dX11_hold_45 ⟨Nat.le_refl _, Nat.le_refl _⟩ (fun v1 I2 hf H locs hR hS => ?_)
  obtain ⟨h91, h92⟩ := Prod.mk.inj (Option.some.inj hf)
  subst h91
  subst h92
  exact x_iret hC hR hS dX11_hold_48
set_option maxRecDepth 20000 in
theorem M_X11_hold (G : XG) (l : Launch) (kp : Bool) {I : xTI} {L : xTL} {x1 : Int32} {x2 : Int32} {x3 : Int32} {r : Int32} {rI : xTI} (hf : F_X11_hold I x1 x2 x3 = some (r, rI)) : xMet G l yX11_hold cX11_hold 4 (some .int) 2 43 kp [.ref (xz G + 57), .int x1, .int x2, .int x3] I L (some (.int r)) rI L := by
  refine xMet.ofW (by decide +kernel) (Nat.le_of_ble_eq_true rfl) ?_
  intro p e s m args below meth c hC H locs ls hR hS hl
  replace hC : xC G p s m args meth c cX11_hold 4 RX11 (some .int) := hC
  replace hl : lv_has ls 4 [(0, .ref (xz G + 57)), (1, .int x1), (2, .int x2), (3, .int x3)] := hl
  unfold F_X11_hold at hf
  refine lv_aload_n hC.1 hC.2.1 dX11_hold_0 rfl (lv_at hl 0 rfl) ?_
  refine lv_iload_n hC.1 hC.2.1 dX11_hold_1 rfl (lv_at hl 1 rfl) ?_
  refine x_cvi00 (rest := []) hC xy_X11_isMan tw_1355 hf (fun _ h => M_X11_isMan G l kp h) ⟨Nat.le_of_ble_eq_true rfl, Nat.le_of_ble_eq_true rfl⟩ (xce_57 G kp _ _) rfl rfl rfl (Nat.le_of_ble_eq_true rfl) hl.1 hR hS dX11_hold_2 ⟨Nat.le_refl _, Nat.le_refl _⟩ (fun v1 hf H locs hR hS => ?_)
  refine x_if_eq (tgt := 16) hC dX11_hold_5 (by decide) hf (fun hf => ?_) (fun hf => ?_)
  · exact W_X11_hold_j16 hC hf _ _ _ hR hS (lv_sub hl [0] rfl)
  · refine lv_aload_n hC.1 hC.2.1 dX11_hold_8 rfl (lv_at hl 0 rfl) ?_
    refine lv_iload_n hC.1 hC.2.1 dX11_hold_9 rfl (lv_at hl 2 rfl) ?_
    refine x_cvi00 (rest := []) hC xy_X11_isStock tw_1359 hf (fun _ h => M_X11_isStock G l kp h) ⟨Nat.le_of_ble_eq_true rfl, Nat.le_of_ble_eq_true rfl⟩ (xce_57 G kp _ _) rfl rfl rfl (Nat.le_of_ble_eq_true rfl) hl.1 hR hS dX11_hold_10 ⟨Nat.le_refl _, Nat.le_refl _⟩ (fun v2 hf H locs hR hS => ?_)
    refine x_if_ne (tgt := 23) hC dX11_hold_13 (by decide) hf (fun hf => ?_) (fun hf => ?_)
    · refine lv_iload_n hC.1 hC.2.1 dX11_hold_23 rfl (lv_at hl 3 rfl) ?_
      refine lv_iconst (v := 0) hC.1 hC.2.1 dX11_hold_24 (by decide) ?_
      refine lv_sipush (v := 9999) hC.1 hC.2.1 dX11_hold_25 (by decide) ?_
      refine x_csi00 (rest := []) hC xy_X11_in tw_1335 hf (fun _ h => M_X11_in G l kp h) ⟨Nat.le_of_ble_eq_true rfl, Nat.le_of_ble_eq_true rfl⟩ rfl rfl (Nat.le_of_ble_eq_true rfl) hl.1 hR hS dX11_hold_28 ⟨Nat.le_refl _, Nat.le_refl _⟩ (fun v3 hf H locs hR hS => ?_)
      refine x_if_eq (tgt := 42) hC dX11_hold_31 (by decide) hf (fun hf => ?_) (fun hf => ?_)
      · exact W_X11_hold_j42 hC hf _ _ _ hR hS (lv_sub hl [0] rfl)
      · refine lv_aload_n hC.1 hC.2.1 dX11_hold_34 rfl (lv_at hl 0 rfl) ?_
        refine lv_iload_n hC.1 hC.2.1 dX11_hold_35 rfl (lv_at hl 1 rfl) ?_
        refine x_cvi00 (rest := []) hC xy_X11_isUp tw_1363 hf (fun _ h => M_X11_isUp G l kp h) ⟨Nat.le_of_ble_eq_true rfl, Nat.le_of_ble_eq_true rfl⟩ (xce_57 G kp _ _) rfl rfl rfl (Nat.le_of_ble_eq_true rfl) hl.1 hR hS dX11_hold_36 ⟨Nat.le_refl _, Nat.le_refl _⟩ (fun v4 hf H locs hR hS => ?_)
        refine x_if_ne (tgt := 49) hC dX11_hold_39 (by decide) hf (fun hf => ?_) (fun hf => ?_)
        · refine lv_aload_n hC.1 hC.2.1 dX11_hold_49 rfl (lv_at hl 0 rfl) ?_
          refine x_get (v := .ref (xz G + 58)) hC xf_X11_14 (xce_57 G kp _ _) rfl hR dX11_hold_50 ?_
          refine lv_bipush (v := 64) hC.1 hC.2.1 dX11_hold_53 (by decide) ?_
          refine lv_iconst (v := 5) hC.1 hC.2.1 dX11_hold_55 (by decide) ?_
          refine lv_iload_n hC.1 hC.2.1 dX11_hold_56 rfl (lv_at hl 1 rfl) ?_
          refine lv_imul hC.1 hC.2.1 dX11_hold_57 ?_
          refine lv_iadd hC.1 hC.2.1 dX11_hold_58 ?_
          refine lv_iload_n hC.1 hC.2.1 dX11_hold_59 rfl (lv_at hl 2 rfl) ?_
          refine lv_iadd hC.1 hC.2.1 dX11_hold_60 ?_
          refine lv_dup2_11 hC.1 hC.2.1 dX11_hold_61 rfl rfl ?_
          refine x_ial hC (xce_58 G kp _ _) hR dX11_hold_62 hf (fun v5 hf => ?_)
          refine W.eq (g2 := F0 m 63 ls [.int v5, .int ((64 + (5 * x1)) + x2), .ref (xz G + 58)]) rfl ?_
          refine lv_iload_n hC.1 hC.2.1 dX11_hold_63 rfl (lv_at hl 3 rfl) ?_
          refine lv_iadd hC.1 hC.2.1 dX11_hold_64 ?_
          refine x_ias hC (fun f => (xce_58 G kp f _)) hR hS dX11_hold_65 hf (fun I6 hf H locs hR hS => ?_)
          refine lv_aload_n hC.1 hC.2.1 dX11_hold_66 rfl (lv_at hl 0 rfl) ?_
          refine x_get (v := .ref (xz G + 58)) hC xf_X11_14 (xce_57 G kp _ _) rfl hR dX11_hold_67 ?_
          refine lv_bipush (v := 64) hC.1 hC.2.1 dX11_hold_70 (by decide) ?_
          refine lv_iconst (v := 5) hC.1 hC.2.1 dX11_hold_72 (by decide) ?_
          refine lv_iload_n hC.1 hC.2.1 dX11_hold_73 rfl (lv_at hl 1 rfl) ?_
          refine lv_imul hC.1 hC.2.1 dX11_hold_74 ?_
          refine lv_iadd hC.1 hC.2.1 dX11_hold_75 ?_
          refine lv_iload_n hC.1 hC.2.1 dX11_hold_76 rfl (lv_at hl 2 rfl) ?_
          refine lv_iadd hC.1 hC.2.1 dX11_hold_77 ?_
          refine W.eq (g2 := F0 m 78 ls [.int ((64 + (5 * x1)) + x2), .ref (xz G + 58)]) rfl ?_
          refine x_ial hC (xce_58 G kp _ _) hR dX11_hold_78 hf (fun v7 hf => ?_)
          obtain ⟨h91, h92⟩ := Prod.mk.inj (Option.some.inj hf)
          subst h91
          subst h92
          exact x_iret hC hR hS dX11_hold_79
        · exact W_X11_hold_j42 hC hf _ _ _ hR hS (lv_sub hl [0] rfl)
    · exact W_X11_hold_j16 hC hf _ _ _ hR hS (lv_sub hl [0] rfl)
