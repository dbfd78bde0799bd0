set_option maxRecDepth 20000 in
theorem W_X6_payInRounds_l44 {G : XG} {l : Launch} {kp : Bool} {p : Program} {e : Env} {s : State} {m : MethodId} {args : Array Value} {below : List Frame} {meth : Method} {c : Code} (hC : xC G p s m args meth c cX6_payInRounds 5 RX6 none) (N : Nat) {I : xTI} {rL : xTL} {x3 : Int32} (k12 : Int32 × Int32 × xTL → Option (xTL)) (hk12 : ∀ (x2 : Int32) (x3 : Int32) (L : xTL) , k12 (x2, x3, L) = some rL → ∀ (H : Heap) (locs : List Loc) (ls : Array Slot), xRep G kp I L H → xS G s.heap H locs → lv_has ls 5 [(0, .ref (xz G + 41)), (1, .ref (xz G + 3)), (2, .int x2), (3, .int x3)] → W p l e (xrm 2 119) s m args below meth c H locs 0 0 (xMQ G kp below args s none I rL) (F0 m 12 ls [])) : ∀ (n : Nat) (x2 : Int32) (x4 : Int32) (L : xTL) , xlp (F_X6_payInRounds_b44 k12 N I x3 ) n (x2, x4, L) = some rL → ∀ (H : Heap) (locs : List Loc) (ls : Array Slot), xRep G kp I L H → xS G s.heap H locs → lv_has ls 5 [(0, .ref (xz G + 41)), (1, .ref (xz G + 3)), (2, .int x2), (3, .int x3), (4, .int x4)] → W p l e (xrm 2 119) s m args below meth c H locs 0 0 (xMQ G kp below args s none I rL) (F0 m 44 ls []) := by
  intro n
  induction n with
  | zero =>
    intro x2 x4 L hf
    cases hf
  | succ n hk44 =>
    intro x2 x4 L hf H locs ls hR hS hl
    rw [xlp_s, E_X6_payInRounds_b44] at hf
    unfold F_X6_payInRounds_c44 at hf
    refine lv_iload hC.1 hC.2.1 dX6_payInRounds_44 (lv_at hl 4 rfl) ?_
    refine lv_aload_n hC.1 hC.2.1 dX6_payInRounds_46 rfl (lv_at hl 1 rfl) ?_
    refine x_getI hC xf_X6_160 (xce_3 G kp _ _) rfl hR dX6_payInRounds_47 hf (fun v1 hf => ?_)
    refine x_ic_ge (tgt := 108) hC dX6_payInRounds_50 (by decide) hf (fun hf => ?_) (fun hf => ?_)
    · refine x_iinc (d := 1) (lv' := fun y2 => [(3, .int y2), (0, .ref (xz G + 41)), (1, .ref (xz G + 3)), (2, .int x2), (4, .int x4)]) (k := 3) hC hl dX6_payInRounds_108 rfl (by decide) (Nat.le_of_ble_eq_true rfl) hf (fun _ => rfl) (fun y2 hf ls hl => ?_)
      refine lv_goto (tgt := 12) hC.1 hC.2.1 dX6_payInRounds_111 (by decide) ?_
      exact hk12 x2 y2 L hf _ _ _ hR hS (lv_sub hl [1, 2, 3, 0] rfl)
    · refine lv_aload_n hC.1 hC.2.1 dX6_payInRounds_53 rfl (lv_at hl 0 rfl) ?_
      refine x_get (v := .ref (xz G + 45)) hC xf_X6_21 (xce_41 G kp _ _) rfl hR dX6_payInRounds_54 ?_
      refine lv_iload hC.1 hC.2.1 dX6_payInRounds_57 (lv_at hl 4 rfl) ?_
      refine x_lal hC (xce_45 G kp _ _) hR dX6_payInRounds_59 hf (fun v3 hf => ?_)
      refine lv_lconst (v := 0) hC.1 hC.2.1 dX6_payInRounds_60 (by decide) ?_
      refine W.lcmp hC.1 hC.2.1 dX6_payInRounds_61 ?_
      refine x_if_le (tgt := 102) hC dX6_payInRounds_62 (by decide) hf (fun hf => ?_) (fun hf => ?_)
      · refine x_iinc (d := 1) (lv' := fun y4 => [(4, .int y4), (0, .ref (xz G + 41)), (1, .ref (xz G + 3)), (2, .int x2), (3, .int x3)]) (k := 4) hC hl dX6_payInRounds_102 rfl (by decide) (Nat.le_of_ble_eq_true rfl) hf (fun _ => rfl) (fun y4 hf ls hl => ?_)
        refine lv_goto (tgt := 44) hC.1 hC.2.1 dX6_payInRounds_105 (by decide) ?_
        exact hk44 x2 y4 L hf _ _ _ hR hS (lv_sub hl [1, 2, 3, 4, 0] rfl)
      · refine lv_aload_n hC.1 hC.2.1 dX6_payInRounds_65 rfl (lv_at hl 0 rfl) ?_
        refine lv_iload hC.1 hC.2.1 dX6_payInRounds_66 (lv_at hl 4 rfl) ?_
        refine lv_aload_n hC.1 hC.2.1 dX6_payInRounds_68 rfl (lv_at hl 1 rfl) ?_
        refine x_get (v := .ref (xz G + 4)) hC xf_X6_161 (xce_3 G kp _ _) rfl hR dX6_payInRounds_69 ?_
        refine lv_iload hC.1 hC.2.1 dX6_payInRounds_72 (lv_at hl 4 rfl) ?_
        refine x_lal hC (xce_4 G kp _ _) hR dX6_payInRounds_74 hf (fun v5 hf => ?_)
        refine lv_aload_n hC.1 hC.2.1 dX6_payInRounds_75 rfl (lv_at hl 0 rfl) ?_
        refine lv_aload_n hC.1 hC.2.1 dX6_payInRounds_76 rfl (lv_at hl 0 rfl) ?_
        refine x_get (v := .ref (xz G + 44)) hC xf_X6_18 (xce_41 G kp _ _) rfl hR dX6_payInRounds_77 ?_
        refine lv_iload hC.1 hC.2.1 dX6_payInRounds_80 (lv_at hl 4 rfl) ?_
        refine x_cvl00 (rest := [.long v5, .int x4, .ref (xz G + 41)]) hC xy_X6_sumTo tw_969 hf (fun _ h => M_X6_sumTo_44 G l kp N h) ⟨Nat.le_of_ble_eq_true rfl, Nat.le_of_ble_eq_true rfl⟩ (xce_41 G kp _ _) rfl rfl rfl (Nat.le_of_ble_eq_true rfl) hl.1 hR hS dX6_payInRounds_82 ⟨Nat.le_refl _, Nat.le_refl _⟩ (fun v6 hf H locs hR hS => ?_)
        refine W.eq (g2 := F0 m 85 ls [.long v6, .long v5, .int x4, .ref (xz G + 41)]) rfl ?_
        refine lv_ladd hC.1 hC.2.1 dX6_payInRounds_85 ?_
        refine x_cvi01 (rest := []) hC xy_X6_payOf tw_973 hf (fun _ _ h => M_X6_payOf G l kp N h) ⟨Nat.le_of_ble_eq_true rfl, Nat.le_of_ble_eq_true rfl⟩ (xce_41 G kp _ _) rfl rfl rfl (Nat.le_of_ble_eq_true rfl) hl.1 hR hS dX6_payInRounds_86 ⟨Nat.le_refl _, Nat.le_refl _⟩ (fun v7 L8 hf H locs hR hS => ?_)
        refine x_if_ne (tgt := 96) hC dX6_payInRounds_89 (by decide) hf (fun hf => ?_) (fun hf => ?_)
        · refine lv_iconst (v := 1) hC.1 hC.2.1 dX6_payInRounds_96 (by decide) ?_
          refine lv_goto (tgt := 101) hC.1 hC.2.1 dX6_payInRounds_97 (by decide) ?_
          refine lv_istore_n (lv' := [(2, .int 1), (0, .ref (xz G + 41)), (1, .ref (xz G + 3)), (3, .int x3), (4, .int x4)]) hC.1 hC.2.1 dX6_payInRounds_101 rfl hl (Nat.le_of_ble_eq_true rfl) rfl (fun ls hl => ?_)
          refine x_iinc (d := 1) (lv' := fun y9 => [(4, .int y9), (2, .int 1), (0, .ref (xz G + 41)), (1, .ref (xz G + 3)), (3, .int x3)]) (k := 4) hC hl dX6_payInRounds_102 rfl (by decide) (Nat.le_of_ble_eq_true rfl) hf (fun _ => rfl) (fun y9 hf ls hl => ?_)
          refine lv_goto (tgt := 44) hC.1 hC.2.1 dX6_payInRounds_105 (by decide) ?_
          exact hk44 1 y9 L8 hf _ _ _ hR hS (lv_sub hl [2, 3, 1, 4, 0] rfl)
        · refine lv_iload_n hC.1 hC.2.1 dX6_payInRounds_92 rfl (lv_at hl 2 rfl) ?_
          refine x_if_eq (tgt := 100) hC dX6_payInRounds_93 (by decide) hf (fun hf => ?_) (fun hf => ?_)
          · refine lv_iconst (v := 0) hC.1 hC.2.1 dX6_payInRounds_100 (by decide) ?_
            refine lv_istore_n (lv' := [(2, .int 0), (0, .ref (xz G + 41)), (1, .ref (xz G + 3)), (3, .int x3), (4, .int x4)]) hC.1 hC.2.1 dX6_payInRounds_101 rfl hl (Nat.le_of_ble_eq_true rfl) rfl (fun ls hl => ?_)
            refine x_iinc (d := 1) (lv' := fun y10 => [(4, .int y10), (2, .int 0), (0, .ref (xz G + 41)), (1, .ref (xz G + 3)), (3, .int x3)]) (k := 4) hC hl dX6_payInRounds_102 rfl (by decide) (Nat.le_of_ble_eq_true rfl) hf (fun _ => rfl) (fun y10 hf ls hl => ?_)
            refine lv_goto (tgt := 44) hC.1 hC.2.1 dX6_payInRounds_105 (by decide) ?_
            exact hk44 0 y10 L8 hf _ _ _ hR hS (lv_sub hl [2, 3, 1, 4, 0] rfl)
          · refine lv_iconst (v := 1) hC.1 hC.2.1 dX6_payInRounds_96 (by decide) ?_
            refine lv_goto (tgt := 101) hC.1 hC.2.1 dX6_payInRounds_97 (by decide) ?_
            refine lv_istore_n (lv' := [(2, .int 1), (0, .ref (xz G + 41)), (1, .ref (xz G + 3)), (3, .int x3), (4, .int x4)]) hC.1 hC.2.1 dX6_payInRounds_101 rfl hl (Nat.le_of_ble_eq_true rfl) rfl (fun ls hl => ?_)
            refine x_iinc (d := 1) (lv' := fun y11 => [(4, .int y11), (2, .int 1), (0, .ref (xz G + 41)), (1, .ref (xz G + 3)), (3, .int x3)]) (k := 4) hC hl dX6_payInRounds_102 rfl (by decide) (Nat.le_of_ble_eq_true rfl) hf (fun _ => rfl) (fun y11 hf ls hl => ?_)
            refine lv_goto (tgt := 44) hC.1 hC.2.1 dX6_payInRounds_105 (by decide) ?_
            exact hk44 1 y11 L8 hf _ _ _ hR hS (lv_sub hl [2, 3, 1, 4, 0] rfl)
set_option maxRecDepth 20000 in
theorem W_X6_payInRounds_l12 {G : XG} {l : Launch} {kp : Bool} {p : Program} {e : Env} {s : State} {m : MethodId} {args : Array Value} {below : List Frame} {meth : Method} {c : Code} (hC : xC G p s m args meth c cX6_payInRounds 5 RX6 none) (N : Nat) {I : xTI} {rL : xTL} : ∀ (n : Nat) (x2 : Int32) (x3 : Int32) (L : xTL) , xlp (F_X6_payInRounds_b12 N I ) n (x2, x3, L) = some rL → ∀ (H : Heap) (locs : List Loc) (ls : Array Slot), xRep G kp I L H → xS G s.heap H locs → lv_has ls 5 [(0, .ref (xz G + 41)), (1, .ref (xz G + 3)), (2, .int x2), (3, .int x3)] → W p l e (xrm 2 119) s m args below meth c H locs 0 0 (xMQ G kp below args s none I rL) (F0 m 12 ls []) := by
  intro n
  induction n with
  | zero =>
    intro x2 x3 L hf
    cases hf
  | succ n hk12 =>
    intro x2 x3 L hf H locs ls hR hS hl
    rw [xlp_s, E_X6_payInRounds_b12] at hf
    unfold F_X6_payInRounds_c12 at hf
    refine lv_iload_n hC.1 hC.2.1 dX6_payInRounds_12 rfl (lv_at hl 3 rfl) ?_
    refine lv_sipush (v := 1000) hC.1 hC.2.1 dX6_payInRounds_13 (by decide) ?_
    refine x_ic_ge (tgt := 114) hC dX6_payInRounds_16 (by decide) hf (fun hf => ?_) (fun hf => ?_)
    · have h9 := Option.some.inj hf
      subst h9
      exact x_vret hC hR hS dX6_payInRounds_114
    · refine lv_iload_n hC.1 hC.2.1 dX6_payInRounds_19 rfl (lv_at hl 2 rfl) ?_
      refine x_if_eq (tgt := 114) hC dX6_payInRounds_20 (by decide) hf (fun hf => ?_) (fun hf => ?_)
      · have h9 := Option.some.inj hf
        subst h9
        exact x_vret hC hR hS dX6_payInRounds_114
      · refine lv_aload_n hC.1 hC.2.1 dX6_payInRounds_23 rfl (lv_at hl 0 rfl) ?_
        refine x_get (v := .ref (xz G + 43)) hC xf_X6_15 (xce_41 G kp _ _) rfl hR dX6_payInRounds_24 ?_
        refine lv_iconst (v := 0) hC.1 hC.2.1 dX6_payInRounds_27 (by decide) ?_
        refine lv_aload_n hC.1 hC.2.1 dX6_payInRounds_28 rfl (lv_at hl 0 rfl) ?_
        refine x_get (v := .ref (xz G + 44)) hC xf_X6_18 (xce_41 G kp _ _) rfl hR dX6_payInRounds_29 ?_
        refine lv_iconst (v := 0) hC.1 hC.2.1 dX6_payInRounds_32 (by decide) ?_
        refine lv_sipush (v := 156) hC.1 hC.2.1 dX6_payInRounds_33 (by decide) ?_
        refine x_cpl (rest := []) hC tw_968 (xce_43 G kp _ _) (fun f => (xce_44 G kp _ f)) hl.1 hR hS (Nat.le_of_ble_eq_true rfl) (Nat.le_of_ble_eq_true rfl) dX6_payInRounds_36 hf (fun L1 hf H locs hR hS => ?_)
        refine lv_iconst (v := 0) hC.1 hC.2.1 dX6_payInRounds_39 (by decide) ?_
        refine lv_istore_n (lv' := [(2, .int 0), (0, .ref (xz G + 41)), (1, .ref (xz G + 3)), (3, .int x3)]) hC.1 hC.2.1 dX6_payInRounds_40 rfl hl (Nat.le_of_ble_eq_true rfl) rfl (fun ls hl => ?_)
        refine lv_iconst (v := 0) hC.1 hC.2.1 dX6_payInRounds_41 (by decide) ?_
        refine W.eq (g2 := F0 m 42 ls [.int 0]) rfl ?_
        refine lv_istore (lv' := [(4, .int 0), (2, .int 0), (0, .ref (xz G + 41)), (1, .ref (xz G + 3)), (3, .int x3)]) hC.1 hC.2.1 dX6_payInRounds_42 hl (Nat.le_of_ble_eq_true rfl) rfl (fun ls hl => ?_)
        exact W_X6_payInRounds_l44 hC N _ hk12 _ 0 0 L1 hf _ _ _ hR hS (lv_sub hl [2, 3, 1, 4, 0] rfl)
set_option maxRecDepth 20000 in
theorem M_X6_payInRounds (G : XG) (l : Launch) (kp : Bool) (N : Nat) {I : xTI} {L : xTL} {rL : xTL} (hf : F_X6_payInRounds N I L = some rL) : xMet G l yX6_payInRounds cX6_payInRounds 5 none 2 119 kp [.ref (xz G + 41), .ref (xz G + 3)] I L none I rL := by
  refine xMet.ofW (by decide +kernel) (Nat.le_of_ble_eq_true rfl) ?_
  intro p e s m args below meth c hC H locs ls hR hS hl
  replace hC : xC G p s m args meth c cX6_payInRounds 5 RX6 none := hC
  replace hl : lv_has ls 5 [(0, .ref (xz G + 41)), (1, .ref (xz G + 3))] := hl
  unfold F_X6_payInRounds at hf
  refine lv_aload_n hC.1 hC.2.1 dX6_payInRounds_0 rfl (lv_at hl 0 rfl) ?_
  refine x_get (v := .ref (xz G + 43)) hC xf_X6_15 (xce_41 G kp _ _) rfl hR dX6_payInRounds_1 ?_
  refine lv_lconst (v := 0) hC.1 hC.2.1 dX6_payInRounds_4 (by decide) ?_
  refine x_csv01 (rest := []) hC xy_J7_fill_d0a16 tw_918 hf (fun _ h => M_J7_fill_d0a16_43 G l kp N h) ⟨Nat.le_of_ble_eq_true rfl, Nat.le_of_ble_eq_true rfl⟩ rfl rfl (Nat.le_of_ble_eq_true rfl) hl.1 hR hS dX6_payInRounds_5 ⟨Nat.le_refl _, Nat.le_refl _⟩ (fun L1 hf H locs hR hS => ?_)
  refine lv_iconst (v := 1) hC.1 hC.2.1 dX6_payInRounds_8 (by decide) ?_
  refine lv_istore_n (lv' := [(2, .int 1), (0, .ref (xz G + 41)), (1, .ref (xz G + 3))]) hC.1 hC.2.1 dX6_payInRounds_9 rfl hl (Nat.le_of_ble_eq_true rfl) rfl (fun ls hl => ?_)
  refine lv_iconst (v := 0) hC.1 hC.2.1 dX6_payInRounds_10 (by decide) ?_
  refine lv_istore_n (lv' := [(3, .int 0), (2, .int 1), (0, .ref (xz G + 41)), (1, .ref (xz G + 3))]) hC.1 hC.2.1 dX6_payInRounds_11 rfl hl (Nat.le_of_ble_eq_true rfl) rfl (fun ls hl => ?_)
  exact W_X6_payInRounds_l12 hC N _ 1 0 L1 hf _ _ _ hR hS (lv_sub hl [2, 3, 1, 0] rfl)
set_option maxRecDepth 20000 in
theorem W_X6_sumOf_43_l5 {G : XG} {l : Launch} {kp : Bool} {p : Program} {e : Env} {s : State} {m : MethodId} {args : Array Value} {below : List Frame} {meth : Method} {c : Code} (hC : xC G p s m args meth c cX6_sumOf 6 RX6 (some .long)) (N : Nat) {I : xTI} {L : xTL} {r : Int64} {x2 : Int32} : ∀ (n : Nat) (x3 : Int64) (x5 : Int32) , xlp (F_X6_sumOf_43_b5 N L x2 ) n (x3, x5) = some r → ∀ (H : Heap) (locs : List Loc) (ls : Array Slot), xRep G kp I L H → xS G s.heap H locs → lv_has ls 6 [(1, .ref (xz G + 43)), (2, .int x2), (3, .long x3), (5, .int x5)] → W p l e (xrm 0 0) s m args below meth c H locs 0 0 (xMQ G kp below args s (some (.long r)) I L) (F0 m 5 ls []) := by
  intro n
  induction n with
  | zero =>
    intro x3 x5 hf
    cases hf
  | succ n hk5 =>
    intro x3 x5 hf H locs ls hR hS hl
    rw [xlp_s, E_X6_sumOf_43_b5] at hf
    unfold F_X6_sumOf_43_c5 at hf
    refine lv_iload hC.1 hC.2.1 dX6_sumOf_5 (lv_at hl 3 rfl) ?_
    refine lv_bipush (v := 13) hC.1 hC.2.1 dX6_sumOf_7 (by decide) ?_
    refine x_ic_ge (tgt := 30) hC dX6_sumOf_9 (by decide) hf (fun hf => ?_) (fun hf => ?_)
    · refine lv_lload_n hC.1 hC.2.1 dX6_sumOf_30 rfl (lv_at hl 2 rfl) ?_
      have h9 := Option.some.inj hf
      subst h9
      exact x_lret hC hR hS dX6_sumOf_31
    · refine lv_lload_n hC.1 hC.2.1 dX6_sumOf_12 rfl (lv_at hl 2 rfl) ?_
      refine lv_aload_n hC.1 hC.2.1 dX6_sumOf_13 rfl (lv_at hl 0 rfl) ?_
      refine lv_iload_n hC.1 hC.2.1 dX6_sumOf_14 rfl (lv_at hl 1 rfl) ?_
      refine lv_bipush (v := 13) hC.1 hC.2.1 dX6_sumOf_15 (by decide) ?_
      refine lv_imul hC.1 hC.2.1 dX6_sumOf_17 ?_
      refine lv_iload hC.1 hC.2.1 dX6_sumOf_18 (lv_at hl 3 rfl) ?_
      refine lv_iadd hC.1 hC.2.1 dX6_sumOf_20 ?_
      refine x_lal hC (xce_43 G kp _ _) hR dX6_sumOf_21 hf (fun v1 hf => ?_)
      refine lv_ladd hC.1 hC.2.1 dX6_sumOf_22 ?_
      refine x_lstn (lv' := fun y2 => [(3, .long y2), (1, .ref (xz G + 43)), (2, .int x2), (5, .int x5)]) hC hl dX6_sumOf_23 rfl (Nat.le_of_ble_eq_true rfl) hf (fun _ => rfl) (fun y2 hf ls hl => ?_)
      refine x_iinc (d := 1) (lv' := fun y3 => [(5, .int y3), (3, .long y2), (1, .ref (xz G + 43)), (2, .int x2)]) (k := 3) hC hl dX6_sumOf_24 rfl (by decide) (Nat.le_of_ble_eq_true rfl) hf (fun _ => rfl) (fun y3 hf ls hl => ?_)
      refine W.eq (g2 := F0 m 27 ls []) rfl ?_
      refine lv_goto (tgt := 5) hC.1 hC.2.1 dX6_sumOf_27 (by decide) ?_
      exact hk5 y2 y3 hf _ _ _ hR hS (lv_sub hl [2, 3, 1, 0] rfl)
set_option maxRecDepth 20000 in
theorem M_X6_sumOf_43 (G : XG) (l : Launch) (kp : Bool) (N : Nat) {I : xTI} {L : xTL} {x2 : Int32} {r : Int64} (hf : F_X6_sumOf_43 N L x2 = some r) : xMet G l yX6_sumOf cX6_sumOf 6 (some .long) 0 0 kp [.ref (xz G + 41), .ref (xz G + 43), .int x2] I L (some (.long r)) I L := by
  refine xMet.ofW (by decide +kernel) (Nat.le_of_ble_eq_true rfl) ?_
  intro p e s m args below meth c hC H locs ls hR hS hl
  replace hC : xC G p s m args meth c cX6_sumOf 6 RX6 (some .long) := hC
  replace hl : lv_has ls 6 [(0, .ref (xz G + 41)), (1, .ref (xz G + 43)), (2, .int x2)] := hl
  unfold F_X6_sumOf_43 at hf
  refine lv_lconst (v := 0) hC.1 hC.2.1 dX6_sumOf_0 (by decide) ?_
  refine lv_lstore_n (lv' := [(3, .long 0), (0, .ref (xz G + 41)), (1, .ref (xz G + 43)), (2, .int x2)]) hC.1 hC.2.1 dX6_sumOf_1 rfl hl (Nat.le_of_ble_eq_true rfl) rfl (fun ls hl => ?_)
  refine lv_iconst (v := 0) hC.1 hC.2.1 dX6_sumOf_2 (by decide) ?_
  refine lv_istore (lv' := [(5, .int 0), (3, .long 0), (0, .ref (xz G + 41)), (1, .ref (xz G + 43)), (2, .int x2)]) hC.1 hC.2.1 dX6_sumOf_3 hl (Nat.le_of_ble_eq_true rfl) rfl (fun ls hl => ?_)
  exact W_X6_sumOf_43_l5 hC N _ 0 0 hf _ _ _ hR hS (lv_sub hl [3, 4, 1, 0] rfl)
set_option maxRecDepth 20000 in
theorem W_X6_sumTo_43_l5 {G : XG} {l : Launch} {kp : Bool} {p : Program} {e : Env} {s : State} {m : MethodId} {args : Array Value} {below : List Frame} {meth : Method} {c : Code} (hC : xC G p s m args meth c cX6_sumTo 6 RX6 (some .long)) (N : Nat) {I : xTI} {L : xTL} {r : Int64} {x2 : Int32} : ∀ (n : Nat) (x3 : Int64) (x5 : Int32) , xlp (F_X6_sumTo_43_b5 N L x2 ) n (x3, x5) = some r → ∀ (H : Heap) (locs : List Loc) (ls : Array Slot), xRep G kp I L H → xS G s.heap H locs → lv_has ls 6 [(1, .ref (xz G + 43)), (2, .int x2), (3, .long x3), (5, .int x5)] → W p l e (xrm 0 0) s m args below meth c H locs 0 0 (xMQ G kp below args s (some (.long r)) I L) (F0 m 5 ls []) := by
  intro n
  induction n with
  | zero =>
    intro x3 x5 hf
    cases hf
  | succ n hk5 =>
    intro x3 x5 hf H locs ls hR hS hl
    rw [xlp_s, E_X6_sumTo_43_b5] at hf
    unfold F_X6_sumTo_43_c5 at hf
    refine lv_iload hC.1 hC.2.1 dX6_sumTo_5 (lv_at hl 3 rfl) ?_
    refine lv_bipush (v := 12) hC.1 hC.2.1 dX6_sumTo_7 (by decide) ?_
    refine x_ic_ge (tgt := 30) hC dX6_sumTo_9 (by decide) hf (fun hf => ?_) (fun hf => ?_)
    · refine lv_lload_n hC.1 hC.2.1 dX6_sumTo_30 rfl (lv_at hl 2 rfl) ?_
      have h9 := Option.some.inj hf
      subst h9
      exact x_lret hC hR hS dX6_sumTo_31
    · refine lv_lload_n hC.1 hC.2.1 dX6_sumTo_12 rfl (lv_at hl 2 rfl) ?_
      refine lv_aload_n hC.1 hC.2.1 dX6_sumTo_13 rfl (lv_at hl 0 rfl) ?_
      refine lv_iload hC.1 hC.2.1 dX6_sumTo_14 (lv_at hl 3 rfl) ?_
      refine lv_bipush (v := 13) hC.1 hC.2.1 dX6_sumTo_16 (by decide) ?_
      refine lv_imul hC.1 hC.2.1 dX6_sumTo_18 ?_
      refine lv_iload_n hC.1 hC.2.1 dX6_sumTo_19 rfl (lv_at hl 1 rfl) ?_
      refine lv_iadd hC.1 hC.2.1 dX6_sumTo_20 ?_
      refine x_lal hC (xce_43 G kp _ _) hR dX6_sumTo_21 hf (fun v1 hf => ?_)
      refine lv_ladd hC.1 hC.2.1 dX6_sumTo_22 ?_
      refine x_lstn (lv' := fun y2 => [(3, .long y2), (1, .ref (xz G + 43)), (2, .int x2), (5, .int x5)]) hC hl dX6_sumTo_23 rfl (Nat.le_of_ble_eq_true rfl) hf (fun _ => rfl) (fun y2 hf ls hl => ?_)
      refine x_iinc (d := 1) (lv' := fun y3 => [(5, .int y3), (3, .long y2), (1, .ref (xz G + 43)), (2, .int x2)]) (k := 3) hC hl dX6_sumTo_24 rfl (by decide) (Nat.le_of_ble_eq_true rfl) hf (fun _ => rfl) (fun y3 hf ls hl => ?_)
      refine W.eq (g2 := F0 m 27 ls []) rfl ?_
      refine lv_goto (tgt := 5) hC.1 hC.2.1 dX6_sumTo_27 (by decide) ?_
      exact hk5 y2 y3 hf _ _ _ hR hS (lv_sub hl [2, 3, 1, 0] rfl)
set_option maxRecDepth 20000 in
theorem M_X6_sumTo_43 (G : XG) (l : Launch) (kp : Bool) (N : Nat) {I : xTI} {L : xTL} {x2 : Int32} {r : Int64} (hf : F_X6_sumTo_43 N L x2 = some r) : xMet G l yX6_sumTo cX6_sumTo 6 (some .long) 0 0 kp [.ref (xz G + 41), .ref (xz G + 43), .int x2] I L (some (.long r)) I L := by
  refine xMet.ofW (by decide +kernel) (Nat.le_of_ble_eq_true rfl) ?_
  intro p e s m args below meth c hC H locs ls hR hS hl
  replace hC : xC G p s m args meth c cX6_sumTo 6 RX6 (some .long) := hC
  replace hl : lv_has ls 6 [(0, .ref (xz G + 41)), (1, .ref (xz G + 43)), (2, .int x2)] := hl
  unfold F_X6_sumTo_43 at hf
  refine lv_lconst (v := 0) hC.1 hC.2.1 dX6_sumTo_0 (by decide) ?_
  refine lv_lstore_n (lv' := [(3, .long 0), (0, .ref (xz G + 41)), (1, .ref (xz G + 43)), (2, .int x2)]) hC.1 hC.2.1 dX6_sumTo_1 rfl hl (Nat.le_of_ble_eq_true rfl) rfl (fun ls hl => ?_)
  refine lv_iconst (v := 0) hC.1 hC.2.1 dX6_sumTo_2 (by decide) ?_
  refine lv_istore (lv' := [(5, .int 0), (3, .long 0), (0, .ref (xz G + 41)), (1, .ref (xz G + 43)), (2, .int x2)]) hC.1 hC.2.1 dX6_sumTo_3 hl (Nat.le_of_ble_eq_true rfl) rfl (fun ls hl => ?_)
  exact W_X6_sumTo_43_l5 hC N _ 0 0 hf _ _ _ hR hS (lv_sub hl [3, 4, 1, 0] rfl)
set_option maxRecDepth 20000 in
theorem W_X6_moveCoin_l2 {G : XG} {l : Launch} {kp : Bool} {p : Program} {e : Env} {s : State} {m : MethodId} {args : Array Value} {below : List Frame} {meth : Method} {c : Code} (hC : xC G p s m args meth c cX6_moveCoin 8 RX6 none) (N : Nat) {I : xTI} {rL : xTL} : ∀ (n : Nat) (x2 : Int32) (L : xTL) , xlp (F_X6_moveCoin_b2 N I ) n (x2, L) = some rL → ∀ (H : Heap) (locs : List Loc) (ls : Array Slot), xRep G kp I L H → xS G s.heap H locs → lv_has ls 8 [(0, .ref (xz G + 41)), (1, .ref (xz G + 1)), (2, .int x2)] → W p l e (xrm 1 25) s m args below meth c H locs 0 0 (xMQ G kp below args s none I rL) (F0 m 2 ls []) := by
  intro n
  induction n with
  | zero =>
    intro x2 L hf
    cases hf
  | succ n hk2 =>
    intro x2 L hf H locs ls hR hS hl
    rw [xlp_s, E_X6_moveCoin_b2] at hf
    unfold F_X6_moveCoin_c2 at hf
    refine lv_iload_n hC.1 hC.2.1 dX6_moveCoin_2 rfl (lv_at hl 2 rfl) ?_
    refine lv_aload_n hC.1 hC.2.1 dX6_moveCoin_3 rfl (lv_at hl 1 rfl) ?_
    refine x_get (v := .ref (xz G + 3)) hC xf_X6_47 (xce_1 G kp _ _) rfl hR dX6_moveCoin_4 ?_
    refine x_getI hC xf_X6_160 (xce_3 G kp _ _) rfl hR dX6_moveCoin_7 hf (fun v1 hf => ?_)
    refine x_ic_ge (tgt := 118) hC dX6_moveCoin_10 (by decide) hf (fun hf => ?_) (fun hf => ?_)
    · have h9 := Option.some.inj hf
      subst h9
      exact x_vret hC hR hS dX6_moveCoin_118
    · refine lv_aload_n hC.1 hC.2.1 dX6_moveCoin_13 rfl (lv_at hl 0 rfl) ?_
      refine lv_aload_n hC.1 hC.2.1 dX6_moveCoin_14 rfl (lv_at hl 0 rfl) ?_
      refine x_get (v := .ref (xz G + 43)) hC xf_X6_15 (xce_41 G kp _ _) rfl hR dX6_moveCoin_15 ?_
      refine lv_iload_n hC.1 hC.2.1 dX6_moveCoin_18 rfl (lv_at hl 2 rfl) ?_
      refine x_cvl00 (rest := []) hC xy_X6_sumOf tw_960 hf (fun _ h => M_X6_sumOf_43 G l kp N h) ⟨Nat.le_of_ble_eq_true rfl, Nat.le_of_ble_eq_true rfl⟩ (xce_41 G kp _ _) rfl rfl rfl (Nat.le_of_ble_eq_true rfl) hl.1 hR hS dX6_moveCoin_19 ⟨Nat.le_refl _, Nat.le_refl _⟩ (fun v2 hf H locs hR hS => ?_)
      refine lv_lstore_n (lv' := [(3, .long v2), (0, .ref (xz G + 41)), (1, .ref (xz G + 1)), (2, .int x2)]) hC.1 hC.2.1 dX6_moveCoin_22 rfl hl (Nat.le_of_ble_eq_true rfl) rfl (fun ls hl => ?_)
      refine lv_aload_n hC.1 hC.2.1 dX6_moveCoin_23 rfl (lv_at hl 1 rfl) ?_
      refine lv_aload_n hC.1 hC.2.1 dX6_moveCoin_24 rfl (lv_at hl 1 rfl) ?_
      refine x_get (v := .ref (xz G + 43)) hC xf_X6_15 (xce_41 G kp _ _) rfl hR dX6_moveCoin_25 ?_
      refine lv_iload_n hC.1 hC.2.1 dX6_moveCoin_28 rfl (lv_at hl 3 rfl) ?_
      refine x_cvl00 (rest := []) hC xy_X6_sumTo tw_969 hf (fun _ h => M_X6_sumTo_43 G l kp N h) ⟨Nat.le_of_ble_eq_true rfl, Nat.le_of_ble_eq_true rfl⟩ (xce_41 G kp _ _) rfl rfl rfl (Nat.le_of_ble_eq_true rfl) hl.1 hR hS dX6_moveCoin_29 ⟨Nat.le_refl _, Nat.le_refl _⟩ (fun v3 hf H locs hR hS => ?_)
      refine W.eq (g2 := F0 m 32 ls [.long v3]) rfl ?_
      refine lv_lstore (lv' := [(5, .long v3), (3, .long v2), (0, .ref (xz G + 41)), (1, .ref (xz G + 1)), (2, .int x2)]) hC.1 hC.2.1 dX6_moveCoin_32 hl (Nat.le_of_ble_eq_true rfl) rfl (fun ls hl => ?_)
      refine lv_aload_n hC.1 hC.2.1 dX6_moveCoin_34 rfl (lv_at hl 3 rfl) ?_
      refine x_get (v := .ref (xz G + 3)) hC xf_X6_47 (xce_1 G kp _ _) rfl hR dX6_moveCoin_35 ?_
      refine x_get (v := .ref (xz G + 4)) hC xf_X6_161 (xce_3 G kp _ _) rfl hR dX6_moveCoin_38 ?_
      refine lv_iload_n hC.1 hC.2.1 dX6_moveCoin_41 rfl (lv_at hl 4 rfl) ?_
      refine lv_dup2_11 hC.1 hC.2.1 dX6_moveCoin_42 rfl rfl ?_
      refine x_lal hC (xce_4 G kp _ _) hR dX6_moveCoin_43 hf (fun v4 hf => ?_)
      refine lv_lload hC.1 hC.2.1 dX6_moveCoin_44 (lv_at hl 0 rfl) ?_
      refine lv_lload_n hC.1 hC.2.1 dX6_moveCoin_46 rfl (lv_at hl 1 rfl) ?_
      refine lv_lsub hC.1 hC.2.1 dX6_moveCoin_47 ?_
      refine lv_ladd hC.1 hC.2.1 dX6_moveCoin_48 ?_
      refine x_las hC (fun f => (xce_4 G kp _ f)) hR hS dX6_moveCoin_49 hf (fun L5 hf H locs hR hS => ?_)
      refine W.eq (g2 := F0 m 50 ls []) rfl ?_
      refine lv_iload_n hC.1 hC.2.1 dX6_moveCoin_50 rfl (lv_at hl 4 rfl) ?_
      refine lv_iconst (v := 5) hC.1 hC.2.1 dX6_moveCoin_51 (by decide) ?_
      refine lv_imul hC.1 hC.2.1 dX6_moveCoin_52 ?_
      refine x_ist (lv' := fun y6 => [(7, .int y6), (5, .long v3), (3, .long v2), (0, .ref (xz G + 41)), (1, .ref (xz G + 1)), (2, .int x2)]) hC hl dX6_moveCoin_53 (Nat.le_of_ble_eq_true rfl) hf (fun _ => rfl) (fun y6 hf ls hl => ?_)
      refine lv_aload_n hC.1 hC.2.1 dX6_moveCoin_55 rfl (lv_at hl 4 rfl) ?_
      refine x_get (v := .ref (xz G + 28)) hC xf_X6_36 (xce_1 G kp _ _) rfl hR dX6_moveCoin_56 ?_
      refine lv_iload hC.1 hC.2.1 dX6_moveCoin_59 (lv_at hl 0 rfl) ?_
      refine lv_iconst (v := 0) hC.1 hC.2.1 dX6_moveCoin_61 (by decide) ?_
      refine lv_iadd hC.1 hC.2.1 dX6_moveCoin_62 ?_
      refine lv_aload_n hC.1 hC.2.1 dX6_moveCoin_63 rfl (lv_at hl 3 rfl) ?_
      refine x_get (v := .ref (xz G + 45)) hC xf_X6_21 (xce_41 G kp _ _) rfl hR dX6_moveCoin_64 ?_
      refine lv_iload_n hC.1 hC.2.1 dX6_moveCoin_67 rfl (lv_at hl 5 rfl) ?_
      refine W.eq (g2 := F0 m 68 ls [.int x2, .ref (xz G + 45), .int (y6 + 0), .ref (xz G + 28)]) rfl ?_
      refine x_lal hC (xce_45 G kp _ _) hR dX6_moveCoin_68 hf (fun v7 hf => ?_)
      refine x_las hC (fun f => (xce_28 G kp _ f)) hR hS dX6_moveCoin_69 hf (fun L8 hf H locs hR hS => ?_)
      refine lv_aload_n hC.1 hC.2.1 dX6_moveCoin_70 rfl (lv_at hl 4 rfl) ?_
      refine x_get (v := .ref (xz G + 28)) hC xf_X6_36 (xce_1 G kp _ _) rfl hR dX6_moveCoin_71 ?_
      refine lv_iload hC.1 hC.2.1 dX6_moveCoin_74 (lv_at hl 0 rfl) ?_
      refine lv_iconst (v := 1) hC.1 hC.2.1 dX6_moveCoin_76 (by decide) ?_
      refine lv_iadd hC.1 hC.2.1 dX6_moveCoin_77 ?_
      refine lv_lload_n hC.1 hC.2.1 dX6_moveCoin_78 rfl (lv_at hl 2 rfl) ?_
      refine x_las hC (fun f => (xce_28 G kp _ f)) hR hS dX6_moveCoin_79 hf (fun L9 hf H locs hR hS => ?_)
      refine lv_aload_n hC.1 hC.2.1 dX6_moveCoin_80 rfl (lv_at hl 4 rfl) ?_
      refine x_get (v := .ref (xz G + 28)) hC xf_X6_36 (xce_1 G kp _ _) rfl hR dX6_moveCoin_81 ?_
      refine lv_iload hC.1 hC.2.1 dX6_moveCoin_84 (lv_at hl 0 rfl) ?_
      refine W.eq (g2 := F0 m 86 ls [.int y6, .ref (xz G + 28)]) rfl ?_
      refine lv_iconst (v := 2) hC.1 hC.2.1 dX6_moveCoin_86 (by decide) ?_
      refine lv_iadd hC.1 hC.2.1 dX6_moveCoin_87 ?_
      refine lv_lload hC.1 hC.2.1 dX6_moveCoin_88 (lv_at hl 1 rfl) ?_
      refine x_las hC (fun f => (xce_28 G kp _ f)) hR hS dX6_moveCoin_90 hf (fun L10 hf H locs hR hS => ?_)
      refine lv_aload_n hC.1 hC.2.1 dX6_moveCoin_91 rfl (lv_at hl 4 rfl) ?_
      refine x_get (v := .ref (xz G + 28)) hC xf_X6_36 (xce_1 G kp _ _) rfl hR dX6_moveCoin_92 ?_
      refine lv_iload hC.1 hC.2.1 dX6_moveCoin_95 (lv_at hl 0 rfl) ?_
      refine lv_iconst (v := 3) hC.1 hC.2.1 dX6_moveCoin_97 (by decide) ?_
      refine lv_iadd hC.1 hC.2.1 dX6_moveCoin_98 ?_
      refine lv_aload_n hC.1 hC.2.1 dX6_moveCoin_99 rfl (lv_at hl 3 rfl) ?_
      refine x_get (v := .ref (xz G + 42)) hC xf_X6_11 (xce_41 G kp _ _) rfl hR dX6_moveCoin_100 ?_
      refine lv_iload_n hC.1 hC.2.1 dX6_moveCoin_103 rfl (lv_at hl 5 rfl) ?_
      refine W.eq (g2 := F0 m 104 ls [.int x2, .ref (xz G + 42), .int (y6 + 3), .ref (xz G + 28)]) rfl ?_
      refine lv_bipush (v := 13) hC.1 hC.2.1 dX6_moveCoin_104 (by decide) ?_
      refine lv_imul hC.1 hC.2.1 dX6_moveCoin_106 ?_
      refine lv_bipush (v := 12) hC.1 hC.2.1 dX6_moveCoin_107 (by decide) ?_
      refine lv_iadd hC.1 hC.2.1 dX6_moveCoin_109 ?_
      refine x_lal hC (xce_42 G kp _ _) hR dX6_moveCoin_110 hf (fun v11 hf => ?_)
      refine x_las hC (fun f => (xce_28 G kp _ f)) hR hS dX6_moveCoin_111 hf (fun L12 hf H locs hR hS => ?_)
      refine x_iinc (d := 1) (lv' := fun y13 => [(2, .int y13), (7, .int y6), (5, .long v3), (3, .long v2), (0, .ref (xz G + 41)), (1, .ref (xz G + 1))]) (k := 5) hC hl dX6_moveCoin_112 rfl (by decide) (Nat.le_of_ble_eq_true rfl) hf (fun _ => rfl) (fun y13 hf ls hl => ?_)
      refine lv_goto (tgt := 2) hC.1 hC.2.1 dX6_moveCoin_115 (by decide) ?_
      exact hk2 y13 L12 hf _ _ _ hR hS (lv_sub hl [4, 5, 0] rfl)
set_option maxRecDepth 20000 in
theorem M_X6_moveCoin (G : XG) (l : Launch) (kp : Bool) (N : Nat) {I : xTI} {L : xTL} {rL : xTL} (hf : F_X6_moveCoin N I L = some rL) : xMet G l yX6_moveCoin cX6_moveCoin 8 none 1 25 kp [.ref (xz G + 41), .ref (xz G + 1)] I L none I rL := by
  refine xMet.ofW (by decide +kernel) (Nat.le_of_ble_eq_true rfl) ?_
  intro p e s m args below meth c hC H locs ls hR hS hl
  replace hC : xC G p s m args meth c cX6_moveCoin 8 RX6 none := hC
  replace hl : lv_has ls 8 [(0, .ref (xz G + 41)), (1, .ref (xz G + 1))] := hl
  unfold F_X6_moveCoin at hf
  refine lv_iconst (v := 0) hC.1 hC.2.1 dX6_moveCoin_0 (by decide) ?_
  refine lv_istore_n (lv' := [(2, .int 0), (0, .ref (xz G + 41)), (1, .ref (xz G + 1))]) hC.1 hC.2.1 dX6_moveCoin_1 rfl hl (Nat.le_of_ble_eq_true rfl) rfl (fun ls hl => ?_)
  exact W_X6_moveCoin_l2 hC N _ 0 L hf _ _ _ hR hS (lv_sub hl [1, 2, 0] rfl)
set_option maxRecDepth 20000 in
theorem W_X6_endBargains_l2 {G : XG} {l : Launch} {kp : Bool} {p : Program} {e : Env} {s : State} {m : MethodId} {args : Array Value} {below : List Frame} {meth : Method} {c : Code} (hC : xC G p s m args meth c cX6_endBargains 4 RX6 none) (N : Nat) {L : xTL} {rI : xTI} {x2 : Int32} : ∀ (n : Nat) (x3 : Int32) (I : xTI) , xlp (F_X6_endBargains_b2 N x2 ) n (x3, I) = some rI → ∀ (H : Heap) (locs : List Loc) (ls : Array Slot), xRep G kp I L H → xS G s.heap H locs → lv_has ls 4 [(1, .ref (xz G + 11)), (2, .int x2), (3, .int x3)] → W p l e (xrm 2 46) s m args below meth c H locs 0 0 (xMQ G kp below args s none rI L) (F0 m 2 ls []) := by
  intro n
  induction n with
  | zero =>
    intro x3 I hf
    cases hf
  | succ n hk2 =>
    intro x3 I hf H locs ls hR hS hl
    rw [xlp_s, E_X6_endBargains_b2] at hf
    unfold F_X6_endBargains_c2 at hf
    refine lv_iload_n hC.1 hC.2.1 dX6_endBargains_2 rfl (lv_at hl 2 rfl) ?_
    refine lv_bipush (v := 60) hC.1 hC.2.1 dX6_endBargains_3 (by decide) ?_
    refine x_ic_ge (tgt := 29) hC dX6_endBargains_5 (by decide) hf (fun hf => ?_) (fun hf => ?_)
    · have h9 := Option.some.inj hf
      subst h9
      exact x_vret hC hR hS dX6_endBargains_29
    · refine lv_aload_n hC.1 hC.2.1 dX6_endBargains_8 rfl (lv_at hl 0 rfl) ?_
      refine lv_iload_n hC.1 hC.2.1 dX6_endBargains_9 rfl (lv_at hl 2 rfl) ?_
      refine lv_iload_n hC.1 hC.2.1 dX6_endBargains_10 rfl (lv_at hl 1 rfl) ?_
      refine x_cvi00 (rest := []) hC xy_X0_standsFor tw_925 hf (fun _ h => M_X0_standsFor G l kp h) ⟨Nat.le_of_ble_eq_true rfl, Nat.le_of_ble_eq_true rfl⟩ (xce_11 G kp _ _) rfl rfl rfl (Nat.le_of_ble_eq_true rfl) hl.1 hR hS dX6_endBargains_11 ⟨Nat.le_refl _, Nat.le_refl _⟩ (fun v1 hf H locs hR hS => ?_)
      refine x_if_eq (tgt := 23) hC dX6_endBargains_14 (by decide) hf (fun hf => ?_) (fun hf => ?_)
      · refine x_iinc (d := 1) (lv' := fun y2 => [(3, .int y2), (1, .ref (xz G + 11)), (2, .int x2)]) (k := 2) hC hl dX6_endBargains_23 rfl (by decide) (Nat.le_of_ble_eq_true rfl) hf (fun _ => rfl) (fun y2 hf ls hl => ?_)
        refine lv_goto (tgt := 2) hC.1 hC.2.1 dX6_endBargains_26 (by decide) ?_
        exact hk2 y2 I hf _ _ _ hR hS (lv_sub hl [1, 2, 0] rfl)
      · refine lv_aload_n hC.1 hC.2.1 dX6_endBargains_17 rfl (lv_at hl 0 rfl) ?_
        refine lv_iload_n hC.1 hC.2.1 dX6_endBargains_18 rfl (lv_at hl 2 rfl) ?_
        refine lv_iconst (v := 2) hC.1 hC.2.1 dX6_endBargains_19 (by decide) ?_
        refine x_cvv10 (rest := []) hC xy_X0_putState tw_989 hf (fun _ h => M_X0_putState G l kp h) ⟨Nat.le_of_ble_eq_true rfl, Nat.le_of_ble_eq_true rfl⟩ (xce_11 G kp _ _) rfl rfl rfl (Nat.le_of_ble_eq_true rfl) hl.1 hR hS dX6_endBargains_20 ⟨Nat.le_refl _, Nat.le_refl _⟩ (fun I3 hf H locs hR hS => ?_)
        refine x_iinc (d := 1) (lv' := fun y4 => [(3, .int y4), (1, .ref (xz G + 11)), (2, .int x2)]) (k := 2) hC hl dX6_endBargains_23 rfl (by decide) (Nat.le_of_ble_eq_true rfl) hf (fun _ => rfl) (fun y4 hf ls hl => ?_)
        refine lv_goto (tgt := 2) hC.1 hC.2.1 dX6_endBargains_26 (by decide) ?_
        exact hk2 y4 I3 hf _ _ _ hR hS (lv_sub hl [1, 2, 0] rfl)
set_option maxRecDepth 20000 in
theorem M_X6_endBargains (G : XG) (l : Launch) (kp : Bool) (N : Nat) {I : xTI} {L : xTL} {x2 : Int32} {rI : xTI} (hf : F_X6_endBargains N I x2 = some rI) : xMet G l yX6_endBargains cX6_endBargains 4 none 2 46 kp [.ref (xz G + 41), .ref (xz G + 11), .int x2] I L none rI L := by
  refine xMet.ofW (by decide +kernel) (Nat.le_of_ble_eq_true rfl) ?_
  intro p e s m args below meth c hC H locs ls hR hS hl
  replace hC : xC G p s m args meth c cX6_endBargains 4 RX6 none := hC
  replace hl : lv_has ls 4 [(0, .ref (xz G + 41)), (1, .ref (xz G + 11)), (2, .int x2)] := hl
  unfold F_X6_endBargains at hf
  refine lv_iconst (v := 0) hC.1 hC.2.1 dX6_endBargains_0 (by decide) ?_
  refine lv_istore_n (lv' := [(3, .int 0), (0, .ref (xz G + 41)), (1, .ref (xz G + 11)), (2, .int x2)]) hC.1 hC.2.1 dX6_endBargains_1 rfl hl (Nat.le_of_ble_eq_true rfl) rfl (fun ls hl => ?_)
  exact W_X6_endBargains_l2 hC N _ 0 I hf _ _ _ hR hS (lv_sub hl [2, 3, 0] rfl)
set_option maxRecDepth 20000 in
theorem W_X6_hammer_l4 {G : XG} {l : Launch} {kp : Bool} {p : Program} {e : Env} {s : State} {m : MethodId} {args : Array Value} {below : List Frame} {meth : Method} {c : Code} (hC : xC G p s m args meth c cX6_hammer 4 RX6 (some .int)) (N : Nat) {L : xTL} {r : Int32} {rI : xTI} : ∀ (n : Nat) (x2 : Int32) (x3 : Int32) (I : xTI) , xlp (F_X6_hammer_b4 N L ) n (x2, x3, I) = some (r, rI) → ∀ (H : Heap) (locs : List Loc) (ls : Array Slot), xRep G kp I L H → xS G s.heap H locs → lv_has ls 4 [(0, .ref (xz G + 41)), (1, .ref (xz G + 1)), (2, .int x2), (3, .int x3)] → W p l e (xrm 1 25) s m args below meth c H locs 0 0 (xMQ G kp below args s (some (.int r)) rI L) (F0 m 4 ls []) := by
  intro n
  induction n with
  | zero =>
    intro x2 x3 I hf
    cases hf
  | succ n hk4 =>
    intro x2 x3 I hf H locs ls hR hS hl
    rw [xlp_s, E_X6_hammer_b4] at hf
    unfold F_X6_hammer_c4 at hf
    refine lv_iload_n hC.1 hC.2.1 dX6_hammer_4 rfl (lv_at hl 3 rfl) ?_
    refine lv_aload_n hC.1 hC.2.1 dX6_hammer_5 rfl (lv_at hl 1 rfl) ?_
    refine x_get (v := .ref (xz G + 3)) hC xf_X6_47 (xce_1 G kp _ _) rfl hR dX6_hammer_6 ?_
    refine x_getI hC xf_X6_160 (xce_3 G kp _ _) rfl hR dX6_hammer_9 hf (fun v1 hf => ?_)
    refine x_ic_ge (tgt := 56) hC dX6_hammer_12 (by decide) hf (fun hf => ?_) (fun hf => ?_)
    · refine lv_iload_n hC.1 hC.2.1 dX6_hammer_56 rfl (lv_at hl 2 rfl) ?_
      obtain ⟨h91, h92⟩ := Prod.mk.inj (Option.some.inj hf)
      subst h91
      subst h92
      exact x_iret hC hR hS dX6_hammer_57
    · refine lv_aload_n hC.1 hC.2.1 dX6_hammer_15 rfl (lv_at hl 0 rfl) ?_
      refine lv_aload_n hC.1 hC.2.1 dX6_hammer_16 rfl (lv_at hl 0 rfl) ?_
      refine x_get (v := .ref (xz G + 43)) hC xf_X6_15 (xce_41 G kp _ _) rfl hR dX6_hammer_17 ?_
      refine lv_iload_n hC.1 hC.2.1 dX6_hammer_20 rfl (lv_at hl 3 rfl) ?_
      refine x_cvl00 (rest := []) hC xy_X6_sumOf tw_960 hf (fun _ h => M_X6_sumOf_43 G l kp N h) ⟨Nat.le_of_ble_eq_true rfl, Nat.le_of_ble_eq_true rfl⟩ (xce_41 G kp _ _) rfl rfl rfl (Nat.le_of_ble_eq_true rfl) hl.1 hR hS dX6_hammer_21 ⟨Nat.le_refl _, Nat.le_refl _⟩ (fun v2 hf H locs hR hS => ?_)
      refine lv_aload_n hC.1 hC.2.1 dX6_hammer_24 rfl (lv_at hl 0 rfl) ?_
      refine x_get (v := .ref (xz G + 45)) hC xf_X6_21 (xce_41 G kp _ _) rfl hR dX6_hammer_25 ?_
      refine lv_iload_n hC.1 hC.2.1 dX6_hammer_28 rfl (lv_at hl 3 rfl) ?_
      refine x_lal hC (xce_45 G kp _ _) hR dX6_hammer_29 hf (fun v3 hf => ?_)
      refine W.lcmp hC.1 hC.2.1 dX6_hammer_30 ?_
      refine x_if_ge (tgt := 50) hC dX6_hammer_31 (by decide) hf (fun hf => ?_) (fun hf => ?_)
      · refine x_iinc (d := 1) (lv' := fun y4 => [(3, .int y4), (0, .ref (xz G + 41)), (1, .ref (xz G + 1)), (2, .int x2)]) (k := 3) hC hl dX6_hammer_50 rfl (by decide) (Nat.le_of_ble_eq_true rfl) hf (fun _ => rfl) (fun y4 hf ls hl => ?_)
        refine lv_goto (tgt := 4) hC.1 hC.2.1 dX6_hammer_53 (by decide) ?_
        exact hk4 x2 y4 I hf _ _ _ hR hS (lv_sub hl [1, 2, 3, 0] rfl)
      · refine lv_aload_n hC.1 hC.2.1 dX6_hammer_34 rfl (lv_at hl 1 rfl) ?_
        refine x_get (v := .ref (xz G + 3)) hC xf_X6_47 (xce_1 G kp _ _) rfl hR dX6_hammer_35 ?_
        refine x_get (v := .ref (xz G + 8)) hC xf_X6_181 (xce_3 G kp _ _) rfl hR dX6_hammer_38 ?_
        refine lv_iload_n hC.1 hC.2.1 dX6_hammer_41 rfl (lv_at hl 3 rfl) ?_
        refine lv_aload_n hC.1 hC.2.1 dX6_hammer_42 rfl (lv_at hl 1 rfl) ?_
        refine x_getI hC xf_X6_184 (xce_1 G kp _ _) rfl hR dX6_hammer_43 hf (fun v5 hf => ?_)
        refine x_ias hC (fun f => (xce_8 G kp f _)) hR hS dX6_hammer_46 hf (fun I6 hf H locs hR hS => ?_)
        refine x_iinc (d := 1) (lv' := fun y7 => [(2, .int y7), (0, .ref (xz G + 41)), (1, .ref (xz G + 1)), (3, .int x3)]) (k := 2) hC hl dX6_hammer_47 rfl (by decide) (Nat.le_of_ble_eq_true rfl) hf (fun _ => rfl) (fun y7 hf ls hl => ?_)
        refine x_iinc (d := 1) (lv' := fun y8 => [(3, .int y8), (2, .int y7), (0, .ref (xz G + 41)), (1, .ref (xz G + 1))]) (k := 3) hC hl dX6_hammer_50 rfl (by decide) (Nat.le_of_ble_eq_true rfl) hf (fun _ => rfl) (fun y8 hf ls hl => ?_)
        refine lv_goto (tgt := 4) hC.1 hC.2.1 dX6_hammer_53 (by decide) ?_
        exact hk4 y7 y8 I6 hf _ _ _ hR hS (lv_sub hl [2, 3, 1, 0] rfl)
set_option maxRecDepth 20000 in
theorem M_X6_hammer (G : XG) (l : Launch) (kp : Bool) (N : Nat) {I : xTI} {L : xTL} {r : Int32} {rI : xTI} (hf : F_X6_hammer N I L = some (r, rI)) : xMet G l yX6_hammer cX6_hammer 4 (some .int) 1 25 kp [.ref (xz G + 41), .ref (xz G + 1)] I L (some (.int r)) rI L := by
  refine xMet.ofW (by decide +kernel) (Nat.le_of_ble_eq_true rfl) ?_
  intro p e s m args below meth c hC H locs ls hR hS hl
  replace hC : xC G p s m args meth c cX6_hammer 4 RX6 (some .int) := hC
  replace hl : lv_has ls 4 [(0, .ref (xz G + 41)), (1, .ref (xz G + 1))] := hl
  unfold F_X6_hammer at hf
  refine lv_iconst (v := 0) hC.1 hC.2.1 dX6_hammer_0 (by decide) ?_
  refine lv_istore_n (lv' := [(2, .int 0), (0, .ref (xz G + 41)), (1, .ref (xz G + 1))]) hC.1 hC.2.1 dX6_hammer_1 rfl hl (Nat.le_of_ble_eq_true rfl) rfl (fun ls hl => ?_)
  refine lv_iconst (v := 0) hC.1 hC.2.1 dX6_hammer_2 (by decide) ?_
  refine lv_istore_n (lv' := [(3, .int 0), (2, .int 0), (0, .ref (xz G + 41)), (1, .ref (xz G + 1))]) hC.1 hC.2.1 dX6_hammer_3 rfl hl (Nat.le_of_ble_eq_true rfl) rfl (fun ls hl => ?_)
  exact W_X6_hammer_l4 hC N _ 0 0 I hf _ _ _ hR hS (lv_sub hl [2, 3, 1, 0] rfl)
set_option maxRecDepth 20000 in
theorem W_X6_voidBargainsOf_j114 {G : XG} {l : Launch} {kp : Bool} {p : Program} {e : Env} {s : State} {m : MethodId} {args : Array Value} {below : List Frame} {meth : Method} {c : Code} (hC : xC G p s m args meth c cX6_voidBargainsOf 10 RX6 none) (N : Nat) {I : xTI} {L : xTL} {rI : xTI} {rL : xTL} {x2 : Int32} {x4 : Int32} {x6 : Int32} {t0 : Int64} {t1 : Int32} (k8 : Int32 × xTI × xTL → Option (xTI × xTL)) (hk8 : ∀ (x4 : Int32) (I : xTI) (L : xTL) , k8 (x4, I, L) = some (rI, rL) → ∀ (H : Heap) (locs : List Loc) (ls : Array Slot), xRep G kp I L H → xS G s.heap H locs → lv_has ls 10 [(1, .ref (xz G + 1)), (2, .int x2), (3, .ref (xz G + 11)), (4, .int x4)] → W p l e (xrm 2 46) s m args below meth c H locs 0 0 (xMQ G kp below args s none rI rL) (F0 m 8 ls [])) (hf : F_X6_voidBargainsOf_j114 k8 N I L x2 x4 x6 t0 t1 = some (rI, rL)) : ∀ (H : Heap) (locs : List Loc) (ls : Array Slot), xRep G kp I L H → xS G s.heap H locs → lv_has ls 10 [(1, .ref (xz G + 1)), (2, .int x2), (3, .ref (xz G + 11)), (4, .int x4), (6, .int x6)] → W p l e (xrm 2 46) s m args below meth c H locs 0 0 (xMQ G kp below args s none rI rL) (F0 m 114 ls [.int t1, .long t0]) := by
  intro H locs ls hR hS hl
  unfold F_X6_voidBargainsOf_j114 at hf
  refine lv_i2l hC.1 hC.2.1 dX6_voidBargainsOf_114 rfl ?_
  refine lv_lmul hC.1 hC.2.1 dX6_voidBargainsOf_115 ?_
  refine x_lst (lv' := fun y1 => [(8, .long y1), (1, .ref (xz G + 1)), (2, .int x2), (3, .ref (xz G + 11)), (4, .int x4), (6, .int x6)]) hC hl dX6_voidBargainsOf_116 (Nat.le_of_ble_eq_true rfl) hf (fun _ => rfl) (fun y1 hf ls hl => ?_)
  refine lv_aload_n hC.1 hC.2.1 dX6_voidBargainsOf_118 rfl (lv_at hl 1 rfl) ?_
  refine x_get (v := .ref (xz G + 3)) hC xf_X6_47 (xce_1 G kp _ _) rfl hR dX6_voidBargainsOf_119 ?_
  refine x_get (v := .ref (xz G + 5)) hC xf_X6_207 (xce_3 G kp _ _) rfl hR dX6_voidBargainsOf_122 ?_
  refine lv_iload hC.1 hC.2.1 dX6_voidBargainsOf_125 (lv_at hl 5 rfl) ?_
  refine lv_dup2_11 hC.1 hC.2.1 dX6_voidBargainsOf_127 rfl rfl ?_
  refine x_lal hC (xce_5 G kp _ _) hR dX6_voidBargainsOf_128 hf (fun v2 hf => ?_)
  refine lv_lload hC.1 hC.2.1 dX6_voidBargainsOf_129 (lv_at hl 0 rfl) ?_
  refine lv_lconst (v := 0) hC.1 hC.2.1 dX6_voidBargainsOf_131 (by decide) ?_
  refine W.eq (g2 := F0 m 132 ls [.long 0, .long y1, .long v2, .int x6, .ref (xz G + 5)]) rfl ?_
  refine x_mxl (rest := [.long v2, .int x6, .ref (xz G + 5)]) hC tw_959 hl.1 (Nat.le_of_ble_eq_true rfl) (Nat.le_of_ble_eq_true rfl) dX6_voidBargainsOf_132 ⟨Nat.le_refl _, Nat.le_refl _⟩ hf (fun v3 hf => ?_)
  refine lv_ladd hC.1 hC.2.1 dX6_voidBargainsOf_135 ?_
  refine x_las hC (fun f => (xce_5 G kp _ f)) hR hS dX6_voidBargainsOf_136 hf (fun L4 hf H locs hR hS => ?_)
  refine lv_aload_n hC.1 hC.2.1 dX6_voidBargainsOf_137 rfl (lv_at hl 3 rfl) ?_
  refine lv_iload hC.1 hC.2.1 dX6_voidBargainsOf_138 (lv_at hl 4 rfl) ?_
  refine lv_iconst (v := 3) hC.1 hC.2.1 dX6_voidBargainsOf_140 (by decide) ?_
  refine x_cvv10 (rest := []) hC xy_X0_putState tw_989 hf (fun _ h => M_X0_putState G l kp h) ⟨Nat.le_of_ble_eq_true rfl, Nat.le_of_ble_eq_true rfl⟩ (xce_11 G kp _ _) rfl rfl rfl (Nat.le_of_ble_eq_true rfl) hl.1 hR hS dX6_voidBargainsOf_141 ⟨Nat.le_refl _, Nat.le_refl _⟩ (fun I5 hf H locs hR hS => ?_)
  refine x_iinc (d := 1) (lv' := fun y6 => [(4, .int y6), (8, .long y1), (1, .ref (xz G + 1)), (2, .int x2), (3, .ref (xz G + 11)), (6, .int x6)]) (k := 4) hC hl dX6_voidBargainsOf_144 rfl (by decide) (Nat.le_of_ble_eq_true rfl) hf (fun _ => rfl) (fun y6 hf ls hl => ?_)
  refine lv_goto (tgt := 8) hC.1 hC.2.1 dX6_voidBargainsOf_147 (by decide) ?_
  exact hk8 y6 I5 L4 hf _ _ _ hR hS (lv_sub hl [2, 3, 4, 0] rfl)
set_option maxRecDepth 20000 in
theorem W_X6_voidBargainsOf_j66 {G : XG} {l : Launch} {kp : Bool} {p : Program} {e : Env} {s : State} {m : MethodId} {args : Array Value} {below : List Frame} {meth : Method} {c : Code} (hC : xC G p s m args meth c cX6_voidBargainsOf 10 RX6 none) (N : Nat) {I : xTI} {L : xTL} {rI : xTI} {rL : xTL} {x2 : Int32} {x4 : Int32} {x5 : Int32} {t1 : Int32} {t2 : Int32} (k8 : Int32 × xTI × xTL → Option (xTI × xTL)) (hk8 : ∀ (x4 : Int32) (I : xTI) (L : xTL) , k8 (x4, I, L) = some (rI, rL) → ∀ (H : Heap) (locs : List Loc) (ls : Array Slot), xRep G kp I L H → xS G s.heap H locs → lv_has ls 10 [(1, .ref (xz G + 1)), (2, .int x2), (3, .ref (xz G + 11)), (4, .int x4)] → W p l e (xrm 2 46) s m args below meth c H locs 0 0 (xMQ G kp below args s none rI rL) (F0 m 8 ls [])) (hf : F_X6_voidBargainsOf_j66 k8 N I L x2 x4 x5 t1 t2 = some (rI, rL)) : ∀ (H : Heap) (locs : List Loc) (ls : Array Slot), xRep G kp I L H → xS G s.heap H locs → lv_has ls 10 [(1, .ref (xz G + 1)), (2, .int x2), (3, .ref (xz G + 11)), (4, .int x4), (5, .int x5)] → W p l e (xrm 2 46) s m args below meth c H locs 0 0 (xMQ G kp below args s none rI rL) (F0 m 66 ls [.int t2, .int t1, .ref (xz G + 11)]) := by
  intro H locs ls hR hS hl
  unfold F_X6_voidBargainsOf_j66 at hf
  refine x_cvi00 (rest := []) hC xy_X0_at tw_929 hf (fun _ h => M_X0_at G l kp h) ⟨Nat.le_of_ble_eq_true rfl, Nat.le_of_ble_eq_true rfl⟩ (xce_11 G kp _ _) rfl rfl rfl (Nat.le_of_ble_eq_true rfl) hl.1 hR hS dX6_voidBargainsOf_66 ⟨Nat.le_refl _, Nat.le_refl _⟩ (fun v1 hf H locs hR hS => ?_)
  refine lv_istore (lv' := [(6, .int v1), (1, .ref (xz G + 1)), (2, .int x2), (3, .ref (xz G + 11)), (4, .int x4), (5, .int x5)]) hC.1 hC.2.1 dX6_voidBargainsOf_69 hl (Nat.le_of_ble_eq_true rfl) rfl (fun ls hl => ?_)
  refine lv_aload_n hC.1 hC.2.1 dX6_voidBargainsOf_71 rfl (lv_at hl 1 rfl) ?_
  refine x_get (v := .ref (xz G + 2)) hC xf_X6_89 (xce_1 G kp _ _) rfl hR dX6_voidBargainsOf_72 ?_
  refine lv_aload_n hC.1 hC.2.1 dX6_voidBargainsOf_75 rfl (lv_at hl 3 rfl) ?_
  refine lv_iload hC.1 hC.2.1 dX6_voidBargainsOf_76 (lv_at hl 4 rfl) ?_
  refine lv_iconst (v := 2) hC.1 hC.2.1 dX6_voidBargainsOf_78 (by decide) ?_
  refine x_cvi00 (rest := [.ref (xz G + 2)]) hC xy_X0_at tw_929 hf (fun _ h => M_X0_at G l kp h) ⟨Nat.le_of_ble_eq_true rfl, Nat.le_of_ble_eq_true rfl⟩ (xce_11 G kp _ _) rfl rfl rfl (Nat.le_of_ble_eq_true rfl) hl.1 hR hS dX6_voidBargainsOf_79 ⟨Nat.le_refl _, Nat.le_refl _⟩ (fun v2 hf H locs hR hS => ?_)
  refine x_ial hC (xce_2 G kp _ _) hR dX6_voidBargainsOf_82 hf (fun v3 hf => ?_)
  refine lv_aload_n hC.1 hC.2.1 dX6_voidBargainsOf_83 rfl (lv_at hl 3 rfl) ?_
  refine lv_iload hC.1 hC.2.1 dX6_voidBargainsOf_84 (lv_at hl 4 rfl) ?_
  refine W.eq (g2 := F0 m 86 ls [.int x4, .ref (xz G + 11), .int v3]) rfl ?_
  refine lv_iconst (v := 4) hC.1 hC.2.1 dX6_voidBargainsOf_86 (by decide) ?_
  refine x_cvi00 (rest := [.int v3]) hC xy_X0_at tw_929 hf (fun _ h => M_X0_at G l kp h) ⟨Nat.le_of_ble_eq_true rfl, Nat.le_of_ble_eq_true rfl⟩ (xce_11 G kp _ _) rfl rfl rfl (Nat.le_of_ble_eq_true rfl) hl.1 hR hS dX6_voidBargainsOf_87 ⟨Nat.le_refl _, Nat.le_refl _⟩ (fun v4 hf H locs hR hS => ?_)
  refine lv_isub hC.1 hC.2.1 dX6_voidBargainsOf_90 ?_
  refine x_ist (lv' := fun y5 => [(7, .int y5), (6, .int v1), (1, .ref (xz G + 1)), (2, .int x2), (3, .ref (xz G + 11)), (4, .int x4), (5, .int x5)]) hC hl dX6_voidBargainsOf_91 (Nat.le_of_ble_eq_true rfl) hf (fun _ => rfl) (fun y5 hf ls hl => ?_)
  refine lv_aload_n hC.1 hC.2.1 dX6_voidBargainsOf_93 rfl (lv_at hl 4 rfl) ?_
  refine lv_iload hC.1 hC.2.1 dX6_voidBargainsOf_94 (lv_at hl 5 rfl) ?_
  refine lv_iconst (v := 3) hC.1 hC.2.1 dX6_voidBargainsOf_96 (by decide) ?_
  refine x_cvi00 (rest := []) hC xy_X0_at tw_929 hf (fun _ h => M_X0_at G l kp h) ⟨Nat.le_of_ble_eq_true rfl, Nat.le_of_ble_eq_true rfl⟩ (xce_11 G kp _ _) rfl rfl rfl (Nat.le_of_ble_eq_true rfl) hl.1 hR hS dX6_voidBargainsOf_97 ⟨Nat.le_refl _, Nat.le_refl _⟩ (fun v6 hf H locs hR hS => ?_)
  refine lv_i2l hC.1 hC.2.1 dX6_voidBargainsOf_100 rfl ?_
  refine lv_iload hC.1 hC.2.1 dX6_voidBargainsOf_101 (lv_at hl 6 rfl) ?_
  refine x_if_eq (tgt := 111) hC dX6_voidBargainsOf_103 (by decide) hf (fun hf => ?_) (fun hf => ?_)
  · refine lv_iload hC.1 hC.2.1 dX6_voidBargainsOf_111 (lv_at hl 0 rfl) ?_
    refine lv_ineg hC.1 hC.2.1 dX6_voidBargainsOf_113 ?_
    exact W_X6_voidBargainsOf_j114 hC N _ hk8 hf _ _ _ hR hS (lv_sub hl [2, 3, 4, 5, 1] rfl)
  · refine lv_iload hC.1 hC.2.1 dX6_voidBargainsOf_106 (lv_at hl 0 rfl) ?_
    refine lv_goto (tgt := 114) hC.1 hC.2.1 dX6_voidBargainsOf_108 (by decide) ?_
    exact W_X6_voidBargainsOf_j114 hC N _ hk8 hf _ _ _ hR hS (lv_sub hl [2, 3, 4, 5, 1] rfl)
set_option maxRecDepth 20000 in
theorem W_X6_voidBargainsOf_j51 {G : XG} {l : Launch} {kp : Bool} {p : Program} {e : Env} {s : State} {m : MethodId} {args : Array Value} {below : List Frame} {meth : Method} {c : Code} (hC : xC G p s m args meth c cX6_voidBargainsOf 10 RX6 none) (N : Nat) {I : xTI} {L : xTL} {rI : xTI} {rL : xTL} {x2 : Int32} {x4 : Int32} {t0 : Int32} (k8 : Int32 × xTI × xTL → Option (xTI × xTL)) (hk8 : ∀ (x4 : Int32) (I : xTI) (L : xTL) , k8 (x4, I, L) = some (rI, rL) → ∀ (H : Heap) (locs : List Loc) (ls : Array Slot), xRep G kp I L H → xS G s.heap H locs → lv_has ls 10 [(1, .ref (xz G + 1)), (2, .int x2), (3, .ref (xz G + 11)), (4, .int x4)] → W p l e (xrm 2 46) s m args below meth c H locs 0 0 (xMQ G kp below args s none rI rL) (F0 m 8 ls [])) (hf : F_X6_voidBargainsOf_j51 k8 N I L x2 x4 t0 = some (rI, rL)) : ∀ (H : Heap) (locs : List Loc) (ls : Array Slot), xRep G kp I L H → xS G s.heap H locs → lv_has ls 10 [(1, .ref (xz G + 1)), (2, .int x2), (3, .ref (xz G + 11)), (4, .int x4)] → W p l e (xrm 2 46) s m args below meth c H locs 0 0 (xMQ G kp below args s none rI rL) (F0 m 51 ls [.int t0]) := by
  intro H locs ls hR hS hl
  unfold F_X6_voidBargainsOf_j51 at hf
  refine lv_istore (lv' := [(5, .int t0), (1, .ref (xz G + 1)), (2, .int x2), (3, .ref (xz G + 11)), (4, .int x4)]) hC.1 hC.2.1 dX6_voidBargainsOf_51 hl (Nat.le_of_ble_eq_true rfl) rfl (fun ls hl => ?_)
  refine lv_aload_n hC.1 hC.2.1 dX6_voidBargainsOf_53 rfl (lv_at hl 3 rfl) ?_
  refine lv_iload hC.1 hC.2.1 dX6_voidBargainsOf_54 (lv_at hl 4 rfl) ?_
  refine lv_iload hC.1 hC.2.1 dX6_voidBargainsOf_56 (lv_at hl 0 rfl) ?_
  refine x_if_eq (tgt := 65) hC dX6_voidBargainsOf_58 (by decide) hf (fun hf => ?_) (fun hf => ?_)
  · refine lv_iconst (v := 0) hC.1 hC.2.1 dX6_voidBargainsOf_65 (by decide) ?_
    exact W_X6_voidBargainsOf_j66 hC N _ hk8 hf _ _ _ hR hS (lv_sub hl [1, 2, 3, 4, 0] rfl)
  · refine lv_iconst (v := 1) hC.1 hC.2.1 dX6_voidBargainsOf_61 (by decide) ?_
    refine lv_goto (tgt := 66) hC.1 hC.2.1 dX6_voidBargainsOf_62 (by decide) ?_
    exact W_X6_voidBargainsOf_j66 hC N _ hk8 hf _ _ _ hR hS (lv_sub hl [1, 2, 3, 4, 0] rfl)
set_option maxRecDepth 20000 in
theorem W_X6_voidBargainsOf_l8 {G : XG} {l : Launch} {kp : Bool} {p : Program} {e : Env} {s : State} {m : MethodId} {args : Array Value} {below : List Frame} {meth : Method} {c : Code} (hC : xC G p s m args meth c cX6_voidBargainsOf 10 RX6 none) (N : Nat) {rI : xTI} {rL : xTL} {x2 : Int32} : ∀ (n : Nat) (x4 : Int32) (I : xTI) (L : xTL) , xlp (F_X6_voidBargainsOf_b8 N x2 ) n (x4, I, L) = some (rI, rL) → ∀ (H : Heap) (locs : List Loc) (ls : Array Slot), xRep G kp I L H → xS G s.heap H locs → lv_has ls 10 [(1, .ref (xz G + 1)), (2, .int x2), (3, .ref (xz G + 11)), (4, .int x4)] → W p l e (xrm 2 46) s m args below meth c H locs 0 0 (xMQ G kp below args s none rI rL) (F0 m 8 ls []) := by
  intro n
  induction n with
  | zero =>
    intro x4 I L hf
    cases hf
  | succ n hk8 =>
    intro x4 I L hf H locs ls hR hS hl
    rw [xlp_s, E_X6_voidBargainsOf_b8] at hf
    unfold F_X6_voidBargainsOf_c8 at hf
    refine lv_iload hC.1 hC.2.1 dX6_voidBargainsOf_8 (lv_at hl 3 rfl) ?_
    refine lv_bipush (v := 60) hC.1 hC.2.1 dX6_voidBargainsOf_10 (by decide) ?_
    refine x_ic_ge (tgt := 150) hC dX6_voidBargainsOf_12 (by decide) hf (fun hf => ?_) (fun hf => ?_)
    · obtain ⟨h91, h92⟩ := Prod.mk.inj (Option.some.inj hf)
      subst h91
      subst h92
      exact x_vret hC hR hS dX6_voidBargainsOf_150
    · refine lv_aload_n hC.1 hC.2.1 dX6_voidBargainsOf_15 rfl (lv_at hl 2 rfl) ?_
      refine lv_iload hC.1 hC.2.1 dX6_voidBargainsOf_16 (lv_at hl 3 rfl) ?_
      refine x_cvi00 (rest := []) hC xy_X0_isLiving tw_1003 hf (fun _ h => M_X0_isLiving G l kp h) ⟨Nat.le_of_ble_eq_true rfl, Nat.le_of_ble_eq_true rfl⟩ (xce_11 G kp _ _) rfl rfl rfl (Nat.le_of_ble_eq_true rfl) hl.1 hR hS dX6_voidBargainsOf_18 ⟨Nat.le_refl _, Nat.le_refl _⟩ (fun v1 hf H locs hR hS => ?_)
      refine x_if_eq (tgt := 144) hC dX6_voidBargainsOf_21 (by decide) hf (fun hf => ?_) (fun hf => ?_)
      · refine x_iinc (d := 1) (lv' := fun y2 => [(4, .int y2), (1, .ref (xz G + 1)), (2, .int x2), (3, .ref (xz G + 11))]) (k := 3) hC hl dX6_voidBargainsOf_144 rfl (by decide) (Nat.le_of_ble_eq_true rfl) hf (fun _ => rfl) (fun y2 hf ls hl => ?_)
        refine lv_goto (tgt := 8) hC.1 hC.2.1 dX6_voidBargainsOf_147 (by decide) ?_
        exact hk8 y2 I L hf _ _ _ hR hS (lv_sub hl [1, 2, 3, 0] rfl)
      · refine lv_aload_n hC.1 hC.2.1 dX6_voidBargainsOf_24 rfl (lv_at hl 2 rfl) ?_
        refine lv_iload hC.1 hC.2.1 dX6_voidBargainsOf_25 (lv_at hl 3 rfl) ?_
        refine lv_iload_n hC.1 hC.2.1 dX6_voidBargainsOf_27 rfl (lv_at hl 1 rfl) ?_
        refine x_cvi00 (rest := []) hC xy_X0_markColumnOf tw_1004 hf (fun _ h => M_X0_markColumnOf G l kp h) ⟨Nat.le_of_ble_eq_true rfl, Nat.le_of_ble_eq_true rfl⟩ (xce_11 G kp _ _) rfl rfl rfl (Nat.le_of_ble_eq_true rfl) hl.1 hR hS dX6_voidBargainsOf_28 ⟨Nat.le_refl _, Nat.le_refl _⟩ (fun v3 hf H locs hR hS => ?_)
        refine lv_iconst (v := (-1)) hC.1 hC.2.1 dX6_voidBargainsOf_31 (by decide) ?_
        refine x_ic_eq (tgt := 144) hC dX6_voidBargainsOf_32 (by decide) hf (fun hf => ?_) (fun hf => ?_)
        · refine x_iinc (d := 1) (lv' := fun y4 => [(4, .int y4), (1, .ref (xz G + 1)), (2, .int x2), (3, .ref (xz G + 11))]) (k := 3) hC hl dX6_voidBargainsOf_144 rfl (by decide) (Nat.le_of_ble_eq_true rfl) hf (fun _ => rfl) (fun y4 hf ls hl => ?_)
          refine lv_goto (tgt := 8) hC.1 hC.2.1 dX6_voidBargainsOf_147 (by decide) ?_
          exact hk8 y4 I L hf _ _ _ hR hS (lv_sub hl [1, 2, 3, 0] rfl)
        · refine lv_aload_n hC.1 hC.2.1 dX6_voidBargainsOf_35 rfl (lv_at hl 2 rfl) ?_
          refine lv_iload hC.1 hC.2.1 dX6_voidBargainsOf_36 (lv_at hl 3 rfl) ?_
          refine lv_iconst (v := 0) hC.1 hC.2.1 dX6_voidBargainsOf_38 (by decide) ?_
          refine x_cvi00 (rest := []) hC xy_X0_at tw_929 hf (fun _ h => M_X0_at G l kp h) ⟨Nat.le_of_ble_eq_true rfl, Nat.le_of_ble_eq_true rfl⟩ (xce_11 G kp _ _) rfl rfl rfl (Nat.le_of_ble_eq_true rfl) hl.1 hR hS dX6_voidBargainsOf_39 ⟨Nat.le_refl _, Nat.le_refl _⟩ (fun v5 hf H locs hR hS => ?_)
          refine lv_iload_n hC.1 hC.2.1 dX6_voidBargainsOf_42 rfl (lv_at hl 1 rfl) ?_
          refine x_ic_ne (tgt := 50) hC dX6_voidBargainsOf_43 (by decide) hf (fun hf => ?_) (fun hf => ?_)
          · refine lv_iconst (v := 0) hC.1 hC.2.1 dX6_voidBargainsOf_50 (by decide) ?_
            exact W_X6_voidBargainsOf_j51 hC N _ hk8 hf _ _ _ hR hS (lv_sub hl [0, 1, 2, 3] rfl)
          · refine lv_iconst (v := 1) hC.1 hC.2.1 dX6_voidBargainsOf_46 (by decide) ?_
            refine lv_goto (tgt := 51) hC.1 hC.2.1 dX6_voidBargainsOf_47 (by decide) ?_
            exact W_X6_voidBargainsOf_j51 hC N _ hk8 hf _ _ _ hR hS (lv_sub hl [0, 1, 2, 3] rfl)
set_option maxRecDepth 20000 in
theorem M_X6_voidBargainsOf (G : XG) (l : Launch) (kp : Bool) (N : Nat) {I : xTI} {L : xTL} {x2 : Int32} {rI : xTI} {rL : xTL} (hf : F_X6_voidBargainsOf N I L x2 = some (rI, rL)) : xMet G l yX6_voidBargainsOf cX6_voidBargainsOf 10 none 2 46 kp [.ref (xz G + 41), .ref (xz G + 1), .int x2] I L none rI rL := by
  refine xMet.ofW (by decide +kernel) (Nat.le_of_ble_eq_true rfl) ?_
  intro p e s m args below meth c hC H locs ls hR hS hl
  replace hC : xC G p s m args meth c cX6_voidBargainsOf 10 RX6 none := hC
  replace hl : lv_has ls 10 [(0, .ref (xz G + 41)), (1, .ref (xz G + 1)), (2, .int x2)] := hl
  unfold F_X6_voidBargainsOf at hf
  refine lv_aload_n hC.1 hC.2.1 dX6_voidBargainsOf_0 rfl (lv_at hl 1 rfl) ?_
  refine x_get (v := .ref (xz G + 11)) hC xf_X6_64 (xce_1 G kp _ _) rfl hR dX6_voidBargainsOf_1 ?_
  refine lv_astore_n (lv' := [(3, .ref (xz G + 11)), (0, .ref (xz G + 41)), (1, .ref (xz G + 1)), (2, .int x2)]) hC.1 hC.2.1 dX6_voidBargainsOf_4 rfl hl (Nat.le_of_ble_eq_true rfl) rfl (fun ls hl => ?_)
  refine lv_iconst (v := 0) hC.1 hC.2.1 dX6_voidBargainsOf_5 (by decide) ?_
  refine lv_istore (lv' := [(4, .int 0), (3, .ref (xz G + 11)), (0, .ref (xz G + 41)), (1, .ref (xz G + 1)), (2, .int x2)]) hC.1 hC.2.1 dX6_voidBargainsOf_6 hl (Nat.le_of_ble_eq_true rfl) rfl (fun ls hl => ?_)
  exact W_X6_voidBargainsOf_l8 hC N _ 0 I L hf _ _ _ hR hS (lv_sub hl [3, 4, 1, 0] rfl)
set_option maxRecDepth 20000 in
theorem W_X6_endOptionsOf_20_j35 {G : XG} {l : Launch} {kp : Bool} {p : Program} {e : Env} {s : State} {m : MethodId} {args : Array Value} {below : List Frame} {meth : Method} {c : Code} (hC : xC G p s m args meth c cX6_endOptionsOf 5 RX6 none) (N : Nat) {I : xTI} {L : xTL} {rI : xTI} {x2 : Int32} {x3 : Int32} {t0 : Int32} (k2 : Int32 × xTI → Option (xTI)) (hk2 : ∀ (x3 : Int32) (I : xTI) , k2 (x3, I) = some rI → ∀ (H : Heap) (locs : List Loc) (ls : Array Slot), xRep G kp I L H → xS G s.heap H locs → lv_has ls 5 [(1, .ref (xz G + 20)), (2, .int x2), (3, .int x3)] → W p l e (xrm 1 24) s m args below meth c H locs 0 0 (xMQ G kp below args s none rI L) (F0 m 2 ls [])) (hf : F_X6_endOptionsOf_20_j35 k2 N I x2 x3 t0 = some rI) : ∀ (H : Heap) (locs : List Loc) (ls : Array Slot), xRep G kp I L H → xS G s.heap H locs → lv_has ls 5 [(1, .ref (xz G + 20)), (2, .int x2), (3, .int x3)] → W p l e (xrm 1 24) s m args below meth c H locs 0 0 (xMQ G kp below args s none rI L) (F0 m 35 ls [.int t0]) := by
  intro H locs ls hR hS hl
  unfold F_X6_endOptionsOf_20_j35 at hf
  refine lv_istore (lv' := [(4, .int t0), (1, .ref (xz G + 20)), (2, .int x2), (3, .int x3)]) hC.1 hC.2.1 dX6_endOptionsOf_35 hl (Nat.le_of_ble_eq_true rfl) rfl (fun ls hl => ?_)
  refine lv_iload hC.1 hC.2.1 dX6_endOptionsOf_37 (lv_at hl 0 rfl) ?_
  refine x_if_eq (tgt := 60) hC dX6_endOptionsOf_39 (by decide) hf (fun hf => ?_) (fun hf => ?_)
  · refine x_iinc (d := 1) (lv' := fun y1 => [(3, .int y1), (4, .int t0), (1, .ref (xz G + 20)), (2, .int x2)]) (k := 3) hC hl dX6_endOptionsOf_60 rfl (by decide) (Nat.le_of_ble_eq_true rfl) hf (fun _ => rfl) (fun y1 hf ls hl => ?_)
    refine lv_goto (tgt := 2) hC.1 hC.2.1 dX6_endOptionsOf_63 (by decide) ?_
    exact hk2 y1 I hf _ _ _ hR hS (lv_sub hl [2, 3, 0] rfl)
  · refine lv_aload_n hC.1 hC.2.1 dX6_endOptionsOf_42 rfl (lv_at hl 1 rfl) ?_
    refine lv_iload_n hC.1 hC.2.1 dX6_endOptionsOf_43 rfl (lv_at hl 3 rfl) ?_
    refine lv_bipush (v := 6) hC.1 hC.2.1 dX6_endOptionsOf_44 (by decide) ?_
    refine x_cvi00 (rest := []) hC xy_X8_at tw_939 hf (fun _ h => M_X8_at_20 G l kp h) ⟨Nat.le_of_ble_eq_true rfl, Nat.le_of_ble_eq_true rfl⟩ (xce_20 G kp _ _) rfl rfl rfl (Nat.le_of_ble_eq_true rfl) hl.1 hR hS dX6_endOptionsOf_46 ⟨Nat.le_refl _, Nat.le_refl _⟩ (fun v2 hf H locs hR hS => ?_)
    refine x_if_ne (tgt := 60) hC dX6_endOptionsOf_49 (by decide) hf (fun hf => ?_) (fun hf => ?_)
    · refine x_iinc (d := 1) (lv' := fun y3 => [(3, .int y3), (4, .int t0), (1, .ref (xz G + 20)), (2, .int x2)]) (k := 3) hC hl dX6_endOptionsOf_60 rfl (by decide) (Nat.le_of_ble_eq_true rfl) hf (fun _ => rfl) (fun y3 hf ls hl => ?_)
      refine lv_goto (tgt := 2) hC.1 hC.2.1 dX6_endOptionsOf_63 (by decide) ?_
      exact hk2 y3 I hf _ _ _ hR hS (lv_sub hl [2, 3, 0] rfl)
    · refine lv_aload_n hC.1 hC.2.1 dX6_endOptionsOf_52 rfl (lv_at hl 1 rfl) ?_
      refine lv_iload_n hC.1 hC.2.1 dX6_endOptionsOf_53 rfl (lv_at hl 3 rfl) ?_
      refine lv_bipush (v := 6) hC.1 hC.2.1 dX6_endOptionsOf_54 (by decide) ?_
      refine lv_iconst (v := 2) hC.1 hC.2.1 dX6_endOptionsOf_56 (by decide) ?_
      refine x_cvv10 (rest := []) hC xy_X8_put tw_1009 hf (fun _ h => M_X8_put_20 G l kp h) ⟨Nat.le_of_ble_eq_true rfl, Nat.le_of_ble_eq_true rfl⟩ (xce_20 G kp _ _) rfl rfl rfl (Nat.le_of_ble_eq_true rfl) hl.1 hR hS dX6_endOptionsOf_57 ⟨Nat.le_refl _, Nat.le_refl _⟩ (fun I4 hf H locs hR hS => ?_)
      refine x_iinc (d := 1) (lv' := fun y5 => [(3, .int y5), (4, .int t0), (1, .ref (xz G + 20)), (2, .int x2)]) (k := 3) hC hl dX6_endOptionsOf_60 rfl (by decide) (Nat.le_of_ble_eq_true rfl) hf (fun _ => rfl) (fun y5 hf ls hl => ?_)
      refine lv_goto (tgt := 2) hC.1 hC.2.1 dX6_endOptionsOf_63 (by decide) ?_
      exact hk2 y5 I4 hf _ _ _ hR hS (lv_sub hl [2, 3, 0] rfl)
set_option maxRecDepth 20000 in
theorem W_X6_endOptionsOf_20_l2 {G : XG} {l : Launch} {kp : Bool} {p : Program} {e : Env} {s : State} {m : MethodId} {args : Array Value} {below : List Frame} {meth : Method} {c : Code} (hC : xC G p s m args meth c cX6_endOptionsOf 5 RX6 none) (N : Nat) {L : xTL} {rI : xTI} {x2 : Int32} : ∀ (n : Nat) (x3 : Int32) (I : xTI) , xlp (F_X6_endOptionsOf_20_b2 N x2 ) n (x3, I) = some rI → ∀ (H : Heap) (locs : List Loc) (ls : Array Slot), xRep G kp I L H → xS G s.heap H locs → lv_has ls 5 [(1, .ref (xz G + 20)), (2, .int x2), (3, .int x3)] → W p l e (xrm 1 24) s m args below meth c H locs 0 0 (xMQ G kp below args s none rI L) (F0 m 2 ls []) := by
  intro n
  induction n with
  | zero =>
    intro x3 I hf
    cases hf
  | succ n hk2 =>
    intro x3 I hf H locs ls hR hS hl
    rw [xlp_s, E_X6_endOptionsOf_20_b2] at hf
    unfold F_X6_endOptionsOf_20_c2 at hf
    refine lv_iload_n hC.1 hC.2.1 dX6_endOptionsOf_2 rfl (lv_at hl 2 rfl) ?_
    refine lv_aload_n hC.1 hC.2.1 dX6_endOptionsOf_3 rfl (lv_at hl 0 rfl) ?_
    refine x_getI hC xf_X6_101 (xce_20 G kp _ _) rfl hR dX6_endOptionsOf_4 hf (fun v1 hf => ?_)
    refine x_ic_ge (tgt := 66) hC dX6_endOptionsOf_7 (by decide) hf (fun hf => ?_) (fun hf => ?_)
    · have h9 := Option.some.inj hf
      subst h9
      exact x_vret hC hR hS dX6_endOptionsOf_66
    · refine lv_aload_n hC.1 hC.2.1 dX6_endOptionsOf_10 rfl (lv_at hl 0 rfl) ?_
      refine lv_iload_n hC.1 hC.2.1 dX6_endOptionsOf_11 rfl (lv_at hl 2 rfl) ?_
      refine lv_iconst (v := 0) hC.1 hC.2.1 dX6_endOptionsOf_12 (by decide) ?_
      refine x_cvi00 (rest := []) hC xy_X8_at tw_939 hf (fun _ h => M_X8_at_20 G l kp h) ⟨Nat.le_of_ble_eq_true rfl, Nat.le_of_ble_eq_true rfl⟩ (xce_20 G kp _ _) rfl rfl rfl (Nat.le_of_ble_eq_true rfl) hl.1 hR hS dX6_endOptionsOf_13 ⟨Nat.le_refl _, Nat.le_refl _⟩ (fun v2 hf H locs hR hS => ?_)
      refine lv_iload_n hC.1 hC.2.1 dX6_endOptionsOf_16 rfl (lv_at hl 1 rfl) ?_
      refine x_ic_eq (tgt := 30) hC dX6_endOptionsOf_17 (by decide) hf (fun hf => ?_) (fun hf => ?_)
      · refine lv_iconst (v := 1) hC.1 hC.2.1 dX6_endOptionsOf_30 (by decide) ?_
        refine lv_goto (tgt := 35) hC.1 hC.2.1 dX6_endOptionsOf_31 (by decide) ?_
        exact W_X6_endOptionsOf_20_j35 hC N _ hk2 hf _ _ _ hR hS (lv_sub hl [0, 1, 2] rfl)
      · refine lv_aload_n hC.1 hC.2.1 dX6_endOptionsOf_20 rfl (lv_at hl 0 rfl) ?_
        refine lv_iload_n hC.1 hC.2.1 dX6_endOptionsOf_21 rfl (lv_at hl 2 rfl) ?_
        refine lv_iconst (v := 1) hC.1 hC.2.1 dX6_endOptionsOf_22 (by decide) ?_
        refine x_cvi00 (rest := []) hC xy_X8_at tw_939 hf (fun _ h => M_X8_at_20 G l kp h) ⟨Nat.le_of_ble_eq_true rfl, Nat.le_of_ble_eq_true rfl⟩ (xce_20 G kp _ _) rfl rfl rfl (Nat.le_of_ble_eq_true rfl) hl.1 hR hS dX6_endOptionsOf_23 ⟨Nat.le_refl _, Nat.le_refl _⟩ (fun v3 hf H locs hR hS => ?_)
        refine lv_iload_n hC.1 hC.2.1 dX6_endOptionsOf_26 rfl (lv_at hl 1 rfl) ?_
        refine x_ic_ne (tgt := 34) hC dX6_endOptionsOf_27 (by decide) hf (fun hf => ?_) (fun hf => ?_)
        · refine lv_iconst (v := 0) hC.1 hC.2.1 dX6_endOptionsOf_34 (by decide) ?_
          exact W_X6_endOptionsOf_20_j35 hC N _ hk2 hf _ _ _ hR hS (lv_sub hl [0, 1, 2] rfl)
        · refine lv_iconst (v := 1) hC.1 hC.2.1 dX6_endOptionsOf_30 (by decide) ?_
          refine lv_goto (tgt := 35) hC.1 hC.2.1 dX6_endOptionsOf_31 (by decide) ?_
          exact W_X6_endOptionsOf_20_j35 hC N _ hk2 hf _ _ _ hR hS (lv_sub hl [0, 1, 2] rfl)
set_option maxRecDepth 20000 in
theorem M_X6_endOptionsOf_20 (G : XG) (l : Launch) (kp : Bool) (N : Nat) {I : xTI} {L : xTL} {x2 : Int32} {rI : xTI} (hf : F_X6_endOptionsOf_20 N I x2 = some rI) : xMet G l yX6_endOptionsOf cX6_endOptionsOf 5 none 1 24 kp [.ref (xz G + 41), .ref (xz G + 20), .int x2] I L none rI L := by
  refine xMet.ofW (by decide +kernel) (Nat.le_of_ble_eq_true rfl) ?_
  intro p e s m args below meth c hC H locs ls hR hS hl
  replace hC : xC G p s m args meth c cX6_endOptionsOf 5 RX6 none := hC
  replace hl : lv_has ls 5 [(0, .ref (xz G + 41)), (1, .ref (xz G + 20)), (2, .int x2)] := hl
  unfold F_X6_endOptionsOf_20 at hf
  refine lv_iconst (v := 0) hC.1 hC.2.1 dX6_endOptionsOf_0 (by decide) ?_
  refine lv_istore_n (lv' := [(3, .int 0), (0, .ref (xz G + 41)), (1, .ref (xz G + 20)), (2, .int x2)]) hC.1 hC.2.1 dX6_endOptionsOf_1 rfl hl (Nat.le_of_ble_eq_true rfl) rfl (fun ls hl => ?_)
  exact W_X6_endOptionsOf_20_l2 hC N _ 0 I hf _ _ _ hR hS (lv_sub hl [2, 3, 0] rfl)
set_option maxRecDepth 20000 in
theorem W_X6_voidOthers_l2 {G : XG} {l : Launch} {kp : Bool} {p : Program} {e : Env} {s : State} {m : MethodId} {args : Array Value} {below : List Frame} {meth : Method} {c : Code} (hC : xC G p s m args meth c cX6_voidOthers 3 RX6 none) (N : Nat) {rI : xTI} {rL : xTL} : ∀ (n : Nat) (x2 : Int32) (I : xTI) (L : xTL) , xlp (F_X6_voidOthers_b2 N ) n (x2, I, L) = some (rI, rL) → ∀ (H : Heap) (locs : List Loc) (ls : Array Slot), xRep G kp I L H → xS G s.heap H locs → lv_has ls 3 [(0, .ref (xz G + 41)), (1, .ref (xz G + 1)), (2, .int x2)] → W p l e (xrm 3 75) s m args below meth c H locs 0 0 (xMQ G kp below args s none rI rL) (F0 m 2 ls []) := by
  intro n
  induction n with
  | zero =>
    intro x2 I L hf
    cases hf
  | succ n hk2 =>
    intro x2 I L hf H locs ls hR hS hl
    rw [xlp_s, E_X6_voidOthers_b2] at hf
    unfold F_X6_voidOthers_c2 at hf
    refine lv_iload_n hC.1 hC.2.1 dX6_voidOthers_2 rfl (lv_at hl 2 rfl) ?_
    refine lv_aload_n hC.1 hC.2.1 dX6_voidOthers_3 rfl (lv_at hl 1 rfl) ?_
    refine x_get (v := .ref (xz G + 3)) hC xf_X6_47 (xce_1 G kp _ _) rfl hR dX6_voidOthers_4 ?_
    refine x_getI hC xf_X6_160 (xce_3 G kp _ _) rfl hR dX6_voidOthers_7 hf (fun v1 hf => ?_)
    refine x_ic_ge (tgt := 45) hC dX6_voidOthers_10 (by decide) hf (fun hf => ?_) (fun hf => ?_)
    · obtain ⟨h91, h92⟩ := Prod.mk.inj (Option.some.inj hf)
      subst h91
      subst h92
      exact x_vret hC hR hS dX6_voidOthers_45
    · refine lv_aload_n hC.1 hC.2.1 dX6_voidOthers_13 rfl (lv_at hl 1 rfl) ?_
      refine x_get (v := .ref (xz G + 3)) hC xf_X6_47 (xce_1 G kp _ _) rfl hR dX6_voidOthers_14 ?_
      refine lv_iload_n hC.1 hC.2.1 dX6_voidOthers_17 rfl (lv_at hl 2 rfl) ?_
      refine x_cvi00 (rest := []) hC xy_X3_isUp tw_998 hf (fun _ h => M_X3_isUp G l kp h) ⟨Nat.le_of_ble_eq_true rfl, Nat.le_of_ble_eq_true rfl⟩ (xce_3 G kp _ _) rfl rfl rfl (Nat.le_of_ble_eq_true rfl) hl.1 hR hS dX6_voidOthers_18 ⟨Nat.le_refl _, Nat.le_refl _⟩ (fun v2 hf H locs hR hS => ?_)
      refine x_if_ne (tgt := 39) hC dX6_voidOthers_21 (by decide) hf (fun hf => ?_) (fun hf => ?_)
      · refine x_iinc (d := 1) (lv' := fun y3 => [(2, .int y3), (0, .ref (xz G + 41)), (1, .ref (xz G + 1))]) (k := 2) hC hl dX6_voidOthers_39 rfl (by decide) (Nat.le_of_ble_eq_true rfl) hf (fun _ => rfl) (fun y3 hf ls hl => ?_)
        refine lv_goto (tgt := 2) hC.1 hC.2.1 dX6_voidOthers_42 (by decide) ?_
        exact hk2 y3 I L hf _ _ _ hR hS (lv_sub hl [1, 2, 0] rfl)
      · refine lv_aload_n hC.1 hC.2.1 dX6_voidOthers_24 rfl (lv_at hl 0 rfl) ?_
        refine lv_aload_n hC.1 hC.2.1 dX6_voidOthers_25 rfl (lv_at hl 1 rfl) ?_
        refine lv_iload_n hC.1 hC.2.1 dX6_voidOthers_26 rfl (lv_at hl 2 rfl) ?_
        refine x_cvv11 (rest := []) hC xy_X6_voidBargainsOf tw_999 hf (fun _ _ h => M_X6_voidBargainsOf G l kp N h) ⟨Nat.le_of_ble_eq_true rfl, Nat.le_of_ble_eq_true rfl⟩ (xce_41 G kp _ _) rfl rfl rfl (Nat.le_of_ble_eq_true rfl) hl.1 hR hS dX6_voidOthers_27 ⟨Nat.le_refl _, Nat.le_refl _⟩ (fun I4 L5 hf H locs hR hS => ?_)
        refine lv_aload_n hC.1 hC.2.1 dX6_voidOthers_30 rfl (lv_at hl 0 rfl) ?_
        refine lv_aload_n hC.1 hC.2.1 dX6_voidOthers_31 rfl (lv_at hl 1 rfl) ?_
        refine x_get (v := .ref (xz G + 20)) hC xf_X6_194 (xce_1 G kp _ _) rfl hR dX6_voidOthers_32 ?_
        refine lv_iload_n hC.1 hC.2.1 dX6_voidOthers_35 rfl (lv_at hl 2 rfl) ?_
        refine x_cvv10 (rest := []) hC xy_X6_endOptionsOf tw_1005 hf (fun _ h => M_X6_endOptionsOf_20 G l kp N h) ⟨Nat.le_of_ble_eq_true rfl, Nat.le_of_ble_eq_true rfl⟩ (xce_41 G kp _ _) rfl rfl rfl (Nat.le_of_ble_eq_true rfl) hl.1 hR hS dX6_voidOthers_36 ⟨Nat.le_refl _, Nat.le_refl _⟩ (fun I6 hf H locs hR hS => ?_)
        refine x_iinc (d := 1) (lv' := fun y7 => [(2, .int y7), (0, .ref (xz G + 41)), (1, .ref (xz G + 1))]) (k := 2) hC hl dX6_voidOthers_39 rfl (by decide) (Nat.le_of_ble_eq_true rfl) hf (fun _ => rfl) (fun y7 hf ls hl => ?_)
        refine lv_goto (tgt := 2) hC.1 hC.2.1 dX6_voidOthers_42 (by decide) ?_
        exact hk2 y7 I6 L5 hf _ _ _ hR hS (lv_sub hl [1, 2, 0] rfl)
set_option maxRecDepth 20000 in
theorem M_X6_voidOthers (G : XG) (l : Launch) (kp : Bool) (N : Nat) {I : xTI} {L : xTL} {rI : xTI} {rL : xTL} (hf : F_X6_voidOthers N I L = some (rI, rL)) : xMet G l yX6_voidOthers cX6_voidOthers 3 none 3 75 kp [.ref (xz G + 41), .ref (xz G + 1)] I L none rI rL := by
  refine xMet.ofW (by decide +kernel) (Nat.le_of_ble_eq_true rfl) ?_
  intro p e s m args below meth c hC H locs ls hR hS hl
  replace hC : xC G p s m args meth c cX6_voidOthers 3 RX6 none := hC
  replace hl : lv_has ls 3 [(0, .ref (xz G + 41)), (1, .ref (xz G + 1))] := hl
  unfold F_X6_voidOthers at hf
  refine lv_iconst (v := 0) hC.1 hC.2.1 dX6_voidOthers_0 (by decide) ?_
  refine lv_istore_n (lv' := [(2, .int 0), (0, .ref (xz G + 41)), (1, .ref (xz G + 1))]) hC.1 hC.2.1 dX6_voidOthers_1 rfl hl (Nat.le_of_ble_eq_true rfl) rfl (fun ls hl => ?_)
  exact W_X6_voidOthers_l2 hC N _ 0 I L hf _ _ _ hR hS (lv_sub hl [1, 2, 0] rfl)
set_option maxRecDepth 20000 in
theorem M_X6_settleAccount (G : XG) (l : Launch) (kp : Bool) (N : Nat) {I : xTI} {L : xTL} {x2 : Int32} {r : Int32} {rI : xTI} {rL : xTL} (hf : F_X6_settleAccount N I L x2 = some (r, rI, rL)) : xMet G l yX6_settleAccount cX6_settleAccount 4 (some .int) 6 154 kp [.ref (xz G + 41), .ref (xz G + 1), .int x2] I L (some (.int r)) rI rL := by
  refine xMet.ofW (by decide +kernel) (Nat.le_of_ble_eq_true rfl) ?_
  intro p e s m args below meth c hC H locs ls hR hS hl
  replace hC : xC G p s m args meth c cX6_settleAccount 4 RX6 (some .int) := hC
  replace hl : lv_has ls 4 [(0, .ref (xz G + 41)), (1, .ref (xz G + 1)), (2, .int x2)] := hl
  unfold F_X6_settleAccount at hf
  refine lv_aload_n hC.1 hC.2.1 dX6_settleAccount_0 rfl (lv_at hl 1 rfl) ?_
  refine lv_iconst (v := 1) hC.1 hC.2.1 dX6_settleAccount_1 (by decide) ?_
  refine x_putZ hC xf_X6_24 xp_1_12 (fun f => (xce_1 G kp f _)) rfl (Nat.le_of_ble_eq_true rfl) hR hS dX6_settleAccount_2 hf (fun I1 hf H locs hR hS => ?_)
  refine lv_aload_n hC.1 hC.2.1 dX6_settleAccount_5 rfl (lv_at hl 0 rfl) ?_
  refine x_get (v := .ref (xz G + 42)) hC xf_X6_11 (xce_41 G kp _ _) rfl hR dX6_settleAccount_6 ?_
  refine lv_lconst (v := 0) hC.1 hC.2.1 dX6_settleAccount_9 (by decide) ?_
  refine x_csv01 (rest := []) hC xy_J7_fill_d0a16 tw_918 hf (fun _ h => M_J7_fill_d0a16_42 G l kp N h) ⟨Nat.le_of_ble_eq_true rfl, Nat.le_of_ble_eq_true rfl⟩ rfl rfl (Nat.le_of_ble_eq_true rfl) hl.1 hR hS dX6_settleAccount_10 ⟨Nat.le_refl _, Nat.le_refl _⟩ (fun L2 hf H locs hR hS => ?_)
  refine lv_aload_n hC.1 hC.2.1 dX6_settleAccount_13 rfl (lv_at hl 1 rfl) ?_
  refine x_get (v := .ref (xz G + 28)) hC xf_X6_36 (xce_1 G kp _ _) rfl hR dX6_settleAccount_14 ?_
  refine lv_lconst (v := 0) hC.1 hC.2.1 dX6_settleAccount_17 (by decide) ?_
  refine x_csv01 (rest := []) hC xy_J7_fill_d0a16 tw_918 hf (fun _ h => M_J7_fill_d0a16_28 G l kp N h) ⟨Nat.le_of_ble_eq_true rfl, Nat.le_of_ble_eq_true rfl⟩ rfl rfl (Nat.le_of_ble_eq_true rfl) hl.1 hR hS dX6_settleAccount_18 ⟨Nat.le_refl _, Nat.le_refl _⟩ (fun L3 hf H locs hR hS => ?_)
  refine W.eq (g2 := F0 m 21 ls []) rfl ?_
  refine lv_aload_n hC.1 hC.2.1 dX6_settleAccount_21 rfl (lv_at hl 0 rfl) ?_
  refine lv_aload_n hC.1 hC.2.1 dX6_settleAccount_22 rfl (lv_at hl 1 rfl) ?_
  refine lv_iload_n hC.1 hC.2.1 dX6_settleAccount_23 rfl (lv_at hl 2 rfl) ?_
  refine x_cvv01 (rest := []) hC xy_X6_oweDifferences tw_921 hf (fun _ h => M_X6_oweDifferences G l kp N h) ⟨Nat.le_of_ble_eq_true rfl, Nat.le_of_ble_eq_true rfl⟩ (xce_41 G kp _ _) rfl rfl rfl (Nat.le_of_ble_eq_true rfl) hl.1 hR hS dX6_settleAccount_24 ⟨Nat.le_refl _, Nat.le_refl _⟩ (fun L4 hf H locs hR hS => ?_)
  refine lv_aload_n hC.1 hC.2.1 dX6_settleAccount_27 rfl (lv_at hl 0 rfl) ?_
  refine lv_aload_n hC.1 hC.2.1 dX6_settleAccount_28 rfl (lv_at hl 1 rfl) ?_
  refine x_cvv11 (rest := []) hC xy_X6_oweDeliveries tw_934 hf (fun _ _ h => M_X6_oweDeliveries G l kp N h) ⟨Nat.le_of_ble_eq_true rfl, Nat.le_of_ble_eq_true rfl⟩ (xce_41 G kp _ _) rfl rfl rfl (Nat.le_of_ble_eq_true rfl) hl.1 hR hS dX6_settleAccount_29 ⟨Nat.le_refl _, Nat.le_refl _⟩ (fun I5 L6 hf H locs hR hS => ?_)
  refine lv_aload_n hC.1 hC.2.1 dX6_settleAccount_32 rfl (lv_at hl 0 rfl) ?_
  refine lv_aload_n hC.1 hC.2.1 dX6_settleAccount_33 rfl (lv_at hl 1 rfl) ?_
  refine x_get (v := .ref (xz G + 3)) hC xf_X6_47 (xce_1 G kp _ _) rfl hR dX6_settleAccount_34 ?_
  refine x_cvv01 (rest := []) hC xy_X6_oweExtra tw_951 hf (fun _ h => M_X6_oweExtra G l kp N h) ⟨Nat.le_of_ble_eq_true rfl, Nat.le_of_ble_eq_true rfl⟩ (xce_41 G kp _ _) rfl rfl rfl (Nat.le_of_ble_eq_true rfl) hl.1 hR hS dX6_settleAccount_37 ⟨Nat.le_refl _, Nat.le_refl _⟩ (fun L7 hf H locs hR hS => ?_)
  refine lv_aload_n hC.1 hC.2.1 dX6_settleAccount_40 rfl (lv_at hl 0 rfl) ?_
  refine W.eq (g2 := F0 m 41 ls [.ref (xz G + 41)]) rfl ?_
  refine x_cvv01 (rest := []) hC xy_X6_leaveTheRest tw_955 hf (fun _ h => M_X6_leaveTheRest G l kp N h) ⟨Nat.le_of_ble_eq_true rfl, Nat.le_of_ble_eq_true rfl⟩ (xce_41 G kp _ _) rfl rfl rfl (Nat.le_of_ble_eq_true rfl) hl.1 hR hS dX6_settleAccount_41 ⟨Nat.le_refl _, Nat.le_refl _⟩ (fun L8 hf H locs hR hS => ?_)
  refine lv_aload_n hC.1 hC.2.1 dX6_settleAccount_44 rfl (lv_at hl 0 rfl) ?_
  refine lv_aload_n hC.1 hC.2.1 dX6_settleAccount_45 rfl (lv_at hl 1 rfl) ?_
  refine x_get (v := .ref (xz G + 3)) hC xf_X6_47 (xce_1 G kp _ _) rfl hR dX6_settleAccount_46 ?_
  refine x_cvv01 (rest := []) hC xy_X6_payInRounds tw_964 hf (fun _ h => M_X6_payInRounds G l kp N h) ⟨Nat.le_of_ble_eq_true rfl, Nat.le_of_ble_eq_true rfl⟩ (xce_41 G kp _ _) rfl rfl rfl (Nat.le_of_ble_eq_true rfl) hl.1 hR hS dX6_settleAccount_49 ⟨Nat.le_refl _, Nat.le_refl _⟩ (fun L9 hf H locs hR hS => ?_)
  refine lv_aload_n hC.1 hC.2.1 dX6_settleAccount_52 rfl (lv_at hl 0 rfl) ?_
  refine lv_aload_n hC.1 hC.2.1 dX6_settleAccount_53 rfl (lv_at hl 1 rfl) ?_
  refine x_cvv01 (rest := []) hC xy_X6_moveCoin tw_981 hf (fun _ h => M_X6_moveCoin G l kp N h) ⟨Nat.le_of_ble_eq_true rfl, Nat.le_of_ble_eq_true rfl⟩ (xce_41 G kp _ _) rfl rfl rfl (Nat.le_of_ble_eq_true rfl) hl.1 hR hS dX6_settleAccount_54 ⟨Nat.le_refl _, Nat.le_refl _⟩ (fun L10 hf H locs hR hS => ?_)
  refine lv_aload_n hC.1 hC.2.1 dX6_settleAccount_57 rfl (lv_at hl 0 rfl) ?_
  refine lv_aload_n hC.1 hC.2.1 dX6_settleAccount_58 rfl (lv_at hl 1 rfl) ?_
  refine x_get (v := .ref (xz G + 11)) hC xf_X6_64 (xce_1 G kp _ _) rfl hR dX6_settleAccount_59 ?_
  refine lv_iload_n hC.1 hC.2.1 dX6_settleAccount_62 rfl (lv_at hl 2 rfl) ?_
  refine W.eq (g2 := F0 m 63 ls [.int x2, .ref (xz G + 11), .ref (xz G + 41)]) rfl ?_
  refine x_cvv10 (rest := []) hC xy_X6_endBargains tw_985 hf (fun _ h => M_X6_endBargains G l kp N h) ⟨Nat.le_of_ble_eq_true rfl, Nat.le_of_ble_eq_true rfl⟩ (xce_41 G kp _ _) rfl rfl rfl (Nat.le_of_ble_eq_true rfl) hl.1 hR hS dX6_settleAccount_63 ⟨Nat.le_refl _, Nat.le_refl _⟩ (fun I11 hf H locs hR hS => ?_)
  refine lv_aload_n hC.1 hC.2.1 dX6_settleAccount_66 rfl (lv_at hl 0 rfl) ?_
  refine lv_aload_n hC.1 hC.2.1 dX6_settleAccount_67 rfl (lv_at hl 1 rfl) ?_
  refine x_cvi10 (rest := []) hC xy_X6_hammer tw_990 hf (fun _ _ h => M_X6_hammer G l kp N h) ⟨Nat.le_of_ble_eq_true rfl, Nat.le_of_ble_eq_true rfl⟩ (xce_41 G kp _ _) rfl rfl rfl (Nat.le_of_ble_eq_true rfl) hl.1 hR hS dX6_settleAccount_68 ⟨Nat.le_refl _, Nat.le_refl _⟩ (fun v12 I13 hf H locs hR hS => ?_)
  refine lv_istore_n (lv' := [(3, .int v12), (0, .ref (xz G + 41)), (1, .ref (xz G + 1)), (2, .int x2)]) hC.1 hC.2.1 dX6_settleAccount_71 rfl hl (Nat.le_of_ble_eq_true rfl) rfl (fun ls hl => ?_)
  refine lv_aload_n hC.1 hC.2.1 dX6_settleAccount_72 rfl (lv_at hl 1 rfl) ?_
  refine lv_aload_n hC.1 hC.2.1 dX6_settleAccount_73 rfl (lv_at hl 2 rfl) ?_
  refine x_cvv11 (rest := []) hC xy_X6_voidOthers tw_994 hf (fun _ _ h => M_X6_voidOthers G l kp N h) ⟨Nat.le_of_ble_eq_true rfl, Nat.le_of_ble_eq_true rfl⟩ (xce_41 G kp _ _) rfl rfl rfl (Nat.le_of_ble_eq_true rfl) hl.1 hR hS dX6_settleAccount_74 ⟨Nat.le_refl _, Nat.le_refl _⟩ (fun I14 L15 hf H locs hR hS => ?_)
  refine lv_iload_n hC.1 hC.2.1 dX6_settleAccount_77 rfl (lv_at hl 0 rfl) ?_
  obtain ⟨h91, h90⟩ := Prod.mk.inj (Option.some.inj hf)
  obtain ⟨h92, h93⟩ := Prod.mk.inj h90
  subst h91
  subst h92
  subst h93
  exact x_iret hC hR hS dX6_settleAccount_78
set_option maxRecDepth 20000 in
theorem W_X2_endOptions_j43 {G : XG} {l : Launch} {kp : Bool} {p : Program} {e : Env} {s : State} {m : MethodId} {args : Array Value} {below : List Frame} {meth : Method} {c : Code} (hC : xC G p s m args meth c cX2_endOptions 5 RX2 none) (N : Nat) {I : xTI} {L : xTL} {rI : xTI} {x3 : Int32} {t0 : Int32} (k7 : Int32 × xTI → Option (xTI)) (hk7 : ∀ (x3 : Int32) (I : xTI) , k7 (x3, I) = some rI → ∀ (H : Heap) (locs : List Loc) (ls : Array Slot), xRep G kp I L H → xS G s.heap H locs → lv_has ls 5 [(1, .ref (xz G + 1)), (2, .ref (xz G + 20)), (3, .int x3)] → W p l e (xrm 1 24) s m args below meth c H locs 0 0 (xMQ G kp below args s none rI L) (F0 m 7 ls [])) (hf : F_X2_endOptions_j43 k7 N I x3 t0 = some rI) : ∀ (H : Heap) (locs : List Loc) (ls : Array Slot), xRep G kp I L H → xS G s.heap H locs → lv_has ls 5 [(1, .ref (xz G + 1)), (2, .ref (xz G + 20)), (3, .int x3)] → W p l e (xrm 1 24) s m args below meth c H locs 0 0 (xMQ G kp below args s none rI L) (F0 m 43 ls [.int t0]) := by
  intro H locs ls hR hS hl
  unfold F_X2_endOptions_j43 at hf
  refine lv_istore (lv' := [(4, .int t0), (1, .ref (xz G + 1)), (2, .ref (xz G + 20)), (3, .int x3)]) hC.1 hC.2.1 dX2_endOptions_43 hl (Nat.le_of_ble_eq_true rfl) rfl (fun ls hl => ?_)
  refine lv_iload hC.1 hC.2.1 dX2_endOptions_45 (lv_at hl 0 rfl) ?_
  refine x_if_eq (tgt := 58) hC dX2_endOptions_47 (by decide) hf (fun hf => ?_) (fun hf => ?_)
  · refine x_iinc (d := 1) (lv' := fun y1 => [(3, .int y1), (4, .int t0), (1, .ref (xz G + 1)), (2, .ref (xz G + 20))]) (k := 3) hC hl dX2_endOptions_58 rfl (by decide) (Nat.le_of_ble_eq_true rfl) hf (fun _ => rfl) (fun y1 hf ls hl => ?_)
    refine lv_goto (tgt := 7) hC.1 hC.2.1 dX2_endOptions_61 (by decide) ?_
    exact hk7 y1 I hf _ _ _ hR hS (lv_sub hl [2, 3, 0] rfl)
  · refine lv_aload_n hC.1 hC.2.1 dX2_endOptions_50 rfl (lv_at hl 2 rfl) ?_
    refine lv_iload_n hC.1 hC.2.1 dX2_endOptions_51 rfl (lv_at hl 3 rfl) ?_
    refine lv_bipush (v := 6) hC.1 hC.2.1 dX2_endOptions_52 (by decide) ?_
    refine lv_iconst (v := 2) hC.1 hC.2.1 dX2_endOptions_54 (by decide) ?_
    refine x_cvv10 (rest := []) hC xy_X8_put tw_864 hf (fun _ h => M_X8_put_20 G l kp h) ⟨Nat.le_of_ble_eq_true rfl, Nat.le_of_ble_eq_true rfl⟩ (xce_20 G kp _ _) rfl rfl rfl (Nat.le_of_ble_eq_true rfl) hl.1 hR hS dX2_endOptions_55 ⟨Nat.le_refl _, Nat.le_refl _⟩ (fun I2 hf H locs hR hS => ?_)
    refine x_iinc (d := 1) (lv' := fun y3 => [(3, .int y3), (4, .int t0), (1, .ref (xz G + 1)), (2, .ref (xz G + 20))]) (k := 3) hC hl dX2_endOptions_58 rfl (by decide) (Nat.le_of_ble_eq_true rfl) hf (fun _ => rfl) (fun y3 hf ls hl => ?_)
    refine lv_goto (tgt := 7) hC.1 hC.2.1 dX2_endOptions_61 (by decide) ?_
    exact hk7 y3 I2 hf _ _ _ hR hS (lv_sub hl [2, 3, 0] rfl)
set_option maxRecDepth 20000 in
theorem W_X2_endOptions_l7 {G : XG} {l : Launch} {kp : Bool} {p : Program} {e : Env} {s : State} {m : MethodId} {args : Array Value} {below : List Frame} {meth : Method} {c : Code} (hC : xC G p s m args meth c cX2_endOptions 5 RX2 none) (N : Nat) {L : xTL} {rI : xTI} : ∀ (n : Nat) (x3 : Int32) (I : xTI) , xlp (F_X2_endOptions_b7 N ) n (x3, I) = some rI → ∀ (H : Heap) (locs : List Loc) (ls : Array Slot), xRep G kp I L H → xS G s.heap H locs → lv_has ls 5 [(1, .ref (xz G + 1)), (2, .ref (xz G + 20)), (3, .int x3)] → W p l e (xrm 1 24) s m args below meth c H locs 0 0 (xMQ G kp below args s none rI L) (F0 m 7 ls []) := by
  intro n
  induction n with
  | zero =>
    intro x3 I hf
    cases hf
  | succ n hk7 =>
    intro x3 I hf H locs ls hR hS hl
    rw [xlp_s, E_X2_endOptions_b7] at hf
    unfold F_X2_endOptions_c7 at hf
    refine lv_iload_n hC.1 hC.2.1 dX2_endOptions_7 rfl (lv_at hl 2 rfl) ?_
    refine lv_aload_n hC.1 hC.2.1 dX2_endOptions_8 rfl (lv_at hl 1 rfl) ?_
    refine x_getI hC xf_X2_46 (xce_20 G kp _ _) rfl hR dX2_endOptions_9 hf (fun v1 hf => ?_)
    refine x_ic_ge (tgt := 64) hC dX2_endOptions_12 (by decide) hf (fun hf => ?_) (fun hf => ?_)
    · have h9 := Option.some.inj hf
      subst h9
      exact x_vret hC hR hS dX2_endOptions_64
    · refine lv_aload_n hC.1 hC.2.1 dX2_endOptions_15 rfl (lv_at hl 1 rfl) ?_
      refine lv_iload_n hC.1 hC.2.1 dX2_endOptions_16 rfl (lv_at hl 2 rfl) ?_
      refine lv_bipush (v := 6) hC.1 hC.2.1 dX2_endOptions_17 (by decide) ?_
      refine x_cvi00 (rest := []) hC xy_X8_at tw_853 hf (fun _ h => M_X8_at_20 G l kp h) ⟨Nat.le_of_ble_eq_true rfl, Nat.le_of_ble_eq_true rfl⟩ (xce_20 G kp _ _) rfl rfl rfl (Nat.le_of_ble_eq_true rfl) hl.1 hR hS dX2_endOptions_19 ⟨Nat.le_refl _, Nat.le_refl _⟩ (fun v2 hf H locs hR hS => ?_)
      refine x_if_ne (tgt := 42) hC dX2_endOptions_22 (by decide) hf (fun hf => ?_) (fun hf => ?_)
      · refine lv_iconst (v := 0) hC.1 hC.2.1 dX2_endOptions_42 (by decide) ?_
        exact W_X2_endOptions_j43 hC N _ hk7 hf _ _ _ hR hS (lv_sub hl [0, 1, 2] rfl)
      · refine lv_aload_n hC.1 hC.2.1 dX2_endOptions_25 rfl (lv_at hl 1 rfl) ?_
        refine lv_iload_n hC.1 hC.2.1 dX2_endOptions_26 rfl (lv_at hl 2 rfl) ?_
        refine lv_iconst (v := 5) hC.1 hC.2.1 dX2_endOptions_27 (by decide) ?_
        refine x_cvi00 (rest := []) hC xy_X8_at tw_853 hf (fun _ h => M_X8_at_20 G l kp h) ⟨Nat.le_of_ble_eq_true rfl, Nat.le_of_ble_eq_true rfl⟩ (xce_20 G kp _ _) rfl rfl rfl (Nat.le_of_ble_eq_true rfl) hl.1 hR hS dX2_endOptions_28 ⟨Nat.le_refl _, Nat.le_refl _⟩ (fun v3 hf H locs hR hS => ?_)
        refine lv_aload_n hC.1 hC.2.1 dX2_endOptions_31 rfl (lv_at hl 0 rfl) ?_
        refine x_getI hC xf_X2_21 (xce_1 G kp _ _) rfl hR dX2_endOptions_32 hf (fun v4 hf => ?_)
        refine x_ic_ne (tgt := 42) hC dX2_endOptions_35 (by decide) hf (fun hf => ?_) (fun hf => ?_)
        · refine lv_iconst (v := 0) hC.1 hC.2.1 dX2_endOptions_42 (by decide) ?_
          exact W_X2_endOptions_j43 hC N _ hk7 hf _ _ _ hR hS (lv_sub hl [0, 1, 2] rfl)
        · refine lv_iconst (v := 1) hC.1 hC.2.1 dX2_endOptions_38 (by decide) ?_
          refine lv_goto (tgt := 43) hC.1 hC.2.1 dX2_endOptions_39 (by decide) ?_
          exact W_X2_endOptions_j43 hC N _ hk7 hf _ _ _ hR hS (lv_sub hl [0, 1, 2] rfl)
set_option maxRecDepth 20000 in
theorem M_X2_endOptions (G : XG) (l : Launch) (kp : Bool) (N : Nat) {I : xTI} {L : xTL} {rI : xTI} (hf : F_X2_endOptions N I = some rI) : xMet G l yX2_endOptions cX2_endOptions 5 none 1 24 kp [.ref (xz G + 32), .ref (xz G + 1)] I L none rI L := by
  refine xMet.ofW (by decide +kernel) (Nat.le_of_ble_eq_true rfl) ?_
  intro p e s m args below meth c hC H locs ls hR hS hl
  replace hC : xC G p s m args meth c cX2_endOptions 5 RX2 none := hC
  replace hl : lv_has ls 5 [(0, .ref (xz G + 32)), (1, .ref (xz G + 1))] := hl
  unfold F_X2_endOptions at hf
  refine lv_aload_n hC.1 hC.2.1 dX2_endOptions_0 rfl (lv_at hl 1 rfl) ?_
  refine x_get (v := .ref (xz G + 20)) hC xf_X2_113 (xce_1 G kp _ _) rfl hR dX2_endOptions_1 ?_
  refine lv_astore_n (lv' := [(2, .ref (xz G + 20)), (0, .ref (xz G + 32)), (1, .ref (xz G + 1))]) hC.1 hC.2.1 dX2_endOptions_4 rfl hl (Nat.le_of_ble_eq_true rfl) rfl (fun ls hl => ?_)
  refine lv_iconst (v := 0) hC.1 hC.2.1 dX2_endOptions_5 (by decide) ?_
  refine lv_istore_n (lv' := [(3, .int 0), (2, .ref (xz G + 20)), (0, .ref (xz G + 32)), (1, .ref (xz G + 1))]) hC.1 hC.2.1 dX2_endOptions_6 rfl hl (Nat.le_of_ble_eq_true rfl) rfl (fun ls hl => ?_)
  exact W_X2_endOptions_l7 hC N _ 0 I hf _ _ _ hR hS (lv_sub hl [3, 1, 0] rfl)
set_option maxRecDepth 20000 in
theorem W_X10_run_j167 {G : XG} {l : Launch} {kp : Bool} {p : Program} {e : Env} {s : State} {m : MethodId} {args : Array Value} {below : List Frame} {meth : Method} {c : Code} (hC : xC G p s m args meth c cX10_run 4 RX10 (some .int)) (N : Nat) {I : xTI} {L : xTL} {r : Int32} {rI : xTI} {rL : xTL} {x1 : Int32} {x2 : Int32} {x3 : Int32} (k54 : Int32 × Int32 × xTI × xTL → Option (Int32 × xTI × xTL)) (hk54 : ∀ (x2 : Int32) (x3 : Int32) (I : xTI) (L : xTL) , k54 (x2, x3, I, L) = some (r, rI, rL) → ∀ (H : Heap) (locs : List Loc) (ls : Array Slot), xRep G kp I L H → xS G s.heap H locs → lv_has ls 4 [(0, .ref (xz G + 0)), (1, .int x1), (2, .int x2), (3, .int x3)] → W p l e (xrm 7 177) s m args below meth c H locs 0 0 (xMQ G kp below args s (some (.int r)) rI rL) (F0 m 54 ls [])) (hf : F_X10_run_j167 k54 N I L x1 x2 x3 = some (r, rI, rL)) : ∀ (H : Heap) (locs : List Loc) (ls : Array Slot), xRep G kp I L H → xS G s.heap H locs → lv_has ls 4 [(0, .ref (xz G + 0)), (1, .int x1), (2, .int x2), (3, .int x3)] → W p l e (xrm 7 177) s m args below meth c H locs 0 0 (xMQ G kp below args s (some (.int r)) rI rL) (F0 m 167 ls []) := by
  intro H locs ls hR hS hl
  unfold F_X10_run_j167 at hf
  refine lv_aload_n hC.1 hC.2.1 dX10_run_167 rfl (lv_at hl 0 rfl) ?_
  refine x_get (v := .ref (xz G + 32)) hC xf_X10_29 (xce_0 G kp _ _) rfl hR dX10_run_168 ?_
  refine lv_aload_n hC.1 hC.2.1 dX10_run_171 rfl (lv_at hl 0 rfl) ?_
  refine x_get (v := .ref (xz G + 1)) hC xf_X10_10 (xce_0 G kp _ _) rfl hR dX10_run_172 ?_
  refine x_cvv10 (rest := []) hC xy_X2_endOptions tw_1010 hf (fun _ h => M_X2_endOptions G l kp N h) ⟨Nat.le_of_ble_eq_true rfl, Nat.le_of_ble_eq_true rfl⟩ (xce_32 G kp _ _) rfl rfl rfl (Nat.le_of_ble_eq_true rfl) hl.1 hR hS dX10_run_175 ⟨Nat.le_refl _, Nat.le_refl _⟩ (fun I1 hf H locs hR hS => ?_)
  refine lv_aload_n hC.1 hC.2.1 dX10_run_178 rfl (lv_at hl 0 rfl) ?_
  refine x_get (v := .ref (xz G + 1)) hC xf_X10_10 (xce_0 G kp _ _) rfl hR dX10_run_179 ?_
  refine lv_dup hC.1 hC.2.1 dX10_run_182 rfl ?_
  refine x_getI hC xf_X10_164 (xce_1 G kp _ _) rfl hR dX10_run_183 hf (fun v2 hf => ?_)
  refine lv_iconst (v := 1) hC.1 hC.2.1 dX10_run_186 (by decide) ?_
  refine lv_iadd hC.1 hC.2.1 dX10_run_187 ?_
  refine W.eq (g2 := F0 m 188 ls [.int (v2 + 1), .ref (xz G + 1)]) rfl ?_
  refine x_putI hC xf_X10_164 xp_1_0 (fun f => (xce_1 G kp f _)) rfl (Nat.le_of_ble_eq_true rfl) hR hS dX10_run_188 hf (fun I3 hf H locs hR hS => ?_)
  refine x_iinc (d := 1) (lv' := fun y4 => [(3, .int y4), (0, .ref (xz G + 0)), (1, .int x1), (2, .int x2)]) (k := 3) hC hl dX10_run_191 rfl (by decide) (Nat.le_of_ble_eq_true rfl) hf (fun _ => rfl) (fun y4 hf ls hl => ?_)
  refine lv_goto (tgt := 54) hC.1 hC.2.1 dX10_run_194 (by decide) ?_
  exact hk54 x2 y4 I3 L hf _ _ _ hR hS (lv_sub hl [1, 2, 3, 0] rfl)
set_option maxRecDepth 20000 in
theorem W_X10_run_j134 {G : XG} {l : Launch} {kp : Bool} {p : Program} {e : Env} {s : State} {m : MethodId} {args : Array Value} {below : List Frame} {meth : Method} {c : Code} (hC : xC G p s m args meth c cX10_run 4 RX10 (some .int)) (N : Nat) {I : xTI} {L : xTL} {r : Int32} {rI : xTI} {rL : xTL} {x1 : Int32} {x2 : Int32} {x3 : Int32} (k54 : Int32 × Int32 × xTI × xTL → Option (Int32 × xTI × xTL)) (hk54 : ∀ (x2 : Int32) (x3 : Int32) (I : xTI) (L : xTL) , k54 (x2, x3, I, L) = some (r, rI, rL) → ∀ (H : Heap) (locs : List Loc) (ls : Array Slot), xRep G kp I L H → xS G s.heap H locs → lv_has ls 4 [(0, .ref (xz G + 0)), (1, .int x1), (2, .int x2), (3, .int x3)] → W p l e (xrm 7 177) s m args below meth c H locs 0 0 (xMQ G kp below args s (some (.int r)) rI rL) (F0 m 54 ls [])) (hf : F_X10_run_j134 k54 N I L x1 x2 x3 = some (r, rI, rL)) : ∀ (H : Heap) (locs : List Loc) (ls : Array Slot), xRep G kp I L H → xS G s.heap H locs → lv_has ls 4 [(0, .ref (xz G + 0)), (1, .int x1), (2, .int x2), (3, .int x3)] → W p l e (xrm 7 177) s m args below meth c H locs 0 0 (xMQ G kp below args s (some (.int r)) rI rL) (F0 m 134 ls []) := by
  intro H locs ls hR hS hl
  unfold F_X10_run_j134 at hf
  refine lv_aload_n hC.1 hC.2.1 dX10_run_134 rfl (lv_at hl 0 rfl) ?_
  refine x_get (v := .ref (xz G + 1)) hC xf_X10_10 (xce_0 G kp _ _) rfl hR dX10_run_135 ?_
  refine x_cvi00 (rest := []) hC xy_X1_place tw_576 hf (fun _ h => M_X1_place G l kp h) ⟨Nat.le_of_ble_eq_true rfl, Nat.le_of_ble_eq_true rfl⟩ (xce_1 G kp _ _) rfl rfl rfl (Nat.le_of_ble_eq_true rfl) hl.1 hR hS dX10_run_138 ⟨Nat.le_refl _, Nat.le_refl _⟩ (fun v1 hf H locs hR hS => ?_)
  refine lv_bipush (v := 12) hC.1 hC.2.1 dX10_run_141 (by decide) ?_
  refine x_ic_ne (tgt := 167) hC dX10_run_143 (by decide) hf (fun hf => ?_) (fun hf => ?_)
  · exact W_X10_run_j167 hC N _ hk54 hf _ _ _ hR hS (lv_sub hl [0, 1, 2, 3] rfl)
  · refine lv_iload_n hC.1 hC.2.1 dX10_run_146 rfl (lv_at hl 2 rfl) ?_
    refine lv_aload_n hC.1 hC.2.1 dX10_run_147 rfl (lv_at hl 0 rfl) ?_
    refine x_get (v := .ref (xz G + 41)) hC xf_X10_43 (xce_0 G kp _ _) rfl hR dX10_run_148 ?_
    refine lv_aload_n hC.1 hC.2.1 dX10_run_151 rfl (lv_at hl 0 rfl) ?_
    refine x_get (v := .ref (xz G + 1)) hC xf_X10_10 (xce_0 G kp _ _) rfl hR dX10_run_152 ?_
    refine lv_aload_n hC.1 hC.2.1 dX10_run_155 rfl (lv_at hl 0 rfl) ?_
    refine x_get (v := .ref (xz G + 1)) hC xf_X10_10 (xce_0 G kp _ _) rfl hR dX10_run_156 ?_
    refine x_cvi00 (rest := [.ref (xz G + 1), .ref (xz G + 41), .int x2]) hC xy_X1_account tw_486 hf (fun _ h => M_X1_account G l kp h) ⟨Nat.le_of_ble_eq_true rfl, Nat.le_of_ble_eq_true rfl⟩ (xce_1 G kp _ _) rfl rfl rfl (Nat.le_of_ble_eq_true rfl) hl.1 hR hS dX10_run_159 ⟨Nat.le_refl _, Nat.le_refl _⟩ (fun v2 hf H locs hR hS => ?_)
    refine x_cvi11 (rest := [.int x2]) hC xy_X6_settleAccount tw_914 hf (fun _ _ _ h => M_X6_settleAccount G l kp N h) ⟨Nat.le_of_ble_eq_true rfl, Nat.le_of_ble_eq_true rfl⟩ (xce_41 G kp _ _) rfl rfl rfl (Nat.le_of_ble_eq_true rfl) hl.1 hR hS dX10_run_162 ⟨Nat.le_refl _, Nat.le_refl _⟩ (fun v3 I4 L5 hf H locs hR hS => ?_)
    refine lv_iadd hC.1 hC.2.1 dX10_run_165 ?_
    refine x_istn (lv' := fun y6 => [(2, .int y6), (0, .ref (xz G + 0)), (1, .int x1), (3, .int x3)]) hC hl dX10_run_166 rfl (Nat.le_of_ble_eq_true rfl) hf (fun _ => rfl) (fun y6 hf ls hl => ?_)
    exact W_X10_run_j167 hC N _ hk54 hf _ _ _ hR hS (lv_sub hl [1, 2, 0, 3] rfl)
set_option maxRecDepth 20000 in
theorem W_X10_run_j104 {G : XG} {l : Launch} {kp : Bool} {p : Program} {e : Env} {s : State} {m : MethodId} {args : Array Value} {below : List Frame} {meth : Method} {c : Code} (hC : xC G p s m args meth c cX10_run 4 RX10 (some .int)) (N : Nat) {I : xTI} {L : xTL} {r : Int32} {rI : xTI} {rL : xTL} {x1 : Int32} {x2 : Int32} {x3 : Int32} (k54 : Int32 × Int32 × xTI × xTL → Option (Int32 × xTI × xTL)) (hk54 : ∀ (x2 : Int32) (x3 : Int32) (I : xTI) (L : xTL) , k54 (x2, x3, I, L) = some (r, rI, rL) → ∀ (H : Heap) (locs : List Loc) (ls : Array Slot), xRep G kp I L H → xS G s.heap H locs → lv_has ls 4 [(0, .ref (xz G + 0)), (1, .int x1), (2, .int x2), (3, .int x3)] → W p l e (xrm 7 177) s m args below meth c H locs 0 0 (xMQ G kp below args s (some (.int r)) rI rL) (F0 m 54 ls [])) (hf : F_X10_run_j104 k54 N I L x1 x2 x3 = some (r, rI, rL)) : ∀ (H : Heap) (locs : List Loc) (ls : Array Slot), xRep G kp I L H → xS G s.heap H locs → lv_has ls 4 [(0, .ref (xz G + 0)), (1, .int x1), (2, .int x2), (3, .int x3)] → W p l e (xrm 7 177) s m args below meth c H locs 0 0 (xMQ G kp below args s (some (.int r)) rI rL) (F0 m 104 ls []) := by
  intro H locs ls hR hS hl
  unfold F_X10_run_j104 at hf
  refine lv_aload_n hC.1 hC.2.1 dX10_run_104 rfl (lv_at hl 0 rfl) ?_
  refine x_get (v := .ref (xz G + 1)) hC xf_X10_10 (xce_0 G kp _ _) rfl hR dX10_run_105 ?_
  refine x_cvi00 (rest := []) hC xy_X1_place tw_576 hf (fun _ h => M_X1_place G l kp h) ⟨Nat.le_of_ble_eq_true rfl, Nat.le_of_ble_eq_true rfl⟩ (xce_1 G kp _ _) rfl rfl rfl (Nat.le_of_ble_eq_true rfl) hl.1 hR hS dX10_run_108 ⟨Nat.le_refl _, Nat.le_refl _⟩ (fun v1 hf H locs hR hS => ?_)
  refine lv_bipush (v := 11) hC.1 hC.2.1 dX10_run_111 (by decide) ?_
  refine x_ic_ne (tgt := 134) hC dX10_run_113 (by decide) hf (fun hf => ?_) (fun hf => ?_)
  · exact W_X10_run_j134 hC N _ hk54 hf _ _ _ hR hS (lv_sub hl [0, 1, 2, 3] rfl)
  · refine lv_aload_n hC.1 hC.2.1 dX10_run_116 rfl (lv_at hl 0 rfl) ?_
    refine x_get (v := .ref (xz G + 33)) hC xf_X10_36 (xce_0 G kp _ _) rfl hR dX10_run_117 ?_
    refine lv_aload_n hC.1 hC.2.1 dX10_run_120 rfl (lv_at hl 0 rfl) ?_
    refine x_get (v := .ref (xz G + 1)) hC xf_X10_10 (xce_0 G kp _ _) rfl hR dX10_run_121 ?_
    refine lv_aload_n hC.1 hC.2.1 dX10_run_124 rfl (lv_at hl 0 rfl) ?_
    refine x_get (v := .ref (xz G + 1)) hC xf_X10_10 (xce_0 G kp _ _) rfl hR dX10_run_125 ?_
    refine x_cvi00 (rest := [.ref (xz G + 1), .ref (xz G + 33)]) hC xy_X1_account tw_486 hf (fun _ h => M_X1_account G l kp h) ⟨Nat.le_of_ble_eq_true rfl, Nat.le_of_ble_eq_true rfl⟩ (xce_1 G kp _ _) rfl rfl rfl (Nat.le_of_ble_eq_true rfl) hl.1 hR hS dX10_run_128 ⟨Nat.le_refl _, Nat.le_refl _⟩ (fun v2 hf H locs hR hS => ?_)
    refine x_cvv10 (rest := []) hC xy_X4_nameAccount tw_875 hf (fun _ h => M_X4_nameAccount G l kp N h) ⟨Nat.le_of_ble_eq_true rfl, Nat.le_of_ble_eq_true rfl⟩ (xce_33 G kp _ _) rfl rfl rfl (Nat.le_of_ble_eq_true rfl) hl.1 hR hS dX10_run_131 ⟨Nat.le_refl _, Nat.le_refl _⟩ (fun I3 hf H locs hR hS => ?_)
    exact W_X10_run_j134 hC N _ hk54 hf _ _ _ hR hS (lv_sub hl [0, 1, 2, 3] rfl)
set_option maxRecDepth 20000 in
theorem W_X10_run_l54 {G : XG} {l : Launch} {kp : Bool} {p : Program} {e : Env} {s : State} {m : MethodId} {args : Array Value} {below : List Frame} {meth : Method} {c : Code} (hC : xC G p s m args meth c cX10_run 4 RX10 (some .int)) (N : Nat) {r : Int32} {rI : xTI} {rL : xTL} {x1 : Int32} : ∀ (n : Nat) (x2 : Int32) (x3 : Int32) (I : xTI) (L : xTL) , xlp (F_X10_run_b54 N x1 ) n (x2, x3, I, L) = some (r, rI, rL) → ∀ (H : Heap) (locs : List Loc) (ls : Array Slot), xRep G kp I L H → xS G s.heap H locs → lv_has ls 4 [(0, .ref (xz G + 0)), (1, .int x1), (2, .int x2), (3, .int x3)] → W p l e (xrm 7 177) s m args below meth c H locs 0 0 (xMQ G kp below args s (some (.int r)) rI rL) (F0 m 54 ls []) := by
  intro n
  induction n with
  | zero =>
    intro x2 x3 I L hf
    cases hf
  | succ n hk54 =>
    intro x2 x3 I L hf H locs ls hR hS hl
    rw [xlp_s, E_X10_run_b54] at hf
    unfold F_X10_run_c54 at hf
    refine lv_iload_n hC.1 hC.2.1 dX10_run_54 rfl (lv_at hl 3 rfl) ?_
    refine lv_iload_n hC.1 hC.2.1 dX10_run_55 rfl (lv_at hl 1 rfl) ?_
    refine x_ic_ge (tgt := 197) hC dX10_run_56 (by decide) hf (fun hf => ?_) (fun hf => ?_)
    · refine lv_iload_n hC.1 hC.2.1 dX10_run_197 rfl (lv_at hl 2 rfl) ?_
      obtain ⟨h91, h90⟩ := Prod.mk.inj (Option.some.inj hf)
      obtain ⟨h92, h93⟩ := Prod.mk.inj h90
      subst h91
      subst h92
      subst h93
      exact x_iret hC hR hS dX10_run_198
    · refine lv_aload_n hC.1 hC.2.1 dX10_run_59 rfl (lv_at hl 0 rfl) ?_
      refine x_get (v := .ref (xz G + 32)) hC xf_X10_29 (xce_0 G kp _ _) rfl hR dX10_run_60 ?_
      refine lv_aload_n hC.1 hC.2.1 dX10_run_63 rfl (lv_at hl 0 rfl) ?_
      refine x_get (v := .ref (xz G + 1)) hC xf_X10_10 (xce_0 G kp _ _) rfl hR dX10_run_64 ?_
      refine x_cvv10 (rest := []) hC xy_X2_judgeOpen tw_838 hf (fun _ h => M_X2_judgeOpen G l kp N h) ⟨Nat.le_of_ble_eq_true rfl, Nat.le_of_ble_eq_true rfl⟩ (xce_32 G kp _ _) rfl rfl rfl (Nat.le_of_ble_eq_true rfl) hl.1 hR hS dX10_run_67 ⟨Nat.le_refl _, Nat.le_refl _⟩ (fun I1 hf H locs hR hS => ?_)
      refine lv_aload_n hC.1 hC.2.1 dX10_run_70 rfl (lv_at hl 0 rfl) ?_
      refine x_get (v := .ref (xz G + 32)) hC xf_X10_29 (xce_0 G kp _ _) rfl hR dX10_run_71 ?_
      refine lv_aload_n hC.1 hC.2.1 dX10_run_74 rfl (lv_at hl 0 rfl) ?_
      refine x_get (v := .ref (xz G + 1)) hC xf_X10_10 (xce_0 G kp _ _) rfl hR dX10_run_75 ?_
      refine x_cvv11 (rest := []) hC xy_X2_payDividends tw_846 hf (fun _ _ h => M_X2_payDividends G l kp N h) ⟨Nat.le_of_ble_eq_true rfl, Nat.le_of_ble_eq_true rfl⟩ (xce_32 G kp _ _) rfl rfl rfl (Nat.le_of_ble_eq_true rfl) hl.1 hR hS dX10_run_78 ⟨Nat.le_refl _, Nat.le_refl _⟩ (fun I2 L3 hf H locs hR hS => ?_)
      refine lv_aload_n hC.1 hC.2.1 dX10_run_81 rfl (lv_at hl 0 rfl) ?_
      refine W.eq (g2 := F0 m 82 ls [.ref (xz G + 0)]) rfl ?_
      refine x_get (v := .ref (xz G + 1)) hC xf_X10_10 (xce_0 G kp _ _) rfl hR dX10_run_82 ?_
      refine x_cvi00 (rest := []) hC xy_X1_place tw_576 hf (fun _ h => M_X1_place G l kp h) ⟨Nat.le_of_ble_eq_true rfl, Nat.le_of_ble_eq_true rfl⟩ (xce_1 G kp _ _) rfl rfl rfl (Nat.le_of_ble_eq_true rfl) hl.1 hR hS dX10_run_85 ⟨Nat.le_refl _, Nat.le_refl _⟩ (fun v4 hf H locs hR hS => ?_)
      refine lv_bipush (v := 9) hC.1 hC.2.1 dX10_run_88 (by decide) ?_
      refine x_ic_ne (tgt := 104) hC dX10_run_90 (by decide) hf (fun hf => ?_) (fun hf => ?_)
      · exact W_X10_run_j104 hC N _ hk54 hf _ _ _ hR hS (lv_sub hl [0, 1, 2, 3] rfl)
      · refine lv_aload_n hC.1 hC.2.1 dX10_run_93 rfl (lv_at hl 0 rfl) ?_
        refine x_get (v := .ref (xz G + 32)) hC xf_X10_29 (xce_0 G kp _ _) rfl hR dX10_run_94 ?_
        refine lv_aload_n hC.1 hC.2.1 dX10_run_97 rfl (lv_at hl 0 rfl) ?_
        refine x_get (v := .ref (xz G + 1)) hC xf_X10_10 (xce_0 G kp _ _) rfl hR dX10_run_98 ?_
        refine x_cvv10 (rest := []) hC xy_X2_makeUp tw_865 hf (fun _ h => M_X2_makeUp G l kp N h) ⟨Nat.le_of_ble_eq_true rfl, Nat.le_of_ble_eq_true rfl⟩ (xce_32 G kp _ _) rfl rfl rfl (Nat.le_of_ble_eq_true rfl) hl.1 hR hS dX10_run_101 ⟨Nat.le_refl _, Nat.le_refl _⟩ (fun I5 hf H locs hR hS => ?_)
        exact W_X10_run_j104 hC N _ hk54 hf _ _ _ hR hS (lv_sub hl [0, 1, 2, 3] rfl)
set_option maxRecDepth 20000 in
theorem M_X10_run (G : XG) (l : Launch) (kp : Bool) (N : Nat) {I : xTI} {L : xTL} {x1 : Int32} {r : Int32} {rI : xTI} {rL : xTL} (hf : F_X10_run N I L x1 = some (r, rI, rL)) : xMet G l yX10_run cX10_run 4 (some .int) 7 177 kp [.ref (xz G + 0), .int x1] I L (some (.int r)) rI rL := by
  refine xMet.ofW (by decide +kernel) (Nat.le_of_ble_eq_true rfl) ?_
  intro p e s m args below meth c hC H locs ls hR hS hl
  replace hC : xC G p s m args meth c cX10_run 4 RX10 (some .int) := hC
  replace hl : lv_has ls 4 [(0, .ref (xz G + 0)), (1, .int x1)] := hl
  unfold F_X10_run at hf
  refine lv_iload_n hC.1 hC.2.1 dX10_run_0 rfl (lv_at hl 1 rfl) ?_
  refine x_if_ge (tgt := 11) hC dX10_run_1 (by decide) hf (fun hf => ?_) (fun hf => ?_)
  · refine lv_iload_n hC.1 hC.2.1 dX10_run_11 rfl (lv_at hl 1 rfl) ?_
    refine lv_iconst (v := 1) hC.1 hC.2.1 dX10_run_12 (by decide) ?_
    refine lv_bipush (v := 28) hC.1 hC.2.1 dX10_run_13 (by decide) ?_
    refine x_csi00 (rest := []) hC xy_X10_isWithin tw_408 hf (fun _ h => M_X10_isWithin G l kp h) ⟨Nat.le_of_ble_eq_true rfl, Nat.le_of_ble_eq_true rfl⟩ rfl rfl (Nat.le_of_ble_eq_true rfl) hl.1 hR hS dX10_run_15 ⟨Nat.le_refl _, Nat.le_refl _⟩ (fun v1 hf H locs hR hS => ?_)
    refine x_if_ne (tgt := 28) hC dX10_run_18 (by decide) hf (fun hf => ?_) (fun hf => ?_)
    · refine lv_aload_n hC.1 hC.2.1 dX10_run_28 rfl (lv_at hl 0 rfl) ?_
      refine x_get (v := .ref (xz G + 1)) hC xf_X10_10 (xce_0 G kp _ _) rfl hR dX10_run_29 ?_
      refine x_getI hC xf_X10_164 (xce_1 G kp _ _) rfl hR dX10_run_32 hf (fun v2 hf => ?_)
      refine lv_iload_n hC.1 hC.2.1 dX10_run_35 rfl (lv_at hl 1 rfl) ?_
      refine lv_iadd hC.1 hC.2.1 dX10_run_36 ?_
      refine lv_sipush (v := 700) hC.1 hC.2.1 dX10_run_37 (by decide) ?_
      refine x_ic_le (tgt := 50) hC dX10_run_40 (by decide) hf (fun hf => ?_) (fun hf => ?_)
      · refine lv_iconst (v := 0) hC.1 hC.2.1 dX10_run_50 (by decide) ?_
        refine lv_istore_n (lv' := [(2, .int 0), (0, .ref (xz G + 0)), (1, .int x1)]) hC.1 hC.2.1 dX10_run_51 rfl hl (Nat.le_of_ble_eq_true rfl) rfl (fun ls hl => ?_)
        refine lv_iconst (v := 0) hC.1 hC.2.1 dX10_run_52 (by decide) ?_
        refine lv_istore_n (lv' := [(3, .int 0), (2, .int 0), (0, .ref (xz G + 0)), (1, .int x1)]) hC.1 hC.2.1 dX10_run_53 rfl hl (Nat.le_of_ble_eq_true rfl) rfl (fun ls hl => ?_)
        exact W_X10_run_l54 hC N _ 0 0 I L hf _ _ _ hR hS (lv_sub hl [2, 3, 1, 0] rfl)
      · refine lv_aload_n hC.1 hC.2.1 dX10_run_43 rfl (lv_at hl 0 rfl) ?_
        refine lv_bipush (v := (-8)) hC.1 hC.2.1 dX10_run_44 (by decide) ?_
        refine x_cvi10 (rest := []) hC xy_X10_refuse tw_411 hf (fun _ _ h => M_X10_refuse G l kp h) ⟨Nat.le_of_ble_eq_true rfl, Nat.le_of_ble_eq_true rfl⟩ (xce_0 G kp _ _) rfl rfl rfl (Nat.le_of_ble_eq_true rfl) hl.1 hR hS dX10_run_46 ⟨Nat.le_refl _, Nat.le_refl _⟩ (fun v3 I4 hf H locs hR hS => ?_)
        obtain ⟨h91, h90⟩ := Prod.mk.inj (Option.some.inj hf)
        obtain ⟨h92, h93⟩ := Prod.mk.inj h90
        subst h91
        subst h92
        subst h93
        exact x_iret hC hR hS dX10_run_49
    · refine lv_aload_n hC.1 hC.2.1 dX10_run_21 rfl (lv_at hl 0 rfl) ?_
      refine lv_bipush (v := (-7)) hC.1 hC.2.1 dX10_run_22 (by decide) ?_
      refine x_cvi10 (rest := []) hC xy_X10_refuse tw_411 hf (fun _ _ h => M_X10_refuse G l kp h) ⟨Nat.le_of_ble_eq_true rfl, Nat.le_of_ble_eq_true rfl⟩ (xce_0 G kp _ _) rfl rfl rfl (Nat.le_of_ble_eq_true rfl) hl.1 hR hS dX10_run_24 ⟨Nat.le_refl _, Nat.le_refl _⟩ (fun v5 I6 hf H locs hR hS => ?_)
      obtain ⟨h91, h90⟩ := Prod.mk.inj (Option.some.inj hf)
      obtain ⟨h92, h93⟩ := Prod.mk.inj h90
      subst h91
      subst h92
      subst h93
      exact x_iret hC hR hS dX10_run_27
  · refine lv_aload_n hC.1 hC.2.1 dX10_run_4 rfl (lv_at hl 0 rfl) ?_
    refine lv_bipush (v := (-4)) hC.1 hC.2.1 dX10_run_5 (by decide) ?_
    refine x_cvi10 (rest := []) hC xy_X10_refuse tw_411 hf (fun _ _ h => M_X10_refuse G l kp h) ⟨Nat.le_of_ble_eq_true rfl, Nat.le_of_ble_eq_true rfl⟩ (xce_0 G kp _ _) rfl rfl rfl (Nat.le_of_ble_eq_true rfl) hl.1 hR hS dX10_run_7 ⟨Nat.le_refl _, Nat.le_refl _⟩ (fun v7 I8 hf H locs hR hS => ?_)
    obtain ⟨h91, h90⟩ := Prod.mk.inj (Option.some.inj hf)
    obtain ⟨h92, h93⟩ := Prod.mk.inj h90
    subst h91
    subst h92
    subst h93
    exact x_iret hC hR hS dX10_run_10
