set_option maxRecDepth 20000 in
theorem M_X10_judge (G : XG) (l : Launch) (kp : Bool) (N : Nat) {I : xTI} {L : xTL} {x1 : Int32} {x2 : Int32} {r : Int32} {rI : xTI} {rL : xTL} (hf : F_X10_judge N I L x1 x2 = some (r, rI, rL)) : xMet G l yX10_judge cX10_judge 3 (some .int) 5 124 kp [.ref (xz G + 0), .int x1, .int x2] I L (some (.int r)) rI rL := by
  refine xMet.ofW (by decide +kernel) (Nat.le_of_ble_eq_true rfl) ?_
  intro p e s m args below meth c hC H locs ls hR hS hl
  replace hC : xC G p s m args meth c cX10_judge 3 RX10 (some .int) := hC
  replace hl : lv_has ls 3 [(0, .ref (xz G + 0)), (1, .int x1), (2, .int x2)] := hl
  unfold F_X10_judge at hf
  refine lv_aload_n hC.1 hC.2.1 dX10_judge_0 rfl (lv_at hl 0 rfl) ?_
  refine lv_iload_n hC.1 hC.2.1 dX10_judge_1 rfl (lv_at hl 1 rfl) ?_
  refine x_cvi00 (rest := []) hC xy_X10_isStock tw_431 hf (fun _ h => M_X10_isStock G l kp h) ⟨Nat.le_of_ble_eq_true rfl, Nat.le_of_ble_eq_true rfl⟩ (xce_0 G kp _ _) rfl rfl rfl (Nat.le_of_ble_eq_true rfl) hl.1 hR hS dX10_judge_2 ⟨Nat.le_refl _, Nat.le_refl _⟩ (fun v1 hf H locs hR hS => ?_)
  refine x_if_ne (tgt := 15) hC dX10_judge_5 (by decide) hf (fun hf => ?_) (fun hf => ?_)
  · refine lv_iload_n hC.1 hC.2.1 dX10_judge_15 rfl (lv_at hl 2 rfl) ?_
    refine x_if_ge (tgt := 26) hC dX10_judge_16 (by decide) hf (fun hf => ?_) (fun hf => ?_)
    · refine lv_aload_n hC.1 hC.2.1 dX10_judge_26 rfl (lv_at hl 0 rfl) ?_
      refine x_getI hC xf_X10_58 (xce_0 G kp _ _) rfl hR dX10_judge_27 hf (fun v2 hf => ?_)
      refine lv_iconst (v := (-1)) hC.1 hC.2.1 dX10_judge_30 (by decide) ?_
      refine x_ic_ne (tgt := 41) hC dX10_judge_31 (by decide) hf (fun hf => ?_) (fun hf => ?_)
      · refine lv_aload_n hC.1 hC.2.1 dX10_judge_41 rfl (lv_at hl 0 rfl) ?_
        refine x_getI hC xf_X10_58 (xce_0 G kp _ _) rfl hR dX10_judge_42 hf (fun v3 hf => ?_)
        refine lv_iconst (v := 3) hC.1 hC.2.1 dX10_judge_45 (by decide) ?_
        refine lv_irem hC.1 hC.2.1 dX10_judge_46 (by decide) ?_
        refine x_if_eq (tgt := 57) hC dX10_judge_47 (by decide) hf (fun hf => ?_) (fun hf => ?_)
        · refine lv_aload_n hC.1 hC.2.1 dX10_judge_57 rfl (lv_at hl 0 rfl) ?_
          refine x_get (v := .ref (xz G + 46)) hC xf_X10_50 (xce_0 G kp _ _) rfl hR dX10_judge_58 ?_
          refine lv_aload_n hC.1 hC.2.1 dX10_judge_61 rfl (lv_at hl 0 rfl) ?_
          refine x_get (v := .ref (xz G + 1)) hC xf_X10_10 (xce_0 G kp _ _) rfl hR dX10_judge_62 ?_
          refine lv_iload_n hC.1 hC.2.1 dX10_judge_65 rfl (lv_at hl 1 rfl) ?_
          refine lv_iload_n hC.1 hC.2.1 dX10_judge_66 rfl (lv_at hl 2 rfl) ?_
          refine lv_aload_n hC.1 hC.2.1 dX10_judge_67 rfl (lv_at hl 0 rfl) ?_
          refine x_get (v := .ref (xz G + 55)) hC xf_X10_54 (xce_0 G kp _ _) rfl hR dX10_judge_68 ?_
          refine lv_aload_n hC.1 hC.2.1 dX10_judge_71 rfl (lv_at hl 0 rfl) ?_
          refine x_getI hC xf_X10_58 (xce_0 G kp _ _) rfl hR dX10_judge_72 hf (fun v4 hf => ?_)
          refine x_cvi11 (rest := []) hC xy_X7_isGood tw_1044 hf (fun _ _ _ h => M_X7_isGood_55 G l kp N h) ⟨Nat.le_of_ble_eq_true rfl, Nat.le_of_ble_eq_true rfl⟩ (xce_46 G kp _ _) rfl rfl rfl (Nat.le_of_ble_eq_true rfl) hl.1 hR hS dX10_judge_75 ⟨Nat.le_refl _, Nat.le_refl _⟩ (fun v5 I6 L7 hf H locs hR hS => ?_)
          refine W.eq (g2 := F0 m 78 ls [.int v5]) rfl ?_
          refine x_if_eq (tgt := 90) hC dX10_judge_78 (by decide) hf (fun hf => ?_) (fun hf => ?_)
          · refine lv_iconst (v := (-1)) hC.1 hC.2.1 dX10_judge_90 (by decide) ?_
            obtain ⟨h91, h90⟩ := Prod.mk.inj (Option.some.inj hf)
            obtain ⟨h92, h93⟩ := Prod.mk.inj h90
            subst h91
            subst h92
            subst h93
            exact x_iret hC hR hS dX10_judge_91
          · refine lv_aload_n hC.1 hC.2.1 dX10_judge_81 rfl (lv_at hl 0 rfl) ?_
            refine x_getI hC xf_X10_58 (xce_0 G kp _ _) rfl hR dX10_judge_82 hf (fun v8 hf => ?_)
            refine lv_iconst (v := 3) hC.1 hC.2.1 dX10_judge_85 (by decide) ?_
            refine lv_idiv hC.1 hC.2.1 dX10_judge_86 (by decide) ?_
            refine lv_goto (tgt := 91) hC.1 hC.2.1 dX10_judge_87 (by decide) ?_
            obtain ⟨h91, h90⟩ := Prod.mk.inj (Option.some.inj hf)
            obtain ⟨h92, h93⟩ := Prod.mk.inj h90
            subst h91
            subst h92
            subst h93
            exact x_iret hC hR hS dX10_judge_91
        · refine lv_aload_n hC.1 hC.2.1 dX10_judge_50 rfl (lv_at hl 0 rfl) ?_
          refine lv_bipush (v := (-5)) hC.1 hC.2.1 dX10_judge_51 (by decide) ?_
          refine x_cvi10 (rest := []) hC xy_X10_refuse tw_411 hf (fun _ _ h => M_X10_refuse G l kp h) ⟨Nat.le_of_ble_eq_true rfl, Nat.le_of_ble_eq_true rfl⟩ (xce_0 G kp _ _) rfl rfl rfl (Nat.le_of_ble_eq_true rfl) hl.1 hR hS dX10_judge_53 ⟨Nat.le_refl _, Nat.le_refl _⟩ (fun v9 I10 hf H locs hR hS => ?_)
          obtain ⟨h91, h90⟩ := Prod.mk.inj (Option.some.inj hf)
          obtain ⟨h92, h93⟩ := Prod.mk.inj h90
          subst h91
          subst h92
          subst h93
          exact x_iret hC hR hS dX10_judge_56
      · refine lv_aload_n hC.1 hC.2.1 dX10_judge_34 rfl (lv_at hl 0 rfl) ?_
        refine lv_bipush (v := (-2)) hC.1 hC.2.1 dX10_judge_35 (by decide) ?_
        refine x_cvi10 (rest := []) hC xy_X10_refuse tw_411 hf (fun _ _ h => M_X10_refuse G l kp h) ⟨Nat.le_of_ble_eq_true rfl, Nat.le_of_ble_eq_true rfl⟩ (xce_0 G kp _ _) rfl rfl rfl (Nat.le_of_ble_eq_true rfl) hl.1 hR hS dX10_judge_37 ⟨Nat.le_refl _, Nat.le_refl _⟩ (fun v11 I12 hf H locs hR hS => ?_)
        obtain ⟨h91, h90⟩ := Prod.mk.inj (Option.some.inj hf)
        obtain ⟨h92, h93⟩ := Prod.mk.inj h90
        subst h91
        subst h92
        subst h93
        exact x_iret hC hR hS dX10_judge_40
    · refine lv_aload_n hC.1 hC.2.1 dX10_judge_19 rfl (lv_at hl 0 rfl) ?_
      refine lv_bipush (v := (-7)) hC.1 hC.2.1 dX10_judge_20 (by decide) ?_
      refine x_cvi10 (rest := []) hC xy_X10_refuse tw_411 hf (fun _ _ h => M_X10_refuse G l kp h) ⟨Nat.le_of_ble_eq_true rfl, Nat.le_of_ble_eq_true rfl⟩ (xce_0 G kp _ _) rfl rfl rfl (Nat.le_of_ble_eq_true rfl) hl.1 hR hS dX10_judge_22 ⟨Nat.le_refl _, Nat.le_refl _⟩ (fun v13 I14 hf H locs hR hS => ?_)
      obtain ⟨h91, h90⟩ := Prod.mk.inj (Option.some.inj hf)
      obtain ⟨h92, h93⟩ := Prod.mk.inj h90
      subst h91
      subst h92
      subst h93
      exact x_iret hC hR hS dX10_judge_25
  · refine lv_aload_n hC.1 hC.2.1 dX10_judge_8 rfl (lv_at hl 0 rfl) ?_
    refine lv_bipush (v := (-3)) hC.1 hC.2.1 dX10_judge_9 (by decide) ?_
    refine x_cvi10 (rest := []) hC xy_X10_refuse tw_411 hf (fun _ _ h => M_X10_refuse G l kp h) ⟨Nat.le_of_ble_eq_true rfl, Nat.le_of_ble_eq_true rfl⟩ (xce_0 G kp _ _) rfl rfl rfl (Nat.le_of_ble_eq_true rfl) hl.1 hR hS dX10_judge_11 ⟨Nat.le_refl _, Nat.le_refl _⟩ (fun v15 I16 hf H locs hR hS => ?_)
    obtain ⟨h91, h90⟩ := Prod.mk.inj (Option.some.inj hf)
    obtain ⟨h92, h93⟩ := Prod.mk.inj h90
    subst h91
    subst h92
    subst h93
    exact x_iret hC hR hS dX10_judge_14
set_option maxRecDepth 20000 in
theorem W_J7_fill_53178_53_l5 {G : XG} {l : Launch} {kp : Bool} {p : Program} {e : Env} {s : State} {m : MethodId} {args : Array Value} {below : List Frame} {meth : Method} {c : Code} (hC : xC G p s m args meth c cJ7_fill_53178 4 RJ7 none) (N : Nat) {L : xTL} {rI : xTI} {x1 : Int32} {x3 : Int32} : ∀ (n : Nat) (x2 : Int32) (I : xTI) , xlp (F_J7_fill_53178_53_b5 N x1 x3 ) n (x2, I) = some rI → ∀ (H : Heap) (locs : List Loc) (ls : Array Slot), xRep G kp I L H → xS G s.heap H locs → lv_has ls 4 [(0, .ref (xz G + 53)), (1, .int x1), (2, .int x2), (3, .int x3)] → W p l e (xrm 0 0) s m args below meth c H locs 0 0 (xMQ G kp below args s none rI L) (F0 m 5 ls []) := by
  intro n
  induction n with
  | zero =>
    intro x2 I hf
    cases hf
  | succ n hk5 =>
    intro x2 I hf H locs ls hR hS hl
    rw [xlp_s, E_J7_fill_53178_53_b5] at hf
    unfold F_J7_fill_53178_53_c5 at hf
    refine lv_iload_n hC.1 hC.2.1 dJ7_fill_53178_5 rfl (lv_at hl 2 rfl) ?_
    refine lv_iload_n hC.1 hC.2.1 dJ7_fill_53178_6 rfl (lv_at hl 3 rfl) ?_
    refine x_ic_ge (tgt := 20) hC dJ7_fill_53178_7 (by decide) hf (fun hf => ?_) (fun hf => ?_)
    · have h9 := Option.some.inj hf
      subst h9
      exact x_vret hC hR hS dJ7_fill_53178_20
    · refine lv_aload_n hC.1 hC.2.1 dJ7_fill_53178_10 rfl (lv_at hl 0 rfl) ?_
      refine lv_iload_n hC.1 hC.2.1 dJ7_fill_53178_11 rfl (lv_at hl 2 rfl) ?_
      refine lv_iload_n hC.1 hC.2.1 dJ7_fill_53178_12 rfl (lv_at hl 1 rfl) ?_
      refine x_ias hC (fun f => (xce_53 G kp f _)) hR hS dJ7_fill_53178_13 hf (fun I1 hf H locs hR hS => ?_)
      refine x_iinc (d := 1) (lv' := fun y2 => [(2, .int y2), (0, .ref (xz G + 53)), (1, .int x1), (3, .int x3)]) (k := 2) hC hl dJ7_fill_53178_14 rfl (by decide) (Nat.le_of_ble_eq_true rfl) hf (fun _ => rfl) (fun y2 hf ls hl => ?_)
      refine lv_goto (tgt := 5) hC.1 hC.2.1 dJ7_fill_53178_17 (by decide) ?_
      exact hk5 y2 I1 hf _ _ _ hR hS (lv_sub hl [1, 2, 0, 3] rfl)
set_option maxRecDepth 20000 in
theorem M_J7_fill_53178_53 (G : XG) (l : Launch) (kp : Bool) (N : Nat) {I : xTI} {L : xTL} {x1 : Int32} {rI : xTI} (hf : F_J7_fill_53178_53 N I x1 = some rI) : xMet G l yJ7_fill_53178 cJ7_fill_53178 4 none 0 0 kp [.ref (xz G + 53), .int x1] I L none rI L := by
  refine xMet.ofW (by decide +kernel) (Nat.le_of_ble_eq_true rfl) ?_
  intro p e s m args below meth c hC H locs ls hR hS hl
  replace hC : xC G p s m args meth c cJ7_fill_53178 4 RJ7 none := hC
  replace hl : lv_has ls 4 [(0, .ref (xz G + 53)), (1, .int x1)] := hl
  unfold F_J7_fill_53178_53 at hf
  refine lv_iconst (v := 0) hC.1 hC.2.1 dJ7_fill_53178_0 (by decide) ?_
  refine lv_istore_n (lv' := [(2, .int 0), (0, .ref (xz G + 53)), (1, .int x1)]) hC.1 hC.2.1 dJ7_fill_53178_1 rfl hl (Nat.le_of_ble_eq_true rfl) rfl (fun ls hl => ?_)
  refine lv_aload_n hC.1 hC.2.1 dJ7_fill_53178_2 rfl (lv_at hl 1 rfl) ?_
  refine x_alen_i (v := 12) hC (xce_53 G kp _ _) rfl hR dJ7_fill_53178_3 ?_
  refine lv_istore_n (lv' := [(3, .int 12), (2, .int 0), (0, .ref (xz G + 53)), (1, .int x1)]) hC.1 hC.2.1 dJ7_fill_53178_4 rfl hl (Nat.le_of_ble_eq_true rfl) rfl (fun ls hl => ?_)
  exact W_J7_fill_53178_53_l5 hC N _ 0 I hf _ _ _ hR hS (lv_sub hl [2, 3, 1, 0] rfl)
set_option maxRecDepth 20000 in
theorem W_X7_takePositions_l26 {G : XG} {l : Launch} {kp : Bool} {p : Program} {e : Env} {s : State} {m : MethodId} {args : Array Value} {below : List Frame} {meth : Method} {c : Code} (hC : xC G p s m args meth c cX7_takePositions 4 RX7 none) (N : Nat) {L : xTL} {rI : xTI} {x2 : Int32} : ∀ (n : Nat) (x3 : Int32) (I : xTI) , xlp (F_X7_takePositions_b26 N x2 ) n (x3, I) = some rI → ∀ (H : Heap) (locs : List Loc) (ls : Array Slot), xRep G kp I L H → xS G s.heap H locs → lv_has ls 4 [(0, .ref (xz G + 46)), (1, .ref (xz G + 1)), (2, .int x2), (3, .int x3)] → W p l e (xrm 3 70) s m args below meth c H locs 0 0 (xMQ G kp below args s none rI L) (F0 m 26 ls []) := by
  intro n
  induction n with
  | zero =>
    intro x3 I hf
    cases hf
  | succ n hk26 =>
    intro x3 I hf H locs ls hR hS hl
    rw [xlp_s, E_X7_takePositions_b26] at hf
    unfold F_X7_takePositions_c26 at hf
    refine lv_iload_n hC.1 hC.2.1 dX7_takePositions_26 rfl (lv_at hl 3 rfl) ?_
    refine lv_aload_n hC.1 hC.2.1 dX7_takePositions_27 rfl (lv_at hl 1 rfl) ?_
    refine x_get (v := .ref (xz G + 3)) hC xf_X7_65 (xce_1 G kp _ _) rfl hR dX7_takePositions_28 ?_
    refine x_getI hC xf_X7_69 (xce_3 G kp _ _) rfl hR dX7_takePositions_31 hf (fun v1 hf => ?_)
    refine x_ic_ge (tgt := 80) hC dX7_takePositions_34 (by decide) hf (fun hf => ?_) (fun hf => ?_)
    · have h9 := Option.some.inj hf
      subst h9
      exact x_vret hC hR hS dX7_takePositions_80
    · refine lv_aload_n hC.1 hC.2.1 dX7_takePositions_37 rfl (lv_at hl 1 rfl) ?_
      refine x_get (v := .ref (xz G + 3)) hC xf_X7_65 (xce_1 G kp _ _) rfl hR dX7_takePositions_38 ?_
      refine lv_iload_n hC.1 hC.2.1 dX7_takePositions_41 rfl (lv_at hl 3 rfl) ?_
      refine x_cvi00 (rest := []) hC xy_X3_isUp tw_1067 hf (fun _ h => M_X3_isUp G l kp h) ⟨Nat.le_of_ble_eq_true rfl, Nat.le_of_ble_eq_true rfl⟩ (xce_3 G kp _ _) rfl rfl rfl (Nat.le_of_ble_eq_true rfl) hl.1 hR hS dX7_takePositions_42 ⟨Nat.le_refl _, Nat.le_refl _⟩ (fun v2 hf H locs hR hS => ?_)
      refine x_if_eq (tgt := 74) hC dX7_takePositions_45 (by decide) hf (fun hf => ?_) (fun hf => ?_)
      · refine x_iinc (d := 1) (lv' := fun y3 => [(3, .int y3), (0, .ref (xz G + 46)), (1, .ref (xz G + 1)), (2, .int x2)]) (k := 3) hC hl dX7_takePositions_74 rfl (by decide) (Nat.le_of_ble_eq_true rfl) hf (fun _ => rfl) (fun y3 hf ls hl => ?_)
        refine lv_goto (tgt := 26) hC.1 hC.2.1 dX7_takePositions_77 (by decide) ?_
        exact hk26 y3 I hf _ _ _ hR hS (lv_sub hl [1, 2, 3, 0] rfl)
      · refine lv_aload_n hC.1 hC.2.1 dX7_takePositions_48 rfl (lv_at hl 0 rfl) ?_
        refine x_get (v := .ref (xz G + 53)) hC xf_X7_31 (xce_46 G kp _ _) rfl hR dX7_takePositions_49 ?_
        refine lv_iload_n hC.1 hC.2.1 dX7_takePositions_52 rfl (lv_at hl 3 rfl) ?_
        refine lv_aload_n hC.1 hC.2.1 dX7_takePositions_53 rfl (lv_at hl 1 rfl) ?_
        refine x_get (v := .ref (xz G + 3)) hC xf_X7_65 (xce_1 G kp _ _) rfl hR dX7_takePositions_54 ?_
        refine x_get (v := .ref (xz G + 9)) hC xf_X7_90 (xce_3 G kp _ _) rfl hR dX7_takePositions_57 ?_
        refine lv_iload_n hC.1 hC.2.1 dX7_takePositions_60 rfl (lv_at hl 3 rfl) ?_
        refine lv_iload_n hC.1 hC.2.1 dX7_takePositions_61 rfl (lv_at hl 2 rfl) ?_
        refine x_csi00 (rest := [.ref (xz G + 9), .int x3, .ref (xz G + 53)]) hC xy_X3_place tw_1068 hf (fun _ h => M_X3_place G l kp h) ⟨Nat.le_of_ble_eq_true rfl, Nat.le_of_ble_eq_true rfl⟩ rfl rfl (Nat.le_of_ble_eq_true rfl) hl.1 hR hS dX7_takePositions_62 ⟨Nat.le_refl _, Nat.le_refl _⟩ (fun v4 hf H locs hR hS => ?_)
        refine x_ial hC (xce_9 G kp _ _) hR dX7_takePositions_65 hf (fun v5 hf => ?_)
        refine lv_aload_n hC.1 hC.2.1 dX7_takePositions_66 rfl (lv_at hl 0 rfl) ?_
        refine W.eq (g2 := F0 m 67 ls [.ref (xz G + 46), .int v5, .int x3, .ref (xz G + 53)]) rfl ?_
        refine x_get (v := .ref (xz G + 47)) hC xf_X7_11 (xce_46 G kp _ _) rfl hR dX7_takePositions_67 ?_
        refine lv_iload_n hC.1 hC.2.1 dX7_takePositions_70 rfl (lv_at hl 3 rfl) ?_
        refine x_ial hC (xce_47 G kp _ _) hR dX7_takePositions_71 hf (fun v6 hf => ?_)
        refine lv_iadd hC.1 hC.2.1 dX7_takePositions_72 ?_
        refine x_ias hC (fun f => (xce_53 G kp f _)) hR hS dX7_takePositions_73 hf (fun I7 hf H locs hR hS => ?_)
        refine x_iinc (d := 1) (lv' := fun y8 => [(3, .int y8), (0, .ref (xz G + 46)), (1, .ref (xz G + 1)), (2, .int x2)]) (k := 3) hC hl dX7_takePositions_74 rfl (by decide) (Nat.le_of_ble_eq_true rfl) hf (fun _ => rfl) (fun y8 hf ls hl => ?_)
        refine lv_goto (tgt := 26) hC.1 hC.2.1 dX7_takePositions_77 (by decide) ?_
        exact hk26 y8 I7 hf _ _ _ hR hS (lv_sub hl [1, 2, 3, 0] rfl)
set_option maxRecDepth 20000 in
theorem M_X7_takePositions (G : XG) (l : Launch) (kp : Bool) (N : Nat) {I : xTI} {L : xTL} {x2 : Int32} {rI : xTI} (hf : F_X7_takePositions N I x2 = some rI) : xMet G l yX7_takePositions cX7_takePositions 4 none 3 70 kp [.ref (xz G + 46), .ref (xz G + 1), .int x2] I L none rI L := by
  refine xMet.ofW (by decide +kernel) (Nat.le_of_ble_eq_true rfl) ?_
  intro p e s m args below meth c hC H locs ls hR hS hl
  replace hC : xC G p s m args meth c cX7_takePositions 4 RX7 none := hC
  replace hl : lv_has ls 4 [(0, .ref (xz G + 46)), (1, .ref (xz G + 1)), (2, .int x2)] := hl
  unfold F_X7_takePositions at hf
  refine lv_aload_n hC.1 hC.2.1 dX7_takePositions_0 rfl (lv_at hl 1 rfl) ?_
  refine x_get (v := .ref (xz G + 11)) hC xf_X7_37 (xce_1 G kp _ _) rfl hR dX7_takePositions_1 ?_
  refine lv_aload_n hC.1 hC.2.1 dX7_takePositions_4 rfl (lv_at hl 0 rfl) ?_
  refine x_get (v := .ref (xz G + 47)) hC xf_X7_11 (xce_46 G kp _ _) rfl hR dX7_takePositions_5 ?_
  refine lv_iload_n hC.1 hC.2.1 dX7_takePositions_8 rfl (lv_at hl 2 rfl) ?_
  refine lv_aload_n hC.1 hC.2.1 dX7_takePositions_9 rfl (lv_at hl 1 rfl) ?_
  refine x_cvi00 (rest := [.int x2, .ref (xz G + 47), .ref (xz G + 11)]) hC xy_X1_account tw_1065 hf (fun _ h => M_X1_account G l kp h) ⟨Nat.le_of_ble_eq_true rfl, Nat.le_of_ble_eq_true rfl⟩ (xce_1 G kp _ _) rfl rfl rfl (Nat.le_of_ble_eq_true rfl) hl.1 hR hS dX7_takePositions_10 ⟨Nat.le_refl _, Nat.le_refl _⟩ (fun v1 hf H locs hR hS => ?_)
  refine x_cvv10 (rest := []) hC xy_X0_netsInto tw_1034 hf (fun _ h => M_X0_netsInto_47 G l kp N h) ⟨Nat.le_of_ble_eq_true rfl, Nat.le_of_ble_eq_true rfl⟩ (xce_11 G kp _ _) rfl rfl rfl (Nat.le_of_ble_eq_true rfl) hl.1 hR hS dX7_takePositions_13 ⟨Nat.le_refl _, Nat.le_refl _⟩ (fun I2 hf H locs hR hS => ?_)
  refine lv_aload_n hC.1 hC.2.1 dX7_takePositions_16 rfl (lv_at hl 0 rfl) ?_
  refine x_get (v := .ref (xz G + 53)) hC xf_X7_31 (xce_46 G kp _ _) rfl hR dX7_takePositions_17 ?_
  refine lv_iconst (v := 0) hC.1 hC.2.1 dX7_takePositions_20 (by decide) ?_
  refine W.eq (g2 := F0 m 21 ls [.int 0, .ref (xz G + 53)]) rfl ?_
  refine x_csv10 (rest := []) hC xy_J7_fill_53178 tw_1066 hf (fun _ h => M_J7_fill_53178_53 G l kp N h) ⟨Nat.le_of_ble_eq_true rfl, Nat.le_of_ble_eq_true rfl⟩ rfl rfl (Nat.le_of_ble_eq_true rfl) hl.1 hR hS dX7_takePositions_21 ⟨Nat.le_refl _, Nat.le_refl _⟩ (fun I3 hf H locs hR hS => ?_)
  refine lv_iconst (v := 0) hC.1 hC.2.1 dX7_takePositions_24 (by decide) ?_
  refine lv_istore_n (lv' := [(3, .int 0), (0, .ref (xz G + 46)), (1, .ref (xz G + 1)), (2, .int x2)]) hC.1 hC.2.1 dX7_takePositions_25 rfl hl (Nat.le_of_ble_eq_true rfl) rfl (fun ls hl => ?_)
  exact W_X7_takePositions_l26 hC N _ 0 I3 hf _ _ _ hR hS (lv_sub hl [1, 2, 3, 0] rfl)
set_option maxRecDepth 20000 in
theorem W_X7_needOfOthers_j43 {G : XG} {l : Launch} {kp : Bool} {p : Program} {e : Env} {s : State} {m : MethodId} {args : Array Value} {below : List Frame} {meth : Method} {c : Code} (hC : xC G p s m args meth c cX7_needOfOthers 6 RX7 (some .int)) (N : Nat) {I : xTI} {L : xTL} {r : Int32} {rI : xTI} {x3 : Int32} {x5 : Int32} {t0 : Int32} {t1 : Int32} (k12 : Int32 × Int32 → Option (Int32 × xTI)) (hk12 : ∀ (x4 : Int32) (x5 : Int32) , k12 (x4, x5) = some (r, rI) → ∀ (H : Heap) (locs : List Loc) (ls : Array Slot), xRep G kp I L H → xS G s.heap H locs → lv_has ls 6 [(0, .ref (xz G + 46)), (3, .int x3), (4, .int x4), (5, .int x5)] → W p l e (xrm 4 93) s m args below meth c H locs 0 0 (xMQ G kp below args s (some (.int r)) rI L) (F0 m 12 ls [])) (hf : F_X7_needOfOthers_j43 k12 N I x3 x5 t0 t1 = some (r, rI)) : ∀ (H : Heap) (locs : List Loc) (ls : Array Slot), xRep G kp I L H → xS G s.heap H locs → lv_has ls 6 [(0, .ref (xz G + 46)), (3, .int x3), (5, .int x5)] → W p l e (xrm 4 93) s m args below meth c H locs 0 0 (xMQ G kp below args s (some (.int r)) rI L) (F0 m 43 ls [.int t1, .int t0]) := by
  intro H locs ls hR hS hl
  unfold F_X7_needOfOthers_j43 at hf
  refine lv_iadd hC.1 hC.2.1 dX7_needOfOthers_43 ?_
  refine x_ist (lv' := fun y1 => [(4, .int y1), (0, .ref (xz G + 46)), (3, .int x3), (5, .int x5)]) hC hl dX7_needOfOthers_44 (Nat.le_of_ble_eq_true rfl) hf (fun _ => rfl) (fun y1 hf ls hl => ?_)
  refine x_iinc (d := 1) (lv' := fun y2 => [(5, .int y2), (4, .int y1), (0, .ref (xz G + 46)), (3, .int x3)]) (k := 3) hC hl dX7_needOfOthers_46 rfl (by decide) (Nat.le_of_ble_eq_true rfl) hf (fun _ => rfl) (fun y2 hf ls hl => ?_)
  refine lv_goto (tgt := 12) hC.1 hC.2.1 dX7_needOfOthers_49 (by decide) ?_
  exact hk12 y1 y2 hf _ _ _ hR hS (lv_sub hl [2, 3, 1, 0] rfl)
set_option maxRecDepth 20000 in
theorem W_X7_needOfOthers_l12 {G : XG} {l : Launch} {kp : Bool} {p : Program} {e : Env} {s : State} {m : MethodId} {args : Array Value} {below : List Frame} {meth : Method} {c : Code} (hC : xC G p s m args meth c cX7_needOfOthers 6 RX7 (some .int)) (N : Nat) {I : xTI} {L : xTL} {r : Int32} {rI : xTI} {x3 : Int32} : ∀ (n : Nat) (x4 : Int32) (x5 : Int32) , xlp (F_X7_needOfOthers_b12 N I x3 ) n (x4, x5) = some (r, rI) → ∀ (H : Heap) (locs : List Loc) (ls : Array Slot), xRep G kp I L H → xS G s.heap H locs → lv_has ls 6 [(0, .ref (xz G + 46)), (3, .int x3), (4, .int x4), (5, .int x5)] → W p l e (xrm 4 93) s m args below meth c H locs 0 0 (xMQ G kp below args s (some (.int r)) rI L) (F0 m 12 ls []) := by
  intro n
  induction n with
  | zero =>
    intro x4 x5 hf
    cases hf
  | succ n hk12 =>
    intro x4 x5 hf H locs ls hR hS hl
    rw [xlp_s, E_X7_needOfOthers_b12] at hf
    unfold F_X7_needOfOthers_c12 at hf
    refine lv_iload hC.1 hC.2.1 dX7_needOfOthers_12 (lv_at hl 3 rfl) ?_
    refine lv_bipush (v := 12) hC.1 hC.2.1 dX7_needOfOthers_14 (by decide) ?_
    refine x_ic_ge (tgt := 52) hC dX7_needOfOthers_16 (by decide) hf (fun hf => ?_) (fun hf => ?_)
    · refine lv_iload hC.1 hC.2.1 dX7_needOfOthers_52 (lv_at hl 2 rfl) ?_
      obtain ⟨h91, h92⟩ := Prod.mk.inj (Option.some.inj hf)
      subst h91
      subst h92
      exact x_iret hC hR hS dX7_needOfOthers_54
    · refine lv_iload hC.1 hC.2.1 dX7_needOfOthers_19 (lv_at hl 2 rfl) ?_
      refine lv_iload hC.1 hC.2.1 dX7_needOfOthers_21 (lv_at hl 3 rfl) ?_
      refine lv_iload_n hC.1 hC.2.1 dX7_needOfOthers_23 rfl (lv_at hl 1 rfl) ?_
      refine x_ic_ne (tgt := 31) hC dX7_needOfOthers_24 (by decide) hf (fun hf => ?_) (fun hf => ?_)
      · refine lv_aload_n hC.1 hC.2.1 dX7_needOfOthers_31 rfl (lv_at hl 0 rfl) ?_
        refine x_get (v := .ref (xz G + 53)) hC xf_X7_31 (xce_46 G kp _ _) rfl hR dX7_needOfOthers_32 ?_
        refine lv_iload hC.1 hC.2.1 dX7_needOfOthers_35 (lv_at hl 3 rfl) ?_
        refine x_ial hC (xce_53 G kp _ _) hR dX7_needOfOthers_37 hf (fun v1 hf => ?_)
        refine lv_ineg hC.1 hC.2.1 dX7_needOfOthers_38 ?_
        refine lv_iconst (v := 0) hC.1 hC.2.1 dX7_needOfOthers_39 (by decide) ?_
        refine x_mxi (rest := [.int x4]) hC tw_1039 hl.1 (Nat.le_of_ble_eq_true rfl) (Nat.le_of_ble_eq_true rfl) dX7_needOfOthers_40 ⟨Nat.le_refl _, Nat.le_refl _⟩ hf (fun v2 hf => ?_)
        exact W_X7_needOfOthers_j43 hC N _ hk12 hf _ _ _ hR hS (lv_sub hl [0, 1, 3] rfl)
      · refine lv_iconst (v := 0) hC.1 hC.2.1 dX7_needOfOthers_27 (by decide) ?_
        refine lv_goto (tgt := 43) hC.1 hC.2.1 dX7_needOfOthers_28 (by decide) ?_
        exact W_X7_needOfOthers_j43 hC N _ hk12 hf _ _ _ hR hS (lv_sub hl [0, 1, 3] rfl)
set_option maxRecDepth 20000 in
theorem M_X7_needOfOthers (G : XG) (l : Launch) (kp : Bool) (N : Nat) {I : xTI} {L : xTL} {x2 : Int32} {x3 : Int32} {r : Int32} {rI : xTI} (hf : F_X7_needOfOthers N I x2 x3 = some (r, rI)) : xMet G l yX7_needOfOthers cX7_needOfOthers 6 (some .int) 4 93 kp [.ref (xz G + 46), .ref (xz G + 1), .int x2, .int x3] I L (some (.int r)) rI L := by
  refine xMet.ofW (by decide +kernel) (Nat.le_of_ble_eq_true rfl) ?_
  intro p e s m args below meth c hC H locs ls hR hS hl
  replace hC : xC G p s m args meth c cX7_needOfOthers 6 RX7 (some .int) := hC
  replace hl : lv_has ls 6 [(0, .ref (xz G + 46)), (1, .ref (xz G + 1)), (2, .int x2), (3, .int x3)] := hl
  unfold F_X7_needOfOthers at hf
  refine lv_aload_n hC.1 hC.2.1 dX7_needOfOthers_0 rfl (lv_at hl 0 rfl) ?_
  refine lv_aload_n hC.1 hC.2.1 dX7_needOfOthers_1 rfl (lv_at hl 1 rfl) ?_
  refine lv_iload_n hC.1 hC.2.1 dX7_needOfOthers_2 rfl (lv_at hl 2 rfl) ?_
  refine x_cvv10 (rest := []) hC xy_X7_takePositions tw_1061 hf (fun _ h => M_X7_takePositions G l kp N h) ⟨Nat.le_of_ble_eq_true rfl, Nat.le_of_ble_eq_true rfl⟩ (xce_46 G kp _ _) rfl rfl rfl (Nat.le_of_ble_eq_true rfl) hl.1 hR hS dX7_needOfOthers_3 ⟨Nat.le_refl _, Nat.le_refl _⟩ (fun I1 hf H locs hR hS => ?_)
  refine lv_iconst (v := 0) hC.1 hC.2.1 dX7_needOfOthers_6 (by decide) ?_
  refine lv_istore (lv' := [(4, .int 0), (0, .ref (xz G + 46)), (1, .ref (xz G + 1)), (2, .int x2), (3, .int x3)]) hC.1 hC.2.1 dX7_needOfOthers_7 hl (Nat.le_of_ble_eq_true rfl) rfl (fun ls hl => ?_)
  refine lv_iconst (v := 0) hC.1 hC.2.1 dX7_needOfOthers_9 (by decide) ?_
  refine lv_istore (lv' := [(5, .int 0), (4, .int 0), (0, .ref (xz G + 46)), (1, .ref (xz G + 1)), (2, .int x2), (3, .int x3)]) hC.1 hC.2.1 dX7_needOfOthers_10 hl (Nat.le_of_ble_eq_true rfl) rfl (fun ls hl => ?_)
  exact W_X7_needOfOthers_l12 hC N _ 0 0 hf _ _ _ hR hS (lv_sub hl [2, 5, 1, 0] rfl)
set_option maxRecDepth 20000 in
theorem W_X7_haveOfOthers_j42 {G : XG} {l : Launch} {kp : Bool} {p : Program} {e : Env} {s : State} {m : MethodId} {args : Array Value} {below : List Frame} {meth : Method} {c : Code} (hC : xC G p s m args meth c cX7_haveOfOthers 6 RX7 (some .int)) (N : Nat) {I : xTI} {L : xTL} {r : Int32} {rI : xTI} {x3 : Int32} {x5 : Int32} {t0 : Int32} {t1 : Int32} (k12 : Int32 × Int32 → Option (Int32 × xTI)) (hk12 : ∀ (x4 : Int32) (x5 : Int32) , k12 (x4, x5) = some (r, rI) → ∀ (H : Heap) (locs : List Loc) (ls : Array Slot), xRep G kp I L H → xS G s.heap H locs → lv_has ls 6 [(0, .ref (xz G + 46)), (3, .int x3), (4, .int x4), (5, .int x5)] → W p l e (xrm 4 93) s m args below meth c H locs 0 0 (xMQ G kp below args s (some (.int r)) rI L) (F0 m 12 ls [])) (hf : F_X7_haveOfOthers_j42 k12 N I x3 x5 t0 t1 = some (r, rI)) : ∀ (H : Heap) (locs : List Loc) (ls : Array Slot), xRep G kp I L H → xS G s.heap H locs → lv_has ls 6 [(0, .ref (xz G + 46)), (3, .int x3), (5, .int x5)] → W p l e (xrm 4 93) s m args below meth c H locs 0 0 (xMQ G kp below args s (some (.int r)) rI L) (F0 m 42 ls [.int t1, .int t0]) := by
  intro H locs ls hR hS hl
  unfold F_X7_haveOfOthers_j42 at hf
  refine lv_iadd hC.1 hC.2.1 dX7_haveOfOthers_42 ?_
  refine x_ist (lv' := fun y1 => [(4, .int y1), (0, .ref (xz G + 46)), (3, .int x3), (5, .int x5)]) hC hl dX7_haveOfOthers_43 (Nat.le_of_ble_eq_true rfl) hf (fun _ => rfl) (fun y1 hf ls hl => ?_)
  refine x_iinc (d := 1) (lv' := fun y2 => [(5, .int y2), (4, .int y1), (0, .ref (xz G + 46)), (3, .int x3)]) (k := 3) hC hl dX7_haveOfOthers_45 rfl (by decide) (Nat.le_of_ble_eq_true rfl) hf (fun _ => rfl) (fun y2 hf ls hl => ?_)
  refine lv_goto (tgt := 12) hC.1 hC.2.1 dX7_haveOfOthers_48 (by decide) ?_
  exact hk12 y1 y2 hf _ _ _ hR hS (lv_sub hl [2, 3, 1, 0] rfl)
set_option maxRecDepth 20000 in
theorem W_X7_haveOfOthers_l12 {G : XG} {l : Launch} {kp : Bool} {p : Program} {e : Env} {s : State} {m : MethodId} {args : Array Value} {below : List Frame} {meth : Method} {c : Code} (hC : xC G p s m args meth c cX7_haveOfOthers 6 RX7 (some .int)) (N : Nat) {I : xTI} {L : xTL} {r : Int32} {rI : xTI} {x3 : Int32} : ∀ (n : Nat) (x4 : Int32) (x5 : Int32) , xlp (F_X7_haveOfOthers_b12 N I x3 ) n (x4, x5) = some (r, rI) → ∀ (H : Heap) (locs : List Loc) (ls : Array Slot), xRep G kp I L H → xS G s.heap H locs → lv_has ls 6 [(0, .ref (xz G + 46)), (3, .int x3), (4, .int x4), (5, .int x5)] → W p l e (xrm 4 93) s m args below meth c H locs 0 0 (xMQ G kp below args s (some (.int r)) rI L) (F0 m 12 ls []) := by
  intro n
  induction n with
  | zero =>
    intro x4 x5 hf
    cases hf
  | succ n hk12 =>
    intro x4 x5 hf H locs ls hR hS hl
    rw [xlp_s, E_X7_haveOfOthers_b12] at hf
    unfold F_X7_haveOfOthers_c12 at hf
    refine lv_iload hC.1 hC.2.1 dX7_haveOfOthers_12 (lv_at hl 3 rfl) ?_
    refine lv_bipush (v := 12) hC.1 hC.2.1 dX7_haveOfOthers_14 (by decide) ?_
    refine x_ic_ge (tgt := 51) hC dX7_haveOfOthers_16 (by decide) hf (fun hf => ?_) (fun hf => ?_)
    · refine lv_iload hC.1 hC.2.1 dX7_haveOfOthers_51 (lv_at hl 2 rfl) ?_
      obtain ⟨h91, h92⟩ := Prod.mk.inj (Option.some.inj hf)
      subst h91
      subst h92
      exact x_iret hC hR hS dX7_haveOfOthers_53
    · refine lv_iload hC.1 hC.2.1 dX7_haveOfOthers_19 (lv_at hl 2 rfl) ?_
      refine lv_iload hC.1 hC.2.1 dX7_haveOfOthers_21 (lv_at hl 3 rfl) ?_
      refine lv_iload_n hC.1 hC.2.1 dX7_haveOfOthers_23 rfl (lv_at hl 1 rfl) ?_
      refine x_ic_ne (tgt := 31) hC dX7_haveOfOthers_24 (by decide) hf (fun hf => ?_) (fun hf => ?_)
      · refine lv_aload_n hC.1 hC.2.1 dX7_haveOfOthers_31 rfl (lv_at hl 0 rfl) ?_
        refine x_get (v := .ref (xz G + 53)) hC xf_X7_31 (xce_46 G kp _ _) rfl hR dX7_haveOfOthers_32 ?_
        refine lv_iload hC.1 hC.2.1 dX7_haveOfOthers_35 (lv_at hl 3 rfl) ?_
        refine x_ial hC (xce_53 G kp _ _) hR dX7_haveOfOthers_37 hf (fun v1 hf => ?_)
        refine lv_iconst (v := 0) hC.1 hC.2.1 dX7_haveOfOthers_38 (by decide) ?_
        refine x_mxi (rest := [.int x4]) hC tw_1039 hl.1 (Nat.le_of_ble_eq_true rfl) (Nat.le_of_ble_eq_true rfl) dX7_haveOfOthers_39 ⟨Nat.le_refl _, Nat.le_refl _⟩ hf (fun v2 hf => ?_)
        exact W_X7_haveOfOthers_j42 hC N _ hk12 hf _ _ _ hR hS (lv_sub hl [0, 1, 3] rfl)
      · refine lv_iconst (v := 0) hC.1 hC.2.1 dX7_haveOfOthers_27 (by decide) ?_
        refine lv_goto (tgt := 42) hC.1 hC.2.1 dX7_haveOfOthers_28 (by decide) ?_
        exact W_X7_haveOfOthers_j42 hC N _ hk12 hf _ _ _ hR hS (lv_sub hl [0, 1, 3] rfl)
set_option maxRecDepth 20000 in
theorem M_X7_haveOfOthers (G : XG) (l : Launch) (kp : Bool) (N : Nat) {I : xTI} {L : xTL} {x2 : Int32} {x3 : Int32} {r : Int32} {rI : xTI} (hf : F_X7_haveOfOthers N I x2 x3 = some (r, rI)) : xMet G l yX7_haveOfOthers cX7_haveOfOthers 6 (some .int) 4 93 kp [.ref (xz G + 46), .ref (xz G + 1), .int x2, .int x3] I L (some (.int r)) rI L := by
  refine xMet.ofW (by decide +kernel) (Nat.le_of_ble_eq_true rfl) ?_
  intro p e s m args below meth c hC H locs ls hR hS hl
  replace hC : xC G p s m args meth c cX7_haveOfOthers 6 RX7 (some .int) := hC
  replace hl : lv_has ls 6 [(0, .ref (xz G + 46)), (1, .ref (xz G + 1)), (2, .int x2), (3, .int x3)] := hl
  unfold F_X7_haveOfOthers at hf
  refine lv_aload_n hC.1 hC.2.1 dX7_haveOfOthers_0 rfl (lv_at hl 0 rfl) ?_
  refine lv_aload_n hC.1 hC.2.1 dX7_haveOfOthers_1 rfl (lv_at hl 1 rfl) ?_
  refine lv_iload_n hC.1 hC.2.1 dX7_haveOfOthers_2 rfl (lv_at hl 2 rfl) ?_
  refine x_cvv10 (rest := []) hC xy_X7_takePositions tw_1061 hf (fun _ h => M_X7_takePositions G l kp N h) ⟨Nat.le_of_ble_eq_true rfl, Nat.le_of_ble_eq_true rfl⟩ (xce_46 G kp _ _) rfl rfl rfl (Nat.le_of_ble_eq_true rfl) hl.1 hR hS dX7_haveOfOthers_3 ⟨Nat.le_refl _, Nat.le_refl _⟩ (fun I1 hf H locs hR hS => ?_)
  refine lv_iconst (v := 0) hC.1 hC.2.1 dX7_haveOfOthers_6 (by decide) ?_
  refine lv_istore (lv' := [(4, .int 0), (0, .ref (xz G + 46)), (1, .ref (xz G + 1)), (2, .int x2), (3, .int x3)]) hC.1 hC.2.1 dX7_haveOfOthers_7 hl (Nat.le_of_ble_eq_true rfl) rfl (fun ls hl => ?_)
  refine lv_iconst (v := 0) hC.1 hC.2.1 dX7_haveOfOthers_9 (by decide) ?_
  refine lv_istore (lv' := [(5, .int 0), (4, .int 0), (0, .ref (xz G + 46)), (1, .ref (xz G + 1)), (2, .int x2), (3, .int x3)]) hC.1 hC.2.1 dX7_haveOfOthers_10 hl (Nat.le_of_ble_eq_true rfl) rfl (fun ls hl => ?_)
  exact W_X7_haveOfOthers_l12 hC N _ 0 0 hf _ _ _ hR hS (lv_sub hl [2, 5, 1, 0] rfl)
set_option maxRecDepth 20000 in
theorem W_X10_corner_j16 {G : XG} {l : Launch} {kp : Bool} {p : Program} {e : Env} {s : State} {m : MethodId} {args : Array Value} {below : List Frame} {meth : Method} {c : Code} (hC : xC G p s m args meth c cX10_corner 6 RX10 (some .int)) (N : Nat) {I : xTI} {L : xTL} {r : Int32} {rI : xTI} (hf : F_X10_corner_j16 N I = some (r, rI)) : ∀ (H : Heap) (locs : List Loc) (ls : Array Slot), xRep G kp I L H → xS G s.heap H locs → lv_has ls 6 [(0, .ref (xz G + 0))] → W p l e (xrm 5 118) s m args below meth c H locs 0 0 (xMQ G kp below args s (some (.int r)) rI L) (F0 m 16 ls []) := by
  intro H locs ls hR hS hl
  unfold F_X10_corner_j16 at hf
  refine lv_aload_n hC.1 hC.2.1 dX10_corner_16 rfl (lv_at hl 0 rfl) ?_
  refine lv_bipush (v := (-3)) hC.1 hC.2.1 dX10_corner_17 (by decide) ?_
  refine x_cvi10 (rest := []) hC xy_X10_refuse tw_411 hf (fun _ _ h => M_X10_refuse G l kp h) ⟨Nat.le_of_ble_eq_true rfl, Nat.le_of_ble_eq_true rfl⟩ (xce_0 G kp _ _) rfl rfl rfl (Nat.le_of_ble_eq_true rfl) hl.1 hR hS dX10_corner_19 ⟨Nat.le_refl _, Nat.le_refl _⟩ (fun v1 I2 hf H locs hR hS => ?_)
  obtain ⟨h91, h92⟩ := Prod.mk.inj (Option.some.inj hf)
  subst h91
  subst h92
  exact x_iret hC hR hS dX10_corner_22
set_option maxRecDepth 20000 in
theorem M_X10_corner (G : XG) (l : Launch) (kp : Bool) (N : Nat) {I : xTI} {L : xTL} {x1 : Int32} {x2 : Int32} {x3 : Int32} {r : Int32} {rI : xTI} (hf : F_X10_corner N I x1 x2 x3 = some (r, rI)) : xMet G l yX10_corner cX10_corner 6 (some .int) 5 118 kp [.ref (xz G + 0), .int x1, .int x2, .int x3] I L (some (.int r)) rI L := by
  refine xMet.ofW (by decide +kernel) (Nat.le_of_ble_eq_true rfl) ?_
  intro p e s m args below meth c hC H locs ls hR hS hl
  replace hC : xC G p s m args meth c cX10_corner 6 RX10 (some .int) := hC
  replace hl : lv_has ls 6 [(0, .ref (xz G + 0)), (1, .int x1), (2, .int x2), (3, .int x3)] := hl
  unfold F_X10_corner at hf
  refine lv_aload_n hC.1 hC.2.1 dX10_corner_0 rfl (lv_at hl 0 rfl) ?_
  refine lv_iload_n hC.1 hC.2.1 dX10_corner_1 rfl (lv_at hl 1 rfl) ?_
  refine x_cvi00 (rest := []) hC xy_X10_isStock tw_431 hf (fun _ h => M_X10_isStock G l kp h) ⟨Nat.le_of_ble_eq_true rfl, Nat.le_of_ble_eq_true rfl⟩ (xce_0 G kp _ _) rfl rfl rfl (Nat.le_of_ble_eq_true rfl) hl.1 hR hS dX10_corner_2 ⟨Nat.le_refl _, Nat.le_refl _⟩ (fun v1 hf H locs hR hS => ?_)
  refine x_if_eq (tgt := 16) hC dX10_corner_5 (by decide) hf (fun hf => ?_) (fun hf => ?_)
  · exact W_X10_corner_j16 hC N hf _ _ _ hR hS (lv_sub hl [0] rfl)
  · refine lv_aload_n hC.1 hC.2.1 dX10_corner_8 rfl (lv_at hl 0 rfl) ?_
    refine lv_iload_n hC.1 hC.2.1 dX10_corner_9 rfl (lv_at hl 2 rfl) ?_
    refine x_cvi00 (rest := []) hC xy_X10_isMan tw_427 hf (fun _ h => M_X10_isMan G l kp h) ⟨Nat.le_of_ble_eq_true rfl, Nat.le_of_ble_eq_true rfl⟩ (xce_0 G kp _ _) rfl rfl rfl (Nat.le_of_ble_eq_true rfl) hl.1 hR hS dX10_corner_10 ⟨Nat.le_refl _, Nat.le_refl _⟩ (fun v2 hf H locs hR hS => ?_)
    refine x_if_ne (tgt := 23) hC dX10_corner_13 (by decide) hf (fun hf => ?_) (fun hf => ?_)
    · refine lv_iload_n hC.1 hC.2.1 dX10_corner_23 rfl (lv_at hl 3 rfl) ?_
      refine lv_iconst (v := 0) hC.1 hC.2.1 dX10_corner_24 (by decide) ?_
      refine lv_iconst (v := 2) hC.1 hC.2.1 dX10_corner_25 (by decide) ?_
      refine x_csi00 (rest := []) hC xy_X10_isWithin tw_408 hf (fun _ h => M_X10_isWithin G l kp h) ⟨Nat.le_of_ble_eq_true rfl, Nat.le_of_ble_eq_true rfl⟩ rfl rfl (Nat.le_of_ble_eq_true rfl) hl.1 hR hS dX10_corner_26 ⟨Nat.le_refl _, Nat.le_refl _⟩ (fun v3 hf H locs hR hS => ?_)
      refine x_if_ne (tgt := 39) hC dX10_corner_29 (by decide) hf (fun hf => ?_) (fun hf => ?_)
      · refine lv_aload_n hC.1 hC.2.1 dX10_corner_39 rfl (lv_at hl 0 rfl) ?_
        refine x_get (v := .ref (xz G + 46)) hC xf_X10_50 (xce_0 G kp _ _) rfl hR dX10_corner_40 ?_
        refine lv_aload_n hC.1 hC.2.1 dX10_corner_43 rfl (lv_at hl 0 rfl) ?_
        refine x_get (v := .ref (xz G + 1)) hC xf_X10_10 (xce_0 G kp _ _) rfl hR dX10_corner_44 ?_
        refine lv_iload_n hC.1 hC.2.1 dX10_corner_47 rfl (lv_at hl 1 rfl) ?_
        refine lv_iload_n hC.1 hC.2.1 dX10_corner_48 rfl (lv_at hl 2 rfl) ?_
        refine x_cvi10 (rest := []) hC xy_X7_needOfOthers tw_1057 hf (fun _ _ h => M_X7_needOfOthers G l kp N h) ⟨Nat.le_of_ble_eq_true rfl, Nat.le_of_ble_eq_true rfl⟩ (xce_46 G kp _ _) rfl rfl rfl (Nat.le_of_ble_eq_true rfl) hl.1 hR hS dX10_corner_49 ⟨Nat.le_refl _, Nat.le_refl _⟩ (fun v4 I5 hf H locs hR hS => ?_)
        refine lv_istore (lv' := [(4, .int v4), (0, .ref (xz G + 0)), (1, .int x1), (2, .int x2), (3, .int x3)]) hC.1 hC.2.1 dX10_corner_52 hl (Nat.le_of_ble_eq_true rfl) rfl (fun ls hl => ?_)
        refine lv_aload_n hC.1 hC.2.1 dX10_corner_54 rfl (lv_at hl 1 rfl) ?_
        refine x_get (v := .ref (xz G + 46)) hC xf_X10_50 (xce_0 G kp _ _) rfl hR dX10_corner_55 ?_
        refine lv_aload_n hC.1 hC.2.1 dX10_corner_58 rfl (lv_at hl 1 rfl) ?_
        refine W.eq (g2 := F0 m 59 ls [.ref (xz G + 0), .ref (xz G + 46)]) rfl ?_
        refine x_get (v := .ref (xz G + 1)) hC xf_X10_10 (xce_0 G kp _ _) rfl hR dX10_corner_59 ?_
        refine lv_iload_n hC.1 hC.2.1 dX10_corner_62 rfl (lv_at hl 2 rfl) ?_
        refine lv_iload_n hC.1 hC.2.1 dX10_corner_63 rfl (lv_at hl 3 rfl) ?_
        refine x_cvi10 (rest := []) hC xy_X7_haveOfOthers tw_1069 hf (fun _ _ h => M_X7_haveOfOthers G l kp N h) ⟨Nat.le_of_ble_eq_true rfl, Nat.le_of_ble_eq_true rfl⟩ (xce_46 G kp _ _) rfl rfl rfl (Nat.le_of_ble_eq_true rfl) hl.1 hR hS dX10_corner_64 ⟨Nat.le_refl _, Nat.le_refl _⟩ (fun v6 I7 hf H locs hR hS => ?_)
        refine lv_istore (lv' := [(5, .int v6), (4, .int v4), (0, .ref (xz G + 0)), (1, .int x1), (2, .int x2), (3, .int x3)]) hC.1 hC.2.1 dX10_corner_67 hl (Nat.le_of_ble_eq_true rfl) rfl (fun ls hl => ?_)
        refine lv_iload_n hC.1 hC.2.1 dX10_corner_69 rfl (lv_at hl 5 rfl) ?_
        try dsimp only at hf
        by_cases hc : x3 = 0
        · rw [if_pos hc] at hf
          refine x_lsi (tgt := 96) hC dX10_corner_70 hc (by decide +kernel) ?_
          refine lv_iload hC.1 hC.2.1 dX10_corner_96 (lv_at hl 1 rfl) ?_
          refine lv_iload hC.1 hC.2.1 dX10_corner_98 (lv_at hl 0 rfl) ?_
          refine lv_isub hC.1 hC.2.1 dX10_corner_100 ?_
          refine lv_iconst (v := 0) hC.1 hC.2.1 dX10_corner_101 (by decide) ?_
          refine x_mxi (rest := []) hC tw_1073 hl.1 (Nat.le_of_ble_eq_true rfl) (Nat.le_of_ble_eq_true rfl) dX10_corner_102 ⟨Nat.le_refl _, Nat.le_refl _⟩ hf (fun v8 hf => ?_)
          obtain ⟨h91, h92⟩ := Prod.mk.inj (Option.some.inj hf)
          subst h91
          subst h92
          exact x_iret hC hR hS dX10_corner_105
        rw [if_neg hc] at hf
        have hc0 := hc
        clear hc
        by_cases hc : x3 = 1
        · rw [if_pos hc] at hf
          refine x_lsi (tgt := 106) hC dX10_corner_70 hc (by decide +kernel) ?_
          refine lv_iload hC.1 hC.2.1 dX10_corner_106 (lv_at hl 1 rfl) ?_
          obtain ⟨h91, h92⟩ := Prod.mk.inj (Option.some.inj hf)
          subst h91
          subst h92
          exact x_iret hC hR hS dX10_corner_108
        rw [if_neg hc] at hf
        have hc1 := hc
        clear hc
        have e0 : (x3).toInt ≠ 0 := fun h => hc0 (Int32.toInt_inj.mp (h.trans (by decide)))
        have e1 : (x3).toInt ≠ 1 := fun h => hc1 (Int32.toInt_inj.mp (h.trans (by decide)))
        refine x_lso (tgt := 109) hC dX10_corner_70 (by decide +kernel) (by simp; omega) ?_
        refine lv_iload hC.1 hC.2.1 dX10_corner_109 (lv_at hl 0 rfl) ?_
        obtain ⟨h91, h92⟩ := Prod.mk.inj (Option.some.inj hf)
        subst h91
        subst h92
        exact x_iret hC hR hS dX10_corner_111
      · refine lv_aload_n hC.1 hC.2.1 dX10_corner_32 rfl (lv_at hl 0 rfl) ?_
        refine lv_bipush (v := (-7)) hC.1 hC.2.1 dX10_corner_33 (by decide) ?_
        refine x_cvi10 (rest := []) hC xy_X10_refuse tw_411 hf (fun _ _ h => M_X10_refuse G l kp h) ⟨Nat.le_of_ble_eq_true rfl, Nat.le_of_ble_eq_true rfl⟩ (xce_0 G kp _ _) rfl rfl rfl (Nat.le_of_ble_eq_true rfl) hl.1 hR hS dX10_corner_35 ⟨Nat.le_refl _, Nat.le_refl _⟩ (fun v9 I10 hf H locs hR hS => ?_)
        obtain ⟨h91, h92⟩ := Prod.mk.inj (Option.some.inj hf)
        subst h91
        subst h92
        exact x_iret hC hR hS dX10_corner_38
    · exact W_X10_corner_j16 hC N hf _ _ _ hR hS (lv_sub hl [0] rfl)
set_option maxRecDepth 20000 in
theorem W_X7_cheapest_j48 {G : XG} {l : Launch} {kp : Bool} {p : Program} {e : Env} {s : State} {m : MethodId} {args : Array Value} {below : List Frame} {meth : Method} {c : Code} (hC : xC G p s m args meth c cX7_cheapest 6 RX7 (some .int)) (N : Nat) {I : xTI} {L : xTL} {r : Int32} {x2 : Int32} {x3 : Int32} {x4 : Int32} {t0 : Int32} (k5 : Int32 × Int32 → Option (Int32)) (hk5 : ∀ (x3 : Int32) (x4 : Int32) , k5 (x3, x4) = some r → ∀ (H : Heap) (locs : List Loc) (ls : Array Slot), xRep G kp I L H → xS G s.heap H locs → lv_has ls 6 [(0, .ref (xz G + 46)), (1, .ref (xz G + 3)), (2, .int x2), (3, .int x3), (4, .int x4)] → W p l e (xrm 1 21) s m args below meth c H locs 0 0 (xMQ G kp below args s (some (.int r)) I L) (F0 m 5 ls [])) (hf : F_X7_cheapest_j48 k5 N I x2 x3 x4 t0 = some r) : ∀ (H : Heap) (locs : List Loc) (ls : Array Slot), xRep G kp I L H → xS G s.heap H locs → lv_has ls 6 [(0, .ref (xz G + 46)), (1, .ref (xz G + 3)), (2, .int x2), (3, .int x3), (4, .int x4)] → W p l e (xrm 1 21) s m args below meth c H locs 0 0 (xMQ G kp below args s (some (.int r)) I L) (F0 m 48 ls [.int t0]) := by
  intro H locs ls hR hS hl
  unfold F_X7_cheapest_j48 at hf
  refine lv_istore (lv' := [(5, .int t0), (0, .ref (xz G + 46)), (1, .ref (xz G + 3)), (2, .int x2), (3, .int x3), (4, .int x4)]) hC.1 hC.2.1 dX7_cheapest_48 hl (Nat.le_of_ble_eq_true rfl) rfl (fun ls hl => ?_)
  refine lv_aload_n hC.1 hC.2.1 dX7_cheapest_50 rfl (lv_at hl 1 rfl) ?_
  refine x_get (v := .ref (xz G + 53)) hC xf_X7_31 (xce_46 G kp _ _) rfl hR dX7_cheapest_51 ?_
  refine lv_iload hC.1 hC.2.1 dX7_cheapest_54 (lv_at hl 5 rfl) ?_
  refine x_ial hC (xce_53 G kp _ _) hR dX7_cheapest_56 hf (fun v1 hf => ?_)
  refine x_if_le (tgt := 68) hC dX7_cheapest_57 (by decide) hf (fun hf => ?_) (fun hf => ?_)
  · refine x_iinc (d := 1) (lv' := fun y2 => [(4, .int y2), (5, .int t0), (0, .ref (xz G + 46)), (1, .ref (xz G + 3)), (2, .int x2), (3, .int x3)]) (k := 5) hC hl dX7_cheapest_68 rfl (by decide) (Nat.le_of_ble_eq_true rfl) hf (fun _ => rfl) (fun y2 hf ls hl => ?_)
    refine lv_goto (tgt := 5) hC.1 hC.2.1 dX7_cheapest_71 (by decide) ?_
    exact hk5 x3 y2 hf _ _ _ hR hS (lv_sub hl [2, 3, 4, 5, 0] rfl)
  · refine lv_iload hC.1 hC.2.1 dX7_cheapest_60 (lv_at hl 0 rfl) ?_
    refine x_if_eq (tgt := 68) hC dX7_cheapest_62 (by decide) hf (fun hf => ?_) (fun hf => ?_)
    · refine x_iinc (d := 1) (lv' := fun y3 => [(4, .int y3), (5, .int t0), (0, .ref (xz G + 46)), (1, .ref (xz G + 3)), (2, .int x2), (3, .int x3)]) (k := 5) hC hl dX7_cheapest_68 rfl (by decide) (Nat.le_of_ble_eq_true rfl) hf (fun _ => rfl) (fun y3 hf ls hl => ?_)
      refine lv_goto (tgt := 5) hC.1 hC.2.1 dX7_cheapest_71 (by decide) ?_
      exact hk5 x3 y3 hf _ _ _ hR hS (lv_sub hl [2, 3, 4, 5, 0] rfl)
    · refine lv_iload hC.1 hC.2.1 dX7_cheapest_65 (lv_at hl 5 rfl) ?_
      refine lv_istore_n (lv' := [(3, .int x4), (5, .int t0), (0, .ref (xz G + 46)), (1, .ref (xz G + 3)), (2, .int x2), (4, .int x4)]) hC.1 hC.2.1 dX7_cheapest_67 rfl hl (Nat.le_of_ble_eq_true rfl) rfl (fun ls hl => ?_)
      refine x_iinc (d := 1) (lv' := fun y4 => [(4, .int y4), (3, .int x4), (5, .int t0), (0, .ref (xz G + 46)), (1, .ref (xz G + 3)), (2, .int x2)]) (k := 5) hC hl dX7_cheapest_68 rfl (by decide) (Nat.le_of_ble_eq_true rfl) hf (fun _ => rfl) (fun y4 hf ls hl => ?_)
      refine lv_goto (tgt := 5) hC.1 hC.2.1 dX7_cheapest_71 (by decide) ?_
      exact hk5 x4 y4 hf _ _ _ hR hS (lv_sub hl [3, 4, 5, 1, 0] rfl)
set_option maxRecDepth 20000 in
theorem W_X7_cheapest_l5 {G : XG} {l : Launch} {kp : Bool} {p : Program} {e : Env} {s : State} {m : MethodId} {args : Array Value} {below : List Frame} {meth : Method} {c : Code} (hC : xC G p s m args meth c cX7_cheapest 6 RX7 (some .int)) (N : Nat) {I : xTI} {L : xTL} {r : Int32} {x2 : Int32} : ∀ (n : Nat) (x3 : Int32) (x4 : Int32) , xlp (F_X7_cheapest_b5 N I x2 ) n (x3, x4) = some r → ∀ (H : Heap) (locs : List Loc) (ls : Array Slot), xRep G kp I L H → xS G s.heap H locs → lv_has ls 6 [(0, .ref (xz G + 46)), (1, .ref (xz G + 3)), (2, .int x2), (3, .int x3), (4, .int x4)] → W p l e (xrm 1 21) s m args below meth c H locs 0 0 (xMQ G kp below args s (some (.int r)) I L) (F0 m 5 ls []) := by
  intro n
  induction n with
  | zero =>
    intro x3 x4 hf
    cases hf
  | succ n hk5 =>
    intro x3 x4 hf H locs ls hR hS hl
    rw [xlp_s, E_X7_cheapest_b5] at hf
    unfold F_X7_cheapest_c5 at hf
    refine lv_iload hC.1 hC.2.1 dX7_cheapest_5 (lv_at hl 4 rfl) ?_
    refine lv_aload_n hC.1 hC.2.1 dX7_cheapest_7 rfl (lv_at hl 1 rfl) ?_
    refine x_getI hC xf_X7_69 (xce_3 G kp _ _) rfl hR dX7_cheapest_8 hf (fun v1 hf => ?_)
    refine x_ic_ge (tgt := 74) hC dX7_cheapest_11 (by decide) hf (fun hf => ?_) (fun hf => ?_)
    · refine lv_iload_n hC.1 hC.2.1 dX7_cheapest_74 rfl (lv_at hl 3 rfl) ?_
      have h9 := Option.some.inj hf
      subst h9
      exact x_iret hC hR hS dX7_cheapest_75
    · refine lv_iload_n hC.1 hC.2.1 dX7_cheapest_14 rfl (lv_at hl 3 rfl) ?_
      refine lv_iconst (v := (-1)) hC.1 hC.2.1 dX7_cheapest_15 (by decide) ?_
      refine x_ic_eq (tgt := 43) hC dX7_cheapest_16 (by decide) hf (fun hf => ?_) (fun hf => ?_)
      · refine lv_iconst (v := 1) hC.1 hC.2.1 dX7_cheapest_43 (by decide) ?_
        refine lv_goto (tgt := 48) hC.1 hC.2.1 dX7_cheapest_44 (by decide) ?_
        exact W_X7_cheapest_j48 hC N _ hk5 hf _ _ _ hR hS (lv_sub hl [0, 1, 2, 3, 4] rfl)
      · refine lv_aload_n hC.1 hC.2.1 dX7_cheapest_19 rfl (lv_at hl 1 rfl) ?_
        refine x_get (v := .ref (xz G + 10)) hC xf_X7_113 (xce_3 G kp _ _) rfl hR dX7_cheapest_20 ?_
        refine lv_iload hC.1 hC.2.1 dX7_cheapest_23 (lv_at hl 4 rfl) ?_
        refine lv_iload_n hC.1 hC.2.1 dX7_cheapest_25 rfl (lv_at hl 2 rfl) ?_
        refine x_csi00 (rest := [.ref (xz G + 10)]) hC xy_X3_place tw_1068 hf (fun _ h => M_X3_place G l kp h) ⟨Nat.le_of_ble_eq_true rfl, Nat.le_of_ble_eq_true rfl⟩ rfl rfl (Nat.le_of_ble_eq_true rfl) hl.1 hR hS dX7_cheapest_26 ⟨Nat.le_refl _, Nat.le_refl _⟩ (fun v2 hf H locs hR hS => ?_)
        refine x_ial hC (xce_10 G kp _ _) hR dX7_cheapest_29 hf (fun v3 hf => ?_)
        refine lv_aload_n hC.1 hC.2.1 dX7_cheapest_30 rfl (lv_at hl 1 rfl) ?_
        refine x_get (v := .ref (xz G + 10)) hC xf_X7_113 (xce_3 G kp _ _) rfl hR dX7_cheapest_31 ?_
        refine lv_iload_n hC.1 hC.2.1 dX7_cheapest_34 rfl (lv_at hl 3 rfl) ?_
        refine lv_iload_n hC.1 hC.2.1 dX7_cheapest_35 rfl (lv_at hl 2 rfl) ?_
        refine x_csi00 (rest := [.ref (xz G + 10), .int v3]) hC xy_X3_place tw_1068 hf (fun _ h => M_X3_place G l kp h) ⟨Nat.le_of_ble_eq_true rfl, Nat.le_of_ble_eq_true rfl⟩ rfl rfl (Nat.le_of_ble_eq_true rfl) hl.1 hR hS dX7_cheapest_36 ⟨Nat.le_refl _, Nat.le_refl _⟩ (fun v4 hf H locs hR hS => ?_)
        refine W.eq (g2 := F0 m 39 ls [.int v4, .ref (xz G + 10), .int v3]) rfl ?_
        refine x_ial hC (xce_10 G kp _ _) hR dX7_cheapest_39 hf (fun v5 hf => ?_)
        refine x_ic_ge (tgt := 47) hC dX7_cheapest_40 (by decide) hf (fun hf => ?_) (fun hf => ?_)
        · refine lv_iconst (v := 0) hC.1 hC.2.1 dX7_cheapest_47 (by decide) ?_
          exact W_X7_cheapest_j48 hC N _ hk5 hf _ _ _ hR hS (lv_sub hl [0, 1, 2, 3, 4] rfl)
        · refine lv_iconst (v := 1) hC.1 hC.2.1 dX7_cheapest_43 (by decide) ?_
          refine lv_goto (tgt := 48) hC.1 hC.2.1 dX7_cheapest_44 (by decide) ?_
          exact W_X7_cheapest_j48 hC N _ hk5 hf _ _ _ hR hS (lv_sub hl [0, 1, 2, 3, 4] rfl)
set_option maxRecDepth 20000 in
theorem M_X7_cheapest (G : XG) (l : Launch) (kp : Bool) (N : Nat) {I : xTI} {L : xTL} {x2 : Int32} {r : Int32} (hf : F_X7_cheapest N I x2 = some r) : xMet G l yX7_cheapest cX7_cheapest 6 (some .int) 1 21 kp [.ref (xz G + 46), .ref (xz G + 3), .int x2] I L (some (.int r)) I L := by
  refine xMet.ofW (by decide +kernel) (Nat.le_of_ble_eq_true rfl) ?_
  intro p e s m args below meth c hC H locs ls hR hS hl
  replace hC : xC G p s m args meth c cX7_cheapest 6 RX7 (some .int) := hC
  replace hl : lv_has ls 6 [(0, .ref (xz G + 46)), (1, .ref (xz G + 3)), (2, .int x2)] := hl
  unfold F_X7_cheapest at hf
  refine lv_iconst (v := (-1)) hC.1 hC.2.1 dX7_cheapest_0 (by decide) ?_
  refine x_istn (lv' := fun y1 => [(3, .int y1), (0, .ref (xz G + 46)), (1, .ref (xz G + 3)), (2, .int x2)]) hC hl dX7_cheapest_1 rfl (Nat.le_of_ble_eq_true rfl) hf (fun _ => rfl) (fun y1 hf ls hl => ?_)
  refine lv_iconst (v := 0) hC.1 hC.2.1 dX7_cheapest_2 (by decide) ?_
  refine lv_istore (lv' := [(4, .int 0), (3, .int y1), (0, .ref (xz G + 46)), (1, .ref (xz G + 3)), (2, .int x2)]) hC.1 hC.2.1 dX7_cheapest_3 hl (Nat.le_of_ble_eq_true rfl) rfl (fun ls hl => ?_)
  exact W_X7_cheapest_l5 hC N _ y1 0 hf _ _ _ hR hS (lv_sub hl [2, 3, 4, 1, 0] rfl)
set_option maxRecDepth 20000 in
theorem W_X7_leastCost_j107 {G : XG} {l : Launch} {kp : Bool} {p : Program} {e : Env} {s : State} {m : MethodId} {args : Array Value} {below : List Frame} {meth : Method} {c : Code} (hC : xC G p s m args meth c cX7_leastCost 10 RX7 (some .long)) (N : Nat) {I : xTI} {L : xTL} {r : Int64} {rI : xTI} {x4 : Int32} {x5 : Int64} (hf : F_X7_leastCost_j107 N I x4 x5 = some (r, rI)) : ∀ (H : Heap) (locs : List Loc) (ls : Array Slot), xRep G kp I L H → xS G s.heap H locs → lv_has ls 10 [(4, .int x4), (5, .long x5)] → W p l e (xrm 5 118) s m args below meth c H locs 0 0 (xMQ G kp below args s (some (.long r)) rI L) (F0 m 107 ls []) := by
  intro H locs ls hR hS hl
  unfold F_X7_leastCost_j107 at hf
  refine lv_iload hC.1 hC.2.1 dX7_leastCost_107 (lv_at hl 0 rfl) ?_
  refine x_if_le (tgt := 118) hC dX7_leastCost_109 (by decide) hf (fun hf => ?_) (fun hf => ?_)
  · refine lv_lload hC.1 hC.2.1 dX7_leastCost_118 (lv_at hl 1 rfl) ?_
    obtain ⟨h91, h92⟩ := Prod.mk.inj (Option.some.inj hf)
    subst h91
    subst h92
    exact x_lret hC hR hS dX7_leastCost_120
  · refine x_ldc2 (v := (-1)) hC tw_1087 dX7_leastCost_112 ?_
    refine lv_goto (tgt := 120) hC.1 hC.2.1 dX7_leastCost_115 (by decide) ?_
    obtain ⟨h91, h92⟩ := Prod.mk.inj (Option.some.inj hf)
    subst h91
    subst h92
    exact x_lret hC hR hS dX7_leastCost_120
set_option maxRecDepth 20000 in
theorem W_X7_leastCost_l15 {G : XG} {l : Launch} {kp : Bool} {p : Program} {e : Env} {s : State} {m : MethodId} {args : Array Value} {below : List Frame} {meth : Method} {c : Code} (hC : xC G p s m args meth c cX7_leastCost 10 RX7 (some .long)) (N : Nat) {L : xTL} {r : Int64} {rI : xTI} {x2 : Int32} : ∀ (n : Nat) (x4 : Int32) (x5 : Int64) (x7 : Int32) (I : xTI) , xlp (F_X7_leastCost_b15 N x2 ) n (x4, x5, x7, I) = some (r, rI) → ∀ (H : Heap) (locs : List Loc) (ls : Array Slot), xRep G kp I L H → xS G s.heap H locs → lv_has ls 10 [(0, .ref (xz G + 46)), (1, .ref (xz G + 1)), (2, .int x2), (4, .int x4), (5, .long x5), (7, .int x7)] → W p l e (xrm 5 118) s m args below meth c H locs 0 0 (xMQ G kp below args s (some (.long r)) rI L) (F0 m 15 ls []) := by
  intro n
  induction n with
  | zero =>
    intro x4 x5 x7 I hf
    cases hf
  | succ n hk15 =>
    intro x4 x5 x7 I hf H locs ls hR hS hl
    rw [xlp_s, E_X7_leastCost_b15] at hf
    unfold F_X7_leastCost_c15 at hf
    refine lv_iload hC.1 hC.2.1 dX7_leastCost_15 (lv_at hl 5 rfl) ?_
    refine lv_bipush (v := 12) hC.1 hC.2.1 dX7_leastCost_17 (by decide) ?_
    refine x_ic_ge (tgt := 107) hC dX7_leastCost_19 (by decide) hf (fun hf => ?_) (fun hf => ?_)
    · exact W_X7_leastCost_j107 hC N hf _ _ _ hR hS (lv_sub hl [3, 4] rfl)
    · refine lv_iload hC.1 hC.2.1 dX7_leastCost_22 (lv_at hl 3 rfl) ?_
      refine x_if_le (tgt := 107) hC dX7_leastCost_24 (by decide) hf (fun hf => ?_) (fun hf => ?_)
      · exact W_X7_leastCost_j107 hC N hf _ _ _ hR hS (lv_sub hl [3, 4] rfl)
      · refine lv_aload_n hC.1 hC.2.1 dX7_leastCost_27 rfl (lv_at hl 0 rfl) ?_
        refine lv_aload_n hC.1 hC.2.1 dX7_leastCost_28 rfl (lv_at hl 1 rfl) ?_
        refine x_get (v := .ref (xz G + 3)) hC xf_X7_65 (xce_1 G kp _ _) rfl hR dX7_leastCost_29 ?_
        refine lv_iload_n hC.1 hC.2.1 dX7_leastCost_32 rfl (lv_at hl 2 rfl) ?_
        refine x_cvi00 (rest := []) hC xy_X7_cheapest tw_1083 hf (fun _ h => M_X7_cheapest G l kp N h) ⟨Nat.le_of_ble_eq_true rfl, Nat.le_of_ble_eq_true rfl⟩ (xce_46 G kp _ _) rfl rfl rfl (Nat.le_of_ble_eq_true rfl) hl.1 hR hS dX7_leastCost_33 ⟨Nat.le_refl _, Nat.le_refl _⟩ (fun v1 hf H locs hR hS => ?_)
        refine lv_istore (lv' := [(8, .int v1), (0, .ref (xz G + 46)), (1, .ref (xz G + 1)), (2, .int x2), (4, .int x4), (5, .long x5), (7, .int x7)]) hC.1 hC.2.1 dX7_leastCost_36 hl (Nat.le_of_ble_eq_true rfl) rfl (fun ls hl => ?_)
        refine lv_iload hC.1 hC.2.1 dX7_leastCost_38 (lv_at hl 0 rfl) ?_
        refine lv_iconst (v := (-1)) hC.1 hC.2.1 dX7_leastCost_40 (by decide) ?_
        refine x_ic_ne (tgt := 48) hC dX7_leastCost_41 (by decide) hf (fun hf => ?_) (fun hf => ?_)
        · refine lv_iload hC.1 hC.2.1 dX7_leastCost_48 (lv_at hl 4 rfl) ?_
          refine lv_aload_n hC.1 hC.2.1 dX7_leastCost_50 rfl (lv_at hl 1 rfl) ?_
          refine x_get (v := .ref (xz G + 53)) hC xf_X7_31 (xce_46 G kp _ _) rfl hR dX7_leastCost_51 ?_
          refine lv_iload hC.1 hC.2.1 dX7_leastCost_54 (lv_at hl 0 rfl) ?_
          refine x_ial hC (xce_53 G kp _ _) hR dX7_leastCost_56 hf (fun v2 hf => ?_)
          refine x_mni (rest := []) hC tw_1088 hl.1 (Nat.le_of_ble_eq_true rfl) (Nat.le_of_ble_eq_true rfl) dX7_leastCost_57 ⟨Nat.le_refl _, Nat.le_refl _⟩ hf (fun v3 hf => ?_)
          refine lv_istore (lv' := [(9, .int v3), (8, .int v1), (0, .ref (xz G + 46)), (1, .ref (xz G + 1)), (2, .int x2), (4, .int x4), (5, .long x5), (7, .int x7)]) hC.1 hC.2.1 dX7_leastCost_60 hl (Nat.le_of_ble_eq_true rfl) rfl (fun ls hl => ?_)
          refine lv_lload hC.1 hC.2.1 dX7_leastCost_62 (lv_at hl 6 rfl) ?_
          refine lv_iload hC.1 hC.2.1 dX7_leastCost_64 (lv_at hl 0 rfl) ?_
          refine lv_i2l hC.1 hC.2.1 dX7_leastCost_66 rfl ?_
          refine lv_aload_n hC.1 hC.2.1 dX7_leastCost_67 rfl (lv_at hl 3 rfl) ?_
          refine W.eq (g2 := F0 m 68 ls [.ref (xz G + 1), .long (v3.toInt64), .long x5]) rfl ?_
          refine x_get (v := .ref (xz G + 3)) hC xf_X7_65 (xce_1 G kp _ _) rfl hR dX7_leastCost_68 ?_
          refine x_get (v := .ref (xz G + 10)) hC xf_X7_113 (xce_3 G kp _ _) rfl hR dX7_leastCost_71 ?_
          refine lv_iload hC.1 hC.2.1 dX7_leastCost_74 (lv_at hl 1 rfl) ?_
          refine lv_iload_n hC.1 hC.2.1 dX7_leastCost_76 rfl (lv_at hl 4 rfl) ?_
          refine x_csi00 (rest := [.ref (xz G + 10), .long (v3.toInt64), .long x5]) hC xy_X3_place tw_1068 hf (fun _ h => M_X3_place G l kp h) ⟨Nat.le_of_ble_eq_true rfl, Nat.le_of_ble_eq_true rfl⟩ rfl rfl (Nat.le_of_ble_eq_true rfl) hl.1 hR hS dX7_leastCost_77 ⟨Nat.le_refl _, Nat.le_refl _⟩ (fun v4 hf H locs hR hS => ?_)
          refine x_ial hC (xce_10 G kp _ _) hR dX7_leastCost_80 hf (fun v5 hf => ?_)
          refine lv_i2l hC.1 hC.2.1 dX7_leastCost_81 rfl ?_
          refine lv_lmul hC.1 hC.2.1 dX7_leastCost_82 ?_
          refine lv_ladd hC.1 hC.2.1 dX7_leastCost_83 ?_
          refine x_lst (lv' := fun y6 => [(5, .long y6), (9, .int v3), (8, .int v1), (0, .ref (xz G + 46)), (1, .ref (xz G + 1)), (2, .int x2), (4, .int x4), (7, .int x7)]) hC hl dX7_leastCost_84 (Nat.le_of_ble_eq_true rfl) hf (fun _ => rfl) (fun y6 hf ls hl => ?_)
          refine lv_iload hC.1 hC.2.1 dX7_leastCost_86 (lv_at hl 6 rfl) ?_
          refine lv_iload hC.1 hC.2.1 dX7_leastCost_88 (lv_at hl 1 rfl) ?_
          refine W.eq (g2 := F0 m 90 ls [.int v3, .int x4]) rfl ?_
          refine lv_isub hC.1 hC.2.1 dX7_leastCost_90 ?_
          refine x_ist (lv' := fun y7 => [(4, .int y7), (5, .long y6), (9, .int v3), (8, .int v1), (0, .ref (xz G + 46)), (1, .ref (xz G + 1)), (2, .int x2), (7, .int x7)]) hC hl dX7_leastCost_91 (Nat.le_of_ble_eq_true rfl) hf (fun _ => rfl) (fun y7 hf ls hl => ?_)
          refine lv_aload_n hC.1 hC.2.1 dX7_leastCost_93 rfl (lv_at hl 4 rfl) ?_
          refine x_get (v := .ref (xz G + 53)) hC xf_X7_31 (xce_46 G kp _ _) rfl hR dX7_leastCost_94 ?_
          refine lv_iload hC.1 hC.2.1 dX7_leastCost_97 (lv_at hl 3 rfl) ?_
          refine lv_iconst (v := 0) hC.1 hC.2.1 dX7_leastCost_99 (by decide) ?_
          refine x_ias hC (fun f => (xce_53 G kp f _)) hR hS dX7_leastCost_100 hf (fun I8 hf H locs hR hS => ?_)
          refine x_iinc (d := 1) (lv' := fun y9 => [(7, .int y9), (4, .int y7), (5, .long y6), (9, .int v3), (8, .int v1), (0, .ref (xz G + 46)), (1, .ref (xz G + 1)), (2, .int x2)]) (k := 7) hC hl dX7_leastCost_101 rfl (by decide) (Nat.le_of_ble_eq_true rfl) hf (fun _ => rfl) (fun y9 hf ls hl => ?_)
          refine lv_goto (tgt := 15) hC.1 hC.2.1 dX7_leastCost_104 (by decide) ?_
          exact hk15 y7 y6 y9 I8 hf _ _ _ hR hS (lv_sub hl [5, 6, 7, 1, 2, 0] rfl)
        · refine x_ldc2 (v := (-1)) hC tw_1087 dX7_leastCost_44 ?_
          obtain ⟨h91, h92⟩ := Prod.mk.inj (Option.some.inj hf)
          subst h91
          subst h92
          exact x_lret hC hR hS dX7_leastCost_47
set_option maxRecDepth 20000 in
theorem M_X7_leastCost (G : XG) (l : Launch) (kp : Bool) (N : Nat) {I : xTI} {L : xTL} {x2 : Int32} {x3 : Int32} {r : Int64} {rI : xTI} (hf : F_X7_leastCost N I x2 x3 = some (r, rI)) : xMet G l yX7_leastCost cX7_leastCost 10 (some .long) 5 118 kp [.ref (xz G + 46), .ref (xz G + 1), .int x2, .int x3] I L (some (.long r)) rI L := by
  refine xMet.ofW (by decide +kernel) (Nat.le_of_ble_eq_true rfl) ?_
  intro p e s m args below meth c hC H locs ls hR hS hl
  replace hC : xC G p s m args meth c cX7_leastCost 10 RX7 (some .long) := hC
  replace hl : lv_has ls 10 [(0, .ref (xz G + 46)), (1, .ref (xz G + 1)), (2, .int x2), (3, .int x3)] := hl
  unfold F_X7_leastCost at hf
  refine lv_aload_n hC.1 hC.2.1 dX7_leastCost_0 rfl (lv_at hl 0 rfl) ?_
  refine lv_aload_n hC.1 hC.2.1 dX7_leastCost_1 rfl (lv_at hl 1 rfl) ?_
  refine lv_iload_n hC.1 hC.2.1 dX7_leastCost_2 rfl (lv_at hl 2 rfl) ?_
  refine lv_iload_n hC.1 hC.2.1 dX7_leastCost_3 rfl (lv_at hl 3 rfl) ?_
  refine x_cvi10 (rest := []) hC xy_X7_needOfOthers tw_1082 hf (fun _ _ h => M_X7_needOfOthers G l kp N h) ⟨Nat.le_of_ble_eq_true rfl, Nat.le_of_ble_eq_true rfl⟩ (xce_46 G kp _ _) rfl rfl rfl (Nat.le_of_ble_eq_true rfl) hl.1 hR hS dX7_leastCost_4 ⟨Nat.le_refl _, Nat.le_refl _⟩ (fun v1 I2 hf H locs hR hS => ?_)
  refine lv_istore (lv' := [(4, .int v1), (0, .ref (xz G + 46)), (1, .ref (xz G + 1)), (2, .int x2), (3, .int x3)]) hC.1 hC.2.1 dX7_leastCost_7 hl (Nat.le_of_ble_eq_true rfl) rfl (fun ls hl => ?_)
  refine lv_lconst (v := 0) hC.1 hC.2.1 dX7_leastCost_9 (by decide) ?_
  refine lv_lstore (lv' := [(5, .long 0), (4, .int v1), (0, .ref (xz G + 46)), (1, .ref (xz G + 1)), (2, .int x2), (3, .int x3)]) hC.1 hC.2.1 dX7_leastCost_10 hl (Nat.le_of_ble_eq_true rfl) rfl (fun ls hl => ?_)
  refine lv_iconst (v := 0) hC.1 hC.2.1 dX7_leastCost_12 (by decide) ?_
  refine lv_istore (lv' := [(7, .int 0), (5, .long 0), (4, .int v1), (0, .ref (xz G + 46)), (1, .ref (xz G + 1)), (2, .int x2), (3, .int x3)]) hC.1 hC.2.1 dX7_leastCost_13 hl (Nat.le_of_ble_eq_true rfl) rfl (fun ls hl => ?_)
  exact W_X7_leastCost_l15 hC N _ v1 0 0 I2 hf _ _ _ hR hS (lv_sub hl [3, 4, 5, 2, 1, 0] rfl)
set_option maxRecDepth 20000 in
theorem W_X10_squeeze_j16 {G : XG} {l : Launch} {kp : Bool} {p : Program} {e : Env} {s : State} {m : MethodId} {args : Array Value} {below : List Frame} {meth : Method} {c : Code} (hC : xC G p s m args meth c cX10_squeeze 3 RX10 (some .long)) (N : Nat) {I : xTI} {L : xTL} {r : Int64} {rI : xTI} (hf : F_X10_squeeze_j16 N I = some (r, rI)) : ∀ (H : Heap) (locs : List Loc) (ls : Array Slot), xRep G kp I L H → xS G s.heap H locs → lv_has ls 3 [(0, .ref (xz G + 0))] → W p l e (xrm 6 147) s m args below meth c H locs 0 0 (xMQ G kp below args s (some (.long r)) rI L) (F0 m 16 ls []) := by
  intro H locs ls hR hS hl
  unfold F_X10_squeeze_j16 at hf
  refine lv_aload_n hC.1 hC.2.1 dX10_squeeze_16 rfl (lv_at hl 0 rfl) ?_
  refine lv_bipush (v := (-3)) hC.1 hC.2.1 dX10_squeeze_17 (by decide) ?_
  refine x_cvi10 (rest := []) hC xy_X10_refuseAsZero tw_474 hf (fun _ _ h => M_X10_refuseAsZero G l kp h) ⟨Nat.le_of_ble_eq_true rfl, Nat.le_of_ble_eq_true rfl⟩ (xce_0 G kp _ _) rfl rfl rfl (Nat.le_of_ble_eq_true rfl) hl.1 hR hS dX10_squeeze_19 ⟨Nat.le_refl _, Nat.le_refl _⟩ (fun v1 I2 hf H locs hR hS => ?_)
  refine lv_i2l hC.1 hC.2.1 dX10_squeeze_22 rfl ?_
  obtain ⟨h91, h92⟩ := Prod.mk.inj (Option.some.inj hf)
  subst h91
  subst h92
  exact x_lret hC hR hS dX10_squeeze_23
set_option maxRecDepth 20000 in
theorem M_X10_squeeze (G : XG) (l : Launch) (kp : Bool) (N : Nat) {I : xTI} {L : xTL} {x1 : Int32} {x2 : Int32} {r : Int64} {rI : xTI} (hf : F_X10_squeeze N I x1 x2 = some (r, rI)) : xMet G l yX10_squeeze cX10_squeeze 3 (some .long) 6 147 kp [.ref (xz G + 0), .int x1, .int x2] I L (some (.long r)) rI L := by
  refine xMet.ofW (by decide +kernel) (Nat.le_of_ble_eq_true rfl) ?_
  intro p e s m args below meth c hC H locs ls hR hS hl
  replace hC : xC G p s m args meth c cX10_squeeze 3 RX10 (some .long) := hC
  replace hl : lv_has ls 3 [(0, .ref (xz G + 0)), (1, .int x1), (2, .int x2)] := hl
  unfold F_X10_squeeze at hf
  refine lv_aload_n hC.1 hC.2.1 dX10_squeeze_0 rfl (lv_at hl 0 rfl) ?_
  refine lv_iload_n hC.1 hC.2.1 dX10_squeeze_1 rfl (lv_at hl 1 rfl) ?_
  refine x_cvi00 (rest := []) hC xy_X10_isStock tw_431 hf (fun _ h => M_X10_isStock G l kp h) ⟨Nat.le_of_ble_eq_true rfl, Nat.le_of_ble_eq_true rfl⟩ (xce_0 G kp _ _) rfl rfl rfl (Nat.le_of_ble_eq_true rfl) hl.1 hR hS dX10_squeeze_2 ⟨Nat.le_refl _, Nat.le_refl _⟩ (fun v1 hf H locs hR hS => ?_)
  refine x_if_eq (tgt := 16) hC dX10_squeeze_5 (by decide) hf (fun hf => ?_) (fun hf => ?_)
  · exact W_X10_squeeze_j16 hC N hf _ _ _ hR hS (lv_sub hl [0] rfl)
  · refine lv_aload_n hC.1 hC.2.1 dX10_squeeze_8 rfl (lv_at hl 0 rfl) ?_
    refine lv_iload_n hC.1 hC.2.1 dX10_squeeze_9 rfl (lv_at hl 2 rfl) ?_
    refine x_cvi00 (rest := []) hC xy_X10_isMan tw_427 hf (fun _ h => M_X10_isMan G l kp h) ⟨Nat.le_of_ble_eq_true rfl, Nat.le_of_ble_eq_true rfl⟩ (xce_0 G kp _ _) rfl rfl rfl (Nat.le_of_ble_eq_true rfl) hl.1 hR hS dX10_squeeze_10 ⟨Nat.le_refl _, Nat.le_refl _⟩ (fun v2 hf H locs hR hS => ?_)
    refine x_if_ne (tgt := 24) hC dX10_squeeze_13 (by decide) hf (fun hf => ?_) (fun hf => ?_)
    · refine lv_aload_n hC.1 hC.2.1 dX10_squeeze_24 rfl (lv_at hl 0 rfl) ?_
      refine x_get (v := .ref (xz G + 46)) hC xf_X10_50 (xce_0 G kp _ _) rfl hR dX10_squeeze_25 ?_
      refine lv_aload_n hC.1 hC.2.1 dX10_squeeze_28 rfl (lv_at hl 0 rfl) ?_
      refine x_get (v := .ref (xz G + 1)) hC xf_X10_10 (xce_0 G kp _ _) rfl hR dX10_squeeze_29 ?_
      refine lv_iload_n hC.1 hC.2.1 dX10_squeeze_32 rfl (lv_at hl 1 rfl) ?_
      refine lv_iload_n hC.1 hC.2.1 dX10_squeeze_33 rfl (lv_at hl 2 rfl) ?_
      refine x_cvl10 (rest := []) hC xy_X7_leastCost tw_1078 hf (fun _ _ h => M_X7_leastCost G l kp N h) ⟨Nat.le_of_ble_eq_true rfl, Nat.le_of_ble_eq_true rfl⟩ (xce_46 G kp _ _) rfl rfl rfl (Nat.le_of_ble_eq_true rfl) hl.1 hR hS dX10_squeeze_34 ⟨Nat.le_refl _, Nat.le_refl _⟩ (fun v3 I4 hf H locs hR hS => ?_)
      obtain ⟨h91, h92⟩ := Prod.mk.inj (Option.some.inj hf)
      subst h91
      subst h92
      exact x_lret hC hR hS dX10_squeeze_37
    · exact W_X10_squeeze_j16 hC N hf _ _ _ hR hS (lv_sub hl [0] rfl)
set_option maxRecDepth 20000 in
theorem M_X7_worth (G : XG) (l : Launch) (kp : Bool) {I : xTI} {L : xTL} {x1 : Int32} {r : Int64} (hf : F_X7_worth I x1 = some r) : xMet G l yX7_worth cX7_worth 2 (some .long) 2 45 kp [.ref (xz G + 11), .int x1] I L (some (.long r)) I L := by
  refine xMet.ofW (by decide +kernel) (Nat.le_of_ble_eq_true rfl) ?_
  intro p e s m args below meth c hC H locs ls hR hS hl
  replace hC : xC G p s m args meth c cX7_worth 2 RX7 (some .long) := hC
  replace hl : lv_has ls 2 [(0, .ref (xz G + 11)), (1, .int x1)] := hl
  unfold F_X7_worth at hf
  refine lv_aload_n hC.1 hC.2.1 dX7_worth_0 rfl (lv_at hl 0 rfl) ?_
  refine lv_iload_n hC.1 hC.2.1 dX7_worth_1 rfl (lv_at hl 1 rfl) ?_
  refine lv_iconst (v := 3) hC.1 hC.2.1 dX7_worth_2 (by decide) ?_
  refine x_cvi00 (rest := []) hC xy_X0_at tw_1099 hf (fun _ h => M_X0_at G l kp h) ⟨Nat.le_of_ble_eq_true rfl, Nat.le_of_ble_eq_true rfl⟩ (xce_11 G kp _ _) rfl rfl rfl (Nat.le_of_ble_eq_true rfl) hl.1 hR hS dX7_worth_3 ⟨Nat.le_refl _, Nat.le_refl _⟩ (fun v1 hf H locs hR hS => ?_)
  refine lv_i2l hC.1 hC.2.1 dX7_worth_6 rfl ?_
  refine lv_aload_n hC.1 hC.2.1 dX7_worth_7 rfl (lv_at hl 0 rfl) ?_
  refine lv_iload_n hC.1 hC.2.1 dX7_worth_8 rfl (lv_at hl 1 rfl) ?_
  refine lv_iconst (v := 4) hC.1 hC.2.1 dX7_worth_9 (by decide) ?_
  refine x_cvi00 (rest := [.long (v1.toInt64)]) hC xy_X0_at tw_1099 hf (fun _ h => M_X0_at G l kp h) ⟨Nat.le_of_ble_eq_true rfl, Nat.le_of_ble_eq_true rfl⟩ (xce_11 G kp _ _) rfl rfl rfl (Nat.le_of_ble_eq_true rfl) hl.1 hR hS dX7_worth_10 ⟨Nat.le_refl _, Nat.le_refl _⟩ (fun v2 hf H locs hR hS => ?_)
  refine lv_i2l hC.1 hC.2.1 dX7_worth_13 rfl ?_
  refine lv_lmul hC.1 hC.2.1 dX7_worth_14 ?_
  refine W.eq (g2 := F0 m 15 ls [.long ((v1.toInt64) * (v2.toInt64))]) rfl ?_
  have h9 := Option.some.inj hf
  subst h9
  exact x_lret hC hR hS dX7_worth_15
set_option maxRecDepth 20000 in
theorem M_X7_failsToPay (G : XG) (l : Launch) (kp : Bool) {I : xTI} {L : xTL} {x2 : Int32} {r : Int32} {rI : xTI} {rL : xTL} (hf : F_X7_failsToPay I L x2 = some (r, rI, rL)) : xMet G l yX7_failsToPay cX7_failsToPay 7 (some .boolean) 3 66 kp [.ref (xz G + 46), .ref (xz G + 11), .int x2] I L (some (.int r)) rI rL := by
  refine xMet.ofW (by decide +kernel) (Nat.le_of_ble_eq_true rfl) ?_
  intro p e s m args below meth c hC H locs ls hR hS hl
  replace hC : xC G p s m args meth c cX7_failsToPay 7 RX7 (some .boolean) := hC
  replace hl : lv_has ls 7 [(0, .ref (xz G + 46)), (1, .ref (xz G + 11)), (2, .int x2)] := hl
  unfold F_X7_failsToPay at hf
  refine lv_aload_n hC.1 hC.2.1 dX7_failsToPay_0 rfl (lv_at hl 1 rfl) ?_
  refine lv_iload_n hC.1 hC.2.1 dX7_failsToPay_1 rfl (lv_at hl 2 rfl) ?_
  refine lv_iconst (v := 0) hC.1 hC.2.1 dX7_failsToPay_2 (by decide) ?_
  refine x_cvi00 (rest := []) hC xy_X0_at tw_1099 hf (fun _ h => M_X0_at G l kp h) ⟨Nat.le_of_ble_eq_true rfl, Nat.le_of_ble_eq_true rfl⟩ (xce_11 G kp _ _) rfl rfl rfl (Nat.le_of_ble_eq_true rfl) hl.1 hR hS dX7_failsToPay_3 ⟨Nat.le_refl _, Nat.le_refl _⟩ (fun v1 hf H locs hR hS => ?_)
  refine lv_istore_n (lv' := [(3, .int v1), (0, .ref (xz G + 46)), (1, .ref (xz G + 11)), (2, .int x2)]) hC.1 hC.2.1 dX7_failsToPay_6 rfl hl (Nat.le_of_ble_eq_true rfl) rfl (fun ls hl => ?_)
  refine lv_aload_n hC.1 hC.2.1 dX7_failsToPay_7 rfl (lv_at hl 2 rfl) ?_
  refine lv_iload_n hC.1 hC.2.1 dX7_failsToPay_8 rfl (lv_at hl 3 rfl) ?_
  refine lv_iconst (v := 1) hC.1 hC.2.1 dX7_failsToPay_9 (by decide) ?_
  refine x_cvi00 (rest := []) hC xy_X0_at tw_1099 hf (fun _ h => M_X0_at G l kp h) ⟨Nat.le_of_ble_eq_true rfl, Nat.le_of_ble_eq_true rfl⟩ (xce_11 G kp _ _) rfl rfl rfl (Nat.le_of_ble_eq_true rfl) hl.1 hR hS dX7_failsToPay_10 ⟨Nat.le_refl _, Nat.le_refl _⟩ (fun v2 hf H locs hR hS => ?_)
  refine lv_istore (lv' := [(4, .int v2), (3, .int v1), (0, .ref (xz G + 46)), (1, .ref (xz G + 11)), (2, .int x2)]) hC.1 hC.2.1 dX7_failsToPay_13 hl (Nat.le_of_ble_eq_true rfl) rfl (fun ls hl => ?_)
  refine lv_aload_n hC.1 hC.2.1 dX7_failsToPay_15 rfl (lv_at hl 2 rfl) ?_
  refine W.eq (g2 := F0 m 16 ls [.ref (xz G + 46)]) rfl ?_
  refine x_getI hC xf_X7_123 (xce_46 G kp _ _) rfl hR dX7_failsToPay_16 hf (fun v3 hf => ?_)
  refine lv_iload_n hC.1 hC.2.1 dX7_failsToPay_19 rfl (lv_at hl 1 rfl) ?_
  refine lv_ishr hC.1 hC.2.1 dX7_failsToPay_20 ?_
  refine lv_iconst (v := 1) hC.1 hC.2.1 dX7_failsToPay_21 (by decide) ?_
  refine lv_iand hC.1 hC.2.1 dX7_failsToPay_22 ?_
  refine x_if_ne (tgt := 38) hC dX7_failsToPay_23 (by decide) hf (fun hf => ?_) (fun hf => ?_)
  · refine lv_iconst (v := 0) hC.1 hC.2.1 dX7_failsToPay_38 (by decide) ?_
    obtain ⟨h01, hf⟩ := xzc_some hf
    obtain ⟨h91, h90⟩ := Prod.mk.inj (Option.some.inj hf)
    obtain ⟨h92, h93⟩ := Prod.mk.inj h90
    subst h91
    subst h92
    subst h93
    exact x_zret h01 hC hR hS dX7_failsToPay_39
  · refine lv_aload_n hC.1 hC.2.1 dX7_failsToPay_26 rfl (lv_at hl 2 rfl) ?_
    refine x_getI hC xf_X7_123 (xce_46 G kp _ _) rfl hR dX7_failsToPay_27 hf (fun v4 hf => ?_)
    refine lv_iload hC.1 hC.2.1 dX7_failsToPay_30 (lv_at hl 0 rfl) ?_
    refine lv_ishr hC.1 hC.2.1 dX7_failsToPay_32 ?_
    refine lv_iconst (v := 1) hC.1 hC.2.1 dX7_failsToPay_33 (by decide) ?_
    refine lv_iand hC.1 hC.2.1 dX7_failsToPay_34 ?_
    refine x_if_eq (tgt := 40) hC dX7_failsToPay_35 (by decide) hf (fun hf => ?_) (fun hf => ?_)
    · refine lv_aload_n hC.1 hC.2.1 dX7_failsToPay_40 rfl (lv_at hl 3 rfl) ?_
      refine lv_iload_n hC.1 hC.2.1 dX7_failsToPay_41 rfl (lv_at hl 4 rfl) ?_
      refine x_csl00 (rest := []) hC xy_X7_worth tw_1104 hf (fun _ h => M_X7_worth G l kp h) ⟨Nat.le_of_ble_eq_true rfl, Nat.le_of_ble_eq_true rfl⟩ rfl rfl (Nat.le_of_ble_eq_true rfl) hl.1 hR hS dX7_failsToPay_42 ⟨Nat.le_refl _, Nat.le_refl _⟩ (fun v5 hf H locs hR hS => ?_)
      refine lv_lstore (lv' := [(5, .long v5), (4, .int v2), (3, .int v1), (0, .ref (xz G + 46)), (1, .ref (xz G + 11)), (2, .int x2)]) hC.1 hC.2.1 dX7_failsToPay_45 hl (Nat.le_of_ble_eq_true rfl) rfl (fun ls hl => ?_)
      refine lv_aload_n hC.1 hC.2.1 dX7_failsToPay_47 rfl (lv_at hl 3 rfl) ?_
      refine x_get (v := .ref (xz G + 54)) hC xf_X7_34 (xce_46 G kp _ _) rfl hR dX7_failsToPay_48 ?_
      refine lv_iload hC.1 hC.2.1 dX7_failsToPay_51 (lv_at hl 1 rfl) ?_
      refine x_lal hC (xce_54 G kp _ _) hR dX7_failsToPay_53 hf (fun v6 hf => ?_)
      refine lv_lload hC.1 hC.2.1 dX7_failsToPay_54 (lv_at hl 0 rfl) ?_
      refine W.lcmp hC.1 hC.2.1 dX7_failsToPay_56 ?_
      refine x_if_ge (tgt := 75) hC dX7_failsToPay_57 (by decide) hf (fun hf => ?_) (fun hf => ?_)
      · refine lv_aload_n hC.1 hC.2.1 dX7_failsToPay_75 rfl (lv_at hl 3 rfl) ?_
        refine x_get (v := .ref (xz G + 54)) hC xf_X7_34 (xce_46 G kp _ _) rfl hR dX7_failsToPay_76 ?_
        refine lv_iload hC.1 hC.2.1 dX7_failsToPay_79 (lv_at hl 1 rfl) ?_
        refine lv_dup2_11 hC.1 hC.2.1 dX7_failsToPay_81 rfl rfl ?_
        refine x_lal hC (xce_54 G kp _ _) hR dX7_failsToPay_82 hf (fun v7 hf => ?_)
        refine lv_lload hC.1 hC.2.1 dX7_failsToPay_83 (lv_at hl 0 rfl) ?_
        refine lv_lsub hC.1 hC.2.1 dX7_failsToPay_85 ?_
        refine x_las hC (fun f => (xce_54 G kp _ f)) hR hS dX7_failsToPay_86 hf (fun L8 hf H locs hR hS => ?_)
        refine lv_aload_n hC.1 hC.2.1 dX7_failsToPay_87 rfl (lv_at hl 3 rfl) ?_
        refine x_get (v := .ref (xz G + 54)) hC xf_X7_34 (xce_46 G kp _ _) rfl hR dX7_failsToPay_88 ?_
        refine lv_iload_n hC.1 hC.2.1 dX7_failsToPay_91 rfl (lv_at hl 2 rfl) ?_
        refine W.eq (g2 := F0 m 92 ls [.int v1, .ref (xz G + 54)]) rfl ?_
        refine lv_dup2_11 hC.1 hC.2.1 dX7_failsToPay_92 rfl rfl ?_
        refine x_lal hC (xce_54 G kp _ _) hR dX7_failsToPay_93 hf (fun v9 hf => ?_)
        refine lv_lload hC.1 hC.2.1 dX7_failsToPay_94 (lv_at hl 0 rfl) ?_
        refine lv_ladd hC.1 hC.2.1 dX7_failsToPay_96 ?_
        refine x_las hC (fun f => (xce_54 G kp _ f)) hR hS dX7_failsToPay_97 hf (fun L10 hf H locs hR hS => ?_)
        refine lv_iconst (v := 0) hC.1 hC.2.1 dX7_failsToPay_98 (by decide) ?_
        obtain ⟨h01, hf⟩ := xzc_some hf
        obtain ⟨h91, h90⟩ := Prod.mk.inj (Option.some.inj hf)
        obtain ⟨h92, h93⟩ := Prod.mk.inj h90
        subst h91
        subst h92
        subst h93
        exact x_zret h01 hC hR hS dX7_failsToPay_99
      · refine lv_aload_n hC.1 hC.2.1 dX7_failsToPay_60 rfl (lv_at hl 3 rfl) ?_
        refine lv_dup hC.1 hC.2.1 dX7_failsToPay_61 rfl ?_
        refine x_getI hC xf_X7_123 (xce_46 G kp _ _) rfl hR dX7_failsToPay_62 hf (fun v11 hf => ?_)
        refine lv_iconst (v := 1) hC.1 hC.2.1 dX7_failsToPay_65 (by decide) ?_
        refine lv_iload hC.1 hC.2.1 dX7_failsToPay_66 (lv_at hl 1 rfl) ?_
        refine lv_ishl hC.1 hC.2.1 dX7_failsToPay_68 ?_
        refine lv_ior hC.1 hC.2.1 dX7_failsToPay_69 ?_
        refine x_putI hC xf_X7_123 xp_7_8 (fun f => (xce_46 G kp f _)) rfl (Nat.le_of_ble_eq_true rfl) hR hS dX7_failsToPay_70 hf (fun I12 hf H locs hR hS => ?_)
        refine lv_iconst (v := 1) hC.1 hC.2.1 dX7_failsToPay_73 (by decide) ?_
        obtain ⟨h01, hf⟩ := xzc_some hf
        obtain ⟨h91, h90⟩ := Prod.mk.inj (Option.some.inj hf)
        obtain ⟨h92, h93⟩ := Prod.mk.inj h90
        subst h91
        subst h92
        subst h93
        exact x_zret h01 hC hR hS dX7_failsToPay_74
    · refine lv_iconst (v := 0) hC.1 hC.2.1 dX7_failsToPay_38 (by decide) ?_
      obtain ⟨h01, hf⟩ := xzc_some hf
      obtain ⟨h91, h90⟩ := Prod.mk.inj (Option.some.inj hf)
      obtain ⟨h92, h93⟩ := Prod.mk.inj h90
      subst h91
      subst h92
      subst h93
      exact x_zret h01 hC hR hS dX7_failsToPay_39
set_option maxRecDepth 20000 in
theorem W_X7_failingByRolling_j110 {G : XG} {l : Launch} {kp : Bool} {p : Program} {e : Env} {s : State} {m : MethodId} {args : Array Value} {below : List Frame} {meth : Method} {c : Code} (hC : xC G p s m args meth c cX7_failingByRolling 10 RX7 (some .int)) (N : Nat) {I : xTI} {L : xTL} {r : Int32} {rI : xTI} {rL : xTL} {x2 : Int32} {x5 : Int32} {x6 : Int32} {x7 : Int32} {x8 : Int32} {t0 : Int32} (k60 : Int32 × Int32 × xTI × xTL → Option (Int32 × xTI × xTL)) (k70 : Int32 × Int32 × xTI × xTL → Option (Int32 × xTI × xTL)) (hk60 : ∀ (x6 : Int32) (x7 : Int32) (I : xTI) (L : xTL) , k60 (x6, x7, I, L) = some (r, rI, rL) → ∀ (H : Heap) (locs : List Loc) (ls : Array Slot), xRep G kp I L H → xS G s.heap H locs → lv_has ls 10 [(0, .ref (xz G + 46)), (1, .ref (xz G + 1)), (2, .int x2), (5, .int x5), (6, .int x6), (7, .int x7)] → W p l e (xrm 4 119) s m args below meth c H locs 0 0 (xMQ G kp below args s (some (.int r)) rI rL) (F0 m 60 ls [])) (hk70 : ∀ (x6 : Int32) (x8 : Int32) (I : xTI) (L : xTL) , k70 (x6, x8, I, L) = some (r, rI, rL) → ∀ (H : Heap) (locs : List Loc) (ls : Array Slot), xRep G kp I L H → xS G s.heap H locs → lv_has ls 10 [(0, .ref (xz G + 46)), (1, .ref (xz G + 1)), (2, .int x2), (5, .int x5), (6, .int x6), (7, .int x7), (8, .int x8)] → W p l e (xrm 4 119) s m args below meth c H locs 0 0 (xMQ G kp below args s (some (.int r)) rI rL) (F0 m 70 ls [])) (hf : F_X7_failingByRolling_j110 k60 k70 N I L x2 x5 x6 x7 x8 t0 = some (r, rI, rL)) : ∀ (H : Heap) (locs : List Loc) (ls : Array Slot), xRep G kp I L H → xS G s.heap H locs → lv_has ls 10 [(0, .ref (xz G + 46)), (1, .ref (xz G + 1)), (2, .int x2), (5, .int x5), (6, .int x6), (7, .int x7), (8, .int x8)] → W p l e (xrm 4 119) s m args below meth c H locs 0 0 (xMQ G kp below args s (some (.int r)) rI rL) (F0 m 110 ls [.int t0]) := by
  intro H locs ls hR hS hl
  unfold F_X7_failingByRolling_j110 at hf
  refine lv_istore (lv' := [(9, .int t0), (0, .ref (xz G + 46)), (1, .ref (xz G + 1)), (2, .int x2), (5, .int x5), (6, .int x6), (7, .int x7), (8, .int x8)]) hC.1 hC.2.1 dX7_failingByRolling_110 hl (Nat.le_of_ble_eq_true rfl) rfl (fun ls hl => ?_)
  refine lv_iload hC.1 hC.2.1 dX7_failingByRolling_112 (lv_at hl 0 rfl) ?_
  refine x_if_eq (tgt := 133) hC dX7_failingByRolling_114 (by decide) hf (fun hf => ?_) (fun hf => ?_)
  · refine x_iinc (d := 1) (lv' := fun y1 => [(8, .int y1), (9, .int t0), (0, .ref (xz G + 46)), (1, .ref (xz G + 1)), (2, .int x2), (5, .int x5), (6, .int x6), (7, .int x7)]) (k := 7) hC hl dX7_failingByRolling_133 rfl (by decide) (Nat.le_of_ble_eq_true rfl) hf (fun _ => rfl) (fun y1 hf ls hl => ?_)
    refine lv_goto (tgt := 70) hC.1 hC.2.1 dX7_failingByRolling_136 (by decide) ?_
    exact hk70 x6 y1 I L hf _ _ _ hR hS (lv_sub hl [2, 3, 4, 5, 6, 7, 0] rfl)
  · refine lv_aload_n hC.1 hC.2.1 dX7_failingByRolling_117 rfl (lv_at hl 1 rfl) ?_
    refine lv_aload_n hC.1 hC.2.1 dX7_failingByRolling_118 rfl (lv_at hl 2 rfl) ?_
    refine x_get (v := .ref (xz G + 11)) hC xf_X7_37 (xce_1 G kp _ _) rfl hR dX7_failingByRolling_119 ?_
    refine lv_iload hC.1 hC.2.1 dX7_failingByRolling_122 (lv_at hl 7 rfl) ?_
    refine x_cvi11 (rest := []) hC xy_X7_failsToPay tw_1100 hf (fun _ _ _ h => M_X7_failsToPay G l kp h) ⟨Nat.le_of_ble_eq_true rfl, Nat.le_of_ble_eq_true rfl⟩ (xce_46 G kp _ _) rfl rfl rfl (Nat.le_of_ble_eq_true rfl) hl.1 hR hS dX7_failingByRolling_124 ⟨Nat.le_refl _, Nat.le_refl _⟩ (fun v2 I3 L4 hf H locs hR hS => ?_)
    refine x_if_eq (tgt := 133) hC dX7_failingByRolling_127 (by decide) hf (fun hf => ?_) (fun hf => ?_)
    · refine x_iinc (d := 1) (lv' := fun y5 => [(8, .int y5), (9, .int t0), (0, .ref (xz G + 46)), (1, .ref (xz G + 1)), (2, .int x2), (5, .int x5), (6, .int x6), (7, .int x7)]) (k := 7) hC hl dX7_failingByRolling_133 rfl (by decide) (Nat.le_of_ble_eq_true rfl) hf (fun _ => rfl) (fun y5 hf ls hl => ?_)
      refine lv_goto (tgt := 70) hC.1 hC.2.1 dX7_failingByRolling_136 (by decide) ?_
      exact hk70 x6 y5 I3 L4 hf _ _ _ hR hS (lv_sub hl [2, 3, 4, 5, 6, 7, 0] rfl)
    · refine x_iinc (d := 1) (lv' := fun y6 => [(6, .int y6), (9, .int t0), (0, .ref (xz G + 46)), (1, .ref (xz G + 1)), (2, .int x2), (5, .int x5), (7, .int x7), (8, .int x8)]) (k := 5) hC hl dX7_failingByRolling_130 rfl (by decide) (Nat.le_of_ble_eq_true rfl) hf (fun _ => rfl) (fun y6 hf ls hl => ?_)
      refine x_iinc (d := 1) (lv' := fun y7 => [(8, .int y7), (6, .int y6), (9, .int t0), (0, .ref (xz G + 46)), (1, .ref (xz G + 1)), (2, .int x2), (5, .int x5), (7, .int x7)]) (k := 7) hC hl dX7_failingByRolling_133 rfl (by decide) (Nat.le_of_ble_eq_true rfl) hf (fun _ => rfl) (fun y7 hf ls hl => ?_)
      refine lv_goto (tgt := 70) hC.1 hC.2.1 dX7_failingByRolling_136 (by decide) ?_
      exact hk70 y6 y7 I3 L4 hf _ _ _ hR hS (lv_sub hl [3, 4, 5, 6, 1, 7, 0] rfl)
set_option maxRecDepth 20000 in
theorem W_X7_failingByRolling_l70 {G : XG} {l : Launch} {kp : Bool} {p : Program} {e : Env} {s : State} {m : MethodId} {args : Array Value} {below : List Frame} {meth : Method} {c : Code} (hC : xC G p s m args meth c cX7_failingByRolling 10 RX7 (some .int)) (N : Nat) {r : Int32} {rI : xTI} {rL : xTL} {x2 : Int32} {x5 : Int32} {x7 : Int32} (k60 : Int32 × Int32 × xTI × xTL → Option (Int32 × xTI × xTL)) (hk60 : ∀ (x6 : Int32) (x7 : Int32) (I : xTI) (L : xTL) , k60 (x6, x7, I, L) = some (r, rI, rL) → ∀ (H : Heap) (locs : List Loc) (ls : Array Slot), xRep G kp I L H → xS G s.heap H locs → lv_has ls 10 [(0, .ref (xz G + 46)), (1, .ref (xz G + 1)), (2, .int x2), (5, .int x5), (6, .int x6), (7, .int x7)] → W p l e (xrm 4 119) s m args below meth c H locs 0 0 (xMQ G kp below args s (some (.int r)) rI rL) (F0 m 60 ls [])) : ∀ (n : Nat) (x6 : Int32) (x8 : Int32) (I : xTI) (L : xTL) , xlp (F_X7_failingByRolling_b70 k60 N x2 x5 x7 ) n (x6, x8, I, L) = some (r, rI, rL) → ∀ (H : Heap) (locs : List Loc) (ls : Array Slot), xRep G kp I L H → xS G s.heap H locs → lv_has ls 10 [(0, .ref (xz G + 46)), (1, .ref (xz G + 1)), (2, .int x2), (5, .int x5), (6, .int x6), (7, .int x7), (8, .int x8)] → W p l e (xrm 4 119) s m args below meth c H locs 0 0 (xMQ G kp below args s (some (.int r)) rI rL) (F0 m 70 ls []) := by
  intro n
  induction n with
  | zero =>
    intro x6 x8 I L hf
    cases hf
  | succ n hk70 =>
    intro x6 x8 I L hf H locs ls hR hS hl
    rw [xlp_s, E_X7_failingByRolling_b70] at hf
    unfold F_X7_failingByRolling_c70 at hf
    refine lv_iload hC.1 hC.2.1 dX7_failingByRolling_70 (lv_at hl 6 rfl) ?_
    refine lv_bipush (v := 60) hC.1 hC.2.1 dX7_failingByRolling_72 (by decide) ?_
    refine x_ic_ge (tgt := 139) hC dX7_failingByRolling_74 (by decide) hf (fun hf => ?_) (fun hf => ?_)
    · refine x_iinc (d := 1) (lv' := fun y1 => [(7, .int y1), (0, .ref (xz G + 46)), (1, .ref (xz G + 1)), (2, .int x2), (5, .int x5), (6, .int x6), (8, .int x8)]) (k := 5) hC hl dX7_failingByRolling_139 rfl (by decide) (Nat.le_of_ble_eq_true rfl) hf (fun _ => rfl) (fun y1 hf ls hl => ?_)
      refine lv_goto (tgt := 60) hC.1 hC.2.1 dX7_failingByRolling_142 (by decide) ?_
      exact hk60 x6 y1 I L hf _ _ _ hR hS (lv_sub hl [1, 2, 3, 4, 5, 0] rfl)
    · refine lv_aload_n hC.1 hC.2.1 dX7_failingByRolling_77 rfl (lv_at hl 1 rfl) ?_
      refine x_get (v := .ref (xz G + 11)) hC xf_X7_37 (xce_1 G kp _ _) rfl hR dX7_failingByRolling_78 ?_
      refine lv_iload hC.1 hC.2.1 dX7_failingByRolling_81 (lv_at hl 6 rfl) ?_
      refine lv_iload_n hC.1 hC.2.1 dX7_failingByRolling_83 rfl (lv_at hl 2 rfl) ?_
      refine x_cvi00 (rest := []) hC xy_X0_standsFor tw_1098 hf (fun _ h => M_X0_standsFor G l kp h) ⟨Nat.le_of_ble_eq_true rfl, Nat.le_of_ble_eq_true rfl⟩ (xce_11 G kp _ _) rfl rfl rfl (Nat.le_of_ble_eq_true rfl) hl.1 hR hS dX7_failingByRolling_84 ⟨Nat.le_refl _, Nat.le_refl _⟩ (fun v2 hf H locs hR hS => ?_)
      refine x_if_eq (tgt := 109) hC dX7_failingByRolling_87 (by decide) hf (fun hf => ?_) (fun hf => ?_)
      · refine lv_iconst (v := 0) hC.1 hC.2.1 dX7_failingByRolling_109 (by decide) ?_
        exact W_X7_failingByRolling_j110 hC N _ _ hk60 hk70 hf _ _ _ hR hS (lv_sub hl [0, 1, 2, 3, 4, 5, 6] rfl)
      · refine lv_aload_n hC.1 hC.2.1 dX7_failingByRolling_90 rfl (lv_at hl 1 rfl) ?_
        refine x_get (v := .ref (xz G + 11)) hC xf_X7_37 (xce_1 G kp _ _) rfl hR dX7_failingByRolling_91 ?_
        refine lv_iload hC.1 hC.2.1 dX7_failingByRolling_94 (lv_at hl 6 rfl) ?_
        refine lv_iconst (v := 5) hC.1 hC.2.1 dX7_failingByRolling_96 (by decide) ?_
        refine x_cvi00 (rest := []) hC xy_X0_at tw_1099 hf (fun _ h => M_X0_at G l kp h) ⟨Nat.le_of_ble_eq_true rfl, Nat.le_of_ble_eq_true rfl⟩ (xce_11 G kp _ _) rfl rfl rfl (Nat.le_of_ble_eq_true rfl) hl.1 hR hS dX7_failingByRolling_97 ⟨Nat.le_refl _, Nat.le_refl _⟩ (fun v3 hf H locs hR hS => ?_)
        refine lv_iload hC.1 hC.2.1 dX7_failingByRolling_100 (lv_at hl 5 rfl) ?_
        refine x_ic_ne (tgt := 109) hC dX7_failingByRolling_102 (by decide) hf (fun hf => ?_) (fun hf => ?_)
        · refine lv_iconst (v := 0) hC.1 hC.2.1 dX7_failingByRolling_109 (by decide) ?_
          exact W_X7_failingByRolling_j110 hC N _ _ hk60 hk70 hf _ _ _ hR hS (lv_sub hl [0, 1, 2, 3, 4, 5, 6] rfl)
        · refine lv_iconst (v := 1) hC.1 hC.2.1 dX7_failingByRolling_105 (by decide) ?_
          refine lv_goto (tgt := 110) hC.1 hC.2.1 dX7_failingByRolling_106 (by decide) ?_
          exact W_X7_failingByRolling_j110 hC N _ _ hk60 hk70 hf _ _ _ hR hS (lv_sub hl [0, 1, 2, 3, 4, 5, 6] rfl)
set_option maxRecDepth 20000 in
theorem W_X7_failingByRolling_l60 {G : XG} {l : Launch} {kp : Bool} {p : Program} {e : Env} {s : State} {m : MethodId} {args : Array Value} {below : List Frame} {meth : Method} {c : Code} (hC : xC G p s m args meth c cX7_failingByRolling 10 RX7 (some .int)) (N : Nat) {r : Int32} {rI : xTI} {rL : xTL} {x2 : Int32} {x5 : Int32} : ∀ (n : Nat) (x6 : Int32) (x7 : Int32) (I : xTI) (L : xTL) , xlp (F_X7_failingByRolling_b60 N x2 x5 ) n (x6, x7, I, L) = some (r, rI, rL) → ∀ (H : Heap) (locs : List Loc) (ls : Array Slot), xRep G kp I L H → xS G s.heap H locs → lv_has ls 10 [(0, .ref (xz G + 46)), (1, .ref (xz G + 1)), (2, .int x2), (5, .int x5), (6, .int x6), (7, .int x7)] → W p l e (xrm 4 119) s m args below meth c H locs 0 0 (xMQ G kp below args s (some (.int r)) rI rL) (F0 m 60 ls []) := by
  intro n
  induction n with
  | zero =>
    intro x6 x7 I L hf
    cases hf
  | succ n hk60 =>
    intro x6 x7 I L hf H locs ls hR hS hl
    rw [xlp_s, E_X7_failingByRolling_b60] at hf
    unfold F_X7_failingByRolling_c60 at hf
    refine lv_iload hC.1 hC.2.1 dX7_failingByRolling_60 (lv_at hl 5 rfl) ?_
    refine lv_iload hC.1 hC.2.1 dX7_failingByRolling_62 (lv_at hl 3 rfl) ?_
    refine x_ic_gt (tgt := 145) hC dX7_failingByRolling_64 (by decide) hf (fun hf => ?_) (fun hf => ?_)
    · refine lv_iload hC.1 hC.2.1 dX7_failingByRolling_145 (lv_at hl 4 rfl) ?_
      obtain ⟨h91, h90⟩ := Prod.mk.inj (Option.some.inj hf)
      obtain ⟨h92, h93⟩ := Prod.mk.inj h90
      subst h91
      subst h92
      subst h93
      exact x_iret hC hR hS dX7_failingByRolling_147
    · refine lv_iconst (v := 0) hC.1 hC.2.1 dX7_failingByRolling_67 (by decide) ?_
      refine lv_istore (lv' := [(8, .int 0), (0, .ref (xz G + 46)), (1, .ref (xz G + 1)), (2, .int x2), (5, .int x5), (6, .int x6), (7, .int x7)]) hC.1 hC.2.1 dX7_failingByRolling_68 hl (Nat.le_of_ble_eq_true rfl) rfl (fun ls hl => ?_)
      exact W_X7_failingByRolling_l70 hC N _ hk60 _ x6 0 I L hf _ _ _ hR hS (lv_sub hl [1, 2, 3, 4, 5, 6, 0] rfl)
set_option maxRecDepth 20000 in
theorem M_X7_failingByRolling (G : XG) (l : Launch) (kp : Bool) (N : Nat) {I : xTI} {L : xTL} {x2 : Int32} {x3 : Int32} {r : Int32} {rI : xTI} {rL : xTL} (hf : F_X7_failingByRolling N I L x2 x3 = some (r, rI, rL)) : xMet G l yX7_failingByRolling cX7_failingByRolling 10 (some .int) 4 119 kp [.ref (xz G + 46), .ref (xz G + 1), .int x2, .int x3] I L (some (.int r)) rI rL := by
  refine xMet.ofW (by decide +kernel) (Nat.le_of_ble_eq_true rfl) ?_
  intro p e s m args below meth c hC H locs ls hR hS hl
  replace hC : xC G p s m args meth c cX7_failingByRolling 10 RX7 (some .int) := hC
  replace hl : lv_has ls 10 [(0, .ref (xz G + 46)), (1, .ref (xz G + 1)), (2, .int x2), (3, .int x3)] := hl
  unfold F_X7_failingByRolling at hf
  refine lv_iload_n hC.1 hC.2.1 dX7_failingByRolling_0 rfl (lv_at hl 2 rfl) ?_
  refine lv_sipush (v := 700) hC.1 hC.2.1 dX7_failingByRolling_1 (by decide) ?_
  refine x_ic_le (tgt := 9) hC dX7_failingByRolling_4 (by decide) hf (fun hf => ?_) (fun hf => ?_)
  · refine lv_aload_n hC.1 hC.2.1 dX7_failingByRolling_9 rfl (lv_at hl 1 rfl) ?_
    refine x_get (v := .ref (xz G + 3)) hC xf_X7_65 (xce_1 G kp _ _) rfl hR dX7_failingByRolling_10 ?_
    refine x_get (v := .ref (xz G + 4)) hC xf_X7_116 (xce_3 G kp _ _) rfl hR dX7_failingByRolling_13 ?_
    refine lv_iconst (v := 0) hC.1 hC.2.1 dX7_failingByRolling_16 (by decide) ?_
    refine lv_aload_n hC.1 hC.2.1 dX7_failingByRolling_17 rfl (lv_at hl 0 rfl) ?_
    refine x_get (v := .ref (xz G + 54)) hC xf_X7_34 (xce_46 G kp _ _) rfl hR dX7_failingByRolling_18 ?_
    refine lv_iconst (v := 0) hC.1 hC.2.1 dX7_failingByRolling_21 (by decide) ?_
    refine lv_bipush (v := 12) hC.1 hC.2.1 dX7_failingByRolling_22 (by decide) ?_
    refine x_cpl (rest := []) hC tw_1097 (xce_4 G kp _ _) (fun f => (xce_54 G kp _ f)) hl.1 hR hS (Nat.le_of_ble_eq_true rfl) (Nat.le_of_ble_eq_true rfl) dX7_failingByRolling_24 hf (fun L1 hf H locs hR hS => ?_)
    refine lv_aload_n hC.1 hC.2.1 dX7_failingByRolling_27 rfl (lv_at hl 0 rfl) ?_
    refine lv_iconst (v := 0) hC.1 hC.2.1 dX7_failingByRolling_28 (by decide) ?_
    refine W.eq (g2 := F0 m 29 ls [.int 0, .ref (xz G + 46)]) rfl ?_
    refine x_putI hC xf_X7_123 xp_7_8 (fun f => (xce_46 G kp f _)) rfl (Nat.le_of_ble_eq_true rfl) hR hS dX7_failingByRolling_29 hf (fun I2 hf H locs hR hS => ?_)
    refine lv_iload_n hC.1 hC.2.1 dX7_failingByRolling_32 rfl (lv_at hl 2 rfl) ?_
    refine lv_iconst (v := 1) hC.1 hC.2.1 dX7_failingByRolling_33 (by decide) ?_
    refine lv_isub hC.1 hC.2.1 dX7_failingByRolling_34 ?_
    refine lv_bipush (v := 14) hC.1 hC.2.1 dX7_failingByRolling_35 (by decide) ?_
    refine lv_imul hC.1 hC.2.1 dX7_failingByRolling_37 ?_
    refine x_ist (lv' := fun y3 => [(4, .int y3), (0, .ref (xz G + 46)), (1, .ref (xz G + 1)), (2, .int x2), (3, .int x3)]) hC hl dX7_failingByRolling_38 (Nat.le_of_ble_eq_true rfl) hf (fun _ => rfl) (fun y3 hf ls hl => ?_)
    refine lv_iload_n hC.1 hC.2.1 dX7_failingByRolling_40 rfl (lv_at hl 3 rfl) ?_
    refine lv_bipush (v := 14) hC.1 hC.2.1 dX7_failingByRolling_41 (by decide) ?_
    refine lv_imul hC.1 hC.2.1 dX7_failingByRolling_43 ?_
    refine lv_bipush (v := 14) hC.1 hC.2.1 dX7_failingByRolling_44 (by decide) ?_
    refine lv_iadd hC.1 hC.2.1 dX7_failingByRolling_46 ?_
    refine W.eq (g2 := F0 m 47 ls [.int ((x2 * 14) + 14)]) rfl ?_
    refine lv_iconst (v := 1) hC.1 hC.2.1 dX7_failingByRolling_47 (by decide) ?_
    refine lv_isub hC.1 hC.2.1 dX7_failingByRolling_48 ?_
    refine lv_iload_n hC.1 hC.2.1 dX7_failingByRolling_49 rfl (lv_at hl 4 rfl) ?_
    refine lv_isub hC.1 hC.2.1 dX7_failingByRolling_50 ?_
    refine x_ist (lv' := fun y4 => [(5, .int y4), (4, .int y3), (0, .ref (xz G + 46)), (1, .ref (xz G + 1)), (2, .int x2), (3, .int x3)]) hC hl dX7_failingByRolling_51 (Nat.le_of_ble_eq_true rfl) hf (fun _ => rfl) (fun y4 hf ls hl => ?_)
    refine lv_iconst (v := 0) hC.1 hC.2.1 dX7_failingByRolling_53 (by decide) ?_
    refine lv_istore (lv' := [(6, .int 0), (5, .int y4), (4, .int y3), (0, .ref (xz G + 46)), (1, .ref (xz G + 1)), (2, .int x2), (3, .int x3)]) hC.1 hC.2.1 dX7_failingByRolling_54 hl (Nat.le_of_ble_eq_true rfl) rfl (fun ls hl => ?_)
    refine lv_iload hC.1 hC.2.1 dX7_failingByRolling_56 (lv_at hl 2 rfl) ?_
    refine lv_istore (lv' := [(7, .int y3), (6, .int 0), (5, .int y4), (4, .int y3), (0, .ref (xz G + 46)), (1, .ref (xz G + 1)), (2, .int x2), (3, .int x3)]) hC.1 hC.2.1 dX7_failingByRolling_58 hl (Nat.le_of_ble_eq_true rfl) rfl (fun ls hl => ?_)
    exact W_X7_failingByRolling_l60 hC N _ 0 y3 I2 L1 hf _ _ _ hR hS (lv_sub hl [4, 5, 6, 2, 1, 0] rfl)
  · refine lv_iconst (v := 0) hC.1 hC.2.1 dX7_failingByRolling_7 (by decide) ?_
    obtain ⟨h91, h90⟩ := Prod.mk.inj (Option.some.inj hf)
    obtain ⟨h92, h93⟩ := Prod.mk.inj h90
    subst h91
    subst h92
    subst h93
    exact x_iret hC hR hS dX7_failingByRolling_8
set_option maxRecDepth 20000 in
theorem W_X10_rolling_j14 {G : XG} {l : Launch} {kp : Bool} {p : Program} {e : Env} {s : State} {m : MethodId} {args : Array Value} {below : List Frame} {meth : Method} {c : Code} (hC : xC G p s m args meth c cX10_rolling 3 RX10 (some .int)) (N : Nat) {I : xTI} {L : xTL} {r : Int32} {rI : xTI} {rL : xTL} (hf : F_X10_rolling_j14 N I L = some (r, rI, rL)) : ∀ (H : Heap) (locs : List Loc) (ls : Array Slot), xRep G kp I L H → xS G s.heap H locs → lv_has ls 3 [(0, .ref (xz G + 0))] → W p l e (xrm 5 148) s m args below meth c H locs 0 0 (xMQ G kp below args s (some (.int r)) rI rL) (F0 m 14 ls []) := by
  intro H locs ls hR hS hl
  unfold F_X10_rolling_j14 at hf
  refine lv_aload_n hC.1 hC.2.1 dX10_rolling_14 rfl (lv_at hl 0 rfl) ?_
  refine lv_bipush (v := (-7)) hC.1 hC.2.1 dX10_rolling_15 (by decide) ?_
  refine x_cvi10 (rest := []) hC xy_X10_refuse tw_411 hf (fun _ _ h => M_X10_refuse G l kp h) ⟨Nat.le_of_ble_eq_true rfl, Nat.le_of_ble_eq_true rfl⟩ (xce_0 G kp _ _) rfl rfl rfl (Nat.le_of_ble_eq_true rfl) hl.1 hR hS dX10_rolling_17 ⟨Nat.le_refl _, Nat.le_refl _⟩ (fun v1 I2 hf H locs hR hS => ?_)
  obtain ⟨h91, h90⟩ := Prod.mk.inj (Option.some.inj hf)
  obtain ⟨h92, h93⟩ := Prod.mk.inj h90
  subst h91
  subst h92
  subst h93
  exact x_iret hC hR hS dX10_rolling_20
set_option maxRecDepth 20000 in
theorem M_X10_rolling (G : XG) (l : Launch) (kp : Bool) (N : Nat) {I : xTI} {L : xTL} {x1 : Int32} {x2 : Int32} {r : Int32} {rI : xTI} {rL : xTL} (hf : F_X10_rolling N I L x1 x2 = some (r, rI, rL)) : xMet G l yX10_rolling cX10_rolling 3 (some .int) 5 148 kp [.ref (xz G + 0), .int x1, .int x2] I L (some (.int r)) rI rL := by
  refine xMet.ofW (by decide +kernel) (Nat.le_of_ble_eq_true rfl) ?_
  intro p e s m args below meth c hC H locs ls hR hS hl
  replace hC : xC G p s m args meth c cX10_rolling 3 RX10 (some .int) := hC
  replace hl : lv_has ls 3 [(0, .ref (xz G + 0)), (1, .int x1), (2, .int x2)] := hl
  unfold F_X10_rolling at hf
  refine lv_iload_n hC.1 hC.2.1 dX10_rolling_0 rfl (lv_at hl 1 rfl) ?_
  refine x_if_lt (tgt := 14) hC dX10_rolling_1 (by decide) hf (fun hf => ?_) (fun hf => ?_)
  · exact W_X10_rolling_j14 hC N hf _ _ _ hR hS (lv_sub hl [0] rfl)
  · refine lv_iload_n hC.1 hC.2.1 dX10_rolling_4 rfl (lv_at hl 2 rfl) ?_
    refine lv_iconst (v := 0) hC.1 hC.2.1 dX10_rolling_5 (by decide) ?_
    refine lv_bipush (v := 28) hC.1 hC.2.1 dX10_rolling_6 (by decide) ?_
    refine x_csi00 (rest := []) hC xy_X10_isWithin tw_408 hf (fun _ h => M_X10_isWithin G l kp h) ⟨Nat.le_of_ble_eq_true rfl, Nat.le_of_ble_eq_true rfl⟩ rfl rfl (Nat.le_of_ble_eq_true rfl) hl.1 hR hS dX10_rolling_8 ⟨Nat.le_refl _, Nat.le_refl _⟩ (fun v1 hf H locs hR hS => ?_)
    refine x_if_ne (tgt := 21) hC dX10_rolling_11 (by decide) hf (fun hf => ?_) (fun hf => ?_)
    · refine lv_aload_n hC.1 hC.2.1 dX10_rolling_21 rfl (lv_at hl 0 rfl) ?_
      refine x_get (v := .ref (xz G + 46)) hC xf_X10_50 (xce_0 G kp _ _) rfl hR dX10_rolling_22 ?_
      refine lv_aload_n hC.1 hC.2.1 dX10_rolling_25 rfl (lv_at hl 0 rfl) ?_
      refine x_get (v := .ref (xz G + 1)) hC xf_X10_10 (xce_0 G kp _ _) rfl hR dX10_rolling_26 ?_
      refine lv_iload_n hC.1 hC.2.1 dX10_rolling_29 rfl (lv_at hl 1 rfl) ?_
      refine lv_iload_n hC.1 hC.2.1 dX10_rolling_30 rfl (lv_at hl 2 rfl) ?_
      refine x_cvi11 (rest := []) hC xy_X7_failingByRolling tw_1093 hf (fun _ _ _ h => M_X7_failingByRolling G l kp N h) ⟨Nat.le_of_ble_eq_true rfl, Nat.le_of_ble_eq_true rfl⟩ (xce_46 G kp _ _) rfl rfl rfl (Nat.le_of_ble_eq_true rfl) hl.1 hR hS dX10_rolling_31 ⟨Nat.le_refl _, Nat.le_refl _⟩ (fun v2 I3 L4 hf H locs hR hS => ?_)
      obtain ⟨h91, h90⟩ := Prod.mk.inj (Option.some.inj hf)
      obtain ⟨h92, h93⟩ := Prod.mk.inj h90
      subst h91
      subst h92
      subst h93
      exact x_iret hC hR hS dX10_rolling_34
    · exact W_X10_rolling_j14 hC N hf _ _ _ hR hS (lv_sub hl [0] rfl)
