set_option maxRecDepth 20000 in
theorem W_X7_haveOfOthers_j42 {G : XG} {l : Launch} {kp : Bool} {p : Program} {e : Env} {s : State} {m : MethodId} {args : Array Value} {below : List Frame} {meth : Method} {c : Code} (hC : xC G p s m args meth c cX7_haveOfOthers 6 RX7 (some .int)) (N : Nat) {I : xTI} {L : xTL} {r : Int32} {rI : xTI} {x3 : Int32} {x5 : Int32} {t0 : Int32} {t1 : Int32} (k12 : Int32 × Int32 → Option (Int32 × xTI)) (hk12 : ∀ (x4 : Int32) (x5 : Int32) , k12 (x4, x5) = some (r, rI) → ∀ (H : Heap) (locs : List Loc) (ls : Array Slot), xRep G kp I L H → xS G s.heap H locs → lv_has ls 6 [(0, .ref (xz G + 46)), (3, .int x3), (4, .int x4), (5, .int x5)] → W p l e (xrm 4 93) s m args below meth c H locs 0 0 (xMQ G kp below args s (some (.int r)) rI L) (F0 m 12 ls [])) (hf : F_X7_haveOfOthers_j42 k12 N I x3 x5 t0 t1 = some (r, rI)) : ∀ (H : Heap) (locs : List Loc) (ls : Array Slot), xRep G kp I L H → xS G s.heap H locs → lv_has ls 6 [(0, .ref (xz G + 46)), (3, .int x3), (5, .int x5)] → W p l e (xrm 4 93) s m args below meth c H locs 0 0 (xMQ G kp below args s (some (.int r)) rI L) (F0 m 42 ls [.int t1, .int t0]) := by
  intro H locs ls hR hS hl
  unfold F_X7_haveOfOthers_j42 at hf
  refine lv_iadd hC.1 hC.2.1 dX7_haveOfOthers_42 ?_
  refine x_ist (lv' := fun y1 => [(4, .int y1), (0, .ref (xz G + 46)), (3, .int x3), (5, .int x5)]) hC hl dX7_haveOfOthers_43 (Nat.le_of_ble_eq_true rfl) hf (fun _ => rfl) (fun y1 hf ls hl => ?_)
  refine x_iinc (d := 1) (lv' := fun y2 => [(5, .int y2), (4, .int y1), (0, .ref (xz G + 46)), (3, .int x3)]) (k := 3) hC hl dX7_haveOfOthers_45 rfl (by decide) (Nat.le_of_ble_eq_true rfl) hf (fun _ => rfl) (fun y2 hf ls hl => ?_)
  refine lv_goto (tgt := 12) hC.1 hC.2.1 dX7_haveOfOthers_48 (by decide) ?_
  exact hk12 y1 y2 hf _ _ _ hR hS (lv_sub hl [2, 3, 1, 0] rfl)
set_option maxRecDepth 20000 in
theorem W_X7_haveOfOthers_l12 {G : XG} {l : Launch} {kp : Bool} {p : Program} {e : Env} {s : State} {m : MethodId} {args : Array Value} {below : List Frame} {meth : Method} {c : Code} (hC : xC G p s m args meth c cX7_haveOfOthers 6 RX7 (some .int)) (N : Nat) {I : xTI} {L : xTL} {r : Int32} {rI : xTI} {x3 : Int32} : ∀ (n : Nat) (x4 : Int32) (x5 : Int32) , xlp (F_X7_haveOfOthers_b12 N I x3 ) n (x4, x5) = some (r, rI) → ∀ (H : Heap) (locs : List Loc) (ls : Array Slot), xRep G kp I L H → xS G s.heap H locs → lv_has ls 6 [(0, .ref (xz G + 46)), (3, .int x3), (4, .int x4), (5, .int x5)] → W p l e (xrm 4 93) s m args below meth c H locs 0 0 (xMQ G kp below args s (some (.int r)) rI L) (F0 m 12 ls []) := by
  intro n
  induction n with
  | zero =>
    intro x4 x5 hf
    cases hf
  | succ n hk12 =>
    intro x4 x5 hf H locs ls hR hS hl
    replace hf : F_X7_haveOfOthers_c12 N I x3 x4 x5 (xlp (F_X7_haveOfOthers_b12 N I x3 ) n) = some (r, rI) := hf
    unfold F_X7_haveOfOthers_c12 at hf
    refine lv_iload hC.1 hC.2.1 dX7_haveOfOthers_12 (lv_at hl 3 rfl) ?_
    refine lv_bipush (v := 12) hC.1 hC.2.1 dX7_haveOfOthers_14 (by decide) ?_
    refine x_ic_ge (tgt := 51) hC dX7_haveOfOthers_16 (by decide) hf (fun hf => ?_) (fun hf => ?_)
    · refine lv_iload hC.1 hC.2.1 dX7_haveOfOthers_51 (lv_at hl 2 rfl) ?_
      cases hf
      exact x_iret hC hR hS dX7_haveOfOthers_53
    · refine lv_iload hC.1 hC.2.1 dX7_haveOfOthers_19 (lv_at hl 2 rfl) ?_
      refine lv_iload hC.1 hC.2.1 dX7_haveOfOthers_21 (lv_at hl 3 rfl) ?_
      refine lv_iload_n hC.1 hC.2.1 dX7_haveOfOthers_23 rfl (lv_at hl 1 rfl) ?_
      refine x_ic_ne (tgt := 31) hC dX7_haveOfOthers_24 (by decide) hf (fun hf => ?_) (fun hf => ?_)
      · refine lv_aload_n hC.1 hC.2.1 dX7_haveOfOthers_31 rfl (lv_at hl 0 rfl) ?_
        refine x_get (v := .ref (xz G + 53)) hC xf_X7_31 (xce_46 G kp _ _) rfl hR dX7_haveOfOthers_32 ?_
        refine lv_iload hC.1 hC.2.1 dX7_haveOfOthers_35 (lv_at hl 3 rfl) ?_
        refine x_ial hC (xce_53 G kp _ _) hR dX7_haveOfOthers_37 hf (fun v1 hf => ?_)
        refine lv_iconst (v := 0) hC.1 hC.2.1 dX7_haveOfOthers_38 (by decide) ?_
        refine x_csi00 (rest := [.int x4]) hC xy_J9_max_7cf53 tw_1039 hf (fun _ h => M_J9_max_7cf53 G l kp h) ⟨Nat.le_of_ble_eq_true rfl, Nat.le_of_ble_eq_true rfl⟩ rfl rfl (Nat.le_of_ble_eq_true rfl) hl.1 hR hS dX7_haveOfOthers_39 ⟨Nat.le_refl _, Nat.le_refl _⟩ (fun v2 hf H locs hR hS => ?_)
        exact W_X7_haveOfOthers_j42 hC N k12 hk12 hf _ _ _ hR hS (lv_sub hl [0, 1, 3] rfl)
      · refine lv_iconst (v := 0) hC.1 hC.2.1 dX7_haveOfOthers_27 (by decide) ?_
        refine lv_goto (tgt := 42) hC.1 hC.2.1 dX7_haveOfOthers_28 (by decide) ?_
        exact W_X7_haveOfOthers_j42 hC N k12 hk12 hf _ _ _ hR hS (lv_sub hl [0, 1, 3] rfl)
set_option maxRecDepth 20000 in
theorem M_X7_haveOfOthers (G : XG) (l : Launch) (kp : Bool) (N : Nat) {I : xTI} {L : xTL} {x2 : Int32} {x3 : Int32} {r : Int32} {rI : xTI} (hf : F_X7_haveOfOthers N I x2 x3 = some (r, rI)) : xMet G l yX7_haveOfOthers cX7_haveOfOthers 6 (some .int) 4 93 kp [.ref (xz G + 46), .ref (xz G + 1), .int x2, .int x3] I L (some (.int r)) rI L := by
  refine xMet.ofW (by decide +kernel) (Nat.le_of_ble_eq_true rfl) ?_
  intro p e s m args below meth c hC H locs ls hR hS hl
  replace hC : xC G p s m args meth c cX7_haveOfOthers 6 RX7 (some .int) := hC
  replace hl : lv_has ls 6 [(0, .ref (xz G + 46)), (1, .ref (xz G + 1)), (2, .int x2), (3, .int x3)] := hl
  unfold F_X7_haveOfOthers at hf
  refine lv_aload_n hC.1 hC.2.1 dX7_haveOfOthers_0 rfl (lv_at hl 0 rfl) ?_
  refine lv_aload_n hC.1 hC.2.1 dX7_haveOfOthers_1 rfl (lv_at hl 1 rfl) ?_
  refine lv_iload_n hC.1 hC.2.1 dX7_haveOfOthers_2 rfl (lv_at hl 2 rfl) ?_
  refine x_cvv10 (rest := []) hC xy_X7_takePositions tw_1061 hf (fun _ h => M_X7_takePositions G l kp N h) ⟨Nat.le_of_ble_eq_true rfl, Nat.le_of_ble_eq_true rfl⟩ (xce_46 G kp _ _) rfl rfl rfl (Nat.le_of_ble_eq_true rfl) hl.1 hR hS dX7_haveOfOthers_3 ⟨Nat.le_refl _, Nat.le_refl _⟩ (fun I1 hf H locs hR hS => ?_)
  refine lv_iconst (v := 0) hC.1 hC.2.1 dX7_haveOfOthers_6 (by decide) ?_
  refine lv_istore (lv' := [(4, .int 0), (0, .ref (xz G + 46)), (1, .ref (xz G + 1)), (2, .int x2), (3, .int x3)]) hC.1 hC.2.1 dX7_haveOfOthers_7 hl (Nat.le_of_ble_eq_true rfl) rfl (fun ls hl => ?_)
  refine lv_iconst (v := 0) hC.1 hC.2.1 dX7_haveOfOthers_9 (by decide) ?_
  refine lv_istore (lv' := [(5, .int 0), (4, .int 0), (0, .ref (xz G + 46)), (1, .ref (xz G + 1)), (2, .int x2), (3, .int x3)]) hC.1 hC.2.1 dX7_haveOfOthers_10 hl (Nat.le_of_ble_eq_true rfl) rfl (fun ls hl => ?_)
  exact W_X7_haveOfOthers_l12 hC N _ 0 0 hf _ _ _ hR hS (lv_sub hl [2, 5, 1, 0] rfl)
set_option maxRecDepth 20000 in
theorem W_X10_corner_j16 {G : XG} {l : Launch} {kp : Bool} {p : Program} {e : Env} {s : State} {m : MethodId} {args : Array Value} {below : List Frame} {meth : Method} {c : Code} (hC : xC G p s m args meth c cX10_corner 6 RX10 (some .int)) (N : Nat) {I : xTI} {L : xTL} {r : Int32} {rI : xTI} (hf : F_X10_corner_j16 N I = some (r, rI)) : ∀ (H : Heap) (locs : List Loc) (ls : Array Slot), xRep G kp I L H → xS G s.heap H locs → lv_has ls 6 [(0, .ref (xz G + 0))] → W p l e (xrm 5 118) s m args below meth c H locs 0 0 (xMQ G kp below args s (some (.int r)) rI L) (F0 m 16 ls []) := by
  intro H locs ls hR hS hl
  unfold F_X10_corner_j16 at hf
  refine lv_aload_n hC.1 hC.2.1 dX10_corner_16 rfl (lv_at hl 0 rfl) ?_
  refine lv_bipush (v := (-3)) hC.1 hC.2.1 dX10_corner_17 (by decide) ?_
  refine x_cvi10 (rest := []) hC xy_X10_refuse tw_411 hf (fun _ _ h => M_X10_refuse G l kp h) ⟨Nat.le_of_ble_eq_true rfl, Nat.le_of_ble_eq_true rfl⟩ (xce_0 G kp _ _) rfl rfl rfl (Nat.le_of_ble_eq_true rfl) hl.1 hR hS dX10_corner_19 ⟨Nat.le_refl _, Nat.le_refl _⟩ (fun v1 I2 hf H locs hR hS => ?_)
  cases hf
  exact x_iret hC hR hS dX10_corner_22
set_option maxRecDepth 20000 in
theorem M_X10_corner (G : XG) (l : Launch) (kp : Bool) (N : Nat) {I : xTI} {L : xTL} {x1 : Int32} {x2 : Int32} {x3 : Int32} {r : Int32} {rI : xTI} (hf : F_X10_corner N I x1 x2 x3 = some (r, rI)) : xMet G l yX10_corner cX10_corner 6 (some .int) 5 118 kp [.ref (xz G + 0), .int x1, .int x2, .int x3] I L (some (.int r)) rI L := by
  refine xMet.ofW (by decide +kernel) (Nat.le_of_ble_eq_true rfl) ?_
  intro p e s m args below meth c hC H locs ls hR hS hl
  replace hC : xC G p s m args meth c cX10_corner 6 RX10 (some .int) := hC
  replace hl : lv_has ls 6 [(0, .ref (xz G + 0)), (1, .int x1), (2, .int x2), (3, .int x3)] := hl
  unfold F_X10_corner at hf
  refine lv_aload_n hC.1 hC.2.1 dX10_corner_0 rfl (lv_at hl 0 rfl) ?_
  refine lv_iload_n hC.1 hC.2.1 dX10_corner_1 rfl (lv_at hl 1 rfl) ?_
  refine x_cvi00 (rest := []) hC xy_X10_isStock tw_431 hf (fun _ h => M_X10_isStock G l kp h) ⟨Nat.le_of_ble_eq_true rfl, Nat.le_of_ble_eq_true rfl⟩ (xce_0 G kp _ _) rfl rfl rfl (Nat.le_of_ble_eq_true rfl) hl.1 hR hS dX10_corner_2 ⟨Nat.le_refl _, Nat.le_refl _⟩ (fun v1 hf H locs hR hS => ?_)
  refine x_if_eq (tgt := 16) hC dX10_corner_5 (by decide) hf (fun hf => ?_) (fun hf => ?_)
  · exact W_X10_corner_j16 hC N hf _ _ _ hR hS (lv_sub hl [0] rfl)
  · refine lv_aload_n hC.1 hC.2.1 dX10_corner_8 rfl (lv_at hl 0 rfl) ?_
    refine lv_iload_n hC.1 hC.2.1 dX10_corner_9 rfl (lv_at hl 2 rfl) ?_
    refine x_cvi00 (rest := []) hC xy_X10_isMan tw_427 hf (fun _ h => M_X10_isMan G l kp h) ⟨Nat.le_of_ble_eq_true rfl, Nat.le_of_ble_eq_true rfl⟩ (xce_0 G kp _ _) rfl rfl rfl (Nat.le_of_ble_eq_true rfl) hl.1 hR hS dX10_corner_10 ⟨Nat.le_refl _, Nat.le_refl _⟩ (fun v2 hf H locs hR hS => ?_)
    refine x_if_ne (tgt := 23) hC dX10_corner_13 (by decide) hf (fun hf => ?_) (fun hf => ?_)
    · refine lv_iload_n hC.1 hC.2.1 dX10_corner_23 rfl (lv_at hl 3 rfl) ?_
      refine lv_iconst (v := 0) hC.1 hC.2.1 dX10_corner_24 (by decide) ?_
      refine lv_iconst (v := 2) hC.1 hC.2.1 dX10_corner_25 (by decide) ?_
      refine x_csi00 (rest := []) hC xy_X10_isWithin tw_408 hf (fun _ h => M_X10_isWithin G l kp h) ⟨Nat.le_of_ble_eq_true rfl, Nat.le_of_ble_eq_true rfl⟩ rfl rfl (Nat.le_of_ble_eq_true rfl) hl.1 hR hS dX10_corner_26 ⟨Nat.le_refl _, Nat.le_refl _⟩ (fun v3 hf H locs hR hS => ?_)
      refine x_if_ne (tgt := 39) hC dX10_corner_29 (by decide) hf (fun hf => ?_) (fun hf => ?_)
      · refine lv_aload_n hC.1 hC.2.1 dX10_corner_39 rfl (lv_at hl 0 rfl) ?_
        refine x_get (v := .ref (xz G + 46)) hC xf_X10_50 (xce_0 G kp _ _) rfl hR dX10_corner_40 ?_
        refine lv_aload_n hC.1 hC.2.1 dX10_corner_43 rfl (lv_at hl 0 rfl) ?_
        refine x_get (v := .ref (xz G + 1)) hC xf_X10_10 (xce_0 G kp _ _) rfl hR dX10_corner_44 ?_
        refine lv_iload_n hC.1 hC.2.1 dX10_corner_47 rfl (lv_at hl 1 rfl) ?_
        refine lv_iload_n hC.1 hC.2.1 dX10_corner_48 rfl (lv_at hl 2 rfl) ?_
        refine x_cvi10 (rest := []) hC xy_X7_needOfOthers tw_1057 hf (fun _ _ h => M_X7_needOfOthers G l kp N h) ⟨Nat.le_of_ble_eq_true rfl, Nat.le_of_ble_eq_true rfl⟩ (xce_46 G kp _ _) rfl rfl rfl (Nat.le_of_ble_eq_true rfl) hl.1 hR hS dX10_corner_49 ⟨Nat.le_refl _, Nat.le_refl _⟩ (fun v4 I5 hf H locs hR hS => ?_)
        refine lv_istore (lv' := [(4, .int v4), (0, .ref (xz G + 0)), (1, .int x1), (2, .int x2), (3, .int x3)]) hC.1 hC.2.1 dX10_corner_52 hl (Nat.le_of_ble_eq_true rfl) rfl (fun ls hl => ?_)
        refine lv_aload_n hC.1 hC.2.1 dX10_corner_54 rfl (lv_at hl 1 rfl) ?_
        refine x_get (v := .ref (xz G + 46)) hC xf_X10_50 (xce_0 G kp _ _) rfl hR dX10_corner_55 ?_
        refine lv_aload_n hC.1 hC.2.1 dX10_corner_58 rfl (lv_at hl 1 rfl) ?_
        refine x_get (v := .ref (xz G + 1)) hC xf_X10_10 (xce_0 G kp _ _) rfl hR dX10_corner_59 ?_
        refine lv_iload_n hC.1 hC.2.1 dX10_corner_62 rfl (lv_at hl 2 rfl) ?_
        refine lv_iload_n hC.1 hC.2.1 dX10_corner_63 rfl (lv_at hl 3 rfl) ?_
        refine x_cvi10 (rest := []) hC xy_X7_haveOfOthers tw_1069 hf (fun _ _ h => M_X7_haveOfOthers G l kp N h) ⟨Nat.le_of_ble_eq_true rfl, Nat.le_of_ble_eq_true rfl⟩ (xce_46 G kp _ _) rfl rfl rfl (Nat.le_of_ble_eq_true rfl) hl.1 hR hS dX10_corner_64 ⟨Nat.le_refl _, Nat.le_refl _⟩ (fun v6 I7 hf H locs hR hS => ?_)
        refine lv_istore (lv' := [(5, .int v6), (4, .int v4), (0, .ref (xz G + 0)), (1, .int x1), (2, .int x2), (3, .int x3)]) hC.1 hC.2.1 dX10_corner_67 hl (Nat.le_of_ble_eq_true rfl) rfl (fun ls hl => ?_)
        refine lv_iload_n hC.1 hC.2.1 dX10_corner_69 rfl (lv_at hl 5 rfl) ?_
        by_cases hc : x3 = 0
        · rw [if_pos hc] at hf
          refine x_lsi (tgt := 96) hC dX10_corner_70 hc (by decide +kernel) ?_
          refine lv_iload hC.1 hC.2.1 dX10_corner_96 (lv_at hl 1 rfl) ?_
          refine lv_iload hC.1 hC.2.1 dX10_corner_98 (lv_at hl 0 rfl) ?_
          refine lv_isub hC.1 hC.2.1 dX10_corner_100 ?_
          refine lv_iconst (v := 0) hC.1 hC.2.1 dX10_corner_101 (by decide) ?_
          refine x_csi00 (rest := []) hC xy_J9_max_7cf53 tw_1073 hf (fun _ h => M_J9_max_7cf53 G l kp h) ⟨Nat.le_of_ble_eq_true rfl, Nat.le_of_ble_eq_true rfl⟩ rfl rfl (Nat.le_of_ble_eq_true rfl) hl.1 hR hS dX10_corner_102 ⟨Nat.le_refl _, Nat.le_refl _⟩ (fun v8 hf H locs hR hS => ?_)
          cases hf
          exact x_iret hC hR hS dX10_corner_105
        rw [if_neg hc] at hf
        have hc0 := hc
        clear hc
        by_cases hc : x3 = 1
        · rw [if_pos hc] at hf
          refine x_lsi (tgt := 106) hC dX10_corner_70 hc (by decide +kernel) ?_
          refine lv_iload hC.1 hC.2.1 dX10_corner_106 (lv_at hl 1 rfl) ?_
          cases hf
          exact x_iret hC hR hS dX10_corner_108
        rw [if_neg hc] at hf
        have hc1 := hc
        clear hc
        have e0 : (x3).toInt ≠ 0 := fun h => hc0 (Int32.toInt_inj.mp (h.trans (by decide)))
        have e1 : (x3).toInt ≠ 1 := fun h => hc1 (Int32.toInt_inj.mp (h.trans (by decide)))
        refine x_lso (tgt := 109) hC dX10_corner_70 (by decide +kernel) (by simp; omega) ?_
        refine lv_iload hC.1 hC.2.1 dX10_corner_109 (lv_at hl 0 rfl) ?_
        cases hf
        exact x_iret hC hR hS dX10_corner_111
      · refine lv_aload_n hC.1 hC.2.1 dX10_corner_32 rfl (lv_at hl 0 rfl) ?_
        refine lv_bipush (v := (-7)) hC.1 hC.2.1 dX10_corner_33 (by decide) ?_
        refine x_cvi10 (rest := []) hC xy_X10_refuse tw_411 hf (fun _ _ h => M_X10_refuse G l kp h) ⟨Nat.le_of_ble_eq_true rfl, Nat.le_of_ble_eq_true rfl⟩ (xce_0 G kp _ _) rfl rfl rfl (Nat.le_of_ble_eq_true rfl) hl.1 hR hS dX10_corner_35 ⟨Nat.le_refl _, Nat.le_refl _⟩ (fun v9 I10 hf H locs hR hS => ?_)
        cases hf
        exact x_iret hC hR hS dX10_corner_38
    · exact W_X10_corner_j16 hC N hf _ _ _ hR hS (lv_sub hl [0] rfl)
set_option maxRecDepth 20000 in
theorem W_X7_cheapest_j48 {G : XG} {l : Launch} {kp : Bool} {p : Program} {e : Env} {s : State} {m : MethodId} {args : Array Value} {below : List Frame} {meth : Method} {c : Code} (hC : xC G p s m args meth c cX7_cheapest 6 RX7 (some .int)) (N : Nat) {I : xTI} {L : xTL} {r : Int32} {x2 : Int32} {x3 : Int32} {x4 : Int32} {t0 : Int32} (k5 : Int32 × Int32 → Option (Int32)) (hk5 : ∀ (x3 : Int32) (x4 : Int32) , k5 (x3, x4) = some r → ∀ (H : Heap) (locs : List Loc) (ls : Array Slot), xRep G kp I L H → xS G s.heap H locs → lv_has ls 6 [(0, .ref (xz G + 46)), (1, .ref (xz G + 3)), (2, .int x2), (3, .int x3), (4, .int x4)] → W p l e (xrm 1 21) s m args below meth c H locs 0 0 (xMQ G kp below args s (some (.int r)) I L) (F0 m 5 ls [])) (hf : F_X7_cheapest_j48 k5 N I x2 x3 x4 t0 = some r) : ∀ (H : Heap) (locs : List Loc) (ls : Array Slot), xRep G kp I L H → xS G s.heap H locs → lv_has ls 6 [(0, .ref (xz G + 46)), (1, .ref (xz G + 3)), (2, .int x2), (3, .int x3), (4, .int x4)] → W p l e (xrm 1 21) s m args below meth c H locs 0 0 (xMQ G kp below args s (some (.int r)) I L) (F0 m 48 ls [.int t0]) := by
  intro H locs ls hR hS hl
  unfold F_X7_cheapest_j48 at hf
  refine lv_istore (lv' := [(5, .int t0), (0, .ref (xz G + 46)), (1, .ref (xz G + 3)), (2, .int x2), (3, .int x3), (4, .int x4)]) hC.1 hC.2.1 dX7_cheapest_48 hl (Nat.le_of_ble_eq_true rfl) rfl (fun ls hl => ?_)
  refine lv_aload_n hC.1 hC.2.1 dX7_cheapest_50 rfl (lv_at hl 1 rfl) ?_
  refine x_get (v := .ref (xz G + 53)) hC xf_X7_31 (xce_46 G kp _ _) rfl hR dX7_cheapest_51 ?_
  refine lv_iload hC.1 hC.2.1 dX7_cheapest_54 (lv_at hl 5 rfl) ?_
  refine x_ial hC (xce_53 G kp _ _) hR dX7_cheapest_56 hf (fun v1 hf => ?_)
  refine x_if_le (tgt := 68) hC dX7_cheapest_57 (by decide) hf (fun hf => ?_) (fun hf => ?_)
  · refine x_iinc (d := 1) (lv' := fun y2 => [(4, .int y2), (5, .int t0), (0, .ref (xz G + 46)), (1, .ref (xz G + 3)), (2, .int x2), (3, .int x3)]) (k := 5) hC hl dX7_cheapest_68 rfl (by decide) (Nat.le_of_ble_eq_true rfl) hf (fun _ => rfl) (fun y2 hf ls hl => ?_)
    refine lv_goto (tgt := 5) hC.1 hC.2.1 dX7_cheapest_71 (by decide) ?_
    exact hk5 x3 y2 hf _ _ _ hR hS (lv_sub hl [2, 3, 4, 5, 0] rfl)
  · refine lv_iload hC.1 hC.2.1 dX7_cheapest_60 (lv_at hl 0 rfl) ?_
    refine x_if_eq (tgt := 68) hC dX7_cheapest_62 (by decide) hf (fun hf => ?_) (fun hf => ?_)
    · refine x_iinc (d := 1) (lv' := fun y3 => [(4, .int y3), (5, .int t0), (0, .ref (xz G + 46)), (1, .ref (xz G + 3)), (2, .int x2), (3, .int x3)]) (k := 5) hC hl dX7_cheapest_68 rfl (by decide) (Nat.le_of_ble_eq_true rfl) hf (fun _ => rfl) (fun y3 hf ls hl => ?_)
      refine lv_goto (tgt := 5) hC.1 hC.2.1 dX7_cheapest_71 (by decide) ?_
      exact hk5 x3 y3 hf _ _ _ hR hS (lv_sub hl [2, 3, 4, 5, 0] rfl)
    · refine lv_iload hC.1 hC.2.1 dX7_cheapest_65 (lv_at hl 5 rfl) ?_
      refine lv_istore_n (lv' := [(3, .int x4), (5, .int t0), (0, .ref (xz G + 46)), (1, .ref (xz G + 3)), (2, .int x2), (4, .int x4)]) hC.1 hC.2.1 dX7_cheapest_67 rfl hl (Nat.le_of_ble_eq_true rfl) rfl (fun ls hl => ?_)
      refine x_iinc (d := 1) (lv' := fun y4 => [(4, .int y4), (3, .int x4), (5, .int t0), (0, .ref (xz G + 46)), (1, .ref (xz G + 3)), (2, .int x2)]) (k := 5) hC hl dX7_cheapest_68 rfl (by decide) (Nat.le_of_ble_eq_true rfl) hf (fun _ => rfl) (fun y4 hf ls hl => ?_)
      refine lv_goto (tgt := 5) hC.1 hC.2.1 dX7_cheapest_71 (by decide) ?_
      exact hk5 x4 y4 hf _ _ _ hR hS (lv_sub hl [3, 4, 5, 1, 0] rfl)
set_option maxRecDepth 20000 in
theorem W_X7_cheapest_l5 {G : XG} {l : Launch} {kp : Bool} {p : Program} {e : Env} {s : State} {m : MethodId} {args : Array Value} {below : List Frame} {meth : Method} {c : Code} (hC : xC G p s m args meth c cX7_cheapest 6 RX7 (some .int)) (N : Nat) {I : xTI} {L : xTL} {r : Int32} {x2 : Int32} : ∀ (n : Nat) (x3 : Int32) (x4 : Int32) , xlp (F_X7_cheapest_b5 N I x2 ) n (x3, x4) = some r → ∀ (H : Heap) (locs : List Loc) (ls : Array Slot), xRep G kp I L H → xS G s.heap H locs → lv_has ls 6 [(0, .ref (xz G + 46)), (1, .ref (xz G + 3)), (2, .int x2), (3, .int x3), (4, .int x4)] → W p l e (xrm 1 21) s m args below meth c H locs 0 0 (xMQ G kp below args s (some (.int r)) I L) (F0 m 5 ls []) := by
  intro n
  induction n with
  | zero =>
    intro x3 x4 hf
    cases hf
  | succ n hk5 =>
    intro x3 x4 hf H locs ls hR hS hl
    replace hf : F_X7_cheapest_c5 N I x2 x3 x4 (xlp (F_X7_cheapest_b5 N I x2 ) n) = some r := hf
    unfold F_X7_cheapest_c5 at hf
    refine lv_iload hC.1 hC.2.1 dX7_cheapest_5 (lv_at hl 4 rfl) ?_
    refine lv_aload_n hC.1 hC.2.1 dX7_cheapest_7 rfl (lv_at hl 1 rfl) ?_
    refine x_getI hC xf_X7_69 (xce_3 G kp _ _) rfl hR dX7_cheapest_8 hf (fun v1 hf => ?_)
    refine x_ic_ge (tgt := 74) hC dX7_cheapest_11 (by decide) hf (fun hf => ?_) (fun hf => ?_)
    · refine lv_iload_n hC.1 hC.2.1 dX7_cheapest_74 rfl (lv_at hl 3 rfl) ?_
      cases hf
      exact x_iret hC hR hS dX7_cheapest_75
    · refine lv_iload_n hC.1 hC.2.1 dX7_cheapest_14 rfl (lv_at hl 3 rfl) ?_
      refine lv_iconst (v := (-1)) hC.1 hC.2.1 dX7_cheapest_15 (by decide) ?_
      refine x_ic_eq (tgt := 43) hC dX7_cheapest_16 (by decide) hf (fun hf => ?_) (fun hf => ?_)
      · refine lv_iconst (v := 1) hC.1 hC.2.1 dX7_cheapest_43 (by decide) ?_
        refine lv_goto (tgt := 48) hC.1 hC.2.1 dX7_cheapest_44 (by decide) ?_
        exact W_X7_cheapest_j48 hC N k5 hk5 hf _ _ _ hR hS (lv_sub hl [0, 1, 2, 3, 4] rfl)
      · refine lv_aload_n hC.1 hC.2.1 dX7_cheapest_19 rfl (lv_at hl 1 rfl) ?_
        refine x_get (v := .ref (xz G + 10)) hC xf_X7_113 (xce_3 G kp _ _) rfl hR dX7_cheapest_20 ?_
        refine lv_iload hC.1 hC.2.1 dX7_cheapest_23 (lv_at hl 4 rfl) ?_
        refine lv_iload_n hC.1 hC.2.1 dX7_cheapest_25 rfl (lv_at hl 2 rfl) ?_
        refine x_csi00 (rest := [.ref (xz G + 10)]) hC xy_X3_place tw_1068 hf (fun _ h => M_X3_place G l kp h) ⟨Nat.le_of_ble_eq_true rfl, Nat.le_of_ble_eq_true rfl⟩ rfl rfl (Nat.le_of_ble_eq_true rfl) hl.1 hR hS dX7_cheapest_26 ⟨Nat.le_refl _, Nat.le_refl _⟩ (fun v2 hf H locs hR hS => ?_)
        refine x_ial hC (xce_10 G kp _ _) hR dX7_cheapest_29 hf (fun v3 hf => ?_)
        refine lv_aload_n hC.1 hC.2.1 dX7_cheapest_30 rfl (lv_at hl 1 rfl) ?_
        refine x_get (v := .ref (xz G + 10)) hC xf_X7_113 (xce_3 G kp _ _) rfl hR dX7_cheapest_31 ?_
        refine lv_iload_n hC.1 hC.2.1 dX7_cheapest_34 rfl (lv_at hl 3 rfl) ?_
        refine lv_iload_n hC.1 hC.2.1 dX7_cheapest_35 rfl (lv_at hl 2 rfl) ?_
        refine x_csi00 (rest := [.ref (xz G + 10), .int v3]) hC xy_X3_place tw_1068 hf (fun _ h => M_X3_place G l kp h) ⟨Nat.le_of_ble_eq_true rfl, Nat.le_of_ble_eq_true rfl⟩ rfl rfl (Nat.le_of_ble_eq_true rfl) hl.1 hR hS dX7_cheapest_36 ⟨Nat.le_refl _, Nat.le_refl _⟩ (fun v4 hf H locs hR hS => ?_)
        refine x_ial hC (xce_10 G kp _ _) hR dX7_cheapest_39 hf (fun v5 hf => ?_)
        refine x_ic_ge (tgt := 47) hC dX7_cheapest_40 (by decide) hf (fun hf => ?_) (fun hf => ?_)
        · refine lv_iconst (v := 0) hC.1 hC.2.1 dX7_cheapest_47 (by decide) ?_
          exact W_X7_cheapest_j48 hC N k5 hk5 hf _ _ _ hR hS (lv_sub hl [0, 1, 2, 3, 4] rfl)
        · refine lv_iconst (v := 1) hC.1 hC.2.1 dX7_cheapest_43 (by decide) ?_
          refine lv_goto (tgt := 48) hC.1 hC.2.1 dX7_cheapest_44 (by decide) ?_
          exact W_X7_cheapest_j48 hC N k5 hk5 hf _ _ _ hR hS (lv_sub hl [0, 1, 2, 3, 4] rfl)
set_option maxRecDepth 20000 in
theorem M_X7_cheapest (G : XG) (l : Launch) (kp : Bool) (N : Nat) {I : xTI} {L : xTL} {x2 : Int32} {r : Int32} (hf : F_X7_cheapest N I x2 = some r) : xMet G l yX7_cheapest cX7_cheapest 6 (some .int) 1 21 kp [.ref (xz G + 46), .ref (xz G + 3), .int x2] I L (some (.int r)) I L := by
  refine xMet.ofW (by decide +kernel) (Nat.le_of_ble_eq_true rfl) ?_
  intro p e s m args below meth c hC H locs ls hR hS hl
  replace hC : xC G p s m args meth c cX7_cheapest 6 RX7 (some .int) := hC
  replace hl : lv_has ls 6 [(0, .ref (xz G + 46)), (1, .ref (xz G + 3)), (2, .int x2)] := hl
  unfold F_X7_cheapest at hf
  refine lv_iconst (v := (-1)) hC.1 hC.2.1 dX7_cheapest_0 (by decide) ?_
  refine x_istn (lv' := fun y1 => [(3, .int y1), (0, .ref (xz G + 46)), (1, .ref (xz G + 3)), (2, .int x2)]) hC hl dX7_cheapest_1 rfl (Nat.le_of_ble_eq_true rfl) hf (fun _ => rfl) (fun y1 hf ls hl => ?_)
  refine lv_iconst (v := 0) hC.1 hC.2.1 dX7_cheapest_2 (by decide) ?_
  refine lv_istore (lv' := [(4, .int 0), (3, .int y1), (0, .ref (xz G + 46)), (1, .ref (xz G + 3)), (2, .int x2)]) hC.1 hC.2.1 dX7_cheapest_3 hl (Nat.le_of_ble_eq_true rfl) rfl (fun ls hl => ?_)
  exact W_X7_cheapest_l5 hC N _ y1 0 hf _ _ _ hR hS (lv_sub hl [2, 3, 4, 1, 0] rfl)
set_option maxRecDepth 20000 in
theorem M_J9_min_7cf53 (G : XG) (l : Launch) (kp : Bool) {I : xTI} {L : xTL} {x0 : Int32} {x1 : Int32} {r : Int32} (hf : F_J9_min_7cf53 x0 x1 = some r) : xMet G l yJ9_min_7cf53 cJ9_min_7cf53 2 (some .int) 0 0 kp [.int x0, .int x1] I L (some (.int r)) I L := by
  refine xMet.ofW (by decide +kernel) (Nat.le_of_ble_eq_true rfl) ?_
  intro p e s m args below meth c hC H locs ls hR hS hl
  replace hC : xC G p s m args meth c cJ9_min_7cf53 2 RJ9 (some .int) := hC
  replace hl : lv_has ls 2 [(0, .int x0), (1, .int x1)] := hl
  unfold F_J9_min_7cf53 at hf
  refine lv_iload_n hC.1 hC.2.1 dJ9_min_7cf53_0 rfl (lv_at hl 0 rfl) ?_
  refine lv_iload_n hC.1 hC.2.1 dJ9_min_7cf53_1 rfl (lv_at hl 1 rfl) ?_
  refine x_ic_gt (tgt := 9) hC dJ9_min_7cf53_2 (by decide) hf (fun hf => ?_) (fun hf => ?_)
  · refine lv_iload_n hC.1 hC.2.1 dJ9_min_7cf53_9 rfl (lv_at hl 1 rfl) ?_
    cases hf
    exact x_iret hC hR hS dJ9_min_7cf53_10
  · refine lv_iload_n hC.1 hC.2.1 dJ9_min_7cf53_5 rfl (lv_at hl 0 rfl) ?_
    refine lv_goto (tgt := 10) hC.1 hC.2.1 dJ9_min_7cf53_6 (by decide) ?_
    cases hf
    exact x_iret hC hR hS dJ9_min_7cf53_10
set_option maxRecDepth 20000 in
theorem W_X7_leastCost_j107 {G : XG} {l : Launch} {kp : Bool} {p : Program} {e : Env} {s : State} {m : MethodId} {args : Array Value} {below : List Frame} {meth : Method} {c : Code} (hC : xC G p s m args meth c cX7_leastCost 10 RX7 (some .long)) (N : Nat) {I : xTI} {L : xTL} {r : Int64} {rI : xTI} {x4 : Int32} {x5 : Int64} (hf : F_X7_leastCost_j107 N I x4 x5 = some (r, rI)) : ∀ (H : Heap) (locs : List Loc) (ls : Array Slot), xRep G kp I L H → xS G s.heap H locs → lv_has ls 10 [(4, .int x4), (5, .long x5)] → W p l e (xrm 5 118) s m args below meth c H locs 0 0 (xMQ G kp below args s (some (.long r)) rI L) (F0 m 107 ls []) := by
  intro H locs ls hR hS hl
  unfold F_X7_leastCost_j107 at hf
  refine lv_iload hC.1 hC.2.1 dX7_leastCost_107 (lv_at hl 0 rfl) ?_
  refine x_if_le (tgt := 118) hC dX7_leastCost_109 (by decide) hf (fun hf => ?_) (fun hf => ?_)
  · refine lv_lload hC.1 hC.2.1 dX7_leastCost_118 (lv_at hl 1 rfl) ?_
    cases hf
    exact x_lret hC hR hS dX7_leastCost_120
  · refine x_ldc2 (v := (-1)) hC tw_1087 dX7_leastCost_112 ?_
    refine lv_goto (tgt := 120) hC.1 hC.2.1 dX7_leastCost_115 (by decide) ?_
    cases hf
    exact x_lret hC hR hS dX7_leastCost_120
set_option maxRecDepth 20000 in
theorem W_X7_leastCost_l15 {G : XG} {l : Launch} {kp : Bool} {p : Program} {e : Env} {s : State} {m : MethodId} {args : Array Value} {below : List Frame} {meth : Method} {c : Code} (hC : xC G p s m args meth c cX7_leastCost 10 RX7 (some .long)) (N : Nat) {L : xTL} {r : Int64} {rI : xTI} {x2 : Int32} : ∀ (n : Nat) (x4 : Int32) (x5 : Int64) (x7 : Int32) (I : xTI) , xlp (F_X7_leastCost_b15 N x2 ) n (x4, x5, x7, I) = some (r, rI) → ∀ (H : Heap) (locs : List Loc) (ls : Array Slot), xRep G kp I L H → xS G s.heap H locs → lv_has ls 10 [(0, .ref (xz G + 46)), (1, .ref (xz G + 1)), (2, .int x2), (4, .int x4), (5, .long x5), (7, .int x7)] → W p l e (xrm 5 118) s m args below meth c H locs 0 0 (xMQ G kp below args s (some (.long r)) rI L) (F0 m 15 ls []) := by
  intro n
  induction n with
  | zero =>
    intro x4 x5 x7 I hf
    cases hf
  | succ n hk15 =>
    intro x4 x5 x7 I hf H locs ls hR hS hl
    replace hf : F_X7_leastCost_c15 N x2 x4 x5 x7 I (xlp (F_X7_leastCost_b15 N x2 ) n) = some (r, rI) := hf
    unfold F_X7_leastCost_c15 at hf
    refine lv_iload hC.1 hC.2.1 dX7_leastCost_15 (lv_at hl 5 rfl) ?_
    refine lv_bipush (v := 12) hC.1 hC.2.1 dX7_leastCost_17 (by decide) ?_
    refine x_ic_ge (tgt := 107) hC dX7_leastCost_19 (by decide) hf (fun hf => ?_) (fun hf => ?_)
    · exact W_X7_leastCost_j107 hC N hf _ _ _ hR hS (lv_sub hl [3, 4] rfl)
    · refine lv_iload hC.1 hC.2.1 dX7_leastCost_22 (lv_at hl 3 rfl) ?_
      refine x_if_le (tgt := 107) hC dX7_leastCost_24 (by decide) hf (fun hf => ?_) (fun hf => ?_)
      · exact W_X7_leastCost_j107 hC N hf _ _ _ hR hS (lv_sub hl [3, 4] rfl)
      · refine lv_aload_n hC.1 hC.2.1 dX7_leastCost_27 rfl (lv_at hl 0 rfl) ?_
        refine lv_aload_n hC.1 hC.2.1 dX7_leastCost_28 rfl (lv_at hl 1 rfl) ?_
        refine x_get (v := .ref (xz G + 3)) hC xf_X7_65 (xce_1 G kp _ _) rfl hR dX7_leastCost_29 ?_
        refine lv_iload_n hC.1 hC.2.1 dX7_leastCost_32 rfl (lv_at hl 2 rfl) ?_
        refine x_cvi00 (rest := []) hC xy_X7_cheapest tw_1083 hf (fun _ h => M_X7_cheapest G l kp N h) ⟨Nat.le_of_ble_eq_true rfl, Nat.le_of_ble_eq_true rfl⟩ (xce_46 G kp _ _) rfl rfl rfl (Nat.le_of_ble_eq_true rfl) hl.1 hR hS dX7_leastCost_33 ⟨Nat.le_refl _, Nat.le_refl _⟩ (fun v1 hf H locs hR hS => ?_)
        refine lv_istore (lv' := [(8, .int v1), (0, .ref (xz G + 46)), (1, .ref (xz G + 1)), (2, .int x2), (4, .int x4), (5, .long x5), (7, .int x7)]) hC.1 hC.2.1 dX7_leastCost_36 hl (Nat.le_of_ble_eq_true rfl) rfl (fun ls hl => ?_)
        refine lv_iload hC.1 hC.2.1 dX7_leastCost_38 (lv_at hl 0 rfl) ?_
        refine lv_iconst (v := (-1)) hC.1 hC.2.1 dX7_leastCost_40 (by decide) ?_
        refine x_ic_ne (tgt := 48) hC dX7_leastCost_41 (by decide) hf (fun hf => ?_) (fun hf => ?_)
        · refine lv_iload hC.1 hC.2.1 dX7_leastCost_48 (lv_at hl 4 rfl) ?_
          refine lv_aload_n hC.1 hC.2.1 dX7_leastCost_50 rfl (lv_at hl 1 rfl) ?_
          refine x_get (v := .ref (xz G + 53)) hC xf_X7_31 (xce_46 G kp _ _) rfl hR dX7_leastCost_51 ?_
          refine lv_iload hC.1 hC.2.1 dX7_leastCost_54 (lv_at hl 0 rfl) ?_
          refine x_ial hC (xce_53 G kp _ _) hR dX7_leastCost_56 hf (fun v2 hf => ?_)
          refine x_csi00 (rest := []) hC xy_J9_min_7cf53 tw_1088 hf (fun _ h => M_J9_min_7cf53 G l kp h) ⟨Nat.le_of_ble_eq_true rfl, Nat.le_of_ble_eq_true rfl⟩ rfl rfl (Nat.le_of_ble_eq_true rfl) hl.1 hR hS dX7_leastCost_57 ⟨Nat.le_refl _, Nat.le_refl _⟩ (fun v3 hf H locs hR hS => ?_)
          refine lv_istore (lv' := [(9, .int v3), (8, .int v1), (0, .ref (xz G + 46)), (1, .ref (xz G + 1)), (2, .int x2), (4, .int x4), (5, .long x5), (7, .int x7)]) hC.1 hC.2.1 dX7_leastCost_60 hl (Nat.le_of_ble_eq_true rfl) rfl (fun ls hl => ?_)
          refine lv_lload hC.1 hC.2.1 dX7_leastCost_62 (lv_at hl 6 rfl) ?_
          refine lv_iload hC.1 hC.2.1 dX7_leastCost_64 (lv_at hl 0 rfl) ?_
          refine lv_i2l hC.1 hC.2.1 dX7_leastCost_66 rfl ?_
          refine lv_aload_n hC.1 hC.2.1 dX7_leastCost_67 rfl (lv_at hl 3 rfl) ?_
          refine x_get (v := .ref (xz G + 3)) hC xf_X7_65 (xce_1 G kp _ _) rfl hR dX7_leastCost_68 ?_
          refine x_get (v := .ref (xz G + 10)) hC xf_X7_113 (xce_3 G kp _ _) rfl hR dX7_leastCost_71 ?_
          refine lv_iload hC.1 hC.2.1 dX7_leastCost_74 (lv_at hl 1 rfl) ?_
          refine lv_iload_n hC.1 hC.2.1 dX7_leastCost_76 rfl (lv_at hl 4 rfl) ?_
          refine x_csi00 (rest := [.ref (xz G + 10), .long (v3.toInt64), .long x5]) hC xy_X3_place tw_1068 hf (fun _ h => M_X3_place G l kp h) ⟨Nat.le_of_ble_eq_true rfl, Nat.le_of_ble_eq_true rfl⟩ rfl rfl (Nat.le_of_ble_eq_true rfl) hl.1 hR hS dX7_leastCost_77 ⟨Nat.le_refl _, Nat.le_refl _⟩ (fun v4 hf H locs hR hS => ?_)
          refine x_ial hC (xce_10 G kp _ _) hR dX7_leastCost_80 hf (fun v5 hf => ?_)
          refine lv_i2l hC.1 hC.2.1 dX7_leastCost_81 rfl ?_
          refine lv_lmul hC.1 hC.2.1 dX7_leastCost_82 ?_
          refine lv_ladd hC.1 hC.2.1 dX7_leastCost_83 ?_
          refine x_lst (lv' := fun y6 => [(5, .long y6), (9, .int v3), (8, .int v1), (0, .ref (xz G + 46)), (1, .ref (xz G + 1)), (2, .int x2), (4, .int x4), (7, .int x7)]) hC hl dX7_leastCost_84 (Nat.le_of_ble_eq_true rfl) hf (fun _ => rfl) (fun y6 hf ls hl => ?_)
          refine lv_iload hC.1 hC.2.1 dX7_leastCost_86 (lv_at hl 6 rfl) ?_
          refine lv_iload hC.1 hC.2.1 dX7_leastCost_88 (lv_at hl 1 rfl) ?_
          refine lv_isub hC.1 hC.2.1 dX7_leastCost_90 ?_
          refine x_ist (lv' := fun y7 => [(4, .int y7), (5, .long y6), (9, .int v3), (8, .int v1), (0, .ref (xz G + 46)), (1, .ref (xz G + 1)), (2, .int x2), (7, .int x7)]) hC hl dX7_leastCost_91 (Nat.le_of_ble_eq_true rfl) hf (fun _ => rfl) (fun y7 hf ls hl => ?_)
          refine lv_aload_n hC.1 hC.2.1 dX7_leastCost_93 rfl (lv_at hl 4 rfl) ?_
          refine x_get (v := .ref (xz G + 53)) hC xf_X7_31 (xce_46 G kp _ _) rfl hR dX7_leastCost_94 ?_
          refine lv_iload hC.1 hC.2.1 dX7_leastCost_97 (lv_at hl 3 rfl) ?_
          refine lv_iconst (v := 0) hC.1 hC.2.1 dX7_leastCost_99 (by decide) ?_
          refine x_ias hC (fun f => xce_53 G kp f _) hR hS dX7_leastCost_100 hf (fun I8 hf H locs hR hS => ?_)
          refine x_iinc (d := 1) (lv' := fun y9 => [(7, .int y9), (4, .int y7), (5, .long y6), (9, .int v3), (8, .int v1), (0, .ref (xz G + 46)), (1, .ref (xz G + 1)), (2, .int x2)]) (k := 7) hC hl dX7_leastCost_101 rfl (by decide) (Nat.le_of_ble_eq_true rfl) hf (fun _ => rfl) (fun y9 hf ls hl => ?_)
          refine lv_goto (tgt := 15) hC.1 hC.2.1 dX7_leastCost_104 (by decide) ?_
          exact hk15 y7 y6 y9 I8 hf _ _ _ hR hS (lv_sub hl [5, 6, 7, 1, 2, 0] rfl)
        · refine x_ldc2 (v := (-1)) hC tw_1087 dX7_leastCost_44 ?_
          cases hf
          exact x_lret hC hR hS dX7_leastCost_47
set_option maxRecDepth 20000 in
theorem M_X7_leastCost (G : XG) (l : Launch) (kp : Bool) (N : Nat) {I : xTI} {L : xTL} {x2 : Int32} {x3 : Int32} {r : Int64} {rI : xTI} (hf : F_X7_leastCost N I x2 x3 = some (r, rI)) : xMet G l yX7_leastCost cX7_leastCost 10 (some .long) 5 118 kp [.ref (xz G + 46), .ref (xz G + 1), .int x2, .int x3] I L (some (.long r)) rI L := by
  refine xMet.ofW (by decide +kernel) (Nat.le_of_ble_eq_true rfl) ?_
  intro p e s m args below meth c hC H locs ls hR hS hl
  replace hC : xC G p s m args meth c cX7_leastCost 10 RX7 (some .long) := hC
  replace hl : lv_has ls 10 [(0, .ref (xz G + 46)), (1, .ref (xz G + 1)), (2, .int x2), (3, .int x3)] := hl
  unfold F_X7_leastCost at hf
  refine lv_aload_n hC.1 hC.2.1 dX7_leastCost_0 rfl (lv_at hl 0 rfl) ?_
  refine lv_aload_n hC.1 hC.2.1 dX7_leastCost_1 rfl (lv_at hl 1 rfl) ?_
  refine lv_iload_n hC.1 hC.2.1 dX7_leastCost_2 rfl (lv_at hl 2 rfl) ?_
  refine lv_iload_n hC.1 hC.2.1 dX7_leastCost_3 rfl (lv_at hl 3 rfl) ?_
  refine x_cvi10 (rest := []) hC xy_X7_needOfOthers tw_1082 hf (fun _ _ h => M_X7_needOfOthers G l kp N h) ⟨Nat.le_of_ble_eq_true rfl, Nat.le_of_ble_eq_true rfl⟩ (xce_46 G kp _ _) rfl rfl rfl (Nat.le_of_ble_eq_true rfl) hl.1 hR hS dX7_leastCost_4 ⟨Nat.le_refl _, Nat.le_refl _⟩ (fun v1 I2 hf H locs hR hS => ?_)
  refine lv_istore (lv' := [(4, .int v1), (0, .ref (xz G + 46)), (1, .ref (xz G + 1)), (2, .int x2), (3, .int x3)]) hC.1 hC.2.1 dX7_leastCost_7 hl (Nat.le_of_ble_eq_true rfl) rfl (fun ls hl => ?_)
  refine lv_lconst (v := 0) hC.1 hC.2.1 dX7_leastCost_9 (by decide) ?_
  refine lv_lstore (lv' := [(5, .long 0), (4, .int v1), (0, .ref (xz G + 46)), (1, .ref (xz G + 1)), (2, .int x2), (3, .int x3)]) hC.1 hC.2.1 dX7_leastCost_10 hl (Nat.le_of_ble_eq_true rfl) rfl (fun ls hl => ?_)
  refine lv_iconst (v := 0) hC.1 hC.2.1 dX7_leastCost_12 (by decide) ?_
  refine lv_istore (lv' := [(7, .int 0), (5, .long 0), (4, .int v1), (0, .ref (xz G + 46)), (1, .ref (xz G + 1)), (2, .int x2), (3, .int x3)]) hC.1 hC.2.1 dX7_leastCost_13 hl (Nat.le_of_ble_eq_true rfl) rfl (fun ls hl => ?_)
  exact W_X7_leastCost_l15 hC N _ v1 0 0 I2 hf _ _ _ hR hS (lv_sub hl [3, 4, 5, 2, 1, 0] rfl)
set_option maxRecDepth 20000 in
theorem W_X10_squeeze_j16 {G : XG} {l : Launch} {kp : Bool} {p : Program} {e : Env} {s : State} {m : MethodId} {args : Array Value} {below : List Frame} {meth : Method} {c : Code} (hC : xC G p s m args meth c cX10_squeeze 3 RX10 (some .long)) (N : Nat) {I : xTI} {L : xTL} {r : Int64} {rI : xTI} (hf : F_X10_squeeze_j16 N I = some (r, rI)) : ∀ (H : Heap) (locs : List Loc) (ls : Array Slot), xRep G kp I L H → xS G s.heap H locs → lv_has ls 3 [(0, .ref (xz G + 0))] → W p l e (xrm 6 147) s m args below meth c H locs 0 0 (xMQ G kp below args s (some (.long r)) rI L) (F0 m 16 ls []) := by
  intro H locs ls hR hS hl
  unfold F_X10_squeeze_j16 at hf
  refine lv_aload_n hC.1 hC.2.1 dX10_squeeze_16 rfl (lv_at hl 0 rfl) ?_
  refine lv_bipush (v := (-3)) hC.1 hC.2.1 dX10_squeeze_17 (by decide) ?_
  refine x_cvi10 (rest := []) hC xy_X10_refuseAsZero tw_474 hf (fun _ _ h => M_X10_refuseAsZero G l kp h) ⟨Nat.le_of_ble_eq_true rfl, Nat.le_of_ble_eq_true rfl⟩ (xce_0 G kp _ _) rfl rfl rfl (Nat.le_of_ble_eq_true rfl) hl.1 hR hS dX10_squeeze_19 ⟨Nat.le_refl _, Nat.le_refl _⟩ (fun v1 I2 hf H locs hR hS => ?_)
  refine lv_i2l hC.1 hC.2.1 dX10_squeeze_22 rfl ?_
  cases hf
  exact x_lret hC hR hS dX10_squeeze_23
set_option maxRecDepth 20000 in
theorem M_X10_squeeze (G : XG) (l : Launch) (kp : Bool) (N : Nat) {I : xTI} {L : xTL} {x1 : Int32} {x2 : Int32} {r : Int64} {rI : xTI} (hf : F_X10_squeeze N I x1 x2 = some (r, rI)) : xMet G l yX10_squeeze cX10_squeeze 3 (some .long) 6 147 kp [.ref (xz G + 0), .int x1, .int x2] I L (some (.long r)) rI L := by
  refine xMet.ofW (by decide +kernel) (Nat.le_of_ble_eq_true rfl) ?_
  intro p e s m args below meth c hC H locs ls hR hS hl
  replace hC : xC G p s m args meth c cX10_squeeze 3 RX10 (some .long) := hC
  replace hl : lv_has ls 3 [(0, .ref (xz G + 0)), (1, .int x1), (2, .int x2)] := hl
  unfold F_X10_squeeze at hf
  refine lv_aload_n hC.1 hC.2.1 dX10_squeeze_0 rfl (lv_at hl 0 rfl) ?_
  refine lv_iload_n hC.1 hC.2.1 dX10_squeeze_1 rfl (lv_at hl 1 rfl) ?_
  refine x_cvi00 (rest := []) hC xy_X10_isStock tw_431 hf (fun _ h => M_X10_isStock G l kp h) ⟨Nat.le_of_ble_eq_true rfl, Nat.le_of_ble_eq_true rfl⟩ (xce_0 G kp _ _) rfl rfl rfl (Nat.le_of_ble_eq_true rfl) hl.1 hR hS dX10_squeeze_2 ⟨Nat.le_refl _, Nat.le_refl _⟩ (fun v1 hf H locs hR hS => ?_)
  refine x_if_eq (tgt := 16) hC dX10_squeeze_5 (by decide) hf (fun hf => ?_) (fun hf => ?_)
  · exact W_X10_squeeze_j16 hC N hf _ _ _ hR hS (lv_sub hl [0] rfl)
  · refine lv_aload_n hC.1 hC.2.1 dX10_squeeze_8 rfl (lv_at hl 0 rfl) ?_
    refine lv_iload_n hC.1 hC.2.1 dX10_squeeze_9 rfl (lv_at hl 2 rfl) ?_
    refine x_cvi00 (rest := []) hC xy_X10_isMan tw_427 hf (fun _ h => M_X10_isMan G l kp h) ⟨Nat.le_of_ble_eq_true rfl, Nat.le_of_ble_eq_true rfl⟩ (xce_0 G kp _ _) rfl rfl rfl (Nat.le_of_ble_eq_true rfl) hl.1 hR hS dX10_squeeze_10 ⟨Nat.le_refl _, Nat.le_refl _⟩ (fun v2 hf H locs hR hS => ?_)
    refine x_if_ne (tgt := 24) hC dX10_squeeze_13 (by decide) hf (fun hf => ?_) (fun hf => ?_)
    · refine lv_aload_n hC.1 hC.2.1 dX10_squeeze_24 rfl (lv_at hl 0 rfl) ?_
      refine x_get (v := .ref (xz G + 46)) hC xf_X10_50 (xce_0 G kp _ _) rfl hR dX10_squeeze_25 ?_
      refine lv_aload_n hC.1 hC.2.1 dX10_squeeze_28 rfl (lv_at hl 0 rfl) ?_
      refine x_get (v := .ref (xz G + 1)) hC xf_X10_10 (xce_0 G kp _ _) rfl hR dX10_squeeze_29 ?_
      refine lv_iload_n hC.1 hC.2.1 dX10_squeeze_32 rfl (lv_at hl 1 rfl) ?_
      refine lv_iload_n hC.1 hC.2.1 dX10_squeeze_33 rfl (lv_at hl 2 rfl) ?_
      refine x_cvl10 (rest := []) hC xy_X7_leastCost tw_1078 hf (fun _ _ h => M_X7_leastCost G l kp N h) ⟨Nat.le_of_ble_eq_true rfl, Nat.le_of_ble_eq_true rfl⟩ (xce_46 G kp _ _) rfl rfl rfl (Nat.le_of_ble_eq_true rfl) hl.1 hR hS dX10_squeeze_34 ⟨Nat.le_refl _, Nat.le_refl _⟩ (fun v3 I4 hf H locs hR hS => ?_)
      cases hf
      exact x_lret hC hR hS dX10_squeeze_37
    · exact W_X10_squeeze_j16 hC N hf _ _ _ hR hS (lv_sub hl [0] rfl)
set_option maxRecDepth 20000 in
theorem M_X0_standsFor (G : XG) (l : Launch) (kp : Bool) {I : xTI} {L : xTL} {x1 : Int32} {x2 : Int32} {r : Int32} (hf : F_X0_standsFor I x1 x2 = some r) : xMet G l yX0_standsFor cX0_standsFor 3 (some .boolean) 1 23 kp [.ref (xz G + 11), .int x1, .int x2] I L (some (.int r)) I L := by
  refine xMet.ofW (by decide +kernel) (Nat.le_of_ble_eq_true rfl) ?_
  intro p e s m args below meth c hC H locs ls hR hS hl
  replace hC : xC G p s m args meth c cX0_standsFor 3 RX0 (some .boolean) := hC
  replace hl : lv_has ls 3 [(0, .ref (xz G + 11)), (1, .int x1), (2, .int x2)] := hl
  unfold F_X0_standsFor at hf
  refine lv_aload_n hC.1 hC.2.1 dX0_standsFor_0 rfl (lv_at hl 0 rfl) ?_
  refine x_get (v := .ref (xz G + 12)) hC xf_X0_16 (xce_11 G kp _ _) rfl hR dX0_standsFor_1 ?_
  refine lv_iload_n hC.1 hC.2.1 dX0_standsFor_4 rfl (lv_at hl 1 rfl) ?_
  refine lv_bipush (v := 7) hC.1 hC.2.1 dX0_standsFor_5 (by decide) ?_
  refine x_cvi00 (rest := []) hC xy_X8_at tw_462 hf (fun _ h => M_X8_at_12 G l kp h) ⟨Nat.le_of_ble_eq_true rfl, Nat.le_of_ble_eq_true rfl⟩ (xce_12 G kp _ _) rfl rfl rfl (Nat.le_of_ble_eq_true rfl) hl.1 hR hS dX0_standsFor_7 ⟨Nat.le_refl _, Nat.le_refl _⟩ (fun v1 hf H locs hR hS => ?_)
  refine lv_iconst (v := 1) hC.1 hC.2.1 dX0_standsFor_10 (by decide) ?_
  refine x_ic_ne (tgt := 32) hC dX0_standsFor_11 (by decide) hf (fun hf => ?_) (fun hf => ?_)
  · refine lv_iconst (v := 0) hC.1 hC.2.1 dX0_standsFor_32 (by decide) ?_
    obtain ⟨h01, hf⟩ := xzc_some hf
    cases hf
    exact x_zret h01 hC hR hS dX0_standsFor_33
  · refine lv_aload_n hC.1 hC.2.1 dX0_standsFor_14 rfl (lv_at hl 0 rfl) ?_
    refine x_get (v := .ref (xz G + 12)) hC xf_X0_16 (xce_11 G kp _ _) rfl hR dX0_standsFor_15 ?_
    refine lv_iload_n hC.1 hC.2.1 dX0_standsFor_18 rfl (lv_at hl 1 rfl) ?_
    refine lv_bipush (v := 6) hC.1 hC.2.1 dX0_standsFor_19 (by decide) ?_
    refine x_cvi00 (rest := []) hC xy_X8_at tw_462 hf (fun _ h => M_X8_at_12 G l kp h) ⟨Nat.le_of_ble_eq_true rfl, Nat.le_of_ble_eq_true rfl⟩ (xce_12 G kp _ _) rfl rfl rfl (Nat.le_of_ble_eq_true rfl) hl.1 hR hS dX0_standsFor_21 ⟨Nat.le_refl _, Nat.le_refl _⟩ (fun v2 hf H locs hR hS => ?_)
    refine lv_iload_n hC.1 hC.2.1 dX0_standsFor_24 rfl (lv_at hl 2 rfl) ?_
    refine x_ic_ne (tgt := 32) hC dX0_standsFor_25 (by decide) hf (fun hf => ?_) (fun hf => ?_)
    · refine lv_iconst (v := 0) hC.1 hC.2.1 dX0_standsFor_32 (by decide) ?_
      obtain ⟨h01, hf⟩ := xzc_some hf
      cases hf
      exact x_zret h01 hC hR hS dX0_standsFor_33
    · refine lv_iconst (v := 1) hC.1 hC.2.1 dX0_standsFor_28 (by decide) ?_
      refine lv_goto (tgt := 33) hC.1 hC.2.1 dX0_standsFor_29 (by decide) ?_
      obtain ⟨h01, hf⟩ := xzc_some hf
      cases hf
      exact x_zret h01 hC hR hS dX0_standsFor_33
set_option maxRecDepth 20000 in
theorem M_X7_worth (G : XG) (l : Launch) (kp : Bool) {I : xTI} {L : xTL} {x1 : Int32} {r : Int64} (hf : F_X7_worth I x1 = some r) : xMet G l yX7_worth cX7_worth 2 (some .long) 2 45 kp [.ref (xz G + 11), .int x1] I L (some (.long r)) I L := by
  refine xMet.ofW (by decide +kernel) (Nat.le_of_ble_eq_true rfl) ?_
  intro p e s m args below meth c hC H locs ls hR hS hl
  replace hC : xC G p s m args meth c cX7_worth 2 RX7 (some .long) := hC
  replace hl : lv_has ls 2 [(0, .ref (xz G + 11)), (1, .int x1)] := hl
  unfold F_X7_worth at hf
  refine lv_aload_n hC.1 hC.2.1 dX7_worth_0 rfl (lv_at hl 0 rfl) ?_
  refine lv_iload_n hC.1 hC.2.1 dX7_worth_1 rfl (lv_at hl 1 rfl) ?_
  refine lv_iconst (v := 3) hC.1 hC.2.1 dX7_worth_2 (by decide) ?_
  refine x_cvi00 (rest := []) hC xy_X0_at tw_1099 hf (fun _ h => M_X0_at G l kp h) ⟨Nat.le_of_ble_eq_true rfl, Nat.le_of_ble_eq_true rfl⟩ (xce_11 G kp _ _) rfl rfl rfl (Nat.le_of_ble_eq_true rfl) hl.1 hR hS dX7_worth_3 ⟨Nat.le_refl _, Nat.le_refl _⟩ (fun v1 hf H locs hR hS => ?_)
  refine lv_i2l hC.1 hC.2.1 dX7_worth_6 rfl ?_
  refine lv_aload_n hC.1 hC.2.1 dX7_worth_7 rfl (lv_at hl 0 rfl) ?_
  refine lv_iload_n hC.1 hC.2.1 dX7_worth_8 rfl (lv_at hl 1 rfl) ?_
  refine lv_iconst (v := 4) hC.1 hC.2.1 dX7_worth_9 (by decide) ?_
  refine x_cvi00 (rest := [.long (v1.toInt64)]) hC xy_X0_at tw_1099 hf (fun _ h => M_X0_at G l kp h) ⟨Nat.le_of_ble_eq_true rfl, Nat.le_of_ble_eq_true rfl⟩ (xce_11 G kp _ _) rfl rfl rfl (Nat.le_of_ble_eq_true rfl) hl.1 hR hS dX7_worth_10 ⟨Nat.le_refl _, Nat.le_refl _⟩ (fun v2 hf H locs hR hS => ?_)
  refine lv_i2l hC.1 hC.2.1 dX7_worth_13 rfl ?_
  refine lv_lmul hC.1 hC.2.1 dX7_worth_14 ?_
  cases hf
  exact x_lret hC hR hS dX7_worth_15
set_option maxRecDepth 20000 in
theorem M_X7_failsToPay (G : XG) (l : Launch) (kp : Bool) {I : xTI} {L : xTL} {x2 : Int32} {r : Int32} {rI : xTI} {rL : xTL} (hf : F_X7_failsToPay I L x2 = some (r, rI, rL)) : xMet G l yX7_failsToPay cX7_failsToPay 7 (some .boolean) 3 66 kp [.ref (xz G + 46), .ref (xz G + 11), .int x2] I L (some (.int r)) rI rL := by
  refine xMet.ofW (by decide +kernel) (Nat.le_of_ble_eq_true rfl) ?_
  intro p e s m args below meth c hC H locs ls hR hS hl
  replace hC : xC G p s m args meth c cX7_failsToPay 7 RX7 (some .boolean) := hC
  replace hl : lv_has ls 7 [(0, .ref (xz G + 46)), (1, .ref (xz G + 11)), (2, .int x2)] := hl
  unfold F_X7_failsToPay at hf
  refine lv_aload_n hC.1 hC.2.1 dX7_failsToPay_0 rfl (lv_at hl 1 rfl) ?_
  refine lv_iload_n hC.1 hC.2.1 dX7_failsToPay_1 rfl (lv_at hl 2 rfl) ?_
  refine lv_iconst (v := 0) hC.1 hC.2.1 dX7_failsToPay_2 (by decide) ?_
  refine x_cvi00 (rest := []) hC xy_X0_at tw_1099 hf (fun _ h => M_X0_at G l kp h) ⟨Nat.le_of_ble_eq_true rfl, Nat.le_of_ble_eq_true rfl⟩ (xce_11 G kp _ _) rfl rfl rfl (Nat.le_of_ble_eq_true rfl) hl.1 hR hS dX7_failsToPay_3 ⟨Nat.le_refl _, Nat.le_refl _⟩ (fun v1 hf H locs hR hS => ?_)
  refine lv_istore_n (lv' := [(3, .int v1), (0, .ref (xz G + 46)), (1, .ref (xz G + 11)), (2, .int x2)]) hC.1 hC.2.1 dX7_failsToPay_6 rfl hl (Nat.le_of_ble_eq_true rfl) rfl (fun ls hl => ?_)
  refine lv_aload_n hC.1 hC.2.1 dX7_failsToPay_7 rfl (lv_at hl 2 rfl) ?_
  refine lv_iload_n hC.1 hC.2.1 dX7_failsToPay_8 rfl (lv_at hl 3 rfl) ?_
  refine lv_iconst (v := 1) hC.1 hC.2.1 dX7_failsToPay_9 (by decide) ?_
  refine x_cvi00 (rest := []) hC xy_X0_at tw_1099 hf (fun _ h => M_X0_at G l kp h) ⟨Nat.le_of_ble_eq_true rfl, Nat.le_of_ble_eq_true rfl⟩ (xce_11 G kp _ _) rfl rfl rfl (Nat.le_of_ble_eq_true rfl) hl.1 hR hS dX7_failsToPay_10 ⟨Nat.le_refl _, Nat.le_refl _⟩ (fun v2 hf H locs hR hS => ?_)
  refine lv_istore (lv' := [(4, .int v2), (3, .int v1), (0, .ref (xz G + 46)), (1, .ref (xz G + 11)), (2, .int x2)]) hC.1 hC.2.1 dX7_failsToPay_13 hl (Nat.le_of_ble_eq_true rfl) rfl (fun ls hl => ?_)
  refine lv_aload_n hC.1 hC.2.1 dX7_failsToPay_15 rfl (lv_at hl 2 rfl) ?_
  refine x_getI hC xf_X7_123 (xce_46 G kp _ _) rfl hR dX7_failsToPay_16 hf (fun v3 hf => ?_)
  refine lv_iload_n hC.1 hC.2.1 dX7_failsToPay_19 rfl (lv_at hl 1 rfl) ?_
  refine lv_ishr hC.1 hC.2.1 dX7_failsToPay_20 ?_
  refine lv_iconst (v := 1) hC.1 hC.2.1 dX7_failsToPay_21 (by decide) ?_
  refine lv_iand hC.1 hC.2.1 dX7_failsToPay_22 ?_
  refine x_if_ne (tgt := 38) hC dX7_failsToPay_23 (by decide) hf (fun hf => ?_) (fun hf => ?_)
  · refine lv_iconst (v := 0) hC.1 hC.2.1 dX7_failsToPay_38 (by decide) ?_
    obtain ⟨h01, hf⟩ := xzc_some hf
    cases hf
    exact x_zret h01 hC hR hS dX7_failsToPay_39
  · refine lv_aload_n hC.1 hC.2.1 dX7_failsToPay_26 rfl (lv_at hl 2 rfl) ?_
    refine x_getI hC xf_X7_123 (xce_46 G kp _ _) rfl hR dX7_failsToPay_27 hf (fun v4 hf => ?_)
    refine lv_iload hC.1 hC.2.1 dX7_failsToPay_30 (lv_at hl 0 rfl) ?_
    refine lv_ishr hC.1 hC.2.1 dX7_failsToPay_32 ?_
    refine lv_iconst (v := 1) hC.1 hC.2.1 dX7_failsToPay_33 (by decide) ?_
    refine lv_iand hC.1 hC.2.1 dX7_failsToPay_34 ?_
    refine x_if_eq (tgt := 40) hC dX7_failsToPay_35 (by decide) hf (fun hf => ?_) (fun hf => ?_)
    · refine lv_aload_n hC.1 hC.2.1 dX7_failsToPay_40 rfl (lv_at hl 3 rfl) ?_
      refine lv_iload_n hC.1 hC.2.1 dX7_failsToPay_41 rfl (lv_at hl 4 rfl) ?_
      refine x_csl00 (rest := []) hC xy_X7_worth tw_1104 hf (fun _ h => M_X7_worth G l kp h) ⟨Nat.le_of_ble_eq_true rfl, Nat.le_of_ble_eq_true rfl⟩ rfl rfl (Nat.le_of_ble_eq_true rfl) hl.1 hR hS dX7_failsToPay_42 ⟨Nat.le_refl _, Nat.le_refl _⟩ (fun v5 hf H locs hR hS => ?_)
      refine lv_lstore (lv' := [(5, .long v5), (4, .int v2), (3, .int v1), (0, .ref (xz G + 46)), (1, .ref (xz G + 11)), (2, .int x2)]) hC.1 hC.2.1 dX7_failsToPay_45 hl (Nat.le_of_ble_eq_true rfl) rfl (fun ls hl => ?_)
      refine lv_aload_n hC.1 hC.2.1 dX7_failsToPay_47 rfl (lv_at hl 3 rfl) ?_
      refine x_get (v := .ref (xz G + 54)) hC xf_X7_34 (xce_46 G kp _ _) rfl hR dX7_failsToPay_48 ?_
      refine lv_iload hC.1 hC.2.1 dX7_failsToPay_51 (lv_at hl 1 rfl) ?_
      refine x_lal hC (xce_54 G kp _ _) hR dX7_failsToPay_53 hf (fun v6 hf => ?_)
      refine lv_lload hC.1 hC.2.1 dX7_failsToPay_54 (lv_at hl 0 rfl) ?_
      refine W.lcmp hC.1 hC.2.1 dX7_failsToPay_56 ?_
      refine x_if_ge (tgt := 75) hC dX7_failsToPay_57 (by decide) hf (fun hf => ?_) (fun hf => ?_)
      · refine lv_aload_n hC.1 hC.2.1 dX7_failsToPay_75 rfl (lv_at hl 3 rfl) ?_
        refine x_get (v := .ref (xz G + 54)) hC xf_X7_34 (xce_46 G kp _ _) rfl hR dX7_failsToPay_76 ?_
        refine lv_iload hC.1 hC.2.1 dX7_failsToPay_79 (lv_at hl 1 rfl) ?_
        refine lv_dup2_11 hC.1 hC.2.1 dX7_failsToPay_81 rfl rfl ?_
        refine x_lal hC (xce_54 G kp _ _) hR dX7_failsToPay_82 hf (fun v7 hf => ?_)
        refine lv_lload hC.1 hC.2.1 dX7_failsToPay_83 (lv_at hl 0 rfl) ?_
        refine lv_lsub hC.1 hC.2.1 dX7_failsToPay_85 ?_
        refine x_las hC (fun f => xce_54 G kp _ f) hR hS dX7_failsToPay_86 hf (fun L8 hf H locs hR hS => ?_)
        refine lv_aload_n hC.1 hC.2.1 dX7_failsToPay_87 rfl (lv_at hl 3 rfl) ?_
        refine x_get (v := .ref (xz G + 54)) hC xf_X7_34 (xce_46 G kp _ _) rfl hR dX7_failsToPay_88 ?_
        refine lv_iload_n hC.1 hC.2.1 dX7_failsToPay_91 rfl (lv_at hl 2 rfl) ?_
        refine lv_dup2_11 hC.1 hC.2.1 dX7_failsToPay_92 rfl rfl ?_
        refine x_lal hC (xce_54 G kp _ _) hR dX7_failsToPay_93 hf (fun v9 hf => ?_)
        refine lv_lload hC.1 hC.2.1 dX7_failsToPay_94 (lv_at hl 0 rfl) ?_
        refine lv_ladd hC.1 hC.2.1 dX7_failsToPay_96 ?_
        refine x_las hC (fun f => xce_54 G kp _ f) hR hS dX7_failsToPay_97 hf (fun L10 hf H locs hR hS => ?_)
        refine lv_iconst (v := 0) hC.1 hC.2.1 dX7_failsToPay_98 (by decide) ?_
        obtain ⟨h01, hf⟩ := xzc_some hf
        cases hf
        exact x_zret h01 hC hR hS dX7_failsToPay_99
      · refine lv_aload_n hC.1 hC.2.1 dX7_failsToPay_60 rfl (lv_at hl 3 rfl) ?_
        refine lv_dup hC.1 hC.2.1 dX7_failsToPay_61 rfl ?_
        refine x_getI hC xf_X7_123 (xce_46 G kp _ _) rfl hR dX7_failsToPay_62 hf (fun v11 hf => ?_)
        refine lv_iconst (v := 1) hC.1 hC.2.1 dX7_failsToPay_65 (by decide) ?_
        refine lv_iload hC.1 hC.2.1 dX7_failsToPay_66 (lv_at hl 1 rfl) ?_
        refine lv_ishl hC.1 hC.2.1 dX7_failsToPay_68 ?_
        refine lv_ior hC.1 hC.2.1 dX7_failsToPay_69 ?_
        refine x_putI hC xf_X7_123 xp_7_8 (fun f => xce_46 G kp f _) rfl (Nat.le_of_ble_eq_true rfl) hR hS dX7_failsToPay_70 hf (fun I12 hf H locs hR hS => ?_)
        refine lv_iconst (v := 1) hC.1 hC.2.1 dX7_failsToPay_73 (by decide) ?_
        obtain ⟨h01, hf⟩ := xzc_some hf
        cases hf
        exact x_zret h01 hC hR hS dX7_failsToPay_74
    · refine lv_iconst (v := 0) hC.1 hC.2.1 dX7_failsToPay_38 (by decide) ?_
      obtain ⟨h01, hf⟩ := xzc_some hf
      cases hf
      exact x_zret h01 hC hR hS dX7_failsToPay_39
set_option maxRecDepth 20000 in
theorem W_X0_inState_l4 {G : XG} {l : Launch} {kp : Bool} {p : Program} {e : Env} {s : State} {m : MethodId} {args : Array Value} {below : List Frame} {meth : Method} {c : Code} (hC : xC G p s m args meth c cX0_inState 4 RX0 (some .int)) (N : Nat) {I : xTI} {L : xTL} {r : Int32} {x1 : Int32} : ∀ (n : Nat) (x2 : Int32) (x3 : Int32) , xlp (F_X0_inState_b4 N I x1 ) n (x2, x3) = some r → ∀ (H : Heap) (locs : List Loc) (ls : Array Slot), xRep G kp I L H → xS G s.heap H locs → lv_has ls 4 [(0, .ref (xz G + 11)), (1, .int x1), (2, .int x2), (3, .int x3)] → W p l e (xrm 1 23) s m args below meth c H locs 0 0 (xMQ G kp below args s (some (.int r)) I L) (F0 m 4 ls []) := by
  intro n
  induction n with
  | zero =>
    intro x2 x3 hf
    cases hf
  | succ n hk4 =>
    intro x2 x3 hf H locs ls hR hS hl
    replace hf : F_X0_inState_c4 N I x1 x2 x3 (xlp (F_X0_inState_b4 N I x1 ) n) = some r := hf
    unfold F_X0_inState_c4 at hf
    refine lv_iload_n hC.1 hC.2.1 dX0_inState_4 rfl (lv_at hl 3 rfl) ?_
    refine lv_bipush (v := 60) hC.1 hC.2.1 dX0_inState_5 (by decide) ?_
    refine x_ic_ge (tgt := 33) hC dX0_inState_7 (by decide) hf (fun hf => ?_) (fun hf => ?_)
    · refine lv_iload_n hC.1 hC.2.1 dX0_inState_33 rfl (lv_at hl 2 rfl) ?_
      cases hf
      exact x_iret hC hR hS dX0_inState_34
    · refine lv_aload_n hC.1 hC.2.1 dX0_inState_10 rfl (lv_at hl 0 rfl) ?_
      refine x_get (v := .ref (xz G + 12)) hC xf_X0_16 (xce_11 G kp _ _) rfl hR dX0_inState_11 ?_
      refine lv_iload_n hC.1 hC.2.1 dX0_inState_14 rfl (lv_at hl 3 rfl) ?_
      refine lv_bipush (v := 7) hC.1 hC.2.1 dX0_inState_15 (by decide) ?_
      refine x_cvi00 (rest := []) hC xy_X8_at tw_462 hf (fun _ h => M_X8_at_12 G l kp h) ⟨Nat.le_of_ble_eq_true rfl, Nat.le_of_ble_eq_true rfl⟩ (xce_12 G kp _ _) rfl rfl rfl (Nat.le_of_ble_eq_true rfl) hl.1 hR hS dX0_inState_17 ⟨Nat.le_refl _, Nat.le_refl _⟩ (fun v1 hf H locs hR hS => ?_)
      refine lv_iload_n hC.1 hC.2.1 dX0_inState_20 rfl (lv_at hl 1 rfl) ?_
      refine x_ic_ne (tgt := 27) hC dX0_inState_21 (by decide) hf (fun hf => ?_) (fun hf => ?_)
      · refine x_iinc (d := 1) (lv' := fun y2 => [(3, .int y2), (0, .ref (xz G + 11)), (1, .int x1), (2, .int x2)]) (k := 3) hC hl dX0_inState_27 rfl (by decide) (Nat.le_of_ble_eq_true rfl) hf (fun _ => rfl) (fun y2 hf ls hl => ?_)
        refine lv_goto (tgt := 4) hC.1 hC.2.1 dX0_inState_30 (by decide) ?_
        exact hk4 x2 y2 hf _ _ _ hR hS (lv_sub hl [1, 2, 3, 0] rfl)
      · refine x_iinc (d := 1) (lv' := fun y3 => [(2, .int y3), (0, .ref (xz G + 11)), (1, .int x1), (3, .int x3)]) (k := 2) hC hl dX0_inState_24 rfl (by decide) (Nat.le_of_ble_eq_true rfl) hf (fun _ => rfl) (fun y3 hf ls hl => ?_)
        refine x_iinc (d := 1) (lv' := fun y4 => [(3, .int y4), (2, .int y3), (0, .ref (xz G + 11)), (1, .int x1)]) (k := 3) hC hl dX0_inState_27 rfl (by decide) (Nat.le_of_ble_eq_true rfl) hf (fun _ => rfl) (fun y4 hf ls hl => ?_)
        refine lv_goto (tgt := 4) hC.1 hC.2.1 dX0_inState_30 (by decide) ?_
        exact hk4 y3 y4 hf _ _ _ hR hS (lv_sub hl [2, 3, 1, 0] rfl)
set_option maxRecDepth 20000 in
theorem M_X0_inState (G : XG) (l : Launch) (kp : Bool) (N : Nat) {I : xTI} {L : xTL} {x1 : Int32} {r : Int32} (hf : F_X0_inState N I x1 = some r) : xMet G l yX0_inState cX0_inState 4 (some .int) 1 23 kp [.ref (xz G + 11), .int x1] I L (some (.int r)) I L := by
  refine xMet.ofW (by decide +kernel) (Nat.le_of_ble_eq_true rfl) ?_
  intro p e s m args below meth c hC H locs ls hR hS hl
  replace hC : xC G p s m args meth c cX0_inState 4 RX0 (some .int) := hC
  replace hl : lv_has ls 4 [(0, .ref (xz G + 11)), (1, .int x1)] := hl
  unfold F_X0_inState at hf
  refine lv_iconst (v := 0) hC.1 hC.2.1 dX0_inState_0 (by decide) ?_
  refine lv_istore_n (lv' := [(2, .int 0), (0, .ref (xz G + 11)), (1, .int x1)]) hC.1 hC.2.1 dX0_inState_1 rfl hl (Nat.le_of_ble_eq_true rfl) rfl (fun ls hl => ?_)
  refine lv_iconst (v := 0) hC.1 hC.2.1 dX0_inState_2 (by decide) ?_
  refine lv_istore_n (lv' := [(3, .int 0), (2, .int 0), (0, .ref (xz G + 11)), (1, .int x1)]) hC.1 hC.2.1 dX0_inState_3 rfl hl (Nat.le_of_ble_eq_true rfl) rfl (fun ls hl => ?_)
  exact W_X0_inState_l4 hC N _ 0 0 hf _ _ _ hR hS (lv_sub hl [2, 3, 1, 0] rfl)
set_option maxRecDepth 20000 in
theorem M_X10_count (G : XG) (l : Launch) (kp : Bool) (N : Nat) {I : xTI} {L : xTL} {x1 : Int32} {r : Int32} {rI : xTI} (hf : F_X10_count N I x1 = some (r, rI)) : xMet G l yX10_count cX10_count 2 (some .int) 2 46 kp [.ref (xz G + 0), .int x1] I L (some (.int r)) rI L := by
  refine xMet.ofW (by decide +kernel) (Nat.le_of_ble_eq_true rfl) ?_
  intro p e s m args below meth c hC H locs ls hR hS hl
  replace hC : xC G p s m args meth c cX10_count 2 RX10 (some .int) := hC
  replace hl : lv_has ls 2 [(0, .ref (xz G + 0)), (1, .int x1)] := hl
  unfold F_X10_count at hf
  refine lv_iload_n hC.1 hC.2.1 dX10_count_0 rfl (lv_at hl 1 rfl) ?_
  by_cases hc : x1 = 0
  · rw [if_pos hc] at hf
    refine x_tsi (tgt := 80) hC dX10_count_1 hc (by decide +kernel) ?_
    refine lv_aload_n hC.1 hC.2.1 dX10_count_80 rfl (lv_at hl 0 rfl) ?_
    refine x_get (v := .ref (xz G + 1)) hC xf_X10_10 (xce_0 G kp _ _) rfl hR dX10_count_81 ?_
    refine x_getI hC xf_X10_164 (xce_1 G kp _ _) rfl hR dX10_count_84 hf (fun v1 hf => ?_)
    cases hf
    exact x_iret hC hR hS dX10_count_87
  rw [if_neg hc] at hf
  have hc0 := hc
  clear hc
  by_cases hc : x1 = 1
  · rw [if_pos hc] at hf
    refine x_tsi (tgt := 88) hC dX10_count_1 hc (by decide +kernel) ?_
    refine lv_aload_n hC.1 hC.2.1 dX10_count_88 rfl (lv_at hl 0 rfl) ?_
    refine x_get (v := .ref (xz G + 1)) hC xf_X10_10 (xce_0 G kp _ _) rfl hR dX10_count_89 ?_
    refine x_cvi00 (rest := []) hC xy_X1_place tw_576 hf (fun _ h => M_X1_place G l kp h) ⟨Nat.le_of_ble_eq_true rfl, Nat.le_of_ble_eq_true rfl⟩ (xce_1 G kp _ _) rfl rfl rfl (Nat.le_of_ble_eq_true rfl) hl.1 hR hS dX10_count_92 ⟨Nat.le_refl _, Nat.le_refl _⟩ (fun v2 hf H locs hR hS => ?_)
    cases hf
    exact x_iret hC hR hS dX10_count_95
  rw [if_neg hc] at hf
  have hc1 := hc
  clear hc
  by_cases hc : x1 = 2
  · rw [if_pos hc] at hf
    refine x_tsi (tgt := 96) hC dX10_count_1 hc (by decide +kernel) ?_
    refine lv_aload_n hC.1 hC.2.1 dX10_count_96 rfl (lv_at hl 0 rfl) ?_
    refine x_get (v := .ref (xz G + 1)) hC xf_X10_10 (xce_0 G kp _ _) rfl hR dX10_count_97 ?_
    refine x_cvi00 (rest := []) hC xy_X1_account tw_486 hf (fun _ h => M_X1_account G l kp h) ⟨Nat.le_of_ble_eq_true rfl, Nat.le_of_ble_eq_true rfl⟩ (xce_1 G kp _ _) rfl rfl rfl (Nat.le_of_ble_eq_true rfl) hl.1 hR hS dX10_count_100 ⟨Nat.le_refl _, Nat.le_refl _⟩ (fun v3 hf H locs hR hS => ?_)
    cases hf
    exact x_iret hC hR hS dX10_count_103
  rw [if_neg hc] at hf
  have hc2 := hc
  clear hc
  by_cases hc : x1 = 3
  · rw [if_pos hc] at hf
    refine x_tsi (tgt := 104) hC dX10_count_1 hc (by decide +kernel) ?_
    refine lv_aload_n hC.1 hC.2.1 dX10_count_104 rfl (lv_at hl 0 rfl) ?_
    refine x_get (v := .ref (xz G + 1)) hC xf_X10_10 (xce_0 G kp _ _) rfl hR dX10_count_105 ?_
    refine x_get (v := .ref (xz G + 3)) hC xf_X10_74 (xce_1 G kp _ _) rfl hR dX10_count_108 ?_
    refine x_getI hC xf_X10_78 (xce_3 G kp _ _) rfl hR dX10_count_111 hf (fun v4 hf => ?_)
    cases hf
    exact x_iret hC hR hS dX10_count_114
  rw [if_neg hc] at hf
  have hc3 := hc
  clear hc
  by_cases hc : x1 = 4
  · rw [if_pos hc] at hf
    refine x_tsi (tgt := 115) hC dX10_count_1 hc (by decide +kernel) ?_
    refine lv_aload_n hC.1 hC.2.1 dX10_count_115 rfl (lv_at hl 0 rfl) ?_
    refine x_get (v := .ref (xz G + 1)) hC xf_X10_10 (xce_0 G kp _ _) rfl hR dX10_count_116 ?_
    refine x_getI hC xf_X10_87 (xce_1 G kp _ _) rfl hR dX10_count_119 hf (fun v5 hf => ?_)
    cases hf
    exact x_iret hC hR hS dX10_count_122
  rw [if_neg hc] at hf
  have hc4 := hc
  clear hc
  by_cases hc : x1 = 5
  · rw [if_pos hc] at hf
    refine x_tsi (tgt := 123) hC dX10_count_1 hc (by decide +kernel) ?_
    refine lv_aload_n hC.1 hC.2.1 dX10_count_123 rfl (lv_at hl 0 rfl) ?_
    refine x_get (v := .ref (xz G + 1)) hC xf_X10_10 (xce_0 G kp _ _) rfl hR dX10_count_124 ?_
    refine x_get (v := .ref (xz G + 11)) hC xf_X10_119 (xce_1 G kp _ _) rfl hR dX10_count_127 ?_
    refine lv_iload_n hC.1 hC.2.1 dX10_count_130 rfl (lv_at hl 1 rfl) ?_
    refine lv_iconst (v := 5) hC.1 hC.2.1 dX10_count_131 (by decide) ?_
    refine lv_isub hC.1 hC.2.1 dX10_count_132 ?_
    refine x_cvi00 (rest := []) hC xy_X0_inState tw_1119 hf (fun _ h => M_X0_inState G l kp N h) ⟨Nat.le_of_ble_eq_true rfl, Nat.le_of_ble_eq_true rfl⟩ (xce_11 G kp _ _) rfl rfl rfl (Nat.le_of_ble_eq_true rfl) hl.1 hR hS dX10_count_133 ⟨Nat.le_refl _, Nat.le_refl _⟩ (fun v6 hf H locs hR hS => ?_)
    cases hf
    exact x_iret hC hR hS dX10_count_136
  rw [if_neg hc] at hf
  have hc5 := hc
  clear hc
  by_cases hc : x1 = 6
  · rw [if_pos hc] at hf
    refine x_tsi (tgt := 123) hC dX10_count_1 hc (by decide +kernel) ?_
    refine lv_aload_n hC.1 hC.2.1 dX10_count_123 rfl (lv_at hl 0 rfl) ?_
    refine x_get (v := .ref (xz G + 1)) hC xf_X10_10 (xce_0 G kp _ _) rfl hR dX10_count_124 ?_
    refine x_get (v := .ref (xz G + 11)) hC xf_X10_119 (xce_1 G kp _ _) rfl hR dX10_count_127 ?_
    refine lv_iload_n hC.1 hC.2.1 dX10_count_130 rfl (lv_at hl 1 rfl) ?_
    refine lv_iconst (v := 5) hC.1 hC.2.1 dX10_count_131 (by decide) ?_
    refine lv_isub hC.1 hC.2.1 dX10_count_132 ?_
    refine x_cvi00 (rest := []) hC xy_X0_inState tw_1119 hf (fun _ h => M_X0_inState G l kp N h) ⟨Nat.le_of_ble_eq_true rfl, Nat.le_of_ble_eq_true rfl⟩ (xce_11 G kp _ _) rfl rfl rfl (Nat.le_of_ble_eq_true rfl) hl.1 hR hS dX10_count_133 ⟨Nat.le_refl _, Nat.le_refl _⟩ (fun v7 hf H locs hR hS => ?_)
    cases hf
    exact x_iret hC hR hS dX10_count_136
  rw [if_neg hc] at hf
  have hc6 := hc
  clear hc
  by_cases hc : x1 = 7
  · rw [if_pos hc] at hf
    refine x_tsi (tgt := 123) hC dX10_count_1 hc (by decide +kernel) ?_
    refine lv_aload_n hC.1 hC.2.1 dX10_count_123 rfl (lv_at hl 0 rfl) ?_
    refine x_get (v := .ref (xz G + 1)) hC xf_X10_10 (xce_0 G kp _ _) rfl hR dX10_count_124 ?_
    refine x_get (v := .ref (xz G + 11)) hC xf_X10_119 (xce_1 G kp _ _) rfl hR dX10_count_127 ?_
    refine lv_iload_n hC.1 hC.2.1 dX10_count_130 rfl (lv_at hl 1 rfl) ?_
    refine lv_iconst (v := 5) hC.1 hC.2.1 dX10_count_131 (by decide) ?_
    refine lv_isub hC.1 hC.2.1 dX10_count_132 ?_
    refine x_cvi00 (rest := []) hC xy_X0_inState tw_1119 hf (fun _ h => M_X0_inState G l kp N h) ⟨Nat.le_of_ble_eq_true rfl, Nat.le_of_ble_eq_true rfl⟩ (xce_11 G kp _ _) rfl rfl rfl (Nat.le_of_ble_eq_true rfl) hl.1 hR hS dX10_count_133 ⟨Nat.le_refl _, Nat.le_refl _⟩ (fun v8 hf H locs hR hS => ?_)
    cases hf
    exact x_iret hC hR hS dX10_count_136
  rw [if_neg hc] at hf
  have hc7 := hc
  clear hc
  by_cases hc : x1 = 8
  · rw [if_pos hc] at hf
    refine x_tsi (tgt := 123) hC dX10_count_1 hc (by decide +kernel) ?_
    refine lv_aload_n hC.1 hC.2.1 dX10_count_123 rfl (lv_at hl 0 rfl) ?_
    refine x_get (v := .ref (xz G + 1)) hC xf_X10_10 (xce_0 G kp _ _) rfl hR dX10_count_124 ?_
    refine x_get (v := .ref (xz G + 11)) hC xf_X10_119 (xce_1 G kp _ _) rfl hR dX10_count_127 ?_
    refine lv_iload_n hC.1 hC.2.1 dX10_count_130 rfl (lv_at hl 1 rfl) ?_
    refine lv_iconst (v := 5) hC.1 hC.2.1 dX10_count_131 (by decide) ?_
    refine lv_isub hC.1 hC.2.1 dX10_count_132 ?_
    refine x_cvi00 (rest := []) hC xy_X0_inState tw_1119 hf (fun _ h => M_X0_inState G l kp N h) ⟨Nat.le_of_ble_eq_true rfl, Nat.le_of_ble_eq_true rfl⟩ (xce_11 G kp _ _) rfl rfl rfl (Nat.le_of_ble_eq_true rfl) hl.1 hR hS dX10_count_133 ⟨Nat.le_refl _, Nat.le_refl _⟩ (fun v9 hf H locs hR hS => ?_)
    cases hf
    exact x_iret hC hR hS dX10_count_136
  rw [if_neg hc] at hf
  have hc8 := hc
  clear hc
  by_cases hc : x1 = 9
  · rw [if_pos hc] at hf
    refine x_tsi (tgt := 137) hC dX10_count_1 hc (by decide +kernel) ?_
    refine lv_aload_n hC.1 hC.2.1 dX10_count_137 rfl (lv_at hl 0 rfl) ?_
    refine x_get (v := .ref (xz G + 1)) hC xf_X10_10 (xce_0 G kp _ _) rfl hR dX10_count_138 ?_
    refine x_get (v := .ref (xz G + 20)) hC xf_X10_213 (xce_1 G kp _ _) rfl hR dX10_count_141 ?_
    refine x_getI hC xf_X10_341 (xce_20 G kp _ _) rfl hR dX10_count_144 hf (fun v10 hf => ?_)
    cases hf
    exact x_iret hC hR hS dX10_count_147
  rw [if_neg hc] at hf
  have hc9 := hc
  clear hc
  by_cases hc : x1 = 10
  · rw [if_pos hc] at hf
    refine x_tsi (tgt := 148) hC dX10_count_1 hc (by decide +kernel) ?_
    refine lv_aload_n hC.1 hC.2.1 dX10_count_148 rfl (lv_at hl 0 rfl) ?_
    refine x_get (v := .ref (xz G + 1)) hC xf_X10_10 (xce_0 G kp _ _) rfl hR dX10_count_149 ?_
    refine x_get (v := .ref (xz G + 14)) hC xf_X10_196 (xce_1 G kp _ _) rfl hR dX10_count_152 ?_
    refine x_get (v := .ref (xz G + 15)) hC xf_X10_248 (xce_14 G kp _ _) rfl hR dX10_count_155 ?_
    refine x_getI hC xf_X10_341 (xce_15 G kp _ _) rfl hR dX10_count_158 hf (fun v11 hf => ?_)
    cases hf
    exact x_iret hC hR hS dX10_count_161
  rw [if_neg hc] at hf
  have hc10 := hc
  clear hc
  by_cases hc : x1 = 11
  · rw [if_pos hc] at hf
    refine x_tsi (tgt := 162) hC dX10_count_1 hc (by decide +kernel) ?_
    refine lv_aload_n hC.1 hC.2.1 dX10_count_162 rfl (lv_at hl 0 rfl) ?_
    refine x_get (v := .ref (xz G + 29)) hC xf_X10_22 (xce_0 G kp _ _) rfl hR dX10_count_163 ?_
    refine x_getI hC xf_X10_244 (xce_29 G kp _ _) rfl hR dX10_count_166 hf (fun v12 hf => ?_)
    cases hf
    exact x_iret hC hR hS dX10_count_169
  rw [if_neg hc] at hf
  have hc11 := hc
  clear hc
  by_cases hc : x1 = 12
  · rw [if_pos hc] at hf
    refine x_tsi (tgt := 170) hC dX10_count_1 hc (by decide +kernel) ?_
    refine lv_aload_n hC.1 hC.2.1 dX10_count_170 rfl (lv_at hl 0 rfl) ?_
    refine x_get (v := .ref (xz G + 1)) hC xf_X10_10 (xce_0 G kp _ _) rfl hR dX10_count_171 ?_
    refine x_get (v := .ref (xz G + 3)) hC xf_X10_74 (xce_1 G kp _ _) rfl hR dX10_count_174 ?_
    refine x_getI hC xf_X10_78 (xce_3 G kp _ _) rfl hR dX10_count_177 hf (fun v13 hf => ?_)
    refine lv_aload_n hC.1 hC.2.1 dX10_count_180 rfl (lv_at hl 0 rfl) ?_
    refine x_get (v := .ref (xz G + 1)) hC xf_X10_10 (xce_0 G kp _ _) rfl hR dX10_count_181 ?_
    refine x_get (v := .ref (xz G + 3)) hC xf_X10_74 (xce_1 G kp _ _) rfl hR dX10_count_184 ?_
    refine x_cvi00 (rest := [.int v13]) hC xy_X3_upCount tw_1123 hf (fun _ h => M_X3_upCount G l kp N h) ⟨Nat.le_of_ble_eq_true rfl, Nat.le_of_ble_eq_true rfl⟩ (xce_3 G kp _ _) rfl rfl rfl (Nat.le_of_ble_eq_true rfl) hl.1 hR hS dX10_count_187 ⟨Nat.le_refl _, Nat.le_refl _⟩ (fun v14 hf H locs hR hS => ?_)
    refine lv_isub hC.1 hC.2.1 dX10_count_190 ?_
    cases hf
    exact x_iret hC hR hS dX10_count_191
  rw [if_neg hc] at hf
  have hc12 := hc
  clear hc
  by_cases hc : x1 = 13
  · rw [if_pos hc] at hf
    refine x_tsi (tgt := 192) hC dX10_count_1 hc (by decide +kernel) ?_
    refine lv_aload_n hC.1 hC.2.1 dX10_count_192 rfl (lv_at hl 0 rfl) ?_
    refine x_get (v := .ref (xz G + 1)) hC xf_X10_10 (xce_0 G kp _ _) rfl hR dX10_count_193 ?_
    refine x_get (v := .ref (xz G + 24)) hC xf_X10_297 (xce_1 G kp _ _) rfl hR dX10_count_196 ?_
    refine x_getI hC xf_X10_341 (xce_24 G kp _ _) rfl hR dX10_count_199 hf (fun v15 hf => ?_)
    cases hf
    exact x_iret hC hR hS dX10_count_202
  rw [if_neg hc] at hf
  have hc13 := hc
  clear hc
  by_cases hc : x1 = 14
  · rw [if_pos hc] at hf
    refine x_tsi (tgt := 203) hC dX10_count_1 hc (by decide +kernel) ?_
    refine lv_aload_n hC.1 hC.2.1 dX10_count_203 rfl (lv_at hl 0 rfl) ?_
    refine x_get (v := .ref (xz G + 1)) hC xf_X10_10 (xce_0 G kp _ _) rfl hR dX10_count_204 ?_
    refine x_get (v := .ref (xz G + 26)) hC xf_X10_300 (xce_1 G kp _ _) rfl hR dX10_count_207 ?_
    refine x_getI hC xf_X10_341 (xce_26 G kp _ _) rfl hR dX10_count_210 hf (fun v16 hf => ?_)
    cases hf
    exact x_iret hC hR hS dX10_count_213
  rw [if_neg hc] at hf
  have hc14 := hc
  clear hc
  by_cases hc : x1 = 15
  · rw [if_pos hc] at hf
    refine x_tsi (tgt := 214) hC dX10_count_1 hc (by decide +kernel) ?_
    refine lv_aload_n hC.1 hC.2.1 dX10_count_214 rfl (lv_at hl 0 rfl) ?_
    refine x_get (v := .ref (xz G + 1)) hC xf_X10_10 (xce_0 G kp _ _) rfl hR dX10_count_215 ?_
    refine x_get (v := .ref (xz G + 22)) hC xf_X10_238 (xce_1 G kp _ _) rfl hR dX10_count_218 ?_
    refine x_getI hC xf_X10_341 (xce_22 G kp _ _) rfl hR dX10_count_221 hf (fun v17 hf => ?_)
    cases hf
    exact x_iret hC hR hS dX10_count_224
  rw [if_neg hc] at hf
  have hc15 := hc
  clear hc
  have e0 : (x1).toInt ≠ 0 := fun h => hc0 (Int32.toInt_inj.mp (h.trans (by decide)))
  have e1 : (x1).toInt ≠ 1 := fun h => hc1 (Int32.toInt_inj.mp (h.trans (by decide)))
  have e2 : (x1).toInt ≠ 2 := fun h => hc2 (Int32.toInt_inj.mp (h.trans (by decide)))
  have e3 : (x1).toInt ≠ 3 := fun h => hc3 (Int32.toInt_inj.mp (h.trans (by decide)))
  have e4 : (x1).toInt ≠ 4 := fun h => hc4 (Int32.toInt_inj.mp (h.trans (by decide)))
  have e5 : (x1).toInt ≠ 5 := fun h => hc5 (Int32.toInt_inj.mp (h.trans (by decide)))
  have e6 : (x1).toInt ≠ 6 := fun h => hc6 (Int32.toInt_inj.mp (h.trans (by decide)))
  have e7 : (x1).toInt ≠ 7 := fun h => hc7 (Int32.toInt_inj.mp (h.trans (by decide)))
  have e8 : (x1).toInt ≠ 8 := fun h => hc8 (Int32.toInt_inj.mp (h.trans (by decide)))
  have e9 : (x1).toInt ≠ 9 := fun h => hc9 (Int32.toInt_inj.mp (h.trans (by decide)))
  have e10 : (x1).toInt ≠ 10 := fun h => hc10 (Int32.toInt_inj.mp (h.trans (by decide)))
  have e11 : (x1).toInt ≠ 11 := fun h => hc11 (Int32.toInt_inj.mp (h.trans (by decide)))
  have e12 : (x1).toInt ≠ 12 := fun h => hc12 (Int32.toInt_inj.mp (h.trans (by decide)))
  have e13 : (x1).toInt ≠ 13 := fun h => hc13 (Int32.toInt_inj.mp (h.trans (by decide)))
  have e14 : (x1).toInt ≠ 14 := fun h => hc14 (Int32.toInt_inj.mp (h.trans (by decide)))
  have e15 : (x1).toInt ≠ 15 := fun h => hc15 (Int32.toInt_inj.mp (h.trans (by decide)))
  refine x_tso (tgt := 225) hC dX10_count_1 (by omega) (by decide) ?_
  refine lv_aload_n hC.1 hC.2.1 dX10_count_225 rfl (lv_at hl 0 rfl) ?_
  refine lv_bipush (v := (-7)) hC.1 hC.2.1 dX10_count_226 (by decide) ?_
  refine x_cvi10 (rest := []) hC xy_X10_refuse tw_411 hf (fun _ _ h => M_X10_refuse G l kp h) ⟨Nat.le_of_ble_eq_true rfl, Nat.le_of_ble_eq_true rfl⟩ (xce_0 G kp _ _) rfl rfl rfl (Nat.le_of_ble_eq_true rfl) hl.1 hR hS dX10_count_228 ⟨Nat.le_refl _, Nat.le_refl _⟩ (fun v18 I19 hf H locs hR hS => ?_)
  cases hf
  exact x_iret hC hR hS dX10_count_231
set_option maxRecDepth 20000 in
theorem W_J7_fill_53178_55_l5 {G : XG} {l : Launch} {kp : Bool} {p : Program} {e : Env} {s : State} {m : MethodId} {args : Array Value} {below : List Frame} {meth : Method} {c : Code} (hC : xC G p s m args meth c cJ7_fill_53178 4 RJ7 none) (N : Nat) {L : xTL} {rI : xTI} {x1 : Int32} {x3 : Int32} : ∀ (n : Nat) (x2 : Int32) (I : xTI) , xlp (F_J7_fill_53178_55_b5 N x1 x3 ) n (x2, I) = some rI → ∀ (H : Heap) (locs : List Loc) (ls : Array Slot), xRep G kp I L H → xS G s.heap H locs → lv_has ls 4 [(0, .ref (xz G + 55)), (1, .int x1), (2, .int x2), (3, .int x3)] → W p l e (xrm 0 0) s m args below meth c H locs 0 0 (xMQ G kp below args s none rI L) (F0 m 5 ls []) := by
  intro n
  induction n with
  | zero =>
    intro x2 I hf
    cases hf
  | succ n hk5 =>
    intro x2 I hf H locs ls hR hS hl
    replace hf : F_J7_fill_53178_55_c5 N x1 x3 x2 I (xlp (F_J7_fill_53178_55_b5 N x1 x3 ) n) = some rI := hf
    unfold F_J7_fill_53178_55_c5 at hf
    refine lv_iload_n hC.1 hC.2.1 dJ7_fill_53178_5 rfl (lv_at hl 2 rfl) ?_
    refine lv_iload_n hC.1 hC.2.1 dJ7_fill_53178_6 rfl (lv_at hl 3 rfl) ?_
    refine x_ic_ge (tgt := 20) hC dJ7_fill_53178_7 (by decide) hf (fun hf => ?_) (fun hf => ?_)
    · cases hf
      exact x_vret hC hR hS dJ7_fill_53178_20
    · refine lv_aload_n hC.1 hC.2.1 dJ7_fill_53178_10 rfl (lv_at hl 0 rfl) ?_
      refine lv_iload_n hC.1 hC.2.1 dJ7_fill_53178_11 rfl (lv_at hl 2 rfl) ?_
      refine lv_iload_n hC.1 hC.2.1 dJ7_fill_53178_12 rfl (lv_at hl 1 rfl) ?_
      refine x_ias hC (fun f => xce_55 G kp f _) hR hS dJ7_fill_53178_13 hf (fun I1 hf H locs hR hS => ?_)
      refine x_iinc (d := 1) (lv' := fun y2 => [(2, .int y2), (0, .ref (xz G + 55)), (1, .int x1), (3, .int x3)]) (k := 2) hC hl dJ7_fill_53178_14 rfl (by decide) (Nat.le_of_ble_eq_true rfl) hf (fun _ => rfl) (fun y2 hf ls hl => ?_)
      refine lv_goto (tgt := 5) hC.1 hC.2.1 dJ7_fill_53178_17 (by decide) ?_
      exact hk5 y2 I1 hf _ _ _ hR hS (lv_sub hl [1, 2, 0, 3] rfl)
set_option maxRecDepth 20000 in
theorem M_J7_fill_53178_55 (G : XG) (l : Launch) (kp : Bool) (N : Nat) {I : xTI} {L : xTL} {x1 : Int32} {rI : xTI} (hf : F_J7_fill_53178_55 N I x1 = some rI) : xMet G l yJ7_fill_53178 cJ7_fill_53178 4 none 0 0 kp [.ref (xz G + 55), .int x1] I L none rI L := by
  refine xMet.ofW (by decide +kernel) (Nat.le_of_ble_eq_true rfl) ?_
  intro p e s m args below meth c hC H locs ls hR hS hl
  replace hC : xC G p s m args meth c cJ7_fill_53178 4 RJ7 none := hC
  replace hl : lv_has ls 4 [(0, .ref (xz G + 55)), (1, .int x1)] := hl
  unfold F_J7_fill_53178_55 at hf
  refine lv_iconst (v := 0) hC.1 hC.2.1 dJ7_fill_53178_0 (by decide) ?_
  refine lv_istore_n (lv' := [(2, .int 0), (0, .ref (xz G + 55)), (1, .int x1)]) hC.1 hC.2.1 dJ7_fill_53178_1 rfl hl (Nat.le_of_ble_eq_true rfl) rfl (fun ls hl => ?_)
  refine lv_aload_n hC.1 hC.2.1 dJ7_fill_53178_2 rfl (lv_at hl 1 rfl) ?_
  refine x_alen_i (v := 60) hC (xce_55 G kp _ _) rfl hR dJ7_fill_53178_3 ?_
  refine lv_istore_n (lv' := [(3, .int 60), (2, .int 0), (0, .ref (xz G + 55)), (1, .int x1)]) hC.1 hC.2.1 dJ7_fill_53178_4 rfl hl (Nat.le_of_ble_eq_true rfl) rfl (fun ls hl => ?_)
  exact W_J7_fill_53178_55_l5 hC N _ 0 I hf _ _ _ hR hS (lv_sub hl [2, 3, 1, 0] rfl)
set_option maxRecDepth 20000 in
theorem M_X10_lay (G : XG) (l : Launch) (kp : Bool) (N : Nat) {I : xTI} {L : xTL} {x1 : Int32} {r : Int32} {rI : xTI} (hf : F_X10_lay N I x1 = some (r, rI)) : xMet G l yX10_lay cX10_lay 2 (some .int) 1 23 kp [.ref (xz G + 0), .int x1] I L (some (.int r)) rI L := by
  refine xMet.ofW (by decide +kernel) (Nat.le_of_ble_eq_true rfl) ?_
  intro p e s m args below meth c hC H locs ls hR hS hl
  replace hC : xC G p s m args meth c cX10_lay 2 RX10 (some .int) := hC
  replace hl : lv_has ls 2 [(0, .ref (xz G + 0)), (1, .int x1)] := hl
  unfold F_X10_lay at hf
  refine lv_iload_n hC.1 hC.2.1 dX10_lay_0 rfl (lv_at hl 1 rfl) ?_
  refine x_if_ge (tgt := 11) hC dX10_lay_1 (by decide) hf (fun hf => ?_) (fun hf => ?_)
  · refine lv_iload_n hC.1 hC.2.1 dX10_lay_11 rfl (lv_at hl 1 rfl) ?_
    refine lv_bipush (v := 60) hC.1 hC.2.1 dX10_lay_12 (by decide) ?_
    refine x_ic_le (tgt := 24) hC dX10_lay_14 (by decide) hf (fun hf => ?_) (fun hf => ?_)
    · refine lv_aload_n hC.1 hC.2.1 dX10_lay_24 rfl (lv_at hl 0 rfl) ?_
      refine x_get (v := .ref (xz G + 55)) hC xf_X10_54 (xce_0 G kp _ _) rfl hR dX10_lay_25 ?_
      refine lv_iconst (v := 0) hC.1 hC.2.1 dX10_lay_28 (by decide) ?_
      refine x_csv10 (rest := []) hC xy_J7_fill_53178 tw_1157 hf (fun _ h => M_J7_fill_53178_55 G l kp N h) ⟨Nat.le_of_ble_eq_true rfl, Nat.le_of_ble_eq_true rfl⟩ rfl rfl (Nat.le_of_ble_eq_true rfl) hl.1 hR hS dX10_lay_29 ⟨Nat.le_refl _, Nat.le_refl _⟩ (fun I1 hf H locs hR hS => ?_)
      refine lv_aload_n hC.1 hC.2.1 dX10_lay_32 rfl (lv_at hl 0 rfl) ?_
      refine lv_iload_n hC.1 hC.2.1 dX10_lay_33 rfl (lv_at hl 1 rfl) ?_
      refine x_putI hC xf_X10_58 xp_10_8 (fun f => xce_0 G kp f _) rfl (Nat.le_of_ble_eq_true rfl) hR hS dX10_lay_34 hf (fun I2 hf H locs hR hS => ?_)
      refine lv_iload_n hC.1 hC.2.1 dX10_lay_37 rfl (lv_at hl 1 rfl) ?_
      cases hf
      exact x_iret hC hR hS dX10_lay_38
    · refine lv_aload_n hC.1 hC.2.1 dX10_lay_17 rfl (lv_at hl 0 rfl) ?_
      refine lv_bipush (v := (-7)) hC.1 hC.2.1 dX10_lay_18 (by decide) ?_
      refine x_cvi10 (rest := []) hC xy_X10_refuse tw_411 hf (fun _ _ h => M_X10_refuse G l kp h) ⟨Nat.le_of_ble_eq_true rfl, Nat.le_of_ble_eq_true rfl⟩ (xce_0 G kp _ _) rfl rfl rfl (Nat.le_of_ble_eq_true rfl) hl.1 hR hS dX10_lay_20 ⟨Nat.le_refl _, Nat.le_refl _⟩ (fun v3 I4 hf H locs hR hS => ?_)
      cases hf
      exact x_iret hC hR hS dX10_lay_23
  · refine lv_aload_n hC.1 hC.2.1 dX10_lay_4 rfl (lv_at hl 0 rfl) ?_
    refine lv_bipush (v := (-4)) hC.1 hC.2.1 dX10_lay_5 (by decide) ?_
    refine x_cvi10 (rest := []) hC xy_X10_refuse tw_411 hf (fun _ _ h => M_X10_refuse G l kp h) ⟨Nat.le_of_ble_eq_true rfl, Nat.le_of_ble_eq_true rfl⟩ (xce_0 G kp _ _) rfl rfl rfl (Nat.le_of_ble_eq_true rfl) hl.1 hR hS dX10_lay_7 ⟨Nat.le_refl _, Nat.le_refl _⟩ (fun v5 I6 hf H locs hR hS => ?_)
    cases hf
    exact x_iret hC hR hS dX10_lay_10
set_option maxRecDepth 20000 in
theorem M_X10_set (G : XG) (l : Launch) (kp : Bool) {I : xTI} {L : xTL} {x1 : Int32} {x2 : Int32} {r : Int32} {rI : xTI} (hf : F_X10_set I x1 x2 = some (r, rI)) : xMet G l yX10_set cX10_set 4 (some .int) 2 42 kp [.ref (xz G + 0), .int x1, .int x2] I L (some (.int r)) rI L := by
  refine xMet.ofW (by decide +kernel) (Nat.le_of_ble_eq_true rfl) ?_
  intro p e s m args below meth c hC H locs ls hR hS hl
  replace hC : xC G p s m args meth c cX10_set 4 RX10 (some .int) := hC
  replace hl : lv_has ls 4 [(0, .ref (xz G + 0)), (1, .int x1), (2, .int x2)] := hl
  unfold F_X10_set at hf
  refine lv_aload_n hC.1 hC.2.1 dX10_set_0 rfl (lv_at hl 0 rfl) ?_
  refine x_getI hC xf_X10_58 (xce_0 G kp _ _) rfl hR dX10_set_1 hf (fun v1 hf => ?_)
  refine lv_iconst (v := (-1)) hC.1 hC.2.1 dX10_set_4 (by decide) ?_
  refine x_ic_ne (tgt := 15) hC dX10_set_5 (by decide) hf (fun hf => ?_) (fun hf => ?_)
  · refine lv_iload_n hC.1 hC.2.1 dX10_set_15 rfl (lv_at hl 1 rfl) ?_
    refine lv_iconst (v := 0) hC.1 hC.2.1 dX10_set_16 (by decide) ?_
    refine lv_aload_n hC.1 hC.2.1 dX10_set_17 rfl (lv_at hl 0 rfl) ?_
    refine x_getI hC xf_X10_58 (xce_0 G kp _ _) rfl hR dX10_set_18 hf (fun v2 hf => ?_)
    refine lv_iconst (v := 1) hC.1 hC.2.1 dX10_set_21 (by decide) ?_
    refine lv_isub hC.1 hC.2.1 dX10_set_22 ?_
    refine x_csi00 (rest := []) hC xy_X10_isWithin tw_408 hf (fun _ h => M_X10_isWithin G l kp h) ⟨Nat.le_of_ble_eq_true rfl, Nat.le_of_ble_eq_true rfl⟩ rfl rfl (Nat.le_of_ble_eq_true rfl) hl.1 hR hS dX10_set_23 ⟨Nat.le_refl _, Nat.le_refl _⟩ (fun v3 hf H locs hR hS => ?_)
    refine x_if_ne (tgt := 36) hC dX10_set_26 (by decide) hf (fun hf => ?_) (fun hf => ?_)
    · refine lv_aload_n hC.1 hC.2.1 dX10_set_36 rfl (lv_at hl 0 rfl) ?_
      refine x_get (v := .ref (xz G + 55)) hC xf_X10_54 (xce_0 G kp _ _) rfl hR dX10_set_37 ?_
      refine lv_iload_n hC.1 hC.2.1 dX10_set_40 rfl (lv_at hl 1 rfl) ?_
      refine x_ial hC (xce_55 G kp _ _) hR dX10_set_41 hf (fun v4 hf => ?_)
      refine lv_istore_n (lv' := [(3, .int v4), (0, .ref (xz G + 0)), (1, .int x1), (2, .int x2)]) hC.1 hC.2.1 dX10_set_42 rfl hl (Nat.le_of_ble_eq_true rfl) rfl (fun ls hl => ?_)
      refine lv_aload_n hC.1 hC.2.1 dX10_set_43 rfl (lv_at hl 1 rfl) ?_
      refine x_get (v := .ref (xz G + 55)) hC xf_X10_54 (xce_0 G kp _ _) rfl hR dX10_set_44 ?_
      refine lv_iload_n hC.1 hC.2.1 dX10_set_47 rfl (lv_at hl 2 rfl) ?_
      refine lv_iload_n hC.1 hC.2.1 dX10_set_48 rfl (lv_at hl 3 rfl) ?_
      refine x_ias hC (fun f => xce_55 G kp f _) hR hS dX10_set_49 hf (fun I5 hf H locs hR hS => ?_)
      refine lv_iload_n hC.1 hC.2.1 dX10_set_50 rfl (lv_at hl 0 rfl) ?_
      cases hf
      exact x_iret hC hR hS dX10_set_51
    · refine lv_aload_n hC.1 hC.2.1 dX10_set_29 rfl (lv_at hl 0 rfl) ?_
      refine lv_bipush (v := (-3)) hC.1 hC.2.1 dX10_set_30 (by decide) ?_
      refine x_cvi10 (rest := []) hC xy_X10_refuseAsZero tw_474 hf (fun _ _ h => M_X10_refuseAsZero G l kp h) ⟨Nat.le_of_ble_eq_true rfl, Nat.le_of_ble_eq_true rfl⟩ (xce_0 G kp _ _) rfl rfl rfl (Nat.le_of_ble_eq_true rfl) hl.1 hR hS dX10_set_32 ⟨Nat.le_refl _, Nat.le_refl _⟩ (fun v6 I7 hf H locs hR hS => ?_)
      cases hf
      exact x_iret hC hR hS dX10_set_35
  · refine lv_aload_n hC.1 hC.2.1 dX10_set_8 rfl (lv_at hl 0 rfl) ?_
    refine lv_bipush (v := (-2)) hC.1 hC.2.1 dX10_set_9 (by decide) ?_
    refine x_cvi10 (rest := []) hC xy_X10_refuseAsZero tw_474 hf (fun _ _ h => M_X10_refuseAsZero G l kp h) ⟨Nat.le_of_ble_eq_true rfl, Nat.le_of_ble_eq_true rfl⟩ (xce_0 G kp _ _) rfl rfl rfl (Nat.le_of_ble_eq_true rfl) hl.1 hR hS dX10_set_11 ⟨Nat.le_refl _, Nat.le_refl _⟩ (fun v8 I9 hf H locs hR hS => ?_)
    cases hf
    exact x_iret hC hR hS dX10_set_14
set_option maxRecDepth 20000 in
theorem W_X10_tear_j13 {G : XG} {l : Launch} {kp : Bool} {p : Program} {e : Env} {s : State} {m : MethodId} {args : Array Value} {below : List Frame} {meth : Method} {c : Code} (hC : xC G p s m args meth c cX10_tear 2 RX10 (some .int)) {I : xTI} {L : xTL} {r : Int32} {rI : xTI} {t0 : Int32} (hf : F_X10_tear_j13 I t0 = some (r, rI)) : ∀ (H : Heap) (locs : List Loc) (ls : Array Slot), xRep G kp I L H → xS G s.heap H locs → lv_has ls 2 [(0, .ref (xz G + 0))] → W p l e (xrm 0 0) s m args below meth c H locs 0 0 (xMQ G kp below args s (some (.int r)) rI L) (F0 m 13 ls [.int t0]) := by
  intro H locs ls hR hS hl
  unfold F_X10_tear_j13 at hf
  refine lv_istore_n (lv' := [(1, .int t0), (0, .ref (xz G + 0))]) hC.1 hC.2.1 dX10_tear_13 rfl hl (Nat.le_of_ble_eq_true rfl) rfl (fun ls hl => ?_)
  refine lv_aload_n hC.1 hC.2.1 dX10_tear_14 rfl (lv_at hl 1 rfl) ?_
  refine lv_iconst (v := (-1)) hC.1 hC.2.1 dX10_tear_15 (by decide) ?_
  refine x_putI hC xf_X10_58 xp_10_8 (fun f => xce_0 G kp f _) rfl (Nat.le_of_ble_eq_true rfl) hR hS dX10_tear_16 hf (fun I1 hf H locs hR hS => ?_)
  refine lv_iload_n hC.1 hC.2.1 dX10_tear_19 rfl (lv_at hl 0 rfl) ?_
  cases hf
  exact x_iret hC hR hS dX10_tear_20
set_option maxRecDepth 20000 in
theorem M_X10_tear (G : XG) (l : Launch) (kp : Bool) {I : xTI} {L : xTL} {r : Int32} {rI : xTI} (hf : F_X10_tear I = some (r, rI)) : xMet G l yX10_tear cX10_tear 2 (some .int) 0 0 kp [.ref (xz G + 0)] I L (some (.int r)) rI L := by
  refine xMet.ofW (by decide +kernel) (Nat.le_of_ble_eq_true rfl) ?_
  intro p e s m args below meth c hC H locs ls hR hS hl
  replace hC : xC G p s m args meth c cX10_tear 2 RX10 (some .int) := hC
  replace hl : lv_has ls 2 [(0, .ref (xz G + 0))] := hl
  unfold F_X10_tear at hf
  refine lv_aload_n hC.1 hC.2.1 dX10_tear_0 rfl (lv_at hl 0 rfl) ?_
  refine x_getI hC xf_X10_58 (xce_0 G kp _ _) rfl hR dX10_tear_1 hf (fun v1 hf => ?_)
  refine lv_iconst (v := (-1)) hC.1 hC.2.1 dX10_tear_4 (by decide) ?_
  refine x_ic_ne (tgt := 12) hC dX10_tear_5 (by decide) hf (fun hf => ?_) (fun hf => ?_)
  · refine lv_iconst (v := 1) hC.1 hC.2.1 dX10_tear_12 (by decide) ?_
    exact W_X10_tear_j13 hC hf _ _ _ hR hS (lv_sub hl [0] rfl)
  · refine lv_iconst (v := 0) hC.1 hC.2.1 dX10_tear_8 (by decide) ?_
    refine lv_goto (tgt := 13) hC.1 hC.2.1 dX10_tear_9 (by decide) ?_
    exact W_X10_tear_j13 hC hf _ _ _ hR hS (lv_sub hl [0] rfl)
set_option maxRecDepth 20000 in
theorem M_X10_row (G : XG) (l : Launch) (kp : Bool) {I : xTI} {L : xTL} {x1 : Int32} {r : Int32} {rI : xTI} (hf : F_X10_row I x1 = some (r, rI)) : xMet G l yX10_row cX10_row 2 (some .int) 2 42 kp [.ref (xz G + 0), .int x1] I L (some (.int r)) rI L := by
  refine xMet.ofW (by decide +kernel) (Nat.le_of_ble_eq_true rfl) ?_
  intro p e s m args below meth c hC H locs ls hR hS hl
  replace hC : xC G p s m args meth c cX10_row 2 RX10 (some .int) := hC
  replace hl : lv_has ls 2 [(0, .ref (xz G + 0)), (1, .int x1)] := hl
  unfold F_X10_row at hf
  refine lv_aload_n hC.1 hC.2.1 dX10_row_0 rfl (lv_at hl 0 rfl) ?_
  refine x_getI hC xf_X10_58 (xce_0 G kp _ _) rfl hR dX10_row_1 hf (fun v1 hf => ?_)
  refine lv_iconst (v := (-1)) hC.1 hC.2.1 dX10_row_4 (by decide) ?_
  refine x_ic_ne (tgt := 15) hC dX10_row_5 (by decide) hf (fun hf => ?_) (fun hf => ?_)
  · refine lv_iload_n hC.1 hC.2.1 dX10_row_15 rfl (lv_at hl 1 rfl) ?_
    refine lv_iconst (v := 0) hC.1 hC.2.1 dX10_row_16 (by decide) ?_
    refine lv_aload_n hC.1 hC.2.1 dX10_row_17 rfl (lv_at hl 0 rfl) ?_
    refine x_getI hC xf_X10_58 (xce_0 G kp _ _) rfl hR dX10_row_18 hf (fun v2 hf => ?_)
    refine lv_iconst (v := 1) hC.1 hC.2.1 dX10_row_21 (by decide) ?_
    refine lv_isub hC.1 hC.2.1 dX10_row_22 ?_
    refine x_csi00 (rest := []) hC xy_X10_isWithin tw_408 hf (fun _ h => M_X10_isWithin G l kp h) ⟨Nat.le_of_ble_eq_true rfl, Nat.le_of_ble_eq_true rfl⟩ rfl rfl (Nat.le_of_ble_eq_true rfl) hl.1 hR hS dX10_row_23 ⟨Nat.le_refl _, Nat.le_refl _⟩ (fun v3 hf H locs hR hS => ?_)
    refine x_if_eq (tgt := 38) hC dX10_row_26 (by decide) hf (fun hf => ?_) (fun hf => ?_)
    · refine lv_aload_n hC.1 hC.2.1 dX10_row_38 rfl (lv_at hl 0 rfl) ?_
      refine lv_bipush (v := (-3)) hC.1 hC.2.1 dX10_row_39 (by decide) ?_
      refine x_cvi10 (rest := []) hC xy_X10_refuseAsZero tw_474 hf (fun _ _ h => M_X10_refuseAsZero G l kp h) ⟨Nat.le_of_ble_eq_true rfl, Nat.le_of_ble_eq_true rfl⟩ (xce_0 G kp _ _) rfl rfl rfl (Nat.le_of_ble_eq_true rfl) hl.1 hR hS dX10_row_41 ⟨Nat.le_refl _, Nat.le_refl _⟩ (fun v4 I5 hf H locs hR hS => ?_)
      cases hf
      exact x_iret hC hR hS dX10_row_44
    · refine lv_aload_n hC.1 hC.2.1 dX10_row_29 rfl (lv_at hl 0 rfl) ?_
      refine x_get (v := .ref (xz G + 55)) hC xf_X10_54 (xce_0 G kp _ _) rfl hR dX10_row_30 ?_
      refine lv_iload_n hC.1 hC.2.1 dX10_row_33 rfl (lv_at hl 1 rfl) ?_
      refine x_ial hC (xce_55 G kp _ _) hR dX10_row_34 hf (fun v6 hf => ?_)
      refine lv_goto (tgt := 44) hC.1 hC.2.1 dX10_row_35 (by decide) ?_
      cases hf
      exact x_iret hC hR hS dX10_row_44
  · refine lv_aload_n hC.1 hC.2.1 dX10_row_8 rfl (lv_at hl 0 rfl) ?_
    refine lv_bipush (v := (-2)) hC.1 hC.2.1 dX10_row_9 (by decide) ?_
    refine x_cvi10 (rest := []) hC xy_X10_refuseAsZero tw_474 hf (fun _ _ h => M_X10_refuseAsZero G l kp h) ⟨Nat.le_of_ble_eq_true rfl, Nat.le_of_ble_eq_true rfl⟩ (xce_0 G kp _ _) rfl rfl rfl (Nat.le_of_ble_eq_true rfl) hl.1 hR hS dX10_row_11 ⟨Nat.le_refl _, Nat.le_refl _⟩ (fun v7 I8 hf H locs hR hS => ?_)
    cases hf
    exact x_iret hC hR hS dX10_row_14
set_option maxRecDepth 20000 in
theorem M_X10_status (G : XG) (l : Launch) (kp : Bool) {I : xTI} {L : xTL} {x1 : Int32} {r : Int32} {rI : xTI} (hf : F_X10_status I x1 = some (r, rI)) : xMet G l yX10_status cX10_status 2 (some .int) 1 22 kp [.ref (xz G + 0), .int x1] I L (some (.int r)) rI L := by
  refine xMet.ofW (by decide +kernel) (Nat.le_of_ble_eq_true rfl) ?_
  intro p e s m args below meth c hC H locs ls hR hS hl
  replace hC : xC G p s m args meth c cX10_status 2 RX10 (some .int) := hC
  replace hl : lv_has ls 2 [(0, .ref (xz G + 0)), (1, .int x1)] := hl
  unfold F_X10_status at hf
  refine lv_iload_n hC.1 hC.2.1 dX10_status_0 rfl (lv_at hl 1 rfl) ?_
  refine lv_bipush (v := (-8)) hC.1 hC.2.1 dX10_status_1 (by decide) ?_
  refine lv_bipush (v := (-2)) hC.1 hC.2.1 dX10_status_3 (by decide) ?_
  refine x_csi00 (rest := []) hC xy_X10_isWithin tw_408 hf (fun _ h => M_X10_isWithin G l kp h) ⟨Nat.le_of_ble_eq_true rfl, Nat.le_of_ble_eq_true rfl⟩ rfl rfl (Nat.le_of_ble_eq_true rfl) hl.1 hR hS dX10_status_5 ⟨Nat.le_refl _, Nat.le_refl _⟩ (fun v1 hf H locs hR hS => ?_)
  refine x_if_eq (tgt := 21) hC dX10_status_8 (by decide) hf (fun hf => ?_) (fun hf => ?_)
  · refine lv_aload_n hC.1 hC.2.1 dX10_status_21 rfl (lv_at hl 0 rfl) ?_
    refine lv_bipush (v := (-7)) hC.1 hC.2.1 dX10_status_22 (by decide) ?_
    refine x_cvi10 (rest := []) hC xy_X10_refuse tw_411 hf (fun _ _ h => M_X10_refuse G l kp h) ⟨Nat.le_of_ble_eq_true rfl, Nat.le_of_ble_eq_true rfl⟩ (xce_0 G kp _ _) rfl rfl rfl (Nat.le_of_ble_eq_true rfl) hl.1 hR hS dX10_status_24 ⟨Nat.le_refl _, Nat.le_refl _⟩ (fun v2 I3 hf H locs hR hS => ?_)
    cases hf
    exact x_iret hC hR hS dX10_status_27
  · refine lv_aload_n hC.1 hC.2.1 dX10_status_11 rfl (lv_at hl 0 rfl) ?_
    refine x_get (v := .ref (xz G + 56)) hC xf_X10_62 (xce_0 G kp _ _) rfl hR dX10_status_12 ?_
    refine lv_iload_n hC.1 hC.2.1 dX10_status_15 rfl (lv_at hl 1 rfl) ?_
    refine lv_ineg hC.1 hC.2.1 dX10_status_16 ?_
    refine x_ial hC (xce_56 G kp _ _) hR dX10_status_17 hf (fun v4 hf => ?_)
    refine lv_goto (tgt := 27) hC.1 hC.2.1 dX10_status_18 (by decide) ?_
    cases hf
    exact x_iret hC hR hS dX10_status_27
set_option maxRecDepth 20000 in
theorem M_X11_in (G : XG) (l : Launch) (kp : Bool) {I : xTI} {L : xTL} {x0 : Int32} {x1 : Int32} {x2 : Int32} {r : Int32} (hf : F_X11_in x0 x1 x2 = some r) : xMet G l yX11_in cX11_in 3 (some .boolean) 0 0 kp [.int x0, .int x1, .int x2] I L (some (.int r)) I L := by
  refine xMet.ofW (by decide +kernel) (Nat.le_of_ble_eq_true rfl) ?_
  intro p e s m args below meth c hC H locs ls hR hS hl
  replace hC : xC G p s m args meth c cX11_in 3 RX11 (some .boolean) := hC
  replace hl : lv_has ls 3 [(0, .int x0), (1, .int x1), (2, .int x2)] := hl
  unfold F_X11_in at hf
  refine lv_iload_n hC.1 hC.2.1 dX11_in_0 rfl (lv_at hl 0 rfl) ?_
  refine lv_iload_n hC.1 hC.2.1 dX11_in_1 rfl (lv_at hl 1 rfl) ?_
  refine x_ic_lt (tgt := 14) hC dX11_in_2 (by decide) hf (fun hf => ?_) (fun hf => ?_)
  · refine lv_iconst (v := 0) hC.1 hC.2.1 dX11_in_14 (by decide) ?_
    obtain ⟨h01, hf⟩ := xzc_some hf
    cases hf
    exact x_zret h01 hC hR hS dX11_in_15
  · refine lv_iload_n hC.1 hC.2.1 dX11_in_5 rfl (lv_at hl 0 rfl) ?_
    refine lv_iload_n hC.1 hC.2.1 dX11_in_6 rfl (lv_at hl 2 rfl) ?_
    refine x_ic_gt (tgt := 14) hC dX11_in_7 (by decide) hf (fun hf => ?_) (fun hf => ?_)
    · refine lv_iconst (v := 0) hC.1 hC.2.1 dX11_in_14 (by decide) ?_
      obtain ⟨h01, hf⟩ := xzc_some hf
      cases hf
      exact x_zret h01 hC hR hS dX11_in_15
    · refine lv_iconst (v := 1) hC.1 hC.2.1 dX11_in_10 (by decide) ?_
      refine lv_goto (tgt := 15) hC.1 hC.2.1 dX11_in_11 (by decide) ?_
      obtain ⟨h01, hf⟩ := xzc_some hf
      cases hf
      exact x_zret h01 hC hR hS dX11_in_15
set_option maxRecDepth 20000 in
theorem M_X11_refuse (G : XG) (l : Launch) (kp : Bool) {I : xTI} {L : xTL} {x1 : Int32} {r : Int32} {rI : xTI} (hf : F_X11_refuse I x1 = some (r, rI)) : xMet G l yX11_refuse cX11_refuse 2 (some .int) 0 0 kp [.ref (xz G + 57), .int x1] I L (some (.int r)) rI L := by
  refine xMet.ofW (by decide +kernel) (Nat.le_of_ble_eq_true rfl) ?_
  intro p e s m args below meth c hC H locs ls hR hS hl
  replace hC : xC G p s m args meth c cX11_refuse 2 RX11 (some .int) := hC
  replace hl : lv_has ls 2 [(0, .ref (xz G + 57)), (1, .int x1)] := hl
  unfold F_X11_refuse at hf
  refine lv_aload_n hC.1 hC.2.1 dX11_refuse_0 rfl (lv_at hl 0 rfl) ?_
  refine x_get (v := .ref (xz G + 60)) hC xf_X11_22 (xce_57 G kp _ _) rfl hR dX11_refuse_1 ?_
  refine lv_iload_n hC.1 hC.2.1 dX11_refuse_4 rfl (lv_at hl 1 rfl) ?_
  refine lv_ineg hC.1 hC.2.1 dX11_refuse_5 ?_
  refine lv_dup2_11 hC.1 hC.2.1 dX11_refuse_6 rfl rfl ?_
  refine x_ial hC (xce_60 G kp _ _) hR dX11_refuse_7 hf (fun v1 hf => ?_)
  refine lv_iconst (v := 1) hC.1 hC.2.1 dX11_refuse_8 (by decide) ?_
  refine lv_iadd hC.1 hC.2.1 dX11_refuse_9 ?_
  refine x_ias hC (fun f => xce_60 G kp f _) hR hS dX11_refuse_10 hf (fun I2 hf H locs hR hS => ?_)
  refine lv_iload_n hC.1 hC.2.1 dX11_refuse_11 rfl (lv_at hl 1 rfl) ?_
  cases hf
  exact x_iret hC hR hS dX11_refuse_12
set_option maxRecDepth 20000 in
theorem M_X11_status (G : XG) (l : Launch) (kp : Bool) {I : xTI} {L : xTL} {x1 : Int32} {r : Int32} {rI : xTI} (hf : F_X11_status I x1 = some (r, rI)) : xMet G l yX11_status cX11_status 2 (some .int) 1 22 kp [.ref (xz G + 57), .int x1] I L (some (.int r)) rI L := by
  refine xMet.ofW (by decide +kernel) (Nat.le_of_ble_eq_true rfl) ?_
  intro p e s m args below meth c hC H locs ls hR hS hl
  replace hC : xC G p s m args meth c cX11_status 2 RX11 (some .int) := hC
  replace hl : lv_has ls 2 [(0, .ref (xz G + 57)), (1, .int x1)] := hl
  unfold F_X11_status at hf
  refine lv_iload_n hC.1 hC.2.1 dX11_status_0 rfl (lv_at hl 1 rfl) ?_
  refine lv_bipush (v := (-8)) hC.1 hC.2.1 dX11_status_1 (by decide) ?_
  refine lv_bipush (v := (-2)) hC.1 hC.2.1 dX11_status_3 (by decide) ?_
  refine x_csi00 (rest := []) hC xy_X11_in tw_1335 hf (fun _ h => M_X11_in G l kp h) ⟨Nat.le_of_ble_eq_true rfl, Nat.le_of_ble_eq_true rfl⟩ rfl rfl (Nat.le_of_ble_eq_true rfl) hl.1 hR hS dX11_status_5 ⟨Nat.le_refl _, Nat.le_refl _⟩ (fun v1 hf H locs hR hS => ?_)
  refine x_if_eq (tgt := 21) hC dX11_status_8 (by decide) hf (fun hf => ?_) (fun hf => ?_)
  · refine lv_aload_n hC.1 hC.2.1 dX11_status_21 rfl (lv_at hl 0 rfl) ?_
    refine lv_bipush (v := (-7)) hC.1 hC.2.1 dX11_status_22 (by decide) ?_
    refine x_cvi10 (rest := []) hC xy_X11_refuse tw_1338 hf (fun _ _ h => M_X11_refuse G l kp h) ⟨Nat.le_of_ble_eq_true rfl, Nat.le_of_ble_eq_true rfl⟩ (xce_57 G kp _ _) rfl rfl rfl (Nat.le_of_ble_eq_true rfl) hl.1 hR hS dX11_status_24 ⟨Nat.le_refl _, Nat.le_refl _⟩ (fun v2 I3 hf H locs hR hS => ?_)
    cases hf
    exact x_iret hC hR hS dX11_status_27
  · refine lv_aload_n hC.1 hC.2.1 dX11_status_11 rfl (lv_at hl 0 rfl) ?_
    refine x_get (v := .ref (xz G + 60)) hC xf_X11_22 (xce_57 G kp _ _) rfl hR dX11_status_12 ?_
    refine lv_iload_n hC.1 hC.2.1 dX11_status_15 rfl (lv_at hl 1 rfl) ?_
    refine lv_ineg hC.1 hC.2.1 dX11_status_16 ?_
    refine x_ial hC (xce_60 G kp _ _) hR dX11_status_17 hf (fun v4 hf => ?_)
    refine lv_goto (tgt := 27) hC.1 hC.2.1 dX11_status_18 (by decide) ?_
    cases hf
    exact x_iret hC hR hS dX11_status_27
