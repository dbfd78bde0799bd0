set_option maxRecDepth 20000 in
theorem W_X11_manyOf_j37 {G : XG} {l : Launch} {kp : Bool} {p : Program} {e : Env} {s : State} {m : MethodId} {args : Array Value} {below : List Frame} {meth : Method} {c : Code} (hC : xC G p s m args meth c cX11_manyOf 4 RX11 (some .int)) (N : Nat) {I : xTI} {L : xTL} {r : Int32} {x1 : Int32} {x3 : Int32} {t0 : Int32} {t1 : Int32} (k4 : Int32 × Int32 → Option (Int32)) (hk4 : ∀ (x2 : Int32) (x3 : Int32) , k4 (x2, x3) = some r → ∀ (H : Heap) (locs : List Loc) (ls : Array Slot), xRep G kp I L H → xS G s.heap H locs → lv_has ls 4 [(0, .ref (xz G + 57)), (1, .int x1), (2, .int x2), (3, .int x3)] → W p l e (xrm 1 22) s m args below meth c H locs 0 0 (xMQ G kp below args s (some (.int r)) I L) (F0 m 4 ls [])) (hf : F_X11_manyOf_j37 k4 N I x1 x3 t0 t1 = some r) : ∀ (H : Heap) (locs : List Loc) (ls : Array Slot), xRep G kp I L H → xS G s.heap H locs → lv_has ls 4 [(0, .ref (xz G + 57)), (1, .int x1), (3, .int x3)] → W p l e (xrm 1 22) s m args below meth c H locs 0 0 (xMQ G kp below args s (some (.int r)) I L) (F0 m 37 ls [.int t1, .int t0]) := by
  intro H locs ls hR hS hl
  unfold F_X11_manyOf_j37 at hf
  refine lv_iadd hC.1 hC.2.1 dX11_manyOf_37 ?_
  refine x_istn (lv' := fun y1 => [(2, .int y1), (0, .ref (xz G + 57)), (1, .int x1), (3, .int x3)]) hC hl dX11_manyOf_38 rfl (Nat.le_of_ble_eq_true rfl) hf (fun _ => rfl) (fun y1 hf ls hl => ?_)
  refine x_iinc (d := 1) (lv' := fun y2 => [(3, .int y2), (2, .int y1), (0, .ref (xz G + 57)), (1, .int x1)]) (k := 3) hC hl dX11_manyOf_39 rfl (by decide) (Nat.le_of_ble_eq_true rfl) hf (fun _ => rfl) (fun y2 hf ls hl => ?_)
  refine lv_goto (tgt := 4) hC.1 hC.2.1 dX11_manyOf_42 (by decide) ?_
  exact hk4 y1 y2 hf _ _ _ hR hS (lv_sub hl [2, 3, 1, 0] rfl)
set_option maxRecDepth 20000 in
theorem W_X11_manyOf_l4 {G : XG} {l : Launch} {kp : Bool} {p : Program} {e : Env} {s : State} {m : MethodId} {args : Array Value} {below : List Frame} {meth : Method} {c : Code} (hC : xC G p s m args meth c cX11_manyOf 4 RX11 (some .int)) (N : Nat) {I : xTI} {L : xTL} {r : Int32} {x1 : Int32} : ∀ (n : Nat) (x2 : Int32) (x3 : Int32) , xlp (F_X11_manyOf_b4 N I x1 ) n (x2, x3) = some r → ∀ (H : Heap) (locs : List Loc) (ls : Array Slot), xRep G kp I L H → xS G s.heap H locs → lv_has ls 4 [(0, .ref (xz G + 57)), (1, .int x1), (2, .int x2), (3, .int x3)] → W p l e (xrm 1 22) s m args below meth c H locs 0 0 (xMQ G kp below args s (some (.int r)) I L) (F0 m 4 ls []) := by
  intro n
  induction n with
  | zero =>
    intro x2 x3 hf
    cases hf
  | succ n hk4 =>
    intro x2 x3 hf H locs ls hR hS hl
    rw [xlp_s, E_X11_manyOf_b4] at hf
    unfold F_X11_manyOf_c4 at hf
    refine lv_iload_n hC.1 hC.2.1 dX11_manyOf_4 rfl (lv_at hl 3 rfl) ?_
    refine lv_bipush (v := 60) hC.1 hC.2.1 dX11_manyOf_5 (by decide) ?_
    refine x_ic_ge (tgt := 45) hC dX11_manyOf_7 (by decide) hf (fun hf => ?_) (fun hf => ?_)
    · refine lv_iload_n hC.1 hC.2.1 dX11_manyOf_45 rfl (lv_at hl 2 rfl) ?_
      have h9 := Option.some.inj hf
      subst h9
      exact x_iret hC hR hS dX11_manyOf_46
    · refine lv_iload_n hC.1 hC.2.1 dX11_manyOf_10 rfl (lv_at hl 2 rfl) ?_
      refine lv_aload_n hC.1 hC.2.1 dX11_manyOf_11 rfl (lv_at hl 0 rfl) ?_
      refine lv_iload_n hC.1 hC.2.1 dX11_manyOf_12 rfl (lv_at hl 3 rfl) ?_
      refine lv_iconst (v := 0) hC.1 hC.2.1 dX11_manyOf_13 (by decide) ?_
      refine x_cvi00 (rest := [.int x2]) hC xy_X11_bg tw_1383 hf (fun _ h => M_X11_bg G l kp h) ⟨Nat.le_of_ble_eq_true rfl, Nat.le_of_ble_eq_true rfl⟩ (xce_57 G kp _ _) rfl rfl rfl (Nat.le_of_ble_eq_true rfl) hl.1 hR hS dX11_manyOf_14 ⟨Nat.le_refl _, Nat.le_refl _⟩ (fun v1 hf H locs hR hS => ?_)
      refine lv_iconst (v := 1) hC.1 hC.2.1 dX11_manyOf_17 (by decide) ?_
      refine x_ic_ne (tgt := 36) hC dX11_manyOf_18 (by decide) hf (fun hf => ?_) (fun hf => ?_)
      · refine lv_iconst (v := 0) hC.1 hC.2.1 dX11_manyOf_36 (by decide) ?_
        exact W_X11_manyOf_j37 hC N _ hk4 hf _ _ _ hR hS (lv_sub hl [0, 1, 3] rfl)
      · refine lv_aload_n hC.1 hC.2.1 dX11_manyOf_21 rfl (lv_at hl 0 rfl) ?_
        refine lv_iload_n hC.1 hC.2.1 dX11_manyOf_22 rfl (lv_at hl 3 rfl) ?_
        refine lv_bipush (v := 8) hC.1 hC.2.1 dX11_manyOf_23 (by decide) ?_
        refine x_cvi00 (rest := [.int x2]) hC xy_X11_bg tw_1383 hf (fun _ h => M_X11_bg G l kp h) ⟨Nat.le_of_ble_eq_true rfl, Nat.le_of_ble_eq_true rfl⟩ (xce_57 G kp _ _) rfl rfl rfl (Nat.le_of_ble_eq_true rfl) hl.1 hR hS dX11_manyOf_25 ⟨Nat.le_refl _, Nat.le_refl _⟩ (fun v2 hf H locs hR hS => ?_)
        refine lv_iload_n hC.1 hC.2.1 dX11_manyOf_28 rfl (lv_at hl 1 rfl) ?_
        refine x_ic_ne (tgt := 36) hC dX11_manyOf_29 (by decide) hf (fun hf => ?_) (fun hf => ?_)
        · refine lv_iconst (v := 0) hC.1 hC.2.1 dX11_manyOf_36 (by decide) ?_
          exact W_X11_manyOf_j37 hC N _ hk4 hf _ _ _ hR hS (lv_sub hl [0, 1, 3] rfl)
        · refine lv_iconst (v := 1) hC.1 hC.2.1 dX11_manyOf_32 (by decide) ?_
          refine lv_goto (tgt := 37) hC.1 hC.2.1 dX11_manyOf_33 (by decide) ?_
          exact W_X11_manyOf_j37 hC N _ hk4 hf _ _ _ hR hS (lv_sub hl [0, 1, 3] rfl)
set_option maxRecDepth 20000 in
theorem M_X11_manyOf (G : XG) (l : Launch) (kp : Bool) (N : Nat) {I : xTI} {L : xTL} {x1 : Int32} {r : Int32} (hf : F_X11_manyOf N I x1 = some r) : xMet G l yX11_manyOf cX11_manyOf 4 (some .int) 1 22 kp [.ref (xz G + 57), .int x1] I L (some (.int r)) I L := by
  refine xMet.ofW (by decide +kernel) (Nat.le_of_ble_eq_true rfl) ?_
  intro p e s m args below meth c hC H locs ls hR hS hl
  replace hC : xC G p s m args meth c cX11_manyOf 4 RX11 (some .int) := hC
  replace hl : lv_has ls 4 [(0, .ref (xz G + 57)), (1, .int x1)] := hl
  unfold F_X11_manyOf at hf
  refine lv_iconst (v := 0) hC.1 hC.2.1 dX11_manyOf_0 (by decide) ?_
  refine lv_istore_n (lv' := [(2, .int 0), (0, .ref (xz G + 57)), (1, .int x1)]) hC.1 hC.2.1 dX11_manyOf_1 rfl hl (Nat.le_of_ble_eq_true rfl) rfl (fun ls hl => ?_)
  refine lv_iconst (v := 0) hC.1 hC.2.1 dX11_manyOf_2 (by decide) ?_
  refine lv_istore_n (lv' := [(3, .int 0), (2, .int 0), (0, .ref (xz G + 57)), (1, .int x1)]) hC.1 hC.2.1 dX11_manyOf_3 rfl hl (Nat.le_of_ble_eq_true rfl) rfl (fun ls hl => ?_)
  exact W_X11_manyOf_l4 hC N _ 0 0 hf _ _ _ hR hS (lv_sub hl [2, 3, 1, 0] rfl)
set_option maxRecDepth 20000 in
theorem M_X11_count (G : XG) (l : Launch) (kp : Bool) (N : Nat) {I : xTI} {L : xTL} {x1 : Int32} {r : Int32} {rI : xTI} (hf : F_X11_count N I x1 = some (r, rI)) : xMet G l yX11_count cX11_count 2 (some .int) 2 45 kp [.ref (xz G + 57), .int x1] I L (some (.int r)) rI L := by
  refine xMet.ofW (by decide +kernel) (Nat.le_of_ble_eq_true rfl) ?_
  intro p e s m args below meth c hC H locs ls hR hS hl
  replace hC : xC G p s m args meth c cX11_count 2 RX11 (some .int) := hC
  replace hl : lv_has ls 2 [(0, .ref (xz G + 57)), (1, .int x1)] := hl
  unfold F_X11_count at hf
  refine lv_iload_n hC.1 hC.2.1 dX11_count_0 rfl (lv_at hl 1 rfl) ?_
  try dsimp only at hf
  by_cases hc : x1 = 0
  · rw [if_pos hc] at hf
    refine x_tsi (tgt := 80) hC dX11_count_1 hc (by decide +kernel) ?_
    refine lv_aload_n hC.1 hC.2.1 dX11_count_80 rfl (lv_at hl 0 rfl) ?_
    refine x_get (v := .ref (xz G + 58)) hC xf_X11_14 (xce_57 G kp _ _) rfl hR dX11_count_81 ?_
    refine lv_iconst (v := 0) hC.1 hC.2.1 dX11_count_84 (by decide) ?_
    refine x_ial hC (xce_58 G kp _ _) hR dX11_count_85 hf (fun v1 hf => ?_)
    obtain ⟨h91, h92⟩ := Prod.mk.inj (Option.some.inj hf)
    subst h91
    subst h92
    exact x_iret hC hR hS dX11_count_86
  rw [if_neg hc] at hf
  have hc0 := hc
  clear hc
  by_cases hc : x1 = 1
  · rw [if_pos hc] at hf
    refine x_tsi (tgt := 87) hC dX11_count_1 hc (by decide +kernel) ?_
    refine lv_aload_n hC.1 hC.2.1 dX11_count_87 rfl (lv_at hl 0 rfl) ?_
    refine x_get (v := .ref (xz G + 58)) hC xf_X11_14 (xce_57 G kp _ _) rfl hR dX11_count_88 ?_
    refine lv_iconst (v := 0) hC.1 hC.2.1 dX11_count_91 (by decide) ?_
    refine x_ial hC (xce_58 G kp _ _) hR dX11_count_92 hf (fun v2 hf => ?_)
    refine lv_bipush (v := 14) hC.1 hC.2.1 dX11_count_93 (by decide) ?_
    refine lv_irem hC.1 hC.2.1 dX11_count_95 (by decide) ?_
    obtain ⟨h91, h92⟩ := Prod.mk.inj (Option.some.inj hf)
    subst h91
    subst h92
    exact x_iret hC hR hS dX11_count_96
  rw [if_neg hc] at hf
  have hc1 := hc
  clear hc
  by_cases hc : x1 = 2
  · rw [if_pos hc] at hf
    refine x_tsi (tgt := 97) hC dX11_count_1 hc (by decide +kernel) ?_
    refine lv_aload_n hC.1 hC.2.1 dX11_count_97 rfl (lv_at hl 0 rfl) ?_
    refine x_get (v := .ref (xz G + 58)) hC xf_X11_14 (xce_57 G kp _ _) rfl hR dX11_count_98 ?_
    refine lv_iconst (v := 0) hC.1 hC.2.1 dX11_count_101 (by decide) ?_
    refine x_ial hC (xce_58 G kp _ _) hR dX11_count_102 hf (fun v3 hf => ?_)
    refine lv_bipush (v := 14) hC.1 hC.2.1 dX11_count_103 (by decide) ?_
    refine lv_idiv hC.1 hC.2.1 dX11_count_105 (by decide) ?_
    obtain ⟨h91, h92⟩ := Prod.mk.inj (Option.some.inj hf)
    subst h91
    subst h92
    exact x_iret hC hR hS dX11_count_106
  rw [if_neg hc] at hf
  have hc2 := hc
  clear hc
  by_cases hc : x1 = 3
  · rw [if_pos hc] at hf
    refine x_tsi (tgt := 107) hC dX11_count_1 hc (by decide +kernel) ?_
    refine lv_aload_n hC.1 hC.2.1 dX11_count_107 rfl (lv_at hl 0 rfl) ?_
    refine x_get (v := .ref (xz G + 58)) hC xf_X11_14 (xce_57 G kp _ _) rfl hR dX11_count_108 ?_
    refine lv_iconst (v := 1) hC.1 hC.2.1 dX11_count_111 (by decide) ?_
    refine x_ial hC (xce_58 G kp _ _) hR dX11_count_112 hf (fun v4 hf => ?_)
    obtain ⟨h91, h92⟩ := Prod.mk.inj (Option.some.inj hf)
    subst h91
    subst h92
    exact x_iret hC hR hS dX11_count_113
  rw [if_neg hc] at hf
  have hc3 := hc
  clear hc
  by_cases hc : x1 = 4
  · rw [if_pos hc] at hf
    refine x_tsi (tgt := 114) hC dX11_count_1 hc (by decide +kernel) ?_
    refine lv_aload_n hC.1 hC.2.1 dX11_count_114 rfl (lv_at hl 0 rfl) ?_
    refine x_get (v := .ref (xz G + 58)) hC xf_X11_14 (xce_57 G kp _ _) rfl hR dX11_count_115 ?_
    refine lv_iconst (v := 2) hC.1 hC.2.1 dX11_count_118 (by decide) ?_
    refine x_ial hC (xce_58 G kp _ _) hR dX11_count_119 hf (fun v5 hf => ?_)
    obtain ⟨h91, h92⟩ := Prod.mk.inj (Option.some.inj hf)
    subst h91
    subst h92
    exact x_iret hC hR hS dX11_count_120
  rw [if_neg hc] at hf
  have hc4 := hc
  clear hc
  by_cases hc : x1 = 5
  · rw [if_pos hc] at hf
    refine x_tsi (tgt := 121) hC dX11_count_1 hc (by decide +kernel) ?_
    refine lv_aload_n hC.1 hC.2.1 dX11_count_121 rfl (lv_at hl 0 rfl) ?_
    refine lv_iconst (v := 0) hC.1 hC.2.1 dX11_count_122 (by decide) ?_
    refine x_cvi00 (rest := []) hC xy_X11_manyOf tw_1732 hf (fun _ h => M_X11_manyOf G l kp N h) ⟨Nat.le_of_ble_eq_true rfl, Nat.le_of_ble_eq_true rfl⟩ (xce_57 G kp _ _) rfl rfl rfl (Nat.le_of_ble_eq_true rfl) hl.1 hR hS dX11_count_123 ⟨Nat.le_refl _, Nat.le_refl _⟩ (fun v6 hf H locs hR hS => ?_)
    obtain ⟨h91, h92⟩ := Prod.mk.inj (Option.some.inj hf)
    subst h91
    subst h92
    exact x_iret hC hR hS dX11_count_126
  rw [if_neg hc] at hf
  have hc5 := hc
  clear hc
  by_cases hc : x1 = 6
  · rw [if_pos hc] at hf
    refine x_tsi (tgt := 127) hC dX11_count_1 hc (by decide +kernel) ?_
    refine lv_aload_n hC.1 hC.2.1 dX11_count_127 rfl (lv_at hl 0 rfl) ?_
    refine lv_iconst (v := 1) hC.1 hC.2.1 dX11_count_128 (by decide) ?_
    refine x_cvi00 (rest := []) hC xy_X11_manyOf tw_1732 hf (fun _ h => M_X11_manyOf G l kp N h) ⟨Nat.le_of_ble_eq_true rfl, Nat.le_of_ble_eq_true rfl⟩ (xce_57 G kp _ _) rfl rfl rfl (Nat.le_of_ble_eq_true rfl) hl.1 hR hS dX11_count_129 ⟨Nat.le_refl _, Nat.le_refl _⟩ (fun v7 hf H locs hR hS => ?_)
    obtain ⟨h91, h92⟩ := Prod.mk.inj (Option.some.inj hf)
    subst h91
    subst h92
    exact x_iret hC hR hS dX11_count_132
  rw [if_neg hc] at hf
  have hc6 := hc
  clear hc
  by_cases hc : x1 = 7
  · rw [if_pos hc] at hf
    refine x_tsi (tgt := 133) hC dX11_count_1 hc (by decide +kernel) ?_
    refine lv_aload_n hC.1 hC.2.1 dX11_count_133 rfl (lv_at hl 0 rfl) ?_
    refine lv_iconst (v := 2) hC.1 hC.2.1 dX11_count_134 (by decide) ?_
    refine x_cvi00 (rest := []) hC xy_X11_manyOf tw_1732 hf (fun _ h => M_X11_manyOf G l kp N h) ⟨Nat.le_of_ble_eq_true rfl, Nat.le_of_ble_eq_true rfl⟩ (xce_57 G kp _ _) rfl rfl rfl (Nat.le_of_ble_eq_true rfl) hl.1 hR hS dX11_count_135 ⟨Nat.le_refl _, Nat.le_refl _⟩ (fun v8 hf H locs hR hS => ?_)
    obtain ⟨h91, h92⟩ := Prod.mk.inj (Option.some.inj hf)
    subst h91
    subst h92
    exact x_iret hC hR hS dX11_count_138
  rw [if_neg hc] at hf
  have hc7 := hc
  clear hc
  by_cases hc : x1 = 8
  · rw [if_pos hc] at hf
    refine x_tsi (tgt := 139) hC dX11_count_1 hc (by decide +kernel) ?_
    refine lv_aload_n hC.1 hC.2.1 dX11_count_139 rfl (lv_at hl 0 rfl) ?_
    refine lv_iconst (v := 3) hC.1 hC.2.1 dX11_count_140 (by decide) ?_
    refine x_cvi00 (rest := []) hC xy_X11_manyOf tw_1732 hf (fun _ h => M_X11_manyOf G l kp N h) ⟨Nat.le_of_ble_eq_true rfl, Nat.le_of_ble_eq_true rfl⟩ (xce_57 G kp _ _) rfl rfl rfl (Nat.le_of_ble_eq_true rfl) hl.1 hR hS dX11_count_141 ⟨Nat.le_refl _, Nat.le_refl _⟩ (fun v9 hf H locs hR hS => ?_)
    obtain ⟨h91, h92⟩ := Prod.mk.inj (Option.some.inj hf)
    subst h91
    subst h92
    exact x_iret hC hR hS dX11_count_144
  rw [if_neg hc] at hf
  have hc8 := hc
  clear hc
  by_cases hc : x1 = 9
  · rw [if_pos hc] at hf
    refine x_tsi (tgt := 145) hC dX11_count_1 hc (by decide +kernel) ?_
    refine lv_aload_n hC.1 hC.2.1 dX11_count_145 rfl (lv_at hl 0 rfl) ?_
    refine x_get (v := .ref (xz G + 58)) hC xf_X11_14 (xce_57 G kp _ _) rfl hR dX11_count_146 ?_
    refine lv_iconst (v := 3) hC.1 hC.2.1 dX11_count_149 (by decide) ?_
    refine x_ial hC (xce_58 G kp _ _) hR dX11_count_150 hf (fun v10 hf => ?_)
    obtain ⟨h91, h92⟩ := Prod.mk.inj (Option.some.inj hf)
    subst h91
    subst h92
    exact x_iret hC hR hS dX11_count_151
  rw [if_neg hc] at hf
  have hc9 := hc
  clear hc
  by_cases hc : x1 = 10
  · rw [if_pos hc] at hf
    refine x_tsi (tgt := 152) hC dX11_count_1 hc (by decide +kernel) ?_
    refine lv_aload_n hC.1 hC.2.1 dX11_count_152 rfl (lv_at hl 0 rfl) ?_
    refine x_get (v := .ref (xz G + 58)) hC xf_X11_14 (xce_57 G kp _ _) rfl hR dX11_count_153 ?_
    refine lv_iconst (v := 4) hC.1 hC.2.1 dX11_count_156 (by decide) ?_
    refine x_ial hC (xce_58 G kp _ _) hR dX11_count_157 hf (fun v11 hf => ?_)
    obtain ⟨h91, h92⟩ := Prod.mk.inj (Option.some.inj hf)
    subst h91
    subst h92
    exact x_iret hC hR hS dX11_count_158
  rw [if_neg hc] at hf
  have hc10 := hc
  clear hc
  by_cases hc : x1 = 11
  · rw [if_pos hc] at hf
    refine x_tsi (tgt := 159) hC dX11_count_1 hc (by decide +kernel) ?_
    refine lv_aload_n hC.1 hC.2.1 dX11_count_159 rfl (lv_at hl 0 rfl) ?_
    refine x_getI hC xf_X11_329 (xce_57 G kp _ _) rfl hR dX11_count_160 hf (fun v12 hf => ?_)
    obtain ⟨h91, h92⟩ := Prod.mk.inj (Option.some.inj hf)
    subst h91
    subst h92
    exact x_iret hC hR hS dX11_count_163
  rw [if_neg hc] at hf
  have hc11 := hc
  clear hc
  by_cases hc : x1 = 12
  · rw [if_pos hc] at hf
    refine x_tsi (tgt := 164) hC dX11_count_1 hc (by decide +kernel) ?_
    refine lv_aload_n hC.1 hC.2.1 dX11_count_164 rfl (lv_at hl 0 rfl) ?_
    refine x_get (v := .ref (xz G + 58)) hC xf_X11_14 (xce_57 G kp _ _) rfl hR dX11_count_165 ?_
    refine lv_iconst (v := 1) hC.1 hC.2.1 dX11_count_168 (by decide) ?_
    refine x_ial hC (xce_58 G kp _ _) hR dX11_count_169 hf (fun v13 hf => ?_)
    refine lv_aload_n hC.1 hC.2.1 dX11_count_170 rfl (lv_at hl 0 rfl) ?_
    refine x_cvi00 (rest := [.int v13]) hC xy_X11_menUp tw_1544 hf (fun _ h => M_X11_menUp G l kp N h) ⟨Nat.le_of_ble_eq_true rfl, Nat.le_of_ble_eq_true rfl⟩ (xce_57 G kp _ _) rfl rfl rfl (Nat.le_of_ble_eq_true rfl) hl.1 hR hS dX11_count_171 ⟨Nat.le_refl _, Nat.le_refl _⟩ (fun v14 hf H locs hR hS => ?_)
    refine lv_isub hC.1 hC.2.1 dX11_count_174 ?_
    obtain ⟨h91, h92⟩ := Prod.mk.inj (Option.some.inj hf)
    subst h91
    subst h92
    exact x_iret hC hR hS dX11_count_175
  rw [if_neg hc] at hf
  have hc12 := hc
  clear hc
  by_cases hc : x1 = 13
  · rw [if_pos hc] at hf
    refine x_tsi (tgt := 176) hC dX11_count_1 hc (by decide +kernel) ?_
    refine lv_aload_n hC.1 hC.2.1 dX11_count_176 rfl (lv_at hl 0 rfl) ?_
    refine x_get (v := .ref (xz G + 58)) hC xf_X11_14 (xce_57 G kp _ _) rfl hR dX11_count_177 ?_
    refine lv_bipush (v := 6) hC.1 hC.2.1 dX11_count_180 (by decide) ?_
    refine x_ial hC (xce_58 G kp _ _) hR dX11_count_182 hf (fun v15 hf => ?_)
    obtain ⟨h91, h92⟩ := Prod.mk.inj (Option.some.inj hf)
    subst h91
    subst h92
    exact x_iret hC hR hS dX11_count_183
  rw [if_neg hc] at hf
  have hc13 := hc
  clear hc
  by_cases hc : x1 = 14
  · rw [if_pos hc] at hf
    refine x_tsi (tgt := 184) hC dX11_count_1 hc (by decide +kernel) ?_
    refine lv_aload_n hC.1 hC.2.1 dX11_count_184 rfl (lv_at hl 0 rfl) ?_
    refine x_get (v := .ref (xz G + 58)) hC xf_X11_14 (xce_57 G kp _ _) rfl hR dX11_count_185 ?_
    refine lv_bipush (v := 7) hC.1 hC.2.1 dX11_count_188 (by decide) ?_
    refine x_ial hC (xce_58 G kp _ _) hR dX11_count_190 hf (fun v16 hf => ?_)
    obtain ⟨h91, h92⟩ := Prod.mk.inj (Option.some.inj hf)
    subst h91
    subst h92
    exact x_iret hC hR hS dX11_count_191
  rw [if_neg hc] at hf
  have hc14 := hc
  clear hc
  by_cases hc : x1 = 15
  · rw [if_pos hc] at hf
    refine x_tsi (tgt := 192) hC dX11_count_1 hc (by decide +kernel) ?_
    refine lv_aload_n hC.1 hC.2.1 dX11_count_192 rfl (lv_at hl 0 rfl) ?_
    refine x_get (v := .ref (xz G + 58)) hC xf_X11_14 (xce_57 G kp _ _) rfl hR dX11_count_193 ?_
    refine lv_iconst (v := 5) hC.1 hC.2.1 dX11_count_196 (by decide) ?_
    refine x_ial hC (xce_58 G kp _ _) hR dX11_count_197 hf (fun v17 hf => ?_)
    obtain ⟨h91, h92⟩ := Prod.mk.inj (Option.some.inj hf)
    subst h91
    subst h92
    exact x_iret hC hR hS dX11_count_198
  rw [if_neg hc] at hf
  have hc15 := hc
  clear hc
  have e0 : (x1).toInt ≠ 0 := fun h => hc0 (Int32.toInt_inj.mp (h.trans (by decide)))
  have e1 : (x1).toInt ≠ 1 := fun h => hc1 (Int32.toInt_inj.mp (h.trans (by decide)))
  have e2 : (x1).toInt ≠ 2 := fun h => hc2 (Int32.toInt_inj.mp (h.trans (by decide)))
  have e3 : (x1).toInt ≠ 3 := fun h => hc3 (Int32.toInt_inj.mp (h.trans (by decide)))
  have e4 : (x1).toInt ≠ 4 := fun h => hc4 (Int32.toInt_inj.mp (h.trans (by decide)))
  have e5 : (x1).toInt ≠ 5 := fun h => hc5 (Int32.toInt_inj.mp (h.trans (by decide)))
  have e6 : (x1).toInt ≠ 6 := fun h => hc6 (Int32.toInt_inj.mp (h.trans (by decide)))
  have e7 : (x1).toInt ≠ 7 := fun h => hc7 (Int32.toInt_inj.mp (h.trans (by decide)))
  have e8 : (x1).toInt ≠ 8 := fun h => hc8 (Int32.toInt_inj.mp (h.trans (by decide)))
  have e9 : (x1).toInt ≠ 9 := fun h => hc9 (Int32.toInt_inj.mp (h.trans (by decide)))
  have e10 : (x1).toInt ≠ 10 := fun h => hc10 (Int32.toInt_inj.mp (h.trans (by decide)))
  have e11 : (x1).toInt ≠ 11 := fun h => hc11 (Int32.toInt_inj.mp (h.trans (by decide)))
  have e12 : (x1).toInt ≠ 12 := fun h => hc12 (Int32.toInt_inj.mp (h.trans (by decide)))
  have e13 : (x1).toInt ≠ 13 := fun h => hc13 (Int32.toInt_inj.mp (h.trans (by decide)))
  have e14 : (x1).toInt ≠ 14 := fun h => hc14 (Int32.toInt_inj.mp (h.trans (by decide)))
  have e15 : (x1).toInt ≠ 15 := fun h => hc15 (Int32.toInt_inj.mp (h.trans (by decide)))
  refine x_tso (tgt := 199) hC dX11_count_1 (by omega) (by decide) ?_
  refine lv_aload_n hC.1 hC.2.1 dX11_count_199 rfl (lv_at hl 0 rfl) ?_
  refine lv_bipush (v := (-7)) hC.1 hC.2.1 dX11_count_200 (by decide) ?_
  refine x_cvi10 (rest := []) hC xy_X11_refuse tw_1338 hf (fun _ _ h => M_X11_refuse G l kp h) ⟨Nat.le_of_ble_eq_true rfl, Nat.le_of_ble_eq_true rfl⟩ (xce_57 G kp _ _) rfl rfl rfl (Nat.le_of_ble_eq_true rfl) hl.1 hR hS dX11_count_202 ⟨Nat.le_refl _, Nat.le_refl _⟩ (fun v18 I19 hf H locs hR hS => ?_)
  obtain ⟨h91, h92⟩ := Prod.mk.inj (Option.some.inj hf)
  subst h91
  subst h92
  exact x_iret hC hR hS dX11_count_205
set_option maxRecDepth 20000 in
theorem W_X11_image_l28 {G : XG} {l : Launch} {kp : Bool} {p : Program} {e : Env} {s : State} {m : MethodId} {args : Array Value} {below : List Frame} {meth : Method} {c : Code} (hC : xC G p s m args meth c cX11_image 2 RX11 (some .int)) (N : Nat) {I : xTI} {r : Int32} {rI : xTI} {rL : xTL} : ∀ (n : Nat) (x1 : Int32) (L : xTL) , xlp (F_X11_image_b28 N I ) n (x1, L) = some (r, rI, rL) → ∀ (H : Heap) (locs : List Loc) (ls : Array Slot), xRep G kp I L H → xS G s.heap H locs → lv_has ls 2 [(0, .ref (xz G + 57)), (1, .int x1)] → W p l e (xrm 0 0) s m args below meth c H locs 0 0 (xMQ G kp below args s (some (.int r)) rI rL) (F0 m 28 ls []) := by
  intro n
  induction n with
  | zero =>
    intro x1 L hf
    cases hf
  | succ n hk28 =>
    intro x1 L hf H locs ls hR hS hl
    rw [xlp_s, E_X11_image_b28] at hf
    unfold F_X11_image_c28 at hf
    refine lv_iload_n hC.1 hC.2.1 dX11_image_28 rfl (lv_at hl 1 rfl) ?_
    refine lv_sipush (v := 216) hC.1 hC.2.1 dX11_image_29 (by decide) ?_
    refine x_ic_ge (tgt := 53) hC dX11_image_32 (by decide) hf (fun hf => ?_) (fun hf => ?_)
    · refine lv_aload_n hC.1 hC.2.1 dX11_image_53 rfl (lv_at hl 0 rfl) ?_
      refine lv_iconst (v := 1) hC.1 hC.2.1 dX11_image_54 (by decide) ?_
      refine x_putZ hC xf_X11_417 xp_11_44 (fun f => (xce_57 G kp f _)) rfl (Nat.le_of_ble_eq_true rfl) hR hS dX11_image_55 hf (fun I1 hf H locs hR hS => ?_)
      refine lv_aload_n hC.1 hC.2.1 dX11_image_58 rfl (lv_at hl 0 rfl) ?_
      refine x_get (v := .ref (xz G + 58)) hC xf_X11_14 (xce_57 G kp _ _) rfl hR dX11_image_59 ?_
      refine lv_iconst (v := 0) hC.1 hC.2.1 dX11_image_62 (by decide) ?_
      refine x_ial hC (xce_58 G kp _ _) hR dX11_image_63 hf (fun v2 hf => ?_)
      obtain ⟨h91, h90⟩ := Prod.mk.inj (Option.some.inj hf)
      obtain ⟨h92, h93⟩ := Prod.mk.inj h90
      subst h91
      subst h92
      subst h93
      exact x_iret hC hR hS dX11_image_64
    · refine lv_aload_n hC.1 hC.2.1 dX11_image_35 rfl (lv_at hl 0 rfl) ?_
      refine x_get (v := .ref (xz G + 85)) hC xf_X11_98 (xce_57 G kp _ _) rfl hR dX11_image_36 ?_
      refine lv_iload_n hC.1 hC.2.1 dX11_image_39 rfl (lv_at hl 1 rfl) ?_
      refine lv_aload_n hC.1 hC.2.1 dX11_image_40 rfl (lv_at hl 0 rfl) ?_
      refine x_get (v := .ref (xz G + 59)) hC xf_X11_18 (xce_57 G kp _ _) rfl hR dX11_image_41 ?_
      refine lv_iload_n hC.1 hC.2.1 dX11_image_44 rfl (lv_at hl 1 rfl) ?_
      refine x_lal hC (xce_59 G kp _ _) hR dX11_image_45 hf (fun v3 hf => ?_)
      refine x_las hC (fun f => (xce_85 G kp _ f)) hR hS dX11_image_46 hf (fun L4 hf H locs hR hS => ?_)
      refine x_iinc (d := 1) (lv' := fun y5 => [(1, .int y5), (0, .ref (xz G + 57))]) (k := 1) hC hl dX11_image_47 rfl (by decide) (Nat.le_of_ble_eq_true rfl) hf (fun _ => rfl) (fun y5 hf ls hl => ?_)
      refine lv_goto (tgt := 28) hC.1 hC.2.1 dX11_image_50 (by decide) ?_
      exact hk28 y5 L4 hf _ _ _ hR hS (lv_sub hl [1, 0] rfl)
set_option maxRecDepth 20000 in
theorem W_X11_image_l2 {G : XG} {l : Launch} {kp : Bool} {p : Program} {e : Env} {s : State} {m : MethodId} {args : Array Value} {below : List Frame} {meth : Method} {c : Code} (hC : xC G p s m args meth c cX11_image 2 RX11 (some .int)) (N : Nat) {L : xTL} {r : Int32} {rI : xTI} {rL : xTL} : ∀ (n : Nat) (x1 : Int32) (I : xTI) , xlp (F_X11_image_b2 N L ) n (x1, I) = some (r, rI, rL) → ∀ (H : Heap) (locs : List Loc) (ls : Array Slot), xRep G kp I L H → xS G s.heap H locs → lv_has ls 2 [(0, .ref (xz G + 57)), (1, .int x1)] → W p l e (xrm 0 0) s m args below meth c H locs 0 0 (xMQ G kp below args s (some (.int r)) rI rL) (F0 m 2 ls []) := by
  intro n
  induction n with
  | zero =>
    intro x1 I hf
    cases hf
  | succ n hk2 =>
    intro x1 I hf H locs ls hR hS hl
    rw [xlp_s, E_X11_image_b2] at hf
    unfold F_X11_image_c2 at hf
    refine lv_iload_n hC.1 hC.2.1 dX11_image_2 rfl (lv_at hl 1 rfl) ?_
    refine x_ldc (v := 40670) hC tw_1185 dX11_image_3 ?_
    refine x_ic_ge (tgt := 26) hC dX11_image_5 (by decide) hf (fun hf => ?_) (fun hf => ?_)
    · refine lv_iconst (v := 0) hC.1 hC.2.1 dX11_image_26 (by decide) ?_
      refine lv_istore_n (lv' := [(1, .int 0), (0, .ref (xz G + 57))]) hC.1 hC.2.1 dX11_image_27 rfl hl (Nat.le_of_ble_eq_true rfl) rfl (fun ls hl => ?_)
      exact W_X11_image_l28 hC N _ 0 L hf _ _ _ hR hS (lv_sub hl [1, 0] rfl)
    · refine lv_aload_n hC.1 hC.2.1 dX11_image_8 rfl (lv_at hl 0 rfl) ?_
      refine x_get (v := .ref (xz G + 84)) hC xf_X11_95 (xce_57 G kp _ _) rfl hR dX11_image_9 ?_
      refine lv_iload_n hC.1 hC.2.1 dX11_image_12 rfl (lv_at hl 1 rfl) ?_
      refine lv_aload_n hC.1 hC.2.1 dX11_image_13 rfl (lv_at hl 0 rfl) ?_
      refine x_get (v := .ref (xz G + 58)) hC xf_X11_14 (xce_57 G kp _ _) rfl hR dX11_image_14 ?_
      refine lv_iload_n hC.1 hC.2.1 dX11_image_17 rfl (lv_at hl 1 rfl) ?_
      refine x_ial hC (xce_58 G kp _ _) hR dX11_image_18 hf (fun v1 hf => ?_)
      refine x_ias hC (fun f => (xce_84 G kp f _)) hR hS dX11_image_19 hf (fun I2 hf H locs hR hS => ?_)
      refine x_iinc (d := 1) (lv' := fun y3 => [(1, .int y3), (0, .ref (xz G + 57))]) (k := 1) hC hl dX11_image_20 rfl (by decide) (Nat.le_of_ble_eq_true rfl) hf (fun _ => rfl) (fun y3 hf ls hl => ?_)
      refine lv_goto (tgt := 2) hC.1 hC.2.1 dX11_image_23 (by decide) ?_
      exact hk2 y3 I2 hf _ _ _ hR hS (lv_sub hl [1, 0] rfl)
set_option maxRecDepth 20000 in
theorem M_X11_image (G : XG) (l : Launch) (kp : Bool) (N : Nat) {I : xTI} {L : xTL} {r : Int32} {rI : xTI} {rL : xTL} (hf : F_X11_image N I L = some (r, rI, rL)) : xMet G l yX11_image cX11_image 2 (some .int) 0 0 kp [.ref (xz G + 57)] I L (some (.int r)) rI rL := by
  refine xMet.ofW (by decide +kernel) (Nat.le_of_ble_eq_true rfl) ?_
  intro p e s m args below meth c hC H locs ls hR hS hl
  replace hC : xC G p s m args meth c cX11_image 2 RX11 (some .int) := hC
  replace hl : lv_has ls 2 [(0, .ref (xz G + 57))] := hl
  unfold F_X11_image at hf
  refine lv_iconst (v := 0) hC.1 hC.2.1 dX11_image_0 (by decide) ?_
  refine lv_istore_n (lv' := [(1, .int 0), (0, .ref (xz G + 57))]) hC.1 hC.2.1 dX11_image_1 rfl hl (Nat.le_of_ble_eq_true rfl) rfl (fun ls hl => ?_)
  exact W_X11_image_l2 hC N _ 0 I hf _ _ _ hR hS (lv_sub hl [1, 0] rfl)
set_option maxRecDepth 20000 in
theorem W_X11_back_l42 {G : XG} {l : Launch} {kp : Bool} {p : Program} {e : Env} {s : State} {m : MethodId} {args : Array Value} {below : List Frame} {meth : Method} {c : Code} (hC : xC G p s m args meth c cX11_back 2 RX11 (some .int)) (N : Nat) {I : xTI} {r : Int32} {rI : xTI} {rL : xTL} : ∀ (n : Nat) (x1 : Int32) (L : xTL) , xlp (F_X11_back_b42 N I ) n (x1, L) = some (r, rI, rL) → ∀ (H : Heap) (locs : List Loc) (ls : Array Slot), xRep G kp I L H → xS G s.heap H locs → lv_has ls 2 [(0, .ref (xz G + 57)), (1, .int x1)] → W p l e (xrm 1 21) s m args below meth c H locs 0 0 (xMQ G kp below args s (some (.int r)) rI rL) (F0 m 42 ls []) := by
  intro n
  induction n with
  | zero =>
    intro x1 L hf
    cases hf
  | succ n hk42 =>
    intro x1 L hf H locs ls hR hS hl
    rw [xlp_s, E_X11_back_b42] at hf
    unfold F_X11_back_c42 at hf
    refine lv_iload_n hC.1 hC.2.1 dX11_back_42 rfl (lv_at hl 1 rfl) ?_
    refine lv_sipush (v := 216) hC.1 hC.2.1 dX11_back_43 (by decide) ?_
    refine x_ic_ge (tgt := 67) hC dX11_back_46 (by decide) hf (fun hf => ?_) (fun hf => ?_)
    · refine lv_aload_n hC.1 hC.2.1 dX11_back_67 rfl (lv_at hl 0 rfl) ?_
      refine x_get (v := .ref (xz G + 58)) hC xf_X11_14 (xce_57 G kp _ _) rfl hR dX11_back_68 ?_
      refine lv_iconst (v := 0) hC.1 hC.2.1 dX11_back_71 (by decide) ?_
      refine x_ial hC (xce_58 G kp _ _) hR dX11_back_72 hf (fun v1 hf => ?_)
      obtain ⟨h91, h90⟩ := Prod.mk.inj (Option.some.inj hf)
      obtain ⟨h92, h93⟩ := Prod.mk.inj h90
      subst h91
      subst h92
      subst h93
      exact x_iret hC hR hS dX11_back_73
    · refine lv_aload_n hC.1 hC.2.1 dX11_back_49 rfl (lv_at hl 0 rfl) ?_
      refine x_get (v := .ref (xz G + 59)) hC xf_X11_18 (xce_57 G kp _ _) rfl hR dX11_back_50 ?_
      refine lv_iload_n hC.1 hC.2.1 dX11_back_53 rfl (lv_at hl 1 rfl) ?_
      refine lv_aload_n hC.1 hC.2.1 dX11_back_54 rfl (lv_at hl 0 rfl) ?_
      refine x_get (v := .ref (xz G + 85)) hC xf_X11_98 (xce_57 G kp _ _) rfl hR dX11_back_55 ?_
      refine lv_iload_n hC.1 hC.2.1 dX11_back_58 rfl (lv_at hl 1 rfl) ?_
      refine x_lal hC (xce_85 G kp _ _) hR dX11_back_59 hf (fun v2 hf => ?_)
      refine x_las hC (fun f => (xce_59 G kp _ f)) hR hS dX11_back_60 hf (fun L3 hf H locs hR hS => ?_)
      refine x_iinc (d := 1) (lv' := fun y4 => [(1, .int y4), (0, .ref (xz G + 57))]) (k := 1) hC hl dX11_back_61 rfl (by decide) (Nat.le_of_ble_eq_true rfl) hf (fun _ => rfl) (fun y4 hf ls hl => ?_)
      refine lv_goto (tgt := 42) hC.1 hC.2.1 dX11_back_64 (by decide) ?_
      exact hk42 y4 L3 hf _ _ _ hR hS (lv_sub hl [1, 0] rfl)
set_option maxRecDepth 20000 in
theorem W_X11_back_l16 {G : XG} {l : Launch} {kp : Bool} {p : Program} {e : Env} {s : State} {m : MethodId} {args : Array Value} {below : List Frame} {meth : Method} {c : Code} (hC : xC G p s m args meth c cX11_back 2 RX11 (some .int)) (N : Nat) {L : xTL} {r : Int32} {rI : xTI} {rL : xTL} : ∀ (n : Nat) (x1 : Int32) (I : xTI) , xlp (F_X11_back_b16 N L ) n (x1, I) = some (r, rI, rL) → ∀ (H : Heap) (locs : List Loc) (ls : Array Slot), xRep G kp I L H → xS G s.heap H locs → lv_has ls 2 [(0, .ref (xz G + 57)), (1, .int x1)] → W p l e (xrm 1 21) s m args below meth c H locs 0 0 (xMQ G kp below args s (some (.int r)) rI rL) (F0 m 16 ls []) := by
  intro n
  induction n with
  | zero =>
    intro x1 I hf
    cases hf
  | succ n hk16 =>
    intro x1 I hf H locs ls hR hS hl
    rw [xlp_s, E_X11_back_b16] at hf
    unfold F_X11_back_c16 at hf
    refine lv_iload_n hC.1 hC.2.1 dX11_back_16 rfl (lv_at hl 1 rfl) ?_
    refine x_ldc (v := 40670) hC tw_1185 dX11_back_17 ?_
    refine x_ic_ge (tgt := 40) hC dX11_back_19 (by decide) hf (fun hf => ?_) (fun hf => ?_)
    · refine lv_iconst (v := 0) hC.1 hC.2.1 dX11_back_40 (by decide) ?_
      refine lv_istore_n (lv' := [(1, .int 0), (0, .ref (xz G + 57))]) hC.1 hC.2.1 dX11_back_41 rfl hl (Nat.le_of_ble_eq_true rfl) rfl (fun ls hl => ?_)
      exact W_X11_back_l42 hC N _ 0 L hf _ _ _ hR hS (lv_sub hl [1, 0] rfl)
    · refine lv_aload_n hC.1 hC.2.1 dX11_back_22 rfl (lv_at hl 0 rfl) ?_
      refine x_get (v := .ref (xz G + 58)) hC xf_X11_14 (xce_57 G kp _ _) rfl hR dX11_back_23 ?_
      refine lv_iload_n hC.1 hC.2.1 dX11_back_26 rfl (lv_at hl 1 rfl) ?_
      refine lv_aload_n hC.1 hC.2.1 dX11_back_27 rfl (lv_at hl 0 rfl) ?_
      refine x_get (v := .ref (xz G + 84)) hC xf_X11_95 (xce_57 G kp _ _) rfl hR dX11_back_28 ?_
      refine lv_iload_n hC.1 hC.2.1 dX11_back_31 rfl (lv_at hl 1 rfl) ?_
      refine x_ial hC (xce_84 G kp _ _) hR dX11_back_32 hf (fun v1 hf => ?_)
      refine x_ias hC (fun f => (xce_58 G kp f _)) hR hS dX11_back_33 hf (fun I2 hf H locs hR hS => ?_)
      refine x_iinc (d := 1) (lv' := fun y3 => [(1, .int y3), (0, .ref (xz G + 57))]) (k := 1) hC hl dX11_back_34 rfl (by decide) (Nat.le_of_ble_eq_true rfl) hf (fun _ => rfl) (fun y3 hf ls hl => ?_)
      refine lv_goto (tgt := 16) hC.1 hC.2.1 dX11_back_37 (by decide) ?_
      exact hk16 y3 I2 hf _ _ _ hR hS (lv_sub hl [1, 0] rfl)
set_option maxRecDepth 20000 in
theorem M_X11_back (G : XG) (l : Launch) (kp : Bool) (N : Nat) {I : xTI} {L : xTL} {r : Int32} {rI : xTI} {rL : xTL} (hf : F_X11_back N I L = some (r, rI, rL)) : xMet G l yX11_back cX11_back 2 (some .int) 1 21 kp [.ref (xz G + 57)] I L (some (.int r)) rI rL := by
  refine xMet.ofW (by decide +kernel) (Nat.le_of_ble_eq_true rfl) ?_
  intro p e s m args below meth c hC H locs ls hR hS hl
  replace hC : xC G p s m args meth c cX11_back 2 RX11 (some .int) := hC
  replace hl : lv_has ls 2 [(0, .ref (xz G + 57))] := hl
  unfold F_X11_back at hf
  refine lv_aload_n hC.1 hC.2.1 dX11_back_0 rfl (lv_at hl 0 rfl) ?_
  refine x_getI hC xf_X11_417 (xce_57 G kp _ _) rfl hR dX11_back_1 hf (fun v1 hf => ?_)
  refine x_if_ne (tgt := 14) hC dX11_back_4 (by decide) hf (fun hf => ?_) (fun hf => ?_)
  · refine lv_iconst (v := 0) hC.1 hC.2.1 dX11_back_14 (by decide) ?_
    refine lv_istore_n (lv' := [(1, .int 0), (0, .ref (xz G + 57))]) hC.1 hC.2.1 dX11_back_15 rfl hl (Nat.le_of_ble_eq_true rfl) rfl (fun ls hl => ?_)
    exact W_X11_back_l16 hC N _ 0 I hf _ _ _ hR hS (lv_sub hl [1, 0] rfl)
  · refine lv_aload_n hC.1 hC.2.1 dX11_back_7 rfl (lv_at hl 0 rfl) ?_
    refine lv_bipush (v := (-2)) hC.1 hC.2.1 dX11_back_8 (by decide) ?_
    refine x_cvi10 (rest := []) hC xy_X11_refuse tw_1338 hf (fun _ _ h => M_X11_refuse G l kp h) ⟨Nat.le_of_ble_eq_true rfl, Nat.le_of_ble_eq_true rfl⟩ (xce_57 G kp _ _) rfl rfl rfl (Nat.le_of_ble_eq_true rfl) hl.1 hR hS dX11_back_10 ⟨Nat.le_refl _, Nat.le_refl _⟩ (fun v2 I3 hf H locs hR hS => ?_)
    obtain ⟨h91, h90⟩ := Prod.mk.inj (Option.some.inj hf)
    obtain ⟨h92, h93⟩ := Prod.mk.inj h90
    subst h91
    subst h92
    subst h93
    exact x_iret hC hR hS dX11_back_13
set_option maxRecDepth 20000 in
theorem W_X11_lay_l36 {G : XG} {l : Launch} {kp : Bool} {p : Program} {e : Env} {s : State} {m : MethodId} {args : Array Value} {below : List Frame} {meth : Method} {c : Code} (hC : xC G p s m args meth c cX11_lay 3 RX11 (some .int)) (N : Nat) {L : xTL} {r : Int32} {rI : xTI} {x1 : Int32} : ∀ (n : Nat) (x2 : Int32) (I : xTI) , xlp (F_X11_lay_b36 N x1 ) n (x2, I) = some (r, rI) → ∀ (H : Heap) (locs : List Loc) (ls : Array Slot), xRep G kp I L H → xS G s.heap H locs → lv_has ls 3 [(0, .ref (xz G + 57)), (1, .int x1), (2, .int x2)] → W p l e (xrm 1 21) s m args below meth c H locs 0 0 (xMQ G kp below args s (some (.int r)) rI L) (F0 m 36 ls []) := by
  intro n
  induction n with
  | zero =>
    intro x2 I hf
    cases hf
  | succ n hk36 =>
    intro x2 I hf H locs ls hR hS hl
    rw [xlp_s, E_X11_lay_b36] at hf
    unfold F_X11_lay_c36 at hf
    refine lv_iload_n hC.1 hC.2.1 dX11_lay_36 rfl (lv_at hl 2 rfl) ?_
    refine lv_iload_n hC.1 hC.2.1 dX11_lay_37 rfl (lv_at hl 1 rfl) ?_
    refine x_ic_ge (tgt := 54) hC dX11_lay_38 (by decide) hf (fun hf => ?_) (fun hf => ?_)
    · refine lv_iload_n hC.1 hC.2.1 dX11_lay_54 rfl (lv_at hl 1 rfl) ?_
      obtain ⟨h91, h92⟩ := Prod.mk.inj (Option.some.inj hf)
      subst h91
      subst h92
      exact x_iret hC hR hS dX11_lay_55
    · refine lv_aload_n hC.1 hC.2.1 dX11_lay_41 rfl (lv_at hl 0 rfl) ?_
      refine x_get (v := .ref (xz G + 86)) hC xf_X11_101 (xce_57 G kp _ _) rfl hR dX11_lay_42 ?_
      refine lv_iload_n hC.1 hC.2.1 dX11_lay_45 rfl (lv_at hl 2 rfl) ?_
      refine lv_iconst (v := 0) hC.1 hC.2.1 dX11_lay_46 (by decide) ?_
      refine x_ias hC (fun f => (xce_86 G kp f _)) hR hS dX11_lay_47 hf (fun I1 hf H locs hR hS => ?_)
      refine x_iinc (d := 1) (lv' := fun y2 => [(2, .int y2), (0, .ref (xz G + 57)), (1, .int x1)]) (k := 2) hC hl dX11_lay_48 rfl (by decide) (Nat.le_of_ble_eq_true rfl) hf (fun _ => rfl) (fun y2 hf ls hl => ?_)
      refine lv_goto (tgt := 36) hC.1 hC.2.1 dX11_lay_51 (by decide) ?_
      exact hk36 y2 I1 hf _ _ _ hR hS (lv_sub hl [1, 2, 0] rfl)
set_option maxRecDepth 20000 in
theorem M_X11_lay (G : XG) (l : Launch) (kp : Bool) (N : Nat) {I : xTI} {L : xTL} {x1 : Int32} {r : Int32} {rI : xTI} (hf : F_X11_lay N I x1 = some (r, rI)) : xMet G l yX11_lay cX11_lay 3 (some .int) 1 21 kp [.ref (xz G + 57), .int x1] I L (some (.int r)) rI L := by
  refine xMet.ofW (by decide +kernel) (Nat.le_of_ble_eq_true rfl) ?_
  intro p e s m args below meth c hC H locs ls hR hS hl
  replace hC : xC G p s m args meth c cX11_lay 3 RX11 (some .int) := hC
  replace hl : lv_has ls 3 [(0, .ref (xz G + 57)), (1, .int x1)] := hl
  unfold F_X11_lay at hf
  refine lv_iload_n hC.1 hC.2.1 dX11_lay_0 rfl (lv_at hl 1 rfl) ?_
  refine x_if_ge (tgt := 11) hC dX11_lay_1 (by decide) hf (fun hf => ?_) (fun hf => ?_)
  · refine lv_iload_n hC.1 hC.2.1 dX11_lay_11 rfl (lv_at hl 1 rfl) ?_
    refine lv_bipush (v := 60) hC.1 hC.2.1 dX11_lay_12 (by decide) ?_
    refine x_ic_le (tgt := 24) hC dX11_lay_14 (by decide) hf (fun hf => ?_) (fun hf => ?_)
    · refine lv_aload_n hC.1 hC.2.1 dX11_lay_24 rfl (lv_at hl 0 rfl) ?_
      refine lv_iconst (v := 1) hC.1 hC.2.1 dX11_lay_25 (by decide) ?_
      refine x_putZ hC xf_X11_394 xp_11_47 (fun f => (xce_57 G kp f _)) rfl (Nat.le_of_ble_eq_true rfl) hR hS dX11_lay_26 hf (fun I1 hf H locs hR hS => ?_)
      refine lv_aload_n hC.1 hC.2.1 dX11_lay_29 rfl (lv_at hl 0 rfl) ?_
      refine lv_iload_n hC.1 hC.2.1 dX11_lay_30 rfl (lv_at hl 1 rfl) ?_
      refine x_putI hC xf_X11_397 xp_11_46 (fun f => (xce_57 G kp f _)) rfl (Nat.le_of_ble_eq_true rfl) hR hS dX11_lay_31 hf (fun I2 hf H locs hR hS => ?_)
      refine lv_iconst (v := 0) hC.1 hC.2.1 dX11_lay_34 (by decide) ?_
      refine lv_istore_n (lv' := [(2, .int 0), (0, .ref (xz G + 57)), (1, .int x1)]) hC.1 hC.2.1 dX11_lay_35 rfl hl (Nat.le_of_ble_eq_true rfl) rfl (fun ls hl => ?_)
      exact W_X11_lay_l36 hC N _ 0 I2 hf _ _ _ hR hS (lv_sub hl [1, 2, 0] rfl)
    · refine lv_aload_n hC.1 hC.2.1 dX11_lay_17 rfl (lv_at hl 0 rfl) ?_
      refine lv_bipush (v := (-7)) hC.1 hC.2.1 dX11_lay_18 (by decide) ?_
      refine x_cvi10 (rest := []) hC xy_X11_refuse tw_1338 hf (fun _ _ h => M_X11_refuse G l kp h) ⟨Nat.le_of_ble_eq_true rfl, Nat.le_of_ble_eq_true rfl⟩ (xce_57 G kp _ _) rfl rfl rfl (Nat.le_of_ble_eq_true rfl) hl.1 hR hS dX11_lay_20 ⟨Nat.le_refl _, Nat.le_refl _⟩ (fun v3 I4 hf H locs hR hS => ?_)
      obtain ⟨h91, h92⟩ := Prod.mk.inj (Option.some.inj hf)
      subst h91
      subst h92
      exact x_iret hC hR hS dX11_lay_23
  · refine lv_aload_n hC.1 hC.2.1 dX11_lay_4 rfl (lv_at hl 0 rfl) ?_
    refine lv_bipush (v := (-4)) hC.1 hC.2.1 dX11_lay_5 (by decide) ?_
    refine x_cvi10 (rest := []) hC xy_X11_refuse tw_1338 hf (fun _ _ h => M_X11_refuse G l kp h) ⟨Nat.le_of_ble_eq_true rfl, Nat.le_of_ble_eq_true rfl⟩ (xce_57 G kp _ _) rfl rfl rfl (Nat.le_of_ble_eq_true rfl) hl.1 hR hS dX11_lay_7 ⟨Nat.le_refl _, Nat.le_refl _⟩ (fun v5 I6 hf H locs hR hS => ?_)
    obtain ⟨h91, h92⟩ := Prod.mk.inj (Option.some.inj hf)
    subst h91
    subst h92
    exact x_iret hC hR hS dX11_lay_10
set_option maxRecDepth 20000 in
theorem M_X11_set (G : XG) (l : Launch) (kp : Bool) {I : xTI} {L : xTL} {x1 : Int32} {x2 : Int32} {r : Int32} {rI : xTI} (hf : F_X11_set I x1 x2 = some (r, rI)) : xMet G l yX11_set cX11_set 4 (some .int) 1 22 kp [.ref (xz G + 57), .int x1, .int x2] I L (some (.int r)) rI L := by
  refine xMet.ofW (by decide +kernel) (Nat.le_of_ble_eq_true rfl) ?_
  intro p e s m args below meth c hC H locs ls hR hS hl
  replace hC : xC G p s m args meth c cX11_set 4 RX11 (some .int) := hC
  replace hl : lv_has ls 4 [(0, .ref (xz G + 57)), (1, .int x1), (2, .int x2)] := hl
  unfold F_X11_set at hf
  refine lv_aload_n hC.1 hC.2.1 dX11_set_0 rfl (lv_at hl 0 rfl) ?_
  refine x_getI hC xf_X11_394 (xce_57 G kp _ _) rfl hR dX11_set_1 hf (fun v1 hf => ?_)
  refine x_if_ne (tgt := 14) hC dX11_set_4 (by decide) hf (fun hf => ?_) (fun hf => ?_)
  · refine lv_iload_n hC.1 hC.2.1 dX11_set_14 rfl (lv_at hl 1 rfl) ?_
    refine lv_iconst (v := 0) hC.1 hC.2.1 dX11_set_15 (by decide) ?_
    refine lv_aload_n hC.1 hC.2.1 dX11_set_16 rfl (lv_at hl 0 rfl) ?_
    refine x_getI hC xf_X11_397 (xce_57 G kp _ _) rfl hR dX11_set_17 hf (fun v2 hf => ?_)
    refine lv_iconst (v := 1) hC.1 hC.2.1 dX11_set_20 (by decide) ?_
    refine lv_isub hC.1 hC.2.1 dX11_set_21 ?_
    refine x_csi00 (rest := []) hC xy_X11_in tw_1335 hf (fun _ h => M_X11_in G l kp h) ⟨Nat.le_of_ble_eq_true rfl, Nat.le_of_ble_eq_true rfl⟩ rfl rfl (Nat.le_of_ble_eq_true rfl) hl.1 hR hS dX11_set_22 ⟨Nat.le_refl _, Nat.le_refl _⟩ (fun v3 hf H locs hR hS => ?_)
    refine x_if_ne (tgt := 35) hC dX11_set_25 (by decide) hf (fun hf => ?_) (fun hf => ?_)
    · refine lv_aload_n hC.1 hC.2.1 dX11_set_35 rfl (lv_at hl 0 rfl) ?_
      refine x_get (v := .ref (xz G + 86)) hC xf_X11_101 (xce_57 G kp _ _) rfl hR dX11_set_36 ?_
      refine lv_iload_n hC.1 hC.2.1 dX11_set_39 rfl (lv_at hl 1 rfl) ?_
      refine x_ial hC (xce_86 G kp _ _) hR dX11_set_40 hf (fun v4 hf => ?_)
      refine lv_istore_n (lv' := [(3, .int v4), (0, .ref (xz G + 57)), (1, .int x1), (2, .int x2)]) hC.1 hC.2.1 dX11_set_41 rfl hl (Nat.le_of_ble_eq_true rfl) rfl (fun ls hl => ?_)
      refine lv_aload_n hC.1 hC.2.1 dX11_set_42 rfl (lv_at hl 1 rfl) ?_
      refine x_get (v := .ref (xz G + 86)) hC xf_X11_101 (xce_57 G kp _ _) rfl hR dX11_set_43 ?_
      refine lv_iload_n hC.1 hC.2.1 dX11_set_46 rfl (lv_at hl 2 rfl) ?_
      refine lv_iload_n hC.1 hC.2.1 dX11_set_47 rfl (lv_at hl 3 rfl) ?_
      refine x_ias hC (fun f => (xce_86 G kp f _)) hR hS dX11_set_48 hf (fun I5 hf H locs hR hS => ?_)
      refine lv_iload_n hC.1 hC.2.1 dX11_set_49 rfl (lv_at hl 0 rfl) ?_
      refine W.eq (g2 := F0 m 50 ls [.int v4]) rfl ?_
      obtain ⟨h91, h92⟩ := Prod.mk.inj (Option.some.inj hf)
      subst h91
      subst h92
      exact x_iret hC hR hS dX11_set_50
    · refine lv_aload_n hC.1 hC.2.1 dX11_set_28 rfl (lv_at hl 0 rfl) ?_
      refine lv_bipush (v := (-3)) hC.1 hC.2.1 dX11_set_29 (by decide) ?_
      refine x_cvi10 (rest := []) hC xy_X11_hush tw_1391 hf (fun _ _ h => M_X11_hush G l kp h) ⟨Nat.le_of_ble_eq_true rfl, Nat.le_of_ble_eq_true rfl⟩ (xce_57 G kp _ _) rfl rfl rfl (Nat.le_of_ble_eq_true rfl) hl.1 hR hS dX11_set_31 ⟨Nat.le_refl _, Nat.le_refl _⟩ (fun v6 I7 hf H locs hR hS => ?_)
      obtain ⟨h91, h92⟩ := Prod.mk.inj (Option.some.inj hf)
      subst h91
      subst h92
      exact x_iret hC hR hS dX11_set_34
  · refine lv_aload_n hC.1 hC.2.1 dX11_set_7 rfl (lv_at hl 0 rfl) ?_
    refine lv_bipush (v := (-2)) hC.1 hC.2.1 dX11_set_8 (by decide) ?_
    refine x_cvi10 (rest := []) hC xy_X11_hush tw_1391 hf (fun _ _ h => M_X11_hush G l kp h) ⟨Nat.le_of_ble_eq_true rfl, Nat.le_of_ble_eq_true rfl⟩ (xce_57 G kp _ _) rfl rfl rfl (Nat.le_of_ble_eq_true rfl) hl.1 hR hS dX11_set_10 ⟨Nat.le_refl _, Nat.le_refl _⟩ (fun v8 I9 hf H locs hR hS => ?_)
    obtain ⟨h91, h92⟩ := Prod.mk.inj (Option.some.inj hf)
    subst h91
    subst h92
    exact x_iret hC hR hS dX11_set_13
set_option maxRecDepth 20000 in
theorem W_X11_tear_j12 {G : XG} {l : Launch} {kp : Bool} {p : Program} {e : Env} {s : State} {m : MethodId} {args : Array Value} {below : List Frame} {meth : Method} {c : Code} (hC : xC G p s m args meth c cX11_tear 2 RX11 (some .int)) {I : xTI} {L : xTL} {r : Int32} {rI : xTI} {t0 : Int32} (hf : F_X11_tear_j12 I t0 = some (r, rI)) : ∀ (H : Heap) (locs : List Loc) (ls : Array Slot), xRep G kp I L H → xS G s.heap H locs → lv_has ls 2 [(0, .ref (xz G + 57))] → W p l e (xrm 0 0) s m args below meth c H locs 0 0 (xMQ G kp below args s (some (.int r)) rI L) (F0 m 12 ls [.int t0]) := by
  intro H locs ls hR hS hl
  unfold F_X11_tear_j12 at hf
  refine lv_istore_n (lv' := [(1, .int t0), (0, .ref (xz G + 57))]) hC.1 hC.2.1 dX11_tear_12 rfl hl (Nat.le_of_ble_eq_true rfl) rfl (fun ls hl => ?_)
  refine lv_aload_n hC.1 hC.2.1 dX11_tear_13 rfl (lv_at hl 1 rfl) ?_
  refine lv_iconst (v := 0) hC.1 hC.2.1 dX11_tear_14 (by decide) ?_
  refine x_putZ hC xf_X11_394 xp_11_47 (fun f => (xce_57 G kp f _)) rfl (Nat.le_of_ble_eq_true rfl) hR hS dX11_tear_15 hf (fun I1 hf H locs hR hS => ?_)
  refine lv_iload_n hC.1 hC.2.1 dX11_tear_18 rfl (lv_at hl 0 rfl) ?_
  obtain ⟨h91, h92⟩ := Prod.mk.inj (Option.some.inj hf)
  subst h91
  subst h92
  exact x_iret hC hR hS dX11_tear_19
set_option maxRecDepth 20000 in
theorem M_X11_tear (G : XG) (l : Launch) (kp : Bool) {I : xTI} {L : xTL} {r : Int32} {rI : xTI} (hf : F_X11_tear I = some (r, rI)) : xMet G l yX11_tear cX11_tear 2 (some .int) 0 0 kp [.ref (xz G + 57)] I L (some (.int r)) rI L := by
  refine xMet.ofW (by decide +kernel) (Nat.le_of_ble_eq_true rfl) ?_
  intro p e s m args below meth c hC H locs ls hR hS hl
  replace hC : xC G p s m args meth c cX11_tear 2 RX11 (some .int) := hC
  replace hl : lv_has ls 2 [(0, .ref (xz G + 57))] := hl
  unfold F_X11_tear at hf
  refine lv_aload_n hC.1 hC.2.1 dX11_tear_0 rfl (lv_at hl 0 rfl) ?_
  refine x_getI hC xf_X11_394 (xce_57 G kp _ _) rfl hR dX11_tear_1 hf (fun v1 hf => ?_)
  refine x_if_eq (tgt := 11) hC dX11_tear_4 (by decide) hf (fun hf => ?_) (fun hf => ?_)
  · refine lv_iconst (v := 0) hC.1 hC.2.1 dX11_tear_11 (by decide) ?_
    exact W_X11_tear_j12 hC hf _ _ _ hR hS (lv_sub hl [0] rfl)
  · refine lv_iconst (v := 1) hC.1 hC.2.1 dX11_tear_7 (by decide) ?_
    refine lv_goto (tgt := 12) hC.1 hC.2.1 dX11_tear_8 (by decide) ?_
    exact W_X11_tear_j12 hC hf _ _ _ hR hS (lv_sub hl [0] rfl)
set_option maxRecDepth 20000 in
theorem M_X11_row (G : XG) (l : Launch) (kp : Bool) {I : xTI} {L : xTL} {x1 : Int32} {r : Int32} {rI : xTI} (hf : F_X11_row I x1 = some (r, rI)) : xMet G l yX11_row cX11_row 2 (some .int) 1 22 kp [.ref (xz G + 57), .int x1] I L (some (.int r)) rI L := by
  refine xMet.ofW (by decide +kernel) (Nat.le_of_ble_eq_true rfl) ?_
  intro p e s m args below meth c hC H locs ls hR hS hl
  replace hC : xC G p s m args meth c cX11_row 2 RX11 (some .int) := hC
  replace hl : lv_has ls 2 [(0, .ref (xz G + 57)), (1, .int x1)] := hl
  unfold F_X11_row at hf
  refine lv_aload_n hC.1 hC.2.1 dX11_row_0 rfl (lv_at hl 0 rfl) ?_
  refine x_getI hC xf_X11_394 (xce_57 G kp _ _) rfl hR dX11_row_1 hf (fun v1 hf => ?_)
  refine x_if_ne (tgt := 14) hC dX11_row_4 (by decide) hf (fun hf => ?_) (fun hf => ?_)
  · refine lv_iload_n hC.1 hC.2.1 dX11_row_14 rfl (lv_at hl 1 rfl) ?_
    refine lv_iconst (v := 0) hC.1 hC.2.1 dX11_row_15 (by decide) ?_
    refine lv_aload_n hC.1 hC.2.1 dX11_row_16 rfl (lv_at hl 0 rfl) ?_
    refine x_getI hC xf_X11_397 (xce_57 G kp _ _) rfl hR dX11_row_17 hf (fun v2 hf => ?_)
    refine lv_iconst (v := 1) hC.1 hC.2.1 dX11_row_20 (by decide) ?_
    refine lv_isub hC.1 hC.2.1 dX11_row_21 ?_
    refine x_csi00 (rest := []) hC xy_X11_in tw_1335 hf (fun _ h => M_X11_in G l kp h) ⟨Nat.le_of_ble_eq_true rfl, Nat.le_of_ble_eq_true rfl⟩ rfl rfl (Nat.le_of_ble_eq_true rfl) hl.1 hR hS dX11_row_22 ⟨Nat.le_refl _, Nat.le_refl _⟩ (fun v3 hf H locs hR hS => ?_)
    refine x_if_eq (tgt := 37) hC dX11_row_25 (by decide) hf (fun hf => ?_) (fun hf => ?_)
    · refine lv_aload_n hC.1 hC.2.1 dX11_row_37 rfl (lv_at hl 0 rfl) ?_
      refine lv_bipush (v := (-3)) hC.1 hC.2.1 dX11_row_38 (by decide) ?_
      refine x_cvi10 (rest := []) hC xy_X11_hush tw_1391 hf (fun _ _ h => M_X11_hush G l kp h) ⟨Nat.le_of_ble_eq_true rfl, Nat.le_of_ble_eq_true rfl⟩ (xce_57 G kp _ _) rfl rfl rfl (Nat.le_of_ble_eq_true rfl) hl.1 hR hS dX11_row_40 ⟨Nat.le_refl _, Nat.le_refl _⟩ (fun v4 I5 hf H locs hR hS => ?_)
      obtain ⟨h91, h92⟩ := Prod.mk.inj (Option.some.inj hf)
      subst h91
      subst h92
      exact x_iret hC hR hS dX11_row_43
    · refine lv_aload_n hC.1 hC.2.1 dX11_row_28 rfl (lv_at hl 0 rfl) ?_
      refine x_get (v := .ref (xz G + 86)) hC xf_X11_101 (xce_57 G kp _ _) rfl hR dX11_row_29 ?_
      refine lv_iload_n hC.1 hC.2.1 dX11_row_32 rfl (lv_at hl 1 rfl) ?_
      refine x_ial hC (xce_86 G kp _ _) hR dX11_row_33 hf (fun v6 hf => ?_)
      refine lv_goto (tgt := 43) hC.1 hC.2.1 dX11_row_34 (by decide) ?_
      obtain ⟨h91, h92⟩ := Prod.mk.inj (Option.some.inj hf)
      subst h91
      subst h92
      exact x_iret hC hR hS dX11_row_43
  · refine lv_aload_n hC.1 hC.2.1 dX11_row_7 rfl (lv_at hl 0 rfl) ?_
    refine lv_bipush (v := (-2)) hC.1 hC.2.1 dX11_row_8 (by decide) ?_
    refine x_cvi10 (rest := []) hC xy_X11_hush tw_1391 hf (fun _ _ h => M_X11_hush G l kp h) ⟨Nat.le_of_ble_eq_true rfl, Nat.le_of_ble_eq_true rfl⟩ (xce_57 G kp _ _) rfl rfl rfl (Nat.le_of_ble_eq_true rfl) hl.1 hR hS dX11_row_10 ⟨Nat.le_refl _, Nat.le_refl _⟩ (fun v7 I8 hf H locs hR hS => ?_)
    obtain ⟨h91, h92⟩ := Prod.mk.inj (Option.some.inj hf)
    subst h91
    subst h92
    exact x_iret hC hR hS dX11_row_13
set_option maxRecDepth 20000 in
theorem W_X11_copy_j53 {G : XG} {l : Launch} {kp : Bool} {p : Program} {e : Env} {s : State} {m : MethodId} {args : Array Value} {below : List Frame} {meth : Method} {c : Code} (hC : xC G p s m args meth c cX11_copy 5 RX11 (some .int)) (N : Nat) {I : xTI} {L : xTL} {r : Int32} {rI : xTI} (hf : F_X11_copy_j53 N I = some (r, rI)) : ∀ (H : Heap) (locs : List Loc) (ls : Array Slot), xRep G kp I L H → xS G s.heap H locs → lv_has ls 5 [(0, .ref (xz G + 57))] → W p l e (xrm 1 21) s m args below meth c H locs 0 0 (xMQ G kp below args s (some (.int r)) rI L) (F0 m 53 ls []) := by
  intro H locs ls hR hS hl
  unfold F_X11_copy_j53 at hf
  refine lv_aload_n hC.1 hC.2.1 dX11_copy_53 rfl (lv_at hl 0 rfl) ?_
  refine lv_bipush (v := (-6)) hC.1 hC.2.1 dX11_copy_54 (by decide) ?_
  refine x_cvi10 (rest := []) hC xy_X11_refuse tw_1338 hf (fun _ _ h => M_X11_refuse G l kp h) ⟨Nat.le_of_ble_eq_true rfl, Nat.le_of_ble_eq_true rfl⟩ (xce_57 G kp _ _) rfl rfl rfl (Nat.le_of_ble_eq_true rfl) hl.1 hR hS dX11_copy_56 ⟨Nat.le_refl _, Nat.le_refl _⟩ (fun v1 I2 hf H locs hR hS => ?_)
  obtain ⟨h91, h92⟩ := Prod.mk.inj (Option.some.inj hf)
  subst h91
  subst h92
  exact x_iret hC hR hS dX11_copy_59
set_option maxRecDepth 20000 in
theorem W_X11_copy_l103 {G : XG} {l : Launch} {kp : Bool} {p : Program} {e : Env} {s : State} {m : MethodId} {args : Array Value} {below : List Frame} {meth : Method} {c : Code} (hC : xC G p s m args meth c cX11_copy 5 RX11 (some .int)) (N : Nat) {L : xTL} {r : Int32} {rI : xTI} {x1 : Int32} {x2 : Int32} {x3 : Int32} : ∀ (n : Nat) (x4 : Int32) (I : xTI) , xlp (F_X11_copy_b103 N x1 x2 x3 ) n (x4, I) = some (r, rI) → ∀ (H : Heap) (locs : List Loc) (ls : Array Slot), xRep G kp I L H → xS G s.heap H locs → lv_has ls 5 [(0, .ref (xz G + 57)), (1, .int x1), (2, .int x2), (3, .int x3), (4, .int x4)] → W p l e (xrm 1 21) s m args below meth c H locs 0 0 (xMQ G kp below args s (some (.int r)) rI L) (F0 m 103 ls []) := by
  intro n
  induction n with
  | zero =>
    intro x4 I hf
    cases hf
  | succ n hk103 =>
    intro x4 I hf H locs ls hR hS hl
    rw [xlp_s, E_X11_copy_b103] at hf
    unfold F_X11_copy_c103 at hf
    refine lv_iload hC.1 hC.2.1 dX11_copy_103 (lv_at hl 4 rfl) ?_
    refine x_if_lt (tgt := 137) hC dX11_copy_105 (by decide) hf (fun hf => ?_) (fun hf => ?_)
    · refine lv_iload_n hC.1 hC.2.1 dX11_copy_137 rfl (lv_at hl 3 rfl) ?_
      obtain ⟨h91, h92⟩ := Prod.mk.inj (Option.some.inj hf)
      subst h91
      subst h92
      exact x_iret hC hR hS dX11_copy_138
    · refine lv_iload_n hC.1 hC.2.1 dX11_copy_108 rfl (lv_at hl 1 rfl) ?_
      refine lv_iload_n hC.1 hC.2.1 dX11_copy_109 rfl (lv_at hl 2 rfl) ?_
      refine x_ic_ge (tgt := 137) hC dX11_copy_110 (by decide) hf (fun hf => ?_) (fun hf => ?_)
      · refine lv_iload_n hC.1 hC.2.1 dX11_copy_137 rfl (lv_at hl 3 rfl) ?_
        obtain ⟨h91, h92⟩ := Prod.mk.inj (Option.some.inj hf)
        subst h91
        subst h92
        exact x_iret hC hR hS dX11_copy_138
      · refine lv_aload_n hC.1 hC.2.1 dX11_copy_113 rfl (lv_at hl 0 rfl) ?_
        refine x_get (v := .ref (xz G + 86)) hC xf_X11_101 (xce_57 G kp _ _) rfl hR dX11_copy_114 ?_
        refine lv_iload_n hC.1 hC.2.1 dX11_copy_117 rfl (lv_at hl 2 rfl) ?_
        refine lv_iload hC.1 hC.2.1 dX11_copy_118 (lv_at hl 4 rfl) ?_
        refine lv_iadd hC.1 hC.2.1 dX11_copy_120 ?_
        refine lv_aload_n hC.1 hC.2.1 dX11_copy_121 rfl (lv_at hl 0 rfl) ?_
        refine x_get (v := .ref (xz G + 86)) hC xf_X11_101 (xce_57 G kp _ _) rfl hR dX11_copy_122 ?_
        refine lv_iload_n hC.1 hC.2.1 dX11_copy_125 rfl (lv_at hl 1 rfl) ?_
        refine lv_iload hC.1 hC.2.1 dX11_copy_126 (lv_at hl 4 rfl) ?_
        refine lv_iadd hC.1 hC.2.1 dX11_copy_128 ?_
        refine x_ial hC (xce_86 G kp _ _) hR dX11_copy_129 hf (fun v1 hf => ?_)
        refine W.eq (g2 := F0 m 130 ls [.int v1, .int (x2 + x4), .ref (xz G + 86)]) rfl ?_
        refine x_ias hC (fun f => (xce_86 G kp f _)) hR hS dX11_copy_130 hf (fun I2 hf H locs hR hS => ?_)
        refine x_iinc (d := (-1)) (lv' := fun y3 => [(4, .int y3), (0, .ref (xz G + 57)), (1, .int x1), (2, .int x2), (3, .int x3)]) (k := 4) hC hl dX11_copy_131 rfl (by decide) (Nat.le_of_ble_eq_true rfl) hf (fun _ => rfl) (fun y3 hf ls hl => ?_)
        refine lv_goto (tgt := 103) hC.1 hC.2.1 dX11_copy_134 (by decide) ?_
        exact hk103 y3 I2 hf _ _ _ hR hS (lv_sub hl [1, 2, 3, 4, 0] rfl)
set_option maxRecDepth 20000 in
theorem W_X11_copy_j98 {G : XG} {l : Launch} {kp : Bool} {p : Program} {e : Env} {s : State} {m : MethodId} {args : Array Value} {below : List Frame} {meth : Method} {c : Code} (hC : xC G p s m args meth c cX11_copy 5 RX11 (some .int)) (N : Nat) {I : xTI} {L : xTL} {r : Int32} {rI : xTI} {x1 : Int32} {x2 : Int32} {x3 : Int32} (hf : F_X11_copy_j98 N I x1 x2 x3 = some (r, rI)) : ∀ (H : Heap) (locs : List Loc) (ls : Array Slot), xRep G kp I L H → xS G s.heap H locs → lv_has ls 5 [(0, .ref (xz G + 57)), (1, .int x1), (2, .int x2), (3, .int x3)] → W p l e (xrm 1 21) s m args below meth c H locs 0 0 (xMQ G kp below args s (some (.int r)) rI L) (F0 m 98 ls []) := by
  intro H locs ls hR hS hl
  unfold F_X11_copy_j98 at hf
  refine lv_iload_n hC.1 hC.2.1 dX11_copy_98 rfl (lv_at hl 3 rfl) ?_
  refine lv_iconst (v := 1) hC.1 hC.2.1 dX11_copy_99 (by decide) ?_
  refine lv_isub hC.1 hC.2.1 dX11_copy_100 ?_
  refine x_ist (lv' := fun y1 => [(4, .int y1), (0, .ref (xz G + 57)), (1, .int x1), (2, .int x2), (3, .int x3)]) hC hl dX11_copy_101 (Nat.le_of_ble_eq_true rfl) hf (fun _ => rfl) (fun y1 hf ls hl => ?_)
  exact W_X11_copy_l103 hC N _ y1 I hf _ _ _ hR hS (lv_sub hl [1, 2, 3, 4, 0] rfl)
set_option maxRecDepth 20000 in
theorem W_X11_copy_l63 {G : XG} {l : Launch} {kp : Bool} {p : Program} {e : Env} {s : State} {m : MethodId} {args : Array Value} {below : List Frame} {meth : Method} {c : Code} (hC : xC G p s m args meth c cX11_copy 5 RX11 (some .int)) (N : Nat) {L : xTL} {r : Int32} {rI : xTI} {x1 : Int32} {x2 : Int32} {x3 : Int32} : ∀ (n : Nat) (x4 : Int32) (I : xTI) , xlp (F_X11_copy_b63 N x1 x2 x3 ) n (x4, I) = some (r, rI) → ∀ (H : Heap) (locs : List Loc) (ls : Array Slot), xRep G kp I L H → xS G s.heap H locs → lv_has ls 5 [(0, .ref (xz G + 57)), (1, .int x1), (2, .int x2), (3, .int x3), (4, .int x4)] → W p l e (xrm 1 21) s m args below meth c H locs 0 0 (xMQ G kp below args s (some (.int r)) rI L) (F0 m 63 ls []) := by
  intro n
  induction n with
  | zero =>
    intro x4 I hf
    cases hf
  | succ n hk63 =>
    intro x4 I hf H locs ls hR hS hl
    rw [xlp_s, E_X11_copy_b63] at hf
    unfold F_X11_copy_c63 at hf
    refine lv_iload hC.1 hC.2.1 dX11_copy_63 (lv_at hl 4 rfl) ?_
    refine lv_iload_n hC.1 hC.2.1 dX11_copy_65 rfl (lv_at hl 3 rfl) ?_
    refine x_ic_ge (tgt := 98) hC dX11_copy_66 (by decide) hf (fun hf => ?_) (fun hf => ?_)
    · exact W_X11_copy_j98 hC N hf _ _ _ hR hS (lv_sub hl [0, 1, 2, 3] rfl)
    · refine lv_iload_n hC.1 hC.2.1 dX11_copy_69 rfl (lv_at hl 1 rfl) ?_
      refine lv_iload_n hC.1 hC.2.1 dX11_copy_70 rfl (lv_at hl 2 rfl) ?_
      refine x_ic_lt (tgt := 98) hC dX11_copy_71 (by decide) hf (fun hf => ?_) (fun hf => ?_)
      · exact W_X11_copy_j98 hC N hf _ _ _ hR hS (lv_sub hl [0, 1, 2, 3] rfl)
      · refine lv_aload_n hC.1 hC.2.1 dX11_copy_74 rfl (lv_at hl 0 rfl) ?_
        refine x_get (v := .ref (xz G + 86)) hC xf_X11_101 (xce_57 G kp _ _) rfl hR dX11_copy_75 ?_
        refine lv_iload_n hC.1 hC.2.1 dX11_copy_78 rfl (lv_at hl 2 rfl) ?_
        refine lv_iload hC.1 hC.2.1 dX11_copy_79 (lv_at hl 4 rfl) ?_
        refine lv_iadd hC.1 hC.2.1 dX11_copy_81 ?_
        refine lv_aload_n hC.1 hC.2.1 dX11_copy_82 rfl (lv_at hl 0 rfl) ?_
        refine x_get (v := .ref (xz G + 86)) hC xf_X11_101 (xce_57 G kp _ _) rfl hR dX11_copy_83 ?_
        refine lv_iload_n hC.1 hC.2.1 dX11_copy_86 rfl (lv_at hl 1 rfl) ?_
        refine lv_iload hC.1 hC.2.1 dX11_copy_87 (lv_at hl 4 rfl) ?_
        refine lv_iadd hC.1 hC.2.1 dX11_copy_89 ?_
        refine x_ial hC (xce_86 G kp _ _) hR dX11_copy_90 hf (fun v1 hf => ?_)
        refine W.eq (g2 := F0 m 91 ls [.int v1, .int (x2 + x4), .ref (xz G + 86)]) rfl ?_
        refine x_ias hC (fun f => (xce_86 G kp f _)) hR hS dX11_copy_91 hf (fun I2 hf H locs hR hS => ?_)
        refine x_iinc (d := 1) (lv' := fun y3 => [(4, .int y3), (0, .ref (xz G + 57)), (1, .int x1), (2, .int x2), (3, .int x3)]) (k := 4) hC hl dX11_copy_92 rfl (by decide) (Nat.le_of_ble_eq_true rfl) hf (fun _ => rfl) (fun y3 hf ls hl => ?_)
        refine lv_goto (tgt := 63) hC.1 hC.2.1 dX11_copy_95 (by decide) ?_
        exact hk63 y3 I2 hf _ _ _ hR hS (lv_sub hl [1, 2, 3, 4, 0] rfl)
set_option maxRecDepth 20000 in
theorem M_X11_copy (G : XG) (l : Launch) (kp : Bool) (N : Nat) {I : xTI} {L : xTL} {x1 : Int32} {x2 : Int32} {x3 : Int32} {r : Int32} {rI : xTI} (hf : F_X11_copy N I x1 x2 x3 = some (r, rI)) : xMet G l yX11_copy cX11_copy 5 (some .int) 1 21 kp [.ref (xz G + 57), .int x1, .int x2, .int x3] I L (some (.int r)) rI L := by
  refine xMet.ofW (by decide +kernel) (Nat.le_of_ble_eq_true rfl) ?_
  intro p e s m args below meth c hC H locs ls hR hS hl
  replace hC : xC G p s m args meth c cX11_copy 5 RX11 (some .int) := hC
  replace hl : lv_has ls 5 [(0, .ref (xz G + 57)), (1, .int x1), (2, .int x2), (3, .int x3)] := hl
  unfold F_X11_copy at hf
  refine lv_aload_n hC.1 hC.2.1 dX11_copy_0 rfl (lv_at hl 0 rfl) ?_
  refine x_getI hC xf_X11_394 (xce_57 G kp _ _) rfl hR dX11_copy_1 hf (fun v1 hf => ?_)
  refine x_if_ne (tgt := 14) hC dX11_copy_4 (by decide) hf (fun hf => ?_) (fun hf => ?_)
  · refine lv_iload_n hC.1 hC.2.1 dX11_copy_14 rfl (lv_at hl 3 rfl) ?_
    refine x_if_ge (tgt := 25) hC dX11_copy_15 (by decide) hf (fun hf => ?_) (fun hf => ?_)
    · refine lv_iload_n hC.1 hC.2.1 dX11_copy_25 rfl (lv_at hl 1 rfl) ?_
      refine x_if_lt (tgt := 53) hC dX11_copy_26 (by decide) hf (fun hf => ?_) (fun hf => ?_)
      · exact W_X11_copy_j53 hC N hf _ _ _ hR hS (lv_sub hl [0] rfl)
      · refine lv_iload_n hC.1 hC.2.1 dX11_copy_29 rfl (lv_at hl 2 rfl) ?_
        refine x_if_lt (tgt := 53) hC dX11_copy_30 (by decide) hf (fun hf => ?_) (fun hf => ?_)
        · exact W_X11_copy_j53 hC N hf _ _ _ hR hS (lv_sub hl [0] rfl)
        · refine lv_iload_n hC.1 hC.2.1 dX11_copy_33 rfl (lv_at hl 1 rfl) ?_
          refine lv_aload_n hC.1 hC.2.1 dX11_copy_34 rfl (lv_at hl 0 rfl) ?_
          refine x_getI hC xf_X11_397 (xce_57 G kp _ _) rfl hR dX11_copy_35 hf (fun v2 hf => ?_)
          refine lv_iload_n hC.1 hC.2.1 dX11_copy_38 rfl (lv_at hl 3 rfl) ?_
          refine lv_isub hC.1 hC.2.1 dX11_copy_39 ?_
          refine x_ic_gt (tgt := 53) hC dX11_copy_40 (by decide) hf (fun hf => ?_) (fun hf => ?_)
          · exact W_X11_copy_j53 hC N hf _ _ _ hR hS (lv_sub hl [0] rfl)
          · refine lv_iload_n hC.1 hC.2.1 dX11_copy_43 rfl (lv_at hl 2 rfl) ?_
            refine lv_aload_n hC.1 hC.2.1 dX11_copy_44 rfl (lv_at hl 0 rfl) ?_
            refine x_getI hC xf_X11_397 (xce_57 G kp _ _) rfl hR dX11_copy_45 hf (fun v3 hf => ?_)
            refine lv_iload_n hC.1 hC.2.1 dX11_copy_48 rfl (lv_at hl 3 rfl) ?_
            refine lv_isub hC.1 hC.2.1 dX11_copy_49 ?_
            refine x_ic_le (tgt := 60) hC dX11_copy_50 (by decide) hf (fun hf => ?_) (fun hf => ?_)
            · refine lv_iconst (v := 0) hC.1 hC.2.1 dX11_copy_60 (by decide) ?_
              refine lv_istore (lv' := [(4, .int 0), (0, .ref (xz G + 57)), (1, .int x1), (2, .int x2), (3, .int x3)]) hC.1 hC.2.1 dX11_copy_61 hl (Nat.le_of_ble_eq_true rfl) rfl (fun ls hl => ?_)
              exact W_X11_copy_l63 hC N _ 0 I hf _ _ _ hR hS (lv_sub hl [1, 2, 3, 4, 0] rfl)
            · exact W_X11_copy_j53 hC N hf _ _ _ hR hS (lv_sub hl [0] rfl)
    · refine lv_aload_n hC.1 hC.2.1 dX11_copy_18 rfl (lv_at hl 0 rfl) ?_
      refine lv_bipush (v := (-4)) hC.1 hC.2.1 dX11_copy_19 (by decide) ?_
      refine x_cvi10 (rest := []) hC xy_X11_refuse tw_1338 hf (fun _ _ h => M_X11_refuse G l kp h) ⟨Nat.le_of_ble_eq_true rfl, Nat.le_of_ble_eq_true rfl⟩ (xce_57 G kp _ _) rfl rfl rfl (Nat.le_of_ble_eq_true rfl) hl.1 hR hS dX11_copy_21 ⟨Nat.le_refl _, Nat.le_refl _⟩ (fun v4 I5 hf H locs hR hS => ?_)
      obtain ⟨h91, h92⟩ := Prod.mk.inj (Option.some.inj hf)
      subst h91
      subst h92
      exact x_iret hC hR hS dX11_copy_24
  · refine lv_aload_n hC.1 hC.2.1 dX11_copy_7 rfl (lv_at hl 0 rfl) ?_
    refine lv_bipush (v := (-2)) hC.1 hC.2.1 dX11_copy_8 (by decide) ?_
    refine x_cvi10 (rest := []) hC xy_X11_refuse tw_1338 hf (fun _ _ h => M_X11_refuse G l kp h) ⟨Nat.le_of_ble_eq_true rfl, Nat.le_of_ble_eq_true rfl⟩ (xce_57 G kp _ _) rfl rfl rfl (Nat.le_of_ble_eq_true rfl) hl.1 hR hS dX11_copy_10 ⟨Nat.le_refl _, Nat.le_refl _⟩ (fun v6 I7 hf H locs hR hS => ?_)
    obtain ⟨h91, h92⟩ := Prod.mk.inj (Option.some.inj hf)
    subst h91
    subst h92
    exact x_iret hC hR hS dX11_copy_13
set_option maxRecDepth 20000 in
theorem M_X3_takeOver_89_3 (G : XG) (l : Launch) {I : xTI} {L : xTL} {rI : xTI} {rL : xTL} (hf : F_X3_takeOver_89_3 I L = some (rI, rL)) : xMet G l yX3_takeOver cX3_takeOver 2 none 1 119 true [.ref (xz G + 89), .ref (xz G + 3)] I L none rI rL := by
  refine xMet.ofW (by decide +kernel) (Nat.le_of_ble_eq_true rfl) ?_
  intro p e s m args below meth c hC H locs ls hR hS hl
  replace hC : xC G p s m args meth c cX3_takeOver 2 RX3 none := hC
  replace hl : lv_has ls 2 [(0, .ref (xz G + 89)), (1, .ref (xz G + 3))] := hl
  unfold F_X3_takeOver_89_3 at hf
  refine lv_aload_n hC.1 hC.2.1 dX3_takeOver_0 rfl (lv_at hl 0 rfl) ?_
  refine lv_aload_n hC.1 hC.2.1 dX3_takeOver_1 rfl (lv_at hl 1 rfl) ?_
  refine x_getI hC xf_X3_34 (xce_3 G true _ _) rfl hR dX3_takeOver_2 hf (fun v1 hf => ?_)
  refine x_putI hC xf_X3_34 xp_3_0 (fun f => (xce_89 G f _)) rfl (Nat.le_of_ble_eq_true rfl) hR hS dX3_takeOver_5 hf (fun I2 hf H locs hR hS => ?_)
  refine lv_aload_n hC.1 hC.2.1 dX3_takeOver_8 rfl (lv_at hl 1 rfl) ?_
  refine x_get (v := .ref (xz G + 4)) hC xf_X3_9 (xce_3 G true _ _) rfl hR dX3_takeOver_9 ?_
  refine lv_iconst (v := 0) hC.1 hC.2.1 dX3_takeOver_12 (by decide) ?_
  refine lv_aload_n hC.1 hC.2.1 dX3_takeOver_13 rfl (lv_at hl 0 rfl) ?_
  refine x_get (v := .ref (xz G + 90)) hC xf_X3_9 (xce_89 G _ _) rfl hR dX3_takeOver_14 ?_
  refine lv_iconst (v := 0) hC.1 hC.2.1 dX3_takeOver_17 (by decide) ?_
  refine lv_bipush (v := 12) hC.1 hC.2.1 dX3_takeOver_18 (by decide) ?_
  refine W.eq (g2 := F0 m 20 ls [.int 12, .int 0, .ref (xz G + 90), .int 0, .ref (xz G + 4)]) rfl ?_
  refine x_cpl (rest := []) hC tw_1137 (xce_4 G true _ _) (fun f => (xce_90 G _ f)) hl.1 hR hS (Nat.le_of_ble_eq_true rfl) (Nat.le_of_ble_eq_true rfl) dX3_takeOver_20 hf (fun L3 hf H locs hR hS => ?_)
  refine lv_aload_n hC.1 hC.2.1 dX3_takeOver_23 rfl (lv_at hl 1 rfl) ?_
  refine x_get (v := .ref (xz G + 5)) hC xf_X3_15 (xce_3 G true _ _) rfl hR dX3_takeOver_24 ?_
  refine lv_iconst (v := 0) hC.1 hC.2.1 dX3_takeOver_27 (by decide) ?_
  refine lv_aload_n hC.1 hC.2.1 dX3_takeOver_28 rfl (lv_at hl 0 rfl) ?_
  refine x_get (v := .ref (xz G + 91)) hC xf_X3_15 (xce_89 G _ _) rfl hR dX3_takeOver_29 ?_
  refine lv_iconst (v := 0) hC.1 hC.2.1 dX3_takeOver_32 (by decide) ?_
  refine lv_bipush (v := 12) hC.1 hC.2.1 dX3_takeOver_33 (by decide) ?_
  refine x_cpl (rest := []) hC tw_1137 (xce_5 G true _ _) (fun f => (xce_91 G _ f)) hl.1 hR hS (Nat.le_of_ble_eq_true rfl) (Nat.le_of_ble_eq_true rfl) dX3_takeOver_35 hf (fun L4 hf H locs hR hS => ?_)
  refine lv_aload_n hC.1 hC.2.1 dX3_takeOver_38 rfl (lv_at hl 1 rfl) ?_
  refine x_get (v := .ref (xz G + 6)) hC xf_X3_18 (xce_3 G true _ _) rfl hR dX3_takeOver_39 ?_
  refine lv_iconst (v := 0) hC.1 hC.2.1 dX3_takeOver_42 (by decide) ?_
  refine W.eq (g2 := F0 m 43 ls [.int 0, .ref (xz G + 6)]) rfl ?_
  refine lv_aload_n hC.1 hC.2.1 dX3_takeOver_43 rfl (lv_at hl 0 rfl) ?_
  refine x_get (v := .ref (xz G + 92)) hC xf_X3_18 (xce_89 G _ _) rfl hR dX3_takeOver_44 ?_
  refine lv_iconst (v := 0) hC.1 hC.2.1 dX3_takeOver_47 (by decide) ?_
  refine lv_sipush (v := 144) hC.1 hC.2.1 dX3_takeOver_48 (by decide) ?_
  refine x_cpl (rest := []) hC tw_1137 (xce_6 G true _ _) (fun f => (xce_92 G _ f)) hl.1 hR hS (Nat.le_of_ble_eq_true rfl) (Nat.le_of_ble_eq_true rfl) dX3_takeOver_51 hf (fun L5 hf H locs hR hS => ?_)
  refine lv_aload_n hC.1 hC.2.1 dX3_takeOver_54 rfl (lv_at hl 1 rfl) ?_
  refine x_get (v := .ref (xz G + 7)) hC xf_X3_21 (xce_3 G true _ _) rfl hR dX3_takeOver_55 ?_
  refine lv_iconst (v := 0) hC.1 hC.2.1 dX3_takeOver_58 (by decide) ?_
  refine lv_aload_n hC.1 hC.2.1 dX3_takeOver_59 rfl (lv_at hl 0 rfl) ?_
  refine x_get (v := .ref (xz G + 93)) hC xf_X3_21 (xce_89 G _ _) rfl hR dX3_takeOver_60 ?_
  refine lv_iconst (v := 0) hC.1 hC.2.1 dX3_takeOver_63 (by decide) ?_
  refine lv_bipush (v := 12) hC.1 hC.2.1 dX3_takeOver_64 (by decide) ?_
  refine W.eq (g2 := F0 m 66 ls [.int 12, .int 0, .ref (xz G + 93), .int 0, .ref (xz G + 7)]) rfl ?_
  refine x_cpi (rest := []) hC tw_1137 (xce_7 G true _ _) (fun f => (xce_93 G f _)) hl.1 hR hS (Nat.le_of_ble_eq_true rfl) (Nat.le_of_ble_eq_true rfl) dX3_takeOver_66 hf (fun I6 hf H locs hR hS => ?_)
  refine lv_aload_n hC.1 hC.2.1 dX3_takeOver_69 rfl (lv_at hl 1 rfl) ?_
  refine x_get (v := .ref (xz G + 8)) hC xf_X3_25 (xce_3 G true _ _) rfl hR dX3_takeOver_70 ?_
  refine lv_iconst (v := 0) hC.1 hC.2.1 dX3_takeOver_73 (by decide) ?_
  refine lv_aload_n hC.1 hC.2.1 dX3_takeOver_74 rfl (lv_at hl 0 rfl) ?_
  refine x_get (v := .ref (xz G + 94)) hC xf_X3_25 (xce_89 G _ _) rfl hR dX3_takeOver_75 ?_
  refine lv_iconst (v := 0) hC.1 hC.2.1 dX3_takeOver_78 (by decide) ?_
  refine lv_bipush (v := 12) hC.1 hC.2.1 dX3_takeOver_79 (by decide) ?_
  refine x_cpi (rest := []) hC tw_1137 (xce_8 G true _ _) (fun f => (xce_94 G f _)) hl.1 hR hS (Nat.le_of_ble_eq_true rfl) (Nat.le_of_ble_eq_true rfl) dX3_takeOver_81 hf (fun I7 hf H locs hR hS => ?_)
  refine lv_aload_n hC.1 hC.2.1 dX3_takeOver_84 rfl (lv_at hl 1 rfl) ?_
  refine x_get (v := .ref (xz G + 9)) hC xf_X3_28 (xce_3 G true _ _) rfl hR dX3_takeOver_85 ?_
  refine lv_iconst (v := 0) hC.1 hC.2.1 dX3_takeOver_88 (by decide) ?_
  refine W.eq (g2 := F0 m 89 ls [.int 0, .ref (xz G + 9)]) rfl ?_
  refine lv_aload_n hC.1 hC.2.1 dX3_takeOver_89 rfl (lv_at hl 0 rfl) ?_
  refine x_get (v := .ref (xz G + 95)) hC xf_X3_28 (xce_89 G _ _) rfl hR dX3_takeOver_90 ?_
  refine lv_iconst (v := 0) hC.1 hC.2.1 dX3_takeOver_93 (by decide) ?_
  refine lv_bipush (v := 60) hC.1 hC.2.1 dX3_takeOver_94 (by decide) ?_
  refine x_cpi (rest := []) hC tw_1137 (xce_9 G true _ _) (fun f => (xce_95 G f _)) hl.1 hR hS (Nat.le_of_ble_eq_true rfl) (Nat.le_of_ble_eq_true rfl) dX3_takeOver_96 hf (fun I8 hf H locs hR hS => ?_)
  refine lv_aload_n hC.1 hC.2.1 dX3_takeOver_99 rfl (lv_at hl 1 rfl) ?_
  refine x_get (v := .ref (xz G + 10)) hC xf_X3_31 (xce_3 G true _ _) rfl hR dX3_takeOver_100 ?_
  refine lv_iconst (v := 0) hC.1 hC.2.1 dX3_takeOver_103 (by decide) ?_
  refine lv_aload_n hC.1 hC.2.1 dX3_takeOver_104 rfl (lv_at hl 0 rfl) ?_
  refine x_get (v := .ref (xz G + 96)) hC xf_X3_31 (xce_89 G _ _) rfl hR dX3_takeOver_105 ?_
  refine lv_iconst (v := 0) hC.1 hC.2.1 dX3_takeOver_108 (by decide) ?_
  refine lv_bipush (v := 60) hC.1 hC.2.1 dX3_takeOver_109 (by decide) ?_
  refine W.eq (g2 := F0 m 111 ls [.int 60, .int 0, .ref (xz G + 96), .int 0, .ref (xz G + 10)]) rfl ?_
  refine x_cpi (rest := []) hC tw_1137 (xce_10 G true _ _) (fun f => (xce_96 G f _)) hl.1 hR hS (Nat.le_of_ble_eq_true rfl) (Nat.le_of_ble_eq_true rfl) dX3_takeOver_111 hf (fun I9 hf H locs hR hS => ?_)
  obtain ⟨h91, h92⟩ := Prod.mk.inj (Option.some.inj hf)
  subst h91
  subst h92
  exact x_vret hC hR hS dX3_takeOver_114
set_option maxRecDepth 20000 in
theorem M_X8_takeOver_98_12 (G : XG) (l : Launch) {I : xTI} {L : xTL} {rI : xTI} (hf : F_X8_takeOver_98_12 I = some rI) : xMet G l yX8_takeOver cX8_takeOver 2 none 1 119 true [.ref (xz G + 98), .ref (xz G + 12)] I L none rI L := by
  refine xMet.ofW (by decide +kernel) (Nat.le_of_ble_eq_true rfl) ?_
  intro p e s m args below meth c hC H locs ls hR hS hl
  replace hC : xC G p s m args meth c cX8_takeOver 2 RX8 none := hC
  replace hl : lv_has ls 2 [(0, .ref (xz G + 98)), (1, .ref (xz G + 12))] := hl
  unfold F_X8_takeOver_98_12 at hf
  refine lv_aload_n hC.1 hC.2.1 dX8_takeOver_0 rfl (lv_at hl 0 rfl) ?_
  refine lv_aload_n hC.1 hC.2.1 dX8_takeOver_1 rfl (lv_at hl 1 rfl) ?_
  refine x_getI hC xf_X8_20 (xce_12 G true _ _) rfl hR dX8_takeOver_2 hf (fun v1 hf => ?_)
  refine x_putI hC xf_X8_20 xp_8_3 (fun f => (xce_98 G f _)) rfl (Nat.le_of_ble_eq_true rfl) hR hS dX8_takeOver_5 hf (fun I2 hf H locs hR hS => ?_)
  refine lv_aload_n hC.1 hC.2.1 dX8_takeOver_8 rfl (lv_at hl 1 rfl) ?_
  refine x_get (v := .ref (xz G + 13)) hC xf_X8_16 (xce_12 G true _ _) rfl hR dX8_takeOver_9 ?_
  refine lv_iconst (v := 0) hC.1 hC.2.1 dX8_takeOver_12 (by decide) ?_
  refine lv_aload_n hC.1 hC.2.1 dX8_takeOver_13 rfl (lv_at hl 0 rfl) ?_
  refine x_get (v := .ref (xz G + 99)) hC xf_X8_16 (xce_98 G _ _) rfl hR dX8_takeOver_14 ?_
  refine lv_iconst (v := 0) hC.1 hC.2.1 dX8_takeOver_17 (by decide) ?_
  refine lv_aload_n hC.1 hC.2.1 dX8_takeOver_18 rfl (lv_at hl 0 rfl) ?_
  refine W.eq (g2 := F0 m 19 ls [.ref (xz G + 98), .int 0, .ref (xz G + 99), .int 0, .ref (xz G + 13)]) rfl ?_
  refine x_get (v := .ref (xz G + 99)) hC xf_X8_16 (xce_98 G _ _) rfl hR dX8_takeOver_19 ?_
  refine x_alen_i (v := 660) hC (xce_99 G _ _) rfl hR dX8_takeOver_22 ?_
  refine lv_aload_n hC.1 hC.2.1 dX8_takeOver_23 rfl (lv_at hl 1 rfl) ?_
  refine x_get (v := .ref (xz G + 13)) hC xf_X8_16 (xce_12 G true _ _) rfl hR dX8_takeOver_24 ?_
  refine x_alen_i (v := 660) hC (xce_13 G true _ _) rfl hR dX8_takeOver_27 ?_
  refine x_mni (rest := [.int 0, .ref (xz G + 99), .int 0, .ref (xz G + 13)]) hC tw_1142 hl.1 (Nat.le_of_ble_eq_true rfl) (Nat.le_of_ble_eq_true rfl) dX8_takeOver_28 ⟨Nat.le_refl _, Nat.le_refl _⟩ hf (fun v3 hf => ?_)
  refine x_cpi (rest := []) hC tw_1143 (xce_13 G true _ _) (fun f => (xce_99 G f _)) hl.1 hR hS (Nat.le_of_ble_eq_true rfl) (Nat.le_of_ble_eq_true rfl) dX8_takeOver_31 hf (fun I4 hf H locs hR hS => ?_)
  have h9 := Option.some.inj hf
  subst h9
  exact x_vret hC hR hS dX8_takeOver_34
set_option maxRecDepth 20000 in
theorem M_X8_takeOver_101_15 (G : XG) (l : Launch) {I : xTI} {L : xTL} {rI : xTI} (hf : F_X8_takeOver_101_15 I = some rI) : xMet G l yX8_takeOver cX8_takeOver 2 none 1 119 true [.ref (xz G + 101), .ref (xz G + 15)] I L none rI L := by
  refine xMet.ofW (by decide +kernel) (Nat.le_of_ble_eq_true rfl) ?_
  intro p e s m args below meth c hC H locs ls hR hS hl
  replace hC : xC G p s m args meth c cX8_takeOver 2 RX8 none := hC
  replace hl : lv_has ls 2 [(0, .ref (xz G + 101)), (1, .ref (xz G + 15))] := hl
  unfold F_X8_takeOver_101_15 at hf
  refine lv_aload_n hC.1 hC.2.1 dX8_takeOver_0 rfl (lv_at hl 0 rfl) ?_
  refine lv_aload_n hC.1 hC.2.1 dX8_takeOver_1 rfl (lv_at hl 1 rfl) ?_
  refine x_getI hC xf_X8_20 (xce_15 G true _ _) rfl hR dX8_takeOver_2 hf (fun v1 hf => ?_)
  refine x_putI hC xf_X8_20 xp_8_3 (fun f => (xce_101 G f _)) rfl (Nat.le_of_ble_eq_true rfl) hR hS dX8_takeOver_5 hf (fun I2 hf H locs hR hS => ?_)
  refine lv_aload_n hC.1 hC.2.1 dX8_takeOver_8 rfl (lv_at hl 1 rfl) ?_
  refine x_get (v := .ref (xz G + 16)) hC xf_X8_16 (xce_15 G true _ _) rfl hR dX8_takeOver_9 ?_
  refine lv_iconst (v := 0) hC.1 hC.2.1 dX8_takeOver_12 (by decide) ?_
  refine lv_aload_n hC.1 hC.2.1 dX8_takeOver_13 rfl (lv_at hl 0 rfl) ?_
  refine x_get (v := .ref (xz G + 102)) hC xf_X8_16 (xce_101 G _ _) rfl hR dX8_takeOver_14 ?_
  refine lv_iconst (v := 0) hC.1 hC.2.1 dX8_takeOver_17 (by decide) ?_
  refine lv_aload_n hC.1 hC.2.1 dX8_takeOver_18 rfl (lv_at hl 0 rfl) ?_
  refine W.eq (g2 := F0 m 19 ls [.ref (xz G + 101), .int 0, .ref (xz G + 102), .int 0, .ref (xz G + 16)]) rfl ?_
  refine x_get (v := .ref (xz G + 102)) hC xf_X8_16 (xce_101 G _ _) rfl hR dX8_takeOver_19 ?_
  refine x_alen_i (v := 60) hC (xce_102 G _ _) rfl hR dX8_takeOver_22 ?_
  refine lv_aload_n hC.1 hC.2.1 dX8_takeOver_23 rfl (lv_at hl 1 rfl) ?_
  refine x_get (v := .ref (xz G + 16)) hC xf_X8_16 (xce_15 G true _ _) rfl hR dX8_takeOver_24 ?_
  refine x_alen_i (v := 60) hC (xce_16 G true _ _) rfl hR dX8_takeOver_27 ?_
  refine x_mni (rest := [.int 0, .ref (xz G + 102), .int 0, .ref (xz G + 16)]) hC tw_1142 hl.1 (Nat.le_of_ble_eq_true rfl) (Nat.le_of_ble_eq_true rfl) dX8_takeOver_28 ⟨Nat.le_refl _, Nat.le_refl _⟩ hf (fun v3 hf => ?_)
  refine x_cpi (rest := []) hC tw_1143 (xce_16 G true _ _) (fun f => (xce_102 G f _)) hl.1 hR hS (Nat.le_of_ble_eq_true rfl) (Nat.le_of_ble_eq_true rfl) dX8_takeOver_31 hf (fun I4 hf H locs hR hS => ?_)
  have h9 := Option.some.inj hf
  subst h9
  exact x_vret hC hR hS dX8_takeOver_34
set_option maxRecDepth 20000 in
theorem M_X5_takeOver_100_14 (G : XG) (l : Launch) {I : xTI} {L : xTL} {rI : xTI} (hf : F_X5_takeOver_100_14 I = some rI) : xMet G l yX5_takeOver cX5_takeOver 2 none 2 140 true [.ref (xz G + 100), .ref (xz G + 14)] I L none rI L := by
  refine xMet.ofW (by decide +kernel) (Nat.le_of_ble_eq_true rfl) ?_
  intro p e s m args below meth c hC H locs ls hR hS hl
  replace hC : xC G p s m args meth c cX5_takeOver 2 RX5 none := hC
  replace hl : lv_has ls 2 [(0, .ref (xz G + 100)), (1, .ref (xz G + 14))] := hl
  unfold F_X5_takeOver_100_14 at hf
  refine lv_aload_n hC.1 hC.2.1 dX5_takeOver_0 rfl (lv_at hl 0 rfl) ?_
  refine x_get (v := .ref (xz G + 101)) hC xf_X5_16 (xce_100 G _ _) rfl hR dX5_takeOver_1 ?_
  refine lv_aload_n hC.1 hC.2.1 dX5_takeOver_4 rfl (lv_at hl 1 rfl) ?_
  refine x_get (v := .ref (xz G + 15)) hC xf_X5_16 (xce_14 G true _ _) rfl hR dX5_takeOver_5 ?_
  refine x_cvv10 (rest := []) hC xy_X8_takeOver tw_1148 hf (fun _ h => M_X8_takeOver_101_15 G l h) ⟨Nat.le_of_ble_eq_true rfl, Nat.le_of_ble_eq_true rfl⟩ (xce_101 G _ _) rfl rfl rfl (Nat.le_of_ble_eq_true rfl) hl.1 hR hS dX5_takeOver_8 ⟨Nat.le_refl _, Nat.le_refl _⟩ (fun I1 hf H locs hR hS => ?_)
  refine lv_aload_n hC.1 hC.2.1 dX5_takeOver_11 rfl (lv_at hl 1 rfl) ?_
  refine x_get (v := .ref (xz G + 17)) hC xf_X5_20 (xce_14 G true _ _) rfl hR dX5_takeOver_12 ?_
  refine lv_iconst (v := 0) hC.1 hC.2.1 dX5_takeOver_15 (by decide) ?_
  refine lv_aload_n hC.1 hC.2.1 dX5_takeOver_16 rfl (lv_at hl 0 rfl) ?_
  refine x_get (v := .ref (xz G + 103)) hC xf_X5_20 (xce_100 G _ _) rfl hR dX5_takeOver_17 ?_
  refine lv_iconst (v := 0) hC.1 hC.2.1 dX5_takeOver_20 (by decide) ?_
  refine W.eq (g2 := F0 m 21 ls [.int 0, .ref (xz G + 103), .int 0, .ref (xz G + 17)]) rfl ?_
  refine lv_sipush (v := 1440) hC.1 hC.2.1 dX5_takeOver_21 (by decide) ?_
  refine x_cpi (rest := []) hC tw_809 (xce_17 G true _ _) (fun f => (xce_103 G f _)) hl.1 hR hS (Nat.le_of_ble_eq_true rfl) (Nat.le_of_ble_eq_true rfl) dX5_takeOver_24 hf (fun I2 hf H locs hR hS => ?_)
  have h9 := Option.some.inj hf
  subst h9
  exact x_vret hC hR hS dX5_takeOver_27
set_option maxRecDepth 20000 in
theorem M_X8_takeOver_106_20 (G : XG) (l : Launch) {I : xTI} {L : xTL} {rI : xTI} (hf : F_X8_takeOver_106_20 I = some rI) : xMet G l yX8_takeOver cX8_takeOver 2 none 1 119 true [.ref (xz G + 106), .ref (xz G + 20)] I L none rI L := by
  refine xMet.ofW (by decide +kernel) (Nat.le_of_ble_eq_true rfl) ?_
  intro p e s m args below meth c hC H locs ls hR hS hl
  replace hC : xC G p s m args meth c cX8_takeOver 2 RX8 none := hC
  replace hl : lv_has ls 2 [(0, .ref (xz G + 106)), (1, .ref (xz G + 20))] := hl
  unfold F_X8_takeOver_106_20 at hf
  refine lv_aload_n hC.1 hC.2.1 dX8_takeOver_0 rfl (lv_at hl 0 rfl) ?_
  refine lv_aload_n hC.1 hC.2.1 dX8_takeOver_1 rfl (lv_at hl 1 rfl) ?_
  refine x_getI hC xf_X8_20 (xce_20 G true _ _) rfl hR dX8_takeOver_2 hf (fun v1 hf => ?_)
  refine x_putI hC xf_X8_20 xp_8_3 (fun f => (xce_106 G f _)) rfl (Nat.le_of_ble_eq_true rfl) hR hS dX8_takeOver_5 hf (fun I2 hf H locs hR hS => ?_)
  refine lv_aload_n hC.1 hC.2.1 dX8_takeOver_8 rfl (lv_at hl 1 rfl) ?_
  refine x_get (v := .ref (xz G + 21)) hC xf_X8_16 (xce_20 G true _ _) rfl hR dX8_takeOver_9 ?_
  refine lv_iconst (v := 0) hC.1 hC.2.1 dX8_takeOver_12 (by decide) ?_
  refine lv_aload_n hC.1 hC.2.1 dX8_takeOver_13 rfl (lv_at hl 0 rfl) ?_
  refine x_get (v := .ref (xz G + 107)) hC xf_X8_16 (xce_106 G _ _) rfl hR dX8_takeOver_14 ?_
  refine lv_iconst (v := 0) hC.1 hC.2.1 dX8_takeOver_17 (by decide) ?_
  refine lv_aload_n hC.1 hC.2.1 dX8_takeOver_18 rfl (lv_at hl 0 rfl) ?_
  refine W.eq (g2 := F0 m 19 ls [.ref (xz G + 106), .int 0, .ref (xz G + 107), .int 0, .ref (xz G + 21)]) rfl ?_
  refine x_get (v := .ref (xz G + 107)) hC xf_X8_16 (xce_106 G _ _) rfl hR dX8_takeOver_19 ?_
  refine x_alen_i (v := 140) hC (xce_107 G _ _) rfl hR dX8_takeOver_22 ?_
  refine lv_aload_n hC.1 hC.2.1 dX8_takeOver_23 rfl (lv_at hl 1 rfl) ?_
  refine x_get (v := .ref (xz G + 21)) hC xf_X8_16 (xce_20 G true _ _) rfl hR dX8_takeOver_24 ?_
  refine x_alen_i (v := 140) hC (xce_21 G true _ _) rfl hR dX8_takeOver_27 ?_
  refine x_mni (rest := [.int 0, .ref (xz G + 107), .int 0, .ref (xz G + 21)]) hC tw_1142 hl.1 (Nat.le_of_ble_eq_true rfl) (Nat.le_of_ble_eq_true rfl) dX8_takeOver_28 ⟨Nat.le_refl _, Nat.le_refl _⟩ hf (fun v3 hf => ?_)
  refine x_cpi (rest := []) hC tw_1143 (xce_21 G true _ _) (fun f => (xce_107 G f _)) hl.1 hR hS (Nat.le_of_ble_eq_true rfl) (Nat.le_of_ble_eq_true rfl) dX8_takeOver_31 hf (fun I4 hf H locs hR hS => ?_)
  have h9 := Option.some.inj hf
  subst h9
  exact x_vret hC hR hS dX8_takeOver_34
set_option maxRecDepth 20000 in
theorem M_X8_takeOver_108_22 (G : XG) (l : Launch) {I : xTI} {L : xTL} {rI : xTI} (hf : F_X8_takeOver_108_22 I = some rI) : xMet G l yX8_takeOver cX8_takeOver 2 none 1 119 true [.ref (xz G + 108), .ref (xz G + 22)] I L none rI L := by
  refine xMet.ofW (by decide +kernel) (Nat.le_of_ble_eq_true rfl) ?_
  intro p e s m args below meth c hC H locs ls hR hS hl
  replace hC : xC G p s m args meth c cX8_takeOver 2 RX8 none := hC
  replace hl : lv_has ls 2 [(0, .ref (xz G + 108)), (1, .ref (xz G + 22))] := hl
  unfold F_X8_takeOver_108_22 at hf
  refine lv_aload_n hC.1 hC.2.1 dX8_takeOver_0 rfl (lv_at hl 0 rfl) ?_
  refine lv_aload_n hC.1 hC.2.1 dX8_takeOver_1 rfl (lv_at hl 1 rfl) ?_
  refine x_getI hC xf_X8_20 (xce_22 G true _ _) rfl hR dX8_takeOver_2 hf (fun v1 hf => ?_)
  refine x_putI hC xf_X8_20 xp_8_3 (fun f => (xce_108 G f _)) rfl (Nat.le_of_ble_eq_true rfl) hR hS dX8_takeOver_5 hf (fun I2 hf H locs hR hS => ?_)
  refine lv_aload_n hC.1 hC.2.1 dX8_takeOver_8 rfl (lv_at hl 1 rfl) ?_
  refine x_get (v := .ref (xz G + 23)) hC xf_X8_16 (xce_22 G true _ _) rfl hR dX8_takeOver_9 ?_
  refine lv_iconst (v := 0) hC.1 hC.2.1 dX8_takeOver_12 (by decide) ?_
  refine lv_aload_n hC.1 hC.2.1 dX8_takeOver_13 rfl (lv_at hl 0 rfl) ?_
  refine x_get (v := .ref (xz G + 109)) hC xf_X8_16 (xce_108 G _ _) rfl hR dX8_takeOver_14 ?_
  refine lv_iconst (v := 0) hC.1 hC.2.1 dX8_takeOver_17 (by decide) ?_
  refine lv_aload_n hC.1 hC.2.1 dX8_takeOver_18 rfl (lv_at hl 0 rfl) ?_
  refine W.eq (g2 := F0 m 19 ls [.ref (xz G + 108), .int 0, .ref (xz G + 109), .int 0, .ref (xz G + 23)]) rfl ?_
  refine x_get (v := .ref (xz G + 109)) hC xf_X8_16 (xce_108 G _ _) rfl hR dX8_takeOver_19 ?_
  refine x_alen_i (v := 30) hC (xce_109 G _ _) rfl hR dX8_takeOver_22 ?_
  refine lv_aload_n hC.1 hC.2.1 dX8_takeOver_23 rfl (lv_at hl 1 rfl) ?_
  refine x_get (v := .ref (xz G + 23)) hC xf_X8_16 (xce_22 G true _ _) rfl hR dX8_takeOver_24 ?_
  refine x_alen_i (v := 30) hC (xce_23 G true _ _) rfl hR dX8_takeOver_27 ?_
  refine x_mni (rest := [.int 0, .ref (xz G + 109), .int 0, .ref (xz G + 23)]) hC tw_1142 hl.1 (Nat.le_of_ble_eq_true rfl) (Nat.le_of_ble_eq_true rfl) dX8_takeOver_28 ⟨Nat.le_refl _, Nat.le_refl _⟩ hf (fun v3 hf => ?_)
  refine x_cpi (rest := []) hC tw_1143 (xce_23 G true _ _) (fun f => (xce_109 G f _)) hl.1 hR hS (Nat.le_of_ble_eq_true rfl) (Nat.le_of_ble_eq_true rfl) dX8_takeOver_31 hf (fun I4 hf H locs hR hS => ?_)
  have h9 := Option.some.inj hf
  subst h9
  exact x_vret hC hR hS dX8_takeOver_34
set_option maxRecDepth 20000 in
theorem M_X8_takeOver_110_24 (G : XG) (l : Launch) {I : xTI} {L : xTL} {rI : xTI} (hf : F_X8_takeOver_110_24 I = some rI) : xMet G l yX8_takeOver cX8_takeOver 2 none 1 119 true [.ref (xz G + 110), .ref (xz G + 24)] I L none rI L := by
  refine xMet.ofW (by decide +kernel) (Nat.le_of_ble_eq_true rfl) ?_
  intro p e s m args below meth c hC H locs ls hR hS hl
  replace hC : xC G p s m args meth c cX8_takeOver 2 RX8 none := hC
  replace hl : lv_has ls 2 [(0, .ref (xz G + 110)), (1, .ref (xz G + 24))] := hl
  unfold F_X8_takeOver_110_24 at hf
  refine lv_aload_n hC.1 hC.2.1 dX8_takeOver_0 rfl (lv_at hl 0 rfl) ?_
  refine lv_aload_n hC.1 hC.2.1 dX8_takeOver_1 rfl (lv_at hl 1 rfl) ?_
  refine x_getI hC xf_X8_20 (xce_24 G true _ _) rfl hR dX8_takeOver_2 hf (fun v1 hf => ?_)
  refine x_putI hC xf_X8_20 xp_8_3 (fun f => (xce_110 G f _)) rfl (Nat.le_of_ble_eq_true rfl) hR hS dX8_takeOver_5 hf (fun I2 hf H locs hR hS => ?_)
  refine lv_aload_n hC.1 hC.2.1 dX8_takeOver_8 rfl (lv_at hl 1 rfl) ?_
  refine x_get (v := .ref (xz G + 25)) hC xf_X8_16 (xce_24 G true _ _) rfl hR dX8_takeOver_9 ?_
  refine lv_iconst (v := 0) hC.1 hC.2.1 dX8_takeOver_12 (by decide) ?_
  refine lv_aload_n hC.1 hC.2.1 dX8_takeOver_13 rfl (lv_at hl 0 rfl) ?_
  refine x_get (v := .ref (xz G + 111)) hC xf_X8_16 (xce_110 G _ _) rfl hR dX8_takeOver_14 ?_
  refine lv_iconst (v := 0) hC.1 hC.2.1 dX8_takeOver_17 (by decide) ?_
  refine lv_aload_n hC.1 hC.2.1 dX8_takeOver_18 rfl (lv_at hl 0 rfl) ?_
  refine W.eq (g2 := F0 m 19 ls [.ref (xz G + 110), .int 0, .ref (xz G + 111), .int 0, .ref (xz G + 25)]) rfl ?_
  refine x_get (v := .ref (xz G + 111)) hC xf_X8_16 (xce_110 G _ _) rfl hR dX8_takeOver_19 ?_
  refine x_alen_i (v := 2100) hC (xce_111 G _ _) rfl hR dX8_takeOver_22 ?_
  refine lv_aload_n hC.1 hC.2.1 dX8_takeOver_23 rfl (lv_at hl 1 rfl) ?_
  refine x_get (v := .ref (xz G + 25)) hC xf_X8_16 (xce_24 G true _ _) rfl hR dX8_takeOver_24 ?_
  refine x_alen_i (v := 2100) hC (xce_25 G true _ _) rfl hR dX8_takeOver_27 ?_
  refine x_mni (rest := [.int 0, .ref (xz G + 111), .int 0, .ref (xz G + 25)]) hC tw_1142 hl.1 (Nat.le_of_ble_eq_true rfl) (Nat.le_of_ble_eq_true rfl) dX8_takeOver_28 ⟨Nat.le_refl _, Nat.le_refl _⟩ hf (fun v3 hf => ?_)
  refine x_cpi (rest := []) hC tw_1143 (xce_25 G true _ _) (fun f => (xce_111 G f _)) hl.1 hR hS (Nat.le_of_ble_eq_true rfl) (Nat.le_of_ble_eq_true rfl) dX8_takeOver_31 hf (fun I4 hf H locs hR hS => ?_)
  have h9 := Option.some.inj hf
  subst h9
  exact x_vret hC hR hS dX8_takeOver_34
set_option maxRecDepth 20000 in
theorem M_X8_takeOver_112_26 (G : XG) (l : Launch) {I : xTI} {L : xTL} {rI : xTI} (hf : F_X8_takeOver_112_26 I = some rI) : xMet G l yX8_takeOver cX8_takeOver 2 none 1 119 true [.ref (xz G + 112), .ref (xz G + 26)] I L none rI L := by
  refine xMet.ofW (by decide +kernel) (Nat.le_of_ble_eq_true rfl) ?_
  intro p e s m args below meth c hC H locs ls hR hS hl
  replace hC : xC G p s m args meth c cX8_takeOver 2 RX8 none := hC
  replace hl : lv_has ls 2 [(0, .ref (xz G + 112)), (1, .ref (xz G + 26))] := hl
  unfold F_X8_takeOver_112_26 at hf
  refine lv_aload_n hC.1 hC.2.1 dX8_takeOver_0 rfl (lv_at hl 0 rfl) ?_
  refine lv_aload_n hC.1 hC.2.1 dX8_takeOver_1 rfl (lv_at hl 1 rfl) ?_
  refine x_getI hC xf_X8_20 (xce_26 G true _ _) rfl hR dX8_takeOver_2 hf (fun v1 hf => ?_)
  refine x_putI hC xf_X8_20 xp_8_3 (fun f => (xce_112 G f _)) rfl (Nat.le_of_ble_eq_true rfl) hR hS dX8_takeOver_5 hf (fun I2 hf H locs hR hS => ?_)
  refine lv_aload_n hC.1 hC.2.1 dX8_takeOver_8 rfl (lv_at hl 1 rfl) ?_
  refine x_get (v := .ref (xz G + 27)) hC xf_X8_16 (xce_26 G true _ _) rfl hR dX8_takeOver_9 ?_
  refine lv_iconst (v := 0) hC.1 hC.2.1 dX8_takeOver_12 (by decide) ?_
  refine lv_aload_n hC.1 hC.2.1 dX8_takeOver_13 rfl (lv_at hl 0 rfl) ?_
  refine x_get (v := .ref (xz G + 113)) hC xf_X8_16 (xce_112 G _ _) rfl hR dX8_takeOver_14 ?_
  refine lv_iconst (v := 0) hC.1 hC.2.1 dX8_takeOver_17 (by decide) ?_
  refine lv_aload_n hC.1 hC.2.1 dX8_takeOver_18 rfl (lv_at hl 0 rfl) ?_
  refine W.eq (g2 := F0 m 19 ls [.ref (xz G + 112), .int 0, .ref (xz G + 113), .int 0, .ref (xz G + 27)]) rfl ?_
  refine x_get (v := .ref (xz G + 113)) hC xf_X8_16 (xce_112 G _ _) rfl hR dX8_takeOver_19 ?_
  refine x_alen_i (v := 1200) hC (xce_113 G _ _) rfl hR dX8_takeOver_22 ?_
  refine lv_aload_n hC.1 hC.2.1 dX8_takeOver_23 rfl (lv_at hl 1 rfl) ?_
  refine x_get (v := .ref (xz G + 27)) hC xf_X8_16 (xce_26 G true _ _) rfl hR dX8_takeOver_24 ?_
  refine x_alen_i (v := 1200) hC (xce_27 G true _ _) rfl hR dX8_takeOver_27 ?_
  refine x_mni (rest := [.int 0, .ref (xz G + 113), .int 0, .ref (xz G + 27)]) hC tw_1142 hl.1 (Nat.le_of_ble_eq_true rfl) (Nat.le_of_ble_eq_true rfl) dX8_takeOver_28 ⟨Nat.le_refl _, Nat.le_refl _⟩ hf (fun v3 hf => ?_)
  refine x_cpi (rest := []) hC tw_1143 (xce_27 G true _ _) (fun f => (xce_113 G f _)) hl.1 hR hS (Nat.le_of_ble_eq_true rfl) (Nat.le_of_ble_eq_true rfl) dX8_takeOver_31 hf (fun I4 hf H locs hR hS => ?_)
  have h9 := Option.some.inj hf
  subst h9
  exact x_vret hC hR hS dX8_takeOver_34
set_option maxRecDepth 20000 in
theorem M_X1_takeOver_87_1 (G : XG) (l : Launch) {I : xTI} {L : xTL} {rI : xTI} {rL : xTL} (hf : F_X1_takeOver_87_1 I L = some (rI, rL)) : xMet G l yX1_takeOver cX1_takeOver 2 none 3 161 true [.ref (xz G + 87), .ref (xz G + 1)] I L none rI rL := by
  refine xMet.ofW (by decide +kernel) (Nat.le_of_ble_eq_true rfl) ?_
  intro p e s m args below meth c hC H locs ls hR hS hl
  replace hC : xC G p s m args meth c cX1_takeOver 2 RX1 none := hC
  replace hl : lv_has ls 2 [(0, .ref (xz G + 87)), (1, .ref (xz G + 1))] := hl
  unfold F_X1_takeOver_87_1 at hf
  refine lv_aload_n hC.1 hC.2.1 dX1_takeOver_0 rfl (lv_at hl 0 rfl) ?_
  refine lv_aload_n hC.1 hC.2.1 dX1_takeOver_1 rfl (lv_at hl 1 rfl) ?_
  refine x_getI hC xf_X1_58 (xce_1 G true _ _) rfl hR dX1_takeOver_2 hf (fun v1 hf => ?_)
  refine x_putI hC xf_X1_58 xp_1_0 (fun f => (xce_87 G f _)) rfl (Nat.le_of_ble_eq_true rfl) hR hS dX1_takeOver_5 hf (fun I2 hf H locs hR hS => ?_)
  refine lv_aload_n hC.1 hC.2.1 dX1_takeOver_8 rfl (lv_at hl 0 rfl) ?_
  refine lv_aload_n hC.1 hC.2.1 dX1_takeOver_9 rfl (lv_at hl 1 rfl) ?_
  refine x_getI hC xf_X1_80 (xce_1 G true _ _) rfl hR dX1_takeOver_10 hf (fun v3 hf => ?_)
  refine x_putI hC xf_X1_80 xp_1_1 (fun f => (xce_87 G f _)) rfl (Nat.le_of_ble_eq_true rfl) hR hS dX1_takeOver_13 hf (fun I4 hf H locs hR hS => ?_)
  refine lv_aload_n hC.1 hC.2.1 dX1_takeOver_16 rfl (lv_at hl 1 rfl) ?_
  refine x_get (v := .ref (xz G + 2)) hC xf_X1_9 (xce_1 G true _ _) rfl hR dX1_takeOver_17 ?_
  refine lv_iconst (v := 0) hC.1 hC.2.1 dX1_takeOver_20 (by decide) ?_
  refine W.eq (g2 := F0 m 21 ls [.int 0, .ref (xz G + 2)]) rfl ?_
  refine lv_aload_n hC.1 hC.2.1 dX1_takeOver_21 rfl (lv_at hl 0 rfl) ?_
  refine x_get (v := .ref (xz G + 88)) hC xf_X1_9 (xce_87 G _ _) rfl hR dX1_takeOver_22 ?_
  refine lv_iconst (v := 0) hC.1 hC.2.1 dX1_takeOver_25 (by decide) ?_
  refine lv_iconst (v := 5) hC.1 hC.2.1 dX1_takeOver_26 (by decide) ?_
  refine x_cpi (rest := []) hC tw_1132 (xce_2 G true _ _) (fun f => (xce_88 G f _)) hl.1 hR hS (Nat.le_of_ble_eq_true rfl) (Nat.le_of_ble_eq_true rfl) dX1_takeOver_27 hf (fun I5 hf H locs hR hS => ?_)
  refine lv_aload_n hC.1 hC.2.1 dX1_takeOver_30 rfl (lv_at hl 0 rfl) ?_
  refine x_get (v := .ref (xz G + 89)) hC xf_X1_18 (xce_87 G _ _) rfl hR dX1_takeOver_31 ?_
  refine lv_aload_n hC.1 hC.2.1 dX1_takeOver_34 rfl (lv_at hl 1 rfl) ?_
  refine x_get (v := .ref (xz G + 3)) hC xf_X1_18 (xce_1 G true _ _) rfl hR dX1_takeOver_35 ?_
  refine x_cvv11 (rest := []) hC xy_X3_takeOver tw_1133 hf (fun _ _ h => M_X3_takeOver_89_3 G l h) ⟨Nat.le_of_ble_eq_true rfl, Nat.le_of_ble_eq_true rfl⟩ (xce_89 G _ _) rfl rfl rfl (Nat.le_of_ble_eq_true rfl) hl.1 hR hS dX1_takeOver_38 ⟨Nat.le_refl _, Nat.le_refl _⟩ (fun I6 L7 hf H locs hR hS => ?_)
  refine lv_aload_n hC.1 hC.2.1 dX1_takeOver_41 rfl (lv_at hl 0 rfl) ?_
  refine x_get (v := .ref (xz G + 97)) hC xf_X1_25 (xce_87 G _ _) rfl hR dX1_takeOver_42 ?_
  refine W.eq (g2 := F0 m 45 ls [.ref (xz G + 97)]) rfl ?_
  refine x_get (v := .ref (xz G + 98)) hC xf_X1_93 (xce_97 G _ _) rfl hR dX1_takeOver_45 ?_
  refine lv_aload_n hC.1 hC.2.1 dX1_takeOver_48 rfl (lv_at hl 1 rfl) ?_
  refine x_get (v := .ref (xz G + 11)) hC xf_X1_25 (xce_1 G true _ _) rfl hR dX1_takeOver_49 ?_
  refine x_get (v := .ref (xz G + 12)) hC xf_X1_93 (xce_11 G true _ _) rfl hR dX1_takeOver_52 ?_
  refine x_cvv10 (rest := []) hC xy_X8_takeOver tw_1138 hf (fun _ h => M_X8_takeOver_98_12 G l h) ⟨Nat.le_of_ble_eq_true rfl, Nat.le_of_ble_eq_true rfl⟩ (xce_98 G _ _) rfl rfl rfl (Nat.le_of_ble_eq_true rfl) hl.1 hR hS dX1_takeOver_55 ⟨Nat.le_refl _, Nat.le_refl _⟩ (fun I8 hf H locs hR hS => ?_)
  refine lv_aload_n hC.1 hC.2.1 dX1_takeOver_58 rfl (lv_at hl 0 rfl) ?_
  refine x_get (v := .ref (xz G + 100)) hC xf_X1_32 (xce_87 G _ _) rfl hR dX1_takeOver_59 ?_
  refine lv_aload_n hC.1 hC.2.1 dX1_takeOver_62 rfl (lv_at hl 1 rfl) ?_
  refine x_get (v := .ref (xz G + 14)) hC xf_X1_32 (xce_1 G true _ _) rfl hR dX1_takeOver_63 ?_
  refine x_cvv10 (rest := []) hC xy_X5_takeOver tw_1144 hf (fun _ h => M_X5_takeOver_100_14 G l h) ⟨Nat.le_of_ble_eq_true rfl, Nat.le_of_ble_eq_true rfl⟩ (xce_100 G _ _) rfl rfl rfl (Nat.le_of_ble_eq_true rfl) hl.1 hR hS dX1_takeOver_66 ⟨Nat.le_refl _, Nat.le_refl _⟩ (fun I9 hf H locs hR hS => ?_)
  refine lv_aload_n hC.1 hC.2.1 dX1_takeOver_69 rfl (lv_at hl 0 rfl) ?_
  refine x_get (v := .ref (xz G + 106)) hC xf_X1_41 (xce_87 G _ _) rfl hR dX1_takeOver_70 ?_
  refine W.eq (g2 := F0 m 73 ls [.ref (xz G + 106)]) rfl ?_
  refine lv_aload_n hC.1 hC.2.1 dX1_takeOver_73 rfl (lv_at hl 1 rfl) ?_
  refine x_get (v := .ref (xz G + 20)) hC xf_X1_41 (xce_1 G true _ _) rfl hR dX1_takeOver_74 ?_
  refine x_cvv10 (rest := []) hC xy_X8_takeOver tw_1138 hf (fun _ h => M_X8_takeOver_106_20 G l h) ⟨Nat.le_of_ble_eq_true rfl, Nat.le_of_ble_eq_true rfl⟩ (xce_106 G _ _) rfl rfl rfl (Nat.le_of_ble_eq_true rfl) hl.1 hR hS dX1_takeOver_77 ⟨Nat.le_refl _, Nat.le_refl _⟩ (fun I10 hf H locs hR hS => ?_)
  refine lv_aload_n hC.1 hC.2.1 dX1_takeOver_80 rfl (lv_at hl 0 rfl) ?_
  refine x_get (v := .ref (xz G + 108)) hC xf_X1_45 (xce_87 G _ _) rfl hR dX1_takeOver_81 ?_
  refine lv_aload_n hC.1 hC.2.1 dX1_takeOver_84 rfl (lv_at hl 1 rfl) ?_
  refine x_get (v := .ref (xz G + 22)) hC xf_X1_45 (xce_1 G true _ _) rfl hR dX1_takeOver_85 ?_
  refine x_cvv10 (rest := []) hC xy_X8_takeOver tw_1138 hf (fun _ h => M_X8_takeOver_108_22 G l h) ⟨Nat.le_of_ble_eq_true rfl, Nat.le_of_ble_eq_true rfl⟩ (xce_108 G _ _) rfl rfl rfl (Nat.le_of_ble_eq_true rfl) hl.1 hR hS dX1_takeOver_88 ⟨Nat.le_refl _, Nat.le_refl _⟩ (fun I11 hf H locs hR hS => ?_)
  refine lv_aload_n hC.1 hC.2.1 dX1_takeOver_91 rfl (lv_at hl 0 rfl) ?_
  refine x_get (v := .ref (xz G + 110)) hC xf_X1_48 (xce_87 G _ _) rfl hR dX1_takeOver_92 ?_
  refine lv_aload_n hC.1 hC.2.1 dX1_takeOver_95 rfl (lv_at hl 1 rfl) ?_
  refine x_get (v := .ref (xz G + 24)) hC xf_X1_48 (xce_1 G true _ _) rfl hR dX1_takeOver_96 ?_
  refine W.eq (g2 := F0 m 99 ls [.ref (xz G + 24), .ref (xz G + 110)]) rfl ?_
  refine x_cvv10 (rest := []) hC xy_X8_takeOver tw_1138 hf (fun _ h => M_X8_takeOver_110_24 G l h) ⟨Nat.le_of_ble_eq_true rfl, Nat.le_of_ble_eq_true rfl⟩ (xce_110 G _ _) rfl rfl rfl (Nat.le_of_ble_eq_true rfl) hl.1 hR hS dX1_takeOver_99 ⟨Nat.le_refl _, Nat.le_refl _⟩ (fun I12 hf H locs hR hS => ?_)
  refine lv_aload_n hC.1 hC.2.1 dX1_takeOver_102 rfl (lv_at hl 0 rfl) ?_
  refine x_get (v := .ref (xz G + 112)) hC xf_X1_51 (xce_87 G _ _) rfl hR dX1_takeOver_103 ?_
  refine lv_aload_n hC.1 hC.2.1 dX1_takeOver_106 rfl (lv_at hl 1 rfl) ?_
  refine x_get (v := .ref (xz G + 26)) hC xf_X1_51 (xce_1 G true _ _) rfl hR dX1_takeOver_107 ?_
  refine x_cvv10 (rest := []) hC xy_X8_takeOver tw_1138 hf (fun _ h => M_X8_takeOver_112_26 G l h) ⟨Nat.le_of_ble_eq_true rfl, Nat.le_of_ble_eq_true rfl⟩ (xce_112 G _ _) rfl rfl rfl (Nat.le_of_ble_eq_true rfl) hl.1 hR hS dX1_takeOver_110 ⟨Nat.le_refl _, Nat.le_refl _⟩ (fun I13 hf H locs hR hS => ?_)
  refine lv_aload_n hC.1 hC.2.1 dX1_takeOver_113 rfl (lv_at hl 1 rfl) ?_
  refine x_get (v := .ref (xz G + 28)) hC xf_X1_54 (xce_1 G true _ _) rfl hR dX1_takeOver_114 ?_
  refine lv_iconst (v := 0) hC.1 hC.2.1 dX1_takeOver_117 (by decide) ?_
  refine lv_aload_n hC.1 hC.2.1 dX1_takeOver_118 rfl (lv_at hl 0 rfl) ?_
  refine x_get (v := .ref (xz G + 114)) hC xf_X1_54 (xce_87 G _ _) rfl hR dX1_takeOver_119 ?_
  refine lv_iconst (v := 0) hC.1 hC.2.1 dX1_takeOver_122 (by decide) ?_
  refine W.eq (g2 := F0 m 123 ls [.int 0, .ref (xz G + 114), .int 0, .ref (xz G + 28)]) rfl ?_
  refine lv_bipush (v := 60) hC.1 hC.2.1 dX1_takeOver_123 (by decide) ?_
  refine x_cpl (rest := []) hC tw_1132 (xce_28 G true _ _) (fun f => (xce_114 G _ f)) hl.1 hR hS (Nat.le_of_ble_eq_true rfl) (Nat.le_of_ble_eq_true rfl) dX1_takeOver_125 hf (fun L14 hf H locs hR hS => ?_)
  refine lv_aload_n hC.1 hC.2.1 dX1_takeOver_128 rfl (lv_at hl 0 rfl) ?_
  refine lv_aload_n hC.1 hC.2.1 dX1_takeOver_129 rfl (lv_at hl 1 rfl) ?_
  refine x_getI hC xf_X1_102 (xce_1 G true _ _) rfl hR dX1_takeOver_130 hf (fun v15 hf => ?_)
  refine x_putZ hC xf_X1_102 xp_1_11 (fun f => (xce_87 G f _)) rfl (Nat.le_of_ble_eq_true rfl) hR hS dX1_takeOver_133 hf (fun I16 hf H locs hR hS => ?_)
  refine lv_aload_n hC.1 hC.2.1 dX1_takeOver_136 rfl (lv_at hl 0 rfl) ?_
  refine lv_aload_n hC.1 hC.2.1 dX1_takeOver_137 rfl (lv_at hl 1 rfl) ?_
  refine x_getI hC xf_X1_106 (xce_1 G true _ _) rfl hR dX1_takeOver_138 hf (fun v17 hf => ?_)
  refine x_putZ hC xf_X1_106 xp_1_12 (fun f => (xce_87 G f _)) rfl (Nat.le_of_ble_eq_true rfl) hR hS dX1_takeOver_141 hf (fun I18 hf H locs hR hS => ?_)
  obtain ⟨h91, h92⟩ := Prod.mk.inj (Option.some.inj hf)
  subst h91
  subst h92
  exact x_vret hC hR hS dX1_takeOver_144
