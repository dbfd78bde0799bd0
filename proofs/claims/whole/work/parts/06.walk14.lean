set_option maxRecDepth 20000 in
theorem W_X11_menUp_j28 {G : XG} {l : Launch} {kp : Bool} {p : Program} {e : Env} {s : State} {m : MethodId} {args : Array Value} {below : List Frame} {meth : Method} {c : Code} (hC : xC G p s m args meth c cX11_menUp 3 RX11 (some .int)) (N : Nat) {I : xTI} {L : xTL} {r : Int32} {x2 : Int32} {t0 : Int32} {t1 : Int32} (k4 : Int32 × Int32 → Option (Int32)) (hk4 : ∀ (x1 : Int32) (x2 : Int32) , k4 (x1, x2) = some r → ∀ (H : Heap) (locs : List Loc) (ls : Array Slot), xRep G kp I L H → xS G s.heap H locs → lv_has ls 3 [(0, .ref (xz G + 57)), (1, .int x1), (2, .int x2)] → W p l e (xrm 1 21) s m args below meth c H locs 0 0 (xMQ G kp below args s (some (.int r)) I L) (F0 m 4 ls [])) (hf : F_X11_menUp_j28 k4 N I x2 t0 t1 = some r) : ∀ (H : Heap) (locs : List Loc) (ls : Array Slot), xRep G kp I L H → xS G s.heap H locs → lv_has ls 3 [(0, .ref (xz G + 57)), (2, .int x2)] → W p l e (xrm 1 21) s m args below meth c H locs 0 0 (xMQ G kp below args s (some (.int r)) I L) (F0 m 28 ls [.int t1, .int t0]) := by
  intro H locs ls hR hS hl
  unfold F_X11_menUp_j28 at hf
  refine lv_iadd hC.1 hC.2.1 dX11_menUp_28 ?_
  refine x_istn (lv' := fun y1 => [(1, .int y1), (0, .ref (xz G + 57)), (2, .int x2)]) hC hl dX11_menUp_29 rfl (Nat.le_of_ble_eq_true rfl) hf (fun _ => rfl) (fun y1 hf ls hl => ?_)
  refine x_iinc (d := 1) (lv' := fun y2 => [(2, .int y2), (1, .int y1), (0, .ref (xz G + 57))]) (k := 2) hC hl dX11_menUp_30 rfl (by decide) (Nat.le_of_ble_eq_true rfl) hf (fun _ => rfl) (fun y2 hf ls hl => ?_)
  refine lv_goto (tgt := 4) hC.1 hC.2.1 dX11_menUp_33 (by decide) ?_
  exact hk4 y1 y2 hf _ _ _ hR hS (lv_sub hl [2, 1, 0] rfl)
set_option maxRecDepth 20000 in
theorem W_X11_menUp_l4 {G : XG} {l : Launch} {kp : Bool} {p : Program} {e : Env} {s : State} {m : MethodId} {args : Array Value} {below : List Frame} {meth : Method} {c : Code} (hC : xC G p s m args meth c cX11_menUp 3 RX11 (some .int)) (N : Nat) {I : xTI} {L : xTL} {r : Int32} : ∀ (n : Nat) (x1 : Int32) (x2 : Int32) , xlp (F_X11_menUp_b4 N I ) n (x1, x2) = some r → ∀ (H : Heap) (locs : List Loc) (ls : Array Slot), xRep G kp I L H → xS G s.heap H locs → lv_has ls 3 [(0, .ref (xz G + 57)), (1, .int x1), (2, .int x2)] → W p l e (xrm 1 21) s m args below meth c H locs 0 0 (xMQ G kp below args s (some (.int r)) I L) (F0 m 4 ls []) := by
  intro n
  induction n with
  | zero =>
    intro x1 x2 hf
    cases hf
  | succ n hk4 =>
    intro x1 x2 hf H locs ls hR hS hl
    rw [xlp_s, E_X11_menUp_b4] at hf
    unfold F_X11_menUp_c4 at hf
    refine lv_iload_n hC.1 hC.2.1 dX11_menUp_4 rfl (lv_at hl 2 rfl) ?_
    refine lv_aload_n hC.1 hC.2.1 dX11_menUp_5 rfl (lv_at hl 0 rfl) ?_
    refine x_get (v := .ref (xz G + 58)) hC xf_X11_14 (xce_57 G kp _ _) rfl hR dX11_menUp_6 ?_
    refine lv_iconst (v := 1) hC.1 hC.2.1 dX11_menUp_9 (by decide) ?_
    refine x_ial hC (xce_58 G kp _ _) hR dX11_menUp_10 hf (fun v1 hf => ?_)
    refine x_ic_ge (tgt := 36) hC dX11_menUp_11 (by decide) hf (fun hf => ?_) (fun hf => ?_)
    · refine lv_iload_n hC.1 hC.2.1 dX11_menUp_36 rfl (lv_at hl 1 rfl) ?_
      have h9 := Option.some.inj hf
      subst h9
      exact x_iret hC hR hS dX11_menUp_37
    · refine lv_iload_n hC.1 hC.2.1 dX11_menUp_14 rfl (lv_at hl 1 rfl) ?_
      refine lv_aload_n hC.1 hC.2.1 dX11_menUp_15 rfl (lv_at hl 0 rfl) ?_
      refine lv_iload_n hC.1 hC.2.1 dX11_menUp_16 rfl (lv_at hl 2 rfl) ?_
      refine x_cvi00 (rest := [.int x1]) hC xy_X11_isUp tw_1363 hf (fun _ h => M_X11_isUp G l kp h) ⟨Nat.le_of_ble_eq_true rfl, Nat.le_of_ble_eq_true rfl⟩ (xce_57 G kp _ _) rfl rfl rfl (Nat.le_of_ble_eq_true rfl) hl.1 hR hS dX11_menUp_17 ⟨Nat.le_refl _, Nat.le_refl _⟩ (fun v2 hf H locs hR hS => ?_)
      refine x_if_eq (tgt := 27) hC dX11_menUp_20 (by decide) hf (fun hf => ?_) (fun hf => ?_)
      · refine lv_iconst (v := 0) hC.1 hC.2.1 dX11_menUp_27 (by decide) ?_
        exact W_X11_menUp_j28 hC N _ hk4 hf _ _ _ hR hS (lv_sub hl [0, 2] rfl)
      · refine lv_iconst (v := 1) hC.1 hC.2.1 dX11_menUp_23 (by decide) ?_
        refine lv_goto (tgt := 28) hC.1 hC.2.1 dX11_menUp_24 (by decide) ?_
        exact W_X11_menUp_j28 hC N _ hk4 hf _ _ _ hR hS (lv_sub hl [0, 2] rfl)
set_option maxRecDepth 20000 in
theorem M_X11_menUp (G : XG) (l : Launch) (kp : Bool) (N : Nat) {I : xTI} {L : xTL} {r : Int32} (hf : F_X11_menUp N I = some r) : xMet G l yX11_menUp cX11_menUp 3 (some .int) 1 21 kp [.ref (xz G + 57)] I L (some (.int r)) I L := by
  refine xMet.ofW (by decide +kernel) (Nat.le_of_ble_eq_true rfl) ?_
  intro p e s m args below meth c hC H locs ls hR hS hl
  replace hC : xC G p s m args meth c cX11_menUp 3 RX11 (some .int) := hC
  replace hl : lv_has ls 3 [(0, .ref (xz G + 57))] := hl
  unfold F_X11_menUp at hf
  refine lv_iconst (v := 0) hC.1 hC.2.1 dX11_menUp_0 (by decide) ?_
  refine lv_istore_n (lv' := [(1, .int 0), (0, .ref (xz G + 57))]) hC.1 hC.2.1 dX11_menUp_1 rfl hl (Nat.le_of_ble_eq_true rfl) rfl (fun ls hl => ?_)
  refine lv_iconst (v := 0) hC.1 hC.2.1 dX11_menUp_2 (by decide) ?_
  refine lv_istore_n (lv' := [(2, .int 0), (1, .int 0), (0, .ref (xz G + 57))]) hC.1 hC.2.1 dX11_menUp_3 rfl hl (Nat.le_of_ble_eq_true rfl) rfl (fun ls hl => ?_)
  exact W_X11_menUp_l4 hC N _ 0 0 hf _ _ _ hR hS (lv_sub hl [2, 1, 0] rfl)
set_option maxRecDepth 20000 in
theorem W_X11_name_j229 {G : XG} {l : Launch} {kp : Bool} {p : Program} {e : Env} {s : State} {m : MethodId} {args : Array Value} {below : List Frame} {meth : Method} {c : Code} (hC : xC G p s m args meth c cX11_name 2 RX11 (some .int)) (N : Nat) {I : xTI} {L : xTL} {r : Int32} {rI : xTI} {t0 : Int32} {t1 : Int32} (hf : F_X11_name_j229 N I L t0 t1 = some (r, rI)) : ∀ (H : Heap) (locs : List Loc) (ls : Array Slot), xRep G kp I L H → xS G s.heap H locs → lv_has ls 2 [] → W p l e (xrm 2 43) s m args below meth c H locs 0 0 (xMQ G kp below args s (some (.int r)) rI L) (F0 m 229 ls [.int t1, .int t0]) := by
  intro H locs ls hR hS hl
  unfold F_X11_name_j229 at hf
  refine lv_iadd hC.1 hC.2.1 dX11_name_229 ?_
  refine lv_goto (tgt := 242) hC.1 hC.2.1 dX11_name_230 (by decide) ?_
  obtain ⟨h91, h92⟩ := Prod.mk.inj (Option.some.inj hf)
  subst h91
  subst h92
  exact x_iret hC hR hS dX11_name_242
set_option maxRecDepth 20000 in
theorem W_X11_name_j210 {G : XG} {l : Launch} {kp : Bool} {p : Program} {e : Env} {s : State} {m : MethodId} {args : Array Value} {below : List Frame} {meth : Method} {c : Code} (hC : xC G p s m args meth c cX11_name 2 RX11 (some .int)) (N : Nat) {I : xTI} {L : xTL} {r : Int32} {rI : xTI} {t0 : Int32} (hf : F_X11_name_j210 N I L t0 = some (r, rI)) : ∀ (H : Heap) (locs : List Loc) (ls : Array Slot), xRep G kp I L H → xS G s.heap H locs → lv_has ls 2 [(0, .ref (xz G + 57))] → W p l e (xrm 2 43) s m args below meth c H locs 0 0 (xMQ G kp below args s (some (.int r)) rI L) (F0 m 210 ls [.int t0]) := by
  intro H locs ls hR hS hl
  unfold F_X11_name_j210 at hf
  refine lv_aload_n hC.1 hC.2.1 dX11_name_210 rfl (lv_at hl 0 rfl) ?_
  refine lv_aload_n hC.1 hC.2.1 dX11_name_211 rfl (lv_at hl 0 rfl) ?_
  refine x_getI hC xf_X11_249 (xce_57 G kp _ _) rfl hR dX11_name_212 hf (fun v1 hf => ?_)
  refine lv_bipush (v := 10) hC.1 hC.2.1 dX11_name_215 (by decide) ?_
  refine x_cvi00 (rest := [.int t0]) hC xy_X11_bg tw_1383 hf (fun _ h => M_X11_bg G l kp h) ⟨Nat.le_of_ble_eq_true rfl, Nat.le_of_ble_eq_true rfl⟩ (xce_57 G kp _ _) rfl rfl rfl (Nat.le_of_ble_eq_true rfl) hl.1 hR hS dX11_name_217 ⟨Nat.le_refl _, Nat.le_refl _⟩ (fun v2 hf H locs hR hS => ?_)
  refine lv_iconst (v := (-1)) hC.1 hC.2.1 dX11_name_220 (by decide) ?_
  refine x_ic_eq (tgt := 228) hC dX11_name_221 (by decide) hf (fun hf => ?_) (fun hf => ?_)
  · refine lv_iconst (v := 0) hC.1 hC.2.1 dX11_name_228 (by decide) ?_
    exact W_X11_name_j229 hC N hf _ _ _ hR hS (lv_sub hl [] rfl)
  · refine lv_iconst (v := 2) hC.1 hC.2.1 dX11_name_224 (by decide) ?_
    refine lv_goto (tgt := 229) hC.1 hC.2.1 dX11_name_225 (by decide) ?_
    exact W_X11_name_j229 hC N hf _ _ _ hR hS (lv_sub hl [] rfl)
set_option maxRecDepth 20000 in
theorem W_X11_name_j163 {G : XG} {l : Launch} {kp : Bool} {p : Program} {e : Env} {s : State} {m : MethodId} {args : Array Value} {below : List Frame} {meth : Method} {c : Code} (hC : xC G p s m args meth c cX11_name 2 RX11 (some .int)) (N : Nat) {I : xTI} {L : xTL} {r : Int32} {rI : xTI} {t0 : Int32} (hf : F_X11_name_j163 N I L t0 = some (r, rI)) : ∀ (H : Heap) (locs : List Loc) (ls : Array Slot), xRep G kp I L H → xS G s.heap H locs → lv_has ls 2 [(0, .ref (xz G + 57))] → W p l e (xrm 2 43) s m args below meth c H locs 0 0 (xMQ G kp below args s (some (.int r)) rI L) (F0 m 163 ls [.int t0]) := by
  intro H locs ls hR hS hl
  unfold F_X11_name_j163 at hf
  refine lv_istore_n (lv' := [(1, .int t0), (0, .ref (xz G + 57))]) hC.1 hC.2.1 dX11_name_163 rfl hl (Nat.le_of_ble_eq_true rfl) rfl (fun ls hl => ?_)
  refine lv_iload_n hC.1 hC.2.1 dX11_name_164 rfl (lv_at hl 0 rfl) ?_
  refine lv_iconst (v := (-1)) hC.1 hC.2.1 dX11_name_165 (by decide) ?_
  refine x_ic_ne (tgt := 175) hC dX11_name_166 (by decide) hf (fun hf => ?_) (fun hf => ?_)
  · refine lv_aload_n hC.1 hC.2.1 dX11_name_175 rfl (lv_at hl 1 rfl) ?_
    refine x_getI hC xf_X11_249 (xce_57 G kp _ _) rfl hR dX11_name_176 hf (fun v1 hf => ?_)
    refine lv_iconst (v := (-1)) hC.1 hC.2.1 dX11_name_179 (by decide) ?_
    refine x_ic_ne (tgt := 185) hC dX11_name_180 (by decide) hf (fun hf => ?_) (fun hf => ?_)
    · refine lv_iload_n hC.1 hC.2.1 dX11_name_185 rfl (lv_at hl 0 rfl) ?_
      refine lv_bipush (v := 9) hC.1 hC.2.1 dX11_name_186 (by decide) ?_
      refine x_ic_ne (tgt := 233) hC dX11_name_188 (by decide) hf (fun hf => ?_) (fun hf => ?_)
      · refine lv_aload_n hC.1 hC.2.1 dX11_name_233 rfl (lv_at hl 1 rfl) ?_
        refine lv_aload_n hC.1 hC.2.1 dX11_name_234 rfl (lv_at hl 1 rfl) ?_
        refine x_getI hC xf_X11_249 (xce_57 G kp _ _) rfl hR dX11_name_235 hf (fun v2 hf => ?_)
        refine lv_iload_n hC.1 hC.2.1 dX11_name_238 rfl (lv_at hl 0 rfl) ?_
        refine x_cvi00 (rest := []) hC xy_X11_bg tw_1383 hf (fun _ h => M_X11_bg G l kp h) ⟨Nat.le_of_ble_eq_true rfl, Nat.le_of_ble_eq_true rfl⟩ (xce_57 G kp _ _) rfl rfl rfl (Nat.le_of_ble_eq_true rfl) hl.1 hR hS dX11_name_239 ⟨Nat.le_refl _, Nat.le_refl _⟩ (fun v3 hf H locs hR hS => ?_)
        obtain ⟨h91, h92⟩ := Prod.mk.inj (Option.some.inj hf)
        subst h91
        subst h92
        exact x_iret hC hR hS dX11_name_242
      · refine lv_aload_n hC.1 hC.2.1 dX11_name_191 rfl (lv_at hl 1 rfl) ?_
        refine lv_aload_n hC.1 hC.2.1 dX11_name_192 rfl (lv_at hl 1 rfl) ?_
        refine x_getI hC xf_X11_249 (xce_57 G kp _ _) rfl hR dX11_name_193 hf (fun v4 hf => ?_)
        refine lv_bipush (v := 9) hC.1 hC.2.1 dX11_name_196 (by decide) ?_
        refine x_cvi00 (rest := []) hC xy_X11_bg tw_1383 hf (fun _ h => M_X11_bg G l kp h) ⟨Nat.le_of_ble_eq_true rfl, Nat.le_of_ble_eq_true rfl⟩ (xce_57 G kp _ _) rfl rfl rfl (Nat.le_of_ble_eq_true rfl) hl.1 hR hS dX11_name_198 ⟨Nat.le_refl _, Nat.le_refl _⟩ (fun v5 hf H locs hR hS => ?_)
        refine lv_iconst (v := (-1)) hC.1 hC.2.1 dX11_name_201 (by decide) ?_
        refine x_ic_eq (tgt := 209) hC dX11_name_202 (by decide) hf (fun hf => ?_) (fun hf => ?_)
        · refine lv_iconst (v := 0) hC.1 hC.2.1 dX11_name_209 (by decide) ?_
          exact W_X11_name_j210 hC N hf _ _ _ hR hS (lv_sub hl [1] rfl)
        · refine lv_iconst (v := 1) hC.1 hC.2.1 dX11_name_205 (by decide) ?_
          refine lv_goto (tgt := 210) hC.1 hC.2.1 dX11_name_206 (by decide) ?_
          exact W_X11_name_j210 hC N hf _ _ _ hR hS (lv_sub hl [1] rfl)
    · refine lv_iconst (v := 0) hC.1 hC.2.1 dX11_name_183 (by decide) ?_
      obtain ⟨h91, h92⟩ := Prod.mk.inj (Option.some.inj hf)
      subst h91
      subst h92
      exact x_iret hC hR hS dX11_name_184
  · refine lv_aload_n hC.1 hC.2.1 dX11_name_169 rfl (lv_at hl 1 rfl) ?_
    refine x_cvv10 (rest := []) hC xy_X11_fail tw_1498 hf (fun _ h => M_X11_fail G l kp h) ⟨Nat.le_of_ble_eq_true rfl, Nat.le_of_ble_eq_true rfl⟩ (xce_57 G kp _ _) rfl rfl rfl (Nat.le_of_ble_eq_true rfl) hl.1 hR hS dX11_name_170 ⟨Nat.le_refl _, Nat.le_refl _⟩ (fun I6 hf H locs hR hS => ?_)
    refine lv_iconst (v := 0) hC.1 hC.2.1 dX11_name_173 (by decide) ?_
    obtain ⟨h91, h92⟩ := Prod.mk.inj (Option.some.inj hf)
    subst h91
    subst h92
    exact x_iret hC hR hS dX11_name_174
set_option maxRecDepth 20000 in
theorem M_X11_name (G : XG) (l : Launch) (kp : Bool) (N : Nat) {I : xTI} {L : xTL} {r : Int32} {rI : xTI} (hf : F_X11_name N I L = some (r, rI)) : xMet G l yX11_name cX11_name 2 (some .int) 2 43 kp [.ref (xz G + 57)] I L (some (.int r)) rI L := by
  refine xMet.ofW (by decide +kernel) (Nat.le_of_ble_eq_true rfl) ?_
  intro p e s m args below meth c hC H locs ls hR hS hl
  replace hC : xC G p s m args meth c cX11_name 2 RX11 (some .int) := hC
  replace hl : lv_has ls 2 [(0, .ref (xz G + 57))] := hl
  unfold F_X11_name at hf
  refine lv_aload_n hC.1 hC.2.1 dX11_name_0 rfl (lv_at hl 0 rfl) ?_
  refine x_ldc2 (v := 10502066) hC tw_1539 dX11_name_1 ?_
  refine x_cvi00 (rest := []) hC xy_X11_isWord tw_1489 hf (fun _ h => M_X11_isWord G l kp h) ⟨Nat.le_of_ble_eq_true rfl, Nat.le_of_ble_eq_true rfl⟩ (xce_57 G kp _ _) rfl rfl rfl (Nat.le_of_ble_eq_true rfl) hl.1 hR hS dX11_name_4 ⟨Nat.le_refl _, Nat.le_refl _⟩ (fun v1 hf H locs hR hS => ?_)
  refine x_if_eq (tgt := 15) hC dX11_name_7 (by decide) hf (fun hf => ?_) (fun hf => ?_)
  · refine lv_aload_n hC.1 hC.2.1 dX11_name_15 rfl (lv_at hl 0 rfl) ?_
    refine x_ldc2 (v := 256721) hC tw_1540 dX11_name_16 ?_
    refine x_cvi00 (rest := []) hC xy_X11_isWord tw_1489 hf (fun _ h => M_X11_isWord G l kp h) ⟨Nat.le_of_ble_eq_true rfl, Nat.le_of_ble_eq_true rfl⟩ (xce_57 G kp _ _) rfl rfl rfl (Nat.le_of_ble_eq_true rfl) hl.1 hR hS dX11_name_19 ⟨Nat.le_refl _, Nat.le_refl _⟩ (fun v2 hf H locs hR hS => ?_)
    refine x_if_eq (tgt := 39) hC dX11_name_22 (by decide) hf (fun hf => ?_) (fun hf => ?_)
    · refine lv_aload_n hC.1 hC.2.1 dX11_name_39 rfl (lv_at hl 0 rfl) ?_
      refine x_ldc2 (v := 2968) hC tw_1541 dX11_name_40 ?_
      refine x_cvi00 (rest := []) hC xy_X11_isWord tw_1489 hf (fun _ h => M_X11_isWord G l kp h) ⟨Nat.le_of_ble_eq_true rfl, Nat.le_of_ble_eq_true rfl⟩ (xce_57 G kp _ _) rfl rfl rfl (Nat.le_of_ble_eq_true rfl) hl.1 hR hS dX11_name_43 ⟨Nat.le_refl _, Nat.le_refl _⟩ (fun v3 hf H locs hR hS => ?_)
      refine x_if_eq (tgt := 56) hC dX11_name_46 (by decide) hf (fun hf => ?_) (fun hf => ?_)
      · refine lv_aload_n hC.1 hC.2.1 dX11_name_56 rfl (lv_at hl 0 rfl) ?_
        refine x_ldc2 (v := 8740067) hC tw_1542 dX11_name_57 ?_
        refine x_cvi00 (rest := []) hC xy_X11_isWord tw_1489 hf (fun _ h => M_X11_isWord G l kp h) ⟨Nat.le_of_ble_eq_true rfl, Nat.le_of_ble_eq_true rfl⟩ (xce_57 G kp _ _) rfl rfl rfl (Nat.le_of_ble_eq_true rfl) hl.1 hR hS dX11_name_60 ⟨Nat.le_refl _, Nat.le_refl _⟩ (fun v4 hf H locs hR hS => ?_)
        refine x_if_eq (tgt := 76) hC dX11_name_63 (by decide) hf (fun hf => ?_) (fun hf => ?_)
        · refine lv_aload_n hC.1 hC.2.1 dX11_name_76 rfl (lv_at hl 0 rfl) ?_
          refine x_ldc2 (v := 9626) hC tw_1543 dX11_name_77 ?_
          refine x_cvi00 (rest := []) hC xy_X11_isWord tw_1489 hf (fun _ h => M_X11_isWord G l kp h) ⟨Nat.le_of_ble_eq_true rfl, Nat.le_of_ble_eq_true rfl⟩ (xce_57 G kp _ _) rfl rfl rfl (Nat.le_of_ble_eq_true rfl) hl.1 hR hS dX11_name_80 ⟨Nat.le_refl _, Nat.le_refl _⟩ (fun v5 hf H locs hR hS => ?_)
          refine x_if_eq (tgt := 91) hC dX11_name_83 (by decide) hf (fun hf => ?_) (fun hf => ?_)
          · refine lv_aload_n hC.1 hC.2.1 dX11_name_91 rfl (lv_at hl 0 rfl) ?_
            refine x_ldc2 (v := 276913720) hC tw_1548 dX11_name_92 ?_
            refine x_cvi00 (rest := []) hC xy_X11_isWord tw_1489 hf (fun _ h => M_X11_isWord G l kp h) ⟨Nat.le_of_ble_eq_true rfl, Nat.le_of_ble_eq_true rfl⟩ (xce_57 G kp _ _) rfl rfl rfl (Nat.le_of_ble_eq_true rfl) hl.1 hR hS dX11_name_95 ⟨Nat.le_refl _, Nat.le_refl _⟩ (fun v6 hf H locs hR hS => ?_)
            refine x_if_eq (tgt := 105) hC dX11_name_98 (by decide) hf (fun hf => ?_) (fun hf => ?_)
            · refine lv_aload_n hC.1 hC.2.1 dX11_name_105 rfl (lv_at hl 0 rfl) ?_
              refine x_ldc2 (v := 8863997) hC tw_1549 dX11_name_106 ?_
              refine x_cvi00 (rest := []) hC xy_X11_isWord tw_1489 hf (fun _ h => M_X11_isWord G l kp h) ⟨Nat.le_of_ble_eq_true rfl, Nat.le_of_ble_eq_true rfl⟩ (xce_57 G kp _ _) rfl rfl rfl (Nat.le_of_ble_eq_true rfl) hl.1 hR hS dX11_name_109 ⟨Nat.le_refl _, Nat.le_refl _⟩ (fun v7 hf H locs hR hS => ?_)
              refine x_if_eq (tgt := 119) hC dX11_name_112 (by decide) hf (fun hf => ?_) (fun hf => ?_)
              · refine lv_aload_n hC.1 hC.2.1 dX11_name_119 rfl (lv_at hl 0 rfl) ?_
                refine x_ldc2 (v := 275531535) hC tw_1550 dX11_name_120 ?_
                refine x_cvi00 (rest := []) hC xy_X11_isWord tw_1489 hf (fun _ h => M_X11_isWord G l kp h) ⟨Nat.le_of_ble_eq_true rfl, Nat.le_of_ble_eq_true rfl⟩ (xce_57 G kp _ _) rfl rfl rfl (Nat.le_of_ble_eq_true rfl) hl.1 hR hS dX11_name_123 ⟨Nat.le_refl _, Nat.le_refl _⟩ (fun v8 hf H locs hR hS => ?_)
                refine x_if_eq (tgt := 133) hC dX11_name_126 (by decide) hf (fun hf => ?_) (fun hf => ?_)
                · refine lv_aload_n hC.1 hC.2.1 dX11_name_133 rfl (lv_at hl 0 rfl) ?_
                  refine x_ldc2 (v := 1494603) hC tw_1551 dX11_name_134 ?_
                  refine x_cvi00 (rest := []) hC xy_X11_isWord tw_1489 hf (fun _ h => M_X11_isWord G l kp h) ⟨Nat.le_of_ble_eq_true rfl, Nat.le_of_ble_eq_true rfl⟩ (xce_57 G kp _ _) rfl rfl rfl (Nat.le_of_ble_eq_true rfl) hl.1 hR hS dX11_name_137 ⟨Nat.le_refl _, Nat.le_refl _⟩ (fun v9 hf H locs hR hS => ?_)
                  refine x_if_eq (tgt := 147) hC dX11_name_140 (by decide) hf (fun hf => ?_) (fun hf => ?_)
                  · refine lv_aload_n hC.1 hC.2.1 dX11_name_147 rfl (lv_at hl 0 rfl) ?_
                    refine x_ldc2 (v := 6941854) hC tw_1552 dX11_name_148 ?_
                    refine x_cvi00 (rest := []) hC xy_X11_isWord tw_1489 hf (fun _ h => M_X11_isWord G l kp h) ⟨Nat.le_of_ble_eq_true rfl, Nat.le_of_ble_eq_true rfl⟩ (xce_57 G kp _ _) rfl rfl rfl (Nat.le_of_ble_eq_true rfl) hl.1 hR hS dX11_name_151 ⟨Nat.le_refl _, Nat.le_refl _⟩ (fun v10 hf H locs hR hS => ?_)
                    refine x_if_eq (tgt := 162) hC dX11_name_154 (by decide) hf (fun hf => ?_) (fun hf => ?_)
                    · refine lv_iconst (v := (-1)) hC.1 hC.2.1 dX11_name_162 (by decide) ?_
                      exact W_X11_name_j163 hC N hf _ _ _ hR hS (lv_sub hl [0] rfl)
                    · refine lv_bipush (v := 9) hC.1 hC.2.1 dX11_name_157 (by decide) ?_
                      refine lv_goto (tgt := 163) hC.1 hC.2.1 dX11_name_159 (by decide) ?_
                      exact W_X11_name_j163 hC N hf _ _ _ hR hS (lv_sub hl [0] rfl)
                  · refine lv_iconst (v := 2) hC.1 hC.2.1 dX11_name_143 (by decide) ?_
                    refine lv_goto (tgt := 163) hC.1 hC.2.1 dX11_name_144 (by decide) ?_
                    exact W_X11_name_j163 hC N hf _ _ _ hR hS (lv_sub hl [0] rfl)
                · refine lv_iconst (v := 1) hC.1 hC.2.1 dX11_name_129 (by decide) ?_
                  refine lv_goto (tgt := 163) hC.1 hC.2.1 dX11_name_130 (by decide) ?_
                  exact W_X11_name_j163 hC N hf _ _ _ hR hS (lv_sub hl [0] rfl)
              · refine lv_iconst (v := 5) hC.1 hC.2.1 dX11_name_115 (by decide) ?_
                refine lv_goto (tgt := 163) hC.1 hC.2.1 dX11_name_116 (by decide) ?_
                exact W_X11_name_j163 hC N hf _ _ _ hR hS (lv_sub hl [0] rfl)
            · refine lv_iconst (v := 4) hC.1 hC.2.1 dX11_name_101 (by decide) ?_
              refine lv_goto (tgt := 163) hC.1 hC.2.1 dX11_name_102 (by decide) ?_
              exact W_X11_name_j163 hC N hf _ _ _ hR hS (lv_sub hl [0] rfl)
          · refine lv_aload_n hC.1 hC.2.1 dX11_name_86 rfl (lv_at hl 0 rfl) ?_
            refine x_cvi00 (rest := []) hC xy_X11_menUp tw_1544 hf (fun _ h => M_X11_menUp G l kp N h) ⟨Nat.le_of_ble_eq_true rfl, Nat.le_of_ble_eq_true rfl⟩ (xce_57 G kp _ _) rfl rfl rfl (Nat.le_of_ble_eq_true rfl) hl.1 hR hS dX11_name_87 ⟨Nat.le_refl _, Nat.le_refl _⟩ (fun v11 hf H locs hR hS => ?_)
            obtain ⟨h91, h92⟩ := Prod.mk.inj (Option.some.inj hf)
            subst h91
            subst h92
            exact x_iret hC hR hS dX11_name_90
        · refine lv_aload_n hC.1 hC.2.1 dX11_name_66 rfl (lv_at hl 0 rfl) ?_
          refine x_get (v := .ref (xz G + 58)) hC xf_X11_14 (xce_57 G kp _ _) rfl hR dX11_name_67 ?_
          refine lv_iconst (v := 0) hC.1 hC.2.1 dX11_name_70 (by decide) ?_
          refine x_ial hC (xce_58 G kp _ _) hR dX11_name_71 hf (fun v12 hf => ?_)
          refine lv_bipush (v := 14) hC.1 hC.2.1 dX11_name_72 (by decide) ?_
          refine lv_irem hC.1 hC.2.1 dX11_name_74 (by decide) ?_
          obtain ⟨h91, h92⟩ := Prod.mk.inj (Option.some.inj hf)
          subst h91
          subst h92
          exact x_iret hC hR hS dX11_name_75
      · refine lv_aload_n hC.1 hC.2.1 dX11_name_49 rfl (lv_at hl 0 rfl) ?_
        refine x_get (v := .ref (xz G + 58)) hC xf_X11_14 (xce_57 G kp _ _) rfl hR dX11_name_50 ?_
        refine lv_iconst (v := 0) hC.1 hC.2.1 dX11_name_53 (by decide) ?_
        refine x_ial hC (xce_58 G kp _ _) hR dX11_name_54 hf (fun v13 hf => ?_)
        obtain ⟨h91, h92⟩ := Prod.mk.inj (Option.some.inj hf)
        subst h91
        subst h92
        exact x_iret hC hR hS dX11_name_55
    · refine lv_aload_n hC.1 hC.2.1 dX11_name_25 rfl (lv_at hl 0 rfl) ?_
      refine x_get (v := .ref (xz G + 58)) hC xf_X11_14 (xce_57 G kp _ _) rfl hR dX11_name_26 ?_
      refine lv_sipush (v := 184) hC.1 hC.2.1 dX11_name_29 (by decide) ?_
      refine lv_aload_n hC.1 hC.2.1 dX11_name_32 rfl (lv_at hl 0 rfl) ?_
      refine x_getI hC xf_X11_224 (xce_57 G kp _ _) rfl hR dX11_name_33 hf (fun v14 hf => ?_)
      refine lv_iadd hC.1 hC.2.1 dX11_name_36 ?_
      refine x_ial hC (xce_58 G kp _ _) hR dX11_name_37 hf (fun v15 hf => ?_)
      obtain ⟨h91, h92⟩ := Prod.mk.inj (Option.some.inj hf)
      subst h91
      subst h92
      exact x_iret hC hR hS dX11_name_38
  · refine lv_aload_n hC.1 hC.2.1 dX11_name_10 rfl (lv_at hl 0 rfl) ?_
    refine x_getI hC xf_X11_224 (xce_57 G kp _ _) rfl hR dX11_name_11 hf (fun v16 hf => ?_)
    obtain ⟨h91, h92⟩ := Prod.mk.inj (Option.some.inj hf)
    subst h91
    subst h92
    exact x_iret hC hR hS dX11_name_14





set_option maxRecDepth 20000 in
theorem W_X11_added_j39 {G : XG} {l : Launch} {kp : Bool} {p : Program} {e : Env} {s : State} {m : MethodId} {args : Array Value} {below : List Frame} {meth : Method} {c : Code} (hC : xC G p s m args meth c cX11_added 4 RX11 (some .int)) (N : Nat) {d : Nat} {c0 : xTI → xTL → Option (Int32 × xTI × xTL)} {c1 : xTI → xTL → Option (Int32 × xTI × xTL)} {c2 : xTI → xTL → Option (Int32 × xTI × xTL)} {c3 : xTI → xTL → Option (Int32 × xTI × xTL)} {c4 : xTI → xTL → Option (Int32 × xTI × xTL)} {c5 : xTI → xTL → Option (Int32 × xTI × xTL)} (hc0 : ∀ {I : xTI} {L : xTL} {r : Int32} {rI : xTI} {rL : xTL} , c0 I L = some (r, rI, rL) → xMet G l yX11_added cX11_added 4 (some .int) (3 + d) (64 + 24 * d) kp [.ref (xz G + 57)] I L (some (.int r)) rI rL) (hc1 : ∀ {I : xTI} {L : xTL} {r : Int32} {rI : xTI} {rL : xTL} , c1 I L = some (r, rI, rL) → xMet G l yX11_both cX11_both 3 (some .int) (3 + d) (64 + 24 * d) kp [.ref (xz G + 57)] I L (some (.int r)) rI rL) (hc2 : ∀ {I : xTI} {L : xTL} {r : Int32} {rI : xTI} {rL : xTL} , c2 I L = some (r, rI, rL) → xMet G l yX11_either cX11_either 3 (some .int) (3 + d) (64 + 24 * d) kp [.ref (xz G + 57)] I L (some (.int r)) rI rL) (hc3 : ∀ {I : xTI} {L : xTL} {r : Int32} {rI : xTI} {rL : xTL} , c3 I L = some (r, rI, rL) → xMet G l yX11_not cX11_not 5 (some .int) (3 + d) (64 + 24 * d) kp [.ref (xz G + 57)] I L (some (.int r)) rI rL) (hc4 : ∀ {I : xTI} {L : xTL} {r : Int32} {rI : xTI} {rL : xTL} , c4 I L = some (r, rI, rL) → xMet G l yX11_one cX11_one 2 (some .int) (3 + d) (64 + 24 * d) kp [.ref (xz G + 57)] I L (some (.int r)) rI rL) (hc5 : ∀ {I : xTI} {L : xTL} {r : Int32} {rI : xTI} {rL : xTL} , c5 I L = some (r, rI, rL) → xMet G l yX11_term cX11_term 5 (some .int) (3 + d) (64 + 24 * d) kp [.ref (xz G + 57)] I L (some (.int r)) rI rL) {I : xTI} {L : xTL} {r : Int32} {rI : xTI} {rL : xTL} {x1 : Int32} {t0 : Int32} (k5 : Int32 × xTI × xTL → Option (Int32 × xTI × xTL)) (hk5 : ∀ (x1 : Int32) (I : xTI) (L : xTL) , k5 (x1, I, L) = some (r, rI, rL) → ∀ (H : Heap) (locs : List Loc) (ls : Array Slot), xRep G kp I L H → xS G s.heap H locs → lv_has ls 4 [(0, .ref (xz G + 57)), (1, .int x1)] → W p l e (xrm (3 + (d + 1)) (64 + 24 * (d + 1))) s m args below meth c H locs 0 0 (xMQ G kp below args s (some (.int r)) rI rL) (F0 m 5 ls [])) (hf : F_X11_added_j39 c0 c1 c2 c3 c4 c5 k5 N I L x1 t0 = some (r, rI, rL)) : ∀ (H : Heap) (locs : List Loc) (ls : Array Slot), xRep G kp I L H → xS G s.heap H locs → lv_has ls 4 [(0, .ref (xz G + 57)), (1, .int x1)] → W p l e (xrm (3 + (d + 1)) (64 + 24 * (d + 1))) s m args below meth c H locs 0 0 (xMQ G kp below args s (some (.int r)) rI rL) (F0 m 39 ls [.int t0]) := by
  intro H locs ls hR hS hl
  unfold F_X11_added_j39 at hf
  refine lv_istore_n (lv' := [(2, .int t0), (0, .ref (xz G + 57)), (1, .int x1)]) hC.1 hC.2.1 dX11_added_39 rfl hl (Nat.le_of_ble_eq_true rfl) rfl (fun ls hl => ?_)
  refine lv_aload_n hC.1 hC.2.1 dX11_added_40 rfl (lv_at hl 1 rfl) ?_
  refine x_cvv11 (rest := []) hC xy_X11_next tw_1471 hf (fun _ _ h => M_X11_next G l kp N h) ⟨by show _ ≤ _; dsimp only; omega, by show _ ≤ _; dsimp only; omega⟩ (xce_57 G kp _ _) rfl rfl rfl (Nat.le_of_ble_eq_true rfl) hl.1 hR hS dX11_added_41 ⟨Nat.le_refl _, Nat.le_refl _⟩ (fun I1 L2 hf H locs hR hS => ?_)
  refine lv_aload_n hC.1 hC.2.1 dX11_added_44 rfl (lv_at hl 1 rfl) ?_
  refine x_cvi11 (rest := []) hC xy_X11_term tw_1523 hf (fun _ _ _ h => hc5 h) ⟨by show _ ≤ _; dsimp only; omega, by show _ ≤ _; dsimp only; omega⟩ (xce_57 G kp _ _) rfl rfl rfl (Nat.le_of_ble_eq_true rfl) hl.1 hR hS dX11_added_45 ⟨Nat.le_refl _, Nat.le_refl _⟩ (fun v3 I4 L5 hf H locs hR hS => ?_)
  refine lv_istore_n (lv' := [(3, .int v3), (2, .int t0), (0, .ref (xz G + 57)), (1, .int x1)]) hC.1 hC.2.1 dX11_added_48 rfl hl (Nat.le_of_ble_eq_true rfl) rfl (fun ls hl => ?_)
  refine lv_iload_n hC.1 hC.2.1 dX11_added_49 rfl (lv_at hl 1 rfl) ?_
  refine x_if_eq (tgt := 59) hC dX11_added_50 (by decide) hf (fun hf => ?_) (fun hf => ?_)
  · refine lv_iload_n hC.1 hC.2.1 dX11_added_59 rfl (lv_at hl 3 rfl) ?_
    refine lv_iload_n hC.1 hC.2.1 dX11_added_60 rfl (lv_at hl 0 rfl) ?_
    refine lv_isub hC.1 hC.2.1 dX11_added_61 ?_
    refine x_istn (lv' := fun y6 => [(1, .int y6), (3, .int v3), (2, .int t0), (0, .ref (xz G + 57))]) hC hl dX11_added_62 rfl (Nat.le_of_ble_eq_true rfl) hf (fun _ => rfl) (fun y6 hf ls hl => ?_)
    refine lv_goto (tgt := 5) hC.1 hC.2.1 dX11_added_63 (by decide) ?_
    exact hk5 y6 I4 L5 hf _ _ _ hR hS (lv_sub hl [3, 0] rfl)
  · refine lv_iload_n hC.1 hC.2.1 dX11_added_53 rfl (lv_at hl 3 rfl) ?_
    refine lv_iload_n hC.1 hC.2.1 dX11_added_54 rfl (lv_at hl 0 rfl) ?_
    refine lv_iadd hC.1 hC.2.1 dX11_added_55 ?_
    refine lv_goto (tgt := 62) hC.1 hC.2.1 dX11_added_56 (by decide) ?_
    refine x_istn (lv' := fun y7 => [(1, .int y7), (3, .int v3), (2, .int t0), (0, .ref (xz G + 57))]) hC hl dX11_added_62 rfl (Nat.le_of_ble_eq_true rfl) hf (fun _ => rfl) (fun y7 hf ls hl => ?_)
    refine lv_goto (tgt := 5) hC.1 hC.2.1 dX11_added_63 (by decide) ?_
    exact hk5 y7 I4 L5 hf _ _ _ hR hS (lv_sub hl [3, 0] rfl)
set_option maxRecDepth 20000 in
theorem W_X11_added_j23 {G : XG} {l : Launch} {kp : Bool} {p : Program} {e : Env} {s : State} {m : MethodId} {args : Array Value} {below : List Frame} {meth : Method} {c : Code} (hC : xC G p s m args meth c cX11_added 4 RX11 (some .int)) (N : Nat) {d : Nat} {c0 : xTI → xTL → Option (Int32 × xTI × xTL)} {c1 : xTI → xTL → Option (Int32 × xTI × xTL)} {c2 : xTI → xTL → Option (Int32 × xTI × xTL)} {c3 : xTI → xTL → Option (Int32 × xTI × xTL)} {c4 : xTI → xTL → Option (Int32 × xTI × xTL)} {c5 : xTI → xTL → Option (Int32 × xTI × xTL)} (hc0 : ∀ {I : xTI} {L : xTL} {r : Int32} {rI : xTI} {rL : xTL} , c0 I L = some (r, rI, rL) → xMet G l yX11_added cX11_added 4 (some .int) (3 + d) (64 + 24 * d) kp [.ref (xz G + 57)] I L (some (.int r)) rI rL) (hc1 : ∀ {I : xTI} {L : xTL} {r : Int32} {rI : xTI} {rL : xTL} , c1 I L = some (r, rI, rL) → xMet G l yX11_both cX11_both 3 (some .int) (3 + d) (64 + 24 * d) kp [.ref (xz G + 57)] I L (some (.int r)) rI rL) (hc2 : ∀ {I : xTI} {L : xTL} {r : Int32} {rI : xTI} {rL : xTL} , c2 I L = some (r, rI, rL) → xMet G l yX11_either cX11_either 3 (some .int) (3 + d) (64 + 24 * d) kp [.ref (xz G + 57)] I L (some (.int r)) rI rL) (hc3 : ∀ {I : xTI} {L : xTL} {r : Int32} {rI : xTI} {rL : xTL} , c3 I L = some (r, rI, rL) → xMet G l yX11_not cX11_not 5 (some .int) (3 + d) (64 + 24 * d) kp [.ref (xz G + 57)] I L (some (.int r)) rI rL) (hc4 : ∀ {I : xTI} {L : xTL} {r : Int32} {rI : xTI} {rL : xTL} , c4 I L = some (r, rI, rL) → xMet G l yX11_one cX11_one 2 (some .int) (3 + d) (64 + 24 * d) kp [.ref (xz G + 57)] I L (some (.int r)) rI rL) (hc5 : ∀ {I : xTI} {L : xTL} {r : Int32} {rI : xTI} {rL : xTL} , c5 I L = some (r, rI, rL) → xMet G l yX11_term cX11_term 5 (some .int) (3 + d) (64 + 24 * d) kp [.ref (xz G + 57)] I L (some (.int r)) rI rL) {I : xTI} {L : xTL} {r : Int32} {rI : xTI} {rL : xTL} {x1 : Int32} (k5 : Int32 × xTI × xTL → Option (Int32 × xTI × xTL)) (hk5 : ∀ (x1 : Int32) (I : xTI) (L : xTL) , k5 (x1, I, L) = some (r, rI, rL) → ∀ (H : Heap) (locs : List Loc) (ls : Array Slot), xRep G kp I L H → xS G s.heap H locs → lv_has ls 4 [(0, .ref (xz G + 57)), (1, .int x1)] → W p l e (xrm (3 + (d + 1)) (64 + 24 * (d + 1))) s m args below meth c H locs 0 0 (xMQ G kp below args s (some (.int r)) rI rL) (F0 m 5 ls [])) (hf : F_X11_added_j23 c0 c1 c2 c3 c4 c5 k5 N I L x1 = some (r, rI, rL)) : ∀ (H : Heap) (locs : List Loc) (ls : Array Slot), xRep G kp I L H → xS G s.heap H locs → lv_has ls 4 [(0, .ref (xz G + 57)), (1, .int x1)] → W p l e (xrm (3 + (d + 1)) (64 + 24 * (d + 1))) s m args below meth c H locs 0 0 (xMQ G kp below args s (some (.int r)) rI rL) (F0 m 23 ls []) := by
  intro H locs ls hR hS hl
  unfold F_X11_added_j23 at hf
  refine lv_aload_n hC.1 hC.2.1 dX11_added_23 rfl (lv_at hl 0 rfl) ?_
  refine x_getL hC xf_X11_188 (xce_57 G kp _ _) rfl hR dX11_added_24 hf (fun v1 hf => ?_)
  refine x_ldc2 (v := 43) hC tw_1555 dX11_added_27 ?_
  refine W.lcmp hC.1 hC.2.1 dX11_added_30 ?_
  refine x_if_ne (tgt := 38) hC dX11_added_31 (by decide) hf (fun hf => ?_) (fun hf => ?_)
  · refine lv_iconst (v := 0) hC.1 hC.2.1 dX11_added_38 (by decide) ?_
    exact W_X11_added_j39 hC N hc0 hc1 hc2 hc3 hc4 hc5 _ hk5 hf _ _ _ hR hS (lv_sub hl [0, 1] rfl)
  · refine lv_iconst (v := 1) hC.1 hC.2.1 dX11_added_34 (by decide) ?_
    refine lv_goto (tgt := 39) hC.1 hC.2.1 dX11_added_35 (by decide) ?_
    exact W_X11_added_j39 hC N hc0 hc1 hc2 hc3 hc4 hc5 _ hk5 hf _ _ _ hR hS (lv_sub hl [0, 1] rfl)
set_option maxRecDepth 20000 in
theorem W_X11_added_l5 {G : XG} {l : Launch} {kp : Bool} {p : Program} {e : Env} {s : State} {m : MethodId} {args : Array Value} {below : List Frame} {meth : Method} {c : Code} (hC : xC G p s m args meth c cX11_added 4 RX11 (some .int)) (N : Nat) {d : Nat} {c0 : xTI → xTL → Option (Int32 × xTI × xTL)} {c1 : xTI → xTL → Option (Int32 × xTI × xTL)} {c2 : xTI → xTL → Option (Int32 × xTI × xTL)} {c3 : xTI → xTL → Option (Int32 × xTI × xTL)} {c4 : xTI → xTL → Option (Int32 × xTI × xTL)} {c5 : xTI → xTL → Option (Int32 × xTI × xTL)} (hc0 : ∀ {I : xTI} {L : xTL} {r : Int32} {rI : xTI} {rL : xTL} , c0 I L = some (r, rI, rL) → xMet G l yX11_added cX11_added 4 (some .int) (3 + d) (64 + 24 * d) kp [.ref (xz G + 57)] I L (some (.int r)) rI rL) (hc1 : ∀ {I : xTI} {L : xTL} {r : Int32} {rI : xTI} {rL : xTL} , c1 I L = some (r, rI, rL) → xMet G l yX11_both cX11_both 3 (some .int) (3 + d) (64 + 24 * d) kp [.ref (xz G + 57)] I L (some (.int r)) rI rL) (hc2 : ∀ {I : xTI} {L : xTL} {r : Int32} {rI : xTI} {rL : xTL} , c2 I L = some (r, rI, rL) → xMet G l yX11_either cX11_either 3 (some .int) (3 + d) (64 + 24 * d) kp [.ref (xz G + 57)] I L (some (.int r)) rI rL) (hc3 : ∀ {I : xTI} {L : xTL} {r : Int32} {rI : xTI} {rL : xTL} , c3 I L = some (r, rI, rL) → xMet G l yX11_not cX11_not 5 (some .int) (3 + d) (64 + 24 * d) kp [.ref (xz G + 57)] I L (some (.int r)) rI rL) (hc4 : ∀ {I : xTI} {L : xTL} {r : Int32} {rI : xTI} {rL : xTL} , c4 I L = some (r, rI, rL) → xMet G l yX11_one cX11_one 2 (some .int) (3 + d) (64 + 24 * d) kp [.ref (xz G + 57)] I L (some (.int r)) rI rL) (hc5 : ∀ {I : xTI} {L : xTL} {r : Int32} {rI : xTI} {rL : xTL} , c5 I L = some (r, rI, rL) → xMet G l yX11_term cX11_term 5 (some .int) (3 + d) (64 + 24 * d) kp [.ref (xz G + 57)] I L (some (.int r)) rI rL) {r : Int32} {rI : xTI} {rL : xTL} : ∀ (n : Nat) (x1 : Int32) (I : xTI) (L : xTL) , xlp (F_X11_added_b5 c0 c1 c2 c3 c4 c5 N ) n (x1, I, L) = some (r, rI, rL) → ∀ (H : Heap) (locs : List Loc) (ls : Array Slot), xRep G kp I L H → xS G s.heap H locs → lv_has ls 4 [(0, .ref (xz G + 57)), (1, .int x1)] → W p l e (xrm (3 + (d + 1)) (64 + 24 * (d + 1))) s m args below meth c H locs 0 0 (xMQ G kp below args s (some (.int r)) rI rL) (F0 m 5 ls []) := by
  intro n
  induction n with
  | zero =>
    intro x1 I L hf
    cases hf
  | succ n hk5 =>
    intro x1 I L hf H locs ls hR hS hl
    rw [xlp_s, E_X11_added_b5] at hf
    unfold F_X11_added_c5 at hf
    refine lv_aload_n hC.1 hC.2.1 dX11_added_5 rfl (lv_at hl 0 rfl) ?_
    refine lv_bipush (v := 43) hC.1 hC.2.1 dX11_added_6 (by decide) ?_
    refine x_cvi00 (rest := []) hC xy_X11_isSign tw_1531 hf (fun _ h => M_X11_isSign G l kp h) ⟨by show _ ≤ _; dsimp only; omega, by show _ ≤ _; dsimp only; omega⟩ (xce_57 G kp _ _) rfl rfl rfl (Nat.le_of_ble_eq_true rfl) hl.1 hR hS dX11_added_8 ⟨Nat.le_refl _, Nat.le_refl _⟩ (fun v1 hf H locs hR hS => ?_)
    refine x_if_ne (tgt := 23) hC dX11_added_11 (by decide) hf (fun hf => ?_) (fun hf => ?_)
    · exact W_X11_added_j23 hC N hc0 hc1 hc2 hc3 hc4 hc5 _ hk5 hf _ _ _ hR hS (lv_sub hl [0, 1] rfl)
    · refine lv_aload_n hC.1 hC.2.1 dX11_added_14 rfl (lv_at hl 0 rfl) ?_
      refine lv_bipush (v := 45) hC.1 hC.2.1 dX11_added_15 (by decide) ?_
      refine x_cvi00 (rest := []) hC xy_X11_isSign tw_1531 hf (fun _ h => M_X11_isSign G l kp h) ⟨by show _ ≤ _; dsimp only; omega, by show _ ≤ _; dsimp only; omega⟩ (xce_57 G kp _ _) rfl rfl rfl (Nat.le_of_ble_eq_true rfl) hl.1 hR hS dX11_added_17 ⟨Nat.le_refl _, Nat.le_refl _⟩ (fun v2 hf H locs hR hS => ?_)
      refine x_if_eq (tgt := 66) hC dX11_added_20 (by decide) hf (fun hf => ?_) (fun hf => ?_)
      · refine lv_iload_n hC.1 hC.2.1 dX11_added_66 rfl (lv_at hl 1 rfl) ?_
        obtain ⟨h91, h90⟩ := Prod.mk.inj (Option.some.inj hf)
        obtain ⟨h92, h93⟩ := Prod.mk.inj h90
        subst h91
        subst h92
        subst h93
        exact x_iret hC hR hS dX11_added_67
      · exact W_X11_added_j23 hC N hc0 hc1 hc2 hc3 hc4 hc5 _ hk5 hf _ _ _ hR hS (lv_sub hl [0, 1] rfl)
set_option maxRecDepth 20000 in
theorem M_X11_added_B (G : XG) (l : Launch) (kp : Bool) (N : Nat) {d : Nat} {c0 : xTI → xTL → Option (Int32 × xTI × xTL)} {c1 : xTI → xTL → Option (Int32 × xTI × xTL)} {c2 : xTI → xTL → Option (Int32 × xTI × xTL)} {c3 : xTI → xTL → Option (Int32 × xTI × xTL)} {c4 : xTI → xTL → Option (Int32 × xTI × xTL)} {c5 : xTI → xTL → Option (Int32 × xTI × xTL)} (hc0 : ∀ {I : xTI} {L : xTL} {r : Int32} {rI : xTI} {rL : xTL} , c0 I L = some (r, rI, rL) → xMet G l yX11_added cX11_added 4 (some .int) (3 + d) (64 + 24 * d) kp [.ref (xz G + 57)] I L (some (.int r)) rI rL) (hc1 : ∀ {I : xTI} {L : xTL} {r : Int32} {rI : xTI} {rL : xTL} , c1 I L = some (r, rI, rL) → xMet G l yX11_both cX11_both 3 (some .int) (3 + d) (64 + 24 * d) kp [.ref (xz G + 57)] I L (some (.int r)) rI rL) (hc2 : ∀ {I : xTI} {L : xTL} {r : Int32} {rI : xTI} {rL : xTL} , c2 I L = some (r, rI, rL) → xMet G l yX11_either cX11_either 3 (some .int) (3 + d) (64 + 24 * d) kp [.ref (xz G + 57)] I L (some (.int r)) rI rL) (hc3 : ∀ {I : xTI} {L : xTL} {r : Int32} {rI : xTI} {rL : xTL} , c3 I L = some (r, rI, rL) → xMet G l yX11_not cX11_not 5 (some .int) (3 + d) (64 + 24 * d) kp [.ref (xz G + 57)] I L (some (.int r)) rI rL) (hc4 : ∀ {I : xTI} {L : xTL} {r : Int32} {rI : xTI} {rL : xTL} , c4 I L = some (r, rI, rL) → xMet G l yX11_one cX11_one 2 (some .int) (3 + d) (64 + 24 * d) kp [.ref (xz G + 57)] I L (some (.int r)) rI rL) (hc5 : ∀ {I : xTI} {L : xTL} {r : Int32} {rI : xTI} {rL : xTL} , c5 I L = some (r, rI, rL) → xMet G l yX11_term cX11_term 5 (some .int) (3 + d) (64 + 24 * d) kp [.ref (xz G + 57)] I L (some (.int r)) rI rL) {I : xTI} {L : xTL} {r : Int32} {rI : xTI} {rL : xTL} (hf : F_X11_added_B c0 c1 c2 c3 c4 c5 N I L = some (r, rI, rL)) : xMet G l yX11_added cX11_added 4 (some .int) (3 + (d + 1)) (64 + 24 * (d + 1)) kp [.ref (xz G + 57)] I L (some (.int r)) rI rL := by
  refine xMet.ofW (by decide +kernel) (Nat.le_of_ble_eq_true rfl) ?_
  intro p e s m args below meth c hC H locs ls hR hS hl
  replace hC : xC G p s m args meth c cX11_added 4 RX11 (some .int) := hC
  replace hl : lv_has ls 4 [(0, .ref (xz G + 57))] := hl
  unfold F_X11_added_B at hf
  refine lv_aload_n hC.1 hC.2.1 dX11_added_0 rfl (lv_at hl 0 rfl) ?_
  refine x_cvi11 (rest := []) hC xy_X11_term tw_1523 hf (fun _ _ _ h => hc5 h) ⟨by show _ ≤ _; dsimp only; omega, by show _ ≤ _; dsimp only; omega⟩ (xce_57 G kp _ _) rfl rfl rfl (Nat.le_of_ble_eq_true rfl) hl.1 hR hS dX11_added_1 ⟨Nat.le_refl _, Nat.le_refl _⟩ (fun v1 I2 L3 hf H locs hR hS => ?_)
  refine lv_istore_n (lv' := [(1, .int v1), (0, .ref (xz G + 57))]) hC.1 hC.2.1 dX11_added_4 rfl hl (Nat.le_of_ble_eq_true rfl) rfl (fun ls hl => ?_)
  exact W_X11_added_l5 hC N hc0 hc1 hc2 hc3 hc4 hc5 _ v1 I2 L3 hf _ _ _ hR hS (lv_sub hl [1, 0] rfl)
set_option maxRecDepth 20000 in
theorem W_X11_both_l5 {G : XG} {l : Launch} {kp : Bool} {p : Program} {e : Env} {s : State} {m : MethodId} {args : Array Value} {below : List Frame} {meth : Method} {c : Code} (hC : xC G p s m args meth c cX11_both 3 RX11 (some .int)) (N : Nat) {d : Nat} {c0 : xTI → xTL → Option (Int32 × xTI × xTL)} {c1 : xTI → xTL → Option (Int32 × xTI × xTL)} {c2 : xTI → xTL → Option (Int32 × xTI × xTL)} {c3 : xTI → xTL → Option (Int32 × xTI × xTL)} {c4 : xTI → xTL → Option (Int32 × xTI × xTL)} {c5 : xTI → xTL → Option (Int32 × xTI × xTL)} (hc0 : ∀ {I : xTI} {L : xTL} {r : Int32} {rI : xTI} {rL : xTL} , c0 I L = some (r, rI, rL) → xMet G l yX11_added cX11_added 4 (some .int) (3 + d) (64 + 24 * d) kp [.ref (xz G + 57)] I L (some (.int r)) rI rL) (hc1 : ∀ {I : xTI} {L : xTL} {r : Int32} {rI : xTI} {rL : xTL} , c1 I L = some (r, rI, rL) → xMet G l yX11_both cX11_both 3 (some .int) (3 + d) (64 + 24 * d) kp [.ref (xz G + 57)] I L (some (.int r)) rI rL) (hc2 : ∀ {I : xTI} {L : xTL} {r : Int32} {rI : xTI} {rL : xTL} , c2 I L = some (r, rI, rL) → xMet G l yX11_either cX11_either 3 (some .int) (3 + d) (64 + 24 * d) kp [.ref (xz G + 57)] I L (some (.int r)) rI rL) (hc3 : ∀ {I : xTI} {L : xTL} {r : Int32} {rI : xTI} {rL : xTL} , c3 I L = some (r, rI, rL) → xMet G l yX11_not cX11_not 5 (some .int) (3 + d) (64 + 24 * d) kp [.ref (xz G + 57)] I L (some (.int r)) rI rL) (hc4 : ∀ {I : xTI} {L : xTL} {r : Int32} {rI : xTI} {rL : xTL} , c4 I L = some (r, rI, rL) → xMet G l yX11_one cX11_one 2 (some .int) (3 + d) (64 + 24 * d) kp [.ref (xz G + 57)] I L (some (.int r)) rI rL) (hc5 : ∀ {I : xTI} {L : xTL} {r : Int32} {rI : xTI} {rL : xTL} , c5 I L = some (r, rI, rL) → xMet G l yX11_term cX11_term 5 (some .int) (3 + d) (64 + 24 * d) kp [.ref (xz G + 57)] I L (some (.int r)) rI rL) {r : Int32} {rI : xTI} {rL : xTL} : ∀ (n : Nat) (x1 : Int32) (I : xTI) (L : xTL) , xlp (F_X11_both_b5 c0 c1 c2 c3 c4 c5 N ) n (x1, I, L) = some (r, rI, rL) → ∀ (H : Heap) (locs : List Loc) (ls : Array Slot), xRep G kp I L H → xS G s.heap H locs → lv_has ls 3 [(0, .ref (xz G + 57)), (1, .int x1)] → W p l e (xrm (3 + (d + 1)) (64 + 24 * (d + 1))) s m args below meth c H locs 0 0 (xMQ G kp below args s (some (.int r)) rI rL) (F0 m 5 ls []) := by
  intro n
  induction n with
  | zero =>
    intro x1 I L hf
    cases hf
  | succ n hk5 =>
    intro x1 I L hf H locs ls hR hS hl
    rw [xlp_s, E_X11_both_b5] at hf
    unfold F_X11_both_c5 at hf
    refine lv_aload_n hC.1 hC.2.1 dX11_both_5 rfl (lv_at hl 0 rfl) ?_
    refine x_ldc2 (v := 1111) hC tw_1558 dX11_both_6 ?_
    refine x_cvi00 (rest := []) hC xy_X11_isWord tw_1489 hf (fun _ h => M_X11_isWord G l kp h) ⟨by show _ ≤ _; dsimp only; omega, by show _ ≤ _; dsimp only; omega⟩ (xce_57 G kp _ _) rfl rfl rfl (Nat.le_of_ble_eq_true rfl) hl.1 hR hS dX11_both_9 ⟨Nat.le_refl _, Nat.le_refl _⟩ (fun v1 hf H locs hR hS => ?_)
    refine x_if_eq (tgt := 41) hC dX11_both_12 (by decide) hf (fun hf => ?_) (fun hf => ?_)
    · refine lv_iload_n hC.1 hC.2.1 dX11_both_41 rfl (lv_at hl 1 rfl) ?_
      obtain ⟨h91, h90⟩ := Prod.mk.inj (Option.some.inj hf)
      obtain ⟨h92, h93⟩ := Prod.mk.inj h90
      subst h91
      subst h92
      subst h93
      exact x_iret hC hR hS dX11_both_42
    · refine lv_aload_n hC.1 hC.2.1 dX11_both_15 rfl (lv_at hl 0 rfl) ?_
      refine x_cvv11 (rest := []) hC xy_X11_next tw_1471 hf (fun _ _ h => M_X11_next G l kp N h) ⟨by show _ ≤ _; dsimp only; omega, by show _ ≤ _; dsimp only; omega⟩ (xce_57 G kp _ _) rfl rfl rfl (Nat.le_of_ble_eq_true rfl) hl.1 hR hS dX11_both_16 ⟨Nat.le_refl _, Nat.le_refl _⟩ (fun I2 L3 hf H locs hR hS => ?_)
      refine lv_aload_n hC.1 hC.2.1 dX11_both_19 rfl (lv_at hl 0 rfl) ?_
      refine x_cvi11 (rest := []) hC xy_X11_not tw_1510 hf (fun _ _ _ h => hc3 h) ⟨by show _ ≤ _; dsimp only; omega, by show _ ≤ _; dsimp only; omega⟩ (xce_57 G kp _ _) rfl rfl rfl (Nat.le_of_ble_eq_true rfl) hl.1 hR hS dX11_both_20 ⟨Nat.le_refl _, Nat.le_refl _⟩ (fun v4 I5 L6 hf H locs hR hS => ?_)
      refine lv_istore_n (lv' := [(2, .int v4), (0, .ref (xz G + 57)), (1, .int x1)]) hC.1 hC.2.1 dX11_both_23 rfl hl (Nat.le_of_ble_eq_true rfl) rfl (fun ls hl => ?_)
      refine lv_iload_n hC.1 hC.2.1 dX11_both_24 rfl (lv_at hl 2 rfl) ?_
      refine x_if_eq (tgt := 36) hC dX11_both_25 (by decide) hf (fun hf => ?_) (fun hf => ?_)
      · refine lv_iconst (v := 0) hC.1 hC.2.1 dX11_both_36 (by decide) ?_
        refine lv_istore_n (lv' := [(1, .int 0), (2, .int v4), (0, .ref (xz G + 57))]) hC.1 hC.2.1 dX11_both_37 rfl hl (Nat.le_of_ble_eq_true rfl) rfl (fun ls hl => ?_)
        refine lv_goto (tgt := 5) hC.1 hC.2.1 dX11_both_38 (by decide) ?_
        exact hk5 0 I5 L6 hf _ _ _ hR hS (lv_sub hl [2, 0] rfl)
      · refine lv_iload_n hC.1 hC.2.1 dX11_both_28 rfl (lv_at hl 0 rfl) ?_
        refine x_if_eq (tgt := 36) hC dX11_both_29 (by decide) hf (fun hf => ?_) (fun hf => ?_)
        · refine lv_iconst (v := 0) hC.1 hC.2.1 dX11_both_36 (by decide) ?_
          refine lv_istore_n (lv' := [(1, .int 0), (2, .int v4), (0, .ref (xz G + 57))]) hC.1 hC.2.1 dX11_both_37 rfl hl (Nat.le_of_ble_eq_true rfl) rfl (fun ls hl => ?_)
          refine lv_goto (tgt := 5) hC.1 hC.2.1 dX11_both_38 (by decide) ?_
          exact hk5 0 I5 L6 hf _ _ _ hR hS (lv_sub hl [2, 0] rfl)
        · refine lv_iconst (v := 1) hC.1 hC.2.1 dX11_both_32 (by decide) ?_
          refine lv_goto (tgt := 37) hC.1 hC.2.1 dX11_both_33 (by decide) ?_
          refine lv_istore_n (lv' := [(1, .int 1), (2, .int v4), (0, .ref (xz G + 57))]) hC.1 hC.2.1 dX11_both_37 rfl hl (Nat.le_of_ble_eq_true rfl) rfl (fun ls hl => ?_)
          refine lv_goto (tgt := 5) hC.1 hC.2.1 dX11_both_38 (by decide) ?_
          exact hk5 1 I5 L6 hf _ _ _ hR hS (lv_sub hl [2, 0] rfl)
set_option maxRecDepth 20000 in
theorem M_X11_both_B (G : XG) (l : Launch) (kp : Bool) (N : Nat) {d : Nat} {c0 : xTI → xTL → Option (Int32 × xTI × xTL)} {c1 : xTI → xTL → Option (Int32 × xTI × xTL)} {c2 : xTI → xTL → Option (Int32 × xTI × xTL)} {c3 : xTI → xTL → Option (Int32 × xTI × xTL)} {c4 : xTI → xTL → Option (Int32 × xTI × xTL)} {c5 : xTI → xTL → Option (Int32 × xTI × xTL)} (hc0 : ∀ {I : xTI} {L : xTL} {r : Int32} {rI : xTI} {rL : xTL} , c0 I L = some (r, rI, rL) → xMet G l yX11_added cX11_added 4 (some .int) (3 + d) (64 + 24 * d) kp [.ref (xz G + 57)] I L (some (.int r)) rI rL) (hc1 : ∀ {I : xTI} {L : xTL} {r : Int32} {rI : xTI} {rL : xTL} , c1 I L = some (r, rI, rL) → xMet G l yX11_both cX11_both 3 (some .int) (3 + d) (64 + 24 * d) kp [.ref (xz G + 57)] I L (some (.int r)) rI rL) (hc2 : ∀ {I : xTI} {L : xTL} {r : Int32} {rI : xTI} {rL : xTL} , c2 I L = some (r, rI, rL) → xMet G l yX11_either cX11_either 3 (some .int) (3 + d) (64 + 24 * d) kp [.ref (xz G + 57)] I L (some (.int r)) rI rL) (hc3 : ∀ {I : xTI} {L : xTL} {r : Int32} {rI : xTI} {rL : xTL} , c3 I L = some (r, rI, rL) → xMet G l yX11_not cX11_not 5 (some .int) (3 + d) (64 + 24 * d) kp [.ref (xz G + 57)] I L (some (.int r)) rI rL) (hc4 : ∀ {I : xTI} {L : xTL} {r : Int32} {rI : xTI} {rL : xTL} , c4 I L = some (r, rI, rL) → xMet G l yX11_one cX11_one 2 (some .int) (3 + d) (64 + 24 * d) kp [.ref (xz G + 57)] I L (some (.int r)) rI rL) (hc5 : ∀ {I : xTI} {L : xTL} {r : Int32} {rI : xTI} {rL : xTL} , c5 I L = some (r, rI, rL) → xMet G l yX11_term cX11_term 5 (some .int) (3 + d) (64 + 24 * d) kp [.ref (xz G + 57)] I L (some (.int r)) rI rL) {I : xTI} {L : xTL} {r : Int32} {rI : xTI} {rL : xTL} (hf : F_X11_both_B c0 c1 c2 c3 c4 c5 N I L = some (r, rI, rL)) : xMet G l yX11_both cX11_both 3 (some .int) (3 + (d + 1)) (64 + 24 * (d + 1)) kp [.ref (xz G + 57)] I L (some (.int r)) rI rL := by
  refine xMet.ofW (by decide +kernel) (Nat.le_of_ble_eq_true rfl) ?_
  intro p e s m args below meth c hC H locs ls hR hS hl
  replace hC : xC G p s m args meth c cX11_both 3 RX11 (some .int) := hC
  replace hl : lv_has ls 3 [(0, .ref (xz G + 57))] := hl
  unfold F_X11_both_B at hf
  refine lv_aload_n hC.1 hC.2.1 dX11_both_0 rfl (lv_at hl 0 rfl) ?_
  refine x_cvi11 (rest := []) hC xy_X11_not tw_1510 hf (fun _ _ _ h => hc3 h) ⟨by show _ ≤ _; dsimp only; omega, by show _ ≤ _; dsimp only; omega⟩ (xce_57 G kp _ _) rfl rfl rfl (Nat.le_of_ble_eq_true rfl) hl.1 hR hS dX11_both_1 ⟨Nat.le_refl _, Nat.le_refl _⟩ (fun v1 I2 L3 hf H locs hR hS => ?_)
  refine lv_istore_n (lv' := [(1, .int v1), (0, .ref (xz G + 57))]) hC.1 hC.2.1 dX11_both_4 rfl hl (Nat.le_of_ble_eq_true rfl) rfl (fun ls hl => ?_)
  exact W_X11_both_l5 hC N hc0 hc1 hc2 hc3 hc4 hc5 _ v1 I2 L3 hf _ _ _ hR hS (lv_sub hl [1, 0] rfl)
set_option maxRecDepth 20000 in
theorem W_X11_either_l5 {G : XG} {l : Launch} {kp : Bool} {p : Program} {e : Env} {s : State} {m : MethodId} {args : Array Value} {below : List Frame} {meth : Method} {c : Code} (hC : xC G p s m args meth c cX11_either 3 RX11 (some .int)) (N : Nat) {d : Nat} {c0 : xTI → xTL → Option (Int32 × xTI × xTL)} {c1 : xTI → xTL → Option (Int32 × xTI × xTL)} {c2 : xTI → xTL → Option (Int32 × xTI × xTL)} {c3 : xTI → xTL → Option (Int32 × xTI × xTL)} {c4 : xTI → xTL → Option (Int32 × xTI × xTL)} {c5 : xTI → xTL → Option (Int32 × xTI × xTL)} (hc0 : ∀ {I : xTI} {L : xTL} {r : Int32} {rI : xTI} {rL : xTL} , c0 I L = some (r, rI, rL) → xMet G l yX11_added cX11_added 4 (some .int) (3 + d) (64 + 24 * d) kp [.ref (xz G + 57)] I L (some (.int r)) rI rL) (hc1 : ∀ {I : xTI} {L : xTL} {r : Int32} {rI : xTI} {rL : xTL} , c1 I L = some (r, rI, rL) → xMet G l yX11_both cX11_both 3 (some .int) (3 + d) (64 + 24 * d) kp [.ref (xz G + 57)] I L (some (.int r)) rI rL) (hc2 : ∀ {I : xTI} {L : xTL} {r : Int32} {rI : xTI} {rL : xTL} , c2 I L = some (r, rI, rL) → xMet G l yX11_either cX11_either 3 (some .int) (3 + d) (64 + 24 * d) kp [.ref (xz G + 57)] I L (some (.int r)) rI rL) (hc3 : ∀ {I : xTI} {L : xTL} {r : Int32} {rI : xTI} {rL : xTL} , c3 I L = some (r, rI, rL) → xMet G l yX11_not cX11_not 5 (some .int) (3 + d) (64 + 24 * d) kp [.ref (xz G + 57)] I L (some (.int r)) rI rL) (hc4 : ∀ {I : xTI} {L : xTL} {r : Int32} {rI : xTI} {rL : xTL} , c4 I L = some (r, rI, rL) → xMet G l yX11_one cX11_one 2 (some .int) (3 + d) (64 + 24 * d) kp [.ref (xz G + 57)] I L (some (.int r)) rI rL) (hc5 : ∀ {I : xTI} {L : xTL} {r : Int32} {rI : xTI} {rL : xTL} , c5 I L = some (r, rI, rL) → xMet G l yX11_term cX11_term 5 (some .int) (3 + d) (64 + 24 * d) kp [.ref (xz G + 57)] I L (some (.int r)) rI rL) {r : Int32} {rI : xTI} {rL : xTL} : ∀ (n : Nat) (x1 : Int32) (I : xTI) (L : xTL) , xlp (F_X11_either_b5 c0 c1 c2 c3 c4 c5 N ) n (x1, I, L) = some (r, rI, rL) → ∀ (H : Heap) (locs : List Loc) (ls : Array Slot), xRep G kp I L H → xS G s.heap H locs → lv_has ls 3 [(0, .ref (xz G + 57)), (1, .int x1)] → W p l e (xrm (3 + (d + 1)) (64 + 24 * (d + 1))) s m args below meth c H locs 0 0 (xMQ G kp below args s (some (.int r)) rI rL) (F0 m 5 ls []) := by
  intro n
  induction n with
  | zero =>
    intro x1 I L hf
    cases hf
  | succ n hk5 =>
    intro x1 I L hf H locs ls hR hS hl
    rw [xlp_s, E_X11_either_b5] at hf
    unfold F_X11_either_c5 at hf
    refine lv_aload_n hC.1 hC.2.1 dX11_either_5 rfl (lv_at hl 0 rfl) ?_
    refine x_ldc2 (v := 423) hC tw_1559 dX11_either_6 ?_
    refine x_cvi00 (rest := []) hC xy_X11_isWord tw_1489 hf (fun _ h => M_X11_isWord G l kp h) ⟨by show _ ≤ _; dsimp only; omega, by show _ ≤ _; dsimp only; omega⟩ (xce_57 G kp _ _) rfl rfl rfl (Nat.le_of_ble_eq_true rfl) hl.1 hR hS dX11_either_9 ⟨Nat.le_refl _, Nat.le_refl _⟩ (fun v1 hf H locs hR hS => ?_)
    refine x_if_eq (tgt := 41) hC dX11_either_12 (by decide) hf (fun hf => ?_) (fun hf => ?_)
    · refine lv_iload_n hC.1 hC.2.1 dX11_either_41 rfl (lv_at hl 1 rfl) ?_
      obtain ⟨h91, h90⟩ := Prod.mk.inj (Option.some.inj hf)
      obtain ⟨h92, h93⟩ := Prod.mk.inj h90
      subst h91
      subst h92
      subst h93
      exact x_iret hC hR hS dX11_either_42
    · refine lv_aload_n hC.1 hC.2.1 dX11_either_15 rfl (lv_at hl 0 rfl) ?_
      refine x_cvv11 (rest := []) hC xy_X11_next tw_1471 hf (fun _ _ h => M_X11_next G l kp N h) ⟨by show _ ≤ _; dsimp only; omega, by show _ ≤ _; dsimp only; omega⟩ (xce_57 G kp _ _) rfl rfl rfl (Nat.le_of_ble_eq_true rfl) hl.1 hR hS dX11_either_16 ⟨Nat.le_refl _, Nat.le_refl _⟩ (fun I2 L3 hf H locs hR hS => ?_)
      refine lv_aload_n hC.1 hC.2.1 dX11_either_19 rfl (lv_at hl 0 rfl) ?_
      refine x_cvi11 (rest := []) hC xy_X11_both tw_1506 hf (fun _ _ _ h => hc1 h) ⟨by show _ ≤ _; dsimp only; omega, by show _ ≤ _; dsimp only; omega⟩ (xce_57 G kp _ _) rfl rfl rfl (Nat.le_of_ble_eq_true rfl) hl.1 hR hS dX11_either_20 ⟨Nat.le_refl _, Nat.le_refl _⟩ (fun v4 I5 L6 hf H locs hR hS => ?_)
      refine lv_istore_n (lv' := [(2, .int v4), (0, .ref (xz G + 57)), (1, .int x1)]) hC.1 hC.2.1 dX11_either_23 rfl hl (Nat.le_of_ble_eq_true rfl) rfl (fun ls hl => ?_)
      refine lv_iload_n hC.1 hC.2.1 dX11_either_24 rfl (lv_at hl 2 rfl) ?_
      refine x_if_ne (tgt := 32) hC dX11_either_25 (by decide) hf (fun hf => ?_) (fun hf => ?_)
      · refine lv_iconst (v := 1) hC.1 hC.2.1 dX11_either_32 (by decide) ?_
        refine lv_goto (tgt := 37) hC.1 hC.2.1 dX11_either_33 (by decide) ?_
        refine lv_istore_n (lv' := [(1, .int 1), (2, .int v4), (0, .ref (xz G + 57))]) hC.1 hC.2.1 dX11_either_37 rfl hl (Nat.le_of_ble_eq_true rfl) rfl (fun ls hl => ?_)
        refine lv_goto (tgt := 5) hC.1 hC.2.1 dX11_either_38 (by decide) ?_
        exact hk5 1 I5 L6 hf _ _ _ hR hS (lv_sub hl [2, 0] rfl)
      · refine lv_iload_n hC.1 hC.2.1 dX11_either_28 rfl (lv_at hl 0 rfl) ?_
        refine x_if_eq (tgt := 36) hC dX11_either_29 (by decide) hf (fun hf => ?_) (fun hf => ?_)
        · refine lv_iconst (v := 0) hC.1 hC.2.1 dX11_either_36 (by decide) ?_
          refine lv_istore_n (lv' := [(1, .int 0), (2, .int v4), (0, .ref (xz G + 57))]) hC.1 hC.2.1 dX11_either_37 rfl hl (Nat.le_of_ble_eq_true rfl) rfl (fun ls hl => ?_)
          refine lv_goto (tgt := 5) hC.1 hC.2.1 dX11_either_38 (by decide) ?_
          exact hk5 0 I5 L6 hf _ _ _ hR hS (lv_sub hl [2, 0] rfl)
        · refine lv_iconst (v := 1) hC.1 hC.2.1 dX11_either_32 (by decide) ?_
          refine lv_goto (tgt := 37) hC.1 hC.2.1 dX11_either_33 (by decide) ?_
          refine lv_istore_n (lv' := [(1, .int 1), (2, .int v4), (0, .ref (xz G + 57))]) hC.1 hC.2.1 dX11_either_37 rfl hl (Nat.le_of_ble_eq_true rfl) rfl (fun ls hl => ?_)
          refine lv_goto (tgt := 5) hC.1 hC.2.1 dX11_either_38 (by decide) ?_
          exact hk5 1 I5 L6 hf _ _ _ hR hS (lv_sub hl [2, 0] rfl)
set_option maxRecDepth 20000 in
theorem M_X11_either_B (G : XG) (l : Launch) (kp : Bool) (N : Nat) {d : Nat} {c0 : xTI → xTL → Option (Int32 × xTI × xTL)} {c1 : xTI → xTL → Option (Int32 × xTI × xTL)} {c2 : xTI → xTL → Option (Int32 × xTI × xTL)} {c3 : xTI → xTL → Option (Int32 × xTI × xTL)} {c4 : xTI → xTL → Option (Int32 × xTI × xTL)} {c5 : xTI → xTL → Option (Int32 × xTI × xTL)} (hc0 : ∀ {I : xTI} {L : xTL} {r : Int32} {rI : xTI} {rL : xTL} , c0 I L = some (r, rI, rL) → xMet G l yX11_added cX11_added 4 (some .int) (3 + d) (64 + 24 * d) kp [.ref (xz G + 57)] I L (some (.int r)) rI rL) (hc1 : ∀ {I : xTI} {L : xTL} {r : Int32} {rI : xTI} {rL : xTL} , c1 I L = some (r, rI, rL) → xMet G l yX11_both cX11_both 3 (some .int) (3 + d) (64 + 24 * d) kp [.ref (xz G + 57)] I L (some (.int r)) rI rL) (hc2 : ∀ {I : xTI} {L : xTL} {r : Int32} {rI : xTI} {rL : xTL} , c2 I L = some (r, rI, rL) → xMet G l yX11_either cX11_either 3 (some .int) (3 + d) (64 + 24 * d) kp [.ref (xz G + 57)] I L (some (.int r)) rI rL) (hc3 : ∀ {I : xTI} {L : xTL} {r : Int32} {rI : xTI} {rL : xTL} , c3 I L = some (r, rI, rL) → xMet G l yX11_not cX11_not 5 (some .int) (3 + d) (64 + 24 * d) kp [.ref (xz G + 57)] I L (some (.int r)) rI rL) (hc4 : ∀ {I : xTI} {L : xTL} {r : Int32} {rI : xTI} {rL : xTL} , c4 I L = some (r, rI, rL) → xMet G l yX11_one cX11_one 2 (some .int) (3 + d) (64 + 24 * d) kp [.ref (xz G + 57)] I L (some (.int r)) rI rL) (hc5 : ∀ {I : xTI} {L : xTL} {r : Int32} {rI : xTI} {rL : xTL} , c5 I L = some (r, rI, rL) → xMet G l yX11_term cX11_term 5 (some .int) (3 + d) (64 + 24 * d) kp [.ref (xz G + 57)] I L (some (.int r)) rI rL) {I : xTI} {L : xTL} {r : Int32} {rI : xTI} {rL : xTL} (hf : F_X11_either_B c0 c1 c2 c3 c4 c5 N I L = some (r, rI, rL)) : xMet G l yX11_either cX11_either 3 (some .int) (3 + (d + 1)) (64 + 24 * (d + 1)) kp [.ref (xz G + 57)] I L (some (.int r)) rI rL := by
  refine xMet.ofW (by decide +kernel) (Nat.le_of_ble_eq_true rfl) ?_
  intro p e s m args below meth c hC H locs ls hR hS hl
  replace hC : xC G p s m args meth c cX11_either 3 RX11 (some .int) := hC
  replace hl : lv_has ls 3 [(0, .ref (xz G + 57))] := hl
  unfold F_X11_either_B at hf
  refine lv_aload_n hC.1 hC.2.1 dX11_either_0 rfl (lv_at hl 0 rfl) ?_
  refine x_cvi11 (rest := []) hC xy_X11_both tw_1506 hf (fun _ _ _ h => hc1 h) ⟨by show _ ≤ _; dsimp only; omega, by show _ ≤ _; dsimp only; omega⟩ (xce_57 G kp _ _) rfl rfl rfl (Nat.le_of_ble_eq_true rfl) hl.1 hR hS dX11_either_1 ⟨Nat.le_refl _, Nat.le_refl _⟩ (fun v1 I2 L3 hf H locs hR hS => ?_)
  refine lv_istore_n (lv' := [(1, .int v1), (0, .ref (xz G + 57))]) hC.1 hC.2.1 dX11_either_4 rfl hl (Nat.le_of_ble_eq_true rfl) rfl (fun ls hl => ?_)
  exact W_X11_either_l5 hC N hc0 hc1 hc2 hc3 hc4 hc5 _ v1 I2 L3 hf _ _ _ hR hS (lv_sub hl [1, 0] rfl)
set_option maxRecDepth 20000 in
theorem W_X11_not_j78 {G : XG} {l : Launch} {kp : Bool} {p : Program} {e : Env} {s : State} {m : MethodId} {args : Array Value} {below : List Frame} {meth : Method} {c : Code} (hC : xC G p s m args meth c cX11_not 5 RX11 (some .int)) (N : Nat) {d : Nat} {c0 : xTI → xTL → Option (Int32 × xTI × xTL)} {c1 : xTI → xTL → Option (Int32 × xTI × xTL)} {c2 : xTI → xTL → Option (Int32 × xTI × xTL)} {c3 : xTI → xTL → Option (Int32 × xTI × xTL)} {c4 : xTI → xTL → Option (Int32 × xTI × xTL)} {c5 : xTI → xTL → Option (Int32 × xTI × xTL)} (hc0 : ∀ {I : xTI} {L : xTL} {r : Int32} {rI : xTI} {rL : xTL} , c0 I L = some (r, rI, rL) → xMet G l yX11_added cX11_added 4 (some .int) (3 + d) (64 + 24 * d) kp [.ref (xz G + 57)] I L (some (.int r)) rI rL) (hc1 : ∀ {I : xTI} {L : xTL} {r : Int32} {rI : xTI} {rL : xTL} , c1 I L = some (r, rI, rL) → xMet G l yX11_both cX11_both 3 (some .int) (3 + d) (64 + 24 * d) kp [.ref (xz G + 57)] I L (some (.int r)) rI rL) (hc2 : ∀ {I : xTI} {L : xTL} {r : Int32} {rI : xTI} {rL : xTL} , c2 I L = some (r, rI, rL) → xMet G l yX11_either cX11_either 3 (some .int) (3 + d) (64 + 24 * d) kp [.ref (xz G + 57)] I L (some (.int r)) rI rL) (hc3 : ∀ {I : xTI} {L : xTL} {r : Int32} {rI : xTI} {rL : xTL} , c3 I L = some (r, rI, rL) → xMet G l yX11_not cX11_not 5 (some .int) (3 + d) (64 + 24 * d) kp [.ref (xz G + 57)] I L (some (.int r)) rI rL) (hc4 : ∀ {I : xTI} {L : xTL} {r : Int32} {rI : xTI} {rL : xTL} , c4 I L = some (r, rI, rL) → xMet G l yX11_one cX11_one 2 (some .int) (3 + d) (64 + 24 * d) kp [.ref (xz G + 57)] I L (some (.int r)) rI rL) (hc5 : ∀ {I : xTI} {L : xTL} {r : Int32} {rI : xTI} {rL : xTL} , c5 I L = some (r, rI, rL) → xMet G l yX11_term cX11_term 5 (some .int) (3 + d) (64 + 24 * d) kp [.ref (xz G + 57)] I L (some (.int r)) rI rL) {I : xTI} {L : xTL} {r : Int32} {rI : xTI} {rL : xTL} {x1 : Int32} (hf : F_X11_not_j78 c0 c1 c2 c3 c4 c5 N I L x1 = some (r, rI, rL)) : ∀ (H : Heap) (locs : List Loc) (ls : Array Slot), xRep G kp I L H → xS G s.heap H locs → lv_has ls 5 [(0, .ref (xz G + 57)), (1, .int x1)] → W p l e (xrm (3 + (d + 1)) (64 + 24 * (d + 1))) s m args below meth c H locs 0 0 (xMQ G kp below args s (some (.int r)) rI rL) (F0 m 78 ls []) := by
  intro H locs ls hR hS hl
  unfold F_X11_not_j78 at hf
  refine lv_aload_n hC.1 hC.2.1 dX11_not_78 rfl (lv_at hl 0 rfl) ?_
  refine x_getL hC xf_X11_188 (xce_57 G kp _ _) rfl hR dX11_not_79 hf (fun v1 hf => ?_)
  refine lv_lstore_n (lv' := [(2, .long v1), (0, .ref (xz G + 57)), (1, .int x1)]) hC.1 hC.2.1 dX11_not_82 rfl hl (Nat.le_of_ble_eq_true rfl) rfl (fun ls hl => ?_)
  refine lv_aload_n hC.1 hC.2.1 dX11_not_83 rfl (lv_at hl 1 rfl) ?_
  refine x_cvv11 (rest := []) hC xy_X11_next tw_1471 hf (fun _ _ h => M_X11_next G l kp N h) ⟨by show _ ≤ _; dsimp only; omega, by show _ ≤ _; dsimp only; omega⟩ (xce_57 G kp _ _) rfl rfl rfl (Nat.le_of_ble_eq_true rfl) hl.1 hR hS dX11_not_84 ⟨Nat.le_refl _, Nat.le_refl _⟩ (fun I2 L3 hf H locs hR hS => ?_)
  refine lv_aload_n hC.1 hC.2.1 dX11_not_87 rfl (lv_at hl 1 rfl) ?_
  refine x_cvi11 (rest := []) hC xy_X11_added tw_1519 hf (fun _ _ _ h => hc0 h) ⟨by show _ ≤ _; dsimp only; omega, by show _ ≤ _; dsimp only; omega⟩ (xce_57 G kp _ _) rfl rfl rfl (Nat.le_of_ble_eq_true rfl) hl.1 hR hS dX11_not_88 ⟨Nat.le_refl _, Nat.le_refl _⟩ (fun v4 I5 L6 hf H locs hR hS => ?_)
  refine lv_istore (lv' := [(4, .int v4), (2, .long v1), (0, .ref (xz G + 57)), (1, .int x1)]) hC.1 hC.2.1 dX11_not_91 hl (Nat.le_of_ble_eq_true rfl) rfl (fun ls hl => ?_)
  refine lv_lload_n hC.1 hC.2.1 dX11_not_93 rfl (lv_at hl 1 rfl) ?_
  refine x_ldc2 (v := 60) hC tw_1556 dX11_not_94 ?_
  refine W.lcmp hC.1 hC.2.1 dX11_not_97 ?_
  refine W.eq (g2 := F0 m 98 ls [.int (lg_cmp v1 60)]) rfl ?_
  refine x_if_ne (tgt := 110) hC dX11_not_98 (by decide) hf (fun hf => ?_) (fun hf => ?_)
  · refine lv_lload_n hC.1 hC.2.1 dX11_not_110 rfl (lv_at hl 1 rfl) ?_
    refine x_ldc2 (v := 61) hC tw_1557 dX11_not_111 ?_
    refine W.lcmp hC.1 hC.2.1 dX11_not_114 ?_
    refine x_if_ne (tgt := 127) hC dX11_not_115 (by decide) hf (fun hf => ?_) (fun hf => ?_)
    · refine lv_iload_n hC.1 hC.2.1 dX11_not_127 rfl (lv_at hl 3 rfl) ?_
      refine lv_iload hC.1 hC.2.1 dX11_not_128 (lv_at hl 0 rfl) ?_
      refine x_ic_le (tgt := 137) hC dX11_not_130 (by decide) hf (fun hf => ?_) (fun hf => ?_)
      · refine lv_iconst (v := 0) hC.1 hC.2.1 dX11_not_137 (by decide) ?_
        obtain ⟨h91, h90⟩ := Prod.mk.inj (Option.some.inj hf)
        obtain ⟨h92, h93⟩ := Prod.mk.inj h90
        subst h91
        subst h92
        subst h93
        exact x_iret hC hR hS dX11_not_138
      · refine lv_iconst (v := 1) hC.1 hC.2.1 dX11_not_133 (by decide) ?_
        refine lv_goto (tgt := 138) hC.1 hC.2.1 dX11_not_134 (by decide) ?_
        obtain ⟨h91, h90⟩ := Prod.mk.inj (Option.some.inj hf)
        obtain ⟨h92, h93⟩ := Prod.mk.inj h90
        subst h91
        subst h92
        subst h93
        exact x_iret hC hR hS dX11_not_138
    · refine lv_iload_n hC.1 hC.2.1 dX11_not_118 rfl (lv_at hl 3 rfl) ?_
      refine lv_iload hC.1 hC.2.1 dX11_not_119 (lv_at hl 0 rfl) ?_
      refine x_ic_ne (tgt := 137) hC dX11_not_121 (by decide) hf (fun hf => ?_) (fun hf => ?_)
      · refine lv_iconst (v := 0) hC.1 hC.2.1 dX11_not_137 (by decide) ?_
        obtain ⟨h91, h90⟩ := Prod.mk.inj (Option.some.inj hf)
        obtain ⟨h92, h93⟩ := Prod.mk.inj h90
        subst h91
        subst h92
        subst h93
        exact x_iret hC hR hS dX11_not_138
      · refine lv_goto (tgt := 133) hC.1 hC.2.1 dX11_not_124 (by decide) ?_
        refine lv_iconst (v := 1) hC.1 hC.2.1 dX11_not_133 (by decide) ?_
        refine lv_goto (tgt := 138) hC.1 hC.2.1 dX11_not_134 (by decide) ?_
        obtain ⟨h91, h90⟩ := Prod.mk.inj (Option.some.inj hf)
        obtain ⟨h92, h93⟩ := Prod.mk.inj h90
        subst h91
        subst h92
        subst h93
        exact x_iret hC hR hS dX11_not_138
  · refine lv_iload_n hC.1 hC.2.1 dX11_not_101 rfl (lv_at hl 3 rfl) ?_
    refine lv_iload hC.1 hC.2.1 dX11_not_102 (lv_at hl 0 rfl) ?_
    refine x_ic_ge (tgt := 137) hC dX11_not_104 (by decide) hf (fun hf => ?_) (fun hf => ?_)
    · refine lv_iconst (v := 0) hC.1 hC.2.1 dX11_not_137 (by decide) ?_
      obtain ⟨h91, h90⟩ := Prod.mk.inj (Option.some.inj hf)
      obtain ⟨h92, h93⟩ := Prod.mk.inj h90
      subst h91
      subst h92
      subst h93
      exact x_iret hC hR hS dX11_not_138
    · refine lv_goto (tgt := 133) hC.1 hC.2.1 dX11_not_107 (by decide) ?_
      refine lv_iconst (v := 1) hC.1 hC.2.1 dX11_not_133 (by decide) ?_
      refine lv_goto (tgt := 138) hC.1 hC.2.1 dX11_not_134 (by decide) ?_
      obtain ⟨h91, h90⟩ := Prod.mk.inj (Option.some.inj hf)
      obtain ⟨h92, h93⟩ := Prod.mk.inj h90
      subst h91
      subst h92
      subst h93
      exact x_iret hC hR hS dX11_not_138
set_option maxRecDepth 20000 in
theorem M_X11_not_B (G : XG) (l : Launch) (kp : Bool) (N : Nat) {d : Nat} {c0 : xTI → xTL → Option (Int32 × xTI × xTL)} {c1 : xTI → xTL → Option (Int32 × xTI × xTL)} {c2 : xTI → xTL → Option (Int32 × xTI × xTL)} {c3 : xTI → xTL → Option (Int32 × xTI × xTL)} {c4 : xTI → xTL → Option (Int32 × xTI × xTL)} {c5 : xTI → xTL → Option (Int32 × xTI × xTL)} (hc0 : ∀ {I : xTI} {L : xTL} {r : Int32} {rI : xTI} {rL : xTL} , c0 I L = some (r, rI, rL) → xMet G l yX11_added cX11_added 4 (some .int) (3 + d) (64 + 24 * d) kp [.ref (xz G + 57)] I L (some (.int r)) rI rL) (hc1 : ∀ {I : xTI} {L : xTL} {r : Int32} {rI : xTI} {rL : xTL} , c1 I L = some (r, rI, rL) → xMet G l yX11_both cX11_both 3 (some .int) (3 + d) (64 + 24 * d) kp [.ref (xz G + 57)] I L (some (.int r)) rI rL) (hc2 : ∀ {I : xTI} {L : xTL} {r : Int32} {rI : xTI} {rL : xTL} , c2 I L = some (r, rI, rL) → xMet G l yX11_either cX11_either 3 (some .int) (3 + d) (64 + 24 * d) kp [.ref (xz G + 57)] I L (some (.int r)) rI rL) (hc3 : ∀ {I : xTI} {L : xTL} {r : Int32} {rI : xTI} {rL : xTL} , c3 I L = some (r, rI, rL) → xMet G l yX11_not cX11_not 5 (some .int) (3 + d) (64 + 24 * d) kp [.ref (xz G + 57)] I L (some (.int r)) rI rL) (hc4 : ∀ {I : xTI} {L : xTL} {r : Int32} {rI : xTI} {rL : xTL} , c4 I L = some (r, rI, rL) → xMet G l yX11_one cX11_one 2 (some .int) (3 + d) (64 + 24 * d) kp [.ref (xz G + 57)] I L (some (.int r)) rI rL) (hc5 : ∀ {I : xTI} {L : xTL} {r : Int32} {rI : xTI} {rL : xTL} , c5 I L = some (r, rI, rL) → xMet G l yX11_term cX11_term 5 (some .int) (3 + d) (64 + 24 * d) kp [.ref (xz G + 57)] I L (some (.int r)) rI rL) {I : xTI} {L : xTL} {r : Int32} {rI : xTI} {rL : xTL} (hf : F_X11_not_B c0 c1 c2 c3 c4 c5 N I L = some (r, rI, rL)) : xMet G l yX11_not cX11_not 5 (some .int) (3 + (d + 1)) (64 + 24 * (d + 1)) kp [.ref (xz G + 57)] I L (some (.int r)) rI rL := by
  refine xMet.ofW (by decide +kernel) (Nat.le_of_ble_eq_true rfl) ?_
  intro p e s m args below meth c hC H locs ls hR hS hl
  replace hC : xC G p s m args meth c cX11_not 5 RX11 (some .int) := hC
  replace hl : lv_has ls 5 [(0, .ref (xz G + 57))] := hl
  unfold F_X11_not_B at hf
  refine lv_aload_n hC.1 hC.2.1 dX11_not_0 rfl (lv_at hl 0 rfl) ?_
  refine x_ldc2 (v := 10631) hC tw_1514 dX11_not_1 ?_
  refine x_cvi00 (rest := []) hC xy_X11_isWord tw_1489 hf (fun _ h => M_X11_isWord G l kp h) ⟨by show _ ≤ _; dsimp only; omega, by show _ ≤ _; dsimp only; omega⟩ (xce_57 G kp _ _) rfl rfl rfl (Nat.le_of_ble_eq_true rfl) hl.1 hR hS dX11_not_4 ⟨Nat.le_refl _, Nat.le_refl _⟩ (fun v1 hf H locs hR hS => ?_)
  refine x_if_eq (tgt := 44) hC dX11_not_7 (by decide) hf (fun hf => ?_) (fun hf => ?_)
  · refine lv_aload_n hC.1 hC.2.1 dX11_not_44 rfl (lv_at hl 0 rfl) ?_
    refine x_cvi11 (rest := []) hC xy_X11_added tw_1519 hf (fun _ _ _ h => hc0 h) ⟨by show _ ≤ _; dsimp only; omega, by show _ ≤ _; dsimp only; omega⟩ (xce_57 G kp _ _) rfl rfl rfl (Nat.le_of_ble_eq_true rfl) hl.1 hR hS dX11_not_45 ⟨Nat.le_refl _, Nat.le_refl _⟩ (fun v2 I3 L4 hf H locs hR hS => ?_)
    refine lv_istore_n (lv' := [(1, .int v2), (0, .ref (xz G + 57))]) hC.1 hC.2.1 dX11_not_48 rfl hl (Nat.le_of_ble_eq_true rfl) rfl (fun ls hl => ?_)
    refine lv_aload_n hC.1 hC.2.1 dX11_not_49 rfl (lv_at hl 1 rfl) ?_
    refine lv_bipush (v := 60) hC.1 hC.2.1 dX11_not_50 (by decide) ?_
    refine x_cvi00 (rest := []) hC xy_X11_isSign tw_1531 hf (fun _ h => M_X11_isSign G l kp h) ⟨by show _ ≤ _; dsimp only; omega, by show _ ≤ _; dsimp only; omega⟩ (xce_57 G kp _ _) rfl rfl rfl (Nat.le_of_ble_eq_true rfl) hl.1 hR hS dX11_not_52 ⟨Nat.le_refl _, Nat.le_refl _⟩ (fun v5 hf H locs hR hS => ?_)
    refine x_if_ne (tgt := 78) hC dX11_not_55 (by decide) hf (fun hf => ?_) (fun hf => ?_)
    · exact W_X11_not_j78 hC N hc0 hc1 hc2 hc3 hc4 hc5 hf _ _ _ hR hS (lv_sub hl [1, 0] rfl)
    · refine lv_aload_n hC.1 hC.2.1 dX11_not_58 rfl (lv_at hl 1 rfl) ?_
      refine lv_bipush (v := 61) hC.1 hC.2.1 dX11_not_59 (by decide) ?_
      refine x_cvi00 (rest := []) hC xy_X11_isSign tw_1531 hf (fun _ h => M_X11_isSign G l kp h) ⟨by show _ ≤ _; dsimp only; omega, by show _ ≤ _; dsimp only; omega⟩ (xce_57 G kp _ _) rfl rfl rfl (Nat.le_of_ble_eq_true rfl) hl.1 hR hS dX11_not_61 ⟨Nat.le_refl _, Nat.le_refl _⟩ (fun v6 hf H locs hR hS => ?_)
      refine x_if_ne (tgt := 78) hC dX11_not_64 (by decide) hf (fun hf => ?_) (fun hf => ?_)
      · exact W_X11_not_j78 hC N hc0 hc1 hc2 hc3 hc4 hc5 hf _ _ _ hR hS (lv_sub hl [1, 0] rfl)
      · refine lv_aload_n hC.1 hC.2.1 dX11_not_67 rfl (lv_at hl 1 rfl) ?_
        refine lv_bipush (v := 62) hC.1 hC.2.1 dX11_not_68 (by decide) ?_
        refine x_cvi00 (rest := []) hC xy_X11_isSign tw_1531 hf (fun _ h => M_X11_isSign G l kp h) ⟨by show _ ≤ _; dsimp only; omega, by show _ ≤ _; dsimp only; omega⟩ (xce_57 G kp _ _) rfl rfl rfl (Nat.le_of_ble_eq_true rfl) hl.1 hR hS dX11_not_70 ⟨Nat.le_refl _, Nat.le_refl _⟩ (fun v7 hf H locs hR hS => ?_)
        refine x_if_ne (tgt := 78) hC dX11_not_73 (by decide) hf (fun hf => ?_) (fun hf => ?_)
        · exact W_X11_not_j78 hC N hc0 hc1 hc2 hc3 hc4 hc5 hf _ _ _ hR hS (lv_sub hl [1, 0] rfl)
        · refine lv_iload_n hC.1 hC.2.1 dX11_not_76 rfl (lv_at hl 0 rfl) ?_
          obtain ⟨h91, h90⟩ := Prod.mk.inj (Option.some.inj hf)
          obtain ⟨h92, h93⟩ := Prod.mk.inj h90
          subst h91
          subst h92
          subst h93
          exact x_iret hC hR hS dX11_not_77
  · refine lv_aload_n hC.1 hC.2.1 dX11_not_10 rfl (lv_at hl 0 rfl) ?_
    refine x_cvi11 (rest := []) hC xy_X11_opens tw_1515 hf (fun _ _ _ h => M_X11_opens G l kp N h) ⟨by show _ ≤ _; dsimp only; omega, by show _ ≤ _; dsimp only; omega⟩ (xce_57 G kp _ _) rfl rfl rfl (Nat.le_of_ble_eq_true rfl) hl.1 hR hS dX11_not_11 ⟨Nat.le_refl _, Nat.le_refl _⟩ (fun v8 I9 L10 hf H locs hR hS => ?_)
    refine x_if_ne (tgt := 19) hC dX11_not_14 (by decide) hf (fun hf => ?_) (fun hf => ?_)
    · refine lv_aload_n hC.1 hC.2.1 dX11_not_19 rfl (lv_at hl 0 rfl) ?_
      refine x_cvi11 (rest := []) hC xy_X11_not tw_1510 hf (fun _ _ _ h => hc3 h) ⟨by show _ ≤ _; dsimp only; omega, by show _ ≤ _; dsimp only; omega⟩ (xce_57 G kp _ _) rfl rfl rfl (Nat.le_of_ble_eq_true rfl) hl.1 hR hS dX11_not_20 ⟨Nat.le_refl _, Nat.le_refl _⟩ (fun v11 I12 L13 hf H locs hR hS => ?_)
      refine lv_istore_n (lv' := [(1, .int v11), (0, .ref (xz G + 57))]) hC.1 hC.2.1 dX11_not_23 rfl hl (Nat.le_of_ble_eq_true rfl) rfl (fun ls hl => ?_)
      refine lv_aload_n hC.1 hC.2.1 dX11_not_24 rfl (lv_at hl 1 rfl) ?_
      refine lv_dup hC.1 hC.2.1 dX11_not_25 rfl ?_
      refine x_getI hC xf_X11_209 (xce_57 G kp _ _) rfl hR dX11_not_26 hf (fun v14 hf => ?_)
      refine lv_iconst (v := 1) hC.1 hC.2.1 dX11_not_29 (by decide) ?_
      refine lv_isub hC.1 hC.2.1 dX11_not_30 ?_
      refine x_putI hC xf_X11_209 xp_11_12 (fun f => (xce_57 G kp f _)) rfl (Nat.le_of_ble_eq_true rfl) hR hS dX11_not_31 hf (fun I15 hf H locs hR hS => ?_)
      refine lv_iload_n hC.1 hC.2.1 dX11_not_34 rfl (lv_at hl 0 rfl) ?_
      refine x_if_ne (tgt := 42) hC dX11_not_35 (by decide) hf (fun hf => ?_) (fun hf => ?_)
      · refine lv_iconst (v := 0) hC.1 hC.2.1 dX11_not_42 (by decide) ?_
        obtain ⟨h91, h90⟩ := Prod.mk.inj (Option.some.inj hf)
        obtain ⟨h92, h93⟩ := Prod.mk.inj h90
        subst h91
        subst h92
        subst h93
        exact x_iret hC hR hS dX11_not_43
      · refine lv_iconst (v := 1) hC.1 hC.2.1 dX11_not_38 (by decide) ?_
        refine lv_goto (tgt := 43) hC.1 hC.2.1 dX11_not_39 (by decide) ?_
        obtain ⟨h91, h90⟩ := Prod.mk.inj (Option.some.inj hf)
        obtain ⟨h92, h93⟩ := Prod.mk.inj h90
        subst h91
        subst h92
        subst h93
        exact x_iret hC hR hS dX11_not_43
    · refine lv_iconst (v := 0) hC.1 hC.2.1 dX11_not_17 (by decide) ?_
      obtain ⟨h91, h90⟩ := Prod.mk.inj (Option.some.inj hf)
      obtain ⟨h92, h93⟩ := Prod.mk.inj h90
      subst h91
      subst h92
      subst h93
      exact x_iret hC hR hS dX11_not_18
set_option maxRecDepth 20000 in
theorem W_X11_one_j157 {G : XG} {l : Launch} {kp : Bool} {p : Program} {e : Env} {s : State} {m : MethodId} {args : Array Value} {below : List Frame} {meth : Method} {c : Code} (hC : xC G p s m args meth c cX11_one 2 RX11 (some .int)) (N : Nat) {d : Nat} {c0 : xTI → xTL → Option (Int32 × xTI × xTL)} {c1 : xTI → xTL → Option (Int32 × xTI × xTL)} {c2 : xTI → xTL → Option (Int32 × xTI × xTL)} {c3 : xTI → xTL → Option (Int32 × xTI × xTL)} {c4 : xTI → xTL → Option (Int32 × xTI × xTL)} {c5 : xTI → xTL → Option (Int32 × xTI × xTL)} (hc0 : ∀ {I : xTI} {L : xTL} {r : Int32} {rI : xTI} {rL : xTL} , c0 I L = some (r, rI, rL) → xMet G l yX11_added cX11_added 4 (some .int) (3 + d) (64 + 24 * d) kp [.ref (xz G + 57)] I L (some (.int r)) rI rL) (hc1 : ∀ {I : xTI} {L : xTL} {r : Int32} {rI : xTI} {rL : xTL} , c1 I L = some (r, rI, rL) → xMet G l yX11_both cX11_both 3 (some .int) (3 + d) (64 + 24 * d) kp [.ref (xz G + 57)] I L (some (.int r)) rI rL) (hc2 : ∀ {I : xTI} {L : xTL} {r : Int32} {rI : xTI} {rL : xTL} , c2 I L = some (r, rI, rL) → xMet G l yX11_either cX11_either 3 (some .int) (3 + d) (64 + 24 * d) kp [.ref (xz G + 57)] I L (some (.int r)) rI rL) (hc3 : ∀ {I : xTI} {L : xTL} {r : Int32} {rI : xTI} {rL : xTL} , c3 I L = some (r, rI, rL) → xMet G l yX11_not cX11_not 5 (some .int) (3 + d) (64 + 24 * d) kp [.ref (xz G + 57)] I L (some (.int r)) rI rL) (hc4 : ∀ {I : xTI} {L : xTL} {r : Int32} {rI : xTI} {rL : xTL} , c4 I L = some (r, rI, rL) → xMet G l yX11_one cX11_one 2 (some .int) (3 + d) (64 + 24 * d) kp [.ref (xz G + 57)] I L (some (.int r)) rI rL) (hc5 : ∀ {I : xTI} {L : xTL} {r : Int32} {rI : xTI} {rL : xTL} , c5 I L = some (r, rI, rL) → xMet G l yX11_term cX11_term 5 (some .int) (3 + d) (64 + 24 * d) kp [.ref (xz G + 57)] I L (some (.int r)) rI rL) {I : xTI} {L : xTL} {r : Int32} {rI : xTI} {rL : xTL} {x1 : Int32} (hf : F_X11_one_j157 c0 c1 c2 c3 c4 c5 N I L x1 = some (r, rI, rL)) : ∀ (H : Heap) (locs : List Loc) (ls : Array Slot), xRep G kp I L H → xS G s.heap H locs → lv_has ls 2 [(0, .ref (xz G + 57)), (1, .int x1)] → W p l e (xrm (3 + (d + 1)) (64 + 24 * (d + 1))) s m args below meth c H locs 0 0 (xMQ G kp below args s (some (.int r)) rI rL) (F0 m 157 ls []) := by
  intro H locs ls hR hS hl
  unfold F_X11_one_j157 at hf
  refine lv_aload_n hC.1 hC.2.1 dX11_one_157 rfl (lv_at hl 0 rfl) ?_
  refine x_cvv10 (rest := []) hC xy_X11_fail tw_1498 hf (fun _ h => M_X11_fail G l kp h) ⟨by show _ ≤ _; dsimp only; omega, by show _ ≤ _; dsimp only; omega⟩ (xce_57 G kp _ _) rfl rfl rfl (Nat.le_of_ble_eq_true rfl) hl.1 hR hS dX11_one_158 ⟨Nat.le_refl _, Nat.le_refl _⟩ (fun I1 hf H locs hR hS => ?_)
  refine lv_iload_n hC.1 hC.2.1 dX11_one_161 rfl (lv_at hl 1 rfl) ?_
  obtain ⟨h91, h90⟩ := Prod.mk.inj (Option.some.inj hf)
  obtain ⟨h92, h93⟩ := Prod.mk.inj h90
  subst h91
  subst h92
  subst h93
  exact x_iret hC hR hS dX11_one_162
set_option maxRecDepth 20000 in
theorem W_X11_one_j123 {G : XG} {l : Launch} {kp : Bool} {p : Program} {e : Env} {s : State} {m : MethodId} {args : Array Value} {below : List Frame} {meth : Method} {c : Code} (hC : xC G p s m args meth c cX11_one 2 RX11 (some .int)) (N : Nat) {d : Nat} {c0 : xTI → xTL → Option (Int32 × xTI × xTL)} {c1 : xTI → xTL → Option (Int32 × xTI × xTL)} {c2 : xTI → xTL → Option (Int32 × xTI × xTL)} {c3 : xTI → xTL → Option (Int32 × xTI × xTL)} {c4 : xTI → xTL → Option (Int32 × xTI × xTL)} {c5 : xTI → xTL → Option (Int32 × xTI × xTL)} (hc0 : ∀ {I : xTI} {L : xTL} {r : Int32} {rI : xTI} {rL : xTL} , c0 I L = some (r, rI, rL) → xMet G l yX11_added cX11_added 4 (some .int) (3 + d) (64 + 24 * d) kp [.ref (xz G + 57)] I L (some (.int r)) rI rL) (hc1 : ∀ {I : xTI} {L : xTL} {r : Int32} {rI : xTI} {rL : xTL} , c1 I L = some (r, rI, rL) → xMet G l yX11_both cX11_both 3 (some .int) (3 + d) (64 + 24 * d) kp [.ref (xz G + 57)] I L (some (.int r)) rI rL) (hc2 : ∀ {I : xTI} {L : xTL} {r : Int32} {rI : xTI} {rL : xTL} , c2 I L = some (r, rI, rL) → xMet G l yX11_either cX11_either 3 (some .int) (3 + d) (64 + 24 * d) kp [.ref (xz G + 57)] I L (some (.int r)) rI rL) (hc3 : ∀ {I : xTI} {L : xTL} {r : Int32} {rI : xTI} {rL : xTL} , c3 I L = some (r, rI, rL) → xMet G l yX11_not cX11_not 5 (some .int) (3 + d) (64 + 24 * d) kp [.ref (xz G + 57)] I L (some (.int r)) rI rL) (hc4 : ∀ {I : xTI} {L : xTL} {r : Int32} {rI : xTI} {rL : xTL} , c4 I L = some (r, rI, rL) → xMet G l yX11_one cX11_one 2 (some .int) (3 + d) (64 + 24 * d) kp [.ref (xz G + 57)] I L (some (.int r)) rI rL) (hc5 : ∀ {I : xTI} {L : xTL} {r : Int32} {rI : xTI} {rL : xTL} , c5 I L = some (r, rI, rL) → xMet G l yX11_term cX11_term 5 (some .int) (3 + d) (64 + 24 * d) kp [.ref (xz G + 57)] I L (some (.int r)) rI rL) {I : xTI} {L : xTL} {r : Int32} {rI : xTI} {rL : xTL} {x1 : Int32} (hf : F_X11_one_j123 c0 c1 c2 c3 c4 c5 N I L x1 = some (r, rI, rL)) : ∀ (H : Heap) (locs : List Loc) (ls : Array Slot), xRep G kp I L H → xS G s.heap H locs → lv_has ls 2 [(0, .ref (xz G + 57)), (1, .int x1)] → W p l e (xrm (3 + (d + 1)) (64 + 24 * (d + 1))) s m args below meth c H locs 0 0 (xMQ G kp below args s (some (.int r)) rI rL) (F0 m 123 ls []) := by
  intro H locs ls hR hS hl
  unfold F_X11_one_j123 at hf
  refine lv_aload_n hC.1 hC.2.1 dX11_one_123 rfl (lv_at hl 0 rfl) ?_
  refine x_getI hC xf_X11_202 (xce_57 G kp _ _) rfl hR dX11_one_124 hf (fun v1 hf => ?_)
  refine x_if_ne (tgt := 157) hC dX11_one_127 (by decide) hf (fun hf => ?_) (fun hf => ?_)
  · exact W_X11_one_j157 hC N hc0 hc1 hc2 hc3 hc4 hc5 hf _ _ _ hR hS (lv_sub hl [0, 1] rfl)
  · refine lv_aload_n hC.1 hC.2.1 dX11_one_130 rfl (lv_at hl 0 rfl) ?_
    refine x_getI hC xf_X11_185 (xce_57 G kp _ _) rfl hR dX11_one_131 hf (fun v2 hf => ?_)
    refine lv_iconst (v := 1) hC.1 hC.2.1 dX11_one_134 (by decide) ?_
    refine x_ic_ne (tgt := 157) hC dX11_one_135 (by decide) hf (fun hf => ?_) (fun hf => ?_)
    · exact W_X11_one_j157 hC N hc0 hc1 hc2 hc3 hc4 hc5 hf _ _ _ hR hS (lv_sub hl [0, 1] rfl)
    · refine lv_aload_n hC.1 hC.2.1 dX11_one_138 rfl (lv_at hl 0 rfl) ?_
      refine x_cvi10 (rest := []) hC xy_X11_name tw_1535 hf (fun _ _ h => M_X11_name G l kp N h) ⟨by show _ ≤ _; dsimp only; omega, by show _ ≤ _; dsimp only; omega⟩ (xce_57 G kp _ _) rfl rfl rfl (Nat.le_of_ble_eq_true rfl) hl.1 hR hS dX11_one_139 ⟨Nat.le_refl _, Nat.le_refl _⟩ (fun v3 I4 hf H locs hR hS => ?_)
      refine lv_istore_n (lv' := [(1, .int v3), (0, .ref (xz G + 57))]) hC.1 hC.2.1 dX11_one_142 rfl hl (Nat.le_of_ble_eq_true rfl) rfl (fun ls hl => ?_)
      refine lv_aload_n hC.1 hC.2.1 dX11_one_143 rfl (lv_at hl 1 rfl) ?_
      refine x_getI hC xf_X11_202 (xce_57 G kp _ _) rfl hR dX11_one_144 hf (fun v5 hf => ?_)
      refine x_if_ne (tgt := 161) hC dX11_one_147 (by decide) hf (fun hf => ?_) (fun hf => ?_)
      · refine lv_iload_n hC.1 hC.2.1 dX11_one_161 rfl (lv_at hl 0 rfl) ?_
        obtain ⟨h91, h90⟩ := Prod.mk.inj (Option.some.inj hf)
        obtain ⟨h92, h93⟩ := Prod.mk.inj h90
        subst h91
        subst h92
        subst h93
        exact x_iret hC hR hS dX11_one_162
      · refine lv_aload_n hC.1 hC.2.1 dX11_one_150 rfl (lv_at hl 1 rfl) ?_
        refine x_cvv11 (rest := []) hC xy_X11_next tw_1471 hf (fun _ _ h => M_X11_next G l kp N h) ⟨by show _ ≤ _; dsimp only; omega, by show _ ≤ _; dsimp only; omega⟩ (xce_57 G kp _ _) rfl rfl rfl (Nat.le_of_ble_eq_true rfl) hl.1 hR hS dX11_one_151 ⟨Nat.le_refl _, Nat.le_refl _⟩ (fun I6 L7 hf H locs hR hS => ?_)
        refine lv_goto (tgt := 161) hC.1 hC.2.1 dX11_one_154 (by decide) ?_
        refine lv_iload_n hC.1 hC.2.1 dX11_one_161 rfl (lv_at hl 0 rfl) ?_
        obtain ⟨h91, h90⟩ := Prod.mk.inj (Option.some.inj hf)
        obtain ⟨h92, h93⟩ := Prod.mk.inj h90
        subst h91
        subst h92
        subst h93
        exact x_iret hC hR hS dX11_one_162
set_option maxRecDepth 20000 in
theorem W_X11_one_j71 {G : XG} {l : Launch} {kp : Bool} {p : Program} {e : Env} {s : State} {m : MethodId} {args : Array Value} {below : List Frame} {meth : Method} {c : Code} (hC : xC G p s m args meth c cX11_one 2 RX11 (some .int)) (N : Nat) {d : Nat} {c0 : xTI → xTL → Option (Int32 × xTI × xTL)} {c1 : xTI → xTL → Option (Int32 × xTI × xTL)} {c2 : xTI → xTL → Option (Int32 × xTI × xTL)} {c3 : xTI → xTL → Option (Int32 × xTI × xTL)} {c4 : xTI → xTL → Option (Int32 × xTI × xTL)} {c5 : xTI → xTL → Option (Int32 × xTI × xTL)} (hc0 : ∀ {I : xTI} {L : xTL} {r : Int32} {rI : xTI} {rL : xTL} , c0 I L = some (r, rI, rL) → xMet G l yX11_added cX11_added 4 (some .int) (3 + d) (64 + 24 * d) kp [.ref (xz G + 57)] I L (some (.int r)) rI rL) (hc1 : ∀ {I : xTI} {L : xTL} {r : Int32} {rI : xTI} {rL : xTL} , c1 I L = some (r, rI, rL) → xMet G l yX11_both cX11_both 3 (some .int) (3 + d) (64 + 24 * d) kp [.ref (xz G + 57)] I L (some (.int r)) rI rL) (hc2 : ∀ {I : xTI} {L : xTL} {r : Int32} {rI : xTI} {rL : xTL} , c2 I L = some (r, rI, rL) → xMet G l yX11_either cX11_either 3 (some .int) (3 + d) (64 + 24 * d) kp [.ref (xz G + 57)] I L (some (.int r)) rI rL) (hc3 : ∀ {I : xTI} {L : xTL} {r : Int32} {rI : xTI} {rL : xTL} , c3 I L = some (r, rI, rL) → xMet G l yX11_not cX11_not 5 (some .int) (3 + d) (64 + 24 * d) kp [.ref (xz G + 57)] I L (some (.int r)) rI rL) (hc4 : ∀ {I : xTI} {L : xTL} {r : Int32} {rI : xTI} {rL : xTL} , c4 I L = some (r, rI, rL) → xMet G l yX11_one cX11_one 2 (some .int) (3 + d) (64 + 24 * d) kp [.ref (xz G + 57)] I L (some (.int r)) rI rL) (hc5 : ∀ {I : xTI} {L : xTL} {r : Int32} {rI : xTI} {rL : xTL} , c5 I L = some (r, rI, rL) → xMet G l yX11_term cX11_term 5 (some .int) (3 + d) (64 + 24 * d) kp [.ref (xz G + 57)] I L (some (.int r)) rI rL) {I : xTI} {L : xTL} {r : Int32} {rI : xTI} {rL : xTL} {x1 : Int32} (hf : F_X11_one_j71 c0 c1 c2 c3 c4 c5 N I L x1 = some (r, rI, rL)) : ∀ (H : Heap) (locs : List Loc) (ls : Array Slot), xRep G kp I L H → xS G s.heap H locs → lv_has ls 2 [(0, .ref (xz G + 57)), (1, .int x1)] → W p l e (xrm (3 + (d + 1)) (64 + 24 * (d + 1))) s m args below meth c H locs 0 0 (xMQ G kp below args s (some (.int r)) rI rL) (F0 m 71 ls []) := by
  intro H locs ls hR hS hl
  unfold F_X11_one_j71 at hf
  refine lv_aload_n hC.1 hC.2.1 dX11_one_71 rfl (lv_at hl 0 rfl) ?_
  refine lv_dup hC.1 hC.2.1 dX11_one_72 rfl ?_
  refine x_getI hC xf_X11_209 (xce_57 G kp _ _) rfl hR dX11_one_73 hf (fun v1 hf => ?_)
  refine lv_iconst (v := 1) hC.1 hC.2.1 dX11_one_76 (by decide) ?_
  refine lv_isub hC.1 hC.2.1 dX11_one_77 ?_
  refine x_putI hC xf_X11_209 xp_11_12 (fun f => (xce_57 G kp f _)) rfl (Nat.le_of_ble_eq_true rfl) hR hS dX11_one_78 hf (fun I2 hf H locs hR hS => ?_)
  refine lv_aload_n hC.1 hC.2.1 dX11_one_81 rfl (lv_at hl 0 rfl) ?_
  refine x_getI hC xf_X11_202 (xce_57 G kp _ _) rfl hR dX11_one_82 hf (fun v3 hf => ?_)
  refine x_if_ne (tgt := 161) hC dX11_one_85 (by decide) hf (fun hf => ?_) (fun hf => ?_)
  · refine lv_iload_n hC.1 hC.2.1 dX11_one_161 rfl (lv_at hl 1 rfl) ?_
    obtain ⟨h91, h90⟩ := Prod.mk.inj (Option.some.inj hf)
    obtain ⟨h92, h93⟩ := Prod.mk.inj h90
    subst h91
    subst h92
    subst h93
    exact x_iret hC hR hS dX11_one_162
  · refine lv_aload_n hC.1 hC.2.1 dX11_one_88 rfl (lv_at hl 0 rfl) ?_
    refine x_cvv11 (rest := []) hC xy_X11_next tw_1471 hf (fun _ _ h => M_X11_next G l kp N h) ⟨by show _ ≤ _; dsimp only; omega, by show _ ≤ _; dsimp only; omega⟩ (xce_57 G kp _ _) rfl rfl rfl (Nat.le_of_ble_eq_true rfl) hl.1 hR hS dX11_one_89 ⟨Nat.le_refl _, Nat.le_refl _⟩ (fun I4 L5 hf H locs hR hS => ?_)
    refine lv_goto (tgt := 161) hC.1 hC.2.1 dX11_one_92 (by decide) ?_
    refine lv_iload_n hC.1 hC.2.1 dX11_one_161 rfl (lv_at hl 1 rfl) ?_
    obtain ⟨h91, h90⟩ := Prod.mk.inj (Option.some.inj hf)
    obtain ⟨h92, h93⟩ := Prod.mk.inj h90
    subst h91
    subst h92
    subst h93
    exact x_iret hC hR hS dX11_one_162
set_option maxRecDepth 20000 in
theorem M_X11_one_B (G : XG) (l : Launch) (kp : Bool) (N : Nat) {d : Nat} {c0 : xTI → xTL → Option (Int32 × xTI × xTL)} {c1 : xTI → xTL → Option (Int32 × xTI × xTL)} {c2 : xTI → xTL → Option (Int32 × xTI × xTL)} {c3 : xTI → xTL → Option (Int32 × xTI × xTL)} {c4 : xTI → xTL → Option (Int32 × xTI × xTL)} {c5 : xTI → xTL → Option (Int32 × xTI × xTL)} (hc0 : ∀ {I : xTI} {L : xTL} {r : Int32} {rI : xTI} {rL : xTL} , c0 I L = some (r, rI, rL) → xMet G l yX11_added cX11_added 4 (some .int) (3 + d) (64 + 24 * d) kp [.ref (xz G + 57)] I L (some (.int r)) rI rL) (hc1 : ∀ {I : xTI} {L : xTL} {r : Int32} {rI : xTI} {rL : xTL} , c1 I L = some (r, rI, rL) → xMet G l yX11_both cX11_both 3 (some .int) (3 + d) (64 + 24 * d) kp [.ref (xz G + 57)] I L (some (.int r)) rI rL) (hc2 : ∀ {I : xTI} {L : xTL} {r : Int32} {rI : xTI} {rL : xTL} , c2 I L = some (r, rI, rL) → xMet G l yX11_either cX11_either 3 (some .int) (3 + d) (64 + 24 * d) kp [.ref (xz G + 57)] I L (some (.int r)) rI rL) (hc3 : ∀ {I : xTI} {L : xTL} {r : Int32} {rI : xTI} {rL : xTL} , c3 I L = some (r, rI, rL) → xMet G l yX11_not cX11_not 5 (some .int) (3 + d) (64 + 24 * d) kp [.ref (xz G + 57)] I L (some (.int r)) rI rL) (hc4 : ∀ {I : xTI} {L : xTL} {r : Int32} {rI : xTI} {rL : xTL} , c4 I L = some (r, rI, rL) → xMet G l yX11_one cX11_one 2 (some .int) (3 + d) (64 + 24 * d) kp [.ref (xz G + 57)] I L (some (.int r)) rI rL) (hc5 : ∀ {I : xTI} {L : xTL} {r : Int32} {rI : xTI} {rL : xTL} , c5 I L = some (r, rI, rL) → xMet G l yX11_term cX11_term 5 (some .int) (3 + d) (64 + 24 * d) kp [.ref (xz G + 57)] I L (some (.int r)) rI rL) {I : xTI} {L : xTL} {r : Int32} {rI : xTI} {rL : xTL} (hf : F_X11_one_B c0 c1 c2 c3 c4 c5 N I L = some (r, rI, rL)) : xMet G l yX11_one cX11_one 2 (some .int) (3 + (d + 1)) (64 + 24 * (d + 1)) kp [.ref (xz G + 57)] I L (some (.int r)) rI rL := by
  refine xMet.ofW (by decide +kernel) (Nat.le_of_ble_eq_true rfl) ?_
  intro p e s m args below meth c hC H locs ls hR hS hl
  replace hC : xC G p s m args meth c cX11_one 2 RX11 (some .int) := hC
  replace hl : lv_has ls 2 [(0, .ref (xz G + 57))] := hl
  unfold F_X11_one_B at hf
  refine lv_iconst (v := 0) hC.1 hC.2.1 dX11_one_0 (by decide) ?_
  refine lv_istore_n (lv' := [(1, .int 0), (0, .ref (xz G + 57))]) hC.1 hC.2.1 dX11_one_1 rfl hl (Nat.le_of_ble_eq_true rfl) rfl (fun ls hl => ?_)
  refine lv_aload_n hC.1 hC.2.1 dX11_one_2 rfl (lv_at hl 1 rfl) ?_
  refine lv_bipush (v := 45) hC.1 hC.2.1 dX11_one_3 (by decide) ?_
  refine x_cvi00 (rest := []) hC xy_X11_isSign tw_1531 hf (fun _ h => M_X11_isSign G l kp h) ⟨by show _ ≤ _; dsimp only; omega, by show _ ≤ _; dsimp only; omega⟩ (xce_57 G kp _ _) rfl rfl rfl (Nat.le_of_ble_eq_true rfl) hl.1 hR hS dX11_one_5 ⟨Nat.le_refl _, Nat.le_refl _⟩ (fun v1 hf H locs hR hS => ?_)
  refine x_if_eq (tgt := 37) hC dX11_one_8 (by decide) hf (fun hf => ?_) (fun hf => ?_)
  · refine lv_aload_n hC.1 hC.2.1 dX11_one_37 rfl (lv_at hl 1 rfl) ?_
    refine lv_bipush (v := 40) hC.1 hC.2.1 dX11_one_38 (by decide) ?_
    refine x_cvi00 (rest := []) hC xy_X11_isSign tw_1531 hf (fun _ h => M_X11_isSign G l kp h) ⟨by show _ ≤ _; dsimp only; omega, by show _ ≤ _; dsimp only; omega⟩ (xce_57 G kp _ _) rfl rfl rfl (Nat.le_of_ble_eq_true rfl) hl.1 hR hS dX11_one_40 ⟨Nat.le_refl _, Nat.le_refl _⟩ (fun v2 hf H locs hR hS => ?_)
    refine x_if_eq (tgt := 95) hC dX11_one_43 (by decide) hf (fun hf => ?_) (fun hf => ?_)
    · refine lv_aload_n hC.1 hC.2.1 dX11_one_95 rfl (lv_at hl 1 rfl) ?_
      refine x_getI hC xf_X11_202 (xce_57 G kp _ _) rfl hR dX11_one_96 hf (fun v3 hf => ?_)
      refine x_if_ne (tgt := 123) hC dX11_one_99 (by decide) hf (fun hf => ?_) (fun hf => ?_)
      · exact W_X11_one_j123 hC N hc0 hc1 hc2 hc3 hc4 hc5 hf _ _ _ hR hS (lv_sub hl [1, 0] rfl)
      · refine lv_aload_n hC.1 hC.2.1 dX11_one_102 rfl (lv_at hl 1 rfl) ?_
        refine x_getI hC xf_X11_185 (xce_57 G kp _ _) rfl hR dX11_one_103 hf (fun v4 hf => ?_)
        refine lv_iconst (v := 2) hC.1 hC.2.1 dX11_one_106 (by decide) ?_
        refine x_ic_ne (tgt := 123) hC dX11_one_107 (by decide) hf (fun hf => ?_) (fun hf => ?_)
        · exact W_X11_one_j123 hC N hc0 hc1 hc2 hc3 hc4 hc5 hf _ _ _ hR hS (lv_sub hl [1, 0] rfl)
        · refine lv_aload_n hC.1 hC.2.1 dX11_one_110 rfl (lv_at hl 1 rfl) ?_
          refine x_getL hC xf_X11_188 (xce_57 G kp _ _) rfl hR dX11_one_111 hf (fun v5 hf => ?_)
          refine lv_l2i hC.1 hC.2.1 dX11_one_114 rfl ?_
          refine x_istn (lv' := fun y6 => [(1, .int y6), (0, .ref (xz G + 57))]) hC hl dX11_one_115 rfl (Nat.le_of_ble_eq_true rfl) hf (fun _ => rfl) (fun y6 hf ls hl => ?_)
          refine lv_aload_n hC.1 hC.2.1 dX11_one_116 rfl (lv_at hl 1 rfl) ?_
          refine x_cvv11 (rest := []) hC xy_X11_next tw_1471 hf (fun _ _ h => M_X11_next G l kp N h) ⟨by show _ ≤ _; dsimp only; omega, by show _ ≤ _; dsimp only; omega⟩ (xce_57 G kp _ _) rfl rfl rfl (Nat.le_of_ble_eq_true rfl) hl.1 hR hS dX11_one_117 ⟨Nat.le_refl _, Nat.le_refl _⟩ (fun I7 L8 hf H locs hR hS => ?_)
          refine lv_goto (tgt := 161) hC.1 hC.2.1 dX11_one_120 (by decide) ?_
          refine lv_iload_n hC.1 hC.2.1 dX11_one_161 rfl (lv_at hl 0 rfl) ?_
          obtain ⟨h91, h90⟩ := Prod.mk.inj (Option.some.inj hf)
          obtain ⟨h92, h93⟩ := Prod.mk.inj h90
          subst h91
          subst h92
          subst h93
          exact x_iret hC hR hS dX11_one_162
    · refine lv_aload_n hC.1 hC.2.1 dX11_one_46 rfl (lv_at hl 1 rfl) ?_
      refine x_cvi11 (rest := []) hC xy_X11_opens tw_1515 hf (fun _ _ _ h => M_X11_opens G l kp N h) ⟨by show _ ≤ _; dsimp only; omega, by show _ ≤ _; dsimp only; omega⟩ (xce_57 G kp _ _) rfl rfl rfl (Nat.le_of_ble_eq_true rfl) hl.1 hR hS dX11_one_47 ⟨Nat.le_refl _, Nat.le_refl _⟩ (fun v9 I10 L11 hf H locs hR hS => ?_)
      refine x_if_eq (tgt := 161) hC dX11_one_50 (by decide) hf (fun hf => ?_) (fun hf => ?_)
      · refine lv_iload_n hC.1 hC.2.1 dX11_one_161 rfl (lv_at hl 0 rfl) ?_
        obtain ⟨h91, h90⟩ := Prod.mk.inj (Option.some.inj hf)
        obtain ⟨h92, h93⟩ := Prod.mk.inj h90
        subst h91
        subst h92
        subst h93
        exact x_iret hC hR hS dX11_one_162
      · refine lv_aload_n hC.1 hC.2.1 dX11_one_53 rfl (lv_at hl 1 rfl) ?_
        refine x_cvi11 (rest := []) hC xy_X11_either tw_1502 hf (fun _ _ _ h => hc2 h) ⟨by show _ ≤ _; dsimp only; omega, by show _ ≤ _; dsimp only; omega⟩ (xce_57 G kp _ _) rfl rfl rfl (Nat.le_of_ble_eq_true rfl) hl.1 hR hS dX11_one_54 ⟨Nat.le_refl _, Nat.le_refl _⟩ (fun v12 I13 L14 hf H locs hR hS => ?_)
        refine lv_istore_n (lv' := [(1, .int v12), (0, .ref (xz G + 57))]) hC.1 hC.2.1 dX11_one_57 rfl hl (Nat.le_of_ble_eq_true rfl) rfl (fun ls hl => ?_)
        refine lv_aload_n hC.1 hC.2.1 dX11_one_58 rfl (lv_at hl 1 rfl) ?_
        refine lv_bipush (v := 41) hC.1 hC.2.1 dX11_one_59 (by decide) ?_
        refine x_cvi00 (rest := []) hC xy_X11_isSign tw_1531 hf (fun _ h => M_X11_isSign G l kp h) ⟨by show _ ≤ _; dsimp only; omega, by show _ ≤ _; dsimp only; omega⟩ (xce_57 G kp _ _) rfl rfl rfl (Nat.le_of_ble_eq_true rfl) hl.1 hR hS dX11_one_61 ⟨Nat.le_refl _, Nat.le_refl _⟩ (fun v15 hf H locs hR hS => ?_)
        refine x_if_ne (tgt := 71) hC dX11_one_64 (by decide) hf (fun hf => ?_) (fun hf => ?_)
        · exact W_X11_one_j71 hC N hc0 hc1 hc2 hc3 hc4 hc5 hf _ _ _ hR hS (lv_sub hl [1, 0] rfl)
        · refine lv_aload_n hC.1 hC.2.1 dX11_one_67 rfl (lv_at hl 1 rfl) ?_
          refine x_cvv10 (rest := []) hC xy_X11_fail tw_1498 hf (fun _ h => M_X11_fail G l kp h) ⟨by show _ ≤ _; dsimp only; omega, by show _ ≤ _; dsimp only; omega⟩ (xce_57 G kp _ _) rfl rfl rfl (Nat.le_of_ble_eq_true rfl) hl.1 hR hS dX11_one_68 ⟨Nat.le_refl _, Nat.le_refl _⟩ (fun I16 hf H locs hR hS => ?_)
          exact W_X11_one_j71 hC N hc0 hc1 hc2 hc3 hc4 hc5 hf _ _ _ hR hS (lv_sub hl [1, 0] rfl)
  · refine lv_aload_n hC.1 hC.2.1 dX11_one_11 rfl (lv_at hl 1 rfl) ?_
    refine x_cvi11 (rest := []) hC xy_X11_opens tw_1515 hf (fun _ _ _ h => M_X11_opens G l kp N h) ⟨by show _ ≤ _; dsimp only; omega, by show _ ≤ _; dsimp only; omega⟩ (xce_57 G kp _ _) rfl rfl rfl (Nat.le_of_ble_eq_true rfl) hl.1 hR hS dX11_one_12 ⟨Nat.le_refl _, Nat.le_refl _⟩ (fun v17 I18 L19 hf H locs hR hS => ?_)
    refine x_if_eq (tgt := 161) hC dX11_one_15 (by decide) hf (fun hf => ?_) (fun hf => ?_)
    · refine lv_iload_n hC.1 hC.2.1 dX11_one_161 rfl (lv_at hl 0 rfl) ?_
      obtain ⟨h91, h90⟩ := Prod.mk.inj (Option.some.inj hf)
      obtain ⟨h92, h93⟩ := Prod.mk.inj h90
      subst h91
      subst h92
      subst h93
      exact x_iret hC hR hS dX11_one_162
    · refine lv_aload_n hC.1 hC.2.1 dX11_one_18 rfl (lv_at hl 1 rfl) ?_
      refine x_cvi11 (rest := []) hC xy_X11_one tw_1527 hf (fun _ _ _ h => hc4 h) ⟨by show _ ≤ _; dsimp only; omega, by show _ ≤ _; dsimp only; omega⟩ (xce_57 G kp _ _) rfl rfl rfl (Nat.le_of_ble_eq_true rfl) hl.1 hR hS dX11_one_19 ⟨Nat.le_refl _, Nat.le_refl _⟩ (fun v20 I21 L22 hf H locs hR hS => ?_)
      refine lv_ineg hC.1 hC.2.1 dX11_one_22 ?_
      refine x_istn (lv' := fun y23 => [(1, .int y23), (0, .ref (xz G + 57))]) hC hl dX11_one_23 rfl (Nat.le_of_ble_eq_true rfl) hf (fun _ => rfl) (fun y23 hf ls hl => ?_)
      refine lv_aload_n hC.1 hC.2.1 dX11_one_24 rfl (lv_at hl 1 rfl) ?_
      refine lv_dup hC.1 hC.2.1 dX11_one_25 rfl ?_
      refine x_getI hC xf_X11_209 (xce_57 G kp _ _) rfl hR dX11_one_26 hf (fun v24 hf => ?_)
      refine lv_iconst (v := 1) hC.1 hC.2.1 dX11_one_29 (by decide) ?_
      refine lv_isub hC.1 hC.2.1 dX11_one_30 ?_
      refine x_putI hC xf_X11_209 xp_11_12 (fun f => (xce_57 G kp f _)) rfl (Nat.le_of_ble_eq_true rfl) hR hS dX11_one_31 hf (fun I25 hf H locs hR hS => ?_)
      refine lv_goto (tgt := 161) hC.1 hC.2.1 dX11_one_34 (by decide) ?_
      refine W.eq (g2 := F0 m 161 ls []) rfl ?_
      refine lv_iload_n hC.1 hC.2.1 dX11_one_161 rfl (lv_at hl 0 rfl) ?_
      obtain ⟨h91, h90⟩ := Prod.mk.inj (Option.some.inj hf)
      obtain ⟨h92, h93⟩ := Prod.mk.inj h90
      subst h91
      subst h92
      subst h93
      exact x_iret hC hR hS dX11_one_162
set_option maxRecDepth 20000 in
theorem W_X11_term_j32 {G : XG} {l : Launch} {kp : Bool} {p : Program} {e : Env} {s : State} {m : MethodId} {args : Array Value} {below : List Frame} {meth : Method} {c : Code} (hC : xC G p s m args meth c cX11_term 5 RX11 (some .int)) (N : Nat) {d : Nat} {c0 : xTI → xTL → Option (Int32 × xTI × xTL)} {c1 : xTI → xTL → Option (Int32 × xTI × xTL)} {c2 : xTI → xTL → Option (Int32 × xTI × xTL)} {c3 : xTI → xTL → Option (Int32 × xTI × xTL)} {c4 : xTI → xTL → Option (Int32 × xTI × xTL)} {c5 : xTI → xTL → Option (Int32 × xTI × xTL)} (hc0 : ∀ {I : xTI} {L : xTL} {r : Int32} {rI : xTI} {rL : xTL} , c0 I L = some (r, rI, rL) → xMet G l yX11_added cX11_added 4 (some .int) (3 + d) (64 + 24 * d) kp [.ref (xz G + 57)] I L (some (.int r)) rI rL) (hc1 : ∀ {I : xTI} {L : xTL} {r : Int32} {rI : xTI} {rL : xTL} , c1 I L = some (r, rI, rL) → xMet G l yX11_both cX11_both 3 (some .int) (3 + d) (64 + 24 * d) kp [.ref (xz G + 57)] I L (some (.int r)) rI rL) (hc2 : ∀ {I : xTI} {L : xTL} {r : Int32} {rI : xTI} {rL : xTL} , c2 I L = some (r, rI, rL) → xMet G l yX11_either cX11_either 3 (some .int) (3 + d) (64 + 24 * d) kp [.ref (xz G + 57)] I L (some (.int r)) rI rL) (hc3 : ∀ {I : xTI} {L : xTL} {r : Int32} {rI : xTI} {rL : xTL} , c3 I L = some (r, rI, rL) → xMet G l yX11_not cX11_not 5 (some .int) (3 + d) (64 + 24 * d) kp [.ref (xz G + 57)] I L (some (.int r)) rI rL) (hc4 : ∀ {I : xTI} {L : xTL} {r : Int32} {rI : xTI} {rL : xTL} , c4 I L = some (r, rI, rL) → xMet G l yX11_one cX11_one 2 (some .int) (3 + d) (64 + 24 * d) kp [.ref (xz G + 57)] I L (some (.int r)) rI rL) (hc5 : ∀ {I : xTI} {L : xTL} {r : Int32} {rI : xTI} {rL : xTL} , c5 I L = some (r, rI, rL) → xMet G l yX11_term cX11_term 5 (some .int) (3 + d) (64 + 24 * d) kp [.ref (xz G + 57)] I L (some (.int r)) rI rL) {I : xTI} {L : xTL} {r : Int32} {rI : xTI} {rL : xTL} {x1 : Int32} (k5 : Int32 × xTI × xTL → Option (Int32 × xTI × xTL)) (hk5 : ∀ (x1 : Int32) (I : xTI) (L : xTL) , k5 (x1, I, L) = some (r, rI, rL) → ∀ (H : Heap) (locs : List Loc) (ls : Array Slot), xRep G kp I L H → xS G s.heap H locs → lv_has ls 5 [(0, .ref (xz G + 57)), (1, .int x1)] → W p l e (xrm (3 + (d + 1)) (64 + 24 * (d + 1))) s m args below meth c H locs 0 0 (xMQ G kp below args s (some (.int r)) rI rL) (F0 m 5 ls [])) (hf : F_X11_term_j32 c0 c1 c2 c3 c4 c5 k5 N I L x1 = some (r, rI, rL)) : ∀ (H : Heap) (locs : List Loc) (ls : Array Slot), xRep G kp I L H → xS G s.heap H locs → lv_has ls 5 [(0, .ref (xz G + 57)), (1, .int x1)] → W p l e (xrm (3 + (d + 1)) (64 + 24 * (d + 1))) s m args below meth c H locs 0 0 (xMQ G kp below args s (some (.int r)) rI rL) (F0 m 32 ls []) := by
  intro H locs ls hR hS hl
  unfold F_X11_term_j32 at hf
  refine lv_aload_n hC.1 hC.2.1 dX11_term_32 rfl (lv_at hl 0 rfl) ?_
  refine x_getL hC xf_X11_188 (xce_57 G kp _ _) rfl hR dX11_term_33 hf (fun v1 hf => ?_)
  refine lv_lstore_n (lv' := [(2, .long v1), (0, .ref (xz G + 57)), (1, .int x1)]) hC.1 hC.2.1 dX11_term_36 rfl hl (Nat.le_of_ble_eq_true rfl) rfl (fun ls hl => ?_)
  refine lv_aload_n hC.1 hC.2.1 dX11_term_37 rfl (lv_at hl 1 rfl) ?_
  refine x_cvv11 (rest := []) hC xy_X11_next tw_1471 hf (fun _ _ h => M_X11_next G l kp N h) ⟨by show _ ≤ _; dsimp only; omega, by show _ ≤ _; dsimp only; omega⟩ (xce_57 G kp _ _) rfl rfl rfl (Nat.le_of_ble_eq_true rfl) hl.1 hR hS dX11_term_38 ⟨Nat.le_refl _, Nat.le_refl _⟩ (fun I2 L3 hf H locs hR hS => ?_)
  refine lv_aload_n hC.1 hC.2.1 dX11_term_41 rfl (lv_at hl 1 rfl) ?_
  refine x_cvi11 (rest := []) hC xy_X11_one tw_1527 hf (fun _ _ _ h => hc4 h) ⟨by show _ ≤ _; dsimp only; omega, by show _ ≤ _; dsimp only; omega⟩ (xce_57 G kp _ _) rfl rfl rfl (Nat.le_of_ble_eq_true rfl) hl.1 hR hS dX11_term_42 ⟨Nat.le_refl _, Nat.le_refl _⟩ (fun v4 I5 L6 hf H locs hR hS => ?_)
  refine lv_istore (lv' := [(4, .int v4), (2, .long v1), (0, .ref (xz G + 57)), (1, .int x1)]) hC.1 hC.2.1 dX11_term_45 hl (Nat.le_of_ble_eq_true rfl) rfl (fun ls hl => ?_)
  refine lv_lload_n hC.1 hC.2.1 dX11_term_47 rfl (lv_at hl 1 rfl) ?_
  refine x_ldc2 (v := 42) hC tw_1553 dX11_term_48 ?_
  refine W.lcmp hC.1 hC.2.1 dX11_term_51 ?_
  refine W.eq (g2 := F0 m 52 ls [.int (lg_cmp v1 42)]) rfl ?_
  refine x_if_ne (tgt := 63) hC dX11_term_52 (by decide) hf (fun hf => ?_) (fun hf => ?_)
  · refine lv_iload hC.1 hC.2.1 dX11_term_63 (lv_at hl 0 rfl) ?_
    refine x_if_ne (tgt := 73) hC dX11_term_65 (by decide) hf (fun hf => ?_) (fun hf => ?_)
    · refine lv_iload hC.1 hC.2.1 dX11_term_73 (lv_at hl 0 rfl) ?_
      refine lv_iconst (v := (-1)) hC.1 hC.2.1 dX11_term_75 (by decide) ?_
      refine x_ic_ne (tgt := 97) hC dX11_term_76 (by decide) hf (fun hf => ?_) (fun hf => ?_)
      · refine lv_lload_n hC.1 hC.2.1 dX11_term_97 rfl (lv_at hl 1 rfl) ?_
        refine x_ldc2 (v := 47) hC tw_1554 dX11_term_98 ?_
        refine W.lcmp hC.1 hC.2.1 dX11_term_101 ?_
        refine x_if_ne (tgt := 112) hC dX11_term_102 (by decide) hf (fun hf => ?_) (fun hf => ?_)
        · refine lv_iload_n hC.1 hC.2.1 dX11_term_112 rfl (lv_at hl 3 rfl) ?_
          refine lv_iload hC.1 hC.2.1 dX11_term_113 (lv_at hl 0 rfl) ?_
          refine x_irem hC dX11_term_115 hf (fun v7 hf => ?_)
          refine lv_istore_n (lv' := [(1, .int v7), (4, .int v4), (2, .long v1), (0, .ref (xz G + 57))]) hC.1 hC.2.1 dX11_term_116 rfl hl (Nat.le_of_ble_eq_true rfl) rfl (fun ls hl => ?_)
          refine lv_goto (tgt := 5) hC.1 hC.2.1 dX11_term_117 (by decide) ?_
          exact hk5 v7 I5 L6 hf _ _ _ hR hS (lv_sub hl [3, 0] rfl)
        · refine lv_iload_n hC.1 hC.2.1 dX11_term_105 rfl (lv_at hl 3 rfl) ?_
          refine lv_iload hC.1 hC.2.1 dX11_term_106 (lv_at hl 0 rfl) ?_
          refine x_idiv hC dX11_term_108 hf (fun v8 hf => ?_)
          refine lv_goto (tgt := 116) hC.1 hC.2.1 dX11_term_109 (by decide) ?_
          refine lv_istore_n (lv' := [(1, .int v8), (4, .int v4), (2, .long v1), (0, .ref (xz G + 57))]) hC.1 hC.2.1 dX11_term_116 rfl hl (Nat.le_of_ble_eq_true rfl) rfl (fun ls hl => ?_)
          refine lv_goto (tgt := 5) hC.1 hC.2.1 dX11_term_117 (by decide) ?_
          exact hk5 v8 I5 L6 hf _ _ _ hR hS (lv_sub hl [3, 0] rfl)
      · refine lv_lload_n hC.1 hC.2.1 dX11_term_79 rfl (lv_at hl 1 rfl) ?_
        refine x_ldc2 (v := 47) hC tw_1554 dX11_term_80 ?_
        refine W.lcmp hC.1 hC.2.1 dX11_term_83 ?_
        refine x_if_ne (tgt := 92) hC dX11_term_84 (by decide) hf (fun hf => ?_) (fun hf => ?_)
        · refine lv_iconst (v := 0) hC.1 hC.2.1 dX11_term_92 (by decide) ?_
          refine lv_istore_n (lv' := [(1, .int 0), (4, .int v4), (2, .long v1), (0, .ref (xz G + 57))]) hC.1 hC.2.1 dX11_term_93 rfl hl (Nat.le_of_ble_eq_true rfl) rfl (fun ls hl => ?_)
          refine lv_goto (tgt := 117) hC.1 hC.2.1 dX11_term_94 (by decide) ?_
          refine lv_goto (tgt := 5) hC.1 hC.2.1 dX11_term_117 (by decide) ?_
          exact hk5 0 I5 L6 hf _ _ _ hR hS (lv_sub hl [3, 0] rfl)
        · refine lv_iload_n hC.1 hC.2.1 dX11_term_87 rfl (lv_at hl 3 rfl) ?_
          refine lv_ineg hC.1 hC.2.1 dX11_term_88 ?_
          refine lv_goto (tgt := 93) hC.1 hC.2.1 dX11_term_89 (by decide) ?_
          refine x_istn (lv' := fun y9 => [(1, .int y9), (4, .int v4), (2, .long v1), (0, .ref (xz G + 57))]) hC hl dX11_term_93 rfl (Nat.le_of_ble_eq_true rfl) hf (fun _ => rfl) (fun y9 hf ls hl => ?_)
          refine lv_goto (tgt := 117) hC.1 hC.2.1 dX11_term_94 (by decide) ?_
          refine lv_goto (tgt := 5) hC.1 hC.2.1 dX11_term_117 (by decide) ?_
          exact hk5 y9 I5 L6 hf _ _ _ hR hS (lv_sub hl [3, 0] rfl)
    · refine lv_iconst (v := 0) hC.1 hC.2.1 dX11_term_68 (by decide) ?_
      refine lv_istore_n (lv' := [(1, .int 0), (4, .int v4), (2, .long v1), (0, .ref (xz G + 57))]) hC.1 hC.2.1 dX11_term_69 rfl hl (Nat.le_of_ble_eq_true rfl) rfl (fun ls hl => ?_)
      refine lv_goto (tgt := 117) hC.1 hC.2.1 dX11_term_70 (by decide) ?_
      refine lv_goto (tgt := 5) hC.1 hC.2.1 dX11_term_117 (by decide) ?_
      exact hk5 0 I5 L6 hf _ _ _ hR hS (lv_sub hl [3, 0] rfl)
  · refine lv_iload_n hC.1 hC.2.1 dX11_term_55 rfl (lv_at hl 3 rfl) ?_
    refine lv_iload hC.1 hC.2.1 dX11_term_56 (lv_at hl 0 rfl) ?_
    refine lv_imul hC.1 hC.2.1 dX11_term_58 ?_
    refine x_istn (lv' := fun y10 => [(1, .int y10), (4, .int v4), (2, .long v1), (0, .ref (xz G + 57))]) hC hl dX11_term_59 rfl (Nat.le_of_ble_eq_true rfl) hf (fun _ => rfl) (fun y10 hf ls hl => ?_)
    refine lv_goto (tgt := 117) hC.1 hC.2.1 dX11_term_60 (by decide) ?_
    refine lv_goto (tgt := 5) hC.1 hC.2.1 dX11_term_117 (by decide) ?_
    exact hk5 y10 I5 L6 hf _ _ _ hR hS (lv_sub hl [3, 0] rfl)
set_option maxRecDepth 20000 in
theorem W_X11_term_l5 {G : XG} {l : Launch} {kp : Bool} {p : Program} {e : Env} {s : State} {m : MethodId} {args : Array Value} {below : List Frame} {meth : Method} {c : Code} (hC : xC G p s m args meth c cX11_term 5 RX11 (some .int)) (N : Nat) {d : Nat} {c0 : xTI → xTL → Option (Int32 × xTI × xTL)} {c1 : xTI → xTL → Option (Int32 × xTI × xTL)} {c2 : xTI → xTL → Option (Int32 × xTI × xTL)} {c3 : xTI → xTL → Option (Int32 × xTI × xTL)} {c4 : xTI → xTL → Option (Int32 × xTI × xTL)} {c5 : xTI → xTL → Option (Int32 × xTI × xTL)} (hc0 : ∀ {I : xTI} {L : xTL} {r : Int32} {rI : xTI} {rL : xTL} , c0 I L = some (r, rI, rL) → xMet G l yX11_added cX11_added 4 (some .int) (3 + d) (64 + 24 * d) kp [.ref (xz G + 57)] I L (some (.int r)) rI rL) (hc1 : ∀ {I : xTI} {L : xTL} {r : Int32} {rI : xTI} {rL : xTL} , c1 I L = some (r, rI, rL) → xMet G l yX11_both cX11_both 3 (some .int) (3 + d) (64 + 24 * d) kp [.ref (xz G + 57)] I L (some (.int r)) rI rL) (hc2 : ∀ {I : xTI} {L : xTL} {r : Int32} {rI : xTI} {rL : xTL} , c2 I L = some (r, rI, rL) → xMet G l yX11_either cX11_either 3 (some .int) (3 + d) (64 + 24 * d) kp [.ref (xz G + 57)] I L (some (.int r)) rI rL) (hc3 : ∀ {I : xTI} {L : xTL} {r : Int32} {rI : xTI} {rL : xTL} , c3 I L = some (r, rI, rL) → xMet G l yX11_not cX11_not 5 (some .int) (3 + d) (64 + 24 * d) kp [.ref (xz G + 57)] I L (some (.int r)) rI rL) (hc4 : ∀ {I : xTI} {L : xTL} {r : Int32} {rI : xTI} {rL : xTL} , c4 I L = some (r, rI, rL) → xMet G l yX11_one cX11_one 2 (some .int) (3 + d) (64 + 24 * d) kp [.ref (xz G + 57)] I L (some (.int r)) rI rL) (hc5 : ∀ {I : xTI} {L : xTL} {r : Int32} {rI : xTI} {rL : xTL} , c5 I L = some (r, rI, rL) → xMet G l yX11_term cX11_term 5 (some .int) (3 + d) (64 + 24 * d) kp [.ref (xz G + 57)] I L (some (.int r)) rI rL) {r : Int32} {rI : xTI} {rL : xTL} : ∀ (n : Nat) (x1 : Int32) (I : xTI) (L : xTL) , xlp (F_X11_term_b5 c0 c1 c2 c3 c4 c5 N ) n (x1, I, L) = some (r, rI, rL) → ∀ (H : Heap) (locs : List Loc) (ls : Array Slot), xRep G kp I L H → xS G s.heap H locs → lv_has ls 5 [(0, .ref (xz G + 57)), (1, .int x1)] → W p l e (xrm (3 + (d + 1)) (64 + 24 * (d + 1))) s m args below meth c H locs 0 0 (xMQ G kp below args s (some (.int r)) rI rL) (F0 m 5 ls []) := by
  intro n
  induction n with
  | zero =>
    intro x1 I L hf
    cases hf
  | succ n hk5 =>
    intro x1 I L hf H locs ls hR hS hl
    rw [xlp_s, E_X11_term_b5] at hf
    unfold F_X11_term_c5 at hf
    refine lv_aload_n hC.1 hC.2.1 dX11_term_5 rfl (lv_at hl 0 rfl) ?_
    refine lv_bipush (v := 42) hC.1 hC.2.1 dX11_term_6 (by decide) ?_
    refine x_cvi00 (rest := []) hC xy_X11_isSign tw_1531 hf (fun _ h => M_X11_isSign G l kp h) ⟨by show _ ≤ _; dsimp only; omega, by show _ ≤ _; dsimp only; omega⟩ (xce_57 G kp _ _) rfl rfl rfl (Nat.le_of_ble_eq_true rfl) hl.1 hR hS dX11_term_8 ⟨Nat.le_refl _, Nat.le_refl _⟩ (fun v1 hf H locs hR hS => ?_)
    refine x_if_ne (tgt := 32) hC dX11_term_11 (by decide) hf (fun hf => ?_) (fun hf => ?_)
    · exact W_X11_term_j32 hC N hc0 hc1 hc2 hc3 hc4 hc5 _ hk5 hf _ _ _ hR hS (lv_sub hl [0, 1] rfl)
    · refine lv_aload_n hC.1 hC.2.1 dX11_term_14 rfl (lv_at hl 0 rfl) ?_
      refine lv_bipush (v := 47) hC.1 hC.2.1 dX11_term_15 (by decide) ?_
      refine x_cvi00 (rest := []) hC xy_X11_isSign tw_1531 hf (fun _ h => M_X11_isSign G l kp h) ⟨by show _ ≤ _; dsimp only; omega, by show _ ≤ _; dsimp only; omega⟩ (xce_57 G kp _ _) rfl rfl rfl (Nat.le_of_ble_eq_true rfl) hl.1 hR hS dX11_term_17 ⟨Nat.le_refl _, Nat.le_refl _⟩ (fun v2 hf H locs hR hS => ?_)
      refine x_if_ne (tgt := 32) hC dX11_term_20 (by decide) hf (fun hf => ?_) (fun hf => ?_)
      · exact W_X11_term_j32 hC N hc0 hc1 hc2 hc3 hc4 hc5 _ hk5 hf _ _ _ hR hS (lv_sub hl [0, 1] rfl)
      · refine lv_aload_n hC.1 hC.2.1 dX11_term_23 rfl (lv_at hl 0 rfl) ?_
        refine lv_bipush (v := 37) hC.1 hC.2.1 dX11_term_24 (by decide) ?_
        refine x_cvi00 (rest := []) hC xy_X11_isSign tw_1531 hf (fun _ h => M_X11_isSign G l kp h) ⟨by show _ ≤ _; dsimp only; omega, by show _ ≤ _; dsimp only; omega⟩ (xce_57 G kp _ _) rfl rfl rfl (Nat.le_of_ble_eq_true rfl) hl.1 hR hS dX11_term_26 ⟨Nat.le_refl _, Nat.le_refl _⟩ (fun v3 hf H locs hR hS => ?_)
        refine x_if_eq (tgt := 120) hC dX11_term_29 (by decide) hf (fun hf => ?_) (fun hf => ?_)
        · refine lv_iload_n hC.1 hC.2.1 dX11_term_120 rfl (lv_at hl 1 rfl) ?_
          obtain ⟨h91, h90⟩ := Prod.mk.inj (Option.some.inj hf)
          obtain ⟨h92, h93⟩ := Prod.mk.inj h90
          subst h91
          subst h92
          subst h93
          exact x_iret hC hR hS dX11_term_121
        · exact W_X11_term_j32 hC N hc0 hc1 hc2 hc3 hc4 hc5 _ hk5 hf _ _ _ hR hS (lv_sub hl [0, 1] rfl)
set_option maxRecDepth 20000 in
theorem M_X11_term_B (G : XG) (l : Launch) (kp : Bool) (N : Nat) {d : Nat} {c0 : xTI → xTL → Option (Int32 × xTI × xTL)} {c1 : xTI → xTL → Option (Int32 × xTI × xTL)} {c2 : xTI → xTL → Option (Int32 × xTI × xTL)} {c3 : xTI → xTL → Option (Int32 × xTI × xTL)} {c4 : xTI → xTL → Option (Int32 × xTI × xTL)} {c5 : xTI → xTL → Option (Int32 × xTI × xTL)} (hc0 : ∀ {I : xTI} {L : xTL} {r : Int32} {rI : xTI} {rL : xTL} , c0 I L = some (r, rI, rL) → xMet G l yX11_added cX11_added 4 (some .int) (3 + d) (64 + 24 * d) kp [.ref (xz G + 57)] I L (some (.int r)) rI rL) (hc1 : ∀ {I : xTI} {L : xTL} {r : Int32} {rI : xTI} {rL : xTL} , c1 I L = some (r, rI, rL) → xMet G l yX11_both cX11_both 3 (some .int) (3 + d) (64 + 24 * d) kp [.ref (xz G + 57)] I L (some (.int r)) rI rL) (hc2 : ∀ {I : xTI} {L : xTL} {r : Int32} {rI : xTI} {rL : xTL} , c2 I L = some (r, rI, rL) → xMet G l yX11_either cX11_either 3 (some .int) (3 + d) (64 + 24 * d) kp [.ref (xz G + 57)] I L (some (.int r)) rI rL) (hc3 : ∀ {I : xTI} {L : xTL} {r : Int32} {rI : xTI} {rL : xTL} , c3 I L = some (r, rI, rL) → xMet G l yX11_not cX11_not 5 (some .int) (3 + d) (64 + 24 * d) kp [.ref (xz G + 57)] I L (some (.int r)) rI rL) (hc4 : ∀ {I : xTI} {L : xTL} {r : Int32} {rI : xTI} {rL : xTL} , c4 I L = some (r, rI, rL) → xMet G l yX11_one cX11_one 2 (some .int) (3 + d) (64 + 24 * d) kp [.ref (xz G + 57)] I L (some (.int r)) rI rL) (hc5 : ∀ {I : xTI} {L : xTL} {r : Int32} {rI : xTI} {rL : xTL} , c5 I L = some (r, rI, rL) → xMet G l yX11_term cX11_term 5 (some .int) (3 + d) (64 + 24 * d) kp [.ref (xz G + 57)] I L (some (.int r)) rI rL) {I : xTI} {L : xTL} {r : Int32} {rI : xTI} {rL : xTL} (hf : F_X11_term_B c0 c1 c2 c3 c4 c5 N I L = some (r, rI, rL)) : xMet G l yX11_term cX11_term 5 (some .int) (3 + (d + 1)) (64 + 24 * (d + 1)) kp [.ref (xz G + 57)] I L (some (.int r)) rI rL := by
  refine xMet.ofW (by decide +kernel) (Nat.le_of_ble_eq_true rfl) ?_
  intro p e s m args below meth c hC H locs ls hR hS hl
  replace hC : xC G p s m args meth c cX11_term 5 RX11 (some .int) := hC
  replace hl : lv_has ls 5 [(0, .ref (xz G + 57))] := hl
  unfold F_X11_term_B at hf
  refine lv_aload_n hC.1 hC.2.1 dX11_term_0 rfl (lv_at hl 0 rfl) ?_
  refine x_cvi11 (rest := []) hC xy_X11_one tw_1527 hf (fun _ _ _ h => hc4 h) ⟨by show _ ≤ _; dsimp only; omega, by show _ ≤ _; dsimp only; omega⟩ (xce_57 G kp _ _) rfl rfl rfl (Nat.le_of_ble_eq_true rfl) hl.1 hR hS dX11_term_1 ⟨Nat.le_refl _, Nat.le_refl _⟩ (fun v1 I2 L3 hf H locs hR hS => ?_)
  refine lv_istore_n (lv' := [(1, .int v1), (0, .ref (xz G + 57))]) hC.1 hC.2.1 dX11_term_4 rfl hl (Nat.le_of_ble_eq_true rfl) rfl (fun ls hl => ?_)
  exact W_X11_term_l5 hC N hc0 hc1 hc2 hc3 hc4 hc5 _ v1 I2 L3 hf _ _ _ hR hS (lv_sub hl [1, 0] rfl)
set_option maxRecDepth 20000 in
theorem M_X11_R (G : XG) (l : Launch) (kp : Bool) (N : Nat) : ∀ d : Nat, (∀ {I : xTI} {L : xTL} {r : Int32} {rI : xTI} {rL : xTL} , (F_X11_R N d).1 I L = some (r, rI, rL) → xMet G l yX11_added cX11_added 4 (some .int) (3 + d) (64 + 24 * d) kp [.ref (xz G + 57)] I L (some (.int r)) rI rL) ∧ (∀ {I : xTI} {L : xTL} {r : Int32} {rI : xTI} {rL : xTL} , (F_X11_R N d).2.1 I L = some (r, rI, rL) → xMet G l yX11_both cX11_both 3 (some .int) (3 + d) (64 + 24 * d) kp [.ref (xz G + 57)] I L (some (.int r)) rI rL) ∧ (∀ {I : xTI} {L : xTL} {r : Int32} {rI : xTI} {rL : xTL} , (F_X11_R N d).2.2.1 I L = some (r, rI, rL) → xMet G l yX11_either cX11_either 3 (some .int) (3 + d) (64 + 24 * d) kp [.ref (xz G + 57)] I L (some (.int r)) rI rL) ∧ (∀ {I : xTI} {L : xTL} {r : Int32} {rI : xTI} {rL : xTL} , (F_X11_R N d).2.2.2.1 I L = some (r, rI, rL) → xMet G l yX11_not cX11_not 5 (some .int) (3 + d) (64 + 24 * d) kp [.ref (xz G + 57)] I L (some (.int r)) rI rL) ∧ (∀ {I : xTI} {L : xTL} {r : Int32} {rI : xTI} {rL : xTL} , (F_X11_R N d).2.2.2.2.1 I L = some (r, rI, rL) → xMet G l yX11_one cX11_one 2 (some .int) (3 + d) (64 + 24 * d) kp [.ref (xz G + 57)] I L (some (.int r)) rI rL) ∧ (∀ {I : xTI} {L : xTL} {r : Int32} {rI : xTI} {rL : xTL} , (F_X11_R N d).2.2.2.2.2 I L = some (r, rI, rL) → xMet G l yX11_term cX11_term 5 (some .int) (3 + d) (64 + 24 * d) kp [.ref (xz G + 57)] I L (some (.int r)) rI rL) := by
  intro d
  induction d with
  | zero =>
    refine ⟨?_, ?_, ?_, ?_, ?_, ?_⟩
    all_goals (intros; rename_i h; cases h)
  | succ d ih =>
    obtain ⟨h0, h1, h2, h3, h4, h5⟩ := ih
    refine ⟨?_, ?_, ?_, ?_, ?_, ?_⟩
    · intro I L r rI rL hf
      exact M_X11_added_B G l kp N (fun h => h0 h) (fun h => h1 h) (fun h => h2 h) (fun h => h3 h) (fun h => h4 h) (fun h => h5 h) hf
    · intro I L r rI rL hf
      exact M_X11_both_B G l kp N (fun h => h0 h) (fun h => h1 h) (fun h => h2 h) (fun h => h3 h) (fun h => h4 h) (fun h => h5 h) hf
    · intro I L r rI rL hf
      exact M_X11_either_B G l kp N (fun h => h0 h) (fun h => h1 h) (fun h => h2 h) (fun h => h3 h) (fun h => h4 h) (fun h => h5 h) hf
    · intro I L r rI rL hf
      exact M_X11_not_B G l kp N (fun h => h0 h) (fun h => h1 h) (fun h => h2 h) (fun h => h3 h) (fun h => h4 h) (fun h => h5 h) hf
    · intro I L r rI rL hf
      exact M_X11_one_B G l kp N (fun h => h0 h) (fun h => h1 h) (fun h => h2 h) (fun h => h3 h) (fun h => h4 h) (fun h => h5 h) hf
    · intro I L r rI rL hf
      exact M_X11_term_B G l kp N (fun h => h0 h) (fun h => h1 h) (fun h => h2 h) (fun h => h3 h) (fun h => h4 h) (fun h => h5 h) hf

theorem M_X11_added (G : XG) (l : Launch) (kp : Bool) (N : Nat) {I : xTI} {L : xTL} {r : Int32} {rI : xTI} {rL : xTL} (hf : F_X11_added N I L = some (r, rI, rL)) : xMet G l yX11_added cX11_added 4 (some .int) 83 1984 kp [.ref (xz G + 57)] I L (some (.int r)) rI rL := (M_X11_R G l kp N 80).1 hf
theorem M_X11_both (G : XG) (l : Launch) (kp : Bool) (N : Nat) {I : xTI} {L : xTL} {r : Int32} {rI : xTI} {rL : xTL} (hf : F_X11_both N I L = some (r, rI, rL)) : xMet G l yX11_both cX11_both 3 (some .int) 83 1984 kp [.ref (xz G + 57)] I L (some (.int r)) rI rL := (M_X11_R G l kp N 80).2.1 hf
theorem M_X11_either (G : XG) (l : Launch) (kp : Bool) (N : Nat) {I : xTI} {L : xTL} {r : Int32} {rI : xTI} {rL : xTL} (hf : F_X11_either N I L = some (r, rI, rL)) : xMet G l yX11_either cX11_either 3 (some .int) 83 1984 kp [.ref (xz G + 57)] I L (some (.int r)) rI rL := (M_X11_R G l kp N 80).2.2.1 hf
theorem M_X11_not (G : XG) (l : Launch) (kp : Bool) (N : Nat) {I : xTI} {L : xTL} {r : Int32} {rI : xTI} {rL : xTL} (hf : F_X11_not N I L = some (r, rI, rL)) : xMet G l yX11_not cX11_not 5 (some .int) 83 1984 kp [.ref (xz G + 57)] I L (some (.int r)) rI rL := (M_X11_R G l kp N 80).2.2.2.1 hf
theorem M_X11_one (G : XG) (l : Launch) (kp : Bool) (N : Nat) {I : xTI} {L : xTL} {r : Int32} {rI : xTI} {rL : xTL} (hf : F_X11_one N I L = some (r, rI, rL)) : xMet G l yX11_one cX11_one 2 (some .int) 83 1984 kp [.ref (xz G + 57)] I L (some (.int r)) rI rL := (M_X11_R G l kp N 80).2.2.2.2.1 hf
theorem M_X11_term (G : XG) (l : Launch) (kp : Bool) (N : Nat) {I : xTI} {L : xTL} {r : Int32} {rI : xTI} {rL : xTL} (hf : F_X11_term N I L = some (r, rI, rL)) : xMet G l yX11_term cX11_term 5 (some .int) 83 1984 kp [.ref (xz G + 57)] I L (some (.int r)) rI rL := (M_X11_R G l kp N 80).2.2.2.2.2 hf
