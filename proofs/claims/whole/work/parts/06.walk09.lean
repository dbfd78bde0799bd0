set_option maxRecDepth 20000 in
theorem M_X11_settled (G : XG) (l : Launch) (kp : Bool) {I : xTI} {L : xTL} {x1 : Int32} {x2 : Int32} {r : Int64} {rI : xTI} (hf : F_X11_settled I L x1 x2 = some (r, rI)) : xMet G l yX11_settled cX11_settled 3 (some .long) 2 43 kp [.ref (xz G + 57), .int x1, .int x2] I L (some (.long r)) rI L := by
  refine xMet.ofW (by decide +kernel) (Nat.le_of_ble_eq_true rfl) ?_
  intro p e s m args below meth c hC H locs ls hR hS hl
  replace hC : xC G p s m args meth c cX11_settled 3 RX11 (some .long) := hC
  replace hl : lv_has ls 3 [(0, .ref (xz G + 57)), (1, .int x1), (2, .int x2)] := hl
  unfold F_X11_settled at hf
  refine lv_aload_n hC.1 hC.2.1 dX11_settled_0 rfl (lv_at hl 0 rfl) ?_
  refine x_get (v := .ref (xz G + 58)) hC xf_X11_14 (xce_57 G kp _ _) rfl hR dX11_settled_1 ?_
  refine lv_bipush (v := 9) hC.1 hC.2.1 dX11_settled_4 (by decide) ?_
  refine x_ial hC (xce_58 G kp _ _) hR dX11_settled_6 hf (fun v1 hf => ?_)
  refine x_if_ne (tgt := 18) hC dX11_settled_7 (by decide) hf (fun hf => ?_) (fun hf => ?_)
  · refine lv_aload_n hC.1 hC.2.1 dX11_settled_18 rfl (lv_at hl 0 rfl) ?_
    refine lv_iload_n hC.1 hC.2.1 dX11_settled_19 rfl (lv_at hl 1 rfl) ?_
    refine x_cvi00 (rest := []) hC xy_X11_isMan tw_1355 hf (fun _ h => M_X11_isMan G l kp h) ⟨Nat.le_of_ble_eq_true rfl, Nat.le_of_ble_eq_true rfl⟩ (xce_57 G kp _ _) rfl rfl rfl (Nat.le_of_ble_eq_true rfl) hl.1 hR hS dX11_settled_20 ⟨Nat.le_refl _, Nat.le_refl _⟩ (fun v2 hf H locs hR hS => ?_)
    refine x_if_ne (tgt := 34) hC dX11_settled_23 (by decide) hf (fun hf => ?_) (fun hf => ?_)
    · refine lv_iload_n hC.1 hC.2.1 dX11_settled_34 rfl (lv_at hl 2 rfl) ?_
      refine lv_iconst (v := 0) hC.1 hC.2.1 dX11_settled_35 (by decide) ?_
      refine lv_iconst (v := 4) hC.1 hC.2.1 dX11_settled_36 (by decide) ?_
      refine x_csi00 (rest := []) hC xy_X11_in tw_1335 hf (fun _ h => M_X11_in G l kp h) ⟨Nat.le_of_ble_eq_true rfl, Nat.le_of_ble_eq_true rfl⟩ rfl rfl (Nat.le_of_ble_eq_true rfl) hl.1 hR hS dX11_settled_37 ⟨Nat.le_refl _, Nat.le_refl _⟩ (fun v3 hf H locs hR hS => ?_)
      refine x_if_ne (tgt := 51) hC dX11_settled_40 (by decide) hf (fun hf => ?_) (fun hf => ?_)
      · refine lv_iload_n hC.1 hC.2.1 dX11_settled_51 rfl (lv_at hl 2 rfl) ?_
        refine lv_iconst (v := 4) hC.1 hC.2.1 dX11_settled_52 (by decide) ?_
        refine x_ic_ne (tgt := 73) hC dX11_settled_53 (by decide) hf (fun hf => ?_) (fun hf => ?_)
        · refine lv_aload_n hC.1 hC.2.1 dX11_settled_73 rfl (lv_at hl 0 rfl) ?_
          refine x_get (v := .ref (xz G + 59)) hC xf_X11_18 (xce_57 G kp _ _) rfl hR dX11_settled_74 ?_
          refine lv_sipush (v := 168) hC.1 hC.2.1 dX11_settled_77 (by decide) ?_
          refine lv_iconst (v := 4) hC.1 hC.2.1 dX11_settled_80 (by decide) ?_
          refine lv_iload_n hC.1 hC.2.1 dX11_settled_81 rfl (lv_at hl 1 rfl) ?_
          refine lv_imul hC.1 hC.2.1 dX11_settled_82 ?_
          refine lv_iadd hC.1 hC.2.1 dX11_settled_83 ?_
          refine lv_iload_n hC.1 hC.2.1 dX11_settled_84 rfl (lv_at hl 2 rfl) ?_
          refine lv_iadd hC.1 hC.2.1 dX11_settled_85 ?_
          refine x_lal hC (xce_59 G kp _ _) hR dX11_settled_86 hf (fun v4 hf => ?_)
          cases hf
          exact x_lret hC hR hS dX11_settled_87
        · refine lv_aload_n hC.1 hC.2.1 dX11_settled_56 rfl (lv_at hl 0 rfl) ?_
          refine x_get (v := .ref (xz G + 58)) hC xf_X11_14 (xce_57 G kp _ _) rfl hR dX11_settled_57 ?_
          refine lv_bipush (v := 16) hC.1 hC.2.1 dX11_settled_60 (by decide) ?_
          refine lv_iconst (v := 4) hC.1 hC.2.1 dX11_settled_62 (by decide) ?_
          refine lv_iload_n hC.1 hC.2.1 dX11_settled_63 rfl (lv_at hl 1 rfl) ?_
          refine lv_imul hC.1 hC.2.1 dX11_settled_64 ?_
          refine lv_iadd hC.1 hC.2.1 dX11_settled_65 ?_
          refine lv_iconst (v := 3) hC.1 hC.2.1 dX11_settled_66 (by decide) ?_
          refine lv_iadd hC.1 hC.2.1 dX11_settled_67 ?_
          refine x_ial hC (xce_58 G kp _ _) hR dX11_settled_68 hf (fun v5 hf => ?_)
          refine lv_i2l hC.1 hC.2.1 dX11_settled_69 rfl ?_
          refine lv_goto (tgt := 87) hC.1 hC.2.1 dX11_settled_70 (by decide) ?_
          cases hf
          exact x_lret hC hR hS dX11_settled_87
      · refine lv_aload_n hC.1 hC.2.1 dX11_settled_43 rfl (lv_at hl 0 rfl) ?_
        refine lv_bipush (v := (-7)) hC.1 hC.2.1 dX11_settled_44 (by decide) ?_
        refine x_cvi10 (rest := []) hC xy_X11_hush tw_1391 hf (fun _ _ h => M_X11_hush G l kp h) ⟨Nat.le_of_ble_eq_true rfl, Nat.le_of_ble_eq_true rfl⟩ (xce_57 G kp _ _) rfl rfl rfl (Nat.le_of_ble_eq_true rfl) hl.1 hR hS dX11_settled_46 ⟨Nat.le_refl _, Nat.le_refl _⟩ (fun v6 I7 hf H locs hR hS => ?_)
        refine lv_i2l hC.1 hC.2.1 dX11_settled_49 rfl ?_
        cases hf
        exact x_lret hC hR hS dX11_settled_50
    · refine lv_aload_n hC.1 hC.2.1 dX11_settled_26 rfl (lv_at hl 0 rfl) ?_
      refine lv_bipush (v := (-3)) hC.1 hC.2.1 dX11_settled_27 (by decide) ?_
      refine x_cvi10 (rest := []) hC xy_X11_hush tw_1391 hf (fun _ _ h => M_X11_hush G l kp h) ⟨Nat.le_of_ble_eq_true rfl, Nat.le_of_ble_eq_true rfl⟩ (xce_57 G kp _ _) rfl rfl rfl (Nat.le_of_ble_eq_true rfl) hl.1 hR hS dX11_settled_29 ⟨Nat.le_refl _, Nat.le_refl _⟩ (fun v8 I9 hf H locs hR hS => ?_)
      refine lv_i2l hC.1 hC.2.1 dX11_settled_32 rfl ?_
      cases hf
      exact x_lret hC hR hS dX11_settled_33
  · refine lv_aload_n hC.1 hC.2.1 dX11_settled_10 rfl (lv_at hl 0 rfl) ?_
    refine lv_bipush (v := (-2)) hC.1 hC.2.1 dX11_settled_11 (by decide) ?_
    refine x_cvi10 (rest := []) hC xy_X11_hush tw_1391 hf (fun _ _ h => M_X11_hush G l kp h) ⟨Nat.le_of_ble_eq_true rfl, Nat.le_of_ble_eq_true rfl⟩ (xce_57 G kp _ _) rfl rfl rfl (Nat.le_of_ble_eq_true rfl) hl.1 hR hS dX11_settled_13 ⟨Nat.le_refl _, Nat.le_refl _⟩ (fun v10 I11 hf H locs hR hS => ?_)
    refine lv_i2l hC.1 hC.2.1 dX11_settled_16 rfl ?_
    cases hf
    exact x_lret hC hR hS dX11_settled_17
set_option maxRecDepth 20000 in
theorem W_X11_least_j273 {G : XG} {l : Launch} {kp : Bool} {p : Program} {e : Env} {s : State} {m : MethodId} {args : Array Value} {below : List Frame} {meth : Method} {c : Code} (hC : xC G p s m args meth c cX11_least 7 RX11 (some .int)) (N : Nat) {I : xTI} {L : xTL} {r : Int32} {rI : xTI} {x3 : Int32} {x4 : Int32} {t1 : Int32} {t2 : Int32} {t3 : Int32} (k117 : Int32 × xTI → Option (Int32 × xTI)) (hk117 : ∀ (x4 : Int32) (I : xTI) , k117 (x4, I) = some (r, rI) → ∀ (H : Heap) (locs : List Loc) (ls : Array Slot), xRep G kp I L H → xS G s.heap H locs → lv_has ls 7 [(0, .ref (xz G + 57)), (3, .int x3), (4, .int x4)] → W p l e (xrm 3 68) s m args below meth c H locs 0 0 (xMQ G kp below args s (some (.int r)) rI L) (F0 m 117 ls [])) (hf : F_X11_least_j273 k117 N I x3 x4 t1 t2 t3 = some (r, rI)) : ∀ (H : Heap) (locs : List Loc) (ls : Array Slot), xRep G kp I L H → xS G s.heap H locs → lv_has ls 7 [(0, .ref (xz G + 57)), (3, .int x3), (4, .int x4)] → W p l e (xrm 3 68) s m args below meth c H locs 0 0 (xMQ G kp below args s (some (.int r)) rI L) (F0 m 273 ls [.int t3, .int t2, .int t1, .ref (xz G + 80)]) := by
  intro H locs ls hR hS hl
  unfold F_X11_least_j273 at hf
  refine lv_iadd hC.1 hC.2.1 dX11_least_273 ?_
  refine x_ias hC (fun f => xce_80 G kp f _) hR hS dX11_least_274 hf (fun I1 hf H locs hR hS => ?_)
  refine x_iinc (d := 1) (lv' := fun y2 => [(4, .int y2), (0, .ref (xz G + 57)), (3, .int x3)]) (k := 2) hC hl dX11_least_275 rfl (by decide) (Nat.le_of_ble_eq_true rfl) hf (fun _ => rfl) (fun y2 hf ls hl => ?_)
  refine lv_goto (tgt := 117) hC.1 hC.2.1 dX11_least_278 (by decide) ?_
  exact hk117 y2 I1 hf _ _ _ hR hS (lv_sub hl [1, 2, 0] rfl)
set_option maxRecDepth 20000 in
theorem W_X11_least_l182 {G : XG} {l : Launch} {kp : Bool} {p : Program} {e : Env} {s : State} {m : MethodId} {args : Array Value} {below : List Frame} {meth : Method} {c : Code} (hC : xC G p s m args meth c cX11_least 7 RX11 (some .int)) (N : Nat) {L : xTL} {r : Int32} {rI : xTI} {x3 : Int32} {x4 : Int32} (k117 : Int32 × xTI → Option (Int32 × xTI)) (hk117 : ∀ (x4 : Int32) (I : xTI) , k117 (x4, I) = some (r, rI) → ∀ (H : Heap) (locs : List Loc) (ls : Array Slot), xRep G kp I L H → xS G s.heap H locs → lv_has ls 7 [(0, .ref (xz G + 57)), (3, .int x3), (4, .int x4)] → W p l e (xrm 3 68) s m args below meth c H locs 0 0 (xMQ G kp below args s (some (.int r)) rI L) (F0 m 117 ls [])) : ∀ (n : Nat) (x6 : Int32) (I : xTI) , xlp (F_X11_least_b182 k117 N x3 x4 ) n (x6, I) = some (r, rI) → ∀ (H : Heap) (locs : List Loc) (ls : Array Slot), xRep G kp I L H → xS G s.heap H locs → lv_has ls 7 [(0, .ref (xz G + 57)), (3, .int x3), (4, .int x4), (6, .int x6)] → W p l e (xrm 3 68) s m args below meth c H locs 0 0 (xMQ G kp below args s (some (.int r)) rI L) (F0 m 182 ls []) := by
  intro n
  induction n with
  | zero =>
    intro x6 I hf
    cases hf
  | succ n hk182 =>
    intro x6 I hf H locs ls hR hS hl
    replace hf : F_X11_least_c182 k117 N x3 x4 x6 I (xlp (F_X11_least_b182 k117 N x3 x4 ) n) = some (r, rI) := hf
    unfold F_X11_least_c182 at hf
    refine lv_iload hC.1 hC.2.1 dX11_least_182 (lv_at hl 3 rfl) ?_
    refine lv_iload_n hC.1 hC.2.1 dX11_least_184 rfl (lv_at hl 1 rfl) ?_
    refine x_ic_ge (tgt := 250) hC dX11_least_185 (by decide) hf (fun hf => ?_) (fun hf => ?_)
    · refine lv_aload_n hC.1 hC.2.1 dX11_least_250 rfl (lv_at hl 0 rfl) ?_
      refine x_get (v := .ref (xz G + 80)) hC xf_X11_82 (xce_57 G kp _ _) rfl hR dX11_least_251 ?_
      refine lv_iload hC.1 hC.2.1 dX11_least_254 (lv_at hl 2 rfl) ?_
      refine lv_dup2_11 hC.1 hC.2.1 dX11_least_256 rfl rfl ?_
      refine x_ial hC (xce_80 G kp _ _) hR dX11_least_257 hf (fun v1 hf => ?_)
      refine lv_aload_n hC.1 hC.2.1 dX11_least_258 rfl (lv_at hl 0 rfl) ?_
      refine x_get (v := .ref (xz G + 79)) hC xf_X11_79 (xce_57 G kp _ _) rfl hR dX11_least_259 ?_
      refine lv_iload hC.1 hC.2.1 dX11_least_262 (lv_at hl 2 rfl) ?_
      refine x_ial hC (xce_79 G kp _ _) hR dX11_least_264 hf (fun v2 hf => ?_)
      refine x_if_ne (tgt := 272) hC dX11_least_265 (by decide) hf (fun hf => ?_) (fun hf => ?_)
      · refine lv_iconst (v := 0) hC.1 hC.2.1 dX11_least_272 (by decide) ?_
        exact W_X11_least_j273 hC N k117 hk117 hf _ _ _ hR hS (lv_sub hl [0, 1, 2] rfl)
      · refine lv_iconst (v := 1) hC.1 hC.2.1 dX11_least_268 (by decide) ?_
        refine lv_goto (tgt := 273) hC.1 hC.2.1 dX11_least_269 (by decide) ?_
        exact W_X11_least_j273 hC N k117 hk117 hf _ _ _ hR hS (lv_sub hl [0, 1, 2] rfl)
    · refine lv_iload hC.1 hC.2.1 dX11_least_188 (lv_at hl 2 rfl) ?_
      refine lv_iload hC.1 hC.2.1 dX11_least_190 (lv_at hl 3 rfl) ?_
      refine lv_ishr hC.1 hC.2.1 dX11_least_192 ?_
      refine lv_iconst (v := 1) hC.1 hC.2.1 dX11_least_193 (by decide) ?_
      refine lv_iand hC.1 hC.2.1 dX11_least_194 ?_
      refine lv_iconst (v := 1) hC.1 hC.2.1 dX11_least_195 (by decide) ?_
      refine x_ic_ne (tgt := 244) hC dX11_least_196 (by decide) hf (fun hf => ?_) (fun hf => ?_)
      · refine x_iinc (d := 1) (lv' := fun y3 => [(6, .int y3), (0, .ref (xz G + 57)), (3, .int x3), (4, .int x4)]) (k := 3) hC hl dX11_least_244 rfl (by decide) (Nat.le_of_ble_eq_true rfl) hf (fun _ => rfl) (fun y3 hf ls hl => ?_)
        refine lv_goto (tgt := 182) hC.1 hC.2.1 dX11_least_247 (by decide) ?_
        exact hk182 y3 I hf _ _ _ hR hS (lv_sub hl [1, 2, 3, 0] rfl)
      · refine lv_aload_n hC.1 hC.2.1 dX11_least_199 rfl (lv_at hl 0 rfl) ?_
        refine x_get (v := .ref (xz G + 80)) hC xf_X11_82 (xce_57 G kp _ _) rfl hR dX11_least_200 ?_
        refine lv_iload hC.1 hC.2.1 dX11_least_203 (lv_at hl 2 rfl) ?_
        refine lv_iconst (v := 1) hC.1 hC.2.1 dX11_least_205 (by decide) ?_
        refine lv_iload hC.1 hC.2.1 dX11_least_206 (lv_at hl 3 rfl) ?_
        refine lv_ishl hC.1 hC.2.1 dX11_least_208 ?_
        refine lv_iconst (v := (-1)) hC.1 hC.2.1 dX11_least_209 (by decide) ?_
        refine lv_ixor hC.1 hC.2.1 dX11_least_210 ?_
        refine lv_iand hC.1 hC.2.1 dX11_least_211 ?_
        refine x_ial hC (xce_80 G kp _ _) hR dX11_least_212 hf (fun v4 hf => ?_)
        refine lv_aload_n hC.1 hC.2.1 dX11_least_213 rfl (lv_at hl 0 rfl) ?_
        refine x_get (v := .ref (xz G + 80)) hC xf_X11_82 (xce_57 G kp _ _) rfl hR dX11_least_214 ?_
        refine lv_iload hC.1 hC.2.1 dX11_least_217 (lv_at hl 2 rfl) ?_
        refine x_ial hC (xce_80 G kp _ _) hR dX11_least_219 hf (fun v5 hf => ?_)
        refine x_ic_le (tgt := 244) hC dX11_least_220 (by decide) hf (fun hf => ?_) (fun hf => ?_)
        · refine x_iinc (d := 1) (lv' := fun y6 => [(6, .int y6), (0, .ref (xz G + 57)), (3, .int x3), (4, .int x4)]) (k := 3) hC hl dX11_least_244 rfl (by decide) (Nat.le_of_ble_eq_true rfl) hf (fun _ => rfl) (fun y6 hf ls hl => ?_)
          refine lv_goto (tgt := 182) hC.1 hC.2.1 dX11_least_247 (by decide) ?_
          exact hk182 y6 I hf _ _ _ hR hS (lv_sub hl [1, 2, 3, 0] rfl)
        · refine lv_aload_n hC.1 hC.2.1 dX11_least_223 rfl (lv_at hl 0 rfl) ?_
          refine x_get (v := .ref (xz G + 80)) hC xf_X11_82 (xce_57 G kp _ _) rfl hR dX11_least_224 ?_
          refine lv_iload hC.1 hC.2.1 dX11_least_227 (lv_at hl 2 rfl) ?_
          refine lv_aload_n hC.1 hC.2.1 dX11_least_229 rfl (lv_at hl 0 rfl) ?_
          refine x_get (v := .ref (xz G + 80)) hC xf_X11_82 (xce_57 G kp _ _) rfl hR dX11_least_230 ?_
          refine lv_iload hC.1 hC.2.1 dX11_least_233 (lv_at hl 2 rfl) ?_
          refine lv_iconst (v := 1) hC.1 hC.2.1 dX11_least_235 (by decide) ?_
          refine lv_iload hC.1 hC.2.1 dX11_least_236 (lv_at hl 3 rfl) ?_
          refine lv_ishl hC.1 hC.2.1 dX11_least_238 ?_
          refine lv_iconst (v := (-1)) hC.1 hC.2.1 dX11_least_239 (by decide) ?_
          refine lv_ixor hC.1 hC.2.1 dX11_least_240 ?_
          refine lv_iand hC.1 hC.2.1 dX11_least_241 ?_
          refine x_ial hC (xce_80 G kp _ _) hR dX11_least_242 hf (fun v7 hf => ?_)
          refine x_ias hC (fun f => xce_80 G kp f _) hR hS dX11_least_243 hf (fun I8 hf H locs hR hS => ?_)
          refine x_iinc (d := 1) (lv' := fun y9 => [(6, .int y9), (0, .ref (xz G + 57)), (3, .int x3), (4, .int x4)]) (k := 3) hC hl dX11_least_244 rfl (by decide) (Nat.le_of_ble_eq_true rfl) hf (fun _ => rfl) (fun y9 hf ls hl => ?_)
          refine lv_goto (tgt := 182) hC.1 hC.2.1 dX11_least_247 (by decide) ?_
          exact hk182 y9 I8 hf _ _ _ hR hS (lv_sub hl [1, 2, 3, 0] rfl)
set_option maxRecDepth 20000 in
theorem W_X11_least_l128 {G : XG} {l : Launch} {kp : Bool} {p : Program} {e : Env} {s : State} {m : MethodId} {args : Array Value} {below : List Frame} {meth : Method} {c : Code} (hC : xC G p s m args meth c cX11_least 7 RX11 (some .int)) (N : Nat) {I : xTI} {L : xTL} {r : Int32} {rI : xTI} {x3 : Int32} {x4 : Int32} (k117 : Int32 × xTI → Option (Int32 × xTI)) (hk117 : ∀ (x4 : Int32) (I : xTI) , k117 (x4, I) = some (r, rI) → ∀ (H : Heap) (locs : List Loc) (ls : Array Slot), xRep G kp I L H → xS G s.heap H locs → lv_has ls 7 [(0, .ref (xz G + 57)), (3, .int x3), (4, .int x4)] → W p l e (xrm 3 68) s m args below meth c H locs 0 0 (xMQ G kp below args s (some (.int r)) rI L) (F0 m 117 ls [])) : ∀ (n : Nat) (x5 : Int32) , xlp (F_X11_least_b128 k117 N I x3 x4 ) n x5 = some (r, rI) → ∀ (H : Heap) (locs : List Loc) (ls : Array Slot), xRep G kp I L H → xS G s.heap H locs → lv_has ls 7 [(0, .ref (xz G + 57)), (3, .int x3), (4, .int x4), (5, .int x5)] → W p l e (xrm 3 68) s m args below meth c H locs 0 0 (xMQ G kp below args s (some (.int r)) rI L) (F0 m 128 ls []) := by
  intro n
  induction n with
  | zero =>
    intro x5 hf
    cases hf
  | succ n hk128 =>
    intro x5 hf H locs ls hR hS hl
    replace hf : F_X11_least_c128 k117 N I x3 x4 x5 (xlp (F_X11_least_b128 k117 N I x3 x4 ) n) = some (r, rI) := hf
    unfold F_X11_least_c128 at hf
    refine lv_iload hC.1 hC.2.1 dX11_least_128 (lv_at hl 2 rfl) ?_
    refine lv_iload hC.1 hC.2.1 dX11_least_130 (lv_at hl 3 rfl) ?_
    refine lv_ishr hC.1 hC.2.1 dX11_least_132 ?_
    refine lv_iconst (v := 1) hC.1 hC.2.1 dX11_least_133 (by decide) ?_
    refine lv_iand hC.1 hC.2.1 dX11_least_134 ?_
    refine x_if_ne (tgt := 144) hC dX11_least_135 (by decide) hf (fun hf => ?_) (fun hf => ?_)
    · refine lv_aload_n hC.1 hC.2.1 dX11_least_144 rfl (lv_at hl 0 rfl) ?_
      refine x_get (v := .ref (xz G + 79)) hC xf_X11_79 (xce_57 G kp _ _) rfl hR dX11_least_145 ?_
      refine lv_iload hC.1 hC.2.1 dX11_least_148 (lv_at hl 2 rfl) ?_
      refine lv_aload_n hC.1 hC.2.1 dX11_least_150 rfl (lv_at hl 0 rfl) ?_
      refine x_get (v := .ref (xz G + 79)) hC xf_X11_79 (xce_57 G kp _ _) rfl hR dX11_least_151 ?_
      refine lv_iload hC.1 hC.2.1 dX11_least_154 (lv_at hl 2 rfl) ?_
      refine lv_iload hC.1 hC.2.1 dX11_least_156 (lv_at hl 2 rfl) ?_
      refine lv_iconst (v := 1) hC.1 hC.2.1 dX11_least_158 (by decide) ?_
      refine lv_isub hC.1 hC.2.1 dX11_least_159 ?_
      refine lv_iand hC.1 hC.2.1 dX11_least_160 ?_
      refine x_ial hC (xce_79 G kp _ _) hR dX11_least_161 hf (fun v1 hf => ?_)
      refine lv_aload_n hC.1 hC.2.1 dX11_least_162 rfl (lv_at hl 0 rfl) ?_
      refine x_get (v := .ref (xz G + 78)) hC xf_X11_76 (xce_57 G kp _ _) rfl hR dX11_least_163 ?_
      refine lv_iload hC.1 hC.2.1 dX11_least_166 (lv_at hl 3 rfl) ?_
      refine x_ial hC (xce_78 G kp _ _) hR dX11_least_168 hf (fun v2 hf => ?_)
      refine lv_iadd hC.1 hC.2.1 dX11_least_169 ?_
      refine x_ias hC (fun f => xce_79 G kp f _) hR hS dX11_least_170 hf (fun I3 hf H locs hR hS => ?_)
      refine lv_aload_n hC.1 hC.2.1 dX11_least_171 rfl (lv_at hl 0 rfl) ?_
      refine x_get (v := .ref (xz G + 80)) hC xf_X11_82 (xce_57 G kp _ _) rfl hR dX11_least_172 ?_
      refine lv_iload hC.1 hC.2.1 dX11_least_175 (lv_at hl 2 rfl) ?_
      refine lv_iconst (v := 0) hC.1 hC.2.1 dX11_least_177 (by decide) ?_
      refine x_ias hC (fun f => xce_80 G kp f _) hR hS dX11_least_178 hf (fun I4 hf H locs hR hS => ?_)
      refine lv_iconst (v := 0) hC.1 hC.2.1 dX11_least_179 (by decide) ?_
      refine lv_istore (lv' := [(6, .int 0), (0, .ref (xz G + 57)), (3, .int x3), (4, .int x4), (5, .int x5)]) hC.1 hC.2.1 dX11_least_180 hl (Nat.le_of_ble_eq_true rfl) rfl (fun ls hl => ?_)
      exact W_X11_least_l182 hC N k117 hk117 _ 0 I4 hf _ _ _ hR hS (lv_sub hl [1, 2, 3, 0] rfl)
    · refine x_iinc (d := 1) (lv' := fun y5 => [(5, .int y5), (0, .ref (xz G + 57)), (3, .int x3), (4, .int x4)]) (k := 3) hC hl dX11_least_138 rfl (by decide) (Nat.le_of_ble_eq_true rfl) hf (fun _ => rfl) (fun y5 hf ls hl => ?_)
      refine lv_goto (tgt := 128) hC.1 hC.2.1 dX11_least_141 (by decide) ?_
      exact hk128 y5 hf _ _ _ hR hS (lv_sub hl [1, 2, 3, 0] rfl)
set_option maxRecDepth 20000 in
theorem W_X11_least_l117 {G : XG} {l : Launch} {kp : Bool} {p : Program} {e : Env} {s : State} {m : MethodId} {args : Array Value} {below : List Frame} {meth : Method} {c : Code} (hC : xC G p s m args meth c cX11_least 7 RX11 (some .int)) (N : Nat) {L : xTL} {r : Int32} {rI : xTI} {x3 : Int32} : ∀ (n : Nat) (x4 : Int32) (I : xTI) , xlp (F_X11_least_b117 N x3 ) n (x4, I) = some (r, rI) → ∀ (H : Heap) (locs : List Loc) (ls : Array Slot), xRep G kp I L H → xS G s.heap H locs → lv_has ls 7 [(0, .ref (xz G + 57)), (3, .int x3), (4, .int x4)] → W p l e (xrm 3 68) s m args below meth c H locs 0 0 (xMQ G kp below args s (some (.int r)) rI L) (F0 m 117 ls []) := by
  intro n
  induction n with
  | zero =>
    intro x4 I hf
    cases hf
  | succ n hk117 =>
    intro x4 I hf H locs ls hR hS hl
    replace hf : F_X11_least_c117 N x3 x4 I (xlp (F_X11_least_b117 N x3 ) n) = some (r, rI) := hf
    unfold F_X11_least_c117 at hf
    refine lv_iload hC.1 hC.2.1 dX11_least_117 (lv_at hl 2 rfl) ?_
    refine lv_iconst (v := 1) hC.1 hC.2.1 dX11_least_119 (by decide) ?_
    refine lv_iload_n hC.1 hC.2.1 dX11_least_120 rfl (lv_at hl 1 rfl) ?_
    refine lv_ishl hC.1 hC.2.1 dX11_least_121 ?_
    refine x_ic_ge (tgt := 281) hC dX11_least_122 (by decide) hf (fun hf => ?_) (fun hf => ?_)
    · refine lv_iload_n hC.1 hC.2.1 dX11_least_281 rfl (lv_at hl 1 rfl) ?_
      refine lv_aload_n hC.1 hC.2.1 dX11_least_282 rfl (lv_at hl 0 rfl) ?_
      refine x_get (v := .ref (xz G + 80)) hC xf_X11_82 (xce_57 G kp _ _) rfl hR dX11_least_283 ?_
      refine lv_iconst (v := 1) hC.1 hC.2.1 dX11_least_286 (by decide) ?_
      refine lv_iload_n hC.1 hC.2.1 dX11_least_287 rfl (lv_at hl 1 rfl) ?_
      refine lv_ishl hC.1 hC.2.1 dX11_least_288 ?_
      refine lv_iconst (v := 1) hC.1 hC.2.1 dX11_least_289 (by decide) ?_
      refine lv_isub hC.1 hC.2.1 dX11_least_290 ?_
      refine x_ial hC (xce_80 G kp _ _) hR dX11_least_291 hf (fun v1 hf => ?_)
      refine lv_isub hC.1 hC.2.1 dX11_least_292 ?_
      cases hf
      exact x_iret hC hR hS dX11_least_293
    · refine lv_iconst (v := 0) hC.1 hC.2.1 dX11_least_125 (by decide) ?_
      refine lv_istore (lv' := [(5, .int 0), (0, .ref (xz G + 57)), (3, .int x3), (4, .int x4)]) hC.1 hC.2.1 dX11_least_126 hl (Nat.le_of_ble_eq_true rfl) rfl (fun ls hl => ?_)
      exact W_X11_least_l128 hC N k117 hk117 _ 0 hf _ _ _ hR hS (lv_sub hl [1, 2, 3, 0] rfl)
set_option maxRecDepth 20000 in
theorem W_X11_least_j68 {G : XG} {l : Launch} {kp : Bool} {p : Program} {e : Env} {s : State} {m : MethodId} {args : Array Value} {below : List Frame} {meth : Method} {c : Code} (hC : xC G p s m args meth c cX11_least 7 RX11 (some .int)) (N : Nat) {I : xTI} {L : xTL} {r : Int32} {rI : xTI} {x1 : Int32} {x2 : Int32} {x3 : Int32} {x4 : Int32} (k31 : Int32 × Int32 × xTI → Option (Int32 × xTI)) (hk31 : ∀ (x3 : Int32) (x4 : Int32) (I : xTI) , k31 (x3, x4, I) = some (r, rI) → ∀ (H : Heap) (locs : List Loc) (ls : Array Slot), xRep G kp I L H → xS G s.heap H locs → lv_has ls 7 [(0, .ref (xz G + 57)), (1, .int x1), (2, .int x2), (3, .int x3), (4, .int x4)] → W p l e (xrm 3 68) s m args below meth c H locs 0 0 (xMQ G kp below args s (some (.int r)) rI L) (F0 m 31 ls [])) (hf : F_X11_least_j68 k31 N I x1 x2 x3 x4 = some (r, rI)) : ∀ (H : Heap) (locs : List Loc) (ls : Array Slot), xRep G kp I L H → xS G s.heap H locs → lv_has ls 7 [(0, .ref (xz G + 57)), (1, .int x1), (2, .int x2), (3, .int x3), (4, .int x4)] → W p l e (xrm 3 68) s m args below meth c H locs 0 0 (xMQ G kp below args s (some (.int r)) rI L) (F0 m 68 ls []) := by
  intro H locs ls hR hS hl
  unfold F_X11_least_j68 at hf
  refine lv_iload_n hC.1 hC.2.1 dX11_least_68 rfl (lv_at hl 3 rfl) ?_
  refine lv_bipush (v := 12) hC.1 hC.2.1 dX11_least_69 (by decide) ?_
  refine x_ic_ne (tgt := 81) hC dX11_least_71 (by decide) hf (fun hf => ?_) (fun hf => ?_)
  · refine x_iinc (d := 1) (lv' := fun y1 => [(4, .int y1), (0, .ref (xz G + 57)), (1, .int x1), (2, .int x2), (3, .int x3)]) (k := 4) hC hl dX11_least_81 rfl (by decide) (Nat.le_of_ble_eq_true rfl) hf (fun _ => rfl) (fun y1 hf ls hl => ?_)
    refine lv_goto (tgt := 31) hC.1 hC.2.1 dX11_least_84 (by decide) ?_
    exact hk31 x3 y1 I hf _ _ _ hR hS (lv_sub hl [1, 2, 3, 4, 0] rfl)
  · refine lv_aload_n hC.1 hC.2.1 dX11_least_74 rfl (lv_at hl 0 rfl) ?_
    refine lv_bipush (v := (-5)) hC.1 hC.2.1 dX11_least_75 (by decide) ?_
    refine x_cvi10 (rest := []) hC xy_X11_refuse tw_1338 hf (fun _ _ h => M_X11_refuse G l kp h) ⟨Nat.le_of_ble_eq_true rfl, Nat.le_of_ble_eq_true rfl⟩ (xce_57 G kp _ _) rfl rfl rfl (Nat.le_of_ble_eq_true rfl) hl.1 hR hS dX11_least_77 ⟨Nat.le_refl _, Nat.le_refl _⟩ (fun v2 I3 hf H locs hR hS => ?_)
    cases hf
    exact x_iret hC hR hS dX11_least_80
set_option maxRecDepth 20000 in
theorem W_X11_least_l31 {G : XG} {l : Launch} {kp : Bool} {p : Program} {e : Env} {s : State} {m : MethodId} {args : Array Value} {below : List Frame} {meth : Method} {c : Code} (hC : xC G p s m args meth c cX11_least 7 RX11 (some .int)) (N : Nat) {L : xTL} {r : Int32} {rI : xTI} {x1 : Int32} {x2 : Int32} : ∀ (n : Nat) (x3 : Int32) (x4 : Int32) (I : xTI) , xlp (F_X11_least_b31 N x1 x2 ) n (x3, x4, I) = some (r, rI) → ∀ (H : Heap) (locs : List Loc) (ls : Array Slot), xRep G kp I L H → xS G s.heap H locs → lv_has ls 7 [(0, .ref (xz G + 57)), (1, .int x1), (2, .int x2), (3, .int x3), (4, .int x4)] → W p l e (xrm 3 68) s m args below meth c H locs 0 0 (xMQ G kp below args s (some (.int r)) rI L) (F0 m 31 ls []) := by
  intro n
  induction n with
  | zero =>
    intro x3 x4 I hf
    cases hf
  | succ n hk31 =>
    intro x3 x4 I hf H locs ls hR hS hl
    replace hf : F_X11_least_c31 N x1 x2 x3 x4 I (xlp (F_X11_least_b31 N x1 x2 ) n) = some (r, rI) := hf
    unfold F_X11_least_c31 at hf
    refine lv_iload hC.1 hC.2.1 dX11_least_31 (lv_at hl 4 rfl) ?_
    refine lv_aload_n hC.1 hC.2.1 dX11_least_33 rfl (lv_at hl 0 rfl) ?_
    refine x_get (v := .ref (xz G + 58)) hC xf_X11_14 (xce_57 G kp _ _) rfl hR dX11_least_34 ?_
    refine lv_iconst (v := 1) hC.1 hC.2.1 dX11_least_37 (by decide) ?_
    refine x_ial hC (xce_58 G kp _ _) hR dX11_least_38 hf (fun v1 hf => ?_)
    refine x_ic_ge (tgt := 87) hC dX11_least_39 (by decide) hf (fun hf => ?_) (fun hf => ?_)
    · refine lv_iload_n hC.1 hC.2.1 dX11_least_87 rfl (lv_at hl 3 rfl) ?_
      refine lv_bipush (v := 10) hC.1 hC.2.1 dX11_least_88 (by decide) ?_
      refine x_ic_le (tgt := 100) hC dX11_least_90 (by decide) hf (fun hf => ?_) (fun hf => ?_)
      · refine lv_aload_n hC.1 hC.2.1 dX11_least_100 rfl (lv_at hl 0 rfl) ?_
        refine x_get (v := .ref (xz G + 79)) hC xf_X11_79 (xce_57 G kp _ _) rfl hR dX11_least_101 ?_
        refine lv_iconst (v := 0) hC.1 hC.2.1 dX11_least_104 (by decide) ?_
        refine lv_iconst (v := 0) hC.1 hC.2.1 dX11_least_105 (by decide) ?_
        refine x_ias hC (fun f => xce_79 G kp f _) hR hS dX11_least_106 hf (fun I2 hf H locs hR hS => ?_)
        refine lv_aload_n hC.1 hC.2.1 dX11_least_107 rfl (lv_at hl 0 rfl) ?_
        refine x_get (v := .ref (xz G + 80)) hC xf_X11_82 (xce_57 G kp _ _) rfl hR dX11_least_108 ?_
        refine lv_iconst (v := 0) hC.1 hC.2.1 dX11_least_111 (by decide) ?_
        refine lv_iconst (v := 0) hC.1 hC.2.1 dX11_least_112 (by decide) ?_
        refine x_ias hC (fun f => xce_80 G kp f _) hR hS dX11_least_113 hf (fun I3 hf H locs hR hS => ?_)
        refine lv_iconst (v := 1) hC.1 hC.2.1 dX11_least_114 (by decide) ?_
        refine lv_istore (lv' := [(4, .int 1), (0, .ref (xz G + 57)), (1, .int x1), (2, .int x2), (3, .int x3)]) hC.1 hC.2.1 dX11_least_115 hl (Nat.le_of_ble_eq_true rfl) rfl (fun ls hl => ?_)
        exact W_X11_least_l117 hC N _ 1 I3 hf _ _ _ hR hS (lv_sub hl [1, 4, 0] rfl)
      · refine lv_aload_n hC.1 hC.2.1 dX11_least_93 rfl (lv_at hl 0 rfl) ?_
        refine lv_bipush (v := (-5)) hC.1 hC.2.1 dX11_least_94 (by decide) ?_
        refine x_cvi10 (rest := []) hC xy_X11_refuse tw_1338 hf (fun _ _ h => M_X11_refuse G l kp h) ⟨Nat.le_of_ble_eq_true rfl, Nat.le_of_ble_eq_true rfl⟩ (xce_57 G kp _ _) rfl rfl rfl (Nat.le_of_ble_eq_true rfl) hl.1 hR hS dX11_least_96 ⟨Nat.le_refl _, Nat.le_refl _⟩ (fun v4 I5 hf H locs hR hS => ?_)
        cases hf
        exact x_iret hC hR hS dX11_least_99
    · refine lv_aload_n hC.1 hC.2.1 dX11_least_42 rfl (lv_at hl 0 rfl) ?_
      refine x_get (v := .ref (xz G + 78)) hC xf_X11_76 (xce_57 G kp _ _) rfl hR dX11_least_43 ?_
      refine lv_iload_n hC.1 hC.2.1 dX11_least_46 rfl (lv_at hl 3 rfl) ?_
      refine lv_aload_n hC.1 hC.2.1 dX11_least_47 rfl (lv_at hl 0 rfl) ?_
      refine lv_iload hC.1 hC.2.1 dX11_least_48 (lv_at hl 4 rfl) ?_
      refine lv_iload_n hC.1 hC.2.1 dX11_least_50 rfl (lv_at hl 1 rfl) ?_
      refine lv_iload_n hC.1 hC.2.1 dX11_least_51 rfl (lv_at hl 2 rfl) ?_
      refine x_cvi00 (rest := [.int x3, .ref (xz G + 78)]) hC xy_X11_net tw_1399 hf (fun _ h => M_X11_net G l kp N h) ⟨Nat.le_of_ble_eq_true rfl, Nat.le_of_ble_eq_true rfl⟩ (xce_57 G kp _ _) rfl rfl rfl (Nat.le_of_ble_eq_true rfl) hl.1 hR hS dX11_least_52 ⟨Nat.le_refl _, Nat.le_refl _⟩ (fun v6 hf H locs hR hS => ?_)
      refine x_ias hC (fun f => xce_78 G kp f _) hR hS dX11_least_55 hf (fun I7 hf H locs hR hS => ?_)
      refine lv_aload_n hC.1 hC.2.1 dX11_least_56 rfl (lv_at hl 0 rfl) ?_
      refine x_get (v := .ref (xz G + 78)) hC xf_X11_76 (xce_57 G kp _ _) rfl hR dX11_least_57 ?_
      refine lv_iload_n hC.1 hC.2.1 dX11_least_60 rfl (lv_at hl 3 rfl) ?_
      refine x_ial hC (xce_78 G kp _ _) hR dX11_least_61 hf (fun v8 hf => ?_)
      refine x_if_eq (tgt := 68) hC dX11_least_62 (by decide) hf (fun hf => ?_) (fun hf => ?_)
      · exact W_X11_least_j68 hC N k31 hk31 hf _ _ _ hR hS (lv_sub hl [0, 1, 2, 3, 4] rfl)
      · refine x_iinc (d := 1) (lv' := fun y9 => [(3, .int y9), (0, .ref (xz G + 57)), (1, .int x1), (2, .int x2), (4, .int x4)]) (k := 3) hC hl dX11_least_65 rfl (by decide) (Nat.le_of_ble_eq_true rfl) hf (fun _ => rfl) (fun y9 hf ls hl => ?_)
        exact W_X11_least_j68 hC N k31 hk31 hf _ _ _ hR hS (lv_sub hl [1, 2, 3, 0, 4] rfl)
set_option maxRecDepth 20000 in
theorem M_X11_least (G : XG) (l : Launch) (kp : Bool) (N : Nat) {I : xTI} {L : xTL} {x1 : Int32} {x2 : Int32} {r : Int32} {rI : xTI} (hf : F_X11_least N I x1 x2 = some (r, rI)) : xMet G l yX11_least cX11_least 7 (some .int) 3 68 kp [.ref (xz G + 57), .int x1, .int x2] I L (some (.int r)) rI L := by
  refine xMet.ofW (by decide +kernel) (Nat.le_of_ble_eq_true rfl) ?_
  intro p e s m args below meth c hC H locs ls hR hS hl
  replace hC : xC G p s m args meth c cX11_least 7 RX11 (some .int) := hC
  replace hl : lv_has ls 7 [(0, .ref (xz G + 57)), (1, .int x1), (2, .int x2)] := hl
  unfold F_X11_least at hf
  refine lv_aload_n hC.1 hC.2.1 dX11_least_0 rfl (lv_at hl 0 rfl) ?_
  refine lv_iload_n hC.1 hC.2.1 dX11_least_1 rfl (lv_at hl 1 rfl) ?_
  refine x_cvi00 (rest := []) hC xy_X11_isStock tw_1359 hf (fun _ h => M_X11_isStock G l kp h) ⟨Nat.le_of_ble_eq_true rfl, Nat.le_of_ble_eq_true rfl⟩ (xce_57 G kp _ _) rfl rfl rfl (Nat.le_of_ble_eq_true rfl) hl.1 hR hS dX11_least_2 ⟨Nat.le_refl _, Nat.le_refl _⟩ (fun v1 hf H locs hR hS => ?_)
  refine x_if_ne (tgt := 15) hC dX11_least_5 (by decide) hf (fun hf => ?_) (fun hf => ?_)
  · refine lv_iload_n hC.1 hC.2.1 dX11_least_15 rfl (lv_at hl 2 rfl) ?_
    refine x_if_ge (tgt := 26) hC dX11_least_16 (by decide) hf (fun hf => ?_) (fun hf => ?_)
    · refine lv_iconst (v := 0) hC.1 hC.2.1 dX11_least_26 (by decide) ?_
      refine lv_istore_n (lv' := [(3, .int 0), (0, .ref (xz G + 57)), (1, .int x1), (2, .int x2)]) hC.1 hC.2.1 dX11_least_27 rfl hl (Nat.le_of_ble_eq_true rfl) rfl (fun ls hl => ?_)
      refine lv_iconst (v := 0) hC.1 hC.2.1 dX11_least_28 (by decide) ?_
      refine lv_istore (lv' := [(4, .int 0), (3, .int 0), (0, .ref (xz G + 57)), (1, .int x1), (2, .int x2)]) hC.1 hC.2.1 dX11_least_29 hl (Nat.le_of_ble_eq_true rfl) rfl (fun ls hl => ?_)
      exact W_X11_least_l31 hC N _ 0 0 I hf _ _ _ hR hS (lv_sub hl [2, 3, 4, 1, 0] rfl)
    · refine lv_aload_n hC.1 hC.2.1 dX11_least_19 rfl (lv_at hl 0 rfl) ?_
      refine lv_bipush (v := (-7)) hC.1 hC.2.1 dX11_least_20 (by decide) ?_
      refine x_cvi10 (rest := []) hC xy_X11_refuse tw_1338 hf (fun _ _ h => M_X11_refuse G l kp h) ⟨Nat.le_of_ble_eq_true rfl, Nat.le_of_ble_eq_true rfl⟩ (xce_57 G kp _ _) rfl rfl rfl (Nat.le_of_ble_eq_true rfl) hl.1 hR hS dX11_least_22 ⟨Nat.le_refl _, Nat.le_refl _⟩ (fun v2 I3 hf H locs hR hS => ?_)
      cases hf
      exact x_iret hC hR hS dX11_least_25
  · refine lv_aload_n hC.1 hC.2.1 dX11_least_8 rfl (lv_at hl 0 rfl) ?_
    refine lv_bipush (v := (-3)) hC.1 hC.2.1 dX11_least_9 (by decide) ?_
    refine x_cvi10 (rest := []) hC xy_X11_refuse tw_1338 hf (fun _ _ h => M_X11_refuse G l kp h) ⟨Nat.le_of_ble_eq_true rfl, Nat.le_of_ble_eq_true rfl⟩ (xce_57 G kp _ _) rfl rfl rfl (Nat.le_of_ble_eq_true rfl) hl.1 hR hS dX11_least_11 ⟨Nat.le_refl _, Nat.le_refl _⟩ (fun v4 I5 hf H locs hR hS => ?_)
    cases hf
    exact x_iret hC hR hS dX11_least_14
set_option maxRecDepth 20000 in
theorem W_X11_judge_l262 {G : XG} {l : Launch} {kp : Bool} {p : Program} {e : Env} {s : State} {m : MethodId} {args : Array Value} {below : List Frame} {meth : Method} {c : Code} (hC : xC G p s m args meth c cX11_judge 7 RX11 (some .int)) (N : Nat) {I : xTI} {L : xTL} {r : Int32} {rI : xTI} : ∀ (n : Nat) (x3 : Int32) , xlp (F_X11_judge_b262 N I ) n x3 = some (r, rI) → ∀ (H : Heap) (locs : List Loc) (ls : Array Slot), xRep G kp I L H → xS G s.heap H locs → lv_has ls 7 [(0, .ref (xz G + 57)), (3, .int x3)] → W p l e (xrm 3 68) s m args below meth c H locs 0 0 (xMQ G kp below args s (some (.int r)) rI L) (F0 m 262 ls []) := by
  intro n
  induction n with
  | zero =>
    intro x3 hf
    cases hf
  | succ n hk262 =>
    intro x3 hf H locs ls hR hS hl
    replace hf : F_X11_judge_c262 N I x3 (xlp (F_X11_judge_b262 N I ) n) = some (r, rI) := hf
    unfold F_X11_judge_c262 at hf
    refine lv_iload_n hC.1 hC.2.1 dX11_judge_262 rfl (lv_at hl 1 rfl) ?_
    refine lv_bipush (v := 12) hC.1 hC.2.1 dX11_judge_263 (by decide) ?_
    refine x_ic_ge (tgt := 285) hC dX11_judge_265 (by decide) hf (fun hf => ?_) (fun hf => ?_)
    · refine lv_aload_n hC.1 hC.2.1 dX11_judge_285 rfl (lv_at hl 0 rfl) ?_
      refine x_getI hC xf_X11_397 (xce_57 G kp _ _) rfl hR dX11_judge_286 hf (fun v1 hf => ?_)
      refine lv_iconst (v := 3) hC.1 hC.2.1 dX11_judge_289 (by decide) ?_
      refine lv_idiv hC.1 hC.2.1 dX11_judge_290 (by decide) ?_
      cases hf
      exact x_iret hC hR hS dX11_judge_291
    · refine lv_aload_n hC.1 hC.2.1 dX11_judge_268 rfl (lv_at hl 0 rfl) ?_
      refine x_get (v := .ref (xz G + 78)) hC xf_X11_76 (xce_57 G kp _ _) rfl hR dX11_judge_269 ?_
      refine lv_iload_n hC.1 hC.2.1 dX11_judge_272 rfl (lv_at hl 1 rfl) ?_
      refine x_ial hC (xce_78 G kp _ _) hR dX11_judge_273 hf (fun v2 hf => ?_)
      refine x_if_eq (tgt := 279) hC dX11_judge_274 (by decide) hf (fun hf => ?_) (fun hf => ?_)
      · refine x_iinc (d := 1) (lv' := fun y3 => [(3, .int y3), (0, .ref (xz G + 57))]) (k := 1) hC hl dX11_judge_279 rfl (by decide) (Nat.le_of_ble_eq_true rfl) hf (fun _ => rfl) (fun y3 hf ls hl => ?_)
        refine lv_goto (tgt := 262) hC.1 hC.2.1 dX11_judge_282 (by decide) ?_
        exact hk262 y3 hf _ _ _ hR hS (lv_sub hl [1, 0] rfl)
      · refine lv_iconst (v := (-1)) hC.1 hC.2.1 dX11_judge_277 (by decide) ?_
        cases hf
        exact x_iret hC hR hS dX11_judge_278
set_option maxRecDepth 20000 in
theorem W_X11_judge_l123 {G : XG} {l : Launch} {kp : Bool} {p : Program} {e : Env} {s : State} {m : MethodId} {args : Array Value} {below : List Frame} {meth : Method} {c : Code} (hC : xC G p s m args meth c cX11_judge 7 RX11 (some .int)) (N : Nat) {L : xTL} {r : Int32} {rI : xTI} : ∀ (n : Nat) (x3 : Int32) (I : xTI) , xlp (F_X11_judge_b123 N ) n (x3, I) = some (r, rI) → ∀ (H : Heap) (locs : List Loc) (ls : Array Slot), xRep G kp I L H → xS G s.heap H locs → lv_has ls 7 [(0, .ref (xz G + 57)), (3, .int x3)] → W p l e (xrm 3 68) s m args below meth c H locs 0 0 (xMQ G kp below args s (some (.int r)) rI L) (F0 m 123 ls []) := by
  intro n
  induction n with
  | zero =>
    intro x3 I hf
    cases hf
  | succ n hk123 =>
    intro x3 I hf H locs ls hR hS hl
    replace hf : F_X11_judge_c123 N x3 I (xlp (F_X11_judge_b123 N ) n) = some (r, rI) := hf
    unfold F_X11_judge_c123 at hf
    refine lv_iload_n hC.1 hC.2.1 dX11_judge_123 rfl (lv_at hl 1 rfl) ?_
    refine lv_aload_n hC.1 hC.2.1 dX11_judge_124 rfl (lv_at hl 0 rfl) ?_
    refine x_getI hC xf_X11_397 (xce_57 G kp _ _) rfl hR dX11_judge_125 hf (fun v1 hf => ?_)
    refine x_ic_ge (tgt := 260) hC dX11_judge_128 (by decide) hf (fun hf => ?_) (fun hf => ?_)
    · refine lv_iconst (v := 0) hC.1 hC.2.1 dX11_judge_260 (by decide) ?_
      refine lv_istore_n (lv' := [(3, .int 0), (0, .ref (xz G + 57))]) hC.1 hC.2.1 dX11_judge_261 rfl hl (Nat.le_of_ble_eq_true rfl) rfl (fun ls hl => ?_)
      exact W_X11_judge_l262 hC N _ 0 hf _ _ _ hR hS (lv_sub hl [1, 0] rfl)
    · refine lv_aload_n hC.1 hC.2.1 dX11_judge_131 rfl (lv_at hl 0 rfl) ?_
      refine x_get (v := .ref (xz G + 86)) hC xf_X11_101 (xce_57 G kp _ _) rfl hR dX11_judge_132 ?_
      refine lv_iload_n hC.1 hC.2.1 dX11_judge_135 rfl (lv_at hl 1 rfl) ?_
      refine x_ial hC (xce_86 G kp _ _) hR dX11_judge_136 hf (fun v2 hf => ?_)
      refine lv_istore (lv' := [(4, .int v2), (0, .ref (xz G + 57)), (3, .int x3)]) hC.1 hC.2.1 dX11_judge_137 hl (Nat.le_of_ble_eq_true rfl) rfl (fun ls hl => ?_)
      refine lv_aload_n hC.1 hC.2.1 dX11_judge_139 rfl (lv_at hl 1 rfl) ?_
      refine x_get (v := .ref (xz G + 86)) hC xf_X11_101 (xce_57 G kp _ _) rfl hR dX11_judge_140 ?_
      refine lv_iload_n hC.1 hC.2.1 dX11_judge_143 rfl (lv_at hl 2 rfl) ?_
      refine lv_iconst (v := 1) hC.1 hC.2.1 dX11_judge_144 (by decide) ?_
      refine lv_iadd hC.1 hC.2.1 dX11_judge_145 ?_
      refine x_ial hC (xce_86 G kp _ _) hR dX11_judge_146 hf (fun v3 hf => ?_)
      refine lv_istore (lv' := [(5, .int v3), (4, .int v2), (0, .ref (xz G + 57)), (3, .int x3)]) hC.1 hC.2.1 dX11_judge_147 hl (Nat.le_of_ble_eq_true rfl) rfl (fun ls hl => ?_)
      refine lv_aload_n hC.1 hC.2.1 dX11_judge_149 rfl (lv_at hl 2 rfl) ?_
      refine x_get (v := .ref (xz G + 86)) hC xf_X11_101 (xce_57 G kp _ _) rfl hR dX11_judge_150 ?_
      refine lv_iload_n hC.1 hC.2.1 dX11_judge_153 rfl (lv_at hl 3 rfl) ?_
      refine lv_iconst (v := 2) hC.1 hC.2.1 dX11_judge_154 (by decide) ?_
      refine lv_iadd hC.1 hC.2.1 dX11_judge_155 ?_
      refine x_ial hC (xce_86 G kp _ _) hR dX11_judge_156 hf (fun v4 hf => ?_)
      refine lv_istore (lv' := [(6, .int v4), (5, .int v3), (4, .int v2), (0, .ref (xz G + 57)), (3, .int x3)]) hC.1 hC.2.1 dX11_judge_157 hl (Nat.le_of_ble_eq_true rfl) rfl (fun ls hl => ?_)
      refine lv_aload_n hC.1 hC.2.1 dX11_judge_159 rfl (lv_at hl 3 rfl) ?_
      refine lv_iload hC.1 hC.2.1 dX11_judge_160 (lv_at hl 2 rfl) ?_
      refine x_cvi00 (rest := []) hC xy_X11_isMan tw_1355 hf (fun _ h => M_X11_isMan G l kp h) ⟨Nat.le_of_ble_eq_true rfl, Nat.le_of_ble_eq_true rfl⟩ (xce_57 G kp _ _) rfl rfl rfl (Nat.le_of_ble_eq_true rfl) hl.1 hR hS dX11_judge_162 ⟨Nat.le_refl _, Nat.le_refl _⟩ (fun v5 hf H locs hR hS => ?_)
      refine x_if_eq (tgt := 228) hC dX11_judge_165 (by decide) hf (fun hf => ?_) (fun hf => ?_)
      · refine lv_iconst (v := (-1)) hC.1 hC.2.1 dX11_judge_228 (by decide) ?_
        cases hf
        exact x_iret hC hR hS dX11_judge_229
      · refine lv_aload_n hC.1 hC.2.1 dX11_judge_168 rfl (lv_at hl 3 rfl) ?_
        refine lv_iload hC.1 hC.2.1 dX11_judge_169 (lv_at hl 1 rfl) ?_
        refine x_cvi00 (rest := []) hC xy_X11_isMan tw_1355 hf (fun _ h => M_X11_isMan G l kp h) ⟨Nat.le_of_ble_eq_true rfl, Nat.le_of_ble_eq_true rfl⟩ (xce_57 G kp _ _) rfl rfl rfl (Nat.le_of_ble_eq_true rfl) hl.1 hR hS dX11_judge_171 ⟨Nat.le_refl _, Nat.le_refl _⟩ (fun v6 hf H locs hR hS => ?_)
        refine x_if_eq (tgt := 228) hC dX11_judge_174 (by decide) hf (fun hf => ?_) (fun hf => ?_)
        · refine lv_iconst (v := (-1)) hC.1 hC.2.1 dX11_judge_228 (by decide) ?_
          cases hf
          exact x_iret hC hR hS dX11_judge_229
        · refine lv_iload hC.1 hC.2.1 dX11_judge_177 (lv_at hl 0 rfl) ?_
          refine lv_iconst (v := 1) hC.1 hC.2.1 dX11_judge_179 (by decide) ?_
          refine x_ic_lt (tgt := 228) hC dX11_judge_180 (by decide) hf (fun hf => ?_) (fun hf => ?_)
          · refine lv_iconst (v := (-1)) hC.1 hC.2.1 dX11_judge_228 (by decide) ?_
            cases hf
            exact x_iret hC hR hS dX11_judge_229
          · refine lv_aload_n hC.1 hC.2.1 dX11_judge_183 rfl (lv_at hl 3 rfl) ?_
            refine x_get (v := .ref (xz G + 77)) hC xf_X11_73 (xce_57 G kp _ _) rfl hR dX11_judge_184 ?_
            refine lv_iload hC.1 hC.2.1 dX11_judge_187 (lv_at hl 2 rfl) ?_
            refine x_ial hC (xce_77 G kp _ _) hR dX11_judge_189 hf (fun v7 hf => ?_)
            refine x_if_ge (tgt := 228) hC dX11_judge_190 (by decide) hf (fun hf => ?_) (fun hf => ?_)
            · refine lv_iconst (v := (-1)) hC.1 hC.2.1 dX11_judge_228 (by decide) ?_
              cases hf
              exact x_iret hC hR hS dX11_judge_229
            · refine lv_aload_n hC.1 hC.2.1 dX11_judge_193 rfl (lv_at hl 3 rfl) ?_
              refine x_get (v := .ref (xz G + 77)) hC xf_X11_73 (xce_57 G kp _ _) rfl hR dX11_judge_194 ?_
              refine lv_iload hC.1 hC.2.1 dX11_judge_197 (lv_at hl 1 rfl) ?_
              refine x_ial hC (xce_77 G kp _ _) hR dX11_judge_199 hf (fun v8 hf => ?_)
              refine x_if_le (tgt := 228) hC dX11_judge_200 (by decide) hf (fun hf => ?_) (fun hf => ?_)
              · refine lv_iconst (v := (-1)) hC.1 hC.2.1 dX11_judge_228 (by decide) ?_
                cases hf
                exact x_iret hC hR hS dX11_judge_229
              · refine lv_iload hC.1 hC.2.1 dX11_judge_203 (lv_at hl 0 rfl) ?_
                refine lv_aload_n hC.1 hC.2.1 dX11_judge_205 rfl (lv_at hl 3 rfl) ?_
                refine x_get (v := .ref (xz G + 78)) hC xf_X11_76 (xce_57 G kp _ _) rfl hR dX11_judge_206 ?_
                refine lv_iload hC.1 hC.2.1 dX11_judge_209 (lv_at hl 2 rfl) ?_
                refine x_ial hC (xce_78 G kp _ _) hR dX11_judge_211 hf (fun v9 hf => ?_)
                refine lv_ineg hC.1 hC.2.1 dX11_judge_212 ?_
                refine x_ic_gt (tgt := 228) hC dX11_judge_213 (by decide) hf (fun hf => ?_) (fun hf => ?_)
                · refine lv_iconst (v := (-1)) hC.1 hC.2.1 dX11_judge_228 (by decide) ?_
                  cases hf
                  exact x_iret hC hR hS dX11_judge_229
                · refine lv_iload hC.1 hC.2.1 dX11_judge_216 (lv_at hl 0 rfl) ?_
                  refine lv_aload_n hC.1 hC.2.1 dX11_judge_218 rfl (lv_at hl 3 rfl) ?_
                  refine x_get (v := .ref (xz G + 78)) hC xf_X11_76 (xce_57 G kp _ _) rfl hR dX11_judge_219 ?_
                  refine lv_iload hC.1 hC.2.1 dX11_judge_222 (lv_at hl 1 rfl) ?_
                  refine x_ial hC (xce_78 G kp _ _) hR dX11_judge_224 hf (fun v10 hf => ?_)
                  refine x_ic_le (tgt := 230) hC dX11_judge_225 (by decide) hf (fun hf => ?_) (fun hf => ?_)
                  · refine lv_aload_n hC.1 hC.2.1 dX11_judge_230 rfl (lv_at hl 3 rfl) ?_
                    refine x_get (v := .ref (xz G + 78)) hC xf_X11_76 (xce_57 G kp _ _) rfl hR dX11_judge_231 ?_
                    refine lv_iload hC.1 hC.2.1 dX11_judge_234 (lv_at hl 2 rfl) ?_
                    refine lv_dup2_11 hC.1 hC.2.1 dX11_judge_236 rfl rfl ?_
                    refine x_ial hC (xce_78 G kp _ _) hR dX11_judge_237 hf (fun v11 hf => ?_)
                    refine lv_iload hC.1 hC.2.1 dX11_judge_238 (lv_at hl 0 rfl) ?_
                    refine lv_iadd hC.1 hC.2.1 dX11_judge_240 ?_
                    refine x_ias hC (fun f => xce_78 G kp f _) hR hS dX11_judge_241 hf (fun I12 hf H locs hR hS => ?_)
                    refine lv_aload_n hC.1 hC.2.1 dX11_judge_242 rfl (lv_at hl 3 rfl) ?_
                    refine x_get (v := .ref (xz G + 78)) hC xf_X11_76 (xce_57 G kp _ _) rfl hR dX11_judge_243 ?_
                    refine lv_iload hC.1 hC.2.1 dX11_judge_246 (lv_at hl 1 rfl) ?_
                    refine lv_dup2_11 hC.1 hC.2.1 dX11_judge_248 rfl rfl ?_
                    refine x_ial hC (xce_78 G kp _ _) hR dX11_judge_249 hf (fun v13 hf => ?_)
                    refine lv_iload hC.1 hC.2.1 dX11_judge_250 (lv_at hl 0 rfl) ?_
                    refine lv_isub hC.1 hC.2.1 dX11_judge_252 ?_
                    refine x_ias hC (fun f => xce_78 G kp f _) hR hS dX11_judge_253 hf (fun I14 hf H locs hR hS => ?_)
                    refine x_iinc (d := 3) (lv' := fun y15 => [(3, .int y15), (6, .int v4), (5, .int v3), (4, .int v2), (0, .ref (xz G + 57))]) (k := 4) hC hl dX11_judge_254 rfl (by decide) (Nat.le_of_ble_eq_true rfl) hf (fun _ => rfl) (fun y15 hf ls hl => ?_)
                    refine lv_goto (tgt := 123) hC.1 hC.2.1 dX11_judge_257 (by decide) ?_
                    exact hk123 y15 I14 hf _ _ _ hR hS (lv_sub hl [4, 0] rfl)
                  · refine lv_iconst (v := (-1)) hC.1 hC.2.1 dX11_judge_228 (by decide) ?_
                    cases hf
                    exact x_iret hC hR hS dX11_judge_229
set_option maxRecDepth 20000 in
theorem W_X11_judge_l97 {G : XG} {l : Launch} {kp : Bool} {p : Program} {e : Env} {s : State} {m : MethodId} {args : Array Value} {below : List Frame} {meth : Method} {c : Code} (hC : xC G p s m args meth c cX11_judge 7 RX11 (some .int)) (N : Nat) {L : xTL} {r : Int32} {rI : xTI} : ∀ (n : Nat) (x3 : Int32) (I : xTI) , xlp (F_X11_judge_b97 N ) n (x3, I) = some (r, rI) → ∀ (H : Heap) (locs : List Loc) (ls : Array Slot), xRep G kp I L H → xS G s.heap H locs → lv_has ls 7 [(0, .ref (xz G + 57)), (3, .int x3)] → W p l e (xrm 3 68) s m args below meth c H locs 0 0 (xMQ G kp below args s (some (.int r)) rI L) (F0 m 97 ls []) := by
  intro n
  induction n with
  | zero =>
    intro x3 I hf
    cases hf
  | succ n hk97 =>
    intro x3 I hf H locs ls hR hS hl
    replace hf : F_X11_judge_c97 N x3 I (xlp (F_X11_judge_b97 N ) n) = some (r, rI) := hf
    unfold F_X11_judge_c97 at hf
    refine lv_iload_n hC.1 hC.2.1 dX11_judge_97 rfl (lv_at hl 1 rfl) ?_
    refine lv_bipush (v := 12) hC.1 hC.2.1 dX11_judge_98 (by decide) ?_
    refine x_ic_ge (tgt := 121) hC dX11_judge_100 (by decide) hf (fun hf => ?_) (fun hf => ?_)
    · refine lv_iconst (v := 0) hC.1 hC.2.1 dX11_judge_121 (by decide) ?_
      refine lv_istore_n (lv' := [(3, .int 0), (0, .ref (xz G + 57))]) hC.1 hC.2.1 dX11_judge_122 rfl hl (Nat.le_of_ble_eq_true rfl) rfl (fun ls hl => ?_)
      exact W_X11_judge_l123 hC N _ 0 I hf _ _ _ hR hS (lv_sub hl [1, 0] rfl)
    · refine lv_aload_n hC.1 hC.2.1 dX11_judge_103 rfl (lv_at hl 0 rfl) ?_
      refine x_get (v := .ref (xz G + 78)) hC xf_X11_76 (xce_57 G kp _ _) rfl hR dX11_judge_104 ?_
      refine lv_iload_n hC.1 hC.2.1 dX11_judge_107 rfl (lv_at hl 1 rfl) ?_
      refine lv_aload_n hC.1 hC.2.1 dX11_judge_108 rfl (lv_at hl 0 rfl) ?_
      refine x_get (v := .ref (xz G + 77)) hC xf_X11_73 (xce_57 G kp _ _) rfl hR dX11_judge_109 ?_
      refine lv_iload_n hC.1 hC.2.1 dX11_judge_112 rfl (lv_at hl 1 rfl) ?_
      refine x_ial hC (xce_77 G kp _ _) hR dX11_judge_113 hf (fun v1 hf => ?_)
      refine x_ias hC (fun f => xce_78 G kp f _) hR hS dX11_judge_114 hf (fun I2 hf H locs hR hS => ?_)
      refine x_iinc (d := 1) (lv' := fun y3 => [(3, .int y3), (0, .ref (xz G + 57))]) (k := 1) hC hl dX11_judge_115 rfl (by decide) (Nat.le_of_ble_eq_true rfl) hf (fun _ => rfl) (fun y3 hf ls hl => ?_)
      refine lv_goto (tgt := 97) hC.1 hC.2.1 dX11_judge_118 (by decide) ?_
      exact hk97 y3 I2 hf _ _ _ hR hS (lv_sub hl [1, 0] rfl)
set_option maxRecDepth 20000 in
theorem W_X11_judge_j88 {G : XG} {l : Launch} {kp : Bool} {p : Program} {e : Env} {s : State} {m : MethodId} {args : Array Value} {below : List Frame} {meth : Method} {c : Code} (hC : xC G p s m args meth c cX11_judge 7 RX11 (some .int)) (N : Nat) {I : xTI} {L : xTL} {r : Int32} {rI : xTI} {x1 : Int32} {x2 : Int32} {x3 : Int32} {t1 : Int32} {t2 : Int32} (k58 : Int32 × xTI → Option (Int32 × xTI)) (hk58 : ∀ (x3 : Int32) (I : xTI) , k58 (x3, I) = some (r, rI) → ∀ (H : Heap) (locs : List Loc) (ls : Array Slot), xRep G kp I L H → xS G s.heap H locs → lv_has ls 7 [(0, .ref (xz G + 57)), (1, .int x1), (2, .int x2), (3, .int x3)] → W p l e (xrm 3 68) s m args below meth c H locs 0 0 (xMQ G kp below args s (some (.int r)) rI L) (F0 m 58 ls [])) (hf : F_X11_judge_j88 k58 N I x1 x2 x3 t1 t2 = some (r, rI)) : ∀ (H : Heap) (locs : List Loc) (ls : Array Slot), xRep G kp I L H → xS G s.heap H locs → lv_has ls 7 [(0, .ref (xz G + 57)), (1, .int x1), (2, .int x2), (3, .int x3)] → W p l e (xrm 3 68) s m args below meth c H locs 0 0 (xMQ G kp below args s (some (.int r)) rI L) (F0 m 88 ls [.int t2, .int t1, .ref (xz G + 77)]) := by
  intro H locs ls hR hS hl
  unfold F_X11_judge_j88 at hf
  refine x_ias hC (fun f => xce_77 G kp f _) hR hS dX11_judge_88 hf (fun I1 hf H locs hR hS => ?_)
  refine x_iinc (d := 1) (lv' := fun y2 => [(3, .int y2), (0, .ref (xz G + 57)), (1, .int x1), (2, .int x2)]) (k := 3) hC hl dX11_judge_89 rfl (by decide) (Nat.le_of_ble_eq_true rfl) hf (fun _ => rfl) (fun y2 hf ls hl => ?_)
  refine lv_goto (tgt := 58) hC.1 hC.2.1 dX11_judge_92 (by decide) ?_
  exact hk58 y2 I1 hf _ _ _ hR hS (lv_sub hl [1, 2, 3, 0] rfl)
set_option maxRecDepth 20000 in
theorem W_X11_judge_l58 {G : XG} {l : Launch} {kp : Bool} {p : Program} {e : Env} {s : State} {m : MethodId} {args : Array Value} {below : List Frame} {meth : Method} {c : Code} (hC : xC G p s m args meth c cX11_judge 7 RX11 (some .int)) (N : Nat) {L : xTL} {r : Int32} {rI : xTI} {x1 : Int32} {x2 : Int32} : ∀ (n : Nat) (x3 : Int32) (I : xTI) , xlp (F_X11_judge_b58 N x1 x2 ) n (x3, I) = some (r, rI) → ∀ (H : Heap) (locs : List Loc) (ls : Array Slot), xRep G kp I L H → xS G s.heap H locs → lv_has ls 7 [(0, .ref (xz G + 57)), (1, .int x1), (2, .int x2), (3, .int x3)] → W p l e (xrm 3 68) s m args below meth c H locs 0 0 (xMQ G kp below args s (some (.int r)) rI L) (F0 m 58 ls []) := by
  intro n
  induction n with
  | zero =>
    intro x3 I hf
    cases hf
  | succ n hk58 =>
    intro x3 I hf H locs ls hR hS hl
    replace hf : F_X11_judge_c58 N x1 x2 x3 I (xlp (F_X11_judge_b58 N x1 x2 ) n) = some (r, rI) := hf
    unfold F_X11_judge_c58 at hf
    refine lv_iload_n hC.1 hC.2.1 dX11_judge_58 rfl (lv_at hl 3 rfl) ?_
    refine lv_bipush (v := 12) hC.1 hC.2.1 dX11_judge_59 (by decide) ?_
    refine x_ic_ge (tgt := 95) hC dX11_judge_61 (by decide) hf (fun hf => ?_) (fun hf => ?_)
    · refine lv_iconst (v := 0) hC.1 hC.2.1 dX11_judge_95 (by decide) ?_
      refine lv_istore_n (lv' := [(3, .int 0), (0, .ref (xz G + 57)), (1, .int x1), (2, .int x2)]) hC.1 hC.2.1 dX11_judge_96 rfl hl (Nat.le_of_ble_eq_true rfl) rfl (fun ls hl => ?_)
      exact W_X11_judge_l97 hC N _ 0 I hf _ _ _ hR hS (lv_sub hl [1, 0] rfl)
    · refine lv_aload_n hC.1 hC.2.1 dX11_judge_64 rfl (lv_at hl 0 rfl) ?_
      refine x_get (v := .ref (xz G + 77)) hC xf_X11_73 (xce_57 G kp _ _) rfl hR dX11_judge_65 ?_
      refine lv_iload_n hC.1 hC.2.1 dX11_judge_68 rfl (lv_at hl 3 rfl) ?_
      refine lv_aload_n hC.1 hC.2.1 dX11_judge_69 rfl (lv_at hl 0 rfl) ?_
      refine lv_iload_n hC.1 hC.2.1 dX11_judge_70 rfl (lv_at hl 3 rfl) ?_
      refine x_cvi00 (rest := [.int x3, .ref (xz G + 77)]) hC xy_X11_isMan tw_1355 hf (fun _ h => M_X11_isMan G l kp h) ⟨Nat.le_of_ble_eq_true rfl, Nat.le_of_ble_eq_true rfl⟩ (xce_57 G kp _ _) rfl rfl rfl (Nat.le_of_ble_eq_true rfl) hl.1 hR hS dX11_judge_71 ⟨Nat.le_refl _, Nat.le_refl _⟩ (fun v1 hf H locs hR hS => ?_)
      refine x_if_eq (tgt := 87) hC dX11_judge_74 (by decide) hf (fun hf => ?_) (fun hf => ?_)
      · refine lv_iconst (v := 0) hC.1 hC.2.1 dX11_judge_87 (by decide) ?_
        exact W_X11_judge_j88 hC N k58 hk58 hf _ _ _ hR hS (lv_sub hl [0, 1, 2, 3] rfl)
      · refine lv_aload_n hC.1 hC.2.1 dX11_judge_77 rfl (lv_at hl 0 rfl) ?_
        refine lv_iload_n hC.1 hC.2.1 dX11_judge_78 rfl (lv_at hl 3 rfl) ?_
        refine lv_iload_n hC.1 hC.2.1 dX11_judge_79 rfl (lv_at hl 1 rfl) ?_
        refine lv_iload_n hC.1 hC.2.1 dX11_judge_80 rfl (lv_at hl 2 rfl) ?_
        refine x_cvi00 (rest := [.int x3, .ref (xz G + 77)]) hC xy_X11_net tw_1399 hf (fun _ h => M_X11_net G l kp N h) ⟨Nat.le_of_ble_eq_true rfl, Nat.le_of_ble_eq_true rfl⟩ (xce_57 G kp _ _) rfl rfl rfl (Nat.le_of_ble_eq_true rfl) hl.1 hR hS dX11_judge_81 ⟨Nat.le_refl _, Nat.le_refl _⟩ (fun v2 hf H locs hR hS => ?_)
        refine lv_goto (tgt := 88) hC.1 hC.2.1 dX11_judge_84 (by decide) ?_
        exact W_X11_judge_j88 hC N k58 hk58 hf _ _ _ hR hS (lv_sub hl [0, 1, 2, 3] rfl)
set_option maxRecDepth 20000 in
theorem M_X11_judge (G : XG) (l : Launch) (kp : Bool) (N : Nat) {I : xTI} {L : xTL} {x1 : Int32} {x2 : Int32} {r : Int32} {rI : xTI} (hf : F_X11_judge N I x1 x2 = some (r, rI)) : xMet G l yX11_judge cX11_judge 7 (some .int) 3 68 kp [.ref (xz G + 57), .int x1, .int x2] I L (some (.int r)) rI L := by
  refine xMet.ofW (by decide +kernel) (Nat.le_of_ble_eq_true rfl) ?_
  intro p e s m args below meth c hC H locs ls hR hS hl
  replace hC : xC G p s m args meth c cX11_judge 7 RX11 (some .int) := hC
  replace hl : lv_has ls 7 [(0, .ref (xz G + 57)), (1, .int x1), (2, .int x2)] := hl
  unfold F_X11_judge at hf
  refine lv_aload_n hC.1 hC.2.1 dX11_judge_0 rfl (lv_at hl 0 rfl) ?_
  refine lv_iload_n hC.1 hC.2.1 dX11_judge_1 rfl (lv_at hl 1 rfl) ?_
  refine x_cvi00 (rest := []) hC xy_X11_isStock tw_1359 hf (fun _ h => M_X11_isStock G l kp h) ⟨Nat.le_of_ble_eq_true rfl, Nat.le_of_ble_eq_true rfl⟩ (xce_57 G kp _ _) rfl rfl rfl (Nat.le_of_ble_eq_true rfl) hl.1 hR hS dX11_judge_2 ⟨Nat.le_refl _, Nat.le_refl _⟩ (fun v1 hf H locs hR hS => ?_)
  refine x_if_ne (tgt := 15) hC dX11_judge_5 (by decide) hf (fun hf => ?_) (fun hf => ?_)
  · refine lv_iload_n hC.1 hC.2.1 dX11_judge_15 rfl (lv_at hl 2 rfl) ?_
    refine x_if_ge (tgt := 26) hC dX11_judge_16 (by decide) hf (fun hf => ?_) (fun hf => ?_)
    · refine lv_aload_n hC.1 hC.2.1 dX11_judge_26 rfl (lv_at hl 0 rfl) ?_
      refine x_getI hC xf_X11_394 (xce_57 G kp _ _) rfl hR dX11_judge_27 hf (fun v2 hf => ?_)
      refine x_if_ne (tgt := 40) hC dX11_judge_30 (by decide) hf (fun hf => ?_) (fun hf => ?_)
      · refine lv_aload_n hC.1 hC.2.1 dX11_judge_40 rfl (lv_at hl 0 rfl) ?_
        refine x_getI hC xf_X11_397 (xce_57 G kp _ _) rfl hR dX11_judge_41 hf (fun v3 hf => ?_)
        refine lv_iconst (v := 3) hC.1 hC.2.1 dX11_judge_44 (by decide) ?_
        refine lv_irem hC.1 hC.2.1 dX11_judge_45 (by decide) ?_
        refine x_if_eq (tgt := 56) hC dX11_judge_46 (by decide) hf (fun hf => ?_) (fun hf => ?_)
        · refine lv_iconst (v := 0) hC.1 hC.2.1 dX11_judge_56 (by decide) ?_
          refine lv_istore_n (lv' := [(3, .int 0), (0, .ref (xz G + 57)), (1, .int x1), (2, .int x2)]) hC.1 hC.2.1 dX11_judge_57 rfl hl (Nat.le_of_ble_eq_true rfl) rfl (fun ls hl => ?_)
          exact W_X11_judge_l58 hC N _ 0 I hf _ _ _ hR hS (lv_sub hl [1, 2, 3, 0] rfl)
        · refine lv_aload_n hC.1 hC.2.1 dX11_judge_49 rfl (lv_at hl 0 rfl) ?_
          refine lv_bipush (v := (-5)) hC.1 hC.2.1 dX11_judge_50 (by decide) ?_
          refine x_cvi10 (rest := []) hC xy_X11_refuse tw_1338 hf (fun _ _ h => M_X11_refuse G l kp h) ⟨Nat.le_of_ble_eq_true rfl, Nat.le_of_ble_eq_true rfl⟩ (xce_57 G kp _ _) rfl rfl rfl (Nat.le_of_ble_eq_true rfl) hl.1 hR hS dX11_judge_52 ⟨Nat.le_refl _, Nat.le_refl _⟩ (fun v4 I5 hf H locs hR hS => ?_)
          cases hf
          exact x_iret hC hR hS dX11_judge_55
      · refine lv_aload_n hC.1 hC.2.1 dX11_judge_33 rfl (lv_at hl 0 rfl) ?_
        refine lv_bipush (v := (-2)) hC.1 hC.2.1 dX11_judge_34 (by decide) ?_
        refine x_cvi10 (rest := []) hC xy_X11_refuse tw_1338 hf (fun _ _ h => M_X11_refuse G l kp h) ⟨Nat.le_of_ble_eq_true rfl, Nat.le_of_ble_eq_true rfl⟩ (xce_57 G kp _ _) rfl rfl rfl (Nat.le_of_ble_eq_true rfl) hl.1 hR hS dX11_judge_36 ⟨Nat.le_refl _, Nat.le_refl _⟩ (fun v6 I7 hf H locs hR hS => ?_)
        cases hf
        exact x_iret hC hR hS dX11_judge_39
    · refine lv_aload_n hC.1 hC.2.1 dX11_judge_19 rfl (lv_at hl 0 rfl) ?_
      refine lv_bipush (v := (-7)) hC.1 hC.2.1 dX11_judge_20 (by decide) ?_
      refine x_cvi10 (rest := []) hC xy_X11_refuse tw_1338 hf (fun _ _ h => M_X11_refuse G l kp h) ⟨Nat.le_of_ble_eq_true rfl, Nat.le_of_ble_eq_true rfl⟩ (xce_57 G kp _ _) rfl rfl rfl (Nat.le_of_ble_eq_true rfl) hl.1 hR hS dX11_judge_22 ⟨Nat.le_refl _, Nat.le_refl _⟩ (fun v8 I9 hf H locs hR hS => ?_)
      cases hf
      exact x_iret hC hR hS dX11_judge_25
  · refine lv_aload_n hC.1 hC.2.1 dX11_judge_8 rfl (lv_at hl 0 rfl) ?_
    refine lv_bipush (v := (-3)) hC.1 hC.2.1 dX11_judge_9 (by decide) ?_
    refine x_cvi10 (rest := []) hC xy_X11_refuse tw_1338 hf (fun _ _ h => M_X11_refuse G l kp h) ⟨Nat.le_of_ble_eq_true rfl, Nat.le_of_ble_eq_true rfl⟩ (xce_57 G kp _ _) rfl rfl rfl (Nat.le_of_ble_eq_true rfl) hl.1 hR hS dX11_judge_11 ⟨Nat.le_refl _, Nat.le_refl _⟩ (fun v10 I11 hf H locs hR hS => ?_)
    cases hf
    exact x_iret hC hR hS dX11_judge_14
set_option maxRecDepth 20000 in
theorem M_X11_there (G : XG) (l : Launch) (kp : Bool) (N : Nat) {I : xTI} {L : xTL} {x1 : Int32} {x2 : Int32} {r : Int32} (hf : F_X11_there N I x1 x2 = some r) : xMet G l yX11_there cX11_there 3 (some .int) 3 68 kp [.ref (xz G + 57), .int x1, .int x2] I L (some (.int r)) I L := by
  refine xMet.ofW (by decide +kernel) (Nat.le_of_ble_eq_true rfl) ?_
  intro p e s m args below meth c hC H locs ls hR hS hl
  replace hC : xC G p s m args meth c cX11_there 3 RX11 (some .int) := hC
  replace hl : lv_has ls 3 [(0, .ref (xz G + 57)), (1, .int x1), (2, .int x2)] := hl
  unfold F_X11_there at hf
  refine lv_aload_n hC.1 hC.2.1 dX11_there_0 rfl (lv_at hl 0 rfl) ?_
  refine x_get (v := .ref (xz G + 58)) hC xf_X11_14 (xce_57 G kp _ _) rfl hR dX11_there_1 ?_
  refine lv_bipush (v := 64) hC.1 hC.2.1 dX11_there_4 (by decide) ?_
  refine lv_iconst (v := 5) hC.1 hC.2.1 dX11_there_6 (by decide) ?_
  refine lv_iload_n hC.1 hC.2.1 dX11_there_7 rfl (lv_at hl 1 rfl) ?_
  refine lv_imul hC.1 hC.2.1 dX11_there_8 ?_
  refine lv_iadd hC.1 hC.2.1 dX11_there_9 ?_
  refine lv_iload_n hC.1 hC.2.1 dX11_there_10 rfl (lv_at hl 2 rfl) ?_
  refine lv_iadd hC.1 hC.2.1 dX11_there_11 ?_
  refine x_ial hC (xce_58 G kp _ _) hR dX11_there_12 hf (fun v1 hf => ?_)
  refine lv_aload_n hC.1 hC.2.1 dX11_there_13 rfl (lv_at hl 0 rfl) ?_
  refine lv_iload_n hC.1 hC.2.1 dX11_there_14 rfl (lv_at hl 1 rfl) ?_
  refine lv_iload_n hC.1 hC.2.1 dX11_there_15 rfl (lv_at hl 2 rfl) ?_
  refine lv_aload_n hC.1 hC.2.1 dX11_there_16 rfl (lv_at hl 0 rfl) ?_
  refine x_get (v := .ref (xz G + 58)) hC xf_X11_14 (xce_57 G kp _ _) rfl hR dX11_there_17 ?_
  refine lv_iconst (v := 0) hC.1 hC.2.1 dX11_there_20 (by decide) ?_
  refine x_ial hC (xce_58 G kp _ _) hR dX11_there_21 hf (fun v2 hf => ?_)
  refine lv_bipush (v := 14) hC.1 hC.2.1 dX11_there_22 (by decide) ?_
  refine lv_idiv hC.1 hC.2.1 dX11_there_24 (by decide) ?_
  refine x_cvi00 (rest := [.int v1]) hC xy_X11_net tw_1399 hf (fun _ h => M_X11_net G l kp N h) ⟨Nat.le_of_ble_eq_true rfl, Nat.le_of_ble_eq_true rfl⟩ (xce_57 G kp _ _) rfl rfl rfl (Nat.le_of_ble_eq_true rfl) hl.1 hR hS dX11_there_25 ⟨Nat.le_refl _, Nat.le_refl _⟩ (fun v3 hf H locs hR hS => ?_)
  refine lv_iadd hC.1 hC.2.1 dX11_there_28 ?_
  cases hf
  exact x_iret hC hR hS dX11_there_29
set_option maxRecDepth 20000 in
theorem W_X11_sumOf_j76 {G : XG} {l : Launch} {kp : Bool} {p : Program} {e : Env} {s : State} {m : MethodId} {args : Array Value} {below : List Frame} {meth : Method} {c : Code} (hC : xC G p s m args meth c cX11_sumOf 7 RX11 (some .int)) (N : Nat) {I : xTI} {L : xTL} {r : Int32} {x1 : Int32} {x2 : Int32} {x3 : Int32} {x5 : Int32} {t0 : Int32} {t1 : Int32} (k6 : Int32 × Int32 → Option (Int32)) (hk6 : ∀ (x4 : Int32) (x5 : Int32) , k6 (x4, x5) = some r → ∀ (H : Heap) (locs : List Loc) (ls : Array Slot), xRep G kp I L H → xS G s.heap H locs → lv_has ls 7 [(0, .ref (xz G + 57)), (1, .int x1), (2, .int x2), (3, .int x3), (4, .int x4), (5, .int x5)] → W p l e (xrm 4 90) s m args below meth c H locs 0 0 (xMQ G kp below args s (some (.int r)) I L) (F0 m 6 ls [])) (hf : F_X11_sumOf_j76 k6 N I x1 x2 x3 x5 t0 t1 = some r) : ∀ (H : Heap) (locs : List Loc) (ls : Array Slot), xRep G kp I L H → xS G s.heap H locs → lv_has ls 7 [(0, .ref (xz G + 57)), (1, .int x1), (2, .int x2), (3, .int x3), (5, .int x5)] → W p l e (xrm 4 90) s m args below meth c H locs 0 0 (xMQ G kp below args s (some (.int r)) I L) (F0 m 76 ls [.int t1, .int t0]) := by
  intro H locs ls hR hS hl
  unfold F_X11_sumOf_j76 at hf
  refine lv_iadd hC.1 hC.2.1 dX11_sumOf_76 ?_
  refine x_ist (lv' := fun y1 => [(4, .int y1), (0, .ref (xz G + 57)), (1, .int x1), (2, .int x2), (3, .int x3), (5, .int x5)]) hC hl dX11_sumOf_77 (Nat.le_of_ble_eq_true rfl) hf (fun _ => rfl) (fun y1 hf ls hl => ?_)
  refine x_iinc (d := 1) (lv' := fun y2 => [(5, .int y2), (4, .int y1), (0, .ref (xz G + 57)), (1, .int x1), (2, .int x2), (3, .int x3)]) (k := 5) hC hl dX11_sumOf_79 rfl (by decide) (Nat.le_of_ble_eq_true rfl) hf (fun _ => rfl) (fun y2 hf ls hl => ?_)
  refine lv_goto (tgt := 6) hC.1 hC.2.1 dX11_sumOf_82 (by decide) ?_
  exact hk6 y1 y2 hf _ _ _ hR hS (lv_sub hl [2, 3, 4, 5, 1, 0] rfl)
set_option maxRecDepth 20000 in
theorem W_X11_sumOf_l6 {G : XG} {l : Launch} {kp : Bool} {p : Program} {e : Env} {s : State} {m : MethodId} {args : Array Value} {below : List Frame} {meth : Method} {c : Code} (hC : xC G p s m args meth c cX11_sumOf 7 RX11 (some .int)) (N : Nat) {I : xTI} {L : xTL} {r : Int32} {x1 : Int32} {x2 : Int32} {x3 : Int32} : ∀ (n : Nat) (x4 : Int32) (x5 : Int32) , xlp (F_X11_sumOf_b6 N I x1 x2 x3 ) n (x4, x5) = some r → ∀ (H : Heap) (locs : List Loc) (ls : Array Slot), xRep G kp I L H → xS G s.heap H locs → lv_has ls 7 [(0, .ref (xz G + 57)), (1, .int x1), (2, .int x2), (3, .int x3), (4, .int x4), (5, .int x5)] → W p l e (xrm 4 90) s m args below meth c H locs 0 0 (xMQ G kp below args s (some (.int r)) I L) (F0 m 6 ls []) := by
  intro n
  induction n with
  | zero =>
    intro x4 x5 hf
    cases hf
  | succ n hk6 =>
    intro x4 x5 hf H locs ls hR hS hl
    replace hf : F_X11_sumOf_c6 N I x1 x2 x3 x4 x5 (xlp (F_X11_sumOf_b6 N I x1 x2 x3 ) n) = some r := hf
    unfold F_X11_sumOf_c6 at hf
    refine lv_iload hC.1 hC.2.1 dX11_sumOf_6 (lv_at hl 5 rfl) ?_
    refine lv_aload_n hC.1 hC.2.1 dX11_sumOf_8 rfl (lv_at hl 0 rfl) ?_
    refine x_get (v := .ref (xz G + 58)) hC xf_X11_14 (xce_57 G kp _ _) rfl hR dX11_sumOf_9 ?_
    refine lv_iconst (v := 1) hC.1 hC.2.1 dX11_sumOf_12 (by decide) ?_
    refine x_ial hC (xce_58 G kp _ _) hR dX11_sumOf_13 hf (fun v1 hf => ?_)
    refine x_ic_ge (tgt := 85) hC dX11_sumOf_14 (by decide) hf (fun hf => ?_) (fun hf => ?_)
    · refine lv_iload hC.1 hC.2.1 dX11_sumOf_85 (lv_at hl 4 rfl) ?_
      cases hf
      exact x_iret hC hR hS dX11_sumOf_87
    · refine lv_iload hC.1 hC.2.1 dX11_sumOf_17 (lv_at hl 5 rfl) ?_
      refine lv_iload_n hC.1 hC.2.1 dX11_sumOf_19 rfl (lv_at hl 2 rfl) ?_
      refine x_ic_eq (tgt := 79) hC dX11_sumOf_20 (by decide) hf (fun hf => ?_) (fun hf => ?_)
      · refine x_iinc (d := 1) (lv' := fun y2 => [(5, .int y2), (0, .ref (xz G + 57)), (1, .int x1), (2, .int x2), (3, .int x3), (4, .int x4)]) (k := 5) hC hl dX11_sumOf_79 rfl (by decide) (Nat.le_of_ble_eq_true rfl) hf (fun _ => rfl) (fun y2 hf ls hl => ?_)
        refine lv_goto (tgt := 6) hC.1 hC.2.1 dX11_sumOf_82 (by decide) ?_
        exact hk6 x4 y2 hf _ _ _ hR hS (lv_sub hl [1, 2, 3, 4, 5, 0] rfl)
      · refine lv_aload_n hC.1 hC.2.1 dX11_sumOf_23 rfl (lv_at hl 0 rfl) ?_
        refine lv_iload hC.1 hC.2.1 dX11_sumOf_24 (lv_at hl 5 rfl) ?_
        refine x_cvi00 (rest := []) hC xy_X11_isUp tw_1363 hf (fun _ h => M_X11_isUp G l kp h) ⟨Nat.le_of_ble_eq_true rfl, Nat.le_of_ble_eq_true rfl⟩ (xce_57 G kp _ _) rfl rfl rfl (Nat.le_of_ble_eq_true rfl) hl.1 hR hS dX11_sumOf_26 ⟨Nat.le_refl _, Nat.le_refl _⟩ (fun v3 hf H locs hR hS => ?_)
        refine x_if_ne (tgt := 35) hC dX11_sumOf_29 (by decide) hf (fun hf => ?_) (fun hf => ?_)
        · refine lv_aload_n hC.1 hC.2.1 dX11_sumOf_35 rfl (lv_at hl 0 rfl) ?_
          refine lv_iload hC.1 hC.2.1 dX11_sumOf_36 (lv_at hl 5 rfl) ?_
          refine lv_iload_n hC.1 hC.2.1 dX11_sumOf_38 rfl (lv_at hl 1 rfl) ?_
          refine x_cvi00 (rest := []) hC xy_X11_there tw_1706 hf (fun _ h => M_X11_there G l kp N h) ⟨Nat.le_of_ble_eq_true rfl, Nat.le_of_ble_eq_true rfl⟩ (xce_57 G kp _ _) rfl rfl rfl (Nat.le_of_ble_eq_true rfl) hl.1 hR hS dX11_sumOf_39 ⟨Nat.le_refl _, Nat.le_refl _⟩ (fun v4 hf H locs hR hS => ?_)
          refine lv_istore (lv' := [(6, .int v4), (0, .ref (xz G + 57)), (1, .int x1), (2, .int x2), (3, .int x3), (4, .int x4), (5, .int x5)]) hC.1 hC.2.1 dX11_sumOf_42 hl (Nat.le_of_ble_eq_true rfl) rfl (fun ls hl => ?_)
          refine lv_iload hC.1 hC.2.1 dX11_sumOf_44 (lv_at hl 5 rfl) ?_
          refine lv_iload_n hC.1 hC.2.1 dX11_sumOf_46 rfl (lv_at hl 4 rfl) ?_
          refine x_if_eq (tgt := 65) hC dX11_sumOf_47 (by decide) hf (fun hf => ?_) (fun hf => ?_)
          · refine lv_iload hC.1 hC.2.1 dX11_sumOf_65 (lv_at hl 0 rfl) ?_
            refine x_if_le (tgt := 75) hC dX11_sumOf_67 (by decide) hf (fun hf => ?_) (fun hf => ?_)
            · refine lv_iconst (v := 0) hC.1 hC.2.1 dX11_sumOf_75 (by decide) ?_
              exact W_X11_sumOf_j76 hC N k6 hk6 hf _ _ _ hR hS (lv_sub hl [1, 2, 3, 4, 6] rfl)
            · refine lv_iload hC.1 hC.2.1 dX11_sumOf_70 (lv_at hl 0 rfl) ?_
              refine lv_goto (tgt := 76) hC.1 hC.2.1 dX11_sumOf_72 (by decide) ?_
              exact W_X11_sumOf_j76 hC N k6 hk6 hf _ _ _ hR hS (lv_sub hl [1, 2, 3, 4, 6] rfl)
          · refine lv_iload hC.1 hC.2.1 dX11_sumOf_50 (lv_at hl 0 rfl) ?_
            refine x_if_ge (tgt := 61) hC dX11_sumOf_52 (by decide) hf (fun hf => ?_) (fun hf => ?_)
            · refine lv_iconst (v := 0) hC.1 hC.2.1 dX11_sumOf_61 (by decide) ?_
              refine lv_goto (tgt := 76) hC.1 hC.2.1 dX11_sumOf_62 (by decide) ?_
              exact W_X11_sumOf_j76 hC N k6 hk6 hf _ _ _ hR hS (lv_sub hl [1, 2, 3, 4, 6] rfl)
            · refine lv_iload hC.1 hC.2.1 dX11_sumOf_55 (lv_at hl 0 rfl) ?_
              refine lv_ineg hC.1 hC.2.1 dX11_sumOf_57 ?_
              refine lv_goto (tgt := 76) hC.1 hC.2.1 dX11_sumOf_58 (by decide) ?_
              exact W_X11_sumOf_j76 hC N k6 hk6 hf _ _ _ hR hS (lv_sub hl [1, 2, 3, 4, 6] rfl)
        · refine lv_goto (tgt := 79) hC.1 hC.2.1 dX11_sumOf_32 (by decide) ?_
          refine x_iinc (d := 1) (lv' := fun y5 => [(5, .int y5), (0, .ref (xz G + 57)), (1, .int x1), (2, .int x2), (3, .int x3), (4, .int x4)]) (k := 5) hC hl dX11_sumOf_79 rfl (by decide) (Nat.le_of_ble_eq_true rfl) hf (fun _ => rfl) (fun y5 hf ls hl => ?_)
          refine lv_goto (tgt := 6) hC.1 hC.2.1 dX11_sumOf_82 (by decide) ?_
          exact hk6 x4 y5 hf _ _ _ hR hS (lv_sub hl [1, 2, 3, 4, 5, 0] rfl)
set_option maxRecDepth 20000 in
theorem M_X11_sumOf (G : XG) (l : Launch) (kp : Bool) (N : Nat) {I : xTI} {L : xTL} {x1 : Int32} {x2 : Int32} {x3 : Int32} {r : Int32} (hf : F_X11_sumOf N I x1 x2 x3 = some r) : xMet G l yX11_sumOf cX11_sumOf 7 (some .int) 4 90 kp [.ref (xz G + 57), .int x1, .int x2, .int x3] I L (some (.int r)) I L := by
  refine xMet.ofW (by decide +kernel) (Nat.le_of_ble_eq_true rfl) ?_
  intro p e s m args below meth c hC H locs ls hR hS hl
  replace hC : xC G p s m args meth c cX11_sumOf 7 RX11 (some .int) := hC
  replace hl : lv_has ls 7 [(0, .ref (xz G + 57)), (1, .int x1), (2, .int x2), (3, .int x3)] := hl
  unfold F_X11_sumOf at hf
  refine lv_iconst (v := 0) hC.1 hC.2.1 dX11_sumOf_0 (by decide) ?_
  refine lv_istore (lv' := [(4, .int 0), (0, .ref (xz G + 57)), (1, .int x1), (2, .int x2), (3, .int x3)]) hC.1 hC.2.1 dX11_sumOf_1 hl (Nat.le_of_ble_eq_true rfl) rfl (fun ls hl => ?_)
  refine lv_iconst (v := 0) hC.1 hC.2.1 dX11_sumOf_3 (by decide) ?_
  refine lv_istore (lv' := [(5, .int 0), (4, .int 0), (0, .ref (xz G + 57)), (1, .int x1), (2, .int x2), (3, .int x3)]) hC.1 hC.2.1 dX11_sumOf_4 hl (Nat.le_of_ble_eq_true rfl) rfl (fun ls hl => ?_)
  exact W_X11_sumOf_l6 hC N _ 0 0 hf _ _ _ hR hS (lv_sub hl [2, 3, 4, 5, 1, 0] rfl)
set_option maxRecDepth 20000 in
theorem W_X11_corner_j16 {G : XG} {l : Launch} {kp : Bool} {p : Program} {e : Env} {s : State} {m : MethodId} {args : Array Value} {below : List Frame} {meth : Method} {c : Code} (hC : xC G p s m args meth c cX11_corner 6 RX11 (some .int)) (N : Nat) {I : xTI} {L : xTL} {r : Int32} {rI : xTI} (hf : F_X11_corner_j16 N I = some (r, rI)) : ∀ (H : Heap) (locs : List Loc) (ls : Array Slot), xRep G kp I L H → xS G s.heap H locs → lv_has ls 6 [(0, .ref (xz G + 57))] → W p l e (xrm 5 116) s m args below meth c H locs 0 0 (xMQ G kp below args s (some (.int r)) rI L) (F0 m 16 ls []) := by
  intro H locs ls hR hS hl
  unfold F_X11_corner_j16 at hf
  refine lv_aload_n hC.1 hC.2.1 dX11_corner_16 rfl (lv_at hl 0 rfl) ?_
  refine lv_bipush (v := (-3)) hC.1 hC.2.1 dX11_corner_17 (by decide) ?_
  refine x_cvi10 (rest := []) hC xy_X11_refuse tw_1338 hf (fun _ _ h => M_X11_refuse G l kp h) ⟨Nat.le_of_ble_eq_true rfl, Nat.le_of_ble_eq_true rfl⟩ (xce_57 G kp _ _) rfl rfl rfl (Nat.le_of_ble_eq_true rfl) hl.1 hR hS dX11_corner_19 ⟨Nat.le_refl _, Nat.le_refl _⟩ (fun v1 I2 hf H locs hR hS => ?_)
  cases hf
  exact x_iret hC hR hS dX11_corner_22
set_option maxRecDepth 20000 in
theorem M_X11_corner (G : XG) (l : Launch) (kp : Bool) (N : Nat) {I : xTI} {L : xTL} {x1 : Int32} {x2 : Int32} {x3 : Int32} {r : Int32} {rI : xTI} (hf : F_X11_corner N I x1 x2 x3 = some (r, rI)) : xMet G l yX11_corner cX11_corner 6 (some .int) 5 116 kp [.ref (xz G + 57), .int x1, .int x2, .int x3] I L (some (.int r)) rI L := by
  refine xMet.ofW (by decide +kernel) (Nat.le_of_ble_eq_true rfl) ?_
  intro p e s m args below meth c hC H locs ls hR hS hl
  replace hC : xC G p s m args meth c cX11_corner 6 RX11 (some .int) := hC
  replace hl : lv_has ls 6 [(0, .ref (xz G + 57)), (1, .int x1), (2, .int x2), (3, .int x3)] := hl
  unfold F_X11_corner at hf
  refine lv_aload_n hC.1 hC.2.1 dX11_corner_0 rfl (lv_at hl 0 rfl) ?_
  refine lv_iload_n hC.1 hC.2.1 dX11_corner_1 rfl (lv_at hl 1 rfl) ?_
  refine x_cvi00 (rest := []) hC xy_X11_isStock tw_1359 hf (fun _ h => M_X11_isStock G l kp h) ⟨Nat.le_of_ble_eq_true rfl, Nat.le_of_ble_eq_true rfl⟩ (xce_57 G kp _ _) rfl rfl rfl (Nat.le_of_ble_eq_true rfl) hl.1 hR hS dX11_corner_2 ⟨Nat.le_refl _, Nat.le_refl _⟩ (fun v1 hf H locs hR hS => ?_)
  refine x_if_eq (tgt := 16) hC dX11_corner_5 (by decide) hf (fun hf => ?_) (fun hf => ?_)
  · exact W_X11_corner_j16 hC N hf _ _ _ hR hS (lv_sub hl [0] rfl)
  · refine lv_aload_n hC.1 hC.2.1 dX11_corner_8 rfl (lv_at hl 0 rfl) ?_
    refine lv_iload_n hC.1 hC.2.1 dX11_corner_9 rfl (lv_at hl 2 rfl) ?_
    refine x_cvi00 (rest := []) hC xy_X11_isMan tw_1355 hf (fun _ h => M_X11_isMan G l kp h) ⟨Nat.le_of_ble_eq_true rfl, Nat.le_of_ble_eq_true rfl⟩ (xce_57 G kp _ _) rfl rfl rfl (Nat.le_of_ble_eq_true rfl) hl.1 hR hS dX11_corner_10 ⟨Nat.le_refl _, Nat.le_refl _⟩ (fun v2 hf H locs hR hS => ?_)
    refine x_if_ne (tgt := 23) hC dX11_corner_13 (by decide) hf (fun hf => ?_) (fun hf => ?_)
    · refine lv_iload_n hC.1 hC.2.1 dX11_corner_23 rfl (lv_at hl 3 rfl) ?_
      refine lv_iconst (v := 0) hC.1 hC.2.1 dX11_corner_24 (by decide) ?_
      refine lv_iconst (v := 2) hC.1 hC.2.1 dX11_corner_25 (by decide) ?_
      refine x_csi00 (rest := []) hC xy_X11_in tw_1335 hf (fun _ h => M_X11_in G l kp h) ⟨Nat.le_of_ble_eq_true rfl, Nat.le_of_ble_eq_true rfl⟩ rfl rfl (Nat.le_of_ble_eq_true rfl) hl.1 hR hS dX11_corner_26 ⟨Nat.le_refl _, Nat.le_refl _⟩ (fun v3 hf H locs hR hS => ?_)
      refine x_if_ne (tgt := 39) hC dX11_corner_29 (by decide) hf (fun hf => ?_) (fun hf => ?_)
      · refine lv_aload_n hC.1 hC.2.1 dX11_corner_39 rfl (lv_at hl 0 rfl) ?_
        refine lv_iload_n hC.1 hC.2.1 dX11_corner_40 rfl (lv_at hl 1 rfl) ?_
        refine lv_iload_n hC.1 hC.2.1 dX11_corner_41 rfl (lv_at hl 2 rfl) ?_
        refine lv_iconst (v := 1) hC.1 hC.2.1 dX11_corner_42 (by decide) ?_
        refine x_cvi00 (rest := []) hC xy_X11_sumOf tw_1702 hf (fun _ h => M_X11_sumOf G l kp N h) ⟨Nat.le_of_ble_eq_true rfl, Nat.le_of_ble_eq_true rfl⟩ (xce_57 G kp _ _) rfl rfl rfl (Nat.le_of_ble_eq_true rfl) hl.1 hR hS dX11_corner_43 ⟨Nat.le_refl _, Nat.le_refl _⟩ (fun v4 hf H locs hR hS => ?_)
        refine lv_istore (lv' := [(4, .int v4), (0, .ref (xz G + 57)), (1, .int x1), (2, .int x2), (3, .int x3)]) hC.1 hC.2.1 dX11_corner_46 hl (Nat.le_of_ble_eq_true rfl) rfl (fun ls hl => ?_)
        refine lv_aload_n hC.1 hC.2.1 dX11_corner_48 rfl (lv_at hl 1 rfl) ?_
        refine lv_iload_n hC.1 hC.2.1 dX11_corner_49 rfl (lv_at hl 2 rfl) ?_
        refine lv_iload_n hC.1 hC.2.1 dX11_corner_50 rfl (lv_at hl 3 rfl) ?_
        refine lv_iconst (v := 0) hC.1 hC.2.1 dX11_corner_51 (by decide) ?_
        refine x_cvi00 (rest := []) hC xy_X11_sumOf tw_1702 hf (fun _ h => M_X11_sumOf G l kp N h) ⟨Nat.le_of_ble_eq_true rfl, Nat.le_of_ble_eq_true rfl⟩ (xce_57 G kp _ _) rfl rfl rfl (Nat.le_of_ble_eq_true rfl) hl.1 hR hS dX11_corner_52 ⟨Nat.le_refl _, Nat.le_refl _⟩ (fun v5 hf H locs hR hS => ?_)
        refine lv_istore (lv' := [(5, .int v5), (4, .int v4), (0, .ref (xz G + 57)), (1, .int x1), (2, .int x2), (3, .int x3)]) hC.1 hC.2.1 dX11_corner_55 hl (Nat.le_of_ble_eq_true rfl) rfl (fun ls hl => ?_)
        refine lv_iload_n hC.1 hC.2.1 dX11_corner_57 rfl (lv_at hl 5 rfl) ?_
        refine lv_iconst (v := 1) hC.1 hC.2.1 dX11_corner_58 (by decide) ?_
        refine x_ic_ne (tgt := 67) hC dX11_corner_59 (by decide) hf (fun hf => ?_) (fun hf => ?_)
        · refine lv_iload_n hC.1 hC.2.1 dX11_corner_67 rfl (lv_at hl 5 rfl) ?_
          refine lv_iconst (v := 2) hC.1 hC.2.1 dX11_corner_68 (by decide) ?_
          refine x_ic_ne (tgt := 77) hC dX11_corner_69 (by decide) hf (fun hf => ?_) (fun hf => ?_)
          · refine lv_iload hC.1 hC.2.1 dX11_corner_77 (lv_at hl 1 rfl) ?_
            refine lv_iload hC.1 hC.2.1 dX11_corner_79 (lv_at hl 0 rfl) ?_
            refine x_ic_le (tgt := 92) hC dX11_corner_81 (by decide) hf (fun hf => ?_) (fun hf => ?_)
            · refine lv_iconst (v := 0) hC.1 hC.2.1 dX11_corner_92 (by decide) ?_
              cases hf
              exact x_iret hC hR hS dX11_corner_93
            · refine lv_iload hC.1 hC.2.1 dX11_corner_84 (lv_at hl 1 rfl) ?_
              refine lv_iload hC.1 hC.2.1 dX11_corner_86 (lv_at hl 0 rfl) ?_
              refine lv_isub hC.1 hC.2.1 dX11_corner_88 ?_
              refine lv_goto (tgt := 93) hC.1 hC.2.1 dX11_corner_89 (by decide) ?_
              cases hf
              exact x_iret hC hR hS dX11_corner_93
          · refine lv_iload hC.1 hC.2.1 dX11_corner_72 (lv_at hl 0 rfl) ?_
            refine lv_goto (tgt := 93) hC.1 hC.2.1 dX11_corner_74 (by decide) ?_
            cases hf
            exact x_iret hC hR hS dX11_corner_93
        · refine lv_iload hC.1 hC.2.1 dX11_corner_62 (lv_at hl 1 rfl) ?_
          refine lv_goto (tgt := 93) hC.1 hC.2.1 dX11_corner_64 (by decide) ?_
          cases hf
          exact x_iret hC hR hS dX11_corner_93
      · refine lv_aload_n hC.1 hC.2.1 dX11_corner_32 rfl (lv_at hl 0 rfl) ?_
        refine lv_bipush (v := (-7)) hC.1 hC.2.1 dX11_corner_33 (by decide) ?_
        refine x_cvi10 (rest := []) hC xy_X11_refuse tw_1338 hf (fun _ _ h => M_X11_refuse G l kp h) ⟨Nat.le_of_ble_eq_true rfl, Nat.le_of_ble_eq_true rfl⟩ (xce_57 G kp _ _) rfl rfl rfl (Nat.le_of_ble_eq_true rfl) hl.1 hR hS dX11_corner_35 ⟨Nat.le_refl _, Nat.le_refl _⟩ (fun v6 I7 hf H locs hR hS => ?_)
        cases hf
        exact x_iret hC hR hS dX11_corner_38
    · exact W_X11_corner_j16 hC N hf _ _ _ hR hS (lv_sub hl [0] rfl)
set_option maxRecDepth 20000 in
theorem W_X11_squeeze_j16 {G : XG} {l : Launch} {kp : Bool} {p : Program} {e : Env} {s : State} {m : MethodId} {args : Array Value} {below : List Frame} {meth : Method} {c : Code} (hC : xC G p s m args meth c cX11_squeeze 8 RX11 (some .long)) (N : Nat) {I : xTI} {L : xTL} {r : Int64} {rI : xTI} (hf : F_X11_squeeze_j16 N I = some (r, rI)) : ∀ (H : Heap) (locs : List Loc) (ls : Array Slot), xRep G kp I L H → xS G s.heap H locs → lv_has ls 8 [(0, .ref (xz G + 57))] → W p l e (xrm 5 116) s m args below meth c H locs 0 0 (xMQ G kp below args s (some (.long r)) rI L) (F0 m 16 ls []) := by
  intro H locs ls hR hS hl
  unfold F_X11_squeeze_j16 at hf
  refine lv_aload_n hC.1 hC.2.1 dX11_squeeze_16 rfl (lv_at hl 0 rfl) ?_
  refine lv_bipush (v := (-3)) hC.1 hC.2.1 dX11_squeeze_17 (by decide) ?_
  refine x_cvi10 (rest := []) hC xy_X11_hush tw_1391 hf (fun _ _ h => M_X11_hush G l kp h) ⟨Nat.le_of_ble_eq_true rfl, Nat.le_of_ble_eq_true rfl⟩ (xce_57 G kp _ _) rfl rfl rfl (Nat.le_of_ble_eq_true rfl) hl.1 hR hS dX11_squeeze_19 ⟨Nat.le_refl _, Nat.le_refl _⟩ (fun v1 I2 hf H locs hR hS => ?_)
  refine lv_i2l hC.1 hC.2.1 dX11_squeeze_22 rfl ?_
  cases hf
  exact x_lret hC hR hS dX11_squeeze_23
set_option maxRecDepth 20000 in
theorem W_X11_squeeze_j201 {G : XG} {l : Launch} {kp : Bool} {p : Program} {e : Env} {s : State} {m : MethodId} {args : Array Value} {below : List Frame} {meth : Method} {c : Code} (hC : xC G p s m args meth c cX11_squeeze 8 RX11 (some .long)) (N : Nat) {I : xTI} {L : xTL} {r : Int64} {rI : xTI} {x1 : Int32} {x3 : Int32} {x4 : Int64} {x6 : Int32} {t0 : Int32} (k91 : Int32 × Int64 × xTI → Option (Int64 × xTI)) (hk91 : ∀ (x3 : Int32) (x4 : Int64) (I : xTI) , k91 (x3, x4, I) = some (r, rI) → ∀ (H : Heap) (locs : List Loc) (ls : Array Slot), xRep G kp I L H → xS G s.heap H locs → lv_has ls 8 [(0, .ref (xz G + 57)), (1, .int x1), (3, .int x3), (4, .long x4)] → W p l e (xrm 5 116) s m args below meth c H locs 0 0 (xMQ G kp below args s (some (.long r)) rI L) (F0 m 91 ls [])) (hf : F_X11_squeeze_j201 k91 N I x1 x3 x4 x6 t0 = some (r, rI)) : ∀ (H : Heap) (locs : List Loc) (ls : Array Slot), xRep G kp I L H → xS G s.heap H locs → lv_has ls 8 [(0, .ref (xz G + 57)), (1, .int x1), (3, .int x3), (4, .long x4), (6, .int x6)] → W p l e (xrm 5 116) s m args below meth c H locs 0 0 (xMQ G kp below args s (some (.long r)) rI L) (F0 m 201 ls [.int t0]) := by
  intro H locs ls hR hS hl
  unfold F_X11_squeeze_j201 at hf
  refine lv_istore (lv' := [(7, .int t0), (0, .ref (xz G + 57)), (1, .int x1), (3, .int x3), (4, .long x4), (6, .int x6)]) hC.1 hC.2.1 dX11_squeeze_201 hl (Nat.le_of_ble_eq_true rfl) rfl (fun ls hl => ?_)
  refine lv_lload hC.1 hC.2.1 dX11_squeeze_203 (lv_at hl 4 rfl) ?_
  refine lv_iload hC.1 hC.2.1 dX11_squeeze_205 (lv_at hl 0 rfl) ?_
  refine lv_i2l hC.1 hC.2.1 dX11_squeeze_207 rfl ?_
  refine lv_aload_n hC.1 hC.2.1 dX11_squeeze_208 rfl (lv_at hl 1 rfl) ?_
  refine x_get (v := .ref (xz G + 58)) hC xf_X11_14 (xce_57 G kp _ _) rfl hR dX11_squeeze_209 ?_
  refine lv_bipush (v := 124) hC.1 hC.2.1 dX11_squeeze_212 (by decide) ?_
  refine lv_iconst (v := 5) hC.1 hC.2.1 dX11_squeeze_214 (by decide) ?_
  refine lv_iload hC.1 hC.2.1 dX11_squeeze_215 (lv_at hl 5 rfl) ?_
  refine lv_imul hC.1 hC.2.1 dX11_squeeze_217 ?_
  refine lv_iadd hC.1 hC.2.1 dX11_squeeze_218 ?_
  refine lv_iload_n hC.1 hC.2.1 dX11_squeeze_219 rfl (lv_at hl 2 rfl) ?_
  refine lv_iadd hC.1 hC.2.1 dX11_squeeze_220 ?_
  refine x_ial hC (xce_58 G kp _ _) hR dX11_squeeze_221 hf (fun v1 hf => ?_)
  refine lv_i2l hC.1 hC.2.1 dX11_squeeze_222 rfl ?_
  refine lv_lmul hC.1 hC.2.1 dX11_squeeze_223 ?_
  refine lv_ladd hC.1 hC.2.1 dX11_squeeze_224 ?_
  refine x_lst (lv' := fun y2 => [(4, .long y2), (7, .int t0), (0, .ref (xz G + 57)), (1, .int x1), (3, .int x3), (6, .int x6)]) hC hl dX11_squeeze_225 (Nat.le_of_ble_eq_true rfl) hf (fun _ => rfl) (fun y2 hf ls hl => ?_)
  refine lv_iload_n hC.1 hC.2.1 dX11_squeeze_227 rfl (lv_at hl 4 rfl) ?_
  refine lv_iload hC.1 hC.2.1 dX11_squeeze_228 (lv_at hl 1 rfl) ?_
  refine lv_isub hC.1 hC.2.1 dX11_squeeze_230 ?_
  refine x_istn (lv' := fun y3 => [(3, .int y3), (4, .long y2), (7, .int t0), (0, .ref (xz G + 57)), (1, .int x1), (6, .int x6)]) hC hl dX11_squeeze_231 rfl (Nat.le_of_ble_eq_true rfl) hf (fun _ => rfl) (fun y3 hf ls hl => ?_)
  refine lv_aload_n hC.1 hC.2.1 dX11_squeeze_232 rfl (lv_at hl 3 rfl) ?_
  refine x_get (v := .ref (xz G + 78)) hC xf_X11_76 (xce_57 G kp _ _) rfl hR dX11_squeeze_233 ?_
  refine lv_iload hC.1 hC.2.1 dX11_squeeze_236 (lv_at hl 5 rfl) ?_
  refine lv_iconst (v := 0) hC.1 hC.2.1 dX11_squeeze_238 (by decide) ?_
  refine x_ias hC (fun f => xce_78 G kp f _) hR hS dX11_squeeze_239 hf (fun I4 hf H locs hR hS => ?_)
  refine lv_goto (tgt := 91) hC.1 hC.2.1 dX11_squeeze_240 (by decide) ?_
  exact hk91 y3 y2 I4 hf _ _ _ hR hS (lv_sub hl [3, 4, 0, 1] rfl)
set_option maxRecDepth 20000 in
theorem W_X11_squeeze_l101 {G : XG} {l : Launch} {kp : Bool} {p : Program} {e : Env} {s : State} {m : MethodId} {args : Array Value} {below : List Frame} {meth : Method} {c : Code} (hC : xC G p s m args meth c cX11_squeeze 8 RX11 (some .long)) (N : Nat) {I : xTI} {L : xTL} {r : Int64} {rI : xTI} {x1 : Int32} {x3 : Int32} {x4 : Int64} (k91 : Int32 × Int64 × xTI → Option (Int64 × xTI)) (hk91 : ∀ (x3 : Int32) (x4 : Int64) (I : xTI) , k91 (x3, x4, I) = some (r, rI) → ∀ (H : Heap) (locs : List Loc) (ls : Array Slot), xRep G kp I L H → xS G s.heap H locs → lv_has ls 8 [(0, .ref (xz G + 57)), (1, .int x1), (3, .int x3), (4, .long x4)] → W p l e (xrm 5 116) s m args below meth c H locs 0 0 (xMQ G kp below args s (some (.long r)) rI L) (F0 m 91 ls [])) : ∀ (n : Nat) (x6 : Int32) (x7 : Int32) , xlp (F_X11_squeeze_b101 k91 N I x1 x3 x4 ) n (x6, x7) = some (r, rI) → ∀ (H : Heap) (locs : List Loc) (ls : Array Slot), xRep G kp I L H → xS G s.heap H locs → lv_has ls 8 [(0, .ref (xz G + 57)), (1, .int x1), (3, .int x3), (4, .long x4), (6, .int x6), (7, .int x7)] → W p l e (xrm 5 116) s m args below meth c H locs 0 0 (xMQ G kp below args s (some (.long r)) rI L) (F0 m 101 ls []) := by
  intro n
  induction n with
  | zero =>
    intro x6 x7 hf
    cases hf
  | succ n hk101 =>
    intro x6 x7 hf H locs ls hR hS hl
    replace hf : F_X11_squeeze_c101 k91 N I x1 x3 x4 x6 x7 (xlp (F_X11_squeeze_b101 k91 N I x1 x3 x4 ) n) = some (r, rI) := hf
    unfold F_X11_squeeze_c101 at hf
    refine lv_iload hC.1 hC.2.1 dX11_squeeze_101 (lv_at hl 5 rfl) ?_
    refine lv_aload_n hC.1 hC.2.1 dX11_squeeze_103 rfl (lv_at hl 0 rfl) ?_
    refine x_get (v := .ref (xz G + 58)) hC xf_X11_14 (xce_57 G kp _ _) rfl hR dX11_squeeze_104 ?_
    refine lv_iconst (v := 1) hC.1 hC.2.1 dX11_squeeze_107 (by decide) ?_
    refine x_ial hC (xce_58 G kp _ _) hR dX11_squeeze_108 hf (fun v1 hf => ?_)
    refine x_ic_ge (tgt := 169) hC dX11_squeeze_109 (by decide) hf (fun hf => ?_) (fun hf => ?_)
    · refine lv_iload hC.1 hC.2.1 dX11_squeeze_169 (lv_at hl 4 rfl) ?_
      refine lv_iconst (v := (-1)) hC.1 hC.2.1 dX11_squeeze_171 (by decide) ?_
      refine x_ic_ne (tgt := 179) hC dX11_squeeze_172 (by decide) hf (fun hf => ?_) (fun hf => ?_)
      · refine lv_aload_n hC.1 hC.2.1 dX11_squeeze_179 rfl (lv_at hl 0 rfl) ?_
        refine x_get (v := .ref (xz G + 78)) hC xf_X11_76 (xce_57 G kp _ _) rfl hR dX11_squeeze_180 ?_
        refine lv_iload hC.1 hC.2.1 dX11_squeeze_183 (lv_at hl 4 rfl) ?_
        refine x_ial hC (xce_78 G kp _ _) hR dX11_squeeze_185 hf (fun v2 hf => ?_)
        refine lv_iload_n hC.1 hC.2.1 dX11_squeeze_186 rfl (lv_at hl 2 rfl) ?_
        refine x_ic_ge (tgt := 200) hC dX11_squeeze_187 (by decide) hf (fun hf => ?_) (fun hf => ?_)
        · refine lv_iload_n hC.1 hC.2.1 dX11_squeeze_200 rfl (lv_at hl 2 rfl) ?_
          exact W_X11_squeeze_j201 hC N k91 hk91 hf _ _ _ hR hS (lv_sub hl [0, 1, 2, 3, 4] rfl)
        · refine lv_aload_n hC.1 hC.2.1 dX11_squeeze_190 rfl (lv_at hl 0 rfl) ?_
          refine x_get (v := .ref (xz G + 78)) hC xf_X11_76 (xce_57 G kp _ _) rfl hR dX11_squeeze_191 ?_
          refine lv_iload hC.1 hC.2.1 dX11_squeeze_194 (lv_at hl 4 rfl) ?_
          refine x_ial hC (xce_78 G kp _ _) hR dX11_squeeze_196 hf (fun v3 hf => ?_)
          refine lv_goto (tgt := 201) hC.1 hC.2.1 dX11_squeeze_197 (by decide) ?_
          exact W_X11_squeeze_j201 hC N k91 hk91 hf _ _ _ hR hS (lv_sub hl [0, 1, 2, 3, 4] rfl)
      · refine x_ldc2 (v := (-1)) hC tw_1481 dX11_squeeze_175 ?_
        cases hf
        exact x_lret hC hR hS dX11_squeeze_178
    · refine lv_aload_n hC.1 hC.2.1 dX11_squeeze_112 rfl (lv_at hl 0 rfl) ?_
      refine x_get (v := .ref (xz G + 78)) hC xf_X11_76 (xce_57 G kp _ _) rfl hR dX11_squeeze_113 ?_
      refine lv_iload hC.1 hC.2.1 dX11_squeeze_116 (lv_at hl 5 rfl) ?_
      refine x_ial hC (xce_78 G kp _ _) hR dX11_squeeze_118 hf (fun v4 hf => ?_)
      refine x_if_le (tgt := 163) hC dX11_squeeze_119 (by decide) hf (fun hf => ?_) (fun hf => ?_)
      · refine x_iinc (d := 1) (lv' := fun y5 => [(7, .int y5), (0, .ref (xz G + 57)), (1, .int x1), (3, .int x3), (4, .long x4), (6, .int x6)]) (k := 5) hC hl dX11_squeeze_163 rfl (by decide) (Nat.le_of_ble_eq_true rfl) hf (fun _ => rfl) (fun y5 hf ls hl => ?_)
        refine lv_goto (tgt := 101) hC.1 hC.2.1 dX11_squeeze_166 (by decide) ?_
        exact hk101 x6 y5 hf _ _ _ hR hS (lv_sub hl [1, 2, 3, 4, 5, 0] rfl)
      · refine lv_iload hC.1 hC.2.1 dX11_squeeze_122 (lv_at hl 4 rfl) ?_
        refine lv_iconst (v := (-1)) hC.1 hC.2.1 dX11_squeeze_124 (by decide) ?_
        refine x_ic_eq (tgt := 159) hC dX11_squeeze_125 (by decide) hf (fun hf => ?_) (fun hf => ?_)
        · refine lv_iload hC.1 hC.2.1 dX11_squeeze_159 (lv_at hl 5 rfl) ?_
          refine lv_istore (lv' := [(6, .int x7), (0, .ref (xz G + 57)), (1, .int x1), (3, .int x3), (4, .long x4), (7, .int x7)]) hC.1 hC.2.1 dX11_squeeze_161 hl (Nat.le_of_ble_eq_true rfl) rfl (fun ls hl => ?_)
          refine x_iinc (d := 1) (lv' := fun y6 => [(7, .int y6), (6, .int x7), (0, .ref (xz G + 57)), (1, .int x1), (3, .int x3), (4, .long x4)]) (k := 5) hC hl dX11_squeeze_163 rfl (by decide) (Nat.le_of_ble_eq_true rfl) hf (fun _ => rfl) (fun y6 hf ls hl => ?_)
          refine lv_goto (tgt := 101) hC.1 hC.2.1 dX11_squeeze_166 (by decide) ?_
          exact hk101 x7 y6 hf _ _ _ hR hS (lv_sub hl [2, 3, 4, 5, 1, 0] rfl)
        · refine lv_aload_n hC.1 hC.2.1 dX11_squeeze_128 rfl (lv_at hl 0 rfl) ?_
          refine x_get (v := .ref (xz G + 58)) hC xf_X11_14 (xce_57 G kp _ _) rfl hR dX11_squeeze_129 ?_
          refine lv_bipush (v := 124) hC.1 hC.2.1 dX11_squeeze_132 (by decide) ?_
          refine lv_iconst (v := 5) hC.1 hC.2.1 dX11_squeeze_134 (by decide) ?_
          refine lv_iload hC.1 hC.2.1 dX11_squeeze_135 (lv_at hl 5 rfl) ?_
          refine lv_imul hC.1 hC.2.1 dX11_squeeze_137 ?_
          refine lv_iadd hC.1 hC.2.1 dX11_squeeze_138 ?_
          refine lv_iload_n hC.1 hC.2.1 dX11_squeeze_139 rfl (lv_at hl 1 rfl) ?_
          refine lv_iadd hC.1 hC.2.1 dX11_squeeze_140 ?_
          refine x_ial hC (xce_58 G kp _ _) hR dX11_squeeze_141 hf (fun v7 hf => ?_)
          refine lv_aload_n hC.1 hC.2.1 dX11_squeeze_142 rfl (lv_at hl 0 rfl) ?_
          refine x_get (v := .ref (xz G + 58)) hC xf_X11_14 (xce_57 G kp _ _) rfl hR dX11_squeeze_143 ?_
          refine lv_bipush (v := 124) hC.1 hC.2.1 dX11_squeeze_146 (by decide) ?_
          refine lv_iconst (v := 5) hC.1 hC.2.1 dX11_squeeze_148 (by decide) ?_
          refine lv_iload hC.1 hC.2.1 dX11_squeeze_149 (lv_at hl 4 rfl) ?_
          refine lv_imul hC.1 hC.2.1 dX11_squeeze_151 ?_
          refine lv_iadd hC.1 hC.2.1 dX11_squeeze_152 ?_
          refine lv_iload_n hC.1 hC.2.1 dX11_squeeze_153 rfl (lv_at hl 1 rfl) ?_
          refine lv_iadd hC.1 hC.2.1 dX11_squeeze_154 ?_
          refine x_ial hC (xce_58 G kp _ _) hR dX11_squeeze_155 hf (fun v8 hf => ?_)
          refine x_ic_ge (tgt := 163) hC dX11_squeeze_156 (by decide) hf (fun hf => ?_) (fun hf => ?_)
          · refine x_iinc (d := 1) (lv' := fun y9 => [(7, .int y9), (0, .ref (xz G + 57)), (1, .int x1), (3, .int x3), (4, .long x4), (6, .int x6)]) (k := 5) hC hl dX11_squeeze_163 rfl (by decide) (Nat.le_of_ble_eq_true rfl) hf (fun _ => rfl) (fun y9 hf ls hl => ?_)
            refine lv_goto (tgt := 101) hC.1 hC.2.1 dX11_squeeze_166 (by decide) ?_
            exact hk101 x6 y9 hf _ _ _ hR hS (lv_sub hl [1, 2, 3, 4, 5, 0] rfl)
          · refine lv_iload hC.1 hC.2.1 dX11_squeeze_159 (lv_at hl 5 rfl) ?_
            refine lv_istore (lv' := [(6, .int x7), (0, .ref (xz G + 57)), (1, .int x1), (3, .int x3), (4, .long x4), (7, .int x7)]) hC.1 hC.2.1 dX11_squeeze_161 hl (Nat.le_of_ble_eq_true rfl) rfl (fun ls hl => ?_)
            refine x_iinc (d := 1) (lv' := fun y10 => [(7, .int y10), (6, .int x7), (0, .ref (xz G + 57)), (1, .int x1), (3, .int x3), (4, .long x4)]) (k := 5) hC hl dX11_squeeze_163 rfl (by decide) (Nat.le_of_ble_eq_true rfl) hf (fun _ => rfl) (fun y10 hf ls hl => ?_)
            refine lv_goto (tgt := 101) hC.1 hC.2.1 dX11_squeeze_166 (by decide) ?_
            exact hk101 x7 y10 hf _ _ _ hR hS (lv_sub hl [2, 3, 4, 5, 1, 0] rfl)
set_option maxRecDepth 20000 in
theorem W_X11_squeeze_l91 {G : XG} {l : Launch} {kp : Bool} {p : Program} {e : Env} {s : State} {m : MethodId} {args : Array Value} {below : List Frame} {meth : Method} {c : Code} (hC : xC G p s m args meth c cX11_squeeze 8 RX11 (some .long)) (N : Nat) {L : xTL} {r : Int64} {rI : xTI} {x1 : Int32} : ∀ (n : Nat) (x3 : Int32) (x4 : Int64) (I : xTI) , xlp (F_X11_squeeze_b91 N x1 ) n (x3, x4, I) = some (r, rI) → ∀ (H : Heap) (locs : List Loc) (ls : Array Slot), xRep G kp I L H → xS G s.heap H locs → lv_has ls 8 [(0, .ref (xz G + 57)), (1, .int x1), (3, .int x3), (4, .long x4)] → W p l e (xrm 5 116) s m args below meth c H locs 0 0 (xMQ G kp below args s (some (.long r)) rI L) (F0 m 91 ls []) := by
  intro n
  induction n with
  | zero =>
    intro x3 x4 I hf
    cases hf
  | succ n hk91 =>
    intro x3 x4 I hf H locs ls hR hS hl
    replace hf : F_X11_squeeze_c91 N x1 x3 x4 I (xlp (F_X11_squeeze_b91 N x1 ) n) = some (r, rI) := hf
    unfold F_X11_squeeze_c91 at hf
    refine lv_iload_n hC.1 hC.2.1 dX11_squeeze_91 rfl (lv_at hl 2 rfl) ?_
    refine x_if_le (tgt := 243) hC dX11_squeeze_92 (by decide) hf (fun hf => ?_) (fun hf => ?_)
    · refine lv_lload hC.1 hC.2.1 dX11_squeeze_243 (lv_at hl 3 rfl) ?_
      cases hf
      exact x_lret hC hR hS dX11_squeeze_245
    · refine lv_iconst (v := (-1)) hC.1 hC.2.1 dX11_squeeze_95 (by decide) ?_
      refine x_ist (lv' := fun y1 => [(6, .int y1), (0, .ref (xz G + 57)), (1, .int x1), (3, .int x3), (4, .long x4)]) hC hl dX11_squeeze_96 (Nat.le_of_ble_eq_true rfl) hf (fun _ => rfl) (fun y1 hf ls hl => ?_)
      refine lv_iconst (v := 0) hC.1 hC.2.1 dX11_squeeze_98 (by decide) ?_
      refine lv_istore (lv' := [(7, .int 0), (6, .int y1), (0, .ref (xz G + 57)), (1, .int x1), (3, .int x3), (4, .long x4)]) hC.1 hC.2.1 dX11_squeeze_99 hl (Nat.le_of_ble_eq_true rfl) rfl (fun ls hl => ?_)
      exact W_X11_squeeze_l101 hC N k91 hk91 _ y1 0 hf _ _ _ hR hS (lv_sub hl [2, 3, 4, 5, 1, 0] rfl)
set_option maxRecDepth 20000 in
theorem W_X11_squeeze_j81 {G : XG} {l : Launch} {kp : Bool} {p : Program} {e : Env} {s : State} {m : MethodId} {args : Array Value} {below : List Frame} {meth : Method} {c : Code} (hC : xC G p s m args meth c cX11_squeeze 8 RX11 (some .long)) (N : Nat) {I : xTI} {L : xTL} {r : Int64} {rI : xTI} {x1 : Int32} {x3 : Int32} {x4 : Int32} {t1 : Int32} {t2 : Int32} (k35 : Int32 × xTI → Option (Int64 × xTI)) (hk35 : ∀ (x4 : Int32) (I : xTI) , k35 (x4, I) = some (r, rI) → ∀ (H : Heap) (locs : List Loc) (ls : Array Slot), xRep G kp I L H → xS G s.heap H locs → lv_has ls 8 [(0, .ref (xz G + 57)), (1, .int x1), (3, .int x3), (4, .int x4)] → W p l e (xrm 5 116) s m args below meth c H locs 0 0 (xMQ G kp below args s (some (.long r)) rI L) (F0 m 35 ls [])) (hf : F_X11_squeeze_j81 k35 N I x1 x3 x4 t1 t2 = some (r, rI)) : ∀ (H : Heap) (locs : List Loc) (ls : Array Slot), xRep G kp I L H → xS G s.heap H locs → lv_has ls 8 [(0, .ref (xz G + 57)), (1, .int x1), (3, .int x3), (4, .int x4)] → W p l e (xrm 5 116) s m args below meth c H locs 0 0 (xMQ G kp below args s (some (.long r)) rI L) (F0 m 81 ls [.int t2, .int t1, .ref (xz G + 78)]) := by
  intro H locs ls hR hS hl
  unfold F_X11_squeeze_j81 at hf
  refine x_ias hC (fun f => xce_78 G kp f _) hR hS dX11_squeeze_81 hf (fun I1 hf H locs hR hS => ?_)
  refine x_iinc (d := 1) (lv' := fun y2 => [(4, .int y2), (0, .ref (xz G + 57)), (1, .int x1), (3, .int x3)]) (k := 3) hC hl dX11_squeeze_82 rfl (by decide) (Nat.le_of_ble_eq_true rfl) hf (fun _ => rfl) (fun y2 hf ls hl => ?_)
  refine lv_goto (tgt := 35) hC.1 hC.2.1 dX11_squeeze_85 (by decide) ?_
  exact hk35 y2 I1 hf _ _ _ hR hS (lv_sub hl [1, 2, 3, 0] rfl)
set_option maxRecDepth 20000 in
theorem W_X11_squeeze_l35 {G : XG} {l : Launch} {kp : Bool} {p : Program} {e : Env} {s : State} {m : MethodId} {args : Array Value} {below : List Frame} {meth : Method} {c : Code} (hC : xC G p s m args meth c cX11_squeeze 8 RX11 (some .long)) (N : Nat) {L : xTL} {r : Int64} {rI : xTI} {x1 : Int32} {x3 : Int32} : ∀ (n : Nat) (x4 : Int32) (I : xTI) , xlp (F_X11_squeeze_b35 N x1 x3 ) n (x4, I) = some (r, rI) → ∀ (H : Heap) (locs : List Loc) (ls : Array Slot), xRep G kp I L H → xS G s.heap H locs → lv_has ls 8 [(0, .ref (xz G + 57)), (1, .int x1), (3, .int x3), (4, .int x4)] → W p l e (xrm 5 116) s m args below meth c H locs 0 0 (xMQ G kp below args s (some (.long r)) rI L) (F0 m 35 ls []) := by
  intro n
  induction n with
  | zero =>
    intro x4 I hf
    cases hf
  | succ n hk35 =>
    intro x4 I hf H locs ls hR hS hl
    replace hf : F_X11_squeeze_c35 N x1 x3 x4 I (xlp (F_X11_squeeze_b35 N x1 x3 ) n) = some (r, rI) := hf
    unfold F_X11_squeeze_c35 at hf
    refine lv_iload hC.1 hC.2.1 dX11_squeeze_35 (lv_at hl 3 rfl) ?_
    refine lv_aload_n hC.1 hC.2.1 dX11_squeeze_37 rfl (lv_at hl 0 rfl) ?_
    refine x_get (v := .ref (xz G + 58)) hC xf_X11_14 (xce_57 G kp _ _) rfl hR dX11_squeeze_38 ?_
    refine lv_iconst (v := 1) hC.1 hC.2.1 dX11_squeeze_41 (by decide) ?_
    refine x_ial hC (xce_58 G kp _ _) hR dX11_squeeze_42 hf (fun v1 hf => ?_)
    refine x_ic_ge (tgt := 88) hC dX11_squeeze_43 (by decide) hf (fun hf => ?_) (fun hf => ?_)
    · refine lv_lconst (v := 0) hC.1 hC.2.1 dX11_squeeze_88 (by decide) ?_
      refine lv_lstore (lv' := [(4, .long 0), (0, .ref (xz G + 57)), (1, .int x1), (3, .int x3)]) hC.1 hC.2.1 dX11_squeeze_89 hl (Nat.le_of_ble_eq_true rfl) rfl (fun ls hl => ?_)
      exact W_X11_squeeze_l91 hC N _ x3 0 I hf _ _ _ hR hS (lv_sub hl [1, 2, 3, 0] rfl)
    · refine lv_aload_n hC.1 hC.2.1 dX11_squeeze_46 rfl (lv_at hl 0 rfl) ?_
      refine lv_iload hC.1 hC.2.1 dX11_squeeze_47 (lv_at hl 3 rfl) ?_
      refine lv_iload_n hC.1 hC.2.1 dX11_squeeze_49 rfl (lv_at hl 1 rfl) ?_
      refine x_cvi00 (rest := []) hC xy_X11_there tw_1706 hf (fun _ h => M_X11_there G l kp N h) ⟨Nat.le_of_ble_eq_true rfl, Nat.le_of_ble_eq_true rfl⟩ (xce_57 G kp _ _) rfl rfl rfl (Nat.le_of_ble_eq_true rfl) hl.1 hR hS dX11_squeeze_50 ⟨Nat.le_refl _, Nat.le_refl _⟩ (fun v2 hf H locs hR hS => ?_)
      refine lv_istore (lv' := [(5, .int v2), (0, .ref (xz G + 57)), (1, .int x1), (3, .int x3), (4, .int x4)]) hC.1 hC.2.1 dX11_squeeze_53 hl (Nat.le_of_ble_eq_true rfl) rfl (fun ls hl => ?_)
      refine lv_aload_n hC.1 hC.2.1 dX11_squeeze_55 rfl (lv_at hl 1 rfl) ?_
      refine x_get (v := .ref (xz G + 78)) hC xf_X11_76 (xce_57 G kp _ _) rfl hR dX11_squeeze_56 ?_
      refine lv_iload hC.1 hC.2.1 dX11_squeeze_59 (lv_at hl 4 rfl) ?_
      refine lv_aload_n hC.1 hC.2.1 dX11_squeeze_61 rfl (lv_at hl 1 rfl) ?_
      refine lv_iload hC.1 hC.2.1 dX11_squeeze_62 (lv_at hl 4 rfl) ?_
      refine x_cvi00 (rest := [.int x4, .ref (xz G + 78)]) hC xy_X11_isUp tw_1363 hf (fun _ h => M_X11_isUp G l kp h) ⟨Nat.le_of_ble_eq_true rfl, Nat.le_of_ble_eq_true rfl⟩ (xce_57 G kp _ _) rfl rfl rfl (Nat.le_of_ble_eq_true rfl) hl.1 hR hS dX11_squeeze_64 ⟨Nat.le_refl _, Nat.le_refl _⟩ (fun v3 hf H locs hR hS => ?_)
      refine x_if_eq (tgt := 80) hC dX11_squeeze_67 (by decide) hf (fun hf => ?_) (fun hf => ?_)
      · refine lv_iconst (v := 0) hC.1 hC.2.1 dX11_squeeze_80 (by decide) ?_
        exact W_X11_squeeze_j81 hC N k35 hk35 hf _ _ _ hR hS (lv_sub hl [1, 2, 3, 4] rfl)
      · refine lv_iload hC.1 hC.2.1 dX11_squeeze_70 (lv_at hl 0 rfl) ?_
        refine x_if_le (tgt := 80) hC dX11_squeeze_72 (by decide) hf (fun hf => ?_) (fun hf => ?_)
        · refine lv_iconst (v := 0) hC.1 hC.2.1 dX11_squeeze_80 (by decide) ?_
          exact W_X11_squeeze_j81 hC N k35 hk35 hf _ _ _ hR hS (lv_sub hl [1, 2, 3, 4] rfl)
        · refine lv_iload hC.1 hC.2.1 dX11_squeeze_75 (lv_at hl 0 rfl) ?_
          refine lv_goto (tgt := 81) hC.1 hC.2.1 dX11_squeeze_77 (by decide) ?_
          exact W_X11_squeeze_j81 hC N k35 hk35 hf _ _ _ hR hS (lv_sub hl [1, 2, 3, 4] rfl)
set_option maxRecDepth 20000 in
theorem M_X11_squeeze (G : XG) (l : Launch) (kp : Bool) (N : Nat) {I : xTI} {L : xTL} {x1 : Int32} {x2 : Int32} {r : Int64} {rI : xTI} (hf : F_X11_squeeze N I x1 x2 = some (r, rI)) : xMet G l yX11_squeeze cX11_squeeze 8 (some .long) 5 116 kp [.ref (xz G + 57), .int x1, .int x2] I L (some (.long r)) rI L := by
  refine xMet.ofW (by decide +kernel) (Nat.le_of_ble_eq_true rfl) ?_
  intro p e s m args below meth c hC H locs ls hR hS hl
  replace hC : xC G p s m args meth c cX11_squeeze 8 RX11 (some .long) := hC
  replace hl : lv_has ls 8 [(0, .ref (xz G + 57)), (1, .int x1), (2, .int x2)] := hl
  unfold F_X11_squeeze at hf
  refine lv_aload_n hC.1 hC.2.1 dX11_squeeze_0 rfl (lv_at hl 0 rfl) ?_
  refine lv_iload_n hC.1 hC.2.1 dX11_squeeze_1 rfl (lv_at hl 1 rfl) ?_
  refine x_cvi00 (rest := []) hC xy_X11_isStock tw_1359 hf (fun _ h => M_X11_isStock G l kp h) ⟨Nat.le_of_ble_eq_true rfl, Nat.le_of_ble_eq_true rfl⟩ (xce_57 G kp _ _) rfl rfl rfl (Nat.le_of_ble_eq_true rfl) hl.1 hR hS dX11_squeeze_2 ⟨Nat.le_refl _, Nat.le_refl _⟩ (fun v1 hf H locs hR hS => ?_)
  refine x_if_eq (tgt := 16) hC dX11_squeeze_5 (by decide) hf (fun hf => ?_) (fun hf => ?_)
  · exact W_X11_squeeze_j16 hC N hf _ _ _ hR hS (lv_sub hl [0] rfl)
  · refine lv_aload_n hC.1 hC.2.1 dX11_squeeze_8 rfl (lv_at hl 0 rfl) ?_
    refine lv_iload_n hC.1 hC.2.1 dX11_squeeze_9 rfl (lv_at hl 2 rfl) ?_
    refine x_cvi00 (rest := []) hC xy_X11_isMan tw_1355 hf (fun _ h => M_X11_isMan G l kp h) ⟨Nat.le_of_ble_eq_true rfl, Nat.le_of_ble_eq_true rfl⟩ (xce_57 G kp _ _) rfl rfl rfl (Nat.le_of_ble_eq_true rfl) hl.1 hR hS dX11_squeeze_10 ⟨Nat.le_refl _, Nat.le_refl _⟩ (fun v2 hf H locs hR hS => ?_)
    refine x_if_ne (tgt := 24) hC dX11_squeeze_13 (by decide) hf (fun hf => ?_) (fun hf => ?_)
    · refine lv_aload_n hC.1 hC.2.1 dX11_squeeze_24 rfl (lv_at hl 0 rfl) ?_
      refine lv_iload_n hC.1 hC.2.1 dX11_squeeze_25 rfl (lv_at hl 1 rfl) ?_
      refine lv_iload_n hC.1 hC.2.1 dX11_squeeze_26 rfl (lv_at hl 2 rfl) ?_
      refine lv_iconst (v := 1) hC.1 hC.2.1 dX11_squeeze_27 (by decide) ?_
      refine x_cvi00 (rest := []) hC xy_X11_sumOf tw_1702 hf (fun _ h => M_X11_sumOf G l kp N h) ⟨Nat.le_of_ble_eq_true rfl, Nat.le_of_ble_eq_true rfl⟩ (xce_57 G kp _ _) rfl rfl rfl (Nat.le_of_ble_eq_true rfl) hl.1 hR hS dX11_squeeze_28 ⟨Nat.le_refl _, Nat.le_refl _⟩ (fun v3 hf H locs hR hS => ?_)
      refine lv_istore_n (lv' := [(3, .int v3), (0, .ref (xz G + 57)), (1, .int x1), (2, .int x2)]) hC.1 hC.2.1 dX11_squeeze_31 rfl hl (Nat.le_of_ble_eq_true rfl) rfl (fun ls hl => ?_)
      refine lv_iconst (v := 0) hC.1 hC.2.1 dX11_squeeze_32 (by decide) ?_
      refine lv_istore (lv' := [(4, .int 0), (3, .int v3), (0, .ref (xz G + 57)), (1, .int x1), (2, .int x2)]) hC.1 hC.2.1 dX11_squeeze_33 hl (Nat.le_of_ble_eq_true rfl) rfl (fun ls hl => ?_)
      exact W_X11_squeeze_l35 hC N _ 0 I hf _ _ _ hR hS (lv_sub hl [2, 3, 1, 0] rfl)
    · exact W_X11_squeeze_j16 hC N hf _ _ _ hR hS (lv_sub hl [0] rfl)
