set_option maxRecDepth 20000 in
theorem W_X9_wordAtHand_j93 {G : XG} {l : Launch} {kp : Bool} {p : Program} {e : Env} {s : State} {m : MethodId} {args : Array Value} {below : List Frame} {meth : Method} {c : Code} (hC : xC G p s m args meth c cX9_wordAtHand 6 RX9 (some .int)) (N : Nat) {I : xTI} {L : xTL} {r : Int32} {x1 : Int32} {x4 : Int32} (k12 : Int32 × Int32 × Int32 × Int32 → Option (Int32)) (hk12 : ∀ (x1 : Int32) (x2 : Int32) (x3 : Int32) (x4 : Int32) , k12 (x1, x2, x3, x4) = some r → ∀ (H : Heap) (locs : List Loc) (ls : Array Slot), xRep G kp I L H → xS G s.heap H locs → lv_has ls 6 [(0, .ref (xz G + 29)), (1, .int x1), (2, .int x2), (3, .int x3), (4, .int x4)] → W p l e (xrm 7 323) s m args below meth c H locs 0 0 (xMQ G kp below args s (some (.int r)) I L) (F0 m 12 ls [])) (hf : F_X9_wordAtHand_j93 k12 N I x1 x4 = some r) : ∀ (H : Heap) (locs : List Loc) (ls : Array Slot), xRep G kp I L H → xS G s.heap H locs → lv_has ls 6 [(0, .ref (xz G + 29)), (1, .int x1), (4, .int x4)] → W p l e (xrm 7 323) s m args below meth c H locs 0 0 (xMQ G kp below args s (some (.int r)) I L) (F0 m 93 ls []) := by
  intro H locs ls hR hS hl
  unfold F_X9_wordAtHand_j93 at hf
  refine x_iinc (d := 1) (lv' := fun y1 => [(1, .int y1), (0, .ref (xz G + 29)), (4, .int x4)]) (k := 1) hC hl dX9_wordAtHand_93 rfl (by decide) (Nat.le_of_ble_eq_true rfl) hf (fun _ => rfl) (fun y1 hf ls hl => ?_)
  refine lv_aload_n hC.1 hC.2.1 dX9_wordAtHand_96 rfl (lv_at hl 1 rfl) ?_
  refine x_getI hC xf_X9_47 (xce_29 G kp _ _) rfl hR dX9_wordAtHand_97 hf (fun v2 hf => ?_)
  refine lv_istore_n (lv' := [(2, .int v2), (1, .int y1), (0, .ref (xz G + 29)), (4, .int x4)]) hC.1 hC.2.1 dX9_wordAtHand_100 rfl hl (Nat.le_of_ble_eq_true rfl) rfl (fun ls hl => ?_)
  refine lv_iconst (v := 1) hC.1 hC.2.1 dX9_wordAtHand_101 (by decide) ?_
  refine lv_istore_n (lv' := [(3, .int 1), (2, .int v2), (1, .int y1), (0, .ref (xz G + 29)), (4, .int x4)]) hC.1 hC.2.1 dX9_wordAtHand_102 rfl hl (Nat.le_of_ble_eq_true rfl) rfl (fun ls hl => ?_)
  refine x_iinc (d := 1) (lv' := fun y3 => [(4, .int y3), (3, .int 1), (2, .int v2), (1, .int y1), (0, .ref (xz G + 29))]) (k := 4) hC hl dX9_wordAtHand_103 rfl (by decide) (Nat.le_of_ble_eq_true rfl) hf (fun _ => rfl) (fun y3 hf ls hl => ?_)
  refine lv_goto (tgt := 12) hC.1 hC.2.1 dX9_wordAtHand_106 (by decide) ?_
  exact hk12 y1 v2 1 y3 hf _ _ _ hR hS (lv_sub hl [4, 3, 2, 1, 0] rfl)
set_option maxRecDepth 20000 in
theorem W_X9_wordAtHand_l12 {G : XG} {l : Launch} {kp : Bool} {p : Program} {e : Env} {s : State} {m : MethodId} {args : Array Value} {below : List Frame} {meth : Method} {c : Code} (hC : xC G p s m args meth c cX9_wordAtHand 6 RX9 (some .int)) (N : Nat) {I : xTI} {L : xTL} {r : Int32} : ∀ (n : Nat) (x1 : Int32) (x2 : Int32) (x3 : Int32) (x4 : Int32) , xlp (F_X9_wordAtHand_b12 N I ) n (x1, x2, x3, x4) = some r → ∀ (H : Heap) (locs : List Loc) (ls : Array Slot), xRep G kp I L H → xS G s.heap H locs → lv_has ls 6 [(0, .ref (xz G + 29)), (1, .int x1), (2, .int x2), (3, .int x3), (4, .int x4)] → W p l e (xrm 7 323) s m args below meth c H locs 0 0 (xMQ G kp below args s (some (.int r)) I L) (F0 m 12 ls []) := by
  intro n
  induction n with
  | zero =>
    intro x1 x2 x3 x4 hf
    cases hf
  | succ n hk12 =>
    intro x1 x2 x3 x4 hf H locs ls hR hS hl
    rw [xlp_s, E_X9_wordAtHand_b12] at hf
    unfold F_X9_wordAtHand_c12 at hf
    refine lv_iload hC.1 hC.2.1 dX9_wordAtHand_12 (lv_at hl 4 rfl) ?_
    refine x_ldS hC dX9_wordAtHand_14 ?_
    refine x_slen (rest := [.int x4]) hC tw_721 ⟨Nat.le_of_ble_eq_true rfl, Nat.le_of_ble_eq_true rfl⟩ (Nat.le_of_ble_eq_true rfl) hl.1 hR hS dX9_wordAtHand_16 (fun H locs hR hS => ?_)
    refine x_ic_ge (tgt := 109) hC dX9_wordAtHand_19 (by decide) hf (fun hf => ?_) (fun hf => ?_)
    · refine lv_iconst (v := (-1)) hC.1 hC.2.1 dX9_wordAtHand_109 (by decide) ?_
      have h9 := Option.some.inj hf
      subst h9
      exact x_iret hC hR hS dX9_wordAtHand_110
    · refine x_ldS hC dX9_wordAtHand_22 ?_
      refine lv_iload hC.1 hC.2.1 dX9_wordAtHand_24 (lv_at hl 4 rfl) ?_
      refine x_sch (rest := []) hC tw_731 ⟨Nat.le_of_ble_eq_true rfl, Nat.le_of_ble_eq_true rfl⟩ (Nat.le_of_ble_eq_true rfl) hl.1 hR hS dX9_wordAtHand_26 hf (fun v1 hf H locs hR hS => ?_)
      refine lv_istore (lv' := [(5, .int v1), (0, .ref (xz G + 29)), (1, .int x1), (2, .int x2), (3, .int x3), (4, .int x4)]) hC.1 hC.2.1 dX9_wordAtHand_29 hl (Nat.le_of_ble_eq_true rfl) rfl (fun ls hl => ?_)
      refine lv_iload hC.1 hC.2.1 dX9_wordAtHand_31 (lv_at hl 0 rfl) ?_
      refine lv_bipush (v := 32) hC.1 hC.2.1 dX9_wordAtHand_33 (by decide) ?_
      refine x_ic_eq (tgt := 79) hC dX9_wordAtHand_35 (by decide) hf (fun hf => ?_) (fun hf => ?_)
      · refine lv_iload_n hC.1 hC.2.1 dX9_wordAtHand_79 rfl (lv_at hl 4 rfl) ?_
        refine x_if_eq (tgt := 93) hC dX9_wordAtHand_80 (by decide) hf (fun hf => ?_) (fun hf => ?_)
        · exact W_X9_wordAtHand_j93 hC N _ hk12 hf _ _ _ hR hS (lv_sub hl [1, 2, 5] rfl)
        · refine lv_iload_n hC.1 hC.2.1 dX9_wordAtHand_83 rfl (lv_at hl 3 rfl) ?_
          refine lv_aload_n hC.1 hC.2.1 dX9_wordAtHand_84 rfl (lv_at hl 1 rfl) ?_
          refine x_getI hC xf_X9_22 (xce_29 G kp _ _) rfl hR dX9_wordAtHand_85 hf (fun v2 hf => ?_)
          refine x_ic_ne (tgt := 93) hC dX9_wordAtHand_88 (by decide) hf (fun hf => ?_) (fun hf => ?_)
          · exact W_X9_wordAtHand_j93 hC N _ hk12 hf _ _ _ hR hS (lv_sub hl [1, 2, 5] rfl)
          · refine lv_iload_n hC.1 hC.2.1 dX9_wordAtHand_91 rfl (lv_at hl 2 rfl) ?_
            have h9 := Option.some.inj hf
            subst h9
            exact x_iret hC hR hS dX9_wordAtHand_92
      · refine lv_iload_n hC.1 hC.2.1 dX9_wordAtHand_38 rfl (lv_at hl 4 rfl) ?_
        refine x_if_eq (tgt := 71) hC dX9_wordAtHand_39 (by decide) hf (fun hf => ?_) (fun hf => ?_)
        · refine lv_iconst (v := 0) hC.1 hC.2.1 dX9_wordAtHand_71 (by decide) ?_
          refine lv_istore_n (lv' := [(3, .int 0), (5, .int v1), (0, .ref (xz G + 29)), (1, .int x1), (2, .int x2), (4, .int x4)]) hC.1 hC.2.1 dX9_wordAtHand_72 rfl hl (Nat.le_of_ble_eq_true rfl) rfl (fun ls hl => ?_)
          refine x_iinc (d := 1) (lv' := fun y3 => [(2, .int y3), (3, .int 0), (5, .int v1), (0, .ref (xz G + 29)), (1, .int x1), (4, .int x4)]) (k := 4) hC hl dX9_wordAtHand_73 rfl (by decide) (Nat.le_of_ble_eq_true rfl) hf (fun _ => rfl) (fun y3 hf ls hl => ?_)
          refine lv_goto (tgt := 103) hC.1 hC.2.1 dX9_wordAtHand_76 (by decide) ?_
          refine x_iinc (d := 1) (lv' := fun y4 => [(4, .int y4), (2, .int y3), (3, .int 0), (5, .int v1), (0, .ref (xz G + 29)), (1, .int x1)]) (k := 5) hC hl dX9_wordAtHand_103 rfl (by decide) (Nat.le_of_ble_eq_true rfl) hf (fun _ => rfl) (fun y4 hf ls hl => ?_)
          refine lv_goto (tgt := 12) hC.1 hC.2.1 dX9_wordAtHand_106 (by decide) ?_
          exact hk12 x1 y3 0 y4 hf _ _ _ hR hS (lv_sub hl [4, 5, 1, 2, 0] rfl)
        · refine lv_iload_n hC.1 hC.2.1 dX9_wordAtHand_42 rfl (lv_at hl 3 rfl) ?_
          refine lv_aload_n hC.1 hC.2.1 dX9_wordAtHand_43 rfl (lv_at hl 1 rfl) ?_
          refine x_getI hC xf_X9_22 (xce_29 G kp _ _) rfl hR dX9_wordAtHand_44 hf (fun v5 hf => ?_)
          refine x_ic_ge (tgt := 71) hC dX9_wordAtHand_47 (by decide) hf (fun hf => ?_) (fun hf => ?_)
          · refine lv_iconst (v := 0) hC.1 hC.2.1 dX9_wordAtHand_71 (by decide) ?_
            refine lv_istore_n (lv' := [(3, .int 0), (5, .int v1), (0, .ref (xz G + 29)), (1, .int x1), (2, .int x2), (4, .int x4)]) hC.1 hC.2.1 dX9_wordAtHand_72 rfl hl (Nat.le_of_ble_eq_true rfl) rfl (fun ls hl => ?_)
            refine x_iinc (d := 1) (lv' := fun y6 => [(2, .int y6), (3, .int 0), (5, .int v1), (0, .ref (xz G + 29)), (1, .int x1), (4, .int x4)]) (k := 4) hC hl dX9_wordAtHand_73 rfl (by decide) (Nat.le_of_ble_eq_true rfl) hf (fun _ => rfl) (fun y6 hf ls hl => ?_)
            refine lv_goto (tgt := 103) hC.1 hC.2.1 dX9_wordAtHand_76 (by decide) ?_
            refine x_iinc (d := 1) (lv' := fun y7 => [(4, .int y7), (2, .int y6), (3, .int 0), (5, .int v1), (0, .ref (xz G + 29)), (1, .int x1)]) (k := 5) hC hl dX9_wordAtHand_103 rfl (by decide) (Nat.le_of_ble_eq_true rfl) hf (fun _ => rfl) (fun y7 hf ls hl => ?_)
            refine lv_goto (tgt := 12) hC.1 hC.2.1 dX9_wordAtHand_106 (by decide) ?_
            exact hk12 x1 y6 0 y7 hf _ _ _ hR hS (lv_sub hl [4, 5, 1, 2, 0] rfl)
          · refine lv_iload_n hC.1 hC.2.1 dX9_wordAtHand_50 rfl (lv_at hl 3 rfl) ?_
            refine lv_bipush (v := 120) hC.1 hC.2.1 dX9_wordAtHand_51 (by decide) ?_
            refine x_ic_ge (tgt := 71) hC dX9_wordAtHand_53 (by decide) hf (fun hf => ?_) (fun hf => ?_)
            · refine lv_iconst (v := 0) hC.1 hC.2.1 dX9_wordAtHand_71 (by decide) ?_
              refine lv_istore_n (lv' := [(3, .int 0), (5, .int v1), (0, .ref (xz G + 29)), (1, .int x1), (2, .int x2), (4, .int x4)]) hC.1 hC.2.1 dX9_wordAtHand_72 rfl hl (Nat.le_of_ble_eq_true rfl) rfl (fun ls hl => ?_)
              refine x_iinc (d := 1) (lv' := fun y8 => [(2, .int y8), (3, .int 0), (5, .int v1), (0, .ref (xz G + 29)), (1, .int x1), (4, .int x4)]) (k := 4) hC hl dX9_wordAtHand_73 rfl (by decide) (Nat.le_of_ble_eq_true rfl) hf (fun _ => rfl) (fun y8 hf ls hl => ?_)
              refine lv_goto (tgt := 103) hC.1 hC.2.1 dX9_wordAtHand_76 (by decide) ?_
              refine x_iinc (d := 1) (lv' := fun y9 => [(4, .int y9), (2, .int y8), (3, .int 0), (5, .int v1), (0, .ref (xz G + 29)), (1, .int x1)]) (k := 5) hC hl dX9_wordAtHand_103 rfl (by decide) (Nat.le_of_ble_eq_true rfl) hf (fun _ => rfl) (fun y9 hf ls hl => ?_)
              refine lv_goto (tgt := 12) hC.1 hC.2.1 dX9_wordAtHand_106 (by decide) ?_
              exact hk12 x1 y8 0 y9 hf _ _ _ hR hS (lv_sub hl [4, 5, 1, 2, 0] rfl)
            · refine lv_aload_n hC.1 hC.2.1 dX9_wordAtHand_56 rfl (lv_at hl 1 rfl) ?_
              refine x_get (v := .ref (xz G + 30)) hC xf_X9_9 (xce_29 G kp _ _) rfl hR dX9_wordAtHand_57 ?_
              refine lv_iload_n hC.1 hC.2.1 dX9_wordAtHand_60 rfl (lv_at hl 3 rfl) ?_
              refine x_ial hC (xce_30 G kp _ _) hR dX9_wordAtHand_61 hf (fun v10 hf => ?_)
              refine lv_iload hC.1 hC.2.1 dX9_wordAtHand_62 (lv_at hl 0 rfl) ?_
              refine x_ic_ne (tgt := 71) hC dX9_wordAtHand_64 (by decide) hf (fun hf => ?_) (fun hf => ?_)
              · refine lv_iconst (v := 0) hC.1 hC.2.1 dX9_wordAtHand_71 (by decide) ?_
                refine lv_istore_n (lv' := [(3, .int 0), (5, .int v1), (0, .ref (xz G + 29)), (1, .int x1), (2, .int x2), (4, .int x4)]) hC.1 hC.2.1 dX9_wordAtHand_72 rfl hl (Nat.le_of_ble_eq_true rfl) rfl (fun ls hl => ?_)
                refine x_iinc (d := 1) (lv' := fun y11 => [(2, .int y11), (3, .int 0), (5, .int v1), (0, .ref (xz G + 29)), (1, .int x1), (4, .int x4)]) (k := 4) hC hl dX9_wordAtHand_73 rfl (by decide) (Nat.le_of_ble_eq_true rfl) hf (fun _ => rfl) (fun y11 hf ls hl => ?_)
                refine lv_goto (tgt := 103) hC.1 hC.2.1 dX9_wordAtHand_76 (by decide) ?_
                refine x_iinc (d := 1) (lv' := fun y12 => [(4, .int y12), (2, .int y11), (3, .int 0), (5, .int v1), (0, .ref (xz G + 29)), (1, .int x1)]) (k := 5) hC hl dX9_wordAtHand_103 rfl (by decide) (Nat.le_of_ble_eq_true rfl) hf (fun _ => rfl) (fun y12 hf ls hl => ?_)
                refine lv_goto (tgt := 12) hC.1 hC.2.1 dX9_wordAtHand_106 (by decide) ?_
                exact hk12 x1 y11 0 y12 hf _ _ _ hR hS (lv_sub hl [4, 5, 1, 2, 0] rfl)
              · refine lv_iconst (v := 1) hC.1 hC.2.1 dX9_wordAtHand_67 (by decide) ?_
                refine lv_goto (tgt := 72) hC.1 hC.2.1 dX9_wordAtHand_68 (by decide) ?_
                refine lv_istore_n (lv' := [(3, .int 1), (5, .int v1), (0, .ref (xz G + 29)), (1, .int x1), (2, .int x2), (4, .int x4)]) hC.1 hC.2.1 dX9_wordAtHand_72 rfl hl (Nat.le_of_ble_eq_true rfl) rfl (fun ls hl => ?_)
                refine x_iinc (d := 1) (lv' := fun y13 => [(2, .int y13), (3, .int 1), (5, .int v1), (0, .ref (xz G + 29)), (1, .int x1), (4, .int x4)]) (k := 4) hC hl dX9_wordAtHand_73 rfl (by decide) (Nat.le_of_ble_eq_true rfl) hf (fun _ => rfl) (fun y13 hf ls hl => ?_)
                refine lv_goto (tgt := 103) hC.1 hC.2.1 dX9_wordAtHand_76 (by decide) ?_
                refine x_iinc (d := 1) (lv' := fun y14 => [(4, .int y14), (2, .int y13), (3, .int 1), (5, .int v1), (0, .ref (xz G + 29)), (1, .int x1)]) (k := 5) hC hl dX9_wordAtHand_103 rfl (by decide) (Nat.le_of_ble_eq_true rfl) hf (fun _ => rfl) (fun y14 hf ls hl => ?_)
                refine lv_goto (tgt := 12) hC.1 hC.2.1 dX9_wordAtHand_106 (by decide) ?_
                exact hk12 x1 y13 1 y14 hf _ _ _ hR hS (lv_sub hl [4, 5, 1, 2, 0] rfl)
set_option maxRecDepth 20000 in
theorem M_X9_wordAtHand (G : XG) (l : Launch) (kp : Bool) (N : Nat) {I : xTI} {L : xTL} {r : Int32} (hf : F_X9_wordAtHand N I = some r) : xMet G l yX9_wordAtHand cX9_wordAtHand 6 (some .int) 7 323 kp [.ref (xz G + 29)] I L (some (.int r)) I L := by
  refine xMet.ofW (by decide +kernel) (Nat.le_of_ble_eq_true rfl) ?_
  intro p e s m args below meth c hC H locs ls hR hS hl
  replace hC : xC G p s m args meth c cX9_wordAtHand 6 RX9 (some .int) := hC
  replace hl : lv_has ls 6 [(0, .ref (xz G + 29))] := hl
  unfold F_X9_wordAtHand at hf
  refine lv_iconst (v := 0) hC.1 hC.2.1 dX9_wordAtHand_0 (by decide) ?_
  refine lv_istore_n (lv' := [(1, .int 0), (0, .ref (xz G + 29))]) hC.1 hC.2.1 dX9_wordAtHand_1 rfl hl (Nat.le_of_ble_eq_true rfl) rfl (fun ls hl => ?_)
  refine lv_aload_n hC.1 hC.2.1 dX9_wordAtHand_2 rfl (lv_at hl 1 rfl) ?_
  refine x_getI hC xf_X9_47 (xce_29 G kp _ _) rfl hR dX9_wordAtHand_3 hf (fun v1 hf => ?_)
  refine lv_istore_n (lv' := [(2, .int v1), (1, .int 0), (0, .ref (xz G + 29))]) hC.1 hC.2.1 dX9_wordAtHand_6 rfl hl (Nat.le_of_ble_eq_true rfl) rfl (fun ls hl => ?_)
  refine lv_iconst (v := 1) hC.1 hC.2.1 dX9_wordAtHand_7 (by decide) ?_
  refine lv_istore_n (lv' := [(3, .int 1), (2, .int v1), (1, .int 0), (0, .ref (xz G + 29))]) hC.1 hC.2.1 dX9_wordAtHand_8 rfl hl (Nat.le_of_ble_eq_true rfl) rfl (fun ls hl => ?_)
  refine lv_iconst (v := 0) hC.1 hC.2.1 dX9_wordAtHand_9 (by decide) ?_
  refine lv_istore (lv' := [(4, .int 0), (3, .int 1), (2, .int v1), (1, .int 0), (0, .ref (xz G + 29))]) hC.1 hC.2.1 dX9_wordAtHand_10 hl (Nat.le_of_ble_eq_true rfl) rfl (fun ls hl => ?_)
  exact W_X9_wordAtHand_l12 hC N _ 0 v1 1 0 hf _ _ _ hR hS (lv_sub hl [4, 3, 2, 1, 0] rfl)
set_option maxRecDepth 20000 in
theorem M_X9_takeWord (G : XG) (l : Launch) (kp : Bool) {I : xTI} {L : xTL} {x1 : Int32} {rI : xTI} (hf : F_X9_takeWord I x1 = some rI) : xMet G l yX9_takeWord cX9_takeWord 2 none 0 0 kp [.ref (xz G + 29), .int x1] I L none rI L := by
  refine xMet.ofW (by decide +kernel) (Nat.le_of_ble_eq_true rfl) ?_
  intro p e s m args below meth c hC H locs ls hR hS hl
  replace hC : xC G p s m args meth c cX9_takeWord 2 RX9 none := hC
  replace hl : lv_has ls 2 [(0, .ref (xz G + 29)), (1, .int x1)] := hl
  unfold F_X9_takeWord at hf
  refine lv_iload_n hC.1 hC.2.1 dX9_takeWord_0 rfl (lv_at hl 1 rfl) ?_
  refine lv_iconst (v := (-1)) hC.1 hC.2.1 dX9_takeWord_1 (by decide) ?_
  refine x_ic_ne (tgt := 14) hC dX9_takeWord_2 (by decide) hf (fun hf => ?_) (fun hf => ?_)
  · refine lv_iload_n hC.1 hC.2.1 dX9_takeWord_14 rfl (lv_at hl 1 rfl) ?_
    refine lv_bipush (v := 6) hC.1 hC.2.1 dX9_takeWord_15 (by decide) ?_
    refine x_ic_ge (tgt := 33) hC dX9_takeWord_17 (by decide) hf (fun hf => ?_) (fun hf => ?_)
    · refine lv_iload_n hC.1 hC.2.1 dX9_takeWord_33 rfl (lv_at hl 1 rfl) ?_
      refine lv_bipush (v := 16) hC.1 hC.2.1 dX9_takeWord_34 (by decide) ?_
      refine x_ic_ge (tgt := 55) hC dX9_takeWord_36 (by decide) hf (fun hf => ?_) (fun hf => ?_)
      · refine lv_aload_n hC.1 hC.2.1 dX9_takeWord_55 rfl (lv_at hl 0 rfl) ?_
        refine lv_iconst (v := 4) hC.1 hC.2.1 dX9_takeWord_56 (by decide) ?_
        refine lv_iload_n hC.1 hC.2.1 dX9_takeWord_57 rfl (lv_at hl 1 rfl) ?_
        refine lv_iadd hC.1 hC.2.1 dX9_takeWord_58 ?_
        refine lv_bipush (v := 16) hC.1 hC.2.1 dX9_takeWord_59 (by decide) ?_
        refine lv_isub hC.1 hC.2.1 dX9_takeWord_61 ?_
        refine x_putI hC xf_X9_31 xp_9_4 (fun f => (xce_29 G kp f _)) rfl (Nat.le_of_ble_eq_true rfl) hR hS dX9_takeWord_62 hf (fun I1 hf H locs hR hS => ?_)
        have h9 := Option.some.inj hf
        subst h9
        exact x_vret hC hR hS dX9_takeWord_65
      · refine lv_aload_n hC.1 hC.2.1 dX9_takeWord_39 rfl (lv_at hl 0 rfl) ?_
        refine lv_iconst (v := 2) hC.1 hC.2.1 dX9_takeWord_40 (by decide) ?_
        refine x_putI hC xf_X9_31 xp_9_4 (fun f => (xce_29 G kp f _)) rfl (Nat.le_of_ble_eq_true rfl) hR hS dX9_takeWord_41 hf (fun I2 hf H locs hR hS => ?_)
        refine lv_aload_n hC.1 hC.2.1 dX9_takeWord_44 rfl (lv_at hl 0 rfl) ?_
        refine lv_iload_n hC.1 hC.2.1 dX9_takeWord_45 rfl (lv_at hl 1 rfl) ?_
        refine lv_bipush (v := 6) hC.1 hC.2.1 dX9_takeWord_46 (by decide) ?_
        refine lv_isub hC.1 hC.2.1 dX9_takeWord_48 ?_
        refine x_putI hC xf_X9_34 xp_9_5 (fun f => (xce_29 G kp f _)) rfl (Nat.le_of_ble_eq_true rfl) hR hS dX9_takeWord_49 hf (fun I3 hf H locs hR hS => ?_)
        refine lv_goto (tgt := 65) hC.1 hC.2.1 dX9_takeWord_52 (by decide) ?_
        have h9 := Option.some.inj hf
        subst h9
        exact x_vret hC hR hS dX9_takeWord_65
    · refine lv_aload_n hC.1 hC.2.1 dX9_takeWord_20 rfl (lv_at hl 0 rfl) ?_
      refine lv_iconst (v := 1) hC.1 hC.2.1 dX9_takeWord_21 (by decide) ?_
      refine x_putI hC xf_X9_31 xp_9_4 (fun f => (xce_29 G kp f _)) rfl (Nat.le_of_ble_eq_true rfl) hR hS dX9_takeWord_22 hf (fun I4 hf H locs hR hS => ?_)
      refine lv_aload_n hC.1 hC.2.1 dX9_takeWord_25 rfl (lv_at hl 0 rfl) ?_
      refine lv_iload_n hC.1 hC.2.1 dX9_takeWord_26 rfl (lv_at hl 1 rfl) ?_
      refine x_putI hC xf_X9_34 xp_9_5 (fun f => (xce_29 G kp f _)) rfl (Nat.le_of_ble_eq_true rfl) hR hS dX9_takeWord_27 hf (fun I5 hf H locs hR hS => ?_)
      refine lv_goto (tgt := 65) hC.1 hC.2.1 dX9_takeWord_30 (by decide) ?_
      have h9 := Option.some.inj hf
      subst h9
      exact x_vret hC hR hS dX9_takeWord_65
  · refine lv_aload_n hC.1 hC.2.1 dX9_takeWord_5 rfl (lv_at hl 0 rfl) ?_
    refine lv_bipush (v := 9) hC.1 hC.2.1 dX9_takeWord_6 (by decide) ?_
    refine x_putI hC xf_X9_31 xp_9_4 (fun f => (xce_29 G kp f _)) rfl (Nat.le_of_ble_eq_true rfl) hR hS dX9_takeWord_8 hf (fun I6 hf H locs hR hS => ?_)
    refine lv_goto (tgt := 65) hC.1 hC.2.1 dX9_takeWord_11 (by decide) ?_
    have h9 := Option.some.inj hf
    subst h9
    exact x_vret hC hR hS dX9_takeWord_65
set_option maxRecDepth 20000 in
theorem W_X9_takeNumber_j98 {G : XG} {l : Launch} {kp : Bool} {p : Program} {e : Env} {s : State} {m : MethodId} {args : Array Value} {below : List Frame} {meth : Method} {c : Code} (hC : xC G p s m args meth c cX9_takeNumber 2 RX9 none) (N : Nat) {I : xTI} {L : xTL} {rI : xTI} {t1 : Int32} (hf : F_X9_takeNumber_j98 N I t1 = some rI) : ∀ (H : Heap) (locs : List Loc) (ls : Array Slot), xRep G kp I L H → xS G s.heap H locs → lv_has ls 2 [] → W p l e (xrm 1 21) s m args below meth c H locs 0 0 (xMQ G kp below args s none rI L) (F0 m 98 ls [.int t1, .ref (xz G + 29)]) := by
  intro H locs ls hR hS hl
  unfold F_X9_takeNumber_j98 at hf
  refine x_putI hC xf_X9_31 xp_9_4 (fun f => (xce_29 G kp f _)) rfl (Nat.le_of_ble_eq_true rfl) hR hS dX9_takeNumber_98 hf (fun I1 hf H locs hR hS => ?_)
  have h9 := Option.some.inj hf
  subst h9
  exact x_vret hC hR hS dX9_takeNumber_101
set_option maxRecDepth 20000 in
theorem W_X9_takeNumber_j78 {G : XG} {l : Launch} {kp : Bool} {p : Program} {e : Env} {s : State} {m : MethodId} {args : Array Value} {below : List Frame} {meth : Method} {c : Code} (hC : xC G p s m args meth c cX9_takeNumber 2 RX9 none) (N : Nat) {I : xTI} {L : xTL} {rI : xTI} (hf : F_X9_takeNumber_j78 N I = some rI) : ∀ (H : Heap) (locs : List Loc) (ls : Array Slot), xRep G kp I L H → xS G s.heap H locs → lv_has ls 2 [(0, .ref (xz G + 29))] → W p l e (xrm 1 21) s m args below meth c H locs 0 0 (xMQ G kp below args s none rI L) (F0 m 78 ls []) := by
  intro H locs ls hR hS hl
  unfold F_X9_takeNumber_j78 at hf
  refine lv_aload_n hC.1 hC.2.1 dX9_takeNumber_78 rfl (lv_at hl 0 rfl) ?_
  refine lv_aload_n hC.1 hC.2.1 dX9_takeNumber_79 rfl (lv_at hl 0 rfl) ?_
  refine x_getI hC xf_X9_22 (xce_29 G kp _ _) rfl hR dX9_takeNumber_80 hf (fun v1 hf => ?_)
  refine lv_aload_n hC.1 hC.2.1 dX9_takeNumber_83 rfl (lv_at hl 0 rfl) ?_
  refine x_getI hC xf_X9_47 (xce_29 G kp _ _) rfl hR dX9_takeNumber_84 hf (fun v2 hf => ?_)
  refine lv_isub hC.1 hC.2.1 dX9_takeNumber_87 ?_
  refine lv_iconst (v := 5) hC.1 hC.2.1 dX9_takeNumber_88 (by decide) ?_
  refine x_ic_le (tgt := 97) hC dX9_takeNumber_89 (by decide) hf (fun hf => ?_) (fun hf => ?_)
  · refine lv_iconst (v := 3) hC.1 hC.2.1 dX9_takeNumber_97 (by decide) ?_
    exact W_X9_takeNumber_j98 hC N hf _ _ _ hR hS (lv_sub hl [] rfl)
  · refine lv_bipush (v := 9) hC.1 hC.2.1 dX9_takeNumber_92 (by decide) ?_
    refine lv_goto (tgt := 98) hC.1 hC.2.1 dX9_takeNumber_94 (by decide) ?_
    exact W_X9_takeNumber_j98 hC N hf _ _ _ hR hS (lv_sub hl [] rfl)
set_option maxRecDepth 20000 in
theorem W_X9_takeNumber_l7 {G : XG} {l : Launch} {kp : Bool} {p : Program} {e : Env} {s : State} {m : MethodId} {args : Array Value} {below : List Frame} {meth : Method} {c : Code} (hC : xC G p s m args meth c cX9_takeNumber 2 RX9 none) (N : Nat) {L : xTL} {rI : xTI} : ∀ (n : Nat) (x1 : Int32) (I : xTI) , xlp (F_X9_takeNumber_b7 N ) n (x1, I) = some rI → ∀ (H : Heap) (locs : List Loc) (ls : Array Slot), xRep G kp I L H → xS G s.heap H locs → lv_has ls 2 [(0, .ref (xz G + 29)), (1, .int x1)] → W p l e (xrm 1 21) s m args below meth c H locs 0 0 (xMQ G kp below args s none rI L) (F0 m 7 ls []) := by
  intro n
  induction n with
  | zero =>
    intro x1 I hf
    cases hf
  | succ n hk7 =>
    intro x1 I hf H locs ls hR hS hl
    rw [xlp_s, E_X9_takeNumber_b7] at hf
    unfold F_X9_takeNumber_c7 at hf
    refine lv_iload_n hC.1 hC.2.1 dX9_takeNumber_7 rfl (lv_at hl 1 rfl) ?_
    refine lv_bipush (v := 120) hC.1 hC.2.1 dX9_takeNumber_8 (by decide) ?_
    refine x_ic_ge (tgt := 78) hC dX9_takeNumber_10 (by decide) hf (fun hf => ?_) (fun hf => ?_)
    · exact W_X9_takeNumber_j78 hC N hf _ _ _ hR hS (lv_sub hl [0] rfl)
    · refine lv_aload_n hC.1 hC.2.1 dX9_takeNumber_13 rfl (lv_at hl 0 rfl) ?_
      refine lv_aload_n hC.1 hC.2.1 dX9_takeNumber_14 rfl (lv_at hl 0 rfl) ?_
      refine x_getI hC xf_X9_22 (xce_29 G kp _ _) rfl hR dX9_takeNumber_15 hf (fun v1 hf => ?_)
      refine x_cvi00 (rest := []) hC xy_X9_byteAt tw_708 hf (fun _ h => M_X9_byteAt G l kp h) ⟨Nat.le_of_ble_eq_true rfl, Nat.le_of_ble_eq_true rfl⟩ (xce_29 G kp _ _) rfl rfl rfl (Nat.le_of_ble_eq_true rfl) hl.1 hR hS dX9_takeNumber_18 ⟨Nat.le_refl _, Nat.le_refl _⟩ (fun v2 hf H locs hR hS => ?_)
      refine lv_bipush (v := 48) hC.1 hC.2.1 dX9_takeNumber_21 (by decide) ?_
      refine x_ic_lt (tgt := 78) hC dX9_takeNumber_23 (by decide) hf (fun hf => ?_) (fun hf => ?_)
      · exact W_X9_takeNumber_j78 hC N hf _ _ _ hR hS (lv_sub hl [0] rfl)
      · refine lv_aload_n hC.1 hC.2.1 dX9_takeNumber_26 rfl (lv_at hl 0 rfl) ?_
        refine lv_aload_n hC.1 hC.2.1 dX9_takeNumber_27 rfl (lv_at hl 0 rfl) ?_
        refine x_getI hC xf_X9_22 (xce_29 G kp _ _) rfl hR dX9_takeNumber_28 hf (fun v3 hf => ?_)
        refine x_cvi00 (rest := []) hC xy_X9_byteAt tw_708 hf (fun _ h => M_X9_byteAt G l kp h) ⟨Nat.le_of_ble_eq_true rfl, Nat.le_of_ble_eq_true rfl⟩ (xce_29 G kp _ _) rfl rfl rfl (Nat.le_of_ble_eq_true rfl) hl.1 hR hS dX9_takeNumber_31 ⟨Nat.le_refl _, Nat.le_refl _⟩ (fun v4 hf H locs hR hS => ?_)
        refine lv_bipush (v := 57) hC.1 hC.2.1 dX9_takeNumber_34 (by decide) ?_
        refine x_ic_gt (tgt := 78) hC dX9_takeNumber_36 (by decide) hf (fun hf => ?_) (fun hf => ?_)
        · exact W_X9_takeNumber_j78 hC N hf _ _ _ hR hS (lv_sub hl [0] rfl)
        · refine lv_aload_n hC.1 hC.2.1 dX9_takeNumber_39 rfl (lv_at hl 0 rfl) ?_
          refine lv_aload_n hC.1 hC.2.1 dX9_takeNumber_40 rfl (lv_at hl 0 rfl) ?_
          refine x_getI hC xf_X9_34 (xce_29 G kp _ _) rfl hR dX9_takeNumber_41 hf (fun v5 hf => ?_)
          refine lv_bipush (v := 10) hC.1 hC.2.1 dX9_takeNumber_44 (by decide) ?_
          refine lv_imul hC.1 hC.2.1 dX9_takeNumber_46 ?_
          refine lv_aload_n hC.1 hC.2.1 dX9_takeNumber_47 rfl (lv_at hl 0 rfl) ?_
          refine lv_aload_n hC.1 hC.2.1 dX9_takeNumber_48 rfl (lv_at hl 0 rfl) ?_
          refine x_getI hC xf_X9_22 (xce_29 G kp _ _) rfl hR dX9_takeNumber_49 hf (fun v6 hf => ?_)
          refine x_cvi00 (rest := [.int (v5 * 10), .ref (xz G + 29)]) hC xy_X9_byteAt tw_708 hf (fun _ h => M_X9_byteAt G l kp h) ⟨Nat.le_of_ble_eq_true rfl, Nat.le_of_ble_eq_true rfl⟩ (xce_29 G kp _ _) rfl rfl rfl (Nat.le_of_ble_eq_true rfl) hl.1 hR hS dX9_takeNumber_52 ⟨Nat.le_refl _, Nat.le_refl _⟩ (fun v7 hf H locs hR hS => ?_)
          refine lv_iadd hC.1 hC.2.1 dX9_takeNumber_55 ?_
          refine lv_bipush (v := 48) hC.1 hC.2.1 dX9_takeNumber_56 (by decide) ?_
          refine W.eq (g2 := F0 m 58 ls [.int 48, .int ((v5 * 10) + v7), .ref (xz G + 29)]) rfl ?_
          refine lv_isub hC.1 hC.2.1 dX9_takeNumber_58 ?_
          refine x_putI hC xf_X9_34 xp_9_5 (fun f => (xce_29 G kp f _)) rfl (Nat.le_of_ble_eq_true rfl) hR hS dX9_takeNumber_59 hf (fun I8 hf H locs hR hS => ?_)
          refine lv_aload_n hC.1 hC.2.1 dX9_takeNumber_62 rfl (lv_at hl 0 rfl) ?_
          refine lv_dup hC.1 hC.2.1 dX9_takeNumber_63 rfl ?_
          refine x_getI hC xf_X9_22 (xce_29 G kp _ _) rfl hR dX9_takeNumber_64 hf (fun v9 hf => ?_)
          refine lv_iconst (v := 1) hC.1 hC.2.1 dX9_takeNumber_67 (by decide) ?_
          refine lv_iadd hC.1 hC.2.1 dX9_takeNumber_68 ?_
          refine x_putI hC xf_X9_22 xp_9_3 (fun f => (xce_29 G kp f _)) rfl (Nat.le_of_ble_eq_true rfl) hR hS dX9_takeNumber_69 hf (fun I10 hf H locs hR hS => ?_)
          refine x_iinc (d := 1) (lv' := fun y11 => [(1, .int y11), (0, .ref (xz G + 29))]) (k := 1) hC hl dX9_takeNumber_72 rfl (by decide) (Nat.le_of_ble_eq_true rfl) hf (fun _ => rfl) (fun y11 hf ls hl => ?_)
          refine lv_goto (tgt := 7) hC.1 hC.2.1 dX9_takeNumber_75 (by decide) ?_
          exact hk7 y11 I10 hf _ _ _ hR hS (lv_sub hl [1, 0] rfl)
set_option maxRecDepth 20000 in
theorem M_X9_takeNumber (G : XG) (l : Launch) (kp : Bool) (N : Nat) {I : xTI} {L : xTL} {rI : xTI} (hf : F_X9_takeNumber N I = some rI) : xMet G l yX9_takeNumber cX9_takeNumber 2 none 1 21 kp [.ref (xz G + 29)] I L none rI L := by
  refine xMet.ofW (by decide +kernel) (Nat.le_of_ble_eq_true rfl) ?_
  intro p e s m args below meth c hC H locs ls hR hS hl
  replace hC : xC G p s m args meth c cX9_takeNumber 2 RX9 none := hC
  replace hl : lv_has ls 2 [(0, .ref (xz G + 29))] := hl
  unfold F_X9_takeNumber at hf
  refine lv_aload_n hC.1 hC.2.1 dX9_takeNumber_0 rfl (lv_at hl 0 rfl) ?_
  refine lv_iconst (v := 0) hC.1 hC.2.1 dX9_takeNumber_1 (by decide) ?_
  refine x_putI hC xf_X9_34 xp_9_5 (fun f => (xce_29 G kp f _)) rfl (Nat.le_of_ble_eq_true rfl) hR hS dX9_takeNumber_2 hf (fun I1 hf H locs hR hS => ?_)
  refine lv_iconst (v := 0) hC.1 hC.2.1 dX9_takeNumber_5 (by decide) ?_
  refine lv_istore_n (lv' := [(1, .int 0), (0, .ref (xz G + 29))]) hC.1 hC.2.1 dX9_takeNumber_6 rfl hl (Nat.le_of_ble_eq_true rfl) rfl (fun ls hl => ?_)
  exact W_X9_takeNumber_l7 hC N _ 0 I1 hf _ _ _ hR hS (lv_sub hl [1, 0] rfl)
set_option maxRecDepth 20000 in
theorem M_X9_isSign (G : XG) (l : Launch) (kp : Bool) {I : xTI} {L : xTL} {x0 : Int32} {r : Int32} (hf : F_X9_isSign x0 = some r) : xMet G l yX9_isSign cX9_isSign 1 (some .boolean) 0 0 kp [.int x0] I L (some (.int r)) I L := by
  refine xMet.ofW (by decide +kernel) (Nat.le_of_ble_eq_true rfl) ?_
  intro p e s m args below meth c hC H locs ls hR hS hl
  replace hC : xC G p s m args meth c cX9_isSign 1 RX9 (some .boolean) := hC
  replace hl : lv_has ls 1 [(0, .int x0)] := hl
  unfold F_X9_isSign at hf
  refine lv_iload_n hC.1 hC.2.1 dX9_isSign_0 rfl (lv_at hl 0 rfl) ?_
  refine lv_bipush (v := 40) hC.1 hC.2.1 dX9_isSign_1 (by decide) ?_
  refine x_ic_eq (tgt := 60) hC dX9_isSign_3 (by decide) hf (fun hf => ?_) (fun hf => ?_)
  · refine lv_iconst (v := 1) hC.1 hC.2.1 dX9_isSign_60 (by decide) ?_
    refine lv_goto (tgt := 65) hC.1 hC.2.1 dX9_isSign_61 (by decide) ?_
    obtain ⟨h01, hf⟩ := xzc_some hf
    have h9 := Option.some.inj hf
    subst h9
    exact x_zret h01 hC hR hS dX9_isSign_65
  · refine lv_iload_n hC.1 hC.2.1 dX9_isSign_6 rfl (lv_at hl 0 rfl) ?_
    refine lv_bipush (v := 41) hC.1 hC.2.1 dX9_isSign_7 (by decide) ?_
    refine x_ic_eq (tgt := 60) hC dX9_isSign_9 (by decide) hf (fun hf => ?_) (fun hf => ?_)
    · refine lv_iconst (v := 1) hC.1 hC.2.1 dX9_isSign_60 (by decide) ?_
      refine lv_goto (tgt := 65) hC.1 hC.2.1 dX9_isSign_61 (by decide) ?_
      obtain ⟨h01, hf⟩ := xzc_some hf
      have h9 := Option.some.inj hf
      subst h9
      exact x_zret h01 hC hR hS dX9_isSign_65
    · refine lv_iload_n hC.1 hC.2.1 dX9_isSign_12 rfl (lv_at hl 0 rfl) ?_
      refine lv_bipush (v := 43) hC.1 hC.2.1 dX9_isSign_13 (by decide) ?_
      refine x_ic_eq (tgt := 60) hC dX9_isSign_15 (by decide) hf (fun hf => ?_) (fun hf => ?_)
      · refine lv_iconst (v := 1) hC.1 hC.2.1 dX9_isSign_60 (by decide) ?_
        refine lv_goto (tgt := 65) hC.1 hC.2.1 dX9_isSign_61 (by decide) ?_
        obtain ⟨h01, hf⟩ := xzc_some hf
        have h9 := Option.some.inj hf
        subst h9
        exact x_zret h01 hC hR hS dX9_isSign_65
      · refine lv_iload_n hC.1 hC.2.1 dX9_isSign_18 rfl (lv_at hl 0 rfl) ?_
        refine lv_bipush (v := 45) hC.1 hC.2.1 dX9_isSign_19 (by decide) ?_
        refine x_ic_eq (tgt := 60) hC dX9_isSign_21 (by decide) hf (fun hf => ?_) (fun hf => ?_)
        · refine lv_iconst (v := 1) hC.1 hC.2.1 dX9_isSign_60 (by decide) ?_
          refine lv_goto (tgt := 65) hC.1 hC.2.1 dX9_isSign_61 (by decide) ?_
          obtain ⟨h01, hf⟩ := xzc_some hf
          have h9 := Option.some.inj hf
          subst h9
          exact x_zret h01 hC hR hS dX9_isSign_65
        · refine lv_iload_n hC.1 hC.2.1 dX9_isSign_24 rfl (lv_at hl 0 rfl) ?_
          refine lv_bipush (v := 42) hC.1 hC.2.1 dX9_isSign_25 (by decide) ?_
          refine x_ic_eq (tgt := 60) hC dX9_isSign_27 (by decide) hf (fun hf => ?_) (fun hf => ?_)
          · refine lv_iconst (v := 1) hC.1 hC.2.1 dX9_isSign_60 (by decide) ?_
            refine lv_goto (tgt := 65) hC.1 hC.2.1 dX9_isSign_61 (by decide) ?_
            obtain ⟨h01, hf⟩ := xzc_some hf
            have h9 := Option.some.inj hf
            subst h9
            exact x_zret h01 hC hR hS dX9_isSign_65
          · refine lv_iload_n hC.1 hC.2.1 dX9_isSign_30 rfl (lv_at hl 0 rfl) ?_
            refine lv_bipush (v := 47) hC.1 hC.2.1 dX9_isSign_31 (by decide) ?_
            refine x_ic_eq (tgt := 60) hC dX9_isSign_33 (by decide) hf (fun hf => ?_) (fun hf => ?_)
            · refine lv_iconst (v := 1) hC.1 hC.2.1 dX9_isSign_60 (by decide) ?_
              refine lv_goto (tgt := 65) hC.1 hC.2.1 dX9_isSign_61 (by decide) ?_
              obtain ⟨h01, hf⟩ := xzc_some hf
              have h9 := Option.some.inj hf
              subst h9
              exact x_zret h01 hC hR hS dX9_isSign_65
            · refine lv_iload_n hC.1 hC.2.1 dX9_isSign_36 rfl (lv_at hl 0 rfl) ?_
              refine lv_bipush (v := 37) hC.1 hC.2.1 dX9_isSign_37 (by decide) ?_
              refine x_ic_eq (tgt := 60) hC dX9_isSign_39 (by decide) hf (fun hf => ?_) (fun hf => ?_)
              · refine lv_iconst (v := 1) hC.1 hC.2.1 dX9_isSign_60 (by decide) ?_
                refine lv_goto (tgt := 65) hC.1 hC.2.1 dX9_isSign_61 (by decide) ?_
                obtain ⟨h01, hf⟩ := xzc_some hf
                have h9 := Option.some.inj hf
                subst h9
                exact x_zret h01 hC hR hS dX9_isSign_65
              · refine lv_iload_n hC.1 hC.2.1 dX9_isSign_42 rfl (lv_at hl 0 rfl) ?_
                refine lv_bipush (v := 61) hC.1 hC.2.1 dX9_isSign_43 (by decide) ?_
                refine x_ic_eq (tgt := 60) hC dX9_isSign_45 (by decide) hf (fun hf => ?_) (fun hf => ?_)
                · refine lv_iconst (v := 1) hC.1 hC.2.1 dX9_isSign_60 (by decide) ?_
                  refine lv_goto (tgt := 65) hC.1 hC.2.1 dX9_isSign_61 (by decide) ?_
                  obtain ⟨h01, hf⟩ := xzc_some hf
                  have h9 := Option.some.inj hf
                  subst h9
                  exact x_zret h01 hC hR hS dX9_isSign_65
                · refine lv_iload_n hC.1 hC.2.1 dX9_isSign_48 rfl (lv_at hl 0 rfl) ?_
                  refine lv_bipush (v := 60) hC.1 hC.2.1 dX9_isSign_49 (by decide) ?_
                  refine x_ic_eq (tgt := 60) hC dX9_isSign_51 (by decide) hf (fun hf => ?_) (fun hf => ?_)
                  · refine lv_iconst (v := 1) hC.1 hC.2.1 dX9_isSign_60 (by decide) ?_
                    refine lv_goto (tgt := 65) hC.1 hC.2.1 dX9_isSign_61 (by decide) ?_
                    obtain ⟨h01, hf⟩ := xzc_some hf
                    have h9 := Option.some.inj hf
                    subst h9
                    exact x_zret h01 hC hR hS dX9_isSign_65
                  · refine lv_iload_n hC.1 hC.2.1 dX9_isSign_54 rfl (lv_at hl 0 rfl) ?_
                    refine lv_bipush (v := 62) hC.1 hC.2.1 dX9_isSign_55 (by decide) ?_
                    refine x_ic_ne (tgt := 64) hC dX9_isSign_57 (by decide) hf (fun hf => ?_) (fun hf => ?_)
                    · refine lv_iconst (v := 0) hC.1 hC.2.1 dX9_isSign_64 (by decide) ?_
                      obtain ⟨h01, hf⟩ := xzc_some hf
                      have h9 := Option.some.inj hf
                      subst h9
                      exact x_zret h01 hC hR hS dX9_isSign_65
                    · refine lv_iconst (v := 1) hC.1 hC.2.1 dX9_isSign_60 (by decide) ?_
                      refine lv_goto (tgt := 65) hC.1 hC.2.1 dX9_isSign_61 (by decide) ?_
                      obtain ⟨h01, hf⟩ := xzc_some hf
                      have h9 := Option.some.inj hf
                      subst h9
                      exact x_zret h01 hC hR hS dX9_isSign_65
set_option maxRecDepth 20000 in
theorem W_X9_takeToken_j134 {G : XG} {l : Launch} {kp : Bool} {p : Program} {e : Env} {s : State} {m : MethodId} {args : Array Value} {below : List Frame} {meth : Method} {c : Code} (hC : xC G p s m args meth c cX9_takeToken 2 RX9 none) (N : Nat) {I : xTI} {L : xTL} {rI : xTI} {t1 : Int32} (hf : F_X9_takeToken_j134 N I t1 = some rI) : ∀ (H : Heap) (locs : List Loc) (ls : Array Slot), xRep G kp I L H → xS G s.heap H locs → lv_has ls 2 [(0, .ref (xz G + 29))] → W p l e (xrm 8 348) s m args below meth c H locs 0 0 (xMQ G kp below args s none rI L) (F0 m 134 ls [.int t1, .ref (xz G + 29)]) := by
  intro H locs ls hR hS hl
  unfold F_X9_takeToken_j134 at hf
  refine x_putI hC xf_X9_31 xp_9_4 (fun f => (xce_29 G kp f _)) rfl (Nat.le_of_ble_eq_true rfl) hR hS dX9_takeToken_134 hf (fun I1 hf H locs hR hS => ?_)
  refine lv_aload_n hC.1 hC.2.1 dX9_takeToken_137 rfl (lv_at hl 0 rfl) ?_
  refine lv_dup hC.1 hC.2.1 dX9_takeToken_138 rfl ?_
  refine x_getI hC xf_X9_22 (xce_29 G kp _ _) rfl hR dX9_takeToken_139 hf (fun v2 hf => ?_)
  refine lv_iconst (v := 1) hC.1 hC.2.1 dX9_takeToken_142 (by decide) ?_
  refine lv_iadd hC.1 hC.2.1 dX9_takeToken_143 ?_
  refine x_putI hC xf_X9_22 xp_9_3 (fun f => (xce_29 G kp f _)) rfl (Nat.le_of_ble_eq_true rfl) hR hS dX9_takeToken_144 hf (fun I3 hf H locs hR hS => ?_)
  have h9 := Option.some.inj hf
  subst h9
  exact x_vret hC hR hS dX9_takeToken_147
set_option maxRecDepth 20000 in
theorem W_X9_takeToken_j120 {G : XG} {l : Launch} {kp : Bool} {p : Program} {e : Env} {s : State} {m : MethodId} {args : Array Value} {below : List Frame} {meth : Method} {c : Code} (hC : xC G p s m args meth c cX9_takeToken 2 RX9 none) (N : Nat) {I : xTI} {L : xTL} {rI : xTI} {x1 : Int32} (hf : F_X9_takeToken_j120 N I x1 = some rI) : ∀ (H : Heap) (locs : List Loc) (ls : Array Slot), xRep G kp I L H → xS G s.heap H locs → lv_has ls 2 [(0, .ref (xz G + 29)), (1, .int x1)] → W p l e (xrm 8 348) s m args below meth c H locs 0 0 (xMQ G kp below args s none rI L) (F0 m 120 ls []) := by
  intro H locs ls hR hS hl
  unfold F_X9_takeToken_j120 at hf
  refine lv_aload_n hC.1 hC.2.1 dX9_takeToken_120 rfl (lv_at hl 0 rfl) ?_
  refine lv_iload_n hC.1 hC.2.1 dX9_takeToken_121 rfl (lv_at hl 1 rfl) ?_
  refine x_csi00 (rest := [.ref (xz G + 29)]) hC xy_X9_isSign tw_777 hf (fun _ h => M_X9_isSign G l kp h) ⟨Nat.le_of_ble_eq_true rfl, Nat.le_of_ble_eq_true rfl⟩ rfl rfl (Nat.le_of_ble_eq_true rfl) hl.1 hR hS dX9_takeToken_122 ⟨Nat.le_refl _, Nat.le_refl _⟩ (fun v1 hf H locs hR hS => ?_)
  refine x_if_eq (tgt := 132) hC dX9_takeToken_125 (by decide) hf (fun hf => ?_) (fun hf => ?_)
  · refine lv_bipush (v := 9) hC.1 hC.2.1 dX9_takeToken_132 (by decide) ?_
    exact W_X9_takeToken_j134 hC N hf _ _ _ hR hS (lv_sub hl [0] rfl)
  · refine lv_iload_n hC.1 hC.2.1 dX9_takeToken_128 rfl (lv_at hl 1 rfl) ?_
    refine lv_goto (tgt := 134) hC.1 hC.2.1 dX9_takeToken_129 (by decide) ?_
    exact W_X9_takeToken_j134 hC N hf _ _ _ hR hS (lv_sub hl [0] rfl)
set_option maxRecDepth 20000 in
theorem W_X9_takeToken_j101 {G : XG} {l : Launch} {kp : Bool} {p : Program} {e : Env} {s : State} {m : MethodId} {args : Array Value} {below : List Frame} {meth : Method} {c : Code} (hC : xC G p s m args meth c cX9_takeToken 2 RX9 none) (N : Nat) {I : xTI} {L : xTL} {rI : xTI} {x1 : Int32} (hf : F_X9_takeToken_j101 N I x1 = some rI) : ∀ (H : Heap) (locs : List Loc) (ls : Array Slot), xRep G kp I L H → xS G s.heap H locs → lv_has ls 2 [(0, .ref (xz G + 29)), (1, .int x1)] → W p l e (xrm 8 348) s m args below meth c H locs 0 0 (xMQ G kp below args s none rI L) (F0 m 101 ls []) := by
  intro H locs ls hR hS hl
  unfold F_X9_takeToken_j101 at hf
  refine lv_iload_n hC.1 hC.2.1 dX9_takeToken_101 rfl (lv_at hl 1 rfl) ?_
  refine lv_bipush (v := 48) hC.1 hC.2.1 dX9_takeToken_102 (by decide) ?_
  refine x_ic_lt (tgt := 120) hC dX9_takeToken_104 (by decide) hf (fun hf => ?_) (fun hf => ?_)
  · exact W_X9_takeToken_j120 hC N hf _ _ _ hR hS (lv_sub hl [0, 1] rfl)
  · refine lv_iload_n hC.1 hC.2.1 dX9_takeToken_107 rfl (lv_at hl 1 rfl) ?_
    refine lv_bipush (v := 57) hC.1 hC.2.1 dX9_takeToken_108 (by decide) ?_
    refine x_ic_gt (tgt := 120) hC dX9_takeToken_110 (by decide) hf (fun hf => ?_) (fun hf => ?_)
    · exact W_X9_takeToken_j120 hC N hf _ _ _ hR hS (lv_sub hl [0, 1] rfl)
    · refine lv_aload_n hC.1 hC.2.1 dX9_takeToken_113 rfl (lv_at hl 0 rfl) ?_
      refine x_cvv10 (rest := []) hC xy_X9_takeNumber tw_773 hf (fun _ h => M_X9_takeNumber G l kp N h) ⟨Nat.le_of_ble_eq_true rfl, Nat.le_of_ble_eq_true rfl⟩ (xce_29 G kp _ _) rfl rfl rfl (Nat.le_of_ble_eq_true rfl) hl.1 hR hS dX9_takeToken_114 ⟨Nat.le_refl _, Nat.le_refl _⟩ (fun I1 hf H locs hR hS => ?_)
      refine lv_goto (tgt := 147) hC.1 hC.2.1 dX9_takeToken_117 (by decide) ?_
      have h9 := Option.some.inj hf
      subst h9
      exact x_vret hC hR hS dX9_takeToken_147
set_option maxRecDepth 20000 in
theorem W_X9_takeToken_j37 {G : XG} {l : Launch} {kp : Bool} {p : Program} {e : Env} {s : State} {m : MethodId} {args : Array Value} {below : List Frame} {meth : Method} {c : Code} (hC : xC G p s m args meth c cX9_takeToken 2 RX9 none) (N : Nat) {I : xTI} {L : xTL} {rI : xTI} (hf : F_X9_takeToken_j37 N I = some rI) : ∀ (H : Heap) (locs : List Loc) (ls : Array Slot), xRep G kp I L H → xS G s.heap H locs → lv_has ls 2 [(0, .ref (xz G + 29))] → W p l e (xrm 8 348) s m args below meth c H locs 0 0 (xMQ G kp below args s none rI L) (F0 m 37 ls []) := by
  intro H locs ls hR hS hl
  unfold F_X9_takeToken_j37 at hf
  refine lv_aload_n hC.1 hC.2.1 dX9_takeToken_37 rfl (lv_at hl 0 rfl) ?_
  refine lv_aload_n hC.1 hC.2.1 dX9_takeToken_38 rfl (lv_at hl 0 rfl) ?_
  refine x_getI hC xf_X9_22 (xce_29 G kp _ _) rfl hR dX9_takeToken_39 hf (fun v1 hf => ?_)
  refine x_putI hC xf_X9_47 xp_9_2 (fun f => (xce_29 G kp f _)) rfl (Nat.le_of_ble_eq_true rfl) hR hS dX9_takeToken_42 hf (fun I2 hf H locs hR hS => ?_)
  refine lv_aload_n hC.1 hC.2.1 dX9_takeToken_45 rfl (lv_at hl 0 rfl) ?_
  refine lv_aload_n hC.1 hC.2.1 dX9_takeToken_46 rfl (lv_at hl 0 rfl) ?_
  refine x_getI hC xf_X9_47 (xce_29 G kp _ _) rfl hR dX9_takeToken_47 hf (fun v3 hf => ?_)
  refine x_cvi00 (rest := []) hC xy_X9_byteAt tw_708 hf (fun _ h => M_X9_byteAt G l kp h) ⟨Nat.le_of_ble_eq_true rfl, Nat.le_of_ble_eq_true rfl⟩ (xce_29 G kp _ _) rfl rfl rfl (Nat.le_of_ble_eq_true rfl) hl.1 hR hS dX9_takeToken_50 ⟨Nat.le_refl _, Nat.le_refl _⟩ (fun v4 hf H locs hR hS => ?_)
  refine lv_istore_n (lv' := [(1, .int v4), (0, .ref (xz G + 29))]) hC.1 hC.2.1 dX9_takeToken_53 rfl hl (Nat.le_of_ble_eq_true rfl) rfl (fun ls hl => ?_)
  refine lv_aload_n hC.1 hC.2.1 dX9_takeToken_54 rfl (lv_at hl 1 rfl) ?_
  refine x_getI hC xf_X9_47 (xce_29 G kp _ _) rfl hR dX9_takeToken_55 hf (fun v5 hf => ?_)
  refine W.eq (g2 := F0 m 58 ls [.int v5]) rfl ?_
  refine lv_aload_n hC.1 hC.2.1 dX9_takeToken_58 rfl (lv_at hl 1 rfl) ?_
  refine x_getI hC xf_X9_18 (xce_29 G kp _ _) rfl hR dX9_takeToken_59 hf (fun v6 hf => ?_)
  refine x_ic_lt (tgt := 74) hC dX9_takeToken_62 (by decide) hf (fun hf => ?_) (fun hf => ?_)
  · refine lv_iload_n hC.1 hC.2.1 dX9_takeToken_74 rfl (lv_at hl 0 rfl) ?_
    refine lv_bipush (v := 97) hC.1 hC.2.1 dX9_takeToken_75 (by decide) ?_
    refine x_ic_lt (tgt := 101) hC dX9_takeToken_77 (by decide) hf (fun hf => ?_) (fun hf => ?_)
    · exact W_X9_takeToken_j101 hC N hf _ _ _ hR hS (lv_sub hl [1, 0] rfl)
    · refine lv_iload_n hC.1 hC.2.1 dX9_takeToken_80 rfl (lv_at hl 0 rfl) ?_
      refine lv_bipush (v := 122) hC.1 hC.2.1 dX9_takeToken_81 (by decide) ?_
      refine x_ic_gt (tgt := 101) hC dX9_takeToken_83 (by decide) hf (fun hf => ?_) (fun hf => ?_)
      · exact W_X9_takeToken_j101 hC N hf _ _ _ hR hS (lv_sub hl [1, 0] rfl)
      · refine lv_aload_n hC.1 hC.2.1 dX9_takeToken_86 rfl (lv_at hl 1 rfl) ?_
        refine x_cvv10 (rest := []) hC xy_X9_skipLetters tw_712 hf (fun _ h => M_X9_skipLetters G l kp N h) ⟨Nat.le_of_ble_eq_true rfl, Nat.le_of_ble_eq_true rfl⟩ (xce_29 G kp _ _) rfl rfl rfl (Nat.le_of_ble_eq_true rfl) hl.1 hR hS dX9_takeToken_87 ⟨Nat.le_refl _, Nat.le_refl _⟩ (fun I7 hf H locs hR hS => ?_)
        refine lv_aload_n hC.1 hC.2.1 dX9_takeToken_90 rfl (lv_at hl 1 rfl) ?_
        refine lv_aload_n hC.1 hC.2.1 dX9_takeToken_91 rfl (lv_at hl 1 rfl) ?_
        refine x_cvi00 (rest := [.ref (xz G + 29)]) hC xy_X9_wordAtHand tw_716 hf (fun _ h => M_X9_wordAtHand G l kp N h) ⟨Nat.le_of_ble_eq_true rfl, Nat.le_of_ble_eq_true rfl⟩ (xce_29 G kp _ _) rfl rfl rfl (Nat.le_of_ble_eq_true rfl) hl.1 hR hS dX9_takeToken_92 ⟨Nat.le_refl _, Nat.le_refl _⟩ (fun v8 hf H locs hR hS => ?_)
        refine x_cvv10 (rest := []) hC xy_X9_takeWord tw_769 hf (fun _ h => M_X9_takeWord G l kp h) ⟨Nat.le_of_ble_eq_true rfl, Nat.le_of_ble_eq_true rfl⟩ (xce_29 G kp _ _) rfl rfl rfl (Nat.le_of_ble_eq_true rfl) hl.1 hR hS dX9_takeToken_95 ⟨Nat.le_refl _, Nat.le_refl _⟩ (fun I9 hf H locs hR hS => ?_)
        refine lv_goto (tgt := 147) hC.1 hC.2.1 dX9_takeToken_98 (by decide) ?_
        have h9 := Option.some.inj hf
        subst h9
        exact x_vret hC hR hS dX9_takeToken_147
  · refine lv_aload_n hC.1 hC.2.1 dX9_takeToken_65 rfl (lv_at hl 1 rfl) ?_
    refine lv_bipush (v := 8) hC.1 hC.2.1 dX9_takeToken_66 (by decide) ?_
    refine x_putI hC xf_X9_31 xp_9_4 (fun f => (xce_29 G kp f _)) rfl (Nat.le_of_ble_eq_true rfl) hR hS dX9_takeToken_68 hf (fun I10 hf H locs hR hS => ?_)
    refine lv_goto (tgt := 147) hC.1 hC.2.1 dX9_takeToken_71 (by decide) ?_
    have h9 := Option.some.inj hf
    subst h9
    exact x_vret hC hR hS dX9_takeToken_147
set_option maxRecDepth 20000 in
theorem W_X9_takeToken_l2 {G : XG} {l : Launch} {kp : Bool} {p : Program} {e : Env} {s : State} {m : MethodId} {args : Array Value} {below : List Frame} {meth : Method} {c : Code} (hC : xC G p s m args meth c cX9_takeToken 2 RX9 none) (N : Nat) {L : xTL} {rI : xTI} : ∀ (n : Nat) (x1 : Int32) (I : xTI) , xlp (F_X9_takeToken_b2 N ) n (x1, I) = some rI → ∀ (H : Heap) (locs : List Loc) (ls : Array Slot), xRep G kp I L H → xS G s.heap H locs → lv_has ls 2 [(0, .ref (xz G + 29)), (1, .int x1)] → W p l e (xrm 8 348) s m args below meth c H locs 0 0 (xMQ G kp below args s none rI L) (F0 m 2 ls []) := by
  intro n
  induction n with
  | zero =>
    intro x1 I hf
    cases hf
  | succ n hk2 =>
    intro x1 I hf H locs ls hR hS hl
    rw [xlp_s, E_X9_takeToken_b2] at hf
    unfold F_X9_takeToken_c2 at hf
    refine lv_iload_n hC.1 hC.2.1 dX9_takeToken_2 rfl (lv_at hl 1 rfl) ?_
    refine lv_bipush (v := 120) hC.1 hC.2.1 dX9_takeToken_3 (by decide) ?_
    refine x_ic_ge (tgt := 37) hC dX9_takeToken_5 (by decide) hf (fun hf => ?_) (fun hf => ?_)
    · exact W_X9_takeToken_j37 hC N hf _ _ _ hR hS (lv_sub hl [0] rfl)
    · refine lv_aload_n hC.1 hC.2.1 dX9_takeToken_8 rfl (lv_at hl 0 rfl) ?_
      refine lv_aload_n hC.1 hC.2.1 dX9_takeToken_9 rfl (lv_at hl 0 rfl) ?_
      refine x_getI hC xf_X9_22 (xce_29 G kp _ _) rfl hR dX9_takeToken_10 hf (fun v1 hf => ?_)
      refine x_cvi00 (rest := []) hC xy_X9_byteAt tw_708 hf (fun _ h => M_X9_byteAt G l kp h) ⟨Nat.le_of_ble_eq_true rfl, Nat.le_of_ble_eq_true rfl⟩ (xce_29 G kp _ _) rfl rfl rfl (Nat.le_of_ble_eq_true rfl) hl.1 hR hS dX9_takeToken_13 ⟨Nat.le_refl _, Nat.le_refl _⟩ (fun v2 hf H locs hR hS => ?_)
      refine lv_bipush (v := 32) hC.1 hC.2.1 dX9_takeToken_16 (by decide) ?_
      refine x_ic_ne (tgt := 37) hC dX9_takeToken_18 (by decide) hf (fun hf => ?_) (fun hf => ?_)
      · exact W_X9_takeToken_j37 hC N hf _ _ _ hR hS (lv_sub hl [0] rfl)
      · refine lv_aload_n hC.1 hC.2.1 dX9_takeToken_21 rfl (lv_at hl 0 rfl) ?_
        refine lv_dup hC.1 hC.2.1 dX9_takeToken_22 rfl ?_
        refine x_getI hC xf_X9_22 (xce_29 G kp _ _) rfl hR dX9_takeToken_23 hf (fun v3 hf => ?_)
        refine lv_iconst (v := 1) hC.1 hC.2.1 dX9_takeToken_26 (by decide) ?_
        refine lv_iadd hC.1 hC.2.1 dX9_takeToken_27 ?_
        refine x_putI hC xf_X9_22 xp_9_3 (fun f => (xce_29 G kp f _)) rfl (Nat.le_of_ble_eq_true rfl) hR hS dX9_takeToken_28 hf (fun I4 hf H locs hR hS => ?_)
        refine x_iinc (d := 1) (lv' := fun y5 => [(1, .int y5), (0, .ref (xz G + 29))]) (k := 1) hC hl dX9_takeToken_31 rfl (by decide) (Nat.le_of_ble_eq_true rfl) hf (fun _ => rfl) (fun y5 hf ls hl => ?_)
        refine lv_goto (tgt := 2) hC.1 hC.2.1 dX9_takeToken_34 (by decide) ?_
        exact hk2 y5 I4 hf _ _ _ hR hS (lv_sub hl [1, 0] rfl)
set_option maxRecDepth 20000 in
theorem M_X9_takeToken (G : XG) (l : Launch) (kp : Bool) (N : Nat) {I : xTI} {L : xTL} {rI : xTI} (hf : F_X9_takeToken N I = some rI) : xMet G l yX9_takeToken cX9_takeToken 2 none 8 348 kp [.ref (xz G + 29)] I L none rI L := by
  refine xMet.ofW (by decide +kernel) (Nat.le_of_ble_eq_true rfl) ?_
  intro p e s m args below meth c hC H locs ls hR hS hl
  replace hC : xC G p s m args meth c cX9_takeToken 2 RX9 none := hC
  replace hl : lv_has ls 2 [(0, .ref (xz G + 29))] := hl
  unfold F_X9_takeToken at hf
  refine lv_iconst (v := 0) hC.1 hC.2.1 dX9_takeToken_0 (by decide) ?_
  refine lv_istore_n (lv' := [(1, .int 0), (0, .ref (xz G + 29))]) hC.1 hC.2.1 dX9_takeToken_1 rfl hl (Nat.le_of_ble_eq_true rfl) rfl (fun ls hl => ?_)
  exact W_X9_takeToken_l2 hC N _ 0 I hf _ _ _ hR hS (lv_sub hl [1, 0] rfl)
set_option maxRecDepth 20000 in
theorem M_X9_joins (G : XG) (l : Launch) (kp : Bool) {I : xTI} {L : xTL} {x1 : Int32} {r : Int32} (hf : F_X9_joins I x1 = some r) : xMet G l yX9_joins cX9_joins 2 (some .boolean) 0 0 kp [.ref (xz G + 29), .int x1] I L (some (.int r)) I L := by
  refine xMet.ofW (by decide +kernel) (Nat.le_of_ble_eq_true rfl) ?_
  intro p e s m args below meth c hC H locs ls hR hS hl
  replace hC : xC G p s m args meth c cX9_joins 2 RX9 (some .boolean) := hC
  replace hl : lv_has ls 2 [(0, .ref (xz G + 29)), (1, .int x1)] := hl
  unfold F_X9_joins at hf
  refine lv_iload_n hC.1 hC.2.1 dX9_joins_0 rfl (lv_at hl 1 rfl) ?_
  try dsimp only at hf
  by_cases hc : x1 = 0
  · rw [if_pos hc] at hf
    refine x_tsi (tgt := 32) hC dX9_joins_1 hc (by decide +kernel) ?_
    refine lv_aload_n hC.1 hC.2.1 dX9_joins_32 rfl (lv_at hl 0 rfl) ?_
    refine x_getI hC xf_X9_31 (xce_29 G kp _ _) rfl hR dX9_joins_33 hf (fun v1 hf => ?_)
    refine lv_iconst (v := 5) hC.1 hC.2.1 dX9_joins_36 (by decide) ?_
    refine x_ic_ne (tgt := 44) hC dX9_joins_37 (by decide) hf (fun hf => ?_) (fun hf => ?_)
    · refine lv_iconst (v := 0) hC.1 hC.2.1 dX9_joins_44 (by decide) ?_
      obtain ⟨h01, hf⟩ := xzc_some hf
      have h9 := Option.some.inj hf
      subst h9
      exact x_zret h01 hC hR hS dX9_joins_45
    · refine lv_iconst (v := 1) hC.1 hC.2.1 dX9_joins_40 (by decide) ?_
      refine lv_goto (tgt := 45) hC.1 hC.2.1 dX9_joins_41 (by decide) ?_
      obtain ⟨h01, hf⟩ := xzc_some hf
      have h9 := Option.some.inj hf
      subst h9
      exact x_zret h01 hC hR hS dX9_joins_45
  rw [if_neg hc] at hf
  have hc0 := hc
  clear hc
  by_cases hc : x1 = 1
  · rw [if_pos hc] at hf
    refine x_tsi (tgt := 46) hC dX9_joins_1 hc (by decide +kernel) ?_
    refine lv_aload_n hC.1 hC.2.1 dX9_joins_46 rfl (lv_at hl 0 rfl) ?_
    refine x_getI hC xf_X9_31 (xce_29 G kp _ _) rfl hR dX9_joins_47 hf (fun v2 hf => ?_)
    refine lv_bipush (v := 6) hC.1 hC.2.1 dX9_joins_50 (by decide) ?_
    refine x_ic_ne (tgt := 59) hC dX9_joins_52 (by decide) hf (fun hf => ?_) (fun hf => ?_)
    · refine lv_iconst (v := 0) hC.1 hC.2.1 dX9_joins_59 (by decide) ?_
      obtain ⟨h01, hf⟩ := xzc_some hf
      have h9 := Option.some.inj hf
      subst h9
      exact x_zret h01 hC hR hS dX9_joins_60
    · refine lv_iconst (v := 1) hC.1 hC.2.1 dX9_joins_55 (by decide) ?_
      refine lv_goto (tgt := 60) hC.1 hC.2.1 dX9_joins_56 (by decide) ?_
      obtain ⟨h01, hf⟩ := xzc_some hf
      have h9 := Option.some.inj hf
      subst h9
      exact x_zret h01 hC hR hS dX9_joins_60
  rw [if_neg hc] at hf
  have hc1 := hc
  clear hc
  by_cases hc : x1 = 2
  · rw [if_pos hc] at hf
    refine x_tsi (tgt := 61) hC dX9_joins_1 hc (by decide +kernel) ?_
    refine lv_aload_n hC.1 hC.2.1 dX9_joins_61 rfl (lv_at hl 0 rfl) ?_
    refine x_getI hC xf_X9_31 (xce_29 G kp _ _) rfl hR dX9_joins_62 hf (fun v3 hf => ?_)
    refine lv_bipush (v := 61) hC.1 hC.2.1 dX9_joins_65 (by decide) ?_
    refine x_ic_eq (tgt := 88) hC dX9_joins_67 (by decide) hf (fun hf => ?_) (fun hf => ?_)
    · refine lv_iconst (v := 1) hC.1 hC.2.1 dX9_joins_88 (by decide) ?_
      refine lv_goto (tgt := 93) hC.1 hC.2.1 dX9_joins_89 (by decide) ?_
      obtain ⟨h01, hf⟩ := xzc_some hf
      have h9 := Option.some.inj hf
      subst h9
      exact x_zret h01 hC hR hS dX9_joins_93
    · refine lv_aload_n hC.1 hC.2.1 dX9_joins_70 rfl (lv_at hl 0 rfl) ?_
      refine x_getI hC xf_X9_31 (xce_29 G kp _ _) rfl hR dX9_joins_71 hf (fun v4 hf => ?_)
      refine lv_bipush (v := 60) hC.1 hC.2.1 dX9_joins_74 (by decide) ?_
      refine x_ic_eq (tgt := 88) hC dX9_joins_76 (by decide) hf (fun hf => ?_) (fun hf => ?_)
      · refine lv_iconst (v := 1) hC.1 hC.2.1 dX9_joins_88 (by decide) ?_
        refine lv_goto (tgt := 93) hC.1 hC.2.1 dX9_joins_89 (by decide) ?_
        obtain ⟨h01, hf⟩ := xzc_some hf
        have h9 := Option.some.inj hf
        subst h9
        exact x_zret h01 hC hR hS dX9_joins_93
      · refine lv_aload_n hC.1 hC.2.1 dX9_joins_79 rfl (lv_at hl 0 rfl) ?_
        refine x_getI hC xf_X9_31 (xce_29 G kp _ _) rfl hR dX9_joins_80 hf (fun v5 hf => ?_)
        refine lv_bipush (v := 62) hC.1 hC.2.1 dX9_joins_83 (by decide) ?_
        refine x_ic_ne (tgt := 92) hC dX9_joins_85 (by decide) hf (fun hf => ?_) (fun hf => ?_)
        · refine lv_iconst (v := 0) hC.1 hC.2.1 dX9_joins_92 (by decide) ?_
          obtain ⟨h01, hf⟩ := xzc_some hf
          have h9 := Option.some.inj hf
          subst h9
          exact x_zret h01 hC hR hS dX9_joins_93
        · refine lv_iconst (v := 1) hC.1 hC.2.1 dX9_joins_88 (by decide) ?_
          refine lv_goto (tgt := 93) hC.1 hC.2.1 dX9_joins_89 (by decide) ?_
          obtain ⟨h01, hf⟩ := xzc_some hf
          have h9 := Option.some.inj hf
          subst h9
          exact x_zret h01 hC hR hS dX9_joins_93
  rw [if_neg hc] at hf
  have hc2 := hc
  clear hc
  by_cases hc : x1 = 3
  · rw [if_pos hc] at hf
    refine x_tsi (tgt := 94) hC dX9_joins_1 hc (by decide +kernel) ?_
    refine lv_aload_n hC.1 hC.2.1 dX9_joins_94 rfl (lv_at hl 0 rfl) ?_
    refine x_getI hC xf_X9_31 (xce_29 G kp _ _) rfl hR dX9_joins_95 hf (fun v6 hf => ?_)
    refine lv_bipush (v := 43) hC.1 hC.2.1 dX9_joins_98 (by decide) ?_
    refine x_ic_eq (tgt := 112) hC dX9_joins_100 (by decide) hf (fun hf => ?_) (fun hf => ?_)
    · refine lv_iconst (v := 1) hC.1 hC.2.1 dX9_joins_112 (by decide) ?_
      refine lv_goto (tgt := 117) hC.1 hC.2.1 dX9_joins_113 (by decide) ?_
      obtain ⟨h01, hf⟩ := xzc_some hf
      have h9 := Option.some.inj hf
      subst h9
      exact x_zret h01 hC hR hS dX9_joins_117
    · refine lv_aload_n hC.1 hC.2.1 dX9_joins_103 rfl (lv_at hl 0 rfl) ?_
      refine x_getI hC xf_X9_31 (xce_29 G kp _ _) rfl hR dX9_joins_104 hf (fun v7 hf => ?_)
      refine lv_bipush (v := 45) hC.1 hC.2.1 dX9_joins_107 (by decide) ?_
      refine x_ic_ne (tgt := 116) hC dX9_joins_109 (by decide) hf (fun hf => ?_) (fun hf => ?_)
      · refine lv_iconst (v := 0) hC.1 hC.2.1 dX9_joins_116 (by decide) ?_
        obtain ⟨h01, hf⟩ := xzc_some hf
        have h9 := Option.some.inj hf
        subst h9
        exact x_zret h01 hC hR hS dX9_joins_117
      · refine lv_iconst (v := 1) hC.1 hC.2.1 dX9_joins_112 (by decide) ?_
        refine lv_goto (tgt := 117) hC.1 hC.2.1 dX9_joins_113 (by decide) ?_
        obtain ⟨h01, hf⟩ := xzc_some hf
        have h9 := Option.some.inj hf
        subst h9
        exact x_zret h01 hC hR hS dX9_joins_117
  rw [if_neg hc] at hf
  have hc3 := hc
  clear hc
  have e0 : (x1).toInt ≠ 0 := fun h => hc0 (Int32.toInt_inj.mp (h.trans (by decide)))
  have e1 : (x1).toInt ≠ 1 := fun h => hc1 (Int32.toInt_inj.mp (h.trans (by decide)))
  have e2 : (x1).toInt ≠ 2 := fun h => hc2 (Int32.toInt_inj.mp (h.trans (by decide)))
  have e3 : (x1).toInt ≠ 3 := fun h => hc3 (Int32.toInt_inj.mp (h.trans (by decide)))
  refine x_tso (tgt := 118) hC dX9_joins_1 (by omega) (by decide) ?_
  refine lv_aload_n hC.1 hC.2.1 dX9_joins_118 rfl (lv_at hl 0 rfl) ?_
  refine x_getI hC xf_X9_31 (xce_29 G kp _ _) rfl hR dX9_joins_119 hf (fun v8 hf => ?_)
  refine lv_bipush (v := 42) hC.1 hC.2.1 dX9_joins_122 (by decide) ?_
  refine x_ic_eq (tgt := 145) hC dX9_joins_124 (by decide) hf (fun hf => ?_) (fun hf => ?_)
  · refine lv_iconst (v := 1) hC.1 hC.2.1 dX9_joins_145 (by decide) ?_
    refine lv_goto (tgt := 150) hC.1 hC.2.1 dX9_joins_146 (by decide) ?_
    obtain ⟨h01, hf⟩ := xzc_some hf
    have h9 := Option.some.inj hf
    subst h9
    exact x_zret h01 hC hR hS dX9_joins_150
  · refine lv_aload_n hC.1 hC.2.1 dX9_joins_127 rfl (lv_at hl 0 rfl) ?_
    refine x_getI hC xf_X9_31 (xce_29 G kp _ _) rfl hR dX9_joins_128 hf (fun v9 hf => ?_)
    refine lv_bipush (v := 47) hC.1 hC.2.1 dX9_joins_131 (by decide) ?_
    refine x_ic_eq (tgt := 145) hC dX9_joins_133 (by decide) hf (fun hf => ?_) (fun hf => ?_)
    · refine lv_iconst (v := 1) hC.1 hC.2.1 dX9_joins_145 (by decide) ?_
      refine lv_goto (tgt := 150) hC.1 hC.2.1 dX9_joins_146 (by decide) ?_
      obtain ⟨h01, hf⟩ := xzc_some hf
      have h9 := Option.some.inj hf
      subst h9
      exact x_zret h01 hC hR hS dX9_joins_150
    · refine lv_aload_n hC.1 hC.2.1 dX9_joins_136 rfl (lv_at hl 0 rfl) ?_
      refine x_getI hC xf_X9_31 (xce_29 G kp _ _) rfl hR dX9_joins_137 hf (fun v10 hf => ?_)
      refine lv_bipush (v := 37) hC.1 hC.2.1 dX9_joins_140 (by decide) ?_
      refine x_ic_ne (tgt := 149) hC dX9_joins_142 (by decide) hf (fun hf => ?_) (fun hf => ?_)
      · refine lv_iconst (v := 0) hC.1 hC.2.1 dX9_joins_149 (by decide) ?_
        obtain ⟨h01, hf⟩ := xzc_some hf
        have h9 := Option.some.inj hf
        subst h9
        exact x_zret h01 hC hR hS dX9_joins_150
      · refine lv_iconst (v := 1) hC.1 hC.2.1 dX9_joins_145 (by decide) ?_
        refine lv_goto (tgt := 150) hC.1 hC.2.1 dX9_joins_146 (by decide) ?_
        obtain ⟨h01, hf⟩ := xzc_some hf
        have h9 := Option.some.inj hf
        subst h9
        exact x_zret h01 hC hR hS dX9_joins_150
set_option maxRecDepth 20000 in
theorem M_X9_emit (G : XG) (l : Launch) (kp : Bool) {I : xTI} {L : xTL} {x1 : Int32} {rI : xTI} (hf : F_X9_emit I x1 = some rI) : xMet G l yX9_emit cX9_emit 2 none 0 0 kp [.ref (xz G + 29), .int x1] I L none rI L := by
  refine xMet.ofW (by decide +kernel) (Nat.le_of_ble_eq_true rfl) ?_
  intro p e s m args below meth c hC H locs ls hR hS hl
  replace hC : xC G p s m args meth c cX9_emit 2 RX9 none := hC
  replace hl : lv_has ls 2 [(0, .ref (xz G + 29)), (1, .int x1)] := hl
  unfold F_X9_emit at hf
  refine lv_aload_n hC.1 hC.2.1 dX9_emit_0 rfl (lv_at hl 0 rfl) ?_
  refine x_getI hC xf_X9_25 (xce_29 G kp _ _) rfl hR dX9_emit_1 hf (fun v1 hf => ?_)
  refine lv_bipush (v := 120) hC.1 hC.2.1 dX9_emit_4 (by decide) ?_
  refine x_ic_ge (tgt := 29) hC dX9_emit_6 (by decide) hf (fun hf => ?_) (fun hf => ?_)
  · have h9 := Option.some.inj hf
    subst h9
    exact x_vret hC hR hS dX9_emit_29
  · refine lv_aload_n hC.1 hC.2.1 dX9_emit_9 rfl (lv_at hl 0 rfl) ?_
    refine x_get (v := .ref (xz G + 31)) hC xf_X9_15 (xce_29 G kp _ _) rfl hR dX9_emit_10 ?_
    refine lv_aload_n hC.1 hC.2.1 dX9_emit_13 rfl (lv_at hl 0 rfl) ?_
    refine x_getI hC xf_X9_25 (xce_29 G kp _ _) rfl hR dX9_emit_14 hf (fun v2 hf => ?_)
    refine lv_iload_n hC.1 hC.2.1 dX9_emit_17 rfl (lv_at hl 1 rfl) ?_
    refine x_ias hC (fun f => (xce_31 G kp f _)) hR hS dX9_emit_18 hf (fun I3 hf H locs hR hS => ?_)
    refine lv_aload_n hC.1 hC.2.1 dX9_emit_19 rfl (lv_at hl 0 rfl) ?_
    refine lv_dup hC.1 hC.2.1 dX9_emit_20 rfl ?_
    refine x_getI hC xf_X9_25 (xce_29 G kp _ _) rfl hR dX9_emit_21 hf (fun v4 hf => ?_)
    refine lv_iconst (v := 1) hC.1 hC.2.1 dX9_emit_24 (by decide) ?_
    refine lv_iadd hC.1 hC.2.1 dX9_emit_25 ?_
    refine W.eq (g2 := F0 m 26 ls [.int (v4 + 1), .ref (xz G + 29)]) rfl ?_
    refine x_putI hC xf_X9_25 xp_9_8 (fun f => (xce_29 G kp f _)) rfl (Nat.le_of_ble_eq_true rfl) hR hS dX9_emit_26 hf (fun I5 hf H locs hR hS => ?_)
    have h9 := Option.some.inj hf
    subst h9
    exact x_vret hC hR hS dX9_emit_29


set_option maxRecDepth 20000 in
theorem W_X9_readLevel_l59 {G : XG} {l : Launch} {kp : Bool} {p : Program} {e : Env} {s : State} {m : MethodId} {args : Array Value} {below : List Frame} {meth : Method} {c : Code} (hC : xC G p s m args meth c cX9_readLevel 7 RX9 (some .boolean)) (N : Nat) {d : Nat} {c0 : xTI → Int32 → Int32 → Option (Int32 × xTI)} {c1 : xTI → Int32 → Option (Int32 × xTI)} {c2 : xTI → Int32 → Int32 → Int32 → Option (Int32 × xTI)} (hc0 : ∀ {I : xTI} {L : xTL} {x1 : Int32} {x2 : Int32} {r : Int32} {rI : xTI} , c0 I x1 x2 = some (r, rI) → xMet G l yX9_readLevel cX9_readLevel 7 (some .boolean) (9 + d) (369 + 26 * d) kp [.ref (xz G + 29), .int x1, .int x2] I L (some (.int r)) rI L) (hc1 : ∀ {I : xTI} {L : xTL} {x1 : Int32} {r : Int32} {rI : xTI} , c1 I x1 = some (r, rI) → xMet G l yX9_readOne cX9_readOne 2 (some .boolean) (9 + d) (369 + 26 * d) kp [.ref (xz G + 29), .int x1] I L (some (.int r)) rI L) (hc2 : ∀ {I : xTI} {L : xTL} {x1 : Int32} {x2 : Int32} {x3 : Int32} {r : Int32} {rI : xTI} , c2 I x1 x2 x3 = some (r, rI) → xMet G l yX9_readOpened cX9_readOpened 5 (some .boolean) (9 + d) (369 + 26 * d) kp [.ref (xz G + 29), .int x1, .int x2, .int x3] I L (some (.int r)) rI L) {L : xTL} {r : Int32} {rI : xTI} {x1 : Int32} {x2 : Int32} {x4 : Int32} : ∀ (n : Nat) (x3 : Int32) (x5 : Int32) (I : xTI) , xlp (F_X9_readLevel_b59 c0 c1 c2 N x1 x2 x4 ) n (x3, x5, I) = some (r, rI) → ∀ (H : Heap) (locs : List Loc) (ls : Array Slot), xRep G kp I L H → xS G s.heap H locs → lv_has ls 7 [(0, .ref (xz G + 29)), (1, .int x1), (2, .int x2), (3, .int x3), (4, .int x4), (5, .int x5)] → W p l e (xrm (9 + (d + 1)) (369 + 26 * (d + 1))) s m args below meth c H locs 0 0 (xMQ G kp below args s (some (.int r)) rI L) (F0 m 59 ls []) := by
  intro n
  induction n with
  | zero =>
    intro x3 x5 I hf
    cases hf
  | succ n hk59 =>
    intro x3 x5 I hf H locs ls hR hS hl
    rw [xlp_s, E_X9_readLevel_b59] at hf
    unfold F_X9_readLevel_c59 at hf
    refine lv_iload hC.1 hC.2.1 dX9_readLevel_59 (lv_at hl 5 rfl) ?_
    refine lv_iload hC.1 hC.2.1 dX9_readLevel_61 (lv_at hl 4 rfl) ?_
    refine x_ic_ge (tgt := 112) hC dX9_readLevel_63 (by decide) hf (fun hf => ?_) (fun hf => ?_)
    · refine lv_iload_n hC.1 hC.2.1 dX9_readLevel_112 rfl (lv_at hl 3 rfl) ?_
      obtain ⟨h01, hf⟩ := xzc_some hf
      obtain ⟨h91, h92⟩ := Prod.mk.inj (Option.some.inj hf)
      subst h91
      subst h92
      exact x_zret h01 hC hR hS dX9_readLevel_113
    · refine lv_iload_n hC.1 hC.2.1 dX9_readLevel_66 rfl (lv_at hl 3 rfl) ?_
      refine x_if_eq (tgt := 112) hC dX9_readLevel_67 (by decide) hf (fun hf => ?_) (fun hf => ?_)
      · refine lv_iload_n hC.1 hC.2.1 dX9_readLevel_112 rfl (lv_at hl 3 rfl) ?_
        obtain ⟨h01, hf⟩ := xzc_some hf
        obtain ⟨h91, h92⟩ := Prod.mk.inj (Option.some.inj hf)
        subst h91
        subst h92
        exact x_zret h01 hC hR hS dX9_readLevel_113
      · refine lv_aload_n hC.1 hC.2.1 dX9_readLevel_70 rfl (lv_at hl 0 rfl) ?_
        refine lv_iload_n hC.1 hC.2.1 dX9_readLevel_71 rfl (lv_at hl 1 rfl) ?_
        refine x_cvi00 (rest := []) hC xy_X9_joins tw_796 hf (fun _ h => M_X9_joins G l kp h) ⟨by show _ ≤ _; dsimp only; omega, by show _ ≤ _; dsimp only; omega⟩ (xce_29 G kp _ _) rfl rfl rfl (Nat.le_of_ble_eq_true rfl) hl.1 hR hS dX9_readLevel_72 ⟨Nat.le_refl _, Nat.le_refl _⟩ (fun v1 hf H locs hR hS => ?_)
        refine x_if_eq (tgt := 112) hC dX9_readLevel_75 (by decide) hf (fun hf => ?_) (fun hf => ?_)
        · refine lv_iload_n hC.1 hC.2.1 dX9_readLevel_112 rfl (lv_at hl 3 rfl) ?_
          obtain ⟨h01, hf⟩ := xzc_some hf
          obtain ⟨h91, h92⟩ := Prod.mk.inj (Option.some.inj hf)
          subst h91
          subst h92
          exact x_zret h01 hC hR hS dX9_readLevel_113
        · refine lv_aload_n hC.1 hC.2.1 dX9_readLevel_78 rfl (lv_at hl 0 rfl) ?_
          refine x_getI hC xf_X9_31 (xce_29 G kp _ _) rfl hR dX9_readLevel_79 hf (fun v2 hf => ?_)
          refine lv_istore (lv' := [(6, .int v2), (0, .ref (xz G + 29)), (1, .int x1), (2, .int x2), (3, .int x3), (4, .int x4), (5, .int x5)]) hC.1 hC.2.1 dX9_readLevel_82 hl (Nat.le_of_ble_eq_true rfl) rfl (fun ls hl => ?_)
          refine lv_aload_n hC.1 hC.2.1 dX9_readLevel_84 rfl (lv_at hl 1 rfl) ?_
          refine x_cvv10 (rest := []) hC xy_X9_takeToken tw_704 hf (fun _ h => M_X9_takeToken G l kp N h) ⟨by show _ ≤ _; dsimp only; omega, by show _ ≤ _; dsimp only; omega⟩ (xce_29 G kp _ _) rfl rfl rfl (Nat.le_of_ble_eq_true rfl) hl.1 hR hS dX9_readLevel_85 ⟨Nat.le_refl _, Nat.le_refl _⟩ (fun I3 hf H locs hR hS => ?_)
          refine lv_aload_n hC.1 hC.2.1 dX9_readLevel_88 rfl (lv_at hl 1 rfl) ?_
          refine lv_iload_n hC.1 hC.2.1 dX9_readLevel_89 rfl (lv_at hl 2 rfl) ?_
          refine lv_iconst (v := 1) hC.1 hC.2.1 dX9_readLevel_90 (by decide) ?_
          refine lv_iadd hC.1 hC.2.1 dX9_readLevel_91 ?_
          refine lv_iload_n hC.1 hC.2.1 dX9_readLevel_92 rfl (lv_at hl 3 rfl) ?_
          refine x_cvi10 (rest := []) hC xy_X9_readLevel tw_780 hf (fun _ _ h => hc0 h) ⟨by show _ ≤ _; dsimp only; omega, by show _ ≤ _; dsimp only; omega⟩ (xce_29 G kp _ _) rfl rfl rfl (Nat.le_of_ble_eq_true rfl) hl.1 hR hS dX9_readLevel_93 ⟨Nat.le_refl _, Nat.le_refl _⟩ (fun v4 I5 hf H locs hR hS => ?_)
          refine W.eq (g2 := F0 m 96 ls [.int v4]) rfl ?_
          refine lv_istore_n (lv' := [(3, .int v4), (6, .int v2), (0, .ref (xz G + 29)), (1, .int x1), (2, .int x2), (4, .int x4), (5, .int x5)]) hC.1 hC.2.1 dX9_readLevel_96 rfl hl (Nat.le_of_ble_eq_true rfl) rfl (fun ls hl => ?_)
          refine lv_aload_n hC.1 hC.2.1 dX9_readLevel_97 rfl (lv_at hl 2 rfl) ?_
          refine lv_bipush (v := (-100)) hC.1 hC.2.1 dX9_readLevel_98 (by decide) ?_
          refine lv_iload hC.1 hC.2.1 dX9_readLevel_100 (lv_at hl 1 rfl) ?_
          refine lv_isub hC.1 hC.2.1 dX9_readLevel_102 ?_
          refine x_cvv10 (rest := []) hC xy_X9_emit tw_788 hf (fun _ h => M_X9_emit G l kp h) ⟨by show _ ≤ _; dsimp only; omega, by show _ ≤ _; dsimp only; omega⟩ (xce_29 G kp _ _) rfl rfl rfl (Nat.le_of_ble_eq_true rfl) hl.1 hR hS dX9_readLevel_103 ⟨Nat.le_refl _, Nat.le_refl _⟩ (fun I6 hf H locs hR hS => ?_)
          refine x_iinc (d := 1) (lv' := fun y7 => [(5, .int y7), (3, .int v4), (6, .int v2), (0, .ref (xz G + 29)), (1, .int x1), (2, .int x2), (4, .int x4)]) (k := 6) hC hl dX9_readLevel_106 rfl (by decide) (Nat.le_of_ble_eq_true rfl) hf (fun _ => rfl) (fun y7 hf ls hl => ?_)
          refine lv_goto (tgt := 59) hC.1 hC.2.1 dX9_readLevel_109 (by decide) ?_
          exact hk59 v4 y7 I6 hf _ _ _ hR hS (lv_sub hl [3, 4, 5, 1, 6, 0] rfl)
set_option maxRecDepth 20000 in
theorem W_X9_readLevel_j34 {G : XG} {l : Launch} {kp : Bool} {p : Program} {e : Env} {s : State} {m : MethodId} {args : Array Value} {below : List Frame} {meth : Method} {c : Code} (hC : xC G p s m args meth c cX9_readLevel 7 RX9 (some .boolean)) (N : Nat) {d : Nat} {c0 : xTI → Int32 → Int32 → Option (Int32 × xTI)} {c1 : xTI → Int32 → Option (Int32 × xTI)} {c2 : xTI → Int32 → Int32 → Int32 → Option (Int32 × xTI)} (hc0 : ∀ {I : xTI} {L : xTL} {x1 : Int32} {x2 : Int32} {r : Int32} {rI : xTI} , c0 I x1 x2 = some (r, rI) → xMet G l yX9_readLevel cX9_readLevel 7 (some .boolean) (9 + d) (369 + 26 * d) kp [.ref (xz G + 29), .int x1, .int x2] I L (some (.int r)) rI L) (hc1 : ∀ {I : xTI} {L : xTL} {x1 : Int32} {r : Int32} {rI : xTI} , c1 I x1 = some (r, rI) → xMet G l yX9_readOne cX9_readOne 2 (some .boolean) (9 + d) (369 + 26 * d) kp [.ref (xz G + 29), .int x1] I L (some (.int r)) rI L) (hc2 : ∀ {I : xTI} {L : xTL} {x1 : Int32} {x2 : Int32} {x3 : Int32} {r : Int32} {rI : xTI} , c2 I x1 x2 x3 = some (r, rI) → xMet G l yX9_readOpened cX9_readOpened 5 (some .boolean) (9 + d) (369 + 26 * d) kp [.ref (xz G + 29), .int x1, .int x2, .int x3] I L (some (.int r)) rI L) {I : xTI} {L : xTL} {r : Int32} {rI : xTI} {x1 : Int32} {x2 : Int32} (hf : F_X9_readLevel_j34 c0 c1 c2 N I x1 x2 = some (r, rI)) : ∀ (H : Heap) (locs : List Loc) (ls : Array Slot), xRep G kp I L H → xS G s.heap H locs → lv_has ls 7 [(0, .ref (xz G + 29)), (1, .int x1), (2, .int x2)] → W p l e (xrm (9 + (d + 1)) (369 + 26 * (d + 1))) s m args below meth c H locs 0 0 (xMQ G kp below args s (some (.int r)) rI L) (F0 m 34 ls []) := by
  intro H locs ls hR hS hl
  unfold F_X9_readLevel_j34 at hf
  refine lv_aload_n hC.1 hC.2.1 dX9_readLevel_34 rfl (lv_at hl 0 rfl) ?_
  refine lv_iload_n hC.1 hC.2.1 dX9_readLevel_35 rfl (lv_at hl 1 rfl) ?_
  refine lv_iconst (v := 1) hC.1 hC.2.1 dX9_readLevel_36 (by decide) ?_
  refine lv_iadd hC.1 hC.2.1 dX9_readLevel_37 ?_
  refine lv_iload_n hC.1 hC.2.1 dX9_readLevel_38 rfl (lv_at hl 2 rfl) ?_
  refine x_cvi10 (rest := []) hC xy_X9_readLevel tw_780 hf (fun _ _ h => hc0 h) ⟨by show _ ≤ _; dsimp only; omega, by show _ ≤ _; dsimp only; omega⟩ (xce_29 G kp _ _) rfl rfl rfl (Nat.le_of_ble_eq_true rfl) hl.1 hR hS dX9_readLevel_39 ⟨Nat.le_refl _, Nat.le_refl _⟩ (fun v1 I2 hf H locs hR hS => ?_)
  refine lv_istore_n (lv' := [(3, .int v1), (0, .ref (xz G + 29)), (1, .int x1), (2, .int x2)]) hC.1 hC.2.1 dX9_readLevel_42 rfl hl (Nat.le_of_ble_eq_true rfl) rfl (fun ls hl => ?_)
  refine lv_iload_n hC.1 hC.2.1 dX9_readLevel_43 rfl (lv_at hl 2 rfl) ?_
  refine lv_iconst (v := 2) hC.1 hC.2.1 dX9_readLevel_44 (by decide) ?_
  refine x_ic_ne (tgt := 52) hC dX9_readLevel_45 (by decide) hf (fun hf => ?_) (fun hf => ?_)
  · refine lv_bipush (v := 120) hC.1 hC.2.1 dX9_readLevel_52 (by decide) ?_
    refine lv_istore (lv' := [(4, .int 120), (3, .int v1), (0, .ref (xz G + 29)), (1, .int x1), (2, .int x2)]) hC.1 hC.2.1 dX9_readLevel_54 hl (Nat.le_of_ble_eq_true rfl) rfl (fun ls hl => ?_)
    refine lv_iconst (v := 0) hC.1 hC.2.1 dX9_readLevel_56 (by decide) ?_
    refine lv_istore (lv' := [(5, .int 0), (4, .int 120), (3, .int v1), (0, .ref (xz G + 29)), (1, .int x1), (2, .int x2)]) hC.1 hC.2.1 dX9_readLevel_57 hl (Nat.le_of_ble_eq_true rfl) rfl (fun ls hl => ?_)
    exact W_X9_readLevel_l59 hC N hc0 hc1 hc2 _ v1 0 I2 hf _ _ _ hR hS (lv_sub hl [3, 4, 5, 2, 1, 0] rfl)
  · refine lv_iconst (v := 1) hC.1 hC.2.1 dX9_readLevel_48 (by decide) ?_
    refine lv_goto (tgt := 54) hC.1 hC.2.1 dX9_readLevel_49 (by decide) ?_
    refine lv_istore (lv' := [(4, .int 1), (3, .int v1), (0, .ref (xz G + 29)), (1, .int x1), (2, .int x2)]) hC.1 hC.2.1 dX9_readLevel_54 hl (Nat.le_of_ble_eq_true rfl) rfl (fun ls hl => ?_)
    refine lv_iconst (v := 0) hC.1 hC.2.1 dX9_readLevel_56 (by decide) ?_
    refine lv_istore (lv' := [(5, .int 0), (4, .int 1), (3, .int v1), (0, .ref (xz G + 29)), (1, .int x1), (2, .int x2)]) hC.1 hC.2.1 dX9_readLevel_57 hl (Nat.le_of_ble_eq_true rfl) rfl (fun ls hl => ?_)
    exact W_X9_readLevel_l59 hC N hc0 hc1 hc2 _ v1 0 I2 hf _ _ _ hR hS (lv_sub hl [3, 4, 5, 2, 1, 0] rfl)
set_option maxRecDepth 20000 in
theorem M_X9_readLevel_B (G : XG) (l : Launch) (kp : Bool) (N : Nat) {d : Nat} {c0 : xTI → Int32 → Int32 → Option (Int32 × xTI)} {c1 : xTI → Int32 → Option (Int32 × xTI)} {c2 : xTI → Int32 → Int32 → Int32 → Option (Int32 × xTI)} (hc0 : ∀ {I : xTI} {L : xTL} {x1 : Int32} {x2 : Int32} {r : Int32} {rI : xTI} , c0 I x1 x2 = some (r, rI) → xMet G l yX9_readLevel cX9_readLevel 7 (some .boolean) (9 + d) (369 + 26 * d) kp [.ref (xz G + 29), .int x1, .int x2] I L (some (.int r)) rI L) (hc1 : ∀ {I : xTI} {L : xTL} {x1 : Int32} {r : Int32} {rI : xTI} , c1 I x1 = some (r, rI) → xMet G l yX9_readOne cX9_readOne 2 (some .boolean) (9 + d) (369 + 26 * d) kp [.ref (xz G + 29), .int x1] I L (some (.int r)) rI L) (hc2 : ∀ {I : xTI} {L : xTL} {x1 : Int32} {x2 : Int32} {x3 : Int32} {r : Int32} {rI : xTI} , c2 I x1 x2 x3 = some (r, rI) → xMet G l yX9_readOpened cX9_readOpened 5 (some .boolean) (9 + d) (369 + 26 * d) kp [.ref (xz G + 29), .int x1, .int x2, .int x3] I L (some (.int r)) rI L) {I : xTI} {L : xTL} {x1 : Int32} {x2 : Int32} {r : Int32} {rI : xTI} (hf : F_X9_readLevel_B c0 c1 c2 N I x1 x2 = some (r, rI)) : xMet G l yX9_readLevel cX9_readLevel 7 (some .boolean) (9 + (d + 1)) (369 + 26 * (d + 1)) kp [.ref (xz G + 29), .int x1, .int x2] I L (some (.int r)) rI L := by
  refine xMet.ofW (by decide +kernel) (Nat.le_of_ble_eq_true rfl) ?_
  intro p e s m args below meth c hC H locs ls hR hS hl
  replace hC : xC G p s m args meth c cX9_readLevel 7 RX9 (some .boolean) := hC
  replace hl : lv_has ls 7 [(0, .ref (xz G + 29)), (1, .int x1), (2, .int x2)] := hl
  unfold F_X9_readLevel_B at hf
  refine lv_iload_n hC.1 hC.2.1 dX9_readLevel_0 rfl (lv_at hl 1 rfl) ?_
  refine lv_iconst (v := 5) hC.1 hC.2.1 dX9_readLevel_1 (by decide) ?_
  refine x_ic_lt (tgt := 11) hC dX9_readLevel_2 (by decide) hf (fun hf => ?_) (fun hf => ?_)
  · refine lv_iload_n hC.1 hC.2.1 dX9_readLevel_11 rfl (lv_at hl 1 rfl) ?_
    refine lv_iconst (v := 2) hC.1 hC.2.1 dX9_readLevel_12 (by decide) ?_
    refine x_ic_ne (tgt := 34) hC dX9_readLevel_13 (by decide) hf (fun hf => ?_) (fun hf => ?_)
    · exact W_X9_readLevel_j34 hC N hc0 hc1 hc2 hf _ _ _ hR hS (lv_sub hl [0, 1, 2] rfl)
    · refine lv_aload_n hC.1 hC.2.1 dX9_readLevel_16 rfl (lv_at hl 0 rfl) ?_
      refine x_getI hC xf_X9_31 (xce_29 G kp _ _) rfl hR dX9_readLevel_17 hf (fun v1 hf => ?_)
      refine lv_bipush (v := 7) hC.1 hC.2.1 dX9_readLevel_20 (by decide) ?_
      refine x_ic_ne (tgt := 34) hC dX9_readLevel_22 (by decide) hf (fun hf => ?_) (fun hf => ?_)
      · exact W_X9_readLevel_j34 hC N hc0 hc1 hc2 hf _ _ _ hR hS (lv_sub hl [0, 1, 2] rfl)
      · refine lv_aload_n hC.1 hC.2.1 dX9_readLevel_25 rfl (lv_at hl 0 rfl) ?_
        refine lv_iconst (v := 2) hC.1 hC.2.1 dX9_readLevel_26 (by decide) ?_
        refine lv_iload_n hC.1 hC.2.1 dX9_readLevel_27 rfl (lv_at hl 2 rfl) ?_
        refine lv_bipush (v := (-20)) hC.1 hC.2.1 dX9_readLevel_28 (by decide) ?_
        refine x_cvi10 (rest := []) hC xy_X9_readOpened tw_792 hf (fun _ _ h => hc2 h) ⟨by show _ ≤ _; dsimp only; omega, by show _ ≤ _; dsimp only; omega⟩ (xce_29 G kp _ _) rfl rfl rfl (Nat.le_of_ble_eq_true rfl) hl.1 hR hS dX9_readLevel_30 ⟨Nat.le_refl _, Nat.le_refl _⟩ (fun v2 I3 hf H locs hR hS => ?_)
        obtain ⟨h01, hf⟩ := xzc_some hf
        obtain ⟨h91, h92⟩ := Prod.mk.inj (Option.some.inj hf)
        subst h91
        subst h92
        exact x_zret h01 hC hR hS dX9_readLevel_33
  · refine lv_aload_n hC.1 hC.2.1 dX9_readLevel_5 rfl (lv_at hl 0 rfl) ?_
    refine lv_iload_n hC.1 hC.2.1 dX9_readLevel_6 rfl (lv_at hl 2 rfl) ?_
    refine x_cvi10 (rest := []) hC xy_X9_readOne tw_784 hf (fun _ _ h => hc1 h) ⟨by show _ ≤ _; dsimp only; omega, by show _ ≤ _; dsimp only; omega⟩ (xce_29 G kp _ _) rfl rfl rfl (Nat.le_of_ble_eq_true rfl) hl.1 hR hS dX9_readLevel_7 ⟨Nat.le_refl _, Nat.le_refl _⟩ (fun v4 I5 hf H locs hR hS => ?_)
    obtain ⟨h01, hf⟩ := xzc_some hf
    obtain ⟨h91, h92⟩ := Prod.mk.inj (Option.some.inj hf)
    subst h91
    subst h92
    exact x_zret h01 hC hR hS dX9_readLevel_10
set_option maxRecDepth 20000 in
theorem W_X9_readOne_j38 {G : XG} {l : Launch} {kp : Bool} {p : Program} {e : Env} {s : State} {m : MethodId} {args : Array Value} {below : List Frame} {meth : Method} {c : Code} (hC : xC G p s m args meth c cX9_readOne 2 RX9 (some .boolean)) (N : Nat) {d : Nat} {c0 : xTI → Int32 → Int32 → Option (Int32 × xTI)} {c1 : xTI → Int32 → Option (Int32 × xTI)} {c2 : xTI → Int32 → Int32 → Int32 → Option (Int32 × xTI)} (hc0 : ∀ {I : xTI} {L : xTL} {x1 : Int32} {x2 : Int32} {r : Int32} {rI : xTI} , c0 I x1 x2 = some (r, rI) → xMet G l yX9_readLevel cX9_readLevel 7 (some .boolean) (9 + d) (369 + 26 * d) kp [.ref (xz G + 29), .int x1, .int x2] I L (some (.int r)) rI L) (hc1 : ∀ {I : xTI} {L : xTL} {x1 : Int32} {r : Int32} {rI : xTI} , c1 I x1 = some (r, rI) → xMet G l yX9_readOne cX9_readOne 2 (some .boolean) (9 + d) (369 + 26 * d) kp [.ref (xz G + 29), .int x1] I L (some (.int r)) rI L) (hc2 : ∀ {I : xTI} {L : xTL} {x1 : Int32} {x2 : Int32} {x3 : Int32} {r : Int32} {rI : xTI} , c2 I x1 x2 x3 = some (r, rI) → xMet G l yX9_readOpened cX9_readOpened 5 (some .boolean) (9 + d) (369 + 26 * d) kp [.ref (xz G + 29), .int x1, .int x2, .int x3] I L (some (.int r)) rI L) {I : xTI} {L : xTL} {r : Int32} {rI : xTI} {t1 : Int32} (hf : F_X9_readOne_j38 c0 c1 c2 N I t1 = some (r, rI)) : ∀ (H : Heap) (locs : List Loc) (ls : Array Slot), xRep G kp I L H → xS G s.heap H locs → lv_has ls 2 [(0, .ref (xz G + 29))] → W p l e (xrm (9 + (d + 1)) (369 + 26 * (d + 1))) s m args below meth c H locs 0 0 (xMQ G kp below args s (some (.int r)) rI L) (F0 m 38 ls [.int t1, .ref (xz G + 29)]) := by
  intro H locs ls hR hS hl
  unfold F_X9_readOne_j38 at hf
  refine x_cvv10 (rest := []) hC xy_X9_emit tw_788 hf (fun _ h => M_X9_emit G l kp h) ⟨by show _ ≤ _; dsimp only; omega, by show _ ≤ _; dsimp only; omega⟩ (xce_29 G kp _ _) rfl rfl rfl (Nat.le_of_ble_eq_true rfl) hl.1 hR hS dX9_readOne_38 ⟨Nat.le_refl _, Nat.le_refl _⟩ (fun I1 hf H locs hR hS => ?_)
  refine lv_aload_n hC.1 hC.2.1 dX9_readOne_41 rfl (lv_at hl 0 rfl) ?_
  refine x_cvv10 (rest := []) hC xy_X9_takeToken tw_704 hf (fun _ h => M_X9_takeToken G l kp N h) ⟨by show _ ≤ _; dsimp only; omega, by show _ ≤ _; dsimp only; omega⟩ (xce_29 G kp _ _) rfl rfl rfl (Nat.le_of_ble_eq_true rfl) hl.1 hR hS dX9_readOne_42 ⟨Nat.le_refl _, Nat.le_refl _⟩ (fun I2 hf H locs hR hS => ?_)
  refine lv_iconst (v := 1) hC.1 hC.2.1 dX9_readOne_45 (by decide) ?_
  obtain ⟨h01, hf⟩ := xzc_some hf
  obtain ⟨h91, h92⟩ := Prod.mk.inj (Option.some.inj hf)
  subst h91
  subst h92
  exact x_zret h01 hC hR hS dX9_readOne_46
set_option maxRecDepth 20000 in
theorem W_X9_readOne_j16 {G : XG} {l : Launch} {kp : Bool} {p : Program} {e : Env} {s : State} {m : MethodId} {args : Array Value} {below : List Frame} {meth : Method} {c : Code} (hC : xC G p s m args meth c cX9_readOne 2 RX9 (some .boolean)) (N : Nat) {d : Nat} {c0 : xTI → Int32 → Int32 → Option (Int32 × xTI)} {c1 : xTI → Int32 → Option (Int32 × xTI)} {c2 : xTI → Int32 → Int32 → Int32 → Option (Int32 × xTI)} (hc0 : ∀ {I : xTI} {L : xTL} {x1 : Int32} {x2 : Int32} {r : Int32} {rI : xTI} , c0 I x1 x2 = some (r, rI) → xMet G l yX9_readLevel cX9_readLevel 7 (some .boolean) (9 + d) (369 + 26 * d) kp [.ref (xz G + 29), .int x1, .int x2] I L (some (.int r)) rI L) (hc1 : ∀ {I : xTI} {L : xTL} {x1 : Int32} {r : Int32} {rI : xTI} , c1 I x1 = some (r, rI) → xMet G l yX9_readOne cX9_readOne 2 (some .boolean) (9 + d) (369 + 26 * d) kp [.ref (xz G + 29), .int x1] I L (some (.int r)) rI L) (hc2 : ∀ {I : xTI} {L : xTL} {x1 : Int32} {x2 : Int32} {x3 : Int32} {r : Int32} {rI : xTI} , c2 I x1 x2 x3 = some (r, rI) → xMet G l yX9_readOpened cX9_readOpened 5 (some .boolean) (9 + d) (369 + 26 * d) kp [.ref (xz G + 29), .int x1, .int x2, .int x3] I L (some (.int r)) rI L) {I : xTI} {L : xTL} {r : Int32} {rI : xTI} (hf : F_X9_readOne_j16 c0 c1 c2 N I = some (r, rI)) : ∀ (H : Heap) (locs : List Loc) (ls : Array Slot), xRep G kp I L H → xS G s.heap H locs → lv_has ls 2 [(0, .ref (xz G + 29))] → W p l e (xrm (9 + (d + 1)) (369 + 26 * (d + 1))) s m args below meth c H locs 0 0 (xMQ G kp below args s (some (.int r)) rI L) (F0 m 16 ls []) := by
  intro H locs ls hR hS hl
  unfold F_X9_readOne_j16 at hf
  refine lv_aload_n hC.1 hC.2.1 dX9_readOne_16 rfl (lv_at hl 0 rfl) ?_
  refine lv_aload_n hC.1 hC.2.1 dX9_readOne_17 rfl (lv_at hl 0 rfl) ?_
  refine x_getI hC xf_X9_31 (xce_29 G kp _ _) rfl hR dX9_readOne_18 hf (fun v1 hf => ?_)
  refine lv_iconst (v := 3) hC.1 hC.2.1 dX9_readOne_21 (by decide) ?_
  refine x_ic_ne (tgt := 32) hC dX9_readOne_22 (by decide) hf (fun hf => ?_) (fun hf => ?_)
  · refine lv_iconst (v := (-1)) hC.1 hC.2.1 dX9_readOne_32 (by decide) ?_
    refine lv_aload_n hC.1 hC.2.1 dX9_readOne_33 rfl (lv_at hl 0 rfl) ?_
    refine x_getI hC xf_X9_34 (xce_29 G kp _ _) rfl hR dX9_readOne_34 hf (fun v2 hf => ?_)
    refine lv_isub hC.1 hC.2.1 dX9_readOne_37 ?_
    exact W_X9_readOne_j38 hC N hc0 hc1 hc2 hf _ _ _ hR hS (lv_sub hl [0] rfl)
  · refine lv_aload_n hC.1 hC.2.1 dX9_readOne_25 rfl (lv_at hl 0 rfl) ?_
    refine x_getI hC xf_X9_34 (xce_29 G kp _ _) rfl hR dX9_readOne_26 hf (fun v3 hf => ?_)
    refine lv_goto (tgt := 38) hC.1 hC.2.1 dX9_readOne_29 (by decide) ?_
    exact W_X9_readOne_j38 hC N hc0 hc1 hc2 hf _ _ _ hR hS (lv_sub hl [0] rfl)
set_option maxRecDepth 20000 in
theorem M_X9_readOne_B (G : XG) (l : Launch) (kp : Bool) (N : Nat) {d : Nat} {c0 : xTI → Int32 → Int32 → Option (Int32 × xTI)} {c1 : xTI → Int32 → Option (Int32 × xTI)} {c2 : xTI → Int32 → Int32 → Int32 → Option (Int32 × xTI)} (hc0 : ∀ {I : xTI} {L : xTL} {x1 : Int32} {x2 : Int32} {r : Int32} {rI : xTI} , c0 I x1 x2 = some (r, rI) → xMet G l yX9_readLevel cX9_readLevel 7 (some .boolean) (9 + d) (369 + 26 * d) kp [.ref (xz G + 29), .int x1, .int x2] I L (some (.int r)) rI L) (hc1 : ∀ {I : xTI} {L : xTL} {x1 : Int32} {r : Int32} {rI : xTI} , c1 I x1 = some (r, rI) → xMet G l yX9_readOne cX9_readOne 2 (some .boolean) (9 + d) (369 + 26 * d) kp [.ref (xz G + 29), .int x1] I L (some (.int r)) rI L) (hc2 : ∀ {I : xTI} {L : xTL} {x1 : Int32} {x2 : Int32} {x3 : Int32} {r : Int32} {rI : xTI} , c2 I x1 x2 x3 = some (r, rI) → xMet G l yX9_readOpened cX9_readOpened 5 (some .boolean) (9 + d) (369 + 26 * d) kp [.ref (xz G + 29), .int x1, .int x2, .int x3] I L (some (.int r)) rI L) {I : xTI} {L : xTL} {x1 : Int32} {r : Int32} {rI : xTI} (hf : F_X9_readOne_B c0 c1 c2 N I x1 = some (r, rI)) : xMet G l yX9_readOne cX9_readOne 2 (some .boolean) (9 + (d + 1)) (369 + 26 * (d + 1)) kp [.ref (xz G + 29), .int x1] I L (some (.int r)) rI L := by
  refine xMet.ofW (by decide +kernel) (Nat.le_of_ble_eq_true rfl) ?_
  intro p e s m args below meth c hC H locs ls hR hS hl
  replace hC : xC G p s m args meth c cX9_readOne 2 RX9 (some .boolean) := hC
  replace hl : lv_has ls 2 [(0, .ref (xz G + 29)), (1, .int x1)] := hl
  unfold F_X9_readOne_B at hf
  refine lv_aload_n hC.1 hC.2.1 dX9_readOne_0 rfl (lv_at hl 0 rfl) ?_
  refine x_getI hC xf_X9_31 (xce_29 G kp _ _) rfl hR dX9_readOne_1 hf (fun v1 hf => ?_)
  refine lv_iconst (v := 3) hC.1 hC.2.1 dX9_readOne_4 (by decide) ?_
  refine x_ic_eq (tgt := 16) hC dX9_readOne_5 (by decide) hf (fun hf => ?_) (fun hf => ?_)
  · exact W_X9_readOne_j16 hC N hc0 hc1 hc2 hf _ _ _ hR hS (lv_sub hl [0] rfl)
  · refine lv_aload_n hC.1 hC.2.1 dX9_readOne_8 rfl (lv_at hl 0 rfl) ?_
    refine x_getI hC xf_X9_31 (xce_29 G kp _ _) rfl hR dX9_readOne_9 hf (fun v2 hf => ?_)
    refine lv_iconst (v := 2) hC.1 hC.2.1 dX9_readOne_12 (by decide) ?_
    refine x_ic_ne (tgt := 47) hC dX9_readOne_13 (by decide) hf (fun hf => ?_) (fun hf => ?_)
    · refine lv_aload_n hC.1 hC.2.1 dX9_readOne_47 rfl (lv_at hl 0 rfl) ?_
      refine x_getI hC xf_X9_31 (xce_29 G kp _ _) rfl hR dX9_readOne_48 hf (fun v3 hf => ?_)
      refine lv_bipush (v := 45) hC.1 hC.2.1 dX9_readOne_51 (by decide) ?_
      refine x_ic_ne (tgt := 65) hC dX9_readOne_53 (by decide) hf (fun hf => ?_) (fun hf => ?_)
      · refine lv_aload_n hC.1 hC.2.1 dX9_readOne_65 rfl (lv_at hl 0 rfl) ?_
        refine x_getI hC xf_X9_31 (xce_29 G kp _ _) rfl hR dX9_readOne_66 hf (fun v4 hf => ?_)
        refine lv_bipush (v := 40) hC.1 hC.2.1 dX9_readOne_69 (by decide) ?_
        refine x_ic_ne (tgt := 80) hC dX9_readOne_71 (by decide) hf (fun hf => ?_) (fun hf => ?_)
        · refine lv_iconst (v := 0) hC.1 hC.2.1 dX9_readOne_80 (by decide) ?_
          obtain ⟨h01, hf⟩ := xzc_some hf
          obtain ⟨h91, h92⟩ := Prod.mk.inj (Option.some.inj hf)
          subst h91
          subst h92
          exact x_zret h01 hC hR hS dX9_readOne_81
        · refine lv_iload_n hC.1 hC.2.1 dX9_readOne_74 rfl (lv_at hl 1 rfl) ?_
          refine lv_bipush (v := 6) hC.1 hC.2.1 dX9_readOne_75 (by decide) ?_
          refine x_ic_lt (tgt := 82) hC dX9_readOne_77 (by decide) hf (fun hf => ?_) (fun hf => ?_)
          · refine lv_aload_n hC.1 hC.2.1 dX9_readOne_82 rfl (lv_at hl 0 rfl) ?_
            refine x_cvv10 (rest := []) hC xy_X9_takeToken tw_704 hf (fun _ h => M_X9_takeToken G l kp N h) ⟨by show _ ≤ _; dsimp only; omega, by show _ ≤ _; dsimp only; omega⟩ (xce_29 G kp _ _) rfl rfl rfl (Nat.le_of_ble_eq_true rfl) hl.1 hR hS dX9_readOne_83 ⟨Nat.le_refl _, Nat.le_refl _⟩ (fun I5 hf H locs hR hS => ?_)
            refine lv_aload_n hC.1 hC.2.1 dX9_readOne_86 rfl (lv_at hl 0 rfl) ?_
            refine lv_iconst (v := 0) hC.1 hC.2.1 dX9_readOne_87 (by decide) ?_
            refine lv_iload_n hC.1 hC.2.1 dX9_readOne_88 rfl (lv_at hl 1 rfl) ?_
            refine lv_iconst (v := 1) hC.1 hC.2.1 dX9_readOne_89 (by decide) ?_
            refine lv_iadd hC.1 hC.2.1 dX9_readOne_90 ?_
            refine x_cvi10 (rest := []) hC xy_X9_readLevel tw_780 hf (fun _ _ h => hc0 h) ⟨by show _ ≤ _; dsimp only; omega, by show _ ≤ _; dsimp only; omega⟩ (xce_29 G kp _ _) rfl rfl rfl (Nat.le_of_ble_eq_true rfl) hl.1 hR hS dX9_readOne_91 ⟨Nat.le_refl _, Nat.le_refl _⟩ (fun v6 I7 hf H locs hR hS => ?_)
            refine x_if_eq (tgt := 106) hC dX9_readOne_94 (by decide) hf (fun hf => ?_) (fun hf => ?_)
            · refine lv_iconst (v := 0) hC.1 hC.2.1 dX9_readOne_106 (by decide) ?_
              obtain ⟨h01, hf⟩ := xzc_some hf
              obtain ⟨h91, h92⟩ := Prod.mk.inj (Option.some.inj hf)
              subst h91
              subst h92
              exact x_zret h01 hC hR hS dX9_readOne_107
            · refine lv_aload_n hC.1 hC.2.1 dX9_readOne_97 rfl (lv_at hl 0 rfl) ?_
              refine x_getI hC xf_X9_31 (xce_29 G kp _ _) rfl hR dX9_readOne_98 hf (fun v8 hf => ?_)
              refine lv_bipush (v := 41) hC.1 hC.2.1 dX9_readOne_101 (by decide) ?_
              refine x_ic_eq (tgt := 108) hC dX9_readOne_103 (by decide) hf (fun hf => ?_) (fun hf => ?_)
              · refine lv_aload_n hC.1 hC.2.1 dX9_readOne_108 rfl (lv_at hl 0 rfl) ?_
                refine x_cvv10 (rest := []) hC xy_X9_takeToken tw_704 hf (fun _ h => M_X9_takeToken G l kp N h) ⟨by show _ ≤ _; dsimp only; omega, by show _ ≤ _; dsimp only; omega⟩ (xce_29 G kp _ _) rfl rfl rfl (Nat.le_of_ble_eq_true rfl) hl.1 hR hS dX9_readOne_109 ⟨Nat.le_refl _, Nat.le_refl _⟩ (fun I9 hf H locs hR hS => ?_)
                refine lv_iconst (v := 1) hC.1 hC.2.1 dX9_readOne_112 (by decide) ?_
                obtain ⟨h01, hf⟩ := xzc_some hf
                obtain ⟨h91, h92⟩ := Prod.mk.inj (Option.some.inj hf)
                subst h91
                subst h92
                exact x_zret h01 hC hR hS dX9_readOne_113
              · refine lv_iconst (v := 0) hC.1 hC.2.1 dX9_readOne_106 (by decide) ?_
                obtain ⟨h01, hf⟩ := xzc_some hf
                obtain ⟨h91, h92⟩ := Prod.mk.inj (Option.some.inj hf)
                subst h91
                subst h92
                exact x_zret h01 hC hR hS dX9_readOne_107
          · refine lv_iconst (v := 0) hC.1 hC.2.1 dX9_readOne_80 (by decide) ?_
            obtain ⟨h01, hf⟩ := xzc_some hf
            obtain ⟨h91, h92⟩ := Prod.mk.inj (Option.some.inj hf)
            subst h91
            subst h92
            exact x_zret h01 hC hR hS dX9_readOne_81
      · refine lv_aload_n hC.1 hC.2.1 dX9_readOne_56 rfl (lv_at hl 0 rfl) ?_
        refine lv_iconst (v := 5) hC.1 hC.2.1 dX9_readOne_57 (by decide) ?_
        refine lv_iload_n hC.1 hC.2.1 dX9_readOne_58 rfl (lv_at hl 1 rfl) ?_
        refine lv_bipush (v := (-21)) hC.1 hC.2.1 dX9_readOne_59 (by decide) ?_
        refine x_cvi10 (rest := []) hC xy_X9_readOpened tw_792 hf (fun _ _ h => hc2 h) ⟨by show _ ≤ _; dsimp only; omega, by show _ ≤ _; dsimp only; omega⟩ (xce_29 G kp _ _) rfl rfl rfl (Nat.le_of_ble_eq_true rfl) hl.1 hR hS dX9_readOne_61 ⟨Nat.le_refl _, Nat.le_refl _⟩ (fun v10 I11 hf H locs hR hS => ?_)
        obtain ⟨h01, hf⟩ := xzc_some hf
        obtain ⟨h91, h92⟩ := Prod.mk.inj (Option.some.inj hf)
        subst h91
        subst h92
        exact x_zret h01 hC hR hS dX9_readOne_64
    · exact W_X9_readOne_j16 hC N hc0 hc1 hc2 hf _ _ _ hR hS (lv_sub hl [0] rfl)
set_option maxRecDepth 20000 in
theorem M_X9_readOpened_B (G : XG) (l : Launch) (kp : Bool) (N : Nat) {d : Nat} {c0 : xTI → Int32 → Int32 → Option (Int32 × xTI)} {c1 : xTI → Int32 → Option (Int32 × xTI)} {c2 : xTI → Int32 → Int32 → Int32 → Option (Int32 × xTI)} (hc0 : ∀ {I : xTI} {L : xTL} {x1 : Int32} {x2 : Int32} {r : Int32} {rI : xTI} , c0 I x1 x2 = some (r, rI) → xMet G l yX9_readLevel cX9_readLevel 7 (some .boolean) (9 + d) (369 + 26 * d) kp [.ref (xz G + 29), .int x1, .int x2] I L (some (.int r)) rI L) (hc1 : ∀ {I : xTI} {L : xTL} {x1 : Int32} {r : Int32} {rI : xTI} , c1 I x1 = some (r, rI) → xMet G l yX9_readOne cX9_readOne 2 (some .boolean) (9 + d) (369 + 26 * d) kp [.ref (xz G + 29), .int x1] I L (some (.int r)) rI L) (hc2 : ∀ {I : xTI} {L : xTL} {x1 : Int32} {x2 : Int32} {x3 : Int32} {r : Int32} {rI : xTI} , c2 I x1 x2 x3 = some (r, rI) → xMet G l yX9_readOpened cX9_readOpened 5 (some .boolean) (9 + d) (369 + 26 * d) kp [.ref (xz G + 29), .int x1, .int x2, .int x3] I L (some (.int r)) rI L) {I : xTI} {L : xTL} {x1 : Int32} {x2 : Int32} {x3 : Int32} {r : Int32} {rI : xTI} (hf : F_X9_readOpened_B c0 c1 c2 N I x1 x2 x3 = some (r, rI)) : xMet G l yX9_readOpened cX9_readOpened 5 (some .boolean) (9 + (d + 1)) (369 + 26 * (d + 1)) kp [.ref (xz G + 29), .int x1, .int x2, .int x3] I L (some (.int r)) rI L := by
  refine xMet.ofW (by decide +kernel) (Nat.le_of_ble_eq_true rfl) ?_
  intro p e s m args below meth c hC H locs ls hR hS hl
  replace hC : xC G p s m args meth c cX9_readOpened 5 RX9 (some .boolean) := hC
  replace hl : lv_has ls 5 [(0, .ref (xz G + 29)), (1, .int x1), (2, .int x2), (3, .int x3)] := hl
  unfold F_X9_readOpened_B at hf
  refine lv_iload_n hC.1 hC.2.1 dX9_readOpened_0 rfl (lv_at hl 2 rfl) ?_
  refine lv_bipush (v := 6) hC.1 hC.2.1 dX9_readOpened_1 (by decide) ?_
  refine x_ic_lt (tgt := 8) hC dX9_readOpened_3 (by decide) hf (fun hf => ?_) (fun hf => ?_)
  · refine lv_aload_n hC.1 hC.2.1 dX9_readOpened_8 rfl (lv_at hl 0 rfl) ?_
    refine x_cvv10 (rest := []) hC xy_X9_takeToken tw_704 hf (fun _ h => M_X9_takeToken G l kp N h) ⟨by show _ ≤ _; dsimp only; omega, by show _ ≤ _; dsimp only; omega⟩ (xce_29 G kp _ _) rfl rfl rfl (Nat.le_of_ble_eq_true rfl) hl.1 hR hS dX9_readOpened_9 ⟨Nat.le_refl _, Nat.le_refl _⟩ (fun I1 hf H locs hR hS => ?_)
    refine lv_aload_n hC.1 hC.2.1 dX9_readOpened_12 rfl (lv_at hl 0 rfl) ?_
    refine lv_iload_n hC.1 hC.2.1 dX9_readOpened_13 rfl (lv_at hl 1 rfl) ?_
    refine lv_iload_n hC.1 hC.2.1 dX9_readOpened_14 rfl (lv_at hl 2 rfl) ?_
    refine lv_iconst (v := 1) hC.1 hC.2.1 dX9_readOpened_15 (by decide) ?_
    refine lv_iadd hC.1 hC.2.1 dX9_readOpened_16 ?_
    refine x_cvi10 (rest := []) hC xy_X9_readLevel tw_780 hf (fun _ _ h => hc0 h) ⟨by show _ ≤ _; dsimp only; omega, by show _ ≤ _; dsimp only; omega⟩ (xce_29 G kp _ _) rfl rfl rfl (Nat.le_of_ble_eq_true rfl) hl.1 hR hS dX9_readOpened_17 ⟨Nat.le_refl _, Nat.le_refl _⟩ (fun v2 I3 hf H locs hR hS => ?_)
    refine lv_istore (lv' := [(4, .int v2), (0, .ref (xz G + 29)), (1, .int x1), (2, .int x2), (3, .int x3)]) hC.1 hC.2.1 dX9_readOpened_20 hl (Nat.le_of_ble_eq_true rfl) rfl (fun ls hl => ?_)
    refine lv_aload_n hC.1 hC.2.1 dX9_readOpened_22 rfl (lv_at hl 1 rfl) ?_
    refine lv_iload_n hC.1 hC.2.1 dX9_readOpened_23 rfl (lv_at hl 4 rfl) ?_
    refine W.eq (g2 := F0 m 24 ls [.int x3, .ref (xz G + 29)]) rfl ?_
    refine x_cvv10 (rest := []) hC xy_X9_emit tw_788 hf (fun _ h => M_X9_emit G l kp h) ⟨by show _ ≤ _; dsimp only; omega, by show _ ≤ _; dsimp only; omega⟩ (xce_29 G kp _ _) rfl rfl rfl (Nat.le_of_ble_eq_true rfl) hl.1 hR hS dX9_readOpened_24 ⟨Nat.le_refl _, Nat.le_refl _⟩ (fun I4 hf H locs hR hS => ?_)
    refine lv_iload hC.1 hC.2.1 dX9_readOpened_27 (lv_at hl 0 rfl) ?_
    obtain ⟨h01, hf⟩ := xzc_some hf
    obtain ⟨h91, h92⟩ := Prod.mk.inj (Option.some.inj hf)
    subst h91
    subst h92
    exact x_zret h01 hC hR hS dX9_readOpened_29
  · refine lv_iconst (v := 0) hC.1 hC.2.1 dX9_readOpened_6 (by decide) ?_
    obtain ⟨h01, hf⟩ := xzc_some hf
    obtain ⟨h91, h92⟩ := Prod.mk.inj (Option.some.inj hf)
    subst h91
    subst h92
    exact x_zret h01 hC hR hS dX9_readOpened_7
set_option maxRecDepth 20000 in
theorem M_X9_R (G : XG) (l : Launch) (kp : Bool) (N : Nat) : ∀ d : Nat, (∀ {I : xTI} {L : xTL} {x1 : Int32} {x2 : Int32} {r : Int32} {rI : xTI} , (F_X9_R N d).1 I x1 x2 = some (r, rI) → xMet G l yX9_readLevel cX9_readLevel 7 (some .boolean) (9 + d) (369 + 26 * d) kp [.ref (xz G + 29), .int x1, .int x2] I L (some (.int r)) rI L) ∧ (∀ {I : xTI} {L : xTL} {x1 : Int32} {r : Int32} {rI : xTI} , (F_X9_R N d).2.1 I x1 = some (r, rI) → xMet G l yX9_readOne cX9_readOne 2 (some .boolean) (9 + d) (369 + 26 * d) kp [.ref (xz G + 29), .int x1] I L (some (.int r)) rI L) ∧ (∀ {I : xTI} {L : xTL} {x1 : Int32} {x2 : Int32} {x3 : Int32} {r : Int32} {rI : xTI} , (F_X9_R N d).2.2 I x1 x2 x3 = some (r, rI) → xMet G l yX9_readOpened cX9_readOpened 5 (some .boolean) (9 + d) (369 + 26 * d) kp [.ref (xz G + 29), .int x1, .int x2, .int x3] I L (some (.int r)) rI L) := by
  intro d
  induction d with
  | zero =>
    refine ⟨?_, ?_, ?_⟩
    all_goals (intros; rename_i h; cases h)
  | succ d ih =>
    obtain ⟨h0, h1, h2⟩ := ih
    refine ⟨?_, ?_, ?_⟩
    · intro I L x1 x2 r rI hf
      exact M_X9_readLevel_B G l kp N (fun h => h0 h) (fun h => h1 h) (fun h => h2 h) hf
    · intro I L x1 r rI hf
      exact M_X9_readOne_B G l kp N (fun h => h0 h) (fun h => h1 h) (fun h => h2 h) hf
    · intro I L x1 x2 x3 r rI hf
      exact M_X9_readOpened_B G l kp N (fun h => h0 h) (fun h => h1 h) (fun h => h2 h) hf

theorem M_X9_readLevel (G : XG) (l : Launch) (kp : Bool) (N : Nat) {I : xTI} {L : xTL} {x1 : Int32} {x2 : Int32} {r : Int32} {rI : xTI} (hf : F_X9_readLevel N I x1 x2 = some (r, rI)) : xMet G l yX9_readLevel cX9_readLevel 7 (some .boolean) 89 2449 kp [.ref (xz G + 29), .int x1, .int x2] I L (some (.int r)) rI L := (M_X9_R G l kp N 80).1 hf
theorem M_X9_readOne (G : XG) (l : Launch) (kp : Bool) (N : Nat) {I : xTI} {L : xTL} {x1 : Int32} {r : Int32} {rI : xTI} (hf : F_X9_readOne N I x1 = some (r, rI)) : xMet G l yX9_readOne cX9_readOne 2 (some .boolean) 89 2449 kp [.ref (xz G + 29), .int x1] I L (some (.int r)) rI L := (M_X9_R G l kp N 80).2.1 hf
theorem M_X9_readOpened (G : XG) (l : Launch) (kp : Bool) (N : Nat) {I : xTI} {L : xTL} {x1 : Int32} {x2 : Int32} {x3 : Int32} {r : Int32} {rI : xTI} (hf : F_X9_readOpened N I x1 x2 x3 = some (r, rI)) : xMet G l yX9_readOpened cX9_readOpened 5 (some .boolean) 89 2449 kp [.ref (xz G + 29), .int x1, .int x2, .int x3] I L (some (.int r)) rI L := (M_X9_R G l kp N 80).2.2 hf
