set_option maxRecDepth 20000 in
theorem M_X10_image_t (G : XG) (l : Launch) {I : xTI} {L : xTL} {r : Int32} {rI : xTI} {rL : xTL} (hf : F_X10_image_t I L = some (r, rI, rL)) : xMet G l yX10_image cX10_image 1 (some .int) 4 182 true [.ref (xz G + 0)] I L (some (.int r)) rI rL := by
  refine xMet.ofW (by decide +kernel) (Nat.le_of_ble_eq_true rfl) ?_
  intro p e s m args below meth c hC H locs ls hR hS hl
  replace hC : xC G p s m args meth c cX10_image 1 RX10 (some .int) := hC
  replace hl : lv_has ls 1 [(0, .ref (xz G + 0))] := hl
  unfold F_X10_image_t at hf
  refine lv_aload_n hC.1 hC.2.1 dX10_image_0 rfl (lv_at hl 0 rfl) ?_
  refine x_get (v := .ref (xz G + 87)) hC xf_X10_16 (xce_0 G true _ _) rfl hR dX10_image_1 ?_
  refine lv_ifnonnull (tgt := 18) hC.1 hC.2.1 dX10_image_4 (by decide) ?_
  refine lv_aload_n hC.1 hC.2.1 dX10_image_18 rfl (lv_at hl 0 rfl) ?_
  refine x_get (v := .ref (xz G + 87)) hC xf_X10_16 (xce_0 G true _ _) rfl hR dX10_image_19 ?_
  refine lv_aload_n hC.1 hC.2.1 dX10_image_22 rfl (lv_at hl 0 rfl) ?_
  refine x_get (v := .ref (xz G + 1)) hC xf_X10_10 (xce_0 G true _ _) rfl hR dX10_image_23 ?_
  refine x_cvv11 (rest := []) hC xy_X1_takeOver tw_1128 hf (fun _ _ h => M_X1_takeOver_87_1 G l h) ⟨Nat.le_of_ble_eq_true rfl, Nat.le_of_ble_eq_true rfl⟩ (xce_87 G _ _) rfl rfl rfl (Nat.le_of_ble_eq_true rfl) hl.1 hR hS dX10_image_26 ⟨Nat.le_refl _, Nat.le_refl _⟩ (fun I1 L2 hf H locs hR hS => ?_)
  refine lv_aload_n hC.1 hC.2.1 dX10_image_29 rfl (lv_at hl 0 rfl) ?_
  refine x_get (v := .ref (xz G + 1)) hC xf_X10_10 (xce_0 G true _ _) rfl hR dX10_image_30 ?_
  refine x_getI hC xf_X10_164 (xce_1 G true _ _) rfl hR dX10_image_33 hf (fun v3 hf => ?_)
  refine W.eq (g2 := F0 m 36 ls [.int v3]) rfl ?_
  obtain ⟨h91, h90⟩ := Prod.mk.inj (Option.some.inj hf)
  obtain ⟨h92, h93⟩ := Prod.mk.inj h90
  subst h91
  subst h92
  subst h93
  exact x_iret hC hR hS dX10_image_36
set_option maxRecDepth 20000 in
theorem M_X3_takeOver_3_89 (G : XG) (l : Launch) {I : xTI} {L : xTL} {rI : xTI} {rL : xTL} (hf : F_X3_takeOver_3_89 I L = some (rI, rL)) : xMet G l yX3_takeOver cX3_takeOver 2 none 1 119 true [.ref (xz G + 3), .ref (xz G + 89)] I L none rI rL := by
  refine xMet.ofW (by decide +kernel) (Nat.le_of_ble_eq_true rfl) ?_
  intro p e s m args below meth c hC H locs ls hR hS hl
  replace hC : xC G p s m args meth c cX3_takeOver 2 RX3 none := hC
  replace hl : lv_has ls 2 [(0, .ref (xz G + 3)), (1, .ref (xz G + 89))] := hl
  unfold F_X3_takeOver_3_89 at hf
  refine lv_aload_n hC.1 hC.2.1 dX3_takeOver_0 rfl (lv_at hl 0 rfl) ?_
  refine lv_aload_n hC.1 hC.2.1 dX3_takeOver_1 rfl (lv_at hl 1 rfl) ?_
  refine x_getI hC xf_X3_34 (xce_89 G _ _) rfl hR dX3_takeOver_2 hf (fun v1 hf => ?_)
  refine x_putI hC xf_X3_34 xp_3_0 (fun f => (xce_3 G true f _)) rfl (Nat.le_of_ble_eq_true rfl) hR hS dX3_takeOver_5 hf (fun I2 hf H locs hR hS => ?_)
  refine lv_aload_n hC.1 hC.2.1 dX3_takeOver_8 rfl (lv_at hl 1 rfl) ?_
  refine x_get (v := .ref (xz G + 90)) hC xf_X3_9 (xce_89 G _ _) rfl hR dX3_takeOver_9 ?_
  refine lv_iconst (v := 0) hC.1 hC.2.1 dX3_takeOver_12 (by decide) ?_
  refine lv_aload_n hC.1 hC.2.1 dX3_takeOver_13 rfl (lv_at hl 0 rfl) ?_
  refine x_get (v := .ref (xz G + 4)) hC xf_X3_9 (xce_3 G true _ _) rfl hR dX3_takeOver_14 ?_
  refine lv_iconst (v := 0) hC.1 hC.2.1 dX3_takeOver_17 (by decide) ?_
  refine lv_bipush (v := 12) hC.1 hC.2.1 dX3_takeOver_18 (by decide) ?_
  refine W.eq (g2 := F0 m 20 ls [.int 12, .int 0, .ref (xz G + 4), .int 0, .ref (xz G + 90)]) rfl ?_
  refine x_cpl (rest := []) hC tw_1137 (xce_90 G _ _) (fun f => (xce_4 G true _ f)) hl.1 hR hS (Nat.le_of_ble_eq_true rfl) (Nat.le_of_ble_eq_true rfl) dX3_takeOver_20 hf (fun L3 hf H locs hR hS => ?_)
  refine lv_aload_n hC.1 hC.2.1 dX3_takeOver_23 rfl (lv_at hl 1 rfl) ?_
  refine x_get (v := .ref (xz G + 91)) hC xf_X3_15 (xce_89 G _ _) rfl hR dX3_takeOver_24 ?_
  refine lv_iconst (v := 0) hC.1 hC.2.1 dX3_takeOver_27 (by decide) ?_
  refine lv_aload_n hC.1 hC.2.1 dX3_takeOver_28 rfl (lv_at hl 0 rfl) ?_
  refine x_get (v := .ref (xz G + 5)) hC xf_X3_15 (xce_3 G true _ _) rfl hR dX3_takeOver_29 ?_
  refine lv_iconst (v := 0) hC.1 hC.2.1 dX3_takeOver_32 (by decide) ?_
  refine lv_bipush (v := 12) hC.1 hC.2.1 dX3_takeOver_33 (by decide) ?_
  refine x_cpl (rest := []) hC tw_1137 (xce_91 G _ _) (fun f => (xce_5 G true _ f)) hl.1 hR hS (Nat.le_of_ble_eq_true rfl) (Nat.le_of_ble_eq_true rfl) dX3_takeOver_35 hf (fun L4 hf H locs hR hS => ?_)
  refine lv_aload_n hC.1 hC.2.1 dX3_takeOver_38 rfl (lv_at hl 1 rfl) ?_
  refine x_get (v := .ref (xz G + 92)) hC xf_X3_18 (xce_89 G _ _) rfl hR dX3_takeOver_39 ?_
  refine lv_iconst (v := 0) hC.1 hC.2.1 dX3_takeOver_42 (by decide) ?_
  refine W.eq (g2 := F0 m 43 ls [.int 0, .ref (xz G + 92)]) rfl ?_
  refine lv_aload_n hC.1 hC.2.1 dX3_takeOver_43 rfl (lv_at hl 0 rfl) ?_
  refine x_get (v := .ref (xz G + 6)) hC xf_X3_18 (xce_3 G true _ _) rfl hR dX3_takeOver_44 ?_
  refine lv_iconst (v := 0) hC.1 hC.2.1 dX3_takeOver_47 (by decide) ?_
  refine lv_sipush (v := 144) hC.1 hC.2.1 dX3_takeOver_48 (by decide) ?_
  refine x_cpl (rest := []) hC tw_1137 (xce_92 G _ _) (fun f => (xce_6 G true _ f)) hl.1 hR hS (Nat.le_of_ble_eq_true rfl) (Nat.le_of_ble_eq_true rfl) dX3_takeOver_51 hf (fun L5 hf H locs hR hS => ?_)
  refine lv_aload_n hC.1 hC.2.1 dX3_takeOver_54 rfl (lv_at hl 1 rfl) ?_
  refine x_get (v := .ref (xz G + 93)) hC xf_X3_21 (xce_89 G _ _) rfl hR dX3_takeOver_55 ?_
  refine lv_iconst (v := 0) hC.1 hC.2.1 dX3_takeOver_58 (by decide) ?_
  refine lv_aload_n hC.1 hC.2.1 dX3_takeOver_59 rfl (lv_at hl 0 rfl) ?_
  refine x_get (v := .ref (xz G + 7)) hC xf_X3_21 (xce_3 G true _ _) rfl hR dX3_takeOver_60 ?_
  refine lv_iconst (v := 0) hC.1 hC.2.1 dX3_takeOver_63 (by decide) ?_
  refine lv_bipush (v := 12) hC.1 hC.2.1 dX3_takeOver_64 (by decide) ?_
  refine W.eq (g2 := F0 m 66 ls [.int 12, .int 0, .ref (xz G + 7), .int 0, .ref (xz G + 93)]) rfl ?_
  refine x_cpi (rest := []) hC tw_1137 (xce_93 G _ _) (fun f => (xce_7 G true f _)) hl.1 hR hS (Nat.le_of_ble_eq_true rfl) (Nat.le_of_ble_eq_true rfl) dX3_takeOver_66 hf (fun I6 hf H locs hR hS => ?_)
  refine lv_aload_n hC.1 hC.2.1 dX3_takeOver_69 rfl (lv_at hl 1 rfl) ?_
  refine x_get (v := .ref (xz G + 94)) hC xf_X3_25 (xce_89 G _ _) rfl hR dX3_takeOver_70 ?_
  refine lv_iconst (v := 0) hC.1 hC.2.1 dX3_takeOver_73 (by decide) ?_
  refine lv_aload_n hC.1 hC.2.1 dX3_takeOver_74 rfl (lv_at hl 0 rfl) ?_
  refine x_get (v := .ref (xz G + 8)) hC xf_X3_25 (xce_3 G true _ _) rfl hR dX3_takeOver_75 ?_
  refine lv_iconst (v := 0) hC.1 hC.2.1 dX3_takeOver_78 (by decide) ?_
  refine lv_bipush (v := 12) hC.1 hC.2.1 dX3_takeOver_79 (by decide) ?_
  refine x_cpi (rest := []) hC tw_1137 (xce_94 G _ _) (fun f => (xce_8 G true f _)) hl.1 hR hS (Nat.le_of_ble_eq_true rfl) (Nat.le_of_ble_eq_true rfl) dX3_takeOver_81 hf (fun I7 hf H locs hR hS => ?_)
  refine lv_aload_n hC.1 hC.2.1 dX3_takeOver_84 rfl (lv_at hl 1 rfl) ?_
  refine x_get (v := .ref (xz G + 95)) hC xf_X3_28 (xce_89 G _ _) rfl hR dX3_takeOver_85 ?_
  refine lv_iconst (v := 0) hC.1 hC.2.1 dX3_takeOver_88 (by decide) ?_
  refine W.eq (g2 := F0 m 89 ls [.int 0, .ref (xz G + 95)]) rfl ?_
  refine lv_aload_n hC.1 hC.2.1 dX3_takeOver_89 rfl (lv_at hl 0 rfl) ?_
  refine x_get (v := .ref (xz G + 9)) hC xf_X3_28 (xce_3 G true _ _) rfl hR dX3_takeOver_90 ?_
  refine lv_iconst (v := 0) hC.1 hC.2.1 dX3_takeOver_93 (by decide) ?_
  refine lv_bipush (v := 60) hC.1 hC.2.1 dX3_takeOver_94 (by decide) ?_
  refine x_cpi (rest := []) hC tw_1137 (xce_95 G _ _) (fun f => (xce_9 G true f _)) hl.1 hR hS (Nat.le_of_ble_eq_true rfl) (Nat.le_of_ble_eq_true rfl) dX3_takeOver_96 hf (fun I8 hf H locs hR hS => ?_)
  refine lv_aload_n hC.1 hC.2.1 dX3_takeOver_99 rfl (lv_at hl 1 rfl) ?_
  refine x_get (v := .ref (xz G + 96)) hC xf_X3_31 (xce_89 G _ _) rfl hR dX3_takeOver_100 ?_
  refine lv_iconst (v := 0) hC.1 hC.2.1 dX3_takeOver_103 (by decide) ?_
  refine lv_aload_n hC.1 hC.2.1 dX3_takeOver_104 rfl (lv_at hl 0 rfl) ?_
  refine x_get (v := .ref (xz G + 10)) hC xf_X3_31 (xce_3 G true _ _) rfl hR dX3_takeOver_105 ?_
  refine lv_iconst (v := 0) hC.1 hC.2.1 dX3_takeOver_108 (by decide) ?_
  refine lv_bipush (v := 60) hC.1 hC.2.1 dX3_takeOver_109 (by decide) ?_
  refine W.eq (g2 := F0 m 111 ls [.int 60, .int 0, .ref (xz G + 10), .int 0, .ref (xz G + 96)]) rfl ?_
  refine x_cpi (rest := []) hC tw_1137 (xce_96 G _ _) (fun f => (xce_10 G true f _)) hl.1 hR hS (Nat.le_of_ble_eq_true rfl) (Nat.le_of_ble_eq_true rfl) dX3_takeOver_111 hf (fun I9 hf H locs hR hS => ?_)
  obtain ⟨h91, h92⟩ := Prod.mk.inj (Option.some.inj hf)
  subst h91
  subst h92
  exact x_vret hC hR hS dX3_takeOver_114
set_option maxRecDepth 20000 in
theorem M_X8_takeOver_12_98 (G : XG) (l : Launch) {I : xTI} {L : xTL} {rI : xTI} (hf : F_X8_takeOver_12_98 I = some rI) : xMet G l yX8_takeOver cX8_takeOver 2 none 1 119 true [.ref (xz G + 12), .ref (xz G + 98)] I L none rI L := by
  refine xMet.ofW (by decide +kernel) (Nat.le_of_ble_eq_true rfl) ?_
  intro p e s m args below meth c hC H locs ls hR hS hl
  replace hC : xC G p s m args meth c cX8_takeOver 2 RX8 none := hC
  replace hl : lv_has ls 2 [(0, .ref (xz G + 12)), (1, .ref (xz G + 98))] := hl
  unfold F_X8_takeOver_12_98 at hf
  refine lv_aload_n hC.1 hC.2.1 dX8_takeOver_0 rfl (lv_at hl 0 rfl) ?_
  refine lv_aload_n hC.1 hC.2.1 dX8_takeOver_1 rfl (lv_at hl 1 rfl) ?_
  refine x_getI hC xf_X8_20 (xce_98 G _ _) rfl hR dX8_takeOver_2 hf (fun v1 hf => ?_)
  refine x_putI hC xf_X8_20 xp_8_3 (fun f => (xce_12 G true f _)) rfl (Nat.le_of_ble_eq_true rfl) hR hS dX8_takeOver_5 hf (fun I2 hf H locs hR hS => ?_)
  refine lv_aload_n hC.1 hC.2.1 dX8_takeOver_8 rfl (lv_at hl 1 rfl) ?_
  refine x_get (v := .ref (xz G + 99)) hC xf_X8_16 (xce_98 G _ _) rfl hR dX8_takeOver_9 ?_
  refine lv_iconst (v := 0) hC.1 hC.2.1 dX8_takeOver_12 (by decide) ?_
  refine lv_aload_n hC.1 hC.2.1 dX8_takeOver_13 rfl (lv_at hl 0 rfl) ?_
  refine x_get (v := .ref (xz G + 13)) hC xf_X8_16 (xce_12 G true _ _) rfl hR dX8_takeOver_14 ?_
  refine lv_iconst (v := 0) hC.1 hC.2.1 dX8_takeOver_17 (by decide) ?_
  refine lv_aload_n hC.1 hC.2.1 dX8_takeOver_18 rfl (lv_at hl 0 rfl) ?_
  refine W.eq (g2 := F0 m 19 ls [.ref (xz G + 12), .int 0, .ref (xz G + 13), .int 0, .ref (xz G + 99)]) rfl ?_
  refine x_get (v := .ref (xz G + 13)) hC xf_X8_16 (xce_12 G true _ _) rfl hR dX8_takeOver_19 ?_
  refine x_alen_i (v := 660) hC (xce_13 G true _ _) rfl hR dX8_takeOver_22 ?_
  refine lv_aload_n hC.1 hC.2.1 dX8_takeOver_23 rfl (lv_at hl 1 rfl) ?_
  refine x_get (v := .ref (xz G + 99)) hC xf_X8_16 (xce_98 G _ _) rfl hR dX8_takeOver_24 ?_
  refine x_alen_i (v := 660) hC (xce_99 G _ _) rfl hR dX8_takeOver_27 ?_
  refine x_mni (rest := [.int 0, .ref (xz G + 13), .int 0, .ref (xz G + 99)]) hC tw_1142 hl.1 (Nat.le_of_ble_eq_true rfl) (Nat.le_of_ble_eq_true rfl) dX8_takeOver_28 ⟨Nat.le_refl _, Nat.le_refl _⟩ hf (fun v3 hf => ?_)
  refine x_cpi (rest := []) hC tw_1143 (xce_99 G _ _) (fun f => (xce_13 G true f _)) hl.1 hR hS (Nat.le_of_ble_eq_true rfl) (Nat.le_of_ble_eq_true rfl) dX8_takeOver_31 hf (fun I4 hf H locs hR hS => ?_)
  have h9 := Option.some.inj hf
  subst h9
  exact x_vret hC hR hS dX8_takeOver_34
set_option maxRecDepth 20000 in
theorem M_X8_takeOver_15_101 (G : XG) (l : Launch) {I : xTI} {L : xTL} {rI : xTI} (hf : F_X8_takeOver_15_101 I = some rI) : xMet G l yX8_takeOver cX8_takeOver 2 none 1 119 true [.ref (xz G + 15), .ref (xz G + 101)] I L none rI L := by
  refine xMet.ofW (by decide +kernel) (Nat.le_of_ble_eq_true rfl) ?_
  intro p e s m args below meth c hC H locs ls hR hS hl
  replace hC : xC G p s m args meth c cX8_takeOver 2 RX8 none := hC
  replace hl : lv_has ls 2 [(0, .ref (xz G + 15)), (1, .ref (xz G + 101))] := hl
  unfold F_X8_takeOver_15_101 at hf
  refine lv_aload_n hC.1 hC.2.1 dX8_takeOver_0 rfl (lv_at hl 0 rfl) ?_
  refine lv_aload_n hC.1 hC.2.1 dX8_takeOver_1 rfl (lv_at hl 1 rfl) ?_
  refine x_getI hC xf_X8_20 (xce_101 G _ _) rfl hR dX8_takeOver_2 hf (fun v1 hf => ?_)
  refine x_putI hC xf_X8_20 xp_8_3 (fun f => (xce_15 G true f _)) rfl (Nat.le_of_ble_eq_true rfl) hR hS dX8_takeOver_5 hf (fun I2 hf H locs hR hS => ?_)
  refine lv_aload_n hC.1 hC.2.1 dX8_takeOver_8 rfl (lv_at hl 1 rfl) ?_
  refine x_get (v := .ref (xz G + 102)) hC xf_X8_16 (xce_101 G _ _) rfl hR dX8_takeOver_9 ?_
  refine lv_iconst (v := 0) hC.1 hC.2.1 dX8_takeOver_12 (by decide) ?_
  refine lv_aload_n hC.1 hC.2.1 dX8_takeOver_13 rfl (lv_at hl 0 rfl) ?_
  refine x_get (v := .ref (xz G + 16)) hC xf_X8_16 (xce_15 G true _ _) rfl hR dX8_takeOver_14 ?_
  refine lv_iconst (v := 0) hC.1 hC.2.1 dX8_takeOver_17 (by decide) ?_
  refine lv_aload_n hC.1 hC.2.1 dX8_takeOver_18 rfl (lv_at hl 0 rfl) ?_
  refine W.eq (g2 := F0 m 19 ls [.ref (xz G + 15), .int 0, .ref (xz G + 16), .int 0, .ref (xz G + 102)]) rfl ?_
  refine x_get (v := .ref (xz G + 16)) hC xf_X8_16 (xce_15 G true _ _) rfl hR dX8_takeOver_19 ?_
  refine x_alen_i (v := 60) hC (xce_16 G true _ _) rfl hR dX8_takeOver_22 ?_
  refine lv_aload_n hC.1 hC.2.1 dX8_takeOver_23 rfl (lv_at hl 1 rfl) ?_
  refine x_get (v := .ref (xz G + 102)) hC xf_X8_16 (xce_101 G _ _) rfl hR dX8_takeOver_24 ?_
  refine x_alen_i (v := 60) hC (xce_102 G _ _) rfl hR dX8_takeOver_27 ?_
  refine x_mni (rest := [.int 0, .ref (xz G + 16), .int 0, .ref (xz G + 102)]) hC tw_1142 hl.1 (Nat.le_of_ble_eq_true rfl) (Nat.le_of_ble_eq_true rfl) dX8_takeOver_28 ⟨Nat.le_refl _, Nat.le_refl _⟩ hf (fun v3 hf => ?_)
  refine x_cpi (rest := []) hC tw_1143 (xce_102 G _ _) (fun f => (xce_16 G true f _)) hl.1 hR hS (Nat.le_of_ble_eq_true rfl) (Nat.le_of_ble_eq_true rfl) dX8_takeOver_31 hf (fun I4 hf H locs hR hS => ?_)
  have h9 := Option.some.inj hf
  subst h9
  exact x_vret hC hR hS dX8_takeOver_34
set_option maxRecDepth 20000 in
theorem M_X5_takeOver_14_100 (G : XG) (l : Launch) {I : xTI} {L : xTL} {rI : xTI} (hf : F_X5_takeOver_14_100 I = some rI) : xMet G l yX5_takeOver cX5_takeOver 2 none 2 140 true [.ref (xz G + 14), .ref (xz G + 100)] I L none rI L := by
  refine xMet.ofW (by decide +kernel) (Nat.le_of_ble_eq_true rfl) ?_
  intro p e s m args below meth c hC H locs ls hR hS hl
  replace hC : xC G p s m args meth c cX5_takeOver 2 RX5 none := hC
  replace hl : lv_has ls 2 [(0, .ref (xz G + 14)), (1, .ref (xz G + 100))] := hl
  unfold F_X5_takeOver_14_100 at hf
  refine lv_aload_n hC.1 hC.2.1 dX5_takeOver_0 rfl (lv_at hl 0 rfl) ?_
  refine x_get (v := .ref (xz G + 15)) hC xf_X5_16 (xce_14 G true _ _) rfl hR dX5_takeOver_1 ?_
  refine lv_aload_n hC.1 hC.2.1 dX5_takeOver_4 rfl (lv_at hl 1 rfl) ?_
  refine x_get (v := .ref (xz G + 101)) hC xf_X5_16 (xce_100 G _ _) rfl hR dX5_takeOver_5 ?_
  refine x_cvv10 (rest := []) hC xy_X8_takeOver tw_1148 hf (fun _ h => M_X8_takeOver_15_101 G l h) ⟨Nat.le_of_ble_eq_true rfl, Nat.le_of_ble_eq_true rfl⟩ (xce_15 G true _ _) rfl rfl rfl (Nat.le_of_ble_eq_true rfl) hl.1 hR hS dX5_takeOver_8 ⟨Nat.le_refl _, Nat.le_refl _⟩ (fun I1 hf H locs hR hS => ?_)
  refine lv_aload_n hC.1 hC.2.1 dX5_takeOver_11 rfl (lv_at hl 1 rfl) ?_
  refine x_get (v := .ref (xz G + 103)) hC xf_X5_20 (xce_100 G _ _) rfl hR dX5_takeOver_12 ?_
  refine lv_iconst (v := 0) hC.1 hC.2.1 dX5_takeOver_15 (by decide) ?_
  refine lv_aload_n hC.1 hC.2.1 dX5_takeOver_16 rfl (lv_at hl 0 rfl) ?_
  refine x_get (v := .ref (xz G + 17)) hC xf_X5_20 (xce_14 G true _ _) rfl hR dX5_takeOver_17 ?_
  refine lv_iconst (v := 0) hC.1 hC.2.1 dX5_takeOver_20 (by decide) ?_
  refine W.eq (g2 := F0 m 21 ls [.int 0, .ref (xz G + 17), .int 0, .ref (xz G + 103)]) rfl ?_
  refine lv_sipush (v := 1440) hC.1 hC.2.1 dX5_takeOver_21 (by decide) ?_
  refine x_cpi (rest := []) hC tw_809 (xce_103 G _ _) (fun f => (xce_17 G true f _)) hl.1 hR hS (Nat.le_of_ble_eq_true rfl) (Nat.le_of_ble_eq_true rfl) dX5_takeOver_24 hf (fun I2 hf H locs hR hS => ?_)
  have h9 := Option.some.inj hf
  subst h9
  exact x_vret hC hR hS dX5_takeOver_27
set_option maxRecDepth 20000 in
theorem M_X8_takeOver_20_106 (G : XG) (l : Launch) {I : xTI} {L : xTL} {rI : xTI} (hf : F_X8_takeOver_20_106 I = some rI) : xMet G l yX8_takeOver cX8_takeOver 2 none 1 119 true [.ref (xz G + 20), .ref (xz G + 106)] I L none rI L := by
  refine xMet.ofW (by decide +kernel) (Nat.le_of_ble_eq_true rfl) ?_
  intro p e s m args below meth c hC H locs ls hR hS hl
  replace hC : xC G p s m args meth c cX8_takeOver 2 RX8 none := hC
  replace hl : lv_has ls 2 [(0, .ref (xz G + 20)), (1, .ref (xz G + 106))] := hl
  unfold F_X8_takeOver_20_106 at hf
  refine lv_aload_n hC.1 hC.2.1 dX8_takeOver_0 rfl (lv_at hl 0 rfl) ?_
  refine lv_aload_n hC.1 hC.2.1 dX8_takeOver_1 rfl (lv_at hl 1 rfl) ?_
  refine x_getI hC xf_X8_20 (xce_106 G _ _) rfl hR dX8_takeOver_2 hf (fun v1 hf => ?_)
  refine x_putI hC xf_X8_20 xp_8_3 (fun f => (xce_20 G true f _)) rfl (Nat.le_of_ble_eq_true rfl) hR hS dX8_takeOver_5 hf (fun I2 hf H locs hR hS => ?_)
  refine lv_aload_n hC.1 hC.2.1 dX8_takeOver_8 rfl (lv_at hl 1 rfl) ?_
  refine x_get (v := .ref (xz G + 107)) hC xf_X8_16 (xce_106 G _ _) rfl hR dX8_takeOver_9 ?_
  refine lv_iconst (v := 0) hC.1 hC.2.1 dX8_takeOver_12 (by decide) ?_
  refine lv_aload_n hC.1 hC.2.1 dX8_takeOver_13 rfl (lv_at hl 0 rfl) ?_
  refine x_get (v := .ref (xz G + 21)) hC xf_X8_16 (xce_20 G true _ _) rfl hR dX8_takeOver_14 ?_
  refine lv_iconst (v := 0) hC.1 hC.2.1 dX8_takeOver_17 (by decide) ?_
  refine lv_aload_n hC.1 hC.2.1 dX8_takeOver_18 rfl (lv_at hl 0 rfl) ?_
  refine W.eq (g2 := F0 m 19 ls [.ref (xz G + 20), .int 0, .ref (xz G + 21), .int 0, .ref (xz G + 107)]) rfl ?_
  refine x_get (v := .ref (xz G + 21)) hC xf_X8_16 (xce_20 G true _ _) rfl hR dX8_takeOver_19 ?_
  refine x_alen_i (v := 140) hC (xce_21 G true _ _) rfl hR dX8_takeOver_22 ?_
  refine lv_aload_n hC.1 hC.2.1 dX8_takeOver_23 rfl (lv_at hl 1 rfl) ?_
  refine x_get (v := .ref (xz G + 107)) hC xf_X8_16 (xce_106 G _ _) rfl hR dX8_takeOver_24 ?_
  refine x_alen_i (v := 140) hC (xce_107 G _ _) rfl hR dX8_takeOver_27 ?_
  refine x_mni (rest := [.int 0, .ref (xz G + 21), .int 0, .ref (xz G + 107)]) hC tw_1142 hl.1 (Nat.le_of_ble_eq_true rfl) (Nat.le_of_ble_eq_true rfl) dX8_takeOver_28 ⟨Nat.le_refl _, Nat.le_refl _⟩ hf (fun v3 hf => ?_)
  refine x_cpi (rest := []) hC tw_1143 (xce_107 G _ _) (fun f => (xce_21 G true f _)) hl.1 hR hS (Nat.le_of_ble_eq_true rfl) (Nat.le_of_ble_eq_true rfl) dX8_takeOver_31 hf (fun I4 hf H locs hR hS => ?_)
  have h9 := Option.some.inj hf
  subst h9
  exact x_vret hC hR hS dX8_takeOver_34
set_option maxRecDepth 20000 in
theorem M_X8_takeOver_22_108 (G : XG) (l : Launch) {I : xTI} {L : xTL} {rI : xTI} (hf : F_X8_takeOver_22_108 I = some rI) : xMet G l yX8_takeOver cX8_takeOver 2 none 1 119 true [.ref (xz G + 22), .ref (xz G + 108)] I L none rI L := by
  refine xMet.ofW (by decide +kernel) (Nat.le_of_ble_eq_true rfl) ?_
  intro p e s m args below meth c hC H locs ls hR hS hl
  replace hC : xC G p s m args meth c cX8_takeOver 2 RX8 none := hC
  replace hl : lv_has ls 2 [(0, .ref (xz G + 22)), (1, .ref (xz G + 108))] := hl
  unfold F_X8_takeOver_22_108 at hf
  refine lv_aload_n hC.1 hC.2.1 dX8_takeOver_0 rfl (lv_at hl 0 rfl) ?_
  refine lv_aload_n hC.1 hC.2.1 dX8_takeOver_1 rfl (lv_at hl 1 rfl) ?_
  refine x_getI hC xf_X8_20 (xce_108 G _ _) rfl hR dX8_takeOver_2 hf (fun v1 hf => ?_)
  refine x_putI hC xf_X8_20 xp_8_3 (fun f => (xce_22 G true f _)) rfl (Nat.le_of_ble_eq_true rfl) hR hS dX8_takeOver_5 hf (fun I2 hf H locs hR hS => ?_)
  refine lv_aload_n hC.1 hC.2.1 dX8_takeOver_8 rfl (lv_at hl 1 rfl) ?_
  refine x_get (v := .ref (xz G + 109)) hC xf_X8_16 (xce_108 G _ _) rfl hR dX8_takeOver_9 ?_
  refine lv_iconst (v := 0) hC.1 hC.2.1 dX8_takeOver_12 (by decide) ?_
  refine lv_aload_n hC.1 hC.2.1 dX8_takeOver_13 rfl (lv_at hl 0 rfl) ?_
  refine x_get (v := .ref (xz G + 23)) hC xf_X8_16 (xce_22 G true _ _) rfl hR dX8_takeOver_14 ?_
  refine lv_iconst (v := 0) hC.1 hC.2.1 dX8_takeOver_17 (by decide) ?_
  refine lv_aload_n hC.1 hC.2.1 dX8_takeOver_18 rfl (lv_at hl 0 rfl) ?_
  refine W.eq (g2 := F0 m 19 ls [.ref (xz G + 22), .int 0, .ref (xz G + 23), .int 0, .ref (xz G + 109)]) rfl ?_
  refine x_get (v := .ref (xz G + 23)) hC xf_X8_16 (xce_22 G true _ _) rfl hR dX8_takeOver_19 ?_
  refine x_alen_i (v := 30) hC (xce_23 G true _ _) rfl hR dX8_takeOver_22 ?_
  refine lv_aload_n hC.1 hC.2.1 dX8_takeOver_23 rfl (lv_at hl 1 rfl) ?_
  refine x_get (v := .ref (xz G + 109)) hC xf_X8_16 (xce_108 G _ _) rfl hR dX8_takeOver_24 ?_
  refine x_alen_i (v := 30) hC (xce_109 G _ _) rfl hR dX8_takeOver_27 ?_
  refine x_mni (rest := [.int 0, .ref (xz G + 23), .int 0, .ref (xz G + 109)]) hC tw_1142 hl.1 (Nat.le_of_ble_eq_true rfl) (Nat.le_of_ble_eq_true rfl) dX8_takeOver_28 ⟨Nat.le_refl _, Nat.le_refl _⟩ hf (fun v3 hf => ?_)
  refine x_cpi (rest := []) hC tw_1143 (xce_109 G _ _) (fun f => (xce_23 G true f _)) hl.1 hR hS (Nat.le_of_ble_eq_true rfl) (Nat.le_of_ble_eq_true rfl) dX8_takeOver_31 hf (fun I4 hf H locs hR hS => ?_)
  have h9 := Option.some.inj hf
  subst h9
  exact x_vret hC hR hS dX8_takeOver_34
set_option maxRecDepth 20000 in
theorem M_X8_takeOver_24_110 (G : XG) (l : Launch) {I : xTI} {L : xTL} {rI : xTI} (hf : F_X8_takeOver_24_110 I = some rI) : xMet G l yX8_takeOver cX8_takeOver 2 none 1 119 true [.ref (xz G + 24), .ref (xz G + 110)] I L none rI L := by
  refine xMet.ofW (by decide +kernel) (Nat.le_of_ble_eq_true rfl) ?_
  intro p e s m args below meth c hC H locs ls hR hS hl
  replace hC : xC G p s m args meth c cX8_takeOver 2 RX8 none := hC
  replace hl : lv_has ls 2 [(0, .ref (xz G + 24)), (1, .ref (xz G + 110))] := hl
  unfold F_X8_takeOver_24_110 at hf
  refine lv_aload_n hC.1 hC.2.1 dX8_takeOver_0 rfl (lv_at hl 0 rfl) ?_
  refine lv_aload_n hC.1 hC.2.1 dX8_takeOver_1 rfl (lv_at hl 1 rfl) ?_
  refine x_getI hC xf_X8_20 (xce_110 G _ _) rfl hR dX8_takeOver_2 hf (fun v1 hf => ?_)
  refine x_putI hC xf_X8_20 xp_8_3 (fun f => (xce_24 G true f _)) rfl (Nat.le_of_ble_eq_true rfl) hR hS dX8_takeOver_5 hf (fun I2 hf H locs hR hS => ?_)
  refine lv_aload_n hC.1 hC.2.1 dX8_takeOver_8 rfl (lv_at hl 1 rfl) ?_
  refine x_get (v := .ref (xz G + 111)) hC xf_X8_16 (xce_110 G _ _) rfl hR dX8_takeOver_9 ?_
  refine lv_iconst (v := 0) hC.1 hC.2.1 dX8_takeOver_12 (by decide) ?_
  refine lv_aload_n hC.1 hC.2.1 dX8_takeOver_13 rfl (lv_at hl 0 rfl) ?_
  refine x_get (v := .ref (xz G + 25)) hC xf_X8_16 (xce_24 G true _ _) rfl hR dX8_takeOver_14 ?_
  refine lv_iconst (v := 0) hC.1 hC.2.1 dX8_takeOver_17 (by decide) ?_
  refine lv_aload_n hC.1 hC.2.1 dX8_takeOver_18 rfl (lv_at hl 0 rfl) ?_
  refine W.eq (g2 := F0 m 19 ls [.ref (xz G + 24), .int 0, .ref (xz G + 25), .int 0, .ref (xz G + 111)]) rfl ?_
  refine x_get (v := .ref (xz G + 25)) hC xf_X8_16 (xce_24 G true _ _) rfl hR dX8_takeOver_19 ?_
  refine x_alen_i (v := 2100) hC (xce_25 G true _ _) rfl hR dX8_takeOver_22 ?_
  refine lv_aload_n hC.1 hC.2.1 dX8_takeOver_23 rfl (lv_at hl 1 rfl) ?_
  refine x_get (v := .ref (xz G + 111)) hC xf_X8_16 (xce_110 G _ _) rfl hR dX8_takeOver_24 ?_
  refine x_alen_i (v := 2100) hC (xce_111 G _ _) rfl hR dX8_takeOver_27 ?_
  refine x_mni (rest := [.int 0, .ref (xz G + 25), .int 0, .ref (xz G + 111)]) hC tw_1142 hl.1 (Nat.le_of_ble_eq_true rfl) (Nat.le_of_ble_eq_true rfl) dX8_takeOver_28 ⟨Nat.le_refl _, Nat.le_refl _⟩ hf (fun v3 hf => ?_)
  refine x_cpi (rest := []) hC tw_1143 (xce_111 G _ _) (fun f => (xce_25 G true f _)) hl.1 hR hS (Nat.le_of_ble_eq_true rfl) (Nat.le_of_ble_eq_true rfl) dX8_takeOver_31 hf (fun I4 hf H locs hR hS => ?_)
  have h9 := Option.some.inj hf
  subst h9
  exact x_vret hC hR hS dX8_takeOver_34
set_option maxRecDepth 20000 in
theorem M_X8_takeOver_26_112 (G : XG) (l : Launch) {I : xTI} {L : xTL} {rI : xTI} (hf : F_X8_takeOver_26_112 I = some rI) : xMet G l yX8_takeOver cX8_takeOver 2 none 1 119 true [.ref (xz G + 26), .ref (xz G + 112)] I L none rI L := by
  refine xMet.ofW (by decide +kernel) (Nat.le_of_ble_eq_true rfl) ?_
  intro p e s m args below meth c hC H locs ls hR hS hl
  replace hC : xC G p s m args meth c cX8_takeOver 2 RX8 none := hC
  replace hl : lv_has ls 2 [(0, .ref (xz G + 26)), (1, .ref (xz G + 112))] := hl
  unfold F_X8_takeOver_26_112 at hf
  refine lv_aload_n hC.1 hC.2.1 dX8_takeOver_0 rfl (lv_at hl 0 rfl) ?_
  refine lv_aload_n hC.1 hC.2.1 dX8_takeOver_1 rfl (lv_at hl 1 rfl) ?_
  refine x_getI hC xf_X8_20 (xce_112 G _ _) rfl hR dX8_takeOver_2 hf (fun v1 hf => ?_)
  refine x_putI hC xf_X8_20 xp_8_3 (fun f => (xce_26 G true f _)) rfl (Nat.le_of_ble_eq_true rfl) hR hS dX8_takeOver_5 hf (fun I2 hf H locs hR hS => ?_)
  refine lv_aload_n hC.1 hC.2.1 dX8_takeOver_8 rfl (lv_at hl 1 rfl) ?_
  refine x_get (v := .ref (xz G + 113)) hC xf_X8_16 (xce_112 G _ _) rfl hR dX8_takeOver_9 ?_
  refine lv_iconst (v := 0) hC.1 hC.2.1 dX8_takeOver_12 (by decide) ?_
  refine lv_aload_n hC.1 hC.2.1 dX8_takeOver_13 rfl (lv_at hl 0 rfl) ?_
  refine x_get (v := .ref (xz G + 27)) hC xf_X8_16 (xce_26 G true _ _) rfl hR dX8_takeOver_14 ?_
  refine lv_iconst (v := 0) hC.1 hC.2.1 dX8_takeOver_17 (by decide) ?_
  refine lv_aload_n hC.1 hC.2.1 dX8_takeOver_18 rfl (lv_at hl 0 rfl) ?_
  refine W.eq (g2 := F0 m 19 ls [.ref (xz G + 26), .int 0, .ref (xz G + 27), .int 0, .ref (xz G + 113)]) rfl ?_
  refine x_get (v := .ref (xz G + 27)) hC xf_X8_16 (xce_26 G true _ _) rfl hR dX8_takeOver_19 ?_
  refine x_alen_i (v := 1200) hC (xce_27 G true _ _) rfl hR dX8_takeOver_22 ?_
  refine lv_aload_n hC.1 hC.2.1 dX8_takeOver_23 rfl (lv_at hl 1 rfl) ?_
  refine x_get (v := .ref (xz G + 113)) hC xf_X8_16 (xce_112 G _ _) rfl hR dX8_takeOver_24 ?_
  refine x_alen_i (v := 1200) hC (xce_113 G _ _) rfl hR dX8_takeOver_27 ?_
  refine x_mni (rest := [.int 0, .ref (xz G + 27), .int 0, .ref (xz G + 113)]) hC tw_1142 hl.1 (Nat.le_of_ble_eq_true rfl) (Nat.le_of_ble_eq_true rfl) dX8_takeOver_28 ⟨Nat.le_refl _, Nat.le_refl _⟩ hf (fun v3 hf => ?_)
  refine x_cpi (rest := []) hC tw_1143 (xce_113 G _ _) (fun f => (xce_27 G true f _)) hl.1 hR hS (Nat.le_of_ble_eq_true rfl) (Nat.le_of_ble_eq_true rfl) dX8_takeOver_31 hf (fun I4 hf H locs hR hS => ?_)
  have h9 := Option.some.inj hf
  subst h9
  exact x_vret hC hR hS dX8_takeOver_34
set_option maxRecDepth 20000 in
theorem M_X1_takeOver_1_87 (G : XG) (l : Launch) {I : xTI} {L : xTL} {rI : xTI} {rL : xTL} (hf : F_X1_takeOver_1_87 I L = some (rI, rL)) : xMet G l yX1_takeOver cX1_takeOver 2 none 3 161 true [.ref (xz G + 1), .ref (xz G + 87)] I L none rI rL := by
  refine xMet.ofW (by decide +kernel) (Nat.le_of_ble_eq_true rfl) ?_
  intro p e s m args below meth c hC H locs ls hR hS hl
  replace hC : xC G p s m args meth c cX1_takeOver 2 RX1 none := hC
  replace hl : lv_has ls 2 [(0, .ref (xz G + 1)), (1, .ref (xz G + 87))] := hl
  unfold F_X1_takeOver_1_87 at hf
  refine lv_aload_n hC.1 hC.2.1 dX1_takeOver_0 rfl (lv_at hl 0 rfl) ?_
  refine lv_aload_n hC.1 hC.2.1 dX1_takeOver_1 rfl (lv_at hl 1 rfl) ?_
  refine x_getI hC xf_X1_58 (xce_87 G _ _) rfl hR dX1_takeOver_2 hf (fun v1 hf => ?_)
  refine x_putI hC xf_X1_58 xp_1_0 (fun f => (xce_1 G true f _)) rfl (Nat.le_of_ble_eq_true rfl) hR hS dX1_takeOver_5 hf (fun I2 hf H locs hR hS => ?_)
  refine lv_aload_n hC.1 hC.2.1 dX1_takeOver_8 rfl (lv_at hl 0 rfl) ?_
  refine lv_aload_n hC.1 hC.2.1 dX1_takeOver_9 rfl (lv_at hl 1 rfl) ?_
  refine x_getI hC xf_X1_80 (xce_87 G _ _) rfl hR dX1_takeOver_10 hf (fun v3 hf => ?_)
  refine x_putI hC xf_X1_80 xp_1_1 (fun f => (xce_1 G true f _)) rfl (Nat.le_of_ble_eq_true rfl) hR hS dX1_takeOver_13 hf (fun I4 hf H locs hR hS => ?_)
  refine lv_aload_n hC.1 hC.2.1 dX1_takeOver_16 rfl (lv_at hl 1 rfl) ?_
  refine x_get (v := .ref (xz G + 88)) hC xf_X1_9 (xce_87 G _ _) rfl hR dX1_takeOver_17 ?_
  refine lv_iconst (v := 0) hC.1 hC.2.1 dX1_takeOver_20 (by decide) ?_
  refine W.eq (g2 := F0 m 21 ls [.int 0, .ref (xz G + 88)]) rfl ?_
  refine lv_aload_n hC.1 hC.2.1 dX1_takeOver_21 rfl (lv_at hl 0 rfl) ?_
  refine x_get (v := .ref (xz G + 2)) hC xf_X1_9 (xce_1 G true _ _) rfl hR dX1_takeOver_22 ?_
  refine lv_iconst (v := 0) hC.1 hC.2.1 dX1_takeOver_25 (by decide) ?_
  refine lv_iconst (v := 5) hC.1 hC.2.1 dX1_takeOver_26 (by decide) ?_
  refine x_cpi (rest := []) hC tw_1132 (xce_88 G _ _) (fun f => (xce_2 G true f _)) hl.1 hR hS (Nat.le_of_ble_eq_true rfl) (Nat.le_of_ble_eq_true rfl) dX1_takeOver_27 hf (fun I5 hf H locs hR hS => ?_)
  refine lv_aload_n hC.1 hC.2.1 dX1_takeOver_30 rfl (lv_at hl 0 rfl) ?_
  refine x_get (v := .ref (xz G + 3)) hC xf_X1_18 (xce_1 G true _ _) rfl hR dX1_takeOver_31 ?_
  refine lv_aload_n hC.1 hC.2.1 dX1_takeOver_34 rfl (lv_at hl 1 rfl) ?_
  refine x_get (v := .ref (xz G + 89)) hC xf_X1_18 (xce_87 G _ _) rfl hR dX1_takeOver_35 ?_
  refine x_cvv11 (rest := []) hC xy_X3_takeOver tw_1133 hf (fun _ _ h => M_X3_takeOver_3_89 G l h) ⟨Nat.le_of_ble_eq_true rfl, Nat.le_of_ble_eq_true rfl⟩ (xce_3 G true _ _) rfl rfl rfl (Nat.le_of_ble_eq_true rfl) hl.1 hR hS dX1_takeOver_38 ⟨Nat.le_refl _, Nat.le_refl _⟩ (fun I6 L7 hf H locs hR hS => ?_)
  refine lv_aload_n hC.1 hC.2.1 dX1_takeOver_41 rfl (lv_at hl 0 rfl) ?_
  refine x_get (v := .ref (xz G + 11)) hC xf_X1_25 (xce_1 G true _ _) rfl hR dX1_takeOver_42 ?_
  refine W.eq (g2 := F0 m 45 ls [.ref (xz G + 11)]) rfl ?_
  refine x_get (v := .ref (xz G + 12)) hC xf_X1_93 (xce_11 G true _ _) rfl hR dX1_takeOver_45 ?_
  refine lv_aload_n hC.1 hC.2.1 dX1_takeOver_48 rfl (lv_at hl 1 rfl) ?_
  refine x_get (v := .ref (xz G + 97)) hC xf_X1_25 (xce_87 G _ _) rfl hR dX1_takeOver_49 ?_
  refine x_get (v := .ref (xz G + 98)) hC xf_X1_93 (xce_97 G _ _) rfl hR dX1_takeOver_52 ?_
  refine x_cvv10 (rest := []) hC xy_X8_takeOver tw_1138 hf (fun _ h => M_X8_takeOver_12_98 G l h) ⟨Nat.le_of_ble_eq_true rfl, Nat.le_of_ble_eq_true rfl⟩ (xce_12 G true _ _) rfl rfl rfl (Nat.le_of_ble_eq_true rfl) hl.1 hR hS dX1_takeOver_55 ⟨Nat.le_refl _, Nat.le_refl _⟩ (fun I8 hf H locs hR hS => ?_)
  refine lv_aload_n hC.1 hC.2.1 dX1_takeOver_58 rfl (lv_at hl 0 rfl) ?_
  refine x_get (v := .ref (xz G + 14)) hC xf_X1_32 (xce_1 G true _ _) rfl hR dX1_takeOver_59 ?_
  refine lv_aload_n hC.1 hC.2.1 dX1_takeOver_62 rfl (lv_at hl 1 rfl) ?_
  refine x_get (v := .ref (xz G + 100)) hC xf_X1_32 (xce_87 G _ _) rfl hR dX1_takeOver_63 ?_
  refine x_cvv10 (rest := []) hC xy_X5_takeOver tw_1144 hf (fun _ h => M_X5_takeOver_14_100 G l h) ⟨Nat.le_of_ble_eq_true rfl, Nat.le_of_ble_eq_true rfl⟩ (xce_14 G true _ _) rfl rfl rfl (Nat.le_of_ble_eq_true rfl) hl.1 hR hS dX1_takeOver_66 ⟨Nat.le_refl _, Nat.le_refl _⟩ (fun I9 hf H locs hR hS => ?_)
  refine lv_aload_n hC.1 hC.2.1 dX1_takeOver_69 rfl (lv_at hl 0 rfl) ?_
  refine x_get (v := .ref (xz G + 20)) hC xf_X1_41 (xce_1 G true _ _) rfl hR dX1_takeOver_70 ?_
  refine W.eq (g2 := F0 m 73 ls [.ref (xz G + 20)]) rfl ?_
  refine lv_aload_n hC.1 hC.2.1 dX1_takeOver_73 rfl (lv_at hl 1 rfl) ?_
  refine x_get (v := .ref (xz G + 106)) hC xf_X1_41 (xce_87 G _ _) rfl hR dX1_takeOver_74 ?_
  refine x_cvv10 (rest := []) hC xy_X8_takeOver tw_1138 hf (fun _ h => M_X8_takeOver_20_106 G l h) ⟨Nat.le_of_ble_eq_true rfl, Nat.le_of_ble_eq_true rfl⟩ (xce_20 G true _ _) rfl rfl rfl (Nat.le_of_ble_eq_true rfl) hl.1 hR hS dX1_takeOver_77 ⟨Nat.le_refl _, Nat.le_refl _⟩ (fun I10 hf H locs hR hS => ?_)
  refine lv_aload_n hC.1 hC.2.1 dX1_takeOver_80 rfl (lv_at hl 0 rfl) ?_
  refine x_get (v := .ref (xz G + 22)) hC xf_X1_45 (xce_1 G true _ _) rfl hR dX1_takeOver_81 ?_
  refine lv_aload_n hC.1 hC.2.1 dX1_takeOver_84 rfl (lv_at hl 1 rfl) ?_
  refine x_get (v := .ref (xz G + 108)) hC xf_X1_45 (xce_87 G _ _) rfl hR dX1_takeOver_85 ?_
  refine x_cvv10 (rest := []) hC xy_X8_takeOver tw_1138 hf (fun _ h => M_X8_takeOver_22_108 G l h) ⟨Nat.le_of_ble_eq_true rfl, Nat.le_of_ble_eq_true rfl⟩ (xce_22 G true _ _) rfl rfl rfl (Nat.le_of_ble_eq_true rfl) hl.1 hR hS dX1_takeOver_88 ⟨Nat.le_refl _, Nat.le_refl _⟩ (fun I11 hf H locs hR hS => ?_)
  refine lv_aload_n hC.1 hC.2.1 dX1_takeOver_91 rfl (lv_at hl 0 rfl) ?_
  refine x_get (v := .ref (xz G + 24)) hC xf_X1_48 (xce_1 G true _ _) rfl hR dX1_takeOver_92 ?_
  refine lv_aload_n hC.1 hC.2.1 dX1_takeOver_95 rfl (lv_at hl 1 rfl) ?_
  refine x_get (v := .ref (xz G + 110)) hC xf_X1_48 (xce_87 G _ _) rfl hR dX1_takeOver_96 ?_
  refine W.eq (g2 := F0 m 99 ls [.ref (xz G + 110), .ref (xz G + 24)]) rfl ?_
  refine x_cvv10 (rest := []) hC xy_X8_takeOver tw_1138 hf (fun _ h => M_X8_takeOver_24_110 G l h) ⟨Nat.le_of_ble_eq_true rfl, Nat.le_of_ble_eq_true rfl⟩ (xce_24 G true _ _) rfl rfl rfl (Nat.le_of_ble_eq_true rfl) hl.1 hR hS dX1_takeOver_99 ⟨Nat.le_refl _, Nat.le_refl _⟩ (fun I12 hf H locs hR hS => ?_)
  refine lv_aload_n hC.1 hC.2.1 dX1_takeOver_102 rfl (lv_at hl 0 rfl) ?_
  refine x_get (v := .ref (xz G + 26)) hC xf_X1_51 (xce_1 G true _ _) rfl hR dX1_takeOver_103 ?_
  refine lv_aload_n hC.1 hC.2.1 dX1_takeOver_106 rfl (lv_at hl 1 rfl) ?_
  refine x_get (v := .ref (xz G + 112)) hC xf_X1_51 (xce_87 G _ _) rfl hR dX1_takeOver_107 ?_
  refine x_cvv10 (rest := []) hC xy_X8_takeOver tw_1138 hf (fun _ h => M_X8_takeOver_26_112 G l h) ⟨Nat.le_of_ble_eq_true rfl, Nat.le_of_ble_eq_true rfl⟩ (xce_26 G true _ _) rfl rfl rfl (Nat.le_of_ble_eq_true rfl) hl.1 hR hS dX1_takeOver_110 ⟨Nat.le_refl _, Nat.le_refl _⟩ (fun I13 hf H locs hR hS => ?_)
  refine lv_aload_n hC.1 hC.2.1 dX1_takeOver_113 rfl (lv_at hl 1 rfl) ?_
  refine x_get (v := .ref (xz G + 114)) hC xf_X1_54 (xce_87 G _ _) rfl hR dX1_takeOver_114 ?_
  refine lv_iconst (v := 0) hC.1 hC.2.1 dX1_takeOver_117 (by decide) ?_
  refine lv_aload_n hC.1 hC.2.1 dX1_takeOver_118 rfl (lv_at hl 0 rfl) ?_
  refine x_get (v := .ref (xz G + 28)) hC xf_X1_54 (xce_1 G true _ _) rfl hR dX1_takeOver_119 ?_
  refine lv_iconst (v := 0) hC.1 hC.2.1 dX1_takeOver_122 (by decide) ?_
  refine W.eq (g2 := F0 m 123 ls [.int 0, .ref (xz G + 28), .int 0, .ref (xz G + 114)]) rfl ?_
  refine lv_bipush (v := 60) hC.1 hC.2.1 dX1_takeOver_123 (by decide) ?_
  refine x_cpl (rest := []) hC tw_1132 (xce_114 G _ _) (fun f => (xce_28 G true _ f)) hl.1 hR hS (Nat.le_of_ble_eq_true rfl) (Nat.le_of_ble_eq_true rfl) dX1_takeOver_125 hf (fun L14 hf H locs hR hS => ?_)
  refine lv_aload_n hC.1 hC.2.1 dX1_takeOver_128 rfl (lv_at hl 0 rfl) ?_
  refine lv_aload_n hC.1 hC.2.1 dX1_takeOver_129 rfl (lv_at hl 1 rfl) ?_
  refine x_getI hC xf_X1_102 (xce_87 G _ _) rfl hR dX1_takeOver_130 hf (fun v15 hf => ?_)
  refine x_putZ hC xf_X1_102 xp_1_11 (fun f => (xce_1 G true f _)) rfl (Nat.le_of_ble_eq_true rfl) hR hS dX1_takeOver_133 hf (fun I16 hf H locs hR hS => ?_)
  refine lv_aload_n hC.1 hC.2.1 dX1_takeOver_136 rfl (lv_at hl 0 rfl) ?_
  refine lv_aload_n hC.1 hC.2.1 dX1_takeOver_137 rfl (lv_at hl 1 rfl) ?_
  refine x_getI hC xf_X1_106 (xce_87 G _ _) rfl hR dX1_takeOver_138 hf (fun v17 hf => ?_)
  refine x_putZ hC xf_X1_106 xp_1_12 (fun f => (xce_1 G true f _)) rfl (Nat.le_of_ble_eq_true rfl) hR hS dX1_takeOver_141 hf (fun I18 hf H locs hR hS => ?_)
  obtain ⟨h91, h92⟩ := Prod.mk.inj (Option.some.inj hf)
  subst h91
  subst h92
  exact x_vret hC hR hS dX1_takeOver_144
set_option maxRecDepth 20000 in
theorem M_X10_back_t (G : XG) (l : Launch) {I : xTI} {L : xTL} {r : Int32} {rI : xTI} {rL : xTL} (hf : F_X10_back_t I L = some (r, rI, rL)) : xMet G l yX10_back cX10_back 1 (some .int) 4 182 true [.ref (xz G + 0)] I L (some (.int r)) rI rL := by
  refine xMet.ofW (by decide +kernel) (Nat.le_of_ble_eq_true rfl) ?_
  intro p e s m args below meth c hC H locs ls hR hS hl
  replace hC : xC G p s m args meth c cX10_back 1 RX10 (some .int) := hC
  replace hl : lv_has ls 1 [(0, .ref (xz G + 0))] := hl
  unfold F_X10_back_t at hf
  refine lv_aload_n hC.1 hC.2.1 dX10_back_0 rfl (lv_at hl 0 rfl) ?_
  refine x_get (v := .ref (xz G + 87)) hC xf_X10_16 (xce_0 G true _ _) rfl hR dX10_back_1 ?_
  refine lv_ifnonnull (tgt := 14) hC.1 hC.2.1 dX10_back_4 (by decide) ?_
  refine lv_aload_n hC.1 hC.2.1 dX10_back_14 rfl (lv_at hl 0 rfl) ?_
  refine x_get (v := .ref (xz G + 1)) hC xf_X10_10 (xce_0 G true _ _) rfl hR dX10_back_15 ?_
  refine lv_aload_n hC.1 hC.2.1 dX10_back_18 rfl (lv_at hl 0 rfl) ?_
  refine x_get (v := .ref (xz G + 87)) hC xf_X10_16 (xce_0 G true _ _) rfl hR dX10_back_19 ?_
  refine x_cvv11 (rest := []) hC xy_X1_takeOver tw_1128 hf (fun _ _ h => M_X1_takeOver_1_87 G l h) ⟨Nat.le_of_ble_eq_true rfl, Nat.le_of_ble_eq_true rfl⟩ (xce_1 G true _ _) rfl rfl rfl (Nat.le_of_ble_eq_true rfl) hl.1 hR hS dX10_back_22 ⟨Nat.le_refl _, Nat.le_refl _⟩ (fun I1 L2 hf H locs hR hS => ?_)
  refine lv_aload_n hC.1 hC.2.1 dX10_back_25 rfl (lv_at hl 0 rfl) ?_
  refine x_get (v := .ref (xz G + 1)) hC xf_X10_10 (xce_0 G true _ _) rfl hR dX10_back_26 ?_
  refine x_getI hC xf_X10_164 (xce_1 G true _ _) rfl hR dX10_back_29 hf (fun v3 hf => ?_)
  refine W.eq (g2 := F0 m 32 ls [.int v3]) rfl ?_
  obtain ⟨h91, h90⟩ := Prod.mk.inj (Option.some.inj hf)
  obtain ⟨h92, h93⟩ := Prod.mk.inj h90
  subst h91
  subst h92
  subst h93
  exact x_iret hC hR hS dX10_back_32
set_option maxRecDepth 20000 in
theorem M_X10_back_f (G : XG) (l : Launch) {I : xTI} {L : xTL} {r : Int32} {rI : xTI} (hf : F_X10_back_f I = some (r, rI)) : xMet G l yX10_back cX10_back 1 (some .int) 1 21 false [.ref (xz G + 0)] I L (some (.int r)) rI L := by
  refine xMet.ofW (by decide +kernel) (Nat.le_of_ble_eq_true rfl) ?_
  intro p e s m args below meth c hC H locs ls hR hS hl
  replace hC : xC G p s m args meth c cX10_back 1 RX10 (some .int) := hC
  replace hl : lv_has ls 1 [(0, .ref (xz G + 0))] := hl
  unfold F_X10_back_f at hf
  refine lv_aload_n hC.1 hC.2.1 dX10_back_0 rfl (lv_at hl 0 rfl) ?_
  refine x_get (v := .null) hC xf_X10_16 (xce_0 G false _ _) rfl hR dX10_back_1 ?_
  refine lv_ifnonnullN hC.1 hC.2.1 dX10_back_4 ?_
  refine lv_aload_n hC.1 hC.2.1 dX10_back_7 rfl (lv_at hl 0 rfl) ?_
  refine lv_bipush (v := (-2)) hC.1 hC.2.1 dX10_back_8 (by decide) ?_
  refine x_cvi10 (rest := []) hC xy_X10_refuse tw_411 hf (fun _ _ h => M_X10_refuse G l false h) ⟨Nat.le_of_ble_eq_true rfl, Nat.le_of_ble_eq_true rfl⟩ (xce_0 G false _ _) rfl rfl rfl (Nat.le_of_ble_eq_true rfl) hl.1 hR hS dX10_back_10 ⟨Nat.le_refl _, Nat.le_refl _⟩ (fun v1 I2 hf H locs hR hS => ?_)
  obtain ⟨h91, h92⟩ := Prod.mk.inj (Option.some.inj hf)
  subst h91
  subst h92
  exact x_iret hC hR hS dX10_back_13
