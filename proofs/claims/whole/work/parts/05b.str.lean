section XSTR
variable {G : XG} {kp : Bool} {p : Program} {l : Launch} {e : Env} {R : Room} {s : State} {m : MethodId} {args : Array Value} {below : List Frame} {meth : Method} {c : Code} {H : Heap} {locs : List Loc} {cells slots : Nat} {Q : State → Prop} {cc : ByteArray} {nL pc : Nat} {own : String} {ret : Option FieldType} {ls : Array Slot} {rest : List Value} {I : xTI} {L : xTL} {Rt : Type} {r : Rt}
theorem x_nret {x : Int32} {ty : FieldType} (hn : narrow ty (.int x) = .int x) (hC : xC G p s m args meth c cc nL own (some ty)) (hR : xRep G kp I L H) (hS : xS G s.heap H locs) (hdg : decode cc pc = .ok (.ireturn, 1)) : W p l e R s m args below meth c H locs 0 0 (xMQ G kp below args s (some (.int x)) I L) (F0 m pc ls [.int x]) :=
  W.zret hC.1 hC.2.1 hC.2.2.2.2.2.2.1 hn (fun t ht hW => ⟨rfl, by rw [ht]; exact hR, by rw [ht]; exact hS.1, fun q hq => by rw [ht]; exact hS.2.1 q hq⟩) hS.2.2 hdg (hlocks := hC.2.2.2.2.2.2.2.1)
theorem x_cvb {y : MethodName} {ccY : ByteArray} {nLY n fr lo idx b : Nat} {retY : Option FieldType} {As st0 : List Value} {v : Option Value} {I1 : xTI} {L1 : xTL} (hC : xC G p s m args meth c cc nL own ret) (hY : xYv y ccY nLY retY n) (hlk : Cond.methodLink own idx y ∈ lw_tbl) (hM : xMet G l y ccY nLY retY fr lo kp (.ref b :: As) I L v I1 L1)
    (hrm : fr + 1 ≤ R.frames ∧ 8 + (nLY + 11) + lo ≤ R.locals) (hrec : ∃ cellB : Cell, H[b]? = some cellB ∧ cellB.vm.isStatics = false ∧ s.vm.findClass y.cls = some cellB.cls) (hn : As.length = n) (hst : st0 = As.reverse ++ .ref b :: rest) (hrest : (rest.map fun v => v.category).sum ≤ 8) (hl : ls.size = nL) (hR : xRep G kp I L H) (hS : xS G s.heap H locs) (hdg : decode cc pc = .ok (.invokevirtual idx, 3)) (hcs : cells ≤ R.cells ∧ slots ≤ R.slots)
    (kk : ∀ (H1 : Heap) (locs1 : List Loc), xRep G kp I1 L1 H1 → xS G s.heap H1 locs1 → W p l e R s m args below meth c H1 locs1 cells slots Q (F0 m (pc + 3) ls (v.toList ++ rest))) : W p l e R s m args below meth c H locs cells slots Q (F0 m pc ls st0) := by
  obtain ⟨hx, hb, hml, hown, hW, hK, -, -, hT⟩ := hC
  obtain ⟨h1, h2, h3, h4, h5, h6⟩ := hY
  have hcw : CallW R s args own y.cls idx y ccY nLY retY [.code y ccY nLY retY] (xrm fr lo) 0 0 n := by
    refine ⟨⟨rfl, rfl, hrm.1, hrm.2, fun w hw a' U hWU => ?_, List.mem_singleton.mpr rfl, hW.use h1 rfl args, hW.use h4 rfl args, h5, fun sig h => ?_, hW.use hlk rfl args⟩, hW.use h2 rfl args, hW.use h3 rfl args⟩
    · rw [List.mem_singleton.mp hw]
      exact (hW.warm hWU).use h1 rfl a'
    · rw [h] at h6
      exact (Option.some.inj h6).symm
  exact x_run (a := (Value.ref b :: As).toArray) (va_runV (Ts := []) (As := As) (b := b) ⟨hx, hb, hml, hown, fun w h => by cases h⟩ hM hcw ⟨xPc_blind _ _ _ _ _, hrec, fun U hU hWU => ⟨rfl, hW.warm hWU, va_K.moved hWU.alike hK, by rw [hU]; exact hR, by rw [hU]; exact xSt.warm hWU hS.2.1 hT⟩⟩ rfl hn hl hst (lv_room hrest) hdg ⟨hcs.1, hcs.2⟩) hS kk
set_option maxRecDepth 20000 in
theorem xyJ_coder : xYv yJ0_coder_7d493 cJ0_coder_7d493 1 (some .byte) 0 := ⟨tb_4 (List.mem_of_getElem? (i := 8) rfl), tb_4 (List.mem_of_getElem? (i := 6) (by decide +kernel)), tb_4 (List.mem_of_getElem? (i := 7) (by decide +kernel)), tb_1 (List.mem_of_getElem? (i := 15) (by decide +kernel)), by decide +kernel, by decide +kernel⟩
set_option maxRecDepth 20000 in
theorem xyJ_isLatin1 : xYv yJ0_isLatin1_aae02 cJ0_isLatin1_aae02 1 (some .boolean) 0 := ⟨tb_4 (List.mem_of_getElem? (i := 18) rfl), tb_4 (List.mem_of_getElem? (i := 16) (by decide +kernel)), tb_4 (List.mem_of_getElem? (i := 17) (by decide +kernel)), tb_1 (List.mem_of_getElem? (i := 15) (by decide +kernel)), by decide +kernel, by decide +kernel⟩
set_option maxRecDepth 20000 in
theorem xyJ_length : xYv yJ0_length_8abf5 cJ0_length_8abf5 1 (some .int) 0 := ⟨tb_4 (List.mem_of_getElem? (i := 4) rfl), tb_4 (List.mem_of_getElem? (i := 2) (by decide +kernel)), tb_4 (List.mem_of_getElem? (i := 3) (by decide +kernel)), tb_1 (List.mem_of_getElem? (i := 15) (by decide +kernel)), by decide +kernel, by decide +kernel⟩
set_option maxRecDepth 20000 in
theorem xyJ_charAt : xYv yJ0_charAt_5068e cJ0_charAt_5068e 2 (some .char) 1 := ⟨tb_4 (List.mem_of_getElem? (i := 14) rfl), tb_4 (List.mem_of_getElem? (i := 12) (by decide +kernel)), tb_4 (List.mem_of_getElem? (i := 13) (by decide +kernel)), tb_1 (List.mem_of_getElem? (i := 15) (by decide +kernel)), by decide +kernel, by decide +kernel⟩
set_option maxRecDepth 20000 in
theorem xyJ_checkS : xYs yJ0_checkIndex_df160 cJ0_checkIndex_df160 2 none 2 := ⟨tb_4 (List.mem_of_getElem? (i := 24) rfl), tb_4 (List.mem_of_getElem? (i := 23) (by decide +kernel)), tb_1 (List.mem_of_getElem? (i := 15) (by decide +kernel)), by decide +kernel, by decide +kernel⟩
set_option maxRecDepth 20000 in
theorem xyJ_charL : xYs yJ1_charAt_3b067 cJ1_charAt_3b067 2 (some .char) 2 := ⟨tb_4 (List.mem_of_getElem? (i := 21) rfl), tb_4 (List.mem_of_getElem? (i := 20) (by decide +kernel)), tb_1 (List.mem_of_getElem? (i := 16) (by decide +kernel)), by decide +kernel, by decide +kernel⟩
set_option maxRecDepth 20000 in
theorem xyJ_checkP : xYs yJ3_checkIndex_8e157 cJ3_checkIndex_8e157 3 (some .int) 3 := ⟨tb_4 (List.mem_of_getElem? (i := 29) rfl), tb_4 (List.mem_of_getElem? (i := 28) (by decide +kernel)), tb_1 (List.mem_of_getElem? (i := 17) (by decide +kernel)), by decide +kernel, by decide +kernel⟩
theorem M_coder (G : XG) (l : Launch) (kp : Bool) (I : xTI) (L : xTL) : xMet G l yJ0_coder_7d493 cJ0_coder_7d493 1 (some .byte) 0 0 kp [.ref (xaS G)] I L (some (.int 0)) I L := by
  refine xMet.ofW (by decide +kernel) (Nat.le_of_ble_eq_true rfl) ?_
  intro p e s m args below meth c hC H locs ls hR hS hl
  replace hC : xC G p s m args meth c cJ0_coder_7d493 1 "java/lang/String" (some .byte) := hC
  replace hl : lv_has ls 1 [(0, .ref (xaS G))] := hl
  have hT := hC.2.2.2.2.2.2.2.2
  refine va_gets hC.1 hC.2.1 hT.2.2.2.2.1 hS.v hC.2.2.2.1 (hC.2.2.2.2.1.use tw_729 rfl args) (fun _ h => h) dJ0_coder_7d493_0 ?_
  refine lv_if_eq (tgt := 13) hC.1 hC.2.1 dJ0_coder_7d493_3 (by decide) (fun h => absurd h (by decide)) (fun _ => ?_)
  refine lv_aload_n hC.1 hC.2.1 dJ0_coder_7d493_6 rfl (lv_at hl 0 rfl) ?_
  refine vk_getf hC.1 hC.2.1 (hT.2.2.2.1.1 0 (by decide)).2.1 hS.v hC.2.2.2.1 (hC.2.2.2.2.1.use tw_1765 rfl args) (fun _ h => h) dJ0_coder_7d493_7 ?_
  refine lv_goto (tgt := 14) hC.1 hC.2.1 dJ0_coder_7d493_10 (by decide) ?_
  exact x_nret rfl hC hR hS dJ0_coder_7d493_14
theorem M_isLatin1 (G : XG) (l : Launch) (kp : Bool) (I : xTI) (L : xTL) : xMet G l yJ0_isLatin1_aae02 cJ0_isLatin1_aae02 1 (some .boolean) 0 0 kp [.ref (xaS G)] I L (some (.int 1)) I L := by
  refine xMet.ofW (by decide +kernel) (Nat.le_of_ble_eq_true rfl) ?_
  intro p e s m args below meth c hC H locs ls hR hS hl
  replace hC : xC G p s m args meth c cJ0_isLatin1_aae02 1 "java/lang/String" (some .boolean) := hC
  replace hl : lv_has ls 1 [(0, .ref (xaS G))] := hl
  have hT := hC.2.2.2.2.2.2.2.2
  refine va_gets hC.1 hC.2.1 hT.2.2.2.2.1 hS.v hC.2.2.2.1 (hC.2.2.2.2.1.use tw_729 rfl args) (fun _ h => h) dJ0_isLatin1_aae02_0 ?_
  refine lv_if_eq (tgt := 17) hC.1 hC.2.1 dJ0_isLatin1_aae02_3 (by decide) (fun h => absurd h (by decide)) (fun _ => ?_)
  refine lv_aload_n hC.1 hC.2.1 dJ0_isLatin1_aae02_6 rfl (lv_at hl 0 rfl) ?_
  refine vk_getf hC.1 hC.2.1 (hT.2.2.2.1.1 0 (by decide)).2.1 hS.v hC.2.2.2.1 (hC.2.2.2.2.1.use tw_1765 rfl args) (fun _ h => h) dJ0_isLatin1_aae02_7 ?_
  refine lv_if_ne (tgt := 17) hC.1 hC.2.1 dJ0_isLatin1_aae02_10 (by decide) (fun h => absurd rfl h) (fun _ => ?_)
  refine lv_iconst (v := 1) hC.1 hC.2.1 dJ0_isLatin1_aae02_13 (by decide) ?_
  refine lv_goto (tgt := 18) hC.1 hC.2.1 dJ0_isLatin1_aae02_14 (by decide) ?_
  exact x_nret rfl hC hR hS dJ0_isLatin1_aae02_18
theorem x_slrec (hC : xC G p s m args meth c cc nL own ret) (hS : xS G s.heap H locs) : ∃ cellB : Cell, H[xaS G]? = some cellB ∧ cellB.vm.isStatics = false ∧ s.vm.findClass "java/lang/String" = some cellB.cls := vk_recv (adK := fun _ => xaS G) hC.2.2.2.2.2.2.2.2.2.2.2.1 (i := 0) (by decide) hS.v
theorem M_length (G : XG) (l : Launch) (kp : Bool) (I : xTI) (L : xTL) : xMet G l yJ0_length_8abf5 cJ0_length_8abf5 1 (some .int) 1 20 kp [.ref (xaS G)] I L (some (.int 98)) I L := by
  refine xMet.ofW (by decide +kernel) (Nat.le_of_ble_eq_true rfl) ?_
  intro p e s m args below meth c hC H locs ls hR hS hl
  replace hC : xC G p s m args meth c cJ0_length_8abf5 1 "java/lang/String" (some .int) := hC
  replace hl : lv_has ls 1 [(0, .ref (xaS G))] := hl
  have hT := hC.2.2.2.2.2.2.2.2
  refine lv_aload_n hC.1 hC.2.1 dJ0_length_8abf5_0 rfl (lv_at hl 0 rfl) ?_
  refine vk_getf hC.1 hC.2.1 (hT.2.2.2.1.1 0 (by decide)).2.2.1 hS.v hC.2.2.2.1 (hC.2.2.2.2.1.use tw_1764 rfl args) (fun _ h => h) dJ0_length_8abf5_1 ?_
  refine va_tlen (ty := .byte) hC.1 hC.2.1 (hT.2.2.2.1.1 0 (by decide)).2.2.2 hS.v (v := 98) rfl dJ0_length_8abf5_4 ?_
  refine lv_aload_n hC.1 hC.2.1 dJ0_length_8abf5_5 rfl (lv_at hl 0 rfl) ?_
  refine x_cvb (rest := [.int 98]) hC xyJ_coder tw_725 (M_coder G l kp I L) ⟨Nat.le_of_ble_eq_true rfl, Nat.le_of_ble_eq_true rfl⟩ (x_slrec hC hS) rfl rfl (Nat.le_of_ble_eq_true rfl) hl.1 hR hS dJ0_length_8abf5_6 ⟨Nat.le_refl _, Nat.le_refl _⟩ (fun H locs hR hS => ?_)
  refine lv_ishr hC.1 hC.2.1 (x := 98) (y := 0) dJ0_length_8abf5_9 ?_
  exact x_iret hC hR hS dJ0_length_8abf5_10
theorem M_checkP (G : XG) (l : Launch) (kp : Bool) (I : xTI) (L : xTL) (i n : Int32) (v : Value) (hv : v = .null ∨ ∃ t, v = .ref t) (h1 : ¬ i < 0) (h2 : i < n) : xMet G l yJ3_checkIndex_8e157 cJ3_checkIndex_8e157 3 (some .int) 0 0 kp [.int i, .int n, v] I L (some (.int i)) I L := by
  refine xMet.ofW (by decide +kernel) (by rcases hv with rfl | ⟨t, rfl⟩ <;> exact Nat.le_of_ble_eq_true rfl) ?_
  intro p e s m args below meth c hC H locs ls hR hS hl
  replace hC : xC G p s m args meth c cJ3_checkIndex_8e157 3 "jdk/internal/util/Preconditions" (some .int) := hC
  have hl : lv_has ls 3 [(0, .int i), (1, .int n)] := by rcases hv with rfl | ⟨t, rfl⟩ <;> exact lv_sub hl [0, 1] rfl
  refine lv_iload_n hC.1 hC.2.1 dJ3_checkIndex_8e157_0 rfl (lv_at hl 0 rfl) ?_
  refine lv_if_lt (tgt := 9) hC.1 hC.2.1 dJ3_checkIndex_8e157_1 (by decide) (fun h => absurd h h1) (fun _ => ?_)
  refine lv_iload_n hC.1 hC.2.1 dJ3_checkIndex_8e157_4 rfl (lv_at hl 0 rfl) ?_
  refine lv_iload_n hC.1 hC.2.1 dJ3_checkIndex_8e157_5 rfl (lv_at hl 1 rfl) ?_
  refine lv_icmp_lt (tgt := 16) hC.1 hC.2.1 dJ3_checkIndex_8e157_6 (by decide) (fun _ => ?_) (fun h => absurd h2 h)
  refine lv_iload_n hC.1 hC.2.1 dJ3_checkIndex_8e157_16 rfl (lv_at hl 0 rfl) ?_
  exact x_iret hC hR hS dJ3_checkIndex_8e157_17
theorem M_checkS (G : XG) (l : Launch) (kp : Bool) (I : xTI) (L : xTL) (i n : Int32) (h1 : ¬ i < 0) (h2 : i < n) : xMet G l yJ0_checkIndex_df160 cJ0_checkIndex_df160 2 none 1 22 kp [.int i, .int n] I L none I L := by
  refine xMet.ofW (by decide +kernel) (Nat.le_of_ble_eq_true rfl) ?_
  intro p e s m args below meth c hC H locs ls hR hS hl
  replace hC : xC G p s m args meth c cJ0_checkIndex_df160 2 "java/lang/String" none := hC
  replace hl : lv_has ls 2 [(0, .int i), (1, .int n)] := hl
  have hT := hC.2.2.2.2.2.2.2.2
  refine lv_iload_n hC.1 hC.2.1 dJ0_checkIndex_df160_0 rfl (lv_at hl 0 rfl) ?_
  refine lv_iload_n hC.1 hC.2.1 dJ0_checkIndex_df160_1 rfl (lv_at hl 1 rfl) ?_
  rcases hT.2.2.2.2.2 with hz | ⟨t, hz⟩
  · refine va_gets hC.1 hC.2.1 hz hS.v hC.2.2.2.1 (hC.2.2.2.2.1.use tw_745 rfl args) (fun _ h => h) dJ0_checkIndex_df160_2 ?_
    refine x_cs (As := [.int i, .int n, .null]) (rest := []) hC xyJ_checkP tw_747 (M_checkP G l kp I L i n .null (Or.inl rfl) h1 h2) ⟨Nat.le_of_ble_eq_true rfl, Nat.le_of_ble_eq_true rfl⟩ rfl rfl (Nat.le_of_ble_eq_true rfl) hl.1 hR hS dJ0_checkIndex_df160_5 ⟨Nat.le_refl _, Nat.le_refl _⟩ (fun H locs hR hS => ?_)
    refine lv_pop hC.1 hC.2.1 (va := .int i) dJ0_checkIndex_df160_8 rfl ?_
    exact x_vret hC hR hS dJ0_checkIndex_df160_9
  · refine va_gets hC.1 hC.2.1 hz hS.v hC.2.2.2.1 (hC.2.2.2.2.1.use tw_745 rfl args) (fun _ h => h) dJ0_checkIndex_df160_2 ?_
    refine x_cs (As := [.int i, .int n, .ref t]) (rest := []) hC xyJ_checkP tw_747 (M_checkP G l kp I L i n (.ref t) (Or.inr ⟨t, rfl⟩) h1 h2) ⟨Nat.le_of_ble_eq_true rfl, Nat.le_of_ble_eq_true rfl⟩ rfl rfl (Nat.le_of_ble_eq_true rfl) hl.1 hR hS dJ0_checkIndex_df160_5 ⟨Nat.le_refl _, Nat.le_refl _⟩ (fun H locs hR hS => ?_)
    refine lv_pop hC.1 hC.2.1 (va := .int i) dJ0_checkIndex_df160_8 rfl ?_
    exact x_vret hC hR hS dJ0_checkIndex_df160_9
def xcv (i : Int32) : Int32 := (xsb.getD 0 []).getD i.toNatClampNeg 0
theorem xcv_ok : ∀ k, k < 98 → ((((xsb.getD 0 []).getD k 0) &&& 255).toUInt32 % 65536).toInt32 = (xsb.getD 0 []).getD k 0 ∧ narrow .char (.int ((xsb.getD 0 []).getD k 0)) = .int ((xsb.getD 0 []).getD k 0) := by decide +kernel
theorem x_in98 {i : Int32} (h1 : ¬ i < 0) (h2 : ¬ 98 ≤ i.toNatClampNeg) : i < 98 := by
  obtain ⟨j, hj, rfl⟩ := nI_of h1
  rw [nI_clamp hj] at h2
  exact (nI_lt (a := j) (b := 98) (by omega) (by decide) : nI j < nI 98)
theorem M_charL (G : XG) (l : Launch) (kp : Bool) (I : xTI) (L : xTL) (i : Int32) (h1 : ¬ i < 0) (h2 : ¬ 98 ≤ i.toNatClampNeg) : xMet G l yJ1_charAt_3b067 cJ1_charAt_3b067 2 (some .char) 2 43 kp [.ref (xaB G), .int i] I L (some (.int (xcv i))) I L := by
  refine xMet.ofW (by decide +kernel) (Nat.le_of_ble_eq_true rfl) ?_
  intro p e s m args below meth c hC H locs ls hR hS hl
  replace hC : xC G p s m args meth c cJ1_charAt_3b067 2 "java/lang/StringLatin1" (some .char) := hC
  replace hl : lv_has ls 2 [(0, .ref (xaB G)), (1, .int i)] := hl
  have hT := hC.2.2.2.2.2.2.2.2
  refine lv_iload_n hC.1 hC.2.1 dJ1_charAt_3b067_0 rfl (lv_at hl 1 rfl) ?_
  refine lv_aload_n hC.1 hC.2.1 dJ1_charAt_3b067_1 rfl (lv_at hl 0 rfl) ?_
  refine va_tlen (ty := .byte) hC.1 hC.2.1 (hT.2.2.2.1.1 0 (by decide)).2.2.2 hS.v (v := 98) rfl dJ1_charAt_3b067_2 ?_
  refine x_cs (As := [.int i, .int 98]) (rest := []) hC xyJ_checkS tw_742 (M_checkS G l kp I L i 98 h1 (x_in98 h1 h2)) ⟨Nat.le_of_ble_eq_true rfl, Nat.le_of_ble_eq_true rfl⟩ rfl rfl (Nat.le_of_ble_eq_true rfl) hl.1 hR hS dJ1_charAt_3b067_3 ⟨Nat.le_refl _, Nat.le_refl _⟩ (fun H locs hR hS => ?_)
  refine lv_aload_n hC.1 hC.2.1 dJ1_charAt_3b067_6 rfl (lv_at hl 0 rfl) ?_
  refine lv_iload_n hC.1 hC.2.1 dJ1_charAt_3b067_7 rfl (lv_at hl 1 rfl) ?_
  refine va_tb (v := .int ((xsb.getD 0 []).getD i.toNatClampNeg 0)) hC.1 hC.2.1 (hT.2.2.2.1.1 0 (by decide)).2.2.2 hS.v (show vp_in i 98 from fun h => h.elim h1 h2) rfl dJ1_charAt_3b067_8 ?_
  refine lv_sipush (v := 255) hC.1 hC.2.1 dJ1_charAt_3b067_9 (by decide) ?_
  refine lv_iand hC.1 hC.2.1 dJ1_charAt_3b067_12 ?_
  have hx := xcv_ok i.toNatClampNeg (by omega)
  refine lv_i2c (v := xcv i) hC.1 hC.2.1 dJ1_charAt_3b067_13 hx.1 ?_
  exact x_nret hx.2 hC hR hS dJ1_charAt_3b067_14
theorem M_charAt (G : XG) (l : Launch) (kp : Bool) (I : xTI) (L : xTL) (i : Int32) (h1 : ¬ i < 0) (h2 : ¬ 98 ≤ i.toNatClampNeg) : xMet G l yJ0_charAt_5068e cJ0_charAt_5068e 2 (some .char) 3 64 kp [.ref (xaS G), .int i] I L (some (.int (xcv i))) I L := by
  refine xMet.ofW (by decide +kernel) (Nat.le_of_ble_eq_true rfl) ?_
  intro p e s m args below meth c hC H locs ls hR hS hl
  replace hC : xC G p s m args meth c cJ0_charAt_5068e 2 "java/lang/String" (some .char) := hC
  replace hl : lv_has ls 2 [(0, .ref (xaS G)), (1, .int i)] := hl
  have hT := hC.2.2.2.2.2.2.2.2
  have hx := xcv_ok i.toNatClampNeg (by omega)
  refine lv_aload_n hC.1 hC.2.1 dJ0_charAt_5068e_0 rfl (lv_at hl 0 rfl) ?_
  refine x_cvb (rest := []) hC xyJ_isLatin1 tw_735 (M_isLatin1 G l kp I L) ⟨Nat.le_of_ble_eq_true rfl, Nat.le_of_ble_eq_true rfl⟩ (x_slrec hC hS) rfl rfl (Nat.le_of_ble_eq_true rfl) hl.1 hR hS dJ0_charAt_5068e_1 ⟨Nat.le_refl _, Nat.le_refl _⟩ (fun H locs hR hS => ?_)
  refine lv_if_eq (x := 1) (tgt := 16) hC.1 hC.2.1 dJ0_charAt_5068e_4 (by decide) (fun h => absurd h (by decide)) (fun _ => ?_)
  refine lv_aload_n hC.1 hC.2.1 dJ0_charAt_5068e_7 rfl (lv_at hl 0 rfl) ?_
  refine vk_getf hC.1 hC.2.1 (hT.2.2.2.1.1 0 (by decide)).2.2.1 hS.v hC.2.2.2.1 (hC.2.2.2.2.1.use tw_1764 rfl args) (fun _ h => h) dJ0_charAt_5068e_8 ?_
  refine lv_iload_n hC.1 hC.2.1 dJ0_charAt_5068e_11 rfl (lv_at hl 1 rfl) ?_
  refine x_cs (As := [.ref (xaB G), .int i]) (rest := []) hC xyJ_charL tw_739 (M_charL G l kp I L i h1 h2) ⟨Nat.le_of_ble_eq_true rfl, Nat.le_of_ble_eq_true rfl⟩ rfl rfl (Nat.le_of_ble_eq_true rfl) hl.1 hR hS dJ0_charAt_5068e_12 ⟨Nat.le_refl _, Nat.le_refl _⟩ (fun H locs hR hS => ?_)
  exact x_nret hx.2 hC hR hS dJ0_charAt_5068e_15
theorem x_slen {idx : Nat} (hC : xC G p s m args meth c cc nL own ret) (hlk : Cond.methodLink own idx yJ0_length_8abf5 ∈ lw_tbl) (hrm : 7 ≤ R.frames ∧ 300 ≤ R.locals) (hrest : (rest.map fun v => v.category).sum ≤ 8) (hl : ls.size = nL) (hR : xRep G kp I L H) (hS : xS G s.heap H locs) (hdg : decode cc pc = .ok (.invokevirtual idx, 3))
    (kk : ∀ (H1 : Heap) (locs1 : List Loc), xRep G kp I L H1 → xS G s.heap H1 locs1 → W p l e R s m args below meth c H1 locs1 0 0 Q (F0 m (pc + 3) ls (.int 98 :: rest))) : W p l e R s m args below meth c H locs 0 0 Q (F0 m pc ls (.ref (xaS G) :: rest)) :=
  x_cvb (As := []) (rest := rest) hC xyJ_length hlk (M_length G l kp I L) ⟨by omega, by omega⟩ (x_slrec hC hS) rfl rfl hrest hl hR hS hdg ⟨Nat.zero_le _, Nat.zero_le _⟩ kk
theorem x_sch {idx : Nat} {i : Int32} {K : Int32 → Option Rt} (hC : xC G p s m args meth c cc nL own ret) (hlk : Cond.methodLink own idx yJ0_charAt_5068e ∈ lw_tbl) (hrm : 7 ≤ R.frames ∧ 300 ≤ R.locals) (hrest : (rest.map fun v => v.category).sum ≤ 8) (hl : ls.size = nL) (hR : xRep G kp I L H) (hS : xS G s.heap H locs) (hdg : decode cc pc = .ok (.invokevirtual idx, 3)) (hf : xch i K = some r)
    (kk : ∀ v : Int32, K v = some r → ∀ (H1 : Heap) (locs1 : List Loc), xRep G kp I L H1 → xS G s.heap H1 locs1 → W p l e R s m args below meth c H1 locs1 0 0 Q (F0 m (pc + 3) ls (.int v :: rest))) : W p l e R s m args below meth c H locs 0 0 Q (F0 m pc ls (.int i :: .ref (xaS G) :: rest)) := by
  unfold xch at hf
  split at hf
  · cases hf
  · rename_i hin
    exact x_cvb (As := [.int i]) (rest := rest) hC xyJ_charAt hlk (M_charAt G l kp I L i (fun h => hin (Or.inl h)) (fun h => hin (Or.inr h))) ⟨by omega, by omega⟩ (x_slrec hC hS) rfl rfl hrest hl hR hS hdg ⟨Nat.zero_le _, Nat.zero_le _⟩ (kk _ hf)
end XSTR
