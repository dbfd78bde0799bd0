theorem st_nest {args : Array Value} {s : State} (hts : ∀ w ∈ lw_tbl, w.before args s = true) : yN s := by
  intro w hw
  simp only [ynest, List.mem_cons, List.not_mem_nil, or_false] at hw
  rcases hw with rfl | rfl | rfl | rfl | rfl | rfl | rfl | rfl
  · exact va_Nw.of rfl (hts _ (tb_1 (List.mem_of_getElem? (i := 30) (by decide +kernel))))
  · exact va_Nw.of rfl (hts _ (tb_1 (List.mem_of_getElem? (i := 36) (by decide +kernel))))
  · exact va_Nw.of rfl (hts _ (tb_1 (List.mem_of_getElem? (i := 131) (by decide +kernel))))
  · exact va_Nw.of rfl (hts _ (tb_1 (List.mem_of_getElem? (i := 238) (by decide +kernel))))
  · exact va_Nw.of rfl (hts _ (tb_2 (List.mem_of_getElem? (i := 40) (by decide +kernel))))
  · exact va_Nw.of rfl (hts _ (tb_2 (List.mem_of_getElem? (i := 47) (by decide +kernel))))
  · exact va_Nw.of rfl (hts _ (tb_2 (List.mem_of_getElem? (i := 81) (by decide +kernel))))
  · exact va_Nw.of rfl (hts _ (tb_2 (List.mem_of_getElem? (i := 100) (by decide +kernel))))
theorem st_K {args : Array Value} {s : State} (hts : ∀ w ∈ lw_tbl, w.before args s = true) : ∃ (D : va_G) (cI cJ cZ : ClassId), va_K D xcl [(cI, .int), (cJ, .long), (cZ, .boolean)] s := by
  obtain ⟨c0, i0, k0⟩ := u_known (C := RX0) (T := TX0) (N := 1) (n := 1) hts (fun w h => (xwl_0 w h).1) (hts _ (tb_1 (List.mem_of_getElem? (i := 90) (by decide +kernel))))
  obtain ⟨c1, i1, k1⟩ := u_known (C := RX1) (T := TX1) (N := 13) (n := 13) hts (fun w h => (xwl_1 w h).1) (hts _ (tb_1 (List.mem_of_getElem? (i := 29) (by decide +kernel))))
  obtain ⟨c2, i2, k2⟩ := u_known (C := RX2) (T := TX2) (N := 0) (n := 0) hts (fun w h => (xwl_2 w h).1) (hts _ (tb_2 (List.mem_of_getElem? (i := 39) (by decide +kernel))))
  obtain ⟨c3, i3, k3⟩ := u_known (C := RX3) (T := TX3) (N := 8) (n := 8) hts (fun w h => (xwl_3 w h).1) (hts _ (tb_1 (List.mem_of_getElem? (i := 35) (by decide +kernel))))
  obtain ⟨c4, i4, k4⟩ := u_known (C := RX4) (T := TX4) (N := 9) (n := 9) hts (fun w h => (xwl_4 w h).1) (hts _ (tb_2 (List.mem_of_getElem? (i := 46) (by decide +kernel))))
  obtain ⟨c5, i5, k5⟩ := u_known (C := RX5) (T := TX5) (N := 4) (n := 4) hts (fun w h => (xwl_5 w h).1) (hts _ (tb_1 (List.mem_of_getElem? (i := 130) (by decide +kernel))))
  obtain ⟨c6, i6, k6⟩ := u_known (C := RX6) (T := TX6) (N := 4) (n := 4) hts (fun w h => (xwl_6 w h).1) (hts _ (tb_2 (List.mem_of_getElem? (i := 80) (by decide +kernel))))
  obtain ⟨c7, i7, k7⟩ := u_known (C := RX7) (T := TX7) (N := 9) (n := 9) hts (fun w h => (xwl_7 w h).1) (hts _ (tb_2 (List.mem_of_getElem? (i := 99) (by decide +kernel))))
  obtain ⟨c8, i8, k8⟩ := u_known (C := RX8) (T := TX8) (N := 4) (n := 4) hts (fun w h => (xwl_8 w h).1) (hts _ (tb_1 (List.mem_of_getElem? (i := 96) (by decide +kernel))))
  obtain ⟨c9, i9, k9⟩ := u_known (C := RX9) (T := TX9) (N := 10) (n := 10) hts (fun w h => (xwl_9 w h).1) (hts _ (tb_1 (List.mem_of_getElem? (i := 237) (by decide +kernel))))
  obtain ⟨c10, i10, k10⟩ := u_known (C := RX10) (T := TX10) (N := 10) (n := 10) hts (fun w h => (xwl_10 w h).1) (hts _ (tb_1 (List.mem_of_getElem? (i := 21) (by decide +kernel))))
  obtain ⟨c11, i11, k11⟩ := u_known (C := RX11) (T := TX11) (N := 48) (n := 48) hts (fun w h => (xwl_11 w h).1) (hts _ (tb_5 (List.mem_of_getElem? (i := 220) (by decide +kernel))))
  obtain ⟨cI, kI, pI, a1, a2, a3⟩ := Cond.arrayClass_spec (hts (.arrayClass .int) (tb_1 (List.mem_of_getElem? (i := 87) (by decide +kernel))))
  obtain ⟨cJ, kJ, pJ, b1, b2, b3⟩ := Cond.arrayClass_spec (hts (.arrayClass .long) (tb_1 (List.mem_of_getElem? (i := 88) (by decide +kernel))))
  obtain ⟨cZ, kZ, pZ, d1, d2, d3⟩ := Cond.arrayClass_spec (hts (.arrayClass .boolean) (tb_6 (List.mem_of_getElem? (i := 130) (by decide +kernel))))
  refine ⟨(fun k => [c0, c1, c2, c3, c4, c5, c6, c7, c8, c9, c10, c11].getD k 0, fun k => [i0, i1, i2, i3, i4, i5, i6, i7, i8, i9, i10, i11].getD k (fun _ => 0)), cI, cJ, cZ, fun k q hq => ?_, fun k q hq => ?_⟩
  · match k, hq with
    | 0, hq => cases hq; exact k0
    | 1, hq => cases hq; exact k1
    | 2, hq => cases hq; exact k2
    | 3, hq => cases hq; exact k3
    | 4, hq => cases hq; exact k4
    | 5, hq => cases hq; exact k5
    | 6, hq => cases hq; exact k6
    | 7, hq => cases hq; exact k7
    | 8, hq => cases hq; exact k8
    | 9, hq => cases hq; exact k9
    | 10, hq => cases hq; exact k10
    | 11, hq => cases hq; exact k11
    | k + 12, hq => simp [xcl] at hq
  · match k, hq with
    | 0, hq => cases hq; exact ⟨fun n z => ⟨fun k h => (by cases h), kI, a2, pI, a3⟩, a1⟩
    | 1, hq => cases hq; exact ⟨fun n z => ⟨fun k h => (by cases h), kJ, b2, pJ, b3⟩, b1⟩
    | 2, hq => cases hq; exact ⟨fun n z => ⟨fun k h => (by cases h), kZ, d2, pZ, d3⟩, d1⟩
    | k + 3, hq => simp at hq
abbrev stW : Term := .static "AccountDay$Rules" "WITHOUT" "[I"
abbrev stV : Term := .field (.string "AccountDay$Tape" 87) "java/lang/String" "value" "[B"
set_option maxRecDepth 20000 in
theorem st_elW : ∀ j, j < 6 → Cond.eq (.elem stW (.int (Int32.ofNat j))) (.int (xwo j)) ∈ flatC (Jvm.Cond.and given_1 narrow_1) := by decide +kernel
set_option maxRecDepth 20000 in
theorem st_elS : ∀ j, j < 98 → Cond.eq (.elem stV (.int (Int32.ofNat j))) (.int ((xsb.getD 0 []).getD j 0)) ∈ flatC (Jvm.Cond.and given_1 narrow_1) := by decide +kernel
theorem st_S {args : Array Value} {s : State} (D : va_G) (cI cJ cZ : ClassId) (hts : ∀ w ∈ lw_tbl, w.before args s = true) (hgv : (Jvm.Cond.and given_1 narrow_1).before args s = true) : ∃ (aW aS aB : Nat), xSt (D, cI, cJ, cZ, s.heap.size, aW, aS, aB) s s.heap := by
  have hs := flat_of_before _ hgv
  have hA : ∀ a : Nat, a < s.heap.size → ¬ (fun q : Nat => s.heap.size ≤ q) a := fun a h => Nat.not_le.mpr h
  obtain ⟨aW, w1, w2⟩ := va_Tof (tm := stW) (ty := .int) (N := 6) (f := fun j => .int (xwo j)) (A := fun q : Nat => s.heap.size ≤ q) (by decide) (hs (.arrayOf stW .int) (by decide +kernel)) (va_eqt (hs (.eq (.length stW) (.int 6)) (by decide +kernel))) (fun j hj => va_eqt (hs _ (st_elW j hj))) hA
  obtain ⟨adK, adV, v1, v2⟩ := vk_Sof (N := 1) (tm := fun _ => .string "AccountDay$Tape" 87) (len := xsl) (byt := xsb) (A := fun q : Nat => s.heap.size ≤ q) (fun i hi => by rw [show i = 0 by omega]; decide) (fun i hi => hs (.exactly (.string "AccountDay$Tape" 87) "java/lang/String") (by decide +kernel)) (fun i hi => hs (.eq (.field (.string "AccountDay$Tape" 87) "java/lang/String" "coder" "B") (.int 0)) (by decide +kernel))
    (fun i hi => hs (.arrayOf stV .byte) (by decide +kernel)) (fun i hi => by rw [show i = 0 by omega]; exact hs (.eq (.length stV) (.int 98)) (by decide +kernel)) (fun i hi j hj => by rw [show i = 0 by omega] at hj ⊢; exact hs _ (st_elS j hj)) (fun i j hi hj h => absurd (show i = j by omega) h) hA
  refine ⟨aW, adK 0, adV 0, va_Zof (hts _ (tb_3 (List.mem_of_getElem? (i := 135) (by decide +kernel)))) (hts _ (tb_1 (List.mem_of_getElem? (i := 6) (by decide +kernel)))) w1 hA, w2, vk_R.of (A := args) (hts _ (tb_4 (List.mem_of_getElem? (i := 0) (by decide +kernel)))) (v2 0 (by decide)) , ⟨fun i hi => ?_, fun i j hi hj _ => by omega⟩, va_Zof (hts _ (tb_4 (List.mem_of_getElem? (i := 10) (by decide +kernel)))) (hts _ (tb_1 (List.mem_of_getElem? (i := 15) (by decide +kernel)))) (va_eqi (hs (.eq (.static "java/lang/String" "COMPACT_STRINGS" "Z") (.int 1)) (by decide +kernel))) hA, va_Zqof (hts _ (tb_4 (List.mem_of_getElem? (i := 26) (by decide +kernel)))) (hts _ (tb_1 (List.mem_of_getElem? (i := 17) (by decide +kernel)))) (hs (.isRef (.static "jdk/internal/util/Preconditions" "SIOOBE_FORMATTER" "Ljava/util/function/BiFunction;")) (by decide +kernel)) hA⟩
  have h := v1.1 0 (by decide)
  rw [show i = 0 by omega]
  exact h
set_option maxRecDepth 20000 in
theorem whole_of {Rel : Bool → Nat → xTI → xTL → Prop} (hR0 : Rel false 0 x0I x0L) (h_man : xs_man Rel) (h_stock : xs_stock Rel) (h_hold : xs_hold Rel) (h_lend : xs_lend Rel) (h_asks : xs_asks Rel) (h_look : xs_look Rel) (h_coin : xs_coin Rel) (h_has : xs_has Rel) (h_made : xs_made Rel) (h_bargain : xs_bargain Rel) (h_mark : xs_mark Rel) (h_clear : xs_clear Rel) (h_of : xs_of Rel) (h_knew : xs_knew Rel) (h_putOff : xs_putOff Rel) (h_option : xs_option Rel) (h_declare : xs_declare Rel) (h_optionOf : xs_optionOf Rel) (h_dividend : xs_dividend Rel) (h_feed : xs_feed Rel) (h_wipe : xs_wipe Rel) (h_rule : xs_rule Rel) (h_says : xs_says Rel) (h_why : xs_why Rel) (h_run : xs_run Rel) (h_pass : xs_pass Rel) (h_delivery : xs_delivery Rel) (h_settled : xs_settled Rel) (h_least : xs_least Rel) (h_judge : xs_judge Rel) (h_corner : xs_corner Rel) (h_squeeze : xs_squeeze Rel) (h_rolling : xs_rolling Rel) (h_clearing : xs_clearing Rel) (h_count : xs_count Rel) (h_image : xs_image Rel) (h_back : xs_back Rel) (h_lay : xs_lay Rel) (h_set : xs_set Rel) (h_tear : xs_tear Rel) (h_row : xs_row Rel) (h_copy : xs_copy Rel) (h_status : xs_status Rel) (hmono : ∀ kp n I L, Rel kp n I L → Rel kp (n + 1) I L) {p : Program} {e : Env} {s : State} {m : MethodId} {below : List Frame} {meth : Method} {c : Code} (l : Launch) {b L : Nat} {xs : Nat → Int32} (hL : L ≤ 2560) (C0 : lw_At p s m meth c b L xs) : W p l e room_1 s m #[Value.ref b] below meth c s.heap [] 0 0 (lw_Z below #[Value.ref b] s) (entryFrame m ([Value.ref b] : List Value).toArray 4) := by
  obtain ⟨hx, hb, hr, hml, hown, hts, hX, hbl, hlocks, hgv⟩ := id C0
  obtain ⟨D, cI, cJ, cZ, hK⟩ := st_K hts
  obtain ⟨aW, aS, aB, hT⟩ := st_S D cI cJ cZ hts hgv
  obtain ⟨G, hG⟩ : ∃ G : XG, G = (D, cI, cJ, cZ, s.heap.size, aW, aS, aB) := ⟨_, rfl⟩
  rw [← hG] at hT
  have hz : xz G = s.heap.size := by rw [hG]
  replace hK : va_K G.1 xcl (xtys G) s := by rw [hG]; exact hK
  have hW : xW s := fun w hw hg => word_at (State.WarmedH.refl s) (good_of_word hg) (hts w hw)
  have hN : yN s := st_nest hts
  have E : xLE G p s m meth c b L xs := ⟨⟨hx, hb, hml, hown, hW, hK, hr, hlocks, hT⟩, hX, hbl, by show ¬ xz G ≤ b; omega, hz, hN⟩
  have hY : yC G p s m #[Value.ref b] meth c code 4 "AccountDayLaw" := ⟨hx, hb, hml, hown, hW, hK, hN, Nat.le_of_eq hz⟩
  have hS : va_S (xfr G) s.heap s.heap [] := va_S.rf
  have hRy : yRep G [] s.heap := ⟨by rw [hz]; rfl, fun k e h => by simp at h⟩
  have hl := lv_entry ([.ref b]) (n := 4) (Nat.le_of_ble_eq_true rfl)
  rw [lg_entry_eq]
  generalize (lg_sl ([.ref b]) ++ List.replicate (4 - (lg_sl ([.ref b])).length) Slot.unset).toArray = ls at hl ⊢
  have hl : lv_has ls 4 [(0, .ref b)] := hl
  refine y_new (E := []) hY xn_L_7 hRy hS (by rw [hz]; rfl) (Nat.le_of_ble_eq_true rfl) (Nat.le_of_ble_eq_true rfl) dL_law_0 (fun H hRy hS => ?_)
  refine lv_dup hx hb dL_law_3 rfl ?_
  refine y_ci (E1 := [] ++ xAc G) (rest := [.ref (xz G + 0)]) hY xi_X10_init (Or.inl tw_22) (c_X10_init G l [] 0 rfl) ⟨Nat.le_of_ble_eq_true rfl, Nat.le_of_ble_eq_true rfl⟩ rfl rfl (Nat.le_of_ble_eq_true rfl) hl.1 hRy hS (Nat.le_of_ble_eq_true rfl) dL_law_4 ⟨Nat.le_of_ble_eq_true rfl, Nat.le_of_ble_eq_true rfl⟩ (fun H locs hRy hS => ?_)
  refine W.widen (k := 57) (n := 9848) (Nat.le_of_ble_eq_true rfl) (Nat.le_of_ble_eq_true rfl) ?_
  replace hRy : yRep G (xAc G) H := hRy
  refine lv_astore_n (lv' := [(1, .ref (xz G + 0)), (0, .ref b)]) hx hb dL_law_7 rfl hl (by decide) rfl (fun ls hl => ?_)
  refine y_new (E := xAc G) hY xn_L_10 hRy hS (by rw [hz]; rfl) (Nat.le_of_ble_eq_true rfl) (Nat.le_of_ble_eq_true rfl) dL_law_8 (fun H hRy hS => ?_)
  refine lv_dup hx hb dL_law_11 rfl ?_
  refine y_ci (E1 := xAc G ++ xMo G) (rest := [.ref (xz G + 57)]) hY xi_X11_init (Or.inl tw_1181) (c_X11_init G l (xAc G) 57 rfl) ⟨Nat.le_of_ble_eq_true rfl, Nat.le_of_ble_eq_true rfl⟩ rfl rfl (Nat.le_of_ble_eq_true rfl) hl.1 hRy hS (Nat.le_of_ble_eq_true rfl) dL_law_12 ⟨Nat.le_of_ble_eq_true rfl, Nat.le_of_ble_eq_true rfl⟩ (fun H locs hRy hS => ?_)
  refine W.widen (k := xK false) (n := xSl false) (Nat.le_of_ble_eq_true rfl) (Nat.le_of_ble_eq_true rfl) ?_
  have hR : xRep G false x0I x0L H := ⟨hRy.1, fun k e9 he => hRy.2 k e9 (x_st G k e9 he)⟩
  refine lv_astore_n (lv' := [(2, .ref (xz G + 57)), (1, .ref (xz G + 0)), (0, .ref b)]) hx hb dL_law_15 rfl hl (by decide) rfl (fun ls hl => ?_)
  refine lv_iconst (v := 0) hx hb dL_law_16 (by decide) ?_
  refine lv_istore_n (lv' := [(3, .int 0), (2, .ref (xz G + 57)), (1, .ref (xz G + 0)), (0, .ref b)]) hx hb dL_law_17 rfl hl (by decide) rfl (fun ls hl => ?_)
  exact law_loop E hL h_man h_stock h_hold h_lend h_asks h_look h_coin h_has h_made h_bargain h_mark h_clear h_of h_knew h_putOff h_option h_declare h_optionOf h_dividend h_feed h_wipe h_rule h_says h_why h_run h_pass h_delivery h_settled h_least h_judge h_corner h_squeeze h_rolling h_clearing h_count h_image h_back h_lay h_set h_tear h_row h_copy h_status hmono 512 0 (by decide) (by decide) false x0I x0L hR0 H locs ls hR hS (lv_sub hl [3, 2, 1, 0] rfl)
