set_option maxRecDepth 20000 in
theorem law_case {Rel : Bool → Nat → xTI → xTL → Prop} {G : XG} {l : Launch} {p : Program} {e : Env} {s : State} {m : MethodId} {below : List Frame} {meth : Method} {c : Code} {b Lc : Nat} {xs : Nat → Int32} (E : xLE G p s m meth c b Lc xs) (hL : Lc ≤ 2560) (h_man : xs_man Rel) (h_stock : xs_stock Rel) (h_hold : xs_hold Rel) (h_lend : xs_lend Rel) (h_asks : xs_asks Rel) (h_look : xs_look Rel) (h_coin : xs_coin Rel) (h_has : xs_has Rel) (h_made : xs_made Rel) (h_bargain : xs_bargain Rel) (h_mark : xs_mark Rel) (h_clear : xs_clear Rel) (h_of : xs_of Rel) (h_knew : xs_knew Rel) (h_putOff : xs_putOff Rel) (h_option : xs_option Rel) (h_declare : xs_declare Rel) (h_optionOf : xs_optionOf Rel) (h_dividend : xs_dividend Rel) (h_feed : xs_feed Rel) (h_wipe : xs_wipe Rel) (h_rule : xs_rule Rel) (h_says : xs_says Rel) (h_why : xs_why Rel) (h_run : xs_run Rel) (h_pass : xs_pass Rel) (h_delivery : xs_delivery Rel) (h_settled : xs_settled Rel) (h_least : xs_least Rel) (h_judge : xs_judge Rel) (h_corner : xs_corner Rel) (h_squeeze : xs_squeeze Rel) (h_rolling : xs_rolling Rel) (h_clearing : xs_clearing Rel) (h_count : xs_count Rel) (h_image : xs_image Rel) (h_back : xs_back Rel) (h_lay : xs_lay Rel) (h_set : xs_set Rel) (h_tear : xs_tear Rel) (h_row : xs_row Rel) (h_copy : xs_copy Rel) (h_status : xs_status Rel) {q : Nat} {x3 : Int32} (hin : ∀ j : Int32, 1 ≤ j → j ≤ 4 → vp_in (x3 + j) Lc) (hq : q < 512) (hk : xHk Rel G l p e s m below meth c b q x3) {kp : Bool} {I : xTI} {L : xTL} (hRel : Rel kp q I L) (hmono : ∀ kp n I L, Rel kp n I L → Rel kp (n + 1) I L) {H : Heap} {locs : List Loc} {ls : Array Slot} (hR : xRep G kp I L H) (hS : va_S (xfr G) s.heap H locs) (hl : lv_has ls 4 [(0, .ref b), (1, .ref (xz G + 0)), (2, .ref (xz G + 57)), (3, .int x3)]) (x : Int32) : W p l e room_1 s m #[Value.ref b] below meth c H locs (xK kp) (xSl kp) (lw_Z below #[Value.ref b] s) (F0 m 32 ls [.int x]) := by
  by_cases hc0 : x = 0
  · refine x_tsi (tgt := 220) E.1 dL_law_32 hc0 (by decide +kernel) ?_
    exact law_man E h_man hin hq hk hRel hR hS hl
  have e0 : x.toInt ≠ 0 := fun h => hc0 (Int32.toInt_inj.mp (h.trans (by decide)))
  by_cases hc1 : x = 1
  · refine x_tsi (tgt := 253) E.1 dL_law_32 hc1 (by decide +kernel) ?_
    exact law_stock E h_stock hin hq hk hRel hR hS hl
  have e1 : x.toInt ≠ 1 := fun h => hc1 (Int32.toInt_inj.mp (h.trans (by decide)))
  by_cases hc2 : x = 2
  · refine x_tsi (tgt := 266) E.1 dL_law_32 hc2 (by decide +kernel) ?_
    exact law_hold E h_hold hin hq hk hRel hR hS hl
  have e2 : x.toInt ≠ 2 := fun h => hc2 (Int32.toInt_inj.mp (h.trans (by decide)))
  by_cases hc3 : x = 3
  · refine x_tsi (tgt := 309) E.1 dL_law_32 hc3 (by decide +kernel) ?_
    exact law_lend E h_lend hin hq hk hRel hR hS hl
  have e3 : x.toInt ≠ 3 := fun h => hc3 (Int32.toInt_inj.mp (h.trans (by decide)))
  by_cases hc4 : x = 4
  · refine x_tsi (tgt := 342) E.1 dL_law_32 hc4 (by decide +kernel) ?_
    exact law_asks E h_asks hin hq hk hRel hR hS hl
  have e4 : x.toInt ≠ 4 := fun h => hc4 (Int32.toInt_inj.mp (h.trans (by decide)))
  by_cases hc5 : x = 5
  · refine x_tsi (tgt := 385) E.1 dL_law_32 hc5 (by decide +kernel) ?_
    exact law_look E h_look hin hq hk hRel hR hS hl
  have e5 : x.toInt ≠ 5 := fun h => hc5 (Int32.toInt_inj.mp (h.trans (by decide)))
  by_cases hc6 : x = 6
  · refine x_tsi (tgt := 418) E.1 dL_law_32 hc6 (by decide +kernel) ?_
    exact law_coin E h_coin hin hq hk hRel hR hS hl
  have e6 : x.toInt ≠ 6 := fun h => hc6 (Int32.toInt_inj.mp (h.trans (by decide)))
  by_cases hc7 : x = 7
  · refine x_tsi (tgt := 452) E.1 dL_law_32 hc7 (by decide +kernel) ?_
    exact law_has E h_has hin hq hk hRel hR hS hl
  have e7 : x.toInt ≠ 7 := fun h => hc7 (Int32.toInt_inj.mp (h.trans (by decide)))
  by_cases hc8 : x = 8
  · refine x_tsi (tgt := 495) E.1 dL_law_32 hc8 (by decide +kernel) ?_
    exact law_made E h_made hin hq hk hRel hR hS hl
  have e8 : x.toInt ≠ 8 := fun h => hc8 (Int32.toInt_inj.mp (h.trans (by decide)))
  by_cases hc9 : x = 9
  · refine x_tsi (tgt := 518) E.1 dL_law_32 hc9 (by decide +kernel) ?_
    exact law_bargain E h_bargain hin hq hk hRel hR hS hl
  have e9 : x.toInt ≠ 9 := fun h => hc9 (Int32.toInt_inj.mp (h.trans (by decide)))
  by_cases hc10 : x = 10
  · refine x_tsi (tgt := 571) E.1 dL_law_32 hc10 (by decide +kernel) ?_
    exact law_mark E h_mark hin hq hk hRel hR hS hl
  have e10 : x.toInt ≠ 10 := fun h => hc10 (Int32.toInt_inj.mp (h.trans (by decide)))
  by_cases hc11 : x = 11
  · refine x_tsi (tgt := 604) E.1 dL_law_32 hc11 (by decide +kernel) ?_
    exact law_clear E h_clear hin hq hk hRel hR hS hl
  have e11 : x.toInt ≠ 11 := fun h => hc11 (Int32.toInt_inj.mp (h.trans (by decide)))
  by_cases hc12 : x = 12
  · refine x_tsi (tgt := 627) E.1 dL_law_32 hc12 (by decide +kernel) ?_
    exact law_of E h_of hin hq hk hRel hR hS hl
  have e12 : x.toInt ≠ 12 := fun h => hc12 (Int32.toInt_inj.mp (h.trans (by decide)))
  by_cases hc13 : x = 13
  · refine x_tsi (tgt := 660) E.1 dL_law_32 hc13 (by decide +kernel) ?_
    exact law_knew E h_knew hin hq hk hRel hR hS hl
  have e13 : x.toInt ≠ 13 := fun h => hc13 (Int32.toInt_inj.mp (h.trans (by decide)))
  by_cases hc14 : x = 14
  · refine x_tsi (tgt := 713) E.1 dL_law_32 hc14 (by decide +kernel) ?_
    exact law_putOff E h_putOff hin hq hk hRel hR hS hl
  have e14 : x.toInt ≠ 14 := fun h => hc14 (Int32.toInt_inj.mp (h.trans (by decide)))
  by_cases hc15 : x = 15
  · refine x_tsi (tgt := 756) E.1 dL_law_32 hc15 (by decide +kernel) ?_
    exact law_option E h_option hin hq hk hRel hR hS hl
  have e15 : x.toInt ≠ 15 := fun h => hc15 (Int32.toInt_inj.mp (h.trans (by decide)))
  by_cases hc16 : x = 16
  · refine x_tsi (tgt := 809) E.1 dL_law_32 hc16 (by decide +kernel) ?_
    exact law_declare E h_declare hin hq hk hRel hR hS hl
  have e16 : x.toInt ≠ 16 := fun h => hc16 (Int32.toInt_inj.mp (h.trans (by decide)))
  by_cases hc17 : x = 17
  · refine x_tsi (tgt := 832) E.1 dL_law_32 hc17 (by decide +kernel) ?_
    exact law_optionOf E h_optionOf hin hq hk hRel hR hS hl
  have e17 : x.toInt ≠ 17 := fun h => hc17 (Int32.toInt_inj.mp (h.trans (by decide)))
  by_cases hc18 : x = 18
  · refine x_tsi (tgt := 865) E.1 dL_law_32 hc18 (by decide +kernel) ?_
    exact law_dividend E h_dividend hin hq hk hRel hR hS hl
  have e18 : x.toInt ≠ 18 := fun h => hc18 (Int32.toInt_inj.mp (h.trans (by decide)))
  by_cases hc19 : x = 19
  · refine x_tsi (tgt := 908) E.1 dL_law_32 hc19 (by decide +kernel) ?_
    exact law_feed E h_feed hin hq hk hRel hR hS hl
  have e19 : x.toInt ≠ 19 := fun h => hc19 (Int32.toInt_inj.mp (h.trans (by decide)))
  by_cases hc20 : x = 20
  · refine x_tsi (tgt := 941) E.1 dL_law_32 hc20 (by decide +kernel) ?_
    exact law_wipe E h_wipe hin hq hk hRel hR hS hl
  have e20 : x.toInt ≠ 20 := fun h => hc20 (Int32.toInt_inj.mp (h.trans (by decide)))
  by_cases hc21 : x = 21
  · refine x_tsi (tgt := 954) E.1 dL_law_32 hc21 (by decide +kernel) ?_
    exact law_rule E h_rule hin hq hk hRel hR hS hl
  have e21 : x.toInt ≠ 21 := fun h => hc21 (Int32.toInt_inj.mp (h.trans (by decide)))
  by_cases hc22 : x = 22
  · refine x_tsi (tgt := 987) E.1 dL_law_32 hc22 (by decide +kernel) ?_
    exact law_says E h_says hin hq hk hRel hR hS hl
  have e22 : x.toInt ≠ 22 := fun h => hc22 (Int32.toInt_inj.mp (h.trans (by decide)))
  by_cases hc23 : x = 23
  · refine x_tsi (tgt := 1020) E.1 dL_law_32 hc23 (by decide +kernel) ?_
    exact law_why E h_why hin hq hk hRel hR hS hl
  have e23 : x.toInt ≠ 23 := fun h => hc23 (Int32.toInt_inj.mp (h.trans (by decide)))
  by_cases hc24 : x = 24
  · refine x_tsi (tgt := 1053) E.1 dL_law_32 hc24 (by decide +kernel) ?_
    exact law_run E h_run hin hq hk hRel hR hS hl
  have e24 : x.toInt ≠ 24 := fun h => hc24 (Int32.toInt_inj.mp (h.trans (by decide)))
  by_cases hc25 : x = 25
  · refine x_tsi (tgt := 1076) E.1 dL_law_32 hc25 (by decide +kernel) ?_
    exact law_pass E h_pass hin hq hk hRel hR hS hl
  have e25 : x.toInt ≠ 25 := fun h => hc25 (Int32.toInt_inj.mp (h.trans (by decide)))
  by_cases hc26 : x = 26
  · refine x_tsi (tgt := 1109) E.1 dL_law_32 hc26 (by decide +kernel) ?_
    exact law_delivery E h_delivery hin hq hk hRel hR hS hl
  have e26 : x.toInt ≠ 26 := fun h => hc26 (Int32.toInt_inj.mp (h.trans (by decide)))
  by_cases hc27 : x = 27
  · refine x_tsi (tgt := 1142) E.1 dL_law_32 hc27 (by decide +kernel) ?_
    exact law_settled E h_settled hin hq hk hRel hR hS hl
  have e27 : x.toInt ≠ 27 := fun h => hc27 (Int32.toInt_inj.mp (h.trans (by decide)))
  by_cases hc28 : x = 28
  · refine x_tsi (tgt := 1176) E.1 dL_law_32 hc28 (by decide +kernel) ?_
    exact law_least E h_least hin hq hk hRel hR hS hl
  have e28 : x.toInt ≠ 28 := fun h => hc28 (Int32.toInt_inj.mp (h.trans (by decide)))
  by_cases hc29 : x = 29
  · refine x_tsi (tgt := 1209) E.1 dL_law_32 hc29 (by decide +kernel) ?_
    exact law_judge E h_judge hin hq hk hRel hR hS hl
  have e29 : x.toInt ≠ 29 := fun h => hc29 (Int32.toInt_inj.mp (h.trans (by decide)))
  by_cases hc30 : x = 30
  · refine x_tsi (tgt := 1242) E.1 dL_law_32 hc30 (by decide +kernel) ?_
    exact law_corner E h_corner hin hq hk hRel hR hS hl
  have e30 : x.toInt ≠ 30 := fun h => hc30 (Int32.toInt_inj.mp (h.trans (by decide)))
  by_cases hc31 : x = 31
  · refine x_tsi (tgt := 1285) E.1 dL_law_32 hc31 (by decide +kernel) ?_
    exact law_squeeze E h_squeeze hin hq hk hRel hR hS hl
  have e31 : x.toInt ≠ 31 := fun h => hc31 (Int32.toInt_inj.mp (h.trans (by decide)))
  by_cases hc32 : x = 32
  · refine x_tsi (tgt := 1319) E.1 dL_law_32 hc32 (by decide +kernel) ?_
    exact law_rolling E h_rolling hin hq hk hRel hR hS hl
  have e32 : x.toInt ≠ 32 := fun h => hc32 (Int32.toInt_inj.mp (h.trans (by decide)))
  by_cases hc33 : x = 33
  · refine x_tsi (tgt := 1352) E.1 dL_law_32 hc33 (by decide +kernel) ?_
    exact law_clearing E h_clearing hin hq hk hRel hR hS hl
  have e33 : x.toInt ≠ 33 := fun h => hc33 (Int32.toInt_inj.mp (h.trans (by decide)))
  by_cases hc34 : x = 34
  · refine x_tsi (tgt := 1375) E.1 dL_law_32 hc34 (by decide +kernel) ?_
    exact law_count E h_count hin hq hk hRel hR hS hl
  have e34 : x.toInt ≠ 34 := fun h => hc34 (Int32.toInt_inj.mp (h.trans (by decide)))
  by_cases hc35 : x = 35
  · refine x_tsi (tgt := 1398) E.1 dL_law_32 hc35 (by decide +kernel) ?_
    exact law_image E h_image hin hq hk hRel hR hS hl
  have e35 : x.toInt ≠ 35 := fun h => hc35 (Int32.toInt_inj.mp (h.trans (by decide)))
  by_cases hc36 : x = 36
  · refine x_tsi (tgt := 1411) E.1 dL_law_32 hc36 (by decide +kernel) ?_
    exact law_back E h_back hin hq hk hRel hR hS hl
  have e36 : x.toInt ≠ 36 := fun h => hc36 (Int32.toInt_inj.mp (h.trans (by decide)))
  by_cases hc37 : x = 37
  · refine x_tsi (tgt := 1424) E.1 dL_law_32 hc37 (by decide +kernel) ?_
    exact law_lay E h_lay hin hq hk hRel hR hS hl
  have e37 : x.toInt ≠ 37 := fun h => hc37 (Int32.toInt_inj.mp (h.trans (by decide)))
  by_cases hc38 : x = 38
  · refine x_tsi (tgt := 1447) E.1 dL_law_32 hc38 (by decide +kernel) ?_
    exact law_set E h_set hin hq hk hRel hR hS hl
  have e38 : x.toInt ≠ 38 := fun h => hc38 (Int32.toInt_inj.mp (h.trans (by decide)))
  by_cases hc39 : x = 39
  · refine x_tsi (tgt := 1480) E.1 dL_law_32 hc39 (by decide +kernel) ?_
    exact law_tear E h_tear hin hq hk hRel hR hS hl
  have e39 : x.toInt ≠ 39 := fun h => hc39 (Int32.toInt_inj.mp (h.trans (by decide)))
  by_cases hc40 : x = 40
  · refine x_tsi (tgt := 1493) E.1 dL_law_32 hc40 (by decide +kernel) ?_
    exact law_row E h_row hin hq hk hRel hR hS hl
  have e40 : x.toInt ≠ 40 := fun h => hc40 (Int32.toInt_inj.mp (h.trans (by decide)))
  by_cases hc41 : x = 41
  · refine x_tsi (tgt := 1516) E.1 dL_law_32 hc41 (by decide +kernel) ?_
    exact law_copy E h_copy hin hq hk hRel hR hS hl
  have e41 : x.toInt ≠ 41 := fun h => hc41 (Int32.toInt_inj.mp (h.trans (by decide)))
  by_cases hc42 : x = 42
  · refine x_tsi (tgt := 1559) E.1 dL_law_32 hc42 (by decide +kernel) ?_
    exact law_status E h_status hin hq hk hRel hR hS hl
  have e42 : x.toInt ≠ 42 := fun h => hc42 (Int32.toInt_inj.mp (h.trans (by decide)))
  refine x_tso (tgt := 1582) E.1 dL_law_32 (by omega) (by decide) ?_
  exact hk kp _ _ (hmono _ _ _ _ hRel) _ _ _ hR hS hl
theorem xi32 {a b : Nat} (ha : a < 2 ^ 20) (hb : b < 2 ^ 20) : ((nI a - 5) < nI b ↔ a < b + 5) := by
  rw [Int32.lt_iff_toInt_lt]
  have h1 : (nI a - 5).toInt = (a : Int) - 5 := by
    rw [Int32.toInt_sub, nI_toInt (by omega)]
    have e5 : (5 : Int32).toInt = 5 := by decide
    rw [e5]
    apply Int.bmod_eq_of_le <;> omega
  rw [h1, nI_toInt (by omega)]
  omega
set_option maxRecDepth 20000 in
theorem law_loop {Rel : Bool → Nat → xTI → xTL → Prop} {G : XG} {l : Launch} {p : Program} {e : Env} {s : State} {m : MethodId} {below : List Frame} {meth : Method} {c : Code} {b Lc : Nat} {xs : Nat → Int32} (E : xLE G p s m meth c b Lc xs) (hL : Lc ≤ 2560) (h_man : xs_man Rel) (h_stock : xs_stock Rel) (h_hold : xs_hold Rel) (h_lend : xs_lend Rel) (h_asks : xs_asks Rel) (h_look : xs_look Rel) (h_coin : xs_coin Rel) (h_has : xs_has Rel) (h_made : xs_made Rel) (h_bargain : xs_bargain Rel) (h_mark : xs_mark Rel) (h_clear : xs_clear Rel) (h_of : xs_of Rel) (h_knew : xs_knew Rel) (h_putOff : xs_putOff Rel) (h_option : xs_option Rel) (h_declare : xs_declare Rel) (h_optionOf : xs_optionOf Rel) (h_dividend : xs_dividend Rel) (h_feed : xs_feed Rel) (h_wipe : xs_wipe Rel) (h_rule : xs_rule Rel) (h_says : xs_says Rel) (h_why : xs_why Rel) (h_run : xs_run Rel) (h_pass : xs_pass Rel) (h_delivery : xs_delivery Rel) (h_settled : xs_settled Rel) (h_least : xs_least Rel) (h_judge : xs_judge Rel) (h_corner : xs_corner Rel) (h_squeeze : xs_squeeze Rel) (h_rolling : xs_rolling Rel) (h_clearing : xs_clearing Rel) (h_count : xs_count Rel) (h_image : xs_image Rel) (h_back : xs_back Rel) (h_lay : xs_lay Rel) (h_set : xs_set Rel) (h_tear : xs_tear Rel) (h_row : xs_row Rel) (h_copy : xs_copy Rel) (h_status : xs_status Rel) (hmono : ∀ kp n I L, Rel kp n I L → Rel kp (n + 1) I L) :
    ∀ (n q : Nat), 512 ≤ q + n → q ≤ 512 → ∀ (kp : Bool) (I : xTI) (L : xTL), Rel kp q I L → ∀ (H : Heap) (locs : List Loc) (ls : Array Slot), xRep G kp I L H → va_S (xfr G) s.heap H locs → lv_has ls 4 [(0, .ref b), (1, .ref (xz G + 0)), (2, .ref (xz G + 57)), (3, .int (nI (5 * q)))] → W p l e room_1 s m #[Value.ref b] below meth c H locs (xK kp) (xSl kp) (lw_Z below #[Value.ref b] s) (F0 m 18 ls []) := by
  intro n
  induction n with
  | zero =>
    intro q hq hq2 kp I L hRel H locs ls hR hS hl
    refine lv_iload_n E.1.1 E.1.2.1 dL_law_18 rfl (lv_at hl 3 rfl) ?_
    refine lv_aload_n E.1.1 E.1.2.1 dL_law_19 rfl (lv_at hl 0 rfl) ?_
    refine va_slen E.1.1 E.1.2.1 E.2.1 E.2.2.1 E.2.2.2.1 hS dL_law_20 ?_
    refine lv_iconst (v := 5) E.1.1 E.1.2.1 dL_law_21 (by decide) ?_
    refine lv_isub E.1.1 E.1.2.1 dL_law_22 ?_
    refine lv_icmp_gt (tgt := 1588) E.1.1 E.1.2.1 dL_law_23 (by decide) (fun _ => ?_) (fun h => absurd ((xi32 (a := Lc) (b := 5 * q) (by omega) (by omega)).mpr (by omega)) h)
    refine lv_iconst (v := 1) E.1.1 E.1.2.1 dL_law_1588 (by decide) ?_
    refine va_forget (fun q hq => by rw [← E.2.2.2.2.1]; exact hS.2.2 q hq) ?_
    refine W.widen (k := 600000) (n := 7302250) (by cases kp <;> exact Nat.le_of_ble_eq_true rfl) (by cases kp <;> exact Nat.le_of_ble_eq_true rfl) ?_
    exact lw_ret E.1.1 E.1.2.1 E.1.2.2.2.2.2.2.1 E.1.2.2.2.2.2.2.2.1 dL_law_1589
  | succ n ih =>
    intro q hq hq2 kp I L hRel H locs ls hR hS hl
    refine lv_iload_n E.1.1 E.1.2.1 dL_law_18 rfl (lv_at hl 3 rfl) ?_
    refine lv_aload_n E.1.1 E.1.2.1 dL_law_19 rfl (lv_at hl 0 rfl) ?_
    refine va_slen E.1.1 E.1.2.1 E.2.1 E.2.2.1 E.2.2.2.1 hS dL_law_20 ?_
    refine lv_iconst (v := 5) E.1.1 E.1.2.1 dL_law_21 (by decide) ?_
    refine lv_isub E.1.1 E.1.2.1 dL_law_22 ?_
    refine lv_icmp_gt (tgt := 1588) E.1.1 E.1.2.1 dL_law_23 (by decide) (fun _ => ?_) (fun h => ?_)
    · refine lv_iconst (v := 1) E.1.1 E.1.2.1 dL_law_1588 (by decide) ?_
      refine va_forget (fun q hq => by rw [← E.2.2.2.2.1]; exact hS.2.2 q hq) ?_
      refine W.widen (k := 600000) (n := 7302250) (by cases kp <;> exact Nat.le_of_ble_eq_true rfl) (by cases kp <;> exact Nat.le_of_ble_eq_true rfl) ?_
      exact lw_ret E.1.1 E.1.2.1 E.1.2.2.2.2.2.2.1 E.1.2.2.2.2.2.2.2.1 dL_law_1589
    · have h5 : 5 * q + 5 ≤ Lc := by
        rcases Nat.lt_or_ge Lc (5 * q + 5) with g | g
        · exact absurd ((xi32 (a := Lc) (b := 5 * q) (by omega) (by omega)).mpr g) h
        · exact g
      refine lv_aload_n E.1.1 E.1.2.1 dL_law_26 rfl (lv_at hl 0 rfl) ?_
      refine lv_iload_n E.1.1 E.1.2.1 dL_law_27 rfl (lv_at hl 3 rfl) ?_
      refine va_sld E.1.1 E.1.2.1 E.2.1 E.2.2.1 E.2.2.2.1 hS (vp_in_nI (by omega) (by omega)) dL_law_28 ?_
      refine lv_bipush (v := 63) E.1.1 E.1.2.1 dL_law_29 (by decide) ?_
      refine lv_iand E.1.1 E.1.2.1 dL_law_31 ?_
      refine law_case E hL h_man h_stock h_hold h_lend h_asks h_look h_coin h_has h_made h_bargain h_mark h_clear h_of h_knew h_putOff h_option h_declare h_optionOf h_dividend h_feed h_wipe h_rule h_says h_why h_run h_pass h_delivery h_settled h_least h_judge h_corner h_squeeze h_rolling h_clearing h_count h_image h_back h_lay h_set h_tear h_row h_copy h_status (q := q) (x3 := nI (5 * q)) ?_ (by omega) ?_ hRel hmono hR hS hl _
      · intro j h1 h4
        have g1 := Int32.le_iff_toInt_le.mp h1
        have g4 := Int32.le_iff_toInt_le.mp h4
        have e1 : (1 : Int32).toInt = 1 := by decide
        have e4 : (4 : Int32).toInt = 4 := by decide
        rw [e1] at g1
        rw [e4] at g4
        have hj : j = nI j.toInt.toNat := by
          apply Int32.toInt_inj.mp
          rw [nI_toInt (by omega)]
          omega
        rw [hj, nI_add]
        exact vp_in_nI (by omega) (by omega)
      · intro kp2 I2 L2 hRel2 H2 locs2 ls2 hR2 hS2 hl2
        refine lv_iinc (v := nI (5 * (q + 1))) (lv' := [(3, .int (nI (5 * (q + 1)))), (0, .ref b), (1, .ref (xz G + 0)), (2, .ref (xz G + 57))]) E.1.1 E.1.2.1 dL_law_1582 hl2 (k := 3) rfl (by rw [show 5 * (q + 1) = 5 * q + 5 by omega, ← nI_add]; rfl) (by decide) rfl (fun ls3 hl3 => ?_)
        refine lv_goto (tgt := 18) E.1.1 E.1.2.1 dL_law_1585 (by decide) ?_
        exact ih (q + 1) (by omega) (by omega) kp2 I2 L2 hRel2 H2 locs2 ls3 hR2 hS2 (lv_sub hl3 [1, 2, 3, 0] rfl)
