set_option maxRecDepth 20000 in
theorem law_man {Rel : Bool → Nat → xTI → xTL → Prop} {G : XG} {l : Launch} {p : Program} {e : Env} {s : State} {m : MethodId} {below : List Frame} {meth : Method} {c : Code} {b Lc q : Nat} {xs : Nat → Int32} (E : xLE G p s m meth c b Lc xs) (hs : xs_man Rel) {x3 : Int32} (hin : ∀ j : Int32, 1 ≤ j → j ≤ 4 → vp_in (x3 + j) Lc) (hq : q < 512) (hk : xHk Rel G l p e s m below meth c b q x3) {kp : Bool} {I : xTI} {L : xTL} (hRel : Rel kp q I L) {H : Heap} {locs : List Loc} {ls : Array Slot} (hR : xRep G kp I L H) (hS : va_S (xfr G) s.heap H locs) (hl : lv_has ls 4 [(0, .ref b), (1, .ref (xz G + 0)), (2, .ref (xz G + 57)), (3, .int x3)]) : W p l e room_1 s m #[Value.ref b] below meth c H locs (xK kp) (xSl kp) (lw_Z below #[Value.ref b] s) (F0 m 220 ls []) := by
  obtain ⟨r, I1, L1, I2, L2, h1, h2, hRel2⟩ := hs kp q I L (xs (x3 + 1).toNatClampNeg) (xs (x3 + 2).toNatClampNeg) hq hRel
  refine lv_aload_n E.1.1 E.1.2.1 dL_law_220 rfl (lv_at hl 1 rfl) ?_
  refine lv_aload_n E.1.1 E.1.2.1 dL_law_221 rfl (lv_at hl 0 rfl) ?_
  refine lv_iload_n E.1.1 E.1.2.1 dL_law_222 rfl (lv_at hl 3 rfl) ?_
  refine lv_iconst (v := 1) E.1.1 E.1.2.1 dL_law_223 (by decide) ?_
  refine lv_iadd E.1.1 E.1.2.1 dL_law_224 ?_
  refine va_sld E.1.1 E.1.2.1 E.2.1 E.2.2.1 E.2.2.2.1 hS (hin 1 (by decide) (by decide)) dL_law_225 ?_
  refine lv_aload_n E.1.1 E.1.2.1 dL_law_226 rfl (lv_at hl 0 rfl) ?_
  refine lv_iload_n E.1.1 E.1.2.1 dL_law_227 rfl (lv_at hl 3 rfl) ?_
  refine lv_iconst (v := 2) E.1.1 E.1.2.1 dL_law_228 (by decide) ?_
  refine lv_iadd E.1.1 E.1.2.1 dL_law_229 ?_
  refine va_sld E.1.1 E.1.2.1 E.2.1 E.2.2.1 E.2.2.2.1 hS (hin 2 (by decide) (by decide)) dL_law_230 ?_
  refine y_cv (rest := []) E.1 xy_X10_man tw_403 (M_X10_man G l kp h1) ⟨Nat.le_of_ble_eq_true rfl, Nat.le_of_ble_eq_true rfl⟩ (xce_0 G kp _ _) rfl rfl rfl (Nat.le_of_ble_eq_true rfl) hl.1 hR hS (Nat.le_of_eq E.2.2.2.2.1) dL_law_231 (xSl_ok kp) (fun H locs hR hS => ?_)
  refine lv_aload_n E.1.1 E.1.2.1 dL_law_234 rfl (lv_at hl 2 rfl) ?_
  refine lv_aload_n E.1.1 E.1.2.1 dL_law_235 rfl (lv_at hl 0 rfl) ?_
  refine lv_iload_n E.1.1 E.1.2.1 dL_law_236 rfl (lv_at hl 3 rfl) ?_
  refine lv_iconst (v := 1) E.1.1 E.1.2.1 dL_law_237 (by decide) ?_
  refine lv_iadd E.1.1 E.1.2.1 dL_law_238 ?_
  refine va_sld E.1.1 E.1.2.1 E.2.1 E.2.2.1 E.2.2.2.1 hS (hin 1 (by decide) (by decide)) dL_law_239 ?_
  refine lv_aload_n E.1.1 E.1.2.1 dL_law_240 rfl (lv_at hl 0 rfl) ?_
  refine lv_iload_n E.1.1 E.1.2.1 dL_law_241 rfl (lv_at hl 3 rfl) ?_
  refine lv_iconst (v := 2) E.1.1 E.1.2.1 dL_law_242 (by decide) ?_
  refine lv_iadd E.1.1 E.1.2.1 dL_law_243 ?_
  refine va_sld E.1.1 E.1.2.1 E.2.1 E.2.2.1 E.2.2.2.1 hS (hin 2 (by decide) (by decide)) dL_law_244 ?_
  refine y_cv (rest := [.int r]) E.1 xy_X11_man tw_1342 (M_X11_man G l kp h2) ⟨Nat.le_of_ble_eq_true rfl, Nat.le_of_ble_eq_true rfl⟩ (xce_57 G kp _ _) rfl rfl rfl (Nat.le_of_ble_eq_true rfl) hl.1 hR hS (Nat.le_of_eq E.2.2.2.2.1) dL_law_245 (xSl_ok kp) (fun H locs hR hS => ?_)
  refine lv_icmp_eq (x := r) (y := r) (tgt := 1582) E.1.1 E.1.2.1 dL_law_248 (by decide) (fun _ => ?_) (fun h => absurd rfl h)
  exact hk kp _ _ hRel2 _ _ _ hR hS hl
set_option maxRecDepth 20000 in
theorem law_stock {Rel : Bool → Nat → xTI → xTL → Prop} {G : XG} {l : Launch} {p : Program} {e : Env} {s : State} {m : MethodId} {below : List Frame} {meth : Method} {c : Code} {b Lc q : Nat} {xs : Nat → Int32} (E : xLE G p s m meth c b Lc xs) (hs : xs_stock Rel) {x3 : Int32} (hin : ∀ j : Int32, 1 ≤ j → j ≤ 4 → vp_in (x3 + j) Lc) (hq : q < 512) (hk : xHk Rel G l p e s m below meth c b q x3) {kp : Bool} {I : xTI} {L : xTL} (hRel : Rel kp q I L) {H : Heap} {locs : List Loc} {ls : Array Slot} (hR : xRep G kp I L H) (hS : va_S (xfr G) s.heap H locs) (hl : lv_has ls 4 [(0, .ref b), (1, .ref (xz G + 0)), (2, .ref (xz G + 57)), (3, .int x3)]) : W p l e room_1 s m #[Value.ref b] below meth c H locs (xK kp) (xSl kp) (lw_Z below #[Value.ref b] s) (F0 m 253 ls []) := by
  obtain ⟨r, I1, I2, h1, h2, hRel2⟩ := hs kp q I L hq hRel
  refine lv_aload_n E.1.1 E.1.2.1 dL_law_253 rfl (lv_at hl 1 rfl) ?_
  refine y_cv (rest := []) E.1 xy_X10_stock tw_419 (M_X10_stock G l kp h1) ⟨Nat.le_of_ble_eq_true rfl, Nat.le_of_ble_eq_true rfl⟩ (xce_0 G kp _ _) rfl rfl rfl (Nat.le_of_ble_eq_true rfl) hl.1 hR hS (Nat.le_of_eq E.2.2.2.2.1) dL_law_254 (xSl_ok kp) (fun H locs hR hS => ?_)
  refine lv_aload_n E.1.1 E.1.2.1 dL_law_257 rfl (lv_at hl 2 rfl) ?_
  refine y_cv (rest := [.int r]) E.1 xy_X11_stock tw_1347 (M_X11_stock G l kp h2) ⟨Nat.le_of_ble_eq_true rfl, Nat.le_of_ble_eq_true rfl⟩ (xce_57 G kp _ _) rfl rfl rfl (Nat.le_of_ble_eq_true rfl) hl.1 hR hS (Nat.le_of_eq E.2.2.2.2.1) dL_law_258 (xSl_ok kp) (fun H locs hR hS => ?_)
  refine lv_icmp_eq (x := r) (y := r) (tgt := 1582) E.1.1 E.1.2.1 dL_law_261 (by decide) (fun _ => ?_) (fun h => absurd rfl h)
  exact hk kp _ _ hRel2 _ _ _ hR hS hl
set_option maxRecDepth 20000 in
theorem law_hold {Rel : Bool → Nat → xTI → xTL → Prop} {G : XG} {l : Launch} {p : Program} {e : Env} {s : State} {m : MethodId} {below : List Frame} {meth : Method} {c : Code} {b Lc q : Nat} {xs : Nat → Int32} (E : xLE G p s m meth c b Lc xs) (hs : xs_hold Rel) {x3 : Int32} (hin : ∀ j : Int32, 1 ≤ j → j ≤ 4 → vp_in (x3 + j) Lc) (hq : q < 512) (hk : xHk Rel G l p e s m below meth c b q x3) {kp : Bool} {I : xTI} {L : xTL} (hRel : Rel kp q I L) {H : Heap} {locs : List Loc} {ls : Array Slot} (hR : xRep G kp I L H) (hS : va_S (xfr G) s.heap H locs) (hl : lv_has ls 4 [(0, .ref b), (1, .ref (xz G + 0)), (2, .ref (xz G + 57)), (3, .int x3)]) : W p l e room_1 s m #[Value.ref b] below meth c H locs (xK kp) (xSl kp) (lw_Z below #[Value.ref b] s) (F0 m 266 ls []) := by
  obtain ⟨r, I1, I2, h1, h2, hRel2⟩ := hs kp q I L (xs (x3 + 1).toNatClampNeg) (xs (x3 + 2).toNatClampNeg) (xs (x3 + 3).toNatClampNeg) hq hRel
  refine lv_aload_n E.1.1 E.1.2.1 dL_law_266 rfl (lv_at hl 1 rfl) ?_
  refine lv_aload_n E.1.1 E.1.2.1 dL_law_267 rfl (lv_at hl 0 rfl) ?_
  refine lv_iload_n E.1.1 E.1.2.1 dL_law_268 rfl (lv_at hl 3 rfl) ?_
  refine lv_iconst (v := 1) E.1.1 E.1.2.1 dL_law_269 (by decide) ?_
  refine lv_iadd E.1.1 E.1.2.1 dL_law_270 ?_
  refine va_sld E.1.1 E.1.2.1 E.2.1 E.2.2.1 E.2.2.2.1 hS (hin 1 (by decide) (by decide)) dL_law_271 ?_
  refine lv_aload_n E.1.1 E.1.2.1 dL_law_272 rfl (lv_at hl 0 rfl) ?_
  refine lv_iload_n E.1.1 E.1.2.1 dL_law_273 rfl (lv_at hl 3 rfl) ?_
  refine lv_iconst (v := 2) E.1.1 E.1.2.1 dL_law_274 (by decide) ?_
  refine lv_iadd E.1.1 E.1.2.1 dL_law_275 ?_
  refine va_sld E.1.1 E.1.2.1 E.2.1 E.2.2.1 E.2.2.2.1 hS (hin 2 (by decide) (by decide)) dL_law_276 ?_
  refine lv_aload_n E.1.1 E.1.2.1 dL_law_277 rfl (lv_at hl 0 rfl) ?_
  refine lv_iload_n E.1.1 E.1.2.1 dL_law_278 rfl (lv_at hl 3 rfl) ?_
  refine lv_iconst (v := 3) E.1.1 E.1.2.1 dL_law_279 (by decide) ?_
  refine lv_iadd E.1.1 E.1.2.1 dL_law_280 ?_
  refine va_sld E.1.1 E.1.2.1 E.2.1 E.2.2.1 E.2.2.2.1 hS (hin 3 (by decide) (by decide)) dL_law_281 ?_
  refine y_cv (rest := []) E.1 xy_X10_hold tw_423 (M_X10_hold G l kp h1) ⟨Nat.le_of_ble_eq_true rfl, Nat.le_of_ble_eq_true rfl⟩ (xce_0 G kp _ _) rfl rfl rfl (Nat.le_of_ble_eq_true rfl) hl.1 hR hS (Nat.le_of_eq E.2.2.2.2.1) dL_law_282 (xSl_ok kp) (fun H locs hR hS => ?_)
  refine lv_aload_n E.1.1 E.1.2.1 dL_law_285 rfl (lv_at hl 2 rfl) ?_
  refine lv_aload_n E.1.1 E.1.2.1 dL_law_286 rfl (lv_at hl 0 rfl) ?_
  refine lv_iload_n E.1.1 E.1.2.1 dL_law_287 rfl (lv_at hl 3 rfl) ?_
  refine lv_iconst (v := 1) E.1.1 E.1.2.1 dL_law_288 (by decide) ?_
  refine lv_iadd E.1.1 E.1.2.1 dL_law_289 ?_
  refine va_sld E.1.1 E.1.2.1 E.2.1 E.2.2.1 E.2.2.2.1 hS (hin 1 (by decide) (by decide)) dL_law_290 ?_
  refine lv_aload_n E.1.1 E.1.2.1 dL_law_291 rfl (lv_at hl 0 rfl) ?_
  refine lv_iload_n E.1.1 E.1.2.1 dL_law_292 rfl (lv_at hl 3 rfl) ?_
  refine lv_iconst (v := 2) E.1.1 E.1.2.1 dL_law_293 (by decide) ?_
  refine lv_iadd E.1.1 E.1.2.1 dL_law_294 ?_
  refine va_sld E.1.1 E.1.2.1 E.2.1 E.2.2.1 E.2.2.2.1 hS (hin 2 (by decide) (by decide)) dL_law_295 ?_
  refine lv_aload_n E.1.1 E.1.2.1 dL_law_296 rfl (lv_at hl 0 rfl) ?_
  refine lv_iload_n E.1.1 E.1.2.1 dL_law_297 rfl (lv_at hl 3 rfl) ?_
  refine lv_iconst (v := 3) E.1.1 E.1.2.1 dL_law_298 (by decide) ?_
  refine lv_iadd E.1.1 E.1.2.1 dL_law_299 ?_
  refine va_sld E.1.1 E.1.2.1 E.2.1 E.2.2.1 E.2.2.2.1 hS (hin 3 (by decide) (by decide)) dL_law_300 ?_
  refine y_cv (rest := [.int r]) E.1 xy_X11_hold tw_1351 (M_X11_hold G l kp h2) ⟨Nat.le_of_ble_eq_true rfl, Nat.le_of_ble_eq_true rfl⟩ (xce_57 G kp _ _) rfl rfl rfl (Nat.le_of_ble_eq_true rfl) hl.1 hR hS (Nat.le_of_eq E.2.2.2.2.1) dL_law_301 (xSl_ok kp) (fun H locs hR hS => ?_)
  refine lv_icmp_eq (x := r) (y := r) (tgt := 1582) E.1.1 E.1.2.1 dL_law_304 (by decide) (fun _ => ?_) (fun h => absurd rfl h)
  exact hk kp _ _ hRel2 _ _ _ hR hS hl
set_option maxRecDepth 20000 in
theorem law_lend {Rel : Bool → Nat → xTI → xTL → Prop} {G : XG} {l : Launch} {p : Program} {e : Env} {s : State} {m : MethodId} {below : List Frame} {meth : Method} {c : Code} {b Lc q : Nat} {xs : Nat → Int32} (E : xLE G p s m meth c b Lc xs) (hs : xs_lend Rel) {x3 : Int32} (hin : ∀ j : Int32, 1 ≤ j → j ≤ 4 → vp_in (x3 + j) Lc) (hq : q < 512) (hk : xHk Rel G l p e s m below meth c b q x3) {kp : Bool} {I : xTI} {L : xTL} (hRel : Rel kp q I L) {H : Heap} {locs : List Loc} {ls : Array Slot} (hR : xRep G kp I L H) (hS : va_S (xfr G) s.heap H locs) (hl : lv_has ls 4 [(0, .ref b), (1, .ref (xz G + 0)), (2, .ref (xz G + 57)), (3, .int x3)]) : W p l e room_1 s m #[Value.ref b] below meth c H locs (xK kp) (xSl kp) (lw_Z below #[Value.ref b] s) (F0 m 309 ls []) := by
  obtain ⟨r, I1, L1, I2, L2, h1, h2, hRel2⟩ := hs kp q I L (xs (x3 + 1).toNatClampNeg) (xs (x3 + 2).toNatClampNeg) hq hRel
  refine lv_aload_n E.1.1 E.1.2.1 dL_law_309 rfl (lv_at hl 1 rfl) ?_
  refine lv_aload_n E.1.1 E.1.2.1 dL_law_310 rfl (lv_at hl 0 rfl) ?_
  refine lv_iload_n E.1.1 E.1.2.1 dL_law_311 rfl (lv_at hl 3 rfl) ?_
  refine lv_iconst (v := 1) E.1.1 E.1.2.1 dL_law_312 (by decide) ?_
  refine lv_iadd E.1.1 E.1.2.1 dL_law_313 ?_
  refine va_sld E.1.1 E.1.2.1 E.2.1 E.2.2.1 E.2.2.2.1 hS (hin 1 (by decide) (by decide)) dL_law_314 ?_
  refine lv_aload_n E.1.1 E.1.2.1 dL_law_315 rfl (lv_at hl 0 rfl) ?_
  refine lv_iload_n E.1.1 E.1.2.1 dL_law_316 rfl (lv_at hl 3 rfl) ?_
  refine lv_iconst (v := 2) E.1.1 E.1.2.1 dL_law_317 (by decide) ?_
  refine lv_iadd E.1.1 E.1.2.1 dL_law_318 ?_
  refine va_sld E.1.1 E.1.2.1 E.2.1 E.2.2.1 E.2.2.2.1 hS (hin 2 (by decide) (by decide)) dL_law_319 ?_
  refine y_cv (rest := []) E.1 xy_X10_lend tw_442 (M_X10_lend G l kp h1) ⟨Nat.le_of_ble_eq_true rfl, Nat.le_of_ble_eq_true rfl⟩ (xce_0 G kp _ _) rfl rfl rfl (Nat.le_of_ble_eq_true rfl) hl.1 hR hS (Nat.le_of_eq E.2.2.2.2.1) dL_law_320 (xSl_ok kp) (fun H locs hR hS => ?_)
  refine lv_aload_n E.1.1 E.1.2.1 dL_law_323 rfl (lv_at hl 2 rfl) ?_
  refine lv_aload_n E.1.1 E.1.2.1 dL_law_324 rfl (lv_at hl 0 rfl) ?_
  refine lv_iload_n E.1.1 E.1.2.1 dL_law_325 rfl (lv_at hl 3 rfl) ?_
  refine lv_iconst (v := 1) E.1.1 E.1.2.1 dL_law_326 (by decide) ?_
  refine lv_iadd E.1.1 E.1.2.1 dL_law_327 ?_
  refine va_sld E.1.1 E.1.2.1 E.2.1 E.2.2.1 E.2.2.2.1 hS (hin 1 (by decide) (by decide)) dL_law_328 ?_
  refine lv_aload_n E.1.1 E.1.2.1 dL_law_329 rfl (lv_at hl 0 rfl) ?_
  refine lv_iload_n E.1.1 E.1.2.1 dL_law_330 rfl (lv_at hl 3 rfl) ?_
  refine lv_iconst (v := 2) E.1.1 E.1.2.1 dL_law_331 (by decide) ?_
  refine lv_iadd E.1.1 E.1.2.1 dL_law_332 ?_
  refine va_sld E.1.1 E.1.2.1 E.2.1 E.2.2.1 E.2.2.2.1 hS (hin 2 (by decide) (by decide)) dL_law_333 ?_
  refine y_cv (rest := [.int r]) E.1 xy_X11_lend tw_1367 (M_X11_lend G l kp h2) ⟨Nat.le_of_ble_eq_true rfl, Nat.le_of_ble_eq_true rfl⟩ (xce_57 G kp _ _) rfl rfl rfl (Nat.le_of_ble_eq_true rfl) hl.1 hR hS (Nat.le_of_eq E.2.2.2.2.1) dL_law_334 (xSl_ok kp) (fun H locs hR hS => ?_)
  refine lv_icmp_eq (x := r) (y := r) (tgt := 1582) E.1.1 E.1.2.1 dL_law_337 (by decide) (fun _ => ?_) (fun h => absurd rfl h)
  exact hk kp _ _ hRel2 _ _ _ hR hS hl
set_option maxRecDepth 20000 in
theorem law_asks {Rel : Bool → Nat → xTI → xTL → Prop} {G : XG} {l : Launch} {p : Program} {e : Env} {s : State} {m : MethodId} {below : List Frame} {meth : Method} {c : Code} {b Lc q : Nat} {xs : Nat → Int32} (E : xLE G p s m meth c b Lc xs) (hs : xs_asks Rel) {x3 : Int32} (hin : ∀ j : Int32, 1 ≤ j → j ≤ 4 → vp_in (x3 + j) Lc) (hq : q < 512) (hk : xHk Rel G l p e s m below meth c b q x3) {kp : Bool} {I : xTI} {L : xTL} (hRel : Rel kp q I L) {H : Heap} {locs : List Loc} {ls : Array Slot} (hR : xRep G kp I L H) (hS : va_S (xfr G) s.heap H locs) (hl : lv_has ls 4 [(0, .ref b), (1, .ref (xz G + 0)), (2, .ref (xz G + 57)), (3, .int x3)]) : W p l e room_1 s m #[Value.ref b] below meth c H locs (xK kp) (xSl kp) (lw_Z below #[Value.ref b] s) (F0 m 342 ls []) := by
  obtain ⟨r, I1, I2, h1, h2, hRel2⟩ := hs kp q I L (xs (x3 + 1).toNatClampNeg) (xs (x3 + 2).toNatClampNeg) (xs (x3 + 3).toNatClampNeg) hq hRel
  refine lv_aload_n E.1.1 E.1.2.1 dL_law_342 rfl (lv_at hl 1 rfl) ?_
  refine lv_aload_n E.1.1 E.1.2.1 dL_law_343 rfl (lv_at hl 0 rfl) ?_
  refine lv_iload_n E.1.1 E.1.2.1 dL_law_344 rfl (lv_at hl 3 rfl) ?_
  refine lv_iconst (v := 1) E.1.1 E.1.2.1 dL_law_345 (by decide) ?_
  refine lv_iadd E.1.1 E.1.2.1 dL_law_346 ?_
  refine va_sld E.1.1 E.1.2.1 E.2.1 E.2.2.1 E.2.2.2.1 hS (hin 1 (by decide) (by decide)) dL_law_347 ?_
  refine lv_aload_n E.1.1 E.1.2.1 dL_law_348 rfl (lv_at hl 0 rfl) ?_
  refine lv_iload_n E.1.1 E.1.2.1 dL_law_349 rfl (lv_at hl 3 rfl) ?_
  refine lv_iconst (v := 2) E.1.1 E.1.2.1 dL_law_350 (by decide) ?_
  refine lv_iadd E.1.1 E.1.2.1 dL_law_351 ?_
  refine va_sld E.1.1 E.1.2.1 E.2.1 E.2.2.1 E.2.2.2.1 hS (hin 2 (by decide) (by decide)) dL_law_352 ?_
  refine lv_aload_n E.1.1 E.1.2.1 dL_law_353 rfl (lv_at hl 0 rfl) ?_
  refine lv_iload_n E.1.1 E.1.2.1 dL_law_354 rfl (lv_at hl 3 rfl) ?_
  refine lv_iconst (v := 3) E.1.1 E.1.2.1 dL_law_355 (by decide) ?_
  refine lv_iadd E.1.1 E.1.2.1 dL_law_356 ?_
  refine va_sld E.1.1 E.1.2.1 E.2.1 E.2.2.1 E.2.2.2.1 hS (hin 3 (by decide) (by decide)) dL_law_357 ?_
  refine y_cv (rest := []) E.1 xy_X10_asks tw_446 (M_X10_asks G l kp h1) ⟨Nat.le_of_ble_eq_true rfl, Nat.le_of_ble_eq_true rfl⟩ (xce_0 G kp _ _) rfl rfl rfl (Nat.le_of_ble_eq_true rfl) hl.1 hR hS (Nat.le_of_eq E.2.2.2.2.1) dL_law_358 (xSl_ok kp) (fun H locs hR hS => ?_)
  refine lv_aload_n E.1.1 E.1.2.1 dL_law_361 rfl (lv_at hl 2 rfl) ?_
  refine lv_aload_n E.1.1 E.1.2.1 dL_law_362 rfl (lv_at hl 0 rfl) ?_
  refine lv_iload_n E.1.1 E.1.2.1 dL_law_363 rfl (lv_at hl 3 rfl) ?_
  refine lv_iconst (v := 1) E.1.1 E.1.2.1 dL_law_364 (by decide) ?_
  refine lv_iadd E.1.1 E.1.2.1 dL_law_365 ?_
  refine va_sld E.1.1 E.1.2.1 E.2.1 E.2.2.1 E.2.2.2.1 hS (hin 1 (by decide) (by decide)) dL_law_366 ?_
  refine lv_aload_n E.1.1 E.1.2.1 dL_law_367 rfl (lv_at hl 0 rfl) ?_
  refine lv_iload_n E.1.1 E.1.2.1 dL_law_368 rfl (lv_at hl 3 rfl) ?_
  refine lv_iconst (v := 2) E.1.1 E.1.2.1 dL_law_369 (by decide) ?_
  refine lv_iadd E.1.1 E.1.2.1 dL_law_370 ?_
  refine va_sld E.1.1 E.1.2.1 E.2.1 E.2.2.1 E.2.2.2.1 hS (hin 2 (by decide) (by decide)) dL_law_371 ?_
  refine lv_aload_n E.1.1 E.1.2.1 dL_law_372 rfl (lv_at hl 0 rfl) ?_
  refine lv_iload_n E.1.1 E.1.2.1 dL_law_373 rfl (lv_at hl 3 rfl) ?_
  refine lv_iconst (v := 3) E.1.1 E.1.2.1 dL_law_374 (by decide) ?_
  refine lv_iadd E.1.1 E.1.2.1 dL_law_375 ?_
  refine va_sld E.1.1 E.1.2.1 E.2.1 E.2.2.1 E.2.2.2.1 hS (hin 3 (by decide) (by decide)) dL_law_376 ?_
  refine y_cv (rest := [.int r]) E.1 xy_X11_asks tw_1371 (M_X11_asks G l kp h2) ⟨Nat.le_of_ble_eq_true rfl, Nat.le_of_ble_eq_true rfl⟩ (xce_57 G kp _ _) rfl rfl rfl (Nat.le_of_ble_eq_true rfl) hl.1 hR hS (Nat.le_of_eq E.2.2.2.2.1) dL_law_377 (xSl_ok kp) (fun H locs hR hS => ?_)
  refine lv_icmp_eq (x := r) (y := r) (tgt := 1582) E.1.1 E.1.2.1 dL_law_380 (by decide) (fun _ => ?_) (fun h => absurd rfl h)
  exact hk kp _ _ hRel2 _ _ _ hR hS hl
set_option maxRecDepth 20000 in
theorem law_look {Rel : Bool → Nat → xTI → xTL → Prop} {G : XG} {l : Launch} {p : Program} {e : Env} {s : State} {m : MethodId} {below : List Frame} {meth : Method} {c : Code} {b Lc q : Nat} {xs : Nat → Int32} (E : xLE G p s m meth c b Lc xs) (hs : xs_look Rel) {x3 : Int32} (hin : ∀ j : Int32, 1 ≤ j → j ≤ 4 → vp_in (x3 + j) Lc) (hq : q < 512) (hk : xHk Rel G l p e s m below meth c b q x3) {kp : Bool} {I : xTI} {L : xTL} (hRel : Rel kp q I L) {H : Heap} {locs : List Loc} {ls : Array Slot} (hR : xRep G kp I L H) (hS : va_S (xfr G) s.heap H locs) (hl : lv_has ls 4 [(0, .ref b), (1, .ref (xz G + 0)), (2, .ref (xz G + 57)), (3, .int x3)]) : W p l e room_1 s m #[Value.ref b] below meth c H locs (xK kp) (xSl kp) (lw_Z below #[Value.ref b] s) (F0 m 385 ls []) := by
  obtain ⟨r, I1, I2, h1, h2, hRel2⟩ := hs kp q I L (xs (x3 + 1).toNatClampNeg) (xs (x3 + 2).toNatClampNeg) hq hRel
  refine lv_aload_n E.1.1 E.1.2.1 dL_law_385 rfl (lv_at hl 1 rfl) ?_
  refine lv_aload_n E.1.1 E.1.2.1 dL_law_386 rfl (lv_at hl 0 rfl) ?_
  refine lv_iload_n E.1.1 E.1.2.1 dL_law_387 rfl (lv_at hl 3 rfl) ?_
  refine lv_iconst (v := 1) E.1.1 E.1.2.1 dL_law_388 (by decide) ?_
  refine lv_iadd E.1.1 E.1.2.1 dL_law_389 ?_
  refine va_sld E.1.1 E.1.2.1 E.2.1 E.2.2.1 E.2.2.2.1 hS (hin 1 (by decide) (by decide)) dL_law_390 ?_
  refine lv_aload_n E.1.1 E.1.2.1 dL_law_391 rfl (lv_at hl 0 rfl) ?_
  refine lv_iload_n E.1.1 E.1.2.1 dL_law_392 rfl (lv_at hl 3 rfl) ?_
  refine lv_iconst (v := 2) E.1.1 E.1.2.1 dL_law_393 (by decide) ?_
  refine lv_iadd E.1.1 E.1.2.1 dL_law_394 ?_
  refine va_sld E.1.1 E.1.2.1 E.2.1 E.2.2.1 E.2.2.2.1 hS (hin 2 (by decide) (by decide)) dL_law_395 ?_
  refine y_cv (rest := []) E.1 xy_X10_look tw_450 (M_X10_look G l kp xN h1) ⟨Nat.le_of_ble_eq_true rfl, Nat.le_of_ble_eq_true rfl⟩ (xce_0 G kp _ _) rfl rfl rfl (Nat.le_of_ble_eq_true rfl) hl.1 hR hS (Nat.le_of_eq E.2.2.2.2.1) dL_law_396 (xSl_ok kp) (fun H locs hR hS => ?_)
  refine lv_aload_n E.1.1 E.1.2.1 dL_law_399 rfl (lv_at hl 2 rfl) ?_
  refine lv_aload_n E.1.1 E.1.2.1 dL_law_400 rfl (lv_at hl 0 rfl) ?_
  refine lv_iload_n E.1.1 E.1.2.1 dL_law_401 rfl (lv_at hl 3 rfl) ?_
  refine lv_iconst (v := 1) E.1.1 E.1.2.1 dL_law_402 (by decide) ?_
  refine lv_iadd E.1.1 E.1.2.1 dL_law_403 ?_
  refine va_sld E.1.1 E.1.2.1 E.2.1 E.2.2.1 E.2.2.2.1 hS (hin 1 (by decide) (by decide)) dL_law_404 ?_
  refine lv_aload_n E.1.1 E.1.2.1 dL_law_405 rfl (lv_at hl 0 rfl) ?_
  refine lv_iload_n E.1.1 E.1.2.1 dL_law_406 rfl (lv_at hl 3 rfl) ?_
  refine lv_iconst (v := 2) E.1.1 E.1.2.1 dL_law_407 (by decide) ?_
  refine lv_iadd E.1.1 E.1.2.1 dL_law_408 ?_
  refine va_sld E.1.1 E.1.2.1 E.2.1 E.2.2.1 E.2.2.2.1 hS (hin 2 (by decide) (by decide)) dL_law_409 ?_
  refine y_cv (rest := [.int r]) E.1 xy_X11_look tw_1375 (M_X11_look G l kp xN h2) ⟨Nat.le_of_ble_eq_true rfl, Nat.le_of_ble_eq_true rfl⟩ (xce_57 G kp _ _) rfl rfl rfl (Nat.le_of_ble_eq_true rfl) hl.1 hR hS (Nat.le_of_eq E.2.2.2.2.1) dL_law_410 (xSl_ok kp) (fun H locs hR hS => ?_)
  refine lv_icmp_eq (x := r) (y := r) (tgt := 1582) E.1.1 E.1.2.1 dL_law_413 (by decide) (fun _ => ?_) (fun h => absurd rfl h)
  exact hk kp _ _ hRel2 _ _ _ hR hS hl
set_option maxRecDepth 20000 in
theorem law_coin {Rel : Bool → Nat → xTI → xTL → Prop} {G : XG} {l : Launch} {p : Program} {e : Env} {s : State} {m : MethodId} {below : List Frame} {meth : Method} {c : Code} {b Lc q : Nat} {xs : Nat → Int32} (E : xLE G p s m meth c b Lc xs) (hs : xs_coin Rel) {x3 : Int32} (hin : ∀ j : Int32, 1 ≤ j → j ≤ 4 → vp_in (x3 + j) Lc) (hq : q < 512) (hk : xHk Rel G l p e s m below meth c b q x3) {kp : Bool} {I : xTI} {L : xTL} (hRel : Rel kp q I L) {H : Heap} {locs : List Loc} {ls : Array Slot} (hR : xRep G kp I L H) (hS : va_S (xfr G) s.heap H locs) (hl : lv_has ls 4 [(0, .ref b), (1, .ref (xz G + 0)), (2, .ref (xz G + 57)), (3, .int x3)]) : W p l e room_1 s m #[Value.ref b] below meth c H locs (xK kp) (xSl kp) (lw_Z below #[Value.ref b] s) (F0 m 418 ls []) := by
  obtain ⟨r, I1, I2, h1, h2, hRel2⟩ := hs kp q I L (xs (x3 + 1).toNatClampNeg) (xs (x3 + 2).toNatClampNeg) hq hRel
  refine lv_aload_n E.1.1 E.1.2.1 dL_law_418 rfl (lv_at hl 1 rfl) ?_
  refine lv_aload_n E.1.1 E.1.2.1 dL_law_419 rfl (lv_at hl 0 rfl) ?_
  refine lv_iload_n E.1.1 E.1.2.1 dL_law_420 rfl (lv_at hl 3 rfl) ?_
  refine lv_iconst (v := 1) E.1.1 E.1.2.1 dL_law_421 (by decide) ?_
  refine lv_iadd E.1.1 E.1.2.1 dL_law_422 ?_
  refine va_sld E.1.1 E.1.2.1 E.2.1 E.2.2.1 E.2.2.2.1 hS (hin 1 (by decide) (by decide)) dL_law_423 ?_
  refine lv_aload_n E.1.1 E.1.2.1 dL_law_424 rfl (lv_at hl 0 rfl) ?_
  refine lv_iload_n E.1.1 E.1.2.1 dL_law_425 rfl (lv_at hl 3 rfl) ?_
  refine lv_iconst (v := 2) E.1.1 E.1.2.1 dL_law_426 (by decide) ?_
  refine lv_iadd E.1.1 E.1.2.1 dL_law_427 ?_
  refine va_sld E.1.1 E.1.2.1 E.2.1 E.2.2.1 E.2.2.2.1 hS (hin 2 (by decide) (by decide)) dL_law_428 ?_
  refine y_cv (rest := []) E.1 xy_X10_coin tw_470 (M_X10_coin G l kp xN h1) ⟨Nat.le_of_ble_eq_true rfl, Nat.le_of_ble_eq_true rfl⟩ (xce_0 G kp _ _) rfl rfl rfl (Nat.le_of_ble_eq_true rfl) hl.1 hR hS (Nat.le_of_eq E.2.2.2.2.1) dL_law_429 (xSl_ok kp) (fun H locs hR hS => ?_)
  refine lv_aload_n E.1.1 E.1.2.1 dL_law_432 rfl (lv_at hl 2 rfl) ?_
  refine lv_aload_n E.1.1 E.1.2.1 dL_law_433 rfl (lv_at hl 0 rfl) ?_
  refine lv_iload_n E.1.1 E.1.2.1 dL_law_434 rfl (lv_at hl 3 rfl) ?_
  refine lv_iconst (v := 1) E.1.1 E.1.2.1 dL_law_435 (by decide) ?_
  refine lv_iadd E.1.1 E.1.2.1 dL_law_436 ?_
  refine va_sld E.1.1 E.1.2.1 E.2.1 E.2.2.1 E.2.2.2.1 hS (hin 1 (by decide) (by decide)) dL_law_437 ?_
  refine lv_aload_n E.1.1 E.1.2.1 dL_law_438 rfl (lv_at hl 0 rfl) ?_
  refine lv_iload_n E.1.1 E.1.2.1 dL_law_439 rfl (lv_at hl 3 rfl) ?_
  refine lv_iconst (v := 2) E.1.1 E.1.2.1 dL_law_440 (by decide) ?_
  refine lv_iadd E.1.1 E.1.2.1 dL_law_441 ?_
  refine va_sld E.1.1 E.1.2.1 E.2.1 E.2.2.1 E.2.2.2.1 hS (hin 2 (by decide) (by decide)) dL_law_442 ?_
  refine y_cv (rest := [.long r]) E.1 xy_X11_coin tw_1387 (M_X11_coin G l kp xN h2) ⟨Nat.le_of_ble_eq_true rfl, Nat.le_of_ble_eq_true rfl⟩ (xce_57 G kp _ _) rfl rfl rfl (Nat.le_of_ble_eq_true rfl) hl.1 hR hS (Nat.le_of_eq E.2.2.2.2.1) dL_law_443 (xSl_ok kp) (fun H locs hR hS => ?_)
  refine W.lcmp E.1.1 E.1.2.1 dL_law_446 ?_
  refine lv_if_eq (tgt := 1582) E.1.1 E.1.2.1 dL_law_447 (by decide) (fun _ => ?_) (fun h => absurd (xlg_self r) h)
  exact hk kp _ _ hRel2 _ _ _ hR hS hl
set_option maxRecDepth 20000 in
theorem law_has {Rel : Bool → Nat → xTI → xTL → Prop} {G : XG} {l : Launch} {p : Program} {e : Env} {s : State} {m : MethodId} {below : List Frame} {meth : Method} {c : Code} {b Lc q : Nat} {xs : Nat → Int32} (E : xLE G p s m meth c b Lc xs) (hs : xs_has Rel) {x3 : Int32} (hin : ∀ j : Int32, 1 ≤ j → j ≤ 4 → vp_in (x3 + j) Lc) (hq : q < 512) (hk : xHk Rel G l p e s m below meth c b q x3) {kp : Bool} {I : xTI} {L : xTL} (hRel : Rel kp q I L) {H : Heap} {locs : List Loc} {ls : Array Slot} (hR : xRep G kp I L H) (hS : va_S (xfr G) s.heap H locs) (hl : lv_has ls 4 [(0, .ref b), (1, .ref (xz G + 0)), (2, .ref (xz G + 57)), (3, .int x3)]) : W p l e room_1 s m #[Value.ref b] below meth c H locs (xK kp) (xSl kp) (lw_Z below #[Value.ref b] s) (F0 m 452 ls []) := by
  obtain ⟨r, I1, I2, h1, h2, hRel2⟩ := hs kp q I L (xs (x3 + 1).toNatClampNeg) (xs (x3 + 2).toNatClampNeg) (xs (x3 + 3).toNatClampNeg) hq hRel
  refine lv_aload_n E.1.1 E.1.2.1 dL_law_452 rfl (lv_at hl 1 rfl) ?_
  refine lv_aload_n E.1.1 E.1.2.1 dL_law_453 rfl (lv_at hl 0 rfl) ?_
  refine lv_iload_n E.1.1 E.1.2.1 dL_law_454 rfl (lv_at hl 3 rfl) ?_
  refine lv_iconst (v := 1) E.1.1 E.1.2.1 dL_law_455 (by decide) ?_
  refine lv_iadd E.1.1 E.1.2.1 dL_law_456 ?_
  refine va_sld E.1.1 E.1.2.1 E.2.1 E.2.2.1 E.2.2.2.1 hS (hin 1 (by decide) (by decide)) dL_law_457 ?_
  refine lv_aload_n E.1.1 E.1.2.1 dL_law_458 rfl (lv_at hl 0 rfl) ?_
  refine lv_iload_n E.1.1 E.1.2.1 dL_law_459 rfl (lv_at hl 3 rfl) ?_
  refine lv_iconst (v := 2) E.1.1 E.1.2.1 dL_law_460 (by decide) ?_
  refine lv_iadd E.1.1 E.1.2.1 dL_law_461 ?_
  refine va_sld E.1.1 E.1.2.1 E.2.1 E.2.2.1 E.2.2.2.1 hS (hin 2 (by decide) (by decide)) dL_law_462 ?_
  refine lv_aload_n E.1.1 E.1.2.1 dL_law_463 rfl (lv_at hl 0 rfl) ?_
  refine lv_iload_n E.1.1 E.1.2.1 dL_law_464 rfl (lv_at hl 3 rfl) ?_
  refine lv_iconst (v := 3) E.1.1 E.1.2.1 dL_law_465 (by decide) ?_
  refine lv_iadd E.1.1 E.1.2.1 dL_law_466 ?_
  refine va_sld E.1.1 E.1.2.1 E.2.1 E.2.2.1 E.2.2.2.1 hS (hin 3 (by decide) (by decide)) dL_law_467 ?_
  refine y_cv (rest := []) E.1 xy_X10_has tw_482 (M_X10_has G l kp xN h1) ⟨Nat.le_of_ble_eq_true rfl, Nat.le_of_ble_eq_true rfl⟩ (xce_0 G kp _ _) rfl rfl rfl (Nat.le_of_ble_eq_true rfl) hl.1 hR hS (Nat.le_of_eq E.2.2.2.2.1) dL_law_468 (xSl_ok kp) (fun H locs hR hS => ?_)
  refine lv_aload_n E.1.1 E.1.2.1 dL_law_471 rfl (lv_at hl 2 rfl) ?_
  refine lv_aload_n E.1.1 E.1.2.1 dL_law_472 rfl (lv_at hl 0 rfl) ?_
  refine lv_iload_n E.1.1 E.1.2.1 dL_law_473 rfl (lv_at hl 3 rfl) ?_
  refine lv_iconst (v := 1) E.1.1 E.1.2.1 dL_law_474 (by decide) ?_
  refine lv_iadd E.1.1 E.1.2.1 dL_law_475 ?_
  refine va_sld E.1.1 E.1.2.1 E.2.1 E.2.2.1 E.2.2.2.1 hS (hin 1 (by decide) (by decide)) dL_law_476 ?_
  refine lv_aload_n E.1.1 E.1.2.1 dL_law_477 rfl (lv_at hl 0 rfl) ?_
  refine lv_iload_n E.1.1 E.1.2.1 dL_law_478 rfl (lv_at hl 3 rfl) ?_
  refine lv_iconst (v := 2) E.1.1 E.1.2.1 dL_law_479 (by decide) ?_
  refine lv_iadd E.1.1 E.1.2.1 dL_law_480 ?_
  refine va_sld E.1.1 E.1.2.1 E.2.1 E.2.2.1 E.2.2.2.1 hS (hin 2 (by decide) (by decide)) dL_law_481 ?_
  refine lv_aload_n E.1.1 E.1.2.1 dL_law_482 rfl (lv_at hl 0 rfl) ?_
  refine lv_iload_n E.1.1 E.1.2.1 dL_law_483 rfl (lv_at hl 3 rfl) ?_
  refine lv_iconst (v := 3) E.1.1 E.1.2.1 dL_law_484 (by decide) ?_
  refine lv_iadd E.1.1 E.1.2.1 dL_law_485 ?_
  refine va_sld E.1.1 E.1.2.1 E.2.1 E.2.2.1 E.2.2.2.1 hS (hin 3 (by decide) (by decide)) dL_law_486 ?_
  refine y_cv (rest := [.int r]) E.1 xy_X11_has tw_1395 (M_X11_has G l kp xN h2) ⟨Nat.le_of_ble_eq_true rfl, Nat.le_of_ble_eq_true rfl⟩ (xce_57 G kp _ _) rfl rfl rfl (Nat.le_of_ble_eq_true rfl) hl.1 hR hS (Nat.le_of_eq E.2.2.2.2.1) dL_law_487 (xSl_ok kp) (fun H locs hR hS => ?_)
  refine lv_icmp_eq (x := r) (y := r) (tgt := 1582) E.1.1 E.1.2.1 dL_law_490 (by decide) (fun _ => ?_) (fun h => absurd rfl h)
  exact hk kp _ _ hRel2 _ _ _ hR hS hl
set_option maxRecDepth 20000 in
theorem law_made {Rel : Bool → Nat → xTI → xTL → Prop} {G : XG} {l : Launch} {p : Program} {e : Env} {s : State} {m : MethodId} {below : List Frame} {meth : Method} {c : Code} {b Lc q : Nat} {xs : Nat → Int32} (E : xLE G p s m meth c b Lc xs) (hs : xs_made Rel) {x3 : Int32} (hin : ∀ j : Int32, 1 ≤ j → j ≤ 4 → vp_in (x3 + j) Lc) (hq : q < 512) (hk : xHk Rel G l p e s m below meth c b q x3) {kp : Bool} {I : xTI} {L : xTL} (hRel : Rel kp q I L) {H : Heap} {locs : List Loc} {ls : Array Slot} (hR : xRep G kp I L H) (hS : va_S (xfr G) s.heap H locs) (hl : lv_has ls 4 [(0, .ref b), (1, .ref (xz G + 0)), (2, .ref (xz G + 57)), (3, .int x3)]) : W p l e room_1 s m #[Value.ref b] below meth c H locs (xK kp) (xSl kp) (lw_Z below #[Value.ref b] s) (F0 m 495 ls []) := by
  obtain ⟨r, I1, I2, h1, h2, hRel2⟩ := hs kp q I L (xs (x3 + 1).toNatClampNeg) hq hRel
  refine lv_aload_n E.1.1 E.1.2.1 dL_law_495 rfl (lv_at hl 1 rfl) ?_
  refine lv_aload_n E.1.1 E.1.2.1 dL_law_496 rfl (lv_at hl 0 rfl) ?_
  refine lv_iload_n E.1.1 E.1.2.1 dL_law_497 rfl (lv_at hl 3 rfl) ?_
  refine lv_iconst (v := 1) E.1.1 E.1.2.1 dL_law_498 (by decide) ?_
  refine lv_iadd E.1.1 E.1.2.1 dL_law_499 ?_
  refine va_sld E.1.1 E.1.2.1 E.2.1 E.2.2.1 E.2.2.2.1 hS (hin 1 (by decide) (by decide)) dL_law_500 ?_
  refine y_cv (rest := []) E.1 xy_X10_made tw_498 (M_X10_made G l kp h1) ⟨Nat.le_of_ble_eq_true rfl, Nat.le_of_ble_eq_true rfl⟩ (xce_0 G kp _ _) rfl rfl rfl (Nat.le_of_ble_eq_true rfl) hl.1 hR hS (Nat.le_of_eq E.2.2.2.2.1) dL_law_501 (xSl_ok kp) (fun H locs hR hS => ?_)
  refine lv_aload_n E.1.1 E.1.2.1 dL_law_504 rfl (lv_at hl 2 rfl) ?_
  refine lv_aload_n E.1.1 E.1.2.1 dL_law_505 rfl (lv_at hl 0 rfl) ?_
  refine lv_iload_n E.1.1 E.1.2.1 dL_law_506 rfl (lv_at hl 3 rfl) ?_
  refine lv_iconst (v := 1) E.1.1 E.1.2.1 dL_law_507 (by decide) ?_
  refine lv_iadd E.1.1 E.1.2.1 dL_law_508 ?_
  refine va_sld E.1.1 E.1.2.1 E.2.1 E.2.2.1 E.2.2.2.1 hS (hin 1 (by decide) (by decide)) dL_law_509 ?_
  refine y_cv (rest := [.int r]) E.1 xy_X11_made tw_1407 (M_X11_made G l kp h2) ⟨Nat.le_of_ble_eq_true rfl, Nat.le_of_ble_eq_true rfl⟩ (xce_57 G kp _ _) rfl rfl rfl (Nat.le_of_ble_eq_true rfl) hl.1 hR hS (Nat.le_of_eq E.2.2.2.2.1) dL_law_510 (xSl_ok kp) (fun H locs hR hS => ?_)
  refine lv_icmp_eq (x := r) (y := r) (tgt := 1582) E.1.1 E.1.2.1 dL_law_513 (by decide) (fun _ => ?_) (fun h => absurd rfl h)
  exact hk kp _ _ hRel2 _ _ _ hR hS hl
set_option maxRecDepth 20000 in
theorem law_bargain {Rel : Bool → Nat → xTI → xTL → Prop} {G : XG} {l : Launch} {p : Program} {e : Env} {s : State} {m : MethodId} {below : List Frame} {meth : Method} {c : Code} {b Lc q : Nat} {xs : Nat → Int32} (E : xLE G p s m meth c b Lc xs) (hs : xs_bargain Rel) {x3 : Int32} (hin : ∀ j : Int32, 1 ≤ j → j ≤ 4 → vp_in (x3 + j) Lc) (hq : q < 512) (hk : xHk Rel G l p e s m below meth c b q x3) {kp : Bool} {I : xTI} {L : xTL} (hRel : Rel kp q I L) {H : Heap} {locs : List Loc} {ls : Array Slot} (hR : xRep G kp I L H) (hS : va_S (xfr G) s.heap H locs) (hl : lv_has ls 4 [(0, .ref b), (1, .ref (xz G + 0)), (2, .ref (xz G + 57)), (3, .int x3)]) : W p l e room_1 s m #[Value.ref b] below meth c H locs (xK kp) (xSl kp) (lw_Z below #[Value.ref b] s) (F0 m 518 ls []) := by
  obtain ⟨r, I1, I2, h1, h2, hRel2⟩ := hs kp q I L (xs (x3 + 1).toNatClampNeg) (xs (x3 + 2).toNatClampNeg) (xs (x3 + 3).toNatClampNeg) (xs (x3 + 4).toNatClampNeg) hq hRel
  refine lv_aload_n E.1.1 E.1.2.1 dL_law_518 rfl (lv_at hl 1 rfl) ?_
  refine lv_aload_n E.1.1 E.1.2.1 dL_law_519 rfl (lv_at hl 0 rfl) ?_
  refine lv_iload_n E.1.1 E.1.2.1 dL_law_520 rfl (lv_at hl 3 rfl) ?_
  refine lv_iconst (v := 1) E.1.1 E.1.2.1 dL_law_521 (by decide) ?_
  refine lv_iadd E.1.1 E.1.2.1 dL_law_522 ?_
  refine va_sld E.1.1 E.1.2.1 E.2.1 E.2.2.1 E.2.2.2.1 hS (hin 1 (by decide) (by decide)) dL_law_523 ?_
  refine lv_aload_n E.1.1 E.1.2.1 dL_law_524 rfl (lv_at hl 0 rfl) ?_
  refine lv_iload_n E.1.1 E.1.2.1 dL_law_525 rfl (lv_at hl 3 rfl) ?_
  refine lv_iconst (v := 2) E.1.1 E.1.2.1 dL_law_526 (by decide) ?_
  refine lv_iadd E.1.1 E.1.2.1 dL_law_527 ?_
  refine va_sld E.1.1 E.1.2.1 E.2.1 E.2.2.1 E.2.2.2.1 hS (hin 2 (by decide) (by decide)) dL_law_528 ?_
  refine lv_aload_n E.1.1 E.1.2.1 dL_law_529 rfl (lv_at hl 0 rfl) ?_
  refine lv_iload_n E.1.1 E.1.2.1 dL_law_530 rfl (lv_at hl 3 rfl) ?_
  refine lv_iconst (v := 3) E.1.1 E.1.2.1 dL_law_531 (by decide) ?_
  refine lv_iadd E.1.1 E.1.2.1 dL_law_532 ?_
  refine va_sld E.1.1 E.1.2.1 E.2.1 E.2.2.1 E.2.2.2.1 hS (hin 3 (by decide) (by decide)) dL_law_533 ?_
  refine lv_aload_n E.1.1 E.1.2.1 dL_law_534 rfl (lv_at hl 0 rfl) ?_
  refine lv_iload_n E.1.1 E.1.2.1 dL_law_535 rfl (lv_at hl 3 rfl) ?_
  refine lv_iconst (v := 4) E.1.1 E.1.2.1 dL_law_536 (by decide) ?_
  refine lv_iadd E.1.1 E.1.2.1 dL_law_537 ?_
  refine va_sld E.1.1 E.1.2.1 E.2.1 E.2.2.1 E.2.2.2.1 hS (hin 4 (by decide) (by decide)) dL_law_538 ?_
  refine y_cv (rest := []) E.1 xy_X10_bargain tw_502 (M_X10_bargain G l kp xN h1) ⟨Nat.le_of_ble_eq_true rfl, Nat.le_of_ble_eq_true rfl⟩ (xce_0 G kp _ _) rfl rfl rfl (Nat.le_of_ble_eq_true rfl) hl.1 hR hS (Nat.le_of_eq E.2.2.2.2.1) dL_law_539 (xSl_ok kp) (fun H locs hR hS => ?_)
  refine lv_aload_n E.1.1 E.1.2.1 dL_law_542 rfl (lv_at hl 2 rfl) ?_
  refine lv_aload_n E.1.1 E.1.2.1 dL_law_543 rfl (lv_at hl 0 rfl) ?_
  refine lv_iload_n E.1.1 E.1.2.1 dL_law_544 rfl (lv_at hl 3 rfl) ?_
  refine lv_iconst (v := 1) E.1.1 E.1.2.1 dL_law_545 (by decide) ?_
  refine lv_iadd E.1.1 E.1.2.1 dL_law_546 ?_
  refine va_sld E.1.1 E.1.2.1 E.2.1 E.2.2.1 E.2.2.2.1 hS (hin 1 (by decide) (by decide)) dL_law_547 ?_
  refine lv_aload_n E.1.1 E.1.2.1 dL_law_548 rfl (lv_at hl 0 rfl) ?_
  refine lv_iload_n E.1.1 E.1.2.1 dL_law_549 rfl (lv_at hl 3 rfl) ?_
  refine lv_iconst (v := 2) E.1.1 E.1.2.1 dL_law_550 (by decide) ?_
  refine lv_iadd E.1.1 E.1.2.1 dL_law_551 ?_
  refine va_sld E.1.1 E.1.2.1 E.2.1 E.2.2.1 E.2.2.2.1 hS (hin 2 (by decide) (by decide)) dL_law_552 ?_
  refine lv_aload_n E.1.1 E.1.2.1 dL_law_553 rfl (lv_at hl 0 rfl) ?_
  refine lv_iload_n E.1.1 E.1.2.1 dL_law_554 rfl (lv_at hl 3 rfl) ?_
  refine lv_iconst (v := 3) E.1.1 E.1.2.1 dL_law_555 (by decide) ?_
  refine lv_iadd E.1.1 E.1.2.1 dL_law_556 ?_
  refine va_sld E.1.1 E.1.2.1 E.2.1 E.2.2.1 E.2.2.2.1 hS (hin 3 (by decide) (by decide)) dL_law_557 ?_
  refine lv_aload_n E.1.1 E.1.2.1 dL_law_558 rfl (lv_at hl 0 rfl) ?_
  refine lv_iload_n E.1.1 E.1.2.1 dL_law_559 rfl (lv_at hl 3 rfl) ?_
  refine lv_iconst (v := 4) E.1.1 E.1.2.1 dL_law_560 (by decide) ?_
  refine lv_iadd E.1.1 E.1.2.1 dL_law_561 ?_
  refine va_sld E.1.1 E.1.2.1 E.2.1 E.2.2.1 E.2.2.2.1 hS (hin 4 (by decide) (by decide)) dL_law_562 ?_
  refine y_cv (rest := [.int r]) E.1 xy_X11_bargain tw_1411 (M_X11_bargain G l kp xN h2) ⟨Nat.le_of_ble_eq_true rfl, Nat.le_of_ble_eq_true rfl⟩ (xce_57 G kp _ _) rfl rfl rfl (Nat.le_of_ble_eq_true rfl) hl.1 hR hS (Nat.le_of_eq E.2.2.2.2.1) dL_law_563 (xSl_ok kp) (fun H locs hR hS => ?_)
  refine lv_icmp_eq (x := r) (y := r) (tgt := 1582) E.1.1 E.1.2.1 dL_law_566 (by decide) (fun _ => ?_) (fun h => absurd rfl h)
  exact hk kp _ _ hRel2 _ _ _ hR hS hl
set_option maxRecDepth 20000 in
theorem law_mark {Rel : Bool → Nat → xTI → xTL → Prop} {G : XG} {l : Launch} {p : Program} {e : Env} {s : State} {m : MethodId} {below : List Frame} {meth : Method} {c : Code} {b Lc q : Nat} {xs : Nat → Int32} (E : xLE G p s m meth c b Lc xs) (hs : xs_mark Rel) {x3 : Int32} (hin : ∀ j : Int32, 1 ≤ j → j ≤ 4 → vp_in (x3 + j) Lc) (hq : q < 512) (hk : xHk Rel G l p e s m below meth c b q x3) {kp : Bool} {I : xTI} {L : xTL} (hRel : Rel kp q I L) {H : Heap} {locs : List Loc} {ls : Array Slot} (hR : xRep G kp I L H) (hS : va_S (xfr G) s.heap H locs) (hl : lv_has ls 4 [(0, .ref b), (1, .ref (xz G + 0)), (2, .ref (xz G + 57)), (3, .int x3)]) : W p l e room_1 s m #[Value.ref b] below meth c H locs (xK kp) (xSl kp) (lw_Z below #[Value.ref b] s) (F0 m 571 ls []) := by
  obtain ⟨r, I1, I2, h1, h2, hRel2⟩ := hs kp q I L (xs (x3 + 1).toNatClampNeg) (xs (x3 + 2).toNatClampNeg) hq hRel
  refine lv_aload_n E.1.1 E.1.2.1 dL_law_571 rfl (lv_at hl 1 rfl) ?_
  refine lv_aload_n E.1.1 E.1.2.1 dL_law_572 rfl (lv_at hl 0 rfl) ?_
  refine lv_iload_n E.1.1 E.1.2.1 dL_law_573 rfl (lv_at hl 3 rfl) ?_
  refine lv_iconst (v := 1) E.1.1 E.1.2.1 dL_law_574 (by decide) ?_
  refine lv_iadd E.1.1 E.1.2.1 dL_law_575 ?_
  refine va_sld E.1.1 E.1.2.1 E.2.1 E.2.2.1 E.2.2.2.1 hS (hin 1 (by decide) (by decide)) dL_law_576 ?_
  refine lv_aload_n E.1.1 E.1.2.1 dL_law_577 rfl (lv_at hl 0 rfl) ?_
  refine lv_iload_n E.1.1 E.1.2.1 dL_law_578 rfl (lv_at hl 3 rfl) ?_
  refine lv_iconst (v := 2) E.1.1 E.1.2.1 dL_law_579 (by decide) ?_
  refine lv_iadd E.1.1 E.1.2.1 dL_law_580 ?_
  refine va_sld E.1.1 E.1.2.1 E.2.1 E.2.2.1 E.2.2.2.1 hS (hin 2 (by decide) (by decide)) dL_law_581 ?_
  refine y_cv (rest := []) E.1 xy_X10_mark tw_531 (M_X10_mark G l kp h1) ⟨Nat.le_of_ble_eq_true rfl, Nat.le_of_ble_eq_true rfl⟩ (xce_0 G kp _ _) rfl rfl rfl (Nat.le_of_ble_eq_true rfl) hl.1 hR hS (Nat.le_of_eq E.2.2.2.2.1) dL_law_582 (xSl_ok kp) (fun H locs hR hS => ?_)
  refine lv_aload_n E.1.1 E.1.2.1 dL_law_585 rfl (lv_at hl 2 rfl) ?_
  refine lv_aload_n E.1.1 E.1.2.1 dL_law_586 rfl (lv_at hl 0 rfl) ?_
  refine lv_iload_n E.1.1 E.1.2.1 dL_law_587 rfl (lv_at hl 3 rfl) ?_
  refine lv_iconst (v := 1) E.1.1 E.1.2.1 dL_law_588 (by decide) ?_
  refine lv_iadd E.1.1 E.1.2.1 dL_law_589 ?_
  refine va_sld E.1.1 E.1.2.1 E.2.1 E.2.2.1 E.2.2.2.1 hS (hin 1 (by decide) (by decide)) dL_law_590 ?_
  refine lv_aload_n E.1.1 E.1.2.1 dL_law_591 rfl (lv_at hl 0 rfl) ?_
  refine lv_iload_n E.1.1 E.1.2.1 dL_law_592 rfl (lv_at hl 3 rfl) ?_
  refine lv_iconst (v := 2) E.1.1 E.1.2.1 dL_law_593 (by decide) ?_
  refine lv_iadd E.1.1 E.1.2.1 dL_law_594 ?_
  refine va_sld E.1.1 E.1.2.1 E.2.1 E.2.2.1 E.2.2.2.1 hS (hin 2 (by decide) (by decide)) dL_law_595 ?_
  refine y_cv (rest := [.int r]) E.1 xy_X11_mark tw_1435 (M_X11_mark G l kp h2) ⟨Nat.le_of_ble_eq_true rfl, Nat.le_of_ble_eq_true rfl⟩ (xce_57 G kp _ _) rfl rfl rfl (Nat.le_of_ble_eq_true rfl) hl.1 hR hS (Nat.le_of_eq E.2.2.2.2.1) dL_law_596 (xSl_ok kp) (fun H locs hR hS => ?_)
  refine lv_icmp_eq (x := r) (y := r) (tgt := 1582) E.1.1 E.1.2.1 dL_law_599 (by decide) (fun _ => ?_) (fun h => absurd rfl h)
  exact hk kp _ _ hRel2 _ _ _ hR hS hl
set_option maxRecDepth 20000 in
theorem law_clear {Rel : Bool → Nat → xTI → xTL → Prop} {G : XG} {l : Launch} {p : Program} {e : Env} {s : State} {m : MethodId} {below : List Frame} {meth : Method} {c : Code} {b Lc q : Nat} {xs : Nat → Int32} (E : xLE G p s m meth c b Lc xs) (hs : xs_clear Rel) {x3 : Int32} (hin : ∀ j : Int32, 1 ≤ j → j ≤ 4 → vp_in (x3 + j) Lc) (hq : q < 512) (hk : xHk Rel G l p e s m below meth c b q x3) {kp : Bool} {I : xTI} {L : xTL} (hRel : Rel kp q I L) {H : Heap} {locs : List Loc} {ls : Array Slot} (hR : xRep G kp I L H) (hS : va_S (xfr G) s.heap H locs) (hl : lv_has ls 4 [(0, .ref b), (1, .ref (xz G + 0)), (2, .ref (xz G + 57)), (3, .int x3)]) : W p l e room_1 s m #[Value.ref b] below meth c H locs (xK kp) (xSl kp) (lw_Z below #[Value.ref b] s) (F0 m 604 ls []) := by
  obtain ⟨r, I1, I2, h1, h2, hRel2⟩ := hs kp q I L (xs (x3 + 1).toNatClampNeg) hq hRel
  refine lv_aload_n E.1.1 E.1.2.1 dL_law_604 rfl (lv_at hl 1 rfl) ?_
  refine lv_aload_n E.1.1 E.1.2.1 dL_law_605 rfl (lv_at hl 0 rfl) ?_
  refine lv_iload_n E.1.1 E.1.2.1 dL_law_606 rfl (lv_at hl 3 rfl) ?_
  refine lv_iconst (v := 1) E.1.1 E.1.2.1 dL_law_607 (by decide) ?_
  refine lv_iadd E.1.1 E.1.2.1 dL_law_608 ?_
  refine va_sld E.1.1 E.1.2.1 E.2.1 E.2.2.1 E.2.2.2.1 hS (hin 1 (by decide) (by decide)) dL_law_609 ?_
  refine y_cv (rest := []) E.1 xy_X10_clear tw_551 (M_X10_clear G l kp h1) ⟨Nat.le_of_ble_eq_true rfl, Nat.le_of_ble_eq_true rfl⟩ (xce_0 G kp _ _) rfl rfl rfl (Nat.le_of_ble_eq_true rfl) hl.1 hR hS (Nat.le_of_eq E.2.2.2.2.1) dL_law_610 (xSl_ok kp) (fun H locs hR hS => ?_)
  refine lv_aload_n E.1.1 E.1.2.1 dL_law_613 rfl (lv_at hl 2 rfl) ?_
  refine lv_aload_n E.1.1 E.1.2.1 dL_law_614 rfl (lv_at hl 0 rfl) ?_
  refine lv_iload_n E.1.1 E.1.2.1 dL_law_615 rfl (lv_at hl 3 rfl) ?_
  refine lv_iconst (v := 1) E.1.1 E.1.2.1 dL_law_616 (by decide) ?_
  refine lv_iadd E.1.1 E.1.2.1 dL_law_617 ?_
  refine va_sld E.1.1 E.1.2.1 E.2.1 E.2.2.1 E.2.2.2.1 hS (hin 1 (by decide) (by decide)) dL_law_618 ?_
  refine y_cv (rest := [.int r]) E.1 xy_X11_clear tw_1443 (M_X11_clear G l kp h2) ⟨Nat.le_of_ble_eq_true rfl, Nat.le_of_ble_eq_true rfl⟩ (xce_57 G kp _ _) rfl rfl rfl (Nat.le_of_ble_eq_true rfl) hl.1 hR hS (Nat.le_of_eq E.2.2.2.2.1) dL_law_619 (xSl_ok kp) (fun H locs hR hS => ?_)
  refine lv_icmp_eq (x := r) (y := r) (tgt := 1582) E.1.1 E.1.2.1 dL_law_622 (by decide) (fun _ => ?_) (fun h => absurd rfl h)
  exact hk kp _ _ hRel2 _ _ _ hR hS hl
set_option maxRecDepth 20000 in
theorem law_of {Rel : Bool → Nat → xTI → xTL → Prop} {G : XG} {l : Launch} {p : Program} {e : Env} {s : State} {m : MethodId} {below : List Frame} {meth : Method} {c : Code} {b Lc q : Nat} {xs : Nat → Int32} (E : xLE G p s m meth c b Lc xs) (hs : xs_of Rel) {x3 : Int32} (hin : ∀ j : Int32, 1 ≤ j → j ≤ 4 → vp_in (x3 + j) Lc) (hq : q < 512) (hk : xHk Rel G l p e s m below meth c b q x3) {kp : Bool} {I : xTI} {L : xTL} (hRel : Rel kp q I L) {H : Heap} {locs : List Loc} {ls : Array Slot} (hR : xRep G kp I L H) (hS : va_S (xfr G) s.heap H locs) (hl : lv_has ls 4 [(0, .ref b), (1, .ref (xz G + 0)), (2, .ref (xz G + 57)), (3, .int x3)]) : W p l e room_1 s m #[Value.ref b] below meth c H locs (xK kp) (xSl kp) (lw_Z below #[Value.ref b] s) (F0 m 627 ls []) := by
  obtain ⟨r, I1, I2, h1, h2, hRel2⟩ := hs kp q I L (xs (x3 + 1).toNatClampNeg) (xs (x3 + 2).toNatClampNeg) hq hRel
  refine lv_aload_n E.1.1 E.1.2.1 dL_law_627 rfl (lv_at hl 1 rfl) ?_
  refine lv_aload_n E.1.1 E.1.2.1 dL_law_628 rfl (lv_at hl 0 rfl) ?_
  refine lv_iload_n E.1.1 E.1.2.1 dL_law_629 rfl (lv_at hl 3 rfl) ?_
  refine lv_iconst (v := 1) E.1.1 E.1.2.1 dL_law_630 (by decide) ?_
  refine lv_iadd E.1.1 E.1.2.1 dL_law_631 ?_
  refine va_sld E.1.1 E.1.2.1 E.2.1 E.2.2.1 E.2.2.2.1 hS (hin 1 (by decide) (by decide)) dL_law_632 ?_
  refine lv_aload_n E.1.1 E.1.2.1 dL_law_633 rfl (lv_at hl 0 rfl) ?_
  refine lv_iload_n E.1.1 E.1.2.1 dL_law_634 rfl (lv_at hl 3 rfl) ?_
  refine lv_iconst (v := 2) E.1.1 E.1.2.1 dL_law_635 (by decide) ?_
  refine lv_iadd E.1.1 E.1.2.1 dL_law_636 ?_
  refine va_sld E.1.1 E.1.2.1 E.2.1 E.2.2.1 E.2.2.2.1 hS (hin 2 (by decide) (by decide)) dL_law_637 ?_
  refine y_cv (rest := []) E.1 xy_X10_of tw_560 (M_X10_of G l kp h1) ⟨Nat.le_of_ble_eq_true rfl, Nat.le_of_ble_eq_true rfl⟩ (xce_0 G kp _ _) rfl rfl rfl (Nat.le_of_ble_eq_true rfl) hl.1 hR hS (Nat.le_of_eq E.2.2.2.2.1) dL_law_638 (xSl_ok kp) (fun H locs hR hS => ?_)
  refine lv_aload_n E.1.1 E.1.2.1 dL_law_641 rfl (lv_at hl 2 rfl) ?_
  refine lv_aload_n E.1.1 E.1.2.1 dL_law_642 rfl (lv_at hl 0 rfl) ?_
  refine lv_iload_n E.1.1 E.1.2.1 dL_law_643 rfl (lv_at hl 3 rfl) ?_
  refine lv_iconst (v := 1) E.1.1 E.1.2.1 dL_law_644 (by decide) ?_
  refine lv_iadd E.1.1 E.1.2.1 dL_law_645 ?_
  refine va_sld E.1.1 E.1.2.1 E.2.1 E.2.2.1 E.2.2.2.1 hS (hin 1 (by decide) (by decide)) dL_law_646 ?_
  refine lv_aload_n E.1.1 E.1.2.1 dL_law_647 rfl (lv_at hl 0 rfl) ?_
  refine lv_iload_n E.1.1 E.1.2.1 dL_law_648 rfl (lv_at hl 3 rfl) ?_
  refine lv_iconst (v := 2) E.1.1 E.1.2.1 dL_law_649 (by decide) ?_
  refine lv_iadd E.1.1 E.1.2.1 dL_law_650 ?_
  refine va_sld E.1.1 E.1.2.1 E.2.1 E.2.2.1 E.2.2.2.1 hS (hin 2 (by decide) (by decide)) dL_law_651 ?_
  refine y_cv (rest := [.int r]) E.1 xy_X11_of tw_1447 (M_X11_of G l kp h2) ⟨Nat.le_of_ble_eq_true rfl, Nat.le_of_ble_eq_true rfl⟩ (xce_57 G kp _ _) rfl rfl rfl (Nat.le_of_ble_eq_true rfl) hl.1 hR hS (Nat.le_of_eq E.2.2.2.2.1) dL_law_652 (xSl_ok kp) (fun H locs hR hS => ?_)
  refine lv_icmp_eq (x := r) (y := r) (tgt := 1582) E.1.1 E.1.2.1 dL_law_655 (by decide) (fun _ => ?_) (fun h => absurd rfl h)
  exact hk kp _ _ hRel2 _ _ _ hR hS hl
set_option maxRecDepth 20000 in
theorem law_knew {Rel : Bool → Nat → xTI → xTL → Prop} {G : XG} {l : Launch} {p : Program} {e : Env} {s : State} {m : MethodId} {below : List Frame} {meth : Method} {c : Code} {b Lc q : Nat} {xs : Nat → Int32} (E : xLE G p s m meth c b Lc xs) (hs : xs_knew Rel) {x3 : Int32} (hin : ∀ j : Int32, 1 ≤ j → j ≤ 4 → vp_in (x3 + j) Lc) (hq : q < 512) (hk : xHk Rel G l p e s m below meth c b q x3) {kp : Bool} {I : xTI} {L : xTL} (hRel : Rel kp q I L) {H : Heap} {locs : List Loc} {ls : Array Slot} (hR : xRep G kp I L H) (hS : va_S (xfr G) s.heap H locs) (hl : lv_has ls 4 [(0, .ref b), (1, .ref (xz G + 0)), (2, .ref (xz G + 57)), (3, .int x3)]) : W p l e room_1 s m #[Value.ref b] below meth c H locs (xK kp) (xSl kp) (lw_Z below #[Value.ref b] s) (F0 m 660 ls []) := by
  obtain ⟨r, I1, I2, h1, h2, hRel2⟩ := hs kp q I L (xs (x3 + 1).toNatClampNeg) (xs (x3 + 2).toNatClampNeg) (xs (x3 + 3).toNatClampNeg) (xs (x3 + 4).toNatClampNeg) hq hRel
  refine lv_aload_n E.1.1 E.1.2.1 dL_law_660 rfl (lv_at hl 1 rfl) ?_
  refine lv_aload_n E.1.1 E.1.2.1 dL_law_661 rfl (lv_at hl 0 rfl) ?_
  refine lv_iload_n E.1.1 E.1.2.1 dL_law_662 rfl (lv_at hl 3 rfl) ?_
  refine lv_iconst (v := 1) E.1.1 E.1.2.1 dL_law_663 (by decide) ?_
  refine lv_iadd E.1.1 E.1.2.1 dL_law_664 ?_
  refine va_sld E.1.1 E.1.2.1 E.2.1 E.2.2.1 E.2.2.2.1 hS (hin 1 (by decide) (by decide)) dL_law_665 ?_
  refine lv_aload_n E.1.1 E.1.2.1 dL_law_666 rfl (lv_at hl 0 rfl) ?_
  refine lv_iload_n E.1.1 E.1.2.1 dL_law_667 rfl (lv_at hl 3 rfl) ?_
  refine lv_iconst (v := 2) E.1.1 E.1.2.1 dL_law_668 (by decide) ?_
  refine lv_iadd E.1.1 E.1.2.1 dL_law_669 ?_
  refine va_sld E.1.1 E.1.2.1 E.2.1 E.2.2.1 E.2.2.2.1 hS (hin 2 (by decide) (by decide)) dL_law_670 ?_
  refine lv_aload_n E.1.1 E.1.2.1 dL_law_671 rfl (lv_at hl 0 rfl) ?_
  refine lv_iload_n E.1.1 E.1.2.1 dL_law_672 rfl (lv_at hl 3 rfl) ?_
  refine lv_iconst (v := 3) E.1.1 E.1.2.1 dL_law_673 (by decide) ?_
  refine lv_iadd E.1.1 E.1.2.1 dL_law_674 ?_
  refine va_sld E.1.1 E.1.2.1 E.2.1 E.2.2.1 E.2.2.2.1 hS (hin 3 (by decide) (by decide)) dL_law_675 ?_
  refine lv_aload_n E.1.1 E.1.2.1 dL_law_676 rfl (lv_at hl 0 rfl) ?_
  refine lv_iload_n E.1.1 E.1.2.1 dL_law_677 rfl (lv_at hl 3 rfl) ?_
  refine lv_iconst (v := 4) E.1.1 E.1.2.1 dL_law_678 (by decide) ?_
  refine lv_iadd E.1.1 E.1.2.1 dL_law_679 ?_
  refine va_sld E.1.1 E.1.2.1 E.2.1 E.2.2.1 E.2.2.2.1 hS (hin 4 (by decide) (by decide)) dL_law_680 ?_
  refine y_cv (rest := []) E.1 xy_X10_knew tw_564 (M_X10_knew G l kp xN h1) ⟨Nat.le_of_ble_eq_true rfl, Nat.le_of_ble_eq_true rfl⟩ (xce_0 G kp _ _) rfl rfl rfl (Nat.le_of_ble_eq_true rfl) hl.1 hR hS (Nat.le_of_eq E.2.2.2.2.1) dL_law_681 (xSl_ok kp) (fun H locs hR hS => ?_)
  refine lv_aload_n E.1.1 E.1.2.1 dL_law_684 rfl (lv_at hl 2 rfl) ?_
  refine lv_aload_n E.1.1 E.1.2.1 dL_law_685 rfl (lv_at hl 0 rfl) ?_
  refine lv_iload_n E.1.1 E.1.2.1 dL_law_686 rfl (lv_at hl 3 rfl) ?_
  refine lv_iconst (v := 1) E.1.1 E.1.2.1 dL_law_687 (by decide) ?_
  refine lv_iadd E.1.1 E.1.2.1 dL_law_688 ?_
  refine va_sld E.1.1 E.1.2.1 E.2.1 E.2.2.1 E.2.2.2.1 hS (hin 1 (by decide) (by decide)) dL_law_689 ?_
  refine lv_aload_n E.1.1 E.1.2.1 dL_law_690 rfl (lv_at hl 0 rfl) ?_
  refine lv_iload_n E.1.1 E.1.2.1 dL_law_691 rfl (lv_at hl 3 rfl) ?_
  refine lv_iconst (v := 2) E.1.1 E.1.2.1 dL_law_692 (by decide) ?_
  refine lv_iadd E.1.1 E.1.2.1 dL_law_693 ?_
  refine va_sld E.1.1 E.1.2.1 E.2.1 E.2.2.1 E.2.2.2.1 hS (hin 2 (by decide) (by decide)) dL_law_694 ?_
  refine lv_aload_n E.1.1 E.1.2.1 dL_law_695 rfl (lv_at hl 0 rfl) ?_
  refine lv_iload_n E.1.1 E.1.2.1 dL_law_696 rfl (lv_at hl 3 rfl) ?_
  refine lv_iconst (v := 3) E.1.1 E.1.2.1 dL_law_697 (by decide) ?_
  refine lv_iadd E.1.1 E.1.2.1 dL_law_698 ?_
  refine va_sld E.1.1 E.1.2.1 E.2.1 E.2.2.1 E.2.2.2.1 hS (hin 3 (by decide) (by decide)) dL_law_699 ?_
  refine lv_aload_n E.1.1 E.1.2.1 dL_law_700 rfl (lv_at hl 0 rfl) ?_
  refine lv_iload_n E.1.1 E.1.2.1 dL_law_701 rfl (lv_at hl 3 rfl) ?_
  refine lv_iconst (v := 4) E.1.1 E.1.2.1 dL_law_702 (by decide) ?_
  refine lv_iadd E.1.1 E.1.2.1 dL_law_703 ?_
  refine va_sld E.1.1 E.1.2.1 E.2.1 E.2.2.1 E.2.2.2.1 hS (hin 4 (by decide) (by decide)) dL_law_704 ?_
  refine y_cv (rest := [.int r]) E.1 xy_X11_knew tw_1451 (M_X11_knew G l kp xN h2) ⟨Nat.le_of_ble_eq_true rfl, Nat.le_of_ble_eq_true rfl⟩ (xce_57 G kp _ _) rfl rfl rfl (Nat.le_of_ble_eq_true rfl) hl.1 hR hS (Nat.le_of_eq E.2.2.2.2.1) dL_law_705 (xSl_ok kp) (fun H locs hR hS => ?_)
  refine lv_icmp_eq (x := r) (y := r) (tgt := 1582) E.1.1 E.1.2.1 dL_law_708 (by decide) (fun _ => ?_) (fun h => absurd rfl h)
  exact hk kp _ _ hRel2 _ _ _ hR hS hl
set_option maxRecDepth 20000 in
theorem law_putOff {Rel : Bool → Nat → xTI → xTL → Prop} {G : XG} {l : Launch} {p : Program} {e : Env} {s : State} {m : MethodId} {below : List Frame} {meth : Method} {c : Code} {b Lc q : Nat} {xs : Nat → Int32} (E : xLE G p s m meth c b Lc xs) (hs : xs_putOff Rel) {x3 : Int32} (hin : ∀ j : Int32, 1 ≤ j → j ≤ 4 → vp_in (x3 + j) Lc) (hq : q < 512) (hk : xHk Rel G l p e s m below meth c b q x3) {kp : Bool} {I : xTI} {L : xTL} (hRel : Rel kp q I L) {H : Heap} {locs : List Loc} {ls : Array Slot} (hR : xRep G kp I L H) (hS : va_S (xfr G) s.heap H locs) (hl : lv_has ls 4 [(0, .ref b), (1, .ref (xz G + 0)), (2, .ref (xz G + 57)), (3, .int x3)]) : W p l e room_1 s m #[Value.ref b] below meth c H locs (xK kp) (xSl kp) (lw_Z below #[Value.ref b] s) (F0 m 713 ls []) := by
  obtain ⟨r, I1, I2, L2, h1, h2, hRel2⟩ := hs kp q I L (xs (x3 + 1).toNatClampNeg) (xs (x3 + 2).toNatClampNeg) (xs (x3 + 3).toNatClampNeg) hq hRel
  refine lv_aload_n E.1.1 E.1.2.1 dL_law_713 rfl (lv_at hl 1 rfl) ?_
  refine lv_aload_n E.1.1 E.1.2.1 dL_law_714 rfl (lv_at hl 0 rfl) ?_
  refine lv_iload_n E.1.1 E.1.2.1 dL_law_715 rfl (lv_at hl 3 rfl) ?_
  refine lv_iconst (v := 1) E.1.1 E.1.2.1 dL_law_716 (by decide) ?_
  refine lv_iadd E.1.1 E.1.2.1 dL_law_717 ?_
  refine va_sld E.1.1 E.1.2.1 E.2.1 E.2.2.1 E.2.2.2.1 hS (hin 1 (by decide) (by decide)) dL_law_718 ?_
  refine lv_aload_n E.1.1 E.1.2.1 dL_law_719 rfl (lv_at hl 0 rfl) ?_
  refine lv_iload_n E.1.1 E.1.2.1 dL_law_720 rfl (lv_at hl 3 rfl) ?_
  refine lv_iconst (v := 2) E.1.1 E.1.2.1 dL_law_721 (by decide) ?_
  refine lv_iadd E.1.1 E.1.2.1 dL_law_722 ?_
  refine va_sld E.1.1 E.1.2.1 E.2.1 E.2.2.1 E.2.2.2.1 hS (hin 2 (by decide) (by decide)) dL_law_723 ?_
  refine lv_aload_n E.1.1 E.1.2.1 dL_law_724 rfl (lv_at hl 0 rfl) ?_
  refine lv_iload_n E.1.1 E.1.2.1 dL_law_725 rfl (lv_at hl 3 rfl) ?_
  refine lv_iconst (v := 3) E.1.1 E.1.2.1 dL_law_726 (by decide) ?_
  refine lv_iadd E.1.1 E.1.2.1 dL_law_727 ?_
  refine va_sld E.1.1 E.1.2.1 E.2.1 E.2.2.1 E.2.2.2.1 hS (hin 3 (by decide) (by decide)) dL_law_728 ?_
  refine y_cv (rest := []) E.1 xy_X10_putOff tw_572 (M_X10_putOff G l kp xN h1) ⟨Nat.le_of_ble_eq_true rfl, Nat.le_of_ble_eq_true rfl⟩ (xce_0 G kp _ _) rfl rfl rfl (Nat.le_of_ble_eq_true rfl) hl.1 hR hS (Nat.le_of_eq E.2.2.2.2.1) dL_law_729 (xSl_ok kp) (fun H locs hR hS => ?_)
  refine lv_aload_n E.1.1 E.1.2.1 dL_law_732 rfl (lv_at hl 2 rfl) ?_
  refine lv_aload_n E.1.1 E.1.2.1 dL_law_733 rfl (lv_at hl 0 rfl) ?_
  refine lv_iload_n E.1.1 E.1.2.1 dL_law_734 rfl (lv_at hl 3 rfl) ?_
  refine lv_iconst (v := 1) E.1.1 E.1.2.1 dL_law_735 (by decide) ?_
  refine lv_iadd E.1.1 E.1.2.1 dL_law_736 ?_
  refine va_sld E.1.1 E.1.2.1 E.2.1 E.2.2.1 E.2.2.2.1 hS (hin 1 (by decide) (by decide)) dL_law_737 ?_
  refine lv_aload_n E.1.1 E.1.2.1 dL_law_738 rfl (lv_at hl 0 rfl) ?_
  refine lv_iload_n E.1.1 E.1.2.1 dL_law_739 rfl (lv_at hl 3 rfl) ?_
  refine lv_iconst (v := 2) E.1.1 E.1.2.1 dL_law_740 (by decide) ?_
  refine lv_iadd E.1.1 E.1.2.1 dL_law_741 ?_
  refine va_sld E.1.1 E.1.2.1 E.2.1 E.2.2.1 E.2.2.2.1 hS (hin 2 (by decide) (by decide)) dL_law_742 ?_
  refine lv_aload_n E.1.1 E.1.2.1 dL_law_743 rfl (lv_at hl 0 rfl) ?_
  refine lv_iload_n E.1.1 E.1.2.1 dL_law_744 rfl (lv_at hl 3 rfl) ?_
  refine lv_iconst (v := 3) E.1.1 E.1.2.1 dL_law_745 (by decide) ?_
  refine lv_iadd E.1.1 E.1.2.1 dL_law_746 ?_
  refine va_sld E.1.1 E.1.2.1 E.2.1 E.2.2.1 E.2.2.2.1 hS (hin 3 (by decide) (by decide)) dL_law_747 ?_
  refine y_cv (rest := [.int r]) E.1 xy_X11_putOff tw_1455 (M_X11_putOff G l kp xN h2) ⟨Nat.le_of_ble_eq_true rfl, Nat.le_of_ble_eq_true rfl⟩ (xce_57 G kp _ _) rfl rfl rfl (Nat.le_of_ble_eq_true rfl) hl.1 hR hS (Nat.le_of_eq E.2.2.2.2.1) dL_law_748 (xSl_ok kp) (fun H locs hR hS => ?_)
  refine lv_icmp_eq (x := r) (y := r) (tgt := 1582) E.1.1 E.1.2.1 dL_law_751 (by decide) (fun _ => ?_) (fun h => absurd rfl h)
  exact hk kp _ _ hRel2 _ _ _ hR hS hl
set_option maxRecDepth 20000 in
theorem law_option {Rel : Bool → Nat → xTI → xTL → Prop} {G : XG} {l : Launch} {p : Program} {e : Env} {s : State} {m : MethodId} {below : List Frame} {meth : Method} {c : Code} {b Lc q : Nat} {xs : Nat → Int32} (E : xLE G p s m meth c b Lc xs) (hs : xs_option Rel) {x3 : Int32} (hin : ∀ j : Int32, 1 ≤ j → j ≤ 4 → vp_in (x3 + j) Lc) (hq : q < 512) (hk : xHk Rel G l p e s m below meth c b q x3) {kp : Bool} {I : xTI} {L : xTL} (hRel : Rel kp q I L) {H : Heap} {locs : List Loc} {ls : Array Slot} (hR : xRep G kp I L H) (hS : va_S (xfr G) s.heap H locs) (hl : lv_has ls 4 [(0, .ref b), (1, .ref (xz G + 0)), (2, .ref (xz G + 57)), (3, .int x3)]) : W p l e room_1 s m #[Value.ref b] below meth c H locs (xK kp) (xSl kp) (lw_Z below #[Value.ref b] s) (F0 m 756 ls []) := by
  obtain ⟨r, I1, L1, I2, L2, h1, h2, hRel2⟩ := hs kp q I L (xs (x3 + 1).toNatClampNeg) (xs (x3 + 2).toNatClampNeg) (xs (x3 + 3).toNatClampNeg) (xs (x3 + 4).toNatClampNeg) hq hRel
  refine lv_aload_n E.1.1 E.1.2.1 dL_law_756 rfl (lv_at hl 1 rfl) ?_
  refine lv_aload_n E.1.1 E.1.2.1 dL_law_757 rfl (lv_at hl 0 rfl) ?_
  refine lv_iload_n E.1.1 E.1.2.1 dL_law_758 rfl (lv_at hl 3 rfl) ?_
  refine lv_iconst (v := 1) E.1.1 E.1.2.1 dL_law_759 (by decide) ?_
  refine lv_iadd E.1.1 E.1.2.1 dL_law_760 ?_
  refine va_sld E.1.1 E.1.2.1 E.2.1 E.2.2.1 E.2.2.2.1 hS (hin 1 (by decide) (by decide)) dL_law_761 ?_
  refine lv_aload_n E.1.1 E.1.2.1 dL_law_762 rfl (lv_at hl 0 rfl) ?_
  refine lv_iload_n E.1.1 E.1.2.1 dL_law_763 rfl (lv_at hl 3 rfl) ?_
  refine lv_iconst (v := 2) E.1.1 E.1.2.1 dL_law_764 (by decide) ?_
  refine lv_iadd E.1.1 E.1.2.1 dL_law_765 ?_
  refine va_sld E.1.1 E.1.2.1 E.2.1 E.2.2.1 E.2.2.2.1 hS (hin 2 (by decide) (by decide)) dL_law_766 ?_
  refine lv_aload_n E.1.1 E.1.2.1 dL_law_767 rfl (lv_at hl 0 rfl) ?_
  refine lv_iload_n E.1.1 E.1.2.1 dL_law_768 rfl (lv_at hl 3 rfl) ?_
  refine lv_iconst (v := 3) E.1.1 E.1.2.1 dL_law_769 (by decide) ?_
  refine lv_iadd E.1.1 E.1.2.1 dL_law_770 ?_
  refine va_sld E.1.1 E.1.2.1 E.2.1 E.2.2.1 E.2.2.2.1 hS (hin 3 (by decide) (by decide)) dL_law_771 ?_
  refine lv_aload_n E.1.1 E.1.2.1 dL_law_772 rfl (lv_at hl 0 rfl) ?_
  refine lv_iload_n E.1.1 E.1.2.1 dL_law_773 rfl (lv_at hl 3 rfl) ?_
  refine lv_iconst (v := 4) E.1.1 E.1.2.1 dL_law_774 (by decide) ?_
  refine lv_iadd E.1.1 E.1.2.1 dL_law_775 ?_
  refine va_sld E.1.1 E.1.2.1 E.2.1 E.2.2.1 E.2.2.2.1 hS (hin 4 (by decide) (by decide)) dL_law_776 ?_
  refine y_cv (rest := []) E.1 xy_X10_option tw_635 (M_X10_option G l kp h1) ⟨Nat.le_of_ble_eq_true rfl, Nat.le_of_ble_eq_true rfl⟩ (xce_0 G kp _ _) rfl rfl rfl (Nat.le_of_ble_eq_true rfl) hl.1 hR hS (Nat.le_of_eq E.2.2.2.2.1) dL_law_777 (xSl_ok kp) (fun H locs hR hS => ?_)
  refine lv_aload_n E.1.1 E.1.2.1 dL_law_780 rfl (lv_at hl 2 rfl) ?_
  refine lv_aload_n E.1.1 E.1.2.1 dL_law_781 rfl (lv_at hl 0 rfl) ?_
  refine lv_iload_n E.1.1 E.1.2.1 dL_law_782 rfl (lv_at hl 3 rfl) ?_
  refine lv_iconst (v := 1) E.1.1 E.1.2.1 dL_law_783 (by decide) ?_
  refine lv_iadd E.1.1 E.1.2.1 dL_law_784 ?_
  refine va_sld E.1.1 E.1.2.1 E.2.1 E.2.2.1 E.2.2.2.1 hS (hin 1 (by decide) (by decide)) dL_law_785 ?_
  refine lv_aload_n E.1.1 E.1.2.1 dL_law_786 rfl (lv_at hl 0 rfl) ?_
  refine lv_iload_n E.1.1 E.1.2.1 dL_law_787 rfl (lv_at hl 3 rfl) ?_
  refine lv_iconst (v := 2) E.1.1 E.1.2.1 dL_law_788 (by decide) ?_
  refine lv_iadd E.1.1 E.1.2.1 dL_law_789 ?_
  refine va_sld E.1.1 E.1.2.1 E.2.1 E.2.2.1 E.2.2.2.1 hS (hin 2 (by decide) (by decide)) dL_law_790 ?_
  refine lv_aload_n E.1.1 E.1.2.1 dL_law_791 rfl (lv_at hl 0 rfl) ?_
  refine lv_iload_n E.1.1 E.1.2.1 dL_law_792 rfl (lv_at hl 3 rfl) ?_
  refine lv_iconst (v := 3) E.1.1 E.1.2.1 dL_law_793 (by decide) ?_
  refine lv_iadd E.1.1 E.1.2.1 dL_law_794 ?_
  refine va_sld E.1.1 E.1.2.1 E.2.1 E.2.2.1 E.2.2.2.1 hS (hin 3 (by decide) (by decide)) dL_law_795 ?_
  refine lv_aload_n E.1.1 E.1.2.1 dL_law_796 rfl (lv_at hl 0 rfl) ?_
  refine lv_iload_n E.1.1 E.1.2.1 dL_law_797 rfl (lv_at hl 3 rfl) ?_
  refine lv_iconst (v := 4) E.1.1 E.1.2.1 dL_law_798 (by decide) ?_
  refine lv_iadd E.1.1 E.1.2.1 dL_law_799 ?_
  refine va_sld E.1.1 E.1.2.1 E.2.1 E.2.2.1 E.2.2.2.1 hS (hin 4 (by decide) (by decide)) dL_law_800 ?_
  refine y_cv (rest := [.int r]) E.1 xy_X11_option tw_1567 (M_X11_option G l kp h2) ⟨Nat.le_of_ble_eq_true rfl, Nat.le_of_ble_eq_true rfl⟩ (xce_57 G kp _ _) rfl rfl rfl (Nat.le_of_ble_eq_true rfl) hl.1 hR hS (Nat.le_of_eq E.2.2.2.2.1) dL_law_801 (xSl_ok kp) (fun H locs hR hS => ?_)
  refine lv_icmp_eq (x := r) (y := r) (tgt := 1582) E.1.1 E.1.2.1 dL_law_804 (by decide) (fun _ => ?_) (fun h => absurd rfl h)
  exact hk kp _ _ hRel2 _ _ _ hR hS hl
set_option maxRecDepth 20000 in
theorem law_declare {Rel : Bool → Nat → xTI → xTL → Prop} {G : XG} {l : Launch} {p : Program} {e : Env} {s : State} {m : MethodId} {below : List Frame} {meth : Method} {c : Code} {b Lc q : Nat} {xs : Nat → Int32} (E : xLE G p s m meth c b Lc xs) (hs : xs_declare Rel) {x3 : Int32} (hin : ∀ j : Int32, 1 ≤ j → j ≤ 4 → vp_in (x3 + j) Lc) (hq : q < 512) (hk : xHk Rel G l p e s m below meth c b q x3) {kp : Bool} {I : xTI} {L : xTL} (hRel : Rel kp q I L) {H : Heap} {locs : List Loc} {ls : Array Slot} (hR : xRep G kp I L H) (hS : va_S (xfr G) s.heap H locs) (hl : lv_has ls 4 [(0, .ref b), (1, .ref (xz G + 0)), (2, .ref (xz G + 57)), (3, .int x3)]) : W p l e room_1 s m #[Value.ref b] below meth c H locs (xK kp) (xSl kp) (lw_Z below #[Value.ref b] s) (F0 m 809 ls []) := by
  obtain ⟨r, I1, I2, h1, h2, hRel2⟩ := hs kp q I L (xs (x3 + 1).toNatClampNeg) hq hRel
  refine lv_aload_n E.1.1 E.1.2.1 dL_law_809 rfl (lv_at hl 1 rfl) ?_
  refine lv_aload_n E.1.1 E.1.2.1 dL_law_810 rfl (lv_at hl 0 rfl) ?_
  refine lv_iload_n E.1.1 E.1.2.1 dL_law_811 rfl (lv_at hl 3 rfl) ?_
  refine lv_iconst (v := 1) E.1.1 E.1.2.1 dL_law_812 (by decide) ?_
  refine lv_iadd E.1.1 E.1.2.1 dL_law_813 ?_
  refine va_sld E.1.1 E.1.2.1 E.2.1 E.2.2.1 E.2.2.2.1 hS (hin 1 (by decide) (by decide)) dL_law_814 ?_
  refine y_cv (rest := []) E.1 xy_X10_declare tw_648 (M_X10_declare G l kp xN h1) ⟨Nat.le_of_ble_eq_true rfl, Nat.le_of_ble_eq_true rfl⟩ (xce_0 G kp _ _) rfl rfl rfl (Nat.le_of_ble_eq_true rfl) hl.1 hR hS (Nat.le_of_eq E.2.2.2.2.1) dL_law_815 (xSl_ok kp) (fun H locs hR hS => ?_)
  refine lv_aload_n E.1.1 E.1.2.1 dL_law_818 rfl (lv_at hl 2 rfl) ?_
  refine lv_aload_n E.1.1 E.1.2.1 dL_law_819 rfl (lv_at hl 0 rfl) ?_
  refine lv_iload_n E.1.1 E.1.2.1 dL_law_820 rfl (lv_at hl 3 rfl) ?_
  refine lv_iconst (v := 1) E.1.1 E.1.2.1 dL_law_821 (by decide) ?_
  refine lv_iadd E.1.1 E.1.2.1 dL_law_822 ?_
  refine va_sld E.1.1 E.1.2.1 E.2.1 E.2.2.1 E.2.2.2.1 hS (hin 1 (by decide) (by decide)) dL_law_823 ?_
  refine y_cv (rest := [.int r]) E.1 xy_X11_declare tw_1571 (M_X11_declare G l kp xN h2) ⟨Nat.le_of_ble_eq_true rfl, Nat.le_of_ble_eq_true rfl⟩ (xce_57 G kp _ _) rfl rfl rfl (Nat.le_of_ble_eq_true rfl) hl.1 hR hS (Nat.le_of_eq E.2.2.2.2.1) dL_law_824 (xSl_ok kp) (fun H locs hR hS => ?_)
  refine lv_icmp_eq (x := r) (y := r) (tgt := 1582) E.1.1 E.1.2.1 dL_law_827 (by decide) (fun _ => ?_) (fun h => absurd rfl h)
  exact hk kp _ _ hRel2 _ _ _ hR hS hl
set_option maxRecDepth 20000 in
theorem law_optionOf {Rel : Bool → Nat → xTI → xTL → Prop} {G : XG} {l : Launch} {p : Program} {e : Env} {s : State} {m : MethodId} {below : List Frame} {meth : Method} {c : Code} {b Lc q : Nat} {xs : Nat → Int32} (E : xLE G p s m meth c b Lc xs) (hs : xs_optionOf Rel) {x3 : Int32} (hin : ∀ j : Int32, 1 ≤ j → j ≤ 4 → vp_in (x3 + j) Lc) (hq : q < 512) (hk : xHk Rel G l p e s m below meth c b q x3) {kp : Bool} {I : xTI} {L : xTL} (hRel : Rel kp q I L) {H : Heap} {locs : List Loc} {ls : Array Slot} (hR : xRep G kp I L H) (hS : va_S (xfr G) s.heap H locs) (hl : lv_has ls 4 [(0, .ref b), (1, .ref (xz G + 0)), (2, .ref (xz G + 57)), (3, .int x3)]) : W p l e room_1 s m #[Value.ref b] below meth c H locs (xK kp) (xSl kp) (lw_Z below #[Value.ref b] s) (F0 m 832 ls []) := by
  obtain ⟨r, I1, I2, h1, h2, hRel2⟩ := hs kp q I L (xs (x3 + 1).toNatClampNeg) (xs (x3 + 2).toNatClampNeg) hq hRel
  refine lv_aload_n E.1.1 E.1.2.1 dL_law_832 rfl (lv_at hl 1 rfl) ?_
  refine lv_aload_n E.1.1 E.1.2.1 dL_law_833 rfl (lv_at hl 0 rfl) ?_
  refine lv_iload_n E.1.1 E.1.2.1 dL_law_834 rfl (lv_at hl 3 rfl) ?_
  refine lv_iconst (v := 1) E.1.1 E.1.2.1 dL_law_835 (by decide) ?_
  refine lv_iadd E.1.1 E.1.2.1 dL_law_836 ?_
  refine va_sld E.1.1 E.1.2.1 E.2.1 E.2.2.1 E.2.2.2.1 hS (hin 1 (by decide) (by decide)) dL_law_837 ?_
  refine lv_aload_n E.1.1 E.1.2.1 dL_law_838 rfl (lv_at hl 0 rfl) ?_
  refine lv_iload_n E.1.1 E.1.2.1 dL_law_839 rfl (lv_at hl 3 rfl) ?_
  refine lv_iconst (v := 2) E.1.1 E.1.2.1 dL_law_840 (by decide) ?_
  refine lv_iadd E.1.1 E.1.2.1 dL_law_841 ?_
  refine va_sld E.1.1 E.1.2.1 E.2.1 E.2.2.1 E.2.2.2.1 hS (hin 2 (by decide) (by decide)) dL_law_842 ?_
  refine y_cv (rest := []) E.1 xy_X10_optionOf tw_664 (M_X10_optionOf G l kp h1) ⟨Nat.le_of_ble_eq_true rfl, Nat.le_of_ble_eq_true rfl⟩ (xce_0 G kp _ _) rfl rfl rfl (Nat.le_of_ble_eq_true rfl) hl.1 hR hS (Nat.le_of_eq E.2.2.2.2.1) dL_law_843 (xSl_ok kp) (fun H locs hR hS => ?_)
  refine lv_aload_n E.1.1 E.1.2.1 dL_law_846 rfl (lv_at hl 2 rfl) ?_
  refine lv_aload_n E.1.1 E.1.2.1 dL_law_847 rfl (lv_at hl 0 rfl) ?_
  refine lv_iload_n E.1.1 E.1.2.1 dL_law_848 rfl (lv_at hl 3 rfl) ?_
  refine lv_iconst (v := 1) E.1.1 E.1.2.1 dL_law_849 (by decide) ?_
  refine lv_iadd E.1.1 E.1.2.1 dL_law_850 ?_
  refine va_sld E.1.1 E.1.2.1 E.2.1 E.2.2.1 E.2.2.2.1 hS (hin 1 (by decide) (by decide)) dL_law_851 ?_
  refine lv_aload_n E.1.1 E.1.2.1 dL_law_852 rfl (lv_at hl 0 rfl) ?_
  refine lv_iload_n E.1.1 E.1.2.1 dL_law_853 rfl (lv_at hl 3 rfl) ?_
  refine lv_iconst (v := 2) E.1.1 E.1.2.1 dL_law_854 (by decide) ?_
  refine lv_iadd E.1.1 E.1.2.1 dL_law_855 ?_
  refine va_sld E.1.1 E.1.2.1 E.2.1 E.2.2.1 E.2.2.2.1 hS (hin 2 (by decide) (by decide)) dL_law_856 ?_
  refine y_cv (rest := [.int r]) E.1 xy_X11_optionOf tw_1579 (M_X11_optionOf G l kp h2) ⟨Nat.le_of_ble_eq_true rfl, Nat.le_of_ble_eq_true rfl⟩ (xce_57 G kp _ _) rfl rfl rfl (Nat.le_of_ble_eq_true rfl) hl.1 hR hS (Nat.le_of_eq E.2.2.2.2.1) dL_law_857 (xSl_ok kp) (fun H locs hR hS => ?_)
  refine lv_icmp_eq (x := r) (y := r) (tgt := 1582) E.1.1 E.1.2.1 dL_law_860 (by decide) (fun _ => ?_) (fun h => absurd rfl h)
  exact hk kp _ _ hRel2 _ _ _ hR hS hl
set_option maxRecDepth 20000 in
theorem law_dividend {Rel : Bool → Nat → xTI → xTL → Prop} {G : XG} {l : Launch} {p : Program} {e : Env} {s : State} {m : MethodId} {below : List Frame} {meth : Method} {c : Code} {b Lc q : Nat} {xs : Nat → Int32} (E : xLE G p s m meth c b Lc xs) (hs : xs_dividend Rel) {x3 : Int32} (hin : ∀ j : Int32, 1 ≤ j → j ≤ 4 → vp_in (x3 + j) Lc) (hq : q < 512) (hk : xHk Rel G l p e s m below meth c b q x3) {kp : Bool} {I : xTI} {L : xTL} (hRel : Rel kp q I L) {H : Heap} {locs : List Loc} {ls : Array Slot} (hR : xRep G kp I L H) (hS : va_S (xfr G) s.heap H locs) (hl : lv_has ls 4 [(0, .ref b), (1, .ref (xz G + 0)), (2, .ref (xz G + 57)), (3, .int x3)]) : W p l e room_1 s m #[Value.ref b] below meth c H locs (xK kp) (xSl kp) (lw_Z below #[Value.ref b] s) (F0 m 865 ls []) := by
  obtain ⟨r, I1, I2, h1, h2, hRel2⟩ := hs kp q I L (xs (x3 + 1).toNatClampNeg) (xs (x3 + 2).toNatClampNeg) (xs (x3 + 3).toNatClampNeg) hq hRel
  refine lv_aload_n E.1.1 E.1.2.1 dL_law_865 rfl (lv_at hl 1 rfl) ?_
  refine lv_aload_n E.1.1 E.1.2.1 dL_law_866 rfl (lv_at hl 0 rfl) ?_
  refine lv_iload_n E.1.1 E.1.2.1 dL_law_867 rfl (lv_at hl 3 rfl) ?_
  refine lv_iconst (v := 1) E.1.1 E.1.2.1 dL_law_868 (by decide) ?_
  refine lv_iadd E.1.1 E.1.2.1 dL_law_869 ?_
  refine va_sld E.1.1 E.1.2.1 E.2.1 E.2.2.1 E.2.2.2.1 hS (hin 1 (by decide) (by decide)) dL_law_870 ?_
  refine lv_aload_n E.1.1 E.1.2.1 dL_law_871 rfl (lv_at hl 0 rfl) ?_
  refine lv_iload_n E.1.1 E.1.2.1 dL_law_872 rfl (lv_at hl 3 rfl) ?_
  refine lv_iconst (v := 2) E.1.1 E.1.2.1 dL_law_873 (by decide) ?_
  refine lv_iadd E.1.1 E.1.2.1 dL_law_874 ?_
  refine va_sld E.1.1 E.1.2.1 E.2.1 E.2.2.1 E.2.2.2.1 hS (hin 2 (by decide) (by decide)) dL_law_875 ?_
  refine lv_aload_n E.1.1 E.1.2.1 dL_law_876 rfl (lv_at hl 0 rfl) ?_
  refine lv_iload_n E.1.1 E.1.2.1 dL_law_877 rfl (lv_at hl 3 rfl) ?_
  refine lv_iconst (v := 3) E.1.1 E.1.2.1 dL_law_878 (by decide) ?_
  refine lv_iadd E.1.1 E.1.2.1 dL_law_879 ?_
  refine va_sld E.1.1 E.1.2.1 E.2.1 E.2.2.1 E.2.2.2.1 hS (hin 3 (by decide) (by decide)) dL_law_880 ?_
  refine y_cv (rest := []) E.1 xy_X10_dividend tw_676 (M_X10_dividend G l kp h1) ⟨Nat.le_of_ble_eq_true rfl, Nat.le_of_ble_eq_true rfl⟩ (xce_0 G kp _ _) rfl rfl rfl (Nat.le_of_ble_eq_true rfl) hl.1 hR hS (Nat.le_of_eq E.2.2.2.2.1) dL_law_881 (xSl_ok kp) (fun H locs hR hS => ?_)
  refine lv_aload_n E.1.1 E.1.2.1 dL_law_884 rfl (lv_at hl 2 rfl) ?_
  refine lv_aload_n E.1.1 E.1.2.1 dL_law_885 rfl (lv_at hl 0 rfl) ?_
  refine lv_iload_n E.1.1 E.1.2.1 dL_law_886 rfl (lv_at hl 3 rfl) ?_
  refine lv_iconst (v := 1) E.1.1 E.1.2.1 dL_law_887 (by decide) ?_
  refine lv_iadd E.1.1 E.1.2.1 dL_law_888 ?_
  refine va_sld E.1.1 E.1.2.1 E.2.1 E.2.2.1 E.2.2.2.1 hS (hin 1 (by decide) (by decide)) dL_law_889 ?_
  refine lv_aload_n E.1.1 E.1.2.1 dL_law_890 rfl (lv_at hl 0 rfl) ?_
  refine lv_iload_n E.1.1 E.1.2.1 dL_law_891 rfl (lv_at hl 3 rfl) ?_
  refine lv_iconst (v := 2) E.1.1 E.1.2.1 dL_law_892 (by decide) ?_
  refine lv_iadd E.1.1 E.1.2.1 dL_law_893 ?_
  refine va_sld E.1.1 E.1.2.1 E.2.1 E.2.2.1 E.2.2.2.1 hS (hin 2 (by decide) (by decide)) dL_law_894 ?_
  refine lv_aload_n E.1.1 E.1.2.1 dL_law_895 rfl (lv_at hl 0 rfl) ?_
  refine lv_iload_n E.1.1 E.1.2.1 dL_law_896 rfl (lv_at hl 3 rfl) ?_
  refine lv_iconst (v := 3) E.1.1 E.1.2.1 dL_law_897 (by decide) ?_
  refine lv_iadd E.1.1 E.1.2.1 dL_law_898 ?_
  refine va_sld E.1.1 E.1.2.1 E.2.1 E.2.2.1 E.2.2.2.1 hS (hin 3 (by decide) (by decide)) dL_law_899 ?_
  refine y_cv (rest := [.int r]) E.1 xy_X11_dividend tw_1583 (M_X11_dividend G l kp h2) ⟨Nat.le_of_ble_eq_true rfl, Nat.le_of_ble_eq_true rfl⟩ (xce_57 G kp _ _) rfl rfl rfl (Nat.le_of_ble_eq_true rfl) hl.1 hR hS (Nat.le_of_eq E.2.2.2.2.1) dL_law_900 (xSl_ok kp) (fun H locs hR hS => ?_)
  refine lv_icmp_eq (x := r) (y := r) (tgt := 1582) E.1.1 E.1.2.1 dL_law_903 (by decide) (fun _ => ?_) (fun h => absurd rfl h)
  exact hk kp _ _ hRel2 _ _ _ hR hS hl
set_option maxRecDepth 20000 in
theorem law_feed {Rel : Bool → Nat → xTI → xTL → Prop} {G : XG} {l : Launch} {p : Program} {e : Env} {s : State} {m : MethodId} {below : List Frame} {meth : Method} {c : Code} {b Lc q : Nat} {xs : Nat → Int32} (E : xLE G p s m meth c b Lc xs) (hs : xs_feed Rel) {x3 : Int32} (hin : ∀ j : Int32, 1 ≤ j → j ≤ 4 → vp_in (x3 + j) Lc) (hq : q < 512) (hk : xHk Rel G l p e s m below meth c b q x3) {kp : Bool} {I : xTI} {L : xTL} (hRel : Rel kp q I L) {H : Heap} {locs : List Loc} {ls : Array Slot} (hR : xRep G kp I L H) (hS : va_S (xfr G) s.heap H locs) (hl : lv_has ls 4 [(0, .ref b), (1, .ref (xz G + 0)), (2, .ref (xz G + 57)), (3, .int x3)]) : W p l e room_1 s m #[Value.ref b] below meth c H locs (xK kp) (xSl kp) (lw_Z below #[Value.ref b] s) (F0 m 908 ls []) := by
  obtain ⟨r, I1, I2, h1, h2, hRel2⟩ := hs kp q I L (xs (x3 + 1).toNatClampNeg) (xs (x3 + 2).toNatClampNeg) hq hRel
  refine lv_aload_n E.1.1 E.1.2.1 dL_law_908 rfl (lv_at hl 1 rfl) ?_
  refine lv_aload_n E.1.1 E.1.2.1 dL_law_909 rfl (lv_at hl 0 rfl) ?_
  refine lv_iload_n E.1.1 E.1.2.1 dL_law_910 rfl (lv_at hl 3 rfl) ?_
  refine lv_iconst (v := 1) E.1.1 E.1.2.1 dL_law_911 (by decide) ?_
  refine lv_iadd E.1.1 E.1.2.1 dL_law_912 ?_
  refine va_sld E.1.1 E.1.2.1 E.2.1 E.2.2.1 E.2.2.2.1 hS (hin 1 (by decide) (by decide)) dL_law_913 ?_
  refine lv_aload_n E.1.1 E.1.2.1 dL_law_914 rfl (lv_at hl 0 rfl) ?_
  refine lv_iload_n E.1.1 E.1.2.1 dL_law_915 rfl (lv_at hl 3 rfl) ?_
  refine lv_iconst (v := 2) E.1.1 E.1.2.1 dL_law_916 (by decide) ?_
  refine lv_iadd E.1.1 E.1.2.1 dL_law_917 ?_
  refine va_sld E.1.1 E.1.2.1 E.2.1 E.2.2.1 E.2.2.2.1 hS (hin 2 (by decide) (by decide)) dL_law_918 ?_
  refine y_cv (rest := []) E.1 xy_X10_feed tw_684 (M_X10_feed G l kp xN h1) ⟨Nat.le_of_ble_eq_true rfl, Nat.le_of_ble_eq_true rfl⟩ (xce_0 G kp _ _) rfl rfl rfl (Nat.le_of_ble_eq_true rfl) hl.1 hR hS (Nat.le_of_eq E.2.2.2.2.1) dL_law_919 (xSl_ok kp) (fun H locs hR hS => ?_)
  refine lv_aload_n E.1.1 E.1.2.1 dL_law_922 rfl (lv_at hl 2 rfl) ?_
  refine lv_aload_n E.1.1 E.1.2.1 dL_law_923 rfl (lv_at hl 0 rfl) ?_
  refine lv_iload_n E.1.1 E.1.2.1 dL_law_924 rfl (lv_at hl 3 rfl) ?_
  refine lv_iconst (v := 1) E.1.1 E.1.2.1 dL_law_925 (by decide) ?_
  refine lv_iadd E.1.1 E.1.2.1 dL_law_926 ?_
  refine va_sld E.1.1 E.1.2.1 E.2.1 E.2.2.1 E.2.2.2.1 hS (hin 1 (by decide) (by decide)) dL_law_927 ?_
  refine lv_aload_n E.1.1 E.1.2.1 dL_law_928 rfl (lv_at hl 0 rfl) ?_
  refine lv_iload_n E.1.1 E.1.2.1 dL_law_929 rfl (lv_at hl 3 rfl) ?_
  refine lv_iconst (v := 2) E.1.1 E.1.2.1 dL_law_930 (by decide) ?_
  refine lv_iadd E.1.1 E.1.2.1 dL_law_931 ?_
  refine va_sld E.1.1 E.1.2.1 E.2.1 E.2.2.1 E.2.2.2.1 hS (hin 2 (by decide) (by decide)) dL_law_932 ?_
  refine y_cv (rest := [.int r]) E.1 xy_X11_feed tw_1587 (M_X11_feed G l kp xN h2) ⟨Nat.le_of_ble_eq_true rfl, Nat.le_of_ble_eq_true rfl⟩ (xce_57 G kp _ _) rfl rfl rfl (Nat.le_of_ble_eq_true rfl) hl.1 hR hS (Nat.le_of_eq E.2.2.2.2.1) dL_law_933 (xSl_ok kp) (fun H locs hR hS => ?_)
  refine lv_icmp_eq (x := r) (y := r) (tgt := 1582) E.1.1 E.1.2.1 dL_law_936 (by decide) (fun _ => ?_) (fun h => absurd rfl h)
  exact hk kp _ _ hRel2 _ _ _ hR hS hl
set_option maxRecDepth 20000 in
theorem law_wipe {Rel : Bool → Nat → xTI → xTL → Prop} {G : XG} {l : Launch} {p : Program} {e : Env} {s : State} {m : MethodId} {below : List Frame} {meth : Method} {c : Code} {b Lc q : Nat} {xs : Nat → Int32} (E : xLE G p s m meth c b Lc xs) (hs : xs_wipe Rel) {x3 : Int32} (hin : ∀ j : Int32, 1 ≤ j → j ≤ 4 → vp_in (x3 + j) Lc) (hq : q < 512) (hk : xHk Rel G l p e s m below meth c b q x3) {kp : Bool} {I : xTI} {L : xTL} (hRel : Rel kp q I L) {H : Heap} {locs : List Loc} {ls : Array Slot} (hR : xRep G kp I L H) (hS : va_S (xfr G) s.heap H locs) (hl : lv_has ls 4 [(0, .ref b), (1, .ref (xz G + 0)), (2, .ref (xz G + 57)), (3, .int x3)]) : W p l e room_1 s m #[Value.ref b] below meth c H locs (xK kp) (xSl kp) (lw_Z below #[Value.ref b] s) (F0 m 941 ls []) := by
  obtain ⟨r, I1, I2, h1, h2, hRel2⟩ := hs kp q I L hq hRel
  refine lv_aload_n E.1.1 E.1.2.1 dL_law_941 rfl (lv_at hl 1 rfl) ?_
  refine y_cv (rest := []) E.1 xy_X10_wipe tw_692 (M_X10_wipe G l kp h1) ⟨Nat.le_of_ble_eq_true rfl, Nat.le_of_ble_eq_true rfl⟩ (xce_0 G kp _ _) rfl rfl rfl (Nat.le_of_ble_eq_true rfl) hl.1 hR hS (Nat.le_of_eq E.2.2.2.2.1) dL_law_942 (xSl_ok kp) (fun H locs hR hS => ?_)
  refine lv_aload_n E.1.1 E.1.2.1 dL_law_945 rfl (lv_at hl 2 rfl) ?_
  refine y_cv (rest := [.int r]) E.1 xy_X11_wipe tw_1591 (M_X11_wipe G l kp h2) ⟨Nat.le_of_ble_eq_true rfl, Nat.le_of_ble_eq_true rfl⟩ (xce_57 G kp _ _) rfl rfl rfl (Nat.le_of_ble_eq_true rfl) hl.1 hR hS (Nat.le_of_eq E.2.2.2.2.1) dL_law_946 (xSl_ok kp) (fun H locs hR hS => ?_)
  refine lv_icmp_eq (x := r) (y := r) (tgt := 1582) E.1.1 E.1.2.1 dL_law_949 (by decide) (fun _ => ?_) (fun h => absurd rfl h)
  exact hk kp _ _ hRel2 _ _ _ hR hS hl
set_option maxRecDepth 20000 in
theorem law_rule {Rel : Bool → Nat → xTI → xTL → Prop} {G : XG} {l : Launch} {p : Program} {e : Env} {s : State} {m : MethodId} {below : List Frame} {meth : Method} {c : Code} {b Lc q : Nat} {xs : Nat → Int32} (E : xLE G p s m meth c b Lc xs) (hs : xs_rule Rel) {x3 : Int32} (hin : ∀ j : Int32, 1 ≤ j → j ≤ 4 → vp_in (x3 + j) Lc) (hq : q < 512) (hk : xHk Rel G l p e s m below meth c b q x3) {kp : Bool} {I : xTI} {L : xTL} (hRel : Rel kp q I L) {H : Heap} {locs : List Loc} {ls : Array Slot} (hR : xRep G kp I L H) (hS : va_S (xfr G) s.heap H locs) (hl : lv_has ls 4 [(0, .ref b), (1, .ref (xz G + 0)), (2, .ref (xz G + 57)), (3, .int x3)]) : W p l e room_1 s m #[Value.ref b] below meth c H locs (xK kp) (xSl kp) (lw_Z below #[Value.ref b] s) (F0 m 954 ls []) := by
  obtain ⟨r, I1, I2, L2, h1, h2, hRel2⟩ := hs kp q I L (xs (x3 + 1).toNatClampNeg) (xs (x3 + 2).toNatClampNeg) hq hRel
  refine lv_aload_n E.1.1 E.1.2.1 dL_law_954 rfl (lv_at hl 1 rfl) ?_
  refine lv_aload_n E.1.1 E.1.2.1 dL_law_955 rfl (lv_at hl 0 rfl) ?_
  refine lv_iload_n E.1.1 E.1.2.1 dL_law_956 rfl (lv_at hl 3 rfl) ?_
  refine lv_iconst (v := 1) E.1.1 E.1.2.1 dL_law_957 (by decide) ?_
  refine lv_iadd E.1.1 E.1.2.1 dL_law_958 ?_
  refine va_sld E.1.1 E.1.2.1 E.2.1 E.2.2.1 E.2.2.2.1 hS (hin 1 (by decide) (by decide)) dL_law_959 ?_
  refine lv_aload_n E.1.1 E.1.2.1 dL_law_960 rfl (lv_at hl 0 rfl) ?_
  refine lv_iload_n E.1.1 E.1.2.1 dL_law_961 rfl (lv_at hl 3 rfl) ?_
  refine lv_iconst (v := 2) E.1.1 E.1.2.1 dL_law_962 (by decide) ?_
  refine lv_iadd E.1.1 E.1.2.1 dL_law_963 ?_
  refine va_sld E.1.1 E.1.2.1 E.2.1 E.2.2.1 E.2.2.2.1 hS (hin 2 (by decide) (by decide)) dL_law_964 ?_
  refine y_cv (rest := []) E.1 xy_X10_rule tw_696 (M_X10_rule G l kp xN h1) ⟨Nat.le_of_ble_eq_true rfl, Nat.le_of_ble_eq_true rfl⟩ (xce_0 G kp _ _) rfl rfl rfl (Nat.le_of_ble_eq_true rfl) hl.1 hR hS (Nat.le_of_eq E.2.2.2.2.1) dL_law_965 (xSl_ok kp) (fun H locs hR hS => ?_)
  refine lv_aload_n E.1.1 E.1.2.1 dL_law_968 rfl (lv_at hl 2 rfl) ?_
  refine lv_aload_n E.1.1 E.1.2.1 dL_law_969 rfl (lv_at hl 0 rfl) ?_
  refine lv_iload_n E.1.1 E.1.2.1 dL_law_970 rfl (lv_at hl 3 rfl) ?_
  refine lv_iconst (v := 1) E.1.1 E.1.2.1 dL_law_971 (by decide) ?_
  refine lv_iadd E.1.1 E.1.2.1 dL_law_972 ?_
  refine va_sld E.1.1 E.1.2.1 E.2.1 E.2.2.1 E.2.2.2.1 hS (hin 1 (by decide) (by decide)) dL_law_973 ?_
  refine lv_aload_n E.1.1 E.1.2.1 dL_law_974 rfl (lv_at hl 0 rfl) ?_
  refine lv_iload_n E.1.1 E.1.2.1 dL_law_975 rfl (lv_at hl 3 rfl) ?_
  refine lv_iconst (v := 2) E.1.1 E.1.2.1 dL_law_976 (by decide) ?_
  refine lv_iadd E.1.1 E.1.2.1 dL_law_977 ?_
  refine va_sld E.1.1 E.1.2.1 E.2.1 E.2.2.1 E.2.2.2.1 hS (hin 2 (by decide) (by decide)) dL_law_978 ?_
  refine y_cv (rest := [.int r]) E.1 xy_X11_rule tw_1595 (M_X11_rule G l kp xN h2) ⟨Nat.le_of_ble_eq_true rfl, Nat.le_of_ble_eq_true rfl⟩ (xce_57 G kp _ _) rfl rfl rfl (Nat.le_of_ble_eq_true rfl) hl.1 hR hS (Nat.le_of_eq E.2.2.2.2.1) dL_law_979 (xSl_ok kp) (fun H locs hR hS => ?_)
  refine lv_icmp_eq (x := r) (y := r) (tgt := 1582) E.1.1 E.1.2.1 dL_law_982 (by decide) (fun _ => ?_) (fun h => absurd rfl h)
  exact hk kp _ _ hRel2 _ _ _ hR hS hl
set_option maxRecDepth 20000 in
theorem law_says {Rel : Bool → Nat → xTI → xTL → Prop} {G : XG} {l : Launch} {p : Program} {e : Env} {s : State} {m : MethodId} {below : List Frame} {meth : Method} {c : Code} {b Lc q : Nat} {xs : Nat → Int32} (E : xLE G p s m meth c b Lc xs) (hs : xs_says Rel) {x3 : Int32} (hin : ∀ j : Int32, 1 ≤ j → j ≤ 4 → vp_in (x3 + j) Lc) (hq : q < 512) (hk : xHk Rel G l p e s m below meth c b q x3) {kp : Bool} {I : xTI} {L : xTL} (hRel : Rel kp q I L) {H : Heap} {locs : List Loc} {ls : Array Slot} (hR : xRep G kp I L H) (hS : va_S (xfr G) s.heap H locs) (hl : lv_has ls 4 [(0, .ref b), (1, .ref (xz G + 0)), (2, .ref (xz G + 57)), (3, .int x3)]) : W p l e room_1 s m #[Value.ref b] below meth c H locs (xK kp) (xSl kp) (lw_Z below #[Value.ref b] s) (F0 m 987 ls []) := by
  obtain ⟨r, I1, I2, L2, h1, h2, hRel2⟩ := hs kp q I L (xs (x3 + 1).toNatClampNeg) (xs (x3 + 2).toNatClampNeg) hq hRel
  refine lv_aload_n E.1.1 E.1.2.1 dL_law_987 rfl (lv_at hl 1 rfl) ?_
  refine lv_aload_n E.1.1 E.1.2.1 dL_law_988 rfl (lv_at hl 0 rfl) ?_
  refine lv_iload_n E.1.1 E.1.2.1 dL_law_989 rfl (lv_at hl 3 rfl) ?_
  refine lv_iconst (v := 1) E.1.1 E.1.2.1 dL_law_990 (by decide) ?_
  refine lv_iadd E.1.1 E.1.2.1 dL_law_991 ?_
  refine va_sld E.1.1 E.1.2.1 E.2.1 E.2.2.1 E.2.2.2.1 hS (hin 1 (by decide) (by decide)) dL_law_992 ?_
  refine lv_aload_n E.1.1 E.1.2.1 dL_law_993 rfl (lv_at hl 0 rfl) ?_
  refine lv_iload_n E.1.1 E.1.2.1 dL_law_994 rfl (lv_at hl 3 rfl) ?_
  refine lv_iconst (v := 2) E.1.1 E.1.2.1 dL_law_995 (by decide) ?_
  refine lv_iadd E.1.1 E.1.2.1 dL_law_996 ?_
  refine va_sld E.1.1 E.1.2.1 E.2.1 E.2.2.1 E.2.2.2.1 hS (hin 2 (by decide) (by decide)) dL_law_997 ?_
  refine y_cv (rest := []) E.1 xy_X10_says tw_813 (M_X10_says G l kp xN h1) ⟨Nat.le_of_ble_eq_true rfl, Nat.le_of_ble_eq_true rfl⟩ (xce_0 G kp _ _) rfl rfl rfl (Nat.le_of_ble_eq_true rfl) hl.1 hR hS (Nat.le_of_eq E.2.2.2.2.1) dL_law_998 (xSl_ok kp) (fun H locs hR hS => ?_)
  refine lv_aload_n E.1.1 E.1.2.1 dL_law_1001 rfl (lv_at hl 2 rfl) ?_
  refine lv_aload_n E.1.1 E.1.2.1 dL_law_1002 rfl (lv_at hl 0 rfl) ?_
  refine lv_iload_n E.1.1 E.1.2.1 dL_law_1003 rfl (lv_at hl 3 rfl) ?_
  refine lv_iconst (v := 1) E.1.1 E.1.2.1 dL_law_1004 (by decide) ?_
  refine lv_iadd E.1.1 E.1.2.1 dL_law_1005 ?_
  refine va_sld E.1.1 E.1.2.1 E.2.1 E.2.2.1 E.2.2.2.1 hS (hin 1 (by decide) (by decide)) dL_law_1006 ?_
  refine lv_aload_n E.1.1 E.1.2.1 dL_law_1007 rfl (lv_at hl 0 rfl) ?_
  refine lv_iload_n E.1.1 E.1.2.1 dL_law_1008 rfl (lv_at hl 3 rfl) ?_
  refine lv_iconst (v := 2) E.1.1 E.1.2.1 dL_law_1009 (by decide) ?_
  refine lv_iadd E.1.1 E.1.2.1 dL_law_1010 ?_
  refine va_sld E.1.1 E.1.2.1 E.2.1 E.2.2.1 E.2.2.2.1 hS (hin 2 (by decide) (by decide)) dL_law_1011 ?_
  refine y_cv (rest := [.int r]) E.1 xy_X11_says tw_1599 (M_X11_says G l kp xN h2) ⟨Nat.le_of_ble_eq_true rfl, Nat.le_of_ble_eq_true rfl⟩ (xce_57 G kp _ _) rfl rfl rfl (Nat.le_of_ble_eq_true rfl) hl.1 hR hS (Nat.le_of_eq E.2.2.2.2.1) dL_law_1012 (xSl_ok kp) (fun H locs hR hS => ?_)
  refine lv_icmp_eq (x := r) (y := r) (tgt := 1582) E.1.1 E.1.2.1 dL_law_1015 (by decide) (fun _ => ?_) (fun h => absurd rfl h)
  exact hk kp _ _ hRel2 _ _ _ hR hS hl
set_option maxRecDepth 20000 in
theorem law_why {Rel : Bool → Nat → xTI → xTL → Prop} {G : XG} {l : Launch} {p : Program} {e : Env} {s : State} {m : MethodId} {below : List Frame} {meth : Method} {c : Code} {b Lc q : Nat} {xs : Nat → Int32} (E : xLE G p s m meth c b Lc xs) (hs : xs_why Rel) {x3 : Int32} (hin : ∀ j : Int32, 1 ≤ j → j ≤ 4 → vp_in (x3 + j) Lc) (hq : q < 512) (hk : xHk Rel G l p e s m below meth c b q x3) {kp : Bool} {I : xTI} {L : xTL} (hRel : Rel kp q I L) {H : Heap} {locs : List Loc} {ls : Array Slot} (hR : xRep G kp I L H) (hS : va_S (xfr G) s.heap H locs) (hl : lv_has ls 4 [(0, .ref b), (1, .ref (xz G + 0)), (2, .ref (xz G + 57)), (3, .int x3)]) : W p l e room_1 s m #[Value.ref b] below meth c H locs (xK kp) (xSl kp) (lw_Z below #[Value.ref b] s) (F0 m 1020 ls []) := by
  obtain ⟨r, I1, I2, L2, h1, h2, hRel2⟩ := hs kp q I L (xs (x3 + 1).toNatClampNeg) (xs (x3 + 2).toNatClampNeg) hq hRel
  refine lv_aload_n E.1.1 E.1.2.1 dL_law_1020 rfl (lv_at hl 1 rfl) ?_
  refine lv_aload_n E.1.1 E.1.2.1 dL_law_1021 rfl (lv_at hl 0 rfl) ?_
  refine lv_iload_n E.1.1 E.1.2.1 dL_law_1022 rfl (lv_at hl 3 rfl) ?_
  refine lv_iconst (v := 1) E.1.1 E.1.2.1 dL_law_1023 (by decide) ?_
  refine lv_iadd E.1.1 E.1.2.1 dL_law_1024 ?_
  refine va_sld E.1.1 E.1.2.1 E.2.1 E.2.2.1 E.2.2.2.1 hS (hin 1 (by decide) (by decide)) dL_law_1025 ?_
  refine lv_aload_n E.1.1 E.1.2.1 dL_law_1026 rfl (lv_at hl 0 rfl) ?_
  refine lv_iload_n E.1.1 E.1.2.1 dL_law_1027 rfl (lv_at hl 3 rfl) ?_
  refine lv_iconst (v := 2) E.1.1 E.1.2.1 dL_law_1028 (by decide) ?_
  refine lv_iadd E.1.1 E.1.2.1 dL_law_1029 ?_
  refine va_sld E.1.1 E.1.2.1 E.2.1 E.2.2.1 E.2.2.2.1 hS (hin 2 (by decide) (by decide)) dL_law_1030 ?_
  refine y_cv (rest := []) E.1 xy_X10_why tw_829 (M_X10_why G l kp xN h1) ⟨Nat.le_of_ble_eq_true rfl, Nat.le_of_ble_eq_true rfl⟩ (xce_0 G kp _ _) rfl rfl rfl (Nat.le_of_ble_eq_true rfl) hl.1 hR hS (Nat.le_of_eq E.2.2.2.2.1) dL_law_1031 (xSl_ok kp) (fun H locs hR hS => ?_)
  refine lv_aload_n E.1.1 E.1.2.1 dL_law_1034 rfl (lv_at hl 2 rfl) ?_
  refine lv_aload_n E.1.1 E.1.2.1 dL_law_1035 rfl (lv_at hl 0 rfl) ?_
  refine lv_iload_n E.1.1 E.1.2.1 dL_law_1036 rfl (lv_at hl 3 rfl) ?_
  refine lv_iconst (v := 1) E.1.1 E.1.2.1 dL_law_1037 (by decide) ?_
  refine lv_iadd E.1.1 E.1.2.1 dL_law_1038 ?_
  refine va_sld E.1.1 E.1.2.1 E.2.1 E.2.2.1 E.2.2.2.1 hS (hin 1 (by decide) (by decide)) dL_law_1039 ?_
  refine lv_aload_n E.1.1 E.1.2.1 dL_law_1040 rfl (lv_at hl 0 rfl) ?_
  refine lv_iload_n E.1.1 E.1.2.1 dL_law_1041 rfl (lv_at hl 3 rfl) ?_
  refine lv_iconst (v := 2) E.1.1 E.1.2.1 dL_law_1042 (by decide) ?_
  refine lv_iadd E.1.1 E.1.2.1 dL_law_1043 ?_
  refine va_sld E.1.1 E.1.2.1 E.2.1 E.2.2.1 E.2.2.2.1 hS (hin 2 (by decide) (by decide)) dL_law_1044 ?_
  refine y_cv (rest := [.int r]) E.1 xy_X11_why tw_1610 (M_X11_why G l kp xN h2) ⟨Nat.le_of_ble_eq_true rfl, Nat.le_of_ble_eq_true rfl⟩ (xce_57 G kp _ _) rfl rfl rfl (Nat.le_of_ble_eq_true rfl) hl.1 hR hS (Nat.le_of_eq E.2.2.2.2.1) dL_law_1045 (xSl_ok kp) (fun H locs hR hS => ?_)
  refine lv_icmp_eq (x := r) (y := r) (tgt := 1582) E.1.1 E.1.2.1 dL_law_1048 (by decide) (fun _ => ?_) (fun h => absurd rfl h)
  exact hk kp _ _ hRel2 _ _ _ hR hS hl
set_option maxRecDepth 20000 in
theorem law_run {Rel : Bool → Nat → xTI → xTL → Prop} {G : XG} {l : Launch} {p : Program} {e : Env} {s : State} {m : MethodId} {below : List Frame} {meth : Method} {c : Code} {b Lc q : Nat} {xs : Nat → Int32} (E : xLE G p s m meth c b Lc xs) (hs : xs_run Rel) {x3 : Int32} (hin : ∀ j : Int32, 1 ≤ j → j ≤ 4 → vp_in (x3 + j) Lc) (hq : q < 512) (hk : xHk Rel G l p e s m below meth c b q x3) {kp : Bool} {I : xTI} {L : xTL} (hRel : Rel kp q I L) {H : Heap} {locs : List Loc} {ls : Array Slot} (hR : xRep G kp I L H) (hS : va_S (xfr G) s.heap H locs) (hl : lv_has ls 4 [(0, .ref b), (1, .ref (xz G + 0)), (2, .ref (xz G + 57)), (3, .int x3)]) : W p l e room_1 s m #[Value.ref b] below meth c H locs (xK kp) (xSl kp) (lw_Z below #[Value.ref b] s) (F0 m 1053 ls []) := by
  obtain ⟨r, I1, L1, I2, L2, h1, h2, hRel2⟩ := hs kp q I L (xs (x3 + 1).toNatClampNeg) hq hRel
  refine lv_aload_n E.1.1 E.1.2.1 dL_law_1053 rfl (lv_at hl 1 rfl) ?_
  refine lv_aload_n E.1.1 E.1.2.1 dL_law_1054 rfl (lv_at hl 0 rfl) ?_
  refine lv_iload_n E.1.1 E.1.2.1 dL_law_1055 rfl (lv_at hl 3 rfl) ?_
  refine lv_iconst (v := 1) E.1.1 E.1.2.1 dL_law_1056 (by decide) ?_
  refine lv_iadd E.1.1 E.1.2.1 dL_law_1057 ?_
  refine va_sld E.1.1 E.1.2.1 E.2.1 E.2.2.1 E.2.2.2.1 hS (hin 1 (by decide) (by decide)) dL_law_1058 ?_
  refine y_cv (rest := []) E.1 xy_X10_run tw_834 (M_X10_run G l kp xN h1) ⟨Nat.le_of_ble_eq_true rfl, Nat.le_of_ble_eq_true rfl⟩ (xce_0 G kp _ _) rfl rfl rfl (Nat.le_of_ble_eq_true rfl) hl.1 hR hS (Nat.le_of_eq E.2.2.2.2.1) dL_law_1059 (xSl_ok kp) (fun H locs hR hS => ?_)
  refine lv_aload_n E.1.1 E.1.2.1 dL_law_1062 rfl (lv_at hl 2 rfl) ?_
  refine lv_aload_n E.1.1 E.1.2.1 dL_law_1063 rfl (lv_at hl 0 rfl) ?_
  refine lv_iload_n E.1.1 E.1.2.1 dL_law_1064 rfl (lv_at hl 3 rfl) ?_
  refine lv_iconst (v := 1) E.1.1 E.1.2.1 dL_law_1065 (by decide) ?_
  refine lv_iadd E.1.1 E.1.2.1 dL_law_1066 ?_
  refine va_sld E.1.1 E.1.2.1 E.2.1 E.2.2.1 E.2.2.2.1 hS (hin 1 (by decide) (by decide)) dL_law_1067 ?_
  refine y_cv (rest := [.int r]) E.1 xy_X11_run tw_1614 (M_X11_run G l kp xN h2) ⟨Nat.le_of_ble_eq_true rfl, Nat.le_of_ble_eq_true rfl⟩ (xce_57 G kp _ _) rfl rfl rfl (Nat.le_of_ble_eq_true rfl) hl.1 hR hS (Nat.le_of_eq E.2.2.2.2.1) dL_law_1068 (xSl_ok kp) (fun H locs hR hS => ?_)
  refine lv_icmp_eq (x := r) (y := r) (tgt := 1582) E.1.1 E.1.2.1 dL_law_1071 (by decide) (fun _ => ?_) (fun h => absurd rfl h)
  exact hk kp _ _ hRel2 _ _ _ hR hS hl
set_option maxRecDepth 20000 in
theorem law_pass {Rel : Bool → Nat → xTI → xTL → Prop} {G : XG} {l : Launch} {p : Program} {e : Env} {s : State} {m : MethodId} {below : List Frame} {meth : Method} {c : Code} {b Lc q : Nat} {xs : Nat → Int32} (E : xLE G p s m meth c b Lc xs) (hs : xs_pass Rel) {x3 : Int32} (hin : ∀ j : Int32, 1 ≤ j → j ≤ 4 → vp_in (x3 + j) Lc) (hq : q < 512) (hk : xHk Rel G l p e s m below meth c b q x3) {kp : Bool} {I : xTI} {L : xTL} (hRel : Rel kp q I L) {H : Heap} {locs : List Loc} {ls : Array Slot} (hR : xRep G kp I L H) (hS : va_S (xfr G) s.heap H locs) (hl : lv_has ls 4 [(0, .ref b), (1, .ref (xz G + 0)), (2, .ref (xz G + 57)), (3, .int x3)]) : W p l e room_1 s m #[Value.ref b] below meth c H locs (xK kp) (xSl kp) (lw_Z below #[Value.ref b] s) (F0 m 1076 ls []) := by
  obtain ⟨r, I1, I2, h1, h2, hRel2⟩ := hs kp q I L (xs (x3 + 1).toNatClampNeg) (xs (x3 + 2).toNatClampNeg) hq hRel
  refine lv_aload_n E.1.1 E.1.2.1 dL_law_1076 rfl (lv_at hl 1 rfl) ?_
  refine lv_aload_n E.1.1 E.1.2.1 dL_law_1077 rfl (lv_at hl 0 rfl) ?_
  refine lv_iload_n E.1.1 E.1.2.1 dL_law_1078 rfl (lv_at hl 3 rfl) ?_
  refine lv_iconst (v := 1) E.1.1 E.1.2.1 dL_law_1079 (by decide) ?_
  refine lv_iadd E.1.1 E.1.2.1 dL_law_1080 ?_
  refine va_sld E.1.1 E.1.2.1 E.2.1 E.2.2.1 E.2.2.2.1 hS (hin 1 (by decide) (by decide)) dL_law_1081 ?_
  refine lv_aload_n E.1.1 E.1.2.1 dL_law_1082 rfl (lv_at hl 0 rfl) ?_
  refine lv_iload_n E.1.1 E.1.2.1 dL_law_1083 rfl (lv_at hl 3 rfl) ?_
  refine lv_iconst (v := 2) E.1.1 E.1.2.1 dL_law_1084 (by decide) ?_
  refine lv_iadd E.1.1 E.1.2.1 dL_law_1085 ?_
  refine va_sld E.1.1 E.1.2.1 E.2.1 E.2.2.1 E.2.2.2.1 hS (hin 2 (by decide) (by decide)) dL_law_1086 ?_
  refine y_cv (rest := []) E.1 xy_X10_pass tw_1014 (M_X10_pass G l kp h1) ⟨Nat.le_of_ble_eq_true rfl, Nat.le_of_ble_eq_true rfl⟩ (xce_0 G kp _ _) rfl rfl rfl (Nat.le_of_ble_eq_true rfl) hl.1 hR hS (Nat.le_of_eq E.2.2.2.2.1) dL_law_1087 (xSl_ok kp) (fun H locs hR hS => ?_)
  refine lv_aload_n E.1.1 E.1.2.1 dL_law_1090 rfl (lv_at hl 2 rfl) ?_
  refine lv_aload_n E.1.1 E.1.2.1 dL_law_1091 rfl (lv_at hl 0 rfl) ?_
  refine lv_iload_n E.1.1 E.1.2.1 dL_law_1092 rfl (lv_at hl 3 rfl) ?_
  refine lv_iconst (v := 1) E.1.1 E.1.2.1 dL_law_1093 (by decide) ?_
  refine lv_iadd E.1.1 E.1.2.1 dL_law_1094 ?_
  refine va_sld E.1.1 E.1.2.1 E.2.1 E.2.2.1 E.2.2.2.1 hS (hin 1 (by decide) (by decide)) dL_law_1095 ?_
  refine lv_aload_n E.1.1 E.1.2.1 dL_law_1096 rfl (lv_at hl 0 rfl) ?_
  refine lv_iload_n E.1.1 E.1.2.1 dL_law_1097 rfl (lv_at hl 3 rfl) ?_
  refine lv_iconst (v := 2) E.1.1 E.1.2.1 dL_law_1098 (by decide) ?_
  refine lv_iadd E.1.1 E.1.2.1 dL_law_1099 ?_
  refine va_sld E.1.1 E.1.2.1 E.2.1 E.2.2.1 E.2.2.2.1 hS (hin 2 (by decide) (by decide)) dL_law_1100 ?_
  refine y_cv (rest := [.int r]) E.1 xy_X11_pass tw_1678 (M_X11_pass G l kp h2) ⟨Nat.le_of_ble_eq_true rfl, Nat.le_of_ble_eq_true rfl⟩ (xce_57 G kp _ _) rfl rfl rfl (Nat.le_of_ble_eq_true rfl) hl.1 hR hS (Nat.le_of_eq E.2.2.2.2.1) dL_law_1101 (xSl_ok kp) (fun H locs hR hS => ?_)
  refine lv_icmp_eq (x := r) (y := r) (tgt := 1582) E.1.1 E.1.2.1 dL_law_1104 (by decide) (fun _ => ?_) (fun h => absurd rfl h)
  exact hk kp _ _ hRel2 _ _ _ hR hS hl
set_option maxRecDepth 20000 in
theorem law_delivery {Rel : Bool → Nat → xTI → xTL → Prop} {G : XG} {l : Launch} {p : Program} {e : Env} {s : State} {m : MethodId} {below : List Frame} {meth : Method} {c : Code} {b Lc q : Nat} {xs : Nat → Int32} (E : xLE G p s m meth c b Lc xs) (hs : xs_delivery Rel) {x3 : Int32} (hin : ∀ j : Int32, 1 ≤ j → j ≤ 4 → vp_in (x3 + j) Lc) (hq : q < 512) (hk : xHk Rel G l p e s m below meth c b q x3) {kp : Bool} {I : xTI} {L : xTL} (hRel : Rel kp q I L) {H : Heap} {locs : List Loc} {ls : Array Slot} (hR : xRep G kp I L H) (hS : va_S (xfr G) s.heap H locs) (hl : lv_has ls 4 [(0, .ref b), (1, .ref (xz G + 0)), (2, .ref (xz G + 57)), (3, .int x3)]) : W p l e room_1 s m #[Value.ref b] below meth c H locs (xK kp) (xSl kp) (lw_Z below #[Value.ref b] s) (F0 m 1109 ls []) := by
  obtain ⟨r, I1, I2, h1, h2, hRel2⟩ := hs kp q I L (xs (x3 + 1).toNatClampNeg) (xs (x3 + 2).toNatClampNeg) hq hRel
  refine lv_aload_n E.1.1 E.1.2.1 dL_law_1109 rfl (lv_at hl 1 rfl) ?_
  refine lv_aload_n E.1.1 E.1.2.1 dL_law_1110 rfl (lv_at hl 0 rfl) ?_
  refine lv_iload_n E.1.1 E.1.2.1 dL_law_1111 rfl (lv_at hl 3 rfl) ?_
  refine lv_iconst (v := 1) E.1.1 E.1.2.1 dL_law_1112 (by decide) ?_
  refine lv_iadd E.1.1 E.1.2.1 dL_law_1113 ?_
  refine va_sld E.1.1 E.1.2.1 E.2.1 E.2.2.1 E.2.2.2.1 hS (hin 1 (by decide) (by decide)) dL_law_1114 ?_
  refine lv_aload_n E.1.1 E.1.2.1 dL_law_1115 rfl (lv_at hl 0 rfl) ?_
  refine lv_iload_n E.1.1 E.1.2.1 dL_law_1116 rfl (lv_at hl 3 rfl) ?_
  refine lv_iconst (v := 2) E.1.1 E.1.2.1 dL_law_1117 (by decide) ?_
  refine lv_iadd E.1.1 E.1.2.1 dL_law_1118 ?_
  refine va_sld E.1.1 E.1.2.1 E.2.1 E.2.2.1 E.2.2.2.1 hS (hin 2 (by decide) (by decide)) dL_law_1119 ?_
  refine y_cv (rest := []) E.1 xy_X10_delivery tw_1018 (M_X10_delivery G l kp h1) ⟨Nat.le_of_ble_eq_true rfl, Nat.le_of_ble_eq_true rfl⟩ (xce_0 G kp _ _) rfl rfl rfl (Nat.le_of_ble_eq_true rfl) hl.1 hR hS (Nat.le_of_eq E.2.2.2.2.1) dL_law_1120 (xSl_ok kp) (fun H locs hR hS => ?_)
  refine lv_aload_n E.1.1 E.1.2.1 dL_law_1123 rfl (lv_at hl 2 rfl) ?_
  refine lv_aload_n E.1.1 E.1.2.1 dL_law_1124 rfl (lv_at hl 0 rfl) ?_
  refine lv_iload_n E.1.1 E.1.2.1 dL_law_1125 rfl (lv_at hl 3 rfl) ?_
  refine lv_iconst (v := 1) E.1.1 E.1.2.1 dL_law_1126 (by decide) ?_
  refine lv_iadd E.1.1 E.1.2.1 dL_law_1127 ?_
  refine va_sld E.1.1 E.1.2.1 E.2.1 E.2.2.1 E.2.2.2.1 hS (hin 1 (by decide) (by decide)) dL_law_1128 ?_
  refine lv_aload_n E.1.1 E.1.2.1 dL_law_1129 rfl (lv_at hl 0 rfl) ?_
  refine lv_iload_n E.1.1 E.1.2.1 dL_law_1130 rfl (lv_at hl 3 rfl) ?_
  refine lv_iconst (v := 2) E.1.1 E.1.2.1 dL_law_1131 (by decide) ?_
  refine lv_iadd E.1.1 E.1.2.1 dL_law_1132 ?_
  refine va_sld E.1.1 E.1.2.1 E.2.1 E.2.2.1 E.2.2.2.1 hS (hin 2 (by decide) (by decide)) dL_law_1133 ?_
  refine y_cv (rest := [.int r]) E.1 xy_X11_delivery tw_1682 (M_X11_delivery G l kp h2) ⟨Nat.le_of_ble_eq_true rfl, Nat.le_of_ble_eq_true rfl⟩ (xce_57 G kp _ _) rfl rfl rfl (Nat.le_of_ble_eq_true rfl) hl.1 hR hS (Nat.le_of_eq E.2.2.2.2.1) dL_law_1134 (xSl_ok kp) (fun H locs hR hS => ?_)
  refine lv_icmp_eq (x := r) (y := r) (tgt := 1582) E.1.1 E.1.2.1 dL_law_1137 (by decide) (fun _ => ?_) (fun h => absurd rfl h)
  exact hk kp _ _ hRel2 _ _ _ hR hS hl
set_option maxRecDepth 20000 in
theorem law_settled {Rel : Bool → Nat → xTI → xTL → Prop} {G : XG} {l : Launch} {p : Program} {e : Env} {s : State} {m : MethodId} {below : List Frame} {meth : Method} {c : Code} {b Lc q : Nat} {xs : Nat → Int32} (E : xLE G p s m meth c b Lc xs) (hs : xs_settled Rel) {x3 : Int32} (hin : ∀ j : Int32, 1 ≤ j → j ≤ 4 → vp_in (x3 + j) Lc) (hq : q < 512) (hk : xHk Rel G l p e s m below meth c b q x3) {kp : Bool} {I : xTI} {L : xTL} (hRel : Rel kp q I L) {H : Heap} {locs : List Loc} {ls : Array Slot} (hR : xRep G kp I L H) (hS : va_S (xfr G) s.heap H locs) (hl : lv_has ls 4 [(0, .ref b), (1, .ref (xz G + 0)), (2, .ref (xz G + 57)), (3, .int x3)]) : W p l e room_1 s m #[Value.ref b] below meth c H locs (xK kp) (xSl kp) (lw_Z below #[Value.ref b] s) (F0 m 1142 ls []) := by
  obtain ⟨r, I1, I2, h1, h2, hRel2⟩ := hs kp q I L (xs (x3 + 1).toNatClampNeg) (xs (x3 + 2).toNatClampNeg) hq hRel
  refine lv_aload_n E.1.1 E.1.2.1 dL_law_1142 rfl (lv_at hl 1 rfl) ?_
  refine lv_aload_n E.1.1 E.1.2.1 dL_law_1143 rfl (lv_at hl 0 rfl) ?_
  refine lv_iload_n E.1.1 E.1.2.1 dL_law_1144 rfl (lv_at hl 3 rfl) ?_
  refine lv_iconst (v := 1) E.1.1 E.1.2.1 dL_law_1145 (by decide) ?_
  refine lv_iadd E.1.1 E.1.2.1 dL_law_1146 ?_
  refine va_sld E.1.1 E.1.2.1 E.2.1 E.2.2.1 E.2.2.2.1 hS (hin 1 (by decide) (by decide)) dL_law_1147 ?_
  refine lv_aload_n E.1.1 E.1.2.1 dL_law_1148 rfl (lv_at hl 0 rfl) ?_
  refine lv_iload_n E.1.1 E.1.2.1 dL_law_1149 rfl (lv_at hl 3 rfl) ?_
  refine lv_iconst (v := 2) E.1.1 E.1.2.1 dL_law_1150 (by decide) ?_
  refine lv_iadd E.1.1 E.1.2.1 dL_law_1151 ?_
  refine va_sld E.1.1 E.1.2.1 E.2.1 E.2.2.1 E.2.2.2.1 hS (hin 2 (by decide) (by decide)) dL_law_1152 ?_
  refine y_cv (rest := []) E.1 xy_X10_settled tw_1022 (M_X10_settled G l kp h1) ⟨Nat.le_of_ble_eq_true rfl, Nat.le_of_ble_eq_true rfl⟩ (xce_0 G kp _ _) rfl rfl rfl (Nat.le_of_ble_eq_true rfl) hl.1 hR hS (Nat.le_of_eq E.2.2.2.2.1) dL_law_1153 (xSl_ok kp) (fun H locs hR hS => ?_)
  refine lv_aload_n E.1.1 E.1.2.1 dL_law_1156 rfl (lv_at hl 2 rfl) ?_
  refine lv_aload_n E.1.1 E.1.2.1 dL_law_1157 rfl (lv_at hl 0 rfl) ?_
  refine lv_iload_n E.1.1 E.1.2.1 dL_law_1158 rfl (lv_at hl 3 rfl) ?_
  refine lv_iconst (v := 1) E.1.1 E.1.2.1 dL_law_1159 (by decide) ?_
  refine lv_iadd E.1.1 E.1.2.1 dL_law_1160 ?_
  refine va_sld E.1.1 E.1.2.1 E.2.1 E.2.2.1 E.2.2.2.1 hS (hin 1 (by decide) (by decide)) dL_law_1161 ?_
  refine lv_aload_n E.1.1 E.1.2.1 dL_law_1162 rfl (lv_at hl 0 rfl) ?_
  refine lv_iload_n E.1.1 E.1.2.1 dL_law_1163 rfl (lv_at hl 3 rfl) ?_
  refine lv_iconst (v := 2) E.1.1 E.1.2.1 dL_law_1164 (by decide) ?_
  refine lv_iadd E.1.1 E.1.2.1 dL_law_1165 ?_
  refine va_sld E.1.1 E.1.2.1 E.2.1 E.2.2.1 E.2.2.2.1 hS (hin 2 (by decide) (by decide)) dL_law_1166 ?_
  refine y_cv (rest := [.long r]) E.1 xy_X11_settled tw_1686 (M_X11_settled G l kp h2) ⟨Nat.le_of_ble_eq_true rfl, Nat.le_of_ble_eq_true rfl⟩ (xce_57 G kp _ _) rfl rfl rfl (Nat.le_of_ble_eq_true rfl) hl.1 hR hS (Nat.le_of_eq E.2.2.2.2.1) dL_law_1167 (xSl_ok kp) (fun H locs hR hS => ?_)
  refine W.lcmp E.1.1 E.1.2.1 dL_law_1170 ?_
  refine lv_if_eq (tgt := 1582) E.1.1 E.1.2.1 dL_law_1171 (by decide) (fun _ => ?_) (fun h => absurd (xlg_self r) h)
  exact hk kp _ _ hRel2 _ _ _ hR hS hl
set_option maxRecDepth 20000 in
theorem law_least {Rel : Bool → Nat → xTI → xTL → Prop} {G : XG} {l : Launch} {p : Program} {e : Env} {s : State} {m : MethodId} {below : List Frame} {meth : Method} {c : Code} {b Lc q : Nat} {xs : Nat → Int32} (E : xLE G p s m meth c b Lc xs) (hs : xs_least Rel) {x3 : Int32} (hin : ∀ j : Int32, 1 ≤ j → j ≤ 4 → vp_in (x3 + j) Lc) (hq : q < 512) (hk : xHk Rel G l p e s m below meth c b q x3) {kp : Bool} {I : xTI} {L : xTL} (hRel : Rel kp q I L) {H : Heap} {locs : List Loc} {ls : Array Slot} (hR : xRep G kp I L H) (hS : va_S (xfr G) s.heap H locs) (hl : lv_has ls 4 [(0, .ref b), (1, .ref (xz G + 0)), (2, .ref (xz G + 57)), (3, .int x3)]) : W p l e room_1 s m #[Value.ref b] below meth c H locs (xK kp) (xSl kp) (lw_Z below #[Value.ref b] s) (F0 m 1176 ls []) := by
  obtain ⟨r, I1, I2, h1, h2, hRel2⟩ := hs kp q I L (xs (x3 + 1).toNatClampNeg) (xs (x3 + 2).toNatClampNeg) hq hRel
  refine lv_aload_n E.1.1 E.1.2.1 dL_law_1176 rfl (lv_at hl 1 rfl) ?_
  refine lv_aload_n E.1.1 E.1.2.1 dL_law_1177 rfl (lv_at hl 0 rfl) ?_
  refine lv_iload_n E.1.1 E.1.2.1 dL_law_1178 rfl (lv_at hl 3 rfl) ?_
  refine lv_iconst (v := 1) E.1.1 E.1.2.1 dL_law_1179 (by decide) ?_
  refine lv_iadd E.1.1 E.1.2.1 dL_law_1180 ?_
  refine va_sld E.1.1 E.1.2.1 E.2.1 E.2.2.1 E.2.2.2.1 hS (hin 1 (by decide) (by decide)) dL_law_1181 ?_
  refine lv_aload_n E.1.1 E.1.2.1 dL_law_1182 rfl (lv_at hl 0 rfl) ?_
  refine lv_iload_n E.1.1 E.1.2.1 dL_law_1183 rfl (lv_at hl 3 rfl) ?_
  refine lv_iconst (v := 2) E.1.1 E.1.2.1 dL_law_1184 (by decide) ?_
  refine lv_iadd E.1.1 E.1.2.1 dL_law_1185 ?_
  refine va_sld E.1.1 E.1.2.1 E.2.1 E.2.2.1 E.2.2.2.1 hS (hin 2 (by decide) (by decide)) dL_law_1186 ?_
  refine y_cv (rest := []) E.1 xy_X10_least tw_1026 (M_X10_least G l kp xN h1) ⟨Nat.le_of_ble_eq_true rfl, Nat.le_of_ble_eq_true rfl⟩ (xce_0 G kp _ _) rfl rfl rfl (Nat.le_of_ble_eq_true rfl) hl.1 hR hS (Nat.le_of_eq E.2.2.2.2.1) dL_law_1187 (xSl_ok kp) (fun H locs hR hS => ?_)
  refine lv_aload_n E.1.1 E.1.2.1 dL_law_1190 rfl (lv_at hl 2 rfl) ?_
  refine lv_aload_n E.1.1 E.1.2.1 dL_law_1191 rfl (lv_at hl 0 rfl) ?_
  refine lv_iload_n E.1.1 E.1.2.1 dL_law_1192 rfl (lv_at hl 3 rfl) ?_
  refine lv_iconst (v := 1) E.1.1 E.1.2.1 dL_law_1193 (by decide) ?_
  refine lv_iadd E.1.1 E.1.2.1 dL_law_1194 ?_
  refine va_sld E.1.1 E.1.2.1 E.2.1 E.2.2.1 E.2.2.2.1 hS (hin 1 (by decide) (by decide)) dL_law_1195 ?_
  refine lv_aload_n E.1.1 E.1.2.1 dL_law_1196 rfl (lv_at hl 0 rfl) ?_
  refine lv_iload_n E.1.1 E.1.2.1 dL_law_1197 rfl (lv_at hl 3 rfl) ?_
  refine lv_iconst (v := 2) E.1.1 E.1.2.1 dL_law_1198 (by decide) ?_
  refine lv_iadd E.1.1 E.1.2.1 dL_law_1199 ?_
  refine va_sld E.1.1 E.1.2.1 E.2.1 E.2.2.1 E.2.2.2.1 hS (hin 2 (by decide) (by decide)) dL_law_1200 ?_
  refine y_cv (rest := [.int r]) E.1 xy_X11_least tw_1690 (M_X11_least G l kp xN h2) ⟨Nat.le_of_ble_eq_true rfl, Nat.le_of_ble_eq_true rfl⟩ (xce_57 G kp _ _) rfl rfl rfl (Nat.le_of_ble_eq_true rfl) hl.1 hR hS (Nat.le_of_eq E.2.2.2.2.1) dL_law_1201 (xSl_ok kp) (fun H locs hR hS => ?_)
  refine lv_icmp_eq (x := r) (y := r) (tgt := 1582) E.1.1 E.1.2.1 dL_law_1204 (by decide) (fun _ => ?_) (fun h => absurd rfl h)
  exact hk kp _ _ hRel2 _ _ _ hR hS hl
set_option maxRecDepth 20000 in
theorem law_judge {Rel : Bool → Nat → xTI → xTL → Prop} {G : XG} {l : Launch} {p : Program} {e : Env} {s : State} {m : MethodId} {below : List Frame} {meth : Method} {c : Code} {b Lc q : Nat} {xs : Nat → Int32} (E : xLE G p s m meth c b Lc xs) (hs : xs_judge Rel) {x3 : Int32} (hin : ∀ j : Int32, 1 ≤ j → j ≤ 4 → vp_in (x3 + j) Lc) (hq : q < 512) (hk : xHk Rel G l p e s m below meth c b q x3) {kp : Bool} {I : xTI} {L : xTL} (hRel : Rel kp q I L) {H : Heap} {locs : List Loc} {ls : Array Slot} (hR : xRep G kp I L H) (hS : va_S (xfr G) s.heap H locs) (hl : lv_has ls 4 [(0, .ref b), (1, .ref (xz G + 0)), (2, .ref (xz G + 57)), (3, .int x3)]) : W p l e room_1 s m #[Value.ref b] below meth c H locs (xK kp) (xSl kp) (lw_Z below #[Value.ref b] s) (F0 m 1209 ls []) := by
  obtain ⟨r, I1, L1, I2, h1, h2, hRel2⟩ := hs kp q I L (xs (x3 + 1).toNatClampNeg) (xs (x3 + 2).toNatClampNeg) hq hRel
  refine lv_aload_n E.1.1 E.1.2.1 dL_law_1209 rfl (lv_at hl 1 rfl) ?_
  refine lv_aload_n E.1.1 E.1.2.1 dL_law_1210 rfl (lv_at hl 0 rfl) ?_
  refine lv_iload_n E.1.1 E.1.2.1 dL_law_1211 rfl (lv_at hl 3 rfl) ?_
  refine lv_iconst (v := 1) E.1.1 E.1.2.1 dL_law_1212 (by decide) ?_
  refine lv_iadd E.1.1 E.1.2.1 dL_law_1213 ?_
  refine va_sld E.1.1 E.1.2.1 E.2.1 E.2.2.1 E.2.2.2.1 hS (hin 1 (by decide) (by decide)) dL_law_1214 ?_
  refine lv_aload_n E.1.1 E.1.2.1 dL_law_1215 rfl (lv_at hl 0 rfl) ?_
  refine lv_iload_n E.1.1 E.1.2.1 dL_law_1216 rfl (lv_at hl 3 rfl) ?_
  refine lv_iconst (v := 2) E.1.1 E.1.2.1 dL_law_1217 (by decide) ?_
  refine lv_iadd E.1.1 E.1.2.1 dL_law_1218 ?_
  refine va_sld E.1.1 E.1.2.1 E.2.1 E.2.2.1 E.2.2.2.1 hS (hin 2 (by decide) (by decide)) dL_law_1219 ?_
  refine y_cv (rest := []) E.1 xy_X10_judge tw_1040 (M_X10_judge G l kp xN h1) ⟨Nat.le_of_ble_eq_true rfl, Nat.le_of_ble_eq_true rfl⟩ (xce_0 G kp _ _) rfl rfl rfl (Nat.le_of_ble_eq_true rfl) hl.1 hR hS (Nat.le_of_eq E.2.2.2.2.1) dL_law_1220 (xSl_ok kp) (fun H locs hR hS => ?_)
  refine lv_aload_n E.1.1 E.1.2.1 dL_law_1223 rfl (lv_at hl 2 rfl) ?_
  refine lv_aload_n E.1.1 E.1.2.1 dL_law_1224 rfl (lv_at hl 0 rfl) ?_
  refine lv_iload_n E.1.1 E.1.2.1 dL_law_1225 rfl (lv_at hl 3 rfl) ?_
  refine lv_iconst (v := 1) E.1.1 E.1.2.1 dL_law_1226 (by decide) ?_
  refine lv_iadd E.1.1 E.1.2.1 dL_law_1227 ?_
  refine va_sld E.1.1 E.1.2.1 E.2.1 E.2.2.1 E.2.2.2.1 hS (hin 1 (by decide) (by decide)) dL_law_1228 ?_
  refine lv_aload_n E.1.1 E.1.2.1 dL_law_1229 rfl (lv_at hl 0 rfl) ?_
  refine lv_iload_n E.1.1 E.1.2.1 dL_law_1230 rfl (lv_at hl 3 rfl) ?_
  refine lv_iconst (v := 2) E.1.1 E.1.2.1 dL_law_1231 (by decide) ?_
  refine lv_iadd E.1.1 E.1.2.1 dL_law_1232 ?_
  refine va_sld E.1.1 E.1.2.1 E.2.1 E.2.2.1 E.2.2.2.1 hS (hin 2 (by decide) (by decide)) dL_law_1233 ?_
  refine y_cv (rest := [.int r]) E.1 xy_X11_judge tw_1694 (M_X11_judge G l kp xN h2) ⟨Nat.le_of_ble_eq_true rfl, Nat.le_of_ble_eq_true rfl⟩ (xce_57 G kp _ _) rfl rfl rfl (Nat.le_of_ble_eq_true rfl) hl.1 hR hS (Nat.le_of_eq E.2.2.2.2.1) dL_law_1234 (xSl_ok kp) (fun H locs hR hS => ?_)
  refine lv_icmp_eq (x := r) (y := r) (tgt := 1582) E.1.1 E.1.2.1 dL_law_1237 (by decide) (fun _ => ?_) (fun h => absurd rfl h)
  exact hk kp _ _ hRel2 _ _ _ hR hS hl
set_option maxRecDepth 20000 in
theorem law_corner {Rel : Bool → Nat → xTI → xTL → Prop} {G : XG} {l : Launch} {p : Program} {e : Env} {s : State} {m : MethodId} {below : List Frame} {meth : Method} {c : Code} {b Lc q : Nat} {xs : Nat → Int32} (E : xLE G p s m meth c b Lc xs) (hs : xs_corner Rel) {x3 : Int32} (hin : ∀ j : Int32, 1 ≤ j → j ≤ 4 → vp_in (x3 + j) Lc) (hq : q < 512) (hk : xHk Rel G l p e s m below meth c b q x3) {kp : Bool} {I : xTI} {L : xTL} (hRel : Rel kp q I L) {H : Heap} {locs : List Loc} {ls : Array Slot} (hR : xRep G kp I L H) (hS : va_S (xfr G) s.heap H locs) (hl : lv_has ls 4 [(0, .ref b), (1, .ref (xz G + 0)), (2, .ref (xz G + 57)), (3, .int x3)]) : W p l e room_1 s m #[Value.ref b] below meth c H locs (xK kp) (xSl kp) (lw_Z below #[Value.ref b] s) (F0 m 1242 ls []) := by
  obtain ⟨r, I1, I2, h1, h2, hRel2⟩ := hs kp q I L (xs (x3 + 1).toNatClampNeg) (xs (x3 + 2).toNatClampNeg) (xs (x3 + 3).toNatClampNeg) hq hRel
  refine lv_aload_n E.1.1 E.1.2.1 dL_law_1242 rfl (lv_at hl 1 rfl) ?_
  refine lv_aload_n E.1.1 E.1.2.1 dL_law_1243 rfl (lv_at hl 0 rfl) ?_
  refine lv_iload_n E.1.1 E.1.2.1 dL_law_1244 rfl (lv_at hl 3 rfl) ?_
  refine lv_iconst (v := 1) E.1.1 E.1.2.1 dL_law_1245 (by decide) ?_
  refine lv_iadd E.1.1 E.1.2.1 dL_law_1246 ?_
  refine va_sld E.1.1 E.1.2.1 E.2.1 E.2.2.1 E.2.2.2.1 hS (hin 1 (by decide) (by decide)) dL_law_1247 ?_
  refine lv_aload_n E.1.1 E.1.2.1 dL_law_1248 rfl (lv_at hl 0 rfl) ?_
  refine lv_iload_n E.1.1 E.1.2.1 dL_law_1249 rfl (lv_at hl 3 rfl) ?_
  refine lv_iconst (v := 2) E.1.1 E.1.2.1 dL_law_1250 (by decide) ?_
  refine lv_iadd E.1.1 E.1.2.1 dL_law_1251 ?_
  refine va_sld E.1.1 E.1.2.1 E.2.1 E.2.2.1 E.2.2.2.1 hS (hin 2 (by decide) (by decide)) dL_law_1252 ?_
  refine lv_aload_n E.1.1 E.1.2.1 dL_law_1253 rfl (lv_at hl 0 rfl) ?_
  refine lv_iload_n E.1.1 E.1.2.1 dL_law_1254 rfl (lv_at hl 3 rfl) ?_
  refine lv_iconst (v := 3) E.1.1 E.1.2.1 dL_law_1255 (by decide) ?_
  refine lv_iadd E.1.1 E.1.2.1 dL_law_1256 ?_
  refine va_sld E.1.1 E.1.2.1 E.2.1 E.2.2.1 E.2.2.2.1 hS (hin 3 (by decide) (by decide)) dL_law_1257 ?_
  refine y_cv (rest := []) E.1 xy_X10_corner tw_1053 (M_X10_corner G l kp xN h1) ⟨Nat.le_of_ble_eq_true rfl, Nat.le_of_ble_eq_true rfl⟩ (xce_0 G kp _ _) rfl rfl rfl (Nat.le_of_ble_eq_true rfl) hl.1 hR hS (Nat.le_of_eq E.2.2.2.2.1) dL_law_1258 (xSl_ok kp) (fun H locs hR hS => ?_)
  refine lv_aload_n E.1.1 E.1.2.1 dL_law_1261 rfl (lv_at hl 2 rfl) ?_
  refine lv_aload_n E.1.1 E.1.2.1 dL_law_1262 rfl (lv_at hl 0 rfl) ?_
  refine lv_iload_n E.1.1 E.1.2.1 dL_law_1263 rfl (lv_at hl 3 rfl) ?_
  refine lv_iconst (v := 1) E.1.1 E.1.2.1 dL_law_1264 (by decide) ?_
  refine lv_iadd E.1.1 E.1.2.1 dL_law_1265 ?_
  refine va_sld E.1.1 E.1.2.1 E.2.1 E.2.2.1 E.2.2.2.1 hS (hin 1 (by decide) (by decide)) dL_law_1266 ?_
  refine lv_aload_n E.1.1 E.1.2.1 dL_law_1267 rfl (lv_at hl 0 rfl) ?_
  refine lv_iload_n E.1.1 E.1.2.1 dL_law_1268 rfl (lv_at hl 3 rfl) ?_
  refine lv_iconst (v := 2) E.1.1 E.1.2.1 dL_law_1269 (by decide) ?_
  refine lv_iadd E.1.1 E.1.2.1 dL_law_1270 ?_
  refine va_sld E.1.1 E.1.2.1 E.2.1 E.2.2.1 E.2.2.2.1 hS (hin 2 (by decide) (by decide)) dL_law_1271 ?_
  refine lv_aload_n E.1.1 E.1.2.1 dL_law_1272 rfl (lv_at hl 0 rfl) ?_
  refine lv_iload_n E.1.1 E.1.2.1 dL_law_1273 rfl (lv_at hl 3 rfl) ?_
  refine lv_iconst (v := 3) E.1.1 E.1.2.1 dL_law_1274 (by decide) ?_
  refine lv_iadd E.1.1 E.1.2.1 dL_law_1275 ?_
  refine va_sld E.1.1 E.1.2.1 E.2.1 E.2.2.1 E.2.2.2.1 hS (hin 3 (by decide) (by decide)) dL_law_1276 ?_
  refine y_cv (rest := [.int r]) E.1 xy_X11_corner tw_1698 (M_X11_corner G l kp xN h2) ⟨Nat.le_of_ble_eq_true rfl, Nat.le_of_ble_eq_true rfl⟩ (xce_57 G kp _ _) rfl rfl rfl (Nat.le_of_ble_eq_true rfl) hl.1 hR hS (Nat.le_of_eq E.2.2.2.2.1) dL_law_1277 (xSl_ok kp) (fun H locs hR hS => ?_)
  refine lv_icmp_eq (x := r) (y := r) (tgt := 1582) E.1.1 E.1.2.1 dL_law_1280 (by decide) (fun _ => ?_) (fun h => absurd rfl h)
  exact hk kp _ _ hRel2 _ _ _ hR hS hl
set_option maxRecDepth 20000 in
theorem law_squeeze {Rel : Bool → Nat → xTI → xTL → Prop} {G : XG} {l : Launch} {p : Program} {e : Env} {s : State} {m : MethodId} {below : List Frame} {meth : Method} {c : Code} {b Lc q : Nat} {xs : Nat → Int32} (E : xLE G p s m meth c b Lc xs) (hs : xs_squeeze Rel) {x3 : Int32} (hin : ∀ j : Int32, 1 ≤ j → j ≤ 4 → vp_in (x3 + j) Lc) (hq : q < 512) (hk : xHk Rel G l p e s m below meth c b q x3) {kp : Bool} {I : xTI} {L : xTL} (hRel : Rel kp q I L) {H : Heap} {locs : List Loc} {ls : Array Slot} (hR : xRep G kp I L H) (hS : va_S (xfr G) s.heap H locs) (hl : lv_has ls 4 [(0, .ref b), (1, .ref (xz G + 0)), (2, .ref (xz G + 57)), (3, .int x3)]) : W p l e room_1 s m #[Value.ref b] below meth c H locs (xK kp) (xSl kp) (lw_Z below #[Value.ref b] s) (F0 m 1285 ls []) := by
  obtain ⟨r, I1, I2, h1, h2, hRel2⟩ := hs kp q I L (xs (x3 + 1).toNatClampNeg) (xs (x3 + 2).toNatClampNeg) hq hRel
  refine lv_aload_n E.1.1 E.1.2.1 dL_law_1285 rfl (lv_at hl 1 rfl) ?_
  refine lv_aload_n E.1.1 E.1.2.1 dL_law_1286 rfl (lv_at hl 0 rfl) ?_
  refine lv_iload_n E.1.1 E.1.2.1 dL_law_1287 rfl (lv_at hl 3 rfl) ?_
  refine lv_iconst (v := 1) E.1.1 E.1.2.1 dL_law_1288 (by decide) ?_
  refine lv_iadd E.1.1 E.1.2.1 dL_law_1289 ?_
  refine va_sld E.1.1 E.1.2.1 E.2.1 E.2.2.1 E.2.2.2.1 hS (hin 1 (by decide) (by decide)) dL_law_1290 ?_
  refine lv_aload_n E.1.1 E.1.2.1 dL_law_1291 rfl (lv_at hl 0 rfl) ?_
  refine lv_iload_n E.1.1 E.1.2.1 dL_law_1292 rfl (lv_at hl 3 rfl) ?_
  refine lv_iconst (v := 2) E.1.1 E.1.2.1 dL_law_1293 (by decide) ?_
  refine lv_iadd E.1.1 E.1.2.1 dL_law_1294 ?_
  refine va_sld E.1.1 E.1.2.1 E.2.1 E.2.2.1 E.2.2.2.1 hS (hin 2 (by decide) (by decide)) dL_law_1295 ?_
  refine y_cv (rest := []) E.1 xy_X10_squeeze tw_1074 (M_X10_squeeze G l kp xN h1) ⟨Nat.le_of_ble_eq_true rfl, Nat.le_of_ble_eq_true rfl⟩ (xce_0 G kp _ _) rfl rfl rfl (Nat.le_of_ble_eq_true rfl) hl.1 hR hS (Nat.le_of_eq E.2.2.2.2.1) dL_law_1296 (xSl_ok kp) (fun H locs hR hS => ?_)
  refine lv_aload_n E.1.1 E.1.2.1 dL_law_1299 rfl (lv_at hl 2 rfl) ?_
  refine lv_aload_n E.1.1 E.1.2.1 dL_law_1300 rfl (lv_at hl 0 rfl) ?_
  refine lv_iload_n E.1.1 E.1.2.1 dL_law_1301 rfl (lv_at hl 3 rfl) ?_
  refine lv_iconst (v := 1) E.1.1 E.1.2.1 dL_law_1302 (by decide) ?_
  refine lv_iadd E.1.1 E.1.2.1 dL_law_1303 ?_
  refine va_sld E.1.1 E.1.2.1 E.2.1 E.2.2.1 E.2.2.2.1 hS (hin 1 (by decide) (by decide)) dL_law_1304 ?_
  refine lv_aload_n E.1.1 E.1.2.1 dL_law_1305 rfl (lv_at hl 0 rfl) ?_
  refine lv_iload_n E.1.1 E.1.2.1 dL_law_1306 rfl (lv_at hl 3 rfl) ?_
  refine lv_iconst (v := 2) E.1.1 E.1.2.1 dL_law_1307 (by decide) ?_
  refine lv_iadd E.1.1 E.1.2.1 dL_law_1308 ?_
  refine va_sld E.1.1 E.1.2.1 E.2.1 E.2.2.1 E.2.2.2.1 hS (hin 2 (by decide) (by decide)) dL_law_1309 ?_
  refine y_cv (rest := [.long r]) E.1 xy_X11_squeeze tw_1710 (M_X11_squeeze G l kp xN h2) ⟨Nat.le_of_ble_eq_true rfl, Nat.le_of_ble_eq_true rfl⟩ (xce_57 G kp _ _) rfl rfl rfl (Nat.le_of_ble_eq_true rfl) hl.1 hR hS (Nat.le_of_eq E.2.2.2.2.1) dL_law_1310 (xSl_ok kp) (fun H locs hR hS => ?_)
  refine W.lcmp E.1.1 E.1.2.1 dL_law_1313 ?_
  refine lv_if_eq (tgt := 1582) E.1.1 E.1.2.1 dL_law_1314 (by decide) (fun _ => ?_) (fun h => absurd (xlg_self r) h)
  exact hk kp _ _ hRel2 _ _ _ hR hS hl
set_option maxRecDepth 20000 in
theorem law_rolling {Rel : Bool → Nat → xTI → xTL → Prop} {G : XG} {l : Launch} {p : Program} {e : Env} {s : State} {m : MethodId} {below : List Frame} {meth : Method} {c : Code} {b Lc q : Nat} {xs : Nat → Int32} (E : xLE G p s m meth c b Lc xs) (hs : xs_rolling Rel) {x3 : Int32} (hin : ∀ j : Int32, 1 ≤ j → j ≤ 4 → vp_in (x3 + j) Lc) (hq : q < 512) (hk : xHk Rel G l p e s m below meth c b q x3) {kp : Bool} {I : xTI} {L : xTL} (hRel : Rel kp q I L) {H : Heap} {locs : List Loc} {ls : Array Slot} (hR : xRep G kp I L H) (hS : va_S (xfr G) s.heap H locs) (hl : lv_has ls 4 [(0, .ref b), (1, .ref (xz G + 0)), (2, .ref (xz G + 57)), (3, .int x3)]) : W p l e room_1 s m #[Value.ref b] below meth c H locs (xK kp) (xSl kp) (lw_Z below #[Value.ref b] s) (F0 m 1319 ls []) := by
  obtain ⟨r, I1, L1, I2, L2, h1, h2, hRel2⟩ := hs kp q I L (xs (x3 + 1).toNatClampNeg) (xs (x3 + 2).toNatClampNeg) hq hRel
  refine lv_aload_n E.1.1 E.1.2.1 dL_law_1319 rfl (lv_at hl 1 rfl) ?_
  refine lv_aload_n E.1.1 E.1.2.1 dL_law_1320 rfl (lv_at hl 0 rfl) ?_
  refine lv_iload_n E.1.1 E.1.2.1 dL_law_1321 rfl (lv_at hl 3 rfl) ?_
  refine lv_iconst (v := 1) E.1.1 E.1.2.1 dL_law_1322 (by decide) ?_
  refine lv_iadd E.1.1 E.1.2.1 dL_law_1323 ?_
  refine va_sld E.1.1 E.1.2.1 E.2.1 E.2.2.1 E.2.2.2.1 hS (hin 1 (by decide) (by decide)) dL_law_1324 ?_
  refine lv_aload_n E.1.1 E.1.2.1 dL_law_1325 rfl (lv_at hl 0 rfl) ?_
  refine lv_iload_n E.1.1 E.1.2.1 dL_law_1326 rfl (lv_at hl 3 rfl) ?_
  refine lv_iconst (v := 2) E.1.1 E.1.2.1 dL_law_1327 (by decide) ?_
  refine lv_iadd E.1.1 E.1.2.1 dL_law_1328 ?_
  refine va_sld E.1.1 E.1.2.1 E.2.1 E.2.2.1 E.2.2.2.1 hS (hin 2 (by decide) (by decide)) dL_law_1329 ?_
  refine y_cv (rest := []) E.1 xy_X10_rolling tw_1089 (M_X10_rolling G l kp xN h1) ⟨Nat.le_of_ble_eq_true rfl, Nat.le_of_ble_eq_true rfl⟩ (xce_0 G kp _ _) rfl rfl rfl (Nat.le_of_ble_eq_true rfl) hl.1 hR hS (Nat.le_of_eq E.2.2.2.2.1) dL_law_1330 (xSl_ok kp) (fun H locs hR hS => ?_)
  refine lv_aload_n E.1.1 E.1.2.1 dL_law_1333 rfl (lv_at hl 2 rfl) ?_
  refine lv_aload_n E.1.1 E.1.2.1 dL_law_1334 rfl (lv_at hl 0 rfl) ?_
  refine lv_iload_n E.1.1 E.1.2.1 dL_law_1335 rfl (lv_at hl 3 rfl) ?_
  refine lv_iconst (v := 1) E.1.1 E.1.2.1 dL_law_1336 (by decide) ?_
  refine lv_iadd E.1.1 E.1.2.1 dL_law_1337 ?_
  refine va_sld E.1.1 E.1.2.1 E.2.1 E.2.2.1 E.2.2.2.1 hS (hin 1 (by decide) (by decide)) dL_law_1338 ?_
  refine lv_aload_n E.1.1 E.1.2.1 dL_law_1339 rfl (lv_at hl 0 rfl) ?_
  refine lv_iload_n E.1.1 E.1.2.1 dL_law_1340 rfl (lv_at hl 3 rfl) ?_
  refine lv_iconst (v := 2) E.1.1 E.1.2.1 dL_law_1341 (by decide) ?_
  refine lv_iadd E.1.1 E.1.2.1 dL_law_1342 ?_
  refine va_sld E.1.1 E.1.2.1 E.2.1 E.2.2.1 E.2.2.2.1 hS (hin 2 (by decide) (by decide)) dL_law_1343 ?_
  refine y_cv (rest := [.int r]) E.1 xy_X11_rolling tw_1714 (M_X11_rolling G l kp xN h2) ⟨Nat.le_of_ble_eq_true rfl, Nat.le_of_ble_eq_true rfl⟩ (xce_57 G kp _ _) rfl rfl rfl (Nat.le_of_ble_eq_true rfl) hl.1 hR hS (Nat.le_of_eq E.2.2.2.2.1) dL_law_1344 (xSl_ok kp) (fun H locs hR hS => ?_)
  refine lv_icmp_eq (x := r) (y := r) (tgt := 1582) E.1.1 E.1.2.1 dL_law_1347 (by decide) (fun _ => ?_) (fun h => absurd rfl h)
  exact hk kp _ _ hRel2 _ _ _ hR hS hl
set_option maxRecDepth 20000 in
theorem law_clearing {Rel : Bool → Nat → xTI → xTL → Prop} {G : XG} {l : Launch} {p : Program} {e : Env} {s : State} {m : MethodId} {below : List Frame} {meth : Method} {c : Code} {b Lc q : Nat} {xs : Nat → Int32} (E : xLE G p s m meth c b Lc xs) (hs : xs_clearing Rel) {x3 : Int32} (hin : ∀ j : Int32, 1 ≤ j → j ≤ 4 → vp_in (x3 + j) Lc) (hq : q < 512) (hk : xHk Rel G l p e s m below meth c b q x3) {kp : Bool} {I : xTI} {L : xTL} (hRel : Rel kp q I L) {H : Heap} {locs : List Loc} {ls : Array Slot} (hR : xRep G kp I L H) (hS : va_S (xfr G) s.heap H locs) (hl : lv_has ls 4 [(0, .ref b), (1, .ref (xz G + 0)), (2, .ref (xz G + 57)), (3, .int x3)]) : W p l e room_1 s m #[Value.ref b] below meth c H locs (xK kp) (xSl kp) (lw_Z below #[Value.ref b] s) (F0 m 1352 ls []) := by
  obtain ⟨r, I1, L1, I2, h1, h2, hRel2⟩ := hs kp q I L (xs (x3 + 1).toNatClampNeg) hq hRel
  refine lv_aload_n E.1.1 E.1.2.1 dL_law_1352 rfl (lv_at hl 1 rfl) ?_
  refine lv_aload_n E.1.1 E.1.2.1 dL_law_1353 rfl (lv_at hl 0 rfl) ?_
  refine lv_iload_n E.1.1 E.1.2.1 dL_law_1354 rfl (lv_at hl 3 rfl) ?_
  refine lv_iconst (v := 1) E.1.1 E.1.2.1 dL_law_1355 (by decide) ?_
  refine lv_iadd E.1.1 E.1.2.1 dL_law_1356 ?_
  refine va_sld E.1.1 E.1.2.1 E.2.1 E.2.2.1 E.2.2.2.1 hS (hin 1 (by decide) (by decide)) dL_law_1357 ?_
  refine y_cv (rest := []) E.1 xy_X10_clearing tw_1107 (M_X10_clearing G l kp xN h1) ⟨Nat.le_of_ble_eq_true rfl, Nat.le_of_ble_eq_true rfl⟩ (xce_0 G kp _ _) rfl rfl rfl (Nat.le_of_ble_eq_true rfl) hl.1 hR hS (Nat.le_of_eq E.2.2.2.2.1) dL_law_1358 (xSl_ok kp) (fun H locs hR hS => ?_)
  refine lv_aload_n E.1.1 E.1.2.1 dL_law_1361 rfl (lv_at hl 2 rfl) ?_
  refine lv_aload_n E.1.1 E.1.2.1 dL_law_1362 rfl (lv_at hl 0 rfl) ?_
  refine lv_iload_n E.1.1 E.1.2.1 dL_law_1363 rfl (lv_at hl 3 rfl) ?_
  refine lv_iconst (v := 1) E.1.1 E.1.2.1 dL_law_1364 (by decide) ?_
  refine lv_iadd E.1.1 E.1.2.1 dL_law_1365 ?_
  refine va_sld E.1.1 E.1.2.1 E.2.1 E.2.2.1 E.2.2.2.1 hS (hin 1 (by decide) (by decide)) dL_law_1366 ?_
  refine y_cv (rest := [.int r]) E.1 xy_X11_clearing tw_1724 (M_X11_clearing G l kp xN h2) ⟨Nat.le_of_ble_eq_true rfl, Nat.le_of_ble_eq_true rfl⟩ (xce_57 G kp _ _) rfl rfl rfl (Nat.le_of_ble_eq_true rfl) hl.1 hR hS (Nat.le_of_eq E.2.2.2.2.1) dL_law_1367 (xSl_ok kp) (fun H locs hR hS => ?_)
  refine lv_icmp_eq (x := r) (y := r) (tgt := 1582) E.1.1 E.1.2.1 dL_law_1370 (by decide) (fun _ => ?_) (fun h => absurd rfl h)
  exact hk kp _ _ hRel2 _ _ _ hR hS hl
set_option maxRecDepth 20000 in
theorem law_count {Rel : Bool → Nat → xTI → xTL → Prop} {G : XG} {l : Launch} {p : Program} {e : Env} {s : State} {m : MethodId} {below : List Frame} {meth : Method} {c : Code} {b Lc q : Nat} {xs : Nat → Int32} (E : xLE G p s m meth c b Lc xs) (hs : xs_count Rel) {x3 : Int32} (hin : ∀ j : Int32, 1 ≤ j → j ≤ 4 → vp_in (x3 + j) Lc) (hq : q < 512) (hk : xHk Rel G l p e s m below meth c b q x3) {kp : Bool} {I : xTI} {L : xTL} (hRel : Rel kp q I L) {H : Heap} {locs : List Loc} {ls : Array Slot} (hR : xRep G kp I L H) (hS : va_S (xfr G) s.heap H locs) (hl : lv_has ls 4 [(0, .ref b), (1, .ref (xz G + 0)), (2, .ref (xz G + 57)), (3, .int x3)]) : W p l e room_1 s m #[Value.ref b] below meth c H locs (xK kp) (xSl kp) (lw_Z below #[Value.ref b] s) (F0 m 1375 ls []) := by
  obtain ⟨r, I1, I2, h1, h2, hRel2⟩ := hs kp q I L (xs (x3 + 1).toNatClampNeg) hq hRel
  refine lv_aload_n E.1.1 E.1.2.1 dL_law_1375 rfl (lv_at hl 1 rfl) ?_
  refine lv_aload_n E.1.1 E.1.2.1 dL_law_1376 rfl (lv_at hl 0 rfl) ?_
  refine lv_iload_n E.1.1 E.1.2.1 dL_law_1377 rfl (lv_at hl 3 rfl) ?_
  refine lv_iconst (v := 1) E.1.1 E.1.2.1 dL_law_1378 (by decide) ?_
  refine lv_iadd E.1.1 E.1.2.1 dL_law_1379 ?_
  refine va_sld E.1.1 E.1.2.1 E.2.1 E.2.2.1 E.2.2.2.1 hS (hin 1 (by decide) (by decide)) dL_law_1380 ?_
  refine y_cv (rest := []) E.1 xy_X10_count tw_1115 (M_X10_count G l kp xN h1) ⟨Nat.le_of_ble_eq_true rfl, Nat.le_of_ble_eq_true rfl⟩ (xce_0 G kp _ _) rfl rfl rfl (Nat.le_of_ble_eq_true rfl) hl.1 hR hS (Nat.le_of_eq E.2.2.2.2.1) dL_law_1381 (xSl_ok kp) (fun H locs hR hS => ?_)
  refine lv_aload_n E.1.1 E.1.2.1 dL_law_1384 rfl (lv_at hl 2 rfl) ?_
  refine lv_aload_n E.1.1 E.1.2.1 dL_law_1385 rfl (lv_at hl 0 rfl) ?_
  refine lv_iload_n E.1.1 E.1.2.1 dL_law_1386 rfl (lv_at hl 3 rfl) ?_
  refine lv_iconst (v := 1) E.1.1 E.1.2.1 dL_law_1387 (by decide) ?_
  refine lv_iadd E.1.1 E.1.2.1 dL_law_1388 ?_
  refine va_sld E.1.1 E.1.2.1 E.2.1 E.2.2.1 E.2.2.2.1 hS (hin 1 (by decide) (by decide)) dL_law_1389 ?_
  refine y_cv (rest := [.int r]) E.1 xy_X11_count tw_1728 (M_X11_count G l kp xN h2) ⟨Nat.le_of_ble_eq_true rfl, Nat.le_of_ble_eq_true rfl⟩ (xce_57 G kp _ _) rfl rfl rfl (Nat.le_of_ble_eq_true rfl) hl.1 hR hS (Nat.le_of_eq E.2.2.2.2.1) dL_law_1390 (xSl_ok kp) (fun H locs hR hS => ?_)
  refine lv_icmp_eq (x := r) (y := r) (tgt := 1582) E.1.1 E.1.2.1 dL_law_1393 (by decide) (fun _ => ?_) (fun h => absurd rfl h)
  exact hk kp _ _ hRel2 _ _ _ hR hS hl
def iPc (G : XG) (I : xTI) (L : xTL) : Array Value → State → Prop := fun a U => a = #[.ref (xz G + 0)] ∧ xW U ∧ va_K G.1 xcl (xtys G) U ∧ yN U ∧ xSt G U U.heap ∧ xRep G false I L U.heap
def iQ (G : XG) (I1 : xTI) (L1 : xTL) : Array Value → State → Outcome → State → Prop := fun _ st o t => o = .returned (some (.int (I1 1 0))) ∧ xRep G true I1 L1 t.heap ∧ ∀ q : Nat, q < xz G → t.heap[q]? = st.heap[q]?
theorem iPc_blind (G : XG) (I : xTI) (L : xTL) : FrameBlind (iPc G I L) := by
  intro a U g mk ⟨h1, h2, h3, h4, h5, h6⟩
  exact ⟨h1, h2.calling g mk a, va_K.moved (u := U) (U := U.calling g mk a) (Vm.Alike.refl U.vm) h3, h4.calling g mk a, xSt.warm (s := U) (U := U.calling g mk a) (State.WarmedH.refl U) (fun _ _ => rfl) h5, h6⟩
theorem x_kpE {G : XG} {k : Nat} {f : Nat → Int32} {g : Nat → Int64} (h0 : k ≠ 0) (hk : k < 87) : xE G true k f g = xE G false k f g := by
  unfold xE
  rw [if_pos hk, if_pos hk]
  obtain ⟨i, rfl⟩ : ∃ i, k = i + 1 := ⟨k - 1, by omega⟩
  unfold xcells
  rw [List.getElem?_cons_succ, List.getElem?_cons_succ]
theorem x_img {G : XG} {I : xTI} {L : xTL} {H : Heap} {e0 : va_E} (h0 : xE G true 0 (I 0) (L 0) = some e0) (hR : yRep G ((xEl G I L ++ xBk G).set 0 e0) H) : xRep G true (xnI I) (xnL L) H := by
  refine ⟨?_, fun k e he => hR.2 k e ?_⟩
  · have h1 := hR.1
    rw [List.length_set, List.length_append, xEl_len] at h1
    exact h1
  · by_cases hk : k < 87
    · have e1 : xnI I k = I k := by unfold xnI; rw [if_pos hk]
      have e2 : xnL L k = L k := by unfold xnL; rw [if_pos hk]
      rw [e1, e2] at he
      by_cases hk0 : k = 0
      · subst hk0
        rw [h0] at he
        cases he
        rw [List.getElem?_set_self (by rw [List.length_append, xEl_len]; omega)]
      · rw [List.getElem?_set_ne (Ne.symm hk0), List.getElem?_append_left (by rw [xEl_len]; exact hk)]
        rw [x_kpE hk0 hk] at he
        exact xEl_at he
    · have e1 : xnI I k = x0I k := by unfold xnI; rw [if_neg hk]
      have e2 : xnL L k = x0L k := by unfold xnL; rw [if_neg hk]
      rw [e1, e2] at he
      rw [List.getElem?_set_ne (by omega), List.getElem?_append_right (by rw [xEl_len]; omega), xEl_len]
      exact x_bk G k e (by omega) he
set_option maxRecDepth 20000 in
theorem c_image_f (G : XG) (l : Launch) {I : xTI} {L : xTL} {I1 : xTI} {L1 : xTL} (hf : F_X1_takeOver_87_1 (xnI I) (xnL L) = some (I1, L1)) : Met l yX10_image [.code yX10_image cX10_image 1 (some .int)] (yrm 20 900 28 6187) (iPc G I L) (iQ G I1 L1) 28 6187 (xfr G) := by
  refine Met.ofW (cc := cX10_image) (maxL := 1) (ret := some .int) (by decide +kernel) rfl ?_
  intro p e s m args below meth c s₁ B hml hv
  obtain ⟨rfl, hW, hK, hN, hT, hR⟩ := hv
  have hl := lv_entry ([.ref (xz G + 0)] : List Value) (n := 1) (Nat.le_of_ble_eq_true rfl)
  have hen := lg_entry_eq m [Value.ref (xz G + 0)] 1
  have hen : entryFrame m #[Value.ref (xz G + 0)] 1 = _ := hen
  rw [hen]
  generalize ((lg_sl [Value.ref (xz G + 0)] ++ List.replicate (1 - (lg_sl [Value.ref (xz G + 0)]).length) Slot.unset).toArray) = ls at hl ⊢
  replace hl : lv_has ls 1 [(0, .ref (xz G + 0))] := hl
  have hC : xC G p s m #[Value.ref (xz G + 0)] meth c cX10_image 1 RX10 (some .int) := ⟨B.exec, B.bytes, hml, findClass_of_methodNamed B.named, hW, hK, B.returns, B.notSynchronized, hT⟩
  have hzs : xz G ≤ s.heap.size := by have := hR.1; omega
  have hY : yC G p s m #[Value.ref (xz G + 0)] meth c cX10_image 1 RX10 := ⟨B.exec, B.bytes, hml, findClass_of_methodNamed B.named, hW, hK, hN, hzs⟩
  have hS : va_S (xfr G) s.heap s.heap [] := va_S.rf
  have hsz : s.heap.size = xz G + 87 := hR.1
  refine lv_aload_n hC.1 hC.2.1 dX10_image_0 rfl (lv_at hl 0 rfl) ?_
  refine x_get (v := .null) hC xf_X10_16 (xce_0 G false _ _) rfl hR dX10_image_1 ?_
  refine lv_ifnonnullN hC.1 hC.2.1 dX10_image_4 ?_
  refine lv_aload_n hC.1 hC.2.1 dX10_image_7 rfl (lv_at hl 0 rfl) ?_
  have hRy := x_toY hR
  refine y_new (E := xEl G I L) hY xn_X10_7 hRy hS (by rw [xEl_len]; omega) (Nat.le_of_ble_eq_true rfl) (Nat.le_of_ble_eq_true rfl) dX10_image_8 (fun H hRy hS => ?_)
  rw [xEl_len]
  refine lv_dup hC.1 hC.2.1 dX10_image_11 rfl ?_
  refine y_ci (E1 := xEl G I L ++ xBk G) (rest := [.ref (xz G + 87), .ref (xz G + 0)]) hY xi_X1_init (Or.inr ⟨_, List.mem_of_getElem? (i := 0) rfl⟩) (c_X1_init G l (xEl G I L) 87 (xEl_len G I L)) ⟨Nat.le_of_ble_eq_true rfl, Nat.le_of_ble_eq_true rfl⟩ rfl rfl (Nat.le_of_ble_eq_true rfl) hl.1 hRy hS (by simp only [List.length_append]; exact Nat.add_le_add_left (Nat.le_of_ble_eq_true rfl) _) dX10_image_12 ⟨Nat.le_of_ble_eq_true rfl, Nat.le_of_ble_eq_true rfl⟩ (fun H locs hRy hS => ?_)
  refine W.widen (k := 28) (n := 6187) (Nat.le_of_ble_eq_true rfl) (Nat.le_of_ble_eq_true rfl) ?_
  have h00 : (xEl G I L ++ xBk G)[0]? = some (.inr (10, [.ref (xz G + 1), .null, .ref (xz G + 29), .ref (xz G + 32), .ref (xz G + 33), .ref (xz G + 41), .ref (xz G + 46), .ref (xz G + 55), .int (I 0 8), .ref (xz G + 56)])) := by
    rw [List.getElem?_append_left (by rw [xEl_len]; omega)]
    exact xEl_at (xce_0 G false _ _)
  refine y_put (k := 0) (ty := .object "AccountDay$Book") hY xf_X10_16 xp_10_1 h00 rfl rfl (Nat.le_of_ble_eq_true rfl) hRy hS (by rw [List.length_append, xEl_len, hsz]; rfl) dX10_image_15 (fun H locs hRy hS => ?_)
  have hR := x_img (xce_0 G true (I 0) (L 0)) hRy
  refine lv_aload_n hC.1 hC.2.1 dX10_image_18 rfl (lv_at hl 0 rfl) ?_
  refine x_get (v := .ref (xz G + 87)) hC xf_X10_16 (xce_0 G true _ _) rfl hR dX10_image_19 ?_
  refine lv_aload_n hC.1 hC.2.1 dX10_image_22 rfl (lv_at hl 0 rfl) ?_
  refine x_get (v := .ref (xz G + 1)) hC xf_X10_10 (xce_0 G true _ _) rfl hR dX10_image_23 ?_
  refine y_cv (rest := []) hC xy_X1_takeOver tw_1128 (M_X1_takeOver_87_1 G l hf) ⟨Nat.le_of_ble_eq_true rfl, Nat.le_of_ble_eq_true rfl⟩ (xce_87 G _ _) rfl rfl rfl (Nat.le_of_ble_eq_true rfl) hl.1 hR hS hzs dX10_image_26 ⟨Nat.le_refl _, Nat.le_refl _⟩ (fun H locs hR hS => ?_)
  refine lv_aload_n hC.1 hC.2.1 dX10_image_29 rfl (lv_at hl 0 rfl) ?_
  refine x_get (v := .ref (xz G + 1)) hC xf_X10_10 (xce_0 G true _ _) rfl hR dX10_image_30 ?_
  refine x_get (v := .int (I1 1 0)) hC xf_X10_164 (xce_1 G true _ _) rfl hR dX10_image_33 ?_
  exact W.iret hC.1 hC.2.1 B.returns (fun t ht hW => ⟨rfl, by rw [ht]; exact hR, fun q hq => by rw [ht]; exact hS.2.1 q (Nat.lt_of_lt_of_le hq hzs) (Nat.not_le.mpr hq)⟩) hS.2.2 dX10_image_36 (hlocks := B.notSynchronized)
set_option maxRecDepth 20000 in
theorem law_image_f {Rel : Bool → Nat → xTI → xTL → Prop} {G : XG} {l : Launch} {p : Program} {e : Env} {s : State} {m : MethodId} {below : List Frame} {meth : Method} {c : Code} {b Lc q : Nat} {xs : Nat → Int32} (E : xLE G p s m meth c b Lc xs) (hs : xs_image Rel) {x3 : Int32} (hq : q < 512) (hk : xHk Rel G l p e s m below meth c b q x3) {I : xTI} {L : xTL} (hRel : Rel false q I L) {H : Heap} {locs : List Loc} {ls : Array Slot} (hR : xRep G false I L H) (hS : va_S (xfr G) s.heap H locs) (hl : lv_has ls 4 [(0, .ref b), (1, .ref (xz G + 0)), (2, .ref (xz G + 57)), (3, .int x3)]) : W p l e room_1 s m #[Value.ref b] below meth c H locs (xK false) (xSl false) (lw_Z below #[Value.ref b] s) (F0 m 1398 ls []) := by
  obtain ⟨I1, L1, I2, L2, h1, h2, hRel2⟩ := hs.2 q I L hq hRel
  refine lv_aload_n E.1.1 E.1.2.1 dL_law_1398 rfl (lv_at hl 1 rfl) ?_
  obtain ⟨hx, hb, hml, hown, hW, hK, hret, hlk, hT⟩ := id E.1
  have hY := xy_X10_image
  obtain ⟨y1, y2, y3, y4, y5, y6⟩ := hY
  have hcw : CallW room_1 s #[Value.ref b] "AccountDayLaw" yX10_image.cls 159 yX10_image cX10_image 1 (some .int) [.code yX10_image cX10_image 1 (some .int)] (yrm 20 900 28 6187) 28 6187 0 := by
    refine ⟨⟨rfl, rfl, Nat.le_of_ble_eq_true rfl, Nat.le_of_ble_eq_true rfl, fun w hw a' U hWU => ?_, List.mem_singleton.mpr rfl, hW.use y1 rfl _, hW.use y4 rfl _, y5, fun sig h => ?_, hW.use tw_1124 rfl _⟩, hW.use y2 rfl _, hW.use y3 rfl _⟩
    · rw [List.mem_singleton.mp hw]
      exact (hW.warm hWU).use y1 rfl a'
    · rw [h] at y6
      exact (Option.some.inj y6).symm
  have hP : va_P G.1 xcl [(xz G + 0, .inr (10, [.ref (xz G + 1), .null, .ref (xz G + 29), .ref (xz G + 32), .ref (xz G + 33), .ref (xz G + 41), .ref (xz G + 46), .ref (xz G + 55), .int (I 0 8), .ref (xz G + 56)]))] H := fun i q hq => by
    match i, hq with
    | 0, hq => cases hq; exact hR.2 0 _ (xce_0 G false _ _)
    | i + 1, hq => simp at hq
  have hrec := va_recv hK hP (ci := 10) rfl (q0 := 0) rfl
  have hrun : va_Run p l e room_1 s m #[Value.ref b] below meth c H locs (xK false) (xSl false) 28 6187 (F0 m (1398 + 1) ls [.ref (xz G + 0)]) [] (iQ G I1 L1 [Value.ref (xz G + 0)].toArray) (xfr G) :=
    va_runV (Ts := []) (As := []) (b := xz G + 0) (rest := []) ⟨hx, hb, hml, hown, fun w h => by cases h⟩ (c_image_f G l h1) hcw ⟨iPc_blind G I L, hrec, fun U hU hWU => ⟨rfl, hW.warm hWU, va_K.moved hWU.alike hK, E.2.2.2.2.2.warm hWU, by rw [hU]; exact xSt.warm hWU (fun q hq => hS.2.1 q (by have := E.2.2.2.2.1; omega) (Nat.not_le.mpr hq)) hT, by rw [hU]; exact hR⟩⟩ rfl rfl hl.1 rfl (lv_room (Nat.le_of_ble_eq_true rfl)) dL_law_1399 ⟨Nat.le_of_ble_eq_true rfl, Nat.le_of_ble_eq_true rfl⟩
  intro T hT' X
  obtain ⟨v', st₀, t, T', L', h0, X', hL, e1, e2, ⟨hv, hq9, hk9⟩, st⟩ := hrun T hT' X
  cases hv
  rw [h0] at hk9
  have hS' : va_S (xfr G) s.heap T'.heap (locs ++ L') := ⟨by rw [e1]; have := hq9.1; have := E.2.2.2.2.1; omega, fun q g1 g2 => by rw [e1, hk9 q (Nat.not_le.mp g2)]; exact hS.2.1 q g1 g2, fun q hq => by
      rcases List.mem_append.mp hq with h | h
      · exact hS.2.2 q h
      · exact hL q h⟩
  have hR' : xRep G true I1 L1 T'.heap := by rw [e1]; exact hq9
  have key : W p l e room_1 s m #[Value.ref b] below meth c T'.heap (locs ++ L') (xK false + 28) (xSl false + 6187) (lw_Z below #[Value.ref b] s) (F0 m (1398 + 1 + 3) ls [.int (I1 1 0)]) := by
    refine W.widen (k := xK true) (n := xSl true) (Nat.le_of_ble_eq_true rfl) (Nat.le_of_ble_eq_true rfl) ?_
    refine lv_aload_n E.1.1 E.1.2.1 dL_law_1402 rfl (lv_at hl 2 rfl) ?_
    refine y_cv (kp := true) (rest := [.int (I1 1 0)]) E.1 xy_X11_image tw_1736 (M_X11_image G l true xN h2) ⟨Nat.le_of_ble_eq_true rfl, Nat.le_of_ble_eq_true rfl⟩ (xce_57 G true _ _) rfl rfl rfl (Nat.le_of_ble_eq_true rfl) hl.1 hR' hS' (Nat.le_of_eq E.2.2.2.2.1) dL_law_1403 (xSl_ok true) (fun H locs hR hS => ?_)
    refine lv_icmp_eq (x := I1 1 0) (y := I1 1 0) (tgt := 1582) E.1.1 E.1.2.1 dL_law_1406 (by decide) (fun _ => ?_) (fun h => absurd rfl h)
    exact hk true _ _ hRel2 _ _ _ hR hS hl
  obtain ⟨t2, a1, b1⟩ := key T' rfl X'
  exact ⟨t2, st t2 a1, b1⟩

set_option maxRecDepth 20000 in
theorem law_image {Rel : Bool → Nat → xTI → xTL → Prop} {G : XG} {l : Launch} {p : Program} {e : Env} {s : State} {m : MethodId} {below : List Frame} {meth : Method} {c : Code} {b Lc q : Nat} {xs : Nat → Int32} (E : xLE G p s m meth c b Lc xs) (hs : xs_image Rel) {x3 : Int32} (hin : ∀ j : Int32, 1 ≤ j → j ≤ 4 → vp_in (x3 + j) Lc) (hq : q < 512) (hk : xHk Rel G l p e s m below meth c b q x3) {kp : Bool} {I : xTI} {L : xTL} (hRel : Rel kp q I L) {H : Heap} {locs : List Loc} {ls : Array Slot} (hR : xRep G kp I L H) (hS : va_S (xfr G) s.heap H locs) (hl : lv_has ls 4 [(0, .ref b), (1, .ref (xz G + 0)), (2, .ref (xz G + 57)), (3, .int x3)]) : W p l e room_1 s m #[Value.ref b] below meth c H locs (xK kp) (xSl kp) (lw_Z below #[Value.ref b] s) (F0 m 1398 ls []) := by
  cases kp with
  | true =>
    obtain ⟨r, I1, L1, I2, L2, h1, h2, hRel2⟩ := hs.1 q I L hq hRel
    refine lv_aload_n E.1.1 E.1.2.1 dL_law_1398 rfl (lv_at hl 1 rfl) ?_
    refine y_cv (rest := []) E.1 xy_X10_image tw_1124 (M_X10_image_t G l h1) ⟨Nat.le_of_ble_eq_true rfl, Nat.le_of_ble_eq_true rfl⟩ (xce_0 G true _ _) rfl rfl rfl (Nat.le_of_ble_eq_true rfl) hl.1 hR hS (Nat.le_of_eq E.2.2.2.2.1) dL_law_1399 (xSl_ok true) (fun H locs hR hS => ?_)
    refine lv_aload_n E.1.1 E.1.2.1 dL_law_1402 rfl (lv_at hl 2 rfl) ?_
    refine y_cv (rest := [.int r]) E.1 xy_X11_image tw_1736 (M_X11_image G l true xN h2) ⟨Nat.le_of_ble_eq_true rfl, Nat.le_of_ble_eq_true rfl⟩ (xce_57 G true _ _) rfl rfl rfl (Nat.le_of_ble_eq_true rfl) hl.1 hR hS (Nat.le_of_eq E.2.2.2.2.1) dL_law_1403 (xSl_ok true) (fun H locs hR hS => ?_)
    refine lv_icmp_eq (x := r) (y := r) (tgt := 1582) E.1.1 E.1.2.1 dL_law_1406 (by decide) (fun _ => ?_) (fun h => absurd rfl h)
    exact hk true _ _ hRel2 _ _ _ hR hS hl
  | false =>
    exact law_image_f E hs hq hk hRel hR hS hl
set_option maxRecDepth 20000 in
theorem law_back {Rel : Bool → Nat → xTI → xTL → Prop} {G : XG} {l : Launch} {p : Program} {e : Env} {s : State} {m : MethodId} {below : List Frame} {meth : Method} {c : Code} {b Lc q : Nat} {xs : Nat → Int32} (E : xLE G p s m meth c b Lc xs) (hs : xs_back Rel) {x3 : Int32} (hin : ∀ j : Int32, 1 ≤ j → j ≤ 4 → vp_in (x3 + j) Lc) (hq : q < 512) (hk : xHk Rel G l p e s m below meth c b q x3) {kp : Bool} {I : xTI} {L : xTL} (hRel : Rel kp q I L) {H : Heap} {locs : List Loc} {ls : Array Slot} (hR : xRep G kp I L H) (hS : va_S (xfr G) s.heap H locs) (hl : lv_has ls 4 [(0, .ref b), (1, .ref (xz G + 0)), (2, .ref (xz G + 57)), (3, .int x3)]) : W p l e room_1 s m #[Value.ref b] below meth c H locs (xK kp) (xSl kp) (lw_Z below #[Value.ref b] s) (F0 m 1411 ls []) := by
  cases kp with
  | true =>
    obtain ⟨r, I1, L1, I2, L2, h1, h2, hRel2⟩ := hs.1 q I L hq hRel
    refine lv_aload_n E.1.1 E.1.2.1 dL_law_1411 rfl (lv_at hl 1 rfl) ?_
    refine y_cv (rest := []) E.1 xy_X10_back tw_1149 (M_X10_back_t G l h1) ⟨Nat.le_of_ble_eq_true rfl, Nat.le_of_ble_eq_true rfl⟩ (xce_0 G true _ _) rfl rfl rfl (Nat.le_of_ble_eq_true rfl) hl.1 hR hS (Nat.le_of_eq E.2.2.2.2.1) dL_law_1412 (xSl_ok true) (fun H locs hR hS => ?_)
    refine lv_aload_n E.1.1 E.1.2.1 dL_law_1415 rfl (lv_at hl 2 rfl) ?_
    refine y_cv (rest := [.int r]) E.1 xy_X11_back tw_1740 (M_X11_back G l true xN h2) ⟨Nat.le_of_ble_eq_true rfl, Nat.le_of_ble_eq_true rfl⟩ (xce_57 G true _ _) rfl rfl rfl (Nat.le_of_ble_eq_true rfl) hl.1 hR hS (Nat.le_of_eq E.2.2.2.2.1) dL_law_1416 (xSl_ok true) (fun H locs hR hS => ?_)
    refine lv_icmp_eq (x := r) (y := r) (tgt := 1582) E.1.1 E.1.2.1 dL_law_1419 (by decide) (fun _ => ?_) (fun h => absurd rfl h)
    exact hk true _ _ hRel2 _ _ _ hR hS hl
  | false =>
    obtain ⟨r, I1, I2, L2, h1, h2, hRel2⟩ := hs.2 q I L hq hRel
    refine lv_aload_n E.1.1 E.1.2.1 dL_law_1411 rfl (lv_at hl 1 rfl) ?_
    refine y_cv (rest := []) E.1 xy_X10_back tw_1149 (M_X10_back_f G l h1) ⟨Nat.le_of_ble_eq_true rfl, Nat.le_of_ble_eq_true rfl⟩ (xce_0 G false _ _) rfl rfl rfl (Nat.le_of_ble_eq_true rfl) hl.1 hR hS (Nat.le_of_eq E.2.2.2.2.1) dL_law_1412 (xSl_ok false) (fun H locs hR hS => ?_)
    refine lv_aload_n E.1.1 E.1.2.1 dL_law_1415 rfl (lv_at hl 2 rfl) ?_
    refine y_cv (rest := [.int r]) E.1 xy_X11_back tw_1740 (M_X11_back G l false xN h2) ⟨Nat.le_of_ble_eq_true rfl, Nat.le_of_ble_eq_true rfl⟩ (xce_57 G false _ _) rfl rfl rfl (Nat.le_of_ble_eq_true rfl) hl.1 hR hS (Nat.le_of_eq E.2.2.2.2.1) dL_law_1416 (xSl_ok false) (fun H locs hR hS => ?_)
    refine lv_icmp_eq (x := r) (y := r) (tgt := 1582) E.1.1 E.1.2.1 dL_law_1419 (by decide) (fun _ => ?_) (fun h => absurd rfl h)
    exact hk false _ _ hRel2 _ _ _ hR hS hl
set_option maxRecDepth 20000 in
theorem law_lay {Rel : Bool → Nat → xTI → xTL → Prop} {G : XG} {l : Launch} {p : Program} {e : Env} {s : State} {m : MethodId} {below : List Frame} {meth : Method} {c : Code} {b Lc q : Nat} {xs : Nat → Int32} (E : xLE G p s m meth c b Lc xs) (hs : xs_lay Rel) {x3 : Int32} (hin : ∀ j : Int32, 1 ≤ j → j ≤ 4 → vp_in (x3 + j) Lc) (hq : q < 512) (hk : xHk Rel G l p e s m below meth c b q x3) {kp : Bool} {I : xTI} {L : xTL} (hRel : Rel kp q I L) {H : Heap} {locs : List Loc} {ls : Array Slot} (hR : xRep G kp I L H) (hS : va_S (xfr G) s.heap H locs) (hl : lv_has ls 4 [(0, .ref b), (1, .ref (xz G + 0)), (2, .ref (xz G + 57)), (3, .int x3)]) : W p l e room_1 s m #[Value.ref b] below meth c H locs (xK kp) (xSl kp) (lw_Z below #[Value.ref b] s) (F0 m 1424 ls []) := by
  obtain ⟨r, I1, I2, h1, h2, hRel2⟩ := hs kp q I L (xs (x3 + 1).toNatClampNeg) hq hRel
  refine lv_aload_n E.1.1 E.1.2.1 dL_law_1424 rfl (lv_at hl 1 rfl) ?_
  refine lv_aload_n E.1.1 E.1.2.1 dL_law_1425 rfl (lv_at hl 0 rfl) ?_
  refine lv_iload_n E.1.1 E.1.2.1 dL_law_1426 rfl (lv_at hl 3 rfl) ?_
  refine lv_iconst (v := 1) E.1.1 E.1.2.1 dL_law_1427 (by decide) ?_
  refine lv_iadd E.1.1 E.1.2.1 dL_law_1428 ?_
  refine va_sld E.1.1 E.1.2.1 E.2.1 E.2.2.1 E.2.2.2.1 hS (hin 1 (by decide) (by decide)) dL_law_1429 ?_
  refine y_cv (rest := []) E.1 xy_X10_lay tw_1153 (M_X10_lay G l kp xN h1) ⟨Nat.le_of_ble_eq_true rfl, Nat.le_of_ble_eq_true rfl⟩ (xce_0 G kp _ _) rfl rfl rfl (Nat.le_of_ble_eq_true rfl) hl.1 hR hS (Nat.le_of_eq E.2.2.2.2.1) dL_law_1430 (xSl_ok kp) (fun H locs hR hS => ?_)
  refine lv_aload_n E.1.1 E.1.2.1 dL_law_1433 rfl (lv_at hl 2 rfl) ?_
  refine lv_aload_n E.1.1 E.1.2.1 dL_law_1434 rfl (lv_at hl 0 rfl) ?_
  refine lv_iload_n E.1.1 E.1.2.1 dL_law_1435 rfl (lv_at hl 3 rfl) ?_
  refine lv_iconst (v := 1) E.1.1 E.1.2.1 dL_law_1436 (by decide) ?_
  refine lv_iadd E.1.1 E.1.2.1 dL_law_1437 ?_
  refine va_sld E.1.1 E.1.2.1 E.2.1 E.2.2.1 E.2.2.2.1 hS (hin 1 (by decide) (by decide)) dL_law_1438 ?_
  refine y_cv (rest := [.int r]) E.1 xy_X11_lay tw_1744 (M_X11_lay G l kp xN h2) ⟨Nat.le_of_ble_eq_true rfl, Nat.le_of_ble_eq_true rfl⟩ (xce_57 G kp _ _) rfl rfl rfl (Nat.le_of_ble_eq_true rfl) hl.1 hR hS (Nat.le_of_eq E.2.2.2.2.1) dL_law_1439 (xSl_ok kp) (fun H locs hR hS => ?_)
  refine lv_icmp_eq (x := r) (y := r) (tgt := 1582) E.1.1 E.1.2.1 dL_law_1442 (by decide) (fun _ => ?_) (fun h => absurd rfl h)
  exact hk kp _ _ hRel2 _ _ _ hR hS hl
set_option maxRecDepth 20000 in
theorem law_set {Rel : Bool → Nat → xTI → xTL → Prop} {G : XG} {l : Launch} {p : Program} {e : Env} {s : State} {m : MethodId} {below : List Frame} {meth : Method} {c : Code} {b Lc q : Nat} {xs : Nat → Int32} (E : xLE G p s m meth c b Lc xs) (hs : xs_set Rel) {x3 : Int32} (hin : ∀ j : Int32, 1 ≤ j → j ≤ 4 → vp_in (x3 + j) Lc) (hq : q < 512) (hk : xHk Rel G l p e s m below meth c b q x3) {kp : Bool} {I : xTI} {L : xTL} (hRel : Rel kp q I L) {H : Heap} {locs : List Loc} {ls : Array Slot} (hR : xRep G kp I L H) (hS : va_S (xfr G) s.heap H locs) (hl : lv_has ls 4 [(0, .ref b), (1, .ref (xz G + 0)), (2, .ref (xz G + 57)), (3, .int x3)]) : W p l e room_1 s m #[Value.ref b] below meth c H locs (xK kp) (xSl kp) (lw_Z below #[Value.ref b] s) (F0 m 1447 ls []) := by
  obtain ⟨r, I1, I2, h1, h2, hRel2⟩ := hs kp q I L (xs (x3 + 1).toNatClampNeg) (xs (x3 + 2).toNatClampNeg) hq hRel
  refine lv_aload_n E.1.1 E.1.2.1 dL_law_1447 rfl (lv_at hl 1 rfl) ?_
  refine lv_aload_n E.1.1 E.1.2.1 dL_law_1448 rfl (lv_at hl 0 rfl) ?_
  refine lv_iload_n E.1.1 E.1.2.1 dL_law_1449 rfl (lv_at hl 3 rfl) ?_
  refine lv_iconst (v := 1) E.1.1 E.1.2.1 dL_law_1450 (by decide) ?_
  refine lv_iadd E.1.1 E.1.2.1 dL_law_1451 ?_
  refine va_sld E.1.1 E.1.2.1 E.2.1 E.2.2.1 E.2.2.2.1 hS (hin 1 (by decide) (by decide)) dL_law_1452 ?_
  refine lv_aload_n E.1.1 E.1.2.1 dL_law_1453 rfl (lv_at hl 0 rfl) ?_
  refine lv_iload_n E.1.1 E.1.2.1 dL_law_1454 rfl (lv_at hl 3 rfl) ?_
  refine lv_iconst (v := 2) E.1.1 E.1.2.1 dL_law_1455 (by decide) ?_
  refine lv_iadd E.1.1 E.1.2.1 dL_law_1456 ?_
  refine va_sld E.1.1 E.1.2.1 E.2.1 E.2.2.1 E.2.2.2.1 hS (hin 2 (by decide) (by decide)) dL_law_1457 ?_
  refine y_cv (rest := []) E.1 xy_X10_set tw_1158 (M_X10_set G l kp h1) ⟨Nat.le_of_ble_eq_true rfl, Nat.le_of_ble_eq_true rfl⟩ (xce_0 G kp _ _) rfl rfl rfl (Nat.le_of_ble_eq_true rfl) hl.1 hR hS (Nat.le_of_eq E.2.2.2.2.1) dL_law_1458 (xSl_ok kp) (fun H locs hR hS => ?_)
  refine lv_aload_n E.1.1 E.1.2.1 dL_law_1461 rfl (lv_at hl 2 rfl) ?_
  refine lv_aload_n E.1.1 E.1.2.1 dL_law_1462 rfl (lv_at hl 0 rfl) ?_
  refine lv_iload_n E.1.1 E.1.2.1 dL_law_1463 rfl (lv_at hl 3 rfl) ?_
  refine lv_iconst (v := 1) E.1.1 E.1.2.1 dL_law_1464 (by decide) ?_
  refine lv_iadd E.1.1 E.1.2.1 dL_law_1465 ?_
  refine va_sld E.1.1 E.1.2.1 E.2.1 E.2.2.1 E.2.2.2.1 hS (hin 1 (by decide) (by decide)) dL_law_1466 ?_
  refine lv_aload_n E.1.1 E.1.2.1 dL_law_1467 rfl (lv_at hl 0 rfl) ?_
  refine lv_iload_n E.1.1 E.1.2.1 dL_law_1468 rfl (lv_at hl 3 rfl) ?_
  refine lv_iconst (v := 2) E.1.1 E.1.2.1 dL_law_1469 (by decide) ?_
  refine lv_iadd E.1.1 E.1.2.1 dL_law_1470 ?_
  refine va_sld E.1.1 E.1.2.1 E.2.1 E.2.2.1 E.2.2.2.1 hS (hin 2 (by decide) (by decide)) dL_law_1471 ?_
  refine y_cv (rest := [.int r]) E.1 xy_X11_set tw_1748 (M_X11_set G l kp h2) ⟨Nat.le_of_ble_eq_true rfl, Nat.le_of_ble_eq_true rfl⟩ (xce_57 G kp _ _) rfl rfl rfl (Nat.le_of_ble_eq_true rfl) hl.1 hR hS (Nat.le_of_eq E.2.2.2.2.1) dL_law_1472 (xSl_ok kp) (fun H locs hR hS => ?_)
  refine lv_icmp_eq (x := r) (y := r) (tgt := 1582) E.1.1 E.1.2.1 dL_law_1475 (by decide) (fun _ => ?_) (fun h => absurd rfl h)
  exact hk kp _ _ hRel2 _ _ _ hR hS hl
set_option maxRecDepth 20000 in
theorem law_tear {Rel : Bool → Nat → xTI → xTL → Prop} {G : XG} {l : Launch} {p : Program} {e : Env} {s : State} {m : MethodId} {below : List Frame} {meth : Method} {c : Code} {b Lc q : Nat} {xs : Nat → Int32} (E : xLE G p s m meth c b Lc xs) (hs : xs_tear Rel) {x3 : Int32} (hin : ∀ j : Int32, 1 ≤ j → j ≤ 4 → vp_in (x3 + j) Lc) (hq : q < 512) (hk : xHk Rel G l p e s m below meth c b q x3) {kp : Bool} {I : xTI} {L : xTL} (hRel : Rel kp q I L) {H : Heap} {locs : List Loc} {ls : Array Slot} (hR : xRep G kp I L H) (hS : va_S (xfr G) s.heap H locs) (hl : lv_has ls 4 [(0, .ref b), (1, .ref (xz G + 0)), (2, .ref (xz G + 57)), (3, .int x3)]) : W p l e room_1 s m #[Value.ref b] below meth c H locs (xK kp) (xSl kp) (lw_Z below #[Value.ref b] s) (F0 m 1480 ls []) := by
  obtain ⟨r, I1, I2, h1, h2, hRel2⟩ := hs kp q I L hq hRel
  refine lv_aload_n E.1.1 E.1.2.1 dL_law_1480 rfl (lv_at hl 1 rfl) ?_
  refine y_cv (rest := []) E.1 xy_X10_tear tw_1162 (M_X10_tear G l kp h1) ⟨Nat.le_of_ble_eq_true rfl, Nat.le_of_ble_eq_true rfl⟩ (xce_0 G kp _ _) rfl rfl rfl (Nat.le_of_ble_eq_true rfl) hl.1 hR hS (Nat.le_of_eq E.2.2.2.2.1) dL_law_1481 (xSl_ok kp) (fun H locs hR hS => ?_)
  refine lv_aload_n E.1.1 E.1.2.1 dL_law_1484 rfl (lv_at hl 2 rfl) ?_
  refine y_cv (rest := [.int r]) E.1 xy_X11_tear tw_1752 (M_X11_tear G l kp h2) ⟨Nat.le_of_ble_eq_true rfl, Nat.le_of_ble_eq_true rfl⟩ (xce_57 G kp _ _) rfl rfl rfl (Nat.le_of_ble_eq_true rfl) hl.1 hR hS (Nat.le_of_eq E.2.2.2.2.1) dL_law_1485 (xSl_ok kp) (fun H locs hR hS => ?_)
  refine lv_icmp_eq (x := r) (y := r) (tgt := 1582) E.1.1 E.1.2.1 dL_law_1488 (by decide) (fun _ => ?_) (fun h => absurd rfl h)
  exact hk kp _ _ hRel2 _ _ _ hR hS hl
set_option maxRecDepth 20000 in
theorem law_row {Rel : Bool → Nat → xTI → xTL → Prop} {G : XG} {l : Launch} {p : Program} {e : Env} {s : State} {m : MethodId} {below : List Frame} {meth : Method} {c : Code} {b Lc q : Nat} {xs : Nat → Int32} (E : xLE G p s m meth c b Lc xs) (hs : xs_row Rel) {x3 : Int32} (hin : ∀ j : Int32, 1 ≤ j → j ≤ 4 → vp_in (x3 + j) Lc) (hq : q < 512) (hk : xHk Rel G l p e s m below meth c b q x3) {kp : Bool} {I : xTI} {L : xTL} (hRel : Rel kp q I L) {H : Heap} {locs : List Loc} {ls : Array Slot} (hR : xRep G kp I L H) (hS : va_S (xfr G) s.heap H locs) (hl : lv_has ls 4 [(0, .ref b), (1, .ref (xz G + 0)), (2, .ref (xz G + 57)), (3, .int x3)]) : W p l e room_1 s m #[Value.ref b] below meth c H locs (xK kp) (xSl kp) (lw_Z below #[Value.ref b] s) (F0 m 1493 ls []) := by
  obtain ⟨r, I1, I2, h1, h2, hRel2⟩ := hs kp q I L (xs (x3 + 1).toNatClampNeg) hq hRel
  refine lv_aload_n E.1.1 E.1.2.1 dL_law_1493 rfl (lv_at hl 1 rfl) ?_
  refine lv_aload_n E.1.1 E.1.2.1 dL_law_1494 rfl (lv_at hl 0 rfl) ?_
  refine lv_iload_n E.1.1 E.1.2.1 dL_law_1495 rfl (lv_at hl 3 rfl) ?_
  refine lv_iconst (v := 1) E.1.1 E.1.2.1 dL_law_1496 (by decide) ?_
  refine lv_iadd E.1.1 E.1.2.1 dL_law_1497 ?_
  refine va_sld E.1.1 E.1.2.1 E.2.1 E.2.2.1 E.2.2.2.1 hS (hin 1 (by decide) (by decide)) dL_law_1498 ?_
  refine y_cv (rest := []) E.1 xy_X10_row tw_1166 (M_X10_row G l kp h1) ⟨Nat.le_of_ble_eq_true rfl, Nat.le_of_ble_eq_true rfl⟩ (xce_0 G kp _ _) rfl rfl rfl (Nat.le_of_ble_eq_true rfl) hl.1 hR hS (Nat.le_of_eq E.2.2.2.2.1) dL_law_1499 (xSl_ok kp) (fun H locs hR hS => ?_)
  refine lv_aload_n E.1.1 E.1.2.1 dL_law_1502 rfl (lv_at hl 2 rfl) ?_
  refine lv_aload_n E.1.1 E.1.2.1 dL_law_1503 rfl (lv_at hl 0 rfl) ?_
  refine lv_iload_n E.1.1 E.1.2.1 dL_law_1504 rfl (lv_at hl 3 rfl) ?_
  refine lv_iconst (v := 1) E.1.1 E.1.2.1 dL_law_1505 (by decide) ?_
  refine lv_iadd E.1.1 E.1.2.1 dL_law_1506 ?_
  refine va_sld E.1.1 E.1.2.1 E.2.1 E.2.2.1 E.2.2.2.1 hS (hin 1 (by decide) (by decide)) dL_law_1507 ?_
  refine y_cv (rest := [.int r]) E.1 xy_X11_row tw_1756 (M_X11_row G l kp h2) ⟨Nat.le_of_ble_eq_true rfl, Nat.le_of_ble_eq_true rfl⟩ (xce_57 G kp _ _) rfl rfl rfl (Nat.le_of_ble_eq_true rfl) hl.1 hR hS (Nat.le_of_eq E.2.2.2.2.1) dL_law_1508 (xSl_ok kp) (fun H locs hR hS => ?_)
  refine lv_icmp_eq (x := r) (y := r) (tgt := 1582) E.1.1 E.1.2.1 dL_law_1511 (by decide) (fun _ => ?_) (fun h => absurd rfl h)
  exact hk kp _ _ hRel2 _ _ _ hR hS hl
set_option maxRecDepth 20000 in
theorem law_copy {Rel : Bool → Nat → xTI → xTL → Prop} {G : XG} {l : Launch} {p : Program} {e : Env} {s : State} {m : MethodId} {below : List Frame} {meth : Method} {c : Code} {b Lc q : Nat} {xs : Nat → Int32} (E : xLE G p s m meth c b Lc xs) (hs : xs_copy Rel) {x3 : Int32} (hin : ∀ j : Int32, 1 ≤ j → j ≤ 4 → vp_in (x3 + j) Lc) (hq : q < 512) (hk : xHk Rel G l p e s m below meth c b q x3) {kp : Bool} {I : xTI} {L : xTL} (hRel : Rel kp q I L) {H : Heap} {locs : List Loc} {ls : Array Slot} (hR : xRep G kp I L H) (hS : va_S (xfr G) s.heap H locs) (hl : lv_has ls 4 [(0, .ref b), (1, .ref (xz G + 0)), (2, .ref (xz G + 57)), (3, .int x3)]) : W p l e room_1 s m #[Value.ref b] below meth c H locs (xK kp) (xSl kp) (lw_Z below #[Value.ref b] s) (F0 m 1516 ls []) := by
  obtain ⟨r, I1, I2, h1, h2, hRel2⟩ := hs kp q I L (xs (x3 + 1).toNatClampNeg) (xs (x3 + 2).toNatClampNeg) (xs (x3 + 3).toNatClampNeg) hq hRel
  refine lv_aload_n E.1.1 E.1.2.1 dL_law_1516 rfl (lv_at hl 1 rfl) ?_
  refine lv_aload_n E.1.1 E.1.2.1 dL_law_1517 rfl (lv_at hl 0 rfl) ?_
  refine lv_iload_n E.1.1 E.1.2.1 dL_law_1518 rfl (lv_at hl 3 rfl) ?_
  refine lv_iconst (v := 1) E.1.1 E.1.2.1 dL_law_1519 (by decide) ?_
  refine lv_iadd E.1.1 E.1.2.1 dL_law_1520 ?_
  refine va_sld E.1.1 E.1.2.1 E.2.1 E.2.2.1 E.2.2.2.1 hS (hin 1 (by decide) (by decide)) dL_law_1521 ?_
  refine lv_aload_n E.1.1 E.1.2.1 dL_law_1522 rfl (lv_at hl 0 rfl) ?_
  refine lv_iload_n E.1.1 E.1.2.1 dL_law_1523 rfl (lv_at hl 3 rfl) ?_
  refine lv_iconst (v := 2) E.1.1 E.1.2.1 dL_law_1524 (by decide) ?_
  refine lv_iadd E.1.1 E.1.2.1 dL_law_1525 ?_
  refine va_sld E.1.1 E.1.2.1 E.2.1 E.2.2.1 E.2.2.2.1 hS (hin 2 (by decide) (by decide)) dL_law_1526 ?_
  refine lv_aload_n E.1.1 E.1.2.1 dL_law_1527 rfl (lv_at hl 0 rfl) ?_
  refine lv_iload_n E.1.1 E.1.2.1 dL_law_1528 rfl (lv_at hl 3 rfl) ?_
  refine lv_iconst (v := 3) E.1.1 E.1.2.1 dL_law_1529 (by decide) ?_
  refine lv_iadd E.1.1 E.1.2.1 dL_law_1530 ?_
  refine va_sld E.1.1 E.1.2.1 E.2.1 E.2.2.1 E.2.2.2.1 hS (hin 3 (by decide) (by decide)) dL_law_1531 ?_
  refine y_cv (rest := []) E.1 xy_X10_copy tw_1170 (M_X10_copy G l kp h1) ⟨Nat.le_of_ble_eq_true rfl, Nat.le_of_ble_eq_true rfl⟩ (xce_0 G kp _ _) rfl rfl rfl (Nat.le_of_ble_eq_true rfl) hl.1 hR hS (Nat.le_of_eq E.2.2.2.2.1) dL_law_1532 (xSl_ok kp) (fun H locs hR hS => ?_)
  refine lv_aload_n E.1.1 E.1.2.1 dL_law_1535 rfl (lv_at hl 2 rfl) ?_
  refine lv_aload_n E.1.1 E.1.2.1 dL_law_1536 rfl (lv_at hl 0 rfl) ?_
  refine lv_iload_n E.1.1 E.1.2.1 dL_law_1537 rfl (lv_at hl 3 rfl) ?_
  refine lv_iconst (v := 1) E.1.1 E.1.2.1 dL_law_1538 (by decide) ?_
  refine lv_iadd E.1.1 E.1.2.1 dL_law_1539 ?_
  refine va_sld E.1.1 E.1.2.1 E.2.1 E.2.2.1 E.2.2.2.1 hS (hin 1 (by decide) (by decide)) dL_law_1540 ?_
  refine lv_aload_n E.1.1 E.1.2.1 dL_law_1541 rfl (lv_at hl 0 rfl) ?_
  refine lv_iload_n E.1.1 E.1.2.1 dL_law_1542 rfl (lv_at hl 3 rfl) ?_
  refine lv_iconst (v := 2) E.1.1 E.1.2.1 dL_law_1543 (by decide) ?_
  refine lv_iadd E.1.1 E.1.2.1 dL_law_1544 ?_
  refine va_sld E.1.1 E.1.2.1 E.2.1 E.2.2.1 E.2.2.2.1 hS (hin 2 (by decide) (by decide)) dL_law_1545 ?_
  refine lv_aload_n E.1.1 E.1.2.1 dL_law_1546 rfl (lv_at hl 0 rfl) ?_
  refine lv_iload_n E.1.1 E.1.2.1 dL_law_1547 rfl (lv_at hl 3 rfl) ?_
  refine lv_iconst (v := 3) E.1.1 E.1.2.1 dL_law_1548 (by decide) ?_
  refine lv_iadd E.1.1 E.1.2.1 dL_law_1549 ?_
  refine va_sld E.1.1 E.1.2.1 E.2.1 E.2.2.1 E.2.2.2.1 hS (hin 3 (by decide) (by decide)) dL_law_1550 ?_
  refine y_cv (rest := [.int r]) E.1 xy_X11_copy tw_1760 (M_X11_copy G l kp xN h2) ⟨Nat.le_of_ble_eq_true rfl, Nat.le_of_ble_eq_true rfl⟩ (xce_57 G kp _ _) rfl rfl rfl (Nat.le_of_ble_eq_true rfl) hl.1 hR hS (Nat.le_of_eq E.2.2.2.2.1) dL_law_1551 (xSl_ok kp) (fun H locs hR hS => ?_)
  refine lv_icmp_eq (x := r) (y := r) (tgt := 1582) E.1.1 E.1.2.1 dL_law_1554 (by decide) (fun _ => ?_) (fun h => absurd rfl h)
  exact hk kp _ _ hRel2 _ _ _ hR hS hl
set_option maxRecDepth 20000 in
theorem law_status {Rel : Bool → Nat → xTI → xTL → Prop} {G : XG} {l : Launch} {p : Program} {e : Env} {s : State} {m : MethodId} {below : List Frame} {meth : Method} {c : Code} {b Lc q : Nat} {xs : Nat → Int32} (E : xLE G p s m meth c b Lc xs) (hs : xs_status Rel) {x3 : Int32} (hin : ∀ j : Int32, 1 ≤ j → j ≤ 4 → vp_in (x3 + j) Lc) (hq : q < 512) (hk : xHk Rel G l p e s m below meth c b q x3) {kp : Bool} {I : xTI} {L : xTL} (hRel : Rel kp q I L) {H : Heap} {locs : List Loc} {ls : Array Slot} (hR : xRep G kp I L H) (hS : va_S (xfr G) s.heap H locs) (hl : lv_has ls 4 [(0, .ref b), (1, .ref (xz G + 0)), (2, .ref (xz G + 57)), (3, .int x3)]) : W p l e room_1 s m #[Value.ref b] below meth c H locs (xK kp) (xSl kp) (lw_Z below #[Value.ref b] s) (F0 m 1559 ls []) := by
  obtain ⟨r, I1, I2, h1, h2, hRel2⟩ := hs kp q I L (xs (x3 + 1).toNatClampNeg) hq hRel
  refine lv_aload_n E.1.1 E.1.2.1 dL_law_1559 rfl (lv_at hl 1 rfl) ?_
  refine lv_aload_n E.1.1 E.1.2.1 dL_law_1560 rfl (lv_at hl 0 rfl) ?_
  refine lv_iload_n E.1.1 E.1.2.1 dL_law_1561 rfl (lv_at hl 3 rfl) ?_
  refine lv_iconst (v := 1) E.1.1 E.1.2.1 dL_law_1562 (by decide) ?_
  refine lv_iadd E.1.1 E.1.2.1 dL_law_1563 ?_
  refine va_sld E.1.1 E.1.2.1 E.2.1 E.2.2.1 E.2.2.2.1 hS (hin 1 (by decide) (by decide)) dL_law_1564 ?_
  refine y_cv (rest := []) E.1 xy_X10_status tw_1175 (M_X10_status G l kp h1) ⟨Nat.le_of_ble_eq_true rfl, Nat.le_of_ble_eq_true rfl⟩ (xce_0 G kp _ _) rfl rfl rfl (Nat.le_of_ble_eq_true rfl) hl.1 hR hS (Nat.le_of_eq E.2.2.2.2.1) dL_law_1565 (xSl_ok kp) (fun H locs hR hS => ?_)
  refine lv_aload_n E.1.1 E.1.2.1 dL_law_1568 rfl (lv_at hl 2 rfl) ?_
  refine lv_aload_n E.1.1 E.1.2.1 dL_law_1569 rfl (lv_at hl 0 rfl) ?_
  refine lv_iload_n E.1.1 E.1.2.1 dL_law_1570 rfl (lv_at hl 3 rfl) ?_
  refine lv_iconst (v := 1) E.1.1 E.1.2.1 dL_law_1571 (by decide) ?_
  refine lv_iadd E.1.1 E.1.2.1 dL_law_1572 ?_
  refine va_sld E.1.1 E.1.2.1 E.2.1 E.2.2.1 E.2.2.2.1 hS (hin 1 (by decide) (by decide)) dL_law_1573 ?_
  refine y_cv (rest := [.int r]) E.1 xy_X11_status tw_1331 (M_X11_status G l kp h2) ⟨Nat.le_of_ble_eq_true rfl, Nat.le_of_ble_eq_true rfl⟩ (xce_57 G kp _ _) rfl rfl rfl (Nat.le_of_ble_eq_true rfl) hl.1 hR hS (Nat.le_of_eq E.2.2.2.2.1) dL_law_1574 (xSl_ok kp) (fun H locs hR hS => ?_)
  refine lv_icmp_eq (x := r) (y := r) (tgt := 1582) E.1.1 E.1.2.1 dL_law_1577 (by decide) (fun _ => ?_) (fun h => absurd rfl h)
  exact hk kp _ _ hRel2 _ _ _ hR hS hl
