set_option maxHeartbeats 1000000 in
set_option maxRecDepth 20000 in
theorem lc_0 {p : Program} {l : Launch} {e : Env} {s : State} {m : MethodId} {below : List Frame} {meth : Method} {c : Code} {b L : Nat} {xs : Nat → Int32} {H : Heap} {locs : List Loc} {cells slots : Nat} {Q : State → Prop} {dC : Nat → ClassId} {dI : Nat → Nat → Nat} (C0 : LW p l s m meth c b L xs) (hL : L ≤ 3072) {n : Nat} (hn : n + 6 ≤ L) {h0 g0 q9 : Nat} (hI : LI (dC, dI) s h0 g0 q9 H locs) (hcs : cells ≤ 400000 ∧ slots ≤ 6000000) (ls : Array Slot) (hl : lv_has ls 7 [(4, .int (nI n)), (3, .ref q9), (2, .ref g0), (1, .ref h0), (0, .ref b)])
    (kk : ∀ (H : Heap) (locs : List Loc), LI (dC, dI) s h0 g0 q9 H locs → ∀ ls : Array Slot, lv_has ls 7 [(4, .int (nI n)), (3, .ref q9), (2, .ref g0), (1, .ref h0), (0, .ref b)] → W p l e room_1 s m #[Value.ref b] below meth c H locs (cells + 50) (slots + 300) Q (F0 m 1953 ls [])) : W p l e room_1 s m #[Value.ref b] below meth c H locs cells slots Q (F0 m 256 ls []) := by
  obtain ⟨⟨hx, hb, -⟩, -⟩ := id C0
  have hb : c.code = cL_law := hb
  obtain ⟨A, U, C, na, nu, nk, X, B, E, M, o, RV, qa, qu, qk, cO, fO, rfl, rfl, hKX, hKM, hKQ, hKO, hR, hH⟩ := hI
  have hc5 : cells ≤ 500000 ∧ slots ≤ 7000000 := ⟨by omega, by omega⟩
  obtain ⟨rx, X', rm, M', o', ex, em, hR', he⟩ := st_feed (k1 := xs (n + 1)) (k2 := xs (n + 2)) (k3 := xs (n + 3)) (k4 := xs (n + 4)) (k5 := xs (n + 5)) hR
  refine lv_aload_n hx hb dL_law_256 rfl (lv_at hl 3 rfl) ?_
  refine ld_a C0 hH.2.2 (lv_at hl 4 rfl) (lv_at hl 0 rfl) (show n + 1 < L by omega) hL rfl dL_law_257 dL_law_258 dL_law_260 dL_law_261 dL_law_262 ?_
  refine ld_a C0 hH.2.2 (lv_at hl 4 rfl) (lv_at hl 0 rfl) (show n + 2 < L by omega) hL rfl dL_law_263 dL_law_264 dL_law_266 dL_law_267 dL_law_268 ?_
  refine ld_a C0 hH.2.2 (lv_at hl 4 rfl) (lv_at hl 0 rfl) (show n + 3 < L by omega) hL rfl dL_law_269 dL_law_270 dL_law_272 dL_law_273 dL_law_274 ?_
  refine ld_a C0 hH.2.2 (lv_at hl 4 rfl) (lv_at hl 0 rfl) (show n + 4 < L by omega) hL rfl dL_law_275 dL_law_276 dL_law_278 dL_law_279 dL_law_280 ?_
  refine ld_a C0 hH.2.2 (lv_at hl 4 rfl) (lv_at hl 0 rfl) (show n + 5 < L by omega) hL rfl dL_law_281 dL_law_282 dL_law_284 dL_law_285 dL_law_286 ?_
  refine cx_feed C0 hKX hH hl.1 (Nat.le_of_ble_eq_true rfl) hc5 dL_law_287 glX_feed rx X' ex (fun H locs hH => ?_)
  refine lv_pop hx hb dL_law_290 rfl ?_
  have hH := hH.perm (cat_swap _ _ _)
  refine lv_aload_n hx hb dL_law_291 rfl (lv_at hl 2 rfl) ?_
  refine ld_a C0 hH.2.2 (lv_at hl 4 rfl) (lv_at hl 0 rfl) (show n + 1 < L by omega) hL rfl dL_law_292 dL_law_293 dL_law_295 dL_law_296 dL_law_297 ?_
  refine ld_a C0 hH.2.2 (lv_at hl 4 rfl) (lv_at hl 0 rfl) (show n + 2 < L by omega) hL rfl dL_law_298 dL_law_299 dL_law_301 dL_law_302 dL_law_303 ?_
  refine ld_a C0 hH.2.2 (lv_at hl 4 rfl) (lv_at hl 0 rfl) (show n + 3 < L by omega) hL rfl dL_law_304 dL_law_305 dL_law_307 dL_law_308 dL_law_309 ?_
  refine ld_a C0 hH.2.2 (lv_at hl 4 rfl) (lv_at hl 0 rfl) (show n + 4 < L by omega) hL rfl dL_law_310 dL_law_311 dL_law_313 dL_law_314 dL_law_315 ?_
  refine ld_a C0 hH.2.2 (lv_at hl 4 rfl) (lv_at hl 0 rfl) (show n + 5 < L by omega) hL rfl dL_law_316 dL_law_317 dL_law_319 dL_law_320 dL_law_321 ?_
  refine cn_feed C0 hKM hKQ hH hl.1 (Nat.le_of_ble_eq_true rfl) hc5 dL_law_322 glM_feed rm M' o' em (fun RV qa qu qk H locs hKQ hH => ?_)
  have hH := hH.perm (cat_swap _ _ _)
  refine lv_pop hx hb dL_law_325 rfl ?_
  refine lv_goto (tgt := 1953) hx hb dL_law_326 (by decide) ?_
  exact W.widen (by omega) (by omega) (kk H locs ⟨A, U, C, na, nu, nk, X', B, E, M', o', RV, qa, qu, qk, cO, fO, rfl, rfl, hKX, hKM, hKQ, hKO, hR', hH⟩ ls hl)
set_option maxHeartbeats 1000000 in
set_option maxRecDepth 20000 in
theorem lc_1 {p : Program} {l : Launch} {e : Env} {s : State} {m : MethodId} {below : List Frame} {meth : Method} {c : Code} {b L : Nat} {xs : Nat → Int32} {H : Heap} {locs : List Loc} {cells slots : Nat} {Q : State → Prop} {dC : Nat → ClassId} {dI : Nat → Nat → Nat} (C0 : LW p l s m meth c b L xs) (hL : L ≤ 3072) {n : Nat} (hn : n + 6 ≤ L) {h0 g0 q9 : Nat} (hI : LI (dC, dI) s h0 g0 q9 H locs) (hcs : cells ≤ 400000 ∧ slots ≤ 6000000) (ls : Array Slot) (hl : lv_has ls 7 [(4, .int (nI n)), (3, .ref q9), (2, .ref g0), (1, .ref h0), (0, .ref b)])
    (kk : ∀ (H : Heap) (locs : List Loc), LI (dC, dI) s h0 g0 q9 H locs → ∀ ls : Array Slot, lv_has ls 7 [(4, .int (nI n)), (3, .ref q9), (2, .ref g0), (1, .ref h0), (0, .ref b)] → W p l e room_1 s m #[Value.ref b] below meth c H locs (cells + 50) (slots + 300) Q (F0 m 1953 ls [])) : W p l e room_1 s m #[Value.ref b] below meth c H locs cells slots Q (F0 m 329 ls []) := by
  obtain ⟨⟨hx, hb, -⟩, -⟩ := id C0
  have hb : c.code = cL_law := hb
  obtain ⟨A, U, C, na, nu, nk, X, B, E, M, o, RV, qa, qu, qk, cO, fO, rfl, rfl, hKX, hKM, hKQ, hKO, hR, hH⟩ := hI
  have hc5 : cells ≤ 500000 ∧ slots ≤ 7000000 := ⟨by omega, by omega⟩
  obtain ⟨rx, X', rm, M', o', ex, em, hR', he⟩ := st_pier (k1 := xs (n + 1)) hR
  refine lv_aload_n hx hb dL_law_329 rfl (lv_at hl 3 rfl) ?_
  refine ld_a C0 hH.2.2 (lv_at hl 4 rfl) (lv_at hl 0 rfl) (show n + 1 < L by omega) hL rfl dL_law_330 dL_law_331 dL_law_333 dL_law_334 dL_law_335 ?_
  refine cx_pier C0 hKX hH hl.1 (Nat.le_of_ble_eq_true rfl) hc5 dL_law_336 glX_pier rx X' ex (fun A' U' C' H locs hA' hKX hH => ?_)
  refine lv_pop hx hb dL_law_339 rfl ?_
  have hH := hH.perm (cat_swap _ _ _)
  refine lv_aload_n hx hb dL_law_340 rfl (lv_at hl 2 rfl) ?_
  refine ld_a C0 hH.2.2 (lv_at hl 4 rfl) (lv_at hl 0 rfl) (show n + 1 < L by omega) hL rfl dL_law_341 dL_law_342 dL_law_344 dL_law_345 dL_law_346 ?_
  refine cn_pier C0 hKM hKQ hH hl.1 (Nat.le_of_ble_eq_true rfl) hc5 dL_law_347 glM_pier_r glM_pier_f glM_pier_o rm M' o' em (fun RV qa qu qk H locs hKQ hH => ?_)
  have hH := hH.perm (cat_swap _ _ _)
  refine lv_pop hx hb dL_law_350 rfl ?_
  refine lv_goto (tgt := 1953) hx hb dL_law_351 (by decide) ?_
  exact W.widen (by omega) (by omega) (kk H locs ⟨A', U', C', na, nu, nk, X', B, E, M', o', RV, qa, qu, qk, cO, fO, hA', rfl, hKX, hKM, hKQ, hKO, hR', hH⟩ ls hl)
set_option maxHeartbeats 1000000 in
set_option maxRecDepth 20000 in
theorem lc_2 {p : Program} {l : Launch} {e : Env} {s : State} {m : MethodId} {below : List Frame} {meth : Method} {c : Code} {b L : Nat} {xs : Nat → Int32} {H : Heap} {locs : List Loc} {cells slots : Nat} {Q : State → Prop} {dC : Nat → ClassId} {dI : Nat → Nat → Nat} (C0 : LW p l s m meth c b L xs) (hL : L ≤ 3072) {n : Nat} (hn : n + 6 ≤ L) {h0 g0 q9 : Nat} (hI : LI (dC, dI) s h0 g0 q9 H locs) (hcs : cells ≤ 400000 ∧ slots ≤ 6000000) (ls : Array Slot) (hl : lv_has ls 7 [(4, .int (nI n)), (3, .ref q9), (2, .ref g0), (1, .ref h0), (0, .ref b)])
    (kk : ∀ (H : Heap) (locs : List Loc), LI (dC, dI) s h0 g0 q9 H locs → ∀ ls : Array Slot, lv_has ls 7 [(4, .int (nI n)), (3, .ref q9), (2, .ref g0), (1, .ref h0), (0, .ref b)] → W p l e room_1 s m #[Value.ref b] below meth c H locs (cells + 50) (slots + 300) Q (F0 m 1953 ls [])) : W p l e room_1 s m #[Value.ref b] below meth c H locs cells slots Q (F0 m 354 ls []) := by
  obtain ⟨⟨hx, hb, -⟩, -⟩ := id C0
  have hb : c.code = cL_law := hb
  obtain ⟨A, U, C, na, nu, nk, X, B, E, M, o, RV, qa, qu, qk, cO, fO, rfl, rfl, hKX, hKM, hKQ, hKO, hR, hH⟩ := hI
  have hc5 : cells ≤ 500000 ∧ slots ≤ 7000000 := ⟨by omega, by omega⟩
  obtain ⟨rx, X', rm, M', o', ex, em, hR', he⟩ := st_fault  hR
  refine lv_aload_n hx hb dL_law_354 rfl (lv_at hl 3 rfl) ?_
  refine cx_fault C0 hKX hH hl.1 (Nat.le_of_ble_eq_true rfl) hc5 dL_law_355 glX_fault rx X' ex (fun H locs hH => ?_)
  have hH := hH.perm (cat_swap _ _ _)
  refine lv_aload_n hx hb dL_law_358 rfl (lv_at hl 2 rfl) ?_
  refine cn_fault C0 hKM hKQ hH hl.1 (Nat.le_of_ble_eq_true rfl) hc5 dL_law_359 glM_fault rm M' o' em (fun RV qa qu qk H locs hKQ hH => ?_)
  have hH := hH.perm (cat_swap _ _ _)
  refine lv_icmp_eq (tgt := 1953) hx hb dL_law_362 (by decide) (fun _ => ?_) (fun c9 => absurd he c9)
  exact W.widen (by omega) (by omega) (kk H locs ⟨A, U, C, na, nu, nk, X', B, E, M', o', RV, qa, qu, qk, cO, fO, rfl, rfl, hKX, hKM, hKQ, hKO, hR', hH⟩ ls hl)
set_option maxHeartbeats 1000000 in
set_option maxRecDepth 20000 in
theorem lc_3 {p : Program} {l : Launch} {e : Env} {s : State} {m : MethodId} {below : List Frame} {meth : Method} {c : Code} {b L : Nat} {xs : Nat → Int32} {H : Heap} {locs : List Loc} {cells slots : Nat} {Q : State → Prop} {dC : Nat → ClassId} {dI : Nat → Nat → Nat} (C0 : LW p l s m meth c b L xs) (hL : L ≤ 3072) {n : Nat} (hn : n + 6 ≤ L) {h0 g0 q9 : Nat} (hI : LI (dC, dI) s h0 g0 q9 H locs) (hcs : cells ≤ 400000 ∧ slots ≤ 6000000) (ls : Array Slot) (hl : lv_has ls 7 [(4, .int (nI n)), (3, .ref q9), (2, .ref g0), (1, .ref h0), (0, .ref b)])
    (kk : ∀ (H : Heap) (locs : List Loc), LI (dC, dI) s h0 g0 q9 H locs → ∀ ls : Array Slot, lv_has ls 7 [(4, .int (nI n)), (3, .ref q9), (2, .ref g0), (1, .ref h0), (0, .ref b)] → W p l e room_1 s m #[Value.ref b] below meth c H locs (cells + 50) (slots + 300) Q (F0 m 1953 ls [])) : W p l e room_1 s m #[Value.ref b] below meth c H locs cells slots Q (F0 m 367 ls []) := by
  obtain ⟨⟨hx, hb, -⟩, -⟩ := id C0
  have hb : c.code = cL_law := hb
  obtain ⟨A, U, C, na, nu, nk, X, B, E, M, o, RV, qa, qu, qk, cO, fO, rfl, rfl, hKX, hKM, hKQ, hKO, hR, hH⟩ := hI
  have hc5 : cells ≤ 500000 ∧ slots ≤ 7000000 := ⟨by omega, by omega⟩
  obtain ⟨rx, X', rm, M', o', ex, em, hR', he⟩ := st_where  hR
  refine lv_aload_n hx hb dL_law_367 rfl (lv_at hl 3 rfl) ?_
  refine cx_where C0 hKX hH hl.1 (Nat.le_of_ble_eq_true rfl) hc5 dL_law_368 glX_where rx X' ex (fun H locs hH => ?_)
  refine lv_pop hx hb dL_law_371 rfl ?_
  have hH := hH.perm (cat_swap _ _ _)
  refine lv_aload_n hx hb dL_law_372 rfl (lv_at hl 2 rfl) ?_
  refine cn_where C0 hKM hKQ hH hl.1 (Nat.le_of_ble_eq_true rfl) hc5 dL_law_373 glM_where rm M' o' em (fun RV qa qu qk H locs hKQ hH => ?_)
  have hH := hH.perm (cat_swap _ _ _)
  refine lv_pop hx hb dL_law_376 rfl ?_
  refine lv_goto (tgt := 1953) hx hb dL_law_377 (by decide) ?_
  exact W.widen (by omega) (by omega) (kk H locs ⟨A, U, C, na, nu, nk, X', B, E, M', o', RV, qa, qu, qk, cO, fO, rfl, rfl, hKX, hKM, hKQ, hKO, hR', hH⟩ ls hl)
set_option maxHeartbeats 1000000 in
set_option maxRecDepth 20000 in
theorem lc_4 {p : Program} {l : Launch} {e : Env} {s : State} {m : MethodId} {below : List Frame} {meth : Method} {c : Code} {b L : Nat} {xs : Nat → Int32} {H : Heap} {locs : List Loc} {cells slots : Nat} {Q : State → Prop} {dC : Nat → ClassId} {dI : Nat → Nat → Nat} (C0 : LW p l s m meth c b L xs) (hL : L ≤ 3072) {n : Nat} (hn : n + 6 ≤ L) {h0 g0 q9 : Nat} (hI : LI (dC, dI) s h0 g0 q9 H locs) (hcs : cells ≤ 400000 ∧ slots ≤ 6000000) (ls : Array Slot) (hl : lv_has ls 7 [(4, .int (nI n)), (3, .ref q9), (2, .ref g0), (1, .ref h0), (0, .ref b)])
    (kk : ∀ (H : Heap) (locs : List Loc), LI (dC, dI) s h0 g0 q9 H locs → ∀ ls : Array Slot, lv_has ls 7 [(4, .int (nI n)), (3, .ref q9), (2, .ref g0), (1, .ref h0), (0, .ref b)] → W p l e room_1 s m #[Value.ref b] below meth c H locs (cells + 50) (slots + 300) Q (F0 m 1953 ls [])) : W p l e room_1 s m #[Value.ref b] below meth c H locs cells slots Q (F0 m 380 ls []) := by
  obtain ⟨⟨hx, hb, -⟩, -⟩ := id C0
  have hb : c.code = cL_law := hb
  obtain ⟨A, U, C, na, nu, nk, X, B, E, M, o, RV, qa, qu, qk, cO, fO, rfl, rfl, hKX, hKM, hKQ, hKO, hR, hH⟩ := hI
  have hc5 : cells ≤ 500000 ∧ slots ≤ 7000000 := ⟨by omega, by omega⟩
  obtain ⟨rx, X', rm, M', o', ex, em, hR', he⟩ := st_answer (k1 := xs (n + 1)) (k2 := xs (n + 2)) hR
  refine lv_aload_n hx hb dL_law_380 rfl (lv_at hl 3 rfl) ?_
  refine ld_a C0 hH.2.2 (lv_at hl 4 rfl) (lv_at hl 0 rfl) (show n + 1 < L by omega) hL rfl dL_law_381 dL_law_382 dL_law_384 dL_law_385 dL_law_386 ?_
  refine ld_a C0 hH.2.2 (lv_at hl 4 rfl) (lv_at hl 0 rfl) (show n + 2 < L by omega) hL rfl dL_law_387 dL_law_388 dL_law_390 dL_law_391 dL_law_392 ?_
  refine cx_answer C0 hKX hH hl.1 (Nat.le_of_ble_eq_true rfl) hc5 dL_law_393 glX_answer rx X' ex (fun H locs hH => ?_)
  refine lv_pop hx hb dL_law_396 rfl ?_
  have hH := hH.perm (cat_swap _ _ _)
  refine lv_aload_n hx hb dL_law_397 rfl (lv_at hl 2 rfl) ?_
  refine ld_a C0 hH.2.2 (lv_at hl 4 rfl) (lv_at hl 0 rfl) (show n + 1 < L by omega) hL rfl dL_law_398 dL_law_399 dL_law_401 dL_law_402 dL_law_403 ?_
  refine ld_a C0 hH.2.2 (lv_at hl 4 rfl) (lv_at hl 0 rfl) (show n + 2 < L by omega) hL rfl dL_law_404 dL_law_405 dL_law_407 dL_law_408 dL_law_409 ?_
  refine cn_answer C0 hKM hKQ hH hl.1 (Nat.le_of_ble_eq_true rfl) hc5 dL_law_410 glM_answer_nul glM_answer rm M' o' em (fun RV qa qu qk H locs hKQ hH => ?_)
  have hH := hH.perm (cat_swap _ _ _)
  refine lv_pop hx hb dL_law_413 rfl ?_
  refine lv_goto (tgt := 1953) hx hb dL_law_414 (by decide) ?_
  exact W.widen (by omega) (by omega) (kk H locs ⟨A, U, C, na, nu, nk, X', B, E, M', o', RV, qa, qu, qk, cO, fO, rfl, rfl, hKX, hKM, hKQ, hKO, hR', hH⟩ ls hl)
set_option maxHeartbeats 1000000 in
set_option maxRecDepth 20000 in
theorem lc_5 {p : Program} {l : Launch} {e : Env} {s : State} {m : MethodId} {below : List Frame} {meth : Method} {c : Code} {b L : Nat} {xs : Nat → Int32} {H : Heap} {locs : List Loc} {cells slots : Nat} {Q : State → Prop} {dC : Nat → ClassId} {dI : Nat → Nat → Nat} (C0 : LW p l s m meth c b L xs) (hL : L ≤ 3072) {n : Nat} (hn : n + 6 ≤ L) {h0 g0 q9 : Nat} (hI : LI (dC, dI) s h0 g0 q9 H locs) (hcs : cells ≤ 400000 ∧ slots ≤ 6000000) (ls : Array Slot) (hl : lv_has ls 7 [(4, .int (nI n)), (3, .ref q9), (2, .ref g0), (1, .ref h0), (0, .ref b)])
    (kk : ∀ (H : Heap) (locs : List Loc), LI (dC, dI) s h0 g0 q9 H locs → ∀ ls : Array Slot, lv_has ls 7 [(4, .int (nI n)), (3, .ref q9), (2, .ref g0), (1, .ref h0), (0, .ref b)] → W p l e room_1 s m #[Value.ref b] below meth c H locs (cells + 50) (slots + 300) Q (F0 m 1953 ls [])) : W p l e room_1 s m #[Value.ref b] below meth c H locs cells slots Q (F0 m 417 ls []) := by
  obtain ⟨⟨hx, hb, -⟩, -⟩ := id C0
  have hb : c.code = cL_law := hb
  obtain ⟨A, U, C, na, nu, nk, X, B, E, M, o, RV, qa, qu, qk, cO, fO, rfl, rfl, hKX, hKM, hKQ, hKO, hR, hH⟩ := hI
  have hc5 : cells ≤ 500000 ∧ slots ≤ 7000000 := ⟨by omega, by omega⟩
  obtain ⟨rx, X', rm, M', o', ex, em, hR', he⟩ := st_asker (k1 := xs (n + 1)) (k2 := xs (n + 2)) hR
  refine lv_aload_n hx hb dL_law_417 rfl (lv_at hl 3 rfl) ?_
  refine ld_a C0 hH.2.2 (lv_at hl 4 rfl) (lv_at hl 0 rfl) (show n + 1 < L by omega) hL rfl dL_law_418 dL_law_419 dL_law_421 dL_law_422 dL_law_423 ?_
  refine ld_a C0 hH.2.2 (lv_at hl 4 rfl) (lv_at hl 0 rfl) (show n + 2 < L by omega) hL rfl dL_law_424 dL_law_425 dL_law_427 dL_law_428 dL_law_429 ?_
  refine cx_asker C0 hKX hH hl.1 (Nat.le_of_ble_eq_true rfl) hc5 dL_law_430 glX_asker rx X' ex (fun H locs hH => ?_)
  refine lv_pop hx hb dL_law_433 rfl ?_
  have hH := hH.perm (cat_swap _ _ _)
  refine lv_aload_n hx hb dL_law_434 rfl (lv_at hl 2 rfl) ?_
  refine ld_a C0 hH.2.2 (lv_at hl 4 rfl) (lv_at hl 0 rfl) (show n + 1 < L by omega) hL rfl dL_law_435 dL_law_436 dL_law_438 dL_law_439 dL_law_440 ?_
  refine ld_a C0 hH.2.2 (lv_at hl 4 rfl) (lv_at hl 0 rfl) (show n + 2 < L by omega) hL rfl dL_law_441 dL_law_442 dL_law_444 dL_law_445 dL_law_446 ?_
  refine cn_asker C0 hKM hKQ hH hl.1 (Nat.le_of_ble_eq_true rfl) hc5 dL_law_447 glM_asker_nul glM_asker rm M' o' em (fun RV qa qu qk H locs hKQ hH => ?_)
  have hH := hH.perm (cat_swap _ _ _)
  refine lv_pop hx hb dL_law_450 rfl ?_
  refine lv_goto (tgt := 1953) hx hb dL_law_451 (by decide) ?_
  exact W.widen (by omega) (by omega) (kk H locs ⟨A, U, C, na, nu, nk, X', B, E, M', o', RV, qa, qu, qk, cO, fO, rfl, rfl, hKX, hKM, hKQ, hKO, hR', hH⟩ ls hl)
set_option maxHeartbeats 1000000 in
set_option maxRecDepth 20000 in
theorem lc_6 {p : Program} {l : Launch} {e : Env} {s : State} {m : MethodId} {below : List Frame} {meth : Method} {c : Code} {b L : Nat} {xs : Nat → Int32} {H : Heap} {locs : List Loc} {cells slots : Nat} {Q : State → Prop} {dC : Nat → ClassId} {dI : Nat → Nat → Nat} (C0 : LW p l s m meth c b L xs) (hL : L ≤ 3072) {n : Nat} (hn : n + 6 ≤ L) {h0 g0 q9 : Nat} (hI : LI (dC, dI) s h0 g0 q9 H locs) (hcs : cells ≤ 400000 ∧ slots ≤ 6000000) (ls : Array Slot) (hl : lv_has ls 7 [(4, .int (nI n)), (3, .ref q9), (2, .ref g0), (1, .ref h0), (0, .ref b)])
    (kk : ∀ (H : Heap) (locs : List Loc), LI (dC, dI) s h0 g0 q9 H locs → ∀ ls : Array Slot, lv_has ls 7 [(4, .int (nI n)), (3, .ref q9), (2, .ref g0), (1, .ref h0), (0, .ref b)] → W p l e room_1 s m #[Value.ref b] below meth c H locs (cells + 50) (slots + 300) Q (F0 m 1953 ls [])) : W p l e room_1 s m #[Value.ref b] below meth c H locs cells slots Q (F0 m 454 ls []) := by
  obtain ⟨⟨hx, hb, -⟩, -⟩ := id C0
  have hb : c.code = cL_law := hb
  obtain ⟨A, U, C, na, nu, nk, X, B, E, M, o, RV, qa, qu, qk, cO, fO, rfl, rfl, hKX, hKM, hKQ, hKO, hR, hH⟩ := hI
  have hc5 : cells ≤ 500000 ∧ slots ≤ 7000000 := ⟨by omega, by omega⟩
  obtain ⟨rx, X', rm, M', o', ex, em, hR', he⟩ := st_close (k1 := xs (n + 1)) hR
  refine lv_aload_n hx hb dL_law_454 rfl (lv_at hl 3 rfl) ?_
  refine ld_a C0 hH.2.2 (lv_at hl 4 rfl) (lv_at hl 0 rfl) (show n + 1 < L by omega) hL rfl dL_law_455 dL_law_456 dL_law_458 dL_law_459 dL_law_460 ?_
  refine cx_close C0 hKX hH hl.1 (Nat.le_of_ble_eq_true rfl) hc5 dL_law_461 glX_close rx X' ex (fun H locs hH => ?_)
  refine lv_pop hx hb dL_law_464 rfl ?_
  have hH := hH.perm (cat_swap _ _ _)
  refine lv_aload_n hx hb dL_law_465 rfl (lv_at hl 2 rfl) ?_
  refine ld_a C0 hH.2.2 (lv_at hl 4 rfl) (lv_at hl 0 rfl) (show n + 1 < L by omega) hL rfl dL_law_466 dL_law_467 dL_law_469 dL_law_470 dL_law_471 ?_
  refine cn_close C0 hKM hKQ hH hl.1 (Nat.le_of_ble_eq_true rfl) hc5 dL_law_472 glM_close_nul glM_close rm M' o' em (fun RV qa qu qk H locs hKQ hH => ?_)
  have hH := hH.perm (cat_swap _ _ _)
  refine lv_pop hx hb dL_law_475 rfl ?_
  refine lv_goto (tgt := 1953) hx hb dL_law_476 (by decide) ?_
  exact W.widen (by omega) (by omega) (kk H locs ⟨A, U, C, na, nu, nk, X', B, E, M', o', RV, qa, qu, qk, cO, fO, rfl, rfl, hKX, hKM, hKQ, hKO, hR', hH⟩ ls hl)
set_option maxHeartbeats 1000000 in
set_option maxRecDepth 20000 in
theorem lc_7 {p : Program} {l : Launch} {e : Env} {s : State} {m : MethodId} {below : List Frame} {meth : Method} {c : Code} {b L : Nat} {xs : Nat → Int32} {H : Heap} {locs : List Loc} {cells slots : Nat} {Q : State → Prop} {dC : Nat → ClassId} {dI : Nat → Nat → Nat} (C0 : LW p l s m meth c b L xs) (hL : L ≤ 3072) {n : Nat} (hn : n + 6 ≤ L) {h0 g0 q9 : Nat} (hI : LI (dC, dI) s h0 g0 q9 H locs) (hcs : cells ≤ 400000 ∧ slots ≤ 6000000) (ls : Array Slot) (hl : lv_has ls 7 [(4, .int (nI n)), (3, .ref q9), (2, .ref g0), (1, .ref h0), (0, .ref b)])
    (kk : ∀ (H : Heap) (locs : List Loc), LI (dC, dI) s h0 g0 q9 H locs → ∀ ls : Array Slot, lv_has ls 7 [(4, .int (nI n)), (3, .ref q9), (2, .ref g0), (1, .ref h0), (0, .ref b)] → W p l e room_1 s m #[Value.ref b] below meth c H locs (cells + 50) (slots + 300) Q (F0 m 1953 ls [])) : W p l e room_1 s m #[Value.ref b] below meth c H locs cells slots Q (F0 m 479 ls []) := by
  obtain ⟨⟨hx, hb, -⟩, -⟩ := id C0
  have hb : c.code = cL_law := hb
  obtain ⟨A, U, C, na, nu, nk, X, B, E, M, o, RV, qa, qu, qk, cO, fO, rfl, rfl, hKX, hKM, hKQ, hKO, hR, hH⟩ := hI
  have hc5 : cells ≤ 500000 ∧ slots ≤ 7000000 := ⟨by omega, by omega⟩
  obtain ⟨rx, X', rm, M', o', ex, em, hR', he⟩ := st_wish (k1 := xs (n + 1)) (k2 := xs (n + 2)) (k3 := xs (n + 3)) (k4 := xs (n + 4)) hR
  refine lv_aload_n hx hb dL_law_479 rfl (lv_at hl 3 rfl) ?_
  refine ld_a C0 hH.2.2 (lv_at hl 4 rfl) (lv_at hl 0 rfl) (show n + 1 < L by omega) hL rfl dL_law_480 dL_law_481 dL_law_483 dL_law_484 dL_law_485 ?_
  refine ld_a C0 hH.2.2 (lv_at hl 4 rfl) (lv_at hl 0 rfl) (show n + 2 < L by omega) hL rfl dL_law_486 dL_law_487 dL_law_489 dL_law_490 dL_law_491 ?_
  refine ld_a C0 hH.2.2 (lv_at hl 4 rfl) (lv_at hl 0 rfl) (show n + 3 < L by omega) hL rfl dL_law_492 dL_law_493 dL_law_495 dL_law_496 dL_law_497 ?_
  refine ld_a C0 hH.2.2 (lv_at hl 4 rfl) (lv_at hl 0 rfl) (show n + 4 < L by omega) hL rfl dL_law_498 dL_law_499 dL_law_501 dL_law_502 dL_law_503 ?_
  refine cx_wish C0 hKX hH hl.1 (Nat.le_of_ble_eq_true rfl) hc5 dL_law_504 glX_wish rx X' ex (fun H locs hH => ?_)
  refine lv_pop hx hb dL_law_507 rfl ?_
  have hH := hH.perm (cat_swap _ _ _)
  refine lv_aload_n hx hb dL_law_508 rfl (lv_at hl 2 rfl) ?_
  refine ld_a C0 hH.2.2 (lv_at hl 4 rfl) (lv_at hl 0 rfl) (show n + 1 < L by omega) hL rfl dL_law_509 dL_law_510 dL_law_512 dL_law_513 dL_law_514 ?_
  refine ld_a C0 hH.2.2 (lv_at hl 4 rfl) (lv_at hl 0 rfl) (show n + 2 < L by omega) hL rfl dL_law_515 dL_law_516 dL_law_518 dL_law_519 dL_law_520 ?_
  refine ld_a C0 hH.2.2 (lv_at hl 4 rfl) (lv_at hl 0 rfl) (show n + 3 < L by omega) hL rfl dL_law_521 dL_law_522 dL_law_524 dL_law_525 dL_law_526 ?_
  refine ld_a C0 hH.2.2 (lv_at hl 4 rfl) (lv_at hl 0 rfl) (show n + 4 < L by omega) hL rfl dL_law_527 dL_law_528 dL_law_530 dL_law_531 dL_law_532 ?_
  refine cn_wish C0 hKM hKQ hH hl.1 (Nat.le_of_ble_eq_true rfl) hc5 dL_law_533 glM_wish_nul glM_wish rm M' o' em (fun RV qa qu qk H locs hKQ hH => ?_)
  have hH := hH.perm (cat_swap _ _ _)
  refine lv_pop hx hb dL_law_536 rfl ?_
  refine lv_goto (tgt := 1953) hx hb dL_law_537 (by decide) ?_
  exact W.widen (by omega) (by omega) (kk H locs ⟨A, U, C, na, nu, nk, X', B, E, M', o', RV, qa, qu, qk, cO, fO, rfl, rfl, hKX, hKM, hKQ, hKO, hR', hH⟩ ls hl)
set_option maxHeartbeats 1000000 in
set_option maxRecDepth 20000 in
theorem lc_8 {p : Program} {l : Launch} {e : Env} {s : State} {m : MethodId} {below : List Frame} {meth : Method} {c : Code} {b L : Nat} {xs : Nat → Int32} {H : Heap} {locs : List Loc} {cells slots : Nat} {Q : State → Prop} {dC : Nat → ClassId} {dI : Nat → Nat → Nat} (C0 : LW p l s m meth c b L xs) (hL : L ≤ 3072) {n : Nat} (hn : n + 6 ≤ L) {h0 g0 q9 : Nat} (hI : LI (dC, dI) s h0 g0 q9 H locs) (hcs : cells ≤ 400000 ∧ slots ≤ 6000000) (ls : Array Slot) (hl : lv_has ls 7 [(4, .int (nI n)), (3, .ref q9), (2, .ref g0), (1, .ref h0), (0, .ref b)])
    (kk : ∀ (H : Heap) (locs : List Loc), LI (dC, dI) s h0 g0 q9 H locs → ∀ ls : Array Slot, lv_has ls 7 [(4, .int (nI n)), (3, .ref q9), (2, .ref g0), (1, .ref h0), (0, .ref b)] → W p l e room_1 s m #[Value.ref b] below meth c H locs (cells + 50) (slots + 300) Q (F0 m 1953 ls [])) : W p l e room_1 s m #[Value.ref b] below meth c H locs cells slots Q (F0 m 540 ls []) := by
  obtain ⟨⟨hx, hb, -⟩, -⟩ := id C0
  have hb : c.code = cL_law := hb
  obtain ⟨A, U, C, na, nu, nk, X, B, E, M, o, RV, qa, qu, qk, cO, fO, rfl, rfl, hKX, hKM, hKQ, hKO, hR, hH⟩ := hI
  have hc5 : cells ≤ 500000 ∧ slots ≤ 7000000 := ⟨by omega, by omega⟩
  obtain ⟨rx, X', rm, M', o', ex, em, hR', he⟩ := st_takes (k1 := xs (n + 1)) (k2 := xs (n + 2)) (k3 := xs (n + 3)) (k4 := xs (n + 4)) (k5 := bo (xs (n + 5))) hR
  refine lv_aload_n hx hb dL_law_540 rfl (lv_at hl 3 rfl) ?_
  refine ld_a C0 hH.2.2 (lv_at hl 4 rfl) (lv_at hl 0 rfl) (show n + 1 < L by omega) hL rfl dL_law_541 dL_law_542 dL_law_544 dL_law_545 dL_law_546 ?_
  refine ld_a C0 hH.2.2 (lv_at hl 4 rfl) (lv_at hl 0 rfl) (show n + 2 < L by omega) hL rfl dL_law_547 dL_law_548 dL_law_550 dL_law_551 dL_law_552 ?_
  refine ld_a C0 hH.2.2 (lv_at hl 4 rfl) (lv_at hl 0 rfl) (show n + 3 < L by omega) hL rfl dL_law_553 dL_law_554 dL_law_556 dL_law_557 dL_law_558 ?_
  refine ld_a C0 hH.2.2 (lv_at hl 4 rfl) (lv_at hl 0 rfl) (show n + 4 < L by omega) hL rfl dL_law_559 dL_law_560 dL_law_562 dL_law_563 dL_law_564 ?_
  refine ld_b C0 hH.2.2 (lv_at hl 4 rfl) (lv_at hl 0 rfl) (show n + 5 < L by omega) hL rfl dL_law_565 dL_law_566 dL_law_568 dL_law_569 dL_law_570 dL_law_571 dL_law_574 dL_law_575 dL_law_578 ?_
  refine cx_takes C0 hKX hH hl.1 (Nat.le_of_ble_eq_true rfl) hc5 dL_law_579 glX_takes rx X' ex (fun H locs hH => ?_)
  refine lv_pop2_2 hx hb dL_law_582 rfl ?_
  have hH := hH.perm (cat_swap _ _ _)
  refine lv_aload_n hx hb dL_law_583 rfl (lv_at hl 2 rfl) ?_
  refine ld_a C0 hH.2.2 (lv_at hl 4 rfl) (lv_at hl 0 rfl) (show n + 1 < L by omega) hL rfl dL_law_584 dL_law_585 dL_law_587 dL_law_588 dL_law_589 ?_
  refine ld_a C0 hH.2.2 (lv_at hl 4 rfl) (lv_at hl 0 rfl) (show n + 2 < L by omega) hL rfl dL_law_590 dL_law_591 dL_law_593 dL_law_594 dL_law_595 ?_
  refine ld_a C0 hH.2.2 (lv_at hl 4 rfl) (lv_at hl 0 rfl) (show n + 3 < L by omega) hL rfl dL_law_596 dL_law_597 dL_law_599 dL_law_600 dL_law_601 ?_
  refine ld_a C0 hH.2.2 (lv_at hl 4 rfl) (lv_at hl 0 rfl) (show n + 4 < L by omega) hL rfl dL_law_602 dL_law_603 dL_law_605 dL_law_606 dL_law_607 ?_
  refine ld_b C0 hH.2.2 (lv_at hl 4 rfl) (lv_at hl 0 rfl) (show n + 5 < L by omega) hL rfl dL_law_608 dL_law_609 dL_law_611 dL_law_612 dL_law_613 dL_law_614 dL_law_617 dL_law_618 dL_law_621 ?_
  refine cn_takes C0 hKM hKQ hH hl.1 (Nat.le_of_ble_eq_true rfl) hc5 dL_law_622 glM_takes_nul glM_takes rm M' o' em (fun RV qa qu qk H locs hKQ hH => ?_)
  have hH := hH.perm (cat_swap _ _ _)
  refine lv_pop2_2 hx hb dL_law_625 rfl ?_
  refine lv_goto (tgt := 1953) hx hb dL_law_626 (by decide) ?_
  exact W.widen (by omega) (by omega) (kk H locs ⟨A, U, C, na, nu, nk, X', B, E, M', o', RV, qa, qu, qk, cO, fO, rfl, rfl, hKX, hKM, hKQ, hKO, hR', hH⟩ ls hl)
set_option maxHeartbeats 1000000 in
set_option maxRecDepth 20000 in
theorem lc_9 {p : Program} {l : Launch} {e : Env} {s : State} {m : MethodId} {below : List Frame} {meth : Method} {c : Code} {b L : Nat} {xs : Nat → Int32} {H : Heap} {locs : List Loc} {cells slots : Nat} {Q : State → Prop} {dC : Nat → ClassId} {dI : Nat → Nat → Nat} (C0 : LW p l s m meth c b L xs) (hL : L ≤ 3072) {n : Nat} (hn : n + 6 ≤ L) {h0 g0 q9 : Nat} (hI : LI (dC, dI) s h0 g0 q9 H locs) (hcs : cells ≤ 400000 ∧ slots ≤ 6000000) (ls : Array Slot) (hl : lv_has ls 7 [(4, .int (nI n)), (3, .ref q9), (2, .ref g0), (1, .ref h0), (0, .ref b)])
    (kk : ∀ (H : Heap) (locs : List Loc), LI (dC, dI) s h0 g0 q9 H locs → ∀ ls : Array Slot, lv_has ls 7 [(4, .int (nI n)), (3, .ref q9), (2, .ref g0), (1, .ref h0), (0, .ref b)] → W p l e room_1 s m #[Value.ref b] below meth c H locs (cells + 50) (slots + 300) Q (F0 m 1953 ls [])) : W p l e room_1 s m #[Value.ref b] below meth c H locs cells slots Q (F0 m 629 ls []) := by
  obtain ⟨⟨hx, hb, -⟩, -⟩ := id C0
  have hb : c.code = cL_law := hb
  obtain ⟨A, U, C, na, nu, nk, X, B, E, M, o, RV, qa, qu, qk, cO, fO, rfl, rfl, hKX, hKM, hKQ, hKO, hR, hH⟩ := hI
  have hc5 : cells ≤ 500000 ∧ slots ≤ 7000000 := ⟨by omega, by omega⟩
  obtain ⟨rx, X', rm, M', o', ex, em, hR', he⟩ := st_nothing (k1 := xs (n + 1)) (k2 := xs (n + 2)) (k3 := xs (n + 3)) (k4 := bo (xs (n + 4))) hR
  refine lv_aload_n hx hb dL_law_629 rfl (lv_at hl 3 rfl) ?_
  refine ld_a C0 hH.2.2 (lv_at hl 4 rfl) (lv_at hl 0 rfl) (show n + 1 < L by omega) hL rfl dL_law_630 dL_law_631 dL_law_633 dL_law_634 dL_law_635 ?_
  refine ld_a C0 hH.2.2 (lv_at hl 4 rfl) (lv_at hl 0 rfl) (show n + 2 < L by omega) hL rfl dL_law_636 dL_law_637 dL_law_639 dL_law_640 dL_law_641 ?_
  refine ld_a C0 hH.2.2 (lv_at hl 4 rfl) (lv_at hl 0 rfl) (show n + 3 < L by omega) hL rfl dL_law_642 dL_law_643 dL_law_645 dL_law_646 dL_law_647 ?_
  refine ld_b C0 hH.2.2 (lv_at hl 4 rfl) (lv_at hl 0 rfl) (show n + 4 < L by omega) hL rfl dL_law_648 dL_law_649 dL_law_651 dL_law_652 dL_law_653 dL_law_654 dL_law_657 dL_law_658 dL_law_661 ?_
  refine cx_nothing C0 hKX hH hl.1 (Nat.le_of_ble_eq_true rfl) hc5 dL_law_662 glX_nothing rx X' ex (fun H locs hH => ?_)
  refine lv_pop2_2 hx hb dL_law_665 rfl ?_
  have hH := hH.perm (cat_swap _ _ _)
  refine lv_aload_n hx hb dL_law_666 rfl (lv_at hl 2 rfl) ?_
  refine ld_a C0 hH.2.2 (lv_at hl 4 rfl) (lv_at hl 0 rfl) (show n + 1 < L by omega) hL rfl dL_law_667 dL_law_668 dL_law_670 dL_law_671 dL_law_672 ?_
  refine ld_a C0 hH.2.2 (lv_at hl 4 rfl) (lv_at hl 0 rfl) (show n + 2 < L by omega) hL rfl dL_law_673 dL_law_674 dL_law_676 dL_law_677 dL_law_678 ?_
  refine ld_a C0 hH.2.2 (lv_at hl 4 rfl) (lv_at hl 0 rfl) (show n + 3 < L by omega) hL rfl dL_law_679 dL_law_680 dL_law_682 dL_law_683 dL_law_684 ?_
  refine ld_b C0 hH.2.2 (lv_at hl 4 rfl) (lv_at hl 0 rfl) (show n + 4 < L by omega) hL rfl dL_law_685 dL_law_686 dL_law_688 dL_law_689 dL_law_690 dL_law_691 dL_law_694 dL_law_695 dL_law_698 ?_
  refine cn_nothing C0 hKM hKQ hH hl.1 (Nat.le_of_ble_eq_true rfl) hc5 dL_law_699 glM_nothing_nul glM_nothing rm M' o' em (fun RV qa qu qk H locs hKQ hH => ?_)
  have hH := hH.perm (cat_swap _ _ _)
  refine lv_pop2_2 hx hb dL_law_702 rfl ?_
  refine lv_goto (tgt := 1953) hx hb dL_law_703 (by decide) ?_
  exact W.widen (by omega) (by omega) (kk H locs ⟨A, U, C, na, nu, nk, X', B, E, M', o', RV, qa, qu, qk, cO, fO, rfl, rfl, hKX, hKM, hKQ, hKO, hR', hH⟩ ls hl)
set_option maxHeartbeats 1000000 in
set_option maxRecDepth 20000 in
theorem lc_10 {p : Program} {l : Launch} {e : Env} {s : State} {m : MethodId} {below : List Frame} {meth : Method} {c : Code} {b L : Nat} {xs : Nat → Int32} {H : Heap} {locs : List Loc} {cells slots : Nat} {Q : State → Prop} {dC : Nat → ClassId} {dI : Nat → Nat → Nat} (C0 : LW p l s m meth c b L xs) (hL : L ≤ 3072) {n : Nat} (hn : n + 6 ≤ L) {h0 g0 q9 : Nat} (hI : LI (dC, dI) s h0 g0 q9 H locs) (hcs : cells ≤ 400000 ∧ slots ≤ 6000000) (ls : Array Slot) (hl : lv_has ls 7 [(4, .int (nI n)), (3, .ref q9), (2, .ref g0), (1, .ref h0), (0, .ref b)])
    (kk : ∀ (H : Heap) (locs : List Loc), LI (dC, dI) s h0 g0 q9 H locs → ∀ ls : Array Slot, lv_has ls 7 [(4, .int (nI n)), (3, .ref q9), (2, .ref g0), (1, .ref h0), (0, .ref b)] → W p l e room_1 s m #[Value.ref b] below meth c H locs (cells + 50) (slots + 300) Q (F0 m 1953 ls [])) : W p l e room_1 s m #[Value.ref b] below meth c H locs cells slots Q (F0 m 706 ls []) := by
  obtain ⟨⟨hx, hb, -⟩, -⟩ := id C0
  have hb : c.code = cL_law := hb
  obtain ⟨A, U, C, na, nu, nk, X, B, E, M, o, RV, qa, qu, qk, cO, fO, rfl, rfl, hKX, hKM, hKQ, hKO, hR, hH⟩ := hI
  have hc5 : cells ≤ 500000 ∧ slots ≤ 7000000 := ⟨by omega, by omega⟩
  obtain ⟨rx, X', rm, M', o', ex, em, hR', he⟩ := st_mean (k1 := xs (n + 1)) (k2 := xs (n + 2)) (k3 := xs (n + 3)) (k4 := bo (xs (n + 4))) hR
  refine lv_aload_n hx hb dL_law_706 rfl (lv_at hl 3 rfl) ?_
  refine ld_a C0 hH.2.2 (lv_at hl 4 rfl) (lv_at hl 0 rfl) (show n + 1 < L by omega) hL rfl dL_law_707 dL_law_708 dL_law_710 dL_law_711 dL_law_712 ?_
  refine ld_a C0 hH.2.2 (lv_at hl 4 rfl) (lv_at hl 0 rfl) (show n + 2 < L by omega) hL rfl dL_law_713 dL_law_714 dL_law_716 dL_law_717 dL_law_718 ?_
  refine ld_a C0 hH.2.2 (lv_at hl 4 rfl) (lv_at hl 0 rfl) (show n + 3 < L by omega) hL rfl dL_law_719 dL_law_720 dL_law_722 dL_law_723 dL_law_724 ?_
  refine ld_b C0 hH.2.2 (lv_at hl 4 rfl) (lv_at hl 0 rfl) (show n + 4 < L by omega) hL rfl dL_law_725 dL_law_726 dL_law_728 dL_law_729 dL_law_730 dL_law_731 dL_law_734 dL_law_735 dL_law_738 ?_
  refine cx_mean C0 hKX hH hl.1 (Nat.le_of_ble_eq_true rfl) hc5 dL_law_739 glX_mean rx X' ex (fun H locs hH => ?_)
  refine lv_pop2_2 hx hb dL_law_742 rfl ?_
  have hH := hH.perm (cat_swap _ _ _)
  refine lv_aload_n hx hb dL_law_743 rfl (lv_at hl 2 rfl) ?_
  refine ld_a C0 hH.2.2 (lv_at hl 4 rfl) (lv_at hl 0 rfl) (show n + 1 < L by omega) hL rfl dL_law_744 dL_law_745 dL_law_747 dL_law_748 dL_law_749 ?_
  refine ld_a C0 hH.2.2 (lv_at hl 4 rfl) (lv_at hl 0 rfl) (show n + 2 < L by omega) hL rfl dL_law_750 dL_law_751 dL_law_753 dL_law_754 dL_law_755 ?_
  refine ld_a C0 hH.2.2 (lv_at hl 4 rfl) (lv_at hl 0 rfl) (show n + 3 < L by omega) hL rfl dL_law_756 dL_law_757 dL_law_759 dL_law_760 dL_law_761 ?_
  refine ld_b C0 hH.2.2 (lv_at hl 4 rfl) (lv_at hl 0 rfl) (show n + 4 < L by omega) hL rfl dL_law_762 dL_law_763 dL_law_765 dL_law_766 dL_law_767 dL_law_768 dL_law_771 dL_law_772 dL_law_775 ?_
  refine cn_mean C0 hKM hKQ hH hl.1 (Nat.le_of_ble_eq_true rfl) hc5 dL_law_776 glM_mean_nul glM_mean rm M' o' em (fun RV qa qu qk H locs hKQ hH => ?_)
  have hH := hH.perm (cat_swap _ _ _)
  refine lv_pop2_2 hx hb dL_law_779 rfl ?_
  refine lv_goto (tgt := 1953) hx hb dL_law_780 (by decide) ?_
  exact W.widen (by omega) (by omega) (kk H locs ⟨A, U, C, na, nu, nk, X', B, E, M', o', RV, qa, qu, qk, cO, fO, rfl, rfl, hKX, hKM, hKQ, hKO, hR', hH⟩ ls hl)
set_option maxHeartbeats 1000000 in
set_option maxRecDepth 20000 in
theorem lc_11 {p : Program} {l : Launch} {e : Env} {s : State} {m : MethodId} {below : List Frame} {meth : Method} {c : Code} {b L : Nat} {xs : Nat → Int32} {H : Heap} {locs : List Loc} {cells slots : Nat} {Q : State → Prop} {dC : Nat → ClassId} {dI : Nat → Nat → Nat} (C0 : LW p l s m meth c b L xs) (hL : L ≤ 3072) {n : Nat} (hn : n + 6 ≤ L) {h0 g0 q9 : Nat} (hI : LI (dC, dI) s h0 g0 q9 H locs) (hcs : cells ≤ 400000 ∧ slots ≤ 6000000) (ls : Array Slot) (hl : lv_has ls 7 [(4, .int (nI n)), (3, .ref q9), (2, .ref g0), (1, .ref h0), (0, .ref b)])
    (kk : ∀ (H : Heap) (locs : List Loc), LI (dC, dI) s h0 g0 q9 H locs → ∀ ls : Array Slot, lv_has ls 7 [(4, .int (nI n)), (3, .ref q9), (2, .ref g0), (1, .ref h0), (0, .ref b)] → W p l e room_1 s m #[Value.ref b] below meth c H locs (cells + 50) (slots + 300) Q (F0 m 1953 ls [])) : W p l e room_1 s m #[Value.ref b] below meth c H locs cells slots Q (F0 m 783 ls []) := by
  obtain ⟨⟨hx, hb, -⟩, -⟩ := id C0
  have hb : c.code = cL_law := hb
  obtain ⟨A, U, C, na, nu, nk, X, B, E, M, o, RV, qa, qu, qk, cO, fO, rfl, rfl, hKX, hKM, hKQ, hKO, hR, hH⟩ := hI
  have hc5 : cells ≤ 500000 ∧ slots ≤ 7000000 := ⟨by omega, by omega⟩
  obtain ⟨rx, X', rm, M', o', ex, em, hR', he⟩ := st_likeliest (k1 := xs (n + 1)) (k2 := xs (n + 2)) (k3 := xs (n + 3)) hR
  refine lv_aload_n hx hb dL_law_783 rfl (lv_at hl 3 rfl) ?_
  refine ld_a C0 hH.2.2 (lv_at hl 4 rfl) (lv_at hl 0 rfl) (show n + 1 < L by omega) hL rfl dL_law_784 dL_law_785 dL_law_787 dL_law_788 dL_law_789 ?_
  refine ld_a C0 hH.2.2 (lv_at hl 4 rfl) (lv_at hl 0 rfl) (show n + 2 < L by omega) hL rfl dL_law_790 dL_law_791 dL_law_793 dL_law_794 dL_law_795 ?_
  refine ld_a C0 hH.2.2 (lv_at hl 4 rfl) (lv_at hl 0 rfl) (show n + 3 < L by omega) hL rfl dL_law_796 dL_law_797 dL_law_799 dL_law_800 dL_law_801 ?_
  refine cx_likeliest C0 hKX hH hl.1 (Nat.le_of_ble_eq_true rfl) hc5 dL_law_802 glX_likeliest rx X' ex (fun H locs hH => ?_)
  refine lv_pop hx hb dL_law_805 rfl ?_
  have hH := hH.perm (cat_swap _ _ _)
  refine lv_aload_n hx hb dL_law_806 rfl (lv_at hl 2 rfl) ?_
  refine ld_a C0 hH.2.2 (lv_at hl 4 rfl) (lv_at hl 0 rfl) (show n + 1 < L by omega) hL rfl dL_law_807 dL_law_808 dL_law_810 dL_law_811 dL_law_812 ?_
  refine ld_a C0 hH.2.2 (lv_at hl 4 rfl) (lv_at hl 0 rfl) (show n + 2 < L by omega) hL rfl dL_law_813 dL_law_814 dL_law_816 dL_law_817 dL_law_818 ?_
  refine ld_a C0 hH.2.2 (lv_at hl 4 rfl) (lv_at hl 0 rfl) (show n + 3 < L by omega) hL rfl dL_law_819 dL_law_820 dL_law_822 dL_law_823 dL_law_824 ?_
  refine cn_likeliest C0 hKM hKQ hH hl.1 (Nat.le_of_ble_eq_true rfl) hc5 dL_law_825 glM_likeliest_nul glM_likeliest rm M' o' em (fun RV qa qu qk H locs hKQ hH => ?_)
  have hH := hH.perm (cat_swap _ _ _)
  refine lv_pop hx hb dL_law_828 rfl ?_
  refine lv_goto (tgt := 1953) hx hb dL_law_829 (by decide) ?_
  exact W.widen (by omega) (by omega) (kk H locs ⟨A, U, C, na, nu, nk, X', B, E, M', o', RV, qa, qu, qk, cO, fO, rfl, rfl, hKX, hKM, hKQ, hKO, hR', hH⟩ ls hl)
set_option maxHeartbeats 1000000 in
set_option maxRecDepth 20000 in
theorem lc_12 {p : Program} {l : Launch} {e : Env} {s : State} {m : MethodId} {below : List Frame} {meth : Method} {c : Code} {b L : Nat} {xs : Nat → Int32} {H : Heap} {locs : List Loc} {cells slots : Nat} {Q : State → Prop} {dC : Nat → ClassId} {dI : Nat → Nat → Nat} (C0 : LW p l s m meth c b L xs) (hL : L ≤ 3072) {n : Nat} (hn : n + 6 ≤ L) {h0 g0 q9 : Nat} (hI : LI (dC, dI) s h0 g0 q9 H locs) (hcs : cells ≤ 400000 ∧ slots ≤ 6000000) (ls : Array Slot) (hl : lv_has ls 7 [(4, .int (nI n)), (3, .ref q9), (2, .ref g0), (1, .ref h0), (0, .ref b)])
    (kk : ∀ (H : Heap) (locs : List Loc), LI (dC, dI) s h0 g0 q9 H locs → ∀ ls : Array Slot, lv_has ls 7 [(4, .int (nI n)), (3, .ref q9), (2, .ref g0), (1, .ref h0), (0, .ref b)] → W p l e room_1 s m #[Value.ref b] below meth c H locs (cells + 50) (slots + 300) Q (F0 m 1953 ls [])) : W p l e room_1 s m #[Value.ref b] below meth c H locs cells slots Q (F0 m 832 ls []) := by
  obtain ⟨⟨hx, hb, -⟩, -⟩ := id C0
  have hb : c.code = cL_law := hb
  obtain ⟨A, U, C, na, nu, nk, X, B, E, M, o, RV, qa, qu, qk, cO, fO, rfl, rfl, hKX, hKM, hKQ, hKO, hR, hH⟩ := hI
  have hc5 : cells ≤ 500000 ∧ slots ≤ 7000000 := ⟨by omega, by omega⟩
  obtain ⟨rx, X', rm, M', o', ex, em, hR', he⟩ := st_surest (k1 := xs (n + 1)) hR
  refine lv_aload_n hx hb dL_law_832 rfl (lv_at hl 3 rfl) ?_
  refine ld_a C0 hH.2.2 (lv_at hl 4 rfl) (lv_at hl 0 rfl) (show n + 1 < L by omega) hL rfl dL_law_833 dL_law_834 dL_law_836 dL_law_837 dL_law_838 ?_
  refine cx_surest C0 hKX hH hl.1 (Nat.le_of_ble_eq_true rfl) hc5 dL_law_839 glX_surest rx X' ex (fun H locs hH => ?_)
  refine lv_pop hx hb dL_law_842 rfl ?_
  have hH := hH.perm (cat_swap _ _ _)
  refine lv_aload_n hx hb dL_law_843 rfl (lv_at hl 2 rfl) ?_
  refine ld_a C0 hH.2.2 (lv_at hl 4 rfl) (lv_at hl 0 rfl) (show n + 1 < L by omega) hL rfl dL_law_844 dL_law_845 dL_law_847 dL_law_848 dL_law_849 ?_
  refine cn_surest C0 hKM hKQ hH hl.1 (Nat.le_of_ble_eq_true rfl) hc5 dL_law_850 glM_surest_nul glM_surest rm M' o' em (fun RV qa qu qk H locs hKQ hH => ?_)
  have hH := hH.perm (cat_swap _ _ _)
  refine lv_pop hx hb dL_law_853 rfl ?_
  refine lv_goto (tgt := 1953) hx hb dL_law_854 (by decide) ?_
  exact W.widen (by omega) (by omega) (kk H locs ⟨A, U, C, na, nu, nk, X', B, E, M', o', RV, qa, qu, qk, cO, fO, rfl, rfl, hKX, hKM, hKQ, hKO, hR', hH⟩ ls hl)
set_option maxHeartbeats 1000000 in
set_option maxRecDepth 20000 in
theorem lc_13 {p : Program} {l : Launch} {e : Env} {s : State} {m : MethodId} {below : List Frame} {meth : Method} {c : Code} {b L : Nat} {xs : Nat → Int32} {H : Heap} {locs : List Loc} {cells slots : Nat} {Q : State → Prop} {dC : Nat → ClassId} {dI : Nat → Nat → Nat} (C0 : LW p l s m meth c b L xs) (hL : L ≤ 3072) {n : Nat} (hn : n + 6 ≤ L) {h0 g0 q9 : Nat} (hI : LI (dC, dI) s h0 g0 q9 H locs) (hcs : cells ≤ 400000 ∧ slots ≤ 6000000) (ls : Array Slot) (hl : lv_has ls 7 [(4, .int (nI n)), (3, .ref q9), (2, .ref g0), (1, .ref h0), (0, .ref b)])
    (kk : ∀ (H : Heap) (locs : List Loc), LI (dC, dI) s h0 g0 q9 H locs → ∀ ls : Array Slot, lv_has ls 7 [(4, .int (nI n)), (3, .ref q9), (2, .ref g0), (1, .ref h0), (0, .ref b)] → W p l e room_1 s m #[Value.ref b] below meth c H locs (cells + 50) (slots + 300) Q (F0 m 1953 ls [])) : W p l e room_1 s m #[Value.ref b] below meth c H locs cells slots Q (F0 m 857 ls []) := by
  obtain ⟨⟨hx, hb, -⟩, -⟩ := id C0
  have hb : c.code = cL_law := hb
  obtain ⟨A, U, C, na, nu, nk, X, B, E, M, o, RV, qa, qu, qk, cO, fO, rfl, rfl, hKX, hKM, hKQ, hKO, hR, hH⟩ := hI
  have hc5 : cells ≤ 500000 ∧ slots ≤ 7000000 := ⟨by omega, by omega⟩
  obtain ⟨rx, X', rm, M', o', ex, em, hR', he⟩ := st_surestOdds (k1 := xs (n + 1)) (k2 := bo (xs (n + 2))) hR
  refine lv_aload_n hx hb dL_law_857 rfl (lv_at hl 3 rfl) ?_
  refine ld_a C0 hH.2.2 (lv_at hl 4 rfl) (lv_at hl 0 rfl) (show n + 1 < L by omega) hL rfl dL_law_858 dL_law_859 dL_law_861 dL_law_862 dL_law_863 ?_
  refine ld_b C0 hH.2.2 (lv_at hl 4 rfl) (lv_at hl 0 rfl) (show n + 2 < L by omega) hL rfl dL_law_864 dL_law_865 dL_law_867 dL_law_868 dL_law_869 dL_law_870 dL_law_873 dL_law_874 dL_law_877 ?_
  refine cx_surestOdds C0 hKX hH hl.1 (Nat.le_of_ble_eq_true rfl) hc5 dL_law_878 glX_surestOdds rx X' ex (fun H locs hH => ?_)
  refine lv_pop2_2 hx hb dL_law_881 rfl ?_
  have hH := hH.perm (cat_swap _ _ _)
  refine lv_aload_n hx hb dL_law_882 rfl (lv_at hl 2 rfl) ?_
  refine ld_a C0 hH.2.2 (lv_at hl 4 rfl) (lv_at hl 0 rfl) (show n + 1 < L by omega) hL rfl dL_law_883 dL_law_884 dL_law_886 dL_law_887 dL_law_888 ?_
  refine ld_b C0 hH.2.2 (lv_at hl 4 rfl) (lv_at hl 0 rfl) (show n + 2 < L by omega) hL rfl dL_law_889 dL_law_890 dL_law_892 dL_law_893 dL_law_894 dL_law_895 dL_law_898 dL_law_899 dL_law_902 ?_
  refine cn_surestOdds C0 hKM hKQ hH hl.1 (Nat.le_of_ble_eq_true rfl) hc5 dL_law_903 glM_surestOdds_nul glM_surestOdds rm M' o' em (fun RV qa qu qk H locs hKQ hH => ?_)
  have hH := hH.perm (cat_swap _ _ _)
  refine lv_pop2_2 hx hb dL_law_906 rfl ?_
  refine lv_goto (tgt := 1953) hx hb dL_law_907 (by decide) ?_
  exact W.widen (by omega) (by omega) (kk H locs ⟨A, U, C, na, nu, nk, X', B, E, M', o', RV, qa, qu, qk, cO, fO, rfl, rfl, hKX, hKM, hKQ, hKO, hR', hH⟩ ls hl)
set_option maxHeartbeats 1000000 in
set_option maxRecDepth 20000 in
theorem lc_14 {p : Program} {l : Launch} {e : Env} {s : State} {m : MethodId} {below : List Frame} {meth : Method} {c : Code} {b L : Nat} {xs : Nat → Int32} {H : Heap} {locs : List Loc} {cells slots : Nat} {Q : State → Prop} {dC : Nat → ClassId} {dI : Nat → Nat → Nat} (C0 : LW p l s m meth c b L xs) (hL : L ≤ 3072) {n : Nat} (hn : n + 6 ≤ L) {h0 g0 q9 : Nat} (hI : LI (dC, dI) s h0 g0 q9 H locs) (hcs : cells ≤ 400000 ∧ slots ≤ 6000000) (ls : Array Slot) (hl : lv_has ls 7 [(4, .int (nI n)), (3, .ref q9), (2, .ref g0), (1, .ref h0), (0, .ref b)])
    (kk : ∀ (H : Heap) (locs : List Loc), LI (dC, dI) s h0 g0 q9 H locs → ∀ ls : Array Slot, lv_has ls 7 [(4, .int (nI n)), (3, .ref q9), (2, .ref g0), (1, .ref h0), (0, .ref b)] → W p l e room_1 s m #[Value.ref b] below meth c H locs (cells + 50) (slots + 300) Q (F0 m 1953 ls [])) : W p l e room_1 s m #[Value.ref b] below meth c H locs cells slots Q (F0 m 910 ls []) := by
  obtain ⟨⟨hx, hb, -⟩, -⟩ := id C0
  have hb : c.code = cL_law := hb
  obtain ⟨A, U, C, na, nu, nk, X, B, E, M, o, RV, qa, qu, qk, cO, fO, rfl, rfl, hKX, hKM, hKQ, hKO, hR, hH⟩ := hI
  have hc5 : cells ≤ 500000 ∧ slots ≤ 7000000 := ⟨by omega, by omega⟩
  obtain ⟨rx, X', rm, M', o', ex, em, hR', he⟩ := st_best  hR
  refine lv_aload_n hx hb dL_law_910 rfl (lv_at hl 3 rfl) ?_
  refine cx_best C0 hKX hH hl.1 (Nat.le_of_ble_eq_true rfl) hc5 dL_law_911 glX_best rx X' ex (fun H locs hH => ?_)
  refine lv_pop hx hb dL_law_914 rfl ?_
  have hH := hH.perm (cat_swap _ _ _)
  refine lv_aload_n hx hb dL_law_915 rfl (lv_at hl 2 rfl) ?_
  refine cn_best C0 hKM hKQ hH hl.1 (Nat.le_of_ble_eq_true rfl) hc5 dL_law_916 glM_best_nul glM_best rm M' o' em (fun RV qa qu qk H locs hKQ hH => ?_)
  have hH := hH.perm (cat_swap _ _ _)
  refine lv_pop hx hb dL_law_919 rfl ?_
  refine lv_goto (tgt := 1953) hx hb dL_law_920 (by decide) ?_
  exact W.widen (by omega) (by omega) (kk H locs ⟨A, U, C, na, nu, nk, X', B, E, M', o', RV, qa, qu, qk, cO, fO, rfl, rfl, hKX, hKM, hKQ, hKO, hR', hH⟩ ls hl)
set_option maxHeartbeats 1000000 in
set_option maxRecDepth 20000 in
theorem lc_15 {p : Program} {l : Launch} {e : Env} {s : State} {m : MethodId} {below : List Frame} {meth : Method} {c : Code} {b L : Nat} {xs : Nat → Int32} {H : Heap} {locs : List Loc} {cells slots : Nat} {Q : State → Prop} {dC : Nat → ClassId} {dI : Nat → Nat → Nat} (C0 : LW p l s m meth c b L xs) (hL : L ≤ 3072) {n : Nat} (hn : n + 6 ≤ L) {h0 g0 q9 : Nat} (hI : LI (dC, dI) s h0 g0 q9 H locs) (hcs : cells ≤ 400000 ∧ slots ≤ 6000000) (ls : Array Slot) (hl : lv_has ls 7 [(4, .int (nI n)), (3, .ref q9), (2, .ref g0), (1, .ref h0), (0, .ref b)])
    (kk : ∀ (H : Heap) (locs : List Loc), LI (dC, dI) s h0 g0 q9 H locs → ∀ ls : Array Slot, lv_has ls 7 [(4, .int (nI n)), (3, .ref q9), (2, .ref g0), (1, .ref h0), (0, .ref b)] → W p l e room_1 s m #[Value.ref b] below meth c H locs (cells + 50) (slots + 300) Q (F0 m 1953 ls [])) : W p l e room_1 s m #[Value.ref b] below meth c H locs cells slots Q (F0 m 923 ls []) := by
  obtain ⟨⟨hx, hb, -⟩, -⟩ := id C0
  have hb : c.code = cL_law := hb
  obtain ⟨A, U, C, na, nu, nk, X, B, E, M, o, RV, qa, qu, qk, cO, fO, rfl, rfl, hKX, hKM, hKQ, hKO, hR, hH⟩ := hI
  have hc5 : cells ≤ 500000 ∧ slots ≤ 7000000 := ⟨by omega, by omega⟩
  obtain ⟨rx, X', rm, M', o', ex, em, hR', he⟩ := st_bestBait  hR
  refine lv_aload_n hx hb dL_law_923 rfl (lv_at hl 3 rfl) ?_
  refine cx_bestBait C0 hKX hH hl.1 (Nat.le_of_ble_eq_true rfl) hc5 dL_law_924 glX_bestBait rx X' ex (fun H locs hH => ?_)
  refine lv_pop hx hb dL_law_927 rfl ?_
  have hH := hH.perm (cat_swap _ _ _)
  refine lv_aload_n hx hb dL_law_928 rfl (lv_at hl 2 rfl) ?_
  refine cn_bestBait C0 hKM hKQ hH hl.1 (Nat.le_of_ble_eq_true rfl) hc5 dL_law_929 glM_bestBait_nul glM_bestBait rm M' o' em (fun RV qa qu qk H locs hKQ hH => ?_)
  have hH := hH.perm (cat_swap _ _ _)
  refine lv_pop hx hb dL_law_932 rfl ?_
  refine lv_goto (tgt := 1953) hx hb dL_law_933 (by decide) ?_
  exact W.widen (by omega) (by omega) (kk H locs ⟨A, U, C, na, nu, nk, X', B, E, M', o', RV, qa, qu, qk, cO, fO, rfl, rfl, hKX, hKM, hKQ, hKO, hR', hH⟩ ls hl)
set_option maxHeartbeats 1000000 in
set_option maxRecDepth 20000 in
theorem lc_16 {p : Program} {l : Launch} {e : Env} {s : State} {m : MethodId} {below : List Frame} {meth : Method} {c : Code} {b L : Nat} {xs : Nat → Int32} {H : Heap} {locs : List Loc} {cells slots : Nat} {Q : State → Prop} {dC : Nat → ClassId} {dI : Nat → Nat → Nat} (C0 : LW p l s m meth c b L xs) (hL : L ≤ 3072) {n : Nat} (hn : n + 6 ≤ L) {h0 g0 q9 : Nat} (hI : LI (dC, dI) s h0 g0 q9 H locs) (hcs : cells ≤ 400000 ∧ slots ≤ 6000000) (ls : Array Slot) (hl : lv_has ls 7 [(4, .int (nI n)), (3, .ref q9), (2, .ref g0), (1, .ref h0), (0, .ref b)])
    (kk : ∀ (H : Heap) (locs : List Loc), LI (dC, dI) s h0 g0 q9 H locs → ∀ ls : Array Slot, lv_has ls 7 [(4, .int (nI n)), (3, .ref q9), (2, .ref g0), (1, .ref h0), (0, .ref b)] → W p l e room_1 s m #[Value.ref b] below meth c H locs (cells + 50) (slots + 300) Q (F0 m 1953 ls [])) : W p l e room_1 s m #[Value.ref b] below meth c H locs cells slots Q (F0 m 936 ls []) := by
  obtain ⟨⟨hx, hb, -⟩, -⟩ := id C0
  have hb : c.code = cL_law := hb
  obtain ⟨A, U, C, na, nu, nk, X, B, E, M, o, RV, qa, qu, qk, cO, fO, rfl, rfl, hKX, hKM, hKQ, hKO, hR, hH⟩ := hI
  have hc5 : cells ≤ 500000 ∧ slots ≤ 7000000 := ⟨by omega, by omega⟩
  obtain ⟨rx, X', rm, M', o', ex, em, hR', he⟩ := st_hungerFor (k1 := xs (n + 1)) (k2 := xs (n + 2)) (k3 := xs (n + 3)) (k4 := xs (n + 4)) hR
  refine lv_aload_n hx hb dL_law_936 rfl (lv_at hl 3 rfl) ?_
  refine ld_a C0 hH.2.2 (lv_at hl 4 rfl) (lv_at hl 0 rfl) (show n + 1 < L by omega) hL rfl dL_law_937 dL_law_938 dL_law_940 dL_law_941 dL_law_942 ?_
  refine ld_a C0 hH.2.2 (lv_at hl 4 rfl) (lv_at hl 0 rfl) (show n + 2 < L by omega) hL rfl dL_law_943 dL_law_944 dL_law_946 dL_law_947 dL_law_948 ?_
  refine ld_a C0 hH.2.2 (lv_at hl 4 rfl) (lv_at hl 0 rfl) (show n + 3 < L by omega) hL rfl dL_law_949 dL_law_950 dL_law_952 dL_law_953 dL_law_954 ?_
  refine ld_a C0 hH.2.2 (lv_at hl 4 rfl) (lv_at hl 0 rfl) (show n + 4 < L by omega) hL rfl dL_law_955 dL_law_956 dL_law_958 dL_law_959 dL_law_960 ?_
  refine cx_hungerFor C0 hKX hH hl.1 (Nat.le_of_ble_eq_true rfl) hc5 dL_law_961 glX_hungerFor rx X' ex (fun H locs hH => ?_)
  refine lv_pop hx hb dL_law_964 rfl ?_
  have hH := hH.perm (cat_swap _ _ _)
  refine lv_aload_n hx hb dL_law_965 rfl (lv_at hl 2 rfl) ?_
  refine ld_a C0 hH.2.2 (lv_at hl 4 rfl) (lv_at hl 0 rfl) (show n + 1 < L by omega) hL rfl dL_law_966 dL_law_967 dL_law_969 dL_law_970 dL_law_971 ?_
  refine ld_a C0 hH.2.2 (lv_at hl 4 rfl) (lv_at hl 0 rfl) (show n + 2 < L by omega) hL rfl dL_law_972 dL_law_973 dL_law_975 dL_law_976 dL_law_977 ?_
  refine ld_a C0 hH.2.2 (lv_at hl 4 rfl) (lv_at hl 0 rfl) (show n + 3 < L by omega) hL rfl dL_law_978 dL_law_979 dL_law_981 dL_law_982 dL_law_983 ?_
  refine ld_a C0 hH.2.2 (lv_at hl 4 rfl) (lv_at hl 0 rfl) (show n + 4 < L by omega) hL rfl dL_law_984 dL_law_985 dL_law_987 dL_law_988 dL_law_989 ?_
  refine cn_hungerFor C0 hKM hKQ hH hl.1 (Nat.le_of_ble_eq_true rfl) hc5 dL_law_990 glM_hungerFor_nul glM_hungerFor rm M' o' em (fun RV qa qu qk H locs hKQ hH => ?_)
  have hH := hH.perm (cat_swap _ _ _)
  refine lv_pop hx hb dL_law_993 rfl ?_
  refine lv_goto (tgt := 1953) hx hb dL_law_994 (by decide) ?_
  exact W.widen (by omega) (by omega) (kk H locs ⟨A, U, C, na, nu, nk, X', B, E, M', o', RV, qa, qu, qk, cO, fO, rfl, rfl, hKX, hKM, hKQ, hKO, hR', hH⟩ ls hl)
set_option maxHeartbeats 1000000 in
set_option maxRecDepth 20000 in
theorem lc_17 {p : Program} {l : Launch} {e : Env} {s : State} {m : MethodId} {below : List Frame} {meth : Method} {c : Code} {b L : Nat} {xs : Nat → Int32} {H : Heap} {locs : List Loc} {cells slots : Nat} {Q : State → Prop} {dC : Nat → ClassId} {dI : Nat → Nat → Nat} (C0 : LW p l s m meth c b L xs) (hL : L ≤ 3072) {n : Nat} (hn : n + 6 ≤ L) {h0 g0 q9 : Nat} (hI : LI (dC, dI) s h0 g0 q9 H locs) (hcs : cells ≤ 400000 ∧ slots ≤ 6000000) (ls : Array Slot) (hl : lv_has ls 7 [(4, .int (nI n)), (3, .ref q9), (2, .ref g0), (1, .ref h0), (0, .ref b)])
    (kk : ∀ (H : Heap) (locs : List Loc), LI (dC, dI) s h0 g0 q9 H locs → ∀ ls : Array Slot, lv_has ls 7 [(4, .int (nI n)), (3, .ref q9), (2, .ref g0), (1, .ref h0), (0, .ref b)] → W p l e room_1 s m #[Value.ref b] below meth c H locs (cells + 50) (slots + 300) Q (F0 m 1953 ls [])) : W p l e room_1 s m #[Value.ref b] below meth c H locs cells slots Q (F0 m 997 ls []) := by
  obtain ⟨⟨hx, hb, -⟩, -⟩ := id C0
  have hb : c.code = cL_law := hb
  obtain ⟨A, U, C, na, nu, nk, X, B, E, M, o, RV, qa, qu, qk, cO, fO, rfl, rfl, hKX, hKM, hKQ, hKO, hR, hH⟩ := hI
  have hc5 : cells ≤ 500000 ∧ slots ≤ 7000000 := ⟨by omega, by omega⟩
  obtain ⟨rx, X', rm, M', o', ex, em, hR', he⟩ := st_freeSpots (k1 := xs (n + 1)) hR
  refine lv_aload_n hx hb dL_law_997 rfl (lv_at hl 3 rfl) ?_
  refine ld_a C0 hH.2.2 (lv_at hl 4 rfl) (lv_at hl 0 rfl) (show n + 1 < L by omega) hL rfl dL_law_998 dL_law_999 dL_law_1001 dL_law_1002 dL_law_1003 ?_
  refine cx_freeSpots C0 hKX hH hl.1 (Nat.le_of_ble_eq_true rfl) hc5 dL_law_1004 glX_freeSpots rx X' ex (fun H locs hH => ?_)
  refine lv_pop hx hb dL_law_1007 rfl ?_
  have hH := hH.perm (cat_swap _ _ _)
  refine lv_aload_n hx hb dL_law_1008 rfl (lv_at hl 2 rfl) ?_
  refine ld_a C0 hH.2.2 (lv_at hl 4 rfl) (lv_at hl 0 rfl) (show n + 1 < L by omega) hL rfl dL_law_1009 dL_law_1010 dL_law_1012 dL_law_1013 dL_law_1014 ?_
  refine cn_freeSpots C0 hKM hKQ hH hl.1 (Nat.le_of_ble_eq_true rfl) hc5 dL_law_1015 glM_freeSpots_nul glM_freeSpots rm M' o' em (fun RV qa qu qk H locs hKQ hH => ?_)
  have hH := hH.perm (cat_swap _ _ _)
  refine lv_pop hx hb dL_law_1018 rfl ?_
  refine lv_goto (tgt := 1953) hx hb dL_law_1019 (by decide) ?_
  exact W.widen (by omega) (by omega) (kk H locs ⟨A, U, C, na, nu, nk, X', B, E, M', o', RV, qa, qu, qk, cO, fO, rfl, rfl, hKX, hKM, hKQ, hKO, hR', hH⟩ ls hl)
set_option maxHeartbeats 1000000 in
set_option maxRecDepth 20000 in
theorem lc_18 {p : Program} {l : Launch} {e : Env} {s : State} {m : MethodId} {below : List Frame} {meth : Method} {c : Code} {b L : Nat} {xs : Nat → Int32} {H : Heap} {locs : List Loc} {cells slots : Nat} {Q : State → Prop} {dC : Nat → ClassId} {dI : Nat → Nat → Nat} (C0 : LW p l s m meth c b L xs) (hL : L ≤ 3072) {n : Nat} (hn : n + 6 ≤ L) {h0 g0 q9 : Nat} (hI : LI (dC, dI) s h0 g0 q9 H locs) (hcs : cells ≤ 400000 ∧ slots ≤ 6000000) (ls : Array Slot) (hl : lv_has ls 7 [(4, .int (nI n)), (3, .ref q9), (2, .ref g0), (1, .ref h0), (0, .ref b)])
    (kk : ∀ (H : Heap) (locs : List Loc), LI (dC, dI) s h0 g0 q9 H locs → ∀ ls : Array Slot, lv_has ls 7 [(4, .int (nI n)), (3, .ref q9), (2, .ref g0), (1, .ref h0), (0, .ref b)] → W p l e room_1 s m #[Value.ref b] below meth c H locs (cells + 50) (slots + 300) Q (F0 m 1953 ls [])) : W p l e room_1 s m #[Value.ref b] below meth c H locs cells slots Q (F0 m 1022 ls []) := by
  obtain ⟨⟨hx, hb, -⟩, -⟩ := id C0
  have hb : c.code = cL_law := hb
  obtain ⟨A, U, C, na, nu, nk, X, B, E, M, o, RV, qa, qu, qk, cO, fO, rfl, rfl, hKX, hKM, hKQ, hKO, hR, hH⟩ := hI
  have hc5 : cells ≤ 500000 ∧ slots ≤ 7000000 := ⟨by omega, by omega⟩
  obtain ⟨rx, X', rm, M', o', ex, em, hR', he⟩ := st_tangles (k1 := xs (n + 1)) (k2 := xs (n + 2)) (k3 := xs (n + 3)) (k4 := xs (n + 4)) hR
  refine lv_aload_n hx hb dL_law_1022 rfl (lv_at hl 3 rfl) ?_
  refine ld_a C0 hH.2.2 (lv_at hl 4 rfl) (lv_at hl 0 rfl) (show n + 1 < L by omega) hL rfl dL_law_1023 dL_law_1024 dL_law_1026 dL_law_1027 dL_law_1028 ?_
  refine ld_a C0 hH.2.2 (lv_at hl 4 rfl) (lv_at hl 0 rfl) (show n + 2 < L by omega) hL rfl dL_law_1029 dL_law_1030 dL_law_1032 dL_law_1033 dL_law_1034 ?_
  refine ld_a C0 hH.2.2 (lv_at hl 4 rfl) (lv_at hl 0 rfl) (show n + 3 < L by omega) hL rfl dL_law_1035 dL_law_1036 dL_law_1038 dL_law_1039 dL_law_1040 ?_
  refine ld_a C0 hH.2.2 (lv_at hl 4 rfl) (lv_at hl 0 rfl) (show n + 4 < L by omega) hL rfl dL_law_1041 dL_law_1042 dL_law_1044 dL_law_1045 dL_law_1046 ?_
  refine cx_tangles C0 hKX hH hl.1 (Nat.le_of_ble_eq_true rfl) hc5 dL_law_1047 glX_tangles rx X' ex (fun H locs hH => ?_)
  refine lv_pop hx hb dL_law_1050 rfl ?_
  have hH := hH.perm (cat_swap _ _ _)
  refine lv_aload_n hx hb dL_law_1051 rfl (lv_at hl 2 rfl) ?_
  refine ld_a C0 hH.2.2 (lv_at hl 4 rfl) (lv_at hl 0 rfl) (show n + 1 < L by omega) hL rfl dL_law_1052 dL_law_1053 dL_law_1055 dL_law_1056 dL_law_1057 ?_
  refine ld_a C0 hH.2.2 (lv_at hl 4 rfl) (lv_at hl 0 rfl) (show n + 2 < L by omega) hL rfl dL_law_1058 dL_law_1059 dL_law_1061 dL_law_1062 dL_law_1063 ?_
  refine ld_a C0 hH.2.2 (lv_at hl 4 rfl) (lv_at hl 0 rfl) (show n + 3 < L by omega) hL rfl dL_law_1064 dL_law_1065 dL_law_1067 dL_law_1068 dL_law_1069 ?_
  refine ld_a C0 hH.2.2 (lv_at hl 4 rfl) (lv_at hl 0 rfl) (show n + 4 < L by omega) hL rfl dL_law_1070 dL_law_1071 dL_law_1073 dL_law_1074 dL_law_1075 ?_
  refine cn_tangles C0 hKM hKQ hH hl.1 (Nat.le_of_ble_eq_true rfl) hc5 dL_law_1076 glM_tangles_nul glM_tangles rm M' o' em (fun RV qa qu qk H locs hKQ hH => ?_)
  have hH := hH.perm (cat_swap _ _ _)
  refine lv_pop hx hb dL_law_1079 rfl ?_
  refine lv_goto (tgt := 1953) hx hb dL_law_1080 (by decide) ?_
  exact W.widen (by omega) (by omega) (kk H locs ⟨A, U, C, na, nu, nk, X', B, E, M', o', RV, qa, qu, qk, cO, fO, rfl, rfl, hKX, hKM, hKQ, hKO, hR', hH⟩ ls hl)
set_option maxHeartbeats 1000000 in
set_option maxRecDepth 20000 in
theorem lc_19 {p : Program} {l : Launch} {e : Env} {s : State} {m : MethodId} {below : List Frame} {meth : Method} {c : Code} {b L : Nat} {xs : Nat → Int32} {H : Heap} {locs : List Loc} {cells slots : Nat} {Q : State → Prop} {dC : Nat → ClassId} {dI : Nat → Nat → Nat} (C0 : LW p l s m meth c b L xs) (hL : L ≤ 3072) {n : Nat} (hn : n + 6 ≤ L) {h0 g0 q9 : Nat} (hI : LI (dC, dI) s h0 g0 q9 H locs) (hcs : cells ≤ 400000 ∧ slots ≤ 6000000) (ls : Array Slot) (hl : lv_has ls 7 [(4, .int (nI n)), (3, .ref q9), (2, .ref g0), (1, .ref h0), (0, .ref b)])
    (kk : ∀ (H : Heap) (locs : List Loc), LI (dC, dI) s h0 g0 q9 H locs → ∀ ls : Array Slot, lv_has ls 7 [(4, .int (nI n)), (3, .ref q9), (2, .ref g0), (1, .ref h0), (0, .ref b)] → W p l e room_1 s m #[Value.ref b] below meth c H locs (cells + 50) (slots + 300) Q (F0 m 1953 ls [])) : W p l e room_1 s m #[Value.ref b] below meth c H locs cells slots Q (F0 m 1083 ls []) := by
  obtain ⟨⟨hx, hb, -⟩, -⟩ := id C0
  have hb : c.code = cL_law := hb
  obtain ⟨A, U, C, na, nu, nk, X, B, E, M, o, RV, qa, qu, qk, cO, fO, rfl, rfl, hKX, hKM, hKQ, hKO, hR, hH⟩ := hI
  have hc5 : cells ≤ 500000 ∧ slots ≤ 7000000 := ⟨by omega, by omega⟩
  obtain ⟨rx, X', rm, M', o', ex, em, hR', he⟩ := st_seatings  hR
  refine lv_aload_n hx hb dL_law_1083 rfl (lv_at hl 3 rfl) ?_
  refine cx_seatings C0 hKX hH hl.1 (Nat.le_of_ble_eq_true rfl) hc5 dL_law_1084 glX_seatings rx X' ex (fun H locs hH => ?_)
  refine lv_pop hx hb dL_law_1087 rfl ?_
  have hH := hH.perm (cat_swap _ _ _)
  refine lv_aload_n hx hb dL_law_1088 rfl (lv_at hl 2 rfl) ?_
  refine cn_seatings C0 hKM hKQ hH hl.1 (Nat.le_of_ble_eq_true rfl) hc5 dL_law_1089 glM_seatings_nul glM_seatings rm M' o' em (fun RV qa qu qk H locs hKQ hH => ?_)
  have hH := hH.perm (cat_swap _ _ _)
  refine lv_pop hx hb dL_law_1092 rfl ?_
  refine lv_goto (tgt := 1953) hx hb dL_law_1093 (by decide) ?_
  exact W.widen (by omega) (by omega) (kk H locs ⟨A, U, C, na, nu, nk, X', B, E, M', o', RV, qa, qu, qk, cO, fO, rfl, rfl, hKX, hKM, hKQ, hKO, hR', hH⟩ ls hl)
set_option maxHeartbeats 1000000 in
set_option maxRecDepth 20000 in
theorem lc_20 {p : Program} {l : Launch} {e : Env} {s : State} {m : MethodId} {below : List Frame} {meth : Method} {c : Code} {b L : Nat} {xs : Nat → Int32} {H : Heap} {locs : List Loc} {cells slots : Nat} {Q : State → Prop} {dC : Nat → ClassId} {dI : Nat → Nat → Nat} (C0 : LW p l s m meth c b L xs) (hL : L ≤ 3072) {n : Nat} (hn : n + 6 ≤ L) {h0 g0 q9 : Nat} (hI : LI (dC, dI) s h0 g0 q9 H locs) (hcs : cells ≤ 400000 ∧ slots ≤ 6000000) (ls : Array Slot) (hl : lv_has ls 7 [(4, .int (nI n)), (3, .ref q9), (2, .ref g0), (1, .ref h0), (0, .ref b)])
    (kk : ∀ (H : Heap) (locs : List Loc), LI (dC, dI) s h0 g0 q9 H locs → ∀ ls : Array Slot, lv_has ls 7 [(4, .int (nI n)), (3, .ref q9), (2, .ref g0), (1, .ref h0), (0, .ref b)] → W p l e room_1 s m #[Value.ref b] below meth c H locs (cells + 50) (slots + 300) Q (F0 m 1953 ls [])) : W p l e room_1 s m #[Value.ref b] below meth c H locs cells slots Q (F0 m 1096 ls []) := by
  obtain ⟨⟨hx, hb, -⟩, -⟩ := id C0
  have hb : c.code = cL_law := hb
  obtain ⟨A, U, C, na, nu, nk, X, B, E, M, o, RV, qa, qu, qk, cO, fO, rfl, rfl, hKX, hKM, hKQ, hKO, hR, hH⟩ := hI
  have hc5 : cells ≤ 500000 ∧ slots ≤ 7000000 := ⟨by omega, by omega⟩
  obtain ⟨rx, X', rm, M', o', ex, em, hR', he⟩ := st_seat (k1 := xs (n + 1)) hR
  refine lv_aload_n hx hb dL_law_1096 rfl (lv_at hl 3 rfl) ?_
  refine ld_a C0 hH.2.2 (lv_at hl 4 rfl) (lv_at hl 0 rfl) (show n + 1 < L by omega) hL rfl dL_law_1097 dL_law_1098 dL_law_1100 dL_law_1101 dL_law_1102 ?_
  refine cx_seat C0 hKX hH hl.1 (Nat.le_of_ble_eq_true rfl) hc5 dL_law_1103 glX_seat rx X' ex (fun H locs hH => ?_)
  refine lv_pop hx hb dL_law_1106 rfl ?_
  have hH := hH.perm (cat_swap _ _ _)
  refine lv_aload_n hx hb dL_law_1107 rfl (lv_at hl 2 rfl) ?_
  refine ld_a C0 hH.2.2 (lv_at hl 4 rfl) (lv_at hl 0 rfl) (show n + 1 < L by omega) hL rfl dL_law_1108 dL_law_1109 dL_law_1111 dL_law_1112 dL_law_1113 ?_
  refine cn_seat C0 hKM hKQ hH hl.1 (Nat.le_of_ble_eq_true rfl) hc5 dL_law_1114 glM_seat_nul glM_seat rm M' o' em (fun RV qa qu qk H locs hKQ hH => ?_)
  have hH := hH.perm (cat_swap _ _ _)
  refine lv_pop hx hb dL_law_1117 rfl ?_
  refine lv_goto (tgt := 1953) hx hb dL_law_1118 (by decide) ?_
  exact W.widen (by omega) (by omega) (kk H locs ⟨A, U, C, na, nu, nk, X', B, E, M', o', RV, qa, qu, qk, cO, fO, rfl, rfl, hKX, hKM, hKQ, hKO, hR', hH⟩ ls hl)
set_option maxHeartbeats 1000000 in
set_option maxRecDepth 20000 in
theorem lc_21 {p : Program} {l : Launch} {e : Env} {s : State} {m : MethodId} {below : List Frame} {meth : Method} {c : Code} {b L : Nat} {xs : Nat → Int32} {H : Heap} {locs : List Loc} {cells slots : Nat} {Q : State → Prop} {dC : Nat → ClassId} {dI : Nat → Nat → Nat} (C0 : LW p l s m meth c b L xs) (hL : L ≤ 3072) {n : Nat} (hn : n + 6 ≤ L) {h0 g0 q9 : Nat} (hI : LI (dC, dI) s h0 g0 q9 H locs) (hcs : cells ≤ 400000 ∧ slots ≤ 6000000) (ls : Array Slot) (hl : lv_has ls 7 [(4, .int (nI n)), (3, .ref q9), (2, .ref g0), (1, .ref h0), (0, .ref b)])
    (kk : ∀ (H : Heap) (locs : List Loc), LI (dC, dI) s h0 g0 q9 H locs → ∀ ls : Array Slot, lv_has ls 7 [(4, .int (nI n)), (3, .ref q9), (2, .ref g0), (1, .ref h0), (0, .ref b)] → W p l e room_1 s m #[Value.ref b] below meth c H locs (cells + 50) (slots + 300) Q (F0 m 1953 ls [])) : W p l e room_1 s m #[Value.ref b] below meth c H locs cells slots Q (F0 m 1121 ls []) := by
  obtain ⟨⟨hx, hb, -⟩, -⟩ := id C0
  have hb : c.code = cL_law := hb
  obtain ⟨A, U, C, na, nu, nk, X, B, E, M, o, RV, qa, qu, qk, cO, fO, rfl, rfl, hKX, hKM, hKQ, hKO, hR, hH⟩ := hI
  have hc5 : cells ≤ 500000 ∧ slots ≤ 7000000 := ⟨by omega, by omega⟩
  obtain ⟨rx, X', rm, M', o', ex, em, hR', he⟩ := st_mostSeated  hR
  refine lv_aload_n hx hb dL_law_1121 rfl (lv_at hl 3 rfl) ?_
  refine cx_mostSeated C0 hKX hH hl.1 (Nat.le_of_ble_eq_true rfl) hc5 dL_law_1122 glX_mostSeated rx X' ex (fun H locs hH => ?_)
  refine lv_pop hx hb dL_law_1125 rfl ?_
  have hH := hH.perm (cat_swap _ _ _)
  refine lv_aload_n hx hb dL_law_1126 rfl (lv_at hl 2 rfl) ?_
  refine cn_mostSeated C0 hKM hKQ hH hl.1 (Nat.le_of_ble_eq_true rfl) hc5 dL_law_1127 glM_mostSeated_nul glM_mostSeated rm M' o' em (fun RV qa qu qk H locs hKQ hH => ?_)
  have hH := hH.perm (cat_swap _ _ _)
  refine lv_pop hx hb dL_law_1130 rfl ?_
  refine lv_goto (tgt := 1953) hx hb dL_law_1131 (by decide) ?_
  exact W.widen (by omega) (by omega) (kk H locs ⟨A, U, C, na, nu, nk, X', B, E, M', o', RV, qa, qu, qk, cO, fO, rfl, rfl, hKX, hKM, hKQ, hKO, hR', hH⟩ ls hl)
set_option maxHeartbeats 1000000 in
set_option maxRecDepth 20000 in
theorem lc_22 {p : Program} {l : Launch} {e : Env} {s : State} {m : MethodId} {below : List Frame} {meth : Method} {c : Code} {b L : Nat} {xs : Nat → Int32} {H : Heap} {locs : List Loc} {cells slots : Nat} {Q : State → Prop} {dC : Nat → ClassId} {dI : Nat → Nat → Nat} (C0 : LW p l s m meth c b L xs) (hL : L ≤ 3072) {n : Nat} (hn : n + 6 ≤ L) {h0 g0 q9 : Nat} (hI : LI (dC, dI) s h0 g0 q9 H locs) (hcs : cells ≤ 400000 ∧ slots ≤ 6000000) (ls : Array Slot) (hl : lv_has ls 7 [(4, .int (nI n)), (3, .ref q9), (2, .ref g0), (1, .ref h0), (0, .ref b)])
    (kk : ∀ (H : Heap) (locs : List Loc), LI (dC, dI) s h0 g0 q9 H locs → ∀ ls : Array Slot, lv_has ls 7 [(4, .int (nI n)), (3, .ref q9), (2, .ref g0), (1, .ref h0), (0, .ref b)] → W p l e room_1 s m #[Value.ref b] below meth c H locs (cells + 50) (slots + 300) Q (F0 m 1953 ls [])) : W p l e room_1 s m #[Value.ref b] below meth c H locs cells slots Q (F0 m 1134 ls []) := by
  obtain ⟨⟨hx, hb, -⟩, -⟩ := id C0
  have hb : c.code = cL_law := hb
  obtain ⟨A, U, C, na, nu, nk, X, B, E, M, o, RV, qa, qu, qk, cO, fO, rfl, rfl, hKX, hKM, hKQ, hKO, hR, hH⟩ := hI
  have hc5 : cells ≤ 500000 ∧ slots ≤ 7000000 := ⟨by omega, by omega⟩
  obtain ⟨rx, X', rm, M', o', ex, em, hR', he⟩ := st_darks  hR
  refine lv_aload_n hx hb dL_law_1134 rfl (lv_at hl 3 rfl) ?_
  refine cx_darks C0 hKX hH hl.1 (Nat.le_of_ble_eq_true rfl) hc5 dL_law_1135 glX_darks rx X' ex (fun H locs hH => ?_)
  refine lv_pop hx hb dL_law_1138 rfl ?_
  have hH := hH.perm (cat_swap _ _ _)
  refine lv_aload_n hx hb dL_law_1139 rfl (lv_at hl 2 rfl) ?_
  refine cn_darks C0 hKM hKQ hH hl.1 (Nat.le_of_ble_eq_true rfl) hc5 dL_law_1140 glM_darks_nul glM_darks rm M' o' em (fun RV qa qu qk H locs hKQ hH => ?_)
  have hH := hH.perm (cat_swap _ _ _)
  refine lv_pop hx hb dL_law_1143 rfl ?_
  refine lv_goto (tgt := 1953) hx hb dL_law_1144 (by decide) ?_
  exact W.widen (by omega) (by omega) (kk H locs ⟨A, U, C, na, nu, nk, X', B, E, M', o', RV, qa, qu, qk, cO, fO, rfl, rfl, hKX, hKM, hKQ, hKO, hR', hH⟩ ls hl)
set_option maxHeartbeats 1000000 in
set_option maxRecDepth 20000 in
theorem lc_23 {p : Program} {l : Launch} {e : Env} {s : State} {m : MethodId} {below : List Frame} {meth : Method} {c : Code} {b L : Nat} {xs : Nat → Int32} {H : Heap} {locs : List Loc} {cells slots : Nat} {Q : State → Prop} {dC : Nat → ClassId} {dI : Nat → Nat → Nat} (C0 : LW p l s m meth c b L xs) (hL : L ≤ 3072) {n : Nat} (hn : n + 6 ≤ L) {h0 g0 q9 : Nat} (hI : LI (dC, dI) s h0 g0 q9 H locs) (hcs : cells ≤ 400000 ∧ slots ≤ 6000000) (ls : Array Slot) (hl : lv_has ls 7 [(4, .int (nI n)), (3, .ref q9), (2, .ref g0), (1, .ref h0), (0, .ref b)])
    (kk : ∀ (H : Heap) (locs : List Loc), LI (dC, dI) s h0 g0 q9 H locs → ∀ ls : Array Slot, lv_has ls 7 [(4, .int (nI n)), (3, .ref q9), (2, .ref g0), (1, .ref h0), (0, .ref b)] → W p l e room_1 s m #[Value.ref b] below meth c H locs (cells + 50) (slots + 300) Q (F0 m 1953 ls [])) : W p l e room_1 s m #[Value.ref b] below meth c H locs cells slots Q (F0 m 1147 ls []) := by
  obtain ⟨⟨hx, hb, -⟩, -⟩ := id C0
  have hb : c.code = cL_law := hb
  obtain ⟨A, U, C, na, nu, nk, X, B, E, M, o, RV, qa, qu, qk, cO, fO, rfl, rfl, hKX, hKM, hKQ, hKO, hR, hH⟩ := hI
  have hc5 : cells ≤ 500000 ∧ slots ≤ 7000000 := ⟨by omega, by omega⟩
  obtain ⟨rx, X', rm, M', o', ex, em, hR', he⟩ := st_darkAt (k1 := xs (n + 1)) hR
  refine lv_aload_n hx hb dL_law_1147 rfl (lv_at hl 3 rfl) ?_
  refine ld_a C0 hH.2.2 (lv_at hl 4 rfl) (lv_at hl 0 rfl) (show n + 1 < L by omega) hL rfl dL_law_1148 dL_law_1149 dL_law_1151 dL_law_1152 dL_law_1153 ?_
  refine cx_darkAt C0 hKX hH hl.1 (Nat.le_of_ble_eq_true rfl) hc5 dL_law_1154 glX_darkAt rx X' ex (fun H locs hH => ?_)
  refine lv_pop hx hb dL_law_1157 rfl ?_
  have hH := hH.perm (cat_swap _ _ _)
  refine lv_aload_n hx hb dL_law_1158 rfl (lv_at hl 2 rfl) ?_
  refine ld_a C0 hH.2.2 (lv_at hl 4 rfl) (lv_at hl 0 rfl) (show n + 1 < L by omega) hL rfl dL_law_1159 dL_law_1160 dL_law_1162 dL_law_1163 dL_law_1164 ?_
  refine cn_darkAt C0 hKM hKQ hH hl.1 (Nat.le_of_ble_eq_true rfl) hc5 dL_law_1165 glM_darkAt_nul glM_darkAt rm M' o' em (fun RV qa qu qk H locs hKQ hH => ?_)
  have hH := hH.perm (cat_swap _ _ _)
  refine lv_pop hx hb dL_law_1168 rfl ?_
  refine lv_goto (tgt := 1953) hx hb dL_law_1169 (by decide) ?_
  exact W.widen (by omega) (by omega) (kk H locs ⟨A, U, C, na, nu, nk, X', B, E, M', o', RV, qa, qu, qk, cO, fO, rfl, rfl, hKX, hKM, hKQ, hKO, hR', hH⟩ ls hl)
set_option maxHeartbeats 1000000 in
set_option maxRecDepth 20000 in
theorem lc_24 {p : Program} {l : Launch} {e : Env} {s : State} {m : MethodId} {below : List Frame} {meth : Method} {c : Code} {b L : Nat} {xs : Nat → Int32} {H : Heap} {locs : List Loc} {cells slots : Nat} {Q : State → Prop} {dC : Nat → ClassId} {dI : Nat → Nat → Nat} (C0 : LW p l s m meth c b L xs) (hL : L ≤ 3072) {n : Nat} (hn : n + 6 ≤ L) {h0 g0 q9 : Nat} (hI : LI (dC, dI) s h0 g0 q9 H locs) (hcs : cells ≤ 400000 ∧ slots ≤ 6000000) (ls : Array Slot) (hl : lv_has ls 7 [(4, .int (nI n)), (3, .ref q9), (2, .ref g0), (1, .ref h0), (0, .ref b)])
    (kk : ∀ (H : Heap) (locs : List Loc), LI (dC, dI) s h0 g0 q9 H locs → ∀ ls : Array Slot, lv_has ls 7 [(4, .int (nI n)), (3, .ref q9), (2, .ref g0), (1, .ref h0), (0, .ref b)] → W p l e room_1 s m #[Value.ref b] below meth c H locs (cells + 50) (slots + 300) Q (F0 m 1953 ls [])) : W p l e room_1 s m #[Value.ref b] below meth c H locs cells slots Q (F0 m 1172 ls []) := by
  obtain ⟨⟨hx, hb, -⟩, -⟩ := id C0
  have hb : c.code = cL_law := hb
  obtain ⟨A, U, C, na, nu, nk, X, B, E, M, o, RV, qa, qu, qk, cO, fO, rfl, rfl, hKX, hKM, hKQ, hKO, hR, hH⟩ := hI
  have hc5 : cells ≤ 500000 ∧ slots ≤ 7000000 := ⟨by omega, by omega⟩
  obtain ⟨rx, X', rm, M', o', ex, em, hR', he⟩ := st_darkSpots  hR
  refine lv_aload_n hx hb dL_law_1172 rfl (lv_at hl 3 rfl) ?_
  refine cx_darkSpots C0 hKX hH hl.1 (Nat.le_of_ble_eq_true rfl) hc5 dL_law_1173 glX_darkSpots rx X' ex (fun H locs hH => ?_)
  refine lv_pop hx hb dL_law_1176 rfl ?_
  have hH := hH.perm (cat_swap _ _ _)
  refine lv_aload_n hx hb dL_law_1177 rfl (lv_at hl 2 rfl) ?_
  refine cn_darkSpots C0 hKM hKQ hH hl.1 (Nat.le_of_ble_eq_true rfl) hc5 dL_law_1178 glM_darkSpots_nul glM_darkSpots rm M' o' em (fun RV qa qu qk H locs hKQ hH => ?_)
  have hH := hH.perm (cat_swap _ _ _)
  refine lv_pop hx hb dL_law_1181 rfl ?_
  refine lv_goto (tgt := 1953) hx hb dL_law_1182 (by decide) ?_
  exact W.widen (by omega) (by omega) (kk H locs ⟨A, U, C, na, nu, nk, X', B, E, M', o', RV, qa, qu, qk, cO, fO, rfl, rfl, hKX, hKM, hKQ, hKO, hR', hH⟩ ls hl)
set_option maxHeartbeats 1000000 in
set_option maxRecDepth 20000 in
theorem lc_25 {p : Program} {l : Launch} {e : Env} {s : State} {m : MethodId} {below : List Frame} {meth : Method} {c : Code} {b L : Nat} {xs : Nat → Int32} {H : Heap} {locs : List Loc} {cells slots : Nat} {Q : State → Prop} {dC : Nat → ClassId} {dI : Nat → Nat → Nat} (C0 : LW p l s m meth c b L xs) (hL : L ≤ 3072) {n : Nat} (hn : n + 6 ≤ L) {h0 g0 q9 : Nat} (hI : LI (dC, dI) s h0 g0 q9 H locs) (hcs : cells ≤ 400000 ∧ slots ≤ 6000000) (ls : Array Slot) (hl : lv_has ls 7 [(4, .int (nI n)), (3, .ref q9), (2, .ref g0), (1, .ref h0), (0, .ref b)])
    (kk : ∀ (H : Heap) (locs : List Loc), LI (dC, dI) s h0 g0 q9 H locs → ∀ ls : Array Slot, lv_has ls 7 [(4, .int (nI n)), (3, .ref q9), (2, .ref g0), (1, .ref h0), (0, .ref b)] → W p l e room_1 s m #[Value.ref b] below meth c H locs (cells + 50) (slots + 300) Q (F0 m 1953 ls [])) : W p l e room_1 s m #[Value.ref b] below meth c H locs cells slots Q (F0 m 1185 ls []) := by
  obtain ⟨⟨hx, hb, -⟩, -⟩ := id C0
  have hb : c.code = cL_law := hb
  obtain ⟨A, U, C, na, nu, nk, X, B, E, M, o, RV, qa, qu, qk, cO, fO, rfl, rfl, hKX, hKM, hKQ, hKO, hR, hH⟩ := hI
  have hc5 : cells ≤ 500000 ∧ slots ≤ 7000000 := ⟨by omega, by omega⟩
  obtain ⟨rx, X', rm, M', o', ex, em, hR', he⟩ := st_ask  hR
  refine lv_aload_n hx hb dL_law_1185 rfl (lv_at hl 3 rfl) ?_
  refine cx_ask C0 hKX hH hl.1 (Nat.le_of_ble_eq_true rfl) hc5 dL_law_1186 glX_ask rx X' ex (fun H locs hH => ?_)
  refine lv_pop hx hb dL_law_1189 rfl ?_
  have hH := hH.perm (cat_swap _ _ _)
  refine lv_aload_n hx hb dL_law_1190 rfl (lv_at hl 2 rfl) ?_
  refine cn_ask C0 hKM hKQ hH hl.1 (Nat.le_of_ble_eq_true rfl) hc5 dL_law_1191 glM_ask_nul glM_ask rm M' o' em (fun RV qa qu qk H locs hKQ hH => ?_)
  have hH := hH.perm (cat_swap _ _ _)
  refine lv_pop hx hb dL_law_1194 rfl ?_
  refine lv_goto (tgt := 1953) hx hb dL_law_1195 (by decide) ?_
  exact W.widen (by omega) (by omega) (kk H locs ⟨A, U, C, na, nu, nk, X', B, E, M', o', RV, qa, qu, qk, cO, fO, rfl, rfl, hKX, hKM, hKQ, hKO, hR', hH⟩ ls hl)
set_option maxHeartbeats 1000000 in
set_option maxRecDepth 20000 in
theorem lc_26 {p : Program} {l : Launch} {e : Env} {s : State} {m : MethodId} {below : List Frame} {meth : Method} {c : Code} {b L : Nat} {xs : Nat → Int32} {H : Heap} {locs : List Loc} {cells slots : Nat} {Q : State → Prop} {dC : Nat → ClassId} {dI : Nat → Nat → Nat} (C0 : LW p l s m meth c b L xs) (hL : L ≤ 3072) {n : Nat} (hn : n + 6 ≤ L) {h0 g0 q9 : Nat} (hI : LI (dC, dI) s h0 g0 q9 H locs) (hcs : cells ≤ 400000 ∧ slots ≤ 6000000) (ls : Array Slot) (hl : lv_has ls 7 [(4, .int (nI n)), (3, .ref q9), (2, .ref g0), (1, .ref h0), (0, .ref b)])
    (kk : ∀ (H : Heap) (locs : List Loc), LI (dC, dI) s h0 g0 q9 H locs → ∀ ls : Array Slot, lv_has ls 7 [(4, .int (nI n)), (3, .ref q9), (2, .ref g0), (1, .ref h0), (0, .ref b)] → W p l e room_1 s m #[Value.ref b] below meth c H locs (cells + 50) (slots + 300) Q (F0 m 1953 ls [])) : W p l e room_1 s m #[Value.ref b] below meth c H locs cells slots Q (F0 m 1198 ls []) := by
  obtain ⟨⟨hx, hb, -⟩, -⟩ := id C0
  have hb : c.code = cL_law := hb
  obtain ⟨A, U, C, na, nu, nk, X, B, E, M, o, RV, qa, qu, qk, cO, fO, rfl, rfl, hKX, hKM, hKQ, hKO, hR, hH⟩ := hI
  have hc5 : cells ≤ 500000 ∧ slots ≤ 7000000 := ⟨by omega, by omega⟩
  obtain ⟨rx, X', rm, M', o', ex, em, hR', he⟩ := st_askLeaves  hR
  refine lv_aload_n hx hb dL_law_1198 rfl (lv_at hl 3 rfl) ?_
  refine cx_askLeaves C0 hKX hH hl.1 (Nat.le_of_ble_eq_true rfl) hc5 dL_law_1199 glX_askLeaves rx X' ex (fun H locs hH => ?_)
  refine lv_pop hx hb dL_law_1202 rfl ?_
  have hH := hH.perm (cat_swap _ _ _)
  refine lv_aload_n hx hb dL_law_1203 rfl (lv_at hl 2 rfl) ?_
  refine cn_askLeaves C0 hKM hKQ hH hl.1 (Nat.le_of_ble_eq_true rfl) hc5 dL_law_1204 glM_askLeaves_nul glM_askLeaves rm M' o' em (fun RV qa qu qk H locs hKQ hH => ?_)
  have hH := hH.perm (cat_swap _ _ _)
  refine lv_pop hx hb dL_law_1207 rfl ?_
  refine lv_goto (tgt := 1953) hx hb dL_law_1208 (by decide) ?_
  exact W.widen (by omega) (by omega) (kk H locs ⟨A, U, C, na, nu, nk, X', B, E, M', o', RV, qa, qu, qk, cO, fO, rfl, rfl, hKX, hKM, hKQ, hKO, hR', hH⟩ ls hl)
set_option maxHeartbeats 1000000 in
set_option maxRecDepth 20000 in
theorem lc_27 {p : Program} {l : Launch} {e : Env} {s : State} {m : MethodId} {below : List Frame} {meth : Method} {c : Code} {b L : Nat} {xs : Nat → Int32} {H : Heap} {locs : List Loc} {cells slots : Nat} {Q : State → Prop} {dC : Nat → ClassId} {dI : Nat → Nat → Nat} (C0 : LW p l s m meth c b L xs) (hL : L ≤ 3072) {n : Nat} (hn : n + 6 ≤ L) {h0 g0 q9 : Nat} (hI : LI (dC, dI) s h0 g0 q9 H locs) (hcs : cells ≤ 400000 ∧ slots ≤ 6000000) (ls : Array Slot) (hl : lv_has ls 7 [(4, .int (nI n)), (3, .ref q9), (2, .ref g0), (1, .ref h0), (0, .ref b)])
    (kk : ∀ (H : Heap) (locs : List Loc), LI (dC, dI) s h0 g0 q9 H locs → ∀ ls : Array Slot, lv_has ls 7 [(4, .int (nI n)), (3, .ref q9), (2, .ref g0), (1, .ref h0), (0, .ref b)] → W p l e room_1 s m #[Value.ref b] below meth c H locs (cells + 50) (slots + 300) Q (F0 m 1953 ls [])) : W p l e room_1 s m #[Value.ref b] below meth c H locs cells slots Q (F0 m 1211 ls []) := by
  obtain ⟨⟨hx, hb, -⟩, -⟩ := id C0
  have hb : c.code = cL_law := hb
  obtain ⟨A, U, C, na, nu, nk, X, B, E, M, o, RV, qa, qu, qk, cO, fO, rfl, rfl, hKX, hKM, hKQ, hKO, hR, hH⟩ := hI
  have hc5 : cells ≤ 500000 ∧ slots ≤ 7000000 := ⟨by omega, by omega⟩
  obtain ⟨rx, X', rm, M', o', ex, em, hR', he⟩ := st_judge (k1 := xs (n + 1)) hR
  refine lv_aload_n hx hb dL_law_1211 rfl (lv_at hl 3 rfl) ?_
  refine ld_a C0 hH.2.2 (lv_at hl 4 rfl) (lv_at hl 0 rfl) (show n + 1 < L by omega) hL rfl dL_law_1212 dL_law_1213 dL_law_1215 dL_law_1216 dL_law_1217 ?_
  refine cx_judge C0 hKX hH hl.1 (Nat.le_of_ble_eq_true rfl) hc5 dL_law_1218 glX_judge rx X' ex (fun H locs hH => ?_)
  refine lv_pop hx hb dL_law_1221 rfl ?_
  have hH := hH.perm (cat_swap _ _ _)
  refine lv_aload_n hx hb dL_law_1222 rfl (lv_at hl 2 rfl) ?_
  refine ld_a C0 hH.2.2 (lv_at hl 4 rfl) (lv_at hl 0 rfl) (show n + 1 < L by omega) hL rfl dL_law_1223 dL_law_1224 dL_law_1226 dL_law_1227 dL_law_1228 ?_
  refine cn_judge C0 hKM hKQ hH hl.1 (Nat.le_of_ble_eq_true rfl) hc5 dL_law_1229 glM_judge_nul glM_judge rm M' o' em (fun RV qa qu qk H locs hKQ hH => ?_)
  have hH := hH.perm (cat_swap _ _ _)
  refine lv_pop hx hb dL_law_1232 rfl ?_
  refine lv_goto (tgt := 1953) hx hb dL_law_1233 (by decide) ?_
  exact W.widen (by omega) (by omega) (kk H locs ⟨A, U, C, na, nu, nk, X', B, E, M', o', RV, qa, qu, qk, cO, fO, rfl, rfl, hKX, hKM, hKQ, hKO, hR', hH⟩ ls hl)
set_option maxHeartbeats 1000000 in
set_option maxRecDepth 20000 in
theorem lc_28 {p : Program} {l : Launch} {e : Env} {s : State} {m : MethodId} {below : List Frame} {meth : Method} {c : Code} {b L : Nat} {xs : Nat → Int32} {H : Heap} {locs : List Loc} {cells slots : Nat} {Q : State → Prop} {dC : Nat → ClassId} {dI : Nat → Nat → Nat} (C0 : LW p l s m meth c b L xs) (hL : L ≤ 3072) {n : Nat} (hn : n + 6 ≤ L) {h0 g0 q9 : Nat} (hI : LI (dC, dI) s h0 g0 q9 H locs) (hcs : cells ≤ 400000 ∧ slots ≤ 6000000) (ls : Array Slot) (hl : lv_has ls 7 [(4, .int (nI n)), (3, .ref q9), (2, .ref g0), (1, .ref h0), (0, .ref b)])
    (kk : ∀ (H : Heap) (locs : List Loc), LI (dC, dI) s h0 g0 q9 H locs → ∀ ls : Array Slot, lv_has ls 7 [(4, .int (nI n)), (3, .ref q9), (2, .ref g0), (1, .ref h0), (0, .ref b)] → W p l e room_1 s m #[Value.ref b] below meth c H locs (cells + 50) (slots + 300) Q (F0 m 1953 ls [])) : W p l e room_1 s m #[Value.ref b] below meth c H locs cells slots Q (F0 m 1236 ls []) := by
  obtain ⟨⟨hx, hb, -⟩, -⟩ := id C0
  have hb : c.code = cL_law := hb
  obtain ⟨A, U, C, na, nu, nk, X, B, E, M, o, RV, qa, qu, qk, cO, fO, rfl, rfl, hKX, hKM, hKQ, hKO, hR, hH⟩ := hI
  have hc5 : cells ≤ 500000 ∧ slots ≤ 7000000 := ⟨by omega, by omega⟩
  obtain ⟨rx, X', rm, M', o', ex, em, hR', he⟩ := st_worth (k1 := xs (n + 1)) (k2 := xs (n + 2)) (k3 := xs (n + 3)) hR
  refine lv_aload_n hx hb dL_law_1236 rfl (lv_at hl 3 rfl) ?_
  refine ld_a C0 hH.2.2 (lv_at hl 4 rfl) (lv_at hl 0 rfl) (show n + 1 < L by omega) hL rfl dL_law_1237 dL_law_1238 dL_law_1240 dL_law_1241 dL_law_1242 ?_
  refine ld_a C0 hH.2.2 (lv_at hl 4 rfl) (lv_at hl 0 rfl) (show n + 2 < L by omega) hL rfl dL_law_1243 dL_law_1244 dL_law_1246 dL_law_1247 dL_law_1248 ?_
  refine ld_a C0 hH.2.2 (lv_at hl 4 rfl) (lv_at hl 0 rfl) (show n + 3 < L by omega) hL rfl dL_law_1249 dL_law_1250 dL_law_1252 dL_law_1253 dL_law_1254 ?_
  refine cx_worth C0 hKX hH hl.1 (Nat.le_of_ble_eq_true rfl) hc5 dL_law_1255 glX_worth rx X' ex (fun H locs hH => ?_)
  refine lv_pop hx hb dL_law_1258 rfl ?_
  have hH := hH.perm (cat_swap _ _ _)
  refine lv_aload_n hx hb dL_law_1259 rfl (lv_at hl 2 rfl) ?_
  refine ld_a C0 hH.2.2 (lv_at hl 4 rfl) (lv_at hl 0 rfl) (show n + 1 < L by omega) hL rfl dL_law_1260 dL_law_1261 dL_law_1263 dL_law_1264 dL_law_1265 ?_
  refine ld_a C0 hH.2.2 (lv_at hl 4 rfl) (lv_at hl 0 rfl) (show n + 2 < L by omega) hL rfl dL_law_1266 dL_law_1267 dL_law_1269 dL_law_1270 dL_law_1271 ?_
  refine ld_a C0 hH.2.2 (lv_at hl 4 rfl) (lv_at hl 0 rfl) (show n + 3 < L by omega) hL rfl dL_law_1272 dL_law_1273 dL_law_1275 dL_law_1276 dL_law_1277 ?_
  refine cn_worth C0 hKM hKQ hH hl.1 (Nat.le_of_ble_eq_true rfl) hc5 dL_law_1278 glM_worth_nul glM_worth rm M' o' em (fun RV qa qu qk H locs hKQ hH => ?_)
  have hH := hH.perm (cat_swap _ _ _)
  refine lv_pop hx hb dL_law_1281 rfl ?_
  refine lv_goto (tgt := 1953) hx hb dL_law_1282 (by decide) ?_
  exact W.widen (by omega) (by omega) (kk H locs ⟨A, U, C, na, nu, nk, X', B, E, M', o', RV, qa, qu, qk, cO, fO, rfl, rfl, hKX, hKM, hKQ, hKO, hR', hH⟩ ls hl)
set_option maxHeartbeats 1000000 in
set_option maxRecDepth 20000 in
theorem lc_29 {p : Program} {l : Launch} {e : Env} {s : State} {m : MethodId} {below : List Frame} {meth : Method} {c : Code} {b L : Nat} {xs : Nat → Int32} {H : Heap} {locs : List Loc} {cells slots : Nat} {Q : State → Prop} {dC : Nat → ClassId} {dI : Nat → Nat → Nat} (C0 : LW p l s m meth c b L xs) (hL : L ≤ 3072) {n : Nat} (hn : n + 6 ≤ L) {h0 g0 q9 : Nat} (hI : LI (dC, dI) s h0 g0 q9 H locs) (hcs : cells ≤ 400000 ∧ slots ≤ 6000000) (ls : Array Slot) (hl : lv_has ls 7 [(4, .int (nI n)), (3, .ref q9), (2, .ref g0), (1, .ref h0), (0, .ref b)])
    (kk : ∀ (H : Heap) (locs : List Loc), LI (dC, dI) s h0 g0 q9 H locs → ∀ ls : Array Slot, lv_has ls 7 [(4, .int (nI n)), (3, .ref q9), (2, .ref g0), (1, .ref h0), (0, .ref b)] → W p l e room_1 s m #[Value.ref b] below meth c H locs (cells + 50) (slots + 300) Q (F0 m 1953 ls [])) : W p l e room_1 s m #[Value.ref b] below meth c H locs cells slots Q (F0 m 1285 ls []) := by
  obtain ⟨⟨hx, hb, -⟩, -⟩ := id C0
  have hb : c.code = cL_law := hb
  obtain ⟨A, U, C, na, nu, nk, X, B, E, M, o, RV, qa, qu, qk, cO, fO, rfl, rfl, hKX, hKM, hKQ, hKO, hR, hH⟩ := hI
  have hc5 : cells ≤ 500000 ∧ slots ≤ 7000000 := ⟨by omega, by omega⟩
  obtain ⟨rx, X', rm, M', o', ex, em, hR', he⟩ := st_load (k1 := xs (n + 1)) hR
  refine lv_aload_n hx hb dL_law_1285 rfl (lv_at hl 3 rfl) ?_
  refine ld_a C0 hH.2.2 (lv_at hl 4 rfl) (lv_at hl 0 rfl) (show n + 1 < L by omega) hL rfl dL_law_1286 dL_law_1287 dL_law_1289 dL_law_1290 dL_law_1291 ?_
  refine cx_load C0 hKX hH hl.1 (Nat.le_of_ble_eq_true rfl) hc5 dL_law_1292 glX_load rx X' ex (fun H locs hH => ?_)
  refine lv_pop hx hb dL_law_1295 rfl ?_
  have hH := hH.perm (cat_swap _ _ _)
  refine lv_aload_n hx hb dL_law_1296 rfl (lv_at hl 2 rfl) ?_
  refine ld_a C0 hH.2.2 (lv_at hl 4 rfl) (lv_at hl 0 rfl) (show n + 1 < L by omega) hL rfl dL_law_1297 dL_law_1298 dL_law_1300 dL_law_1301 dL_law_1302 ?_
  refine cn_load C0 hKM hKQ hH hl.1 (Nat.le_of_ble_eq_true rfl) hc5 dL_law_1303 glM_load_nul glM_load rm M' o' em (fun RV qa qu qk H locs hKQ hH => ?_)
  have hH := hH.perm (cat_swap _ _ _)
  refine lv_pop hx hb dL_law_1306 rfl ?_
  refine lv_goto (tgt := 1953) hx hb dL_law_1307 (by decide) ?_
  exact W.widen (by omega) (by omega) (kk H locs ⟨A, U, C, na, nu, nk, X', B, E, M', o', RV, qa, qu, qk, cO, fO, rfl, rfl, hKX, hKM, hKQ, hKO, hR', hH⟩ ls hl)
set_option maxHeartbeats 1000000 in
set_option maxRecDepth 20000 in
theorem lc_30 {p : Program} {l : Launch} {e : Env} {s : State} {m : MethodId} {below : List Frame} {meth : Method} {c : Code} {b L : Nat} {xs : Nat → Int32} {H : Heap} {locs : List Loc} {cells slots : Nat} {Q : State → Prop} {dC : Nat → ClassId} {dI : Nat → Nat → Nat} (C0 : LW p l s m meth c b L xs) (hL : L ≤ 3072) {n : Nat} (hn : n + 6 ≤ L) {h0 g0 q9 : Nat} (hI : LI (dC, dI) s h0 g0 q9 H locs) (hcs : cells ≤ 400000 ∧ slots ≤ 6000000) (ls : Array Slot) (hl : lv_has ls 7 [(4, .int (nI n)), (3, .ref q9), (2, .ref g0), (1, .ref h0), (0, .ref b)])
    (kk : ∀ (H : Heap) (locs : List Loc), LI (dC, dI) s h0 g0 q9 H locs → ∀ ls : Array Slot, lv_has ls 7 [(4, .int (nI n)), (3, .ref q9), (2, .ref g0), (1, .ref h0), (0, .ref b)] → W p l e room_1 s m #[Value.ref b] below meth c H locs (cells + 50) (slots + 300) Q (F0 m 1953 ls [])) : W p l e room_1 s m #[Value.ref b] below meth c H locs cells slots Q (F0 m 1310 ls []) := by
  obtain ⟨⟨hx, hb, -⟩, -⟩ := id C0
  have hb : c.code = cL_law := hb
  obtain ⟨A, U, C, na, nu, nk, X, B, E, M, o, RV, qa, qu, qk, cO, fO, rfl, rfl, hKX, hKM, hKQ, hKO, hR, hH⟩ := hI
  have hc5 : cells ≤ 500000 ∧ slots ≤ 7000000 := ⟨by omega, by omega⟩
  obtain ⟨rx, X', rm, M', o', ex, em, hR', he⟩ := st_loadWorth (k1 := xs (n + 1)) hR
  refine lv_aload_n hx hb dL_law_1310 rfl (lv_at hl 3 rfl) ?_
  refine ld_a C0 hH.2.2 (lv_at hl 4 rfl) (lv_at hl 0 rfl) (show n + 1 < L by omega) hL rfl dL_law_1311 dL_law_1312 dL_law_1314 dL_law_1315 dL_law_1316 ?_
  refine cx_loadWorth C0 hKX hH hl.1 (Nat.le_of_ble_eq_true rfl) hc5 dL_law_1317 glX_loadWorth rx X' ex (fun H locs hH => ?_)
  refine lv_pop hx hb dL_law_1320 rfl ?_
  have hH := hH.perm (cat_swap _ _ _)
  refine lv_aload_n hx hb dL_law_1321 rfl (lv_at hl 2 rfl) ?_
  refine ld_a C0 hH.2.2 (lv_at hl 4 rfl) (lv_at hl 0 rfl) (show n + 1 < L by omega) hL rfl dL_law_1322 dL_law_1323 dL_law_1325 dL_law_1326 dL_law_1327 ?_
  refine cn_loadWorth C0 hKM hKQ hH hl.1 (Nat.le_of_ble_eq_true rfl) hc5 dL_law_1328 glM_loadWorth_nul glM_loadWorth rm M' o' em (fun RV qa qu qk H locs hKQ hH => ?_)
  have hH := hH.perm (cat_swap _ _ _)
  refine lv_pop hx hb dL_law_1331 rfl ?_
  refine lv_goto (tgt := 1953) hx hb dL_law_1332 (by decide) ?_
  exact W.widen (by omega) (by omega) (kk H locs ⟨A, U, C, na, nu, nk, X', B, E, M', o', RV, qa, qu, qk, cO, fO, rfl, rfl, hKX, hKM, hKQ, hKO, hR', hH⟩ ls hl)
set_option maxHeartbeats 1000000 in
set_option maxRecDepth 20000 in
theorem lc_31 {p : Program} {l : Launch} {e : Env} {s : State} {m : MethodId} {below : List Frame} {meth : Method} {c : Code} {b L : Nat} {xs : Nat → Int32} {H : Heap} {locs : List Loc} {cells slots : Nat} {Q : State → Prop} {dC : Nat → ClassId} {dI : Nat → Nat → Nat} (C0 : LW p l s m meth c b L xs) (hL : L ≤ 3072) {n : Nat} (hn : n + 6 ≤ L) {h0 g0 q9 : Nat} (hI : LI (dC, dI) s h0 g0 q9 H locs) (hcs : cells ≤ 400000 ∧ slots ≤ 6000000) (ls : Array Slot) (hl : lv_has ls 7 [(4, .int (nI n)), (3, .ref q9), (2, .ref g0), (1, .ref h0), (0, .ref b)])
    (kk : ∀ (H : Heap) (locs : List Loc), LI (dC, dI) s h0 g0 q9 H locs → ∀ ls : Array Slot, lv_has ls 7 [(4, .int (nI n)), (3, .ref q9), (2, .ref g0), (1, .ref h0), (0, .ref b)] → W p l e room_1 s m #[Value.ref b] below meth c H locs (cells + 50) (slots + 300) Q (F0 m 1953 ls [])) : W p l e room_1 s m #[Value.ref b] below meth c H locs cells slots Q (F0 m 1335 ls []) := by
  obtain ⟨⟨hx, hb, -⟩, -⟩ := id C0
  have hb : c.code = cL_law := hb
  obtain ⟨A, U, C, na, nu, nk, X, B, E, M, o, RV, qa, qu, qk, cO, fO, rfl, rfl, hKX, hKM, hKQ, hKO, hR, hH⟩ := hI
  have hc5 : cells ≤ 500000 ∧ slots ≤ 7000000 := ⟨by omega, by omega⟩
  obtain ⟨rx, X', rm, M', o', ex, em, hR', he⟩ := st_bestDay  hR
  refine lv_aload_n hx hb dL_law_1335 rfl (lv_at hl 3 rfl) ?_
  refine cx_bestDay C0 hKX hH hl.1 (Nat.le_of_ble_eq_true rfl) hc5 dL_law_1336 glX_bestDay rx X' ex (fun H locs hH => ?_)
  refine lv_pop hx hb dL_law_1339 rfl ?_
  have hH := hH.perm (cat_swap _ _ _)
  refine lv_aload_n hx hb dL_law_1340 rfl (lv_at hl 2 rfl) ?_
  refine cn_bestDay C0 hKM hKQ hH hl.1 (Nat.le_of_ble_eq_true rfl) hc5 dL_law_1341 glM_bestDay_nul glM_bestDay rm M' o' em (fun RV qa qu qk H locs hKQ hH => ?_)
  have hH := hH.perm (cat_swap _ _ _)
  refine lv_pop hx hb dL_law_1344 rfl ?_
  refine lv_goto (tgt := 1953) hx hb dL_law_1345 (by decide) ?_
  exact W.widen (by omega) (by omega) (kk H locs ⟨A, U, C, na, nu, nk, X', B, E, M', o', RV, qa, qu, qk, cO, fO, rfl, rfl, hKX, hKM, hKQ, hKO, hR', hH⟩ ls hl)
set_option maxHeartbeats 1000000 in
set_option maxRecDepth 20000 in
theorem lc_32 {p : Program} {l : Launch} {e : Env} {s : State} {m : MethodId} {below : List Frame} {meth : Method} {c : Code} {b L : Nat} {xs : Nat → Int32} {H : Heap} {locs : List Loc} {cells slots : Nat} {Q : State → Prop} {dC : Nat → ClassId} {dI : Nat → Nat → Nat} (C0 : LW p l s m meth c b L xs) (hL : L ≤ 3072) {n : Nat} (hn : n + 6 ≤ L) {h0 g0 q9 : Nat} (hI : LI (dC, dI) s h0 g0 q9 H locs) (hcs : cells ≤ 400000 ∧ slots ≤ 6000000) (ls : Array Slot) (hl : lv_has ls 7 [(4, .int (nI n)), (3, .ref q9), (2, .ref g0), (1, .ref h0), (0, .ref b)])
    (kk : ∀ (H : Heap) (locs : List Loc), LI (dC, dI) s h0 g0 q9 H locs → ∀ ls : Array Slot, lv_has ls 7 [(4, .int (nI n)), (3, .ref q9), (2, .ref g0), (1, .ref h0), (0, .ref b)] → W p l e room_1 s m #[Value.ref b] below meth c H locs (cells + 50) (slots + 300) Q (F0 m 1953 ls [])) : W p l e room_1 s m #[Value.ref b] below meth c H locs cells slots Q (F0 m 1348 ls []) := by
  obtain ⟨⟨hx, hb, -⟩, -⟩ := id C0
  have hb : c.code = cL_law := hb
  obtain ⟨A, U, C, na, nu, nk, X, B, E, M, o, RV, qa, qu, qk, cO, fO, rfl, rfl, hKX, hKM, hKQ, hKO, hR, hH⟩ := hI
  have hc5 : cells ≤ 500000 ∧ slots ≤ 7000000 := ⟨by omega, by omega⟩
  obtain ⟨rx, X', rm, M', o', ex, em, hR', he⟩ := st_hooks (k1 := xs (n + 1)) (k2 := xs (n + 2)) (k3 := xs (n + 3)) (k4 := xs (n + 4)) (k5 := bo (xs (n + 5))) hR
  refine lv_aload_n hx hb dL_law_1348 rfl (lv_at hl 3 rfl) ?_
  refine ld_a C0 hH.2.2 (lv_at hl 4 rfl) (lv_at hl 0 rfl) (show n + 1 < L by omega) hL rfl dL_law_1349 dL_law_1350 dL_law_1352 dL_law_1353 dL_law_1354 ?_
  refine ld_a C0 hH.2.2 (lv_at hl 4 rfl) (lv_at hl 0 rfl) (show n + 2 < L by omega) hL rfl dL_law_1355 dL_law_1356 dL_law_1358 dL_law_1359 dL_law_1360 ?_
  refine ld_a C0 hH.2.2 (lv_at hl 4 rfl) (lv_at hl 0 rfl) (show n + 3 < L by omega) hL rfl dL_law_1361 dL_law_1362 dL_law_1364 dL_law_1365 dL_law_1366 ?_
  refine ld_a C0 hH.2.2 (lv_at hl 4 rfl) (lv_at hl 0 rfl) (show n + 4 < L by omega) hL rfl dL_law_1367 dL_law_1368 dL_law_1370 dL_law_1371 dL_law_1372 ?_
  refine ld_b C0 hH.2.2 (lv_at hl 4 rfl) (lv_at hl 0 rfl) (show n + 5 < L by omega) hL rfl dL_law_1373 dL_law_1374 dL_law_1376 dL_law_1377 dL_law_1378 dL_law_1379 dL_law_1382 dL_law_1383 dL_law_1386 ?_
  refine cx_hooks C0 hKX hH hl.1 (Nat.le_of_ble_eq_true rfl) hc5 dL_law_1387 glX_hooks rx X' ex (fun H locs hH => ?_)
  refine lv_pop hx hb dL_law_1390 rfl ?_
  have hH := hH.perm (cat_swap _ _ _)
  refine lv_aload_n hx hb dL_law_1391 rfl (lv_at hl 2 rfl) ?_
  refine ld_a C0 hH.2.2 (lv_at hl 4 rfl) (lv_at hl 0 rfl) (show n + 1 < L by omega) hL rfl dL_law_1392 dL_law_1393 dL_law_1395 dL_law_1396 dL_law_1397 ?_
  refine ld_a C0 hH.2.2 (lv_at hl 4 rfl) (lv_at hl 0 rfl) (show n + 2 < L by omega) hL rfl dL_law_1398 dL_law_1399 dL_law_1401 dL_law_1402 dL_law_1403 ?_
  refine ld_a C0 hH.2.2 (lv_at hl 4 rfl) (lv_at hl 0 rfl) (show n + 3 < L by omega) hL rfl dL_law_1404 dL_law_1405 dL_law_1407 dL_law_1408 dL_law_1409 ?_
  refine ld_a C0 hH.2.2 (lv_at hl 4 rfl) (lv_at hl 0 rfl) (show n + 4 < L by omega) hL rfl dL_law_1410 dL_law_1411 dL_law_1413 dL_law_1414 dL_law_1415 ?_
  refine ld_b C0 hH.2.2 (lv_at hl 4 rfl) (lv_at hl 0 rfl) (show n + 5 < L by omega) hL rfl dL_law_1416 dL_law_1417 dL_law_1419 dL_law_1420 dL_law_1421 dL_law_1422 dL_law_1425 dL_law_1426 dL_law_1429 ?_
  refine cn_hooks C0 hKM hKQ hH hl.1 (Nat.le_of_ble_eq_true rfl) hc5 dL_law_1430 glM_hooks_nul glM_hooks rm M' o' em (fun RV qa qu qk H locs hKQ hH => ?_)
  have hH := hH.perm (cat_swap _ _ _)
  refine lv_pop hx hb dL_law_1433 rfl ?_
  refine lv_goto (tgt := 1953) hx hb dL_law_1434 (by decide) ?_
  exact W.widen (by omega) (by omega) (kk H locs ⟨A, U, C, na, nu, nk, X', B, E, M', o', RV, qa, qu, qk, cO, fO, rfl, rfl, hKX, hKM, hKQ, hKO, hR', hH⟩ ls hl)
set_option maxHeartbeats 1000000 in
set_option maxRecDepth 20000 in
theorem lc_33 {p : Program} {l : Launch} {e : Env} {s : State} {m : MethodId} {below : List Frame} {meth : Method} {c : Code} {b L : Nat} {xs : Nat → Int32} {H : Heap} {locs : List Loc} {cells slots : Nat} {Q : State → Prop} {dC : Nat → ClassId} {dI : Nat → Nat → Nat} (C0 : LW p l s m meth c b L xs) (hL : L ≤ 3072) {n : Nat} (hn : n + 6 ≤ L) {h0 g0 q9 : Nat} (hI : LI (dC, dI) s h0 g0 q9 H locs) (hcs : cells ≤ 400000 ∧ slots ≤ 6000000) (ls : Array Slot) (hl : lv_has ls 7 [(4, .int (nI n)), (3, .ref q9), (2, .ref g0), (1, .ref h0), (0, .ref b)])
    (kk : ∀ (H : Heap) (locs : List Loc), LI (dC, dI) s h0 g0 q9 H locs → ∀ ls : Array Slot, lv_has ls 7 [(4, .int (nI n)), (3, .ref q9), (2, .ref g0), (1, .ref h0), (0, .ref b)] → W p l e room_1 s m #[Value.ref b] below meth c H locs (cells + 50) (slots + 300) Q (F0 m 1953 ls [])) : W p l e room_1 s m #[Value.ref b] below meth c H locs cells slots Q (F0 m 1437 ls []) := by
  obtain ⟨⟨hx, hb, -⟩, -⟩ := id C0
  have hb : c.code = cL_law := hb
  obtain ⟨A, U, C, na, nu, nk, X, B, E, M, o, RV, qa, qu, qk, cO, fO, rfl, rfl, hKX, hKM, hKQ, hKO, hR, hH⟩ := hI
  have hc5 : cells ≤ 500000 ∧ slots ≤ 7000000 := ⟨by omega, by omega⟩
  obtain ⟨rx, X', rm, M', o', ex, em, hR', he⟩ := st_lines (k1 := xs (n + 1)) (k2 := xs (n + 2)) (k3 := xs (n + 3)) (k4 := bo (xs (n + 4))) hR
  refine lv_aload_n hx hb dL_law_1437 rfl (lv_at hl 3 rfl) ?_
  refine ld_a C0 hH.2.2 (lv_at hl 4 rfl) (lv_at hl 0 rfl) (show n + 1 < L by omega) hL rfl dL_law_1438 dL_law_1439 dL_law_1441 dL_law_1442 dL_law_1443 ?_
  refine ld_a C0 hH.2.2 (lv_at hl 4 rfl) (lv_at hl 0 rfl) (show n + 2 < L by omega) hL rfl dL_law_1444 dL_law_1445 dL_law_1447 dL_law_1448 dL_law_1449 ?_
  refine ld_a C0 hH.2.2 (lv_at hl 4 rfl) (lv_at hl 0 rfl) (show n + 3 < L by omega) hL rfl dL_law_1450 dL_law_1451 dL_law_1453 dL_law_1454 dL_law_1455 ?_
  refine ld_b C0 hH.2.2 (lv_at hl 4 rfl) (lv_at hl 0 rfl) (show n + 4 < L by omega) hL rfl dL_law_1456 dL_law_1457 dL_law_1459 dL_law_1460 dL_law_1461 dL_law_1462 dL_law_1465 dL_law_1466 dL_law_1469 ?_
  refine cx_lines C0 hKX hH hl.1 (Nat.le_of_ble_eq_true rfl) hc5 dL_law_1470 glX_lines rx X' ex (fun H locs hH => ?_)
  refine lv_pop hx hb dL_law_1473 rfl ?_
  have hH := hH.perm (cat_swap _ _ _)
  refine lv_aload_n hx hb dL_law_1474 rfl (lv_at hl 2 rfl) ?_
  refine ld_a C0 hH.2.2 (lv_at hl 4 rfl) (lv_at hl 0 rfl) (show n + 1 < L by omega) hL rfl dL_law_1475 dL_law_1476 dL_law_1478 dL_law_1479 dL_law_1480 ?_
  refine ld_a C0 hH.2.2 (lv_at hl 4 rfl) (lv_at hl 0 rfl) (show n + 2 < L by omega) hL rfl dL_law_1481 dL_law_1482 dL_law_1484 dL_law_1485 dL_law_1486 ?_
  refine ld_a C0 hH.2.2 (lv_at hl 4 rfl) (lv_at hl 0 rfl) (show n + 3 < L by omega) hL rfl dL_law_1487 dL_law_1488 dL_law_1490 dL_law_1491 dL_law_1492 ?_
  refine ld_b C0 hH.2.2 (lv_at hl 4 rfl) (lv_at hl 0 rfl) (show n + 4 < L by omega) hL rfl dL_law_1493 dL_law_1494 dL_law_1496 dL_law_1497 dL_law_1498 dL_law_1499 dL_law_1502 dL_law_1503 dL_law_1506 ?_
  refine cn_lines C0 hKM hKQ hH hl.1 (Nat.le_of_ble_eq_true rfl) hc5 dL_law_1507 glM_lines_nul glM_lines rm M' o' em (fun RV qa qu qk H locs hKQ hH => ?_)
  have hH := hH.perm (cat_swap _ _ _)
  refine lv_pop hx hb dL_law_1510 rfl ?_
  refine lv_goto (tgt := 1953) hx hb dL_law_1511 (by decide) ?_
  exact W.widen (by omega) (by omega) (kk H locs ⟨A, U, C, na, nu, nk, X', B, E, M', o', RV, qa, qu, qk, cO, fO, rfl, rfl, hKX, hKM, hKQ, hKO, hR', hH⟩ ls hl)
set_option maxHeartbeats 1000000 in
set_option maxRecDepth 20000 in
theorem lc_34 {p : Program} {l : Launch} {e : Env} {s : State} {m : MethodId} {below : List Frame} {meth : Method} {c : Code} {b L : Nat} {xs : Nat → Int32} {H : Heap} {locs : List Loc} {cells slots : Nat} {Q : State → Prop} {dC : Nat → ClassId} {dI : Nat → Nat → Nat} (C0 : LW p l s m meth c b L xs) (hL : L ≤ 3072) {n : Nat} (hn : n + 6 ≤ L) {h0 g0 q9 : Nat} (hI : LI (dC, dI) s h0 g0 q9 H locs) (hcs : cells ≤ 400000 ∧ slots ≤ 6000000) (ls : Array Slot) (hl : lv_has ls 7 [(4, .int (nI n)), (3, .ref q9), (2, .ref g0), (1, .ref h0), (0, .ref b)])
    (kk : ∀ (H : Heap) (locs : List Loc), LI (dC, dI) s h0 g0 q9 H locs → ∀ ls : Array Slot, lv_has ls 7 [(4, .int (nI n)), (3, .ref q9), (2, .ref g0), (1, .ref h0), (0, .ref b)] → W p l e room_1 s m #[Value.ref b] below meth c H locs (cells + 50) (slots + 300) Q (F0 m 1953 ls [])) : W p l e room_1 s m #[Value.ref b] below meth c H locs cells slots Q (F0 m 1514 ls []) := by
  obtain ⟨⟨hx, hb, -⟩, -⟩ := id C0
  have hb : c.code = cL_law := hb
  obtain ⟨A, U, C, na, nu, nk, X, B, E, M, o, RV, qa, qu, qk, cO, fO, rfl, rfl, hKX, hKM, hKQ, hKO, hR, hH⟩ := hI
  have hc5 : cells ≤ 500000 ∧ slots ≤ 7000000 := ⟨by omega, by omega⟩
  obtain ⟨rx, X', rm, M', o', ex, em, hR', he⟩ := st_rests (k1 := xs (n + 1)) hR
  refine lv_aload_n hx hb dL_law_1514 rfl (lv_at hl 3 rfl) ?_
  refine ld_a C0 hH.2.2 (lv_at hl 4 rfl) (lv_at hl 0 rfl) (show n + 1 < L by omega) hL rfl dL_law_1515 dL_law_1516 dL_law_1518 dL_law_1519 dL_law_1520 ?_
  refine cx_rests C0 hKX hH hl.1 (Nat.le_of_ble_eq_true rfl) hc5 dL_law_1521 glX_rests rx X' ex (fun H locs hH => ?_)
  refine lv_pop hx hb dL_law_1524 rfl ?_
  have hH := hH.perm (cat_swap _ _ _)
  refine lv_aload_n hx hb dL_law_1525 rfl (lv_at hl 2 rfl) ?_
  refine ld_a C0 hH.2.2 (lv_at hl 4 rfl) (lv_at hl 0 rfl) (show n + 1 < L by omega) hL rfl dL_law_1526 dL_law_1527 dL_law_1529 dL_law_1530 dL_law_1531 ?_
  refine cn_rests C0 hKM hKQ hH hl.1 (Nat.le_of_ble_eq_true rfl) hc5 dL_law_1532 glM_rests_nul glM_rests rm M' o' em (fun RV qa qu qk H locs hKQ hH => ?_)
  have hH := hH.perm (cat_swap _ _ _)
  refine lv_pop hx hb dL_law_1535 rfl ?_
  refine lv_goto (tgt := 1953) hx hb dL_law_1536 (by decide) ?_
  exact W.widen (by omega) (by omega) (kk H locs ⟨A, U, C, na, nu, nk, X', B, E, M', o', RV, qa, qu, qk, cO, fO, rfl, rfl, hKX, hKM, hKQ, hKO, hR', hH⟩ ls hl)
set_option maxHeartbeats 1000000 in
set_option maxRecDepth 20000 in
theorem lc_35 {p : Program} {l : Launch} {e : Env} {s : State} {m : MethodId} {below : List Frame} {meth : Method} {c : Code} {b L : Nat} {xs : Nat → Int32} {H : Heap} {locs : List Loc} {cells slots : Nat} {Q : State → Prop} {dC : Nat → ClassId} {dI : Nat → Nat → Nat} (C0 : LW p l s m meth c b L xs) (hL : L ≤ 3072) {n : Nat} (hn : n + 6 ≤ L) {h0 g0 q9 : Nat} (hI : LI (dC, dI) s h0 g0 q9 H locs) (hcs : cells ≤ 400000 ∧ slots ≤ 6000000) (ls : Array Slot) (hl : lv_has ls 7 [(4, .int (nI n)), (3, .ref q9), (2, .ref g0), (1, .ref h0), (0, .ref b)])
    (kk : ∀ (H : Heap) (locs : List Loc), LI (dC, dI) s h0 g0 q9 H locs → ∀ ls : Array Slot, lv_has ls 7 [(4, .int (nI n)), (3, .ref q9), (2, .ref g0), (1, .ref h0), (0, .ref b)] → W p l e room_1 s m #[Value.ref b] below meth c H locs (cells + 50) (slots + 300) Q (F0 m 1953 ls [])) : W p l e room_1 s m #[Value.ref b] below meth c H locs cells slots Q (F0 m 1539 ls []) := by
  obtain ⟨⟨hx, hb, -⟩, -⟩ := id C0
  have hb : c.code = cL_law := hb
  obtain ⟨A, U, C, na, nu, nk, X, B, E, M, o, RV, qa, qu, qk, cO, fO, rfl, rfl, hKX, hKM, hKQ, hKO, hR, hH⟩ := hI
  have hc5 : cells ≤ 500000 ∧ slots ≤ 7000000 := ⟨by omega, by omega⟩
  obtain ⟨rx, X', rm, M', o', ex, em, hR', he⟩ := st_rest (k1 := xs (n + 1)) hR
  refine lv_aload_n hx hb dL_law_1539 rfl (lv_at hl 3 rfl) ?_
  refine ld_a C0 hH.2.2 (lv_at hl 4 rfl) (lv_at hl 0 rfl) (show n + 1 < L by omega) hL rfl dL_law_1540 dL_law_1541 dL_law_1543 dL_law_1544 dL_law_1545 ?_
  refine cx_rest C0 hKX hH hl.1 (Nat.le_of_ble_eq_true rfl) hc5 dL_law_1546 glX_rest rx X' ex (fun H locs hH => ?_)
  refine lv_pop hx hb dL_law_1549 rfl ?_
  have hH := hH.perm (cat_swap _ _ _)
  refine lv_aload_n hx hb dL_law_1550 rfl (lv_at hl 2 rfl) ?_
  refine ld_a C0 hH.2.2 (lv_at hl 4 rfl) (lv_at hl 0 rfl) (show n + 1 < L by omega) hL rfl dL_law_1551 dL_law_1552 dL_law_1554 dL_law_1555 dL_law_1556 ?_
  refine cn_rest C0 hKM hKQ hH hl.1 (Nat.le_of_ble_eq_true rfl) hc5 dL_law_1557 glM_rest_nul glM_rest rm M' o' em (fun RV qa qu qk H locs hKQ hH => ?_)
  have hH := hH.perm (cat_swap _ _ _)
  refine lv_pop hx hb dL_law_1560 rfl ?_
  refine lv_goto (tgt := 1953) hx hb dL_law_1561 (by decide) ?_
  exact W.widen (by omega) (by omega) (kk H locs ⟨A, U, C, na, nu, nk, X', B, E, M', o', RV, qa, qu, qk, cO, fO, rfl, rfl, hKX, hKM, hKQ, hKO, hR', hH⟩ ls hl)
set_option maxHeartbeats 1000000 in
set_option maxRecDepth 20000 in
theorem lc_36 {p : Program} {l : Launch} {e : Env} {s : State} {m : MethodId} {below : List Frame} {meth : Method} {c : Code} {b L : Nat} {xs : Nat → Int32} {H : Heap} {locs : List Loc} {cells slots : Nat} {Q : State → Prop} {dC : Nat → ClassId} {dI : Nat → Nat → Nat} (C0 : LW p l s m meth c b L xs) (hL : L ≤ 3072) {n : Nat} (hn : n + 6 ≤ L) {h0 g0 q9 : Nat} (hI : LI (dC, dI) s h0 g0 q9 H locs) (hcs : cells ≤ 400000 ∧ slots ≤ 6000000) (ls : Array Slot) (hl : lv_has ls 7 [(4, .int (nI n)), (3, .ref q9), (2, .ref g0), (1, .ref h0), (0, .ref b)])
    (kk : ∀ (H : Heap) (locs : List Loc), LI (dC, dI) s h0 g0 q9 H locs → ∀ ls : Array Slot, lv_has ls 7 [(4, .int (nI n)), (3, .ref q9), (2, .ref g0), (1, .ref h0), (0, .ref b)] → W p l e room_1 s m #[Value.ref b] below meth c H locs (cells + 50) (slots + 300) Q (F0 m 1953 ls [])) : W p l e room_1 s m #[Value.ref b] below meth c H locs cells slots Q (F0 m 1564 ls []) := by
  obtain ⟨⟨hx, hb, -⟩, -⟩ := id C0
  have hb : c.code = cL_law := hb
  obtain ⟨A, U, C, na, nu, nk, X, B, E, M, o, RV, qa, qu, qk, cO, fO, rfl, rfl, hKX, hKM, hKQ, hKO, hR, hH⟩ := hI
  have hc5 : cells ≤ 500000 ∧ slots ≤ 7000000 := ⟨by omega, by omega⟩
  obtain ⟨rx, X', rm, M', o', ex, em, hR', he⟩ := st_landed (k1 := xs (n + 1)) (k2 := xs (n + 2)) hR
  refine lv_aload_n hx hb dL_law_1564 rfl (lv_at hl 3 rfl) ?_
  refine ld_a C0 hH.2.2 (lv_at hl 4 rfl) (lv_at hl 0 rfl) (show n + 1 < L by omega) hL rfl dL_law_1565 dL_law_1566 dL_law_1568 dL_law_1569 dL_law_1570 ?_
  refine ld_a C0 hH.2.2 (lv_at hl 4 rfl) (lv_at hl 0 rfl) (show n + 2 < L by omega) hL rfl dL_law_1571 dL_law_1572 dL_law_1574 dL_law_1575 dL_law_1576 ?_
  refine cx_landed C0 hKX hH hl.1 (Nat.le_of_ble_eq_true rfl) hc5 dL_law_1577 glX_landed rx X' ex (fun H locs hH => ?_)
  refine lv_pop hx hb dL_law_1580 rfl ?_
  have hH := hH.perm (cat_swap _ _ _)
  refine lv_aload_n hx hb dL_law_1581 rfl (lv_at hl 2 rfl) ?_
  refine ld_a C0 hH.2.2 (lv_at hl 4 rfl) (lv_at hl 0 rfl) (show n + 1 < L by omega) hL rfl dL_law_1582 dL_law_1583 dL_law_1585 dL_law_1586 dL_law_1587 ?_
  refine ld_a C0 hH.2.2 (lv_at hl 4 rfl) (lv_at hl 0 rfl) (show n + 2 < L by omega) hL rfl dL_law_1588 dL_law_1589 dL_law_1591 dL_law_1592 dL_law_1593 ?_
  refine cn_landed C0 hKM hKQ hH hl.1 (Nat.le_of_ble_eq_true rfl) hc5 dL_law_1594 glM_landed_nul glM_landed rm M' o' em (fun RV qa qu qk H locs hKQ hH => ?_)
  have hH := hH.perm (cat_swap _ _ _)
  refine lv_pop hx hb dL_law_1597 rfl ?_
  refine lv_goto (tgt := 1953) hx hb dL_law_1598 (by decide) ?_
  exact W.widen (by omega) (by omega) (kk H locs ⟨A, U, C, na, nu, nk, X', B, E, M', o', RV, qa, qu, qk, cO, fO, rfl, rfl, hKX, hKM, hKQ, hKO, hR', hH⟩ ls hl)
set_option maxHeartbeats 1000000 in
set_option maxRecDepth 20000 in
theorem lc_37 {p : Program} {l : Launch} {e : Env} {s : State} {m : MethodId} {below : List Frame} {meth : Method} {c : Code} {b L : Nat} {xs : Nat → Int32} {H : Heap} {locs : List Loc} {cells slots : Nat} {Q : State → Prop} {dC : Nat → ClassId} {dI : Nat → Nat → Nat} (C0 : LW p l s m meth c b L xs) (hL : L ≤ 3072) {n : Nat} (hn : n + 6 ≤ L) {h0 g0 q9 : Nat} (hI : LI (dC, dI) s h0 g0 q9 H locs) (hcs : cells ≤ 400000 ∧ slots ≤ 6000000) (ls : Array Slot) (hl : lv_has ls 7 [(4, .int (nI n)), (3, .ref q9), (2, .ref g0), (1, .ref h0), (0, .ref b)])
    (kk : ∀ (H : Heap) (locs : List Loc), LI (dC, dI) s h0 g0 q9 H locs → ∀ ls : Array Slot, lv_has ls 7 [(4, .int (nI n)), (3, .ref q9), (2, .ref g0), (1, .ref h0), (0, .ref b)] → W p l e room_1 s m #[Value.ref b] below meth c H locs (cells + 50) (slots + 300) Q (F0 m 1953 ls [])) : W p l e room_1 s m #[Value.ref b] below meth c H locs cells slots Q (F0 m 1601 ls []) := by
  obtain ⟨⟨hx, hb, -⟩, -⟩ := id C0
  have hb : c.code = cL_law := hb
  obtain ⟨A, U, C, na, nu, nk, X, B, E, M, o, RV, qa, qu, qk, cO, fO, rfl, rfl, hKX, hKM, hKQ, hKO, hR, hH⟩ := hI
  have hc5 : cells ≤ 500000 ∧ slots ≤ 7000000 := ⟨by omega, by omega⟩
  obtain ⟨rx, X', rm, M', o', ex, em, hR', he⟩ := st_landedIn (k1 := xs (n + 1)) (k2 := xs (n + 2)) (k3 := xs (n + 3)) hR
  refine lv_aload_n hx hb dL_law_1601 rfl (lv_at hl 3 rfl) ?_
  refine ld_a C0 hH.2.2 (lv_at hl 4 rfl) (lv_at hl 0 rfl) (show n + 1 < L by omega) hL rfl dL_law_1602 dL_law_1603 dL_law_1605 dL_law_1606 dL_law_1607 ?_
  refine ld_a C0 hH.2.2 (lv_at hl 4 rfl) (lv_at hl 0 rfl) (show n + 2 < L by omega) hL rfl dL_law_1608 dL_law_1609 dL_law_1611 dL_law_1612 dL_law_1613 ?_
  refine ld_a C0 hH.2.2 (lv_at hl 4 rfl) (lv_at hl 0 rfl) (show n + 3 < L by omega) hL rfl dL_law_1614 dL_law_1615 dL_law_1617 dL_law_1618 dL_law_1619 ?_
  refine cx_landedIn C0 hKX hH hl.1 (Nat.le_of_ble_eq_true rfl) hc5 dL_law_1620 glX_landedIn rx X' ex (fun H locs hH => ?_)
  refine lv_pop hx hb dL_law_1623 rfl ?_
  have hH := hH.perm (cat_swap _ _ _)
  refine lv_aload_n hx hb dL_law_1624 rfl (lv_at hl 2 rfl) ?_
  refine ld_a C0 hH.2.2 (lv_at hl 4 rfl) (lv_at hl 0 rfl) (show n + 1 < L by omega) hL rfl dL_law_1625 dL_law_1626 dL_law_1628 dL_law_1629 dL_law_1630 ?_
  refine ld_a C0 hH.2.2 (lv_at hl 4 rfl) (lv_at hl 0 rfl) (show n + 2 < L by omega) hL rfl dL_law_1631 dL_law_1632 dL_law_1634 dL_law_1635 dL_law_1636 ?_
  refine ld_a C0 hH.2.2 (lv_at hl 4 rfl) (lv_at hl 0 rfl) (show n + 3 < L by omega) hL rfl dL_law_1637 dL_law_1638 dL_law_1640 dL_law_1641 dL_law_1642 ?_
  refine cn_landedIn C0 hKM hKQ hH hl.1 (Nat.le_of_ble_eq_true rfl) hc5 dL_law_1643 glM_landedIn_nul glM_landedIn rm M' o' em (fun RV qa qu qk H locs hKQ hH => ?_)
  have hH := hH.perm (cat_swap _ _ _)
  refine lv_pop hx hb dL_law_1646 rfl ?_
  refine lv_goto (tgt := 1953) hx hb dL_law_1647 (by decide) ?_
  exact W.widen (by omega) (by omega) (kk H locs ⟨A, U, C, na, nu, nk, X', B, E, M', o', RV, qa, qu, qk, cO, fO, rfl, rfl, hKX, hKM, hKQ, hKO, hR', hH⟩ ls hl)
set_option maxHeartbeats 1000000 in
set_option maxRecDepth 20000 in
theorem lc_38 {p : Program} {l : Launch} {e : Env} {s : State} {m : MethodId} {below : List Frame} {meth : Method} {c : Code} {b L : Nat} {xs : Nat → Int32} {H : Heap} {locs : List Loc} {cells slots : Nat} {Q : State → Prop} {dC : Nat → ClassId} {dI : Nat → Nat → Nat} (C0 : LW p l s m meth c b L xs) (hL : L ≤ 3072) {n : Nat} (hn : n + 6 ≤ L) {h0 g0 q9 : Nat} (hI : LI (dC, dI) s h0 g0 q9 H locs) (hcs : cells ≤ 400000 ∧ slots ≤ 6000000) (ls : Array Slot) (hl : lv_has ls 7 [(4, .int (nI n)), (3, .ref q9), (2, .ref g0), (1, .ref h0), (0, .ref b)])
    (kk : ∀ (H : Heap) (locs : List Loc), LI (dC, dI) s h0 g0 q9 H locs → ∀ ls : Array Slot, lv_has ls 7 [(4, .int (nI n)), (3, .ref q9), (2, .ref g0), (1, .ref h0), (0, .ref b)] → W p l e room_1 s m #[Value.ref b] below meth c H locs (cells + 50) (slots + 300) Q (F0 m 1953 ls [])) : W p l e room_1 s m #[Value.ref b] below meth c H locs cells slots Q (F0 m 1650 ls []) := by
  obtain ⟨⟨hx, hb, -⟩, -⟩ := id C0
  have hb : c.code = cL_law := hb
  obtain ⟨A, U, C, na, nu, nk, X, B, E, M, o, RV, qa, qu, qk, cO, fO, rfl, rfl, hKX, hKM, hKQ, hKO, hR, hH⟩ := hI
  have hc5 : cells ≤ 500000 ∧ slots ≤ 7000000 := ⟨by omega, by omega⟩
  obtain ⟨rx, X', rm, M', o', ex, em, hR', he⟩ := st_crabs (k1 := xs (n + 1)) (k2 := xs (n + 2)) hR
  refine lv_aload_n hx hb dL_law_1650 rfl (lv_at hl 3 rfl) ?_
  refine ld_a C0 hH.2.2 (lv_at hl 4 rfl) (lv_at hl 0 rfl) (show n + 1 < L by omega) hL rfl dL_law_1651 dL_law_1652 dL_law_1654 dL_law_1655 dL_law_1656 ?_
  refine ld_a C0 hH.2.2 (lv_at hl 4 rfl) (lv_at hl 0 rfl) (show n + 2 < L by omega) hL rfl dL_law_1657 dL_law_1658 dL_law_1660 dL_law_1661 dL_law_1662 ?_
  refine cx_crabs C0 hKX hH hl.1 (Nat.le_of_ble_eq_true rfl) hc5 dL_law_1663 glX_crabs rx X' ex (fun H locs hH => ?_)
  refine lv_pop hx hb dL_law_1666 rfl ?_
  have hH := hH.perm (cat_swap _ _ _)
  refine lv_aload_n hx hb dL_law_1667 rfl (lv_at hl 2 rfl) ?_
  refine ld_a C0 hH.2.2 (lv_at hl 4 rfl) (lv_at hl 0 rfl) (show n + 1 < L by omega) hL rfl dL_law_1668 dL_law_1669 dL_law_1671 dL_law_1672 dL_law_1673 ?_
  refine ld_a C0 hH.2.2 (lv_at hl 4 rfl) (lv_at hl 0 rfl) (show n + 2 < L by omega) hL rfl dL_law_1674 dL_law_1675 dL_law_1677 dL_law_1678 dL_law_1679 ?_
  refine cn_crabs C0 hKM hKQ hH hl.1 (Nat.le_of_ble_eq_true rfl) hc5 dL_law_1680 glM_crabs_nul glM_crabs rm M' o' em (fun RV qa qu qk H locs hKQ hH => ?_)
  have hH := hH.perm (cat_swap _ _ _)
  refine lv_pop hx hb dL_law_1683 rfl ?_
  refine lv_goto (tgt := 1953) hx hb dL_law_1684 (by decide) ?_
  exact W.widen (by omega) (by omega) (kk H locs ⟨A, U, C, na, nu, nk, X', B, E, M', o', RV, qa, qu, qk, cO, fO, rfl, rfl, hKX, hKM, hKQ, hKO, hR', hH⟩ ls hl)
set_option maxHeartbeats 1000000 in
set_option maxRecDepth 20000 in
theorem lc_39 {p : Program} {l : Launch} {e : Env} {s : State} {m : MethodId} {below : List Frame} {meth : Method} {c : Code} {b L : Nat} {xs : Nat → Int32} {H : Heap} {locs : List Loc} {cells slots : Nat} {Q : State → Prop} {dC : Nat → ClassId} {dI : Nat → Nat → Nat} (C0 : LW p l s m meth c b L xs) (hL : L ≤ 3072) {n : Nat} (hn : n + 6 ≤ L) {h0 g0 q9 : Nat} (hI : LI (dC, dI) s h0 g0 q9 H locs) (hcs : cells ≤ 400000 ∧ slots ≤ 6000000) (ls : Array Slot) (hl : lv_has ls 7 [(4, .int (nI n)), (3, .ref q9), (2, .ref g0), (1, .ref h0), (0, .ref b)])
    (kk : ∀ (H : Heap) (locs : List Loc), LI (dC, dI) s h0 g0 q9 H locs → ∀ ls : Array Slot, lv_has ls 7 [(4, .int (nI n)), (3, .ref q9), (2, .ref g0), (1, .ref h0), (0, .ref b)] → W p l e room_1 s m #[Value.ref b] below meth c H locs (cells + 50) (slots + 300) Q (F0 m 1953 ls [])) : W p l e room_1 s m #[Value.ref b] below meth c H locs cells slots Q (F0 m 1687 ls []) := by
  obtain ⟨⟨hx, hb, -⟩, -⟩ := id C0
  have hb : c.code = cL_law := hb
  obtain ⟨A, U, C, na, nu, nk, X, B, E, M, o, RV, qa, qu, qk, cO, fO, rfl, rfl, hKX, hKM, hKQ, hKO, hR, hH⟩ := hI
  have hc5 : cells ≤ 500000 ∧ slots ≤ 7000000 := ⟨by omega, by omega⟩
  obtain ⟨rx, X', rm, M', o', ex, em, hR', he⟩ := st_let (k1 := xs (n + 1)) (k2 := xs (n + 2)) (k3 := xs (n + 3)) (k4 := xs (n + 4)) hR
  refine lv_aload_n hx hb dL_law_1687 rfl (lv_at hl 3 rfl) ?_
  refine ld_a C0 hH.2.2 (lv_at hl 4 rfl) (lv_at hl 0 rfl) (show n + 1 < L by omega) hL rfl dL_law_1688 dL_law_1689 dL_law_1691 dL_law_1692 dL_law_1693 ?_
  refine ld_a C0 hH.2.2 (lv_at hl 4 rfl) (lv_at hl 0 rfl) (show n + 2 < L by omega) hL rfl dL_law_1694 dL_law_1695 dL_law_1697 dL_law_1698 dL_law_1699 ?_
  refine ld_a C0 hH.2.2 (lv_at hl 4 rfl) (lv_at hl 0 rfl) (show n + 3 < L by omega) hL rfl dL_law_1700 dL_law_1701 dL_law_1703 dL_law_1704 dL_law_1705 ?_
  refine ld_a C0 hH.2.2 (lv_at hl 4 rfl) (lv_at hl 0 rfl) (show n + 4 < L by omega) hL rfl dL_law_1706 dL_law_1707 dL_law_1709 dL_law_1710 dL_law_1711 ?_
  refine cx_let C0 hKX hH hl.1 (Nat.le_of_ble_eq_true rfl) hc5 dL_law_1712 glX_let rx X' ex (fun H locs hH => ?_)
  refine lv_pop hx hb dL_law_1715 rfl ?_
  have hH := hH.perm (cat_swap _ _ _)
  refine lv_aload_n hx hb dL_law_1716 rfl (lv_at hl 2 rfl) ?_
  refine ld_a C0 hH.2.2 (lv_at hl 4 rfl) (lv_at hl 0 rfl) (show n + 1 < L by omega) hL rfl dL_law_1717 dL_law_1718 dL_law_1720 dL_law_1721 dL_law_1722 ?_
  refine ld_a C0 hH.2.2 (lv_at hl 4 rfl) (lv_at hl 0 rfl) (show n + 2 < L by omega) hL rfl dL_law_1723 dL_law_1724 dL_law_1726 dL_law_1727 dL_law_1728 ?_
  refine ld_a C0 hH.2.2 (lv_at hl 4 rfl) (lv_at hl 0 rfl) (show n + 3 < L by omega) hL rfl dL_law_1729 dL_law_1730 dL_law_1732 dL_law_1733 dL_law_1734 ?_
  refine ld_a C0 hH.2.2 (lv_at hl 4 rfl) (lv_at hl 0 rfl) (show n + 4 < L by omega) hL rfl dL_law_1735 dL_law_1736 dL_law_1738 dL_law_1739 dL_law_1740 ?_
  refine cn_let C0 hKM hKQ hH hl.1 (Nat.le_of_ble_eq_true rfl) hc5 dL_law_1741 glM_let_nul glM_let rm M' o' em (fun RV qa qu qk H locs hKQ hH => ?_)
  have hH := hH.perm (cat_swap _ _ _)
  refine lv_pop hx hb dL_law_1744 rfl ?_
  refine lv_goto (tgt := 1953) hx hb dL_law_1745 (by decide) ?_
  exact W.widen (by omega) (by omega) (kk H locs ⟨A, U, C, na, nu, nk, X', B, E, M', o', RV, qa, qu, qk, cO, fO, rfl, rfl, hKX, hKM, hKQ, hKO, hR', hH⟩ ls hl)
set_option maxHeartbeats 1000000 in
set_option maxRecDepth 20000 in
theorem lc_40 {p : Program} {l : Launch} {e : Env} {s : State} {m : MethodId} {below : List Frame} {meth : Method} {c : Code} {b L : Nat} {xs : Nat → Int32} {H : Heap} {locs : List Loc} {cells slots : Nat} {Q : State → Prop} {dC : Nat → ClassId} {dI : Nat → Nat → Nat} (C0 : LW p l s m meth c b L xs) (hL : L ≤ 3072) {n : Nat} (hn : n + 6 ≤ L) {h0 g0 q9 : Nat} (hI : LI (dC, dI) s h0 g0 q9 H locs) (hcs : cells ≤ 400000 ∧ slots ≤ 6000000) (ls : Array Slot) (hl : lv_has ls 7 [(4, .int (nI n)), (3, .ref q9), (2, .ref g0), (1, .ref h0), (0, .ref b)])
    (kk : ∀ (H : Heap) (locs : List Loc), LI (dC, dI) s h0 g0 q9 H locs → ∀ ls : Array Slot, lv_has ls 7 [(4, .int (nI n)), (3, .ref q9), (2, .ref g0), (1, .ref h0), (0, .ref b)] → W p l e room_1 s m #[Value.ref b] below meth c H locs (cells + 50) (slots + 300) Q (F0 m 1953 ls [])) : W p l e room_1 s m #[Value.ref b] below meth c H locs cells slots Q (F0 m 1748 ls []) := by
  obtain ⟨⟨hx, hb, -⟩, -⟩ := id C0
  have hb : c.code = cL_law := hb
  obtain ⟨A, U, C, na, nu, nk, X, B, E, M, o, RV, qa, qu, qk, cO, fO, rfl, rfl, hKX, hKM, hKQ, hKO, hR, hH⟩ := hI
  have hc5 : cells ≤ 500000 ∧ slots ≤ 7000000 := ⟨by omega, by omega⟩
  obtain ⟨rx, X', rm, M', o', ex, em, hR', he⟩ := st_drawIn (k1 := xs (n + 1)) hR
  refine lv_aload_n hx hb dL_law_1748 rfl (lv_at hl 3 rfl) ?_
  refine ld_a C0 hH.2.2 (lv_at hl 4 rfl) (lv_at hl 0 rfl) (show n + 1 < L by omega) hL rfl dL_law_1749 dL_law_1750 dL_law_1752 dL_law_1753 dL_law_1754 ?_
  refine cx_drawIn C0 hKX hH hl.1 (Nat.le_of_ble_eq_true rfl) hc5 dL_law_1755 glX_drawIn rx X' ex (fun H locs hH => ?_)
  refine lv_pop hx hb dL_law_1758 rfl ?_
  have hH := hH.perm (cat_swap _ _ _)
  refine lv_aload_n hx hb dL_law_1759 rfl (lv_at hl 2 rfl) ?_
  refine ld_a C0 hH.2.2 (lv_at hl 4 rfl) (lv_at hl 0 rfl) (show n + 1 < L by omega) hL rfl dL_law_1760 dL_law_1761 dL_law_1763 dL_law_1764 dL_law_1765 ?_
  refine cn_drawIn C0 hKM hKQ hH hl.1 (Nat.le_of_ble_eq_true rfl) hc5 dL_law_1766 glM_drawIn_nul glM_drawIn rm M' o' em (fun RV qa qu qk H locs hKQ hH => ?_)
  have hH := hH.perm (cat_swap _ _ _)
  refine lv_pop hx hb dL_law_1769 rfl ?_
  refine lv_goto (tgt := 1953) hx hb dL_law_1770 (by decide) ?_
  exact W.widen (by omega) (by omega) (kk H locs ⟨A, U, C, na, nu, nk, X', B, E, M', o', RV, qa, qu, qk, cO, fO, rfl, rfl, hKX, hKM, hKQ, hKO, hR', hH⟩ ls hl)
set_option maxHeartbeats 1000000 in
set_option maxRecDepth 20000 in
theorem lc_41 {p : Program} {l : Launch} {e : Env} {s : State} {m : MethodId} {below : List Frame} {meth : Method} {c : Code} {b L : Nat} {xs : Nat → Int32} {H : Heap} {locs : List Loc} {cells slots : Nat} {Q : State → Prop} {dC : Nat → ClassId} {dI : Nat → Nat → Nat} (C0 : LW p l s m meth c b L xs) (hL : L ≤ 3072) {n : Nat} (hn : n + 6 ≤ L) {h0 g0 q9 : Nat} (hI : LI (dC, dI) s h0 g0 q9 H locs) (hcs : cells ≤ 400000 ∧ slots ≤ 6000000) (ls : Array Slot) (hl : lv_has ls 7 [(4, .int (nI n)), (3, .ref q9), (2, .ref g0), (1, .ref h0), (0, .ref b)])
    (kk : ∀ (H : Heap) (locs : List Loc), LI (dC, dI) s h0 g0 q9 H locs → ∀ ls : Array Slot, lv_has ls 7 [(4, .int (nI n)), (3, .ref q9), (2, .ref g0), (1, .ref h0), (0, .ref b)] → W p l e room_1 s m #[Value.ref b] below meth c H locs (cells + 50) (slots + 300) Q (F0 m 1953 ls [])) : W p l e room_1 s m #[Value.ref b] below meth c H locs cells slots Q (F0 m 1773 ls []) := by
  obtain ⟨⟨hx, hb, -⟩, -⟩ := id C0
  have hb : c.code = cL_law := hb
  obtain ⟨A, U, C, na, nu, nk, X, B, E, M, o, RV, qa, qu, qk, cO, fO, rfl, rfl, hKX, hKM, hKQ, hKO, hR, hH⟩ := hI
  have hc5 : cells ≤ 500000 ∧ slots ≤ 7000000 := ⟨by omega, by omega⟩
  obtain ⟨rx, X', rm, M', o', ex, em, hR', he⟩ := st_sell (k1 := xs (n + 1)) hR
  refine lv_aload_n hx hb dL_law_1773 rfl (lv_at hl 3 rfl) ?_
  refine ld_a C0 hH.2.2 (lv_at hl 4 rfl) (lv_at hl 0 rfl) (show n + 1 < L by omega) hL rfl dL_law_1774 dL_law_1775 dL_law_1777 dL_law_1778 dL_law_1779 ?_
  refine cx_sell C0 hKX hH hl.1 (Nat.le_of_ble_eq_true rfl) hc5 dL_law_1780 glX_sell rx X' ex (fun H locs hH => ?_)
  refine lv_pop hx hb dL_law_1783 rfl ?_
  have hH := hH.perm (cat_swap _ _ _)
  refine lv_aload_n hx hb dL_law_1784 rfl (lv_at hl 2 rfl) ?_
  refine ld_a C0 hH.2.2 (lv_at hl 4 rfl) (lv_at hl 0 rfl) (show n + 1 < L by omega) hL rfl dL_law_1785 dL_law_1786 dL_law_1788 dL_law_1789 dL_law_1790 ?_
  refine cn_sell C0 hKM hKQ hH hl.1 (Nat.le_of_ble_eq_true rfl) hc5 dL_law_1791 glM_sell_nul glM_sell rm M' o' em (fun RV qa qu qk H locs hKQ hH => ?_)
  have hH := hH.perm (cat_swap _ _ _)
  refine lv_pop hx hb dL_law_1794 rfl ?_
  refine lv_goto (tgt := 1953) hx hb dL_law_1795 (by decide) ?_
  exact W.widen (by omega) (by omega) (kk H locs ⟨A, U, C, na, nu, nk, X', B, E, M', o', RV, qa, qu, qk, cO, fO, rfl, rfl, hKX, hKM, hKQ, hKO, hR', hH⟩ ls hl)
set_option maxHeartbeats 1000000 in
set_option maxRecDepth 20000 in
theorem lc_42 {p : Program} {l : Launch} {e : Env} {s : State} {m : MethodId} {below : List Frame} {meth : Method} {c : Code} {b L : Nat} {xs : Nat → Int32} {H : Heap} {locs : List Loc} {cells slots : Nat} {Q : State → Prop} {dC : Nat → ClassId} {dI : Nat → Nat → Nat} (C0 : LW p l s m meth c b L xs) (hL : L ≤ 3072) {n : Nat} (hn : n + 6 ≤ L) {h0 g0 q9 : Nat} (hI : LI (dC, dI) s h0 g0 q9 H locs) (hcs : cells ≤ 400000 ∧ slots ≤ 6000000) (ls : Array Slot) (hl : lv_has ls 7 [(4, .int (nI n)), (3, .ref q9), (2, .ref g0), (1, .ref h0), (0, .ref b)])
    (kk : ∀ (H : Heap) (locs : List Loc), LI (dC, dI) s h0 g0 q9 H locs → ∀ ls : Array Slot, lv_has ls 7 [(4, .int (nI n)), (3, .ref q9), (2, .ref g0), (1, .ref h0), (0, .ref b)] → W p l e room_1 s m #[Value.ref b] below meth c H locs (cells + 50) (slots + 300) Q (F0 m 1953 ls [])) : W p l e room_1 s m #[Value.ref b] below meth c H locs cells slots Q (F0 m 1798 ls []) := by
  obtain ⟨⟨hx, hb, -⟩, -⟩ := id C0
  have hb : c.code = cL_law := hb
  obtain ⟨A, U, C, na, nu, nk, X, B, E, M, o, RV, qa, qu, qk, cO, fO, rfl, rfl, hKX, hKM, hKQ, hKO, hR, hH⟩ := hI
  have hc5 : cells ≤ 500000 ∧ slots ≤ 7000000 := ⟨by omega, by omega⟩
  obtain ⟨rx, X', rm, M', o', ex, em, hR', he⟩ := st_day  hR
  refine lv_aload_n hx hb dL_law_1798 rfl (lv_at hl 3 rfl) ?_
  refine cx_day C0 hKX hH hl.1 (Nat.le_of_ble_eq_true rfl) hc5 dL_law_1799 glX_day rx X' ex (fun H locs hH => ?_)
  refine lv_pop hx hb dL_law_1802 rfl ?_
  have hH := hH.perm (cat_swap _ _ _)
  refine lv_aload_n hx hb dL_law_1803 rfl (lv_at hl 2 rfl) ?_
  refine cn_day C0 hKM hKQ hH hl.1 (Nat.le_of_ble_eq_true rfl) hc5 dL_law_1804 glM_day_nul glM_day rm M' o' em (fun RV qa qu qk H locs hKQ hH => ?_)
  have hH := hH.perm (cat_swap _ _ _)
  refine lv_pop hx hb dL_law_1807 rfl ?_
  refine lv_goto (tgt := 1953) hx hb dL_law_1808 (by decide) ?_
  exact W.widen (by omega) (by omega) (kk H locs ⟨A, U, C, na, nu, nk, X', B, E, M', o', RV, qa, qu, qk, cO, fO, rfl, rfl, hKX, hKM, hKQ, hKO, hR', hH⟩ ls hl)
set_option maxHeartbeats 1000000 in
set_option maxRecDepth 20000 in
theorem lc_43 {p : Program} {l : Launch} {e : Env} {s : State} {m : MethodId} {below : List Frame} {meth : Method} {c : Code} {b L : Nat} {xs : Nat → Int32} {H : Heap} {locs : List Loc} {cells slots : Nat} {Q : State → Prop} {dC : Nat → ClassId} {dI : Nat → Nat → Nat} (C0 : LW p l s m meth c b L xs) (hL : L ≤ 3072) {n : Nat} (hn : n + 6 ≤ L) {h0 g0 q9 : Nat} (hI : LI (dC, dI) s h0 g0 q9 H locs) (hcs : cells ≤ 400000 ∧ slots ≤ 6000000) (ls : Array Slot) (hl : lv_has ls 7 [(4, .int (nI n)), (3, .ref q9), (2, .ref g0), (1, .ref h0), (0, .ref b)])
    (kk : ∀ (H : Heap) (locs : List Loc), LI (dC, dI) s h0 g0 q9 H locs → ∀ ls : Array Slot, lv_has ls 7 [(4, .int (nI n)), (3, .ref q9), (2, .ref g0), (1, .ref h0), (0, .ref b)] → W p l e room_1 s m #[Value.ref b] below meth c H locs (cells + 50) (slots + 300) Q (F0 m 1953 ls [])) : W p l e room_1 s m #[Value.ref b] below meth c H locs cells slots Q (F0 m 1811 ls []) := by
  obtain ⟨⟨hx, hb, -⟩, -⟩ := id C0
  have hb : c.code = cL_law := hb
  obtain ⟨A, U, C, na, nu, nk, X, B, E, M, o, RV, qa, qu, qk, cO, fO, rfl, rfl, hKX, hKM, hKQ, hKO, hR, hH⟩ := hI
  have hc5 : cells ≤ 500000 ∧ slots ≤ 7000000 := ⟨by omega, by omega⟩
  obtain ⟨rx, X', rm, M', o', ex, em, hR', he⟩ := st_seed (k1 := xs (n + 1)) hR
  refine lv_aload_n hx hb dL_law_1811 rfl (lv_at hl 3 rfl) ?_
  refine ld_a C0 hH.2.2 (lv_at hl 4 rfl) (lv_at hl 0 rfl) (show n + 1 < L by omega) hL rfl dL_law_1812 dL_law_1813 dL_law_1815 dL_law_1816 dL_law_1817 ?_
  refine cx_seed C0 hKX hH hl.1 (Nat.le_of_ble_eq_true rfl) hc5 dL_law_1818 glX_seed rx X' ex (fun H locs hH => ?_)
  refine lv_pop hx hb dL_law_1821 rfl ?_
  have hH := hH.perm (cat_swap _ _ _)
  refine lv_aload_n hx hb dL_law_1822 rfl (lv_at hl 2 rfl) ?_
  refine ld_a C0 hH.2.2 (lv_at hl 4 rfl) (lv_at hl 0 rfl) (show n + 1 < L by omega) hL rfl dL_law_1823 dL_law_1824 dL_law_1826 dL_law_1827 dL_law_1828 ?_
  refine cn_seed C0 hKM hKQ hH hl.1 (Nat.le_of_ble_eq_true rfl) hc5 dL_law_1829 glM_seed_nul glM_seed rm M' o' em (fun RV qa qu qk H locs hKQ hH => ?_)
  have hH := hH.perm (cat_swap _ _ _)
  refine lv_pop hx hb dL_law_1832 rfl ?_
  refine lv_goto (tgt := 1953) hx hb dL_law_1833 (by decide) ?_
  exact W.widen (by omega) (by omega) (kk H locs ⟨A, U, C, na, nu, nk, X', B, E, M', o', RV, qa, qu, qk, cO, fO, rfl, rfl, hKX, hKM, hKQ, hKO, hR', hH⟩ ls hl)
set_option maxHeartbeats 1000000 in
set_option maxRecDepth 20000 in
theorem lc_44 {p : Program} {l : Launch} {e : Env} {s : State} {m : MethodId} {below : List Frame} {meth : Method} {c : Code} {b L : Nat} {xs : Nat → Int32} {H : Heap} {locs : List Loc} {cells slots : Nat} {Q : State → Prop} {dC : Nat → ClassId} {dI : Nat → Nat → Nat} (C0 : LW p l s m meth c b L xs) (hL : L ≤ 3072) {n : Nat} (hn : n + 6 ≤ L) {h0 g0 q9 : Nat} (hI : LI (dC, dI) s h0 g0 q9 H locs) (hcs : cells ≤ 400000 ∧ slots ≤ 6000000) (ls : Array Slot) (hl : lv_has ls 7 [(4, .int (nI n)), (3, .ref q9), (2, .ref g0), (1, .ref h0), (0, .ref b)])
    (kk : ∀ (H : Heap) (locs : List Loc), LI (dC, dI) s h0 g0 q9 H locs → ∀ ls : Array Slot, lv_has ls 7 [(4, .int (nI n)), (3, .ref q9), (2, .ref g0), (1, .ref h0), (0, .ref b)] → W p l e room_1 s m #[Value.ref b] below meth c H locs (cells + 50) (slots + 300) Q (F0 m 1953 ls [])) : W p l e room_1 s m #[Value.ref b] below meth c H locs cells slots Q (F0 m 1836 ls []) := by
  obtain ⟨⟨hx, hb, -⟩, -⟩ := id C0
  have hb : c.code = cL_law := hb
  obtain ⟨A, U, C, na, nu, nk, X, B, E, M, o, RV, qa, qu, qk, cO, fO, rfl, rfl, hKX, hKM, hKQ, hKO, hR, hH⟩ := hI
  have hc5 : cells ≤ 500000 ∧ slots ≤ 7000000 := ⟨by omega, by omega⟩
  obtain ⟨rx, X', rm, M', o', ex, em, hR', he⟩ := st_undo  hR
  refine lv_aload_n hx hb dL_law_1836 rfl (lv_at hl 3 rfl) ?_
  refine cx_undo C0 hKX hH hl.1 (Nat.le_of_ble_eq_true rfl) hc5 dL_law_1837 glX_undo rx X' ex (fun H locs hH => ?_)
  refine lv_pop hx hb dL_law_1840 rfl ?_
  have hH := hH.perm (cat_swap _ _ _)
  refine lv_aload_n hx hb dL_law_1841 rfl (lv_at hl 2 rfl) ?_
  refine cn_undo C0 hKM hKQ hH hl.1 (Nat.le_of_ble_eq_true rfl) hc5 dL_law_1842 glM_undo_nul glM_undo rm M' o' em (fun RV qa qu qk H locs hKQ hH => ?_)
  have hH := hH.perm (cat_swap _ _ _)
  refine lv_pop hx hb dL_law_1845 rfl ?_
  refine lv_goto (tgt := 1953) hx hb dL_law_1846 (by decide) ?_
  exact W.widen (by omega) (by omega) (kk H locs ⟨A, U, C, na, nu, nk, X', B, E, M', o', RV, qa, qu, qk, cO, fO, rfl, rfl, hKX, hKM, hKQ, hKO, hR', hH⟩ ls hl)
set_option maxHeartbeats 1000000 in
set_option maxRecDepth 20000 in
theorem lc_45 {p : Program} {l : Launch} {e : Env} {s : State} {m : MethodId} {below : List Frame} {meth : Method} {c : Code} {b L : Nat} {xs : Nat → Int32} {H : Heap} {locs : List Loc} {cells slots : Nat} {Q : State → Prop} {dC : Nat → ClassId} {dI : Nat → Nat → Nat} (C0 : LW p l s m meth c b L xs) (hL : L ≤ 3072) {n : Nat} (hn : n + 6 ≤ L) {h0 g0 q9 : Nat} (hI : LI (dC, dI) s h0 g0 q9 H locs) (hcs : cells ≤ 400000 ∧ slots ≤ 6000000) (ls : Array Slot) (hl : lv_has ls 7 [(4, .int (nI n)), (3, .ref q9), (2, .ref g0), (1, .ref h0), (0, .ref b)])
    (kk : ∀ (H : Heap) (locs : List Loc), LI (dC, dI) s h0 g0 q9 H locs → ∀ ls : Array Slot, lv_has ls 7 [(4, .int (nI n)), (3, .ref q9), (2, .ref g0), (1, .ref h0), (0, .ref b)] → W p l e room_1 s m #[Value.ref b] below meth c H locs (cells + 50) (slots + 300) Q (F0 m 1953 ls [])) : W p l e room_1 s m #[Value.ref b] below meth c H locs cells slots Q (F0 m 1849 ls []) := by
  obtain ⟨⟨hx, hb, -⟩, -⟩ := id C0
  have hb : c.code = cL_law := hb
  obtain ⟨A, U, C, na, nu, nk, X, B, E, M, o, RV, qa, qu, qk, cO, fO, rfl, rfl, hKX, hKM, hKQ, hKO, hR, hH⟩ := hI
  have hc5 : cells ≤ 500000 ∧ slots ≤ 7000000 := ⟨by omega, by omega⟩
  obtain ⟨rx, X', rm, M', o', ex, em, hR', he⟩ := st_mark  hR
  refine lv_aload_n hx hb dL_law_1849 rfl (lv_at hl 3 rfl) ?_
  refine cx_mark C0 hKX hH hl.1 (Nat.le_of_ble_eq_true rfl) hc5 dL_law_1850 glX_mark rx X' ex (fun H locs hH => ?_)
  refine lv_pop hx hb dL_law_1853 rfl ?_
  have hH := hH.perm (cat_swap _ _ _)
  refine lv_aload_n hx hb dL_law_1854 rfl (lv_at hl 2 rfl) ?_
  refine cn_mark C0 hKM hKQ hH hl.1 (Nat.le_of_ble_eq_true rfl) hc5 dL_law_1855 glM_mark_nul glM_mark rm M' o' em (fun RV qa qu qk H locs hKQ hH => ?_)
  have hH := hH.perm (cat_swap _ _ _)
  refine lv_pop hx hb dL_law_1858 rfl ?_
  refine lv_goto (tgt := 1953) hx hb dL_law_1859 (by decide) ?_
  exact W.widen (by omega) (by omega) (kk H locs ⟨A, U, C, na, nu, nk, X', B, E, M', o', RV, qa, qu, qk, cO, fO, rfl, rfl, hKX, hKM, hKQ, hKO, hR', hH⟩ ls hl)
set_option maxHeartbeats 1000000 in
set_option maxRecDepth 20000 in
theorem lc_46 {p : Program} {l : Launch} {e : Env} {s : State} {m : MethodId} {below : List Frame} {meth : Method} {c : Code} {b L : Nat} {xs : Nat → Int32} {H : Heap} {locs : List Loc} {cells slots : Nat} {Q : State → Prop} {dC : Nat → ClassId} {dI : Nat → Nat → Nat} (C0 : LW p l s m meth c b L xs) (hL : L ≤ 3072) {n : Nat} (hn : n + 6 ≤ L) {h0 g0 q9 : Nat} (hI : LI (dC, dI) s h0 g0 q9 H locs) (hcs : cells ≤ 400000 ∧ slots ≤ 6000000) (ls : Array Slot) (hl : lv_has ls 7 [(4, .int (nI n)), (3, .ref q9), (2, .ref g0), (1, .ref h0), (0, .ref b)])
    (kk : ∀ (H : Heap) (locs : List Loc), LI (dC, dI) s h0 g0 q9 H locs → ∀ ls : Array Slot, lv_has ls 7 [(4, .int (nI n)), (3, .ref q9), (2, .ref g0), (1, .ref h0), (0, .ref b)] → W p l e room_1 s m #[Value.ref b] below meth c H locs (cells + 50) (slots + 300) Q (F0 m 1953 ls [])) : W p l e room_1 s m #[Value.ref b] below meth c H locs cells slots Q (F0 m 1862 ls []) := by
  obtain ⟨⟨hx, hb, -⟩, -⟩ := id C0
  have hb : c.code = cL_law := hb
  obtain ⟨A, U, C, na, nu, nk, X, B, E, M, o, RV, qa, qu, qk, cO, fO, rfl, rfl, hKX, hKM, hKQ, hKO, hR, hH⟩ := hI
  have hc5 : cells ≤ 500000 ∧ slots ≤ 7000000 := ⟨by omega, by omega⟩
  obtain ⟨rx, X', rm, M', o', ex, em, hR', he⟩ := st_back (k1 := xs (n + 1)) hR
  refine lv_aload_n hx hb dL_law_1862 rfl (lv_at hl 3 rfl) ?_
  refine ld_a C0 hH.2.2 (lv_at hl 4 rfl) (lv_at hl 0 rfl) (show n + 1 < L by omega) hL rfl dL_law_1863 dL_law_1864 dL_law_1866 dL_law_1867 dL_law_1868 ?_
  refine cx_back C0 hKX hH hl.1 (Nat.le_of_ble_eq_true rfl) hc5 dL_law_1869 glX_back rx X' ex (fun H locs hH => ?_)
  refine lv_pop hx hb dL_law_1872 rfl ?_
  have hH := hH.perm (cat_swap _ _ _)
  refine lv_aload_n hx hb dL_law_1873 rfl (lv_at hl 2 rfl) ?_
  refine ld_a C0 hH.2.2 (lv_at hl 4 rfl) (lv_at hl 0 rfl) (show n + 1 < L by omega) hL rfl dL_law_1874 dL_law_1875 dL_law_1877 dL_law_1878 dL_law_1879 ?_
  refine cn_back C0 hKM hKQ hH hl.1 (Nat.le_of_ble_eq_true rfl) hc5 dL_law_1880 glM_back_nul glM_back rm M' o' em (fun RV qa qu qk H locs hKQ hH => ?_)
  have hH := hH.perm (cat_swap _ _ _)
  refine lv_pop hx hb dL_law_1883 rfl ?_
  refine lv_goto (tgt := 1953) hx hb dL_law_1884 (by decide) ?_
  exact W.widen (by omega) (by omega) (kk H locs ⟨A, U, C, na, nu, nk, X', B, E, M', o', RV, qa, qu, qk, cO, fO, rfl, rfl, hKX, hKM, hKQ, hKO, hR', hH⟩ ls hl)
set_option maxHeartbeats 1000000 in
set_option maxRecDepth 20000 in
theorem lc_48 {p : Program} {l : Launch} {e : Env} {s : State} {m : MethodId} {below : List Frame} {meth : Method} {c : Code} {b L : Nat} {xs : Nat → Int32} {H : Heap} {locs : List Loc} {cells slots : Nat} {Q : State → Prop} {dC : Nat → ClassId} {dI : Nat → Nat → Nat} (C0 : LW p l s m meth c b L xs) (hL : L ≤ 3072) {n : Nat} (hn : n + 6 ≤ L) {h0 g0 q9 : Nat} (hI : LI (dC, dI) s h0 g0 q9 H locs) (hcs : cells ≤ 400000 ∧ slots ≤ 6000000) (ls : Array Slot) (hl : lv_has ls 7 [(4, .int (nI n)), (3, .ref q9), (2, .ref g0), (1, .ref h0), (0, .ref b)])
    (kk : ∀ (H : Heap) (locs : List Loc), LI (dC, dI) s h0 g0 q9 H locs → ∀ ls : Array Slot, lv_has ls 7 [(4, .int (nI n)), (3, .ref q9), (2, .ref g0), (1, .ref h0), (0, .ref b)] → W p l e room_1 s m #[Value.ref b] below meth c H locs (cells + 50) (slots + 300) Q (F0 m 1953 ls [])) : W p l e room_1 s m #[Value.ref b] below meth c H locs cells slots Q (F0 m 1915 ls []) := by
  obtain ⟨⟨hx, hb, -⟩, -⟩ := id C0
  have hb : c.code = cL_law := hb
  obtain ⟨A, U, C, na, nu, nk, X, B, E, M, o, RV, qa, qu, qk, cO, fO, rfl, rfl, hKX, hKM, hKQ, hKO, hR, hH⟩ := hI
  have hc5 : cells ≤ 500000 ∧ slots ≤ 7000000 := ⟨by omega, by omega⟩
  obtain ⟨rx, X', rm, M', o', ex, em, hR', he⟩ := st_size (k1 := xs (n + 1)) hR
  refine lv_aload_n hx hb dL_law_1915 rfl (lv_at hl 3 rfl) ?_
  refine ld_a C0 hH.2.2 (lv_at hl 4 rfl) (lv_at hl 0 rfl) (show n + 1 < L by omega) hL rfl dL_law_1916 dL_law_1917 dL_law_1919 dL_law_1920 dL_law_1921 ?_
  refine cx_size C0 hKX hH hl.1 (Nat.le_of_ble_eq_true rfl) hc5 dL_law_1922 glX_size rx X' ex (fun H locs hH => ?_)
  refine lv_pop hx hb dL_law_1925 rfl ?_
  have hH := hH.perm (cat_swap _ _ _)
  refine lv_aload_n hx hb dL_law_1926 rfl (lv_at hl 2 rfl) ?_
  refine ld_a C0 hH.2.2 (lv_at hl 4 rfl) (lv_at hl 0 rfl) (show n + 1 < L by omega) hL rfl dL_law_1927 dL_law_1928 dL_law_1930 dL_law_1931 dL_law_1932 ?_
  refine cn_size C0 hKM hKQ hH hl.1 (Nat.le_of_ble_eq_true rfl) hc5 dL_law_1933 glM_size_nul glM_size rm M' o' em (fun RV qa qu qk H locs hKQ hH => ?_)
  have hH := hH.perm (cat_swap _ _ _)
  refine lv_pop hx hb dL_law_1936 rfl ?_
  refine lv_goto (tgt := 1953) hx hb dL_law_1937 (by decide) ?_
  exact W.widen (by omega) (by omega) (kk H locs ⟨A, U, C, na, nu, nk, X', B, E, M', o', RV, qa, qu, qk, cO, fO, rfl, rfl, hKX, hKM, hKQ, hKO, hR', hH⟩ ls hl)
set_option maxHeartbeats 1000000 in
set_option maxRecDepth 20000 in
theorem lc_49 {p : Program} {l : Launch} {e : Env} {s : State} {m : MethodId} {below : List Frame} {meth : Method} {c : Code} {b L : Nat} {xs : Nat → Int32} {H : Heap} {locs : List Loc} {cells slots : Nat} {Q : State → Prop} {dC : Nat → ClassId} {dI : Nat → Nat → Nat} (C0 : LW p l s m meth c b L xs) (hL : L ≤ 3072) {n : Nat} (hn : n + 6 ≤ L) {h0 g0 q9 : Nat} (hI : LI (dC, dI) s h0 g0 q9 H locs) (hcs : cells ≤ 400000 ∧ slots ≤ 6000000) (ls : Array Slot) (hl : lv_has ls 7 [(4, .int (nI n)), (3, .ref q9), (2, .ref g0), (1, .ref h0), (0, .ref b)])
    (kk : ∀ (H : Heap) (locs : List Loc), LI (dC, dI) s h0 g0 q9 H locs → ∀ ls : Array Slot, lv_has ls 7 [(4, .int (nI n)), (3, .ref q9), (2, .ref g0), (1, .ref h0), (0, .ref b)] → W p l e room_1 s m #[Value.ref b] below meth c H locs (cells + 50) (slots + 300) Q (F0 m 1953 ls [])) : W p l e room_1 s m #[Value.ref b] below meth c H locs cells slots Q (F0 m 1940 ls []) := by
  obtain ⟨⟨hx, hb, -⟩, -⟩ := id C0
  have hb : c.code = cL_law := hb
  obtain ⟨A, U, C, na, nu, nk, X, B, E, M, o, RV, qa, qu, qk, cO, fO, rfl, rfl, hKX, hKM, hKQ, hKO, hR, hH⟩ := hI
  have hc5 : cells ≤ 500000 ∧ slots ≤ 7000000 := ⟨by omega, by omega⟩
  obtain ⟨rx, X', rm, M', o', ex, em, hR', he⟩ := st_trouble  hR
  refine lv_aload_n hx hb dL_law_1940 rfl (lv_at hl 3 rfl) ?_
  refine cx_trouble C0 hKX hH hl.1 (Nat.le_of_ble_eq_true rfl) hc5 dL_law_1941 glX_trouble rx X' ex (fun H locs hH => ?_)
  refine lv_pop hx hb dL_law_1944 rfl ?_
  have hH := hH.perm (cat_swap _ _ _)
  refine lv_aload_n hx hb dL_law_1945 rfl (lv_at hl 2 rfl) ?_
  refine cn_trouble C0 hKM hKQ hH hl.1 (Nat.le_of_ble_eq_true rfl) hc5 dL_law_1946 glM_trouble rm M' o' em (fun RV qa qu qk H locs hKQ hH => ?_)
  have hH := hH.perm (cat_swap _ _ _)
  refine lv_pop hx hb dL_law_1949 rfl ?_
  refine lv_goto (tgt := 1953) hx hb dL_law_1950 (by decide) ?_
  exact W.widen (by omega) (by omega) (kk H locs ⟨A, U, C, na, nu, nk, X', B, E, M', o', RV, qa, qu, qk, cO, fO, rfl, rfl, hKX, hKM, hKQ, hKO, hR', hH⟩ ls hl)
