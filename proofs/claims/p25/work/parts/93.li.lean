/-! a script's cell is loaded -/
section LDS
variable {p : Program} {l : Launch} {e : Env} {s : State} {m : MethodId} {below : List Frame} {meth : Method} {c : Code} {b L : Nat} {xs : Nat → Int32} {H : Heap} {locs : List Loc} {cells slots : Nat} {Q : State → Prop} {pc : Nat} {ls : Array Slot} {rest : List Value}
theorem ld_a (C0 : LW p l s m meth c b L xs) {n j : Nat} {cj : Int} (hS : va_S (fun q : Nat => s.heap.size ≤ q) s.heap H locs) (hb0 : ls[0]? = some (.val (.ref b))) (hi4 : ls[4]? = some (.val (.int (nI n)))) (hn : n + j < L) (hL : L ≤ 3072) (hc : Int32.ofInt cj = nI j) (d0 : decode cL_law pc = .ok (.aload_n 0, 1)) (d1 : decode cL_law (pc + 1) = .ok (.iload 4, 2)) (d2 : decode cL_law (pc + 3) = .ok (.iconst cj, 1)) (d3 : decode cL_law (pc + 4) = .ok (.iadd, 1)) (d4 : decode cL_law (pc + 5) = .ok (.iaload, 1)) (kk : W p l e room_1 s m #[Value.ref b] below meth c H locs cells slots Q (F0 m (pc + 6) ls (.int (xs (n + j)) :: rest))) : W p l e room_1 s m #[Value.ref b] below meth c H locs cells slots Q (F0 m pc ls rest) := by
  obtain ⟨⟨hx, hb, hr, hml, hown, htb, hX, hbl, hlocks, hgv⟩, -, -, -⟩ := C0
  have hb : c.code = cL_law := hb
  refine lv_aload_n hx hb d0 rfl hb0 ?_
  refine lv_iload hx hb d1 hi4 ?_
  refine lv_iconst (v := nI j) hx hb d2 hc ?_
  refine lv_iadd hx hb d3 ?_
  refine lv_topi (fun z ez => ?_)
  obtain rfl : z = nI (n + j) := ez.trans (nI_add n j)
  refine va_sld hx hb hX hbl (show ¬ s.heap.size ≤ b from Nat.not_le.mpr hbl) hS (vp_in_nI hn (by omega)) d4 ?_
  rw [nI_clamp (by omega)]
  exact kk
/-- a flag, as the law makes it of a script's cell -/
def bo (x : Int32) : Int32 := if x = 0 then 0 else 1
theorem ld_b (C0 : LW p l s m meth c b L xs) {n j : Nat} {cj : Int} (hS : va_S (fun q : Nat => s.heap.size ≤ q) s.heap H locs) (hb0 : ls[0]? = some (.val (.ref b))) (hi4 : ls[4]? = some (.val (.int (nI n)))) (hn : n + j < L) (hL : L ≤ 3072) (hc : Int32.ofInt cj = nI j) (d0 : decode cL_law pc = .ok (.aload_n 0, 1)) (d1 : decode cL_law (pc + 1) = .ok (.iload 4, 2)) (d2 : decode cL_law (pc + 3) = .ok (.iconst cj, 1)) (d3 : decode cL_law (pc + 4) = .ok (.iadd, 1)) (d4 : decode cL_law (pc + 5) = .ok (.iaload, 1)) (d5 : decode cL_law (pc + 6) = .ok (.ifCond .eq 7, 3)) (d6 : decode cL_law (pc + 9) = .ok (.iconst 1, 1)) (d7 : decode cL_law (pc + 10) = .ok (.goto 4, 3)) (d8 : decode cL_law (pc + 13) = .ok (.iconst 0, 1)) (kk : W p l e room_1 s m #[Value.ref b] below meth c H locs cells slots Q (F0 m (pc + 14) ls (.int (bo (xs (n + j))) :: rest))) : W p l e room_1 s m #[Value.ref b] below meth c H locs cells slots Q (F0 m pc ls rest) := by
  refine ld_a C0 hS hb0 hi4 hn hL hc d0 d1 d2 d3 d4 ?_
  obtain ⟨⟨hx, hb, hr, hml, hown, htb, hX, hbl, hlocks, hgv⟩, -, -, -⟩ := C0
  have hb : c.code = cL_law := hb
  refine lv_if_eq (tgt := pc + 13) hx hb d5 (by omega) (fun c1 => ?_) (fun c1 => ?_)
  · refine lv_iconst (v := 0) hx hb d8 (by decide) ?_
    rw [show bo (xs (n + j)) = 0 from if_pos c1] at kk
    exact kk
  · refine lv_iconst (v := 1) hx hb d6 (by decide) ?_
    refine lv_goto (tgt := pc + 14) hx hb d7 (by omega) ?_
    rw [show bo (xs (n + j)) = 1 from if_neg c1] at kk
    exact kk
end LDS
/-- the state between two calls: both worlds, and what ties them -/
def LI (D : va_G) (s : State) (h0 g0 q9 : Nat) (H : Heap) (locs : List Loc) : Prop := ∃ (A : Nat → Nat) (U : Nat → Nat → Nat) (C : Nat → Nat → ClassId) (na : Nat → Nat) (nu : Nat → Nat → Nat) (nk : Nat → Nat → ClassId) (X : XS) (B : Nat → Nat) (E : Nat → ClassId) (M : MS) (o : Option TX11_q) (RV : Value) (qa : Nat) (qu : Nat → Nat) (qk : Nat → ClassId) (cO : ClassId) (fO : Nat → Int64), A 0 = h0 ∧ B 0 = g0 ∧ KX D s C nk ∧ KM D s E ∧ KQ D s qk o ∧ va_K D vwCl [(cO, .long)] s ∧ Rel X M o ∧ HS D s (cat (wX A U C na nu nk X) (cat (wMo B E M o RV qa qu qk) [(q9, .inl (cO, 1, .inr (.inl fO)))])) H locs
set_option maxHeartbeats 1000000 in
set_option maxRecDepth 20000 in
theorem lc_0 {p : Program} {l : Launch} {e : Env} {s : State} {m : MethodId} {below : List Frame} {meth : Method} {c : Code} {b L : Nat} {xs : Nat → Int32} {H : Heap} {locs : List Loc} {cells slots : Nat} {Q : State → Prop} {dC : Nat → ClassId} {dI : Nat → Nat → Nat} (C0 : LW p l s m meth c b L xs) (hL : L ≤ 3072) {n : Nat} (hn : n + 6 ≤ L) {h0 g0 q9 : Nat} (hI : LI (dC, dI) s h0 g0 q9 H locs) (hcs : cells ≤ 400000 ∧ slots ≤ 6000000) (ls : Array Slot) (hl : lv_has ls 7 [(4, .int (nI n)), (3, .ref q9), (2, .ref g0), (1, .ref h0), (0, .ref b)])
    (kk : ∀ (H : Heap) (locs : List Loc), LI (dC, dI) s h0 g0 q9 H locs → ∀ ls : Array Slot, lv_has ls 7 [(4, .int (nI n)), (3, .ref q9), (2, .ref g0), (1, .ref h0), (0, .ref b)] → W p l e room_1 s m #[Value.ref b] below meth c H locs (cells + 50) (slots + 300) Q (F0 m 1953 ls [])) : W p l e room_1 s m #[Value.ref b] below meth c H locs cells slots Q (F0 m 256 ls []) := by
  obtain ⟨⟨hx, hb, -⟩, -⟩ := id C0
  have hb : c.code = cL_law := hb
  obtain ⟨A, U, C, na, nu, nk, X, B, E, M, o, RV, qa, qu, qk, cO, fO, rfl, rfl, hKX, hKM, hKQ, hKO, hR, hH⟩ := hI
  have hc5 : cells ≤ 500000 ∧ slots ≤ 7000000 := ⟨by omega, by omega⟩
  obtain ⟨rx, X', rm, M', o', ex, em, hR', he⟩ := st_feed (k1 := xs (n + 1)) (k2 := xs (n + 2)) (k3 := xs (n + 3)) (k4 := xs (n + 4)) (k5 := xs (n + 5)) hR
  refine lv_aload_n hx hb (zat zrL_law_0_ok 25 rfl) rfl (lv_at hl 3 rfl) ?_
  refine ld_a C0 hH.2.2 (lv_at hl 4 rfl) (lv_at hl 0 rfl) (show n + 1 < L by omega) hL rfl (zat zrL_law_0_ok 26 rfl) (zat zrL_law_0_ok 27 rfl) (zat zrL_law_0_ok 28 rfl) (zat zrL_law_0_ok 29 rfl) (zat zrL_law_0_ok 30 rfl) ?_
  refine ld_a C0 hH.2.2 (lv_at hl 4 rfl) (lv_at hl 0 rfl) (show n + 2 < L by omega) hL rfl (zat zrL_law_0_ok 31 rfl) (zat zrL_law_0_ok 32 rfl) (zat zrL_law_0_ok 33 rfl) (zat zrL_law_0_ok 34 rfl) (zat zrL_law_0_ok 35 rfl) ?_
  refine ld_a C0 hH.2.2 (lv_at hl 4 rfl) (lv_at hl 0 rfl) (show n + 3 < L by omega) hL rfl (zat zrL_law_0_ok 36 rfl) (zat zrL_law_0_ok 37 rfl) (zat zrL_law_0_ok 38 rfl) (zat zrL_law_0_ok 39 rfl) (zat zrL_law_0_ok 40 rfl) ?_
  refine ld_a C0 hH.2.2 (lv_at hl 4 rfl) (lv_at hl 0 rfl) (show n + 4 < L by omega) hL rfl (zat zrL_law_0_ok 41 rfl) (zat zrL_law_0_ok 42 rfl) (zat zrL_law_0_ok 43 rfl) (zat zrL_law_0_ok 44 rfl) (zat zrL_law_0_ok 45 rfl) ?_
  refine ld_a C0 hH.2.2 (lv_at hl 4 rfl) (lv_at hl 0 rfl) (show n + 5 < L by omega) hL rfl (zat zrL_law_0_ok 46 rfl) (zat zrL_law_0_ok 47 rfl) (zat zrL_law_0_ok 48 rfl) (zat zrL_law_0_ok 49 rfl) (zat zrL_law_0_ok 50 rfl) ?_
  refine cx_feed C0 hKX hH hl.1 (Nat.le_of_ble_eq_true rfl) hc5 (zat zrL_law_0_ok 51 rfl) glX_feed rx X' ex (fun H locs hH => ?_)
  refine lv_pop hx hb (zat zrL_law_0_ok 52 rfl) rfl ?_
  have hH := hH.perm (cat_swap _ _ _)
  refine lv_aload_n hx hb (zat zrL_law_0_ok 53 rfl) rfl (lv_at hl 2 rfl) ?_
  refine ld_a C0 hH.2.2 (lv_at hl 4 rfl) (lv_at hl 0 rfl) (show n + 1 < L by omega) hL rfl (zat zrL_law_0_ok 54 rfl) (zat zrL_law_0_ok 55 rfl) (zat zrL_law_0_ok 56 rfl) (zat zrL_law_0_ok 57 rfl) (zat zrL_law_0_ok 58 rfl) ?_
  refine ld_a C0 hH.2.2 (lv_at hl 4 rfl) (lv_at hl 0 rfl) (show n + 2 < L by omega) hL rfl (zat zrL_law_0_ok 59 rfl) (zat zrL_law_0_ok 60 rfl) (zat zrL_law_0_ok 61 rfl) (zat zrL_law_0_ok 62 rfl) (zat zrL_law_0_ok 63 rfl) ?_
  refine ld_a C0 hH.2.2 (lv_at hl 4 rfl) (lv_at hl 0 rfl) (show n + 3 < L by omega) hL rfl (zat zrL_law_1_ok 0 rfl) (zat zrL_law_1_ok 1 rfl) (zat zrL_law_1_ok 2 rfl) (zat zrL_law_1_ok 3 rfl) (zat zrL_law_1_ok 4 rfl) ?_
  refine ld_a C0 hH.2.2 (lv_at hl 4 rfl) (lv_at hl 0 rfl) (show n + 4 < L by omega) hL rfl (zat zrL_law_1_ok 5 rfl) (zat zrL_law_1_ok 6 rfl) (zat zrL_law_1_ok 7 rfl) (zat zrL_law_1_ok 8 rfl) (zat zrL_law_1_ok 9 rfl) ?_
  refine ld_a C0 hH.2.2 (lv_at hl 4 rfl) (lv_at hl 0 rfl) (show n + 5 < L by omega) hL rfl (zat zrL_law_1_ok 10 rfl) (zat zrL_law_1_ok 11 rfl) (zat zrL_law_1_ok 12 rfl) (zat zrL_law_1_ok 13 rfl) (zat zrL_law_1_ok 14 rfl) ?_
  refine cn_feed C0 hKM hKQ hH hl.1 (Nat.le_of_ble_eq_true rfl) hc5 (zat zrL_law_1_ok 15 rfl) glM_feed rm M' o' em (fun RV qa qu qk H locs hKQ hH => ?_)
  have hH := hH.perm (cat_swap _ _ _)
  refine lv_pop hx hb (zat zrL_law_1_ok 16 rfl) rfl ?_
  refine lv_goto (tgt := 1953) hx hb (zat zrL_law_1_ok 17 rfl) (by decide) ?_
  exact W.widen (by omega) (by omega) (kk H locs ⟨A, U, C, na, nu, nk, X', B, E, M', o', RV, qa, qu, qk, cO, fO, rfl, rfl, hKX, hKM, hKQ, hKO, hR', hH⟩ ls hl)
set_option maxHeartbeats 1000000 in
set_option maxRecDepth 20000 in
theorem lc_1 {p : Program} {l : Launch} {e : Env} {s : State} {m : MethodId} {below : List Frame} {meth : Method} {c : Code} {b L : Nat} {xs : Nat → Int32} {H : Heap} {locs : List Loc} {cells slots : Nat} {Q : State → Prop} {dC : Nat → ClassId} {dI : Nat → Nat → Nat} (C0 : LW p l s m meth c b L xs) (hL : L ≤ 3072) {n : Nat} (hn : n + 6 ≤ L) {h0 g0 q9 : Nat} (hI : LI (dC, dI) s h0 g0 q9 H locs) (hcs : cells ≤ 400000 ∧ slots ≤ 6000000) (ls : Array Slot) (hl : lv_has ls 7 [(4, .int (nI n)), (3, .ref q9), (2, .ref g0), (1, .ref h0), (0, .ref b)])
    (kk : ∀ (H : Heap) (locs : List Loc), LI (dC, dI) s h0 g0 q9 H locs → ∀ ls : Array Slot, lv_has ls 7 [(4, .int (nI n)), (3, .ref q9), (2, .ref g0), (1, .ref h0), (0, .ref b)] → W p l e room_1 s m #[Value.ref b] below meth c H locs (cells + 50) (slots + 300) Q (F0 m 1953 ls [])) : W p l e room_1 s m #[Value.ref b] below meth c H locs cells slots Q (F0 m 329 ls []) := by
  obtain ⟨⟨hx, hb, -⟩, -⟩ := id C0
  have hb : c.code = cL_law := hb
  obtain ⟨A, U, C, na, nu, nk, X, B, E, M, o, RV, qa, qu, qk, cO, fO, rfl, rfl, hKX, hKM, hKQ, hKO, hR, hH⟩ := hI
  have hc5 : cells ≤ 500000 ∧ slots ≤ 7000000 := ⟨by omega, by omega⟩
  obtain ⟨rx, X', rm, M', o', ex, em, hR', he⟩ := st_pier (k1 := xs (n + 1)) hR
  refine lv_aload_n hx hb (zat zrL_law_1_ok 18 rfl) rfl (lv_at hl 3 rfl) ?_
  refine ld_a C0 hH.2.2 (lv_at hl 4 rfl) (lv_at hl 0 rfl) (show n + 1 < L by omega) hL rfl (zat zrL_law_1_ok 19 rfl) (zat zrL_law_1_ok 20 rfl) (zat zrL_law_1_ok 21 rfl) (zat zrL_law_1_ok 22 rfl) (zat zrL_law_1_ok 23 rfl) ?_
  refine cx_pier C0 hKX hH hl.1 (Nat.le_of_ble_eq_true rfl) hc5 (zat zrL_law_1_ok 24 rfl) glX_pier rx X' ex (fun A' U' C' H locs hA' hKX hH => ?_)
  refine lv_pop hx hb (zat zrL_law_1_ok 25 rfl) rfl ?_
  have hH := hH.perm (cat_swap _ _ _)
  refine lv_aload_n hx hb (zat zrL_law_1_ok 26 rfl) rfl (lv_at hl 2 rfl) ?_
  refine ld_a C0 hH.2.2 (lv_at hl 4 rfl) (lv_at hl 0 rfl) (show n + 1 < L by omega) hL rfl (zat zrL_law_1_ok 27 rfl) (zat zrL_law_1_ok 28 rfl) (zat zrL_law_1_ok 29 rfl) (zat zrL_law_1_ok 30 rfl) (zat zrL_law_1_ok 31 rfl) ?_
  refine cn_pier C0 hKM hKQ hH hl.1 (Nat.le_of_ble_eq_true rfl) hc5 (zat zrL_law_1_ok 32 rfl) glM_pier_r glM_pier_f glM_pier_o rm M' o' em (fun RV qa qu qk H locs hKQ hH => ?_)
  have hH := hH.perm (cat_swap _ _ _)
  refine lv_pop hx hb (zat zrL_law_1_ok 33 rfl) rfl ?_
  refine lv_goto (tgt := 1953) hx hb (zat zrL_law_1_ok 34 rfl) (by decide) ?_
  exact W.widen (by omega) (by omega) (kk H locs ⟨A', U', C', na, nu, nk, X', B, E, M', o', RV, qa, qu, qk, cO, fO, hA', rfl, hKX, hKM, hKQ, hKO, hR', hH⟩ ls hl)
set_option maxHeartbeats 1000000 in
set_option maxRecDepth 20000 in
theorem lc_2 {p : Program} {l : Launch} {e : Env} {s : State} {m : MethodId} {below : List Frame} {meth : Method} {c : Code} {b L : Nat} {xs : Nat → Int32} {H : Heap} {locs : List Loc} {cells slots : Nat} {Q : State → Prop} {dC : Nat → ClassId} {dI : Nat → Nat → Nat} (C0 : LW p l s m meth c b L xs) (hL : L ≤ 3072) {n : Nat} (hn : n + 6 ≤ L) {h0 g0 q9 : Nat} (hI : LI (dC, dI) s h0 g0 q9 H locs) (hcs : cells ≤ 400000 ∧ slots ≤ 6000000) (ls : Array Slot) (hl : lv_has ls 7 [(4, .int (nI n)), (3, .ref q9), (2, .ref g0), (1, .ref h0), (0, .ref b)])
    (kk : ∀ (H : Heap) (locs : List Loc), LI (dC, dI) s h0 g0 q9 H locs → ∀ ls : Array Slot, lv_has ls 7 [(4, .int (nI n)), (3, .ref q9), (2, .ref g0), (1, .ref h0), (0, .ref b)] → W p l e room_1 s m #[Value.ref b] below meth c H locs (cells + 50) (slots + 300) Q (F0 m 1953 ls [])) : W p l e room_1 s m #[Value.ref b] below meth c H locs cells slots Q (F0 m 354 ls []) := by
  obtain ⟨⟨hx, hb, -⟩, -⟩ := id C0
  have hb : c.code = cL_law := hb
  obtain ⟨A, U, C, na, nu, nk, X, B, E, M, o, RV, qa, qu, qk, cO, fO, rfl, rfl, hKX, hKM, hKQ, hKO, hR, hH⟩ := hI
  have hc5 : cells ≤ 500000 ∧ slots ≤ 7000000 := ⟨by omega, by omega⟩
  obtain ⟨rx, X', rm, M', o', ex, em, hR', he⟩ := st_fault  hR
  refine lv_aload_n hx hb (zat zrL_law_1_ok 35 rfl) rfl (lv_at hl 3 rfl) ?_
  refine cx_fault C0 hKX hH hl.1 (Nat.le_of_ble_eq_true rfl) hc5 (zat zrL_law_1_ok 36 rfl) glX_fault rx X' ex (fun H locs hH => ?_)
  refine lv_pop hx hb (zat zrL_law_1_ok 37 rfl) rfl ?_
  have hH := hH.perm (cat_swap _ _ _)
  refine lv_aload_n hx hb (zat zrL_law_1_ok 38 rfl) rfl (lv_at hl 2 rfl) ?_
  refine cn_fault C0 hKM hKQ hH hl.1 (Nat.le_of_ble_eq_true rfl) hc5 (zat zrL_law_1_ok 39 rfl) glM_fault rm M' o' em (fun RV qa qu qk H locs hKQ hH => ?_)
  have hH := hH.perm (cat_swap _ _ _)
  refine lv_pop hx hb (zat zrL_law_1_ok 40 rfl) rfl ?_
  refine lv_goto (tgt := 1953) hx hb (zat zrL_law_1_ok 41 rfl) (by decide) ?_
  exact W.widen (by omega) (by omega) (kk H locs ⟨A, U, C, na, nu, nk, X', B, E, M', o', RV, qa, qu, qk, cO, fO, rfl, rfl, hKX, hKM, hKQ, hKO, hR', hH⟩ ls hl)
set_option maxHeartbeats 1000000 in
set_option maxRecDepth 20000 in
theorem lc_3 {p : Program} {l : Launch} {e : Env} {s : State} {m : MethodId} {below : List Frame} {meth : Method} {c : Code} {b L : Nat} {xs : Nat → Int32} {H : Heap} {locs : List Loc} {cells slots : Nat} {Q : State → Prop} {dC : Nat → ClassId} {dI : Nat → Nat → Nat} (C0 : LW p l s m meth c b L xs) (hL : L ≤ 3072) {n : Nat} (hn : n + 6 ≤ L) {h0 g0 q9 : Nat} (hI : LI (dC, dI) s h0 g0 q9 H locs) (hcs : cells ≤ 400000 ∧ slots ≤ 6000000) (ls : Array Slot) (hl : lv_has ls 7 [(4, .int (nI n)), (3, .ref q9), (2, .ref g0), (1, .ref h0), (0, .ref b)])
    (kk : ∀ (H : Heap) (locs : List Loc), LI (dC, dI) s h0 g0 q9 H locs → ∀ ls : Array Slot, lv_has ls 7 [(4, .int (nI n)), (3, .ref q9), (2, .ref g0), (1, .ref h0), (0, .ref b)] → W p l e room_1 s m #[Value.ref b] below meth c H locs (cells + 50) (slots + 300) Q (F0 m 1953 ls [])) : W p l e room_1 s m #[Value.ref b] below meth c H locs cells slots Q (F0 m 367 ls []) := by
  obtain ⟨⟨hx, hb, -⟩, -⟩ := id C0
  have hb : c.code = cL_law := hb
  obtain ⟨A, U, C, na, nu, nk, X, B, E, M, o, RV, qa, qu, qk, cO, fO, rfl, rfl, hKX, hKM, hKQ, hKO, hR, hH⟩ := hI
  have hc5 : cells ≤ 500000 ∧ slots ≤ 7000000 := ⟨by omega, by omega⟩
  obtain ⟨rx, X', rm, M', o', ex, em, hR', he⟩ := st_where  hR
  refine lv_aload_n hx hb (zat zrL_law_1_ok 42 rfl) rfl (lv_at hl 3 rfl) ?_
  refine cx_where C0 hKX hH hl.1 (Nat.le_of_ble_eq_true rfl) hc5 (zat zrL_law_1_ok 43 rfl) glX_where rx X' ex (fun H locs hH => ?_)
  refine lv_pop hx hb (zat zrL_law_1_ok 44 rfl) rfl ?_
  have hH := hH.perm (cat_swap _ _ _)
  refine lv_aload_n hx hb (zat zrL_law_1_ok 45 rfl) rfl (lv_at hl 2 rfl) ?_
  refine cn_where C0 hKM hKQ hH hl.1 (Nat.le_of_ble_eq_true rfl) hc5 (zat zrL_law_1_ok 46 rfl) glM_where rm M' o' em (fun RV qa qu qk H locs hKQ hH => ?_)
  have hH := hH.perm (cat_swap _ _ _)
  refine lv_pop hx hb (zat zrL_law_1_ok 47 rfl) rfl ?_
  refine lv_goto (tgt := 1953) hx hb (zat zrL_law_1_ok 48 rfl) (by decide) ?_
  exact W.widen (by omega) (by omega) (kk H locs ⟨A, U, C, na, nu, nk, X', B, E, M', o', RV, qa, qu, qk, cO, fO, rfl, rfl, hKX, hKM, hKQ, hKO, hR', hH⟩ ls hl)
set_option maxHeartbeats 1000000 in
set_option maxRecDepth 20000 in
theorem lc_4 {p : Program} {l : Launch} {e : Env} {s : State} {m : MethodId} {below : List Frame} {meth : Method} {c : Code} {b L : Nat} {xs : Nat → Int32} {H : Heap} {locs : List Loc} {cells slots : Nat} {Q : State → Prop} {dC : Nat → ClassId} {dI : Nat → Nat → Nat} (C0 : LW p l s m meth c b L xs) (hL : L ≤ 3072) {n : Nat} (hn : n + 6 ≤ L) {h0 g0 q9 : Nat} (hI : LI (dC, dI) s h0 g0 q9 H locs) (hcs : cells ≤ 400000 ∧ slots ≤ 6000000) (ls : Array Slot) (hl : lv_has ls 7 [(4, .int (nI n)), (3, .ref q9), (2, .ref g0), (1, .ref h0), (0, .ref b)])
    (kk : ∀ (H : Heap) (locs : List Loc), LI (dC, dI) s h0 g0 q9 H locs → ∀ ls : Array Slot, lv_has ls 7 [(4, .int (nI n)), (3, .ref q9), (2, .ref g0), (1, .ref h0), (0, .ref b)] → W p l e room_1 s m #[Value.ref b] below meth c H locs (cells + 50) (slots + 300) Q (F0 m 1953 ls [])) : W p l e room_1 s m #[Value.ref b] below meth c H locs cells slots Q (F0 m 380 ls []) := by
  obtain ⟨⟨hx, hb, -⟩, -⟩ := id C0
  have hb : c.code = cL_law := hb
  obtain ⟨A, U, C, na, nu, nk, X, B, E, M, o, RV, qa, qu, qk, cO, fO, rfl, rfl, hKX, hKM, hKQ, hKO, hR, hH⟩ := hI
  have hc5 : cells ≤ 500000 ∧ slots ≤ 7000000 := ⟨by omega, by omega⟩
  obtain ⟨rx, X', rm, M', o', ex, em, hR', he⟩ := st_answer (k1 := xs (n + 1)) (k2 := xs (n + 2)) hR
  refine lv_aload_n hx hb (zat zrL_law_1_ok 49 rfl) rfl (lv_at hl 3 rfl) ?_
  refine ld_a C0 hH.2.2 (lv_at hl 4 rfl) (lv_at hl 0 rfl) (show n + 1 < L by omega) hL rfl (zat zrL_law_1_ok 50 rfl) (zat zrL_law_1_ok 51 rfl) (zat zrL_law_1_ok 52 rfl) (zat zrL_law_1_ok 53 rfl) (zat zrL_law_1_ok 54 rfl) ?_
  refine ld_a C0 hH.2.2 (lv_at hl 4 rfl) (lv_at hl 0 rfl) (show n + 2 < L by omega) hL rfl (zat zrL_law_1_ok 55 rfl) (zat zrL_law_1_ok 56 rfl) (zat zrL_law_1_ok 57 rfl) (zat zrL_law_1_ok 58 rfl) (zat zrL_law_1_ok 59 rfl) ?_
  refine cx_answer C0 hKX hH hl.1 (Nat.le_of_ble_eq_true rfl) hc5 (zat zrL_law_1_ok 60 rfl) glX_answer rx X' ex (fun H locs hH => ?_)
  refine lv_pop hx hb (zat zrL_law_1_ok 61 rfl) rfl ?_
  have hH := hH.perm (cat_swap _ _ _)
  refine lv_aload_n hx hb (zat zrL_law_1_ok 62 rfl) rfl (lv_at hl 2 rfl) ?_
  refine ld_a C0 hH.2.2 (lv_at hl 4 rfl) (lv_at hl 0 rfl) (show n + 1 < L by omega) hL rfl (zat zrL_law_1_ok 63 rfl) (zat zrL_law_2_ok 0 rfl) (zat zrL_law_2_ok 1 rfl) (zat zrL_law_2_ok 2 rfl) (zat zrL_law_2_ok 3 rfl) ?_
  refine ld_a C0 hH.2.2 (lv_at hl 4 rfl) (lv_at hl 0 rfl) (show n + 2 < L by omega) hL rfl (zat zrL_law_2_ok 4 rfl) (zat zrL_law_2_ok 5 rfl) (zat zrL_law_2_ok 6 rfl) (zat zrL_law_2_ok 7 rfl) (zat zrL_law_2_ok 8 rfl) ?_
  refine cn_answer C0 hKM hKQ hH hl.1 (Nat.le_of_ble_eq_true rfl) hc5 (zat zrL_law_2_ok 9 rfl) glM_answer_nul glM_answer rm M' o' em (fun RV qa qu qk H locs hKQ hH => ?_)
  have hH := hH.perm (cat_swap _ _ _)
  refine lv_pop hx hb (zat zrL_law_2_ok 10 rfl) rfl ?_
  refine lv_goto (tgt := 1953) hx hb (zat zrL_law_2_ok 11 rfl) (by decide) ?_
  exact W.widen (by omega) (by omega) (kk H locs ⟨A, U, C, na, nu, nk, X', B, E, M', o', RV, qa, qu, qk, cO, fO, rfl, rfl, hKX, hKM, hKQ, hKO, hR', hH⟩ ls hl)
set_option maxHeartbeats 1000000 in
set_option maxRecDepth 20000 in
theorem lc_5 {p : Program} {l : Launch} {e : Env} {s : State} {m : MethodId} {below : List Frame} {meth : Method} {c : Code} {b L : Nat} {xs : Nat → Int32} {H : Heap} {locs : List Loc} {cells slots : Nat} {Q : State → Prop} {dC : Nat → ClassId} {dI : Nat → Nat → Nat} (C0 : LW p l s m meth c b L xs) (hL : L ≤ 3072) {n : Nat} (hn : n + 6 ≤ L) {h0 g0 q9 : Nat} (hI : LI (dC, dI) s h0 g0 q9 H locs) (hcs : cells ≤ 400000 ∧ slots ≤ 6000000) (ls : Array Slot) (hl : lv_has ls 7 [(4, .int (nI n)), (3, .ref q9), (2, .ref g0), (1, .ref h0), (0, .ref b)])
    (kk : ∀ (H : Heap) (locs : List Loc), LI (dC, dI) s h0 g0 q9 H locs → ∀ ls : Array Slot, lv_has ls 7 [(4, .int (nI n)), (3, .ref q9), (2, .ref g0), (1, .ref h0), (0, .ref b)] → W p l e room_1 s m #[Value.ref b] below meth c H locs (cells + 50) (slots + 300) Q (F0 m 1953 ls [])) : W p l e room_1 s m #[Value.ref b] below meth c H locs cells slots Q (F0 m 417 ls []) := by
  obtain ⟨⟨hx, hb, -⟩, -⟩ := id C0
  have hb : c.code = cL_law := hb
  obtain ⟨A, U, C, na, nu, nk, X, B, E, M, o, RV, qa, qu, qk, cO, fO, rfl, rfl, hKX, hKM, hKQ, hKO, hR, hH⟩ := hI
  have hc5 : cells ≤ 500000 ∧ slots ≤ 7000000 := ⟨by omega, by omega⟩
  obtain ⟨rx, X', rm, M', o', ex, em, hR', he⟩ := st_asker (k1 := xs (n + 1)) (k2 := xs (n + 2)) hR
  refine lv_aload_n hx hb (zat zrL_law_2_ok 12 rfl) rfl (lv_at hl 3 rfl) ?_
  refine ld_a C0 hH.2.2 (lv_at hl 4 rfl) (lv_at hl 0 rfl) (show n + 1 < L by omega) hL rfl (zat zrL_law_2_ok 13 rfl) (zat zrL_law_2_ok 14 rfl) (zat zrL_law_2_ok 15 rfl) (zat zrL_law_2_ok 16 rfl) (zat zrL_law_2_ok 17 rfl) ?_
  refine ld_a C0 hH.2.2 (lv_at hl 4 rfl) (lv_at hl 0 rfl) (show n + 2 < L by omega) hL rfl (zat zrL_law_2_ok 18 rfl) (zat zrL_law_2_ok 19 rfl) (zat zrL_law_2_ok 20 rfl) (zat zrL_law_2_ok 21 rfl) (zat zrL_law_2_ok 22 rfl) ?_
  refine cx_asker C0 hKX hH hl.1 (Nat.le_of_ble_eq_true rfl) hc5 (zat zrL_law_2_ok 23 rfl) glX_asker rx X' ex (fun H locs hH => ?_)
  refine lv_pop hx hb (zat zrL_law_2_ok 24 rfl) rfl ?_
  have hH := hH.perm (cat_swap _ _ _)
  refine lv_aload_n hx hb (zat zrL_law_2_ok 25 rfl) rfl (lv_at hl 2 rfl) ?_
  refine ld_a C0 hH.2.2 (lv_at hl 4 rfl) (lv_at hl 0 rfl) (show n + 1 < L by omega) hL rfl (zat zrL_law_2_ok 26 rfl) (zat zrL_law_2_ok 27 rfl) (zat zrL_law_2_ok 28 rfl) (zat zrL_law_2_ok 29 rfl) (zat zrL_law_2_ok 30 rfl) ?_
  refine ld_a C0 hH.2.2 (lv_at hl 4 rfl) (lv_at hl 0 rfl) (show n + 2 < L by omega) hL rfl (zat zrL_law_2_ok 31 rfl) (zat zrL_law_2_ok 32 rfl) (zat zrL_law_2_ok 33 rfl) (zat zrL_law_2_ok 34 rfl) (zat zrL_law_2_ok 35 rfl) ?_
  refine cn_asker C0 hKM hKQ hH hl.1 (Nat.le_of_ble_eq_true rfl) hc5 (zat zrL_law_2_ok 36 rfl) glM_asker_nul glM_asker rm M' o' em (fun RV qa qu qk H locs hKQ hH => ?_)
  have hH := hH.perm (cat_swap _ _ _)
  refine lv_pop hx hb (zat zrL_law_2_ok 37 rfl) rfl ?_
  refine lv_goto (tgt := 1953) hx hb (zat zrL_law_2_ok 38 rfl) (by decide) ?_
  exact W.widen (by omega) (by omega) (kk H locs ⟨A, U, C, na, nu, nk, X', B, E, M', o', RV, qa, qu, qk, cO, fO, rfl, rfl, hKX, hKM, hKQ, hKO, hR', hH⟩ ls hl)
set_option maxHeartbeats 1000000 in
set_option maxRecDepth 20000 in
theorem lc_6 {p : Program} {l : Launch} {e : Env} {s : State} {m : MethodId} {below : List Frame} {meth : Method} {c : Code} {b L : Nat} {xs : Nat → Int32} {H : Heap} {locs : List Loc} {cells slots : Nat} {Q : State → Prop} {dC : Nat → ClassId} {dI : Nat → Nat → Nat} (C0 : LW p l s m meth c b L xs) (hL : L ≤ 3072) {n : Nat} (hn : n + 6 ≤ L) {h0 g0 q9 : Nat} (hI : LI (dC, dI) s h0 g0 q9 H locs) (hcs : cells ≤ 400000 ∧ slots ≤ 6000000) (ls : Array Slot) (hl : lv_has ls 7 [(4, .int (nI n)), (3, .ref q9), (2, .ref g0), (1, .ref h0), (0, .ref b)])
    (kk : ∀ (H : Heap) (locs : List Loc), LI (dC, dI) s h0 g0 q9 H locs → ∀ ls : Array Slot, lv_has ls 7 [(4, .int (nI n)), (3, .ref q9), (2, .ref g0), (1, .ref h0), (0, .ref b)] → W p l e room_1 s m #[Value.ref b] below meth c H locs (cells + 50) (slots + 300) Q (F0 m 1953 ls [])) : W p l e room_1 s m #[Value.ref b] below meth c H locs cells slots Q (F0 m 454 ls []) := by
  obtain ⟨⟨hx, hb, -⟩, -⟩ := id C0
  have hb : c.code = cL_law := hb
  obtain ⟨A, U, C, na, nu, nk, X, B, E, M, o, RV, qa, qu, qk, cO, fO, rfl, rfl, hKX, hKM, hKQ, hKO, hR, hH⟩ := hI
  have hc5 : cells ≤ 500000 ∧ slots ≤ 7000000 := ⟨by omega, by omega⟩
  obtain ⟨rx, X', rm, M', o', ex, em, hR', he⟩ := st_close (k1 := xs (n + 1)) hR
  refine lv_aload_n hx hb (zat zrL_law_2_ok 39 rfl) rfl (lv_at hl 3 rfl) ?_
  refine ld_a C0 hH.2.2 (lv_at hl 4 rfl) (lv_at hl 0 rfl) (show n + 1 < L by omega) hL rfl (zat zrL_law_2_ok 40 rfl) (zat zrL_law_2_ok 41 rfl) (zat zrL_law_2_ok 42 rfl) (zat zrL_law_2_ok 43 rfl) (zat zrL_law_2_ok 44 rfl) ?_
  refine cx_close C0 hKX hH hl.1 (Nat.le_of_ble_eq_true rfl) hc5 (zat zrL_law_2_ok 45 rfl) glX_close rx X' ex (fun H locs hH => ?_)
  refine lv_pop hx hb (zat zrL_law_2_ok 46 rfl) rfl ?_
  have hH := hH.perm (cat_swap _ _ _)
  refine lv_aload_n hx hb (zat zrL_law_2_ok 47 rfl) rfl (lv_at hl 2 rfl) ?_
  refine ld_a C0 hH.2.2 (lv_at hl 4 rfl) (lv_at hl 0 rfl) (show n + 1 < L by omega) hL rfl (zat zrL_law_2_ok 48 rfl) (zat zrL_law_2_ok 49 rfl) (zat zrL_law_2_ok 50 rfl) (zat zrL_law_2_ok 51 rfl) (zat zrL_law_2_ok 52 rfl) ?_
  refine cn_close C0 hKM hKQ hH hl.1 (Nat.le_of_ble_eq_true rfl) hc5 (zat zrL_law_2_ok 53 rfl) glM_close_nul glM_close rm M' o' em (fun RV qa qu qk H locs hKQ hH => ?_)
  have hH := hH.perm (cat_swap _ _ _)
  refine lv_pop hx hb (zat zrL_law_2_ok 54 rfl) rfl ?_
  refine lv_goto (tgt := 1953) hx hb (zat zrL_law_2_ok 55 rfl) (by decide) ?_
  exact W.widen (by omega) (by omega) (kk H locs ⟨A, U, C, na, nu, nk, X', B, E, M', o', RV, qa, qu, qk, cO, fO, rfl, rfl, hKX, hKM, hKQ, hKO, hR', hH⟩ ls hl)
set_option maxHeartbeats 1000000 in
set_option maxRecDepth 20000 in
theorem lc_7 {p : Program} {l : Launch} {e : Env} {s : State} {m : MethodId} {below : List Frame} {meth : Method} {c : Code} {b L : Nat} {xs : Nat → Int32} {H : Heap} {locs : List Loc} {cells slots : Nat} {Q : State → Prop} {dC : Nat → ClassId} {dI : Nat → Nat → Nat} (C0 : LW p l s m meth c b L xs) (hL : L ≤ 3072) {n : Nat} (hn : n + 6 ≤ L) {h0 g0 q9 : Nat} (hI : LI (dC, dI) s h0 g0 q9 H locs) (hcs : cells ≤ 400000 ∧ slots ≤ 6000000) (ls : Array Slot) (hl : lv_has ls 7 [(4, .int (nI n)), (3, .ref q9), (2, .ref g0), (1, .ref h0), (0, .ref b)])
    (kk : ∀ (H : Heap) (locs : List Loc), LI (dC, dI) s h0 g0 q9 H locs → ∀ ls : Array Slot, lv_has ls 7 [(4, .int (nI n)), (3, .ref q9), (2, .ref g0), (1, .ref h0), (0, .ref b)] → W p l e room_1 s m #[Value.ref b] below meth c H locs (cells + 50) (slots + 300) Q (F0 m 1953 ls [])) : W p l e room_1 s m #[Value.ref b] below meth c H locs cells slots Q (F0 m 479 ls []) := by
  obtain ⟨⟨hx, hb, -⟩, -⟩ := id C0
  have hb : c.code = cL_law := hb
  obtain ⟨A, U, C, na, nu, nk, X, B, E, M, o, RV, qa, qu, qk, cO, fO, rfl, rfl, hKX, hKM, hKQ, hKO, hR, hH⟩ := hI
  have hc5 : cells ≤ 500000 ∧ slots ≤ 7000000 := ⟨by omega, by omega⟩
  obtain ⟨rx, X', rm, M', o', ex, em, hR', he⟩ := st_wish (k1 := xs (n + 1)) (k2 := xs (n + 2)) (k3 := xs (n + 3)) (k4 := xs (n + 4)) hR
  refine lv_aload_n hx hb (zat zrL_law_2_ok 56 rfl) rfl (lv_at hl 3 rfl) ?_
  refine ld_a C0 hH.2.2 (lv_at hl 4 rfl) (lv_at hl 0 rfl) (show n + 1 < L by omega) hL rfl (zat zrL_law_2_ok 57 rfl) (zat zrL_law_2_ok 58 rfl) (zat zrL_law_2_ok 59 rfl) (zat zrL_law_2_ok 60 rfl) (zat zrL_law_2_ok 61 rfl) ?_
  refine ld_a C0 hH.2.2 (lv_at hl 4 rfl) (lv_at hl 0 rfl) (show n + 2 < L by omega) hL rfl (zat zrL_law_2_ok 62 rfl) (zat zrL_law_2_ok 63 rfl) (zat zrL_law_3_ok 0 rfl) (zat zrL_law_3_ok 1 rfl) (zat zrL_law_3_ok 2 rfl) ?_
  refine ld_a C0 hH.2.2 (lv_at hl 4 rfl) (lv_at hl 0 rfl) (show n + 3 < L by omega) hL rfl (zat zrL_law_3_ok 3 rfl) (zat zrL_law_3_ok 4 rfl) (zat zrL_law_3_ok 5 rfl) (zat zrL_law_3_ok 6 rfl) (zat zrL_law_3_ok 7 rfl) ?_
  refine ld_a C0 hH.2.2 (lv_at hl 4 rfl) (lv_at hl 0 rfl) (show n + 4 < L by omega) hL rfl (zat zrL_law_3_ok 8 rfl) (zat zrL_law_3_ok 9 rfl) (zat zrL_law_3_ok 10 rfl) (zat zrL_law_3_ok 11 rfl) (zat zrL_law_3_ok 12 rfl) ?_
  refine cx_wish C0 hKX hH hl.1 (Nat.le_of_ble_eq_true rfl) hc5 (zat zrL_law_3_ok 13 rfl) glX_wish rx X' ex (fun H locs hH => ?_)
  refine lv_pop hx hb (zat zrL_law_3_ok 14 rfl) rfl ?_
  have hH := hH.perm (cat_swap _ _ _)
  refine lv_aload_n hx hb (zat zrL_law_3_ok 15 rfl) rfl (lv_at hl 2 rfl) ?_
  refine ld_a C0 hH.2.2 (lv_at hl 4 rfl) (lv_at hl 0 rfl) (show n + 1 < L by omega) hL rfl (zat zrL_law_3_ok 16 rfl) (zat zrL_law_3_ok 17 rfl) (zat zrL_law_3_ok 18 rfl) (zat zrL_law_3_ok 19 rfl) (zat zrL_law_3_ok 20 rfl) ?_
  refine ld_a C0 hH.2.2 (lv_at hl 4 rfl) (lv_at hl 0 rfl) (show n + 2 < L by omega) hL rfl (zat zrL_law_3_ok 21 rfl) (zat zrL_law_3_ok 22 rfl) (zat zrL_law_3_ok 23 rfl) (zat zrL_law_3_ok 24 rfl) (zat zrL_law_3_ok 25 rfl) ?_
  refine ld_a C0 hH.2.2 (lv_at hl 4 rfl) (lv_at hl 0 rfl) (show n + 3 < L by omega) hL rfl (zat zrL_law_3_ok 26 rfl) (zat zrL_law_3_ok 27 rfl) (zat zrL_law_3_ok 28 rfl) (zat zrL_law_3_ok 29 rfl) (zat zrL_law_3_ok 30 rfl) ?_
  refine ld_a C0 hH.2.2 (lv_at hl 4 rfl) (lv_at hl 0 rfl) (show n + 4 < L by omega) hL rfl (zat zrL_law_3_ok 31 rfl) (zat zrL_law_3_ok 32 rfl) (zat zrL_law_3_ok 33 rfl) (zat zrL_law_3_ok 34 rfl) (zat zrL_law_3_ok 35 rfl) ?_
  refine cn_wish C0 hKM hKQ hH hl.1 (Nat.le_of_ble_eq_true rfl) hc5 (zat zrL_law_3_ok 36 rfl) glM_wish_nul glM_wish rm M' o' em (fun RV qa qu qk H locs hKQ hH => ?_)
  have hH := hH.perm (cat_swap _ _ _)
  refine lv_pop hx hb (zat zrL_law_3_ok 37 rfl) rfl ?_
  refine lv_goto (tgt := 1953) hx hb (zat zrL_law_3_ok 38 rfl) (by decide) ?_
  exact W.widen (by omega) (by omega) (kk H locs ⟨A, U, C, na, nu, nk, X', B, E, M', o', RV, qa, qu, qk, cO, fO, rfl, rfl, hKX, hKM, hKQ, hKO, hR', hH⟩ ls hl)
set_option maxHeartbeats 1000000 in
set_option maxRecDepth 20000 in
theorem lc_8 {p : Program} {l : Launch} {e : Env} {s : State} {m : MethodId} {below : List Frame} {meth : Method} {c : Code} {b L : Nat} {xs : Nat → Int32} {H : Heap} {locs : List Loc} {cells slots : Nat} {Q : State → Prop} {dC : Nat → ClassId} {dI : Nat → Nat → Nat} (C0 : LW p l s m meth c b L xs) (hL : L ≤ 3072) {n : Nat} (hn : n + 6 ≤ L) {h0 g0 q9 : Nat} (hI : LI (dC, dI) s h0 g0 q9 H locs) (hcs : cells ≤ 400000 ∧ slots ≤ 6000000) (ls : Array Slot) (hl : lv_has ls 7 [(4, .int (nI n)), (3, .ref q9), (2, .ref g0), (1, .ref h0), (0, .ref b)])
    (kk : ∀ (H : Heap) (locs : List Loc), LI (dC, dI) s h0 g0 q9 H locs → ∀ ls : Array Slot, lv_has ls 7 [(4, .int (nI n)), (3, .ref q9), (2, .ref g0), (1, .ref h0), (0, .ref b)] → W p l e room_1 s m #[Value.ref b] below meth c H locs (cells + 50) (slots + 300) Q (F0 m 1953 ls [])) : W p l e room_1 s m #[Value.ref b] below meth c H locs cells slots Q (F0 m 540 ls []) := by
  obtain ⟨⟨hx, hb, -⟩, -⟩ := id C0
  have hb : c.code = cL_law := hb
  obtain ⟨A, U, C, na, nu, nk, X, B, E, M, o, RV, qa, qu, qk, cO, fO, rfl, rfl, hKX, hKM, hKQ, hKO, hR, hH⟩ := hI
  have hc5 : cells ≤ 500000 ∧ slots ≤ 7000000 := ⟨by omega, by omega⟩
  obtain ⟨rx, X', rm, M', o', ex, em, hR', he⟩ := st_takes (k1 := xs (n + 1)) (k2 := xs (n + 2)) (k3 := xs (n + 3)) (k4 := xs (n + 4)) (k5 := bo (xs (n + 5))) hR
  refine lv_aload_n hx hb (zat zrL_law_3_ok 39 rfl) rfl (lv_at hl 3 rfl) ?_
  refine ld_a C0 hH.2.2 (lv_at hl 4 rfl) (lv_at hl 0 rfl) (show n + 1 < L by omega) hL rfl (zat zrL_law_3_ok 40 rfl) (zat zrL_law_3_ok 41 rfl) (zat zrL_law_3_ok 42 rfl) (zat zrL_law_3_ok 43 rfl) (zat zrL_law_3_ok 44 rfl) ?_
  refine ld_a C0 hH.2.2 (lv_at hl 4 rfl) (lv_at hl 0 rfl) (show n + 2 < L by omega) hL rfl (zat zrL_law_3_ok 45 rfl) (zat zrL_law_3_ok 46 rfl) (zat zrL_law_3_ok 47 rfl) (zat zrL_law_3_ok 48 rfl) (zat zrL_law_3_ok 49 rfl) ?_
  refine ld_a C0 hH.2.2 (lv_at hl 4 rfl) (lv_at hl 0 rfl) (show n + 3 < L by omega) hL rfl (zat zrL_law_3_ok 50 rfl) (zat zrL_law_3_ok 51 rfl) (zat zrL_law_3_ok 52 rfl) (zat zrL_law_3_ok 53 rfl) (zat zrL_law_3_ok 54 rfl) ?_
  refine ld_a C0 hH.2.2 (lv_at hl 4 rfl) (lv_at hl 0 rfl) (show n + 4 < L by omega) hL rfl (zat zrL_law_3_ok 55 rfl) (zat zrL_law_3_ok 56 rfl) (zat zrL_law_3_ok 57 rfl) (zat zrL_law_3_ok 58 rfl) (zat zrL_law_3_ok 59 rfl) ?_
  refine ld_b C0 hH.2.2 (lv_at hl 4 rfl) (lv_at hl 0 rfl) (show n + 5 < L by omega) hL rfl (zat zrL_law_3_ok 60 rfl) (zat zrL_law_3_ok 61 rfl) (zat zrL_law_3_ok 62 rfl) (zat zrL_law_3_ok 63 rfl) (zat zrL_law_4_ok 0 rfl) (zat zrL_law_4_ok 1 rfl) (zat zrL_law_4_ok 2 rfl) (zat zrL_law_4_ok 3 rfl) (zat zrL_law_4_ok 4 rfl) ?_
  refine cx_takes C0 hKX hH hl.1 (Nat.le_of_ble_eq_true rfl) hc5 (zat zrL_law_4_ok 5 rfl) glX_takes rx X' ex (fun H locs hH => ?_)
  refine lv_pop2_2 hx hb (zat zrL_law_4_ok 6 rfl) rfl ?_
  have hH := hH.perm (cat_swap _ _ _)
  refine lv_aload_n hx hb (zat zrL_law_4_ok 7 rfl) rfl (lv_at hl 2 rfl) ?_
  refine ld_a C0 hH.2.2 (lv_at hl 4 rfl) (lv_at hl 0 rfl) (show n + 1 < L by omega) hL rfl (zat zrL_law_4_ok 8 rfl) (zat zrL_law_4_ok 9 rfl) (zat zrL_law_4_ok 10 rfl) (zat zrL_law_4_ok 11 rfl) (zat zrL_law_4_ok 12 rfl) ?_
  refine ld_a C0 hH.2.2 (lv_at hl 4 rfl) (lv_at hl 0 rfl) (show n + 2 < L by omega) hL rfl (zat zrL_law_4_ok 13 rfl) (zat zrL_law_4_ok 14 rfl) (zat zrL_law_4_ok 15 rfl) (zat zrL_law_4_ok 16 rfl) (zat zrL_law_4_ok 17 rfl) ?_
  refine ld_a C0 hH.2.2 (lv_at hl 4 rfl) (lv_at hl 0 rfl) (show n + 3 < L by omega) hL rfl (zat zrL_law_4_ok 18 rfl) (zat zrL_law_4_ok 19 rfl) (zat zrL_law_4_ok 20 rfl) (zat zrL_law_4_ok 21 rfl) (zat zrL_law_4_ok 22 rfl) ?_
  refine ld_a C0 hH.2.2 (lv_at hl 4 rfl) (lv_at hl 0 rfl) (show n + 4 < L by omega) hL rfl (zat zrL_law_4_ok 23 rfl) (zat zrL_law_4_ok 24 rfl) (zat zrL_law_4_ok 25 rfl) (zat zrL_law_4_ok 26 rfl) (zat zrL_law_4_ok 27 rfl) ?_
  refine ld_b C0 hH.2.2 (lv_at hl 4 rfl) (lv_at hl 0 rfl) (show n + 5 < L by omega) hL rfl (zat zrL_law_4_ok 28 rfl) (zat zrL_law_4_ok 29 rfl) (zat zrL_law_4_ok 30 rfl) (zat zrL_law_4_ok 31 rfl) (zat zrL_law_4_ok 32 rfl) (zat zrL_law_4_ok 33 rfl) (zat zrL_law_4_ok 34 rfl) (zat zrL_law_4_ok 35 rfl) (zat zrL_law_4_ok 36 rfl) ?_
  refine cn_takes C0 hKM hKQ hH hl.1 (Nat.le_of_ble_eq_true rfl) hc5 (zat zrL_law_4_ok 37 rfl) glM_takes_nul glM_takes rm M' o' em (fun RV qa qu qk H locs hKQ hH => ?_)
  have hH := hH.perm (cat_swap _ _ _)
  refine lv_pop2_2 hx hb (zat zrL_law_4_ok 38 rfl) rfl ?_
  refine lv_goto (tgt := 1953) hx hb (zat zrL_law_4_ok 39 rfl) (by decide) ?_
  exact W.widen (by omega) (by omega) (kk H locs ⟨A, U, C, na, nu, nk, X', B, E, M', o', RV, qa, qu, qk, cO, fO, rfl, rfl, hKX, hKM, hKQ, hKO, hR', hH⟩ ls hl)
set_option maxHeartbeats 1000000 in
set_option maxRecDepth 20000 in
theorem lc_9 {p : Program} {l : Launch} {e : Env} {s : State} {m : MethodId} {below : List Frame} {meth : Method} {c : Code} {b L : Nat} {xs : Nat → Int32} {H : Heap} {locs : List Loc} {cells slots : Nat} {Q : State → Prop} {dC : Nat → ClassId} {dI : Nat → Nat → Nat} (C0 : LW p l s m meth c b L xs) (hL : L ≤ 3072) {n : Nat} (hn : n + 6 ≤ L) {h0 g0 q9 : Nat} (hI : LI (dC, dI) s h0 g0 q9 H locs) (hcs : cells ≤ 400000 ∧ slots ≤ 6000000) (ls : Array Slot) (hl : lv_has ls 7 [(4, .int (nI n)), (3, .ref q9), (2, .ref g0), (1, .ref h0), (0, .ref b)])
    (kk : ∀ (H : Heap) (locs : List Loc), LI (dC, dI) s h0 g0 q9 H locs → ∀ ls : Array Slot, lv_has ls 7 [(4, .int (nI n)), (3, .ref q9), (2, .ref g0), (1, .ref h0), (0, .ref b)] → W p l e room_1 s m #[Value.ref b] below meth c H locs (cells + 50) (slots + 300) Q (F0 m 1953 ls [])) : W p l e room_1 s m #[Value.ref b] below meth c H locs cells slots Q (F0 m 629 ls []) := by
  obtain ⟨⟨hx, hb, -⟩, -⟩ := id C0
  have hb : c.code = cL_law := hb
  obtain ⟨A, U, C, na, nu, nk, X, B, E, M, o, RV, qa, qu, qk, cO, fO, rfl, rfl, hKX, hKM, hKQ, hKO, hR, hH⟩ := hI
  have hc5 : cells ≤ 500000 ∧ slots ≤ 7000000 := ⟨by omega, by omega⟩
  obtain ⟨rx, X', rm, M', o', ex, em, hR', he⟩ := st_nothing (k1 := xs (n + 1)) (k2 := xs (n + 2)) (k3 := xs (n + 3)) (k4 := bo (xs (n + 4))) hR
  refine lv_aload_n hx hb (zat zrL_law_4_ok 40 rfl) rfl (lv_at hl 3 rfl) ?_
  refine ld_a C0 hH.2.2 (lv_at hl 4 rfl) (lv_at hl 0 rfl) (show n + 1 < L by omega) hL rfl (zat zrL_law_4_ok 41 rfl) (zat zrL_law_4_ok 42 rfl) (zat zrL_law_4_ok 43 rfl) (zat zrL_law_4_ok 44 rfl) (zat zrL_law_4_ok 45 rfl) ?_
  refine ld_a C0 hH.2.2 (lv_at hl 4 rfl) (lv_at hl 0 rfl) (show n + 2 < L by omega) hL rfl (zat zrL_law_4_ok 46 rfl) (zat zrL_law_4_ok 47 rfl) (zat zrL_law_4_ok 48 rfl) (zat zrL_law_4_ok 49 rfl) (zat zrL_law_4_ok 50 rfl) ?_
  refine ld_a C0 hH.2.2 (lv_at hl 4 rfl) (lv_at hl 0 rfl) (show n + 3 < L by omega) hL rfl (zat zrL_law_4_ok 51 rfl) (zat zrL_law_4_ok 52 rfl) (zat zrL_law_4_ok 53 rfl) (zat zrL_law_4_ok 54 rfl) (zat zrL_law_4_ok 55 rfl) ?_
  refine ld_b C0 hH.2.2 (lv_at hl 4 rfl) (lv_at hl 0 rfl) (show n + 4 < L by omega) hL rfl (zat zrL_law_4_ok 56 rfl) (zat zrL_law_4_ok 57 rfl) (zat zrL_law_4_ok 58 rfl) (zat zrL_law_4_ok 59 rfl) (zat zrL_law_4_ok 60 rfl) (zat zrL_law_4_ok 61 rfl) (zat zrL_law_4_ok 62 rfl) (zat zrL_law_4_ok 63 rfl) (zat zrL_law_5_ok 0 rfl) ?_
  refine cx_nothing C0 hKX hH hl.1 (Nat.le_of_ble_eq_true rfl) hc5 (zat zrL_law_5_ok 1 rfl) glX_nothing rx X' ex (fun H locs hH => ?_)
  refine lv_pop2_2 hx hb (zat zrL_law_5_ok 2 rfl) rfl ?_
  have hH := hH.perm (cat_swap _ _ _)
  refine lv_aload_n hx hb (zat zrL_law_5_ok 3 rfl) rfl (lv_at hl 2 rfl) ?_
  refine ld_a C0 hH.2.2 (lv_at hl 4 rfl) (lv_at hl 0 rfl) (show n + 1 < L by omega) hL rfl (zat zrL_law_5_ok 4 rfl) (zat zrL_law_5_ok 5 rfl) (zat zrL_law_5_ok 6 rfl) (zat zrL_law_5_ok 7 rfl) (zat zrL_law_5_ok 8 rfl) ?_
  refine ld_a C0 hH.2.2 (lv_at hl 4 rfl) (lv_at hl 0 rfl) (show n + 2 < L by omega) hL rfl (zat zrL_law_5_ok 9 rfl) (zat zrL_law_5_ok 10 rfl) (zat zrL_law_5_ok 11 rfl) (zat zrL_law_5_ok 12 rfl) (zat zrL_law_5_ok 13 rfl) ?_
  refine ld_a C0 hH.2.2 (lv_at hl 4 rfl) (lv_at hl 0 rfl) (show n + 3 < L by omega) hL rfl (zat zrL_law_5_ok 14 rfl) (zat zrL_law_5_ok 15 rfl) (zat zrL_law_5_ok 16 rfl) (zat zrL_law_5_ok 17 rfl) (zat zrL_law_5_ok 18 rfl) ?_
  refine ld_b C0 hH.2.2 (lv_at hl 4 rfl) (lv_at hl 0 rfl) (show n + 4 < L by omega) hL rfl (zat zrL_law_5_ok 19 rfl) (zat zrL_law_5_ok 20 rfl) (zat zrL_law_5_ok 21 rfl) (zat zrL_law_5_ok 22 rfl) (zat zrL_law_5_ok 23 rfl) (zat zrL_law_5_ok 24 rfl) (zat zrL_law_5_ok 25 rfl) (zat zrL_law_5_ok 26 rfl) (zat zrL_law_5_ok 27 rfl) ?_
  refine cn_nothing C0 hKM hKQ hH hl.1 (Nat.le_of_ble_eq_true rfl) hc5 (zat zrL_law_5_ok 28 rfl) glM_nothing_nul glM_nothing rm M' o' em (fun RV qa qu qk H locs hKQ hH => ?_)
  have hH := hH.perm (cat_swap _ _ _)
  refine lv_pop2_2 hx hb (zat zrL_law_5_ok 29 rfl) rfl ?_
  refine lv_goto (tgt := 1953) hx hb (zat zrL_law_5_ok 30 rfl) (by decide) ?_
  exact W.widen (by omega) (by omega) (kk H locs ⟨A, U, C, na, nu, nk, X', B, E, M', o', RV, qa, qu, qk, cO, fO, rfl, rfl, hKX, hKM, hKQ, hKO, hR', hH⟩ ls hl)
set_option maxHeartbeats 1000000 in
set_option maxRecDepth 20000 in
theorem lc_10 {p : Program} {l : Launch} {e : Env} {s : State} {m : MethodId} {below : List Frame} {meth : Method} {c : Code} {b L : Nat} {xs : Nat → Int32} {H : Heap} {locs : List Loc} {cells slots : Nat} {Q : State → Prop} {dC : Nat → ClassId} {dI : Nat → Nat → Nat} (C0 : LW p l s m meth c b L xs) (hL : L ≤ 3072) {n : Nat} (hn : n + 6 ≤ L) {h0 g0 q9 : Nat} (hI : LI (dC, dI) s h0 g0 q9 H locs) (hcs : cells ≤ 400000 ∧ slots ≤ 6000000) (ls : Array Slot) (hl : lv_has ls 7 [(4, .int (nI n)), (3, .ref q9), (2, .ref g0), (1, .ref h0), (0, .ref b)])
    (kk : ∀ (H : Heap) (locs : List Loc), LI (dC, dI) s h0 g0 q9 H locs → ∀ ls : Array Slot, lv_has ls 7 [(4, .int (nI n)), (3, .ref q9), (2, .ref g0), (1, .ref h0), (0, .ref b)] → W p l e room_1 s m #[Value.ref b] below meth c H locs (cells + 50) (slots + 300) Q (F0 m 1953 ls [])) : W p l e room_1 s m #[Value.ref b] below meth c H locs cells slots Q (F0 m 706 ls []) := by
  obtain ⟨⟨hx, hb, -⟩, -⟩ := id C0
  have hb : c.code = cL_law := hb
  obtain ⟨A, U, C, na, nu, nk, X, B, E, M, o, RV, qa, qu, qk, cO, fO, rfl, rfl, hKX, hKM, hKQ, hKO, hR, hH⟩ := hI
  have hc5 : cells ≤ 500000 ∧ slots ≤ 7000000 := ⟨by omega, by omega⟩
  obtain ⟨rx, X', rm, M', o', ex, em, hR', he⟩ := st_mean (k1 := xs (n + 1)) (k2 := xs (n + 2)) (k3 := xs (n + 3)) (k4 := bo (xs (n + 4))) hR
  refine lv_aload_n hx hb (zat zrL_law_5_ok 31 rfl) rfl (lv_at hl 3 rfl) ?_
  refine ld_a C0 hH.2.2 (lv_at hl 4 rfl) (lv_at hl 0 rfl) (show n + 1 < L by omega) hL rfl (zat zrL_law_5_ok 32 rfl) (zat zrL_law_5_ok 33 rfl) (zat zrL_law_5_ok 34 rfl) (zat zrL_law_5_ok 35 rfl) (zat zrL_law_5_ok 36 rfl) ?_
  refine ld_a C0 hH.2.2 (lv_at hl 4 rfl) (lv_at hl 0 rfl) (show n + 2 < L by omega) hL rfl (zat zrL_law_5_ok 37 rfl) (zat zrL_law_5_ok 38 rfl) (zat zrL_law_5_ok 39 rfl) (zat zrL_law_5_ok 40 rfl) (zat zrL_law_5_ok 41 rfl) ?_
  refine ld_a C0 hH.2.2 (lv_at hl 4 rfl) (lv_at hl 0 rfl) (show n + 3 < L by omega) hL rfl (zat zrL_law_5_ok 42 rfl) (zat zrL_law_5_ok 43 rfl) (zat zrL_law_5_ok 44 rfl) (zat zrL_law_5_ok 45 rfl) (zat zrL_law_5_ok 46 rfl) ?_
  refine ld_b C0 hH.2.2 (lv_at hl 4 rfl) (lv_at hl 0 rfl) (show n + 4 < L by omega) hL rfl (zat zrL_law_5_ok 47 rfl) (zat zrL_law_5_ok 48 rfl) (zat zrL_law_5_ok 49 rfl) (zat zrL_law_5_ok 50 rfl) (zat zrL_law_5_ok 51 rfl) (zat zrL_law_5_ok 52 rfl) (zat zrL_law_5_ok 53 rfl) (zat zrL_law_5_ok 54 rfl) (zat zrL_law_5_ok 55 rfl) ?_
  refine cx_mean C0 hKX hH hl.1 (Nat.le_of_ble_eq_true rfl) hc5 (zat zrL_law_5_ok 56 rfl) glX_mean rx X' ex (fun H locs hH => ?_)
  refine lv_pop2_2 hx hb (zat zrL_law_5_ok 57 rfl) rfl ?_
  have hH := hH.perm (cat_swap _ _ _)
  refine lv_aload_n hx hb (zat zrL_law_5_ok 58 rfl) rfl (lv_at hl 2 rfl) ?_
  refine ld_a C0 hH.2.2 (lv_at hl 4 rfl) (lv_at hl 0 rfl) (show n + 1 < L by omega) hL rfl (zat zrL_law_5_ok 59 rfl) (zat zrL_law_5_ok 60 rfl) (zat zrL_law_5_ok 61 rfl) (zat zrL_law_5_ok 62 rfl) (zat zrL_law_5_ok 63 rfl) ?_
  refine ld_a C0 hH.2.2 (lv_at hl 4 rfl) (lv_at hl 0 rfl) (show n + 2 < L by omega) hL rfl (zat zrL_law_6_ok 0 rfl) (zat zrL_law_6_ok 1 rfl) (zat zrL_law_6_ok 2 rfl) (zat zrL_law_6_ok 3 rfl) (zat zrL_law_6_ok 4 rfl) ?_
  refine ld_a C0 hH.2.2 (lv_at hl 4 rfl) (lv_at hl 0 rfl) (show n + 3 < L by omega) hL rfl (zat zrL_law_6_ok 5 rfl) (zat zrL_law_6_ok 6 rfl) (zat zrL_law_6_ok 7 rfl) (zat zrL_law_6_ok 8 rfl) (zat zrL_law_6_ok 9 rfl) ?_
  refine ld_b C0 hH.2.2 (lv_at hl 4 rfl) (lv_at hl 0 rfl) (show n + 4 < L by omega) hL rfl (zat zrL_law_6_ok 10 rfl) (zat zrL_law_6_ok 11 rfl) (zat zrL_law_6_ok 12 rfl) (zat zrL_law_6_ok 13 rfl) (zat zrL_law_6_ok 14 rfl) (zat zrL_law_6_ok 15 rfl) (zat zrL_law_6_ok 16 rfl) (zat zrL_law_6_ok 17 rfl) (zat zrL_law_6_ok 18 rfl) ?_
  refine cn_mean C0 hKM hKQ hH hl.1 (Nat.le_of_ble_eq_true rfl) hc5 (zat zrL_law_6_ok 19 rfl) glM_mean_nul glM_mean rm M' o' em (fun RV qa qu qk H locs hKQ hH => ?_)
  have hH := hH.perm (cat_swap _ _ _)
  refine lv_pop2_2 hx hb (zat zrL_law_6_ok 20 rfl) rfl ?_
  refine lv_goto (tgt := 1953) hx hb (zat zrL_law_6_ok 21 rfl) (by decide) ?_
  exact W.widen (by omega) (by omega) (kk H locs ⟨A, U, C, na, nu, nk, X', B, E, M', o', RV, qa, qu, qk, cO, fO, rfl, rfl, hKX, hKM, hKQ, hKO, hR', hH⟩ ls hl)
set_option maxHeartbeats 1000000 in
set_option maxRecDepth 20000 in
theorem lc_11 {p : Program} {l : Launch} {e : Env} {s : State} {m : MethodId} {below : List Frame} {meth : Method} {c : Code} {b L : Nat} {xs : Nat → Int32} {H : Heap} {locs : List Loc} {cells slots : Nat} {Q : State → Prop} {dC : Nat → ClassId} {dI : Nat → Nat → Nat} (C0 : LW p l s m meth c b L xs) (hL : L ≤ 3072) {n : Nat} (hn : n + 6 ≤ L) {h0 g0 q9 : Nat} (hI : LI (dC, dI) s h0 g0 q9 H locs) (hcs : cells ≤ 400000 ∧ slots ≤ 6000000) (ls : Array Slot) (hl : lv_has ls 7 [(4, .int (nI n)), (3, .ref q9), (2, .ref g0), (1, .ref h0), (0, .ref b)])
    (kk : ∀ (H : Heap) (locs : List Loc), LI (dC, dI) s h0 g0 q9 H locs → ∀ ls : Array Slot, lv_has ls 7 [(4, .int (nI n)), (3, .ref q9), (2, .ref g0), (1, .ref h0), (0, .ref b)] → W p l e room_1 s m #[Value.ref b] below meth c H locs (cells + 50) (slots + 300) Q (F0 m 1953 ls [])) : W p l e room_1 s m #[Value.ref b] below meth c H locs cells slots Q (F0 m 783 ls []) := by
  obtain ⟨⟨hx, hb, -⟩, -⟩ := id C0
  have hb : c.code = cL_law := hb
  obtain ⟨A, U, C, na, nu, nk, X, B, E, M, o, RV, qa, qu, qk, cO, fO, rfl, rfl, hKX, hKM, hKQ, hKO, hR, hH⟩ := hI
  have hc5 : cells ≤ 500000 ∧ slots ≤ 7000000 := ⟨by omega, by omega⟩
  obtain ⟨rx, X', rm, M', o', ex, em, hR', he⟩ := st_likeliest (k1 := xs (n + 1)) (k2 := xs (n + 2)) (k3 := xs (n + 3)) hR
  refine lv_aload_n hx hb (zat zrL_law_6_ok 22 rfl) rfl (lv_at hl 3 rfl) ?_
  refine ld_a C0 hH.2.2 (lv_at hl 4 rfl) (lv_at hl 0 rfl) (show n + 1 < L by omega) hL rfl (zat zrL_law_6_ok 23 rfl) (zat zrL_law_6_ok 24 rfl) (zat zrL_law_6_ok 25 rfl) (zat zrL_law_6_ok 26 rfl) (zat zrL_law_6_ok 27 rfl) ?_
  refine ld_a C0 hH.2.2 (lv_at hl 4 rfl) (lv_at hl 0 rfl) (show n + 2 < L by omega) hL rfl (zat zrL_law_6_ok 28 rfl) (zat zrL_law_6_ok 29 rfl) (zat zrL_law_6_ok 30 rfl) (zat zrL_law_6_ok 31 rfl) (zat zrL_law_6_ok 32 rfl) ?_
  refine ld_a C0 hH.2.2 (lv_at hl 4 rfl) (lv_at hl 0 rfl) (show n + 3 < L by omega) hL rfl (zat zrL_law_6_ok 33 rfl) (zat zrL_law_6_ok 34 rfl) (zat zrL_law_6_ok 35 rfl) (zat zrL_law_6_ok 36 rfl) (zat zrL_law_6_ok 37 rfl) ?_
  refine cx_likeliest C0 hKX hH hl.1 (Nat.le_of_ble_eq_true rfl) hc5 (zat zrL_law_6_ok 38 rfl) glX_likeliest rx X' ex (fun H locs hH => ?_)
  refine lv_pop hx hb (zat zrL_law_6_ok 39 rfl) rfl ?_
  have hH := hH.perm (cat_swap _ _ _)
  refine lv_aload_n hx hb (zat zrL_law_6_ok 40 rfl) rfl (lv_at hl 2 rfl) ?_
  refine ld_a C0 hH.2.2 (lv_at hl 4 rfl) (lv_at hl 0 rfl) (show n + 1 < L by omega) hL rfl (zat zrL_law_6_ok 41 rfl) (zat zrL_law_6_ok 42 rfl) (zat zrL_law_6_ok 43 rfl) (zat zrL_law_6_ok 44 rfl) (zat zrL_law_6_ok 45 rfl) ?_
  refine ld_a C0 hH.2.2 (lv_at hl 4 rfl) (lv_at hl 0 rfl) (show n + 2 < L by omega) hL rfl (zat zrL_law_6_ok 46 rfl) (zat zrL_law_6_ok 47 rfl) (zat zrL_law_6_ok 48 rfl) (zat zrL_law_6_ok 49 rfl) (zat zrL_law_6_ok 50 rfl) ?_
  refine ld_a C0 hH.2.2 (lv_at hl 4 rfl) (lv_at hl 0 rfl) (show n + 3 < L by omega) hL rfl (zat zrL_law_6_ok 51 rfl) (zat zrL_law_6_ok 52 rfl) (zat zrL_law_6_ok 53 rfl) (zat zrL_law_6_ok 54 rfl) (zat zrL_law_6_ok 55 rfl) ?_
  refine cn_likeliest C0 hKM hKQ hH hl.1 (Nat.le_of_ble_eq_true rfl) hc5 (zat zrL_law_6_ok 56 rfl) glM_likeliest_nul glM_likeliest rm M' o' em (fun RV qa qu qk H locs hKQ hH => ?_)
  have hH := hH.perm (cat_swap _ _ _)
  refine lv_pop hx hb (zat zrL_law_6_ok 57 rfl) rfl ?_
  refine lv_goto (tgt := 1953) hx hb (zat zrL_law_6_ok 58 rfl) (by decide) ?_
  exact W.widen (by omega) (by omega) (kk H locs ⟨A, U, C, na, nu, nk, X', B, E, M', o', RV, qa, qu, qk, cO, fO, rfl, rfl, hKX, hKM, hKQ, hKO, hR', hH⟩ ls hl)
set_option maxHeartbeats 1000000 in
set_option maxRecDepth 20000 in
theorem lc_12 {p : Program} {l : Launch} {e : Env} {s : State} {m : MethodId} {below : List Frame} {meth : Method} {c : Code} {b L : Nat} {xs : Nat → Int32} {H : Heap} {locs : List Loc} {cells slots : Nat} {Q : State → Prop} {dC : Nat → ClassId} {dI : Nat → Nat → Nat} (C0 : LW p l s m meth c b L xs) (hL : L ≤ 3072) {n : Nat} (hn : n + 6 ≤ L) {h0 g0 q9 : Nat} (hI : LI (dC, dI) s h0 g0 q9 H locs) (hcs : cells ≤ 400000 ∧ slots ≤ 6000000) (ls : Array Slot) (hl : lv_has ls 7 [(4, .int (nI n)), (3, .ref q9), (2, .ref g0), (1, .ref h0), (0, .ref b)])
    (kk : ∀ (H : Heap) (locs : List Loc), LI (dC, dI) s h0 g0 q9 H locs → ∀ ls : Array Slot, lv_has ls 7 [(4, .int (nI n)), (3, .ref q9), (2, .ref g0), (1, .ref h0), (0, .ref b)] → W p l e room_1 s m #[Value.ref b] below meth c H locs (cells + 50) (slots + 300) Q (F0 m 1953 ls [])) : W p l e room_1 s m #[Value.ref b] below meth c H locs cells slots Q (F0 m 832 ls []) := by
  obtain ⟨⟨hx, hb, -⟩, -⟩ := id C0
  have hb : c.code = cL_law := hb
  obtain ⟨A, U, C, na, nu, nk, X, B, E, M, o, RV, qa, qu, qk, cO, fO, rfl, rfl, hKX, hKM, hKQ, hKO, hR, hH⟩ := hI
  have hc5 : cells ≤ 500000 ∧ slots ≤ 7000000 := ⟨by omega, by omega⟩
  obtain ⟨rx, X', rm, M', o', ex, em, hR', he⟩ := st_surest (k1 := xs (n + 1)) hR
  refine lv_aload_n hx hb (zat zrL_law_6_ok 59 rfl) rfl (lv_at hl 3 rfl) ?_
  refine ld_a C0 hH.2.2 (lv_at hl 4 rfl) (lv_at hl 0 rfl) (show n + 1 < L by omega) hL rfl (zat zrL_law_6_ok 60 rfl) (zat zrL_law_6_ok 61 rfl) (zat zrL_law_6_ok 62 rfl) (zat zrL_law_6_ok 63 rfl) (zat zrL_law_7_ok 0 rfl) ?_
  refine cx_surest C0 hKX hH hl.1 (Nat.le_of_ble_eq_true rfl) hc5 (zat zrL_law_7_ok 1 rfl) glX_surest rx X' ex (fun H locs hH => ?_)
  refine lv_pop hx hb (zat zrL_law_7_ok 2 rfl) rfl ?_
  have hH := hH.perm (cat_swap _ _ _)
  refine lv_aload_n hx hb (zat zrL_law_7_ok 3 rfl) rfl (lv_at hl 2 rfl) ?_
  refine ld_a C0 hH.2.2 (lv_at hl 4 rfl) (lv_at hl 0 rfl) (show n + 1 < L by omega) hL rfl (zat zrL_law_7_ok 4 rfl) (zat zrL_law_7_ok 5 rfl) (zat zrL_law_7_ok 6 rfl) (zat zrL_law_7_ok 7 rfl) (zat zrL_law_7_ok 8 rfl) ?_
  refine cn_surest C0 hKM hKQ hH hl.1 (Nat.le_of_ble_eq_true rfl) hc5 (zat zrL_law_7_ok 9 rfl) glM_surest_nul glM_surest rm M' o' em (fun RV qa qu qk H locs hKQ hH => ?_)
  have hH := hH.perm (cat_swap _ _ _)
  refine lv_pop hx hb (zat zrL_law_7_ok 10 rfl) rfl ?_
  refine lv_goto (tgt := 1953) hx hb (zat zrL_law_7_ok 11 rfl) (by decide) ?_
  exact W.widen (by omega) (by omega) (kk H locs ⟨A, U, C, na, nu, nk, X', B, E, M', o', RV, qa, qu, qk, cO, fO, rfl, rfl, hKX, hKM, hKQ, hKO, hR', hH⟩ ls hl)
set_option maxHeartbeats 1000000 in
set_option maxRecDepth 20000 in
theorem lc_13 {p : Program} {l : Launch} {e : Env} {s : State} {m : MethodId} {below : List Frame} {meth : Method} {c : Code} {b L : Nat} {xs : Nat → Int32} {H : Heap} {locs : List Loc} {cells slots : Nat} {Q : State → Prop} {dC : Nat → ClassId} {dI : Nat → Nat → Nat} (C0 : LW p l s m meth c b L xs) (hL : L ≤ 3072) {n : Nat} (hn : n + 6 ≤ L) {h0 g0 q9 : Nat} (hI : LI (dC, dI) s h0 g0 q9 H locs) (hcs : cells ≤ 400000 ∧ slots ≤ 6000000) (ls : Array Slot) (hl : lv_has ls 7 [(4, .int (nI n)), (3, .ref q9), (2, .ref g0), (1, .ref h0), (0, .ref b)])
    (kk : ∀ (H : Heap) (locs : List Loc), LI (dC, dI) s h0 g0 q9 H locs → ∀ ls : Array Slot, lv_has ls 7 [(4, .int (nI n)), (3, .ref q9), (2, .ref g0), (1, .ref h0), (0, .ref b)] → W p l e room_1 s m #[Value.ref b] below meth c H locs (cells + 50) (slots + 300) Q (F0 m 1953 ls [])) : W p l e room_1 s m #[Value.ref b] below meth c H locs cells slots Q (F0 m 857 ls []) := by
  obtain ⟨⟨hx, hb, -⟩, -⟩ := id C0
  have hb : c.code = cL_law := hb
  obtain ⟨A, U, C, na, nu, nk, X, B, E, M, o, RV, qa, qu, qk, cO, fO, rfl, rfl, hKX, hKM, hKQ, hKO, hR, hH⟩ := hI
  have hc5 : cells ≤ 500000 ∧ slots ≤ 7000000 := ⟨by omega, by omega⟩
  obtain ⟨rx, X', rm, M', o', ex, em, hR', he⟩ := st_surestOdds (k1 := xs (n + 1)) (k2 := bo (xs (n + 2))) hR
  refine lv_aload_n hx hb (zat zrL_law_7_ok 12 rfl) rfl (lv_at hl 3 rfl) ?_
  refine ld_a C0 hH.2.2 (lv_at hl 4 rfl) (lv_at hl 0 rfl) (show n + 1 < L by omega) hL rfl (zat zrL_law_7_ok 13 rfl) (zat zrL_law_7_ok 14 rfl) (zat zrL_law_7_ok 15 rfl) (zat zrL_law_7_ok 16 rfl) (zat zrL_law_7_ok 17 rfl) ?_
  refine ld_b C0 hH.2.2 (lv_at hl 4 rfl) (lv_at hl 0 rfl) (show n + 2 < L by omega) hL rfl (zat zrL_law_7_ok 18 rfl) (zat zrL_law_7_ok 19 rfl) (zat zrL_law_7_ok 20 rfl) (zat zrL_law_7_ok 21 rfl) (zat zrL_law_7_ok 22 rfl) (zat zrL_law_7_ok 23 rfl) (zat zrL_law_7_ok 24 rfl) (zat zrL_law_7_ok 25 rfl) (zat zrL_law_7_ok 26 rfl) ?_
  refine cx_surestOdds C0 hKX hH hl.1 (Nat.le_of_ble_eq_true rfl) hc5 (zat zrL_law_7_ok 27 rfl) glX_surestOdds rx X' ex (fun H locs hH => ?_)
  refine lv_pop2_2 hx hb (zat zrL_law_7_ok 28 rfl) rfl ?_
  have hH := hH.perm (cat_swap _ _ _)
  refine lv_aload_n hx hb (zat zrL_law_7_ok 29 rfl) rfl (lv_at hl 2 rfl) ?_
  refine ld_a C0 hH.2.2 (lv_at hl 4 rfl) (lv_at hl 0 rfl) (show n + 1 < L by omega) hL rfl (zat zrL_law_7_ok 30 rfl) (zat zrL_law_7_ok 31 rfl) (zat zrL_law_7_ok 32 rfl) (zat zrL_law_7_ok 33 rfl) (zat zrL_law_7_ok 34 rfl) ?_
  refine ld_b C0 hH.2.2 (lv_at hl 4 rfl) (lv_at hl 0 rfl) (show n + 2 < L by omega) hL rfl (zat zrL_law_7_ok 35 rfl) (zat zrL_law_7_ok 36 rfl) (zat zrL_law_7_ok 37 rfl) (zat zrL_law_7_ok 38 rfl) (zat zrL_law_7_ok 39 rfl) (zat zrL_law_7_ok 40 rfl) (zat zrL_law_7_ok 41 rfl) (zat zrL_law_7_ok 42 rfl) (zat zrL_law_7_ok 43 rfl) ?_
  refine cn_surestOdds C0 hKM hKQ hH hl.1 (Nat.le_of_ble_eq_true rfl) hc5 (zat zrL_law_7_ok 44 rfl) glM_surestOdds_nul glM_surestOdds rm M' o' em (fun RV qa qu qk H locs hKQ hH => ?_)
  have hH := hH.perm (cat_swap _ _ _)
  refine lv_pop2_2 hx hb (zat zrL_law_7_ok 45 rfl) rfl ?_
  refine lv_goto (tgt := 1953) hx hb (zat zrL_law_7_ok 46 rfl) (by decide) ?_
  exact W.widen (by omega) (by omega) (kk H locs ⟨A, U, C, na, nu, nk, X', B, E, M', o', RV, qa, qu, qk, cO, fO, rfl, rfl, hKX, hKM, hKQ, hKO, hR', hH⟩ ls hl)
set_option maxHeartbeats 1000000 in
set_option maxRecDepth 20000 in
theorem lc_14 {p : Program} {l : Launch} {e : Env} {s : State} {m : MethodId} {below : List Frame} {meth : Method} {c : Code} {b L : Nat} {xs : Nat → Int32} {H : Heap} {locs : List Loc} {cells slots : Nat} {Q : State → Prop} {dC : Nat → ClassId} {dI : Nat → Nat → Nat} (C0 : LW p l s m meth c b L xs) (hL : L ≤ 3072) {n : Nat} (hn : n + 6 ≤ L) {h0 g0 q9 : Nat} (hI : LI (dC, dI) s h0 g0 q9 H locs) (hcs : cells ≤ 400000 ∧ slots ≤ 6000000) (ls : Array Slot) (hl : lv_has ls 7 [(4, .int (nI n)), (3, .ref q9), (2, .ref g0), (1, .ref h0), (0, .ref b)])
    (kk : ∀ (H : Heap) (locs : List Loc), LI (dC, dI) s h0 g0 q9 H locs → ∀ ls : Array Slot, lv_has ls 7 [(4, .int (nI n)), (3, .ref q9), (2, .ref g0), (1, .ref h0), (0, .ref b)] → W p l e room_1 s m #[Value.ref b] below meth c H locs (cells + 50) (slots + 300) Q (F0 m 1953 ls [])) : W p l e room_1 s m #[Value.ref b] below meth c H locs cells slots Q (F0 m 910 ls []) := by
  obtain ⟨⟨hx, hb, -⟩, -⟩ := id C0
  have hb : c.code = cL_law := hb
  obtain ⟨A, U, C, na, nu, nk, X, B, E, M, o, RV, qa, qu, qk, cO, fO, rfl, rfl, hKX, hKM, hKQ, hKO, hR, hH⟩ := hI
  have hc5 : cells ≤ 500000 ∧ slots ≤ 7000000 := ⟨by omega, by omega⟩
  obtain ⟨rx, X', rm, M', o', ex, em, hR', he⟩ := st_best  hR
  refine lv_aload_n hx hb (zat zrL_law_7_ok 47 rfl) rfl (lv_at hl 3 rfl) ?_
  refine cx_best C0 hKX hH hl.1 (Nat.le_of_ble_eq_true rfl) hc5 (zat zrL_law_7_ok 48 rfl) glX_best rx X' ex (fun H locs hH => ?_)
  refine lv_pop hx hb (zat zrL_law_7_ok 49 rfl) rfl ?_
  have hH := hH.perm (cat_swap _ _ _)
  refine lv_aload_n hx hb (zat zrL_law_7_ok 50 rfl) rfl (lv_at hl 2 rfl) ?_
  refine cn_best C0 hKM hKQ hH hl.1 (Nat.le_of_ble_eq_true rfl) hc5 (zat zrL_law_7_ok 51 rfl) glM_best_nul glM_best rm M' o' em (fun RV qa qu qk H locs hKQ hH => ?_)
  have hH := hH.perm (cat_swap _ _ _)
  refine lv_pop hx hb (zat zrL_law_7_ok 52 rfl) rfl ?_
  refine lv_goto (tgt := 1953) hx hb (zat zrL_law_7_ok 53 rfl) (by decide) ?_
  exact W.widen (by omega) (by omega) (kk H locs ⟨A, U, C, na, nu, nk, X', B, E, M', o', RV, qa, qu, qk, cO, fO, rfl, rfl, hKX, hKM, hKQ, hKO, hR', hH⟩ ls hl)
set_option maxHeartbeats 1000000 in
set_option maxRecDepth 20000 in
theorem lc_15 {p : Program} {l : Launch} {e : Env} {s : State} {m : MethodId} {below : List Frame} {meth : Method} {c : Code} {b L : Nat} {xs : Nat → Int32} {H : Heap} {locs : List Loc} {cells slots : Nat} {Q : State → Prop} {dC : Nat → ClassId} {dI : Nat → Nat → Nat} (C0 : LW p l s m meth c b L xs) (hL : L ≤ 3072) {n : Nat} (hn : n + 6 ≤ L) {h0 g0 q9 : Nat} (hI : LI (dC, dI) s h0 g0 q9 H locs) (hcs : cells ≤ 400000 ∧ slots ≤ 6000000) (ls : Array Slot) (hl : lv_has ls 7 [(4, .int (nI n)), (3, .ref q9), (2, .ref g0), (1, .ref h0), (0, .ref b)])
    (kk : ∀ (H : Heap) (locs : List Loc), LI (dC, dI) s h0 g0 q9 H locs → ∀ ls : Array Slot, lv_has ls 7 [(4, .int (nI n)), (3, .ref q9), (2, .ref g0), (1, .ref h0), (0, .ref b)] → W p l e room_1 s m #[Value.ref b] below meth c H locs (cells + 50) (slots + 300) Q (F0 m 1953 ls [])) : W p l e room_1 s m #[Value.ref b] below meth c H locs cells slots Q (F0 m 923 ls []) := by
  obtain ⟨⟨hx, hb, -⟩, -⟩ := id C0
  have hb : c.code = cL_law := hb
  obtain ⟨A, U, C, na, nu, nk, X, B, E, M, o, RV, qa, qu, qk, cO, fO, rfl, rfl, hKX, hKM, hKQ, hKO, hR, hH⟩ := hI
  have hc5 : cells ≤ 500000 ∧ slots ≤ 7000000 := ⟨by omega, by omega⟩
  obtain ⟨rx, X', rm, M', o', ex, em, hR', he⟩ := st_bestBait  hR
  refine lv_aload_n hx hb (zat zrL_law_7_ok 54 rfl) rfl (lv_at hl 3 rfl) ?_
  refine cx_bestBait C0 hKX hH hl.1 (Nat.le_of_ble_eq_true rfl) hc5 (zat zrL_law_7_ok 55 rfl) glX_bestBait rx X' ex (fun H locs hH => ?_)
  refine lv_pop hx hb (zat zrL_law_7_ok 56 rfl) rfl ?_
  have hH := hH.perm (cat_swap _ _ _)
  refine lv_aload_n hx hb (zat zrL_law_7_ok 57 rfl) rfl (lv_at hl 2 rfl) ?_
  refine cn_bestBait C0 hKM hKQ hH hl.1 (Nat.le_of_ble_eq_true rfl) hc5 (zat zrL_law_7_ok 58 rfl) glM_bestBait_nul glM_bestBait rm M' o' em (fun RV qa qu qk H locs hKQ hH => ?_)
  have hH := hH.perm (cat_swap _ _ _)
  refine lv_pop hx hb (zat zrL_law_7_ok 59 rfl) rfl ?_
  refine lv_goto (tgt := 1953) hx hb (zat zrL_law_7_ok 60 rfl) (by decide) ?_
  exact W.widen (by omega) (by omega) (kk H locs ⟨A, U, C, na, nu, nk, X', B, E, M', o', RV, qa, qu, qk, cO, fO, rfl, rfl, hKX, hKM, hKQ, hKO, hR', hH⟩ ls hl)
set_option maxHeartbeats 1000000 in
set_option maxRecDepth 20000 in
theorem lc_16 {p : Program} {l : Launch} {e : Env} {s : State} {m : MethodId} {below : List Frame} {meth : Method} {c : Code} {b L : Nat} {xs : Nat → Int32} {H : Heap} {locs : List Loc} {cells slots : Nat} {Q : State → Prop} {dC : Nat → ClassId} {dI : Nat → Nat → Nat} (C0 : LW p l s m meth c b L xs) (hL : L ≤ 3072) {n : Nat} (hn : n + 6 ≤ L) {h0 g0 q9 : Nat} (hI : LI (dC, dI) s h0 g0 q9 H locs) (hcs : cells ≤ 400000 ∧ slots ≤ 6000000) (ls : Array Slot) (hl : lv_has ls 7 [(4, .int (nI n)), (3, .ref q9), (2, .ref g0), (1, .ref h0), (0, .ref b)])
    (kk : ∀ (H : Heap) (locs : List Loc), LI (dC, dI) s h0 g0 q9 H locs → ∀ ls : Array Slot, lv_has ls 7 [(4, .int (nI n)), (3, .ref q9), (2, .ref g0), (1, .ref h0), (0, .ref b)] → W p l e room_1 s m #[Value.ref b] below meth c H locs (cells + 50) (slots + 300) Q (F0 m 1953 ls [])) : W p l e room_1 s m #[Value.ref b] below meth c H locs cells slots Q (F0 m 936 ls []) := by
  obtain ⟨⟨hx, hb, -⟩, -⟩ := id C0
  have hb : c.code = cL_law := hb
  obtain ⟨A, U, C, na, nu, nk, X, B, E, M, o, RV, qa, qu, qk, cO, fO, rfl, rfl, hKX, hKM, hKQ, hKO, hR, hH⟩ := hI
  have hc5 : cells ≤ 500000 ∧ slots ≤ 7000000 := ⟨by omega, by omega⟩
  obtain ⟨rx, X', rm, M', o', ex, em, hR', he⟩ := st_hungerFor (k1 := xs (n + 1)) (k2 := xs (n + 2)) (k3 := xs (n + 3)) (k4 := xs (n + 4)) hR
  refine lv_aload_n hx hb (zat zrL_law_7_ok 61 rfl) rfl (lv_at hl 3 rfl) ?_
  refine ld_a C0 hH.2.2 (lv_at hl 4 rfl) (lv_at hl 0 rfl) (show n + 1 < L by omega) hL rfl (zat zrL_law_7_ok 62 rfl) (zat zrL_law_7_ok 63 rfl) (zat zrL_law_8_ok 0 rfl) (zat zrL_law_8_ok 1 rfl) (zat zrL_law_8_ok 2 rfl) ?_
  refine ld_a C0 hH.2.2 (lv_at hl 4 rfl) (lv_at hl 0 rfl) (show n + 2 < L by omega) hL rfl (zat zrL_law_8_ok 3 rfl) (zat zrL_law_8_ok 4 rfl) (zat zrL_law_8_ok 5 rfl) (zat zrL_law_8_ok 6 rfl) (zat zrL_law_8_ok 7 rfl) ?_
  refine ld_a C0 hH.2.2 (lv_at hl 4 rfl) (lv_at hl 0 rfl) (show n + 3 < L by omega) hL rfl (zat zrL_law_8_ok 8 rfl) (zat zrL_law_8_ok 9 rfl) (zat zrL_law_8_ok 10 rfl) (zat zrL_law_8_ok 11 rfl) (zat zrL_law_8_ok 12 rfl) ?_
  refine ld_a C0 hH.2.2 (lv_at hl 4 rfl) (lv_at hl 0 rfl) (show n + 4 < L by omega) hL rfl (zat zrL_law_8_ok 13 rfl) (zat zrL_law_8_ok 14 rfl) (zat zrL_law_8_ok 15 rfl) (zat zrL_law_8_ok 16 rfl) (zat zrL_law_8_ok 17 rfl) ?_
  refine cx_hungerFor C0 hKX hH hl.1 (Nat.le_of_ble_eq_true rfl) hc5 (zat zrL_law_8_ok 18 rfl) glX_hungerFor rx X' ex (fun H locs hH => ?_)
  refine lv_pop hx hb (zat zrL_law_8_ok 19 rfl) rfl ?_
  have hH := hH.perm (cat_swap _ _ _)
  refine lv_aload_n hx hb (zat zrL_law_8_ok 20 rfl) rfl (lv_at hl 2 rfl) ?_
  refine ld_a C0 hH.2.2 (lv_at hl 4 rfl) (lv_at hl 0 rfl) (show n + 1 < L by omega) hL rfl (zat zrL_law_8_ok 21 rfl) (zat zrL_law_8_ok 22 rfl) (zat zrL_law_8_ok 23 rfl) (zat zrL_law_8_ok 24 rfl) (zat zrL_law_8_ok 25 rfl) ?_
  refine ld_a C0 hH.2.2 (lv_at hl 4 rfl) (lv_at hl 0 rfl) (show n + 2 < L by omega) hL rfl (zat zrL_law_8_ok 26 rfl) (zat zrL_law_8_ok 27 rfl) (zat zrL_law_8_ok 28 rfl) (zat zrL_law_8_ok 29 rfl) (zat zrL_law_8_ok 30 rfl) ?_
  refine ld_a C0 hH.2.2 (lv_at hl 4 rfl) (lv_at hl 0 rfl) (show n + 3 < L by omega) hL rfl (zat zrL_law_8_ok 31 rfl) (zat zrL_law_8_ok 32 rfl) (zat zrL_law_8_ok 33 rfl) (zat zrL_law_8_ok 34 rfl) (zat zrL_law_8_ok 35 rfl) ?_
  refine ld_a C0 hH.2.2 (lv_at hl 4 rfl) (lv_at hl 0 rfl) (show n + 4 < L by omega) hL rfl (zat zrL_law_8_ok 36 rfl) (zat zrL_law_8_ok 37 rfl) (zat zrL_law_8_ok 38 rfl) (zat zrL_law_8_ok 39 rfl) (zat zrL_law_8_ok 40 rfl) ?_
  refine cn_hungerFor C0 hKM hKQ hH hl.1 (Nat.le_of_ble_eq_true rfl) hc5 (zat zrL_law_8_ok 41 rfl) glM_hungerFor_nul glM_hungerFor rm M' o' em (fun RV qa qu qk H locs hKQ hH => ?_)
  have hH := hH.perm (cat_swap _ _ _)
  refine lv_pop hx hb (zat zrL_law_8_ok 42 rfl) rfl ?_
  refine lv_goto (tgt := 1953) hx hb (zat zrL_law_8_ok 43 rfl) (by decide) ?_
  exact W.widen (by omega) (by omega) (kk H locs ⟨A, U, C, na, nu, nk, X', B, E, M', o', RV, qa, qu, qk, cO, fO, rfl, rfl, hKX, hKM, hKQ, hKO, hR', hH⟩ ls hl)
set_option maxHeartbeats 1000000 in
set_option maxRecDepth 20000 in
theorem lc_17 {p : Program} {l : Launch} {e : Env} {s : State} {m : MethodId} {below : List Frame} {meth : Method} {c : Code} {b L : Nat} {xs : Nat → Int32} {H : Heap} {locs : List Loc} {cells slots : Nat} {Q : State → Prop} {dC : Nat → ClassId} {dI : Nat → Nat → Nat} (C0 : LW p l s m meth c b L xs) (hL : L ≤ 3072) {n : Nat} (hn : n + 6 ≤ L) {h0 g0 q9 : Nat} (hI : LI (dC, dI) s h0 g0 q9 H locs) (hcs : cells ≤ 400000 ∧ slots ≤ 6000000) (ls : Array Slot) (hl : lv_has ls 7 [(4, .int (nI n)), (3, .ref q9), (2, .ref g0), (1, .ref h0), (0, .ref b)])
    (kk : ∀ (H : Heap) (locs : List Loc), LI (dC, dI) s h0 g0 q9 H locs → ∀ ls : Array Slot, lv_has ls 7 [(4, .int (nI n)), (3, .ref q9), (2, .ref g0), (1, .ref h0), (0, .ref b)] → W p l e room_1 s m #[Value.ref b] below meth c H locs (cells + 50) (slots + 300) Q (F0 m 1953 ls [])) : W p l e room_1 s m #[Value.ref b] below meth c H locs cells slots Q (F0 m 997 ls []) := by
  obtain ⟨⟨hx, hb, -⟩, -⟩ := id C0
  have hb : c.code = cL_law := hb
  obtain ⟨A, U, C, na, nu, nk, X, B, E, M, o, RV, qa, qu, qk, cO, fO, rfl, rfl, hKX, hKM, hKQ, hKO, hR, hH⟩ := hI
  have hc5 : cells ≤ 500000 ∧ slots ≤ 7000000 := ⟨by omega, by omega⟩
  obtain ⟨rx, X', rm, M', o', ex, em, hR', he⟩ := st_freeSpots (k1 := xs (n + 1)) hR
  refine lv_aload_n hx hb (zat zrL_law_8_ok 44 rfl) rfl (lv_at hl 3 rfl) ?_
  refine ld_a C0 hH.2.2 (lv_at hl 4 rfl) (lv_at hl 0 rfl) (show n + 1 < L by omega) hL rfl (zat zrL_law_8_ok 45 rfl) (zat zrL_law_8_ok 46 rfl) (zat zrL_law_8_ok 47 rfl) (zat zrL_law_8_ok 48 rfl) (zat zrL_law_8_ok 49 rfl) ?_
  refine cx_freeSpots C0 hKX hH hl.1 (Nat.le_of_ble_eq_true rfl) hc5 (zat zrL_law_8_ok 50 rfl) glX_freeSpots rx X' ex (fun H locs hH => ?_)
  refine lv_pop hx hb (zat zrL_law_8_ok 51 rfl) rfl ?_
  have hH := hH.perm (cat_swap _ _ _)
  refine lv_aload_n hx hb (zat zrL_law_8_ok 52 rfl) rfl (lv_at hl 2 rfl) ?_
  refine ld_a C0 hH.2.2 (lv_at hl 4 rfl) (lv_at hl 0 rfl) (show n + 1 < L by omega) hL rfl (zat zrL_law_8_ok 53 rfl) (zat zrL_law_8_ok 54 rfl) (zat zrL_law_8_ok 55 rfl) (zat zrL_law_8_ok 56 rfl) (zat zrL_law_8_ok 57 rfl) ?_
  refine cn_freeSpots C0 hKM hKQ hH hl.1 (Nat.le_of_ble_eq_true rfl) hc5 (zat zrL_law_8_ok 58 rfl) glM_freeSpots_nul glM_freeSpots rm M' o' em (fun RV qa qu qk H locs hKQ hH => ?_)
  have hH := hH.perm (cat_swap _ _ _)
  refine lv_pop hx hb (zat zrL_law_8_ok 59 rfl) rfl ?_
  refine lv_goto (tgt := 1953) hx hb (zat zrL_law_8_ok 60 rfl) (by decide) ?_
  exact W.widen (by omega) (by omega) (kk H locs ⟨A, U, C, na, nu, nk, X', B, E, M', o', RV, qa, qu, qk, cO, fO, rfl, rfl, hKX, hKM, hKQ, hKO, hR', hH⟩ ls hl)
set_option maxHeartbeats 1000000 in
set_option maxRecDepth 20000 in
theorem lc_18 {p : Program} {l : Launch} {e : Env} {s : State} {m : MethodId} {below : List Frame} {meth : Method} {c : Code} {b L : Nat} {xs : Nat → Int32} {H : Heap} {locs : List Loc} {cells slots : Nat} {Q : State → Prop} {dC : Nat → ClassId} {dI : Nat → Nat → Nat} (C0 : LW p l s m meth c b L xs) (hL : L ≤ 3072) {n : Nat} (hn : n + 6 ≤ L) {h0 g0 q9 : Nat} (hI : LI (dC, dI) s h0 g0 q9 H locs) (hcs : cells ≤ 400000 ∧ slots ≤ 6000000) (ls : Array Slot) (hl : lv_has ls 7 [(4, .int (nI n)), (3, .ref q9), (2, .ref g0), (1, .ref h0), (0, .ref b)])
    (kk : ∀ (H : Heap) (locs : List Loc), LI (dC, dI) s h0 g0 q9 H locs → ∀ ls : Array Slot, lv_has ls 7 [(4, .int (nI n)), (3, .ref q9), (2, .ref g0), (1, .ref h0), (0, .ref b)] → W p l e room_1 s m #[Value.ref b] below meth c H locs (cells + 50) (slots + 300) Q (F0 m 1953 ls [])) : W p l e room_1 s m #[Value.ref b] below meth c H locs cells slots Q (F0 m 1022 ls []) := by
  obtain ⟨⟨hx, hb, -⟩, -⟩ := id C0
  have hb : c.code = cL_law := hb
  obtain ⟨A, U, C, na, nu, nk, X, B, E, M, o, RV, qa, qu, qk, cO, fO, rfl, rfl, hKX, hKM, hKQ, hKO, hR, hH⟩ := hI
  have hc5 : cells ≤ 500000 ∧ slots ≤ 7000000 := ⟨by omega, by omega⟩
  obtain ⟨rx, X', rm, M', o', ex, em, hR', he⟩ := st_tangles (k1 := xs (n + 1)) (k2 := xs (n + 2)) (k3 := xs (n + 3)) (k4 := xs (n + 4)) hR
  refine lv_aload_n hx hb (zat zrL_law_8_ok 61 rfl) rfl (lv_at hl 3 rfl) ?_
  refine ld_a C0 hH.2.2 (lv_at hl 4 rfl) (lv_at hl 0 rfl) (show n + 1 < L by omega) hL rfl (zat zrL_law_8_ok 62 rfl) (zat zrL_law_8_ok 63 rfl) (zat zrL_law_9_ok 0 rfl) (zat zrL_law_9_ok 1 rfl) (zat zrL_law_9_ok 2 rfl) ?_
  refine ld_a C0 hH.2.2 (lv_at hl 4 rfl) (lv_at hl 0 rfl) (show n + 2 < L by omega) hL rfl (zat zrL_law_9_ok 3 rfl) (zat zrL_law_9_ok 4 rfl) (zat zrL_law_9_ok 5 rfl) (zat zrL_law_9_ok 6 rfl) (zat zrL_law_9_ok 7 rfl) ?_
  refine ld_a C0 hH.2.2 (lv_at hl 4 rfl) (lv_at hl 0 rfl) (show n + 3 < L by omega) hL rfl (zat zrL_law_9_ok 8 rfl) (zat zrL_law_9_ok 9 rfl) (zat zrL_law_9_ok 10 rfl) (zat zrL_law_9_ok 11 rfl) (zat zrL_law_9_ok 12 rfl) ?_
  refine ld_a C0 hH.2.2 (lv_at hl 4 rfl) (lv_at hl 0 rfl) (show n + 4 < L by omega) hL rfl (zat zrL_law_9_ok 13 rfl) (zat zrL_law_9_ok 14 rfl) (zat zrL_law_9_ok 15 rfl) (zat zrL_law_9_ok 16 rfl) (zat zrL_law_9_ok 17 rfl) ?_
  refine cx_tangles C0 hKX hH hl.1 (Nat.le_of_ble_eq_true rfl) hc5 (zat zrL_law_9_ok 18 rfl) glX_tangles rx X' ex (fun H locs hH => ?_)
  refine lv_pop hx hb (zat zrL_law_9_ok 19 rfl) rfl ?_
  have hH := hH.perm (cat_swap _ _ _)
  refine lv_aload_n hx hb (zat zrL_law_9_ok 20 rfl) rfl (lv_at hl 2 rfl) ?_
  refine ld_a C0 hH.2.2 (lv_at hl 4 rfl) (lv_at hl 0 rfl) (show n + 1 < L by omega) hL rfl (zat zrL_law_9_ok 21 rfl) (zat zrL_law_9_ok 22 rfl) (zat zrL_law_9_ok 23 rfl) (zat zrL_law_9_ok 24 rfl) (zat zrL_law_9_ok 25 rfl) ?_
  refine ld_a C0 hH.2.2 (lv_at hl 4 rfl) (lv_at hl 0 rfl) (show n + 2 < L by omega) hL rfl (zat zrL_law_9_ok 26 rfl) (zat zrL_law_9_ok 27 rfl) (zat zrL_law_9_ok 28 rfl) (zat zrL_law_9_ok 29 rfl) (zat zrL_law_9_ok 30 rfl) ?_
  refine ld_a C0 hH.2.2 (lv_at hl 4 rfl) (lv_at hl 0 rfl) (show n + 3 < L by omega) hL rfl (zat zrL_law_9_ok 31 rfl) (zat zrL_law_9_ok 32 rfl) (zat zrL_law_9_ok 33 rfl) (zat zrL_law_9_ok 34 rfl) (zat zrL_law_9_ok 35 rfl) ?_
  refine ld_a C0 hH.2.2 (lv_at hl 4 rfl) (lv_at hl 0 rfl) (show n + 4 < L by omega) hL rfl (zat zrL_law_9_ok 36 rfl) (zat zrL_law_9_ok 37 rfl) (zat zrL_law_9_ok 38 rfl) (zat zrL_law_9_ok 39 rfl) (zat zrL_law_9_ok 40 rfl) ?_
  refine cn_tangles C0 hKM hKQ hH hl.1 (Nat.le_of_ble_eq_true rfl) hc5 (zat zrL_law_9_ok 41 rfl) glM_tangles_nul glM_tangles rm M' o' em (fun RV qa qu qk H locs hKQ hH => ?_)
  have hH := hH.perm (cat_swap _ _ _)
  refine lv_pop hx hb (zat zrL_law_9_ok 42 rfl) rfl ?_
  refine lv_goto (tgt := 1953) hx hb (zat zrL_law_9_ok 43 rfl) (by decide) ?_
  exact W.widen (by omega) (by omega) (kk H locs ⟨A, U, C, na, nu, nk, X', B, E, M', o', RV, qa, qu, qk, cO, fO, rfl, rfl, hKX, hKM, hKQ, hKO, hR', hH⟩ ls hl)
set_option maxHeartbeats 1000000 in
set_option maxRecDepth 20000 in
theorem lc_19 {p : Program} {l : Launch} {e : Env} {s : State} {m : MethodId} {below : List Frame} {meth : Method} {c : Code} {b L : Nat} {xs : Nat → Int32} {H : Heap} {locs : List Loc} {cells slots : Nat} {Q : State → Prop} {dC : Nat → ClassId} {dI : Nat → Nat → Nat} (C0 : LW p l s m meth c b L xs) (hL : L ≤ 3072) {n : Nat} (hn : n + 6 ≤ L) {h0 g0 q9 : Nat} (hI : LI (dC, dI) s h0 g0 q9 H locs) (hcs : cells ≤ 400000 ∧ slots ≤ 6000000) (ls : Array Slot) (hl : lv_has ls 7 [(4, .int (nI n)), (3, .ref q9), (2, .ref g0), (1, .ref h0), (0, .ref b)])
    (kk : ∀ (H : Heap) (locs : List Loc), LI (dC, dI) s h0 g0 q9 H locs → ∀ ls : Array Slot, lv_has ls 7 [(4, .int (nI n)), (3, .ref q9), (2, .ref g0), (1, .ref h0), (0, .ref b)] → W p l e room_1 s m #[Value.ref b] below meth c H locs (cells + 50) (slots + 300) Q (F0 m 1953 ls [])) : W p l e room_1 s m #[Value.ref b] below meth c H locs cells slots Q (F0 m 1083 ls []) := by
  obtain ⟨⟨hx, hb, -⟩, -⟩ := id C0
  have hb : c.code = cL_law := hb
  obtain ⟨A, U, C, na, nu, nk, X, B, E, M, o, RV, qa, qu, qk, cO, fO, rfl, rfl, hKX, hKM, hKQ, hKO, hR, hH⟩ := hI
  have hc5 : cells ≤ 500000 ∧ slots ≤ 7000000 := ⟨by omega, by omega⟩
  obtain ⟨rx, X', rm, M', o', ex, em, hR', he⟩ := st_seatings  hR
  refine lv_aload_n hx hb (zat zrL_law_9_ok 44 rfl) rfl (lv_at hl 3 rfl) ?_
  refine cx_seatings C0 hKX hH hl.1 (Nat.le_of_ble_eq_true rfl) hc5 (zat zrL_law_9_ok 45 rfl) glX_seatings rx X' ex (fun H locs hH => ?_)
  refine lv_pop hx hb (zat zrL_law_9_ok 46 rfl) rfl ?_
  have hH := hH.perm (cat_swap _ _ _)
  refine lv_aload_n hx hb (zat zrL_law_9_ok 47 rfl) rfl (lv_at hl 2 rfl) ?_
  refine cn_seatings C0 hKM hKQ hH hl.1 (Nat.le_of_ble_eq_true rfl) hc5 (zat zrL_law_9_ok 48 rfl) glM_seatings_nul glM_seatings rm M' o' em (fun RV qa qu qk H locs hKQ hH => ?_)
  have hH := hH.perm (cat_swap _ _ _)
  refine lv_pop hx hb (zat zrL_law_9_ok 49 rfl) rfl ?_
  refine lv_goto (tgt := 1953) hx hb (zat zrL_law_9_ok 50 rfl) (by decide) ?_
  exact W.widen (by omega) (by omega) (kk H locs ⟨A, U, C, na, nu, nk, X', B, E, M', o', RV, qa, qu, qk, cO, fO, rfl, rfl, hKX, hKM, hKQ, hKO, hR', hH⟩ ls hl)
set_option maxHeartbeats 1000000 in
set_option maxRecDepth 20000 in
theorem lc_20 {p : Program} {l : Launch} {e : Env} {s : State} {m : MethodId} {below : List Frame} {meth : Method} {c : Code} {b L : Nat} {xs : Nat → Int32} {H : Heap} {locs : List Loc} {cells slots : Nat} {Q : State → Prop} {dC : Nat → ClassId} {dI : Nat → Nat → Nat} (C0 : LW p l s m meth c b L xs) (hL : L ≤ 3072) {n : Nat} (hn : n + 6 ≤ L) {h0 g0 q9 : Nat} (hI : LI (dC, dI) s h0 g0 q9 H locs) (hcs : cells ≤ 400000 ∧ slots ≤ 6000000) (ls : Array Slot) (hl : lv_has ls 7 [(4, .int (nI n)), (3, .ref q9), (2, .ref g0), (1, .ref h0), (0, .ref b)])
    (kk : ∀ (H : Heap) (locs : List Loc), LI (dC, dI) s h0 g0 q9 H locs → ∀ ls : Array Slot, lv_has ls 7 [(4, .int (nI n)), (3, .ref q9), (2, .ref g0), (1, .ref h0), (0, .ref b)] → W p l e room_1 s m #[Value.ref b] below meth c H locs (cells + 50) (slots + 300) Q (F0 m 1953 ls [])) : W p l e room_1 s m #[Value.ref b] below meth c H locs cells slots Q (F0 m 1096 ls []) := by
  obtain ⟨⟨hx, hb, -⟩, -⟩ := id C0
  have hb : c.code = cL_law := hb
  obtain ⟨A, U, C, na, nu, nk, X, B, E, M, o, RV, qa, qu, qk, cO, fO, rfl, rfl, hKX, hKM, hKQ, hKO, hR, hH⟩ := hI
  have hc5 : cells ≤ 500000 ∧ slots ≤ 7000000 := ⟨by omega, by omega⟩
  obtain ⟨rx, X', rm, M', o', ex, em, hR', he⟩ := st_seat (k1 := xs (n + 1)) hR
  refine lv_aload_n hx hb (zat zrL_law_9_ok 51 rfl) rfl (lv_at hl 3 rfl) ?_
  refine ld_a C0 hH.2.2 (lv_at hl 4 rfl) (lv_at hl 0 rfl) (show n + 1 < L by omega) hL rfl (zat zrL_law_9_ok 52 rfl) (zat zrL_law_9_ok 53 rfl) (zat zrL_law_9_ok 54 rfl) (zat zrL_law_9_ok 55 rfl) (zat zrL_law_9_ok 56 rfl) ?_
  refine cx_seat C0 hKX hH hl.1 (Nat.le_of_ble_eq_true rfl) hc5 (zat zrL_law_9_ok 57 rfl) glX_seat rx X' ex (fun H locs hH => ?_)
  refine lv_pop hx hb (zat zrL_law_9_ok 58 rfl) rfl ?_
  have hH := hH.perm (cat_swap _ _ _)
  refine lv_aload_n hx hb (zat zrL_law_9_ok 59 rfl) rfl (lv_at hl 2 rfl) ?_
  refine ld_a C0 hH.2.2 (lv_at hl 4 rfl) (lv_at hl 0 rfl) (show n + 1 < L by omega) hL rfl (zat zrL_law_9_ok 60 rfl) (zat zrL_law_9_ok 61 rfl) (zat zrL_law_9_ok 62 rfl) (zat zrL_law_9_ok 63 rfl) (zat zrL_law_10_ok 0 rfl) ?_
  refine cn_seat C0 hKM hKQ hH hl.1 (Nat.le_of_ble_eq_true rfl) hc5 (zat zrL_law_10_ok 1 rfl) glM_seat_nul glM_seat rm M' o' em (fun RV qa qu qk H locs hKQ hH => ?_)
  have hH := hH.perm (cat_swap _ _ _)
  refine lv_pop hx hb (zat zrL_law_10_ok 2 rfl) rfl ?_
  refine lv_goto (tgt := 1953) hx hb (zat zrL_law_10_ok 3 rfl) (by decide) ?_
  exact W.widen (by omega) (by omega) (kk H locs ⟨A, U, C, na, nu, nk, X', B, E, M', o', RV, qa, qu, qk, cO, fO, rfl, rfl, hKX, hKM, hKQ, hKO, hR', hH⟩ ls hl)
set_option maxHeartbeats 1000000 in
set_option maxRecDepth 20000 in
theorem lc_21 {p : Program} {l : Launch} {e : Env} {s : State} {m : MethodId} {below : List Frame} {meth : Method} {c : Code} {b L : Nat} {xs : Nat → Int32} {H : Heap} {locs : List Loc} {cells slots : Nat} {Q : State → Prop} {dC : Nat → ClassId} {dI : Nat → Nat → Nat} (C0 : LW p l s m meth c b L xs) (hL : L ≤ 3072) {n : Nat} (hn : n + 6 ≤ L) {h0 g0 q9 : Nat} (hI : LI (dC, dI) s h0 g0 q9 H locs) (hcs : cells ≤ 400000 ∧ slots ≤ 6000000) (ls : Array Slot) (hl : lv_has ls 7 [(4, .int (nI n)), (3, .ref q9), (2, .ref g0), (1, .ref h0), (0, .ref b)])
    (kk : ∀ (H : Heap) (locs : List Loc), LI (dC, dI) s h0 g0 q9 H locs → ∀ ls : Array Slot, lv_has ls 7 [(4, .int (nI n)), (3, .ref q9), (2, .ref g0), (1, .ref h0), (0, .ref b)] → W p l e room_1 s m #[Value.ref b] below meth c H locs (cells + 50) (slots + 300) Q (F0 m 1953 ls [])) : W p l e room_1 s m #[Value.ref b] below meth c H locs cells slots Q (F0 m 1121 ls []) := by
  obtain ⟨⟨hx, hb, -⟩, -⟩ := id C0
  have hb : c.code = cL_law := hb
  obtain ⟨A, U, C, na, nu, nk, X, B, E, M, o, RV, qa, qu, qk, cO, fO, rfl, rfl, hKX, hKM, hKQ, hKO, hR, hH⟩ := hI
  have hc5 : cells ≤ 500000 ∧ slots ≤ 7000000 := ⟨by omega, by omega⟩
  obtain ⟨rx, X', rm, M', o', ex, em, hR', he⟩ := st_mostSeated  hR
  refine lv_aload_n hx hb (zat zrL_law_10_ok 4 rfl) rfl (lv_at hl 3 rfl) ?_
  refine cx_mostSeated C0 hKX hH hl.1 (Nat.le_of_ble_eq_true rfl) hc5 (zat zrL_law_10_ok 5 rfl) glX_mostSeated rx X' ex (fun H locs hH => ?_)
  refine lv_pop hx hb (zat zrL_law_10_ok 6 rfl) rfl ?_
  have hH := hH.perm (cat_swap _ _ _)
  refine lv_aload_n hx hb (zat zrL_law_10_ok 7 rfl) rfl (lv_at hl 2 rfl) ?_
  refine cn_mostSeated C0 hKM hKQ hH hl.1 (Nat.le_of_ble_eq_true rfl) hc5 (zat zrL_law_10_ok 8 rfl) glM_mostSeated_nul glM_mostSeated rm M' o' em (fun RV qa qu qk H locs hKQ hH => ?_)
  have hH := hH.perm (cat_swap _ _ _)
  refine lv_pop hx hb (zat zrL_law_10_ok 9 rfl) rfl ?_
  refine lv_goto (tgt := 1953) hx hb (zat zrL_law_10_ok 10 rfl) (by decide) ?_
  exact W.widen (by omega) (by omega) (kk H locs ⟨A, U, C, na, nu, nk, X', B, E, M', o', RV, qa, qu, qk, cO, fO, rfl, rfl, hKX, hKM, hKQ, hKO, hR', hH⟩ ls hl)
set_option maxHeartbeats 1000000 in
set_option maxRecDepth 20000 in
theorem lc_22 {p : Program} {l : Launch} {e : Env} {s : State} {m : MethodId} {below : List Frame} {meth : Method} {c : Code} {b L : Nat} {xs : Nat → Int32} {H : Heap} {locs : List Loc} {cells slots : Nat} {Q : State → Prop} {dC : Nat → ClassId} {dI : Nat → Nat → Nat} (C0 : LW p l s m meth c b L xs) (hL : L ≤ 3072) {n : Nat} (hn : n + 6 ≤ L) {h0 g0 q9 : Nat} (hI : LI (dC, dI) s h0 g0 q9 H locs) (hcs : cells ≤ 400000 ∧ slots ≤ 6000000) (ls : Array Slot) (hl : lv_has ls 7 [(4, .int (nI n)), (3, .ref q9), (2, .ref g0), (1, .ref h0), (0, .ref b)])
    (kk : ∀ (H : Heap) (locs : List Loc), LI (dC, dI) s h0 g0 q9 H locs → ∀ ls : Array Slot, lv_has ls 7 [(4, .int (nI n)), (3, .ref q9), (2, .ref g0), (1, .ref h0), (0, .ref b)] → W p l e room_1 s m #[Value.ref b] below meth c H locs (cells + 50) (slots + 300) Q (F0 m 1953 ls [])) : W p l e room_1 s m #[Value.ref b] below meth c H locs cells slots Q (F0 m 1134 ls []) := by
  obtain ⟨⟨hx, hb, -⟩, -⟩ := id C0
  have hb : c.code = cL_law := hb
  obtain ⟨A, U, C, na, nu, nk, X, B, E, M, o, RV, qa, qu, qk, cO, fO, rfl, rfl, hKX, hKM, hKQ, hKO, hR, hH⟩ := hI
  have hc5 : cells ≤ 500000 ∧ slots ≤ 7000000 := ⟨by omega, by omega⟩
  obtain ⟨rx, X', rm, M', o', ex, em, hR', he⟩ := st_darks  hR
  refine lv_aload_n hx hb (zat zrL_law_10_ok 11 rfl) rfl (lv_at hl 3 rfl) ?_
  refine cx_darks C0 hKX hH hl.1 (Nat.le_of_ble_eq_true rfl) hc5 (zat zrL_law_10_ok 12 rfl) glX_darks rx X' ex (fun H locs hH => ?_)
  refine lv_pop hx hb (zat zrL_law_10_ok 13 rfl) rfl ?_
  have hH := hH.perm (cat_swap _ _ _)
  refine lv_aload_n hx hb (zat zrL_law_10_ok 14 rfl) rfl (lv_at hl 2 rfl) ?_
  refine cn_darks C0 hKM hKQ hH hl.1 (Nat.le_of_ble_eq_true rfl) hc5 (zat zrL_law_10_ok 15 rfl) glM_darks_nul glM_darks rm M' o' em (fun RV qa qu qk H locs hKQ hH => ?_)
  have hH := hH.perm (cat_swap _ _ _)
  refine lv_pop hx hb (zat zrL_law_10_ok 16 rfl) rfl ?_
  refine lv_goto (tgt := 1953) hx hb (zat zrL_law_10_ok 17 rfl) (by decide) ?_
  exact W.widen (by omega) (by omega) (kk H locs ⟨A, U, C, na, nu, nk, X', B, E, M', o', RV, qa, qu, qk, cO, fO, rfl, rfl, hKX, hKM, hKQ, hKO, hR', hH⟩ ls hl)
set_option maxHeartbeats 1000000 in
set_option maxRecDepth 20000 in
theorem lc_23 {p : Program} {l : Launch} {e : Env} {s : State} {m : MethodId} {below : List Frame} {meth : Method} {c : Code} {b L : Nat} {xs : Nat → Int32} {H : Heap} {locs : List Loc} {cells slots : Nat} {Q : State → Prop} {dC : Nat → ClassId} {dI : Nat → Nat → Nat} (C0 : LW p l s m meth c b L xs) (hL : L ≤ 3072) {n : Nat} (hn : n + 6 ≤ L) {h0 g0 q9 : Nat} (hI : LI (dC, dI) s h0 g0 q9 H locs) (hcs : cells ≤ 400000 ∧ slots ≤ 6000000) (ls : Array Slot) (hl : lv_has ls 7 [(4, .int (nI n)), (3, .ref q9), (2, .ref g0), (1, .ref h0), (0, .ref b)])
    (kk : ∀ (H : Heap) (locs : List Loc), LI (dC, dI) s h0 g0 q9 H locs → ∀ ls : Array Slot, lv_has ls 7 [(4, .int (nI n)), (3, .ref q9), (2, .ref g0), (1, .ref h0), (0, .ref b)] → W p l e room_1 s m #[Value.ref b] below meth c H locs (cells + 50) (slots + 300) Q (F0 m 1953 ls [])) : W p l e room_1 s m #[Value.ref b] below meth c H locs cells slots Q (F0 m 1147 ls []) := by
  obtain ⟨⟨hx, hb, -⟩, -⟩ := id C0
  have hb : c.code = cL_law := hb
  obtain ⟨A, U, C, na, nu, nk, X, B, E, M, o, RV, qa, qu, qk, cO, fO, rfl, rfl, hKX, hKM, hKQ, hKO, hR, hH⟩ := hI
  have hc5 : cells ≤ 500000 ∧ slots ≤ 7000000 := ⟨by omega, by omega⟩
  obtain ⟨rx, X', rm, M', o', ex, em, hR', he⟩ := st_darkAt (k1 := xs (n + 1)) hR
  refine lv_aload_n hx hb (zat zrL_law_10_ok 18 rfl) rfl (lv_at hl 3 rfl) ?_
  refine ld_a C0 hH.2.2 (lv_at hl 4 rfl) (lv_at hl 0 rfl) (show n + 1 < L by omega) hL rfl (zat zrL_law_10_ok 19 rfl) (zat zrL_law_10_ok 20 rfl) (zat zrL_law_10_ok 21 rfl) (zat zrL_law_10_ok 22 rfl) (zat zrL_law_10_ok 23 rfl) ?_
  refine cx_darkAt C0 hKX hH hl.1 (Nat.le_of_ble_eq_true rfl) hc5 (zat zrL_law_10_ok 24 rfl) glX_darkAt rx X' ex (fun H locs hH => ?_)
  have hH := hH.perm (cat_swap _ _ _)
  refine lv_aload_n hx hb (zat zrL_law_10_ok 25 rfl) rfl (lv_at hl 2 rfl) ?_
  refine ld_a C0 hH.2.2 (lv_at hl 4 rfl) (lv_at hl 0 rfl) (show n + 1 < L by omega) hL rfl (zat zrL_law_10_ok 26 rfl) (zat zrL_law_10_ok 27 rfl) (zat zrL_law_10_ok 28 rfl) (zat zrL_law_10_ok 29 rfl) (zat zrL_law_10_ok 30 rfl) ?_
  refine cn_darkAt C0 hKM hKQ hH hl.1 (Nat.le_of_ble_eq_true rfl) hc5 (zat zrL_law_10_ok 31 rfl) glM_darkAt_nul glM_darkAt rm M' o' em (fun RV qa qu qk H locs hKQ hH => ?_)
  have hH := hH.perm (cat_swap _ _ _)
  refine lv_icmp_eq (tgt := 1953) hx hb (zat zrL_law_10_ok 32 rfl) (by decide) (fun _ => ?_) (fun c9 => absurd he c9)
  exact W.widen (by omega) (by omega) (kk H locs ⟨A, U, C, na, nu, nk, X', B, E, M', o', RV, qa, qu, qk, cO, fO, rfl, rfl, hKX, hKM, hKQ, hKO, hR', hH⟩ ls hl)
set_option maxHeartbeats 1000000 in
set_option maxRecDepth 20000 in
theorem lc_24 {p : Program} {l : Launch} {e : Env} {s : State} {m : MethodId} {below : List Frame} {meth : Method} {c : Code} {b L : Nat} {xs : Nat → Int32} {H : Heap} {locs : List Loc} {cells slots : Nat} {Q : State → Prop} {dC : Nat → ClassId} {dI : Nat → Nat → Nat} (C0 : LW p l s m meth c b L xs) (hL : L ≤ 3072) {n : Nat} (hn : n + 6 ≤ L) {h0 g0 q9 : Nat} (hI : LI (dC, dI) s h0 g0 q9 H locs) (hcs : cells ≤ 400000 ∧ slots ≤ 6000000) (ls : Array Slot) (hl : lv_has ls 7 [(4, .int (nI n)), (3, .ref q9), (2, .ref g0), (1, .ref h0), (0, .ref b)])
    (kk : ∀ (H : Heap) (locs : List Loc), LI (dC, dI) s h0 g0 q9 H locs → ∀ ls : Array Slot, lv_has ls 7 [(4, .int (nI n)), (3, .ref q9), (2, .ref g0), (1, .ref h0), (0, .ref b)] → W p l e room_1 s m #[Value.ref b] below meth c H locs (cells + 50) (slots + 300) Q (F0 m 1953 ls [])) : W p l e room_1 s m #[Value.ref b] below meth c H locs cells slots Q (F0 m 1172 ls []) := by
  obtain ⟨⟨hx, hb, -⟩, -⟩ := id C0
  have hb : c.code = cL_law := hb
  obtain ⟨A, U, C, na, nu, nk, X, B, E, M, o, RV, qa, qu, qk, cO, fO, rfl, rfl, hKX, hKM, hKQ, hKO, hR, hH⟩ := hI
  have hc5 : cells ≤ 500000 ∧ slots ≤ 7000000 := ⟨by omega, by omega⟩
  obtain ⟨rx, X', rm, M', o', ex, em, hR', he⟩ := st_darkSpots  hR
  refine lv_aload_n hx hb (zat zrL_law_10_ok 35 rfl) rfl (lv_at hl 3 rfl) ?_
  refine cx_darkSpots C0 hKX hH hl.1 (Nat.le_of_ble_eq_true rfl) hc5 (zat zrL_law_10_ok 36 rfl) glX_darkSpots rx X' ex (fun H locs hH => ?_)
  refine lv_pop hx hb (zat zrL_law_10_ok 37 rfl) rfl ?_
  have hH := hH.perm (cat_swap _ _ _)
  refine lv_aload_n hx hb (zat zrL_law_10_ok 38 rfl) rfl (lv_at hl 2 rfl) ?_
  refine cn_darkSpots C0 hKM hKQ hH hl.1 (Nat.le_of_ble_eq_true rfl) hc5 (zat zrL_law_10_ok 39 rfl) glM_darkSpots_nul glM_darkSpots rm M' o' em (fun RV qa qu qk H locs hKQ hH => ?_)
  have hH := hH.perm (cat_swap _ _ _)
  refine lv_pop hx hb (zat zrL_law_10_ok 40 rfl) rfl ?_
  refine lv_goto (tgt := 1953) hx hb (zat zrL_law_10_ok 41 rfl) (by decide) ?_
  exact W.widen (by omega) (by omega) (kk H locs ⟨A, U, C, na, nu, nk, X', B, E, M', o', RV, qa, qu, qk, cO, fO, rfl, rfl, hKX, hKM, hKQ, hKO, hR', hH⟩ ls hl)
set_option maxHeartbeats 1000000 in
set_option maxRecDepth 20000 in
theorem lc_25 {p : Program} {l : Launch} {e : Env} {s : State} {m : MethodId} {below : List Frame} {meth : Method} {c : Code} {b L : Nat} {xs : Nat → Int32} {H : Heap} {locs : List Loc} {cells slots : Nat} {Q : State → Prop} {dC : Nat → ClassId} {dI : Nat → Nat → Nat} (C0 : LW p l s m meth c b L xs) (hL : L ≤ 3072) {n : Nat} (hn : n + 6 ≤ L) {h0 g0 q9 : Nat} (hI : LI (dC, dI) s h0 g0 q9 H locs) (hcs : cells ≤ 400000 ∧ slots ≤ 6000000) (ls : Array Slot) (hl : lv_has ls 7 [(4, .int (nI n)), (3, .ref q9), (2, .ref g0), (1, .ref h0), (0, .ref b)])
    (kk : ∀ (H : Heap) (locs : List Loc), LI (dC, dI) s h0 g0 q9 H locs → ∀ ls : Array Slot, lv_has ls 7 [(4, .int (nI n)), (3, .ref q9), (2, .ref g0), (1, .ref h0), (0, .ref b)] → W p l e room_1 s m #[Value.ref b] below meth c H locs (cells + 50) (slots + 300) Q (F0 m 1953 ls [])) : W p l e room_1 s m #[Value.ref b] below meth c H locs cells slots Q (F0 m 1185 ls []) := by
  obtain ⟨⟨hx, hb, -⟩, -⟩ := id C0
  have hb : c.code = cL_law := hb
  obtain ⟨A, U, C, na, nu, nk, X, B, E, M, o, RV, qa, qu, qk, cO, fO, rfl, rfl, hKX, hKM, hKQ, hKO, hR, hH⟩ := hI
  have hc5 : cells ≤ 500000 ∧ slots ≤ 7000000 := ⟨by omega, by omega⟩
  obtain ⟨rx, X', rm, M', o', ex, em, hR', he⟩ := st_ask  hR
  refine lv_aload_n hx hb (zat zrL_law_10_ok 42 rfl) rfl (lv_at hl 3 rfl) ?_
  refine cx_ask C0 hKX hH hl.1 (Nat.le_of_ble_eq_true rfl) hc5 (zat zrL_law_10_ok 43 rfl) glX_ask rx X' ex (fun H locs hH => ?_)
  refine lv_pop hx hb (zat zrL_law_10_ok 44 rfl) rfl ?_
  have hH := hH.perm (cat_swap _ _ _)
  refine lv_aload_n hx hb (zat zrL_law_10_ok 45 rfl) rfl (lv_at hl 2 rfl) ?_
  refine cn_ask C0 hKM hKQ hH hl.1 (Nat.le_of_ble_eq_true rfl) hc5 (zat zrL_law_10_ok 46 rfl) glM_ask_nul glM_ask rm M' o' em (fun RV qa qu qk H locs hKQ hH => ?_)
  have hH := hH.perm (cat_swap _ _ _)
  refine lv_pop hx hb (zat zrL_law_10_ok 47 rfl) rfl ?_
  refine lv_goto (tgt := 1953) hx hb (zat zrL_law_10_ok 48 rfl) (by decide) ?_
  exact W.widen (by omega) (by omega) (kk H locs ⟨A, U, C, na, nu, nk, X', B, E, M', o', RV, qa, qu, qk, cO, fO, rfl, rfl, hKX, hKM, hKQ, hKO, hR', hH⟩ ls hl)
set_option maxHeartbeats 1000000 in
set_option maxRecDepth 20000 in
theorem lc_26 {p : Program} {l : Launch} {e : Env} {s : State} {m : MethodId} {below : List Frame} {meth : Method} {c : Code} {b L : Nat} {xs : Nat → Int32} {H : Heap} {locs : List Loc} {cells slots : Nat} {Q : State → Prop} {dC : Nat → ClassId} {dI : Nat → Nat → Nat} (C0 : LW p l s m meth c b L xs) (hL : L ≤ 3072) {n : Nat} (hn : n + 6 ≤ L) {h0 g0 q9 : Nat} (hI : LI (dC, dI) s h0 g0 q9 H locs) (hcs : cells ≤ 400000 ∧ slots ≤ 6000000) (ls : Array Slot) (hl : lv_has ls 7 [(4, .int (nI n)), (3, .ref q9), (2, .ref g0), (1, .ref h0), (0, .ref b)])
    (kk : ∀ (H : Heap) (locs : List Loc), LI (dC, dI) s h0 g0 q9 H locs → ∀ ls : Array Slot, lv_has ls 7 [(4, .int (nI n)), (3, .ref q9), (2, .ref g0), (1, .ref h0), (0, .ref b)] → W p l e room_1 s m #[Value.ref b] below meth c H locs (cells + 50) (slots + 300) Q (F0 m 1953 ls [])) : W p l e room_1 s m #[Value.ref b] below meth c H locs cells slots Q (F0 m 1198 ls []) := by
  obtain ⟨⟨hx, hb, -⟩, -⟩ := id C0
  have hb : c.code = cL_law := hb
  obtain ⟨A, U, C, na, nu, nk, X, B, E, M, o, RV, qa, qu, qk, cO, fO, rfl, rfl, hKX, hKM, hKQ, hKO, hR, hH⟩ := hI
  have hc5 : cells ≤ 500000 ∧ slots ≤ 7000000 := ⟨by omega, by omega⟩
  obtain ⟨rx, X', rm, M', o', ex, em, hR', he⟩ := st_askLeaves  hR
  refine lv_aload_n hx hb (zat zrL_law_10_ok 49 rfl) rfl (lv_at hl 3 rfl) ?_
  refine cx_askLeaves C0 hKX hH hl.1 (Nat.le_of_ble_eq_true rfl) hc5 (zat zrL_law_10_ok 50 rfl) glX_askLeaves rx X' ex (fun H locs hH => ?_)
  refine lv_pop hx hb (zat zrL_law_10_ok 51 rfl) rfl ?_
  have hH := hH.perm (cat_swap _ _ _)
  refine lv_aload_n hx hb (zat zrL_law_10_ok 52 rfl) rfl (lv_at hl 2 rfl) ?_
  refine cn_askLeaves C0 hKM hKQ hH hl.1 (Nat.le_of_ble_eq_true rfl) hc5 (zat zrL_law_10_ok 53 rfl) glM_askLeaves_nul glM_askLeaves rm M' o' em (fun RV qa qu qk H locs hKQ hH => ?_)
  have hH := hH.perm (cat_swap _ _ _)
  refine lv_pop hx hb (zat zrL_law_10_ok 54 rfl) rfl ?_
  refine lv_goto (tgt := 1953) hx hb (zat zrL_law_10_ok 55 rfl) (by decide) ?_
  exact W.widen (by omega) (by omega) (kk H locs ⟨A, U, C, na, nu, nk, X', B, E, M', o', RV, qa, qu, qk, cO, fO, rfl, rfl, hKX, hKM, hKQ, hKO, hR', hH⟩ ls hl)
set_option maxHeartbeats 1000000 in
set_option maxRecDepth 20000 in
theorem lc_27 {p : Program} {l : Launch} {e : Env} {s : State} {m : MethodId} {below : List Frame} {meth : Method} {c : Code} {b L : Nat} {xs : Nat → Int32} {H : Heap} {locs : List Loc} {cells slots : Nat} {Q : State → Prop} {dC : Nat → ClassId} {dI : Nat → Nat → Nat} (C0 : LW p l s m meth c b L xs) (hL : L ≤ 3072) {n : Nat} (hn : n + 6 ≤ L) {h0 g0 q9 : Nat} (hI : LI (dC, dI) s h0 g0 q9 H locs) (hcs : cells ≤ 400000 ∧ slots ≤ 6000000) (ls : Array Slot) (hl : lv_has ls 7 [(4, .int (nI n)), (3, .ref q9), (2, .ref g0), (1, .ref h0), (0, .ref b)])
    (kk : ∀ (H : Heap) (locs : List Loc), LI (dC, dI) s h0 g0 q9 H locs → ∀ ls : Array Slot, lv_has ls 7 [(4, .int (nI n)), (3, .ref q9), (2, .ref g0), (1, .ref h0), (0, .ref b)] → W p l e room_1 s m #[Value.ref b] below meth c H locs (cells + 50) (slots + 300) Q (F0 m 1953 ls [])) : W p l e room_1 s m #[Value.ref b] below meth c H locs cells slots Q (F0 m 1211 ls []) := by
  obtain ⟨⟨hx, hb, -⟩, -⟩ := id C0
  have hb : c.code = cL_law := hb
  obtain ⟨A, U, C, na, nu, nk, X, B, E, M, o, RV, qa, qu, qk, cO, fO, rfl, rfl, hKX, hKM, hKQ, hKO, hR, hH⟩ := hI
  have hc5 : cells ≤ 500000 ∧ slots ≤ 7000000 := ⟨by omega, by omega⟩
  obtain ⟨rx, X', rm, M', o', ex, em, hR', he⟩ := st_judge (k1 := xs (n + 1)) hR
  refine lv_aload_n hx hb (zat zrL_law_10_ok 56 rfl) rfl (lv_at hl 3 rfl) ?_
  refine ld_a C0 hH.2.2 (lv_at hl 4 rfl) (lv_at hl 0 rfl) (show n + 1 < L by omega) hL rfl (zat zrL_law_10_ok 57 rfl) (zat zrL_law_10_ok 58 rfl) (zat zrL_law_10_ok 59 rfl) (zat zrL_law_10_ok 60 rfl) (zat zrL_law_10_ok 61 rfl) ?_
  refine cx_judge C0 hKX hH hl.1 (Nat.le_of_ble_eq_true rfl) hc5 (zat zrL_law_10_ok 62 rfl) glX_judge rx X' ex (fun H locs hH => ?_)
  refine lv_pop hx hb (zat zrL_law_10_ok 63 rfl) rfl ?_
  have hH := hH.perm (cat_swap _ _ _)
  refine lv_aload_n hx hb (zat zrL_law_11_ok 0 rfl) rfl (lv_at hl 2 rfl) ?_
  refine ld_a C0 hH.2.2 (lv_at hl 4 rfl) (lv_at hl 0 rfl) (show n + 1 < L by omega) hL rfl (zat zrL_law_11_ok 1 rfl) (zat zrL_law_11_ok 2 rfl) (zat zrL_law_11_ok 3 rfl) (zat zrL_law_11_ok 4 rfl) (zat zrL_law_11_ok 5 rfl) ?_
  refine cn_judge C0 hKM hKQ hH hl.1 (Nat.le_of_ble_eq_true rfl) hc5 (zat zrL_law_11_ok 6 rfl) glM_judge_nul glM_judge rm M' o' em (fun RV qa qu qk H locs hKQ hH => ?_)
  have hH := hH.perm (cat_swap _ _ _)
  refine lv_pop hx hb (zat zrL_law_11_ok 7 rfl) rfl ?_
  refine lv_goto (tgt := 1953) hx hb (zat zrL_law_11_ok 8 rfl) (by decide) ?_
  exact W.widen (by omega) (by omega) (kk H locs ⟨A, U, C, na, nu, nk, X', B, E, M', o', RV, qa, qu, qk, cO, fO, rfl, rfl, hKX, hKM, hKQ, hKO, hR', hH⟩ ls hl)
set_option maxHeartbeats 1000000 in
set_option maxRecDepth 20000 in
theorem lc_28 {p : Program} {l : Launch} {e : Env} {s : State} {m : MethodId} {below : List Frame} {meth : Method} {c : Code} {b L : Nat} {xs : Nat → Int32} {H : Heap} {locs : List Loc} {cells slots : Nat} {Q : State → Prop} {dC : Nat → ClassId} {dI : Nat → Nat → Nat} (C0 : LW p l s m meth c b L xs) (hL : L ≤ 3072) {n : Nat} (hn : n + 6 ≤ L) {h0 g0 q9 : Nat} (hI : LI (dC, dI) s h0 g0 q9 H locs) (hcs : cells ≤ 400000 ∧ slots ≤ 6000000) (ls : Array Slot) (hl : lv_has ls 7 [(4, .int (nI n)), (3, .ref q9), (2, .ref g0), (1, .ref h0), (0, .ref b)])
    (kk : ∀ (H : Heap) (locs : List Loc), LI (dC, dI) s h0 g0 q9 H locs → ∀ ls : Array Slot, lv_has ls 7 [(4, .int (nI n)), (3, .ref q9), (2, .ref g0), (1, .ref h0), (0, .ref b)] → W p l e room_1 s m #[Value.ref b] below meth c H locs (cells + 50) (slots + 300) Q (F0 m 1953 ls [])) : W p l e room_1 s m #[Value.ref b] below meth c H locs cells slots Q (F0 m 1236 ls []) := by
  obtain ⟨⟨hx, hb, -⟩, -⟩ := id C0
  have hb : c.code = cL_law := hb
  obtain ⟨A, U, C, na, nu, nk, X, B, E, M, o, RV, qa, qu, qk, cO, fO, rfl, rfl, hKX, hKM, hKQ, hKO, hR, hH⟩ := hI
  have hc5 : cells ≤ 500000 ∧ slots ≤ 7000000 := ⟨by omega, by omega⟩
  obtain ⟨rx, X', rm, M', o', ex, em, hR', he⟩ := st_worth (k1 := xs (n + 1)) (k2 := xs (n + 2)) (k3 := xs (n + 3)) hR
  refine lv_aload_n hx hb (zat zrL_law_11_ok 9 rfl) rfl (lv_at hl 3 rfl) ?_
  refine ld_a C0 hH.2.2 (lv_at hl 4 rfl) (lv_at hl 0 rfl) (show n + 1 < L by omega) hL rfl (zat zrL_law_11_ok 10 rfl) (zat zrL_law_11_ok 11 rfl) (zat zrL_law_11_ok 12 rfl) (zat zrL_law_11_ok 13 rfl) (zat zrL_law_11_ok 14 rfl) ?_
  refine ld_a C0 hH.2.2 (lv_at hl 4 rfl) (lv_at hl 0 rfl) (show n + 2 < L by omega) hL rfl (zat zrL_law_11_ok 15 rfl) (zat zrL_law_11_ok 16 rfl) (zat zrL_law_11_ok 17 rfl) (zat zrL_law_11_ok 18 rfl) (zat zrL_law_11_ok 19 rfl) ?_
  refine ld_a C0 hH.2.2 (lv_at hl 4 rfl) (lv_at hl 0 rfl) (show n + 3 < L by omega) hL rfl (zat zrL_law_11_ok 20 rfl) (zat zrL_law_11_ok 21 rfl) (zat zrL_law_11_ok 22 rfl) (zat zrL_law_11_ok 23 rfl) (zat zrL_law_11_ok 24 rfl) ?_
  refine cx_worth C0 hKX hH hl.1 (Nat.le_of_ble_eq_true rfl) hc5 (zat zrL_law_11_ok 25 rfl) glX_worth rx X' ex (fun H locs hH => ?_)
  refine lv_pop hx hb (zat zrL_law_11_ok 26 rfl) rfl ?_
  have hH := hH.perm (cat_swap _ _ _)
  refine lv_aload_n hx hb (zat zrL_law_11_ok 27 rfl) rfl (lv_at hl 2 rfl) ?_
  refine ld_a C0 hH.2.2 (lv_at hl 4 rfl) (lv_at hl 0 rfl) (show n + 1 < L by omega) hL rfl (zat zrL_law_11_ok 28 rfl) (zat zrL_law_11_ok 29 rfl) (zat zrL_law_11_ok 30 rfl) (zat zrL_law_11_ok 31 rfl) (zat zrL_law_11_ok 32 rfl) ?_
  refine ld_a C0 hH.2.2 (lv_at hl 4 rfl) (lv_at hl 0 rfl) (show n + 2 < L by omega) hL rfl (zat zrL_law_11_ok 33 rfl) (zat zrL_law_11_ok 34 rfl) (zat zrL_law_11_ok 35 rfl) (zat zrL_law_11_ok 36 rfl) (zat zrL_law_11_ok 37 rfl) ?_
  refine ld_a C0 hH.2.2 (lv_at hl 4 rfl) (lv_at hl 0 rfl) (show n + 3 < L by omega) hL rfl (zat zrL_law_11_ok 38 rfl) (zat zrL_law_11_ok 39 rfl) (zat zrL_law_11_ok 40 rfl) (zat zrL_law_11_ok 41 rfl) (zat zrL_law_11_ok 42 rfl) ?_
  refine cn_worth C0 hKM hKQ hH hl.1 (Nat.le_of_ble_eq_true rfl) hc5 (zat zrL_law_11_ok 43 rfl) glM_worth_nul glM_worth rm M' o' em (fun RV qa qu qk H locs hKQ hH => ?_)
  have hH := hH.perm (cat_swap _ _ _)
  refine lv_pop hx hb (zat zrL_law_11_ok 44 rfl) rfl ?_
  refine lv_goto (tgt := 1953) hx hb (zat zrL_law_11_ok 45 rfl) (by decide) ?_
  exact W.widen (by omega) (by omega) (kk H locs ⟨A, U, C, na, nu, nk, X', B, E, M', o', RV, qa, qu, qk, cO, fO, rfl, rfl, hKX, hKM, hKQ, hKO, hR', hH⟩ ls hl)
set_option maxHeartbeats 1000000 in
set_option maxRecDepth 20000 in
theorem lc_29 {p : Program} {l : Launch} {e : Env} {s : State} {m : MethodId} {below : List Frame} {meth : Method} {c : Code} {b L : Nat} {xs : Nat → Int32} {H : Heap} {locs : List Loc} {cells slots : Nat} {Q : State → Prop} {dC : Nat → ClassId} {dI : Nat → Nat → Nat} (C0 : LW p l s m meth c b L xs) (hL : L ≤ 3072) {n : Nat} (hn : n + 6 ≤ L) {h0 g0 q9 : Nat} (hI : LI (dC, dI) s h0 g0 q9 H locs) (hcs : cells ≤ 400000 ∧ slots ≤ 6000000) (ls : Array Slot) (hl : lv_has ls 7 [(4, .int (nI n)), (3, .ref q9), (2, .ref g0), (1, .ref h0), (0, .ref b)])
    (kk : ∀ (H : Heap) (locs : List Loc), LI (dC, dI) s h0 g0 q9 H locs → ∀ ls : Array Slot, lv_has ls 7 [(4, .int (nI n)), (3, .ref q9), (2, .ref g0), (1, .ref h0), (0, .ref b)] → W p l e room_1 s m #[Value.ref b] below meth c H locs (cells + 50) (slots + 300) Q (F0 m 1953 ls [])) : W p l e room_1 s m #[Value.ref b] below meth c H locs cells slots Q (F0 m 1285 ls []) := by
  obtain ⟨⟨hx, hb, -⟩, -⟩ := id C0
  have hb : c.code = cL_law := hb
  obtain ⟨A, U, C, na, nu, nk, X, B, E, M, o, RV, qa, qu, qk, cO, fO, rfl, rfl, hKX, hKM, hKQ, hKO, hR, hH⟩ := hI
  have hc5 : cells ≤ 500000 ∧ slots ≤ 7000000 := ⟨by omega, by omega⟩
  obtain ⟨rx, X', rm, M', o', ex, em, hR', he⟩ := st_load (k1 := xs (n + 1)) hR
  refine lv_aload_n hx hb (zat zrL_law_11_ok 46 rfl) rfl (lv_at hl 3 rfl) ?_
  refine ld_a C0 hH.2.2 (lv_at hl 4 rfl) (lv_at hl 0 rfl) (show n + 1 < L by omega) hL rfl (zat zrL_law_11_ok 47 rfl) (zat zrL_law_11_ok 48 rfl) (zat zrL_law_11_ok 49 rfl) (zat zrL_law_11_ok 50 rfl) (zat zrL_law_11_ok 51 rfl) ?_
  refine cx_load C0 hKX hH hl.1 (Nat.le_of_ble_eq_true rfl) hc5 (zat zrL_law_11_ok 52 rfl) glX_load rx X' ex (fun H locs hH => ?_)
  refine lv_pop hx hb (zat zrL_law_11_ok 53 rfl) rfl ?_
  have hH := hH.perm (cat_swap _ _ _)
  refine lv_aload_n hx hb (zat zrL_law_11_ok 54 rfl) rfl (lv_at hl 2 rfl) ?_
  refine ld_a C0 hH.2.2 (lv_at hl 4 rfl) (lv_at hl 0 rfl) (show n + 1 < L by omega) hL rfl (zat zrL_law_11_ok 55 rfl) (zat zrL_law_11_ok 56 rfl) (zat zrL_law_11_ok 57 rfl) (zat zrL_law_11_ok 58 rfl) (zat zrL_law_11_ok 59 rfl) ?_
  refine cn_load C0 hKM hKQ hH hl.1 (Nat.le_of_ble_eq_true rfl) hc5 (zat zrL_law_11_ok 60 rfl) glM_load_nul glM_load rm M' o' em (fun RV qa qu qk H locs hKQ hH => ?_)
  have hH := hH.perm (cat_swap _ _ _)
  refine lv_pop hx hb (zat zrL_law_11_ok 61 rfl) rfl ?_
  refine lv_goto (tgt := 1953) hx hb (zat zrL_law_11_ok 62 rfl) (by decide) ?_
  exact W.widen (by omega) (by omega) (kk H locs ⟨A, U, C, na, nu, nk, X', B, E, M', o', RV, qa, qu, qk, cO, fO, rfl, rfl, hKX, hKM, hKQ, hKO, hR', hH⟩ ls hl)
set_option maxHeartbeats 1000000 in
set_option maxRecDepth 20000 in
theorem lc_30 {p : Program} {l : Launch} {e : Env} {s : State} {m : MethodId} {below : List Frame} {meth : Method} {c : Code} {b L : Nat} {xs : Nat → Int32} {H : Heap} {locs : List Loc} {cells slots : Nat} {Q : State → Prop} {dC : Nat → ClassId} {dI : Nat → Nat → Nat} (C0 : LW p l s m meth c b L xs) (hL : L ≤ 3072) {n : Nat} (hn : n + 6 ≤ L) {h0 g0 q9 : Nat} (hI : LI (dC, dI) s h0 g0 q9 H locs) (hcs : cells ≤ 400000 ∧ slots ≤ 6000000) (ls : Array Slot) (hl : lv_has ls 7 [(4, .int (nI n)), (3, .ref q9), (2, .ref g0), (1, .ref h0), (0, .ref b)])
    (kk : ∀ (H : Heap) (locs : List Loc), LI (dC, dI) s h0 g0 q9 H locs → ∀ ls : Array Slot, lv_has ls 7 [(4, .int (nI n)), (3, .ref q9), (2, .ref g0), (1, .ref h0), (0, .ref b)] → W p l e room_1 s m #[Value.ref b] below meth c H locs (cells + 50) (slots + 300) Q (F0 m 1953 ls [])) : W p l e room_1 s m #[Value.ref b] below meth c H locs cells slots Q (F0 m 1310 ls []) := by
  obtain ⟨⟨hx, hb, -⟩, -⟩ := id C0
  have hb : c.code = cL_law := hb
  obtain ⟨A, U, C, na, nu, nk, X, B, E, M, o, RV, qa, qu, qk, cO, fO, rfl, rfl, hKX, hKM, hKQ, hKO, hR, hH⟩ := hI
  have hc5 : cells ≤ 500000 ∧ slots ≤ 7000000 := ⟨by omega, by omega⟩
  obtain ⟨rx, X', rm, M', o', ex, em, hR', he⟩ := st_loadWorth (k1 := xs (n + 1)) hR
  refine lv_aload_n hx hb (zat zrL_law_11_ok 63 rfl) rfl (lv_at hl 3 rfl) ?_
  refine ld_a C0 hH.2.2 (lv_at hl 4 rfl) (lv_at hl 0 rfl) (show n + 1 < L by omega) hL rfl (zat zrL_law_12_ok 0 rfl) (zat zrL_law_12_ok 1 rfl) (zat zrL_law_12_ok 2 rfl) (zat zrL_law_12_ok 3 rfl) (zat zrL_law_12_ok 4 rfl) ?_
  refine cx_loadWorth C0 hKX hH hl.1 (Nat.le_of_ble_eq_true rfl) hc5 (zat zrL_law_12_ok 5 rfl) glX_loadWorth rx X' ex (fun H locs hH => ?_)
  refine lv_pop hx hb (zat zrL_law_12_ok 6 rfl) rfl ?_
  have hH := hH.perm (cat_swap _ _ _)
  refine lv_aload_n hx hb (zat zrL_law_12_ok 7 rfl) rfl (lv_at hl 2 rfl) ?_
  refine ld_a C0 hH.2.2 (lv_at hl 4 rfl) (lv_at hl 0 rfl) (show n + 1 < L by omega) hL rfl (zat zrL_law_12_ok 8 rfl) (zat zrL_law_12_ok 9 rfl) (zat zrL_law_12_ok 10 rfl) (zat zrL_law_12_ok 11 rfl) (zat zrL_law_12_ok 12 rfl) ?_
  refine cn_loadWorth C0 hKM hKQ hH hl.1 (Nat.le_of_ble_eq_true rfl) hc5 (zat zrL_law_12_ok 13 rfl) glM_loadWorth_nul glM_loadWorth rm M' o' em (fun RV qa qu qk H locs hKQ hH => ?_)
  have hH := hH.perm (cat_swap _ _ _)
  refine lv_pop hx hb (zat zrL_law_12_ok 14 rfl) rfl ?_
  refine lv_goto (tgt := 1953) hx hb (zat zrL_law_12_ok 15 rfl) (by decide) ?_
  exact W.widen (by omega) (by omega) (kk H locs ⟨A, U, C, na, nu, nk, X', B, E, M', o', RV, qa, qu, qk, cO, fO, rfl, rfl, hKX, hKM, hKQ, hKO, hR', hH⟩ ls hl)
set_option maxHeartbeats 1000000 in
set_option maxRecDepth 20000 in
theorem lc_31 {p : Program} {l : Launch} {e : Env} {s : State} {m : MethodId} {below : List Frame} {meth : Method} {c : Code} {b L : Nat} {xs : Nat → Int32} {H : Heap} {locs : List Loc} {cells slots : Nat} {Q : State → Prop} {dC : Nat → ClassId} {dI : Nat → Nat → Nat} (C0 : LW p l s m meth c b L xs) (hL : L ≤ 3072) {n : Nat} (hn : n + 6 ≤ L) {h0 g0 q9 : Nat} (hI : LI (dC, dI) s h0 g0 q9 H locs) (hcs : cells ≤ 400000 ∧ slots ≤ 6000000) (ls : Array Slot) (hl : lv_has ls 7 [(4, .int (nI n)), (3, .ref q9), (2, .ref g0), (1, .ref h0), (0, .ref b)])
    (kk : ∀ (H : Heap) (locs : List Loc), LI (dC, dI) s h0 g0 q9 H locs → ∀ ls : Array Slot, lv_has ls 7 [(4, .int (nI n)), (3, .ref q9), (2, .ref g0), (1, .ref h0), (0, .ref b)] → W p l e room_1 s m #[Value.ref b] below meth c H locs (cells + 50) (slots + 300) Q (F0 m 1953 ls [])) : W p l e room_1 s m #[Value.ref b] below meth c H locs cells slots Q (F0 m 1335 ls []) := by
  obtain ⟨⟨hx, hb, -⟩, -⟩ := id C0
  have hb : c.code = cL_law := hb
  obtain ⟨A, U, C, na, nu, nk, X, B, E, M, o, RV, qa, qu, qk, cO, fO, rfl, rfl, hKX, hKM, hKQ, hKO, hR, hH⟩ := hI
  have hc5 : cells ≤ 500000 ∧ slots ≤ 7000000 := ⟨by omega, by omega⟩
  obtain ⟨rx, X', rm, M', o', ex, em, hR', he⟩ := st_bestDay  hR
  refine lv_aload_n hx hb (zat zrL_law_12_ok 16 rfl) rfl (lv_at hl 3 rfl) ?_
  refine cx_bestDay C0 hKX hH hl.1 (Nat.le_of_ble_eq_true rfl) hc5 (zat zrL_law_12_ok 17 rfl) glX_bestDay rx X' ex (fun H locs hH => ?_)
  refine lv_pop hx hb (zat zrL_law_12_ok 18 rfl) rfl ?_
  have hH := hH.perm (cat_swap _ _ _)
  refine lv_aload_n hx hb (zat zrL_law_12_ok 19 rfl) rfl (lv_at hl 2 rfl) ?_
  refine cn_bestDay C0 hKM hKQ hH hl.1 (Nat.le_of_ble_eq_true rfl) hc5 (zat zrL_law_12_ok 20 rfl) glM_bestDay_nul glM_bestDay rm M' o' em (fun RV qa qu qk H locs hKQ hH => ?_)
  have hH := hH.perm (cat_swap _ _ _)
  refine lv_pop hx hb (zat zrL_law_12_ok 21 rfl) rfl ?_
  refine lv_goto (tgt := 1953) hx hb (zat zrL_law_12_ok 22 rfl) (by decide) ?_
  exact W.widen (by omega) (by omega) (kk H locs ⟨A, U, C, na, nu, nk, X', B, E, M', o', RV, qa, qu, qk, cO, fO, rfl, rfl, hKX, hKM, hKQ, hKO, hR', hH⟩ ls hl)
set_option maxHeartbeats 1000000 in
set_option maxRecDepth 20000 in
theorem lc_32 {p : Program} {l : Launch} {e : Env} {s : State} {m : MethodId} {below : List Frame} {meth : Method} {c : Code} {b L : Nat} {xs : Nat → Int32} {H : Heap} {locs : List Loc} {cells slots : Nat} {Q : State → Prop} {dC : Nat → ClassId} {dI : Nat → Nat → Nat} (C0 : LW p l s m meth c b L xs) (hL : L ≤ 3072) {n : Nat} (hn : n + 6 ≤ L) {h0 g0 q9 : Nat} (hI : LI (dC, dI) s h0 g0 q9 H locs) (hcs : cells ≤ 400000 ∧ slots ≤ 6000000) (ls : Array Slot) (hl : lv_has ls 7 [(4, .int (nI n)), (3, .ref q9), (2, .ref g0), (1, .ref h0), (0, .ref b)])
    (kk : ∀ (H : Heap) (locs : List Loc), LI (dC, dI) s h0 g0 q9 H locs → ∀ ls : Array Slot, lv_has ls 7 [(4, .int (nI n)), (3, .ref q9), (2, .ref g0), (1, .ref h0), (0, .ref b)] → W p l e room_1 s m #[Value.ref b] below meth c H locs (cells + 50) (slots + 300) Q (F0 m 1953 ls [])) : W p l e room_1 s m #[Value.ref b] below meth c H locs cells slots Q (F0 m 1348 ls []) := by
  obtain ⟨⟨hx, hb, -⟩, -⟩ := id C0
  have hb : c.code = cL_law := hb
  obtain ⟨A, U, C, na, nu, nk, X, B, E, M, o, RV, qa, qu, qk, cO, fO, rfl, rfl, hKX, hKM, hKQ, hKO, hR, hH⟩ := hI
  have hc5 : cells ≤ 500000 ∧ slots ≤ 7000000 := ⟨by omega, by omega⟩
  obtain ⟨rx, X', rm, M', o', ex, em, hR', he⟩ := st_hooks (k1 := xs (n + 1)) (k2 := xs (n + 2)) (k3 := xs (n + 3)) (k4 := xs (n + 4)) (k5 := bo (xs (n + 5))) hR
  refine lv_aload_n hx hb (zat zrL_law_12_ok 23 rfl) rfl (lv_at hl 3 rfl) ?_
  refine ld_a C0 hH.2.2 (lv_at hl 4 rfl) (lv_at hl 0 rfl) (show n + 1 < L by omega) hL rfl (zat zrL_law_12_ok 24 rfl) (zat zrL_law_12_ok 25 rfl) (zat zrL_law_12_ok 26 rfl) (zat zrL_law_12_ok 27 rfl) (zat zrL_law_12_ok 28 rfl) ?_
  refine ld_a C0 hH.2.2 (lv_at hl 4 rfl) (lv_at hl 0 rfl) (show n + 2 < L by omega) hL rfl (zat zrL_law_12_ok 29 rfl) (zat zrL_law_12_ok 30 rfl) (zat zrL_law_12_ok 31 rfl) (zat zrL_law_12_ok 32 rfl) (zat zrL_law_12_ok 33 rfl) ?_
  refine ld_a C0 hH.2.2 (lv_at hl 4 rfl) (lv_at hl 0 rfl) (show n + 3 < L by omega) hL rfl (zat zrL_law_12_ok 34 rfl) (zat zrL_law_12_ok 35 rfl) (zat zrL_law_12_ok 36 rfl) (zat zrL_law_12_ok 37 rfl) (zat zrL_law_12_ok 38 rfl) ?_
  refine ld_a C0 hH.2.2 (lv_at hl 4 rfl) (lv_at hl 0 rfl) (show n + 4 < L by omega) hL rfl (zat zrL_law_12_ok 39 rfl) (zat zrL_law_12_ok 40 rfl) (zat zrL_law_12_ok 41 rfl) (zat zrL_law_12_ok 42 rfl) (zat zrL_law_12_ok 43 rfl) ?_
  refine ld_b C0 hH.2.2 (lv_at hl 4 rfl) (lv_at hl 0 rfl) (show n + 5 < L by omega) hL rfl (zat zrL_law_12_ok 44 rfl) (zat zrL_law_12_ok 45 rfl) (zat zrL_law_12_ok 46 rfl) (zat zrL_law_12_ok 47 rfl) (zat zrL_law_12_ok 48 rfl) (zat zrL_law_12_ok 49 rfl) (zat zrL_law_12_ok 50 rfl) (zat zrL_law_12_ok 51 rfl) (zat zrL_law_12_ok 52 rfl) ?_
  refine cx_hooks C0 hKX hH hl.1 (Nat.le_of_ble_eq_true rfl) hc5 (zat zrL_law_12_ok 53 rfl) glX_hooks rx X' ex (fun H locs hH => ?_)
  refine lv_pop hx hb (zat zrL_law_12_ok 54 rfl) rfl ?_
  have hH := hH.perm (cat_swap _ _ _)
  refine lv_aload_n hx hb (zat zrL_law_12_ok 55 rfl) rfl (lv_at hl 2 rfl) ?_
  refine ld_a C0 hH.2.2 (lv_at hl 4 rfl) (lv_at hl 0 rfl) (show n + 1 < L by omega) hL rfl (zat zrL_law_12_ok 56 rfl) (zat zrL_law_12_ok 57 rfl) (zat zrL_law_12_ok 58 rfl) (zat zrL_law_12_ok 59 rfl) (zat zrL_law_12_ok 60 rfl) ?_
  refine ld_a C0 hH.2.2 (lv_at hl 4 rfl) (lv_at hl 0 rfl) (show n + 2 < L by omega) hL rfl (zat zrL_law_12_ok 61 rfl) (zat zrL_law_12_ok 62 rfl) (zat zrL_law_12_ok 63 rfl) (zat zrL_law_13_ok 0 rfl) (zat zrL_law_13_ok 1 rfl) ?_
  refine ld_a C0 hH.2.2 (lv_at hl 4 rfl) (lv_at hl 0 rfl) (show n + 3 < L by omega) hL rfl (zat zrL_law_13_ok 2 rfl) (zat zrL_law_13_ok 3 rfl) (zat zrL_law_13_ok 4 rfl) (zat zrL_law_13_ok 5 rfl) (zat zrL_law_13_ok 6 rfl) ?_
  refine ld_a C0 hH.2.2 (lv_at hl 4 rfl) (lv_at hl 0 rfl) (show n + 4 < L by omega) hL rfl (zat zrL_law_13_ok 7 rfl) (zat zrL_law_13_ok 8 rfl) (zat zrL_law_13_ok 9 rfl) (zat zrL_law_13_ok 10 rfl) (zat zrL_law_13_ok 11 rfl) ?_
  refine ld_b C0 hH.2.2 (lv_at hl 4 rfl) (lv_at hl 0 rfl) (show n + 5 < L by omega) hL rfl (zat zrL_law_13_ok 12 rfl) (zat zrL_law_13_ok 13 rfl) (zat zrL_law_13_ok 14 rfl) (zat zrL_law_13_ok 15 rfl) (zat zrL_law_13_ok 16 rfl) (zat zrL_law_13_ok 17 rfl) (zat zrL_law_13_ok 18 rfl) (zat zrL_law_13_ok 19 rfl) (zat zrL_law_13_ok 20 rfl) ?_
  refine cn_hooks C0 hKM hKQ hH hl.1 (Nat.le_of_ble_eq_true rfl) hc5 (zat zrL_law_13_ok 21 rfl) glM_hooks_nul glM_hooks rm M' o' em (fun RV qa qu qk H locs hKQ hH => ?_)
  have hH := hH.perm (cat_swap _ _ _)
  refine lv_pop hx hb (zat zrL_law_13_ok 22 rfl) rfl ?_
  refine lv_goto (tgt := 1953) hx hb (zat zrL_law_13_ok 23 rfl) (by decide) ?_
  exact W.widen (by omega) (by omega) (kk H locs ⟨A, U, C, na, nu, nk, X', B, E, M', o', RV, qa, qu, qk, cO, fO, rfl, rfl, hKX, hKM, hKQ, hKO, hR', hH⟩ ls hl)
set_option maxHeartbeats 1000000 in
set_option maxRecDepth 20000 in
theorem lc_33 {p : Program} {l : Launch} {e : Env} {s : State} {m : MethodId} {below : List Frame} {meth : Method} {c : Code} {b L : Nat} {xs : Nat → Int32} {H : Heap} {locs : List Loc} {cells slots : Nat} {Q : State → Prop} {dC : Nat → ClassId} {dI : Nat → Nat → Nat} (C0 : LW p l s m meth c b L xs) (hL : L ≤ 3072) {n : Nat} (hn : n + 6 ≤ L) {h0 g0 q9 : Nat} (hI : LI (dC, dI) s h0 g0 q9 H locs) (hcs : cells ≤ 400000 ∧ slots ≤ 6000000) (ls : Array Slot) (hl : lv_has ls 7 [(4, .int (nI n)), (3, .ref q9), (2, .ref g0), (1, .ref h0), (0, .ref b)])
    (kk : ∀ (H : Heap) (locs : List Loc), LI (dC, dI) s h0 g0 q9 H locs → ∀ ls : Array Slot, lv_has ls 7 [(4, .int (nI n)), (3, .ref q9), (2, .ref g0), (1, .ref h0), (0, .ref b)] → W p l e room_1 s m #[Value.ref b] below meth c H locs (cells + 50) (slots + 300) Q (F0 m 1953 ls [])) : W p l e room_1 s m #[Value.ref b] below meth c H locs cells slots Q (F0 m 1437 ls []) := by
  obtain ⟨⟨hx, hb, -⟩, -⟩ := id C0
  have hb : c.code = cL_law := hb
  obtain ⟨A, U, C, na, nu, nk, X, B, E, M, o, RV, qa, qu, qk, cO, fO, rfl, rfl, hKX, hKM, hKQ, hKO, hR, hH⟩ := hI
  have hc5 : cells ≤ 500000 ∧ slots ≤ 7000000 := ⟨by omega, by omega⟩
  obtain ⟨rx, X', rm, M', o', ex, em, hR', he⟩ := st_lines (k1 := xs (n + 1)) (k2 := xs (n + 2)) (k3 := xs (n + 3)) (k4 := bo (xs (n + 4))) hR
  refine lv_aload_n hx hb (zat zrL_law_13_ok 24 rfl) rfl (lv_at hl 3 rfl) ?_
  refine ld_a C0 hH.2.2 (lv_at hl 4 rfl) (lv_at hl 0 rfl) (show n + 1 < L by omega) hL rfl (zat zrL_law_13_ok 25 rfl) (zat zrL_law_13_ok 26 rfl) (zat zrL_law_13_ok 27 rfl) (zat zrL_law_13_ok 28 rfl) (zat zrL_law_13_ok 29 rfl) ?_
  refine ld_a C0 hH.2.2 (lv_at hl 4 rfl) (lv_at hl 0 rfl) (show n + 2 < L by omega) hL rfl (zat zrL_law_13_ok 30 rfl) (zat zrL_law_13_ok 31 rfl) (zat zrL_law_13_ok 32 rfl) (zat zrL_law_13_ok 33 rfl) (zat zrL_law_13_ok 34 rfl) ?_
  refine ld_a C0 hH.2.2 (lv_at hl 4 rfl) (lv_at hl 0 rfl) (show n + 3 < L by omega) hL rfl (zat zrL_law_13_ok 35 rfl) (zat zrL_law_13_ok 36 rfl) (zat zrL_law_13_ok 37 rfl) (zat zrL_law_13_ok 38 rfl) (zat zrL_law_13_ok 39 rfl) ?_
  refine ld_b C0 hH.2.2 (lv_at hl 4 rfl) (lv_at hl 0 rfl) (show n + 4 < L by omega) hL rfl (zat zrL_law_13_ok 40 rfl) (zat zrL_law_13_ok 41 rfl) (zat zrL_law_13_ok 42 rfl) (zat zrL_law_13_ok 43 rfl) (zat zrL_law_13_ok 44 rfl) (zat zrL_law_13_ok 45 rfl) (zat zrL_law_13_ok 46 rfl) (zat zrL_law_13_ok 47 rfl) (zat zrL_law_13_ok 48 rfl) ?_
  refine cx_lines C0 hKX hH hl.1 (Nat.le_of_ble_eq_true rfl) hc5 (zat zrL_law_13_ok 49 rfl) glX_lines rx X' ex (fun H locs hH => ?_)
  refine lv_pop hx hb (zat zrL_law_13_ok 50 rfl) rfl ?_
  have hH := hH.perm (cat_swap _ _ _)
  refine lv_aload_n hx hb (zat zrL_law_13_ok 51 rfl) rfl (lv_at hl 2 rfl) ?_
  refine ld_a C0 hH.2.2 (lv_at hl 4 rfl) (lv_at hl 0 rfl) (show n + 1 < L by omega) hL rfl (zat zrL_law_13_ok 52 rfl) (zat zrL_law_13_ok 53 rfl) (zat zrL_law_13_ok 54 rfl) (zat zrL_law_13_ok 55 rfl) (zat zrL_law_13_ok 56 rfl) ?_
  refine ld_a C0 hH.2.2 (lv_at hl 4 rfl) (lv_at hl 0 rfl) (show n + 2 < L by omega) hL rfl (zat zrL_law_13_ok 57 rfl) (zat zrL_law_13_ok 58 rfl) (zat zrL_law_13_ok 59 rfl) (zat zrL_law_13_ok 60 rfl) (zat zrL_law_13_ok 61 rfl) ?_
  refine ld_a C0 hH.2.2 (lv_at hl 4 rfl) (lv_at hl 0 rfl) (show n + 3 < L by omega) hL rfl (zat zrL_law_13_ok 62 rfl) (zat zrL_law_13_ok 63 rfl) (zat zrL_law_14_ok 0 rfl) (zat zrL_law_14_ok 1 rfl) (zat zrL_law_14_ok 2 rfl) ?_
  refine ld_b C0 hH.2.2 (lv_at hl 4 rfl) (lv_at hl 0 rfl) (show n + 4 < L by omega) hL rfl (zat zrL_law_14_ok 3 rfl) (zat zrL_law_14_ok 4 rfl) (zat zrL_law_14_ok 5 rfl) (zat zrL_law_14_ok 6 rfl) (zat zrL_law_14_ok 7 rfl) (zat zrL_law_14_ok 8 rfl) (zat zrL_law_14_ok 9 rfl) (zat zrL_law_14_ok 10 rfl) (zat zrL_law_14_ok 11 rfl) ?_
  refine cn_lines C0 hKM hKQ hH hl.1 (Nat.le_of_ble_eq_true rfl) hc5 (zat zrL_law_14_ok 12 rfl) glM_lines_nul glM_lines rm M' o' em (fun RV qa qu qk H locs hKQ hH => ?_)
  have hH := hH.perm (cat_swap _ _ _)
  refine lv_pop hx hb (zat zrL_law_14_ok 13 rfl) rfl ?_
  refine lv_goto (tgt := 1953) hx hb (zat zrL_law_14_ok 14 rfl) (by decide) ?_
  exact W.widen (by omega) (by omega) (kk H locs ⟨A, U, C, na, nu, nk, X', B, E, M', o', RV, qa, qu, qk, cO, fO, rfl, rfl, hKX, hKM, hKQ, hKO, hR', hH⟩ ls hl)
set_option maxHeartbeats 1000000 in
set_option maxRecDepth 20000 in
theorem lc_34 {p : Program} {l : Launch} {e : Env} {s : State} {m : MethodId} {below : List Frame} {meth : Method} {c : Code} {b L : Nat} {xs : Nat → Int32} {H : Heap} {locs : List Loc} {cells slots : Nat} {Q : State → Prop} {dC : Nat → ClassId} {dI : Nat → Nat → Nat} (C0 : LW p l s m meth c b L xs) (hL : L ≤ 3072) {n : Nat} (hn : n + 6 ≤ L) {h0 g0 q9 : Nat} (hI : LI (dC, dI) s h0 g0 q9 H locs) (hcs : cells ≤ 400000 ∧ slots ≤ 6000000) (ls : Array Slot) (hl : lv_has ls 7 [(4, .int (nI n)), (3, .ref q9), (2, .ref g0), (1, .ref h0), (0, .ref b)])
    (kk : ∀ (H : Heap) (locs : List Loc), LI (dC, dI) s h0 g0 q9 H locs → ∀ ls : Array Slot, lv_has ls 7 [(4, .int (nI n)), (3, .ref q9), (2, .ref g0), (1, .ref h0), (0, .ref b)] → W p l e room_1 s m #[Value.ref b] below meth c H locs (cells + 50) (slots + 300) Q (F0 m 1953 ls [])) : W p l e room_1 s m #[Value.ref b] below meth c H locs cells slots Q (F0 m 1514 ls []) := by
  obtain ⟨⟨hx, hb, -⟩, -⟩ := id C0
  have hb : c.code = cL_law := hb
  obtain ⟨A, U, C, na, nu, nk, X, B, E, M, o, RV, qa, qu, qk, cO, fO, rfl, rfl, hKX, hKM, hKQ, hKO, hR, hH⟩ := hI
  have hc5 : cells ≤ 500000 ∧ slots ≤ 7000000 := ⟨by omega, by omega⟩
  obtain ⟨rx, X', rm, M', o', ex, em, hR', he⟩ := st_rests (k1 := xs (n + 1)) hR
  refine lv_aload_n hx hb (zat zrL_law_14_ok 15 rfl) rfl (lv_at hl 3 rfl) ?_
  refine ld_a C0 hH.2.2 (lv_at hl 4 rfl) (lv_at hl 0 rfl) (show n + 1 < L by omega) hL rfl (zat zrL_law_14_ok 16 rfl) (zat zrL_law_14_ok 17 rfl) (zat zrL_law_14_ok 18 rfl) (zat zrL_law_14_ok 19 rfl) (zat zrL_law_14_ok 20 rfl) ?_
  refine cx_rests C0 hKX hH hl.1 (Nat.le_of_ble_eq_true rfl) hc5 (zat zrL_law_14_ok 21 rfl) glX_rests rx X' ex (fun H locs hH => ?_)
  refine lv_pop hx hb (zat zrL_law_14_ok 22 rfl) rfl ?_
  have hH := hH.perm (cat_swap _ _ _)
  refine lv_aload_n hx hb (zat zrL_law_14_ok 23 rfl) rfl (lv_at hl 2 rfl) ?_
  refine ld_a C0 hH.2.2 (lv_at hl 4 rfl) (lv_at hl 0 rfl) (show n + 1 < L by omega) hL rfl (zat zrL_law_14_ok 24 rfl) (zat zrL_law_14_ok 25 rfl) (zat zrL_law_14_ok 26 rfl) (zat zrL_law_14_ok 27 rfl) (zat zrL_law_14_ok 28 rfl) ?_
  refine cn_rests C0 hKM hKQ hH hl.1 (Nat.le_of_ble_eq_true rfl) hc5 (zat zrL_law_14_ok 29 rfl) glM_rests_nul glM_rests rm M' o' em (fun RV qa qu qk H locs hKQ hH => ?_)
  have hH := hH.perm (cat_swap _ _ _)
  refine lv_pop hx hb (zat zrL_law_14_ok 30 rfl) rfl ?_
  refine lv_goto (tgt := 1953) hx hb (zat zrL_law_14_ok 31 rfl) (by decide) ?_
  exact W.widen (by omega) (by omega) (kk H locs ⟨A, U, C, na, nu, nk, X', B, E, M', o', RV, qa, qu, qk, cO, fO, rfl, rfl, hKX, hKM, hKQ, hKO, hR', hH⟩ ls hl)
set_option maxHeartbeats 1000000 in
set_option maxRecDepth 20000 in
theorem lc_35 {p : Program} {l : Launch} {e : Env} {s : State} {m : MethodId} {below : List Frame} {meth : Method} {c : Code} {b L : Nat} {xs : Nat → Int32} {H : Heap} {locs : List Loc} {cells slots : Nat} {Q : State → Prop} {dC : Nat → ClassId} {dI : Nat → Nat → Nat} (C0 : LW p l s m meth c b L xs) (hL : L ≤ 3072) {n : Nat} (hn : n + 6 ≤ L) {h0 g0 q9 : Nat} (hI : LI (dC, dI) s h0 g0 q9 H locs) (hcs : cells ≤ 400000 ∧ slots ≤ 6000000) (ls : Array Slot) (hl : lv_has ls 7 [(4, .int (nI n)), (3, .ref q9), (2, .ref g0), (1, .ref h0), (0, .ref b)])
    (kk : ∀ (H : Heap) (locs : List Loc), LI (dC, dI) s h0 g0 q9 H locs → ∀ ls : Array Slot, lv_has ls 7 [(4, .int (nI n)), (3, .ref q9), (2, .ref g0), (1, .ref h0), (0, .ref b)] → W p l e room_1 s m #[Value.ref b] below meth c H locs (cells + 50) (slots + 300) Q (F0 m 1953 ls [])) : W p l e room_1 s m #[Value.ref b] below meth c H locs cells slots Q (F0 m 1539 ls []) := by
  obtain ⟨⟨hx, hb, -⟩, -⟩ := id C0
  have hb : c.code = cL_law := hb
  obtain ⟨A, U, C, na, nu, nk, X, B, E, M, o, RV, qa, qu, qk, cO, fO, rfl, rfl, hKX, hKM, hKQ, hKO, hR, hH⟩ := hI
  have hc5 : cells ≤ 500000 ∧ slots ≤ 7000000 := ⟨by omega, by omega⟩
  obtain ⟨rx, X', rm, M', o', ex, em, hR', he⟩ := st_rest (k1 := xs (n + 1)) hR
  refine lv_aload_n hx hb (zat zrL_law_14_ok 32 rfl) rfl (lv_at hl 3 rfl) ?_
  refine ld_a C0 hH.2.2 (lv_at hl 4 rfl) (lv_at hl 0 rfl) (show n + 1 < L by omega) hL rfl (zat zrL_law_14_ok 33 rfl) (zat zrL_law_14_ok 34 rfl) (zat zrL_law_14_ok 35 rfl) (zat zrL_law_14_ok 36 rfl) (zat zrL_law_14_ok 37 rfl) ?_
  refine cx_rest C0 hKX hH hl.1 (Nat.le_of_ble_eq_true rfl) hc5 (zat zrL_law_14_ok 38 rfl) glX_rest rx X' ex (fun H locs hH => ?_)
  refine lv_pop hx hb (zat zrL_law_14_ok 39 rfl) rfl ?_
  have hH := hH.perm (cat_swap _ _ _)
  refine lv_aload_n hx hb (zat zrL_law_14_ok 40 rfl) rfl (lv_at hl 2 rfl) ?_
  refine ld_a C0 hH.2.2 (lv_at hl 4 rfl) (lv_at hl 0 rfl) (show n + 1 < L by omega) hL rfl (zat zrL_law_14_ok 41 rfl) (zat zrL_law_14_ok 42 rfl) (zat zrL_law_14_ok 43 rfl) (zat zrL_law_14_ok 44 rfl) (zat zrL_law_14_ok 45 rfl) ?_
  refine cn_rest C0 hKM hKQ hH hl.1 (Nat.le_of_ble_eq_true rfl) hc5 (zat zrL_law_14_ok 46 rfl) glM_rest_nul glM_rest rm M' o' em (fun RV qa qu qk H locs hKQ hH => ?_)
  have hH := hH.perm (cat_swap _ _ _)
  refine lv_pop hx hb (zat zrL_law_14_ok 47 rfl) rfl ?_
  refine lv_goto (tgt := 1953) hx hb (zat zrL_law_14_ok 48 rfl) (by decide) ?_
  exact W.widen (by omega) (by omega) (kk H locs ⟨A, U, C, na, nu, nk, X', B, E, M', o', RV, qa, qu, qk, cO, fO, rfl, rfl, hKX, hKM, hKQ, hKO, hR', hH⟩ ls hl)
set_option maxHeartbeats 1000000 in
set_option maxRecDepth 20000 in
theorem lc_36 {p : Program} {l : Launch} {e : Env} {s : State} {m : MethodId} {below : List Frame} {meth : Method} {c : Code} {b L : Nat} {xs : Nat → Int32} {H : Heap} {locs : List Loc} {cells slots : Nat} {Q : State → Prop} {dC : Nat → ClassId} {dI : Nat → Nat → Nat} (C0 : LW p l s m meth c b L xs) (hL : L ≤ 3072) {n : Nat} (hn : n + 6 ≤ L) {h0 g0 q9 : Nat} (hI : LI (dC, dI) s h0 g0 q9 H locs) (hcs : cells ≤ 400000 ∧ slots ≤ 6000000) (ls : Array Slot) (hl : lv_has ls 7 [(4, .int (nI n)), (3, .ref q9), (2, .ref g0), (1, .ref h0), (0, .ref b)])
    (kk : ∀ (H : Heap) (locs : List Loc), LI (dC, dI) s h0 g0 q9 H locs → ∀ ls : Array Slot, lv_has ls 7 [(4, .int (nI n)), (3, .ref q9), (2, .ref g0), (1, .ref h0), (0, .ref b)] → W p l e room_1 s m #[Value.ref b] below meth c H locs (cells + 50) (slots + 300) Q (F0 m 1953 ls [])) : W p l e room_1 s m #[Value.ref b] below meth c H locs cells slots Q (F0 m 1564 ls []) := by
  obtain ⟨⟨hx, hb, -⟩, -⟩ := id C0
  have hb : c.code = cL_law := hb
  obtain ⟨A, U, C, na, nu, nk, X, B, E, M, o, RV, qa, qu, qk, cO, fO, rfl, rfl, hKX, hKM, hKQ, hKO, hR, hH⟩ := hI
  have hc5 : cells ≤ 500000 ∧ slots ≤ 7000000 := ⟨by omega, by omega⟩
  obtain ⟨rx, X', rm, M', o', ex, em, hR', he⟩ := st_landed (k1 := xs (n + 1)) (k2 := xs (n + 2)) hR
  refine lv_aload_n hx hb (zat zrL_law_14_ok 49 rfl) rfl (lv_at hl 3 rfl) ?_
  refine ld_a C0 hH.2.2 (lv_at hl 4 rfl) (lv_at hl 0 rfl) (show n + 1 < L by omega) hL rfl (zat zrL_law_14_ok 50 rfl) (zat zrL_law_14_ok 51 rfl) (zat zrL_law_14_ok 52 rfl) (zat zrL_law_14_ok 53 rfl) (zat zrL_law_14_ok 54 rfl) ?_
  refine ld_a C0 hH.2.2 (lv_at hl 4 rfl) (lv_at hl 0 rfl) (show n + 2 < L by omega) hL rfl (zat zrL_law_14_ok 55 rfl) (zat zrL_law_14_ok 56 rfl) (zat zrL_law_14_ok 57 rfl) (zat zrL_law_14_ok 58 rfl) (zat zrL_law_14_ok 59 rfl) ?_
  refine cx_landed C0 hKX hH hl.1 (Nat.le_of_ble_eq_true rfl) hc5 (zat zrL_law_14_ok 60 rfl) glX_landed rx X' ex (fun H locs hH => ?_)
  refine lv_pop hx hb (zat zrL_law_14_ok 61 rfl) rfl ?_
  have hH := hH.perm (cat_swap _ _ _)
  refine lv_aload_n hx hb (zat zrL_law_14_ok 62 rfl) rfl (lv_at hl 2 rfl) ?_
  refine ld_a C0 hH.2.2 (lv_at hl 4 rfl) (lv_at hl 0 rfl) (show n + 1 < L by omega) hL rfl (zat zrL_law_14_ok 63 rfl) (zat zrL_law_15_ok 0 rfl) (zat zrL_law_15_ok 1 rfl) (zat zrL_law_15_ok 2 rfl) (zat zrL_law_15_ok 3 rfl) ?_
  refine ld_a C0 hH.2.2 (lv_at hl 4 rfl) (lv_at hl 0 rfl) (show n + 2 < L by omega) hL rfl (zat zrL_law_15_ok 4 rfl) (zat zrL_law_15_ok 5 rfl) (zat zrL_law_15_ok 6 rfl) (zat zrL_law_15_ok 7 rfl) (zat zrL_law_15_ok 8 rfl) ?_
  refine cn_landed C0 hKM hKQ hH hl.1 (Nat.le_of_ble_eq_true rfl) hc5 (zat zrL_law_15_ok 9 rfl) glM_landed_nul glM_landed rm M' o' em (fun RV qa qu qk H locs hKQ hH => ?_)
  have hH := hH.perm (cat_swap _ _ _)
  refine lv_pop hx hb (zat zrL_law_15_ok 10 rfl) rfl ?_
  refine lv_goto (tgt := 1953) hx hb (zat zrL_law_15_ok 11 rfl) (by decide) ?_
  exact W.widen (by omega) (by omega) (kk H locs ⟨A, U, C, na, nu, nk, X', B, E, M', o', RV, qa, qu, qk, cO, fO, rfl, rfl, hKX, hKM, hKQ, hKO, hR', hH⟩ ls hl)
set_option maxHeartbeats 1000000 in
set_option maxRecDepth 20000 in
theorem lc_37 {p : Program} {l : Launch} {e : Env} {s : State} {m : MethodId} {below : List Frame} {meth : Method} {c : Code} {b L : Nat} {xs : Nat → Int32} {H : Heap} {locs : List Loc} {cells slots : Nat} {Q : State → Prop} {dC : Nat → ClassId} {dI : Nat → Nat → Nat} (C0 : LW p l s m meth c b L xs) (hL : L ≤ 3072) {n : Nat} (hn : n + 6 ≤ L) {h0 g0 q9 : Nat} (hI : LI (dC, dI) s h0 g0 q9 H locs) (hcs : cells ≤ 400000 ∧ slots ≤ 6000000) (ls : Array Slot) (hl : lv_has ls 7 [(4, .int (nI n)), (3, .ref q9), (2, .ref g0), (1, .ref h0), (0, .ref b)])
    (kk : ∀ (H : Heap) (locs : List Loc), LI (dC, dI) s h0 g0 q9 H locs → ∀ ls : Array Slot, lv_has ls 7 [(4, .int (nI n)), (3, .ref q9), (2, .ref g0), (1, .ref h0), (0, .ref b)] → W p l e room_1 s m #[Value.ref b] below meth c H locs (cells + 50) (slots + 300) Q (F0 m 1953 ls [])) : W p l e room_1 s m #[Value.ref b] below meth c H locs cells slots Q (F0 m 1601 ls []) := by
  obtain ⟨⟨hx, hb, -⟩, -⟩ := id C0
  have hb : c.code = cL_law := hb
  obtain ⟨A, U, C, na, nu, nk, X, B, E, M, o, RV, qa, qu, qk, cO, fO, rfl, rfl, hKX, hKM, hKQ, hKO, hR, hH⟩ := hI
  have hc5 : cells ≤ 500000 ∧ slots ≤ 7000000 := ⟨by omega, by omega⟩
  obtain ⟨rx, X', rm, M', o', ex, em, hR', he⟩ := st_landedIn (k1 := xs (n + 1)) (k2 := xs (n + 2)) (k3 := xs (n + 3)) hR
  refine lv_aload_n hx hb (zat zrL_law_15_ok 12 rfl) rfl (lv_at hl 3 rfl) ?_
  refine ld_a C0 hH.2.2 (lv_at hl 4 rfl) (lv_at hl 0 rfl) (show n + 1 < L by omega) hL rfl (zat zrL_law_15_ok 13 rfl) (zat zrL_law_15_ok 14 rfl) (zat zrL_law_15_ok 15 rfl) (zat zrL_law_15_ok 16 rfl) (zat zrL_law_15_ok 17 rfl) ?_
  refine ld_a C0 hH.2.2 (lv_at hl 4 rfl) (lv_at hl 0 rfl) (show n + 2 < L by omega) hL rfl (zat zrL_law_15_ok 18 rfl) (zat zrL_law_15_ok 19 rfl) (zat zrL_law_15_ok 20 rfl) (zat zrL_law_15_ok 21 rfl) (zat zrL_law_15_ok 22 rfl) ?_
  refine ld_a C0 hH.2.2 (lv_at hl 4 rfl) (lv_at hl 0 rfl) (show n + 3 < L by omega) hL rfl (zat zrL_law_15_ok 23 rfl) (zat zrL_law_15_ok 24 rfl) (zat zrL_law_15_ok 25 rfl) (zat zrL_law_15_ok 26 rfl) (zat zrL_law_15_ok 27 rfl) ?_
  refine cx_landedIn C0 hKX hH hl.1 (Nat.le_of_ble_eq_true rfl) hc5 (zat zrL_law_15_ok 28 rfl) glX_landedIn rx X' ex (fun H locs hH => ?_)
  refine lv_pop hx hb (zat zrL_law_15_ok 29 rfl) rfl ?_
  have hH := hH.perm (cat_swap _ _ _)
  refine lv_aload_n hx hb (zat zrL_law_15_ok 30 rfl) rfl (lv_at hl 2 rfl) ?_
  refine ld_a C0 hH.2.2 (lv_at hl 4 rfl) (lv_at hl 0 rfl) (show n + 1 < L by omega) hL rfl (zat zrL_law_15_ok 31 rfl) (zat zrL_law_15_ok 32 rfl) (zat zrL_law_15_ok 33 rfl) (zat zrL_law_15_ok 34 rfl) (zat zrL_law_15_ok 35 rfl) ?_
  refine ld_a C0 hH.2.2 (lv_at hl 4 rfl) (lv_at hl 0 rfl) (show n + 2 < L by omega) hL rfl (zat zrL_law_15_ok 36 rfl) (zat zrL_law_15_ok 37 rfl) (zat zrL_law_15_ok 38 rfl) (zat zrL_law_15_ok 39 rfl) (zat zrL_law_15_ok 40 rfl) ?_
  refine ld_a C0 hH.2.2 (lv_at hl 4 rfl) (lv_at hl 0 rfl) (show n + 3 < L by omega) hL rfl (zat zrL_law_15_ok 41 rfl) (zat zrL_law_15_ok 42 rfl) (zat zrL_law_15_ok 43 rfl) (zat zrL_law_15_ok 44 rfl) (zat zrL_law_15_ok 45 rfl) ?_
  refine cn_landedIn C0 hKM hKQ hH hl.1 (Nat.le_of_ble_eq_true rfl) hc5 (zat zrL_law_15_ok 46 rfl) glM_landedIn_nul glM_landedIn rm M' o' em (fun RV qa qu qk H locs hKQ hH => ?_)
  have hH := hH.perm (cat_swap _ _ _)
  refine lv_pop hx hb (zat zrL_law_15_ok 47 rfl) rfl ?_
  refine lv_goto (tgt := 1953) hx hb (zat zrL_law_15_ok 48 rfl) (by decide) ?_
  exact W.widen (by omega) (by omega) (kk H locs ⟨A, U, C, na, nu, nk, X', B, E, M', o', RV, qa, qu, qk, cO, fO, rfl, rfl, hKX, hKM, hKQ, hKO, hR', hH⟩ ls hl)
set_option maxHeartbeats 1000000 in
set_option maxRecDepth 20000 in
theorem lc_38 {p : Program} {l : Launch} {e : Env} {s : State} {m : MethodId} {below : List Frame} {meth : Method} {c : Code} {b L : Nat} {xs : Nat → Int32} {H : Heap} {locs : List Loc} {cells slots : Nat} {Q : State → Prop} {dC : Nat → ClassId} {dI : Nat → Nat → Nat} (C0 : LW p l s m meth c b L xs) (hL : L ≤ 3072) {n : Nat} (hn : n + 6 ≤ L) {h0 g0 q9 : Nat} (hI : LI (dC, dI) s h0 g0 q9 H locs) (hcs : cells ≤ 400000 ∧ slots ≤ 6000000) (ls : Array Slot) (hl : lv_has ls 7 [(4, .int (nI n)), (3, .ref q9), (2, .ref g0), (1, .ref h0), (0, .ref b)])
    (kk : ∀ (H : Heap) (locs : List Loc), LI (dC, dI) s h0 g0 q9 H locs → ∀ ls : Array Slot, lv_has ls 7 [(4, .int (nI n)), (3, .ref q9), (2, .ref g0), (1, .ref h0), (0, .ref b)] → W p l e room_1 s m #[Value.ref b] below meth c H locs (cells + 50) (slots + 300) Q (F0 m 1953 ls [])) : W p l e room_1 s m #[Value.ref b] below meth c H locs cells slots Q (F0 m 1650 ls []) := by
  obtain ⟨⟨hx, hb, -⟩, -⟩ := id C0
  have hb : c.code = cL_law := hb
  obtain ⟨A, U, C, na, nu, nk, X, B, E, M, o, RV, qa, qu, qk, cO, fO, rfl, rfl, hKX, hKM, hKQ, hKO, hR, hH⟩ := hI
  have hc5 : cells ≤ 500000 ∧ slots ≤ 7000000 := ⟨by omega, by omega⟩
  obtain ⟨rx, X', rm, M', o', ex, em, hR', he⟩ := st_crabs (k1 := xs (n + 1)) (k2 := xs (n + 2)) hR
  refine lv_aload_n hx hb (zat zrL_law_15_ok 49 rfl) rfl (lv_at hl 3 rfl) ?_
  refine ld_a C0 hH.2.2 (lv_at hl 4 rfl) (lv_at hl 0 rfl) (show n + 1 < L by omega) hL rfl (zat zrL_law_15_ok 50 rfl) (zat zrL_law_15_ok 51 rfl) (zat zrL_law_15_ok 52 rfl) (zat zrL_law_15_ok 53 rfl) (zat zrL_law_15_ok 54 rfl) ?_
  refine ld_a C0 hH.2.2 (lv_at hl 4 rfl) (lv_at hl 0 rfl) (show n + 2 < L by omega) hL rfl (zat zrL_law_15_ok 55 rfl) (zat zrL_law_15_ok 56 rfl) (zat zrL_law_15_ok 57 rfl) (zat zrL_law_15_ok 58 rfl) (zat zrL_law_15_ok 59 rfl) ?_
  refine cx_crabs C0 hKX hH hl.1 (Nat.le_of_ble_eq_true rfl) hc5 (zat zrL_law_15_ok 60 rfl) glX_crabs rx X' ex (fun H locs hH => ?_)
  refine lv_pop hx hb (zat zrL_law_15_ok 61 rfl) rfl ?_
  have hH := hH.perm (cat_swap _ _ _)
  refine lv_aload_n hx hb (zat zrL_law_15_ok 62 rfl) rfl (lv_at hl 2 rfl) ?_
  refine ld_a C0 hH.2.2 (lv_at hl 4 rfl) (lv_at hl 0 rfl) (show n + 1 < L by omega) hL rfl (zat zrL_law_15_ok 63 rfl) (zat zrL_law_16_ok 0 rfl) (zat zrL_law_16_ok 1 rfl) (zat zrL_law_16_ok 2 rfl) (zat zrL_law_16_ok 3 rfl) ?_
  refine ld_a C0 hH.2.2 (lv_at hl 4 rfl) (lv_at hl 0 rfl) (show n + 2 < L by omega) hL rfl (zat zrL_law_16_ok 4 rfl) (zat zrL_law_16_ok 5 rfl) (zat zrL_law_16_ok 6 rfl) (zat zrL_law_16_ok 7 rfl) (zat zrL_law_16_ok 8 rfl) ?_
  refine cn_crabs C0 hKM hKQ hH hl.1 (Nat.le_of_ble_eq_true rfl) hc5 (zat zrL_law_16_ok 9 rfl) glM_crabs_nul glM_crabs rm M' o' em (fun RV qa qu qk H locs hKQ hH => ?_)
  have hH := hH.perm (cat_swap _ _ _)
  refine lv_pop hx hb (zat zrL_law_16_ok 10 rfl) rfl ?_
  refine lv_goto (tgt := 1953) hx hb (zat zrL_law_16_ok 11 rfl) (by decide) ?_
  exact W.widen (by omega) (by omega) (kk H locs ⟨A, U, C, na, nu, nk, X', B, E, M', o', RV, qa, qu, qk, cO, fO, rfl, rfl, hKX, hKM, hKQ, hKO, hR', hH⟩ ls hl)
set_option maxHeartbeats 1000000 in
set_option maxRecDepth 20000 in
theorem lc_39 {p : Program} {l : Launch} {e : Env} {s : State} {m : MethodId} {below : List Frame} {meth : Method} {c : Code} {b L : Nat} {xs : Nat → Int32} {H : Heap} {locs : List Loc} {cells slots : Nat} {Q : State → Prop} {dC : Nat → ClassId} {dI : Nat → Nat → Nat} (C0 : LW p l s m meth c b L xs) (hL : L ≤ 3072) {n : Nat} (hn : n + 6 ≤ L) {h0 g0 q9 : Nat} (hI : LI (dC, dI) s h0 g0 q9 H locs) (hcs : cells ≤ 400000 ∧ slots ≤ 6000000) (ls : Array Slot) (hl : lv_has ls 7 [(4, .int (nI n)), (3, .ref q9), (2, .ref g0), (1, .ref h0), (0, .ref b)])
    (kk : ∀ (H : Heap) (locs : List Loc), LI (dC, dI) s h0 g0 q9 H locs → ∀ ls : Array Slot, lv_has ls 7 [(4, .int (nI n)), (3, .ref q9), (2, .ref g0), (1, .ref h0), (0, .ref b)] → W p l e room_1 s m #[Value.ref b] below meth c H locs (cells + 50) (slots + 300) Q (F0 m 1953 ls [])) : W p l e room_1 s m #[Value.ref b] below meth c H locs cells slots Q (F0 m 1687 ls []) := by
  obtain ⟨⟨hx, hb, -⟩, -⟩ := id C0
  have hb : c.code = cL_law := hb
  obtain ⟨A, U, C, na, nu, nk, X, B, E, M, o, RV, qa, qu, qk, cO, fO, rfl, rfl, hKX, hKM, hKQ, hKO, hR, hH⟩ := hI
  have hc5 : cells ≤ 500000 ∧ slots ≤ 7000000 := ⟨by omega, by omega⟩
  obtain ⟨rx, X', rm, M', o', ex, em, hR', he⟩ := st_let (k1 := xs (n + 1)) (k2 := xs (n + 2)) (k3 := xs (n + 3)) (k4 := xs (n + 4)) hR
  refine lv_aload_n hx hb (zat zrL_law_16_ok 12 rfl) rfl (lv_at hl 3 rfl) ?_
  refine ld_a C0 hH.2.2 (lv_at hl 4 rfl) (lv_at hl 0 rfl) (show n + 1 < L by omega) hL rfl (zat zrL_law_16_ok 13 rfl) (zat zrL_law_16_ok 14 rfl) (zat zrL_law_16_ok 15 rfl) (zat zrL_law_16_ok 16 rfl) (zat zrL_law_16_ok 17 rfl) ?_
  refine ld_a C0 hH.2.2 (lv_at hl 4 rfl) (lv_at hl 0 rfl) (show n + 2 < L by omega) hL rfl (zat zrL_law_16_ok 18 rfl) (zat zrL_law_16_ok 19 rfl) (zat zrL_law_16_ok 20 rfl) (zat zrL_law_16_ok 21 rfl) (zat zrL_law_16_ok 22 rfl) ?_
  refine ld_a C0 hH.2.2 (lv_at hl 4 rfl) (lv_at hl 0 rfl) (show n + 3 < L by omega) hL rfl (zat zrL_law_16_ok 23 rfl) (zat zrL_law_16_ok 24 rfl) (zat zrL_law_16_ok 25 rfl) (zat zrL_law_16_ok 26 rfl) (zat zrL_law_16_ok 27 rfl) ?_
  refine ld_a C0 hH.2.2 (lv_at hl 4 rfl) (lv_at hl 0 rfl) (show n + 4 < L by omega) hL rfl (zat zrL_law_16_ok 28 rfl) (zat zrL_law_16_ok 29 rfl) (zat zrL_law_16_ok 30 rfl) (zat zrL_law_16_ok 31 rfl) (zat zrL_law_16_ok 32 rfl) ?_
  refine cx_let C0 hKX hH hl.1 (Nat.le_of_ble_eq_true rfl) hc5 (zat zrL_law_16_ok 33 rfl) glX_let rx X' ex (fun H locs hH => ?_)
  refine lv_pop hx hb (zat zrL_law_16_ok 34 rfl) rfl ?_
  have hH := hH.perm (cat_swap _ _ _)
  refine lv_aload_n hx hb (zat zrL_law_16_ok 35 rfl) rfl (lv_at hl 2 rfl) ?_
  refine ld_a C0 hH.2.2 (lv_at hl 4 rfl) (lv_at hl 0 rfl) (show n + 1 < L by omega) hL rfl (zat zrL_law_16_ok 36 rfl) (zat zrL_law_16_ok 37 rfl) (zat zrL_law_16_ok 38 rfl) (zat zrL_law_16_ok 39 rfl) (zat zrL_law_16_ok 40 rfl) ?_
  refine ld_a C0 hH.2.2 (lv_at hl 4 rfl) (lv_at hl 0 rfl) (show n + 2 < L by omega) hL rfl (zat zrL_law_16_ok 41 rfl) (zat zrL_law_16_ok 42 rfl) (zat zrL_law_16_ok 43 rfl) (zat zrL_law_16_ok 44 rfl) (zat zrL_law_16_ok 45 rfl) ?_
  refine ld_a C0 hH.2.2 (lv_at hl 4 rfl) (lv_at hl 0 rfl) (show n + 3 < L by omega) hL rfl (zat zrL_law_16_ok 46 rfl) (zat zrL_law_16_ok 47 rfl) (zat zrL_law_16_ok 48 rfl) (zat zrL_law_16_ok 49 rfl) (zat zrL_law_16_ok 50 rfl) ?_
  refine ld_a C0 hH.2.2 (lv_at hl 4 rfl) (lv_at hl 0 rfl) (show n + 4 < L by omega) hL rfl (zat zrL_law_16_ok 51 rfl) (zat zrL_law_16_ok 52 rfl) (zat zrL_law_16_ok 53 rfl) (zat zrL_law_16_ok 54 rfl) (zat zrL_law_16_ok 55 rfl) ?_
  refine cn_let C0 hKM hKQ hH hl.1 (Nat.le_of_ble_eq_true rfl) hc5 (zat zrL_law_16_ok 56 rfl) glM_let_nul glM_let rm M' o' em (fun RV qa qu qk H locs hKQ hH => ?_)
  have hH := hH.perm (cat_swap _ _ _)
  refine lv_pop hx hb (zat zrL_law_16_ok 57 rfl) rfl ?_
  refine lv_goto (tgt := 1953) hx hb (zat zrL_law_16_ok 58 rfl) (by decide) ?_
  exact W.widen (by omega) (by omega) (kk H locs ⟨A, U, C, na, nu, nk, X', B, E, M', o', RV, qa, qu, qk, cO, fO, rfl, rfl, hKX, hKM, hKQ, hKO, hR', hH⟩ ls hl)
set_option maxHeartbeats 1000000 in
set_option maxRecDepth 20000 in
theorem lc_40 {p : Program} {l : Launch} {e : Env} {s : State} {m : MethodId} {below : List Frame} {meth : Method} {c : Code} {b L : Nat} {xs : Nat → Int32} {H : Heap} {locs : List Loc} {cells slots : Nat} {Q : State → Prop} {dC : Nat → ClassId} {dI : Nat → Nat → Nat} (C0 : LW p l s m meth c b L xs) (hL : L ≤ 3072) {n : Nat} (hn : n + 6 ≤ L) {h0 g0 q9 : Nat} (hI : LI (dC, dI) s h0 g0 q9 H locs) (hcs : cells ≤ 400000 ∧ slots ≤ 6000000) (ls : Array Slot) (hl : lv_has ls 7 [(4, .int (nI n)), (3, .ref q9), (2, .ref g0), (1, .ref h0), (0, .ref b)])
    (kk : ∀ (H : Heap) (locs : List Loc), LI (dC, dI) s h0 g0 q9 H locs → ∀ ls : Array Slot, lv_has ls 7 [(4, .int (nI n)), (3, .ref q9), (2, .ref g0), (1, .ref h0), (0, .ref b)] → W p l e room_1 s m #[Value.ref b] below meth c H locs (cells + 50) (slots + 300) Q (F0 m 1953 ls [])) : W p l e room_1 s m #[Value.ref b] below meth c H locs cells slots Q (F0 m 1748 ls []) := by
  obtain ⟨⟨hx, hb, -⟩, -⟩ := id C0
  have hb : c.code = cL_law := hb
  obtain ⟨A, U, C, na, nu, nk, X, B, E, M, o, RV, qa, qu, qk, cO, fO, rfl, rfl, hKX, hKM, hKQ, hKO, hR, hH⟩ := hI
  have hc5 : cells ≤ 500000 ∧ slots ≤ 7000000 := ⟨by omega, by omega⟩
  obtain ⟨rx, X', rm, M', o', ex, em, hR', he⟩ := st_drawIn (k1 := xs (n + 1)) hR
  refine lv_aload_n hx hb (zat zrL_law_16_ok 59 rfl) rfl (lv_at hl 3 rfl) ?_
  refine ld_a C0 hH.2.2 (lv_at hl 4 rfl) (lv_at hl 0 rfl) (show n + 1 < L by omega) hL rfl (zat zrL_law_16_ok 60 rfl) (zat zrL_law_16_ok 61 rfl) (zat zrL_law_16_ok 62 rfl) (zat zrL_law_16_ok 63 rfl) (zat zrL_law_17_ok 0 rfl) ?_
  refine cx_drawIn C0 hKX hH hl.1 (Nat.le_of_ble_eq_true rfl) hc5 (zat zrL_law_17_ok 1 rfl) glX_drawIn rx X' ex (fun H locs hH => ?_)
  refine lv_pop hx hb (zat zrL_law_17_ok 2 rfl) rfl ?_
  have hH := hH.perm (cat_swap _ _ _)
  refine lv_aload_n hx hb (zat zrL_law_17_ok 3 rfl) rfl (lv_at hl 2 rfl) ?_
  refine ld_a C0 hH.2.2 (lv_at hl 4 rfl) (lv_at hl 0 rfl) (show n + 1 < L by omega) hL rfl (zat zrL_law_17_ok 4 rfl) (zat zrL_law_17_ok 5 rfl) (zat zrL_law_17_ok 6 rfl) (zat zrL_law_17_ok 7 rfl) (zat zrL_law_17_ok 8 rfl) ?_
  refine cn_drawIn C0 hKM hKQ hH hl.1 (Nat.le_of_ble_eq_true rfl) hc5 (zat zrL_law_17_ok 9 rfl) glM_drawIn_nul glM_drawIn rm M' o' em (fun RV qa qu qk H locs hKQ hH => ?_)
  have hH := hH.perm (cat_swap _ _ _)
  refine lv_pop hx hb (zat zrL_law_17_ok 10 rfl) rfl ?_
  refine lv_goto (tgt := 1953) hx hb (zat zrL_law_17_ok 11 rfl) (by decide) ?_
  exact W.widen (by omega) (by omega) (kk H locs ⟨A, U, C, na, nu, nk, X', B, E, M', o', RV, qa, qu, qk, cO, fO, rfl, rfl, hKX, hKM, hKQ, hKO, hR', hH⟩ ls hl)
set_option maxHeartbeats 1000000 in
set_option maxRecDepth 20000 in
theorem lc_41 {p : Program} {l : Launch} {e : Env} {s : State} {m : MethodId} {below : List Frame} {meth : Method} {c : Code} {b L : Nat} {xs : Nat → Int32} {H : Heap} {locs : List Loc} {cells slots : Nat} {Q : State → Prop} {dC : Nat → ClassId} {dI : Nat → Nat → Nat} (C0 : LW p l s m meth c b L xs) (hL : L ≤ 3072) {n : Nat} (hn : n + 6 ≤ L) {h0 g0 q9 : Nat} (hI : LI (dC, dI) s h0 g0 q9 H locs) (hcs : cells ≤ 400000 ∧ slots ≤ 6000000) (ls : Array Slot) (hl : lv_has ls 7 [(4, .int (nI n)), (3, .ref q9), (2, .ref g0), (1, .ref h0), (0, .ref b)])
    (kk : ∀ (H : Heap) (locs : List Loc), LI (dC, dI) s h0 g0 q9 H locs → ∀ ls : Array Slot, lv_has ls 7 [(4, .int (nI n)), (3, .ref q9), (2, .ref g0), (1, .ref h0), (0, .ref b)] → W p l e room_1 s m #[Value.ref b] below meth c H locs (cells + 50) (slots + 300) Q (F0 m 1953 ls [])) : W p l e room_1 s m #[Value.ref b] below meth c H locs cells slots Q (F0 m 1773 ls []) := by
  obtain ⟨⟨hx, hb, -⟩, -⟩ := id C0
  have hb : c.code = cL_law := hb
  obtain ⟨A, U, C, na, nu, nk, X, B, E, M, o, RV, qa, qu, qk, cO, fO, rfl, rfl, hKX, hKM, hKQ, hKO, hR, hH⟩ := hI
  have hc5 : cells ≤ 500000 ∧ slots ≤ 7000000 := ⟨by omega, by omega⟩
  obtain ⟨rx, X', rm, M', o', ex, em, hR', he⟩ := st_sell (k1 := xs (n + 1)) hR
  refine lv_aload_n hx hb (zat zrL_law_17_ok 12 rfl) rfl (lv_at hl 3 rfl) ?_
  refine ld_a C0 hH.2.2 (lv_at hl 4 rfl) (lv_at hl 0 rfl) (show n + 1 < L by omega) hL rfl (zat zrL_law_17_ok 13 rfl) (zat zrL_law_17_ok 14 rfl) (zat zrL_law_17_ok 15 rfl) (zat zrL_law_17_ok 16 rfl) (zat zrL_law_17_ok 17 rfl) ?_
  refine cx_sell C0 hKX hH hl.1 (Nat.le_of_ble_eq_true rfl) hc5 (zat zrL_law_17_ok 18 rfl) glX_sell rx X' ex (fun H locs hH => ?_)
  refine lv_pop hx hb (zat zrL_law_17_ok 19 rfl) rfl ?_
  have hH := hH.perm (cat_swap _ _ _)
  refine lv_aload_n hx hb (zat zrL_law_17_ok 20 rfl) rfl (lv_at hl 2 rfl) ?_
  refine ld_a C0 hH.2.2 (lv_at hl 4 rfl) (lv_at hl 0 rfl) (show n + 1 < L by omega) hL rfl (zat zrL_law_17_ok 21 rfl) (zat zrL_law_17_ok 22 rfl) (zat zrL_law_17_ok 23 rfl) (zat zrL_law_17_ok 24 rfl) (zat zrL_law_17_ok 25 rfl) ?_
  refine cn_sell C0 hKM hKQ hH hl.1 (Nat.le_of_ble_eq_true rfl) hc5 (zat zrL_law_17_ok 26 rfl) glM_sell_nul glM_sell rm M' o' em (fun RV qa qu qk H locs hKQ hH => ?_)
  have hH := hH.perm (cat_swap _ _ _)
  refine lv_pop hx hb (zat zrL_law_17_ok 27 rfl) rfl ?_
  refine lv_goto (tgt := 1953) hx hb (zat zrL_law_17_ok 28 rfl) (by decide) ?_
  exact W.widen (by omega) (by omega) (kk H locs ⟨A, U, C, na, nu, nk, X', B, E, M', o', RV, qa, qu, qk, cO, fO, rfl, rfl, hKX, hKM, hKQ, hKO, hR', hH⟩ ls hl)
set_option maxHeartbeats 1000000 in
set_option maxRecDepth 20000 in
theorem lc_42 {p : Program} {l : Launch} {e : Env} {s : State} {m : MethodId} {below : List Frame} {meth : Method} {c : Code} {b L : Nat} {xs : Nat → Int32} {H : Heap} {locs : List Loc} {cells slots : Nat} {Q : State → Prop} {dC : Nat → ClassId} {dI : Nat → Nat → Nat} (C0 : LW p l s m meth c b L xs) (hL : L ≤ 3072) {n : Nat} (hn : n + 6 ≤ L) {h0 g0 q9 : Nat} (hI : LI (dC, dI) s h0 g0 q9 H locs) (hcs : cells ≤ 400000 ∧ slots ≤ 6000000) (ls : Array Slot) (hl : lv_has ls 7 [(4, .int (nI n)), (3, .ref q9), (2, .ref g0), (1, .ref h0), (0, .ref b)])
    (kk : ∀ (H : Heap) (locs : List Loc), LI (dC, dI) s h0 g0 q9 H locs → ∀ ls : Array Slot, lv_has ls 7 [(4, .int (nI n)), (3, .ref q9), (2, .ref g0), (1, .ref h0), (0, .ref b)] → W p l e room_1 s m #[Value.ref b] below meth c H locs (cells + 50) (slots + 300) Q (F0 m 1953 ls [])) : W p l e room_1 s m #[Value.ref b] below meth c H locs cells slots Q (F0 m 1798 ls []) := by
  obtain ⟨⟨hx, hb, -⟩, -⟩ := id C0
  have hb : c.code = cL_law := hb
  obtain ⟨A, U, C, na, nu, nk, X, B, E, M, o, RV, qa, qu, qk, cO, fO, rfl, rfl, hKX, hKM, hKQ, hKO, hR, hH⟩ := hI
  have hc5 : cells ≤ 500000 ∧ slots ≤ 7000000 := ⟨by omega, by omega⟩
  obtain ⟨rx, X', rm, M', o', ex, em, hR', he⟩ := st_day  hR
  refine lv_aload_n hx hb (zat zrL_law_17_ok 29 rfl) rfl (lv_at hl 3 rfl) ?_
  refine cx_day C0 hKX hH hl.1 (Nat.le_of_ble_eq_true rfl) hc5 (zat zrL_law_17_ok 30 rfl) glX_day rx X' ex (fun H locs hH => ?_)
  refine lv_pop hx hb (zat zrL_law_17_ok 31 rfl) rfl ?_
  have hH := hH.perm (cat_swap _ _ _)
  refine lv_aload_n hx hb (zat zrL_law_17_ok 32 rfl) rfl (lv_at hl 2 rfl) ?_
  refine cn_day C0 hKM hKQ hH hl.1 (Nat.le_of_ble_eq_true rfl) hc5 (zat zrL_law_17_ok 33 rfl) glM_day_nul glM_day rm M' o' em (fun RV qa qu qk H locs hKQ hH => ?_)
  have hH := hH.perm (cat_swap _ _ _)
  refine lv_pop hx hb (zat zrL_law_17_ok 34 rfl) rfl ?_
  refine lv_goto (tgt := 1953) hx hb (zat zrL_law_17_ok 35 rfl) (by decide) ?_
  exact W.widen (by omega) (by omega) (kk H locs ⟨A, U, C, na, nu, nk, X', B, E, M', o', RV, qa, qu, qk, cO, fO, rfl, rfl, hKX, hKM, hKQ, hKO, hR', hH⟩ ls hl)
set_option maxHeartbeats 1000000 in
set_option maxRecDepth 20000 in
theorem lc_43 {p : Program} {l : Launch} {e : Env} {s : State} {m : MethodId} {below : List Frame} {meth : Method} {c : Code} {b L : Nat} {xs : Nat → Int32} {H : Heap} {locs : List Loc} {cells slots : Nat} {Q : State → Prop} {dC : Nat → ClassId} {dI : Nat → Nat → Nat} (C0 : LW p l s m meth c b L xs) (hL : L ≤ 3072) {n : Nat} (hn : n + 6 ≤ L) {h0 g0 q9 : Nat} (hI : LI (dC, dI) s h0 g0 q9 H locs) (hcs : cells ≤ 400000 ∧ slots ≤ 6000000) (ls : Array Slot) (hl : lv_has ls 7 [(4, .int (nI n)), (3, .ref q9), (2, .ref g0), (1, .ref h0), (0, .ref b)])
    (kk : ∀ (H : Heap) (locs : List Loc), LI (dC, dI) s h0 g0 q9 H locs → ∀ ls : Array Slot, lv_has ls 7 [(4, .int (nI n)), (3, .ref q9), (2, .ref g0), (1, .ref h0), (0, .ref b)] → W p l e room_1 s m #[Value.ref b] below meth c H locs (cells + 50) (slots + 300) Q (F0 m 1953 ls [])) : W p l e room_1 s m #[Value.ref b] below meth c H locs cells slots Q (F0 m 1811 ls []) := by
  obtain ⟨⟨hx, hb, -⟩, -⟩ := id C0
  have hb : c.code = cL_law := hb
  obtain ⟨A, U, C, na, nu, nk, X, B, E, M, o, RV, qa, qu, qk, cO, fO, rfl, rfl, hKX, hKM, hKQ, hKO, hR, hH⟩ := hI
  have hc5 : cells ≤ 500000 ∧ slots ≤ 7000000 := ⟨by omega, by omega⟩
  obtain ⟨rx, X', rm, M', o', ex, em, hR', he⟩ := st_seed (k1 := xs (n + 1)) hR
  refine lv_aload_n hx hb (zat zrL_law_17_ok 36 rfl) rfl (lv_at hl 3 rfl) ?_
  refine ld_a C0 hH.2.2 (lv_at hl 4 rfl) (lv_at hl 0 rfl) (show n + 1 < L by omega) hL rfl (zat zrL_law_17_ok 37 rfl) (zat zrL_law_17_ok 38 rfl) (zat zrL_law_17_ok 39 rfl) (zat zrL_law_17_ok 40 rfl) (zat zrL_law_17_ok 41 rfl) ?_
  refine cx_seed C0 hKX hH hl.1 (Nat.le_of_ble_eq_true rfl) hc5 (zat zrL_law_17_ok 42 rfl) glX_seed rx X' ex (fun H locs hH => ?_)
  refine lv_pop hx hb (zat zrL_law_17_ok 43 rfl) rfl ?_
  have hH := hH.perm (cat_swap _ _ _)
  refine lv_aload_n hx hb (zat zrL_law_17_ok 44 rfl) rfl (lv_at hl 2 rfl) ?_
  refine ld_a C0 hH.2.2 (lv_at hl 4 rfl) (lv_at hl 0 rfl) (show n + 1 < L by omega) hL rfl (zat zrL_law_17_ok 45 rfl) (zat zrL_law_17_ok 46 rfl) (zat zrL_law_17_ok 47 rfl) (zat zrL_law_17_ok 48 rfl) (zat zrL_law_17_ok 49 rfl) ?_
  refine cn_seed C0 hKM hKQ hH hl.1 (Nat.le_of_ble_eq_true rfl) hc5 (zat zrL_law_17_ok 50 rfl) glM_seed_nul glM_seed rm M' o' em (fun RV qa qu qk H locs hKQ hH => ?_)
  have hH := hH.perm (cat_swap _ _ _)
  refine lv_pop hx hb (zat zrL_law_17_ok 51 rfl) rfl ?_
  refine lv_goto (tgt := 1953) hx hb (zat zrL_law_17_ok 52 rfl) (by decide) ?_
  exact W.widen (by omega) (by omega) (kk H locs ⟨A, U, C, na, nu, nk, X', B, E, M', o', RV, qa, qu, qk, cO, fO, rfl, rfl, hKX, hKM, hKQ, hKO, hR', hH⟩ ls hl)
set_option maxHeartbeats 1000000 in
set_option maxRecDepth 20000 in
theorem lc_44 {p : Program} {l : Launch} {e : Env} {s : State} {m : MethodId} {below : List Frame} {meth : Method} {c : Code} {b L : Nat} {xs : Nat → Int32} {H : Heap} {locs : List Loc} {cells slots : Nat} {Q : State → Prop} {dC : Nat → ClassId} {dI : Nat → Nat → Nat} (C0 : LW p l s m meth c b L xs) (hL : L ≤ 3072) {n : Nat} (hn : n + 6 ≤ L) {h0 g0 q9 : Nat} (hI : LI (dC, dI) s h0 g0 q9 H locs) (hcs : cells ≤ 400000 ∧ slots ≤ 6000000) (ls : Array Slot) (hl : lv_has ls 7 [(4, .int (nI n)), (3, .ref q9), (2, .ref g0), (1, .ref h0), (0, .ref b)])
    (kk : ∀ (H : Heap) (locs : List Loc), LI (dC, dI) s h0 g0 q9 H locs → ∀ ls : Array Slot, lv_has ls 7 [(4, .int (nI n)), (3, .ref q9), (2, .ref g0), (1, .ref h0), (0, .ref b)] → W p l e room_1 s m #[Value.ref b] below meth c H locs (cells + 50) (slots + 300) Q (F0 m 1953 ls [])) : W p l e room_1 s m #[Value.ref b] below meth c H locs cells slots Q (F0 m 1836 ls []) := by
  obtain ⟨⟨hx, hb, -⟩, -⟩ := id C0
  have hb : c.code = cL_law := hb
  obtain ⟨A, U, C, na, nu, nk, X, B, E, M, o, RV, qa, qu, qk, cO, fO, rfl, rfl, hKX, hKM, hKQ, hKO, hR, hH⟩ := hI
  have hc5 : cells ≤ 500000 ∧ slots ≤ 7000000 := ⟨by omega, by omega⟩
  obtain ⟨rx, X', rm, M', o', ex, em, hR', he⟩ := st_undo  hR
  refine lv_aload_n hx hb (zat zrL_law_17_ok 53 rfl) rfl (lv_at hl 3 rfl) ?_
  refine cx_undo C0 hKX hH hl.1 (Nat.le_of_ble_eq_true rfl) hc5 (zat zrL_law_17_ok 54 rfl) glX_undo rx X' ex (fun H locs hH => ?_)
  refine lv_pop hx hb (zat zrL_law_17_ok 55 rfl) rfl ?_
  have hH := hH.perm (cat_swap _ _ _)
  refine lv_aload_n hx hb (zat zrL_law_17_ok 56 rfl) rfl (lv_at hl 2 rfl) ?_
  refine cn_undo C0 hKM hKQ hH hl.1 (Nat.le_of_ble_eq_true rfl) hc5 (zat zrL_law_17_ok 57 rfl) glM_undo_nul glM_undo rm M' o' em (fun RV qa qu qk H locs hKQ hH => ?_)
  have hH := hH.perm (cat_swap _ _ _)
  refine lv_pop hx hb (zat zrL_law_17_ok 58 rfl) rfl ?_
  refine lv_goto (tgt := 1953) hx hb (zat zrL_law_17_ok 59 rfl) (by decide) ?_
  exact W.widen (by omega) (by omega) (kk H locs ⟨A, U, C, na, nu, nk, X', B, E, M', o', RV, qa, qu, qk, cO, fO, rfl, rfl, hKX, hKM, hKQ, hKO, hR', hH⟩ ls hl)
set_option maxHeartbeats 1000000 in
set_option maxRecDepth 20000 in
theorem lc_45 {p : Program} {l : Launch} {e : Env} {s : State} {m : MethodId} {below : List Frame} {meth : Method} {c : Code} {b L : Nat} {xs : Nat → Int32} {H : Heap} {locs : List Loc} {cells slots : Nat} {Q : State → Prop} {dC : Nat → ClassId} {dI : Nat → Nat → Nat} (C0 : LW p l s m meth c b L xs) (hL : L ≤ 3072) {n : Nat} (hn : n + 6 ≤ L) {h0 g0 q9 : Nat} (hI : LI (dC, dI) s h0 g0 q9 H locs) (hcs : cells ≤ 400000 ∧ slots ≤ 6000000) (ls : Array Slot) (hl : lv_has ls 7 [(4, .int (nI n)), (3, .ref q9), (2, .ref g0), (1, .ref h0), (0, .ref b)])
    (kk : ∀ (H : Heap) (locs : List Loc), LI (dC, dI) s h0 g0 q9 H locs → ∀ ls : Array Slot, lv_has ls 7 [(4, .int (nI n)), (3, .ref q9), (2, .ref g0), (1, .ref h0), (0, .ref b)] → W p l e room_1 s m #[Value.ref b] below meth c H locs (cells + 50) (slots + 300) Q (F0 m 1953 ls [])) : W p l e room_1 s m #[Value.ref b] below meth c H locs cells slots Q (F0 m 1849 ls []) := by
  obtain ⟨⟨hx, hb, -⟩, -⟩ := id C0
  have hb : c.code = cL_law := hb
  obtain ⟨A, U, C, na, nu, nk, X, B, E, M, o, RV, qa, qu, qk, cO, fO, rfl, rfl, hKX, hKM, hKQ, hKO, hR, hH⟩ := hI
  have hc5 : cells ≤ 500000 ∧ slots ≤ 7000000 := ⟨by omega, by omega⟩
  obtain ⟨rx, X', rm, M', o', ex, em, hR', he⟩ := st_mark  hR
  refine lv_aload_n hx hb (zat zrL_law_17_ok 60 rfl) rfl (lv_at hl 3 rfl) ?_
  refine cx_mark C0 hKX hH hl.1 (Nat.le_of_ble_eq_true rfl) hc5 (zat zrL_law_17_ok 61 rfl) glX_mark rx X' ex (fun H locs hH => ?_)
  refine lv_pop hx hb (zat zrL_law_17_ok 62 rfl) rfl ?_
  have hH := hH.perm (cat_swap _ _ _)
  refine lv_aload_n hx hb (zat zrL_law_17_ok 63 rfl) rfl (lv_at hl 2 rfl) ?_
  refine cn_mark C0 hKM hKQ hH hl.1 (Nat.le_of_ble_eq_true rfl) hc5 (zat zrL_law_18_ok 0 rfl) glM_mark_nul glM_mark rm M' o' em (fun RV qa qu qk H locs hKQ hH => ?_)
  have hH := hH.perm (cat_swap _ _ _)
  refine lv_pop hx hb (zat zrL_law_18_ok 1 rfl) rfl ?_
  refine lv_goto (tgt := 1953) hx hb (zat zrL_law_18_ok 2 rfl) (by decide) ?_
  exact W.widen (by omega) (by omega) (kk H locs ⟨A, U, C, na, nu, nk, X', B, E, M', o', RV, qa, qu, qk, cO, fO, rfl, rfl, hKX, hKM, hKQ, hKO, hR', hH⟩ ls hl)
set_option maxHeartbeats 1000000 in
set_option maxRecDepth 20000 in
theorem lc_46 {p : Program} {l : Launch} {e : Env} {s : State} {m : MethodId} {below : List Frame} {meth : Method} {c : Code} {b L : Nat} {xs : Nat → Int32} {H : Heap} {locs : List Loc} {cells slots : Nat} {Q : State → Prop} {dC : Nat → ClassId} {dI : Nat → Nat → Nat} (C0 : LW p l s m meth c b L xs) (hL : L ≤ 3072) {n : Nat} (hn : n + 6 ≤ L) {h0 g0 q9 : Nat} (hI : LI (dC, dI) s h0 g0 q9 H locs) (hcs : cells ≤ 400000 ∧ slots ≤ 6000000) (ls : Array Slot) (hl : lv_has ls 7 [(4, .int (nI n)), (3, .ref q9), (2, .ref g0), (1, .ref h0), (0, .ref b)])
    (kk : ∀ (H : Heap) (locs : List Loc), LI (dC, dI) s h0 g0 q9 H locs → ∀ ls : Array Slot, lv_has ls 7 [(4, .int (nI n)), (3, .ref q9), (2, .ref g0), (1, .ref h0), (0, .ref b)] → W p l e room_1 s m #[Value.ref b] below meth c H locs (cells + 50) (slots + 300) Q (F0 m 1953 ls [])) : W p l e room_1 s m #[Value.ref b] below meth c H locs cells slots Q (F0 m 1862 ls []) := by
  obtain ⟨⟨hx, hb, -⟩, -⟩ := id C0
  have hb : c.code = cL_law := hb
  obtain ⟨A, U, C, na, nu, nk, X, B, E, M, o, RV, qa, qu, qk, cO, fO, rfl, rfl, hKX, hKM, hKQ, hKO, hR, hH⟩ := hI
  have hc5 : cells ≤ 500000 ∧ slots ≤ 7000000 := ⟨by omega, by omega⟩
  obtain ⟨rx, X', rm, M', o', ex, em, hR', he⟩ := st_back (k1 := xs (n + 1)) hR
  refine lv_aload_n hx hb (zat zrL_law_18_ok 3 rfl) rfl (lv_at hl 3 rfl) ?_
  refine ld_a C0 hH.2.2 (lv_at hl 4 rfl) (lv_at hl 0 rfl) (show n + 1 < L by omega) hL rfl (zat zrL_law_18_ok 4 rfl) (zat zrL_law_18_ok 5 rfl) (zat zrL_law_18_ok 6 rfl) (zat zrL_law_18_ok 7 rfl) (zat zrL_law_18_ok 8 rfl) ?_
  refine cx_back C0 hKX hH hl.1 (Nat.le_of_ble_eq_true rfl) hc5 (zat zrL_law_18_ok 9 rfl) glX_back rx X' ex (fun H locs hH => ?_)
  refine lv_pop hx hb (zat zrL_law_18_ok 10 rfl) rfl ?_
  have hH := hH.perm (cat_swap _ _ _)
  refine lv_aload_n hx hb (zat zrL_law_18_ok 11 rfl) rfl (lv_at hl 2 rfl) ?_
  refine ld_a C0 hH.2.2 (lv_at hl 4 rfl) (lv_at hl 0 rfl) (show n + 1 < L by omega) hL rfl (zat zrL_law_18_ok 12 rfl) (zat zrL_law_18_ok 13 rfl) (zat zrL_law_18_ok 14 rfl) (zat zrL_law_18_ok 15 rfl) (zat zrL_law_18_ok 16 rfl) ?_
  refine cn_back C0 hKM hKQ hH hl.1 (Nat.le_of_ble_eq_true rfl) hc5 (zat zrL_law_18_ok 17 rfl) glM_back_nul glM_back rm M' o' em (fun RV qa qu qk H locs hKQ hH => ?_)
  have hH := hH.perm (cat_swap _ _ _)
  refine lv_pop hx hb (zat zrL_law_18_ok 18 rfl) rfl ?_
  refine lv_goto (tgt := 1953) hx hb (zat zrL_law_18_ok 19 rfl) (by decide) ?_
  exact W.widen (by omega) (by omega) (kk H locs ⟨A, U, C, na, nu, nk, X', B, E, M', o', RV, qa, qu, qk, cO, fO, rfl, rfl, hKX, hKM, hKQ, hKO, hR', hH⟩ ls hl)
set_option maxHeartbeats 1000000 in
set_option maxRecDepth 20000 in
theorem lc_48 {p : Program} {l : Launch} {e : Env} {s : State} {m : MethodId} {below : List Frame} {meth : Method} {c : Code} {b L : Nat} {xs : Nat → Int32} {H : Heap} {locs : List Loc} {cells slots : Nat} {Q : State → Prop} {dC : Nat → ClassId} {dI : Nat → Nat → Nat} (C0 : LW p l s m meth c b L xs) (hL : L ≤ 3072) {n : Nat} (hn : n + 6 ≤ L) {h0 g0 q9 : Nat} (hI : LI (dC, dI) s h0 g0 q9 H locs) (hcs : cells ≤ 400000 ∧ slots ≤ 6000000) (ls : Array Slot) (hl : lv_has ls 7 [(4, .int (nI n)), (3, .ref q9), (2, .ref g0), (1, .ref h0), (0, .ref b)])
    (kk : ∀ (H : Heap) (locs : List Loc), LI (dC, dI) s h0 g0 q9 H locs → ∀ ls : Array Slot, lv_has ls 7 [(4, .int (nI n)), (3, .ref q9), (2, .ref g0), (1, .ref h0), (0, .ref b)] → W p l e room_1 s m #[Value.ref b] below meth c H locs (cells + 50) (slots + 300) Q (F0 m 1953 ls [])) : W p l e room_1 s m #[Value.ref b] below meth c H locs cells slots Q (F0 m 1915 ls []) := by
  obtain ⟨⟨hx, hb, -⟩, -⟩ := id C0
  have hb : c.code = cL_law := hb
  obtain ⟨A, U, C, na, nu, nk, X, B, E, M, o, RV, qa, qu, qk, cO, fO, rfl, rfl, hKX, hKM, hKQ, hKO, hR, hH⟩ := hI
  have hc5 : cells ≤ 500000 ∧ slots ≤ 7000000 := ⟨by omega, by omega⟩
  obtain ⟨rx, X', rm, M', o', ex, em, hR', he⟩ := st_size (k1 := xs (n + 1)) hR
  refine lv_aload_n hx hb (zat zrL_law_18_ok 38 rfl) rfl (lv_at hl 3 rfl) ?_
  refine ld_a C0 hH.2.2 (lv_at hl 4 rfl) (lv_at hl 0 rfl) (show n + 1 < L by omega) hL rfl (zat zrL_law_18_ok 39 rfl) (zat zrL_law_18_ok 40 rfl) (zat zrL_law_18_ok 41 rfl) (zat zrL_law_18_ok 42 rfl) (zat zrL_law_18_ok 43 rfl) ?_
  refine cx_size C0 hKX hH hl.1 (Nat.le_of_ble_eq_true rfl) hc5 (zat zrL_law_18_ok 44 rfl) glX_size rx X' ex (fun H locs hH => ?_)
  refine lv_pop hx hb (zat zrL_law_18_ok 45 rfl) rfl ?_
  have hH := hH.perm (cat_swap _ _ _)
  refine lv_aload_n hx hb (zat zrL_law_18_ok 46 rfl) rfl (lv_at hl 2 rfl) ?_
  refine ld_a C0 hH.2.2 (lv_at hl 4 rfl) (lv_at hl 0 rfl) (show n + 1 < L by omega) hL rfl (zat zrL_law_18_ok 47 rfl) (zat zrL_law_18_ok 48 rfl) (zat zrL_law_18_ok 49 rfl) (zat zrL_law_18_ok 50 rfl) (zat zrL_law_18_ok 51 rfl) ?_
  refine cn_size C0 hKM hKQ hH hl.1 (Nat.le_of_ble_eq_true rfl) hc5 (zat zrL_law_18_ok 52 rfl) glM_size_nul glM_size rm M' o' em (fun RV qa qu qk H locs hKQ hH => ?_)
  have hH := hH.perm (cat_swap _ _ _)
  refine lv_pop hx hb (zat zrL_law_18_ok 53 rfl) rfl ?_
  refine lv_goto (tgt := 1953) hx hb (zat zrL_law_18_ok 54 rfl) (by decide) ?_
  exact W.widen (by omega) (by omega) (kk H locs ⟨A, U, C, na, nu, nk, X', B, E, M', o', RV, qa, qu, qk, cO, fO, rfl, rfl, hKX, hKM, hKQ, hKO, hR', hH⟩ ls hl)
set_option maxHeartbeats 1000000 in
set_option maxRecDepth 20000 in
theorem lc_49 {p : Program} {l : Launch} {e : Env} {s : State} {m : MethodId} {below : List Frame} {meth : Method} {c : Code} {b L : Nat} {xs : Nat → Int32} {H : Heap} {locs : List Loc} {cells slots : Nat} {Q : State → Prop} {dC : Nat → ClassId} {dI : Nat → Nat → Nat} (C0 : LW p l s m meth c b L xs) (hL : L ≤ 3072) {n : Nat} (hn : n + 6 ≤ L) {h0 g0 q9 : Nat} (hI : LI (dC, dI) s h0 g0 q9 H locs) (hcs : cells ≤ 400000 ∧ slots ≤ 6000000) (ls : Array Slot) (hl : lv_has ls 7 [(4, .int (nI n)), (3, .ref q9), (2, .ref g0), (1, .ref h0), (0, .ref b)])
    (kk : ∀ (H : Heap) (locs : List Loc), LI (dC, dI) s h0 g0 q9 H locs → ∀ ls : Array Slot, lv_has ls 7 [(4, .int (nI n)), (3, .ref q9), (2, .ref g0), (1, .ref h0), (0, .ref b)] → W p l e room_1 s m #[Value.ref b] below meth c H locs (cells + 50) (slots + 300) Q (F0 m 1953 ls [])) : W p l e room_1 s m #[Value.ref b] below meth c H locs cells slots Q (F0 m 1940 ls []) := by
  obtain ⟨⟨hx, hb, -⟩, -⟩ := id C0
  have hb : c.code = cL_law := hb
  obtain ⟨A, U, C, na, nu, nk, X, B, E, M, o, RV, qa, qu, qk, cO, fO, rfl, rfl, hKX, hKM, hKQ, hKO, hR, hH⟩ := hI
  have hc5 : cells ≤ 500000 ∧ slots ≤ 7000000 := ⟨by omega, by omega⟩
  obtain ⟨rx, X', rm, M', o', ex, em, hR', he⟩ := st_trouble  hR
  refine lv_aload_n hx hb (zat zrL_law_18_ok 55 rfl) rfl (lv_at hl 3 rfl) ?_
  refine cx_trouble C0 hKX hH hl.1 (Nat.le_of_ble_eq_true rfl) hc5 (zat zrL_law_18_ok 56 rfl) glX_trouble rx X' ex (fun H locs hH => ?_)
  refine lv_pop hx hb (zat zrL_law_18_ok 57 rfl) rfl ?_
  have hH := hH.perm (cat_swap _ _ _)
  refine lv_aload_n hx hb (zat zrL_law_18_ok 58 rfl) rfl (lv_at hl 2 rfl) ?_
  refine cn_trouble C0 hKM hKQ hH hl.1 (Nat.le_of_ble_eq_true rfl) hc5 (zat zrL_law_18_ok 59 rfl) glM_trouble rm M' o' em (fun RV qa qu qk H locs hKQ hH => ?_)
  have hH := hH.perm (cat_swap _ _ _)
  refine lv_pop hx hb (zat zrL_law_18_ok 60 rfl) rfl ?_
  refine lv_goto (tgt := 1953) hx hb (zat zrL_law_18_ok 61 rfl) (by decide) ?_
  exact W.widen (by omega) (by omega) (kk H locs ⟨A, U, C, na, nu, nk, X', B, E, M', o', RV, qa, qu, qk, cO, fO, rfl, rfl, hKX, hKM, hKQ, hKO, hR', hH⟩ ls hl)
