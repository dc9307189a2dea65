set_option maxHeartbeats 2000000 in
set_option maxRecDepth 20000 in
/-- THE LAW's loop -/
theorem law_loop {p : Program} {l : Launch} {e : Env} {s : State} {m : MethodId} {below : List Frame} {meth : Method} {c : Code} {b L : Nat} {xs : Nat → Int32} {dC : Nat → ClassId} {dI : Nat → Nat → Nat} (C0 : LW p l s m meth c b L xs) (hL : L ≤ 3072) {h0 g0 q9 : Nat} : ∀ (k j : Nat) (H : Heap) (locs : List Loc) (ls : Array Slot), 512 ≤ j + k → j ≤ 512 → LI (dC, dI) s h0 g0 q9 H locs → lv_has ls 7 [(4, .int (nI (6 * j))), (3, .ref q9), (2, .ref g0), (1, .ref h0), (0, .ref b)] → W p l e room_1 s m #[Value.ref b] below meth c H locs (1000 + 50 * j) (10000 + 300 * j) (lw_Z below #[Value.ref b] s) (F0 m 23 ls []) := by
  obtain ⟨⟨hx, hb, hr, hml, hown, htb, hX, hbl, hlocks, hgv⟩, hN, hE, hl0⟩ := id C0
  have hb : c.code = cL_law := hb
  have hbA : ¬ (fun q : Nat => s.heap.size ≤ q) b := Nat.not_le.mpr hbl
  intro k
  induction k with
  | zero =>
    intro j H locs ls hk hj hI hl
    obtain ⟨A, U, C, na, nu, nk, X, B, E, M, o, RV, qa, qu, qk, cO, fO, -, -, -, -, -, -, -, hH⟩ := id hI
    have hS := hH.2.2
    refine lv_iload hx hb (zat zrL_law_0_ok 13 rfl) (lv_at hl 0 rfl) ?_
    refine lv_aload_n hx hb (zat zrL_law_0_ok 14 rfl) rfl (lv_at hl 4 rfl) ?_
    refine va_slen hx hb hX hbl hbA hS (zat zrL_law_0_ok 15 rfl) ?_
    refine lv_bipush (v := 6) hx hb (zat zrL_law_0_ok 16 rfl) (by decide) ?_
    refine lv_isub hx hb (zat zrL_law_0_ok 17 rfl) ?_
    refine lv_topi (fun z1 e1 => ?_)
    have ez : z1.toInt = (L : Int) - 6 := by
      have h1 : (nI L).toInt = (L : Int) := nI_toInt (by omega)
      rw [e1]
      show (nI L - 6).toInt = _
      rw [isub_t (by rw [h1, ltv_6]; omega) (by rw [h1, ltv_6]; omega), h1, ltv_6]
    refine lv_icmp_gt (tgt := 1959) hx hb (zat zrL_law_0_ok 18 rfl) (by decide) (fun _ => ?_) (fun c1 => absurd (show z1 < nI (6 * j) by rw [fa_lt, ez, nI_toInt (by omega)]; omega) c1)
    refine lv_iconst (v := 1) hx hb (zat zrL_law_19_ok 0 rfl) (by decide) ?_
    refine va_forget (fun q hq => hS.2.2 q hq) ?_
    refine W.widen (k := 601024) (n := 7293034) (by omega) (by omega) ?_
    exact lw_ret hx hb hr hlocks (zat zrL_law_19_ok 1 rfl)
  | succ k ih =>
    intro j H locs ls hk hj hI hl
    obtain ⟨A, U, C, na, nu, nk, X, B, E, M, o, RV, qa, qu, qk, cO, fO, -, -, -, -, -, -, -, hH⟩ := id hI
    have hS := hH.2.2
    refine lv_iload hx hb (zat zrL_law_0_ok 13 rfl) (lv_at hl 0 rfl) ?_
    refine lv_aload_n hx hb (zat zrL_law_0_ok 14 rfl) rfl (lv_at hl 4 rfl) ?_
    refine va_slen hx hb hX hbl hbA hS (zat zrL_law_0_ok 15 rfl) ?_
    refine lv_bipush (v := 6) hx hb (zat zrL_law_0_ok 16 rfl) (by decide) ?_
    refine lv_isub hx hb (zat zrL_law_0_ok 17 rfl) ?_
    refine lv_topi (fun z1 e1 => ?_)
    have ez : z1.toInt = (L : Int) - 6 := by
      have h1 : (nI L).toInt = (L : Int) := nI_toInt (by omega)
      rw [e1]
      show (nI L - 6).toInt = _
      rw [isub_t (by rw [h1, ltv_6]; omega) (by rw [h1, ltv_6]; omega), h1, ltv_6]
    refine lv_icmp_gt (tgt := 1959) hx hb (zat zrL_law_0_ok 18 rfl) (by decide) (fun _ => ?_) (fun c1 => ?_)
    · refine lv_iconst (v := 1) hx hb (zat zrL_law_19_ok 0 rfl) (by decide) ?_
      refine va_forget (fun q hq => hS.2.2 q hq) ?_
      refine W.widen (k := 601024) (n := 7293034) (by omega) (by omega) ?_
      exact lw_ret hx hb hr hlocks (zat zrL_law_19_ok 1 rfl)
    have hn : 6 * j + 6 ≤ L := by
      rw [fa_lt, ez, nI_toInt (by omega)] at c1
      omega
    have next : ∀ (H : Heap) (locs : List Loc), LI (dC, dI) s h0 g0 q9 H locs → ∀ ls : Array Slot, lv_has ls 7 [(4, .int (nI (6 * j))), (3, .ref q9), (2, .ref g0), (1, .ref h0), (0, .ref b)] → W p l e room_1 s m #[Value.ref b] below meth c H locs (1000 + 50 * j + 50) (10000 + 300 * j + 300) (lw_Z below #[Value.ref b] s) (F0 m 1953 ls []) := by
      intro H locs hI ls hl
      refine lv_iinc (v := nI (6 * (j + 1))) (lv' := [(4, .int (nI (6 * (j + 1)))), (3, .ref q9), (2, .ref g0), (1, .ref h0), (0, .ref b)]) hx hb (zat zrL_law_18_ok 62 rfl) hl (k := 0) rfl (nI_add (6 * j) 6) (by decide) rfl (fun ls hl => ?_)
      refine lv_goto (tgt := 23) hx hb (zat zrL_law_18_ok 63 rfl) (by decide) ?_
      exact W.widen (by omega) (by omega) (ih (j + 1) H locs ls (by omega) (by omega) hI hl)
    have hcs : 1000 + 50 * j ≤ 400000 ∧ 10000 + 300 * j ≤ 6000000 := ⟨by omega, by omega⟩
    refine lv_aload_n hx hb (zat zrL_law_0_ok 19 rfl) rfl (lv_at hl 4 rfl) ?_
    refine lv_iload hx hb (zat zrL_law_0_ok 20 rfl) (lv_at hl 0 rfl) ?_
    refine va_sld hx hb hX hbl hbA hS (vp_in_nI (show 6 * j < L by omega) (by omega)) (zat zrL_law_0_ok 21 rfl) ?_
    refine lv_bipush (v := 63) hx hb (zat zrL_law_0_ok 22 rfl) (by decide) ?_
    refine lv_iand hx hb (zat zrL_law_0_ok 23 rfl) ?_
    refine lv_topi (fun z2 e2 => ?_)
    obtain ⟨i, hi, ei⟩ := pk_andE (xs (nI (6 * j)).toNatClampNeg) (m := 63) 6 (by decide)
    have hi : i < 64 := hi
    rcases (show i = 0 ∨ i = 1 ∨ i = 2 ∨ i = 3 ∨ i = 4 ∨ i = 5 ∨ i = 6 ∨ i = 7 ∨ i = 8 ∨ i = 9 ∨ i = 10 ∨ i = 11 ∨ i = 12 ∨ i = 13 ∨ i = 14 ∨ i = 15 ∨ i = 16 ∨ i = 17 ∨ i = 18 ∨ i = 19 ∨ i = 20 ∨ i = 21 ∨ i = 22 ∨ i = 23 ∨ i = 24 ∨ i = 25 ∨ i = 26 ∨ i = 27 ∨ i = 28 ∨ i = 29 ∨ i = 30 ∨ i = 31 ∨ i = 32 ∨ i = 33 ∨ i = 34 ∨ i = 35 ∨ i = 36 ∨ i = 37 ∨ i = 38 ∨ i = 39 ∨ i = 40 ∨ i = 41 ∨ i = 42 ∨ i = 43 ∨ i = 44 ∨ i = 45 ∨ i = 46 ∨ i = 47 ∨ i = 48 ∨ i = 49 ∨ 50 ≤ i by omega) with rfl | rfl | rfl | rfl | rfl | rfl | rfl | rfl | rfl | rfl | rfl | rfl | rfl | rfl | rfl | rfl | rfl | rfl | rfl | rfl | rfl | rfl | rfl | rfl | rfl | rfl | rfl | rfl | rfl | rfl | rfl | rfl | rfl | rfl | rfl | rfl | rfl | rfl | rfl | rfl | rfl | rfl | rfl | rfl | rfl | rfl | rfl | rfl | rfl | rfl | hge
    · obtain rfl : z2 = 0 := (e2.trans ei).trans (by decide)
      refine lv_tableIn (tgt := 256) hx hb dL_law_40 (by decide) (by decide) rfl (by decide) ?_
      exact lc_0 C0 hL hn hI hcs ls hl next
    · obtain rfl : z2 = 1 := (e2.trans ei).trans (by decide)
      refine lv_tableIn (tgt := 329) hx hb dL_law_40 (by decide) (by decide) rfl (by decide) ?_
      exact lc_1 C0 hL hn hI hcs ls hl next
    · obtain rfl : z2 = 2 := (e2.trans ei).trans (by decide)
      refine lv_tableIn (tgt := 354) hx hb dL_law_40 (by decide) (by decide) rfl (by decide) ?_
      exact lc_2 C0 hL hn hI hcs ls hl next
    · obtain rfl : z2 = 3 := (e2.trans ei).trans (by decide)
      refine lv_tableIn (tgt := 367) hx hb dL_law_40 (by decide) (by decide) rfl (by decide) ?_
      exact lc_3 C0 hL hn hI hcs ls hl next
    · obtain rfl : z2 = 4 := (e2.trans ei).trans (by decide)
      refine lv_tableIn (tgt := 380) hx hb dL_law_40 (by decide) (by decide) rfl (by decide) ?_
      exact lc_4 C0 hL hn hI hcs ls hl next
    · obtain rfl : z2 = 5 := (e2.trans ei).trans (by decide)
      refine lv_tableIn (tgt := 417) hx hb dL_law_40 (by decide) (by decide) rfl (by decide) ?_
      exact lc_5 C0 hL hn hI hcs ls hl next
    · obtain rfl : z2 = 6 := (e2.trans ei).trans (by decide)
      refine lv_tableIn (tgt := 454) hx hb dL_law_40 (by decide) (by decide) rfl (by decide) ?_
      exact lc_6 C0 hL hn hI hcs ls hl next
    · obtain rfl : z2 = 7 := (e2.trans ei).trans (by decide)
      refine lv_tableIn (tgt := 479) hx hb dL_law_40 (by decide) (by decide) rfl (by decide) ?_
      exact lc_7 C0 hL hn hI hcs ls hl next
    · obtain rfl : z2 = 8 := (e2.trans ei).trans (by decide)
      refine lv_tableIn (tgt := 540) hx hb dL_law_40 (by decide) (by decide) rfl (by decide) ?_
      exact lc_8 C0 hL hn hI hcs ls hl next
    · obtain rfl : z2 = 9 := (e2.trans ei).trans (by decide)
      refine lv_tableIn (tgt := 629) hx hb dL_law_40 (by decide) (by decide) rfl (by decide) ?_
      exact lc_9 C0 hL hn hI hcs ls hl next
    · obtain rfl : z2 = 10 := (e2.trans ei).trans (by decide)
      refine lv_tableIn (tgt := 706) hx hb dL_law_40 (by decide) (by decide) rfl (by decide) ?_
      exact lc_10 C0 hL hn hI hcs ls hl next
    · obtain rfl : z2 = 11 := (e2.trans ei).trans (by decide)
      refine lv_tableIn (tgt := 783) hx hb dL_law_40 (by decide) (by decide) rfl (by decide) ?_
      exact lc_11 C0 hL hn hI hcs ls hl next
    · obtain rfl : z2 = 12 := (e2.trans ei).trans (by decide)
      refine lv_tableIn (tgt := 832) hx hb dL_law_40 (by decide) (by decide) rfl (by decide) ?_
      exact lc_12 C0 hL hn hI hcs ls hl next
    · obtain rfl : z2 = 13 := (e2.trans ei).trans (by decide)
      refine lv_tableIn (tgt := 857) hx hb dL_law_40 (by decide) (by decide) rfl (by decide) ?_
      exact lc_13 C0 hL hn hI hcs ls hl next
    · obtain rfl : z2 = 14 := (e2.trans ei).trans (by decide)
      refine lv_tableIn (tgt := 910) hx hb dL_law_40 (by decide) (by decide) rfl (by decide) ?_
      exact lc_14 C0 hL hn hI hcs ls hl next
    · obtain rfl : z2 = 15 := (e2.trans ei).trans (by decide)
      refine lv_tableIn (tgt := 923) hx hb dL_law_40 (by decide) (by decide) rfl (by decide) ?_
      exact lc_15 C0 hL hn hI hcs ls hl next
    · obtain rfl : z2 = 16 := (e2.trans ei).trans (by decide)
      refine lv_tableIn (tgt := 936) hx hb dL_law_40 (by decide) (by decide) rfl (by decide) ?_
      exact lc_16 C0 hL hn hI hcs ls hl next
    · obtain rfl : z2 = 17 := (e2.trans ei).trans (by decide)
      refine lv_tableIn (tgt := 997) hx hb dL_law_40 (by decide) (by decide) rfl (by decide) ?_
      exact lc_17 C0 hL hn hI hcs ls hl next
    · obtain rfl : z2 = 18 := (e2.trans ei).trans (by decide)
      refine lv_tableIn (tgt := 1022) hx hb dL_law_40 (by decide) (by decide) rfl (by decide) ?_
      exact lc_18 C0 hL hn hI hcs ls hl next
    · obtain rfl : z2 = 19 := (e2.trans ei).trans (by decide)
      refine lv_tableIn (tgt := 1083) hx hb dL_law_40 (by decide) (by decide) rfl (by decide) ?_
      exact lc_19 C0 hL hn hI hcs ls hl next
    · obtain rfl : z2 = 20 := (e2.trans ei).trans (by decide)
      refine lv_tableIn (tgt := 1096) hx hb dL_law_40 (by decide) (by decide) rfl (by decide) ?_
      exact lc_20 C0 hL hn hI hcs ls hl next
    · obtain rfl : z2 = 21 := (e2.trans ei).trans (by decide)
      refine lv_tableIn (tgt := 1121) hx hb dL_law_40 (by decide) (by decide) rfl (by decide) ?_
      exact lc_21 C0 hL hn hI hcs ls hl next
    · obtain rfl : z2 = 22 := (e2.trans ei).trans (by decide)
      refine lv_tableIn (tgt := 1134) hx hb dL_law_40 (by decide) (by decide) rfl (by decide) ?_
      exact lc_22 C0 hL hn hI hcs ls hl next
    · obtain rfl : z2 = 23 := (e2.trans ei).trans (by decide)
      refine lv_tableIn (tgt := 1147) hx hb dL_law_40 (by decide) (by decide) rfl (by decide) ?_
      exact lc_23 C0 hL hn hI hcs ls hl next
    · obtain rfl : z2 = 24 := (e2.trans ei).trans (by decide)
      refine lv_tableIn (tgt := 1172) hx hb dL_law_40 (by decide) (by decide) rfl (by decide) ?_
      exact lc_24 C0 hL hn hI hcs ls hl next
    · obtain rfl : z2 = 25 := (e2.trans ei).trans (by decide)
      refine lv_tableIn (tgt := 1185) hx hb dL_law_40 (by decide) (by decide) rfl (by decide) ?_
      exact lc_25 C0 hL hn hI hcs ls hl next
    · obtain rfl : z2 = 26 := (e2.trans ei).trans (by decide)
      refine lv_tableIn (tgt := 1198) hx hb dL_law_40 (by decide) (by decide) rfl (by decide) ?_
      exact lc_26 C0 hL hn hI hcs ls hl next
    · obtain rfl : z2 = 27 := (e2.trans ei).trans (by decide)
      refine lv_tableIn (tgt := 1211) hx hb dL_law_40 (by decide) (by decide) rfl (by decide) ?_
      exact lc_27 C0 hL hn hI hcs ls hl next
    · obtain rfl : z2 = 28 := (e2.trans ei).trans (by decide)
      refine lv_tableIn (tgt := 1236) hx hb dL_law_40 (by decide) (by decide) rfl (by decide) ?_
      exact lc_28 C0 hL hn hI hcs ls hl next
    · obtain rfl : z2 = 29 := (e2.trans ei).trans (by decide)
      refine lv_tableIn (tgt := 1285) hx hb dL_law_40 (by decide) (by decide) rfl (by decide) ?_
      exact lc_29 C0 hL hn hI hcs ls hl next
    · obtain rfl : z2 = 30 := (e2.trans ei).trans (by decide)
      refine lv_tableIn (tgt := 1310) hx hb dL_law_40 (by decide) (by decide) rfl (by decide) ?_
      exact lc_30 C0 hL hn hI hcs ls hl next
    · obtain rfl : z2 = 31 := (e2.trans ei).trans (by decide)
      refine lv_tableIn (tgt := 1335) hx hb dL_law_40 (by decide) (by decide) rfl (by decide) ?_
      exact lc_31 C0 hL hn hI hcs ls hl next
    · obtain rfl : z2 = 32 := (e2.trans ei).trans (by decide)
      refine lv_tableIn (tgt := 1348) hx hb dL_law_40 (by decide) (by decide) rfl (by decide) ?_
      exact lc_32 C0 hL hn hI hcs ls hl next
    · obtain rfl : z2 = 33 := (e2.trans ei).trans (by decide)
      refine lv_tableIn (tgt := 1437) hx hb dL_law_40 (by decide) (by decide) rfl (by decide) ?_
      exact lc_33 C0 hL hn hI hcs ls hl next
    · obtain rfl : z2 = 34 := (e2.trans ei).trans (by decide)
      refine lv_tableIn (tgt := 1514) hx hb dL_law_40 (by decide) (by decide) rfl (by decide) ?_
      exact lc_34 C0 hL hn hI hcs ls hl next
    · obtain rfl : z2 = 35 := (e2.trans ei).trans (by decide)
      refine lv_tableIn (tgt := 1539) hx hb dL_law_40 (by decide) (by decide) rfl (by decide) ?_
      exact lc_35 C0 hL hn hI hcs ls hl next
    · obtain rfl : z2 = 36 := (e2.trans ei).trans (by decide)
      refine lv_tableIn (tgt := 1564) hx hb dL_law_40 (by decide) (by decide) rfl (by decide) ?_
      exact lc_36 C0 hL hn hI hcs ls hl next
    · obtain rfl : z2 = 37 := (e2.trans ei).trans (by decide)
      refine lv_tableIn (tgt := 1601) hx hb dL_law_40 (by decide) (by decide) rfl (by decide) ?_
      exact lc_37 C0 hL hn hI hcs ls hl next
    · obtain rfl : z2 = 38 := (e2.trans ei).trans (by decide)
      refine lv_tableIn (tgt := 1650) hx hb dL_law_40 (by decide) (by decide) rfl (by decide) ?_
      exact lc_38 C0 hL hn hI hcs ls hl next
    · obtain rfl : z2 = 39 := (e2.trans ei).trans (by decide)
      refine lv_tableIn (tgt := 1687) hx hb dL_law_40 (by decide) (by decide) rfl (by decide) ?_
      exact lc_39 C0 hL hn hI hcs ls hl next
    · obtain rfl : z2 = 40 := (e2.trans ei).trans (by decide)
      refine lv_tableIn (tgt := 1748) hx hb dL_law_40 (by decide) (by decide) rfl (by decide) ?_
      exact lc_40 C0 hL hn hI hcs ls hl next
    · obtain rfl : z2 = 41 := (e2.trans ei).trans (by decide)
      refine lv_tableIn (tgt := 1773) hx hb dL_law_40 (by decide) (by decide) rfl (by decide) ?_
      exact lc_41 C0 hL hn hI hcs ls hl next
    · obtain rfl : z2 = 42 := (e2.trans ei).trans (by decide)
      refine lv_tableIn (tgt := 1798) hx hb dL_law_40 (by decide) (by decide) rfl (by decide) ?_
      exact lc_42 C0 hL hn hI hcs ls hl next
    · obtain rfl : z2 = 43 := (e2.trans ei).trans (by decide)
      refine lv_tableIn (tgt := 1811) hx hb dL_law_40 (by decide) (by decide) rfl (by decide) ?_
      exact lc_43 C0 hL hn hI hcs ls hl next
    · obtain rfl : z2 = 44 := (e2.trans ei).trans (by decide)
      refine lv_tableIn (tgt := 1836) hx hb dL_law_40 (by decide) (by decide) rfl (by decide) ?_
      exact lc_44 C0 hL hn hI hcs ls hl next
    · obtain rfl : z2 = 45 := (e2.trans ei).trans (by decide)
      refine lv_tableIn (tgt := 1849) hx hb dL_law_40 (by decide) (by decide) rfl (by decide) ?_
      exact lc_45 C0 hL hn hI hcs ls hl next
    · obtain rfl : z2 = 46 := (e2.trans ei).trans (by decide)
      refine lv_tableIn (tgt := 1862) hx hb dL_law_40 (by decide) (by decide) rfl (by decide) ?_
      exact lc_46 C0 hL hn hI hcs ls hl next
    · obtain rfl : z2 = 47 := (e2.trans ei).trans (by decide)
      refine lv_tableIn (tgt := 1887) hx hb dL_law_40 (by decide) (by decide) rfl (by decide) ?_
      exact lc_47 C0 hL hn hI hcs ls hl next
    · obtain rfl : z2 = 48 := (e2.trans ei).trans (by decide)
      refine lv_tableIn (tgt := 1915) hx hb dL_law_40 (by decide) (by decide) rfl (by decide) ?_
      exact lc_48 C0 hL hn hI hcs ls hl next
    · obtain rfl : z2 = 49 := (e2.trans ei).trans (by decide)
      refine lv_tableIn (tgt := 1940) hx hb dL_law_40 (by decide) (by decide) rfl (by decide) ?_
      exact lc_49 C0 hL hn hI hcs ls hl next
    · have e3 : z2 = nI i := e2.trans ei
      refine lv_tableOut (tgt := 1953) hx hb dL_law_40 (Or.inr (by rw [e3, nI_toInt (by omega)]; omega)) (by decide) ?_
      exact W.widen (by omega) (by omega) (next H locs hI ls hl)
