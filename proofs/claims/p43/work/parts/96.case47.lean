theorem oxG_in : ∀ w ∈ oxG, w ∈ lw_tbl := by decide +kernel
theorem ledB_in : ∀ w ∈ ledB, w ∈ lw_tbl := by decide +kernel
set_option maxRecDepth 20000 in
theorem tX10_led : ∀ w ∈ vX10_led, w ∈ lw_tbl := List.forall_mem_cons.mpr ⟨mem_1 5 88 (by decide +kernel), List.forall_mem_append.mpr ⟨mem_c (ws := [.classLink RX10 371 "java/util/NoSuchElementException", .initialized "java/util/NoSuchElementException", .fieldLink RX10 10 "HookPier" "plan" "LHookPier$Plan;", .fieldLink RX10 96 "HookPier$Plan" "answers" "I", .fieldLink RX10 29 "HookPier" "now" "LHookPier$Now;", .fieldLink RX10 125 "HookPier$Now" "stage" "[I"]) [(5, 89), (1, 24), (2, 78), (1, 62), (2, 81), (1, 210)] (by decide +kernel), List.forall_mem_append.mpr ⟨lwt_X10, List.forall_mem_append.mpr ⟨lwt_X6, List.forall_mem_append.mpr ⟨lwt_X4, oxG_in⟩⟩⟩⟩⟩
set_option maxRecDepth 20000 in
theorem tL_led : ∀ w ∈ vL_led, w ∈ lw_tbl := List.forall_mem_cons.mpr ⟨mem_1 5 83 (by decide +kernel), List.forall_mem_append.mpr ⟨mem_c (ws := [.classLink RL 13 "java/util/NoSuchElementException", .methodLink RL 7 yX10_led, .instanceMethod yX10_led, .selects RX10 yX10_led yX10_led, .initialized RX10]) [(5, 84), (5, 85), (5, 86), (5, 87), (1, 1)] (by decide +kernel), List.forall_mem_append.mpr ⟨lwt_X10, tX10_led⟩⟩⟩
set_option maxRecDepth 20000 in
theorem qL_led : Good vL_led := gd_cons (by decide +kernel) (gd_app (gd_dec (by decide +kernel)) (gd_app qsX10 qX10_led))
set_option maxRecDepth 20000 in
theorem gl_led : GoodIn lw_tbl (va_wsS RL 220 yL_led vL_led) := goodIn_app (goodIn_m (mem_c (ws := [.methodLink RL 220 yL_led, .static yL_led, .initialized RL]) [(5, 81), (5, 82), (1, 0)] (by decide +kernel)) (gd_dec (by decide +kernel))) (goodIn_m tL_led qL_led)
theorem cat3 (a b : List va_W) (r : va_W) : (cat a (cat b r)).Perm (cat (a ++ [r]) (cat b [])) := by
  rw [cat_eq, cat_eq, cat_eq, cat_eq, List.append_nil, List.flatten_append, List.append_assoc]
  refine List.Perm.append_left _ ?_
  simpa using List.perm_append_comm
theorem cat3r (a b : List va_W) (r : va_W) : (cat (a ++ [r]) (cat b [])).Perm (cat a (cat b r)) := (cat3 a b r).symm
section LAWZ
variable {p : Program} {l : Launch} {e : Env} {s : State} {m : MethodId} {below : List Frame} {meth : Method} {c : Code} {b L : Nat} {xs : Nat → Int32} {H : Heap} {locs : List Loc} {cells slots mc ms : Nat} {Q : State → Prop} {D : va_G} {wc wr : va_W} {L1 L2 : List va_W} {tys : List (ClassId × FieldType)} {pc idx n maxL : Nat} {ls : Array Slot} {rest As : List Value} {S : Type} {w1 : S → va_W} {L1' : S → List va_W} {tys1 : S → List (ClassId × FieldType)} {y : MethodName} {vf vf' : List Cond} {rm : Room} {bytes : ByteArray} {ret : Option FieldType} {hh : List (Nat × Nat × Nat × Nat)}
theorem law_z (C0 : LW p l s m meth c b L xs) {post : Int32 → S → Prop} (hM : Met l y vf rm (PCZ D As H.size wc tys) (va_Qi post (fun u t => BC D (va_A wc H.size) (w1 u) (tys1 u) t) (va_A wc H.size)) mc ms (va_A wc H.size)) (hG : GoodIn lw_tbl (va_wsS RL idx y vf)) (hvf : vf = Cond.codeWith y bytes maxL ret hh :: vf') (hrc : rm.cells = mc) (hrs : rm.slots = ms) (hd : y.cls ≠ "java/lang/invoke/MethodHandle" ∧ y.cls ≠ "java/lang/invoke/VarHandle" ∧ (parseMethodDescriptor y.desc).map (fun d => d.parameters.length) = some n) (hR : rm.frames + 1 ≤ room_1.frames ∧ 8 + (maxL + 11) + rm.locals ≤ room_1.locals) (hm : mc ≤ 50 ∧ ms ≤ 300)
    (hwc : wc = cat L1 []) (hw1 : ∀ u, w1 u = cat (L1' u) []) (hH : HS D s (cat L1 (cat L2 wr)) H locs) (hK : va_K D vwCl tys s) (hn : As.length = n) (hls : ls.size = 7) (hW : (rest.map fun v => v.category).sum ≤ 8) (hdg : decode cL_law pc = .ok (.invokestatic idx, 3)) (hcs : cells ≤ 500000 ∧ slots ≤ 7000000)
    (kk : ∀ (r : Int32) (u : S) (H1 : Heap) (locs1 : List Loc), post r u → va_K D vwCl (tys1 u) s → HS D s (cat (L1' u) (cat L2 wr)) H1 locs1 → W p l e room_1 s m #[Value.ref b] below meth c H1 locs1 (cells + mc) (slots + ms) Q (F0 m (pc + 3) ls (.int r :: rest))) : W p l e room_1 s m #[Value.ref b] below meth c H locs cells slots Q (F0 m pc ls (As.reverse ++ rest)) := by
  obtain ⟨⟨hx, hb, hr, hml, hown, htb, hX, hbl, hlocks, hgv⟩, hN, -, -⟩ := C0
  have hb : c.code = cL_law := hb
  have hown : s.vm.findClass RL = some m.cls := hown
  have hLB : LB s := fun w hw => va_Nw.of (List.all_eq_true.mp ledB_tab w hw) (htb w (ledB_in w hw))
  have hU : vx_Zq Bundle.tN "UNASSIGNED_STACK" Bundle.steD (fun q : Nat => s.heap.size ≤ q) s s.heap := vx_Zqof (htb (.laysStatic Bundle.tN "UNASSIGNED_STACK" Bundle.steD) (by decide +kernel)) (htb (.initialized Bundle.tN) (by decide +kernel)) (flat_of_before _ hgv (.isRef (.static Bundle.tN "UNASSIGNED_STACK" Bundle.steD)) (by decide +kernel)) (fun a h => Nat.not_le.mpr h)
  have hV : vx_Zq Bundle.tN "SUPPRESSED_SENTINEL" Bundle.listD (fun q : Nat => s.heap.size ≤ q) s s.heap := vx_Zqof (htb (.laysStatic Bundle.tN "SUPPRESSED_SENTINEL" Bundle.listD) (by decide +kernel)) (htb (.initialized Bundle.tN) (by decide +kernel)) (flat_of_before _ hgv (.isRef (.static Bundle.tN "SUPPRESSED_SENTINEL" Bundle.listD)) (by decide +kernel)) (fun a h => Nat.not_le.mpr h)
  rw [cat_nil, ← hwc] at hH
  obtain ⟨hP, hD, hS⟩ := hH
  have hF := hs_free hD hS (fun _ h => h)
  have h1 := room_c
  have h2 := room_s
  refine va_calli (vx_runSW (As := As) (rest := rest) ⟨hx, hb, hml, hown, htb⟩ hM (vx_cwSW n htb hG hvf hrc hrs hd hR) (PSZ (vP_left hP) hK (vD_left hD) hN hF (vx_Zq.kept hU hS.2.1) (vx_Zq.kept hV hS.2.1) hLB) rfl hn hls rfl (lv_room hW) hdg ⟨by omega, by omega⟩) hS (fun q _ h => hF q h) hF (fun r u t H1 locs1 ht hvm hw hB hz hk hS1 => ?_)
  obtain ⟨hP1, hK1, hD1⟩ := hB
  rw [ht] at hP1
  obtain ⟨hP2, hD2⟩ := hs_join hP hD hk hF hP1 hD1
  refine kk r u H1 locs1 hw (va_K.moved hvm.symm hK1) ?_
  rw [cat_nil, ← hw1 u]
  exact ⟨hP2.perm List.perm_append_comm, hD2.perm List.perm_append_comm, hS1⟩
end LAWZ
set_option maxHeartbeats 1000000 in
set_option maxRecDepth 20000 in
theorem lc_47 {p : Program} {l : Launch} {e : Env} {s : State} {m : MethodId} {below : List Frame} {meth : Method} {c : Code} {b L : Nat} {xs : Nat → Int32} {H : Heap} {locs : List Loc} {cells slots : Nat} {Q : State → Prop} {dC : Nat → ClassId} {dI : Nat → Nat → Nat} (C0 : LW p l s m meth c b L xs) (hL : L ≤ 3072) {n : Nat} (hn : n + 6 ≤ L) {h0 g0 q9 : Nat} (hI : LI (dC, dI) s h0 g0 q9 H locs) (hcs : cells ≤ 400000 ∧ slots ≤ 6000000) (ls : Array Slot) (hl : lv_has ls 7 [(4, .int (nI n)), (3, .ref q9), (2, .ref g0), (1, .ref h0), (0, .ref b)])
    (kk : ∀ (H : Heap) (locs : List Loc), LI (dC, dI) s h0 g0 q9 H locs → ∀ ls : Array Slot, lv_has ls 7 [(4, .int (nI n)), (3, .ref q9), (2, .ref g0), (1, .ref h0), (0, .ref b)] → W p l e room_1 s m #[Value.ref b] below meth c H locs (cells + 50) (slots + 300) Q (F0 m 1953 ls [])) : W p l e room_1 s m #[Value.ref b] below meth c H locs cells slots Q (F0 m 1887 ls []) := by
  obtain ⟨⟨hx, hb, -⟩, -, -, hl0⟩ := id C0
  have hb : c.code = cL_law := hb
  obtain ⟨A, U, C, na, nu, nk, X, B, E, M, o, RV, qa, qu, qk, cO, fO, rfl, rfl, hKX, hKM, hKQ, hKO, hR, hH⟩ := hI
  have hc5 : cells ≤ 500000 ∧ slots ≤ 7000000 := ⟨by omega, by omega⟩
  obtain ⟨an, han, ean, rm, M', em, hR'⟩ := st_led (k1 := xs (n + 1)) hR
  have hKX0 := hKX
  obtain ⟨hK1, hK2, hK3, hK4, hK9, hK10, hK6, hK7, hK11, hK12, hKp⟩ := hKX
  refine lv_aload_n hx hb (zat zrL_law_18_ok 20 rfl) rfl (lv_at hl 3 rfl) ?_
  refine ld_a C0 hH.2.2 (lv_at hl 4 rfl) (lv_at hl 0 rfl) (show n + 1 < L by omega) hL rfl (zat zrL_law_18_ok 21 rfl) (zat zrL_law_18_ok 22 rfl) (zat zrL_law_18_ok 23 rfl) (zat zrL_law_18_ok 24 rfl) (zat zrL_law_18_ok 25 rfl) ?_
  refine lv_aload_n hx hb (zat zrL_law_18_ok 26 rfl) rfl (lv_at hl 1 rfl) ?_
  have hH := hH.perm (cat3 _ _ _)
  have hH := hH.perm (pm2 15 (wX A U C na nu nk X ++ [[(q9, .inl (cO, 1, .inr (.inl fO)))]]) [0, 1, 4, 14, 2, 3, 5, 6, 7, 8, 9, 10, 11, 12, 13] _ [xo A X.1, bX6 (A 1) (U 1) (C 1) X.2.1 [], bX4 (A 4) (U 4) (C 4) X.2.2.2.2.1 [], [(q9, .inl (cO, 1, .inr (.inl fO)))]] [bX6 (A 2) (U 2) (C 2) X.2.2.1 [], bX7 (A 3) (U 3) (C 3) X.2.2.2.1 [], hio A X.2.2.2.2.2.1, kao A C na, mao A C na, bX8 (A 6) (U 6) (C 6) X.2.2.2.2.2.2.2.1 [], bX0 (A 7) (U 7) (C 7) X.2.2.2.2.2.2.2.2.1 [], dyo A X.2.2.2.2.2.2.2.2.2.1, dao A C X.2.2.2.2.2.2.2.2.2.1, bX4 (A 12) (U 12) (C 12) X.2.2.2.2.2.2.2.2.2.2 [], pool na nu nk X.2.2.2.2.2.2.1] rfl (by decide) rfl)
  refine law_z (n := 3) (As := [.ref (A 0), .int (xs (n + 1)), .ref q9]) (L1 := [xo A X.1, bX6 (A 1) (U 1) (C 1) X.2.1 [], bX4 (A 4) (U 4) (C 4) X.2.2.2.2.1 [], [(q9, .inl (cO, 1, .inr (.inl fO)))]]) (L1' := fun u => [xo A X.1, bX6 (A 1) (U 1) (C 1) X.2.1 [], bX4 (A 4) (U 4) (C 4) X.2.2.2.2.1 [], [(q9, .inl (cO, 1, .inr (.inl u)))]]) (L2 := [bX6 (A 2) (U 2) (C 2) X.2.2.1 [], bX7 (A 3) (U 3) (C 3) X.2.2.2.1 [], hio A X.2.2.2.2.2.1, kao A C na, mao A C na, bX8 (A 6) (U 6) (C 6) X.2.2.2.2.2.2.2.1 [], bX0 (A 7) (U 7) (C 7) X.2.2.2.2.2.2.2.2.1 [], dyo A X.2.2.2.2.2.2.2.2.2.1, dao A C X.2.2.2.2.2.2.2.2.2.1, bX4 (A 12) (U 12) (C 12) X.2.2.2.2.2.2.2.2.2.2 [], pool na nu nk X.2.2.2.2.2.2.1]) C0 (kL_led l hl0 dC dI (A 0) (xs (n + 1)) q9 (A 1) (A 4) (U 1) (C 1) (U 4) (C 4) (.ref (A 2)) (.ref (A 3)) (.ref (A 5)) (.ref (A 6)) (.ref (A 7)) (.ref (A 8)) (.int X.1.1) (.int X.1.2) X.2.1 X.2.2.2.2.1 cO fO an ean han _ rfl H.size) gl_led rfl rfl rfl (by decide +kernel) ⟨Nat.le_of_ble_eq_true rfl, Nat.le_of_ble_eq_true rfl⟩ ⟨by decide, by decide⟩ rfl (fun _ => rfl) hH (hK1.app (hK4.app hKO)) rfl hl.1 (Nat.le_of_ble_eq_true rfl) (zat zrL_law_18_ok 27 rfl) hc5 (fun r u H locs hw _ hH => ?_)
  have hH := hH.perm (pm3 15 (wX A U C na nu nk X ++ [[(q9, .inl (cO, 1, .inr (.inl u)))]]) [0, 1, 4, 5, 2, 6, 7, 8, 9, 10, 11, 12, 13, 14, 3] _ [xo A X.1, bX6 (A 1) (U 1) (C 1) X.2.1 [], bX4 (A 4) (U 4) (C 4) X.2.2.2.2.1 [], [(q9, .inl (cO, 1, .inr (.inl u)))]] [bX6 (A 2) (U 2) (C 2) X.2.2.1 [], bX7 (A 3) (U 3) (C 3) X.2.2.2.1 [], hio A X.2.2.2.2.2.1, kao A C na, mao A C na, bX8 (A 6) (U 6) (C 6) X.2.2.2.2.2.2.2.1 [], bX0 (A 7) (U 7) (C 7) X.2.2.2.2.2.2.2.2.1 [], dyo A X.2.2.2.2.2.2.2.2.2.1, dao A C X.2.2.2.2.2.2.2.2.2.1, bX4 (A 12) (U 12) (C 12) X.2.2.2.2.2.2.2.2.2.2 [], pool na nu nk X.2.2.2.2.2.2.1] rfl (by decide) rfl)
  have hH := hH.perm (cat3r _ _ _)
  refine lv_istore (lv' := [(5, .int r), (4, .int (nI n)), (3, .ref q9), (2, .ref (B 0)), (1, .ref (A 0)), (0, .ref b)]) hx hb (zat zrL_law_18_ok 28 rfl) hl (by decide) rfl (fun ls hl => ?_)
  have hH := hH.perm (cat_swap _ _ _)
  refine lv_aload_n hx hb (zat zrL_law_18_ok 29 rfl) rfl (lv_at hl 3 rfl) ?_
  refine ld_a C0 hH.2.2 (lv_at hl 5 rfl) (lv_at hl 1 rfl) (show n + 1 < L by omega) hL rfl (zat zrL_law_18_ok 30 rfl) (zat zrL_law_18_ok 31 rfl) (zat zrL_law_18_ok 32 rfl) (zat zrL_law_18_ok 33 rfl) (zat zrL_law_18_ok 34 rfl) ?_
  refine cn_led C0 hKM hKQ hH hl.1 (Nat.le_of_ble_eq_true rfl) ⟨by omega, by omega⟩ (zat zrL_law_18_ok 35 rfl) glM_led_nul glM_led rm M' o em (fun RV qa qu qk H locs hKQ hH => ?_)
  have hH := hH.perm (cat_swap _ _ _)
  refine lv_istore (lv' := [(6, .int rm), (5, .int r), (4, .int (nI n)), (3, .ref q9), (2, .ref (B 0)), (1, .ref (A 0)), (0, .ref b)]) hx hb (zat zrL_law_18_ok 36 rfl) hl (by decide) rfl (fun ls hl => ?_)
  refine lv_goto (tgt := 1953) hx hb (zat zrL_law_18_ok 37 rfl) (by decide) ?_
  exact W.widen (by omega) (by omega) (kk H locs ⟨A, U, C, na, nu, nk, X, B, E, M', o, RV, qa, qu, qk, cO, u, rfl, rfl, hKX0, hKM, hKQ, hKO, hR', hH⟩ ls (lv_sub hl [2, 3, 4, 5, 6] rfl))
