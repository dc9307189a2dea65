noncomputable def zrX10_hooks_0 : List ZR := zc 0 true (.aload_n 0) 1 (zc 1 true (.aload_n 0) 1 (zc 2 true (.iload_n 1) 1 (zc 3 true (.iload_n 2) 1 (zc 4 true (.iload_n 3) 1 (zc 5 true (.iload 4) 2 (zc 7 true (.invokevirtual 309) 3 (zc 10 true (.invokevirtual 79) 3 (zc 13 true (.ifCond .eq 5) 3 (zc 16 true (.iconst (-1)) 1 (zc 17 true (.ireturn) 1 (zc 18 true (.aload_n 0) 1 (zc 19 true (.getfield 10) 3 (zc 22 true (.iload_n 1) 1 (zc 23 true (.aload_n 0) 1 (zc 24 true (.getfield 29) 3 (zc 27 true (.getfield 146) 3 (zc 30 true (.iload_n 2) 1 (zc 31 true (.iaload) 1 (zc 32 true (.invokevirtual 184) 3 (zc 35 true (.istore 6) 2 (zc 37 true (.aload_n 0) 1 (zc 38 true (.getfield 10) 3 (zc 41 true (.iload_n 1) 1 (zc 42 true (.aload_n 0) 1 (zc 43 true (.getfield 29) 3 (zc 46 true (.getfield 146) 3 (zc 49 true (.iload_n 3) 1 (zc 50 true (.iaload) 1 (zc 51 true (.invokevirtual 184) 3 (zc 54 true (.istore 7) 2 (zc 56 true (.iload 6) 2 (zc 58 true (.iload 7) 2 (zc 60 true (.iadd) 1 (zc 61 true (.istore 8) 2 (zc 63 true (.iload 8) 2 (zc 65 true (.ifCond .ne 5) 3 (zc 68 true (.iconst 0) 1 (zc 69 true (.ireturn) 1 (zc 70 true (.iload 4) 2 (zc 72 true (.iload 6) 2 (zc 74 true (.imul) 1 (zc 75 true (.iload 8) 2 (zc 77 true (.idiv) 1 (zc 78 true (.istore 9) 2 (zc 80 true (.iload 4) 2 (zc 82 true (.iload 7) 2 (zc 84 true (.imul) 1 (zc 85 true (.iload 8) 2 (zc 87 true (.idiv) 1 (zc 88 true (.istore 10) 2 (zc 90 true (.iload 4) 2 (zc 92 true (.iload 9) 2 (zc 94 true (.isub) 1 (zc 95 true (.iload 10) 2 (zc 97 true (.isub) 1 (zc 98 true (.istore 11) 2 (zc 100 true (.iload 5) 2 (zc 102 true (.ifCond .eq 21) 3 (zc 105 true (.iload 6) 2 (zc 107 true (.iload 7) 2 (zc 109 true (.if_icmp .lt 8) 3 (zc 112 true (.iload 10) 2 (zc 114 true (.goto 8) 3 ([]))))))))))))))))))))))))))))))))))))))))))))))))))))))))))))))))
theorem zrX10_hooks_0_ok : zck 0 ((zby cX10_hooks).drop 0) zrX10_hooks_0 = true := by decide +kernel
noncomputable def zrX10_hooks_1 : List ZR := zc 117 true (.iload 10) 2 (zc 119 true (.iload 11) 2 (zc 121 true (.iadd) 1 (zc 122 true (.ireturn) 1 (zc 123 true (.iload 6) 2 (zc 125 true (.iload 7) 2 (zc 127 true (.if_icmp .lt 11) 3 (zc 130 true (.iload 9) 2 (zc 132 true (.iload 11) 2 (zc 134 true (.iadd) 1 (zc 135 true (.goto 5) 3 (zc 138 true (.iload 9) 2 (zc 140 true (.ireturn) 1 ([])))))))))))))
theorem zrX10_hooks_1_ok : zck 117 ((zby cX10_hooks).drop 117) zrX10_hooks_1 = true := by decide +kernel
def vfX10_hooks : List Cond := List.cons (.code yX10_hooks cX10_hooks 12 (some .int)) (apW [.methodLink RX10 309 yX10_hooksTrouble, .instanceMethod yX10_hooksTrouble, .selects RX10 yX10_hooksTrouble yX10_hooksTrouble, .initialized RX10, .methodLink RX10 79 yX10_refused, .instanceMethod yX10_refused, .selects RX10 yX10_refused yX10_refused, .fieldLink RX10 10 "HookPier" "plan" "LHookPier$Plan;", .fieldLink RX10 29 "HookPier" "now" "LHookPier$Now;", .fieldLink RX10 146 "HookPier$Now" "line" "[I", .methodLink RX10 184 yX6_wishFor, .instanceMethod yX6_wishFor, .selects RX6 yX6_wishFor yX6_wishFor, .initialized RX6] (apW wsX100 (apW wsX40 (apW vfX10_hooksTrouble (apW vfX10_refused (vfX6_wishFor))))))
theorem ifX10_hooks_X10 : ∀ w ∈ wsX100, w ∈ vfX10_hooks := fun _ h => (List.mem_cons_of_mem _ (List.mem_append_right _ (List.mem_append_left _ h)))
theorem ifX10_hooks_X4 : ∀ w ∈ wsX40, w ∈ vfX10_hooks := fun _ h => (List.mem_cons_of_mem _ (List.mem_append_right _ (List.mem_append_right _ (List.mem_append_left _ h))))
theorem qfX10_hooks : Good vfX10_hooks := gd_cons (by decide +kernel) (gd_app (gd_dec (by decide +kernel) : Good [.methodLink RX10 309 yX10_hooksTrouble, .instanceMethod yX10_hooksTrouble, .selects RX10 yX10_hooksTrouble yX10_hooksTrouble, .initialized RX10, .methodLink RX10 79 yX10_refused, .instanceMethod yX10_refused, .selects RX10 yX10_refused yX10_refused, .fieldLink RX10 10 "HookPier" "plan" "LHookPier$Plan;", .fieldLink RX10 29 "HookPier" "now" "LHookPier$Now;", .fieldLink RX10 146 "HookPier$Now" "line" "[I", .methodLink RX10 184 yX6_wishFor, .instanceMethod yX6_wishFor, .selects RX6 yX6_wishFor yX6_wishFor, .initialized RX6]) (gd_app qsX10 (gd_app qsX4 (gd_app qfX10_hooksTrouble (gd_app qfX10_refused qfX6_wishFor)))))
theorem gfX10_hooks_0 : GoodIn vfX10_hooks (wsV RX10 309 RX10 yX10_hooksTrouble vfX10_hooksTrouble) := goodIn_app (goodIn_r [.methodLink RX10 309 yX10_hooksTrouble, .instanceMethod yX10_hooksTrouble, .selects RX10 yX10_hooksTrouble yX10_hooksTrouble, .initialized RX10] [1, 2, 3, 4] rfl (by decide +kernel)) (goodIn_m (fun _ h => (List.mem_cons_of_mem _ (List.mem_append_right _ (List.mem_append_right _ (List.mem_append_right _ (List.mem_append_left _ h)))))) qfX10_hooksTrouble)
theorem gfX10_hooks_1 : GoodIn vfX10_hooks (wsV RX10 79 RX10 yX10_refused vfX10_refused) := goodIn_app (goodIn_r [.methodLink RX10 79 yX10_refused, .instanceMethod yX10_refused, .selects RX10 yX10_refused yX10_refused, .initialized RX10] [5, 6, 7, 4] rfl (by decide +kernel)) (goodIn_m (fun _ h => (List.mem_cons_of_mem _ (List.mem_append_right _ (List.mem_append_right _ (List.mem_append_right _ (List.mem_append_right _ (List.mem_append_left _ h))))))) qfX10_refused)
theorem gfX10_hooks_2 : GoodIn vfX10_hooks (wsV RX10 184 RX6 yX6_wishFor vfX6_wishFor) := goodIn_app (goodIn_r [.methodLink RX10 184 yX6_wishFor, .instanceMethod yX6_wishFor, .selects RX6 yX6_wishFor yX6_wishFor, .initialized RX6] [11, 12, 13, 14] rfl (by decide +kernel)) (goodIn_m (fun _ h => (List.mem_cons_of_mem _ (List.mem_append_right _ (List.mem_append_right _ (List.mem_append_right _ (List.mem_append_right _ (List.mem_append_right _ h))))))) qfX6_wishFor)
set_option maxHeartbeats 2000000 in
set_option maxRecDepth 100000 in
theorem kfX10_hooks (l : Launch) (dC : Nat → ClassId) (dI : Nat → Nat → Nat) (a0 : Nat) (k1 : Int32) (k2 : Int32) (k3 : Int32) (k4 : Int32) (k5 : Int32) (a6 : Nat) (a7 : Nat) (up : Nat → Nat) (kp : Nat → ClassId) (un : Nat → Nat) (kn : Nat → ClassId) (x_x : TX10_x) (g13 : Value) (g14 : Value) (g15 : Value) (g16 : Value) (g17 : Value) (g18 : Value) (p_p : TX6_p) (n_n : TX4_n) (sz : Nat) (out : (Int32 × TX10_x)) (h : f_X10_hooks k1 k2 k3 k4 k5 x_x p_p n_n = some out) : KCi l yX10_hooks vfX10_hooks ({ frames := 3, cells := 0, slots := 0, locals := 67 }) (dC, dI) [.ref a0, .int k1, .int k2, .int k3, .int k4, .int k5] sz ((a0, .inr (7, [.ref a6, g13, g14, .ref a7, g15, g16, g17, g18, .int x_x.1, .int x_x.2])) :: bX6 a6 up kp p_p (bX4 a7 un kn n_n [])) (tX6 kp (tX4 kn ([]))) (fun (r : Int32) _ => r = out.1) ((a0, .inr (7, [.ref a6, g13, g14, .ref a7, g15, g16, g17, g18, .int out.2.1, .int out.2.2])) :: bX6 a6 up kp p_p (bX4 a7 un kn n_n [])) 0 0 := by
  refine Met.ofW (cc := cX10_hooks) (maxL := 12) (ret := (some .int)) (by decide) rfl ?_
  intro p e s m args below meth c s₁ B0 hml hv
  obtain ⟨rfl, hsz, hP, hK, hD0, hN⟩ := hv
  have hx := B0.exec
  have hb := B0.bytes
  have hr := B0.returns
  have hts := atoms_spec (ws := vfX10_hooks) B0.pre
  have hown : s.vm.findClass RX10 = some m.cls := findClass_of_methodNamed B0.named
  have hlocks := B0.notSynchronized
  subst hsz
  have hD := hD0.self (sz := s.heap.size)
  generalize hAe : va_A ((a0, .inr (7, [.ref a6, g13, g14, .ref a7, g15, g16, g17, g18, .int x_x.1, .int x_x.2])) :: bX6 a6 up kp p_p (bX4 a7 un kn n_n [])) s.heap.size = A at hD ⊢
  have hA : ∀ q : Nat, s.heap.size ≤ q → A q := fun q h => by rw [← hAe]; exact Or.inr h
  have hS : va_S A s.heap s.heap [] := va_S.rf
  have hP : va_P (dC, dI) vwCl ((a0, .inr (7, [.ref a6, g13, g14, .ref a7, g15, g16, g17, g18, .int x_x.1, .int x_x.2])) :: bX6 a6 up kp p_p (bX4 a7 un kn n_n [])) s.heap := hP
  have hl := lv_entry ([.ref a0, .int k1, .int k2, .int k3, .int k4, .int k5]) (n := 12) (Nat.le_of_ble_eq_true rfl)
  rw [lg_entry_eq]
  generalize (lg_sl ([.ref a0, .int k1, .int k2, .int k3, .int k4, .int k5]) ++ List.replicate (12 - (lg_sl ([.ref a0, .int k1, .int k2, .int k3, .int k4, .int k5])).length) Slot.unset).toArray = ls at hl ⊢
  have hl : lv_has ls 12 [(0, .ref a0), (1, .int k1), (2, .int k2), (3, .int k3), (4, .int k4), (5, .int k5)] := hl
  refine W_q (fun QQ hQQ => ?_)
  rw [f_X10_hooks] at h
  refine lv_aload_n hx hb (zat zrX10_hooks_0_ok 0 rfl) rfl (lv_at hl 0 rfl) ?_
  refine lv_aload_n hx hb (zat zrX10_hooks_0_ok 1 rfl) rfl (lv_at hl 0 rfl) ?_
  refine lv_iload_n hx hb (zat zrX10_hooks_0_ok 2 rfl) rfl (lv_at hl 1 rfl) ?_
  refine lv_iload_n hx hb (zat zrX10_hooks_0_ok 3 rfl) rfl (lv_at hl 2 rfl) ?_
  refine lv_iload_n hx hb (zat zrX10_hooks_0_ok 4 rfl) rfl (lv_at hl 3 rfl) ?_
  refine lv_iload hx hb (zat zrX10_hooks_0_ok 5 rfl) (lv_at hl 4 rfl) ?_
  obtain ⟨o7, eo7, h⟩ := bd_of h
  refine ck_i (wc := ((a0, .inr (7, [.ref a6, g13, g14, .ref a7, g15, g16, g17, g18, .int x_x.1, .int x_x.2])) :: bX6 a6 up kp p_p (bX4 a7 un kn n_n []))) (wr := []) hP hD hK hS hA [0, 1, 2, 3, 4, 5, 6, 7, 8, 9, 10, 11, 12, 13, 14, 15] [] rfl rfl (by decide) (by decide) (by decide) (fun hPc hDc => (va_runV (As := [.int k1, .int k2, .int k3, .int k4]) (rest := [.ref a0]) ⟨hx, hb, hml, hown, hts⟩ (kfX10_hooksTrouble l dC dI a0 k1 k2 k3 k4 a6 a7 up kp un kn (g13) (g14) (g15) (g16) (g17) (g18) (.int x_x.1) (.int x_x.2) p_p n_n s.heap.size o7 eo7) (cwV 4 hts gfX10_hooks_0 rfl rfl rfl (by decide +kernel) ⟨(Nat.le_of_ble_eq_true rfl), (Nat.le_of_ble_eq_true rfl)⟩) (PV hPc (hK.sub (tys' := (tX6 kp (tX4 kn ([])))) [0, 1, 2, 3, 4, 5, 6, 7, 8, 9, 10, 11, 12] rfl) hDc hN 0 rfl rfl) rfl rfl hl.1 rfl (lv_room (Nat.le_of_ble_eq_true rfl)) (zat zrX10_hooks_0_ok 6 rfl) ⟨(Nat.le_of_ble_eq_true rfl), (Nat.le_of_ble_eq_true rfl)⟩)) (fun r7 _ H locs hw hP hD _ hS => ?_)
  obtain rfl := hw.symm
  obtain ⟨hP, hD⟩ := pd_mk ((a0, .inr (7, [.ref a6, g13, g14, .ref a7, g15, g16, g17, g18, .int x_x.1, .int x_x.2])) :: bX6 a6 up kp p_p (bX4 a7 un kn n_n [])) hP hD
  obtain ⟨o10, eo10⟩ : ∃ o, o = f_X10_refused o7 x_x := ⟨_, rfl⟩
  have h := nm_of h o10 eo10
  refine ck_i (wc := ([(a0, .inr (7, [.ref a6, g13, g14, .ref a7, g15, g16, g17, g18, .int x_x.1, .int x_x.2]))])) (wr := (bX6 a6 up kp p_p (bX4 a7 un kn n_n []))) hP hD hK hS hA [0] [1, 2, 3, 4, 5, 6, 7, 8, 9, 10, 11, 12, 13, 14, 15] rfl rfl (by decide) (by decide) (by decide) (fun hPc hDc => (va_runV (As := [.int o7]) (rest := []) ⟨hx, hb, hml, hown, hts⟩ (kfX10_refused l dC dI a0 o7 x_x (.ref a6) (g13) (g14) (.ref a7) (g15) (g16) (g17) (g18) H.size o10 eo10.symm) (cwV 1 hts gfX10_hooks_1 rfl rfl rfl (by decide +kernel) ⟨(Nat.le_of_ble_eq_true rfl), (Nat.le_of_ble_eq_true rfl)⟩) (PV hPc (hK.sub (tys' := ([])) [] rfl) hDc hN 0 rfl rfl) rfl rfl hl.1 rfl (lv_room (Nat.le_of_ble_eq_true rfl)) (zat zrX10_hooks_0_ok 7 rfl) ⟨(Nat.le_of_ble_eq_true rfl), (Nat.le_of_ble_eq_true rfl)⟩)) (fun r10 _ H locs hw hP hD _ hS => ?_)
  obtain ⟨hw, br10⟩ := hw
  obtain rfl := hw
  obtain ⟨hP, hD⟩ := pd_mk (bX6 a6 up kp p_p (bX4 a7 un kn n_n ([(a0, .inr (7, [.ref a6, g13, g14, .ref a7, g15, g16, g17, g18, .int o10.2.1, .int o10.2.2]))]))) hP hD
  refine lv_if_eq (tgt := 18) hx hb (zat zrX10_hooks_0_ok 8 rfl) (by decide) (fun c13 => ?_) (fun c13 => ?_)
  · have h := (if_pos c13).symm.trans h
    refine lv_aload_n hx hb (zat zrX10_hooks_0_ok 11 rfl) rfl (lv_at hl 0 rfl) ?_
    refine va_get (D := (dC, dI)) (ci := 7) (v := .ref a6) (C := RX10) (T := TX10) (N := 10) hx hb hts ifX10_hooks_X10 hown hK hP 15 rfl rfl 0 (by decide) (hts (.fieldLink RX10 10 "HookPier" "plan" "LHookPier$Plan;") (List.mem_of_getElem? (i := 8) rfl)) (fun _ h9 => h9) rfl (zat zrX10_hooks_0_ok 12 rfl) ?_
    refine lv_iload_n hx hb (zat zrX10_hooks_0_ok 13 rfl) rfl (lv_at hl 1 rfl) ?_
    refine lv_aload_n hx hb (zat zrX10_hooks_0_ok 14 rfl) rfl (lv_at hl 0 rfl) ?_
    refine va_get (D := (dC, dI)) (ci := 7) (v := .ref a7) (C := RX10) (T := TX10) (N := 10) hx hb hts ifX10_hooks_X10 hown hK hP 15 rfl rfl 3 (by decide) (hts (.fieldLink RX10 29 "HookPier" "now" "LHookPier$Now;") (List.mem_of_getElem? (i := 9) rfl)) (fun _ h9 => h9) rfl (zat zrX10_hooks_0_ok 15 rfl) ?_
    refine va_get (D := (dC, dI)) (ci := 3) (v := .ref (un 3)) (C := RX4) (T := TX4) (N := 7) hx hb hts ifX10_hooks_X4 hown hK hP 10 rfl rfl 6 (by decide) (hts (.fieldLink RX10 146 "HookPier$Now" "line" "[I") (List.mem_of_getElem? (i := 10) rfl)) (fun _ h9 => h9) rfl (zat zrX10_hooks_0_ok 16 rfl) ?_
    refine lv_iload_n hx hb (zat zrX10_hooks_0_ok 17 rfl) rfl (lv_at hl 2 rfl) ?_
    obtain ⟨hg31, h⟩ := gA_of h
    refine va_iald hx hb hK hP 14 12 rfl rfl hg31 (zat zrX10_hooks_0_ok 18 rfl) ?_
    obtain ⟨o32, eo32, h⟩ := bd_of h
    refine ck_i (wc := (bX6 a6 up kp p_p [])) (wr := (bX4 a7 un kn n_n ([(a0, .inr (7, [.ref a6, g13, g14, .ref a7, g15, g16, g17, g18, .int o10.2.1, .int o10.2.2]))]))) hP hD hK hS hA [0, 1, 2, 3, 4, 5, 6, 7, 8, 9] [10, 11, 12, 13, 14, 15] rfl rfl (by decide) (by decide) (by decide) (fun hPc hDc => (va_runV (As := [.int k1, .int (n_n.2.2.2.2.2.2 (k2).toNatClampNeg)]) (rest := []) ⟨hx, hb, hml, hown, hts⟩ (kfX6_wishFor l dC dI a6 k1 (n_n.2.2.2.2.2.2 (k2).toNatClampNeg) up kp p_p H.size o32 eo32) (cwV 2 hts gfX10_hooks_2 rfl rfl rfl (by decide +kernel) ⟨(Nat.le_of_ble_eq_true rfl), (Nat.le_of_ble_eq_true rfl)⟩) (PV hPc (hK.sub (tys' := (tX6 kp ([]))) [0, 1, 2, 3, 4, 5, 6, 7, 8] rfl) hDc hN 0 rfl rfl) rfl rfl hl.1 rfl (lv_room (Nat.le_of_ble_eq_true rfl)) (zat zrX10_hooks_0_ok 19 rfl) ⟨(Nat.le_of_ble_eq_true rfl), (Nat.le_of_ble_eq_true rfl)⟩)) (fun r32 _ H locs hw hP hD _ hS => ?_)
    obtain rfl := hw.symm
    obtain ⟨hP, hD⟩ := pd_mk (bX4 a7 un kn n_n ((a0, .inr (7, [.ref a6, g13, g14, .ref a7, g15, g16, g17, g18, .int o10.2.1, .int o10.2.2])) :: bX6 a6 up kp p_p [])) hP hD
    refine lv_istore (lv' := [(6, .int o32), (0, .ref a0), (1, .int k1), (2, .int k2), (3, .int k3), (4, .int k4), (5, .int k5)]) hx hb (zat zrX10_hooks_0_ok 20 rfl) hl (by decide) rfl (fun ls hl => ?_)
    refine lv_aload_n hx hb (zat zrX10_hooks_0_ok 21 rfl) rfl (lv_at hl 1 rfl) ?_
    refine va_get (D := (dC, dI)) (ci := 7) (v := .ref a6) (C := RX10) (T := TX10) (N := 10) hx hb hts ifX10_hooks_X10 hown hK hP 5 rfl rfl 0 (by decide) (hts (.fieldLink RX10 10 "HookPier" "plan" "LHookPier$Plan;") (List.mem_of_getElem? (i := 8) rfl)) (fun _ h9 => h9) rfl (zat zrX10_hooks_0_ok 22 rfl) ?_
    refine lv_iload_n hx hb (zat zrX10_hooks_0_ok 23 rfl) rfl (lv_at hl 2 rfl) ?_
    refine lv_aload_n hx hb (zat zrX10_hooks_0_ok 24 rfl) rfl (lv_at hl 1 rfl) ?_
    refine va_get (D := (dC, dI)) (ci := 7) (v := .ref a7) (C := RX10) (T := TX10) (N := 10) hx hb hts ifX10_hooks_X10 hown hK hP 5 rfl rfl 3 (by decide) (hts (.fieldLink RX10 29 "HookPier" "now" "LHookPier$Now;") (List.mem_of_getElem? (i := 9) rfl)) (fun _ h9 => h9) rfl (zat zrX10_hooks_0_ok 25 rfl) ?_
    refine va_get (D := (dC, dI)) (ci := 3) (v := .ref (un 3)) (C := RX4) (T := TX4) (N := 7) hx hb hts ifX10_hooks_X4 hown hK hP 0 rfl rfl 6 (by decide) (hts (.fieldLink RX10 146 "HookPier$Now" "line" "[I") (List.mem_of_getElem? (i := 10) rfl)) (fun _ h9 => h9) rfl (zat zrX10_hooks_0_ok 26 rfl) ?_
    refine lv_iload_n hx hb (zat zrX10_hooks_0_ok 27 rfl) rfl (lv_at hl 4 rfl) ?_
    obtain ⟨hg50, h⟩ := gA_of h
    refine va_iald hx hb hK hP 4 12 rfl rfl hg50 (zat zrX10_hooks_0_ok 28 rfl) ?_
    obtain ⟨o51, eo51, h⟩ := bd_of h
    refine ck_i (wc := (bX6 a6 up kp p_p [])) (wr := (bX4 a7 un kn n_n ([(a0, .inr (7, [.ref a6, g13, g14, .ref a7, g15, g16, g17, g18, .int o10.2.1, .int o10.2.2]))]))) hP hD hK hS hA [6, 7, 8, 9, 10, 11, 12, 13, 14, 15] [0, 1, 2, 3, 4, 5] rfl rfl (by decide) (by decide) (by decide) (fun hPc hDc => (va_runV (As := [.int k1, .int (n_n.2.2.2.2.2.2 (k3).toNatClampNeg)]) (rest := []) ⟨hx, hb, hml, hown, hts⟩ (kfX6_wishFor l dC dI a6 k1 (n_n.2.2.2.2.2.2 (k3).toNatClampNeg) up kp p_p H.size o51 eo51) (cwV 2 hts gfX10_hooks_2 rfl rfl rfl (by decide +kernel) ⟨(Nat.le_of_ble_eq_true rfl), (Nat.le_of_ble_eq_true rfl)⟩) (PV hPc (hK.sub (tys' := (tX6 kp ([]))) [0, 1, 2, 3, 4, 5, 6, 7, 8] rfl) hDc hN 0 rfl rfl) rfl rfl hl.1 rfl (lv_room (Nat.le_of_ble_eq_true rfl)) (zat zrX10_hooks_0_ok 29 rfl) ⟨(Nat.le_of_ble_eq_true rfl), (Nat.le_of_ble_eq_true rfl)⟩)) (fun r51 _ H locs hw hP hD _ hS => ?_)
    obtain rfl := hw.symm
    obtain ⟨hP, hD⟩ := pd_mk (bX4 a7 un kn n_n ((a0, .inr (7, [.ref a6, g13, g14, .ref a7, g15, g16, g17, g18, .int o10.2.1, .int o10.2.2])) :: bX6 a6 up kp p_p [])) hP hD
    refine lv_istore (lv' := [(7, .int o51), (6, .int o32), (0, .ref a0), (1, .int k1), (2, .int k2), (3, .int k3), (4, .int k4), (5, .int k5)]) hx hb (zat zrX10_hooks_0_ok 30 rfl) hl (by decide) rfl (fun ls hl => ?_)
    refine lv_iload hx hb (zat zrX10_hooks_0_ok 31 rfl) (lv_at hl 1 rfl) ?_
    refine lv_iload hx hb (zat zrX10_hooks_0_ok 32 rfl) (lv_at hl 0 rfl) ?_
    refine lv_iadd hx hb (zat zrX10_hooks_0_ok 33 rfl) ?_
    refine lv_istore (lv' := [(8, .int (o32 + o51)), (7, .int o51), (6, .int o32), (0, .ref a0), (1, .int k1), (2, .int k2), (3, .int k3), (4, .int k4), (5, .int k5)]) hx hb (zat zrX10_hooks_0_ok 34 rfl) hl (by decide) rfl (fun ls hl => ?_)
    refine lv_iload hx hb (zat zrX10_hooks_0_ok 35 rfl) (lv_at hl 0 rfl) ?_
    refine lv_if_ne (tgt := 70) hx hb (zat zrX10_hooks_0_ok 36 rfl) (by decide) (fun c65 => ?_) (fun c65 => ?_)
    · have h := (if_neg c65).symm.trans h
      refine lv_iload hx hb (zat zrX10_hooks_0_ok 39 rfl) (lv_at hl 7 rfl) ?_
      refine lv_iload hx hb (zat zrX10_hooks_0_ok 40 rfl) (lv_at hl 2 rfl) ?_
      refine lv_imul hx hb (zat zrX10_hooks_0_ok 41 rfl) ?_
      refine lv_iload hx hb (zat zrX10_hooks_0_ok 42 rfl) (lv_at hl 0 rfl) ?_
      obtain ⟨hg77, h⟩ := gZi_of h
      refine lv_idiv hx hb (zat zrX10_hooks_0_ok 43 rfl) hg77 ?_
      refine lv_istore (lv' := [(9, .int ((k4 * o32) / (o32 + o51))), (8, .int (o32 + o51)), (7, .int o51), (6, .int o32), (0, .ref a0), (1, .int k1), (2, .int k2), (3, .int k3), (4, .int k4), (5, .int k5)]) hx hb (zat zrX10_hooks_0_ok 44 rfl) hl (by decide) rfl (fun ls hl => ?_)
      refine lv_iload hx hb (zat zrX10_hooks_0_ok 45 rfl) (lv_at hl 8 rfl) ?_
      refine lv_iload hx hb (zat zrX10_hooks_0_ok 46 rfl) (lv_at hl 2 rfl) ?_
      refine lv_imul hx hb (zat zrX10_hooks_0_ok 47 rfl) ?_
      refine lv_iload hx hb (zat zrX10_hooks_0_ok 48 rfl) (lv_at hl 1 rfl) ?_
      obtain ⟨hg87, h⟩ := gZi_of h
      refine lv_idiv hx hb (zat zrX10_hooks_0_ok 49 rfl) hg87 ?_
      refine lv_istore (lv' := [(10, .int ((k4 * o51) / (o32 + o51))), (9, .int ((k4 * o32) / (o32 + o51))), (8, .int (o32 + o51)), (7, .int o51), (6, .int o32), (0, .ref a0), (1, .int k1), (2, .int k2), (3, .int k3), (4, .int k4), (5, .int k5)]) hx hb (zat zrX10_hooks_0_ok 50 rfl) hl (by decide) rfl (fun ls hl => ?_)
      refine lv_iload hx hb (zat zrX10_hooks_0_ok 51 rfl) (lv_at hl 9 rfl) ?_
      refine lv_iload hx hb (zat zrX10_hooks_0_ok 52 rfl) (lv_at hl 1 rfl) ?_
      refine lv_isub hx hb (zat zrX10_hooks_0_ok 53 rfl) ?_
      refine lv_iload hx hb (zat zrX10_hooks_0_ok 54 rfl) (lv_at hl 0 rfl) ?_
      refine lv_isub hx hb (zat zrX10_hooks_0_ok 55 rfl) ?_
      refine lv_topi (fun z97 ez97 => ?_)
      have h := nm_of h z97 ez97
      refine lv_istore (lv' := [(11, .int z97), (10, .int ((k4 * o51) / (o32 + o51))), (9, .int ((k4 * o32) / (o32 + o51))), (8, .int (o32 + o51)), (7, .int o51), (6, .int o32), (0, .ref a0), (1, .int k1), (2, .int k2), (3, .int k3), (4, .int k4), (5, .int k5)]) hx hb (zat zrX10_hooks_0_ok 56 rfl) hl (by decide) rfl (fun ls hl => ?_)
      refine lv_iload hx hb (zat zrX10_hooks_0_ok 57 rfl) (lv_at hl 11 rfl) ?_
      refine lv_if_eq (tgt := 123) hx hb (zat zrX10_hooks_0_ok 58 rfl) (by decide) (fun c102 => ?_) (fun c102 => ?_)
      · have h := (if_pos c102).symm.trans h
        refine lv_iload hx hb (zat zrX10_hooks_1_ok 4 rfl) (lv_at hl 5 rfl) ?_
        refine lv_iload hx hb (zat zrX10_hooks_1_ok 5 rfl) (lv_at hl 4 rfl) ?_
        refine lv_icmp_lt (tgt := 138) hx hb (zat zrX10_hooks_1_ok 6 rfl) (by decide) (fun c127 => ?_) (fun c127 => ?_)
        · have h := (if_pos c127).symm.trans h
          refine lv_iload hx hb (zat zrX10_hooks_1_ok 11 rfl) (lv_at hl 2 rfl) ?_
          obtain rfl := Option.some.inj h
          obtain ⟨hP9, hD9⟩ := pd_sub ((a0, .inr (7, [.ref a6, g13, g14, .ref a7, g15, g16, g17, g18, .int o10.2.1, .int o10.2.2])) :: bX6 a6 up kp p_p (bX4 a7 un kn n_n [])) [5, 6, 7, 8, 9, 10, 11, 12, 13, 14, 15, 0, 1, 2, 3, 4] hP hD (by decide) rfl
          have hK9 := hK.sub (tys' := []) [] rfl
          rw [hQQ]
          exact W.iret (v := ((k4 * o32) / (o32 + o51))) hx hb hr (fun t ht hW => ⟨⟨((k4 * o32) / (o32 + o51)), (), rfl, rfl, by rw [ht]; exact hP9, va_K.moved hW.alike hK9, hD9⟩, hS.F ht⟩) hS.2.2 (zat zrX10_hooks_1_ok 12 rfl)
        · have h := (if_neg c127).symm.trans h
          refine lv_iload hx hb (zat zrX10_hooks_1_ok 7 rfl) (lv_at hl 2 rfl) ?_
          refine lv_iload hx hb (zat zrX10_hooks_1_ok 8 rfl) (lv_at hl 0 rfl) ?_
          refine lv_iadd hx hb (zat zrX10_hooks_1_ok 9 rfl) ?_
          refine lv_goto (tgt := 140) hx hb (zat zrX10_hooks_1_ok 10 rfl) (by decide) ?_
          obtain rfl := Option.some.inj h
          obtain ⟨hP9, hD9⟩ := pd_sub ((a0, .inr (7, [.ref a6, g13, g14, .ref a7, g15, g16, g17, g18, .int o10.2.1, .int o10.2.2])) :: bX6 a6 up kp p_p (bX4 a7 un kn n_n [])) [5, 6, 7, 8, 9, 10, 11, 12, 13, 14, 15, 0, 1, 2, 3, 4] hP hD (by decide) rfl
          have hK9 := hK.sub (tys' := []) [] rfl
          rw [hQQ]
          exact W.iret (v := (((k4 * o32) / (o32 + o51)) + z97)) hx hb hr (fun t ht hW => ⟨⟨(((k4 * o32) / (o32 + o51)) + z97), (), rfl, rfl, by rw [ht]; exact hP9, va_K.moved hW.alike hK9, hD9⟩, hS.F ht⟩) hS.2.2 (zat zrX10_hooks_1_ok 12 rfl)
      · have h := (if_neg c102).symm.trans h
        refine lv_iload hx hb (zat zrX10_hooks_0_ok 59 rfl) (lv_at hl 5 rfl) ?_
        refine lv_iload hx hb (zat zrX10_hooks_0_ok 60 rfl) (lv_at hl 4 rfl) ?_
        refine lv_icmp_lt (tgt := 117) hx hb (zat zrX10_hooks_0_ok 61 rfl) (by decide) (fun c109 => ?_) (fun c109 => ?_)
        · have h := (if_pos c109).symm.trans h
          refine lv_iload hx hb (zat zrX10_hooks_1_ok 0 rfl) (lv_at hl 1 rfl) ?_
          refine lv_iload hx hb (zat zrX10_hooks_1_ok 1 rfl) (lv_at hl 0 rfl) ?_
          refine lv_iadd hx hb (zat zrX10_hooks_1_ok 2 rfl) ?_
          obtain rfl := Option.some.inj h
          obtain ⟨hP9, hD9⟩ := pd_sub ((a0, .inr (7, [.ref a6, g13, g14, .ref a7, g15, g16, g17, g18, .int o10.2.1, .int o10.2.2])) :: bX6 a6 up kp p_p (bX4 a7 un kn n_n [])) [5, 6, 7, 8, 9, 10, 11, 12, 13, 14, 15, 0, 1, 2, 3, 4] hP hD (by decide) rfl
          have hK9 := hK.sub (tys' := []) [] rfl
          rw [hQQ]
          exact W.iret (v := (((k4 * o51) / (o32 + o51)) + z97)) hx hb hr (fun t ht hW => ⟨⟨(((k4 * o51) / (o32 + o51)) + z97), (), rfl, rfl, by rw [ht]; exact hP9, va_K.moved hW.alike hK9, hD9⟩, hS.F ht⟩) hS.2.2 (zat zrX10_hooks_1_ok 3 rfl)
        · have h := (if_neg c109).symm.trans h
          refine lv_iload hx hb (zat zrX10_hooks_0_ok 62 rfl) (lv_at hl 1 rfl) ?_
          refine lv_goto (tgt := 122) hx hb (zat zrX10_hooks_0_ok 63 rfl) (by decide) ?_
          obtain rfl := Option.some.inj h
          obtain ⟨hP9, hD9⟩ := pd_sub ((a0, .inr (7, [.ref a6, g13, g14, .ref a7, g15, g16, g17, g18, .int o10.2.1, .int o10.2.2])) :: bX6 a6 up kp p_p (bX4 a7 un kn n_n [])) [5, 6, 7, 8, 9, 10, 11, 12, 13, 14, 15, 0, 1, 2, 3, 4] hP hD (by decide) rfl
          have hK9 := hK.sub (tys' := []) [] rfl
          rw [hQQ]
          exact W.iret (v := ((k4 * o51) / (o32 + o51))) hx hb hr (fun t ht hW => ⟨⟨((k4 * o51) / (o32 + o51)), (), rfl, rfl, by rw [ht]; exact hP9, va_K.moved hW.alike hK9, hD9⟩, hS.F ht⟩) hS.2.2 (zat zrX10_hooks_1_ok 3 rfl)
    · have h := (if_pos c65).symm.trans h
      refine lv_iconst (v := 0) hx hb (zat zrX10_hooks_0_ok 37 rfl) (by decide) ?_
      obtain rfl := Option.some.inj h
      obtain ⟨hP9, hD9⟩ := pd_sub ((a0, .inr (7, [.ref a6, g13, g14, .ref a7, g15, g16, g17, g18, .int o10.2.1, .int o10.2.2])) :: bX6 a6 up kp p_p (bX4 a7 un kn n_n [])) [5, 6, 7, 8, 9, 10, 11, 12, 13, 14, 15, 0, 1, 2, 3, 4] hP hD (by decide) rfl
      have hK9 := hK.sub (tys' := []) [] rfl
      rw [hQQ]
      exact W.iret (v := (0 : Int32)) hx hb hr (fun t ht hW => ⟨⟨(0 : Int32), (), rfl, rfl, by rw [ht]; exact hP9, va_K.moved hW.alike hK9, hD9⟩, hS.F ht⟩) hS.2.2 (zat zrX10_hooks_0_ok 38 rfl)
  · have h := (if_neg c13).symm.trans h
    refine lv_iconst (v := (-1)) hx hb (zat zrX10_hooks_0_ok 9 rfl) (by decide) ?_
    obtain rfl := Option.some.inj h
    obtain ⟨hP9, hD9⟩ := pd_sub ((a0, .inr (7, [.ref a6, g13, g14, .ref a7, g15, g16, g17, g18, .int o10.2.1, .int o10.2.2])) :: bX6 a6 up kp p_p (bX4 a7 un kn n_n [])) [15, 0, 1, 2, 3, 4, 5, 6, 7, 8, 9, 10, 11, 12, 13, 14] hP hD (by decide) rfl
    have hK9 := hK.sub (tys' := []) [] rfl
    rw [hQQ]
    exact W.iret (v := (-1 : Int32)) hx hb hr (fun t ht hW => ⟨⟨(-1 : Int32), (), rfl, rfl, by rw [ht]; exact hP9, va_K.moved hW.alike hK9, hD9⟩, hS.F ht⟩) hS.2.2 (zat zrX10_hooks_0_ok 10 rfl)
noncomputable def zrX9_gain_0 : List ZR := zc 0 true (.iload_n 1) 1 (zc 1 true (.iload_n 2) 1 (zc 2 true (.iadd) 1 (zc 3 true (.istore_n 3) 1 (zc 4 true (.iload_n 3) 1 (zc 5 true (.ifCond .ne 5) 3 (zc 8 true (.iconst 0) 1 (zc 9 true (.ireturn) 1 (zc 10 true (.iload_n 0) 1 (zc 11 true (.iload_n 1) 1 (zc 12 true (.imul) 1 (zc 13 true (.iload_n 3) 1 (zc 14 true (.idiv) 1 (zc 15 true (.iconst 2) 1 (zc 16 true (.iload_n 1) 1 (zc 17 true (.imul) 1 (zc 18 true (.isub) 1 (zc 19 true (.ireturn) 1 ([]))))))))))))))))))
theorem zrX9_gain_0_ok : zck 0 ((zby cX9_gain).drop 0) zrX9_gain_0 = true := by decide +kernel
def vfX9_gain : List Cond := .code yX9_gain cX9_gain 4 (some .int) :: ([])
theorem qfX9_gain : Good vfX9_gain := gd_cons (by decide +kernel) (gd_dec (by decide +kernel) : Good [])
set_option maxHeartbeats 2000000 in
set_option maxRecDepth 100000 in
theorem kfX9_gain (l : Launch) (dC : Nat → ClassId) (dI : Nat → Nat → Nat) (k0 : Int32) (k1 : Int32) (k2 : Int32) (sz : Nat) (out : Int32) (h : f_X9_gain k0 k1 k2 = some out) : KDi l yX9_gain vfX9_gain ({ frames := 0, cells := 0, slots := 0, locals := 0 }) (dC, dI) [.int k0, .int k1, .int k2] sz [] ([]) (fun (r : Int32) _ => r = out) 0 0 := by
  refine Met.ofW (cc := cX9_gain) (maxL := 4) (ret := (some .int)) (by decide) rfl ?_
  intro p e s m args below meth c s₁ B0 hml hv
  obtain ⟨rfl, hsz, hP, hK, hD0, hN⟩ := hv
  have hx := B0.exec
  have hb := B0.bytes
  have hr := B0.returns
  have hts := atoms_spec (ws := vfX9_gain) B0.pre
  have hown : s.vm.findClass RX9 = some m.cls := findClass_of_methodNamed B0.named
  have hlocks := B0.notSynchronized
  subst hsz
  have hD := hD0.self (sz := s.heap.size)
  generalize hAe : va_A [] s.heap.size = A at hD ⊢
  have hA : ∀ q : Nat, s.heap.size ≤ q → A q := fun q h => by rw [← hAe]; exact Or.inr h
  have hS : va_S A s.heap s.heap [] := va_S.rf
  have hP : va_P (dC, dI) vwCl [] s.heap := hP
  have hl := lv_entry ([.int k0, .int k1, .int k2]) (n := 4) (Nat.le_of_ble_eq_true rfl)
  rw [lg_entry_eq]
  generalize (lg_sl ([.int k0, .int k1, .int k2]) ++ List.replicate (4 - (lg_sl ([.int k0, .int k1, .int k2])).length) Slot.unset).toArray = ls at hl ⊢
  have hl : lv_has ls 4 [(0, .int k0), (1, .int k1), (2, .int k2)] := hl
  refine W_q (fun QQ hQQ => ?_)
  rw [f_X9_gain] at h
  refine lv_iload_n hx hb (zat zrX9_gain_0_ok 0 rfl) rfl (lv_at hl 1 rfl) ?_
  refine lv_iload_n hx hb (zat zrX9_gain_0_ok 1 rfl) rfl (lv_at hl 2 rfl) ?_
  refine lv_iadd hx hb (zat zrX9_gain_0_ok 2 rfl) ?_
  refine lv_istore_n (lv' := [(3, .int (k1 + k2)), (0, .int k0), (1, .int k1), (2, .int k2)]) hx hb (zat zrX9_gain_0_ok 3 rfl) rfl hl (by decide) rfl (fun ls hl => ?_)
  refine lv_iload_n hx hb (zat zrX9_gain_0_ok 4 rfl) rfl (lv_at hl 0 rfl) ?_
  refine lv_if_ne (tgt := 10) hx hb (zat zrX9_gain_0_ok 5 rfl) (by decide) (fun c5 => ?_) (fun c5 => ?_)
  · have h := (if_neg c5).symm.trans h
    refine lv_iload_n hx hb (zat zrX9_gain_0_ok 8 rfl) rfl (lv_at hl 1 rfl) ?_
    refine lv_iload_n hx hb (zat zrX9_gain_0_ok 9 rfl) rfl (lv_at hl 2 rfl) ?_
    refine lv_imul hx hb (zat zrX9_gain_0_ok 10 rfl) ?_
    refine lv_iload_n hx hb (zat zrX9_gain_0_ok 11 rfl) rfl (lv_at hl 0 rfl) ?_
    obtain ⟨hg14, h⟩ := gZi_of h
    refine lv_idiv hx hb (zat zrX9_gain_0_ok 12 rfl) hg14 ?_
    refine lv_iconst (v := 2) hx hb (zat zrX9_gain_0_ok 13 rfl) (by decide) ?_
    refine lv_iload_n hx hb (zat zrX9_gain_0_ok 14 rfl) rfl (lv_at hl 2 rfl) ?_
    refine lv_imul hx hb (zat zrX9_gain_0_ok 15 rfl) ?_
    refine lv_isub hx hb (zat zrX9_gain_0_ok 16 rfl) ?_
    obtain rfl := Option.some.inj h
    obtain ⟨hP9, hD9⟩ := pd_sub [] [] hP hD (by decide) rfl
    have hK9 := hK.sub (tys' := []) [] rfl
    rw [hQQ]
    exact W.iret (v := (((k0 * k1) / (k1 + k2)) - ((2 : Int32) * k1))) hx hb hr (fun t ht hW => ⟨⟨(((k0 * k1) / (k1 + k2)) - ((2 : Int32) * k1)), (), rfl, rfl, by rw [ht]; exact hP9, va_K.moved hW.alike hK9, hD9⟩, hS.F ht⟩) hS.2.2 (zat zrX9_gain_0_ok 17 rfl)
  · have h := (if_pos c5).symm.trans h
    refine lv_iconst (v := 0) hx hb (zat zrX9_gain_0_ok 6 rfl) (by decide) ?_
    obtain rfl := Option.some.inj h
    obtain ⟨hP9, hD9⟩ := pd_sub [] [] hP hD (by decide) rfl
    have hK9 := hK.sub (tys' := []) [] rfl
    rw [hQQ]
    exact W.iret (v := (0 : Int32)) hx hb hr (fun t ht hW => ⟨⟨(0 : Int32), (), rfl, rfl, by rw [ht]; exact hP9, va_K.moved hW.alike hK9, hD9⟩, hS.F ht⟩) hS.2.2 (zat zrX9_gain_0_ok 7 rfl)
noncomputable def zrX10_lines_0 : List ZR := zc 0 true (.iload_n 1) 1 (zc 1 true (.iconst 0) 1 (zc 2 true (.bipush 99) 2 (zc 4 true (.invokestatic 75) 3 (zc 7 true (.ifCond .eq 27) 3 (zc 10 true (.iload_n 2) 1 (zc 11 true (.iconst 0) 1 (zc 12 true (.bipush 6) 2 (zc 14 true (.invokestatic 75) 3 (zc 17 true (.ifCond .eq 17) 3 (zc 20 true (.iload_n 3) 1 (zc 21 true (.iconst 0) 1 (zc 22 true (.bipush 6) 2 (zc 24 true (.invokestatic 75) 3 (zc 27 true (.ifCond .eq 7) 3 (zc 30 true (.iconst 1) 1 (zc 31 true (.goto 4) 3 (zc 34 true (.iconst 0) 1 (zc 35 true (.istore 5) 2 (zc 37 true (.aload_n 0) 1 (zc 38 true (.aload_n 0) 1 (zc 39 true (.iload 5) 2 (zc 41 true (.invokevirtual 169) 3 (zc 44 true (.invokevirtual 79) 3 (zc 47 true (.ifCond .eq 6) 3 (zc 50 true (.bipush (-100)) 2 (zc 52 true (.ireturn) 1 (zc 53 true (.iload 4) 2 (zc 55 true (.ifCond .eq 12) 3 (zc 58 true (.iload_n 1) 1 (zc 59 true (.iload_n 3) 1 (zc 60 true (.iload_n 2) 1 (zc 61 true (.invokestatic 312) 3 (zc 64 true (.goto 9) 3 (zc 67 true (.iload_n 1) 1 (zc 68 true (.iload_n 2) 1 (zc 69 true (.iload_n 3) 1 (zc 70 true (.invokestatic 312) 3 (zc 73 true (.ireturn) 1 ([])))))))))))))))))))))))))))))))))))))))
theorem zrX10_lines_0_ok : zck 0 ((zby cX10_lines).drop 0) zrX10_lines_0 = true := by decide +kernel
def vfX10_lines : List Cond := List.cons (.code yX10_lines cX10_lines 6 (some .int)) (apW [.methodLink RX10 75 yX10_within, .static yX10_within, .initialized RX10, .methodLink RX10 169 yX10_numberTrouble, .instanceMethod yX10_numberTrouble, .selects RX10 yX10_numberTrouble yX10_numberTrouble, .methodLink RX10 79 yX10_refused, .instanceMethod yX10_refused, .selects RX10 yX10_refused yX10_refused, .methodLink RX10 312 yX9_gain, .static yX9_gain, .initialized RX9] (apW vfX10_within (apW vfX10_numberTrouble (apW vfX10_refused (vfX9_gain)))))
theorem qfX10_lines : Good vfX10_lines := gd_cons (by decide +kernel) (gd_app (gd_dec (by decide +kernel) : Good [.methodLink RX10 75 yX10_within, .static yX10_within, .initialized RX10, .methodLink RX10 169 yX10_numberTrouble, .instanceMethod yX10_numberTrouble, .selects RX10 yX10_numberTrouble yX10_numberTrouble, .methodLink RX10 79 yX10_refused, .instanceMethod yX10_refused, .selects RX10 yX10_refused yX10_refused, .methodLink RX10 312 yX9_gain, .static yX9_gain, .initialized RX9]) (gd_app qfX10_within (gd_app qfX10_numberTrouble (gd_app qfX10_refused qfX9_gain))))
theorem gfX10_lines_0 : GoodIn vfX10_lines (va_wsS RX10 75 yX10_within vfX10_within) := goodIn_app (goodIn_r [.methodLink RX10 75 yX10_within, .static yX10_within, .initialized RX10] [1, 2, 3] rfl (by decide +kernel)) (goodIn_m (fun _ h => (List.mem_cons_of_mem _ (List.mem_append_right _ (List.mem_append_left _ h)))) qfX10_within)
theorem gfX10_lines_1 : GoodIn vfX10_lines (wsV RX10 169 RX10 yX10_numberTrouble vfX10_numberTrouble) := goodIn_app (goodIn_r [.methodLink RX10 169 yX10_numberTrouble, .instanceMethod yX10_numberTrouble, .selects RX10 yX10_numberTrouble yX10_numberTrouble, .initialized RX10] [4, 5, 6, 3] rfl (by decide +kernel)) (goodIn_m (fun _ h => (List.mem_cons_of_mem _ (List.mem_append_right _ (List.mem_append_right _ (List.mem_append_left _ h))))) qfX10_numberTrouble)
theorem gfX10_lines_2 : GoodIn vfX10_lines (wsV RX10 79 RX10 yX10_refused vfX10_refused) := goodIn_app (goodIn_r [.methodLink RX10 79 yX10_refused, .instanceMethod yX10_refused, .selects RX10 yX10_refused yX10_refused, .initialized RX10] [7, 8, 9, 3] rfl (by decide +kernel)) (goodIn_m (fun _ h => (List.mem_cons_of_mem _ (List.mem_append_right _ (List.mem_append_right _ (List.mem_append_right _ (List.mem_append_left _ h)))))) qfX10_refused)
theorem gfX10_lines_3 : GoodIn vfX10_lines (va_wsS RX10 312 yX9_gain vfX9_gain) := goodIn_app (goodIn_r [.methodLink RX10 312 yX9_gain, .static yX9_gain, .initialized RX9] [10, 11, 12] rfl (by decide +kernel)) (goodIn_m (fun _ h => (List.mem_cons_of_mem _ (List.mem_append_right _ (List.mem_append_right _ (List.mem_append_right _ (List.mem_append_right _ h)))))) qfX9_gain)
set_option maxHeartbeats 2000000 in
set_option maxRecDepth 100000 in
theorem kfX10_lines (l : Launch) (dC : Nat → ClassId) (dI : Nat → Nat → Nat) (a0 : Nat) (k1 : Int32) (k2 : Int32) (k3 : Int32) (k4 : Int32) (a5 : Nat) (up : Nat → Nat) (kp : Nat → ClassId) (x_x : TX10_x) (g9 : Value) (g10 : Value) (g11 : Value) (g12 : Value) (g13 : Value) (g14 : Value) (g15 : Value) (p_p : TX6_p) (sz : Nat) (out : (Int32 × TX10_x)) (h : f_X10_lines k1 k2 k3 k4 x_x p_p = some out) : KCi l yX10_lines vfX10_lines ({ frames := 2, cells := 0, slots := 0, locals := 42 }) (dC, dI) [.ref a0, .int k1, .int k2, .int k3, .int k4] sz ((a0, .inr (7, [.ref a5, g9, g10, g11, g12, g13, g14, g15, .int x_x.1, .int x_x.2])) :: bX6 a5 up kp p_p []) (tX6 kp ([])) (fun (r : Int32) _ => r = out.1) ((a0, .inr (7, [.ref a5, g9, g10, g11, g12, g13, g14, g15, .int out.2.1, .int out.2.2])) :: bX6 a5 up kp p_p []) 0 0 := by
  refine Met.ofW (cc := cX10_lines) (maxL := 6) (ret := (some .int)) (by decide) rfl ?_
  intro p e s m args below meth c s₁ B0 hml hv
  obtain ⟨rfl, hsz, hP, hK, hD0, hN⟩ := hv
  have hx := B0.exec
  have hb := B0.bytes
  have hr := B0.returns
  have hts := atoms_spec (ws := vfX10_lines) B0.pre
  have hown : s.vm.findClass RX10 = some m.cls := findClass_of_methodNamed B0.named
  have hlocks := B0.notSynchronized
  subst hsz
  have hD := hD0.self (sz := s.heap.size)
  generalize hAe : va_A ((a0, .inr (7, [.ref a5, g9, g10, g11, g12, g13, g14, g15, .int x_x.1, .int x_x.2])) :: bX6 a5 up kp p_p []) s.heap.size = A at hD ⊢
  have hA : ∀ q : Nat, s.heap.size ≤ q → A q := fun q h => by rw [← hAe]; exact Or.inr h
  have hS : va_S A s.heap s.heap [] := va_S.rf
  have hP : va_P (dC, dI) vwCl ((a0, .inr (7, [.ref a5, g9, g10, g11, g12, g13, g14, g15, .int x_x.1, .int x_x.2])) :: bX6 a5 up kp p_p []) s.heap := hP
  have hl := lv_entry ([.ref a0, .int k1, .int k2, .int k3, .int k4]) (n := 6) (Nat.le_of_ble_eq_true rfl)
  rw [lg_entry_eq]
  generalize (lg_sl ([.ref a0, .int k1, .int k2, .int k3, .int k4]) ++ List.replicate (6 - (lg_sl ([.ref a0, .int k1, .int k2, .int k3, .int k4])).length) Slot.unset).toArray = ls at hl ⊢
  have hl : lv_has ls 6 [(0, .ref a0), (1, .int k1), (2, .int k2), (3, .int k3), (4, .int k4)] := hl
  refine W_q (fun QQ hQQ => ?_)
  rw [f_X10_lines] at h
  refine lv_iload_n hx hb (zat zrX10_lines_0_ok 0 rfl) rfl (lv_at hl 1 rfl) ?_
  refine lv_iconst (v := 0) hx hb (zat zrX10_lines_0_ok 1 rfl) (by decide) ?_
  refine lv_bipush (v := 99) hx hb (zat zrX10_lines_0_ok 2 rfl) (by decide) ?_
  obtain ⟨o4, eo4⟩ : ∃ o, o = f_X10_within k1 (0 : Int32) (99 : Int32) := ⟨_, rfl⟩
  have h := nm_of h o4 eo4
  refine ck_i (wc := []) (wr := ((a0, .inr (7, [.ref a5, g9, g10, g11, g12, g13, g14, g15, .int x_x.1, .int x_x.2])) :: bX6 a5 up kp p_p [])) hP hD hK hS hA [] [0, 1, 2, 3, 4, 5, 6, 7, 8, 9, 10] rfl rfl (by decide) (by decide) (by decide) (fun hPc hDc => (va_runS (As := [.int k1, .int 0, .int 99]) (rest := []) ⟨hx, hb, hml, hown, hts⟩ (kfX10_within l dC dI k1 (0 : Int32) (99 : Int32) s.heap.size o4 eo4.symm) (va_cwS 3 hts gfX10_lines_0 rfl rfl rfl (by decide +kernel) ⟨(Nat.le_of_ble_eq_true rfl), (Nat.le_of_ble_eq_true rfl)⟩) (PS hPc (hK.sub (tys' := ([])) [] rfl) hDc hN) rfl rfl hl.1 rfl (lv_room (Nat.le_of_ble_eq_true rfl)) (zat zrX10_lines_0_ok 3 rfl) ⟨(Nat.le_of_ble_eq_true rfl), (Nat.le_of_ble_eq_true rfl)⟩)) (fun r4 _ H locs hw hP hD _ hS => ?_)
  obtain ⟨hw, br4⟩ := hw
  obtain rfl := hw.symm
  obtain ⟨hP, hD⟩ := pd_mk ((a0, .inr (7, [.ref a5, g9, g10, g11, g12, g13, g14, g15, .int x_x.1, .int x_x.2])) :: bX6 a5 up kp p_p []) hP hD
  have J35 : ∀ (v35_t0 : Int32) (H : Heap) (locs : List Loc) (ls : Array Slot), f_X10_lines_J35 k1 k2 k3 k4 x_x p_p v35_t0 = some out → 0 ≤ v35_t0.toInt ∧ v35_t0.toInt ≤ 1 → va_P (dC, dI) vwCl ((a0, .inr (7, [.ref a5, g9, g10, g11, g12, g13, g14, g15, .int x_x.1, .int x_x.2])) :: bX6 a5 up kp p_p []) H → va_D A ((a0, .inr (7, [.ref a5, g9, g10, g11, g12, g13, g14, g15, .int x_x.1, .int x_x.2])) :: bX6 a5 up kp p_p []) → va_S A s.heap H locs → lv_has ls 6 [(0, .ref a0), (1, .int k1), (2, .int k2), (3, .int k3), (4, .int k4)] → W p l e (headSpec vfX10_lines { frames := 2, cells := 0, slots := 0, locals := 42 }).room s m ([.ref a0, .int k1, .int k2, .int k3, .int k4]).toArray below meth c H locs 0 0 QQ (F0 m 35 ls [.int v35_t0]) := by
    intro v35_t0 H locs ls h zb_v35_t0 hP hD hS hl
    rw [f_X10_lines_J35] at h
    refine lv_istore (lv' := [(5, .int v35_t0), (0, .ref a0), (1, .int k1), (2, .int k2), (3, .int k3), (4, .int k4)]) hx hb (zat zrX10_lines_0_ok 18 rfl) hl (by decide) rfl (fun ls hl => ?_)
    refine lv_aload_n hx hb (zat zrX10_lines_0_ok 19 rfl) rfl (lv_at hl 1 rfl) ?_
    refine lv_aload_n hx hb (zat zrX10_lines_0_ok 20 rfl) rfl (lv_at hl 1 rfl) ?_
    refine lv_iload hx hb (zat zrX10_lines_0_ok 21 rfl) (lv_at hl 0 rfl) ?_
    obtain ⟨o41, eo41⟩ : ∃ o, o = f_X10_numberTrouble v35_t0 p_p := ⟨_, rfl⟩
    have h := nm_of h o41 eo41
    refine ck_i (wc := ((a0, .inr (7, [.ref a5, g9, g10, g11, g12, g13, g14, g15, .int x_x.1, .int x_x.2])) :: bX6 a5 up kp p_p [])) (wr := []) hP hD hK hS hA [0, 1, 2, 3, 4, 5, 6, 7, 8, 9, 10] [] rfl rfl (by decide) (by decide) (by decide) (fun hPc hDc => (va_runV (As := [.int v35_t0]) (rest := [.ref a0]) ⟨hx, hb, hml, hown, hts⟩ (kfX10_numberTrouble l dC dI a0 v35_t0 a5 up kp (g9) (g10) (g11) (g12) (g13) (g14) (g15) (.int x_x.1) (.int x_x.2) p_p H.size o41 eo41.symm) (cwV 1 hts gfX10_lines_1 rfl rfl rfl (by decide +kernel) ⟨(Nat.le_of_ble_eq_true rfl), (Nat.le_of_ble_eq_true rfl)⟩) (PV hPc (hK.sub (tys' := (tX6 kp ([]))) [0, 1, 2, 3, 4, 5, 6, 7, 8] rfl) hDc hN 0 rfl rfl) rfl rfl hl.1 rfl (lv_room (Nat.le_of_ble_eq_true rfl)) (zat zrX10_lines_0_ok 22 rfl) ⟨(Nat.le_of_ble_eq_true rfl), (Nat.le_of_ble_eq_true rfl)⟩)) (fun r41 _ H locs hw hP hD _ hS => ?_)
    obtain rfl := hw.symm
    obtain ⟨hP, hD⟩ := pd_mk ((a0, .inr (7, [.ref a5, g9, g10, g11, g12, g13, g14, g15, .int x_x.1, .int x_x.2])) :: bX6 a5 up kp p_p []) hP hD
    obtain ⟨o44, eo44⟩ : ∃ o, o = f_X10_refused o41 x_x := ⟨_, rfl⟩
    have h := nm_of h o44 eo44
    refine ck_i (wc := ([(a0, .inr (7, [.ref a5, g9, g10, g11, g12, g13, g14, g15, .int x_x.1, .int x_x.2]))])) (wr := (bX6 a5 up kp p_p [])) hP hD hK hS hA [0] [1, 2, 3, 4, 5, 6, 7, 8, 9, 10] rfl rfl (by decide) (by decide) (by decide) (fun hPc hDc => (va_runV (As := [.int o41]) (rest := []) ⟨hx, hb, hml, hown, hts⟩ (kfX10_refused l dC dI a0 o41 x_x (.ref a5) (g9) (g10) (g11) (g12) (g13) (g14) (g15) H.size o44 eo44.symm) (cwV 1 hts gfX10_lines_2 rfl rfl rfl (by decide +kernel) ⟨(Nat.le_of_ble_eq_true rfl), (Nat.le_of_ble_eq_true rfl)⟩) (PV hPc (hK.sub (tys' := ([])) [] rfl) hDc hN 0 rfl rfl) rfl rfl hl.1 rfl (lv_room (Nat.le_of_ble_eq_true rfl)) (zat zrX10_lines_0_ok 23 rfl) ⟨(Nat.le_of_ble_eq_true rfl), (Nat.le_of_ble_eq_true rfl)⟩)) (fun r44 _ H locs hw hP hD _ hS => ?_)
    obtain ⟨hw, br44⟩ := hw
    obtain rfl := hw
    obtain ⟨hP, hD⟩ := pd_mk (bX6 a5 up kp p_p ([(a0, .inr (7, [.ref a5, g9, g10, g11, g12, g13, g14, g15, .int o44.2.1, .int o44.2.2]))])) hP hD
    refine lv_if_eq (tgt := 53) hx hb (zat zrX10_lines_0_ok 24 rfl) (by decide) (fun c47 => ?_) (fun c47 => ?_)
    · have h := (if_pos c47).symm.trans h
      refine lv_iload hx hb (zat zrX10_lines_0_ok 27 rfl) (lv_at hl 5 rfl) ?_
      refine lv_if_eq (tgt := 67) hx hb (zat zrX10_lines_0_ok 28 rfl) (by decide) (fun c55 => ?_) (fun c55 => ?_)
      · have h := (if_pos c55).symm.trans h
        refine lv_iload_n hx hb (zat zrX10_lines_0_ok 34 rfl) rfl (lv_at hl 2 rfl) ?_
        refine lv_iload_n hx hb (zat zrX10_lines_0_ok 35 rfl) rfl (lv_at hl 3 rfl) ?_
        refine lv_iload_n hx hb (zat zrX10_lines_0_ok 36 rfl) rfl (lv_at hl 4 rfl) ?_
        obtain ⟨o70, eo70, h⟩ := bd_of h
        refine ck_i (wc := []) (wr := (bX6 a5 up kp p_p ([(a0, .inr (7, [.ref a5, g9, g10, g11, g12, g13, g14, g15, .int o44.2.1, .int o44.2.2]))]))) hP hD hK hS hA [] [0, 1, 2, 3, 4, 5, 6, 7, 8, 9, 10] rfl rfl (by decide) (by decide) (by decide) (fun hPc hDc => (va_runS (As := [.int k1, .int k2, .int k3]) (rest := []) ⟨hx, hb, hml, hown, hts⟩ (kfX9_gain l dC dI k1 k2 k3 H.size o70 eo70) (va_cwS 3 hts gfX10_lines_3 rfl rfl rfl (by decide +kernel) ⟨(Nat.le_of_ble_eq_true rfl), (Nat.le_of_ble_eq_true rfl)⟩) (PS hPc (hK.sub (tys' := ([])) [] rfl) hDc hN) rfl rfl hl.1 rfl (lv_room (Nat.le_of_ble_eq_true rfl)) (zat zrX10_lines_0_ok 37 rfl) ⟨(Nat.le_of_ble_eq_true rfl), (Nat.le_of_ble_eq_true rfl)⟩)) (fun r70 _ H locs hw hP hD _ hS => ?_)
        obtain rfl := hw.symm
        obtain ⟨hP, hD⟩ := pd_mk (bX6 a5 up kp p_p ([(a0, .inr (7, [.ref a5, g9, g10, g11, g12, g13, g14, g15, .int o44.2.1, .int o44.2.2]))])) hP hD
        obtain rfl := Option.some.inj h
        obtain ⟨hP9, hD9⟩ := pd_sub ((a0, .inr (7, [.ref a5, g9, g10, g11, g12, g13, g14, g15, .int o44.2.1, .int o44.2.2])) :: bX6 a5 up kp p_p []) [10, 0, 1, 2, 3, 4, 5, 6, 7, 8, 9] hP hD (by decide) rfl
        have hK9 := hK.sub (tys' := []) [] rfl
        rw [hQQ]
        exact W.iret (v := o70) hx hb hr (fun t ht hW => ⟨⟨o70, (), rfl, rfl, by rw [ht]; exact hP9, va_K.moved hW.alike hK9, hD9⟩, hS.F ht⟩) hS.2.2 (zat zrX10_lines_0_ok 38 rfl)
      · have h := (if_neg c55).symm.trans h
        refine lv_iload_n hx hb (zat zrX10_lines_0_ok 29 rfl) rfl (lv_at hl 2 rfl) ?_
        refine lv_iload_n hx hb (zat zrX10_lines_0_ok 30 rfl) rfl (lv_at hl 4 rfl) ?_
        refine lv_iload_n hx hb (zat zrX10_lines_0_ok 31 rfl) rfl (lv_at hl 3 rfl) ?_
        obtain ⟨o61, eo61, h⟩ := bd_of h
        refine ck_i (wc := []) (wr := (bX6 a5 up kp p_p ([(a0, .inr (7, [.ref a5, g9, g10, g11, g12, g13, g14, g15, .int o44.2.1, .int o44.2.2]))]))) hP hD hK hS hA [] [0, 1, 2, 3, 4, 5, 6, 7, 8, 9, 10] rfl rfl (by decide) (by decide) (by decide) (fun hPc hDc => (va_runS (As := [.int k1, .int k3, .int k2]) (rest := []) ⟨hx, hb, hml, hown, hts⟩ (kfX9_gain l dC dI k1 k3 k2 H.size o61 eo61) (va_cwS 3 hts gfX10_lines_3 rfl rfl rfl (by decide +kernel) ⟨(Nat.le_of_ble_eq_true rfl), (Nat.le_of_ble_eq_true rfl)⟩) (PS hPc (hK.sub (tys' := ([])) [] rfl) hDc hN) rfl rfl hl.1 rfl (lv_room (Nat.le_of_ble_eq_true rfl)) (zat zrX10_lines_0_ok 32 rfl) ⟨(Nat.le_of_ble_eq_true rfl), (Nat.le_of_ble_eq_true rfl)⟩)) (fun r61 _ H locs hw hP hD _ hS => ?_)
        obtain rfl := hw.symm
        obtain ⟨hP, hD⟩ := pd_mk (bX6 a5 up kp p_p ([(a0, .inr (7, [.ref a5, g9, g10, g11, g12, g13, g14, g15, .int o44.2.1, .int o44.2.2]))])) hP hD
        refine lv_goto (tgt := 73) hx hb (zat zrX10_lines_0_ok 33 rfl) (by decide) ?_
        obtain rfl := Option.some.inj h
        obtain ⟨hP9, hD9⟩ := pd_sub ((a0, .inr (7, [.ref a5, g9, g10, g11, g12, g13, g14, g15, .int o44.2.1, .int o44.2.2])) :: bX6 a5 up kp p_p []) [10, 0, 1, 2, 3, 4, 5, 6, 7, 8, 9] hP hD (by decide) rfl
        have hK9 := hK.sub (tys' := []) [] rfl
        rw [hQQ]
        exact W.iret (v := o61) hx hb hr (fun t ht hW => ⟨⟨o61, (), rfl, rfl, by rw [ht]; exact hP9, va_K.moved hW.alike hK9, hD9⟩, hS.F ht⟩) hS.2.2 (zat zrX10_lines_0_ok 38 rfl)
    · have h := (if_neg c47).symm.trans h
      refine lv_bipush (v := (-100)) hx hb (zat zrX10_lines_0_ok 25 rfl) (by decide) ?_
      obtain rfl := Option.some.inj h
      obtain ⟨hP9, hD9⟩ := pd_sub ((a0, .inr (7, [.ref a5, g9, g10, g11, g12, g13, g14, g15, .int o44.2.1, .int o44.2.2])) :: bX6 a5 up kp p_p []) [10, 0, 1, 2, 3, 4, 5, 6, 7, 8, 9] hP hD (by decide) rfl
      have hK9 := hK.sub (tys' := []) [] rfl
      rw [hQQ]
      exact W.iret (v := (-100 : Int32)) hx hb hr (fun t ht hW => ⟨⟨(-100 : Int32), (), rfl, rfl, by rw [ht]; exact hP9, va_K.moved hW.alike hK9, hD9⟩, hS.F ht⟩) hS.2.2 (zat zrX10_lines_0_ok 26 rfl)
  have J34 : ∀ (H : Heap) (locs : List Loc) (ls : Array Slot), f_X10_lines_J34 k1 k2 k3 k4 x_x p_p = some out → va_P (dC, dI) vwCl ((a0, .inr (7, [.ref a5, g9, g10, g11, g12, g13, g14, g15, .int x_x.1, .int x_x.2])) :: bX6 a5 up kp p_p []) H → va_D A ((a0, .inr (7, [.ref a5, g9, g10, g11, g12, g13, g14, g15, .int x_x.1, .int x_x.2])) :: bX6 a5 up kp p_p []) → va_S A s.heap H locs → lv_has ls 6 [(0, .ref a0), (1, .int k1), (2, .int k2), (3, .int k3), (4, .int k4)] → W p l e (headSpec vfX10_lines { frames := 2, cells := 0, slots := 0, locals := 42 }).room s m ([.ref a0, .int k1, .int k2, .int k3, .int k4]).toArray below meth c H locs 0 0 QQ (F0 m 34 ls []) := by
    intro  H locs ls h  hP hD hS hl
    rw [f_X10_lines_J34] at h
    refine lv_iconst (v := 0) hx hb (zat zrX10_lines_0_ok 17 rfl) (by decide) ?_
    exact J35 (0 : Int32) H _ ls h (by decide) hP hD hS (lv_sub hl [0, 1, 2, 3, 4] rfl)
  refine lv_if_eq (tgt := 34) hx hb (zat zrX10_lines_0_ok 4 rfl) (by decide) (fun c7 => ?_) (fun c7 => ?_)
  · have h := (if_pos c7).symm.trans h
    exact J34  H _ ls h  hP hD hS (lv_sub hl [0, 1, 2, 3, 4] rfl)
  · have h := (if_neg c7).symm.trans h
    refine lv_iload_n hx hb (zat zrX10_lines_0_ok 5 rfl) rfl (lv_at hl 2 rfl) ?_
    refine lv_iconst (v := 0) hx hb (zat zrX10_lines_0_ok 6 rfl) (by decide) ?_
    refine lv_bipush (v := 6) hx hb (zat zrX10_lines_0_ok 7 rfl) (by decide) ?_
    obtain ⟨o14, eo14⟩ : ∃ o, o = f_X10_within k2 (0 : Int32) (6 : Int32) := ⟨_, rfl⟩
    have h := nm_of h o14 eo14
    refine ck_i (wc := []) (wr := ((a0, .inr (7, [.ref a5, g9, g10, g11, g12, g13, g14, g15, .int x_x.1, .int x_x.2])) :: bX6 a5 up kp p_p [])) hP hD hK hS hA [] [0, 1, 2, 3, 4, 5, 6, 7, 8, 9, 10] rfl rfl (by decide) (by decide) (by decide) (fun hPc hDc => (va_runS (As := [.int k2, .int 0, .int 6]) (rest := []) ⟨hx, hb, hml, hown, hts⟩ (kfX10_within l dC dI k2 (0 : Int32) (6 : Int32) H.size o14 eo14.symm) (va_cwS 3 hts gfX10_lines_0 rfl rfl rfl (by decide +kernel) ⟨(Nat.le_of_ble_eq_true rfl), (Nat.le_of_ble_eq_true rfl)⟩) (PS hPc (hK.sub (tys' := ([])) [] rfl) hDc hN) rfl rfl hl.1 rfl (lv_room (Nat.le_of_ble_eq_true rfl)) (zat zrX10_lines_0_ok 8 rfl) ⟨(Nat.le_of_ble_eq_true rfl), (Nat.le_of_ble_eq_true rfl)⟩)) (fun r14 _ H locs hw hP hD _ hS => ?_)
    obtain ⟨hw, br14⟩ := hw
    obtain rfl := hw.symm
    obtain ⟨hP, hD⟩ := pd_mk ((a0, .inr (7, [.ref a5, g9, g10, g11, g12, g13, g14, g15, .int x_x.1, .int x_x.2])) :: bX6 a5 up kp p_p []) hP hD
    refine lv_if_eq (tgt := 34) hx hb (zat zrX10_lines_0_ok 9 rfl) (by decide) (fun c17 => ?_) (fun c17 => ?_)
    · have h := (if_pos c17).symm.trans h
      exact J34  H _ ls h  hP hD hS (lv_sub hl [0, 1, 2, 3, 4] rfl)
    · have h := (if_neg c17).symm.trans h
      refine lv_iload_n hx hb (zat zrX10_lines_0_ok 10 rfl) rfl (lv_at hl 3 rfl) ?_
      refine lv_iconst (v := 0) hx hb (zat zrX10_lines_0_ok 11 rfl) (by decide) ?_
      refine lv_bipush (v := 6) hx hb (zat zrX10_lines_0_ok 12 rfl) (by decide) ?_
      obtain ⟨o24, eo24⟩ : ∃ o, o = f_X10_within k3 (0 : Int32) (6 : Int32) := ⟨_, rfl⟩
      have h := nm_of h o24 eo24
      refine ck_i (wc := []) (wr := ((a0, .inr (7, [.ref a5, g9, g10, g11, g12, g13, g14, g15, .int x_x.1, .int x_x.2])) :: bX6 a5 up kp p_p [])) hP hD hK hS hA [] [0, 1, 2, 3, 4, 5, 6, 7, 8, 9, 10] rfl rfl (by decide) (by decide) (by decide) (fun hPc hDc => (va_runS (As := [.int k3, .int 0, .int 6]) (rest := []) ⟨hx, hb, hml, hown, hts⟩ (kfX10_within l dC dI k3 (0 : Int32) (6 : Int32) H.size o24 eo24.symm) (va_cwS 3 hts gfX10_lines_0 rfl rfl rfl (by decide +kernel) ⟨(Nat.le_of_ble_eq_true rfl), (Nat.le_of_ble_eq_true rfl)⟩) (PS hPc (hK.sub (tys' := ([])) [] rfl) hDc hN) rfl rfl hl.1 rfl (lv_room (Nat.le_of_ble_eq_true rfl)) (zat zrX10_lines_0_ok 13 rfl) ⟨(Nat.le_of_ble_eq_true rfl), (Nat.le_of_ble_eq_true rfl)⟩)) (fun r24 _ H locs hw hP hD _ hS => ?_)
      obtain ⟨hw, br24⟩ := hw
      obtain rfl := hw.symm
      obtain ⟨hP, hD⟩ := pd_mk ((a0, .inr (7, [.ref a5, g9, g10, g11, g12, g13, g14, g15, .int x_x.1, .int x_x.2])) :: bX6 a5 up kp p_p []) hP hD
      refine lv_if_eq (tgt := 34) hx hb (zat zrX10_lines_0_ok 14 rfl) (by decide) (fun c27 => ?_) (fun c27 => ?_)
      · have h := (if_pos c27).symm.trans h
        exact J34  H _ ls h  hP hD hS (lv_sub hl [0, 1, 2, 3, 4] rfl)
      · have h := (if_neg c27).symm.trans h
        refine lv_iconst (v := 1) hx hb (zat zrX10_lines_0_ok 15 rfl) (by decide) ?_
        refine lv_goto (tgt := 35) hx hb (zat zrX10_lines_0_ok 16 rfl) (by decide) ?_
        exact J35 (1 : Int32) H _ ls h (by decide) hP hD hS (lv_sub hl [0, 1, 2, 3, 4] rfl)
noncomputable def zrX9_isBestAlone_0 : List ZR := zc 0 true (.iconst 0) 1 (zc 1 true (.istore_n 3) 1 (zc 2 true (.iload_n 3) 1 (zc 3 true (.bipush 6) 2 (zc 5 true (.if_icmp .gt 26) 3 (zc 8 true (.iload_n 0) 1 (zc 9 true (.iload_n 3) 1 (zc 10 true (.iload_n 2) 1 (zc 11 true (.invokestatic 15) 3 (zc 14 true (.iload_n 0) 1 (zc 15 true (.iload_n 1) 1 (zc 16 true (.iload_n 2) 1 (zc 17 true (.invokestatic 15) 3 (zc 20 true (.if_icmp .le 5) 3 (zc 23 true (.iconst 0) 1 (zc 24 true (.ireturn) 1 (zc 25 true (.iinc 3 1) 3 (zc 28 true (.goto (-26)) 3 (zc 31 true (.iconst 1) 1 (zc 32 true (.ireturn) 1 ([]))))))))))))))))))))
theorem zrX9_isBestAlone_0_ok : zck 0 ((zby cX9_isBestAlone).drop 0) zrX9_isBestAlone_0 = true := by decide +kernel
def vfX9_isBestAlone : List Cond := List.cons (.code yX9_isBestAlone cX9_isBestAlone 4 (some .boolean)) (apW [.methodLink RX9 15 yX9_gain, .static yX9_gain, .initialized RX9] (vfX9_gain))
theorem qfX9_isBestAlone : Good vfX9_isBestAlone := gd_cons (by decide +kernel) (gd_app (gd_dec (by decide +kernel) : Good [.methodLink RX9 15 yX9_gain, .static yX9_gain, .initialized RX9]) qfX9_gain)
theorem gfX9_isBestAlone_0 : GoodIn vfX9_isBestAlone (va_wsS RX9 15 yX9_gain vfX9_gain) := goodIn_app (goodIn_r [.methodLink RX9 15 yX9_gain, .static yX9_gain, .initialized RX9] [1, 2, 3] rfl (by decide +kernel)) (goodIn_m (fun _ h => (List.mem_cons_of_mem _ (List.mem_append_right _ h))) qfX9_gain)
set_option maxHeartbeats 2000000 in
set_option maxRecDepth 100000 in
theorem kfX9_isBestAlone (l : Launch) (dC : Nat → ClassId) (dI : Nat → Nat → Nat) (k0 : Int32) (k1 : Int32) (k2 : Int32) (sz : Nat) (out : Int32) (h : f_X9_isBestAlone k0 k1 k2 = some out) : KDi l yX9_isBestAlone vfX9_isBestAlone ({ frames := 1, cells := 0, slots := 0, locals := 23 }) (dC, dI) [.int k0, .int k1, .int k2] sz [] ([]) (fun (r : Int32) _ => r = out ∧ (0 ≤ r.toInt ∧ r.toInt ≤ 1)) 0 0 := by
  refine Met.ofW (cc := cX9_isBestAlone) (maxL := 4) (ret := (some .boolean)) (by decide) rfl ?_
  intro p e s m args below meth c s₁ B0 hml hv
  obtain ⟨rfl, hsz, hP, hK, hD0, hN⟩ := hv
  have hx := B0.exec
  have hb := B0.bytes
  have hr := B0.returns
  have hts := atoms_spec (ws := vfX9_isBestAlone) B0.pre
  have hown : s.vm.findClass RX9 = some m.cls := findClass_of_methodNamed B0.named
  have hlocks := B0.notSynchronized
  subst hsz
  have hD := hD0.self (sz := s.heap.size)
  generalize hAe : va_A [] s.heap.size = A at hD ⊢
  have hA : ∀ q : Nat, s.heap.size ≤ q → A q := fun q h => by rw [← hAe]; exact Or.inr h
  have hS : va_S A s.heap s.heap [] := va_S.rf
  have hP : va_P (dC, dI) vwCl [] s.heap := hP
  have hl := lv_entry ([.int k0, .int k1, .int k2]) (n := 4) (Nat.le_of_ble_eq_true rfl)
  rw [lg_entry_eq]
  generalize (lg_sl ([.int k0, .int k1, .int k2]) ++ List.replicate (4 - (lg_sl ([.int k0, .int k1, .int k2])).length) Slot.unset).toArray = ls at hl ⊢
  have hl : lv_has ls 4 [(0, .int k0), (1, .int k1), (2, .int k2)] := hl
  refine W_q (fun QQ hQQ => ?_)
  rw [f_X9_isBestAlone] at h
  refine lv_iconst (v := 0) hx hb (zat zrX9_isBestAlone_0_ok 0 rfl) (by decide) ?_
  refine lv_istore_n (lv' := [(3, .int 0), (0, .int k0), (1, .int k1), (2, .int k2)]) hx hb (zat zrX9_isBestAlone_0_ok 1 rfl) rfl hl (by decide) rfl (fun ls hl => ?_)
  have L2 : ∀ (n2 : Nat) (v2_l3 : Int32) (H : Heap) (locs : List Loc) (ls : Array Slot), f_X9_isBestAlone_L2 k0 k1 k2 n2 v2_l3 = some out → va_P (dC, dI) vwCl [] H → va_D A [] → va_S A s.heap H locs → lv_has ls 4 [(3, .int v2_l3), (0, .int k0), (1, .int k1), (2, .int k2)] → W p l e (headSpec vfX9_isBestAlone { frames := 1, cells := 0, slots := 0, locals := 23 }).room s m ([.int k0, .int k1, .int k2]).toArray below meth c H locs 0 0 QQ (F0 m 2 ls []) := by
    intro n2
    induction n2 with
    | zero =>
      intro v2_l3 H locs ls h  _ _ _ _
      rw [f_X9_isBestAlone_L2] at h
      cases h
    | succ n2 ih2 =>
      intro v2_l3 H locs ls h  hP hD hS hl
      rw [f_X9_isBestAlone_L2] at h
      refine lv_iload_n hx hb (zat zrX9_isBestAlone_0_ok 2 rfl) rfl (lv_at hl 0 rfl) ?_
      refine lv_bipush (v := 6) hx hb (zat zrX9_isBestAlone_0_ok 3 rfl) (by decide) ?_
      refine lv_icmp_gt (tgt := 31) hx hb (zat zrX9_isBestAlone_0_ok 4 rfl) (by decide) (fun c5 => ?_) (fun c5 => ?_)
      · have h := (if_pos c5).symm.trans h
        refine lv_iconst (v := 1) hx hb (zat zrX9_isBestAlone_0_ok 18 rfl) (by decide) ?_
        obtain rfl := Option.some.inj h
        obtain ⟨hP9, hD9⟩ := pd_sub [] [] hP hD (by decide) rfl
        have hK9 := hK.sub (tys' := []) [] rfl
        rw [hQQ]
        exact W.zret (v := (1 : Int32)) hx hb hr rfl (fun t ht hW => ⟨⟨(1 : Int32), (), rfl, ⟨rfl, (by decide)⟩, by rw [ht]; exact hP9, va_K.moved hW.alike hK9, hD9⟩, hS.F ht⟩) hS.2.2 (zat zrX9_isBestAlone_0_ok 19 rfl)
      · have h := (if_neg c5).symm.trans h
        refine lv_iload_n hx hb (zat zrX9_isBestAlone_0_ok 5 rfl) rfl (lv_at hl 1 rfl) ?_
        refine lv_iload_n hx hb (zat zrX9_isBestAlone_0_ok 6 rfl) rfl (lv_at hl 0 rfl) ?_
        refine lv_iload_n hx hb (zat zrX9_isBestAlone_0_ok 7 rfl) rfl (lv_at hl 3 rfl) ?_
        obtain ⟨o11, eo11, h⟩ := bd_of h
        refine ck_i (wc := []) (wr := []) hP hD hK hS hA [] [] rfl rfl (by decide) (by decide) (by decide) (fun hPc hDc => (va_runS (As := [.int k0, .int v2_l3, .int k2]) (rest := []) ⟨hx, hb, hml, hown, hts⟩ (kfX9_gain l dC dI k0 v2_l3 k2 H.size o11 eo11) (va_cwS 3 hts gfX9_isBestAlone_0 rfl rfl rfl (by decide +kernel) ⟨(Nat.le_of_ble_eq_true rfl), (Nat.le_of_ble_eq_true rfl)⟩) (PS hPc (hK.sub (tys' := ([])) [] rfl) hDc hN) rfl rfl hl.1 rfl (lv_room (Nat.le_of_ble_eq_true rfl)) (zat zrX9_isBestAlone_0_ok 8 rfl) ⟨(Nat.le_of_ble_eq_true rfl), (Nat.le_of_ble_eq_true rfl)⟩)) (fun r11 _ H locs hw hP hD _ hS => ?_)
        obtain rfl := hw.symm
        obtain ⟨hP, hD⟩ := pd_mk [] hP hD
        refine lv_iload_n hx hb (zat zrX9_isBestAlone_0_ok 9 rfl) rfl (lv_at hl 1 rfl) ?_
        refine lv_iload_n hx hb (zat zrX9_isBestAlone_0_ok 10 rfl) rfl (lv_at hl 2 rfl) ?_
        refine lv_iload_n hx hb (zat zrX9_isBestAlone_0_ok 11 rfl) rfl (lv_at hl 3 rfl) ?_
        obtain ⟨o17, eo17, h⟩ := bd_of h
        refine ck_i (wc := []) (wr := []) hP hD hK hS hA [] [] rfl rfl (by decide) (by decide) (by decide) (fun hPc hDc => (va_runS (As := [.int k0, .int k1, .int k2]) (rest := [.int o11]) ⟨hx, hb, hml, hown, hts⟩ (kfX9_gain l dC dI k0 k1 k2 H.size o17 eo17) (va_cwS 3 hts gfX9_isBestAlone_0 rfl rfl rfl (by decide +kernel) ⟨(Nat.le_of_ble_eq_true rfl), (Nat.le_of_ble_eq_true rfl)⟩) (PS hPc (hK.sub (tys' := ([])) [] rfl) hDc hN) rfl rfl hl.1 rfl (lv_room (Nat.le_of_ble_eq_true rfl)) (zat zrX9_isBestAlone_0_ok 12 rfl) ⟨(Nat.le_of_ble_eq_true rfl), (Nat.le_of_ble_eq_true rfl)⟩)) (fun r17 _ H locs hw hP hD _ hS => ?_)
        obtain rfl := hw.symm
        obtain ⟨hP, hD⟩ := pd_mk [] hP hD
        refine lv_icmp_le (tgt := 25) hx hb (zat zrX9_isBestAlone_0_ok 13 rfl) (by decide) (fun c20 => ?_) (fun c20 => ?_)
        · have h := (if_pos c20).symm.trans h
          refine lv_iinc (v := (v2_l3 + (1 : Int32))) (lv' := [(3, .int (v2_l3 + (1 : Int32))), (0, .int k0), (1, .int k1), (2, .int k2)]) hx hb (zat zrX9_isBestAlone_0_ok 16 rfl) hl (k := 0) rfl rfl (by decide) rfl (fun ls hl => ?_)
          refine lv_goto (tgt := 2) hx hb (zat zrX9_isBestAlone_0_ok 17 rfl) (by decide) ?_
          exact ih2 (v2_l3 + (1 : Int32)) H _ ls h  hP hD hS (lv_sub hl [0, 1, 2, 3] rfl)
        · have h := (if_neg c20).symm.trans h
          refine lv_iconst (v := 0) hx hb (zat zrX9_isBestAlone_0_ok 14 rfl) (by decide) ?_
          obtain rfl := Option.some.inj h
          obtain ⟨hP9, hD9⟩ := pd_sub [] [] hP hD (by decide) rfl
          have hK9 := hK.sub (tys' := []) [] rfl
          rw [hQQ]
          exact W.zret (v := (0 : Int32)) hx hb hr rfl (fun t ht hW => ⟨⟨(0 : Int32), (), rfl, ⟨rfl, (by decide)⟩, by rw [ht]; exact hP9, va_K.moved hW.alike hK9, hD9⟩, hS.F ht⟩) hS.2.2 (zat zrX9_isBestAlone_0_ok 15 rfl)
  exact L2 FU (0 : Int32) s.heap _ ls h  hP hD hS (lv_sub hl [0, 1, 2, 3] rfl)
noncomputable def zrX9_isRest_0 : List ZR := zc 0 true (.iload_n 1) 1 (zc 1 true (.bipush 10) 2 (zc 3 true (.idiv) 1 (zc 4 true (.istore_n 2) 1 (zc 5 true (.iload_n 1) 1 (zc 6 true (.bipush 10) 2 (zc 8 true (.irem) 1 (zc 9 true (.istore_n 3) 1 (zc 10 true (.iload_n 3) 1 (zc 11 true (.bipush 6) 2 (zc 13 true (.if_icmp .gt 25) 3 (zc 16 true (.iload_n 0) 1 (zc 17 true (.iload_n 2) 1 (zc 18 true (.iload_n 3) 1 (zc 19 true (.invokestatic 9) 3 (zc 22 true (.ifCond .eq 16) 3 (zc 25 true (.iload_n 0) 1 (zc 26 true (.iload_n 3) 1 (zc 27 true (.iload_n 2) 1 (zc 28 true (.invokestatic 9) 3 (zc 31 true (.ifCond .eq 7) 3 (zc 34 true (.iconst 1) 1 (zc 35 true (.goto 4) 3 (zc 38 true (.iconst 0) 1 (zc 39 true (.ireturn) 1 ([])))))))))))))))))))))))))
theorem zrX9_isRest_0_ok : zck 0 ((zby cX9_isRest).drop 0) zrX9_isRest_0 = true := by decide +kernel
def vfX9_isRest : List Cond := List.cons (.code yX9_isRest cX9_isRest 4 (some .boolean)) (apW [.methodLink RX9 9 yX9_isBestAlone, .static yX9_isBestAlone, .initialized RX9] (vfX9_isBestAlone))
theorem qfX9_isRest : Good vfX9_isRest := gd_cons (by decide +kernel) (gd_app (gd_dec (by decide +kernel) : Good [.methodLink RX9 9 yX9_isBestAlone, .static yX9_isBestAlone, .initialized RX9]) qfX9_isBestAlone)
theorem gfX9_isRest_0 : GoodIn vfX9_isRest (va_wsS RX9 9 yX9_isBestAlone vfX9_isBestAlone) := goodIn_app (goodIn_r [.methodLink RX9 9 yX9_isBestAlone, .static yX9_isBestAlone, .initialized RX9] [1, 2, 3] rfl (by decide +kernel)) (goodIn_m (fun _ h => (List.mem_cons_of_mem _ (List.mem_append_right _ h))) qfX9_isBestAlone)
set_option maxHeartbeats 2000000 in
set_option maxRecDepth 100000 in
theorem kfX9_isRest (l : Launch) (dC : Nat → ClassId) (dI : Nat → Nat → Nat) (k0 : Int32) (k1 : Int32) (sz : Nat) (out : Int32) (h : f_X9_isRest k0 k1 = some out) : KDi l yX9_isRest vfX9_isRest ({ frames := 2, cells := 0, slots := 0, locals := 46 }) (dC, dI) [.int k0, .int k1] sz [] ([]) (fun (r : Int32) _ => r = out ∧ (0 ≤ r.toInt ∧ r.toInt ≤ 1)) 0 0 := by
  refine Met.ofW (cc := cX9_isRest) (maxL := 4) (ret := (some .boolean)) (by decide) rfl ?_
  intro p e s m args below meth c s₁ B0 hml hv
  obtain ⟨rfl, hsz, hP, hK, hD0, hN⟩ := hv
  have hx := B0.exec
  have hb := B0.bytes
  have hr := B0.returns
  have hts := atoms_spec (ws := vfX9_isRest) B0.pre
  have hown : s.vm.findClass RX9 = some m.cls := findClass_of_methodNamed B0.named
  have hlocks := B0.notSynchronized
  subst hsz
  have hD := hD0.self (sz := s.heap.size)
  generalize hAe : va_A [] s.heap.size = A at hD ⊢
  have hA : ∀ q : Nat, s.heap.size ≤ q → A q := fun q h => by rw [← hAe]; exact Or.inr h
  have hS : va_S A s.heap s.heap [] := va_S.rf
  have hP : va_P (dC, dI) vwCl [] s.heap := hP
  have hl := lv_entry ([.int k0, .int k1]) (n := 4) (Nat.le_of_ble_eq_true rfl)
  rw [lg_entry_eq]
  generalize (lg_sl ([.int k0, .int k1]) ++ List.replicate (4 - (lg_sl ([.int k0, .int k1])).length) Slot.unset).toArray = ls at hl ⊢
  have hl : lv_has ls 4 [(0, .int k0), (1, .int k1)] := hl
  refine W_q (fun QQ hQQ => ?_)
  rw [f_X9_isRest] at h
  refine lv_iload_n hx hb (zat zrX9_isRest_0_ok 0 rfl) rfl (lv_at hl 1 rfl) ?_
  refine lv_bipush (v := 10) hx hb (zat zrX9_isRest_0_ok 1 rfl) (by decide) ?_
  refine lv_idiv hx hb (zat zrX9_isRest_0_ok 2 rfl) (by decide) ?_
  refine lv_istore_n (lv' := [(2, .int (k1 / (10 : Int32))), (0, .int k0), (1, .int k1)]) hx hb (zat zrX9_isRest_0_ok 3 rfl) rfl hl (by decide) rfl (fun ls hl => ?_)
  refine lv_iload_n hx hb (zat zrX9_isRest_0_ok 4 rfl) rfl (lv_at hl 2 rfl) ?_
  refine lv_bipush (v := 10) hx hb (zat zrX9_isRest_0_ok 5 rfl) (by decide) ?_
  refine lv_irem hx hb (zat zrX9_isRest_0_ok 6 rfl) (by decide) ?_
  refine lv_istore_n (lv' := [(3, .int (k1 - k1 / (10 : Int32) * (10 : Int32))), (2, .int (k1 / (10 : Int32))), (0, .int k0), (1, .int k1)]) hx hb (zat zrX9_isRest_0_ok 7 rfl) rfl hl (by decide) rfl (fun ls hl => ?_)
  refine lv_iload_n hx hb (zat zrX9_isRest_0_ok 8 rfl) rfl (lv_at hl 0 rfl) ?_
  refine lv_bipush (v := 6) hx hb (zat zrX9_isRest_0_ok 9 rfl) (by decide) ?_
  refine lv_icmp_gt (tgt := 38) hx hb (zat zrX9_isRest_0_ok 10 rfl) (by decide) (fun c13 => ?_) (fun c13 => ?_)
  · have h := (if_pos c13).symm.trans h
    refine lv_iconst (v := 0) hx hb (zat zrX9_isRest_0_ok 23 rfl) (by decide) ?_
    obtain rfl := Option.some.inj h
    obtain ⟨hP9, hD9⟩ := pd_sub [] [] hP hD (by decide) rfl
    have hK9 := hK.sub (tys' := []) [] rfl
    rw [hQQ]
    exact W.zret (v := (0 : Int32)) hx hb hr rfl (fun t ht hW => ⟨⟨(0 : Int32), (), rfl, ⟨rfl, (by decide)⟩, by rw [ht]; exact hP9, va_K.moved hW.alike hK9, hD9⟩, hS.F ht⟩) hS.2.2 (zat zrX9_isRest_0_ok 24 rfl)
  · have h := (if_neg c13).symm.trans h
    refine lv_iload_n hx hb (zat zrX9_isRest_0_ok 11 rfl) rfl (lv_at hl 2 rfl) ?_
    refine lv_iload_n hx hb (zat zrX9_isRest_0_ok 12 rfl) rfl (lv_at hl 1 rfl) ?_
    refine lv_iload_n hx hb (zat zrX9_isRest_0_ok 13 rfl) rfl (lv_at hl 0 rfl) ?_
    obtain ⟨o19, eo19, h⟩ := bd_of h
    refine ck_i (wc := []) (wr := []) hP hD hK hS hA [] [] rfl rfl (by decide) (by decide) (by decide) (fun hPc hDc => (va_runS (As := [.int k0, .int (k1 / (10 : Int32)), .int (k1 - k1 / (10 : Int32) * (10 : Int32))]) (rest := []) ⟨hx, hb, hml, hown, hts⟩ (kfX9_isBestAlone l dC dI k0 (k1 / (10 : Int32)) (k1 - k1 / (10 : Int32) * (10 : Int32)) s.heap.size o19 eo19) (va_cwS 3 hts gfX9_isRest_0 rfl rfl rfl (by decide +kernel) ⟨(Nat.le_of_ble_eq_true rfl), (Nat.le_of_ble_eq_true rfl)⟩) (PS hPc (hK.sub (tys' := ([])) [] rfl) hDc hN) rfl rfl hl.1 rfl (lv_room (Nat.le_of_ble_eq_true rfl)) (zat zrX9_isRest_0_ok 14 rfl) ⟨(Nat.le_of_ble_eq_true rfl), (Nat.le_of_ble_eq_true rfl)⟩)) (fun r19 _ H locs hw hP hD _ hS => ?_)
    obtain ⟨hw, br19⟩ := hw
    obtain rfl := hw.symm
    obtain ⟨hP, hD⟩ := pd_mk [] hP hD
    refine lv_if_eq (tgt := 38) hx hb (zat zrX9_isRest_0_ok 15 rfl) (by decide) (fun c22 => ?_) (fun c22 => ?_)
    · have h := (if_pos c22).symm.trans h
      refine lv_iconst (v := 0) hx hb (zat zrX9_isRest_0_ok 23 rfl) (by decide) ?_
      obtain rfl := Option.some.inj h
      obtain ⟨hP9, hD9⟩ := pd_sub [] [] hP hD (by decide) rfl
      have hK9 := hK.sub (tys' := []) [] rfl
      rw [hQQ]
      exact W.zret (v := (0 : Int32)) hx hb hr rfl (fun t ht hW => ⟨⟨(0 : Int32), (), rfl, ⟨rfl, (by decide)⟩, by rw [ht]; exact hP9, va_K.moved hW.alike hK9, hD9⟩, hS.F ht⟩) hS.2.2 (zat zrX9_isRest_0_ok 24 rfl)
    · have h := (if_neg c22).symm.trans h
      refine lv_iload_n hx hb (zat zrX9_isRest_0_ok 16 rfl) rfl (lv_at hl 2 rfl) ?_
      refine lv_iload_n hx hb (zat zrX9_isRest_0_ok 17 rfl) rfl (lv_at hl 0 rfl) ?_
      refine lv_iload_n hx hb (zat zrX9_isRest_0_ok 18 rfl) rfl (lv_at hl 1 rfl) ?_
      obtain ⟨o28, eo28, h⟩ := bd_of h
      refine ck_i (wc := []) (wr := []) hP hD hK hS hA [] [] rfl rfl (by decide) (by decide) (by decide) (fun hPc hDc => (va_runS (As := [.int k0, .int (k1 - k1 / (10 : Int32) * (10 : Int32)), .int (k1 / (10 : Int32))]) (rest := []) ⟨hx, hb, hml, hown, hts⟩ (kfX9_isBestAlone l dC dI k0 (k1 - k1 / (10 : Int32) * (10 : Int32)) (k1 / (10 : Int32)) H.size o28 eo28) (va_cwS 3 hts gfX9_isRest_0 rfl rfl rfl (by decide +kernel) ⟨(Nat.le_of_ble_eq_true rfl), (Nat.le_of_ble_eq_true rfl)⟩) (PS hPc (hK.sub (tys' := ([])) [] rfl) hDc hN) rfl rfl hl.1 rfl (lv_room (Nat.le_of_ble_eq_true rfl)) (zat zrX9_isRest_0_ok 19 rfl) ⟨(Nat.le_of_ble_eq_true rfl), (Nat.le_of_ble_eq_true rfl)⟩)) (fun r28 _ H locs hw hP hD _ hS => ?_)
      obtain ⟨hw, br28⟩ := hw
      obtain rfl := hw.symm
      obtain ⟨hP, hD⟩ := pd_mk [] hP hD
      refine lv_if_eq (tgt := 38) hx hb (zat zrX9_isRest_0_ok 20 rfl) (by decide) (fun c31 => ?_) (fun c31 => ?_)
      · have h := (if_pos c31).symm.trans h
        refine lv_iconst (v := 0) hx hb (zat zrX9_isRest_0_ok 23 rfl) (by decide) ?_
        obtain rfl := Option.some.inj h
        obtain ⟨hP9, hD9⟩ := pd_sub [] [] hP hD (by decide) rfl
        have hK9 := hK.sub (tys' := []) [] rfl
        rw [hQQ]
        exact W.zret (v := (0 : Int32)) hx hb hr rfl (fun t ht hW => ⟨⟨(0 : Int32), (), rfl, ⟨rfl, (by decide)⟩, by rw [ht]; exact hP9, va_K.moved hW.alike hK9, hD9⟩, hS.F ht⟩) hS.2.2 (zat zrX9_isRest_0_ok 24 rfl)
      · have h := (if_neg c31).symm.trans h
        refine lv_iconst (v := 1) hx hb (zat zrX9_isRest_0_ok 21 rfl) (by decide) ?_
        refine lv_goto (tgt := 39) hx hb (zat zrX9_isRest_0_ok 22 rfl) (by decide) ?_
        obtain rfl := Option.some.inj h
        obtain ⟨hP9, hD9⟩ := pd_sub [] [] hP hD (by decide) rfl
        have hK9 := hK.sub (tys' := []) [] rfl
        rw [hQQ]
        exact W.zret (v := (1 : Int32)) hx hb hr rfl (fun t ht hW => ⟨⟨(1 : Int32), (), rfl, ⟨rfl, (by decide)⟩, by rw [ht]; exact hP9, va_K.moved hW.alike hK9, hD9⟩, hS.F ht⟩) hS.2.2 (zat zrX9_isRest_0_ok 24 rfl)
noncomputable def zrX10_rests_0 : List ZR := zc 0 true (.aload_n 0) 1 (zc 1 true (.aload_n 0) 1 (zc 2 true (.iload_n 1) 1 (zc 3 true (.iconst 0) 1 (zc 4 true (.bipush 99) 2 (zc 6 true (.invokestatic 75) 3 (zc 9 true (.invokevirtual 169) 3 (zc 12 true (.invokevirtual 79) 3 (zc 15 true (.ifCond .eq 5) 3 (zc 18 true (.iconst (-1)) 1 (zc 19 true (.ireturn) 1 (zc 20 true (.iconst 0) 1 (zc 21 true (.istore_n 2) 1 (zc 22 true (.iconst 0) 1 (zc 23 true (.istore_n 3) 1 (zc 24 true (.iload_n 3) 1 (zc 25 true (.bipush 70) 2 (zc 27 true (.if_icmp .ge 20) 3 (zc 30 true (.iload_n 1) 1 (zc 31 true (.iload_n 3) 1 (zc 32 true (.invokestatic 317) 3 (zc 35 true (.ifCond .eq 6) 3 (zc 38 true (.iinc 2 1) 3 (zc 41 true (.iinc 3 1) 3 (zc 44 true (.goto (-20)) 3 (zc 47 true (.iload_n 2) 1 (zc 48 true (.ireturn) 1 ([])))))))))))))))))))))))))))
theorem zrX10_rests_0_ok : zck 0 ((zby cX10_rests).drop 0) zrX10_rests_0 = true := by decide +kernel
def vfX10_rests : List Cond := List.cons (.code yX10_rests cX10_rests 4 (some .int)) (apW [.methodLink RX10 75 yX10_within, .static yX10_within, .initialized RX10, .methodLink RX10 169 yX10_numberTrouble, .instanceMethod yX10_numberTrouble, .selects RX10 yX10_numberTrouble yX10_numberTrouble, .methodLink RX10 79 yX10_refused, .instanceMethod yX10_refused, .selects RX10 yX10_refused yX10_refused, .methodLink RX10 317 yX9_isRest, .static yX9_isRest, .initialized RX9] (apW vfX10_within (apW vfX10_numberTrouble (apW vfX10_refused (vfX9_isRest)))))
theorem qfX10_rests : Good vfX10_rests := gd_cons (by decide +kernel) (gd_app (gd_dec (by decide +kernel) : Good [.methodLink RX10 75 yX10_within, .static yX10_within, .initialized RX10, .methodLink RX10 169 yX10_numberTrouble, .instanceMethod yX10_numberTrouble, .selects RX10 yX10_numberTrouble yX10_numberTrouble, .methodLink RX10 79 yX10_refused, .instanceMethod yX10_refused, .selects RX10 yX10_refused yX10_refused, .methodLink RX10 317 yX9_isRest, .static yX9_isRest, .initialized RX9]) (gd_app qfX10_within (gd_app qfX10_numberTrouble (gd_app qfX10_refused qfX9_isRest))))
theorem gfX10_rests_0 : GoodIn vfX10_rests (va_wsS RX10 75 yX10_within vfX10_within) := goodIn_app (goodIn_r [.methodLink RX10 75 yX10_within, .static yX10_within, .initialized RX10] [1, 2, 3] rfl (by decide +kernel)) (goodIn_m (fun _ h => (List.mem_cons_of_mem _ (List.mem_append_right _ (List.mem_append_left _ h)))) qfX10_within)
theorem gfX10_rests_1 : GoodIn vfX10_rests (wsV RX10 169 RX10 yX10_numberTrouble vfX10_numberTrouble) := goodIn_app (goodIn_r [.methodLink RX10 169 yX10_numberTrouble, .instanceMethod yX10_numberTrouble, .selects RX10 yX10_numberTrouble yX10_numberTrouble, .initialized RX10] [4, 5, 6, 3] rfl (by decide +kernel)) (goodIn_m (fun _ h => (List.mem_cons_of_mem _ (List.mem_append_right _ (List.mem_append_right _ (List.mem_append_left _ h))))) qfX10_numberTrouble)
theorem gfX10_rests_2 : GoodIn vfX10_rests (wsV RX10 79 RX10 yX10_refused vfX10_refused) := goodIn_app (goodIn_r [.methodLink RX10 79 yX10_refused, .instanceMethod yX10_refused, .selects RX10 yX10_refused yX10_refused, .initialized RX10] [7, 8, 9, 3] rfl (by decide +kernel)) (goodIn_m (fun _ h => (List.mem_cons_of_mem _ (List.mem_append_right _ (List.mem_append_right _ (List.mem_append_right _ (List.mem_append_left _ h)))))) qfX10_refused)
theorem gfX10_rests_3 : GoodIn vfX10_rests (va_wsS RX10 317 yX9_isRest vfX9_isRest) := goodIn_app (goodIn_r [.methodLink RX10 317 yX9_isRest, .static yX9_isRest, .initialized RX9] [10, 11, 12] rfl (by decide +kernel)) (goodIn_m (fun _ h => (List.mem_cons_of_mem _ (List.mem_append_right _ (List.mem_append_right _ (List.mem_append_right _ (List.mem_append_right _ h)))))) qfX9_isRest)
set_option maxHeartbeats 2000000 in
set_option maxRecDepth 100000 in
theorem kfX10_rests (l : Launch) (dC : Nat → ClassId) (dI : Nat → Nat → Nat) (a0 : Nat) (k1 : Int32) (a2 : Nat) (up : Nat → Nat) (kp : Nat → ClassId) (x_x : TX10_x) (g6 : Value) (g7 : Value) (g8 : Value) (g9 : Value) (g10 : Value) (g11 : Value) (g12 : Value) (p_p : TX6_p) (sz : Nat) (out : (Int32 × TX10_x)) (h : f_X10_rests k1 x_x p_p = some out) : KCi l yX10_rests vfX10_rests ({ frames := 3, cells := 0, slots := 0, locals := 69 }) (dC, dI) [.ref a0, .int k1] sz ((a0, .inr (7, [.ref a2, g6, g7, g8, g9, g10, g11, g12, .int x_x.1, .int x_x.2])) :: bX6 a2 up kp p_p []) (tX6 kp ([])) (fun (r : Int32) _ => r = out.1) ((a0, .inr (7, [.ref a2, g6, g7, g8, g9, g10, g11, g12, .int out.2.1, .int out.2.2])) :: bX6 a2 up kp p_p []) 0 0 := by
  refine Met.ofW (cc := cX10_rests) (maxL := 4) (ret := (some .int)) (by decide) rfl ?_
  intro p e s m args below meth c s₁ B0 hml hv
  obtain ⟨rfl, hsz, hP, hK, hD0, hN⟩ := hv
  have hx := B0.exec
  have hb := B0.bytes
  have hr := B0.returns
  have hts := atoms_spec (ws := vfX10_rests) B0.pre
  have hown : s.vm.findClass RX10 = some m.cls := findClass_of_methodNamed B0.named
  have hlocks := B0.notSynchronized
  subst hsz
  have hD := hD0.self (sz := s.heap.size)
  generalize hAe : va_A ((a0, .inr (7, [.ref a2, g6, g7, g8, g9, g10, g11, g12, .int x_x.1, .int x_x.2])) :: bX6 a2 up kp p_p []) s.heap.size = A at hD ⊢
  have hA : ∀ q : Nat, s.heap.size ≤ q → A q := fun q h => by rw [← hAe]; exact Or.inr h
  have hS : va_S A s.heap s.heap [] := va_S.rf
  have hP : va_P (dC, dI) vwCl ((a0, .inr (7, [.ref a2, g6, g7, g8, g9, g10, g11, g12, .int x_x.1, .int x_x.2])) :: bX6 a2 up kp p_p []) s.heap := hP
  have hl := lv_entry ([.ref a0, .int k1]) (n := 4) (Nat.le_of_ble_eq_true rfl)
  rw [lg_entry_eq]
  generalize (lg_sl ([.ref a0, .int k1]) ++ List.replicate (4 - (lg_sl ([.ref a0, .int k1])).length) Slot.unset).toArray = ls at hl ⊢
  have hl : lv_has ls 4 [(0, .ref a0), (1, .int k1)] := hl
  refine W_q (fun QQ hQQ => ?_)
  rw [f_X10_rests] at h
  refine lv_aload_n hx hb (zat zrX10_rests_0_ok 0 rfl) rfl (lv_at hl 0 rfl) ?_
  refine lv_aload_n hx hb (zat zrX10_rests_0_ok 1 rfl) rfl (lv_at hl 0 rfl) ?_
  refine lv_iload_n hx hb (zat zrX10_rests_0_ok 2 rfl) rfl (lv_at hl 1 rfl) ?_
  refine lv_iconst (v := 0) hx hb (zat zrX10_rests_0_ok 3 rfl) (by decide) ?_
  refine lv_bipush (v := 99) hx hb (zat zrX10_rests_0_ok 4 rfl) (by decide) ?_
  obtain ⟨o6, eo6⟩ : ∃ o, o = f_X10_within k1 (0 : Int32) (99 : Int32) := ⟨_, rfl⟩
  have h := nm_of h o6 eo6
  refine ck_i (wc := []) (wr := ((a0, .inr (7, [.ref a2, g6, g7, g8, g9, g10, g11, g12, .int x_x.1, .int x_x.2])) :: bX6 a2 up kp p_p [])) hP hD hK hS hA [] [0, 1, 2, 3, 4, 5, 6, 7, 8, 9, 10] rfl rfl (by decide) (by decide) (by decide) (fun hPc hDc => (va_runS (As := [.int k1, .int 0, .int 99]) (rest := [.ref a0, .ref a0]) ⟨hx, hb, hml, hown, hts⟩ (kfX10_within l dC dI k1 (0 : Int32) (99 : Int32) s.heap.size o6 eo6.symm) (va_cwS 3 hts gfX10_rests_0 rfl rfl rfl (by decide +kernel) ⟨(Nat.le_of_ble_eq_true rfl), (Nat.le_of_ble_eq_true rfl)⟩) (PS hPc (hK.sub (tys' := ([])) [] rfl) hDc hN) rfl rfl hl.1 rfl (lv_room (Nat.le_of_ble_eq_true rfl)) (zat zrX10_rests_0_ok 5 rfl) ⟨(Nat.le_of_ble_eq_true rfl), (Nat.le_of_ble_eq_true rfl)⟩)) (fun r6 _ H locs hw hP hD _ hS => ?_)
  obtain ⟨hw, br6⟩ := hw
  obtain rfl := hw.symm
  obtain ⟨hP, hD⟩ := pd_mk ((a0, .inr (7, [.ref a2, g6, g7, g8, g9, g10, g11, g12, .int x_x.1, .int x_x.2])) :: bX6 a2 up kp p_p []) hP hD
  obtain ⟨o9, eo9⟩ : ∃ o, o = f_X10_numberTrouble o6 p_p := ⟨_, rfl⟩
  have h := nm_of h o9 eo9
  refine ck_i (wc := ((a0, .inr (7, [.ref a2, g6, g7, g8, g9, g10, g11, g12, .int x_x.1, .int x_x.2])) :: bX6 a2 up kp p_p [])) (wr := []) hP hD hK hS hA [0, 1, 2, 3, 4, 5, 6, 7, 8, 9, 10] [] rfl rfl (by decide) (by decide) (by decide) (fun hPc hDc => (va_runV (As := [.int o6]) (rest := [.ref a0]) ⟨hx, hb, hml, hown, hts⟩ (kfX10_numberTrouble l dC dI a0 o6 a2 up kp (g6) (g7) (g8) (g9) (g10) (g11) (g12) (.int x_x.1) (.int x_x.2) p_p H.size o9 eo9.symm) (cwV 1 hts gfX10_rests_1 rfl rfl rfl (by decide +kernel) ⟨(Nat.le_of_ble_eq_true rfl), (Nat.le_of_ble_eq_true rfl)⟩) (PV hPc (hK.sub (tys' := (tX6 kp ([]))) [0, 1, 2, 3, 4, 5, 6, 7, 8] rfl) hDc hN 0 rfl rfl) rfl rfl hl.1 rfl (lv_room (Nat.le_of_ble_eq_true rfl)) (zat zrX10_rests_0_ok 6 rfl) ⟨(Nat.le_of_ble_eq_true rfl), (Nat.le_of_ble_eq_true rfl)⟩)) (fun r9 _ H locs hw hP hD _ hS => ?_)
  obtain rfl := hw.symm
  obtain ⟨hP, hD⟩ := pd_mk ((a0, .inr (7, [.ref a2, g6, g7, g8, g9, g10, g11, g12, .int x_x.1, .int x_x.2])) :: bX6 a2 up kp p_p []) hP hD
  obtain ⟨o12, eo12⟩ : ∃ o, o = f_X10_refused o9 x_x := ⟨_, rfl⟩
  have h := nm_of h o12 eo12
  refine ck_i (wc := ([(a0, .inr (7, [.ref a2, g6, g7, g8, g9, g10, g11, g12, .int x_x.1, .int x_x.2]))])) (wr := (bX6 a2 up kp p_p [])) hP hD hK hS hA [0] [1, 2, 3, 4, 5, 6, 7, 8, 9, 10] rfl rfl (by decide) (by decide) (by decide) (fun hPc hDc => (va_runV (As := [.int o9]) (rest := []) ⟨hx, hb, hml, hown, hts⟩ (kfX10_refused l dC dI a0 o9 x_x (.ref a2) (g6) (g7) (g8) (g9) (g10) (g11) (g12) H.size o12 eo12.symm) (cwV 1 hts gfX10_rests_2 rfl rfl rfl (by decide +kernel) ⟨(Nat.le_of_ble_eq_true rfl), (Nat.le_of_ble_eq_true rfl)⟩) (PV hPc (hK.sub (tys' := ([])) [] rfl) hDc hN 0 rfl rfl) rfl rfl hl.1 rfl (lv_room (Nat.le_of_ble_eq_true rfl)) (zat zrX10_rests_0_ok 7 rfl) ⟨(Nat.le_of_ble_eq_true rfl), (Nat.le_of_ble_eq_true rfl)⟩)) (fun r12 _ H locs hw hP hD _ hS => ?_)
  obtain ⟨hw, br12⟩ := hw
  obtain rfl := hw
  obtain ⟨hP, hD⟩ := pd_mk (bX6 a2 up kp p_p ([(a0, .inr (7, [.ref a2, g6, g7, g8, g9, g10, g11, g12, .int o12.2.1, .int o12.2.2]))])) hP hD
  refine lv_if_eq (tgt := 20) hx hb (zat zrX10_rests_0_ok 8 rfl) (by decide) (fun c15 => ?_) (fun c15 => ?_)
  · have h := (if_pos c15).symm.trans h
    refine lv_iconst (v := 0) hx hb (zat zrX10_rests_0_ok 11 rfl) (by decide) ?_
    refine lv_istore_n (lv' := [(2, .int 0), (0, .ref a0), (1, .int k1)]) hx hb (zat zrX10_rests_0_ok 12 rfl) rfl hl (by decide) rfl (fun ls hl => ?_)
    refine lv_iconst (v := 0) hx hb (zat zrX10_rests_0_ok 13 rfl) (by decide) ?_
    refine lv_istore_n (lv' := [(3, .int 0), (2, .int 0), (0, .ref a0), (1, .int k1)]) hx hb (zat zrX10_rests_0_ok 14 rfl) rfl hl (by decide) rfl (fun ls hl => ?_)
    have L24 : ∀ (n24 : Nat) (v24_l3 : Int32) (v24_l2 : Int32) (H : Heap) (locs : List Loc) (ls : Array Slot), f_X10_rests_L24 k1 o12 n24 v24_l3 v24_l2 = some out → va_P (dC, dI) vwCl (bX6 a2 up kp p_p ([(a0, .inr (7, [.ref a2, g6, g7, g8, g9, g10, g11, g12, .int o12.2.1, .int o12.2.2]))])) H → va_D A (bX6 a2 up kp p_p ([(a0, .inr (7, [.ref a2, g6, g7, g8, g9, g10, g11, g12, .int o12.2.1, .int o12.2.2]))])) → va_S A s.heap H locs → lv_has ls 4 [(3, .int v24_l3), (2, .int v24_l2), (1, .int k1)] → W p l e (headSpec vfX10_rests { frames := 3, cells := 0, slots := 0, locals := 69 }).room s m ([.ref a0, .int k1]).toArray below meth c H locs 0 0 QQ (F0 m 24 ls []) := by
      intro n24
      induction n24 with
      | zero =>
        intro v24_l3 v24_l2 H locs ls h  _ _ _ _
        rw [f_X10_rests_L24] at h
        cases h
      | succ n24 ih24 =>
        intro v24_l3 v24_l2 H locs ls h  hP hD hS hl
        rw [f_X10_rests_L24] at h
        refine lv_iload_n hx hb (zat zrX10_rests_0_ok 15 rfl) rfl (lv_at hl 0 rfl) ?_
        refine lv_bipush (v := 70) hx hb (zat zrX10_rests_0_ok 16 rfl) (by decide) ?_
        refine lv_icmp_ge (tgt := 47) hx hb (zat zrX10_rests_0_ok 17 rfl) (by decide) (fun c27 => ?_) (fun c27 => ?_)
        · have h := (if_pos c27).symm.trans h
          refine lv_iload_n hx hb (zat zrX10_rests_0_ok 25 rfl) rfl (lv_at hl 1 rfl) ?_
          obtain rfl := Option.some.inj h
          obtain ⟨hP9, hD9⟩ := pd_sub ((a0, .inr (7, [.ref a2, g6, g7, g8, g9, g10, g11, g12, .int o12.2.1, .int o12.2.2])) :: bX6 a2 up kp p_p []) [10, 0, 1, 2, 3, 4, 5, 6, 7, 8, 9] hP hD (by decide) rfl
          have hK9 := hK.sub (tys' := []) [] rfl
          rw [hQQ]
          exact W.iret (v := v24_l2) hx hb hr (fun t ht hW => ⟨⟨v24_l2, (), rfl, rfl, by rw [ht]; exact hP9, va_K.moved hW.alike hK9, hD9⟩, hS.F ht⟩) hS.2.2 (zat zrX10_rests_0_ok 26 rfl)
        · have h := (if_neg c27).symm.trans h
          refine lv_iload_n hx hb (zat zrX10_rests_0_ok 18 rfl) rfl (lv_at hl 2 rfl) ?_
          refine lv_iload_n hx hb (zat zrX10_rests_0_ok 19 rfl) rfl (lv_at hl 0 rfl) ?_
          obtain ⟨o32, eo32, h⟩ := bd_of h
          refine ck_i (wc := []) (wr := (bX6 a2 up kp p_p ([(a0, .inr (7, [.ref a2, g6, g7, g8, g9, g10, g11, g12, .int o12.2.1, .int o12.2.2]))]))) hP hD hK hS hA [] [0, 1, 2, 3, 4, 5, 6, 7, 8, 9, 10] rfl rfl (by decide) (by decide) (by decide) (fun hPc hDc => (va_runS (As := [.int k1, .int v24_l3]) (rest := []) ⟨hx, hb, hml, hown, hts⟩ (kfX9_isRest l dC dI k1 v24_l3 H.size o32 eo32) (va_cwS 2 hts gfX10_rests_3 rfl rfl rfl (by decide +kernel) ⟨(Nat.le_of_ble_eq_true rfl), (Nat.le_of_ble_eq_true rfl)⟩) (PS hPc (hK.sub (tys' := ([])) [] rfl) hDc hN) rfl rfl hl.1 rfl (lv_room (Nat.le_of_ble_eq_true rfl)) (zat zrX10_rests_0_ok 20 rfl) ⟨(Nat.le_of_ble_eq_true rfl), (Nat.le_of_ble_eq_true rfl)⟩)) (fun r32 _ H locs hw hP hD _ hS => ?_)
          obtain ⟨hw, br32⟩ := hw
          obtain rfl := hw.symm
          obtain ⟨hP, hD⟩ := pd_mk (bX6 a2 up kp p_p ([(a0, .inr (7, [.ref a2, g6, g7, g8, g9, g10, g11, g12, .int o12.2.1, .int o12.2.2]))])) hP hD
          have J41 : ∀ (v41_l2 : Int32) (H : Heap) (locs : List Loc) (ls : Array Slot), f_X10_rests_J41 (f_X10_rests_L24 k1 o12 n24) v24_l3 v41_l2 = some out → va_P (dC, dI) vwCl (bX6 a2 up kp p_p ([(a0, .inr (7, [.ref a2, g6, g7, g8, g9, g10, g11, g12, .int o12.2.1, .int o12.2.2]))])) H → va_D A (bX6 a2 up kp p_p ([(a0, .inr (7, [.ref a2, g6, g7, g8, g9, g10, g11, g12, .int o12.2.1, .int o12.2.2]))])) → va_S A s.heap H locs → lv_has ls 4 [(3, .int v24_l3), (2, .int v41_l2), (1, .int k1)] → W p l e (headSpec vfX10_rests { frames := 3, cells := 0, slots := 0, locals := 69 }).room s m ([.ref a0, .int k1]).toArray below meth c H locs 0 0 QQ (F0 m 41 ls []) := by
            intro v41_l2 H locs ls h  hP hD hS hl
            rw [f_X10_rests_J41] at h
            refine lv_iinc (v := (v24_l3 + (1 : Int32))) (lv' := [(3, .int (v24_l3 + (1 : Int32))), (2, .int v41_l2), (1, .int k1)]) hx hb (zat zrX10_rests_0_ok 23 rfl) hl (k := 0) rfl rfl (by decide) rfl (fun ls hl => ?_)
            refine lv_goto (tgt := 24) hx hb (zat zrX10_rests_0_ok 24 rfl) (by decide) ?_
            exact ih24 (v24_l3 + (1 : Int32)) v41_l2 H _ ls h  hP hD hS (lv_sub hl [0, 1, 2] rfl)
          refine lv_if_eq (tgt := 41) hx hb (zat zrX10_rests_0_ok 21 rfl) (by decide) (fun c35 => ?_) (fun c35 => ?_)
          · have h := (if_pos c35).symm.trans h
            exact J41 v24_l2 H _ ls h  hP hD hS (lv_sub hl [0, 1, 2] rfl)
          · have h := (if_neg c35).symm.trans h
            refine lv_iinc (v := (v24_l2 + (1 : Int32))) (lv' := [(2, .int (v24_l2 + (1 : Int32))), (3, .int v24_l3), (1, .int k1)]) hx hb (zat zrX10_rests_0_ok 22 rfl) hl (k := 1) rfl rfl (by decide) rfl (fun ls hl => ?_)
            exact J41 (v24_l2 + (1 : Int32)) H _ ls h  hP hD hS (lv_sub hl [1, 0, 2] rfl)
    exact L24 FU (0 : Int32) (0 : Int32) H _ ls h  hP hD hS (lv_sub hl [0, 1, 3] rfl)
  · have h := (if_neg c15).symm.trans h
    refine lv_iconst (v := (-1)) hx hb (zat zrX10_rests_0_ok 9 rfl) (by decide) ?_
    obtain rfl := Option.some.inj h
    obtain ⟨hP9, hD9⟩ := pd_sub ((a0, .inr (7, [.ref a2, g6, g7, g8, g9, g10, g11, g12, .int o12.2.1, .int o12.2.2])) :: bX6 a2 up kp p_p []) [10, 0, 1, 2, 3, 4, 5, 6, 7, 8, 9] hP hD (by decide) rfl
    have hK9 := hK.sub (tys' := []) [] rfl
    rw [hQQ]
    exact W.iret (v := (-1 : Int32)) hx hb hr (fun t ht hW => ⟨⟨(-1 : Int32), (), rfl, rfl, by rw [ht]; exact hP9, va_K.moved hW.alike hK9, hD9⟩, hS.F ht⟩) hS.2.2 (zat zrX10_rests_0_ok 10 rfl)
noncomputable def zrX10_rest_0 : List ZR := zc 0 true (.aload_n 0) 1 (zc 1 true (.aload_n 0) 1 (zc 2 true (.iload_n 1) 1 (zc 3 true (.iconst 0) 1 (zc 4 true (.bipush 99) 2 (zc 6 true (.invokestatic 75) 3 (zc 9 true (.invokevirtual 169) 3 (zc 12 true (.invokevirtual 79) 3 (zc 15 true (.ifCond .eq 5) 3 (zc 18 true (.iconst (-1)) 1 (zc 19 true (.ireturn) 1 (zc 20 true (.iconst 0) 1 (zc 21 true (.istore_n 2) 1 (zc 22 true (.iload_n 2) 1 (zc 23 true (.bipush 70) 2 (zc 25 true (.if_icmp .ge 19) 3 (zc 28 true (.iload_n 1) 1 (zc 29 true (.iload_n 2) 1 (zc 30 true (.invokestatic 317) 3 (zc 33 true (.ifCond .eq 5) 3 (zc 36 true (.iload_n 2) 1 (zc 37 true (.ireturn) 1 (zc 38 true (.iinc 2 1) 3 (zc 41 true (.goto (-19)) 3 (zc 44 true (.bipush (-2)) 2 (zc 46 true (.ireturn) 1 ([]))))))))))))))))))))))))))
theorem zrX10_rest_0_ok : zck 0 ((zby cX10_rest).drop 0) zrX10_rest_0 = true := by decide +kernel
def vfX10_rest : List Cond := List.cons (.code yX10_rest cX10_rest 3 (some .int)) (apW [.methodLink RX10 75 yX10_within, .static yX10_within, .initialized RX10, .methodLink RX10 169 yX10_numberTrouble, .instanceMethod yX10_numberTrouble, .selects RX10 yX10_numberTrouble yX10_numberTrouble, .methodLink RX10 79 yX10_refused, .instanceMethod yX10_refused, .selects RX10 yX10_refused yX10_refused, .methodLink RX10 317 yX9_isRest, .static yX9_isRest, .initialized RX9] (apW vfX10_within (apW vfX10_numberTrouble (apW vfX10_refused (vfX9_isRest)))))
theorem qfX10_rest : Good vfX10_rest := gd_cons (by decide +kernel) (gd_app (gd_dec (by decide +kernel) : Good [.methodLink RX10 75 yX10_within, .static yX10_within, .initialized RX10, .methodLink RX10 169 yX10_numberTrouble, .instanceMethod yX10_numberTrouble, .selects RX10 yX10_numberTrouble yX10_numberTrouble, .methodLink RX10 79 yX10_refused, .instanceMethod yX10_refused, .selects RX10 yX10_refused yX10_refused, .methodLink RX10 317 yX9_isRest, .static yX9_isRest, .initialized RX9]) (gd_app qfX10_within (gd_app qfX10_numberTrouble (gd_app qfX10_refused qfX9_isRest))))
theorem gfX10_rest_0 : GoodIn vfX10_rest (va_wsS RX10 75 yX10_within vfX10_within) := goodIn_app (goodIn_r [.methodLink RX10 75 yX10_within, .static yX10_within, .initialized RX10] [1, 2, 3] rfl (by decide +kernel)) (goodIn_m (fun _ h => (List.mem_cons_of_mem _ (List.mem_append_right _ (List.mem_append_left _ h)))) qfX10_within)
theorem gfX10_rest_1 : GoodIn vfX10_rest (wsV RX10 169 RX10 yX10_numberTrouble vfX10_numberTrouble) := goodIn_app (goodIn_r [.methodLink RX10 169 yX10_numberTrouble, .instanceMethod yX10_numberTrouble, .selects RX10 yX10_numberTrouble yX10_numberTrouble, .initialized RX10] [4, 5, 6, 3] rfl (by decide +kernel)) (goodIn_m (fun _ h => (List.mem_cons_of_mem _ (List.mem_append_right _ (List.mem_append_right _ (List.mem_append_left _ h))))) qfX10_numberTrouble)
theorem gfX10_rest_2 : GoodIn vfX10_rest (wsV RX10 79 RX10 yX10_refused vfX10_refused) := goodIn_app (goodIn_r [.methodLink RX10 79 yX10_refused, .instanceMethod yX10_refused, .selects RX10 yX10_refused yX10_refused, .initialized RX10] [7, 8, 9, 3] rfl (by decide +kernel)) (goodIn_m (fun _ h => (List.mem_cons_of_mem _ (List.mem_append_right _ (List.mem_append_right _ (List.mem_append_right _ (List.mem_append_left _ h)))))) qfX10_refused)
theorem gfX10_rest_3 : GoodIn vfX10_rest (va_wsS RX10 317 yX9_isRest vfX9_isRest) := goodIn_app (goodIn_r [.methodLink RX10 317 yX9_isRest, .static yX9_isRest, .initialized RX9] [10, 11, 12] rfl (by decide +kernel)) (goodIn_m (fun _ h => (List.mem_cons_of_mem _ (List.mem_append_right _ (List.mem_append_right _ (List.mem_append_right _ (List.mem_append_right _ h)))))) qfX9_isRest)
set_option maxHeartbeats 2000000 in
set_option maxRecDepth 100000 in
theorem kfX10_rest (l : Launch) (dC : Nat → ClassId) (dI : Nat → Nat → Nat) (a0 : Nat) (k1 : Int32) (a2 : Nat) (up : Nat → Nat) (kp : Nat → ClassId) (x_x : TX10_x) (g6 : Value) (g7 : Value) (g8 : Value) (g9 : Value) (g10 : Value) (g11 : Value) (g12 : Value) (p_p : TX6_p) (sz : Nat) (out : (Int32 × TX10_x)) (h : f_X10_rest k1 x_x p_p = some out) : KCi l yX10_rest vfX10_rest ({ frames := 3, cells := 0, slots := 0, locals := 69 }) (dC, dI) [.ref a0, .int k1] sz ((a0, .inr (7, [.ref a2, g6, g7, g8, g9, g10, g11, g12, .int x_x.1, .int x_x.2])) :: bX6 a2 up kp p_p []) (tX6 kp ([])) (fun (r : Int32) _ => r = out.1) ((a0, .inr (7, [.ref a2, g6, g7, g8, g9, g10, g11, g12, .int out.2.1, .int out.2.2])) :: bX6 a2 up kp p_p []) 0 0 := by
  refine Met.ofW (cc := cX10_rest) (maxL := 3) (ret := (some .int)) (by decide) rfl ?_
  intro p e s m args below meth c s₁ B0 hml hv
  obtain ⟨rfl, hsz, hP, hK, hD0, hN⟩ := hv
  have hx := B0.exec
  have hb := B0.bytes
  have hr := B0.returns
  have hts := atoms_spec (ws := vfX10_rest) B0.pre
  have hown : s.vm.findClass RX10 = some m.cls := findClass_of_methodNamed B0.named
  have hlocks := B0.notSynchronized
  subst hsz
  have hD := hD0.self (sz := s.heap.size)
  generalize hAe : va_A ((a0, .inr (7, [.ref a2, g6, g7, g8, g9, g10, g11, g12, .int x_x.1, .int x_x.2])) :: bX6 a2 up kp p_p []) s.heap.size = A at hD ⊢
  have hA : ∀ q : Nat, s.heap.size ≤ q → A q := fun q h => by rw [← hAe]; exact Or.inr h
  have hS : va_S A s.heap s.heap [] := va_S.rf
  have hP : va_P (dC, dI) vwCl ((a0, .inr (7, [.ref a2, g6, g7, g8, g9, g10, g11, g12, .int x_x.1, .int x_x.2])) :: bX6 a2 up kp p_p []) s.heap := hP
  have hl := lv_entry ([.ref a0, .int k1]) (n := 3) (Nat.le_of_ble_eq_true rfl)
  rw [lg_entry_eq]
  generalize (lg_sl ([.ref a0, .int k1]) ++ List.replicate (3 - (lg_sl ([.ref a0, .int k1])).length) Slot.unset).toArray = ls at hl ⊢
  have hl : lv_has ls 3 [(0, .ref a0), (1, .int k1)] := hl
  refine W_q (fun QQ hQQ => ?_)
  rw [f_X10_rest] at h
  refine lv_aload_n hx hb (zat zrX10_rest_0_ok 0 rfl) rfl (lv_at hl 0 rfl) ?_
  refine lv_aload_n hx hb (zat zrX10_rest_0_ok 1 rfl) rfl (lv_at hl 0 rfl) ?_
  refine lv_iload_n hx hb (zat zrX10_rest_0_ok 2 rfl) rfl (lv_at hl 1 rfl) ?_
  refine lv_iconst (v := 0) hx hb (zat zrX10_rest_0_ok 3 rfl) (by decide) ?_
  refine lv_bipush (v := 99) hx hb (zat zrX10_rest_0_ok 4 rfl) (by decide) ?_
  obtain ⟨o6, eo6⟩ : ∃ o, o = f_X10_within k1 (0 : Int32) (99 : Int32) := ⟨_, rfl⟩
  have h := nm_of h o6 eo6
  refine ck_i (wc := []) (wr := ((a0, .inr (7, [.ref a2, g6, g7, g8, g9, g10, g11, g12, .int x_x.1, .int x_x.2])) :: bX6 a2 up kp p_p [])) hP hD hK hS hA [] [0, 1, 2, 3, 4, 5, 6, 7, 8, 9, 10] rfl rfl (by decide) (by decide) (by decide) (fun hPc hDc => (va_runS (As := [.int k1, .int 0, .int 99]) (rest := [.ref a0, .ref a0]) ⟨hx, hb, hml, hown, hts⟩ (kfX10_within l dC dI k1 (0 : Int32) (99 : Int32) s.heap.size o6 eo6.symm) (va_cwS 3 hts gfX10_rest_0 rfl rfl rfl (by decide +kernel) ⟨(Nat.le_of_ble_eq_true rfl), (Nat.le_of_ble_eq_true rfl)⟩) (PS hPc (hK.sub (tys' := ([])) [] rfl) hDc hN) rfl rfl hl.1 rfl (lv_room (Nat.le_of_ble_eq_true rfl)) (zat zrX10_rest_0_ok 5 rfl) ⟨(Nat.le_of_ble_eq_true rfl), (Nat.le_of_ble_eq_true rfl)⟩)) (fun r6 _ H locs hw hP hD _ hS => ?_)
  obtain ⟨hw, br6⟩ := hw
  obtain rfl := hw.symm
  obtain ⟨hP, hD⟩ := pd_mk ((a0, .inr (7, [.ref a2, g6, g7, g8, g9, g10, g11, g12, .int x_x.1, .int x_x.2])) :: bX6 a2 up kp p_p []) hP hD
  obtain ⟨o9, eo9⟩ : ∃ o, o = f_X10_numberTrouble o6 p_p := ⟨_, rfl⟩
  have h := nm_of h o9 eo9
  refine ck_i (wc := ((a0, .inr (7, [.ref a2, g6, g7, g8, g9, g10, g11, g12, .int x_x.1, .int x_x.2])) :: bX6 a2 up kp p_p [])) (wr := []) hP hD hK hS hA [0, 1, 2, 3, 4, 5, 6, 7, 8, 9, 10] [] rfl rfl (by decide) (by decide) (by decide) (fun hPc hDc => (va_runV (As := [.int o6]) (rest := [.ref a0]) ⟨hx, hb, hml, hown, hts⟩ (kfX10_numberTrouble l dC dI a0 o6 a2 up kp (g6) (g7) (g8) (g9) (g10) (g11) (g12) (.int x_x.1) (.int x_x.2) p_p H.size o9 eo9.symm) (cwV 1 hts gfX10_rest_1 rfl rfl rfl (by decide +kernel) ⟨(Nat.le_of_ble_eq_true rfl), (Nat.le_of_ble_eq_true rfl)⟩) (PV hPc (hK.sub (tys' := (tX6 kp ([]))) [0, 1, 2, 3, 4, 5, 6, 7, 8] rfl) hDc hN 0 rfl rfl) rfl rfl hl.1 rfl (lv_room (Nat.le_of_ble_eq_true rfl)) (zat zrX10_rest_0_ok 6 rfl) ⟨(Nat.le_of_ble_eq_true rfl), (Nat.le_of_ble_eq_true rfl)⟩)) (fun r9 _ H locs hw hP hD _ hS => ?_)
  obtain rfl := hw.symm
  obtain ⟨hP, hD⟩ := pd_mk ((a0, .inr (7, [.ref a2, g6, g7, g8, g9, g10, g11, g12, .int x_x.1, .int x_x.2])) :: bX6 a2 up kp p_p []) hP hD
  obtain ⟨o12, eo12⟩ : ∃ o, o = f_X10_refused o9 x_x := ⟨_, rfl⟩
  have h := nm_of h o12 eo12
  refine ck_i (wc := ([(a0, .inr (7, [.ref a2, g6, g7, g8, g9, g10, g11, g12, .int x_x.1, .int x_x.2]))])) (wr := (bX6 a2 up kp p_p [])) hP hD hK hS hA [0] [1, 2, 3, 4, 5, 6, 7, 8, 9, 10] rfl rfl (by decide) (by decide) (by decide) (fun hPc hDc => (va_runV (As := [.int o9]) (rest := []) ⟨hx, hb, hml, hown, hts⟩ (kfX10_refused l dC dI a0 o9 x_x (.ref a2) (g6) (g7) (g8) (g9) (g10) (g11) (g12) H.size o12 eo12.symm) (cwV 1 hts gfX10_rest_2 rfl rfl rfl (by decide +kernel) ⟨(Nat.le_of_ble_eq_true rfl), (Nat.le_of_ble_eq_true rfl)⟩) (PV hPc (hK.sub (tys' := ([])) [] rfl) hDc hN 0 rfl rfl) rfl rfl hl.1 rfl (lv_room (Nat.le_of_ble_eq_true rfl)) (zat zrX10_rest_0_ok 7 rfl) ⟨(Nat.le_of_ble_eq_true rfl), (Nat.le_of_ble_eq_true rfl)⟩)) (fun r12 _ H locs hw hP hD _ hS => ?_)
  obtain ⟨hw, br12⟩ := hw
  obtain rfl := hw
  obtain ⟨hP, hD⟩ := pd_mk (bX6 a2 up kp p_p ([(a0, .inr (7, [.ref a2, g6, g7, g8, g9, g10, g11, g12, .int o12.2.1, .int o12.2.2]))])) hP hD
  refine lv_if_eq (tgt := 20) hx hb (zat zrX10_rest_0_ok 8 rfl) (by decide) (fun c15 => ?_) (fun c15 => ?_)
  · have h := (if_pos c15).symm.trans h
    refine lv_iconst (v := 0) hx hb (zat zrX10_rest_0_ok 11 rfl) (by decide) ?_
    refine lv_istore_n (lv' := [(2, .int 0), (0, .ref a0), (1, .int k1)]) hx hb (zat zrX10_rest_0_ok 12 rfl) rfl hl (by decide) rfl (fun ls hl => ?_)
    have L22 : ∀ (n22 : Nat) (v22_l2 : Int32) (H : Heap) (locs : List Loc) (ls : Array Slot), f_X10_rest_L22 k1 o12 n22 v22_l2 = some out → va_P (dC, dI) vwCl (bX6 a2 up kp p_p ([(a0, .inr (7, [.ref a2, g6, g7, g8, g9, g10, g11, g12, .int o12.2.1, .int o12.2.2]))])) H → va_D A (bX6 a2 up kp p_p ([(a0, .inr (7, [.ref a2, g6, g7, g8, g9, g10, g11, g12, .int o12.2.1, .int o12.2.2]))])) → va_S A s.heap H locs → lv_has ls 3 [(2, .int v22_l2), (1, .int k1)] → W p l e (headSpec vfX10_rest { frames := 3, cells := 0, slots := 0, locals := 69 }).room s m ([.ref a0, .int k1]).toArray below meth c H locs 0 0 QQ (F0 m 22 ls []) := by
      intro n22
      induction n22 with
      | zero =>
        intro v22_l2 H locs ls h  _ _ _ _
        rw [f_X10_rest_L22] at h
        cases h
      | succ n22 ih22 =>
        intro v22_l2 H locs ls h  hP hD hS hl
        rw [f_X10_rest_L22] at h
        refine lv_iload_n hx hb (zat zrX10_rest_0_ok 13 rfl) rfl (lv_at hl 0 rfl) ?_
        refine lv_bipush (v := 70) hx hb (zat zrX10_rest_0_ok 14 rfl) (by decide) ?_
        refine lv_icmp_ge (tgt := 44) hx hb (zat zrX10_rest_0_ok 15 rfl) (by decide) (fun c25 => ?_) (fun c25 => ?_)
        · have h := (if_pos c25).symm.trans h
          refine lv_bipush (v := (-2)) hx hb (zat zrX10_rest_0_ok 24 rfl) (by decide) ?_
          obtain rfl := Option.some.inj h
          obtain ⟨hP9, hD9⟩ := pd_sub ((a0, .inr (7, [.ref a2, g6, g7, g8, g9, g10, g11, g12, .int o12.2.1, .int o12.2.2])) :: bX6 a2 up kp p_p []) [10, 0, 1, 2, 3, 4, 5, 6, 7, 8, 9] hP hD (by decide) rfl
          have hK9 := hK.sub (tys' := []) [] rfl
          rw [hQQ]
          exact W.iret (v := (-2 : Int32)) hx hb hr (fun t ht hW => ⟨⟨(-2 : Int32), (), rfl, rfl, by rw [ht]; exact hP9, va_K.moved hW.alike hK9, hD9⟩, hS.F ht⟩) hS.2.2 (zat zrX10_rest_0_ok 25 rfl)
        · have h := (if_neg c25).symm.trans h
          refine lv_iload_n hx hb (zat zrX10_rest_0_ok 16 rfl) rfl (lv_at hl 1 rfl) ?_
          refine lv_iload_n hx hb (zat zrX10_rest_0_ok 17 rfl) rfl (lv_at hl 0 rfl) ?_
          obtain ⟨o30, eo30, h⟩ := bd_of h
          refine ck_i (wc := []) (wr := (bX6 a2 up kp p_p ([(a0, .inr (7, [.ref a2, g6, g7, g8, g9, g10, g11, g12, .int o12.2.1, .int o12.2.2]))]))) hP hD hK hS hA [] [0, 1, 2, 3, 4, 5, 6, 7, 8, 9, 10] rfl rfl (by decide) (by decide) (by decide) (fun hPc hDc => (va_runS (As := [.int k1, .int v22_l2]) (rest := []) ⟨hx, hb, hml, hown, hts⟩ (kfX9_isRest l dC dI k1 v22_l2 H.size o30 eo30) (va_cwS 2 hts gfX10_rest_3 rfl rfl rfl (by decide +kernel) ⟨(Nat.le_of_ble_eq_true rfl), (Nat.le_of_ble_eq_true rfl)⟩) (PS hPc (hK.sub (tys' := ([])) [] rfl) hDc hN) rfl rfl hl.1 rfl (lv_room (Nat.le_of_ble_eq_true rfl)) (zat zrX10_rest_0_ok 18 rfl) ⟨(Nat.le_of_ble_eq_true rfl), (Nat.le_of_ble_eq_true rfl)⟩)) (fun r30 _ H locs hw hP hD _ hS => ?_)
          obtain ⟨hw, br30⟩ := hw
          obtain rfl := hw.symm
          obtain ⟨hP, hD⟩ := pd_mk (bX6 a2 up kp p_p ([(a0, .inr (7, [.ref a2, g6, g7, g8, g9, g10, g11, g12, .int o12.2.1, .int o12.2.2]))])) hP hD
          refine lv_if_eq (tgt := 38) hx hb (zat zrX10_rest_0_ok 19 rfl) (by decide) (fun c33 => ?_) (fun c33 => ?_)
          · have h := (if_pos c33).symm.trans h
            refine lv_iinc (v := (v22_l2 + (1 : Int32))) (lv' := [(2, .int (v22_l2 + (1 : Int32))), (1, .int k1)]) hx hb (zat zrX10_rest_0_ok 22 rfl) hl (k := 0) rfl rfl (by decide) rfl (fun ls hl => ?_)
            refine lv_goto (tgt := 22) hx hb (zat zrX10_rest_0_ok 23 rfl) (by decide) ?_
            exact ih22 (v22_l2 + (1 : Int32)) H _ ls h  hP hD hS (lv_sub hl [0, 1] rfl)
          · have h := (if_neg c33).symm.trans h
            refine lv_iload_n hx hb (zat zrX10_rest_0_ok 20 rfl) rfl (lv_at hl 0 rfl) ?_
            obtain rfl := Option.some.inj h
            obtain ⟨hP9, hD9⟩ := pd_sub ((a0, .inr (7, [.ref a2, g6, g7, g8, g9, g10, g11, g12, .int o12.2.1, .int o12.2.2])) :: bX6 a2 up kp p_p []) [10, 0, 1, 2, 3, 4, 5, 6, 7, 8, 9] hP hD (by decide) rfl
            have hK9 := hK.sub (tys' := []) [] rfl
            rw [hQQ]
            exact W.iret (v := v22_l2) hx hb hr (fun t ht hW => ⟨⟨v22_l2, (), rfl, rfl, by rw [ht]; exact hP9, va_K.moved hW.alike hK9, hD9⟩, hS.F ht⟩) hS.2.2 (zat zrX10_rest_0_ok 21 rfl)
    exact L22 FU (0 : Int32) H _ ls h  hP hD hS (lv_sub hl [0, 2] rfl)
  · have h := (if_neg c15).symm.trans h
    refine lv_iconst (v := (-1)) hx hb (zat zrX10_rest_0_ok 9 rfl) (by decide) ?_
    obtain rfl := Option.some.inj h
    obtain ⟨hP9, hD9⟩ := pd_sub ((a0, .inr (7, [.ref a2, g6, g7, g8, g9, g10, g11, g12, .int o12.2.1, .int o12.2.2])) :: bX6 a2 up kp p_p []) [10, 0, 1, 2, 3, 4, 5, 6, 7, 8, 9] hP hD (by decide) rfl
    have hK9 := hK.sub (tys' := []) [] rfl
    rw [hQQ]
    exact W.iret (v := (-1 : Int32)) hx hb hr (fun t ht hW => ⟨⟨(-1 : Int32), (), rfl, rfl, by rw [ht]; exact hP9, va_K.moved hW.alike hK9, hD9⟩, hS.F ht⟩) hS.2.2 (zat zrX10_rest_0_ok 10 rfl)
noncomputable def zrX10_isForecast_0 : List ZR := zc 0 true (.iload_n 0) 1 (zc 1 true (.iconst 0) 1 (zc 2 true (.ldc_w 350) 3 (zc 5 true (.invokestatic 75) 3 (zc 8 true (.ifCond .eq 17) 3 (zc 11 true (.iload_n 1) 1 (zc 12 true (.iconst 0) 1 (zc 13 true (.bipush 60) 2 (zc 15 true (.invokestatic 75) 3 (zc 18 true (.ifCond .eq 7) 3 (zc 21 true (.iconst 1) 1 (zc 22 true (.goto 4) 3 (zc 25 true (.iconst 0) 1 (zc 26 true (.ireturn) 1 ([]))))))))))))))
theorem zrX10_isForecast_0_ok : zck 0 ((zby cX10_isForecast).drop 0) zrX10_isForecast_0 = true := by decide +kernel
def vfX10_isForecast : List Cond := List.cons (.code yX10_isForecast cX10_isForecast 2 (some .boolean)) (apW [.constant RX10 350 (65536), .methodLink RX10 75 yX10_within, .static yX10_within, .initialized RX10] (vfX10_within))
theorem qfX10_isForecast : Good vfX10_isForecast := gd_cons (by decide +kernel) (gd_app (gd_dec (by decide +kernel) : Good [.constant RX10 350 (65536), .methodLink RX10 75 yX10_within, .static yX10_within, .initialized RX10]) qfX10_within)
theorem gfX10_isForecast_0 : GoodIn vfX10_isForecast (va_wsS RX10 75 yX10_within vfX10_within) := goodIn_app (goodIn_r [.methodLink RX10 75 yX10_within, .static yX10_within, .initialized RX10] [2, 3, 4] rfl (by decide +kernel)) (goodIn_m (fun _ h => (List.mem_cons_of_mem _ (List.mem_append_right _ h))) qfX10_within)
set_option maxHeartbeats 2000000 in
set_option maxRecDepth 100000 in
theorem kfX10_isForecast (l : Launch) (dC : Nat → ClassId) (dI : Nat → Nat → Nat) (k0 : Int32) (k1 : Int32) (sz : Nat) (out : Int32) (h : f_X10_isForecast k0 k1 = out) : KDi l yX10_isForecast vfX10_isForecast ({ frames := 1, cells := 0, slots := 0, locals := 22 }) (dC, dI) [.int k0, .int k1] sz [] ([]) (fun (r : Int32) _ => r = out ∧ (0 ≤ r.toInt ∧ r.toInt ≤ 1)) 0 0 := by
  refine Met.ofW (cc := cX10_isForecast) (maxL := 2) (ret := (some .boolean)) (by decide) rfl ?_
  intro p e s m args below meth c s₁ B0 hml hv
  obtain ⟨rfl, hsz, hP, hK, hD0, hN⟩ := hv
  have hx := B0.exec
  have hb := B0.bytes
  have hr := B0.returns
  have hts := atoms_spec (ws := vfX10_isForecast) B0.pre
  have hown : s.vm.findClass RX10 = some m.cls := findClass_of_methodNamed B0.named
  have hlocks := B0.notSynchronized
  subst hsz
  have hD := hD0.self (sz := s.heap.size)
  generalize hAe : va_A [] s.heap.size = A at hD ⊢
  have hA : ∀ q : Nat, s.heap.size ≤ q → A q := fun q h => by rw [← hAe]; exact Or.inr h
  have hS : va_S A s.heap s.heap [] := va_S.rf
  have hP : va_P (dC, dI) vwCl [] s.heap := hP
  have hl := lv_entry ([.int k0, .int k1]) (n := 2) (Nat.le_of_ble_eq_true rfl)
  rw [lg_entry_eq]
  generalize (lg_sl ([.int k0, .int k1]) ++ List.replicate (2 - (lg_sl ([.int k0, .int k1])).length) Slot.unset).toArray = ls at hl ⊢
  have hl : lv_has ls 2 [(0, .int k0), (1, .int k1)] := hl
  refine W_q (fun QQ hQQ => ?_)
  rw [f_X10_isForecast] at h
  refine lv_iload_n hx hb (zat zrX10_isForecast_0_ok 0 rfl) rfl (lv_at hl 0 rfl) ?_
  refine lv_iconst (v := 0) hx hb (zat zrX10_isForecast_0_ok 1 rfl) (by decide) ?_
  refine lv_ldcw hx hb hown (hts (.constant RX10 350 (65536)) (List.mem_of_getElem? (i := 1) rfl)) (zat zrX10_isForecast_0_ok 2 rfl) ?_
  obtain ⟨o5, eo5⟩ : ∃ o, o = f_X10_within k0 (0 : Int32) (65536 : Int32) := ⟨_, rfl⟩
  have h := nm_of h o5 eo5
  refine ck_i (wc := []) (wr := []) hP hD hK hS hA [] [] rfl rfl (by decide) (by decide) (by decide) (fun hPc hDc => (va_runS (As := [.int k0, .int 0, .int 65536]) (rest := []) ⟨hx, hb, hml, hown, hts⟩ (kfX10_within l dC dI k0 (0 : Int32) (65536 : Int32) s.heap.size o5 eo5.symm) (va_cwS 3 hts gfX10_isForecast_0 rfl rfl rfl (by decide +kernel) ⟨(Nat.le_of_ble_eq_true rfl), (Nat.le_of_ble_eq_true rfl)⟩) (PS hPc (hK.sub (tys' := ([])) [] rfl) hDc hN) rfl rfl hl.1 rfl (lv_room (Nat.le_of_ble_eq_true rfl)) (zat zrX10_isForecast_0_ok 3 rfl) ⟨(Nat.le_of_ble_eq_true rfl), (Nat.le_of_ble_eq_true rfl)⟩)) (fun r5 _ H locs hw hP hD _ hS => ?_)
  obtain ⟨hw, br5⟩ := hw
  obtain rfl := hw.symm
  obtain ⟨hP, hD⟩ := pd_mk [] hP hD
  refine lv_if_eq (tgt := 25) hx hb (zat zrX10_isForecast_0_ok 4 rfl) (by decide) (fun c8 => ?_) (fun c8 => ?_)
  · have h := (if_pos c8).symm.trans h
    refine lv_iconst (v := 0) hx hb (zat zrX10_isForecast_0_ok 12 rfl) (by decide) ?_
    obtain rfl := h
    obtain ⟨hP9, hD9⟩ := pd_sub [] [] hP hD (by decide) rfl
    have hK9 := hK.sub (tys' := []) [] rfl
    rw [hQQ]
    exact W.zret (v := (0 : Int32)) hx hb hr rfl (fun t ht hW => ⟨⟨(0 : Int32), (), rfl, ⟨rfl, (by decide)⟩, by rw [ht]; exact hP9, va_K.moved hW.alike hK9, hD9⟩, hS.F ht⟩) hS.2.2 (zat zrX10_isForecast_0_ok 13 rfl)
  · have h := (if_neg c8).symm.trans h
    refine lv_iload_n hx hb (zat zrX10_isForecast_0_ok 5 rfl) rfl (lv_at hl 1 rfl) ?_
    refine lv_iconst (v := 0) hx hb (zat zrX10_isForecast_0_ok 6 rfl) (by decide) ?_
    refine lv_bipush (v := 60) hx hb (zat zrX10_isForecast_0_ok 7 rfl) (by decide) ?_
    obtain ⟨o15, eo15⟩ : ∃ o, o = f_X10_within k1 (0 : Int32) (60 : Int32) := ⟨_, rfl⟩
    have h := nm_of h o15 eo15
    refine ck_i (wc := []) (wr := []) hP hD hK hS hA [] [] rfl rfl (by decide) (by decide) (by decide) (fun hPc hDc => (va_runS (As := [.int k1, .int 0, .int 60]) (rest := []) ⟨hx, hb, hml, hown, hts⟩ (kfX10_within l dC dI k1 (0 : Int32) (60 : Int32) H.size o15 eo15.symm) (va_cwS 3 hts gfX10_isForecast_0 rfl rfl rfl (by decide +kernel) ⟨(Nat.le_of_ble_eq_true rfl), (Nat.le_of_ble_eq_true rfl)⟩) (PS hPc (hK.sub (tys' := ([])) [] rfl) hDc hN) rfl rfl hl.1 rfl (lv_room (Nat.le_of_ble_eq_true rfl)) (zat zrX10_isForecast_0_ok 8 rfl) ⟨(Nat.le_of_ble_eq_true rfl), (Nat.le_of_ble_eq_true rfl)⟩)) (fun r15 _ H locs hw hP hD _ hS => ?_)
    obtain ⟨hw, br15⟩ := hw
    obtain rfl := hw.symm
    obtain ⟨hP, hD⟩ := pd_mk [] hP hD
    refine lv_if_eq (tgt := 25) hx hb (zat zrX10_isForecast_0_ok 9 rfl) (by decide) (fun c18 => ?_) (fun c18 => ?_)
    · have h := (if_pos c18).symm.trans h
      refine lv_iconst (v := 0) hx hb (zat zrX10_isForecast_0_ok 12 rfl) (by decide) ?_
      obtain rfl := h
      obtain ⟨hP9, hD9⟩ := pd_sub [] [] hP hD (by decide) rfl
      have hK9 := hK.sub (tys' := []) [] rfl
      rw [hQQ]
      exact W.zret (v := (0 : Int32)) hx hb hr rfl (fun t ht hW => ⟨⟨(0 : Int32), (), rfl, ⟨rfl, (by decide)⟩, by rw [ht]; exact hP9, va_K.moved hW.alike hK9, hD9⟩, hS.F ht⟩) hS.2.2 (zat zrX10_isForecast_0_ok 13 rfl)
    · have h := (if_neg c18).symm.trans h
      refine lv_iconst (v := 1) hx hb (zat zrX10_isForecast_0_ok 10 rfl) (by decide) ?_
      refine lv_goto (tgt := 26) hx hb (zat zrX10_isForecast_0_ok 11 rfl) (by decide) ?_
      obtain rfl := h
      obtain ⟨hP9, hD9⟩ := pd_sub [] [] hP hD (by decide) rfl
      have hK9 := hK.sub (tys' := []) [] rfl
      rw [hQQ]
      exact W.zret (v := (1 : Int32)) hx hb hr rfl (fun t ht hW => ⟨⟨(1 : Int32), (), rfl, ⟨rfl, (by decide)⟩, by rw [ht]; exact hP9, va_K.moved hW.alike hK9, hD9⟩, hS.F ht⟩) hS.2.2 (zat zrX10_isForecast_0_ok 13 rfl)
noncomputable def zrX1_note_0 : List ZR := zc 0 true (.aload_n 0) 1 (zc 1 true (.dup) 1 (zc 2 true (.getfield 18) 3 (zc 5 true (.iload_n 1) 1 (zc 6 true (.invokestatic 47) 3 (zc 9 true (.iadd) 1 (zc 10 true (.putfield 18) 3 (zc 13 true (.iconst 0) 1 (zc 14 true (.istore_n 3) 1 (zc 15 true (.iload_n 3) 1 (zc 16 true (.aload_n 0) 1 (zc 17 true (.getfield 25) 3 (zc 20 true (.arraylength) 1 (zc 21 true (.if_icmp .ge 25) 3 (zc 24 true (.iload_n 1) 1 (zc 25 true (.iload_n 3) 1 (zc 26 true (.ishr) 1 (zc 27 true (.iconst 1) 1 (zc 28 true (.iand) 1 (zc 29 true (.iconst 1) 1 (zc 30 true (.if_icmp .ne 10) 3 (zc 33 true (.aload_n 0) 1 (zc 34 true (.getfield 25) 3 (zc 37 true (.iload_n 3) 1 (zc 38 true (.iload_n 2) 1 (zc 39 true (.iastore) 1 (zc 40 true (.iinc 3 1) 3 (zc 43 true (.goto (-28)) 3 (zc 46 true (.return_) 1 ([])))))))))))))))))))))))))))))
theorem zrX1_note_0_ok : zck 0 ((zby cX1_note).drop 0) zrX1_note_0 = true := by decide +kernel
def vfX1_note : List Cond := List.cons (.code yX1_note cX1_note 4 none) (apW [.fieldLink RX1 18 "HookPier$Days" "landedMany" "I", .methodLink RX1 47 yJ6_bitCount_0f7a4, .static yJ6_bitCount_0f7a4, .initialized RJ6, .fieldLink RX1 25 "HookPier$Days" "landedInDay" "[I"] (apW wsX10 (vfJ6_bitCount_0f7a4)))
theorem ifX1_note_X1 : ∀ w ∈ wsX10, w ∈ vfX1_note := fun _ h => (List.mem_cons_of_mem _ (List.mem_append_right _ (List.mem_append_left _ h)))
theorem qfX1_note : Good vfX1_note := gd_cons (by decide +kernel) (gd_app (gd_dec (by decide +kernel) : Good [.fieldLink RX1 18 "HookPier$Days" "landedMany" "I", .methodLink RX1 47 yJ6_bitCount_0f7a4, .static yJ6_bitCount_0f7a4, .initialized RJ6, .fieldLink RX1 25 "HookPier$Days" "landedInDay" "[I"]) (gd_app qsX1 qfJ6_bitCount_0f7a4))
theorem gfX1_note_0 : GoodIn vfX1_note (va_wsS RX1 47 yJ6_bitCount_0f7a4 vfJ6_bitCount_0f7a4) := goodIn_app (goodIn_r [.methodLink RX1 47 yJ6_bitCount_0f7a4, .static yJ6_bitCount_0f7a4, .initialized RJ6] [2, 3, 4] rfl (by decide +kernel)) (goodIn_m (fun _ h => (List.mem_cons_of_mem _ (List.mem_append_right _ (List.mem_append_right _ h)))) qfJ6_bitCount_0f7a4)
set_option maxHeartbeats 2000000 in
set_option maxRecDepth 100000 in
theorem kfX1_note (l : Launch) (dC : Nat → ClassId) (dI : Nat → Nat → Nat) (a0 : Nat) (k1 : Int32) (k2 : Int32) (a3 : Nat) (y_y : TX1_y) (g5 : Value) (cB6 : ClassId) (sz : Nat) (out : TX1_y) (h : f_X1_note k1 k2 y_y = some out) : KCv l yX1_note vfX1_note ({ frames := 1, cells := 0, slots := 0, locals := 20 }) (dC, dI) [.ref a0, .int k1, .int k2] sz ([(a0, .inr (1, [g5, .int y_y.1, .int y_y.2.1, .ref a3])), (a3, .inl (cB6, 6, .inl y_y.2.2))]) ((cB6, .int) :: []) (fun _ => True) ([(a0, .inr (1, [g5, .int out.1, .int out.2.1, .ref a3])), (a3, .inl (cB6, 6, .inl out.2.2))]) 0 0 := by
  refine Met.ofW (cc := cX1_note) (maxL := 4) (ret := none) (by decide) rfl ?_
  intro p e s m args below meth c s₁ B0 hml hv
  obtain ⟨rfl, hsz, hP, hK, hD0, hN⟩ := hv
  have hx := B0.exec
  have hb := B0.bytes
  have hr := B0.returns
  have hts := atoms_spec (ws := vfX1_note) B0.pre
  have hown : s.vm.findClass RX1 = some m.cls := findClass_of_methodNamed B0.named
  have hlocks := B0.notSynchronized
  subst hsz
  have hD := hD0.self (sz := s.heap.size)
  generalize hAe : va_A ([(a0, .inr (1, [g5, .int y_y.1, .int y_y.2.1, .ref a3])), (a3, .inl (cB6, 6, .inl y_y.2.2))]) s.heap.size = A at hD ⊢
  have hA : ∀ q : Nat, s.heap.size ≤ q → A q := fun q h => by rw [← hAe]; exact Or.inr h
  have hS : va_S A s.heap s.heap [] := va_S.rf
  have hP : va_P (dC, dI) vwCl ([(a0, .inr (1, [g5, .int y_y.1, .int y_y.2.1, .ref a3])), (a3, .inl (cB6, 6, .inl y_y.2.2))]) s.heap := hP
  have hl := lv_entry ([.ref a0, .int k1, .int k2]) (n := 4) (Nat.le_of_ble_eq_true rfl)
  rw [lg_entry_eq]
  generalize (lg_sl ([.ref a0, .int k1, .int k2]) ++ List.replicate (4 - (lg_sl ([.ref a0, .int k1, .int k2])).length) Slot.unset).toArray = ls at hl ⊢
  have hl : lv_has ls 4 [(0, .ref a0), (1, .int k1), (2, .int k2)] := hl
  refine W_q (fun QQ hQQ => ?_)
  rw [f_X1_note] at h
  refine lv_aload_n hx hb (zat zrX1_note_0_ok 0 rfl) rfl (lv_at hl 0 rfl) ?_
  refine lv_dup hx hb (zat zrX1_note_0_ok 1 rfl) rfl ?_
  refine va_get (D := (dC, dI)) (ci := 1) (v := .int y_y.1) (C := RX1) (T := TX1) (N := 4) hx hb hts ifX1_note_X1 hown hK hP 0 rfl rfl 1 (by decide) (hts (.fieldLink RX1 18 "HookPier$Days" "landedMany" "I") (List.mem_of_getElem? (i := 1) rfl)) (fun _ h9 => h9) rfl (zat zrX1_note_0_ok 2 rfl) ?_
  refine lv_iload_n hx hb (zat zrX1_note_0_ok 3 rfl) rfl (lv_at hl 1 rfl) ?_
  obtain ⟨o6, eo6⟩ : ∃ o, o = f_J6_bitCount_0f7a4 k1 := ⟨_, rfl⟩
  have h := nm_of h o6 eo6
  refine ck_i (wc := []) (wr := ([(a0, .inr (1, [g5, .int y_y.1, .int y_y.2.1, .ref a3])), (a3, .inl (cB6, 6, .inl y_y.2.2))])) hP hD hK hS hA [] [0, 1] rfl rfl (by decide) (by decide) (by decide) (fun hPc hDc => (va_runS (As := [.int k1]) (rest := [.int y_y.1, .ref a0]) ⟨hx, hb, hml, hown, hts⟩ (kfJ6_bitCount_0f7a4 l dC dI k1 s.heap.size o6 eo6.symm) (va_cwS 1 hts gfX1_note_0 rfl rfl rfl (by decide +kernel) ⟨(Nat.le_of_ble_eq_true rfl), (Nat.le_of_ble_eq_true rfl)⟩) (PS hPc (hK.sub (tys' := ([])) [] rfl) hDc hN) rfl rfl hl.1 rfl (lv_room (Nat.le_of_ble_eq_true rfl)) (zat zrX1_note_0_ok 4 rfl) ⟨(Nat.le_of_ble_eq_true rfl), (Nat.le_of_ble_eq_true rfl)⟩)) (fun r6 _ H locs hw hP hD _ hS => ?_)
  obtain rfl := hw.symm
  obtain ⟨hP, hD⟩ := pd_mk ([(a0, .inr (1, [g5, .int y_y.1, .int y_y.2.1, .ref a3])), (a3, .inl (cB6, 6, .inl y_y.2.2))]) hP hD
  refine lv_iadd hx hb (zat zrX1_note_0_ok 5 rfl) ?_
  refine va_put (D := (dC, dI)) (ci := 1) (v := .int (y_y.1 + o6)) (ty := .int) (C := RX1) (T := TX1) (N := 4) hx hb hts ifX1_note_X1 tyX1 tyX1_ok nmX1 hown hK hP hD hS 0 rfl rfl 1 (by decide) (hts (.fieldLink RX1 18 "HookPier$Days" "landedMany" "I") (List.mem_of_getElem? (i := 1) rfl)) (fun _ h9 => h9) rfl (by decide +kernel) rfl rfl (Nat.le_of_ble_eq_true rfl) (zat zrX1_note_0_ok 6 rfl) (fun H locs hP hD hS => ?_)
  obtain ⟨hP, hD⟩ := pd_mk ([(a0, .inr (1, [g5, .int (y_y.1 + o6), .int y_y.2.1, .ref a3])), (a3, .inl (cB6, 6, .inl y_y.2.2))]) hP hD
  refine lv_iconst (v := 0) hx hb (zat zrX1_note_0_ok 7 rfl) (by decide) ?_
  refine lv_istore_n (lv' := [(3, .int 0), (0, .ref a0), (1, .int k1), (2, .int k2)]) hx hb (zat zrX1_note_0_ok 8 rfl) rfl hl (by decide) rfl (fun ls hl => ?_)
  have L15 : ∀ (n15 : Nat) (v15_l3 : Int32) (v15_y_y : TX1_y) (H : Heap) (locs : List Loc) (ls : Array Slot), f_X1_note_L15 k1 k2 n15 v15_l3 v15_y_y = some out → va_P (dC, dI) vwCl ([(a0, .inr (1, [g5, .int v15_y_y.1, .int v15_y_y.2.1, .ref a3])), (a3, .inl (cB6, 6, .inl v15_y_y.2.2))]) H → va_D A ([(a0, .inr (1, [g5, .int v15_y_y.1, .int v15_y_y.2.1, .ref a3])), (a3, .inl (cB6, 6, .inl v15_y_y.2.2))]) → va_S A s.heap H locs → lv_has ls 4 [(3, .int v15_l3), (0, .ref a0), (1, .int k1), (2, .int k2)] → W p l e (headSpec vfX1_note { frames := 1, cells := 0, slots := 0, locals := 20 }).room s m ([.ref a0, .int k1, .int k2]).toArray below meth c H locs 0 0 QQ (F0 m 15 ls []) := by
    intro n15
    induction n15 with
    | zero =>
      intro v15_l3 v15_y_y H locs ls h  _ _ _ _
      rw [f_X1_note_L15] at h
      cases h
    | succ n15 ih15 =>
      intro v15_l3 v15_y_y H locs ls h  hP hD hS hl
      rw [f_X1_note_L15] at h
      refine lv_iload_n hx hb (zat zrX1_note_0_ok 9 rfl) rfl (lv_at hl 0 rfl) ?_
      refine lv_aload_n hx hb (zat zrX1_note_0_ok 10 rfl) rfl (lv_at hl 1 rfl) ?_
      refine va_get (D := (dC, dI)) (ci := 1) (v := .ref a3) (C := RX1) (T := TX1) (N := 4) hx hb hts ifX1_note_X1 hown hK hP 0 rfl rfl 3 (by decide) (hts (.fieldLink RX1 25 "HookPier$Days" "landedInDay" "[I") (List.mem_of_getElem? (i := 5) rfl)) (fun _ h9 => h9) rfl (zat zrX1_note_0_ok 11 rfl) ?_
      refine va_alen (v := 6) hx hb hK hP 1 0 rfl rfl rfl (zat zrX1_note_0_ok 12 rfl) ?_
      refine lv_icmp_ge (tgt := 46) hx hb (zat zrX1_note_0_ok 13 rfl) (by decide) (fun c21 => ?_) (fun c21 => ?_)
      · have h := (if_pos c21).symm.trans h
        obtain rfl := Option.some.inj h
        obtain ⟨hP9, hD9⟩ := pd_sub ([(a0, .inr (1, [g5, .int v15_y_y.1, .int v15_y_y.2.1, .ref a3])), (a3, .inl (cB6, 6, .inl v15_y_y.2.2))]) [0, 1] hP hD (by decide) rfl
        have hK9 := hK.sub (tys' := []) [] rfl
        rw [hQQ]
        exact W.vret hx hb hr (fun t ht hW => ⟨⟨(), rfl, trivial, by rw [ht]; exact hP9, va_K.moved hW.alike hK9, hD9⟩, hS.F ht⟩) hS.2.2 (zat zrX1_note_0_ok 28 rfl)
      · have h := (if_neg c21).symm.trans h
        refine lv_iload_n hx hb (zat zrX1_note_0_ok 14 rfl) rfl (lv_at hl 2 rfl) ?_
        refine lv_iload_n hx hb (zat zrX1_note_0_ok 15 rfl) rfl (lv_at hl 0 rfl) ?_
        refine lv_ishr hx hb (zat zrX1_note_0_ok 16 rfl) ?_
        refine lv_iconst (v := 1) hx hb (zat zrX1_note_0_ok 17 rfl) (by decide) ?_
        refine lv_iand hx hb (zat zrX1_note_0_ok 18 rfl) ?_
        refine lv_iconst (v := 1) hx hb (zat zrX1_note_0_ok 19 rfl) (by decide) ?_
        have J40 : ∀ (v40_y_y : TX1_y) (H : Heap) (locs : List Loc) (ls : Array Slot), f_X1_note_J40 (f_X1_note_L15 k1 k2 n15) v15_l3 v40_y_y = some out → va_P (dC, dI) vwCl ([(a0, .inr (1, [g5, .int v40_y_y.1, .int v40_y_y.2.1, .ref a3])), (a3, .inl (cB6, 6, .inl v40_y_y.2.2))]) H → va_D A ([(a0, .inr (1, [g5, .int v40_y_y.1, .int v40_y_y.2.1, .ref a3])), (a3, .inl (cB6, 6, .inl v40_y_y.2.2))]) → va_S A s.heap H locs → lv_has ls 4 [(3, .int v15_l3), (0, .ref a0), (1, .int k1), (2, .int k2)] → W p l e (headSpec vfX1_note { frames := 1, cells := 0, slots := 0, locals := 20 }).room s m ([.ref a0, .int k1, .int k2]).toArray below meth c H locs 0 0 QQ (F0 m 40 ls []) := by
          intro v40_y_y H locs ls h  hP hD hS hl
          rw [f_X1_note_J40] at h
          refine lv_iinc (v := (v15_l3 + (1 : Int32))) (lv' := [(3, .int (v15_l3 + (1 : Int32))), (0, .ref a0), (1, .int k1), (2, .int k2)]) hx hb (zat zrX1_note_0_ok 26 rfl) hl (k := 0) rfl rfl (by decide) rfl (fun ls hl => ?_)
          refine lv_goto (tgt := 15) hx hb (zat zrX1_note_0_ok 27 rfl) (by decide) ?_
          exact ih15 (v15_l3 + (1 : Int32)) v40_y_y H _ ls h  hP hD hS (lv_sub hl [0, 1, 2, 3] rfl)
        refine lv_icmp_ne (tgt := 40) hx hb (zat zrX1_note_0_ok 20 rfl) (by decide) (fun c30 => ?_) (fun c30 => ?_)
        · have h := (if_neg c30).symm.trans h
          exact J40 v15_y_y H _ ls h  hP hD hS (lv_sub hl [0, 1, 2, 3] rfl)
        · have h := (if_pos c30).symm.trans h
          refine lv_aload_n hx hb (zat zrX1_note_0_ok 21 rfl) rfl (lv_at hl 1 rfl) ?_
          refine va_get (D := (dC, dI)) (ci := 1) (v := .ref a3) (C := RX1) (T := TX1) (N := 4) hx hb hts ifX1_note_X1 hown hK hP 0 rfl rfl 3 (by decide) (hts (.fieldLink RX1 25 "HookPier$Days" "landedInDay" "[I") (List.mem_of_getElem? (i := 5) rfl)) (fun _ h9 => h9) rfl (zat zrX1_note_0_ok 22 rfl) ?_
          refine lv_iload_n hx hb (zat zrX1_note_0_ok 23 rfl) rfl (lv_at hl 0 rfl) ?_
          refine lv_iload_n hx hb (zat zrX1_note_0_ok 24 rfl) rfl (lv_at hl 3 rfl) ?_
          obtain ⟨hg39, h⟩ := gA_of h
          refine va_iast hx hb hK hP hD hS 1 0 rfl rfl hg39 (zat zrX1_note_0_ok 25 rfl) (fun H locs hP hD hS => ?_)
          obtain ⟨hP, hD⟩ := pd_mk ([(a0, .inr (1, [g5, .int v15_y_y.1, .int v15_y_y.2.1, .ref a3])), (a3, .inl (cB6, 6, .inl (upd v15_y_y.2.2 (v15_l3).toNatClampNeg k2)))]) hP hD
          exact J40 (v15_y_y.1, v15_y_y.2.1, (upd v15_y_y.2.2 (v15_l3).toNatClampNeg k2)) H _ ls h  hP hD hS (lv_sub hl [0, 1, 2, 3] rfl)
  exact L15 FU (0 : Int32) ((y_y.1 + o6), y_y.2) H _ ls h  hP hD hS (lv_sub hl [0, 1, 2, 3] rfl)
noncomputable def zrX1_forecast_0 : List ZR := zc 0 true (.aload_n 0) 1 (zc 1 true (.getfield 12) 3 (zc 4 true (.aload_n 2) 1 (zc 5 true (.invokevirtual 29) 3 (zc 8 true (.aload_n 0) 1 (zc 9 true (.getfield 12) 3 (zc 12 true (.iload_n 3) 1 (zc 13 true (.putfield 33) 3 (zc 16 true (.aload_n 0) 1 (zc 17 true (.iconst 0) 1 (zc 18 true (.putfield 18) 3 (zc 21 true (.aload_n 0) 1 (zc 22 true (.iconst 0) 1 (zc 23 true (.putfield 22) 3 (zc 26 true (.iconst 0) 1 (zc 27 true (.istore 5) 2 (zc 29 true (.iload 5) 2 (zc 31 true (.aload_n 0) 1 (zc 32 true (.getfield 25) 3 (zc 35 true (.arraylength) 1 (zc 36 true (.if_icmp .ge 17) 3 (zc 39 true (.aload_n 0) 1 (zc 40 true (.getfield 25) 3 (zc 43 true (.iload 5) 2 (zc 45 true (.iconst 0) 1 (zc 46 true (.iastore) 1 (zc 47 true (.iinc 5 1) 3 (zc 50 true (.goto (-21)) 3 (zc 53 true (.iconst 1) 1 (zc 54 true (.istore 5) 2 (zc 56 true (.iload 5) 2 (zc 58 true (.iload 4) 2 (zc 60 true (.if_icmp .gt 32) 3 (zc 63 true (.aload_n 0) 1 (zc 64 true (.getfield 12) 3 (zc 67 true (.aload_n 2) 1 (zc 68 true (.invokevirtual 36) 3 (zc 71 true (.aload_n 0) 1 (zc 72 true (.aload_n 0) 1 (zc 73 true (.aload_n 1) 1 (zc 74 true (.aload_n 0) 1 (zc 75 true (.getfield 12) 3 (zc 78 true (.invokevirtual 39) 3 (zc 81 true (.iload 5) 2 (zc 83 true (.invokevirtual 43) 3 (zc 86 true (.iinc 5 1) 3 (zc 89 true (.goto (-33)) 3 (zc 92 true (.return_) 1 ([]))))))))))))))))))))))))))))))))))))))))))))))))
theorem zrX1_forecast_0_ok : zck 0 ((zby cX1_forecast).drop 0) zrX1_forecast_0 = true := by decide +kernel
def vfX1_forecast : List Cond := List.cons (.code yX1_forecast cX1_forecast 6 none) (apW [.fieldLink RX1 12 "HookPier$Days" "ahead" "LHookPier$Now;", .methodLink RX1 29 yX4_become, .instanceMethod yX4_become, .selects RX4 yX4_become yX4_become, .initialized RX4, .fieldLink RX1 33 "HookPier$Now" "seedNow" "I", .fieldLink RX1 18 "HookPier$Days" "landedMany" "I", .fieldLink RX1 22 "HookPier$Days" "crabTakes" "I", .fieldLink RX1 25 "HookPier$Days" "landedInDay" "[I", .methodLink RX1 36 yX4_letDownAs, .instanceMethod yX4_letDownAs, .selects RX4 yX4_letDownAs yX4_letDownAs, .methodLink RX1 39 yX1_pass, .instanceMethod yX1_pass, .selects RX1 yX1_pass yX1_pass, .initialized RX1, .methodLink RX1 43 yX1_note, .instanceMethod yX1_note, .selects RX1 yX1_note yX1_note] (apW wsX10 (apW wsX40 (apW vfX4_become (apW vfX4_letDownAs (apW vfX1_pass (vfX1_note)))))))
theorem ifX1_forecast_X1 : ∀ w ∈ wsX10, w ∈ vfX1_forecast := fun _ h => (List.mem_cons_of_mem _ (List.mem_append_right _ (List.mem_append_left _ h)))
theorem ifX1_forecast_X4 : ∀ w ∈ wsX40, w ∈ vfX1_forecast := fun _ h => (List.mem_cons_of_mem _ (List.mem_append_right _ (List.mem_append_right _ (List.mem_append_left _ h))))
theorem qfX1_forecast : Good vfX1_forecast := gd_cons (by decide +kernel) (gd_app (gd_dec (by decide +kernel) : Good [.fieldLink RX1 12 "HookPier$Days" "ahead" "LHookPier$Now;", .methodLink RX1 29 yX4_become, .instanceMethod yX4_become, .selects RX4 yX4_become yX4_become, .initialized RX4, .fieldLink RX1 33 "HookPier$Now" "seedNow" "I", .fieldLink RX1 18 "HookPier$Days" "landedMany" "I", .fieldLink RX1 22 "HookPier$Days" "crabTakes" "I", .fieldLink RX1 25 "HookPier$Days" "landedInDay" "[I", .methodLink RX1 36 yX4_letDownAs, .instanceMethod yX4_letDownAs, .selects RX4 yX4_letDownAs yX4_letDownAs, .methodLink RX1 39 yX1_pass, .instanceMethod yX1_pass, .selects RX1 yX1_pass yX1_pass, .initialized RX1, .methodLink RX1 43 yX1_note, .instanceMethod yX1_note, .selects RX1 yX1_note yX1_note]) (gd_app qsX1 (gd_app qsX4 (gd_app qfX4_become (gd_app qfX4_letDownAs (gd_app qfX1_pass qfX1_note))))))
theorem gfX1_forecast_0 : GoodIn vfX1_forecast (wsV RX1 29 RX4 yX4_become vfX4_become) := goodIn_app (goodIn_r [.methodLink RX1 29 yX4_become, .instanceMethod yX4_become, .selects RX4 yX4_become yX4_become, .initialized RX4] [2, 3, 4, 5] rfl (by decide +kernel)) (goodIn_m (fun _ h => (List.mem_cons_of_mem _ (List.mem_append_right _ (List.mem_append_right _ (List.mem_append_right _ (List.mem_append_left _ h)))))) qfX4_become)
theorem gfX1_forecast_1 : GoodIn vfX1_forecast (wsV RX1 36 RX4 yX4_letDownAs vfX4_letDownAs) := goodIn_app (goodIn_r [.methodLink RX1 36 yX4_letDownAs, .instanceMethod yX4_letDownAs, .selects RX4 yX4_letDownAs yX4_letDownAs, .initialized RX4] [10, 11, 12, 5] rfl (by decide +kernel)) (goodIn_m (fun _ h => (List.mem_cons_of_mem _ (List.mem_append_right _ (List.mem_append_right _ (List.mem_append_right _ (List.mem_append_right _ (List.mem_append_left _ h))))))) qfX4_letDownAs)
theorem gfX1_forecast_2 : GoodIn vfX1_forecast (wsV RX1 39 RX1 yX1_pass vfX1_pass) := goodIn_app (goodIn_r [.methodLink RX1 39 yX1_pass, .instanceMethod yX1_pass, .selects RX1 yX1_pass yX1_pass, .initialized RX1] [13, 14, 15, 16] rfl (by decide +kernel)) (goodIn_m (fun _ h => (List.mem_cons_of_mem _ (List.mem_append_right _ (List.mem_append_right _ (List.mem_append_right _ (List.mem_append_right _ (List.mem_append_right _ (List.mem_append_left _ h)))))))) qfX1_pass)
theorem gfX1_forecast_3 : GoodIn vfX1_forecast (wsV RX1 43 RX1 yX1_note vfX1_note) := goodIn_app (goodIn_r [.methodLink RX1 43 yX1_note, .instanceMethod yX1_note, .selects RX1 yX1_note yX1_note, .initialized RX1] [17, 18, 19, 16] rfl (by decide +kernel)) (goodIn_m (fun _ h => (List.mem_cons_of_mem _ (List.mem_append_right _ (List.mem_append_right _ (List.mem_append_right _ (List.mem_append_right _ (List.mem_append_right _ (List.mem_append_right _ h)))))))) qfX1_note)
set_option maxHeartbeats 2000000 in
set_option maxRecDepth 100000 in
theorem kfX1_forecast (l : Launch) (dC : Nat → ClassId) (dI : Nat → Nat → Nat) (a0 : Nat) (a1 : Nat) (a2 : Nat) (k3 : Int32) (k4 : Int32) (a5 : Nat) (a6 : Nat) (up : Nat → Nat) (kp : Nat → ClassId) (un : Nat → Nat) (kn : Nat → ClassId) (un2 : Nat → Nat) (kn2 : Nat → ClassId) (y_y : TX1_y) (p_p : TX6_p) (n_n : TX4_n) (n2_n : TX4_n) (cB17 : ClassId) (sz : Nat) (out : (TX1_y × TX4_n)) (h : f_X1_forecast k3 k4 y_y p_p n_n n2_n = some out) : KCv l yX1_forecast vfX1_forecast ({ frames := 5, cells := 0, slots := 0, locals := 118 }) (dC, dI) [.ref a0, .ref a1, .ref a2, .int k3, .int k4] sz ((a0, .inr (1, [.ref a5, .int y_y.1, .int y_y.2.1, .ref a6])) :: bX6 a1 up kp p_p (bX4 a2 un kn n_n (bX4 a5 un2 kn2 n2_n ([(a6, .inl (cB17, 6, .inl y_y.2.2))])))) (tX6 kp (tX4 kn (tX4 kn2 ((cB17, .int) :: [])))) (fun _ => True) ((a0, .inr (1, [.ref a5, .int out.1.1, .int out.1.2.1, .ref a6])) :: bX6 a1 up kp p_p (bX4 a2 un kn n_n (bX4 a5 un2 kn2 out.2 ([(a6, .inl (cB17, 6, .inl out.1.2.2))])))) 0 0 := by
  refine Met.ofW (cc := cX1_forecast) (maxL := 6) (ret := none) (by decide) rfl ?_
  intro p e s m args below meth c s₁ B0 hml hv
  obtain ⟨rfl, hsz, hP, hK, hD0, hN⟩ := hv
  have hx := B0.exec
  have hb := B0.bytes
  have hr := B0.returns
  have hts := atoms_spec (ws := vfX1_forecast) B0.pre
  have hown : s.vm.findClass RX1 = some m.cls := findClass_of_methodNamed B0.named
  have hlocks := B0.notSynchronized
  subst hsz
  have hD := hD0.self (sz := s.heap.size)
  generalize hAe : va_A ((a0, .inr (1, [.ref a5, .int y_y.1, .int y_y.2.1, .ref a6])) :: bX6 a1 up kp p_p (bX4 a2 un kn n_n (bX4 a5 un2 kn2 n2_n ([(a6, .inl (cB17, 6, .inl y_y.2.2))])))) s.heap.size = A at hD ⊢
  have hA : ∀ q : Nat, s.heap.size ≤ q → A q := fun q h => by rw [← hAe]; exact Or.inr h
  have hS : va_S A s.heap s.heap [] := va_S.rf
  have hP : va_P (dC, dI) vwCl ((a0, .inr (1, [.ref a5, .int y_y.1, .int y_y.2.1, .ref a6])) :: bX6 a1 up kp p_p (bX4 a2 un kn n_n (bX4 a5 un2 kn2 n2_n ([(a6, .inl (cB17, 6, .inl y_y.2.2))])))) s.heap := hP
  have hl := lv_entry ([.ref a0, .ref a1, .ref a2, .int k3, .int k4]) (n := 6) (Nat.le_of_ble_eq_true rfl)
  rw [lg_entry_eq]
  generalize (lg_sl ([.ref a0, .ref a1, .ref a2, .int k3, .int k4]) ++ List.replicate (6 - (lg_sl ([.ref a0, .ref a1, .ref a2, .int k3, .int k4])).length) Slot.unset).toArray = ls at hl ⊢
  have hl : lv_has ls 6 [(0, .ref a0), (1, .ref a1), (2, .ref a2), (3, .int k3), (4, .int k4)] := hl
  refine W_q (fun QQ hQQ => ?_)
  rw [f_X1_forecast] at h
  refine lv_aload_n hx hb (zat zrX1_forecast_0_ok 0 rfl) rfl (lv_at hl 0 rfl) ?_
  refine va_get (D := (dC, dI)) (ci := 1) (v := .ref a5) (C := RX1) (T := TX1) (N := 4) hx hb hts ifX1_forecast_X1 hown hK hP 0 rfl rfl 0 (by decide) (hts (.fieldLink RX1 12 "HookPier$Days" "ahead" "LHookPier$Now;") (List.mem_of_getElem? (i := 1) rfl)) (fun _ h9 => h9) rfl (zat zrX1_forecast_0_ok 1 rfl) ?_
  refine lv_aload_n hx hb (zat zrX1_forecast_0_ok 2 rfl) rfl (lv_at hl 2 rfl) ?_
  obtain ⟨o5, eo5⟩ : ∃ o, o = f_X4_become n2_n n_n := ⟨_, rfl⟩
  have h := nm_of h o5 eo5
  refine ck_v (wc := (bX4 a5 un2 kn2 n2_n (bX4 a2 un kn n_n []))) (wr := ((a0, .inr (1, [.ref a5, .int y_y.1, .int y_y.2.1, .ref a6])) :: bX6 a1 up kp p_p ([(a6, .inl (cB17, 6, .inl y_y.2.2))]))) hP hD hK hS hA [16, 17, 18, 19, 20, 11, 12, 13, 14, 15] [0, 1, 2, 3, 4, 5, 6, 7, 8, 9, 10, 21] rfl rfl (by decide) (by decide) (by decide) (fun hPc hDc => (va_runV (As := [.ref a2]) (rest := []) ⟨hx, hb, hml, hown, hts⟩ (kfX4_become l dC dI a5 a2 un2 kn2 un kn n2_n n_n s.heap.size o5 eo5.symm) (cwV 1 hts gfX1_forecast_0 rfl rfl rfl (by decide +kernel) ⟨(Nat.le_of_ble_eq_true rfl), (Nat.le_of_ble_eq_true rfl)⟩) (PV hPc (hK.sub (tys' := (tX4 kn2 (tX4 kn ([])))) [13, 14, 15, 16, 9, 10, 11, 12] rfl) hDc hN 0 rfl rfl) rfl rfl hl.1 rfl (lv_room (Nat.le_of_ble_eq_true rfl)) (zat zrX1_forecast_0_ok 3 rfl) ⟨(Nat.le_of_ble_eq_true rfl), (Nat.le_of_ble_eq_true rfl)⟩)) (fun _ H locs hw hP hD _ hS => ?_)
  obtain ⟨hP, hD⟩ := pd_mk ((a0, .inr (1, [.ref a5, .int y_y.1, .int y_y.2.1, .ref a6])) :: bX6 a1 up kp p_p ((a6, .inl (cB17, 6, .inl y_y.2.2)) :: bX4 a5 un2 kn2 o5 (bX4 a2 un kn n_n []))) hP hD
  refine lv_aload_n hx hb (zat zrX1_forecast_0_ok 4 rfl) rfl (lv_at hl 0 rfl) ?_
  refine va_get (D := (dC, dI)) (ci := 1) (v := .ref a5) (C := RX1) (T := TX1) (N := 4) hx hb hts ifX1_forecast_X1 hown hK hP 0 rfl rfl 0 (by decide) (hts (.fieldLink RX1 12 "HookPier$Days" "ahead" "LHookPier$Now;") (List.mem_of_getElem? (i := 1) rfl)) (fun _ h9 => h9) rfl (zat zrX1_forecast_0_ok 5 rfl) ?_
  refine lv_iload_n hx hb (zat zrX1_forecast_0_ok 6 rfl) rfl (lv_at hl 3 rfl) ?_
  refine va_put (D := (dC, dI)) (ci := 3) (v := .int k3) (ty := .int) (C := RX4) (T := TX4) (N := 7) hx hb hts ifX1_forecast_X4 tyX4 tyX4_ok nmX4 hown hK hP hD hS 12 rfl rfl 1 (by decide) (hts (.fieldLink RX1 33 "HookPier$Now" "seedNow" "I") (List.mem_of_getElem? (i := 6) rfl)) (fun _ h9 => h9) rfl (by decide +kernel) rfl rfl (Nat.le_of_ble_eq_true rfl) (zat zrX1_forecast_0_ok 7 rfl) (fun H locs hP hD hS => ?_)
  obtain ⟨hP, hD⟩ := pd_mk ((a0, .inr (1, [.ref a5, .int y_y.1, .int y_y.2.1, .ref a6])) :: bX6 a1 up kp p_p ((a6, .inl (cB17, 6, .inl y_y.2.2)) :: bX4 a5 un2 kn2 (o5.1, k3, o5.2.2) (bX4 a2 un kn n_n []))) hP hD
  refine lv_aload_n hx hb (zat zrX1_forecast_0_ok 8 rfl) rfl (lv_at hl 0 rfl) ?_
  refine lv_iconst (v := 0) hx hb (zat zrX1_forecast_0_ok 9 rfl) (by decide) ?_
  refine va_put (D := (dC, dI)) (ci := 1) (v := .int 0) (ty := .int) (C := RX1) (T := TX1) (N := 4) hx hb hts ifX1_forecast_X1 tyX1 tyX1_ok nmX1 hown hK hP hD hS 0 rfl rfl 1 (by decide) (hts (.fieldLink RX1 18 "HookPier$Days" "landedMany" "I") (List.mem_of_getElem? (i := 7) rfl)) (fun _ h9 => h9) rfl (by decide +kernel) rfl rfl (Nat.le_of_ble_eq_true rfl) (zat zrX1_forecast_0_ok 10 rfl) (fun H locs hP hD hS => ?_)
  obtain ⟨hP, hD⟩ := pd_mk ((a0, .inr (1, [.ref a5, .int 0, .int y_y.2.1, .ref a6])) :: bX6 a1 up kp p_p ((a6, .inl (cB17, 6, .inl y_y.2.2)) :: bX4 a5 un2 kn2 (o5.1, k3, o5.2.2) (bX4 a2 un kn n_n []))) hP hD
  refine lv_aload_n hx hb (zat zrX1_forecast_0_ok 11 rfl) rfl (lv_at hl 0 rfl) ?_
  refine lv_iconst (v := 0) hx hb (zat zrX1_forecast_0_ok 12 rfl) (by decide) ?_
  refine va_put (D := (dC, dI)) (ci := 1) (v := .int 0) (ty := .int) (C := RX1) (T := TX1) (N := 4) hx hb hts ifX1_forecast_X1 tyX1 tyX1_ok nmX1 hown hK hP hD hS 0 rfl rfl 2 (by decide) (hts (.fieldLink RX1 22 "HookPier$Days" "crabTakes" "I") (List.mem_of_getElem? (i := 8) rfl)) (fun _ h9 => h9) rfl (by decide +kernel) rfl rfl (Nat.le_of_ble_eq_true rfl) (zat zrX1_forecast_0_ok 13 rfl) (fun H locs hP hD hS => ?_)
  obtain ⟨hP, hD⟩ := pd_mk ((a0, .inr (1, [.ref a5, .int 0, .int 0, .ref a6])) :: bX6 a1 up kp p_p ((a6, .inl (cB17, 6, .inl y_y.2.2)) :: bX4 a5 un2 kn2 (o5.1, k3, o5.2.2) (bX4 a2 un kn n_n []))) hP hD
  refine lv_iconst (v := 0) hx hb (zat zrX1_forecast_0_ok 14 rfl) (by decide) ?_
  refine lv_istore (lv' := [(5, .int 0), (0, .ref a0), (1, .ref a1), (2, .ref a2), (3, .int k3), (4, .int k4)]) hx hb (zat zrX1_forecast_0_ok 15 rfl) hl (by decide) rfl (fun ls hl => ?_)
  have L29 : ∀ (n29 : Nat) (v29_l5 : Int32) (v29_y_y : TX1_y) (H : Heap) (locs : List Loc) (ls : Array Slot), f_X1_forecast_L29 k3 k4 p_p n_n o5 n29 v29_l5 v29_y_y = some out → va_P (dC, dI) vwCl ((a0, .inr (1, [.ref a5, .int v29_y_y.1, .int v29_y_y.2.1, .ref a6])) :: bX6 a1 up kp p_p ((a6, .inl (cB17, 6, .inl v29_y_y.2.2)) :: bX4 a5 un2 kn2 (o5.1, k3, o5.2.2) (bX4 a2 un kn n_n []))) H → va_D A ((a0, .inr (1, [.ref a5, .int v29_y_y.1, .int v29_y_y.2.1, .ref a6])) :: bX6 a1 up kp p_p ((a6, .inl (cB17, 6, .inl v29_y_y.2.2)) :: bX4 a5 un2 kn2 (o5.1, k3, o5.2.2) (bX4 a2 un kn n_n []))) → va_S A s.heap H locs → lv_has ls 6 [(5, .int v29_l5), (0, .ref a0), (1, .ref a1), (2, .ref a2), (4, .int k4)] → W p l e (headSpec vfX1_forecast { frames := 5, cells := 0, slots := 0, locals := 118 }).room s m ([.ref a0, .ref a1, .ref a2, .int k3, .int k4]).toArray below meth c H locs 0 0 QQ (F0 m 29 ls []) := by
    intro n29
    induction n29 with
    | zero =>
      intro v29_l5 v29_y_y H locs ls h  _ _ _ _
      rw [f_X1_forecast_L29] at h
      cases h
    | succ n29 ih29 =>
      intro v29_l5 v29_y_y H locs ls h  hP hD hS hl
      rw [f_X1_forecast_L29] at h
      refine lv_iload hx hb (zat zrX1_forecast_0_ok 16 rfl) (lv_at hl 0 rfl) ?_
      refine lv_aload_n hx hb (zat zrX1_forecast_0_ok 17 rfl) rfl (lv_at hl 1 rfl) ?_
      refine va_get (D := (dC, dI)) (ci := 1) (v := .ref a6) (C := RX1) (T := TX1) (N := 4) hx hb hts ifX1_forecast_X1 hown hK hP 0 rfl rfl 3 (by decide) (hts (.fieldLink RX1 25 "HookPier$Days" "landedInDay" "[I") (List.mem_of_getElem? (i := 9) rfl)) (fun _ h9 => h9) rfl (zat zrX1_forecast_0_ok 18 rfl) ?_
      refine va_alen (v := 6) hx hb hK hP 11 17 rfl rfl rfl (zat zrX1_forecast_0_ok 19 rfl) ?_
      refine lv_icmp_ge (tgt := 53) hx hb (zat zrX1_forecast_0_ok 20 rfl) (by decide) (fun c36 => ?_) (fun c36 => ?_)
      · have h := (if_pos c36).symm.trans h
        refine lv_iconst (v := 1) hx hb (zat zrX1_forecast_0_ok 28 rfl) (by decide) ?_
        refine lv_istore (lv' := [(5, .int 1), (0, .ref a0), (1, .ref a1), (2, .ref a2), (4, .int k4)]) hx hb (zat zrX1_forecast_0_ok 29 rfl) hl (by decide) rfl (fun ls hl => ?_)
        have L56 : ∀ (n56 : Nat) (v56_l5 : Int32) (v56_y_y : TX1_y) (v56_n2_n : TX4_n) (H : Heap) (locs : List Loc) (ls : Array Slot), f_X1_forecast_L56 k4 p_p n_n n56 v56_l5 v56_y_y v56_n2_n = some out → va_P (dC, dI) vwCl ((a0, .inr (1, [.ref a5, .int v56_y_y.1, .int v56_y_y.2.1, .ref a6])) :: bX6 a1 up kp p_p ((a6, .inl (cB17, 6, .inl v56_y_y.2.2)) :: bX4 a5 un2 kn2 v56_n2_n (bX4 a2 un kn n_n []))) H → va_D A ((a0, .inr (1, [.ref a5, .int v56_y_y.1, .int v56_y_y.2.1, .ref a6])) :: bX6 a1 up kp p_p ((a6, .inl (cB17, 6, .inl v56_y_y.2.2)) :: bX4 a5 un2 kn2 v56_n2_n (bX4 a2 un kn n_n []))) → va_S A s.heap H locs → lv_has ls 6 [(5, .int v56_l5), (0, .ref a0), (1, .ref a1), (2, .ref a2), (4, .int k4)] → W p l e (headSpec vfX1_forecast { frames := 5, cells := 0, slots := 0, locals := 118 }).room s m ([.ref a0, .ref a1, .ref a2, .int k3, .int k4]).toArray below meth c H locs 0 0 QQ (F0 m 56 ls []) := by
          intro n56
          induction n56 with
          | zero =>
            intro v56_l5 v56_y_y v56_n2_n H locs ls h  _ _ _ _
            rw [f_X1_forecast_L56] at h
            cases h
          | succ n56 ih56 =>
            intro v56_l5 v56_y_y v56_n2_n H locs ls h  hP hD hS hl
            rw [f_X1_forecast_L56] at h
            refine lv_iload hx hb (zat zrX1_forecast_0_ok 30 rfl) (lv_at hl 0 rfl) ?_
            refine lv_iload hx hb (zat zrX1_forecast_0_ok 31 rfl) (lv_at hl 4 rfl) ?_
            refine lv_icmp_gt (tgt := 92) hx hb (zat zrX1_forecast_0_ok 32 rfl) (by decide) (fun c60 => ?_) (fun c60 => ?_)
            · have h := (if_pos c60).symm.trans h
              obtain rfl := Option.some.inj h
              obtain ⟨hP9, hD9⟩ := pd_sub ((a0, .inr (1, [.ref a5, .int v56_y_y.1, .int v56_y_y.2.1, .ref a6])) :: bX6 a1 up kp p_p (bX4 a2 un kn n_n (bX4 a5 un2 kn2 v56_n2_n ([(a6, .inl (cB17, 6, .inl v56_y_y.2.2))])))) [0, 1, 2, 3, 4, 5, 6, 7, 8, 9, 10, 17, 18, 19, 20, 21, 12, 13, 14, 15, 16, 11] hP hD (by decide) rfl
              have hK9 := hK.sub (tys' := []) [] rfl
              rw [hQQ]
              exact W.vret hx hb hr (fun t ht hW => ⟨⟨(), rfl, trivial, by rw [ht]; exact hP9, va_K.moved hW.alike hK9, hD9⟩, hS.F ht⟩) hS.2.2 (zat zrX1_forecast_0_ok 47 rfl)
            · have h := (if_neg c60).symm.trans h
              refine lv_aload_n hx hb (zat zrX1_forecast_0_ok 33 rfl) rfl (lv_at hl 1 rfl) ?_
              refine va_get (D := (dC, dI)) (ci := 1) (v := .ref a5) (C := RX1) (T := TX1) (N := 4) hx hb hts ifX1_forecast_X1 hown hK hP 0 rfl rfl 0 (by decide) (hts (.fieldLink RX1 12 "HookPier$Days" "ahead" "LHookPier$Now;") (List.mem_of_getElem? (i := 1) rfl)) (fun _ h9 => h9) rfl (zat zrX1_forecast_0_ok 34 rfl) ?_
              refine lv_aload_n hx hb (zat zrX1_forecast_0_ok 35 rfl) rfl (lv_at hl 3 rfl) ?_
              obtain ⟨o68, eo68⟩ : ∃ o, o = f_X4_letDownAs v56_n2_n n_n := ⟨_, rfl⟩
              have h := nm_of h o68 eo68
              refine ck_v (wc := (bX4 a5 un2 kn2 v56_n2_n (bX4 a2 un kn n_n []))) (wr := ((a0, .inr (1, [.ref a5, .int v56_y_y.1, .int v56_y_y.2.1, .ref a6])) :: bX6 a1 up kp p_p ([(a6, .inl (cB17, 6, .inl v56_y_y.2.2))]))) hP hD hK hS hA [12, 13, 14, 15, 16, 17, 18, 19, 20, 21] [0, 1, 2, 3, 4, 5, 6, 7, 8, 9, 10, 11] rfl rfl (by decide) (by decide) (by decide) (fun hPc hDc => (va_runV (As := [.ref a2]) (rest := []) ⟨hx, hb, hml, hown, hts⟩ (kfX4_letDownAs l dC dI a5 a2 un2 kn2 un kn v56_n2_n n_n H.size o68 eo68.symm) (cwV 1 hts gfX1_forecast_1 rfl rfl rfl (by decide +kernel) ⟨(Nat.le_of_ble_eq_true rfl), (Nat.le_of_ble_eq_true rfl)⟩) (PV hPc (hK.sub (tys' := (tX4 kn2 (tX4 kn ([])))) [13, 14, 15, 16, 9, 10, 11, 12] rfl) hDc hN 0 rfl rfl) rfl rfl hl.1 rfl (lv_room (Nat.le_of_ble_eq_true rfl)) (zat zrX1_forecast_0_ok 36 rfl) ⟨(Nat.le_of_ble_eq_true rfl), (Nat.le_of_ble_eq_true rfl)⟩)) (fun _ H locs hw hP hD _ hS => ?_)
              obtain ⟨hP, hD⟩ := pd_mk ((a0, .inr (1, [.ref a5, .int v56_y_y.1, .int v56_y_y.2.1, .ref a6])) :: bX6 a1 up kp p_p ((a6, .inl (cB17, 6, .inl v56_y_y.2.2)) :: bX4 a5 un2 kn2 o68 (bX4 a2 un kn n_n []))) hP hD
              refine lv_aload_n hx hb (zat zrX1_forecast_0_ok 37 rfl) rfl (lv_at hl 1 rfl) ?_
              refine lv_aload_n hx hb (zat zrX1_forecast_0_ok 38 rfl) rfl (lv_at hl 1 rfl) ?_
              refine lv_aload_n hx hb (zat zrX1_forecast_0_ok 39 rfl) rfl (lv_at hl 2 rfl) ?_
              refine lv_aload_n hx hb (zat zrX1_forecast_0_ok 40 rfl) rfl (lv_at hl 1 rfl) ?_
              refine va_get (D := (dC, dI)) (ci := 1) (v := .ref a5) (C := RX1) (T := TX1) (N := 4) hx hb hts ifX1_forecast_X1 hown hK hP 0 rfl rfl 0 (by decide) (hts (.fieldLink RX1 12 "HookPier$Days" "ahead" "LHookPier$Now;") (List.mem_of_getElem? (i := 1) rfl)) (fun _ h9 => h9) rfl (zat zrX1_forecast_0_ok 41 rfl) ?_
              obtain ⟨o78, eo78, h⟩ := bd_of h
              refine ck_i (wc := ((a0, .inr (1, [.ref a5, .int v56_y_y.1, .int v56_y_y.2.1, .ref a6])) :: bX6 a1 up kp p_p (bX4 a5 un2 kn2 o68 ([(a6, .inl (cB17, 6, .inl v56_y_y.2.2))])))) (wr := (bX4 a2 un kn n_n [])) hP hD hK hS hA [0, 1, 2, 3, 4, 5, 6, 7, 8, 9, 10, 12, 13, 14, 15, 16, 11] [17, 18, 19, 20, 21] rfl rfl (by decide) (by decide) (by decide) (fun hPc hDc => (va_runV (As := [.ref a1, .ref a5]) (rest := [.ref a0]) ⟨hx, hb, hml, hown, hts⟩ (kfX1_pass l dC dI a0 a1 a5 a6 up kp un2 kn2 v56_y_y (.ref a5) p_p o68 cB17 H.size o78 eo78) (cwV 2 hts gfX1_forecast_2 rfl rfl rfl (by decide +kernel) ⟨(Nat.le_of_ble_eq_true rfl), (Nat.le_of_ble_eq_true rfl)⟩) (PV hPc (hK.sub (tys' := (tX6 kp (tX4 kn2 ((cB17, .int) :: [])))) [0, 1, 2, 3, 4, 5, 6, 7, 8, 13, 14, 15, 16, 17] rfl) hDc hN 0 rfl rfl) rfl rfl hl.1 rfl (lv_room (Nat.le_of_ble_eq_true rfl)) (zat zrX1_forecast_0_ok 42 rfl) ⟨(Nat.le_of_ble_eq_true rfl), (Nat.le_of_ble_eq_true rfl)⟩)) (fun r78 _ H locs hw hP hD _ hS => ?_)
              obtain rfl := hw
              obtain ⟨hP, hD⟩ := pd_mk (bX4 a2 un kn n_n ((a0, .inr (1, [.ref a5, .int o78.2.1.1, .int o78.2.1.2.1, .ref a6])) :: bX6 a1 up kp p_p (bX4 a5 un2 kn2 o78.2.2 ([(a6, .inl (cB17, 6, .inl o78.2.1.2.2))])))) hP hD
              refine lv_iload hx hb (zat zrX1_forecast_0_ok 43 rfl) (lv_at hl 0 rfl) ?_
              obtain ⟨o83, eo83, h⟩ := bd_of h
              refine ck_v (wc := ([(a0, .inr (1, [.ref a5, .int o78.2.1.1, .int o78.2.1.2.1, .ref a6])), (a6, .inl (cB17, 6, .inl o78.2.1.2.2))])) (wr := (bX4 a2 un kn n_n (bX6 a1 up kp p_p (bX4 a5 un2 kn2 o78.2.2 [])))) hP hD hK hS hA [5, 21] [0, 1, 2, 3, 4, 6, 7, 8, 9, 10, 11, 12, 13, 14, 15, 16, 17, 18, 19, 20] rfl rfl (by decide) (by decide) (by decide) (fun hPc hDc => (va_runV (As := [.int o78.1, .int v56_l5]) (rest := []) ⟨hx, hb, hml, hown, hts⟩ (kfX1_note l dC dI a0 o78.1 v56_l5 a6 o78.2.1 (.ref a5) cB17 H.size o83 eo83) (cwV 2 hts gfX1_forecast_3 rfl rfl rfl (by decide +kernel) ⟨(Nat.le_of_ble_eq_true rfl), (Nat.le_of_ble_eq_true rfl)⟩) (PV hPc (hK.sub (tys' := ((cB17, .int) :: [])) [17] rfl) hDc hN 0 rfl rfl) rfl rfl hl.1 rfl (lv_room (Nat.le_of_ble_eq_true rfl)) (zat zrX1_forecast_0_ok 44 rfl) ⟨(Nat.le_of_ble_eq_true rfl), (Nat.le_of_ble_eq_true rfl)⟩)) (fun _ H locs hw hP hD _ hS => ?_)
              obtain ⟨hP, hD⟩ := pd_mk (bX4 a2 un kn n_n (bX6 a1 up kp p_p (bX4 a5 un2 kn2 o78.2.2 ([(a0, .inr (1, [.ref a5, .int o83.1, .int o83.2.1, .ref a6])), (a6, .inl (cB17, 6, .inl o83.2.2))])))) hP hD
              refine lv_iinc (v := (v56_l5 + (1 : Int32))) (lv' := [(5, .int (v56_l5 + (1 : Int32))), (0, .ref a0), (1, .ref a1), (2, .ref a2), (4, .int k4)]) hx hb (zat zrX1_forecast_0_ok 45 rfl) hl (k := 0) rfl rfl (by decide) rfl (fun ls hl => ?_)
              refine lv_goto (tgt := 56) hx hb (zat zrX1_forecast_0_ok 46 rfl) (by decide) ?_
              exact ih56 (v56_l5 + (1 : Int32)) o83 o78.2.2 H _ ls h  (hP.sub (ws' := ((a0, .inr (1, [.ref a5, .int o83.1, .int o83.2.1, .ref a6])) :: bX6 a1 up kp p_p ((a6, .inl (cB17, 6, .inl o83.2.2)) :: bX4 a5 un2 kn2 o78.2.2 (bX4 a2 un kn n_n [])))) [20, 5, 6, 7, 8, 9, 10, 11, 12, 13, 14, 21, 15, 16, 17, 18, 19, 0, 1, 2, 3, 4] rfl) (hD.sub (ws' := ((a0, .inr (1, [.ref a5, .int o83.1, .int o83.2.1, .ref a6])) :: bX6 a1 up kp p_p ((a6, .inl (cB17, 6, .inl o83.2.2)) :: bX4 a5 un2 kn2 o78.2.2 (bX4 a2 un kn n_n [])))) [20, 5, 6, 7, 8, 9, 10, 11, 12, 13, 14, 21, 15, 16, 17, 18, 19, 0, 1, 2, 3, 4] (by decide) rfl) hS (lv_sub hl [0, 1, 2, 3, 4] rfl)
        exact L56 FU (1 : Int32) v29_y_y (o5.1, k3, o5.2.2) H _ ls h  hP hD hS (lv_sub hl [0, 1, 2, 3, 4] rfl)
      · have h := (if_neg c36).symm.trans h
        refine lv_aload_n hx hb (zat zrX1_forecast_0_ok 21 rfl) rfl (lv_at hl 1 rfl) ?_
        refine va_get (D := (dC, dI)) (ci := 1) (v := .ref a6) (C := RX1) (T := TX1) (N := 4) hx hb hts ifX1_forecast_X1 hown hK hP 0 rfl rfl 3 (by decide) (hts (.fieldLink RX1 25 "HookPier$Days" "landedInDay" "[I") (List.mem_of_getElem? (i := 9) rfl)) (fun _ h9 => h9) rfl (zat zrX1_forecast_0_ok 22 rfl) ?_
        refine lv_iload hx hb (zat zrX1_forecast_0_ok 23 rfl) (lv_at hl 0 rfl) ?_
        refine lv_iconst (v := 0) hx hb (zat zrX1_forecast_0_ok 24 rfl) (by decide) ?_
        obtain ⟨hg46, h⟩ := gA_of h
        refine va_iast hx hb hK hP hD hS 11 17 rfl rfl hg46 (zat zrX1_forecast_0_ok 25 rfl) (fun H locs hP hD hS => ?_)
        obtain ⟨hP, hD⟩ := pd_mk ((a0, .inr (1, [.ref a5, .int v29_y_y.1, .int v29_y_y.2.1, .ref a6])) :: bX6 a1 up kp p_p ((a6, .inl (cB17, 6, .inl (upd v29_y_y.2.2 (v29_l5).toNatClampNeg (0 : Int32)))) :: bX4 a5 un2 kn2 (o5.1, k3, o5.2.2) (bX4 a2 un kn n_n []))) hP hD
        refine lv_iinc (v := (v29_l5 + (1 : Int32))) (lv' := [(5, .int (v29_l5 + (1 : Int32))), (0, .ref a0), (1, .ref a1), (2, .ref a2), (4, .int k4)]) hx hb (zat zrX1_forecast_0_ok 26 rfl) hl (k := 0) rfl rfl (by decide) rfl (fun ls hl => ?_)
        refine lv_goto (tgt := 29) hx hb (zat zrX1_forecast_0_ok 27 rfl) (by decide) ?_
        exact ih29 (v29_l5 + (1 : Int32)) (v29_y_y.1, v29_y_y.2.1, (upd v29_y_y.2.2 (v29_l5).toNatClampNeg (0 : Int32))) H _ ls h  hP hD hS (lv_sub hl [0, 1, 2, 3, 4] rfl)
  exact L29 FU (0 : Int32) ((0 : Int32), (0 : Int32), y_y.2.2) H _ ls h  hP hD hS (lv_sub hl [0, 1, 2, 3, 5] rfl)
noncomputable def zrX10_landed_0 : List ZR := zc 0 true (.aload_n 0) 1 (zc 1 true (.aload_n 0) 1 (zc 2 true (.iload_n 1) 1 (zc 3 true (.iload_n 2) 1 (zc 4 true (.invokestatic 321) 3 (zc 7 true (.invokevirtual 169) 3 (zc 10 true (.invokevirtual 79) 3 (zc 13 true (.ifCond .eq 5) 3 (zc 16 true (.iconst (-1)) 1 (zc 17 true (.ireturn) 1 (zc 18 true (.aload_n 0) 1 (zc 19 true (.getfield 57) 3 (zc 22 true (.aload_n 0) 1 (zc 23 true (.getfield 10) 3 (zc 26 true (.aload_n 0) 1 (zc 27 true (.getfield 29) 3 (zc 30 true (.iload_n 1) 1 (zc 31 true (.iload_n 2) 1 (zc 32 true (.invokevirtual 324) 3 (zc 35 true (.aload_n 0) 1 (zc 36 true (.getfield 57) 3 (zc 39 true (.getfield 328) 3 (zc 42 true (.ireturn) 1 ([])))))))))))))))))))))))
theorem zrX10_landed_0_ok : zck 0 ((zby cX10_landed).drop 0) zrX10_landed_0 = true := by decide +kernel
def vfX10_landed : List Cond := List.cons (.code yX10_landed cX10_landed 3 (some .int)) (apW [.methodLink RX10 321 yX10_isForecast, .static yX10_isForecast, .initialized RX10, .methodLink RX10 169 yX10_numberTrouble, .instanceMethod yX10_numberTrouble, .selects RX10 yX10_numberTrouble yX10_numberTrouble, .methodLink RX10 79 yX10_refused, .instanceMethod yX10_refused, .selects RX10 yX10_refused yX10_refused, .fieldLink RX10 57 "HookPier" "days" "LHookPier$Days;", .fieldLink RX10 10 "HookPier" "plan" "LHookPier$Plan;", .fieldLink RX10 29 "HookPier" "now" "LHookPier$Now;", .methodLink RX10 324 yX1_forecast, .instanceMethod yX1_forecast, .selects RX1 yX1_forecast yX1_forecast, .initialized RX1, .fieldLink RX10 328 "HookPier$Days" "landedMany" "I"] (apW wsX100 (apW wsX10 (apW vfX10_isForecast (apW vfX10_numberTrouble (apW vfX10_refused (vfX1_forecast)))))))
theorem ifX10_landed_X10 : ∀ w ∈ wsX100, w ∈ vfX10_landed := fun _ h => (List.mem_cons_of_mem _ (List.mem_append_right _ (List.mem_append_left _ h)))
theorem ifX10_landed_X1 : ∀ w ∈ wsX10, w ∈ vfX10_landed := fun _ h => (List.mem_cons_of_mem _ (List.mem_append_right _ (List.mem_append_right _ (List.mem_append_left _ h))))
theorem qfX10_landed : Good vfX10_landed := gd_cons (by decide +kernel) (gd_app (gd_dec (by decide +kernel) : Good [.methodLink RX10 321 yX10_isForecast, .static yX10_isForecast, .initialized RX10, .methodLink RX10 169 yX10_numberTrouble, .instanceMethod yX10_numberTrouble, .selects RX10 yX10_numberTrouble yX10_numberTrouble, .methodLink RX10 79 yX10_refused, .instanceMethod yX10_refused, .selects RX10 yX10_refused yX10_refused, .fieldLink RX10 57 "HookPier" "days" "LHookPier$Days;", .fieldLink RX10 10 "HookPier" "plan" "LHookPier$Plan;", .fieldLink RX10 29 "HookPier" "now" "LHookPier$Now;", .methodLink RX10 324 yX1_forecast, .instanceMethod yX1_forecast, .selects RX1 yX1_forecast yX1_forecast, .initialized RX1, .fieldLink RX10 328 "HookPier$Days" "landedMany" "I"]) (gd_app qsX10 (gd_app qsX1 (gd_app qfX10_isForecast (gd_app qfX10_numberTrouble (gd_app qfX10_refused qfX1_forecast))))))
theorem gfX10_landed_0 : GoodIn vfX10_landed (va_wsS RX10 321 yX10_isForecast vfX10_isForecast) := goodIn_app (goodIn_r [.methodLink RX10 321 yX10_isForecast, .static yX10_isForecast, .initialized RX10] [1, 2, 3] rfl (by decide +kernel)) (goodIn_m (fun _ h => (List.mem_cons_of_mem _ (List.mem_append_right _ (List.mem_append_right _ (List.mem_append_right _ (List.mem_append_left _ h)))))) qfX10_isForecast)
theorem gfX10_landed_1 : GoodIn vfX10_landed (wsV RX10 169 RX10 yX10_numberTrouble vfX10_numberTrouble) := goodIn_app (goodIn_r [.methodLink RX10 169 yX10_numberTrouble, .instanceMethod yX10_numberTrouble, .selects RX10 yX10_numberTrouble yX10_numberTrouble, .initialized RX10] [4, 5, 6, 3] rfl (by decide +kernel)) (goodIn_m (fun _ h => (List.mem_cons_of_mem _ (List.mem_append_right _ (List.mem_append_right _ (List.mem_append_right _ (List.mem_append_right _ (List.mem_append_left _ h))))))) qfX10_numberTrouble)
theorem gfX10_landed_2 : GoodIn vfX10_landed (wsV RX10 79 RX10 yX10_refused vfX10_refused) := goodIn_app (goodIn_r [.methodLink RX10 79 yX10_refused, .instanceMethod yX10_refused, .selects RX10 yX10_refused yX10_refused, .initialized RX10] [7, 8, 9, 3] rfl (by decide +kernel)) (goodIn_m (fun _ h => (List.mem_cons_of_mem _ (List.mem_append_right _ (List.mem_append_right _ (List.mem_append_right _ (List.mem_append_right _ (List.mem_append_right _ (List.mem_append_left _ h)))))))) qfX10_refused)
theorem gfX10_landed_3 : GoodIn vfX10_landed (wsV RX10 324 RX1 yX1_forecast vfX1_forecast) := goodIn_app (goodIn_r [.methodLink RX10 324 yX1_forecast, .instanceMethod yX1_forecast, .selects RX1 yX1_forecast yX1_forecast, .initialized RX1] [13, 14, 15, 16] rfl (by decide +kernel)) (goodIn_m (fun _ h => (List.mem_cons_of_mem _ (List.mem_append_right _ (List.mem_append_right _ (List.mem_append_right _ (List.mem_append_right _ (List.mem_append_right _ (List.mem_append_right _ h)))))))) qfX1_forecast)
set_option maxHeartbeats 2000000 in
set_option maxRecDepth 100000 in
theorem kfX10_landed (l : Launch) (dC : Nat → ClassId) (dI : Nat → Nat → Nat) (a0 : Nat) (k1 : Int32) (k2 : Int32) (a3 : Nat) (a4 : Nat) (a5 : Nat) (a6 : Nat) (a7 : Nat) (up : Nat → Nat) (kp : Nat → ClassId) (un : Nat → Nat) (kn : Nat → ClassId) (un2 : Nat → Nat) (kn2 : Nat → ClassId) (x_x : TX10_x) (g15 : Value) (g16 : Value) (g17 : Value) (g18 : Value) (g19 : Value) (p_p : TX6_p) (n_n : TX4_n) (y_y : TX1_y) (n2_n : TX4_n) (cB24 : ClassId) (sz : Nat) (out : (Int32 × TX10_x × TX1_y × TX4_n)) (h : f_X10_landed k1 k2 x_x p_p n_n y_y n2_n = some out) : KCi l yX10_landed vfX10_landed ({ frames := 6, cells := 0, slots := 0, locals := 143 }) (dC, dI) [.ref a0, .int k1, .int k2] sz ((a0, .inr (7, [.ref a3, g15, g16, .ref a4, g17, g18, g19, .ref a5, .int x_x.1, .int x_x.2])) :: bX6 a3 up kp p_p (bX4 a4 un kn n_n ((a5, .inr (1, [.ref a6, .int y_y.1, .int y_y.2.1, .ref a7])) :: bX4 a6 un2 kn2 n2_n ([(a7, .inl (cB24, 6, .inl y_y.2.2))])))) (tX6 kp (tX4 kn (tX4 kn2 ((cB24, .int) :: [])))) (fun (r : Int32) _ => r = out.1) ((a0, .inr (7, [.ref a3, g15, g16, .ref a4, g17, g18, g19, .ref a5, .int out.2.1.1, .int out.2.1.2])) :: bX6 a3 up kp p_p (bX4 a4 un kn n_n ((a5, .inr (1, [.ref a6, .int out.2.2.1.1, .int out.2.2.1.2.1, .ref a7])) :: bX4 a6 un2 kn2 out.2.2.2 ([(a7, .inl (cB24, 6, .inl out.2.2.1.2.2))])))) 0 0 := by
  refine Met.ofW (cc := cX10_landed) (maxL := 3) (ret := (some .int)) (by decide) rfl ?_
  intro p e s m args below meth c s₁ B0 hml hv
  obtain ⟨rfl, hsz, hP, hK, hD0, hN⟩ := hv
  have hx := B0.exec
  have hb := B0.bytes
  have hr := B0.returns
  have hts := atoms_spec (ws := vfX10_landed) B0.pre
  have hown : s.vm.findClass RX10 = some m.cls := findClass_of_methodNamed B0.named
  have hlocks := B0.notSynchronized
  subst hsz
  have hD := hD0.self (sz := s.heap.size)
  generalize hAe : va_A ((a0, .inr (7, [.ref a3, g15, g16, .ref a4, g17, g18, g19, .ref a5, .int x_x.1, .int x_x.2])) :: bX6 a3 up kp p_p (bX4 a4 un kn n_n ((a5, .inr (1, [.ref a6, .int y_y.1, .int y_y.2.1, .ref a7])) :: bX4 a6 un2 kn2 n2_n ([(a7, .inl (cB24, 6, .inl y_y.2.2))])))) s.heap.size = A at hD ⊢
  have hA : ∀ q : Nat, s.heap.size ≤ q → A q := fun q h => by rw [← hAe]; exact Or.inr h
  have hS : va_S A s.heap s.heap [] := va_S.rf
  have hP : va_P (dC, dI) vwCl ((a0, .inr (7, [.ref a3, g15, g16, .ref a4, g17, g18, g19, .ref a5, .int x_x.1, .int x_x.2])) :: bX6 a3 up kp p_p (bX4 a4 un kn n_n ((a5, .inr (1, [.ref a6, .int y_y.1, .int y_y.2.1, .ref a7])) :: bX4 a6 un2 kn2 n2_n ([(a7, .inl (cB24, 6, .inl y_y.2.2))])))) s.heap := hP
  have hl := lv_entry ([.ref a0, .int k1, .int k2]) (n := 3) (Nat.le_of_ble_eq_true rfl)
  rw [lg_entry_eq]
  generalize (lg_sl ([.ref a0, .int k1, .int k2]) ++ List.replicate (3 - (lg_sl ([.ref a0, .int k1, .int k2])).length) Slot.unset).toArray = ls at hl ⊢
  have hl : lv_has ls 3 [(0, .ref a0), (1, .int k1), (2, .int k2)] := hl
  refine W_q (fun QQ hQQ => ?_)
  rw [f_X10_landed] at h
  refine lv_aload_n hx hb (zat zrX10_landed_0_ok 0 rfl) rfl (lv_at hl 0 rfl) ?_
  refine lv_aload_n hx hb (zat zrX10_landed_0_ok 1 rfl) rfl (lv_at hl 0 rfl) ?_
  refine lv_iload_n hx hb (zat zrX10_landed_0_ok 2 rfl) rfl (lv_at hl 1 rfl) ?_
  refine lv_iload_n hx hb (zat zrX10_landed_0_ok 3 rfl) rfl (lv_at hl 2 rfl) ?_
  obtain ⟨o4, eo4⟩ : ∃ o, o = f_X10_isForecast k1 k2 := ⟨_, rfl⟩
  have h := nm_of h o4 eo4
  refine ck_i (wc := []) (wr := ((a0, .inr (7, [.ref a3, g15, g16, .ref a4, g17, g18, g19, .ref a5, .int x_x.1, .int x_x.2])) :: bX6 a3 up kp p_p (bX4 a4 un kn n_n ((a5, .inr (1, [.ref a6, .int y_y.1, .int y_y.2.1, .ref a7])) :: bX4 a6 un2 kn2 n2_n ([(a7, .inl (cB24, 6, .inl y_y.2.2))]))))) hP hD hK hS hA [] [0, 1, 2, 3, 4, 5, 6, 7, 8, 9, 10, 11, 12, 13, 14, 15, 16, 17, 18, 19, 20, 21, 22] rfl rfl (by decide) (by decide) (by decide) (fun hPc hDc => (va_runS (As := [.int k1, .int k2]) (rest := [.ref a0, .ref a0]) ⟨hx, hb, hml, hown, hts⟩ (kfX10_isForecast l dC dI k1 k2 s.heap.size o4 eo4.symm) (va_cwS 2 hts gfX10_landed_0 rfl rfl rfl (by decide +kernel) ⟨(Nat.le_of_ble_eq_true rfl), (Nat.le_of_ble_eq_true rfl)⟩) (PS hPc (hK.sub (tys' := ([])) [] rfl) hDc hN) rfl rfl hl.1 rfl (lv_room (Nat.le_of_ble_eq_true rfl)) (zat zrX10_landed_0_ok 4 rfl) ⟨(Nat.le_of_ble_eq_true rfl), (Nat.le_of_ble_eq_true rfl)⟩)) (fun r4 _ H locs hw hP hD _ hS => ?_)
  obtain ⟨hw, br4⟩ := hw
  obtain rfl := hw.symm
  obtain ⟨hP, hD⟩ := pd_mk ((a0, .inr (7, [.ref a3, g15, g16, .ref a4, g17, g18, g19, .ref a5, .int x_x.1, .int x_x.2])) :: bX6 a3 up kp p_p (bX4 a4 un kn n_n ((a5, .inr (1, [.ref a6, .int y_y.1, .int y_y.2.1, .ref a7])) :: bX4 a6 un2 kn2 n2_n ([(a7, .inl (cB24, 6, .inl y_y.2.2))])))) hP hD
  obtain ⟨o7, eo7⟩ : ∃ o, o = f_X10_numberTrouble o4 p_p := ⟨_, rfl⟩
  have h := nm_of h o7 eo7
  refine ck_i (wc := ((a0, .inr (7, [.ref a3, g15, g16, .ref a4, g17, g18, g19, .ref a5, .int x_x.1, .int x_x.2])) :: bX6 a3 up kp p_p [])) (wr := (bX4 a4 un kn n_n ((a5, .inr (1, [.ref a6, .int y_y.1, .int y_y.2.1, .ref a7])) :: bX4 a6 un2 kn2 n2_n ([(a7, .inl (cB24, 6, .inl y_y.2.2))])))) hP hD hK hS hA [0, 1, 2, 3, 4, 5, 6, 7, 8, 9, 10] [11, 12, 13, 14, 15, 16, 17, 18, 19, 20, 21, 22] rfl rfl (by decide) (by decide) (by decide) (fun hPc hDc => (va_runV (As := [.int o4]) (rest := [.ref a0]) ⟨hx, hb, hml, hown, hts⟩ (kfX10_numberTrouble l dC dI a0 o4 a3 up kp (g15) (g16) (.ref a4) (g17) (g18) (g19) (.ref a5) (.int x_x.1) (.int x_x.2) p_p H.size o7 eo7.symm) (cwV 1 hts gfX10_landed_1 rfl rfl rfl (by decide +kernel) ⟨(Nat.le_of_ble_eq_true rfl), (Nat.le_of_ble_eq_true rfl)⟩) (PV hPc (hK.sub (tys' := (tX6 kp ([]))) [0, 1, 2, 3, 4, 5, 6, 7, 8] rfl) hDc hN 0 rfl rfl) rfl rfl hl.1 rfl (lv_room (Nat.le_of_ble_eq_true rfl)) (zat zrX10_landed_0_ok 5 rfl) ⟨(Nat.le_of_ble_eq_true rfl), (Nat.le_of_ble_eq_true rfl)⟩)) (fun r7 _ H locs hw hP hD _ hS => ?_)
  obtain rfl := hw.symm
  obtain ⟨hP, hD⟩ := pd_mk (bX4 a4 un kn n_n ((a5, .inr (1, [.ref a6, .int y_y.1, .int y_y.2.1, .ref a7])) :: bX4 a6 un2 kn2 n2_n ((a7, .inl (cB24, 6, .inl y_y.2.2)) :: (a0, .inr (7, [.ref a3, g15, g16, .ref a4, g17, g18, g19, .ref a5, .int x_x.1, .int x_x.2])) :: bX6 a3 up kp p_p []))) hP hD
  obtain ⟨o10, eo10⟩ : ∃ o, o = f_X10_refused o7 x_x := ⟨_, rfl⟩
  have h := nm_of h o10 eo10
  refine ck_i (wc := ([(a0, .inr (7, [.ref a3, g15, g16, .ref a4, g17, g18, g19, .ref a5, .int x_x.1, .int x_x.2]))])) (wr := (bX4 a4 un kn n_n ((a5, .inr (1, [.ref a6, .int y_y.1, .int y_y.2.1, .ref a7])) :: bX4 a6 un2 kn2 n2_n ((a7, .inl (cB24, 6, .inl y_y.2.2)) :: bX6 a3 up kp p_p [])))) hP hD hK hS hA [12] [0, 1, 2, 3, 4, 5, 6, 7, 8, 9, 10, 11, 13, 14, 15, 16, 17, 18, 19, 20, 21, 22] rfl rfl (by decide) (by decide) (by decide) (fun hPc hDc => (va_runV (As := [.int o7]) (rest := []) ⟨hx, hb, hml, hown, hts⟩ (kfX10_refused l dC dI a0 o7 x_x (.ref a3) (g15) (g16) (.ref a4) (g17) (g18) (g19) (.ref a5) H.size o10 eo10.symm) (cwV 1 hts gfX10_landed_2 rfl rfl rfl (by decide +kernel) ⟨(Nat.le_of_ble_eq_true rfl), (Nat.le_of_ble_eq_true rfl)⟩) (PV hPc (hK.sub (tys' := ([])) [] rfl) hDc hN 0 rfl rfl) rfl rfl hl.1 rfl (lv_room (Nat.le_of_ble_eq_true rfl)) (zat zrX10_landed_0_ok 6 rfl) ⟨(Nat.le_of_ble_eq_true rfl), (Nat.le_of_ble_eq_true rfl)⟩)) (fun r10 _ H locs hw hP hD _ hS => ?_)
  obtain ⟨hw, br10⟩ := hw
  obtain rfl := hw
  obtain ⟨hP, hD⟩ := pd_mk (bX4 a4 un kn n_n ((a5, .inr (1, [.ref a6, .int y_y.1, .int y_y.2.1, .ref a7])) :: bX4 a6 un2 kn2 n2_n ((a7, .inl (cB24, 6, .inl y_y.2.2)) :: bX6 a3 up kp p_p ([(a0, .inr (7, [.ref a3, g15, g16, .ref a4, g17, g18, g19, .ref a5, .int o10.2.1, .int o10.2.2]))])))) hP hD
  refine lv_if_eq (tgt := 18) hx hb (zat zrX10_landed_0_ok 7 rfl) (by decide) (fun c13 => ?_) (fun c13 => ?_)
  · have h := (if_pos c13).symm.trans h
    refine lv_aload_n hx hb (zat zrX10_landed_0_ok 10 rfl) rfl (lv_at hl 0 rfl) ?_
    refine va_get (D := (dC, dI)) (ci := 7) (v := .ref a5) (C := RX10) (T := TX10) (N := 10) hx hb hts ifX10_landed_X10 hown hK hP 22 rfl rfl 7 (by decide) (hts (.fieldLink RX10 57 "HookPier" "days" "LHookPier$Days;") (List.mem_of_getElem? (i := 10) rfl)) (fun _ h9 => h9) rfl (zat zrX10_landed_0_ok 11 rfl) ?_
    refine lv_aload_n hx hb (zat zrX10_landed_0_ok 12 rfl) rfl (lv_at hl 0 rfl) ?_
    refine va_get (D := (dC, dI)) (ci := 7) (v := .ref a3) (C := RX10) (T := TX10) (N := 10) hx hb hts ifX10_landed_X10 hown hK hP 22 rfl rfl 0 (by decide) (hts (.fieldLink RX10 10 "HookPier" "plan" "LHookPier$Plan;") (List.mem_of_getElem? (i := 11) rfl)) (fun _ h9 => h9) rfl (zat zrX10_landed_0_ok 13 rfl) ?_
    refine lv_aload_n hx hb (zat zrX10_landed_0_ok 14 rfl) rfl (lv_at hl 0 rfl) ?_
    refine va_get (D := (dC, dI)) (ci := 7) (v := .ref a4) (C := RX10) (T := TX10) (N := 10) hx hb hts ifX10_landed_X10 hown hK hP 22 rfl rfl 3 (by decide) (hts (.fieldLink RX10 29 "HookPier" "now" "LHookPier$Now;") (List.mem_of_getElem? (i := 12) rfl)) (fun _ h9 => h9) rfl (zat zrX10_landed_0_ok 15 rfl) ?_
    refine lv_iload_n hx hb (zat zrX10_landed_0_ok 16 rfl) rfl (lv_at hl 1 rfl) ?_
    refine lv_iload_n hx hb (zat zrX10_landed_0_ok 17 rfl) rfl (lv_at hl 2 rfl) ?_
    obtain ⟨o32, eo32, h⟩ := bd_of h
    refine ck_v (wc := ((a5, .inr (1, [.ref a6, .int y_y.1, .int y_y.2.1, .ref a7])) :: bX6 a3 up kp p_p (bX4 a4 un kn n_n (bX4 a6 un2 kn2 n2_n ([(a7, .inl (cB24, 6, .inl y_y.2.2))]))))) (wr := ([(a0, .inr (7, [.ref a3, g15, g16, .ref a4, g17, g18, g19, .ref a5, .int o10.2.1, .int o10.2.2]))])) hP hD hK hS hA [5, 12, 13, 14, 15, 16, 17, 18, 19, 20, 21, 0, 1, 2, 3, 4, 6, 7, 8, 9, 10, 11] [22] rfl rfl (by decide) (by decide) (by decide) (fun hPc hDc => (va_runV (As := [.ref a3, .ref a4, .int k1, .int k2]) (rest := []) ⟨hx, hb, hml, hown, hts⟩ (kfX1_forecast l dC dI a5 a3 a4 k1 k2 a6 a7 up kp un kn un2 kn2 y_y p_p n_n n2_n cB24 H.size o32 eo32) (cwV 4 hts gfX10_landed_3 rfl rfl rfl (by decide +kernel) ⟨(Nat.le_of_ble_eq_true rfl), (Nat.le_of_ble_eq_true rfl)⟩) (PV hPc (hK.sub (tys' := (tX6 kp (tX4 kn (tX4 kn2 ((cB24, .int) :: []))))) [0, 1, 2, 3, 4, 5, 6, 7, 8, 9, 10, 11, 12, 13, 14, 15, 16, 17] rfl) hDc hN 0 rfl rfl) rfl rfl hl.1 rfl (lv_room (Nat.le_of_ble_eq_true rfl)) (zat zrX10_landed_0_ok 18 rfl) ⟨(Nat.le_of_ble_eq_true rfl), (Nat.le_of_ble_eq_true rfl)⟩)) (fun _ H locs hw hP hD _ hS => ?_)
    obtain ⟨hP, hD⟩ := pd_mk ((a0, .inr (7, [.ref a3, g15, g16, .ref a4, g17, g18, g19, .ref a5, .int o10.2.1, .int o10.2.2])) :: (a5, .inr (1, [.ref a6, .int o32.1.1, .int o32.1.2.1, .ref a7])) :: bX6 a3 up kp p_p (bX4 a4 un kn n_n (bX4 a6 un2 kn2 o32.2 ([(a7, .inl (cB24, 6, .inl o32.1.2.2))])))) hP hD
    refine lv_aload_n hx hb (zat zrX10_landed_0_ok 19 rfl) rfl (lv_at hl 0 rfl) ?_
    refine va_get (D := (dC, dI)) (ci := 7) (v := .ref a5) (C := RX10) (T := TX10) (N := 10) hx hb hts ifX10_landed_X10 hown hK hP 0 rfl rfl 7 (by decide) (hts (.fieldLink RX10 57 "HookPier" "days" "LHookPier$Days;") (List.mem_of_getElem? (i := 10) rfl)) (fun _ h9 => h9) rfl (zat zrX10_landed_0_ok 20 rfl) ?_
    refine va_get (D := (dC, dI)) (ci := 1) (v := .int o32.1.1) (C := RX1) (T := TX1) (N := 4) hx hb hts ifX10_landed_X1 hown hK hP 1 rfl rfl 1 (by decide) (hts (.fieldLink RX10 328 "HookPier$Days" "landedMany" "I") (List.mem_of_getElem? (i := 17) rfl)) (fun _ h9 => h9) rfl (zat zrX10_landed_0_ok 21 rfl) ?_
    obtain rfl := Option.some.inj h
    obtain ⟨hP9, hD9⟩ := pd_sub ((a0, .inr (7, [.ref a3, g15, g16, .ref a4, g17, g18, g19, .ref a5, .int o10.2.1, .int o10.2.2])) :: bX6 a3 up kp p_p (bX4 a4 un kn n_n ((a5, .inr (1, [.ref a6, .int o32.1.1, .int o32.1.2.1, .ref a7])) :: bX4 a6 un2 kn2 o32.2 ([(a7, .inl (cB24, 6, .inl o32.1.2.2))])))) [0, 2, 3, 4, 5, 6, 7, 8, 9, 10, 11, 12, 13, 14, 15, 16, 1, 17, 18, 19, 20, 21, 22] hP hD (by decide) rfl
    have hK9 := hK.sub (tys' := []) [] rfl
    rw [hQQ]
    exact W.iret (v := o32.1.1) hx hb hr (fun t ht hW => ⟨⟨o32.1.1, (), rfl, rfl, by rw [ht]; exact hP9, va_K.moved hW.alike hK9, hD9⟩, hS.F ht⟩) hS.2.2 (zat zrX10_landed_0_ok 22 rfl)
  · have h := (if_neg c13).symm.trans h
    refine lv_iconst (v := (-1)) hx hb (zat zrX10_landed_0_ok 8 rfl) (by decide) ?_
    obtain rfl := Option.some.inj h
    obtain ⟨hP9, hD9⟩ := pd_sub ((a0, .inr (7, [.ref a3, g15, g16, .ref a4, g17, g18, g19, .ref a5, .int o10.2.1, .int o10.2.2])) :: bX6 a3 up kp p_p (bX4 a4 un kn n_n ((a5, .inr (1, [.ref a6, .int y_y.1, .int y_y.2.1, .ref a7])) :: bX4 a6 un2 kn2 n2_n ([(a7, .inl (cB24, 6, .inl y_y.2.2))])))) [22, 12, 13, 14, 15, 16, 17, 18, 19, 20, 21, 0, 1, 2, 3, 4, 5, 6, 7, 8, 9, 10, 11] hP hD (by decide) rfl
    have hK9 := hK.sub (tys' := []) [] rfl
    rw [hQQ]
    exact W.iret (v := (-1 : Int32)) hx hb hr (fun t ht hW => ⟨⟨(-1 : Int32), (), rfl, rfl, by rw [ht]; exact hP9, va_K.moved hW.alike hK9, hD9⟩, hS.F ht⟩) hS.2.2 (zat zrX10_landed_0_ok 9 rfl)
noncomputable def zrX10_landedIn_0 : List ZR := zc 0 true (.aload_n 0) 1 (zc 1 true (.iload_n 1) 1 (zc 2 true (.invokevirtual 102) 3 (zc 5 true (.istore 4) 2 (zc 7 true (.aload_n 0) 1 (zc 8 true (.iload 4) 2 (zc 10 true (.ifCond .ne 15) 3 (zc 13 true (.aload_n 0) 1 (zc 14 true (.iload_n 2) 1 (zc 15 true (.iload_n 3) 1 (zc 16 true (.invokestatic 321) 3 (zc 19 true (.invokevirtual 169) 3 (zc 22 true (.goto 5) 3 (zc 25 true (.iload 4) 2 (zc 27 true (.invokevirtual 79) 3 (zc 30 true (.ifCond .eq 5) 3 (zc 33 true (.iconst (-1)) 1 (zc 34 true (.ireturn) 1 (zc 35 true (.aload_n 0) 1 (zc 36 true (.getfield 57) 3 (zc 39 true (.aload_n 0) 1 (zc 40 true (.getfield 10) 3 (zc 43 true (.aload_n 0) 1 (zc 44 true (.getfield 29) 3 (zc 47 true (.iload_n 2) 1 (zc 48 true (.iload_n 3) 1 (zc 49 true (.invokevirtual 324) 3 (zc 52 true (.aload_n 0) 1 (zc 53 true (.getfield 57) 3 (zc 56 true (.getfield 331) 3 (zc 59 true (.iload_n 1) 1 (zc 60 true (.iaload) 1 (zc 61 true (.ireturn) 1 ([])))))))))))))))))))))))))))))))))
theorem zrX10_landedIn_0_ok : zck 0 ((zby cX10_landedIn).drop 0) zrX10_landedIn_0 = true := by decide +kernel
def vfX10_landedIn : List Cond := List.cons (.code yX10_landedIn cX10_landedIn 5 (some .int)) (apW [.methodLink RX10 102 yX10_answerTrouble, .instanceMethod yX10_answerTrouble, .selects RX10 yX10_answerTrouble yX10_answerTrouble, .initialized RX10, .methodLink RX10 79 yX10_refused, .instanceMethod yX10_refused, .selects RX10 yX10_refused yX10_refused, .fieldLink RX10 57 "HookPier" "days" "LHookPier$Days;", .fieldLink RX10 10 "HookPier" "plan" "LHookPier$Plan;", .fieldLink RX10 29 "HookPier" "now" "LHookPier$Now;", .methodLink RX10 324 yX1_forecast, .instanceMethod yX1_forecast, .selects RX1 yX1_forecast yX1_forecast, .initialized RX1, .fieldLink RX10 331 "HookPier$Days" "landedInDay" "[I", .methodLink RX10 321 yX10_isForecast, .static yX10_isForecast, .methodLink RX10 169 yX10_numberTrouble, .instanceMethod yX10_numberTrouble, .selects RX10 yX10_numberTrouble yX10_numberTrouble] (apW wsX100 (apW wsX10 (apW vfX10_answerTrouble (apW vfX10_refused (apW vfX1_forecast (apW vfX10_isForecast (vfX10_numberTrouble))))))))
theorem ifX10_landedIn_X10 : ∀ w ∈ wsX100, w ∈ vfX10_landedIn := fun _ h => (List.mem_cons_of_mem _ (List.mem_append_right _ (List.mem_append_left _ h)))
theorem ifX10_landedIn_X1 : ∀ w ∈ wsX10, w ∈ vfX10_landedIn := fun _ h => (List.mem_cons_of_mem _ (List.mem_append_right _ (List.mem_append_right _ (List.mem_append_left _ h))))
theorem qfX10_landedIn : Good vfX10_landedIn := gd_cons (by decide +kernel) (gd_app (gd_dec (by decide +kernel) : Good [.methodLink RX10 102 yX10_answerTrouble, .instanceMethod yX10_answerTrouble, .selects RX10 yX10_answerTrouble yX10_answerTrouble, .initialized RX10, .methodLink RX10 79 yX10_refused, .instanceMethod yX10_refused, .selects RX10 yX10_refused yX10_refused, .fieldLink RX10 57 "HookPier" "days" "LHookPier$Days;", .fieldLink RX10 10 "HookPier" "plan" "LHookPier$Plan;", .fieldLink RX10 29 "HookPier" "now" "LHookPier$Now;", .methodLink RX10 324 yX1_forecast, .instanceMethod yX1_forecast, .selects RX1 yX1_forecast yX1_forecast, .initialized RX1, .fieldLink RX10 331 "HookPier$Days" "landedInDay" "[I", .methodLink RX10 321 yX10_isForecast, .static yX10_isForecast, .methodLink RX10 169 yX10_numberTrouble, .instanceMethod yX10_numberTrouble, .selects RX10 yX10_numberTrouble yX10_numberTrouble]) (gd_app qsX10 (gd_app qsX1 (gd_app qfX10_answerTrouble (gd_app qfX10_refused (gd_app qfX1_forecast (gd_app qfX10_isForecast qfX10_numberTrouble)))))))
theorem gfX10_landedIn_0 : GoodIn vfX10_landedIn (wsV RX10 102 RX10 yX10_answerTrouble vfX10_answerTrouble) := goodIn_app (goodIn_r [.methodLink RX10 102 yX10_answerTrouble, .instanceMethod yX10_answerTrouble, .selects RX10 yX10_answerTrouble yX10_answerTrouble, .initialized RX10] [1, 2, 3, 4] rfl (by decide +kernel)) (goodIn_m (fun _ h => (List.mem_cons_of_mem _ (List.mem_append_right _ (List.mem_append_right _ (List.mem_append_right _ (List.mem_append_left _ h)))))) qfX10_answerTrouble)
theorem gfX10_landedIn_1 : GoodIn vfX10_landedIn (wsV RX10 79 RX10 yX10_refused vfX10_refused) := goodIn_app (goodIn_r [.methodLink RX10 79 yX10_refused, .instanceMethod yX10_refused, .selects RX10 yX10_refused yX10_refused, .initialized RX10] [5, 6, 7, 4] rfl (by decide +kernel)) (goodIn_m (fun _ h => (List.mem_cons_of_mem _ (List.mem_append_right _ (List.mem_append_right _ (List.mem_append_right _ (List.mem_append_right _ (List.mem_append_left _ h))))))) qfX10_refused)
theorem gfX10_landedIn_2 : GoodIn vfX10_landedIn (wsV RX10 324 RX1 yX1_forecast vfX1_forecast) := goodIn_app (goodIn_r [.methodLink RX10 324 yX1_forecast, .instanceMethod yX1_forecast, .selects RX1 yX1_forecast yX1_forecast, .initialized RX1] [11, 12, 13, 14] rfl (by decide +kernel)) (goodIn_m (fun _ h => (List.mem_cons_of_mem _ (List.mem_append_right _ (List.mem_append_right _ (List.mem_append_right _ (List.mem_append_right _ (List.mem_append_right _ (List.mem_append_left _ h)))))))) qfX1_forecast)
theorem gfX10_landedIn_3 : GoodIn vfX10_landedIn (va_wsS RX10 321 yX10_isForecast vfX10_isForecast) := goodIn_app (goodIn_r [.methodLink RX10 321 yX10_isForecast, .static yX10_isForecast, .initialized RX10] [16, 17, 4] rfl (by decide +kernel)) (goodIn_m (fun _ h => (List.mem_cons_of_mem _ (List.mem_append_right _ (List.mem_append_right _ (List.mem_append_right _ (List.mem_append_right _ (List.mem_append_right _ (List.mem_append_right _ (List.mem_append_left _ h))))))))) qfX10_isForecast)
theorem gfX10_landedIn_4 : GoodIn vfX10_landedIn (wsV RX10 169 RX10 yX10_numberTrouble vfX10_numberTrouble) := goodIn_app (goodIn_r [.methodLink RX10 169 yX10_numberTrouble, .instanceMethod yX10_numberTrouble, .selects RX10 yX10_numberTrouble yX10_numberTrouble, .initialized RX10] [18, 19, 20, 4] rfl (by decide +kernel)) (goodIn_m (fun _ h => (List.mem_cons_of_mem _ (List.mem_append_right _ (List.mem_append_right _ (List.mem_append_right _ (List.mem_append_right _ (List.mem_append_right _ (List.mem_append_right _ (List.mem_append_right _ h))))))))) qfX10_numberTrouble)
set_option maxHeartbeats 2000000 in
set_option maxRecDepth 100000 in
theorem kfX10_landedIn (l : Launch) (dC : Nat → ClassId) (dI : Nat → Nat → Nat) (a0 : Nat) (k1 : Int32) (k2 : Int32) (k3 : Int32) (a4 : Nat) (a5 : Nat) (a6 : Nat) (a7 : Nat) (a8 : Nat) (up : Nat → Nat) (kp : Nat → ClassId) (un : Nat → Nat) (kn : Nat → ClassId) (un2 : Nat → Nat) (kn2 : Nat → ClassId) (x_x : TX10_x) (g16 : Value) (g17 : Value) (g18 : Value) (g19 : Value) (g20 : Value) (p_p : TX6_p) (n_n : TX4_n) (y_y : TX1_y) (n2_n : TX4_n) (cB25 : ClassId) (sz : Nat) (out : (Int32 × TX10_x × TX1_y × TX4_n)) (h : f_X10_landedIn k1 k2 k3 x_x p_p n_n y_y n2_n = some out) : KCi l yX10_landedIn vfX10_landedIn ({ frames := 6, cells := 0, slots := 0, locals := 143 }) (dC, dI) [.ref a0, .int k1, .int k2, .int k3] sz ((a0, .inr (7, [.ref a4, g16, g17, .ref a5, g18, g19, g20, .ref a6, .int x_x.1, .int x_x.2])) :: bX6 a4 up kp p_p (bX4 a5 un kn n_n ((a6, .inr (1, [.ref a7, .int y_y.1, .int y_y.2.1, .ref a8])) :: bX4 a7 un2 kn2 n2_n ([(a8, .inl (cB25, 6, .inl y_y.2.2))])))) (tX6 kp (tX4 kn (tX4 kn2 ((cB25, .int) :: [])))) (fun (r : Int32) _ => r = out.1) ((a0, .inr (7, [.ref a4, g16, g17, .ref a5, g18, g19, g20, .ref a6, .int out.2.1.1, .int out.2.1.2])) :: bX6 a4 up kp p_p (bX4 a5 un kn n_n ((a6, .inr (1, [.ref a7, .int out.2.2.1.1, .int out.2.2.1.2.1, .ref a8])) :: bX4 a7 un2 kn2 out.2.2.2 ([(a8, .inl (cB25, 6, .inl out.2.2.1.2.2))])))) 0 0 := by
  refine Met.ofW (cc := cX10_landedIn) (maxL := 5) (ret := (some .int)) (by decide) rfl ?_
  intro p e s m args below meth c s₁ B0 hml hv
  obtain ⟨rfl, hsz, hP, hK, hD0, hN⟩ := hv
  have hx := B0.exec
  have hb := B0.bytes
  have hr := B0.returns
  have hts := atoms_spec (ws := vfX10_landedIn) B0.pre
  have hown : s.vm.findClass RX10 = some m.cls := findClass_of_methodNamed B0.named
  have hlocks := B0.notSynchronized
  subst hsz
  have hD := hD0.self (sz := s.heap.size)
  generalize hAe : va_A ((a0, .inr (7, [.ref a4, g16, g17, .ref a5, g18, g19, g20, .ref a6, .int x_x.1, .int x_x.2])) :: bX6 a4 up kp p_p (bX4 a5 un kn n_n ((a6, .inr (1, [.ref a7, .int y_y.1, .int y_y.2.1, .ref a8])) :: bX4 a7 un2 kn2 n2_n ([(a8, .inl (cB25, 6, .inl y_y.2.2))])))) s.heap.size = A at hD ⊢
  have hA : ∀ q : Nat, s.heap.size ≤ q → A q := fun q h => by rw [← hAe]; exact Or.inr h
  have hS : va_S A s.heap s.heap [] := va_S.rf
  have hP : va_P (dC, dI) vwCl ((a0, .inr (7, [.ref a4, g16, g17, .ref a5, g18, g19, g20, .ref a6, .int x_x.1, .int x_x.2])) :: bX6 a4 up kp p_p (bX4 a5 un kn n_n ((a6, .inr (1, [.ref a7, .int y_y.1, .int y_y.2.1, .ref a8])) :: bX4 a7 un2 kn2 n2_n ([(a8, .inl (cB25, 6, .inl y_y.2.2))])))) s.heap := hP
  have hl := lv_entry ([.ref a0, .int k1, .int k2, .int k3]) (n := 5) (Nat.le_of_ble_eq_true rfl)
  rw [lg_entry_eq]
  generalize (lg_sl ([.ref a0, .int k1, .int k2, .int k3]) ++ List.replicate (5 - (lg_sl ([.ref a0, .int k1, .int k2, .int k3])).length) Slot.unset).toArray = ls at hl ⊢
  have hl : lv_has ls 5 [(0, .ref a0), (1, .int k1), (2, .int k2), (3, .int k3)] := hl
  refine W_q (fun QQ hQQ => ?_)
  rw [f_X10_landedIn] at h
  refine lv_aload_n hx hb (zat zrX10_landedIn_0_ok 0 rfl) rfl (lv_at hl 0 rfl) ?_
  refine lv_iload_n hx hb (zat zrX10_landedIn_0_ok 1 rfl) rfl (lv_at hl 1 rfl) ?_
  obtain ⟨o2, eo2⟩ : ∃ o, o = f_X10_answerTrouble k1 p_p := ⟨_, rfl⟩
  have h := nm_of h o2 eo2
  refine ck_i (wc := ((a0, .inr (7, [.ref a4, g16, g17, .ref a5, g18, g19, g20, .ref a6, .int x_x.1, .int x_x.2])) :: bX6 a4 up kp p_p [])) (wr := (bX4 a5 un kn n_n ((a6, .inr (1, [.ref a7, .int y_y.1, .int y_y.2.1, .ref a8])) :: bX4 a7 un2 kn2 n2_n ([(a8, .inl (cB25, 6, .inl y_y.2.2))])))) hP hD hK hS hA [0, 1, 2, 3, 4, 5, 6, 7, 8, 9, 10] [11, 12, 13, 14, 15, 16, 17, 18, 19, 20, 21, 22] rfl rfl (by decide) (by decide) (by decide) (fun hPc hDc => (va_runV (As := [.int k1]) (rest := []) ⟨hx, hb, hml, hown, hts⟩ (kfX10_answerTrouble l dC dI a0 k1 a4 up kp (g16) (g17) (.ref a5) (g18) (g19) (g20) (.ref a6) (.int x_x.1) (.int x_x.2) p_p s.heap.size o2 eo2.symm) (cwV 1 hts gfX10_landedIn_0 rfl rfl rfl (by decide +kernel) ⟨(Nat.le_of_ble_eq_true rfl), (Nat.le_of_ble_eq_true rfl)⟩) (PV hPc (hK.sub (tys' := (tX6 kp ([]))) [0, 1, 2, 3, 4, 5, 6, 7, 8] rfl) hDc hN 0 rfl rfl) rfl rfl hl.1 rfl (lv_room (Nat.le_of_ble_eq_true rfl)) (zat zrX10_landedIn_0_ok 2 rfl) ⟨(Nat.le_of_ble_eq_true rfl), (Nat.le_of_ble_eq_true rfl)⟩)) (fun r2 _ H locs hw hP hD _ hS => ?_)
  obtain rfl := hw.symm
  obtain ⟨hP, hD⟩ := pd_mk (bX4 a5 un kn n_n ((a6, .inr (1, [.ref a7, .int y_y.1, .int y_y.2.1, .ref a8])) :: bX4 a7 un2 kn2 n2_n ((a8, .inl (cB25, 6, .inl y_y.2.2)) :: (a0, .inr (7, [.ref a4, g16, g17, .ref a5, g18, g19, g20, .ref a6, .int x_x.1, .int x_x.2])) :: bX6 a4 up kp p_p []))) hP hD
  refine lv_istore (lv' := [(4, .int o2), (0, .ref a0), (1, .int k1), (2, .int k2), (3, .int k3)]) hx hb (zat zrX10_landedIn_0_ok 3 rfl) hl (by decide) rfl (fun ls hl => ?_)
  refine lv_aload_n hx hb (zat zrX10_landedIn_0_ok 4 rfl) rfl (lv_at hl 1 rfl) ?_
  refine lv_iload hx hb (zat zrX10_landedIn_0_ok 5 rfl) (lv_at hl 0 rfl) ?_
  have J27 : ∀ (v27_t1 : Int32) (H : Heap) (locs : List Loc) (ls : Array Slot), f_X10_landedIn_J27 k1 k2 k3 x_x p_p n_n y_y n2_n v27_t1 = some out → va_P (dC, dI) vwCl (bX4 a5 un kn n_n ((a6, .inr (1, [.ref a7, .int y_y.1, .int y_y.2.1, .ref a8])) :: bX4 a7 un2 kn2 n2_n ((a8, .inl (cB25, 6, .inl y_y.2.2)) :: (a0, .inr (7, [.ref a4, g16, g17, .ref a5, g18, g19, g20, .ref a6, .int x_x.1, .int x_x.2])) :: bX6 a4 up kp p_p []))) H → va_D A (bX4 a5 un kn n_n ((a6, .inr (1, [.ref a7, .int y_y.1, .int y_y.2.1, .ref a8])) :: bX4 a7 un2 kn2 n2_n ((a8, .inl (cB25, 6, .inl y_y.2.2)) :: (a0, .inr (7, [.ref a4, g16, g17, .ref a5, g18, g19, g20, .ref a6, .int x_x.1, .int x_x.2])) :: bX6 a4 up kp p_p []))) → va_S A s.heap H locs → lv_has ls 5 [(0, .ref a0), (1, .int k1), (2, .int k2), (3, .int k3)] → W p l e (headSpec vfX10_landedIn { frames := 6, cells := 0, slots := 0, locals := 143 }).room s m ([.ref a0, .int k1, .int k2, .int k3]).toArray below meth c H locs 0 0 QQ (F0 m 27 ls [.int v27_t1, .ref a0]) := by
    intro v27_t1 H locs ls h  hP hD hS hl
    rw [f_X10_landedIn_J27] at h
    obtain ⟨o27, eo27⟩ : ∃ o, o = f_X10_refused v27_t1 x_x := ⟨_, rfl⟩
    have h := nm_of h o27 eo27
    refine ck_i (wc := ([(a0, .inr (7, [.ref a4, g16, g17, .ref a5, g18, g19, g20, .ref a6, .int x_x.1, .int x_x.2]))])) (wr := (bX4 a5 un kn n_n ((a6, .inr (1, [.ref a7, .int y_y.1, .int y_y.2.1, .ref a8])) :: bX4 a7 un2 kn2 n2_n ((a8, .inl (cB25, 6, .inl y_y.2.2)) :: bX6 a4 up kp p_p [])))) hP hD hK hS hA [12] [0, 1, 2, 3, 4, 5, 6, 7, 8, 9, 10, 11, 13, 14, 15, 16, 17, 18, 19, 20, 21, 22] rfl rfl (by decide) (by decide) (by decide) (fun hPc hDc => (va_runV (As := [.int v27_t1]) (rest := []) ⟨hx, hb, hml, hown, hts⟩ (kfX10_refused l dC dI a0 v27_t1 x_x (.ref a4) (g16) (g17) (.ref a5) (g18) (g19) (g20) (.ref a6) H.size o27 eo27.symm) (cwV 1 hts gfX10_landedIn_1 rfl rfl rfl (by decide +kernel) ⟨(Nat.le_of_ble_eq_true rfl), (Nat.le_of_ble_eq_true rfl)⟩) (PV hPc (hK.sub (tys' := ([])) [] rfl) hDc hN 0 rfl rfl) rfl rfl hl.1 rfl (lv_room (Nat.le_of_ble_eq_true rfl)) (zat zrX10_landedIn_0_ok 14 rfl) ⟨(Nat.le_of_ble_eq_true rfl), (Nat.le_of_ble_eq_true rfl)⟩)) (fun r27 _ H locs hw hP hD _ hS => ?_)
    obtain ⟨hw, br27⟩ := hw
    obtain rfl := hw
    obtain ⟨hP, hD⟩ := pd_mk (bX4 a5 un kn n_n ((a6, .inr (1, [.ref a7, .int y_y.1, .int y_y.2.1, .ref a8])) :: bX4 a7 un2 kn2 n2_n ((a8, .inl (cB25, 6, .inl y_y.2.2)) :: bX6 a4 up kp p_p ([(a0, .inr (7, [.ref a4, g16, g17, .ref a5, g18, g19, g20, .ref a6, .int o27.2.1, .int o27.2.2]))])))) hP hD
    refine lv_if_eq (tgt := 35) hx hb (zat zrX10_landedIn_0_ok 15 rfl) (by decide) (fun c30 => ?_) (fun c30 => ?_)
    · have h := (if_pos c30).symm.trans h
      refine lv_aload_n hx hb (zat zrX10_landedIn_0_ok 18 rfl) rfl (lv_at hl 0 rfl) ?_
      refine va_get (D := (dC, dI)) (ci := 7) (v := .ref a6) (C := RX10) (T := TX10) (N := 10) hx hb hts ifX10_landedIn_X10 hown hK hP 22 rfl rfl 7 (by decide) (hts (.fieldLink RX10 57 "HookPier" "days" "LHookPier$Days;") (List.mem_of_getElem? (i := 8) rfl)) (fun _ h9 => h9) rfl (zat zrX10_landedIn_0_ok 19 rfl) ?_
      refine lv_aload_n hx hb (zat zrX10_landedIn_0_ok 20 rfl) rfl (lv_at hl 0 rfl) ?_
      refine va_get (D := (dC, dI)) (ci := 7) (v := .ref a4) (C := RX10) (T := TX10) (N := 10) hx hb hts ifX10_landedIn_X10 hown hK hP 22 rfl rfl 0 (by decide) (hts (.fieldLink RX10 10 "HookPier" "plan" "LHookPier$Plan;") (List.mem_of_getElem? (i := 9) rfl)) (fun _ h9 => h9) rfl (zat zrX10_landedIn_0_ok 21 rfl) ?_
      refine lv_aload_n hx hb (zat zrX10_landedIn_0_ok 22 rfl) rfl (lv_at hl 0 rfl) ?_
      refine va_get (D := (dC, dI)) (ci := 7) (v := .ref a5) (C := RX10) (T := TX10) (N := 10) hx hb hts ifX10_landedIn_X10 hown hK hP 22 rfl rfl 3 (by decide) (hts (.fieldLink RX10 29 "HookPier" "now" "LHookPier$Now;") (List.mem_of_getElem? (i := 10) rfl)) (fun _ h9 => h9) rfl (zat zrX10_landedIn_0_ok 23 rfl) ?_
      refine lv_iload_n hx hb (zat zrX10_landedIn_0_ok 24 rfl) rfl (lv_at hl 2 rfl) ?_
      refine lv_iload_n hx hb (zat zrX10_landedIn_0_ok 25 rfl) rfl (lv_at hl 3 rfl) ?_
      obtain ⟨o49, eo49, h⟩ := bd_of h
      refine ck_v (wc := ((a6, .inr (1, [.ref a7, .int y_y.1, .int y_y.2.1, .ref a8])) :: bX6 a4 up kp p_p (bX4 a5 un kn n_n (bX4 a7 un2 kn2 n2_n ([(a8, .inl (cB25, 6, .inl y_y.2.2))]))))) (wr := ([(a0, .inr (7, [.ref a4, g16, g17, .ref a5, g18, g19, g20, .ref a6, .int o27.2.1, .int o27.2.2]))])) hP hD hK hS hA [5, 12, 13, 14, 15, 16, 17, 18, 19, 20, 21, 0, 1, 2, 3, 4, 6, 7, 8, 9, 10, 11] [22] rfl rfl (by decide) (by decide) (by decide) (fun hPc hDc => (va_runV (As := [.ref a4, .ref a5, .int k2, .int k3]) (rest := []) ⟨hx, hb, hml, hown, hts⟩ (kfX1_forecast l dC dI a6 a4 a5 k2 k3 a7 a8 up kp un kn un2 kn2 y_y p_p n_n n2_n cB25 H.size o49 eo49) (cwV 4 hts gfX10_landedIn_2 rfl rfl rfl (by decide +kernel) ⟨(Nat.le_of_ble_eq_true rfl), (Nat.le_of_ble_eq_true rfl)⟩) (PV hPc (hK.sub (tys' := (tX6 kp (tX4 kn (tX4 kn2 ((cB25, .int) :: []))))) [0, 1, 2, 3, 4, 5, 6, 7, 8, 9, 10, 11, 12, 13, 14, 15, 16, 17] rfl) hDc hN 0 rfl rfl) rfl rfl hl.1 rfl (lv_room (Nat.le_of_ble_eq_true rfl)) (zat zrX10_landedIn_0_ok 26 rfl) ⟨(Nat.le_of_ble_eq_true rfl), (Nat.le_of_ble_eq_true rfl)⟩)) (fun _ H locs hw hP hD _ hS => ?_)
      obtain ⟨hP, hD⟩ := pd_mk ((a0, .inr (7, [.ref a4, g16, g17, .ref a5, g18, g19, g20, .ref a6, .int o27.2.1, .int o27.2.2])) :: (a6, .inr (1, [.ref a7, .int o49.1.1, .int o49.1.2.1, .ref a8])) :: bX6 a4 up kp p_p (bX4 a5 un kn n_n (bX4 a7 un2 kn2 o49.2 ([(a8, .inl (cB25, 6, .inl o49.1.2.2))])))) hP hD
      refine lv_aload_n hx hb (zat zrX10_landedIn_0_ok 27 rfl) rfl (lv_at hl 0 rfl) ?_
      refine va_get (D := (dC, dI)) (ci := 7) (v := .ref a6) (C := RX10) (T := TX10) (N := 10) hx hb hts ifX10_landedIn_X10 hown hK hP 0 rfl rfl 7 (by decide) (hts (.fieldLink RX10 57 "HookPier" "days" "LHookPier$Days;") (List.mem_of_getElem? (i := 8) rfl)) (fun _ h9 => h9) rfl (zat zrX10_landedIn_0_ok 28 rfl) ?_
      refine va_get (D := (dC, dI)) (ci := 1) (v := .ref a8) (C := RX1) (T := TX1) (N := 4) hx hb hts ifX10_landedIn_X1 hown hK hP 1 rfl rfl 3 (by decide) (hts (.fieldLink RX10 331 "HookPier$Days" "landedInDay" "[I") (List.mem_of_getElem? (i := 15) rfl)) (fun _ h9 => h9) rfl (zat zrX10_landedIn_0_ok 29 rfl) ?_
      refine lv_iload_n hx hb (zat zrX10_landedIn_0_ok 30 rfl) rfl (lv_at hl 1 rfl) ?_
      obtain ⟨hg60, h⟩ := gA_of h
      refine va_iald hx hb hK hP 22 17 rfl rfl hg60 (zat zrX10_landedIn_0_ok 31 rfl) ?_
      obtain rfl := Option.some.inj h
      obtain ⟨hP9, hD9⟩ := pd_sub ((a0, .inr (7, [.ref a4, g16, g17, .ref a5, g18, g19, g20, .ref a6, .int o27.2.1, .int o27.2.2])) :: bX6 a4 up kp p_p (bX4 a5 un kn n_n ((a6, .inr (1, [.ref a7, .int o49.1.1, .int o49.1.2.1, .ref a8])) :: bX4 a7 un2 kn2 o49.2 ([(a8, .inl (cB25, 6, .inl o49.1.2.2))])))) [0, 2, 3, 4, 5, 6, 7, 8, 9, 10, 11, 12, 13, 14, 15, 16, 1, 17, 18, 19, 20, 21, 22] hP hD (by decide) rfl
      have hK9 := hK.sub (tys' := []) [] rfl
      rw [hQQ]
      exact W.iret (v := (o49.1.2.2 (k1).toNatClampNeg)) hx hb hr (fun t ht hW => ⟨⟨(o49.1.2.2 (k1).toNatClampNeg), (), rfl, rfl, by rw [ht]; exact hP9, va_K.moved hW.alike hK9, hD9⟩, hS.F ht⟩) hS.2.2 (zat zrX10_landedIn_0_ok 32 rfl)
    · have h := (if_neg c30).symm.trans h
      refine lv_iconst (v := (-1)) hx hb (zat zrX10_landedIn_0_ok 16 rfl) (by decide) ?_
      obtain rfl := Option.some.inj h
      obtain ⟨hP9, hD9⟩ := pd_sub ((a0, .inr (7, [.ref a4, g16, g17, .ref a5, g18, g19, g20, .ref a6, .int o27.2.1, .int o27.2.2])) :: bX6 a4 up kp p_p (bX4 a5 un kn n_n ((a6, .inr (1, [.ref a7, .int y_y.1, .int y_y.2.1, .ref a8])) :: bX4 a7 un2 kn2 n2_n ([(a8, .inl (cB25, 6, .inl y_y.2.2))])))) [22, 12, 13, 14, 15, 16, 17, 18, 19, 20, 21, 0, 1, 2, 3, 4, 5, 6, 7, 8, 9, 10, 11] hP hD (by decide) rfl
      have hK9 := hK.sub (tys' := []) [] rfl
      rw [hQQ]
      exact W.iret (v := (-1 : Int32)) hx hb hr (fun t ht hW => ⟨⟨(-1 : Int32), (), rfl, rfl, by rw [ht]; exact hP9, va_K.moved hW.alike hK9, hD9⟩, hS.F ht⟩) hS.2.2 (zat zrX10_landedIn_0_ok 17 rfl)
  refine lv_if_ne (tgt := 25) hx hb (zat zrX10_landedIn_0_ok 6 rfl) (by decide) (fun c10 => ?_) (fun c10 => ?_)
  · have h := (if_neg c10).symm.trans h
    refine lv_iload hx hb (zat zrX10_landedIn_0_ok 13 rfl) (lv_at hl 0 rfl) ?_
    exact J27 o2 H _ ls h  hP hD hS (lv_sub hl [1, 2, 3, 4] rfl)
  · have h := (if_pos c10).symm.trans h
    refine lv_aload_n hx hb (zat zrX10_landedIn_0_ok 7 rfl) rfl (lv_at hl 1 rfl) ?_
    refine lv_iload_n hx hb (zat zrX10_landedIn_0_ok 8 rfl) rfl (lv_at hl 3 rfl) ?_
    refine lv_iload_n hx hb (zat zrX10_landedIn_0_ok 9 rfl) rfl (lv_at hl 4 rfl) ?_
    obtain ⟨o16, eo16⟩ : ∃ o, o = f_X10_isForecast k2 k3 := ⟨_, rfl⟩
    have h := nm_of h o16 eo16
    refine ck_i (wc := []) (wr := (bX4 a5 un kn n_n ((a6, .inr (1, [.ref a7, .int y_y.1, .int y_y.2.1, .ref a8])) :: bX4 a7 un2 kn2 n2_n ((a8, .inl (cB25, 6, .inl y_y.2.2)) :: (a0, .inr (7, [.ref a4, g16, g17, .ref a5, g18, g19, g20, .ref a6, .int x_x.1, .int x_x.2])) :: bX6 a4 up kp p_p [])))) hP hD hK hS hA [] [0, 1, 2, 3, 4, 5, 6, 7, 8, 9, 10, 11, 12, 13, 14, 15, 16, 17, 18, 19, 20, 21, 22] rfl rfl (by decide) (by decide) (by decide) (fun hPc hDc => (va_runS (As := [.int k2, .int k3]) (rest := [.ref a0, .ref a0]) ⟨hx, hb, hml, hown, hts⟩ (kfX10_isForecast l dC dI k2 k3 H.size o16 eo16.symm) (va_cwS 2 hts gfX10_landedIn_3 rfl rfl rfl (by decide +kernel) ⟨(Nat.le_of_ble_eq_true rfl), (Nat.le_of_ble_eq_true rfl)⟩) (PS hPc (hK.sub (tys' := ([])) [] rfl) hDc hN) rfl rfl hl.1 rfl (lv_room (Nat.le_of_ble_eq_true rfl)) (zat zrX10_landedIn_0_ok 10 rfl) ⟨(Nat.le_of_ble_eq_true rfl), (Nat.le_of_ble_eq_true rfl)⟩)) (fun r16 _ H locs hw hP hD _ hS => ?_)
    obtain ⟨hw, br16⟩ := hw
    obtain rfl := hw.symm
    obtain ⟨hP, hD⟩ := pd_mk (bX4 a5 un kn n_n ((a6, .inr (1, [.ref a7, .int y_y.1, .int y_y.2.1, .ref a8])) :: bX4 a7 un2 kn2 n2_n ((a8, .inl (cB25, 6, .inl y_y.2.2)) :: (a0, .inr (7, [.ref a4, g16, g17, .ref a5, g18, g19, g20, .ref a6, .int x_x.1, .int x_x.2])) :: bX6 a4 up kp p_p []))) hP hD
    obtain ⟨o19, eo19⟩ : ∃ o, o = f_X10_numberTrouble o16 p_p := ⟨_, rfl⟩
    have h := nm_of h o19 eo19
    refine ck_i (wc := ((a0, .inr (7, [.ref a4, g16, g17, .ref a5, g18, g19, g20, .ref a6, .int x_x.1, .int x_x.2])) :: bX6 a4 up kp p_p [])) (wr := (bX4 a5 un kn n_n ((a6, .inr (1, [.ref a7, .int y_y.1, .int y_y.2.1, .ref a8])) :: bX4 a7 un2 kn2 n2_n ([(a8, .inl (cB25, 6, .inl y_y.2.2))])))) hP hD hK hS hA [12, 13, 14, 15, 16, 17, 18, 19, 20, 21, 22] [0, 1, 2, 3, 4, 5, 6, 7, 8, 9, 10, 11] rfl rfl (by decide) (by decide) (by decide) (fun hPc hDc => (va_runV (As := [.int o16]) (rest := [.ref a0]) ⟨hx, hb, hml, hown, hts⟩ (kfX10_numberTrouble l dC dI a0 o16 a4 up kp (g16) (g17) (.ref a5) (g18) (g19) (g20) (.ref a6) (.int x_x.1) (.int x_x.2) p_p H.size o19 eo19.symm) (cwV 1 hts gfX10_landedIn_4 rfl rfl rfl (by decide +kernel) ⟨(Nat.le_of_ble_eq_true rfl), (Nat.le_of_ble_eq_true rfl)⟩) (PV hPc (hK.sub (tys' := (tX6 kp ([]))) [0, 1, 2, 3, 4, 5, 6, 7, 8] rfl) hDc hN 0 rfl rfl) rfl rfl hl.1 rfl (lv_room (Nat.le_of_ble_eq_true rfl)) (zat zrX10_landedIn_0_ok 11 rfl) ⟨(Nat.le_of_ble_eq_true rfl), (Nat.le_of_ble_eq_true rfl)⟩)) (fun r19 _ H locs hw hP hD _ hS => ?_)
    obtain rfl := hw.symm
    obtain ⟨hP, hD⟩ := pd_mk (bX4 a5 un kn n_n ((a6, .inr (1, [.ref a7, .int y_y.1, .int y_y.2.1, .ref a8])) :: bX4 a7 un2 kn2 n2_n ((a8, .inl (cB25, 6, .inl y_y.2.2)) :: (a0, .inr (7, [.ref a4, g16, g17, .ref a5, g18, g19, g20, .ref a6, .int x_x.1, .int x_x.2])) :: bX6 a4 up kp p_p []))) hP hD
    refine lv_goto (tgt := 27) hx hb (zat zrX10_landedIn_0_ok 12 rfl) (by decide) ?_
    exact J27 o19 H _ ls h  hP hD hS (lv_sub hl [1, 2, 3, 4] rfl)
