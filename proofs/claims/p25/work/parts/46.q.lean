noncomputable def zrX10_freeSpots_0 : List ZR := zc 0 true (.aload_n 0) 1 (zc 1 true (.aload_n 0) 1 (zc 2 true (.iload_n 1) 1 (zc 3 true (.invokevirtual 143) 3 (zc 6 true (.invokevirtual 79) 3 (zc 9 true (.ifCond .eq 5) 3 (zc 12 true (.iconst (-1)) 1 (zc 13 true (.ireturn) 1 (zc 14 true (.iconst 0) 1 (zc 15 true (.istore_n 2) 1 (zc 16 true (.iconst 0) 1 (zc 17 true (.istore_n 3) 1 (zc 18 true (.iload_n 3) 1 (zc 19 true (.aload_n 0) 1 (zc 20 true (.getfield 10) 3 (zc 23 true (.getfield 233) 3 (zc 26 true (.if_icmp .ge 31) 3 (zc 29 true (.aload_n 0) 1 (zc 30 true (.getfield 29) 3 (zc 33 true (.aload_n 0) 1 (zc 34 true (.getfield 10) 3 (zc 37 true (.iload_n 1) 1 (zc 38 true (.iload_n 3) 1 (zc 39 true (.invokevirtual 165) 3 (zc 42 true (.ifCond .ne 9) 3 (zc 45 true (.iload_n 2) 1 (zc 46 true (.iconst 1) 1 (zc 47 true (.iload_n 3) 1 (zc 48 true (.ishl) 1 (zc 49 true (.ior) 1 (zc 50 true (.istore_n 2) 1 (zc 51 true (.iinc 3 1) 3 (zc 54 true (.goto (-36)) 3 (zc 57 true (.iload_n 2) 1 (zc 58 true (.ireturn) 1 ([])))))))))))))))))))))))))))))))))))
theorem zrX10_freeSpots_0_ok : zck 0 ((zby cX10_freeSpots).drop 0) zrX10_freeSpots_0 = true := by decide +kernel
def vfX10_freeSpots : List Cond := List.cons (.code yX10_freeSpots cX10_freeSpots 4 (some .int)) (apW [.methodLink RX10 143 yX10_askerTrouble, .instanceMethod yX10_askerTrouble, .selects RX10 yX10_askerTrouble yX10_askerTrouble, .initialized RX10, .methodLink RX10 79 yX10_refused, .instanceMethod yX10_refused, .selects RX10 yX10_refused yX10_refused, .fieldLink RX10 10 "HookPier" "plan" "LHookPier$Plan;", .fieldLink RX10 233 "HookPier$Plan" "spots" "I", .fieldLink RX10 29 "HookPier" "now" "LHookPier$Now;", .methodLink RX10 165 yX4_isTangled, .instanceMethod yX4_isTangled, .selects RX4 yX4_isTangled yX4_isTangled, .initialized RX4] (apW wsX100 (apW wsX60 (apW vfX10_askerTrouble (apW vfX10_refused (vfX4_isTangled))))))
theorem ifX10_freeSpots_X10 : ∀ w ∈ wsX100, w ∈ vfX10_freeSpots := fun _ h => (List.mem_cons_of_mem _ (List.mem_append_right _ (List.mem_append_left _ h)))
theorem ifX10_freeSpots_X6 : ∀ w ∈ wsX60, w ∈ vfX10_freeSpots := fun _ h => (List.mem_cons_of_mem _ (List.mem_append_right _ (List.mem_append_right _ (List.mem_append_left _ h))))
theorem qfX10_freeSpots : Good vfX10_freeSpots := gd_cons (by decide +kernel) (gd_app (gd_dec (by decide +kernel) : Good [.methodLink RX10 143 yX10_askerTrouble, .instanceMethod yX10_askerTrouble, .selects RX10 yX10_askerTrouble yX10_askerTrouble, .initialized RX10, .methodLink RX10 79 yX10_refused, .instanceMethod yX10_refused, .selects RX10 yX10_refused yX10_refused, .fieldLink RX10 10 "HookPier" "plan" "LHookPier$Plan;", .fieldLink RX10 233 "HookPier$Plan" "spots" "I", .fieldLink RX10 29 "HookPier" "now" "LHookPier$Now;", .methodLink RX10 165 yX4_isTangled, .instanceMethod yX4_isTangled, .selects RX4 yX4_isTangled yX4_isTangled, .initialized RX4]) (gd_app qsX10 (gd_app qsX6 (gd_app qfX10_askerTrouble (gd_app qfX10_refused qfX4_isTangled)))))
theorem gfX10_freeSpots_0 : GoodIn vfX10_freeSpots (wsV RX10 143 RX10 yX10_askerTrouble vfX10_askerTrouble) := goodIn_app (goodIn_r [.methodLink RX10 143 yX10_askerTrouble, .instanceMethod yX10_askerTrouble, .selects RX10 yX10_askerTrouble yX10_askerTrouble, .initialized RX10] [1, 2, 3, 4] rfl (by decide +kernel)) (goodIn_m (fun _ h => (List.mem_cons_of_mem _ (List.mem_append_right _ (List.mem_append_right _ (List.mem_append_right _ (List.mem_append_left _ h)))))) qfX10_askerTrouble)
theorem gfX10_freeSpots_1 : GoodIn vfX10_freeSpots (wsV RX10 79 RX10 yX10_refused vfX10_refused) := goodIn_app (goodIn_r [.methodLink RX10 79 yX10_refused, .instanceMethod yX10_refused, .selects RX10 yX10_refused yX10_refused, .initialized RX10] [5, 6, 7, 4] rfl (by decide +kernel)) (goodIn_m (fun _ h => (List.mem_cons_of_mem _ (List.mem_append_right _ (List.mem_append_right _ (List.mem_append_right _ (List.mem_append_right _ (List.mem_append_left _ h))))))) qfX10_refused)
theorem gfX10_freeSpots_2 : GoodIn vfX10_freeSpots (wsV RX10 165 RX4 yX4_isTangled vfX4_isTangled) := goodIn_app (goodIn_r [.methodLink RX10 165 yX4_isTangled, .instanceMethod yX4_isTangled, .selects RX4 yX4_isTangled yX4_isTangled, .initialized RX4] [11, 12, 13, 14] rfl (by decide +kernel)) (goodIn_m (fun _ h => (List.mem_cons_of_mem _ (List.mem_append_right _ (List.mem_append_right _ (List.mem_append_right _ (List.mem_append_right _ (List.mem_append_right _ h))))))) qfX4_isTangled)
set_option maxHeartbeats 2000000 in
set_option maxRecDepth 100000 in
theorem kfX10_freeSpots (l : Launch) (dC : Nat → ClassId) (dI : Nat → Nat → Nat) (a0 : Nat) (k1 : Int32) (a2 : Nat) (a3 : Nat) (up : Nat → Nat) (kp : Nat → ClassId) (un : Nat → Nat) (kn : Nat → ClassId) (x_x : TX10_x) (g9 : Value) (g10 : Value) (g11 : Value) (g12 : Value) (g13 : Value) (g14 : Value) (p_p : TX6_p) (n_n : TX4_n) (sz : Nat) (out : (Int32 × TX10_x)) (h : f_X10_freeSpots k1 x_x p_p n_n = some out) : KCi l yX10_freeSpots vfX10_freeSpots ({ frames := 3, cells := 0, slots := 0, locals := 69 }) (dC, dI) [.ref a0, .int k1] sz ((a0, .inr (7, [.ref a2, g9, g10, .ref a3, g11, g12, g13, g14, .int x_x.1, .int x_x.2])) :: bX6 a2 up kp p_p (bX4 a3 un kn n_n [])) (tX6 kp (tX4 kn ([]))) (fun (r : Int32) _ => r = out.1) ((a0, .inr (7, [.ref a2, g9, g10, .ref a3, g11, g12, g13, g14, .int out.2.1, .int out.2.2])) :: bX6 a2 up kp p_p (bX4 a3 un kn n_n [])) 0 0 := by
  refine Met.ofW (cc := cX10_freeSpots) (maxL := 4) (ret := (some .int)) (by decide) rfl ?_
  intro p e s m args below meth c s₁ B0 hml hv
  obtain ⟨rfl, hsz, hP, hK, hD0, hN⟩ := hv
  have hx := B0.exec
  have hb := B0.bytes
  have hr := B0.returns
  have hts := atoms_spec (ws := vfX10_freeSpots) B0.pre
  have hown : s.vm.findClass RX10 = some m.cls := findClass_of_methodNamed B0.named
  have hlocks := B0.notSynchronized
  subst hsz
  have hD := hD0.self (sz := s.heap.size)
  generalize hAe : va_A ((a0, .inr (7, [.ref a2, g9, g10, .ref a3, g11, g12, g13, g14, .int x_x.1, .int x_x.2])) :: bX6 a2 up kp p_p (bX4 a3 un kn n_n [])) s.heap.size = A at hD ⊢
  have hA : ∀ q : Nat, s.heap.size ≤ q → A q := fun q h => by rw [← hAe]; exact Or.inr h
  have hS : va_S A s.heap s.heap [] := va_S.rf
  have hP : va_P (dC, dI) vwCl ((a0, .inr (7, [.ref a2, g9, g10, .ref a3, g11, g12, g13, g14, .int x_x.1, .int x_x.2])) :: bX6 a2 up kp p_p (bX4 a3 un kn n_n [])) s.heap := hP
  have hl := lv_entry ([.ref a0, .int k1]) (n := 4) (Nat.le_of_ble_eq_true rfl)
  rw [lg_entry_eq]
  generalize (lg_sl ([.ref a0, .int k1]) ++ List.replicate (4 - (lg_sl ([.ref a0, .int k1])).length) Slot.unset).toArray = ls at hl ⊢
  have hl : lv_has ls 4 [(0, .ref a0), (1, .int k1)] := hl
  refine W_q (fun QQ hQQ => ?_)
  rw [f_X10_freeSpots] at h
  refine lv_aload_n hx hb (zat zrX10_freeSpots_0_ok 0 rfl) rfl (lv_at hl 0 rfl) ?_
  refine lv_aload_n hx hb (zat zrX10_freeSpots_0_ok 1 rfl) rfl (lv_at hl 0 rfl) ?_
  refine lv_iload_n hx hb (zat zrX10_freeSpots_0_ok 2 rfl) rfl (lv_at hl 1 rfl) ?_
  obtain ⟨o3, eo3⟩ : ∃ o, o = f_X10_askerTrouble k1 p_p := ⟨_, rfl⟩
  have h := nm_of h o3 eo3
  refine ck_i (wc := ((a0, .inr (7, [.ref a2, g9, g10, .ref a3, g11, g12, g13, g14, .int x_x.1, .int x_x.2])) :: bX6 a2 up kp p_p [])) (wr := (bX4 a3 un kn n_n [])) hP hD hK hS hA [0, 1, 2, 3, 4, 5, 6, 7, 8, 9, 10] [11, 12, 13, 14, 15] rfl rfl (by decide) (by decide) (by decide) (fun hPc hDc => (va_runV (As := [.int k1]) (rest := [.ref a0]) ⟨hx, hb, hml, hown, hts⟩ (kfX10_askerTrouble l dC dI a0 k1 a2 up kp (g9) (g10) (.ref a3) (g11) (g12) (g13) (g14) (.int x_x.1) (.int x_x.2) p_p s.heap.size o3 eo3.symm) (cwV 1 hts gfX10_freeSpots_0 rfl rfl rfl (by decide +kernel) ⟨(Nat.le_of_ble_eq_true rfl), (Nat.le_of_ble_eq_true rfl)⟩) (PV hPc (hK.sub (tys' := (tX6 kp ([]))) [0, 1, 2, 3, 4, 5, 6, 7, 8] rfl) hDc hN 0 rfl rfl) rfl rfl hl.1 rfl (lv_room (Nat.le_of_ble_eq_true rfl)) (zat zrX10_freeSpots_0_ok 3 rfl) ⟨(Nat.le_of_ble_eq_true rfl), (Nat.le_of_ble_eq_true rfl)⟩)) (fun r3 _ H locs hw hP hD _ hS => ?_)
  obtain rfl := hw.symm
  obtain ⟨hP, hD⟩ := pd_mk (bX4 a3 un kn n_n ((a0, .inr (7, [.ref a2, g9, g10, .ref a3, g11, g12, g13, g14, .int x_x.1, .int x_x.2])) :: bX6 a2 up kp p_p [])) hP hD
  obtain ⟨o6, eo6⟩ : ∃ o, o = f_X10_refused o3 x_x := ⟨_, rfl⟩
  have h := nm_of h o6 eo6
  refine ck_i (wc := ([(a0, .inr (7, [.ref a2, g9, g10, .ref a3, g11, g12, g13, g14, .int x_x.1, .int x_x.2]))])) (wr := (bX4 a3 un kn n_n (bX6 a2 up kp p_p []))) hP hD hK hS hA [5] [0, 1, 2, 3, 4, 6, 7, 8, 9, 10, 11, 12, 13, 14, 15] rfl rfl (by decide) (by decide) (by decide) (fun hPc hDc => (va_runV (As := [.int o3]) (rest := []) ⟨hx, hb, hml, hown, hts⟩ (kfX10_refused l dC dI a0 o3 x_x (.ref a2) (g9) (g10) (.ref a3) (g11) (g12) (g13) (g14) H.size o6 eo6.symm) (cwV 1 hts gfX10_freeSpots_1 rfl rfl rfl (by decide +kernel) ⟨(Nat.le_of_ble_eq_true rfl), (Nat.le_of_ble_eq_true rfl)⟩) (PV hPc (hK.sub (tys' := ([])) [] rfl) hDc hN 0 rfl rfl) rfl rfl hl.1 rfl (lv_room (Nat.le_of_ble_eq_true rfl)) (zat zrX10_freeSpots_0_ok 4 rfl) ⟨(Nat.le_of_ble_eq_true rfl), (Nat.le_of_ble_eq_true rfl)⟩)) (fun r6 _ H locs hw hP hD _ hS => ?_)
  obtain ⟨hw, br6⟩ := hw
  obtain rfl := hw
  obtain ⟨hP, hD⟩ := pd_mk (bX4 a3 un kn n_n (bX6 a2 up kp p_p ([(a0, .inr (7, [.ref a2, g9, g10, .ref a3, g11, g12, g13, g14, .int o6.2.1, .int o6.2.2]))]))) hP hD
  refine lv_if_eq (tgt := 14) hx hb (zat zrX10_freeSpots_0_ok 5 rfl) (by decide) (fun c9 => ?_) (fun c9 => ?_)
  · have h := (if_pos c9).symm.trans h
    refine lv_iconst (v := 0) hx hb (zat zrX10_freeSpots_0_ok 8 rfl) (by decide) ?_
    refine lv_istore_n (lv' := [(2, .int 0), (0, .ref a0), (1, .int k1)]) hx hb (zat zrX10_freeSpots_0_ok 9 rfl) rfl hl (by decide) rfl (fun ls hl => ?_)
    refine lv_iconst (v := 0) hx hb (zat zrX10_freeSpots_0_ok 10 rfl) (by decide) ?_
    refine lv_istore_n (lv' := [(3, .int 0), (2, .int 0), (0, .ref a0), (1, .int k1)]) hx hb (zat zrX10_freeSpots_0_ok 11 rfl) rfl hl (by decide) rfl (fun ls hl => ?_)
    have L18 : ∀ (n18 : Nat) (v18_l3 : Int32) (v18_l2 : Int32) (H : Heap) (locs : List Loc) (ls : Array Slot), f_X10_freeSpots_L18 k1 p_p n_n o6 n18 v18_l3 v18_l2 = some out → va_P (dC, dI) vwCl (bX4 a3 un kn n_n (bX6 a2 up kp p_p ([(a0, .inr (7, [.ref a2, g9, g10, .ref a3, g11, g12, g13, g14, .int o6.2.1, .int o6.2.2]))]))) H → va_D A (bX4 a3 un kn n_n (bX6 a2 up kp p_p ([(a0, .inr (7, [.ref a2, g9, g10, .ref a3, g11, g12, g13, g14, .int o6.2.1, .int o6.2.2]))]))) → va_S A s.heap H locs → lv_has ls 4 [(3, .int v18_l3), (2, .int v18_l2), (0, .ref a0), (1, .int k1)] → W p l e (headSpec vfX10_freeSpots { frames := 3, cells := 0, slots := 0, locals := 69 }).room s m ([.ref a0, .int k1]).toArray below meth c H locs 0 0 QQ (F0 m 18 ls []) := by
      intro n18
      induction n18 with
      | zero =>
        intro v18_l3 v18_l2 H locs ls h  _ _ _ _
        rw [f_X10_freeSpots_L18] at h
        cases h
      | succ n18 ih18 =>
        intro v18_l3 v18_l2 H locs ls h  hP hD hS hl
        rw [f_X10_freeSpots_L18] at h
        refine lv_iload_n hx hb (zat zrX10_freeSpots_0_ok 12 rfl) rfl (lv_at hl 0 rfl) ?_
        refine lv_aload_n hx hb (zat zrX10_freeSpots_0_ok 13 rfl) rfl (lv_at hl 2 rfl) ?_
        refine va_get (D := (dC, dI)) (ci := 7) (v := .ref a2) (C := RX10) (T := TX10) (N := 10) hx hb hts ifX10_freeSpots_X10 hown hK hP 15 rfl rfl 0 (by decide) (hts (.fieldLink RX10 10 "HookPier" "plan" "LHookPier$Plan;") (List.mem_of_getElem? (i := 8) rfl)) (fun _ h9 => h9) rfl (zat zrX10_freeSpots_0_ok 14 rfl) ?_
        refine va_get (D := (dC, dI)) (ci := 4) (v := .int p_p.1) (C := RX6) (T := TX6) (N := 18) hx hb hts ifX10_freeSpots_X6 hown hK hP 5 rfl rfl 0 (by decide) (hts (.fieldLink RX10 233 "HookPier$Plan" "spots" "I") (List.mem_of_getElem? (i := 9) rfl)) (fun _ h9 => h9) rfl (zat zrX10_freeSpots_0_ok 15 rfl) ?_
        refine lv_icmp_ge (tgt := 57) hx hb (zat zrX10_freeSpots_0_ok 16 rfl) (by decide) (fun c26 => ?_) (fun c26 => ?_)
        · have h := (if_pos c26).symm.trans h
          refine lv_iload_n hx hb (zat zrX10_freeSpots_0_ok 33 rfl) rfl (lv_at hl 1 rfl) ?_
          obtain rfl := Option.some.inj h
          obtain ⟨hP9, hD9⟩ := pd_sub ((a0, .inr (7, [.ref a2, g9, g10, .ref a3, g11, g12, g13, g14, .int o6.2.1, .int o6.2.2])) :: bX6 a2 up kp p_p (bX4 a3 un kn n_n [])) [15, 5, 6, 7, 8, 9, 10, 11, 12, 13, 14, 0, 1, 2, 3, 4] hP hD (by decide) rfl
          have hK9 := hK.sub (tys' := []) [] rfl
          rw [hQQ]
          exact W.iret (v := v18_l2) hx hb hr (fun t ht hW => ⟨⟨v18_l2, (), rfl, rfl, by rw [ht]; exact hP9, va_K.moved hW.alike hK9, hD9⟩, hS.F ht⟩) hS.2.2 (zat zrX10_freeSpots_0_ok 34 rfl)
        · have h := (if_neg c26).symm.trans h
          refine lv_aload_n hx hb (zat zrX10_freeSpots_0_ok 17 rfl) rfl (lv_at hl 2 rfl) ?_
          refine va_get (D := (dC, dI)) (ci := 7) (v := .ref a3) (C := RX10) (T := TX10) (N := 10) hx hb hts ifX10_freeSpots_X10 hown hK hP 15 rfl rfl 3 (by decide) (hts (.fieldLink RX10 29 "HookPier" "now" "LHookPier$Now;") (List.mem_of_getElem? (i := 10) rfl)) (fun _ h9 => h9) rfl (zat zrX10_freeSpots_0_ok 18 rfl) ?_
          refine lv_aload_n hx hb (zat zrX10_freeSpots_0_ok 19 rfl) rfl (lv_at hl 2 rfl) ?_
          refine va_get (D := (dC, dI)) (ci := 7) (v := .ref a2) (C := RX10) (T := TX10) (N := 10) hx hb hts ifX10_freeSpots_X10 hown hK hP 15 rfl rfl 0 (by decide) (hts (.fieldLink RX10 10 "HookPier" "plan" "LHookPier$Plan;") (List.mem_of_getElem? (i := 8) rfl)) (fun _ h9 => h9) rfl (zat zrX10_freeSpots_0_ok 20 rfl) ?_
          refine lv_iload_n hx hb (zat zrX10_freeSpots_0_ok 21 rfl) rfl (lv_at hl 3 rfl) ?_
          refine lv_iload_n hx hb (zat zrX10_freeSpots_0_ok 22 rfl) rfl (lv_at hl 0 rfl) ?_
          obtain ⟨o39, eo39, h⟩ := bd_of h
          refine ck_i (wc := (bX4 a3 un kn n_n (bX6 a2 up kp p_p []))) (wr := ([(a0, .inr (7, [.ref a2, g9, g10, .ref a3, g11, g12, g13, g14, .int o6.2.1, .int o6.2.2]))])) hP hD hK hS hA [0, 1, 2, 3, 4, 5, 6, 7, 8, 9, 10, 11, 12, 13, 14] [15] rfl rfl (by decide) (by decide) (by decide) (fun hPc hDc => (va_runV (As := [.ref a2, .int k1, .int v18_l3]) (rest := []) ⟨hx, hb, hml, hown, hts⟩ (kfX4_isTangled l dC dI a3 a2 k1 v18_l3 un kn up kp n_n p_p H.size o39 eo39) (cwV 3 hts gfX10_freeSpots_2 rfl rfl rfl (by decide +kernel) ⟨(Nat.le_of_ble_eq_true rfl), (Nat.le_of_ble_eq_true rfl)⟩) (PV hPc (hK.sub (tys' := (tX4 kn (tX6 kp ([])))) [9, 10, 11, 12, 0, 1, 2, 3, 4, 5, 6, 7, 8] rfl) hDc hN 0 rfl rfl) rfl rfl hl.1 rfl (lv_room (Nat.le_of_ble_eq_true rfl)) (zat zrX10_freeSpots_0_ok 23 rfl) ⟨(Nat.le_of_ble_eq_true rfl), (Nat.le_of_ble_eq_true rfl)⟩)) (fun r39 _ H locs hw hP hD _ hS => ?_)
          obtain ⟨hw, br39⟩ := hw
          obtain rfl := hw.symm
          obtain ⟨hP, hD⟩ := pd_mk ((a0, .inr (7, [.ref a2, g9, g10, .ref a3, g11, g12, g13, g14, .int o6.2.1, .int o6.2.2])) :: bX4 a3 un kn n_n (bX6 a2 up kp p_p [])) hP hD
          have J51 : ∀ (v51_l2 : Int32) (H : Heap) (locs : List Loc) (ls : Array Slot), f_X10_freeSpots_J51 (f_X10_freeSpots_L18 k1 p_p n_n o6 n18) v18_l3 v51_l2 = some out → va_P (dC, dI) vwCl ((a0, .inr (7, [.ref a2, g9, g10, .ref a3, g11, g12, g13, g14, .int o6.2.1, .int o6.2.2])) :: bX4 a3 un kn n_n (bX6 a2 up kp p_p [])) H → va_D A ((a0, .inr (7, [.ref a2, g9, g10, .ref a3, g11, g12, g13, g14, .int o6.2.1, .int o6.2.2])) :: bX4 a3 un kn n_n (bX6 a2 up kp p_p [])) → va_S A s.heap H locs → lv_has ls 4 [(3, .int v18_l3), (2, .int v51_l2), (0, .ref a0), (1, .int k1)] → W p l e (headSpec vfX10_freeSpots { frames := 3, cells := 0, slots := 0, locals := 69 }).room s m ([.ref a0, .int k1]).toArray below meth c H locs 0 0 QQ (F0 m 51 ls []) := by
            intro v51_l2 H locs ls h  hP hD hS hl
            rw [f_X10_freeSpots_J51] at h
            refine lv_iinc (v := (v18_l3 + (1 : Int32))) (lv' := [(3, .int (v18_l3 + (1 : Int32))), (2, .int v51_l2), (0, .ref a0), (1, .int k1)]) hx hb (zat zrX10_freeSpots_0_ok 31 rfl) hl (k := 0) rfl rfl (by decide) rfl (fun ls hl => ?_)
            refine lv_goto (tgt := 18) hx hb (zat zrX10_freeSpots_0_ok 32 rfl) (by decide) ?_
            exact ih18 (v18_l3 + (1 : Int32)) v51_l2 H _ ls h  (hP.sub (ws' := (bX4 a3 un kn n_n (bX6 a2 up kp p_p ([(a0, .inr (7, [.ref a2, g9, g10, .ref a3, g11, g12, g13, g14, .int o6.2.1, .int o6.2.2]))])))) [1, 2, 3, 4, 5, 6, 7, 8, 9, 10, 11, 12, 13, 14, 15, 0] rfl) (hD.sub (ws' := (bX4 a3 un kn n_n (bX6 a2 up kp p_p ([(a0, .inr (7, [.ref a2, g9, g10, .ref a3, g11, g12, g13, g14, .int o6.2.1, .int o6.2.2]))])))) [1, 2, 3, 4, 5, 6, 7, 8, 9, 10, 11, 12, 13, 14, 15, 0] (by decide) rfl) hS (lv_sub hl [0, 1, 2, 3] rfl)
          refine lv_if_ne (tgt := 51) hx hb (zat zrX10_freeSpots_0_ok 24 rfl) (by decide) (fun c42 => ?_) (fun c42 => ?_)
          · have h := (if_neg c42).symm.trans h
            exact J51 v18_l2 H _ ls h  hP hD hS (lv_sub hl [0, 1, 2, 3] rfl)
          · have h := (if_pos c42).symm.trans h
            refine lv_iload_n hx hb (zat zrX10_freeSpots_0_ok 25 rfl) rfl (lv_at hl 1 rfl) ?_
            refine lv_iconst (v := 1) hx hb (zat zrX10_freeSpots_0_ok 26 rfl) (by decide) ?_
            refine lv_iload_n hx hb (zat zrX10_freeSpots_0_ok 27 rfl) rfl (lv_at hl 0 rfl) ?_
            refine lv_ishl hx hb (zat zrX10_freeSpots_0_ok 28 rfl) ?_
            refine lv_ior hx hb (zat zrX10_freeSpots_0_ok 29 rfl) ?_
            refine lv_istore_n (lv' := [(2, .int (v18_l2 ||| ((1 : Int32) <<< (v18_l3 &&& 31)))), (3, .int v18_l3), (0, .ref a0), (1, .int k1)]) hx hb (zat zrX10_freeSpots_0_ok 30 rfl) rfl hl (by decide) rfl (fun ls hl => ?_)
            exact J51 (v18_l2 ||| ((1 : Int32) <<< (v18_l3 &&& 31))) H _ ls h  hP hD hS (lv_sub hl [1, 0, 2, 3] rfl)
    exact L18 FU (0 : Int32) (0 : Int32) H _ ls h  hP hD hS (lv_sub hl [0, 1, 2, 3] rfl)
  · have h := (if_neg c9).symm.trans h
    refine lv_iconst (v := (-1)) hx hb (zat zrX10_freeSpots_0_ok 6 rfl) (by decide) ?_
    obtain rfl := Option.some.inj h
    obtain ⟨hP9, hD9⟩ := pd_sub ((a0, .inr (7, [.ref a2, g9, g10, .ref a3, g11, g12, g13, g14, .int o6.2.1, .int o6.2.2])) :: bX6 a2 up kp p_p (bX4 a3 un kn n_n [])) [15, 5, 6, 7, 8, 9, 10, 11, 12, 13, 14, 0, 1, 2, 3, 4] hP hD (by decide) rfl
    have hK9 := hK.sub (tys' := []) [] rfl
    rw [hQQ]
    exact W.iret (v := (-1 : Int32)) hx hb hr (fun t ht hW => ⟨⟨(-1 : Int32), (), rfl, rfl, by rw [ht]; exact hP9, va_K.moved hW.alike hK9, hD9⟩, hS.F ht⟩) hS.2.2 (zat zrX10_freeSpots_0_ok 7 rfl)
noncomputable def zrX10_tangles_0 : List ZR := zc 0 true (.aload_n 0) 1 (zc 1 true (.getfield 10) 3 (zc 4 true (.iload_n 1) 1 (zc 5 true (.invokevirtual 236) 3 (zc 8 true (.ifCond .eq 46) 3 (zc 11 true (.aload_n 0) 1 (zc 12 true (.getfield 10) 3 (zc 15 true (.iload_n 3) 1 (zc 16 true (.invokevirtual 236) 3 (zc 19 true (.ifCond .eq 35) 3 (zc 22 true (.iload_n 1) 1 (zc 23 true (.iload_n 3) 1 (zc 24 true (.if_icmp .eq 30) 3 (zc 27 true (.aload_n 0) 1 (zc 28 true (.getfield 10) 3 (zc 31 true (.iload_n 2) 1 (zc 32 true (.invokevirtual 239) 3 (zc 35 true (.ifCond .eq 19) 3 (zc 38 true (.aload_n 0) 1 (zc 39 true (.getfield 10) 3 (zc 42 true (.iload 4) 2 (zc 44 true (.invokevirtual 239) 3 (zc 47 true (.ifCond .eq 7) 3 (zc 50 true (.iconst 1) 1 (zc 51 true (.goto 4) 3 (zc 54 true (.iconst 0) 1 (zc 55 true (.istore 5) 2 (zc 57 true (.aload_n 0) 1 (zc 58 true (.iload 5) 2 (zc 60 true (.ifCond .eq 7) 3 (zc 63 true (.iconst 0) 1 (zc 64 true (.goto 4) 3 (zc 67 true (.iconst 1) 1 (zc 68 true (.invokevirtual 79) 3 (zc 71 true (.ifCond .eq 5) 3 (zc 74 true (.iconst (-1)) 1 (zc 75 true (.ireturn) 1 (zc 76 true (.aload_n 0) 1 (zc 77 true (.getfield 10) 3 (zc 80 true (.iload_n 1) 1 (zc 81 true (.iload_n 2) 1 (zc 82 true (.iload_n 3) 1 (zc 83 true (.iload 4) 2 (zc 85 true (.invokevirtual 242) 3 (zc 88 true (.ifCond .eq 7) 3 (zc 91 true (.iconst 1) 1 (zc 92 true (.goto 4) 3 (zc 95 true (.iconst 0) 1 (zc 96 true (.ireturn) 1 ([])))))))))))))))))))))))))))))))))))))))))))))))))
theorem zrX10_tangles_0_ok : zck 0 ((zby cX10_tangles).drop 0) zrX10_tangles_0 = true := by decide +kernel
def vfX10_tangles : List Cond := List.cons (.code yX10_tangles cX10_tangles 6 (some .int)) (apW [.fieldLink RX10 10 "HookPier" "plan" "LHookPier$Plan;", .methodLink RX10 236 yX6_hasAsker, .instanceMethod yX6_hasAsker, .selects RX6 yX6_hasAsker yX6_hasAsker, .initialized RX6, .methodLink RX10 79 yX10_refused, .instanceMethod yX10_refused, .selects RX10 yX10_refused yX10_refused, .initialized RX10, .methodLink RX10 242 yX6_isTangle, .instanceMethod yX6_isTangle, .selects RX6 yX6_isTangle yX6_isTangle, .methodLink RX10 239 yX6_hasSpot, .instanceMethod yX6_hasSpot, .selects RX6 yX6_hasSpot yX6_hasSpot] (apW wsX100 (apW vfX6_hasAsker (apW vfX10_refused (apW vfX6_isTangle (vfX6_hasSpot))))))
theorem ifX10_tangles_X10 : ∀ w ∈ wsX100, w ∈ vfX10_tangles := fun _ h => (List.mem_cons_of_mem _ (List.mem_append_right _ (List.mem_append_left _ h)))
theorem qfX10_tangles : Good vfX10_tangles := gd_cons (by decide +kernel) (gd_app (gd_dec (by decide +kernel) : Good [.fieldLink RX10 10 "HookPier" "plan" "LHookPier$Plan;", .methodLink RX10 236 yX6_hasAsker, .instanceMethod yX6_hasAsker, .selects RX6 yX6_hasAsker yX6_hasAsker, .initialized RX6, .methodLink RX10 79 yX10_refused, .instanceMethod yX10_refused, .selects RX10 yX10_refused yX10_refused, .initialized RX10, .methodLink RX10 242 yX6_isTangle, .instanceMethod yX6_isTangle, .selects RX6 yX6_isTangle yX6_isTangle, .methodLink RX10 239 yX6_hasSpot, .instanceMethod yX6_hasSpot, .selects RX6 yX6_hasSpot yX6_hasSpot]) (gd_app qsX10 (gd_app qfX6_hasAsker (gd_app qfX10_refused (gd_app qfX6_isTangle qfX6_hasSpot)))))
theorem gfX10_tangles_0 : GoodIn vfX10_tangles (wsV RX10 236 RX6 yX6_hasAsker vfX6_hasAsker) := goodIn_app (goodIn_r [.methodLink RX10 236 yX6_hasAsker, .instanceMethod yX6_hasAsker, .selects RX6 yX6_hasAsker yX6_hasAsker, .initialized RX6] [2, 3, 4, 5] rfl (by decide +kernel)) (goodIn_m (fun _ h => (List.mem_cons_of_mem _ (List.mem_append_right _ (List.mem_append_right _ (List.mem_append_left _ h))))) qfX6_hasAsker)
theorem gfX10_tangles_1 : GoodIn vfX10_tangles (wsV RX10 79 RX10 yX10_refused vfX10_refused) := goodIn_app (goodIn_r [.methodLink RX10 79 yX10_refused, .instanceMethod yX10_refused, .selects RX10 yX10_refused yX10_refused, .initialized RX10] [6, 7, 8, 9] rfl (by decide +kernel)) (goodIn_m (fun _ h => (List.mem_cons_of_mem _ (List.mem_append_right _ (List.mem_append_right _ (List.mem_append_right _ (List.mem_append_left _ h)))))) qfX10_refused)
theorem gfX10_tangles_2 : GoodIn vfX10_tangles (wsV RX10 242 RX6 yX6_isTangle vfX6_isTangle) := goodIn_app (goodIn_r [.methodLink RX10 242 yX6_isTangle, .instanceMethod yX6_isTangle, .selects RX6 yX6_isTangle yX6_isTangle, .initialized RX6] [10, 11, 12, 5] rfl (by decide +kernel)) (goodIn_m (fun _ h => (List.mem_cons_of_mem _ (List.mem_append_right _ (List.mem_append_right _ (List.mem_append_right _ (List.mem_append_right _ (List.mem_append_left _ h))))))) qfX6_isTangle)
theorem gfX10_tangles_3 : GoodIn vfX10_tangles (wsV RX10 239 RX6 yX6_hasSpot vfX6_hasSpot) := goodIn_app (goodIn_r [.methodLink RX10 239 yX6_hasSpot, .instanceMethod yX6_hasSpot, .selects RX6 yX6_hasSpot yX6_hasSpot, .initialized RX6] [13, 14, 15, 5] rfl (by decide +kernel)) (goodIn_m (fun _ h => (List.mem_cons_of_mem _ (List.mem_append_right _ (List.mem_append_right _ (List.mem_append_right _ (List.mem_append_right _ (List.mem_append_right _ h))))))) qfX6_hasSpot)
set_option maxHeartbeats 2000000 in
set_option maxRecDepth 100000 in
theorem kfX10_tangles (l : Launch) (dC : Nat → ClassId) (dI : Nat → Nat → Nat) (a0 : Nat) (k1 : Int32) (k2 : Int32) (k3 : Int32) (k4 : Int32) (a5 : Nat) (up : Nat → Nat) (kp : Nat → ClassId) (x_x : TX10_x) (g9 : Value) (g10 : Value) (g11 : Value) (g12 : Value) (g13 : Value) (g14 : Value) (g15 : Value) (p_p : TX6_p) (sz : Nat) (out : (Int32 × TX10_x)) (h : f_X10_tangles k1 k2 k3 k4 x_x p_p = some out) : KCi l yX10_tangles vfX10_tangles ({ frames := 2, cells := 0, slots := 0, locals := 45 }) (dC, dI) [.ref a0, .int k1, .int k2, .int k3, .int k4] sz ((a0, .inr (7, [.ref a5, g9, g10, g11, g12, g13, g14, g15, .int x_x.1, .int x_x.2])) :: bX6 a5 up kp p_p []) (tX6 kp ([])) (fun (r : Int32) _ => r = out.1) ((a0, .inr (7, [.ref a5, g9, g10, g11, g12, g13, g14, g15, .int out.2.1, .int out.2.2])) :: bX6 a5 up kp p_p []) 0 0 := by
  refine Met.ofW (cc := cX10_tangles) (maxL := 6) (ret := (some .int)) (by decide) rfl ?_
  intro p e s m args below meth c s₁ B0 hml hv
  obtain ⟨rfl, hsz, hP, hK, hD0, hN⟩ := hv
  have hx := B0.exec
  have hb := B0.bytes
  have hr := B0.returns
  have hts := atoms_spec (ws := vfX10_tangles) B0.pre
  have hown : s.vm.findClass RX10 = some m.cls := findClass_of_methodNamed B0.named
  have hlocks := B0.notSynchronized
  subst hsz
  have hD := hD0.self (sz := s.heap.size)
  generalize hAe : va_A ((a0, .inr (7, [.ref a5, g9, g10, g11, g12, g13, g14, g15, .int x_x.1, .int x_x.2])) :: bX6 a5 up kp p_p []) s.heap.size = A at hD ⊢
  have hA : ∀ q : Nat, s.heap.size ≤ q → A q := fun q h => by rw [← hAe]; exact Or.inr h
  have hS : va_S A s.heap s.heap [] := va_S.rf
  have hP : va_P (dC, dI) vwCl ((a0, .inr (7, [.ref a5, g9, g10, g11, g12, g13, g14, g15, .int x_x.1, .int x_x.2])) :: bX6 a5 up kp p_p []) s.heap := hP
  have hl := lv_entry ([.ref a0, .int k1, .int k2, .int k3, .int k4]) (n := 6) (Nat.le_of_ble_eq_true rfl)
  rw [lg_entry_eq]
  generalize (lg_sl ([.ref a0, .int k1, .int k2, .int k3, .int k4]) ++ List.replicate (6 - (lg_sl ([.ref a0, .int k1, .int k2, .int k3, .int k4])).length) Slot.unset).toArray = ls at hl ⊢
  have hl : lv_has ls 6 [(0, .ref a0), (1, .int k1), (2, .int k2), (3, .int k3), (4, .int k4)] := hl
  refine W_q (fun QQ hQQ => ?_)
  rw [f_X10_tangles] at h
  refine lv_aload_n hx hb (zat zrX10_tangles_0_ok 0 rfl) rfl (lv_at hl 0 rfl) ?_
  refine va_get (D := (dC, dI)) (ci := 7) (v := .ref a5) (C := RX10) (T := TX10) (N := 10) hx hb hts ifX10_tangles_X10 hown hK hP 0 rfl rfl 0 (by decide) (hts (.fieldLink RX10 10 "HookPier" "plan" "LHookPier$Plan;") (List.mem_of_getElem? (i := 1) rfl)) (fun _ h9 => h9) rfl (zat zrX10_tangles_0_ok 1 rfl) ?_
  refine lv_iload_n hx hb (zat zrX10_tangles_0_ok 2 rfl) rfl (lv_at hl 1 rfl) ?_
  obtain ⟨o5, eo5⟩ : ∃ o, o = f_X6_hasAsker k1 p_p := ⟨_, rfl⟩
  have h := nm_of h o5 eo5
  refine ck_i (wc := (bX6 a5 up kp p_p [])) (wr := ([(a0, .inr (7, [.ref a5, g9, g10, g11, g12, g13, g14, g15, .int x_x.1, .int x_x.2]))])) hP hD hK hS hA [1, 2, 3, 4, 5, 6, 7, 8, 9, 10] [0] rfl rfl (by decide) (by decide) (by decide) (fun hPc hDc => (va_runV (As := [.int k1]) (rest := []) ⟨hx, hb, hml, hown, hts⟩ (kfX6_hasAsker l dC dI a5 k1 up kp p_p s.heap.size o5 eo5.symm) (cwV 1 hts gfX10_tangles_0 rfl rfl rfl (by decide +kernel) ⟨(Nat.le_of_ble_eq_true rfl), (Nat.le_of_ble_eq_true rfl)⟩) (PV hPc (hK.sub (tys' := (tX6 kp ([]))) [0, 1, 2, 3, 4, 5, 6, 7, 8] rfl) hDc hN 0 rfl rfl) rfl rfl hl.1 rfl (lv_room (Nat.le_of_ble_eq_true rfl)) (zat zrX10_tangles_0_ok 3 rfl) ⟨(Nat.le_of_ble_eq_true rfl), (Nat.le_of_ble_eq_true rfl)⟩)) (fun r5 _ H locs hw hP hD _ hS => ?_)
  obtain ⟨hw, br5⟩ := hw
  obtain rfl := hw.symm
  obtain ⟨hP, hD⟩ := pd_mk ((a0, .inr (7, [.ref a5, g9, g10, g11, g12, g13, g14, g15, .int x_x.1, .int x_x.2])) :: bX6 a5 up kp p_p []) hP hD
  have J55 : ∀ (v55_t0 : Int32) (H : Heap) (locs : List Loc) (ls : Array Slot), f_X10_tangles_J55 k1 k2 k3 k4 x_x p_p v55_t0 = some out → 0 ≤ v55_t0.toInt ∧ v55_t0.toInt ≤ 1 → va_P (dC, dI) vwCl ((a0, .inr (7, [.ref a5, g9, g10, g11, g12, g13, g14, g15, .int x_x.1, .int x_x.2])) :: bX6 a5 up kp p_p []) H → va_D A ((a0, .inr (7, [.ref a5, g9, g10, g11, g12, g13, g14, g15, .int x_x.1, .int x_x.2])) :: bX6 a5 up kp p_p []) → va_S A s.heap H locs → lv_has ls 6 [(0, .ref a0), (1, .int k1), (2, .int k2), (3, .int k3), (4, .int k4)] → W p l e (headSpec vfX10_tangles { frames := 2, cells := 0, slots := 0, locals := 45 }).room s m ([.ref a0, .int k1, .int k2, .int k3, .int k4]).toArray below meth c H locs 0 0 QQ (F0 m 55 ls [.int v55_t0]) := by
    intro v55_t0 H locs ls h zb_v55_t0 hP hD hS hl
    rw [f_X10_tangles_J55] at h
    refine lv_istore (lv' := [(5, .int v55_t0), (0, .ref a0), (1, .int k1), (2, .int k2), (3, .int k3), (4, .int k4)]) hx hb (zat zrX10_tangles_0_ok 26 rfl) hl (by decide) rfl (fun ls hl => ?_)
    refine lv_aload_n hx hb (zat zrX10_tangles_0_ok 27 rfl) rfl (lv_at hl 1 rfl) ?_
    refine lv_iload hx hb (zat zrX10_tangles_0_ok 28 rfl) (lv_at hl 0 rfl) ?_
    have J68 : ∀ (v68_t1 : Int32) (H : Heap) (locs : List Loc) (ls : Array Slot), f_X10_tangles_J68 k1 k2 k3 k4 x_x p_p v68_t1 = some out → 0 ≤ v68_t1.toInt ∧ v68_t1.toInt ≤ 1 → va_P (dC, dI) vwCl ((a0, .inr (7, [.ref a5, g9, g10, g11, g12, g13, g14, g15, .int x_x.1, .int x_x.2])) :: bX6 a5 up kp p_p []) H → va_D A ((a0, .inr (7, [.ref a5, g9, g10, g11, g12, g13, g14, g15, .int x_x.1, .int x_x.2])) :: bX6 a5 up kp p_p []) → va_S A s.heap H locs → lv_has ls 6 [(0, .ref a0), (1, .int k1), (2, .int k2), (3, .int k3), (4, .int k4)] → W p l e (headSpec vfX10_tangles { frames := 2, cells := 0, slots := 0, locals := 45 }).room s m ([.ref a0, .int k1, .int k2, .int k3, .int k4]).toArray below meth c H locs 0 0 QQ (F0 m 68 ls [.int v68_t1, .ref a0]) := by
      intro v68_t1 H locs ls h zb_v68_t1 hP hD hS hl
      rw [f_X10_tangles_J68] at h
      obtain ⟨o68, eo68⟩ : ∃ o, o = f_X10_refused v68_t1 x_x := ⟨_, rfl⟩
      have h := nm_of h o68 eo68
      refine ck_i (wc := ([(a0, .inr (7, [.ref a5, g9, g10, g11, g12, g13, g14, g15, .int x_x.1, .int x_x.2]))])) (wr := (bX6 a5 up kp p_p [])) hP hD hK hS hA [0] [1, 2, 3, 4, 5, 6, 7, 8, 9, 10] rfl rfl (by decide) (by decide) (by decide) (fun hPc hDc => (va_runV (As := [.int v68_t1]) (rest := []) ⟨hx, hb, hml, hown, hts⟩ (kfX10_refused l dC dI a0 v68_t1 x_x (.ref a5) (g9) (g10) (g11) (g12) (g13) (g14) (g15) H.size o68 eo68.symm) (cwV 1 hts gfX10_tangles_1 rfl rfl rfl (by decide +kernel) ⟨(Nat.le_of_ble_eq_true rfl), (Nat.le_of_ble_eq_true rfl)⟩) (PV hPc (hK.sub (tys' := ([])) [] rfl) hDc hN 0 rfl rfl) rfl rfl hl.1 rfl (lv_room (Nat.le_of_ble_eq_true rfl)) (zat zrX10_tangles_0_ok 33 rfl) ⟨(Nat.le_of_ble_eq_true rfl), (Nat.le_of_ble_eq_true rfl)⟩)) (fun r68 _ H locs hw hP hD _ hS => ?_)
      obtain ⟨hw, br68⟩ := hw
      obtain rfl := hw
      obtain ⟨hP, hD⟩ := pd_mk (bX6 a5 up kp p_p ([(a0, .inr (7, [.ref a5, g9, g10, g11, g12, g13, g14, g15, .int o68.2.1, .int o68.2.2]))])) hP hD
      refine lv_if_eq (tgt := 76) hx hb (zat zrX10_tangles_0_ok 34 rfl) (by decide) (fun c71 => ?_) (fun c71 => ?_)
      · have h := (if_pos c71).symm.trans h
        refine lv_aload_n hx hb (zat zrX10_tangles_0_ok 37 rfl) rfl (lv_at hl 0 rfl) ?_
        refine va_get (D := (dC, dI)) (ci := 7) (v := .ref a5) (C := RX10) (T := TX10) (N := 10) hx hb hts ifX10_tangles_X10 hown hK hP 10 rfl rfl 0 (by decide) (hts (.fieldLink RX10 10 "HookPier" "plan" "LHookPier$Plan;") (List.mem_of_getElem? (i := 1) rfl)) (fun _ h9 => h9) rfl (zat zrX10_tangles_0_ok 38 rfl) ?_
        refine lv_iload_n hx hb (zat zrX10_tangles_0_ok 39 rfl) rfl (lv_at hl 1 rfl) ?_
        refine lv_iload_n hx hb (zat zrX10_tangles_0_ok 40 rfl) rfl (lv_at hl 2 rfl) ?_
        refine lv_iload_n hx hb (zat zrX10_tangles_0_ok 41 rfl) rfl (lv_at hl 3 rfl) ?_
        refine lv_iload hx hb (zat zrX10_tangles_0_ok 42 rfl) (lv_at hl 4 rfl) ?_
        obtain ⟨o85, eo85, h⟩ := bd_of h
        refine ck_i (wc := (bX6 a5 up kp p_p [])) (wr := ([(a0, .inr (7, [.ref a5, g9, g10, g11, g12, g13, g14, g15, .int o68.2.1, .int o68.2.2]))])) hP hD hK hS hA [0, 1, 2, 3, 4, 5, 6, 7, 8, 9] [10] rfl rfl (by decide) (by decide) (by decide) (fun hPc hDc => (va_runV (As := [.int k1, .int k2, .int k3, .int k4]) (rest := []) ⟨hx, hb, hml, hown, hts⟩ (kfX6_isTangle l dC dI a5 k1 k2 k3 k4 up kp p_p H.size o85 eo85) (cwV 4 hts gfX10_tangles_2 rfl rfl rfl (by decide +kernel) ⟨(Nat.le_of_ble_eq_true rfl), (Nat.le_of_ble_eq_true rfl)⟩) (PV hPc (hK.sub (tys' := (tX6 kp ([]))) [0, 1, 2, 3, 4, 5, 6, 7, 8] rfl) hDc hN 0 rfl rfl) rfl rfl hl.1 rfl (lv_room (Nat.le_of_ble_eq_true rfl)) (zat zrX10_tangles_0_ok 43 rfl) ⟨(Nat.le_of_ble_eq_true rfl), (Nat.le_of_ble_eq_true rfl)⟩)) (fun r85 _ H locs hw hP hD _ hS => ?_)
        obtain ⟨hw, br85⟩ := hw
        obtain rfl := hw.symm
        obtain ⟨hP, hD⟩ := pd_mk ((a0, .inr (7, [.ref a5, g9, g10, g11, g12, g13, g14, g15, .int o68.2.1, .int o68.2.2])) :: bX6 a5 up kp p_p []) hP hD
        refine lv_if_eq (tgt := 95) hx hb (zat zrX10_tangles_0_ok 44 rfl) (by decide) (fun c88 => ?_) (fun c88 => ?_)
        · have h := (if_pos c88).symm.trans h
          refine lv_iconst (v := 0) hx hb (zat zrX10_tangles_0_ok 47 rfl) (by decide) ?_
          obtain rfl := Option.some.inj h
          obtain ⟨hP9, hD9⟩ := pd_sub ((a0, .inr (7, [.ref a5, g9, g10, g11, g12, g13, g14, g15, .int o68.2.1, .int o68.2.2])) :: bX6 a5 up kp p_p []) [0, 1, 2, 3, 4, 5, 6, 7, 8, 9, 10] hP hD (by decide) rfl
          have hK9 := hK.sub (tys' := []) [] rfl
          rw [hQQ]
          exact W.iret (v := (0 : Int32)) hx hb hr (fun t ht hW => ⟨⟨(0 : Int32), (), rfl, rfl, by rw [ht]; exact hP9, va_K.moved hW.alike hK9, hD9⟩, hS.F ht⟩) hS.2.2 (zat zrX10_tangles_0_ok 48 rfl)
        · have h := (if_neg c88).symm.trans h
          refine lv_iconst (v := 1) hx hb (zat zrX10_tangles_0_ok 45 rfl) (by decide) ?_
          refine lv_goto (tgt := 96) hx hb (zat zrX10_tangles_0_ok 46 rfl) (by decide) ?_
          obtain rfl := Option.some.inj h
          obtain ⟨hP9, hD9⟩ := pd_sub ((a0, .inr (7, [.ref a5, g9, g10, g11, g12, g13, g14, g15, .int o68.2.1, .int o68.2.2])) :: bX6 a5 up kp p_p []) [0, 1, 2, 3, 4, 5, 6, 7, 8, 9, 10] hP hD (by decide) rfl
          have hK9 := hK.sub (tys' := []) [] rfl
          rw [hQQ]
          exact W.iret (v := (1 : Int32)) hx hb hr (fun t ht hW => ⟨⟨(1 : Int32), (), rfl, rfl, by rw [ht]; exact hP9, va_K.moved hW.alike hK9, hD9⟩, hS.F ht⟩) hS.2.2 (zat zrX10_tangles_0_ok 48 rfl)
      · have h := (if_neg c71).symm.trans h
        refine lv_iconst (v := (-1)) hx hb (zat zrX10_tangles_0_ok 35 rfl) (by decide) ?_
        obtain rfl := Option.some.inj h
        obtain ⟨hP9, hD9⟩ := pd_sub ((a0, .inr (7, [.ref a5, g9, g10, g11, g12, g13, g14, g15, .int o68.2.1, .int o68.2.2])) :: bX6 a5 up kp p_p []) [10, 0, 1, 2, 3, 4, 5, 6, 7, 8, 9] hP hD (by decide) rfl
        have hK9 := hK.sub (tys' := []) [] rfl
        rw [hQQ]
        exact W.iret (v := (-1 : Int32)) hx hb hr (fun t ht hW => ⟨⟨(-1 : Int32), (), rfl, rfl, by rw [ht]; exact hP9, va_K.moved hW.alike hK9, hD9⟩, hS.F ht⟩) hS.2.2 (zat zrX10_tangles_0_ok 36 rfl)
    refine lv_if_eq (tgt := 67) hx hb (zat zrX10_tangles_0_ok 29 rfl) (by decide) (fun c60 => ?_) (fun c60 => ?_)
    · have h := (if_pos c60).symm.trans h
      refine lv_iconst (v := 1) hx hb (zat zrX10_tangles_0_ok 32 rfl) (by decide) ?_
      exact J68 (1 : Int32) H _ ls h (by decide) hP hD hS (lv_sub hl [1, 2, 3, 4, 5] rfl)
    · have h := (if_neg c60).symm.trans h
      refine lv_iconst (v := 0) hx hb (zat zrX10_tangles_0_ok 30 rfl) (by decide) ?_
      refine lv_goto (tgt := 68) hx hb (zat zrX10_tangles_0_ok 31 rfl) (by decide) ?_
      exact J68 (0 : Int32) H _ ls h (by decide) hP hD hS (lv_sub hl [1, 2, 3, 4, 5] rfl)
  have J54 : ∀ (H : Heap) (locs : List Loc) (ls : Array Slot), f_X10_tangles_J54 k1 k2 k3 k4 x_x p_p = some out → va_P (dC, dI) vwCl ((a0, .inr (7, [.ref a5, g9, g10, g11, g12, g13, g14, g15, .int x_x.1, .int x_x.2])) :: bX6 a5 up kp p_p []) H → va_D A ((a0, .inr (7, [.ref a5, g9, g10, g11, g12, g13, g14, g15, .int x_x.1, .int x_x.2])) :: bX6 a5 up kp p_p []) → va_S A s.heap H locs → lv_has ls 6 [(0, .ref a0), (1, .int k1), (2, .int k2), (3, .int k3), (4, .int k4)] → W p l e (headSpec vfX10_tangles { frames := 2, cells := 0, slots := 0, locals := 45 }).room s m ([.ref a0, .int k1, .int k2, .int k3, .int k4]).toArray below meth c H locs 0 0 QQ (F0 m 54 ls []) := by
    intro  H locs ls h  hP hD hS hl
    rw [f_X10_tangles_J54] at h
    refine lv_iconst (v := 0) hx hb (zat zrX10_tangles_0_ok 25 rfl) (by decide) ?_
    exact J55 (0 : Int32) H _ ls h (by decide) hP hD hS (lv_sub hl [0, 1, 2, 3, 4] rfl)
  refine lv_if_eq (tgt := 54) hx hb (zat zrX10_tangles_0_ok 4 rfl) (by decide) (fun c8 => ?_) (fun c8 => ?_)
  · have h := (if_pos c8).symm.trans h
    exact J54  H _ ls h  hP hD hS (lv_sub hl [0, 1, 2, 3, 4] rfl)
  · have h := (if_neg c8).symm.trans h
    refine lv_aload_n hx hb (zat zrX10_tangles_0_ok 5 rfl) rfl (lv_at hl 0 rfl) ?_
    refine va_get (D := (dC, dI)) (ci := 7) (v := .ref a5) (C := RX10) (T := TX10) (N := 10) hx hb hts ifX10_tangles_X10 hown hK hP 0 rfl rfl 0 (by decide) (hts (.fieldLink RX10 10 "HookPier" "plan" "LHookPier$Plan;") (List.mem_of_getElem? (i := 1) rfl)) (fun _ h9 => h9) rfl (zat zrX10_tangles_0_ok 6 rfl) ?_
    refine lv_iload_n hx hb (zat zrX10_tangles_0_ok 7 rfl) rfl (lv_at hl 3 rfl) ?_
    obtain ⟨o16, eo16⟩ : ∃ o, o = f_X6_hasAsker k3 p_p := ⟨_, rfl⟩
    have h := nm_of h o16 eo16
    refine ck_i (wc := (bX6 a5 up kp p_p [])) (wr := ([(a0, .inr (7, [.ref a5, g9, g10, g11, g12, g13, g14, g15, .int x_x.1, .int x_x.2]))])) hP hD hK hS hA [1, 2, 3, 4, 5, 6, 7, 8, 9, 10] [0] rfl rfl (by decide) (by decide) (by decide) (fun hPc hDc => (va_runV (As := [.int k3]) (rest := []) ⟨hx, hb, hml, hown, hts⟩ (kfX6_hasAsker l dC dI a5 k3 up kp p_p H.size o16 eo16.symm) (cwV 1 hts gfX10_tangles_0 rfl rfl rfl (by decide +kernel) ⟨(Nat.le_of_ble_eq_true rfl), (Nat.le_of_ble_eq_true rfl)⟩) (PV hPc (hK.sub (tys' := (tX6 kp ([]))) [0, 1, 2, 3, 4, 5, 6, 7, 8] rfl) hDc hN 0 rfl rfl) rfl rfl hl.1 rfl (lv_room (Nat.le_of_ble_eq_true rfl)) (zat zrX10_tangles_0_ok 8 rfl) ⟨(Nat.le_of_ble_eq_true rfl), (Nat.le_of_ble_eq_true rfl)⟩)) (fun r16 _ H locs hw hP hD _ hS => ?_)
    obtain ⟨hw, br16⟩ := hw
    obtain rfl := hw.symm
    obtain ⟨hP, hD⟩ := pd_mk ((a0, .inr (7, [.ref a5, g9, g10, g11, g12, g13, g14, g15, .int x_x.1, .int x_x.2])) :: bX6 a5 up kp p_p []) hP hD
    refine lv_if_eq (tgt := 54) hx hb (zat zrX10_tangles_0_ok 9 rfl) (by decide) (fun c19 => ?_) (fun c19 => ?_)
    · have h := (if_pos c19).symm.trans h
      exact J54  H _ ls h  hP hD hS (lv_sub hl [0, 1, 2, 3, 4] rfl)
    · have h := (if_neg c19).symm.trans h
      refine lv_iload_n hx hb (zat zrX10_tangles_0_ok 10 rfl) rfl (lv_at hl 1 rfl) ?_
      refine lv_iload_n hx hb (zat zrX10_tangles_0_ok 11 rfl) rfl (lv_at hl 3 rfl) ?_
      refine lv_icmp_eq (tgt := 54) hx hb (zat zrX10_tangles_0_ok 12 rfl) (by decide) (fun c24 => ?_) (fun c24 => ?_)
      · have h := (if_pos c24).symm.trans h
        exact J54  H _ ls h  hP hD hS (lv_sub hl [0, 1, 2, 3, 4] rfl)
      · have h := (if_neg c24).symm.trans h
        refine lv_aload_n hx hb (zat zrX10_tangles_0_ok 13 rfl) rfl (lv_at hl 0 rfl) ?_
        refine va_get (D := (dC, dI)) (ci := 7) (v := .ref a5) (C := RX10) (T := TX10) (N := 10) hx hb hts ifX10_tangles_X10 hown hK hP 0 rfl rfl 0 (by decide) (hts (.fieldLink RX10 10 "HookPier" "plan" "LHookPier$Plan;") (List.mem_of_getElem? (i := 1) rfl)) (fun _ h9 => h9) rfl (zat zrX10_tangles_0_ok 14 rfl) ?_
        refine lv_iload_n hx hb (zat zrX10_tangles_0_ok 15 rfl) rfl (lv_at hl 2 rfl) ?_
        obtain ⟨o32, eo32⟩ : ∃ o, o = f_X6_hasSpot k2 p_p := ⟨_, rfl⟩
        have h := nm_of h o32 eo32
        refine ck_i (wc := (bX6 a5 up kp p_p [])) (wr := ([(a0, .inr (7, [.ref a5, g9, g10, g11, g12, g13, g14, g15, .int x_x.1, .int x_x.2]))])) hP hD hK hS hA [1, 2, 3, 4, 5, 6, 7, 8, 9, 10] [0] rfl rfl (by decide) (by decide) (by decide) (fun hPc hDc => (va_runV (As := [.int k2]) (rest := []) ⟨hx, hb, hml, hown, hts⟩ (kfX6_hasSpot l dC dI a5 k2 up kp p_p H.size o32 eo32.symm) (cwV 1 hts gfX10_tangles_3 rfl rfl rfl (by decide +kernel) ⟨(Nat.le_of_ble_eq_true rfl), (Nat.le_of_ble_eq_true rfl)⟩) (PV hPc (hK.sub (tys' := (tX6 kp ([]))) [0, 1, 2, 3, 4, 5, 6, 7, 8] rfl) hDc hN 0 rfl rfl) rfl rfl hl.1 rfl (lv_room (Nat.le_of_ble_eq_true rfl)) (zat zrX10_tangles_0_ok 16 rfl) ⟨(Nat.le_of_ble_eq_true rfl), (Nat.le_of_ble_eq_true rfl)⟩)) (fun r32 _ H locs hw hP hD _ hS => ?_)
        obtain ⟨hw, br32⟩ := hw
        obtain rfl := hw.symm
        obtain ⟨hP, hD⟩ := pd_mk ((a0, .inr (7, [.ref a5, g9, g10, g11, g12, g13, g14, g15, .int x_x.1, .int x_x.2])) :: bX6 a5 up kp p_p []) hP hD
        refine lv_if_eq (tgt := 54) hx hb (zat zrX10_tangles_0_ok 17 rfl) (by decide) (fun c35 => ?_) (fun c35 => ?_)
        · have h := (if_pos c35).symm.trans h
          exact J54  H _ ls h  hP hD hS (lv_sub hl [0, 1, 2, 3, 4] rfl)
        · have h := (if_neg c35).symm.trans h
          refine lv_aload_n hx hb (zat zrX10_tangles_0_ok 18 rfl) rfl (lv_at hl 0 rfl) ?_
          refine va_get (D := (dC, dI)) (ci := 7) (v := .ref a5) (C := RX10) (T := TX10) (N := 10) hx hb hts ifX10_tangles_X10 hown hK hP 0 rfl rfl 0 (by decide) (hts (.fieldLink RX10 10 "HookPier" "plan" "LHookPier$Plan;") (List.mem_of_getElem? (i := 1) rfl)) (fun _ h9 => h9) rfl (zat zrX10_tangles_0_ok 19 rfl) ?_
          refine lv_iload hx hb (zat zrX10_tangles_0_ok 20 rfl) (lv_at hl 4 rfl) ?_
          obtain ⟨o44, eo44⟩ : ∃ o, o = f_X6_hasSpot k4 p_p := ⟨_, rfl⟩
          have h := nm_of h o44 eo44
          refine ck_i (wc := (bX6 a5 up kp p_p [])) (wr := ([(a0, .inr (7, [.ref a5, g9, g10, g11, g12, g13, g14, g15, .int x_x.1, .int x_x.2]))])) hP hD hK hS hA [1, 2, 3, 4, 5, 6, 7, 8, 9, 10] [0] rfl rfl (by decide) (by decide) (by decide) (fun hPc hDc => (va_runV (As := [.int k4]) (rest := []) ⟨hx, hb, hml, hown, hts⟩ (kfX6_hasSpot l dC dI a5 k4 up kp p_p H.size o44 eo44.symm) (cwV 1 hts gfX10_tangles_3 rfl rfl rfl (by decide +kernel) ⟨(Nat.le_of_ble_eq_true rfl), (Nat.le_of_ble_eq_true rfl)⟩) (PV hPc (hK.sub (tys' := (tX6 kp ([]))) [0, 1, 2, 3, 4, 5, 6, 7, 8] rfl) hDc hN 0 rfl rfl) rfl rfl hl.1 rfl (lv_room (Nat.le_of_ble_eq_true rfl)) (zat zrX10_tangles_0_ok 21 rfl) ⟨(Nat.le_of_ble_eq_true rfl), (Nat.le_of_ble_eq_true rfl)⟩)) (fun r44 _ H locs hw hP hD _ hS => ?_)
          obtain ⟨hw, br44⟩ := hw
          obtain rfl := hw.symm
          obtain ⟨hP, hD⟩ := pd_mk ((a0, .inr (7, [.ref a5, g9, g10, g11, g12, g13, g14, g15, .int x_x.1, .int x_x.2])) :: bX6 a5 up kp p_p []) hP hD
          refine lv_if_eq (tgt := 54) hx hb (zat zrX10_tangles_0_ok 22 rfl) (by decide) (fun c47 => ?_) (fun c47 => ?_)
          · have h := (if_pos c47).symm.trans h
            exact J54  H _ ls h  hP hD hS (lv_sub hl [0, 1, 2, 3, 4] rfl)
          · have h := (if_neg c47).symm.trans h
            refine lv_iconst (v := 1) hx hb (zat zrX10_tangles_0_ok 23 rfl) (by decide) ?_
            refine lv_goto (tgt := 55) hx hb (zat zrX10_tangles_0_ok 24 rfl) (by decide) ?_
            exact J55 (1 : Int32) H _ ls h (by decide) hP hD hS (lv_sub hl [0, 1, 2, 3, 4] rfl)
noncomputable def zrX10_everyAsker_0 : List ZR := zc 0 true (.iconst 1) 1 (zc 1 true (.aload_n 0) 1 (zc 2 true (.getfield 10) 3 (zc 5 true (.getfield 246) 3 (zc 8 true (.ishl) 1 (zc 9 true (.iconst 1) 1 (zc 10 true (.isub) 1 (zc 11 true (.ireturn) 1 ([]))))))))
theorem zrX10_everyAsker_0_ok : zck 0 ((zby cX10_everyAsker).drop 0) zrX10_everyAsker_0 = true := by decide +kernel
def vfX10_everyAsker : List Cond := List.cons (.code yX10_everyAsker cX10_everyAsker 1 (some .int)) (apW [.fieldLink RX10 10 "HookPier" "plan" "LHookPier$Plan;", .fieldLink RX10 246 "HookPier$Plan" "askers" "I"] (apW wsX100 (wsX60)))
theorem ifX10_everyAsker_X10 : ∀ w ∈ wsX100, w ∈ vfX10_everyAsker := fun _ h => (List.mem_cons_of_mem _ (List.mem_append_right _ (List.mem_append_left _ h)))
theorem ifX10_everyAsker_X6 : ∀ w ∈ wsX60, w ∈ vfX10_everyAsker := fun _ h => (List.mem_cons_of_mem _ (List.mem_append_right _ (List.mem_append_right _ h)))
theorem qfX10_everyAsker : Good vfX10_everyAsker := gd_cons (by decide +kernel) (gd_app (gd_dec (by decide +kernel) : Good [.fieldLink RX10 10 "HookPier" "plan" "LHookPier$Plan;", .fieldLink RX10 246 "HookPier$Plan" "askers" "I"]) (gd_app qsX10 qsX6))
set_option maxHeartbeats 2000000 in
set_option maxRecDepth 100000 in
theorem kfX10_everyAsker (l : Launch) (dC : Nat → ClassId) (dI : Nat → Nat → Nat) (a0 : Nat) (a1 : Nat) (up : Nat → Nat) (kp : Nat → ClassId) (g4 : Value) (g5 : Value) (g6 : Value) (g7 : Value) (g8 : Value) (g9 : Value) (g10 : Value) (g11 : Value) (g12 : Value) (p_p : TX6_p) (sz : Nat) (out : Int32) (h : f_X10_everyAsker p_p = out) : KDi l yX10_everyAsker vfX10_everyAsker ({ frames := 0, cells := 0, slots := 0, locals := 0 }) (dC, dI) [.ref a0] sz ((a0, .inr (7, [.ref a1, g4, g5, g6, g7, g8, g9, g10, g11, g12])) :: bX6 a1 up kp p_p []) (tX6 kp ([])) (fun (r : Int32) _ => r = out) 0 0 := by
  refine Met.ofW (cc := cX10_everyAsker) (maxL := 1) (ret := (some .int)) (by decide) rfl ?_
  intro p e s m args below meth c s₁ B0 hml hv
  obtain ⟨rfl, hsz, hP, hK, hD0, hN⟩ := hv
  have hx := B0.exec
  have hb := B0.bytes
  have hr := B0.returns
  have hts := atoms_spec (ws := vfX10_everyAsker) B0.pre
  have hown : s.vm.findClass RX10 = some m.cls := findClass_of_methodNamed B0.named
  have hlocks := B0.notSynchronized
  subst hsz
  have hD := hD0.self (sz := s.heap.size)
  generalize hAe : va_A ((a0, .inr (7, [.ref a1, g4, g5, g6, g7, g8, g9, g10, g11, g12])) :: bX6 a1 up kp p_p []) s.heap.size = A at hD ⊢
  have hA : ∀ q : Nat, s.heap.size ≤ q → A q := fun q h => by rw [← hAe]; exact Or.inr h
  have hS : va_S A s.heap s.heap [] := va_S.rf
  have hP : va_P (dC, dI) vwCl ((a0, .inr (7, [.ref a1, g4, g5, g6, g7, g8, g9, g10, g11, g12])) :: bX6 a1 up kp p_p []) s.heap := hP
  have hl := lv_entry ([.ref a0]) (n := 1) (Nat.le_of_ble_eq_true rfl)
  rw [lg_entry_eq]
  generalize (lg_sl ([.ref a0]) ++ List.replicate (1 - (lg_sl ([.ref a0])).length) Slot.unset).toArray = ls at hl ⊢
  have hl : lv_has ls 1 [(0, .ref a0)] := hl
  refine W_q (fun QQ hQQ => ?_)
  rw [f_X10_everyAsker] at h
  refine lv_iconst (v := 1) hx hb (zat zrX10_everyAsker_0_ok 0 rfl) (by decide) ?_
  refine lv_aload_n hx hb (zat zrX10_everyAsker_0_ok 1 rfl) rfl (lv_at hl 0 rfl) ?_
  refine va_get (D := (dC, dI)) (ci := 7) (v := .ref a1) (C := RX10) (T := TX10) (N := 10) hx hb hts ifX10_everyAsker_X10 hown hK hP 0 rfl rfl 0 (by decide) (hts (.fieldLink RX10 10 "HookPier" "plan" "LHookPier$Plan;") (List.mem_of_getElem? (i := 1) rfl)) (fun _ h9 => h9) rfl (zat zrX10_everyAsker_0_ok 2 rfl) ?_
  refine va_get (D := (dC, dI)) (ci := 4) (v := .int p_p.2.2.2.2.2.1) (C := RX6) (T := TX6) (N := 18) hx hb hts ifX10_everyAsker_X6 hown hK hP 1 rfl rfl 5 (by decide) (hts (.fieldLink RX10 246 "HookPier$Plan" "askers" "I") (List.mem_of_getElem? (i := 2) rfl)) (fun _ h9 => h9) rfl (zat zrX10_everyAsker_0_ok 3 rfl) ?_
  refine lv_ishl hx hb (zat zrX10_everyAsker_0_ok 4 rfl) ?_
  refine lv_iconst (v := 1) hx hb (zat zrX10_everyAsker_0_ok 5 rfl) (by decide) ?_
  refine lv_isub hx hb (zat zrX10_everyAsker_0_ok 6 rfl) ?_
  obtain rfl := h
  obtain ⟨hP9, hD9⟩ := pd_sub ((a0, .inr (7, [.ref a1, g4, g5, g6, g7, g8, g9, g10, g11, g12])) :: bX6 a1 up kp p_p []) [0, 1, 2, 3, 4, 5, 6, 7, 8, 9, 10] hP hD (by decide) rfl
  have hK9 := hK.sub (tys' := []) [] rfl
  rw [hQQ]
  exact W.iret (v := (((1 : Int32) <<< (p_p.2.2.2.2.2.1 &&& 31)) - (1 : Int32))) hx hb hr (fun t ht hW => ⟨⟨(((1 : Int32) <<< (p_p.2.2.2.2.2.1 &&& 31)) - (1 : Int32)), (), rfl, rfl, by rw [ht]; exact hP9, va_K.moved hW.alike hK9, hD9⟩, hS.F ht⟩) hS.2.2 (zat zrX10_everyAsker_0_ok 7 rfl)
noncomputable def zrX8_keepRow_0 : List ZR := zc 0 true (.aload_n 0) 1 (zc 1 true (.getfield 18) 3 (zc 4 true (.ifCond .ne 21) 3 (zc 7 true (.aload_n 0) 1 (zc 8 true (.getfield 9) 3 (zc 11 true (.iconst 0) 1 (zc 12 true (.aload_n 0) 1 (zc 13 true (.getfield 15) 3 (zc 16 true (.iconst 0) 1 (zc 17 true (.aload_n 0) 1 (zc 18 true (.getfield 9) 3 (zc 21 true (.arraylength) 1 (zc 22 true (.invokestatic 41) 3 (zc 25 true (.aload_n 0) 1 (zc 26 true (.dup) 1 (zc 27 true (.getfield 18) 3 (zc 30 true (.iconst 1) 1 (zc 31 true (.iadd) 1 (zc 32 true (.putfield 18) 3 (zc 35 true (.return_) 1 ([]))))))))))))))))))))
theorem zrX8_keepRow_0_ok : zck 0 ((zby cX8_keepRow).drop 0) zrX8_keepRow_0 = true := by decide +kernel
def vfX8_keepRow : List Cond := List.cons (.code yX8_keepRow cX8_keepRow 1 none) (apW [.fieldLink RX8 18 "HookPier$Seats" "found" "I", .fieldLink RX8 9 "HookPier$Seats" "row" "[I", .fieldLink RX8 15 "HookPier$Seats" "first" "[I", .methodLink RX8 41 arraycopyName, .native arraycopyName, .static arraycopyName, .initialized "java/lang/System"] (wsX80))
theorem ifX8_keepRow_X8 : ∀ w ∈ wsX80, w ∈ vfX8_keepRow := fun _ h => (List.mem_cons_of_mem _ (List.mem_append_right _ h))
theorem qfX8_keepRow : Good vfX8_keepRow := gd_cons (by decide +kernel) (gd_app (gd_dec (by decide +kernel) : Good [.fieldLink RX8 18 "HookPier$Seats" "found" "I", .fieldLink RX8 9 "HookPier$Seats" "row" "[I", .fieldLink RX8 15 "HookPier$Seats" "first" "[I", .methodLink RX8 41 arraycopyName, .native arraycopyName, .static arraycopyName, .initialized "java/lang/System"]) qsX8)
set_option maxHeartbeats 2000000 in
set_option maxRecDepth 100000 in
theorem kfX8_keepRow (l : Launch) (dC : Nat → ClassId) (dI : Nat → Nat → Nat) (a0 : Nat) (us : Nat → Nat) (ks : Nat → ClassId) (s_s : TX8_s) (sz : Nat) (out : TX8_s) (h : f_X8_keepRow s_s = out) : KCv l yX8_keepRow vfX8_keepRow ({ frames := 1, cells := 0, slots := 0, locals := 40 }) (dC, dI) [.ref a0] sz (bX8 a0 us ks s_s []) (tX8 ks ([])) (fun _ => True) (bX8 a0 us ks out []) 0 0 := by
  refine Met.ofW (cc := cX8_keepRow) (maxL := 1) (ret := none) (by decide) rfl ?_
  intro p e s m args below meth c s₁ B0 hml hv
  obtain ⟨rfl, hsz, hP, hK, hD0, hN⟩ := hv
  have hx := B0.exec
  have hb := B0.bytes
  have hr := B0.returns
  have hts := atoms_spec (ws := vfX8_keepRow) B0.pre
  have hown : s.vm.findClass RX8 = some m.cls := findClass_of_methodNamed B0.named
  have hlocks := B0.notSynchronized
  subst hsz
  have hD := hD0.self (sz := s.heap.size)
  generalize hAe : va_A (bX8 a0 us ks s_s []) s.heap.size = A at hD ⊢
  have hA : ∀ q : Nat, s.heap.size ≤ q → A q := fun q h => by rw [← hAe]; exact Or.inr h
  have hS : va_S A s.heap s.heap [] := va_S.rf
  have hP : va_P (dC, dI) vwCl (bX8 a0 us ks s_s []) s.heap := hP
  have hl := lv_entry ([.ref a0]) (n := 1) (Nat.le_of_ble_eq_true rfl)
  rw [lg_entry_eq]
  generalize (lg_sl ([.ref a0]) ++ List.replicate (1 - (lg_sl ([.ref a0])).length) Slot.unset).toArray = ls at hl ⊢
  have hl : lv_has ls 1 [(0, .ref a0)] := hl
  refine W_q (fun QQ hQQ => ?_)
  rw [f_X8_keepRow] at h
  refine lv_aload_n hx hb (zat zrX8_keepRow_0_ok 0 rfl) rfl (lv_at hl 0 rfl) ?_
  refine va_get (D := (dC, dI)) (ci := 6) (v := .int s_s.2.2) (C := RX8) (T := TX8) (N := 3) hx hb hts ifX8_keepRow_X8 hown hK hP 0 rfl rfl 2 (by decide) (hts (.fieldLink RX8 18 "HookPier$Seats" "found" "I") (List.mem_of_getElem? (i := 1) rfl)) (fun _ h9 => h9) rfl (zat zrX8_keepRow_0_ok 1 rfl) ?_
  have J25 : ∀ (v25_s_s : TX8_s) (H : Heap) (locs : List Loc) (ls : Array Slot), f_X8_keepRow_J25 v25_s_s = out → va_P (dC, dI) vwCl (bX8 a0 us ks v25_s_s []) H → va_D A (bX8 a0 us ks v25_s_s []) → va_S A s.heap H locs → lv_has ls 1 [(0, .ref a0)] → W p l e (headSpec vfX8_keepRow { frames := 1, cells := 0, slots := 0, locals := 40 }).room s m ([.ref a0]).toArray below meth c H locs 0 0 QQ (F0 m 25 ls []) := by
    intro v25_s_s H locs ls h  hP hD hS hl
    rw [f_X8_keepRow_J25] at h
    refine lv_aload_n hx hb (zat zrX8_keepRow_0_ok 13 rfl) rfl (lv_at hl 0 rfl) ?_
    refine lv_dup hx hb (zat zrX8_keepRow_0_ok 14 rfl) rfl ?_
    refine va_get (D := (dC, dI)) (ci := 6) (v := .int v25_s_s.2.2) (C := RX8) (T := TX8) (N := 3) hx hb hts ifX8_keepRow_X8 hown hK hP 0 rfl rfl 2 (by decide) (hts (.fieldLink RX8 18 "HookPier$Seats" "found" "I") (List.mem_of_getElem? (i := 1) rfl)) (fun _ h9 => h9) rfl (zat zrX8_keepRow_0_ok 15 rfl) ?_
    refine lv_iconst (v := 1) hx hb (zat zrX8_keepRow_0_ok 16 rfl) (by decide) ?_
    refine lv_iadd hx hb (zat zrX8_keepRow_0_ok 17 rfl) ?_
    refine va_put (D := (dC, dI)) (ci := 6) (v := .int (v25_s_s.2.2 + (1 : Int32))) (ty := .int) (C := RX8) (T := TX8) (N := 3) hx hb hts ifX8_keepRow_X8 tyX8 tyX8_ok nmX8 hown hK hP hD hS 0 rfl rfl 2 (by decide) (hts (.fieldLink RX8 18 "HookPier$Seats" "found" "I") (List.mem_of_getElem? (i := 1) rfl)) (fun _ h9 => h9) rfl (by decide +kernel) rfl rfl (Nat.le_of_ble_eq_true rfl) (zat zrX8_keepRow_0_ok 18 rfl) (fun H locs hP hD hS => ?_)
    obtain ⟨hP, hD⟩ := pd_mk (bX8 a0 us ks (v25_s_s.1, v25_s_s.2.1, (v25_s_s.2.2 + (1 : Int32))) []) hP hD
    obtain rfl := h
    obtain ⟨hP9, hD9⟩ := pd_sub (bX8 a0 us ks (v25_s_s.1, v25_s_s.2.1, (v25_s_s.2.2 + (1 : Int32))) []) [0, 1, 2] hP hD (by decide) rfl
    have hK9 := hK.sub (tys' := []) [] rfl
    rw [hQQ]
    exact W.vret hx hb hr (fun t ht hW => ⟨⟨(), rfl, trivial, by rw [ht]; exact hP9, va_K.moved hW.alike hK9, hD9⟩, hS.F ht⟩) hS.2.2 (zat zrX8_keepRow_0_ok 19 rfl)
  refine lv_if_ne (tgt := 25) hx hb (zat zrX8_keepRow_0_ok 2 rfl) (by decide) (fun c4 => ?_) (fun c4 => ?_)
  · have h := (if_neg c4).symm.trans h
    exact J25 s_s s.heap _ ls h  hP hD hS (lv_sub hl [0] rfl)
  · have h := (if_pos c4).symm.trans h
    refine lv_aload_n hx hb (zat zrX8_keepRow_0_ok 3 rfl) rfl (lv_at hl 0 rfl) ?_
    refine va_get (D := (dC, dI)) (ci := 6) (v := .ref (us 0)) (C := RX8) (T := TX8) (N := 3) hx hb hts ifX8_keepRow_X8 hown hK hP 0 rfl rfl 0 (by decide) (hts (.fieldLink RX8 9 "HookPier$Seats" "row" "[I") (List.mem_of_getElem? (i := 2) rfl)) (fun _ h9 => h9) rfl (zat zrX8_keepRow_0_ok 4 rfl) ?_
    refine lv_iconst (v := 0) hx hb (zat zrX8_keepRow_0_ok 5 rfl) (by decide) ?_
    refine lv_aload_n hx hb (zat zrX8_keepRow_0_ok 6 rfl) rfl (lv_at hl 0 rfl) ?_
    refine va_get (D := (dC, dI)) (ci := 6) (v := .ref (us 1)) (C := RX8) (T := TX8) (N := 3) hx hb hts ifX8_keepRow_X8 hown hK hP 0 rfl rfl 1 (by decide) (hts (.fieldLink RX8 15 "HookPier$Seats" "first" "[I") (List.mem_of_getElem? (i := 3) rfl)) (fun _ h9 => h9) rfl (zat zrX8_keepRow_0_ok 7 rfl) ?_
    refine lv_iconst (v := 0) hx hb (zat zrX8_keepRow_0_ok 8 rfl) (by decide) ?_
    refine lv_aload_n hx hb (zat zrX8_keepRow_0_ok 9 rfl) rfl (lv_at hl 0 rfl) ?_
    refine va_get (D := (dC, dI)) (ci := 6) (v := .ref (us 0)) (C := RX8) (T := TX8) (N := 3) hx hb hts ifX8_keepRow_X8 hown hK hP 0 rfl rfl 0 (by decide) (hts (.fieldLink RX8 9 "HookPier$Seats" "row" "[I") (List.mem_of_getElem? (i := 2) rfl)) (fun _ h9 => h9) rfl (zat zrX8_keepRow_0_ok 10 rfl) ?_
    refine va_alen (v := 5) hx hb hK hP 1 0 rfl rfl rfl (zat zrX8_keepRow_0_ok 11 rfl) ?_
    refine va_copyi hx hb (by rw [hml]; exact hl.1.symm) hown (hts (.methodLink RX8 41 arraycopyName) (List.mem_of_getElem? (i := 4) rfl)) (hts (.native arraycopyName) (List.mem_of_getElem? (i := 5) rfl)) (hts (.static arraycopyName) (List.mem_of_getElem? (i := 6) rfl)) (hts (.initialized "java/lang/System") (List.mem_of_getElem? (i := 7) rfl)) hK hP hD hS 1 2 0 1 rfl rfl rfl rfl rfl (by decide) (by decide) (by decide) (by decide) (by decide) (fun _ _ => rfl) (Nat.le_of_ble_eq_true rfl) (Nat.le_of_ble_eq_true rfl) (zat zrX8_keepRow_0_ok 12 rfl) (fun H locs hP hD hS => ?_)
    obtain ⟨hP, hD⟩ := pd_mk (bX8 a0 us ks (s_s.1, (va_cpy s_s.1 s_s.2.1 (0 : Int32).toNatClampNeg (0 : Int32).toNatClampNeg (5 : Int32).toNatClampNeg), s_s.2.2) []) hP hD
    exact J25 (s_s.1, (va_cpy s_s.1 s_s.2.1 (0 : Int32).toNatClampNeg (0 : Int32).toNatClampNeg (5 : Int32).toNatClampNeg), s_s.2.2) H _ ls h  hP hD hS (lv_sub hl [0] rfl)
noncomputable def zrX8_fill_0 : List ZR := zc 0 true (.iload_n 2) 1 (zc 1 true (.aload_n 1) 1 (zc 2 true (.getfield 26) 3 (zc 5 true (.if_icmp .ge 12) 3 (zc 8 true (.iload_n 2) 1 (zc 9 true (.aload_n 0) 1 (zc 10 true (.getfield 9) 3 (zc 13 true (.arraylength) 1 (zc 14 true (.if_icmp .lt 8) 3 (zc 17 true (.aload_n 0) 1 (zc 18 true (.invokevirtual 31) 3 (zc 21 true (.return_) 1 (zc 22 true (.iload_n 3) 1 (zc 23 true (.iload_n 2) 1 (zc 24 true (.ishr) 1 (zc 25 true (.iconst 1) 1 (zc 26 true (.iand) 1 (zc 27 true (.ifCond .ne 22) 3 (zc 30 true (.aload_n 0) 1 (zc 31 true (.getfield 9) 3 (zc 34 true (.iload_n 2) 1 (zc 35 true (.iconst (-1)) 1 (zc 36 true (.iastore) 1 (zc 37 true (.aload_n 0) 1 (zc 38 true (.aload_n 1) 1 (zc 39 true (.iload_n 2) 1 (zc 40 true (.iconst 1) 1 (zc 41 true (.iadd) 1 (zc 42 true (.iload_n 3) 1 (zc 43 true (.iload 4) 2 (zc 45 true (.invokevirtual 22) 3 (zc 48 true (.return_) 1 (zc 49 true (.iconst 0) 1 (zc 50 true (.istore 5) 2 (zc 52 true (.iload 5) 2 (zc 54 true (.aload_n 1) 1 (zc 55 true (.getfield 34) 3 (zc 58 true (.if_icmp .ge 48) 3 (zc 61 true (.aload_n 0) 1 (zc 62 true (.getfield 18) 3 (zc 65 true (.iload 4) 2 (zc 67 true (.if_icmp .ge 39) 3 (zc 70 true (.aload_n 0) 1 (zc 71 true (.aload_n 1) 1 (zc 72 true (.iload_n 2) 1 (zc 73 true (.iload 5) 2 (zc 75 true (.invokevirtual 37) 3 (zc 78 true (.ifCond .eq 22) 3 (zc 81 true (.aload_n 0) 1 (zc 82 true (.getfield 9) 3 (zc 85 true (.iload_n 2) 1 (zc 86 true (.iload 5) 2 (zc 88 true (.iastore) 1 (zc 89 true (.aload_n 0) 1 (zc 90 true (.aload_n 1) 1 (zc 91 true (.iload_n 2) 1 (zc 92 true (.iconst 1) 1 (zc 93 true (.iadd) 1 (zc 94 true (.iload_n 3) 1 (zc 95 true (.iload 4) 2 (zc 97 true (.invokevirtual 22) 3 (zc 100 true (.iinc 5 1) 3 (zc 103 true (.goto (-51)) 3 (zc 106 true (.return_) 1 ([]))))))))))))))))))))))))))))))))))))))))))))))))))))))))))))))))
theorem zrX8_fill_0_ok : zck 0 ((zby cX8_fill).drop 0) zrX8_fill_0 = true := by decide +kernel
def vfX8_fill_s5 : List Cond := List.cons (.code yX8_fill cX8_fill 6 none) (apW [.fieldLink RX8 26 "HookPier$Plan" "askers" "I", .methodLink RX8 31 yX8_keepRow, .instanceMethod yX8_keepRow, .selects RX8 yX8_keepRow yX8_keepRow, .initialized RX8, .fieldLink RX8 9 "HookPier$Seats" "row" "[I"] (apW wsX60 (apW wsX80 (vfX8_keepRow))))
theorem ifX8_fill_s5_X6 : ∀ w ∈ wsX60, w ∈ vfX8_fill_s5 := fun _ h => (List.mem_cons_of_mem _ (List.mem_append_right _ (List.mem_append_left _ h)))
theorem ifX8_fill_s5_X8 : ∀ w ∈ wsX80, w ∈ vfX8_fill_s5 := fun _ h => (List.mem_cons_of_mem _ (List.mem_append_right _ (List.mem_append_right _ (List.mem_append_left _ h))))
theorem qfX8_fill_s5 : Good vfX8_fill_s5 := gd_cons (by decide +kernel) (gd_app (gd_dec (by decide +kernel) : Good [.fieldLink RX8 26 "HookPier$Plan" "askers" "I", .methodLink RX8 31 yX8_keepRow, .instanceMethod yX8_keepRow, .selects RX8 yX8_keepRow yX8_keepRow, .initialized RX8, .fieldLink RX8 9 "HookPier$Seats" "row" "[I"]) (gd_app qsX6 (gd_app qsX8 qfX8_keepRow)))
theorem gfX8_fill_s5_0 : GoodIn vfX8_fill_s5 (wsV RX8 31 RX8 yX8_keepRow vfX8_keepRow) := goodIn_app (goodIn_r [.methodLink RX8 31 yX8_keepRow, .instanceMethod yX8_keepRow, .selects RX8 yX8_keepRow yX8_keepRow, .initialized RX8] [2, 3, 4, 5] rfl (by decide +kernel)) (goodIn_m (fun _ h => (List.mem_cons_of_mem _ (List.mem_append_right _ (List.mem_append_right _ (List.mem_append_right _ h))))) qfX8_keepRow)
set_option maxHeartbeats 2000000 in
set_option maxRecDepth 100000 in
theorem kfX8_fill_s5 (l : Launch) (dC : Nat → ClassId) (dI : Nat → Nat → Nat) (a0 : Nat) (a1 : Nat) (k3 : Int32) (k4 : Int32) (us : Nat → Nat) (ks : Nat → ClassId) (up : Nat → Nat) (kp : Nat → ClassId) (s_s : TX8_s) (p_p : TX6_p) (sz : Nat) (out : TX8_s) (h : f_X8_fill_s5 k3 k4 s_s p_p = out) : KCv l yX8_fill vfX8_fill_s5 ({ frames := 2, cells := 0, slots := 0, locals := 60 }) (dC, dI) [.ref a0, .ref a1, .int 5, .int k3, .int k4] sz (bX8 a0 us ks s_s (bX6 a1 up kp p_p [])) (tX8 ks (tX6 kp ([]))) (fun _ => True) (bX8 a0 us ks out (bX6 a1 up kp p_p [])) 0 0 := by
  refine Met.ofW (cc := cX8_fill) (maxL := 6) (ret := none) (by decide) rfl ?_
  intro p e s m args below meth c s₁ B0 hml hv
  obtain ⟨rfl, hsz, hP, hK, hD0, hN⟩ := hv
  have hx := B0.exec
  have hb := B0.bytes
  have hr := B0.returns
  have hts := atoms_spec (ws := vfX8_fill_s5) B0.pre
  have hown : s.vm.findClass RX8 = some m.cls := findClass_of_methodNamed B0.named
  have hlocks := B0.notSynchronized
  subst hsz
  have hD := hD0.self (sz := s.heap.size)
  generalize hAe : va_A (bX8 a0 us ks s_s (bX6 a1 up kp p_p [])) s.heap.size = A at hD ⊢
  have hA : ∀ q : Nat, s.heap.size ≤ q → A q := fun q h => by rw [← hAe]; exact Or.inr h
  have hS : va_S A s.heap s.heap [] := va_S.rf
  have hP : va_P (dC, dI) vwCl (bX8 a0 us ks s_s (bX6 a1 up kp p_p [])) s.heap := hP
  have hl := lv_entry ([.ref a0, .ref a1, .int 5, .int k3, .int k4]) (n := 6) (Nat.le_of_ble_eq_true rfl)
  rw [lg_entry_eq]
  generalize (lg_sl ([.ref a0, .ref a1, .int 5, .int k3, .int k4]) ++ List.replicate (6 - (lg_sl ([.ref a0, .ref a1, .int 5, .int k3, .int k4])).length) Slot.unset).toArray = ls at hl ⊢
  have hl : lv_has ls 6 [(0, .ref a0), (1, .ref a1), (2, .int 5), (3, .int k3), (4, .int k4)] := hl
  refine W_q (fun QQ hQQ => ?_)
  rw [f_X8_fill_s5] at h
  refine lv_iload_n hx hb (zat zrX8_fill_0_ok 0 rfl) rfl (lv_at hl 2 rfl) ?_
  refine lv_aload_n hx hb (zat zrX8_fill_0_ok 1 rfl) rfl (lv_at hl 1 rfl) ?_
  refine va_get (D := (dC, dI)) (ci := 4) (v := .int p_p.2.2.2.2.2.1) (C := RX6) (T := TX6) (N := 18) hx hb hts ifX8_fill_s5_X6 hown hK hP 3 rfl rfl 5 (by decide) (hts (.fieldLink RX8 26 "HookPier$Plan" "askers" "I") (List.mem_of_getElem? (i := 1) rfl)) (fun _ h9 => h9) rfl (zat zrX8_fill_0_ok 2 rfl) ?_
  have J17 : ∀ (H : Heap) (locs : List Loc) (ls : Array Slot), f_X8_fill_s5_J17 s_s = out → va_P (dC, dI) vwCl (bX8 a0 us ks s_s (bX6 a1 up kp p_p [])) H → va_D A (bX8 a0 us ks s_s (bX6 a1 up kp p_p [])) → va_S A s.heap H locs → lv_has ls 6 [(0, .ref a0)] → W p l e (headSpec vfX8_fill_s5 { frames := 2, cells := 0, slots := 0, locals := 60 }).room s m ([.ref a0, .ref a1, .int 5, .int k3, .int k4]).toArray below meth c H locs 0 0 QQ (F0 m 17 ls []) := by
    intro  H locs ls h  hP hD hS hl
    rw [f_X8_fill_s5_J17] at h
    refine lv_aload_n hx hb (zat zrX8_fill_0_ok 9 rfl) rfl (lv_at hl 0 rfl) ?_
    obtain ⟨o18, eo18⟩ : ∃ o, o = f_X8_keepRow s_s := ⟨_, rfl⟩
    have h := nm_of h o18 eo18
    refine ck_v (wc := (bX8 a0 us ks s_s [])) (wr := (bX6 a1 up kp p_p [])) hP hD hK hS hA [0, 1, 2] [3, 4, 5, 6, 7, 8, 9, 10, 11, 12] rfl rfl (by decide) (by decide) (by decide) (fun hPc hDc => (va_runV (As := []) (rest := []) ⟨hx, hb, hml, hown, hts⟩ (kfX8_keepRow l dC dI a0 us ks s_s H.size o18 eo18.symm) (cwV 0 hts gfX8_fill_s5_0 rfl rfl rfl (by decide +kernel) ⟨(Nat.le_of_ble_eq_true rfl), (Nat.le_of_ble_eq_true rfl)⟩) (PV hPc (hK.sub (tys' := (tX8 ks ([]))) [0, 1] rfl) hDc hN 0 rfl rfl) rfl rfl hl.1 rfl (lv_room (Nat.le_of_ble_eq_true rfl)) (zat zrX8_fill_0_ok 10 rfl) ⟨(Nat.le_of_ble_eq_true rfl), (Nat.le_of_ble_eq_true rfl)⟩)) (fun _ H locs hw hP hD _ hS => ?_)
    obtain ⟨hP, hD⟩ := pd_mk (bX6 a1 up kp p_p (bX8 a0 us ks o18 [])) hP hD
    obtain rfl := h
    obtain ⟨hP9, hD9⟩ := pd_sub (bX8 a0 us ks o18 (bX6 a1 up kp p_p [])) [10, 11, 12, 0, 1, 2, 3, 4, 5, 6, 7, 8, 9] hP hD (by decide) rfl
    have hK9 := hK.sub (tys' := []) [] rfl
    rw [hQQ]
    exact W.vret hx hb hr (fun t ht hW => ⟨⟨(), rfl, trivial, by rw [ht]; exact hP9, va_K.moved hW.alike hK9, hD9⟩, hS.F ht⟩) hS.2.2 (zat zrX8_fill_0_ok 11 rfl)
  refine lv_icmp_ge (tgt := 17) hx hb (zat zrX8_fill_0_ok 3 rfl) (by decide) (fun c5 => ?_) (fun c5 => ?_)
  · have h := (if_pos c5).symm.trans h
    exact J17  s.heap _ ls h  hP hD hS (lv_sub hl [0] rfl)
  · have h := (if_neg c5).symm.trans h
    refine lv_iload_n hx hb (zat zrX8_fill_0_ok 4 rfl) rfl (lv_at hl 2 rfl) ?_
    refine lv_aload_n hx hb (zat zrX8_fill_0_ok 5 rfl) rfl (lv_at hl 0 rfl) ?_
    refine va_get (D := (dC, dI)) (ci := 6) (v := .ref (us 0)) (C := RX8) (T := TX8) (N := 3) hx hb hts ifX8_fill_s5_X8 hown hK hP 0 rfl rfl 0 (by decide) (hts (.fieldLink RX8 9 "HookPier$Seats" "row" "[I") (List.mem_of_getElem? (i := 6) rfl)) (fun _ h9 => h9) rfl (zat zrX8_fill_0_ok 6 rfl) ?_
    refine va_alen (v := 5) hx hb hK hP 1 0 rfl rfl rfl (zat zrX8_fill_0_ok 7 rfl) ?_
    refine lv_icmp_lt (tgt := 22) hx hb (zat zrX8_fill_0_ok 8 rfl) (by decide) (fun c14 => absurd c14 (by decide)) (fun _ => ?_)
    exact J17  s.heap _ ls h  hP hD hS (lv_sub hl [0] rfl)
noncomputable def zrX8_isFree_0 : List ZR := zc 0 true (.iconst 0) 1 (zc 1 true (.istore 4) 2 (zc 3 true (.iload 4) 2 (zc 5 true (.iload_n 2) 1 (zc 6 true (.if_icmp .ge 40) 3 (zc 9 true (.aload_n 0) 1 (zc 10 true (.getfield 9) 3 (zc 13 true (.iload 4) 2 (zc 15 true (.iaload) 1 (zc 16 true (.iconst (-1)) 1 (zc 17 true (.if_icmp .eq 23) 3 (zc 20 true (.aload_n 1) 1 (zc 21 true (.iload_n 2) 1 (zc 22 true (.iload_n 3) 1 (zc 23 true (.iload 4) 2 (zc 25 true (.aload_n 0) 1 (zc 26 true (.getfield 9) 3 (zc 29 true (.iload 4) 2 (zc 31 true (.iaload) 1 (zc 32 true (.invokevirtual 47) 3 (zc 35 true (.ifCond .eq 5) 3 (zc 38 true (.iconst 0) 1 (zc 39 true (.ireturn) 1 (zc 40 true (.iinc 4 1) 3 (zc 43 true (.goto (-40)) 3 (zc 46 true (.iconst 1) 1 (zc 47 true (.ireturn) 1 ([])))))))))))))))))))))))))))
theorem zrX8_isFree_0_ok : zck 0 ((zby cX8_isFree).drop 0) zrX8_isFree_0 = true := by decide +kernel
def vfX8_isFree : List Cond := List.cons (.code yX8_isFree cX8_isFree 5 (some .boolean)) (apW [.fieldLink RX8 9 "HookPier$Seats" "row" "[I", .methodLink RX8 47 yX6_isTangle, .instanceMethod yX6_isTangle, .selects RX6 yX6_isTangle yX6_isTangle, .initialized RX6] (apW wsX80 (vfX6_isTangle)))
theorem ifX8_isFree_X8 : ∀ w ∈ wsX80, w ∈ vfX8_isFree := fun _ h => (List.mem_cons_of_mem _ (List.mem_append_right _ (List.mem_append_left _ h)))
theorem qfX8_isFree : Good vfX8_isFree := gd_cons (by decide +kernel) (gd_app (gd_dec (by decide +kernel) : Good [.fieldLink RX8 9 "HookPier$Seats" "row" "[I", .methodLink RX8 47 yX6_isTangle, .instanceMethod yX6_isTangle, .selects RX6 yX6_isTangle yX6_isTangle, .initialized RX6]) (gd_app qsX8 qfX6_isTangle))
theorem gfX8_isFree_0 : GoodIn vfX8_isFree (wsV RX8 47 RX6 yX6_isTangle vfX6_isTangle) := goodIn_app (goodIn_r [.methodLink RX8 47 yX6_isTangle, .instanceMethod yX6_isTangle, .selects RX6 yX6_isTangle yX6_isTangle, .initialized RX6] [2, 3, 4, 5] rfl (by decide +kernel)) (goodIn_m (fun _ h => (List.mem_cons_of_mem _ (List.mem_append_right _ (List.mem_append_right _ h)))) qfX6_isTangle)
set_option maxHeartbeats 2000000 in
set_option maxRecDepth 100000 in
theorem kfX8_isFree (l : Launch) (dC : Nat → ClassId) (dI : Nat → Nat → Nat) (a0 : Nat) (a1 : Nat) (k2 : Int32) (k3 : Int32) (us : Nat → Nat) (ks : Nat → ClassId) (up : Nat → Nat) (kp : Nat → ClassId) (s_s : TX8_s) (p_p : TX6_p) (sz : Nat) (out : Int32) (h : f_X8_isFree k2 k3 s_s p_p = some out) : KDi l yX8_isFree vfX8_isFree ({ frames := 2, cells := 0, slots := 0, locals := 45 }) (dC, dI) [.ref a0, .ref a1, .int k2, .int k3] sz (bX8 a0 us ks s_s (bX6 a1 up kp p_p [])) (tX8 ks (tX6 kp ([]))) (fun (r : Int32) _ => r = out ∧ (0 ≤ r.toInt ∧ r.toInt ≤ 1)) 0 0 := by
  refine Met.ofW (cc := cX8_isFree) (maxL := 5) (ret := (some .boolean)) (by decide) rfl ?_
  intro p e s m args below meth c s₁ B0 hml hv
  obtain ⟨rfl, hsz, hP, hK, hD0, hN⟩ := hv
  have hx := B0.exec
  have hb := B0.bytes
  have hr := B0.returns
  have hts := atoms_spec (ws := vfX8_isFree) B0.pre
  have hown : s.vm.findClass RX8 = some m.cls := findClass_of_methodNamed B0.named
  have hlocks := B0.notSynchronized
  subst hsz
  have hD := hD0.self (sz := s.heap.size)
  generalize hAe : va_A (bX8 a0 us ks s_s (bX6 a1 up kp p_p [])) s.heap.size = A at hD ⊢
  have hA : ∀ q : Nat, s.heap.size ≤ q → A q := fun q h => by rw [← hAe]; exact Or.inr h
  have hS : va_S A s.heap s.heap [] := va_S.rf
  have hP : va_P (dC, dI) vwCl (bX8 a0 us ks s_s (bX6 a1 up kp p_p [])) s.heap := hP
  have hl := lv_entry ([.ref a0, .ref a1, .int k2, .int k3]) (n := 5) (Nat.le_of_ble_eq_true rfl)
  rw [lg_entry_eq]
  generalize (lg_sl ([.ref a0, .ref a1, .int k2, .int k3]) ++ List.replicate (5 - (lg_sl ([.ref a0, .ref a1, .int k2, .int k3])).length) Slot.unset).toArray = ls at hl ⊢
  have hl : lv_has ls 5 [(0, .ref a0), (1, .ref a1), (2, .int k2), (3, .int k3)] := hl
  refine W_q (fun QQ hQQ => ?_)
  rw [f_X8_isFree] at h
  refine lv_iconst (v := 0) hx hb (zat zrX8_isFree_0_ok 0 rfl) (by decide) ?_
  refine lv_istore (lv' := [(4, .int 0), (0, .ref a0), (1, .ref a1), (2, .int k2), (3, .int k3)]) hx hb (zat zrX8_isFree_0_ok 1 rfl) hl (by decide) rfl (fun ls hl => ?_)
  have L3 : ∀ (n3 : Nat) (v3_l4 : Int32) (H : Heap) (locs : List Loc) (ls : Array Slot), f_X8_isFree_L3 k2 k3 s_s p_p n3 v3_l4 = some out → va_P (dC, dI) vwCl (bX8 a0 us ks s_s (bX6 a1 up kp p_p [])) H → va_D A (bX8 a0 us ks s_s (bX6 a1 up kp p_p [])) → va_S A s.heap H locs → lv_has ls 5 [(4, .int v3_l4), (0, .ref a0), (1, .ref a1), (2, .int k2), (3, .int k3)] → W p l e (headSpec vfX8_isFree { frames := 2, cells := 0, slots := 0, locals := 45 }).room s m ([.ref a0, .ref a1, .int k2, .int k3]).toArray below meth c H locs 0 0 QQ (F0 m 3 ls []) := by
    intro n3
    induction n3 with
    | zero =>
      intro v3_l4 H locs ls h  _ _ _ _
      rw [f_X8_isFree_L3] at h
      cases h
    | succ n3 ih3 =>
      intro v3_l4 H locs ls h  hP hD hS hl
      rw [f_X8_isFree_L3] at h
      refine lv_iload hx hb (zat zrX8_isFree_0_ok 2 rfl) (lv_at hl 0 rfl) ?_
      refine lv_iload_n hx hb (zat zrX8_isFree_0_ok 3 rfl) rfl (lv_at hl 3 rfl) ?_
      refine lv_icmp_ge (tgt := 46) hx hb (zat zrX8_isFree_0_ok 4 rfl) (by decide) (fun c6 => ?_) (fun c6 => ?_)
      · have h := (if_pos c6).symm.trans h
        refine lv_iconst (v := 1) hx hb (zat zrX8_isFree_0_ok 25 rfl) (by decide) ?_
        obtain rfl := Option.some.inj h
        obtain ⟨hP9, hD9⟩ := pd_sub (bX8 a0 us ks s_s (bX6 a1 up kp p_p [])) [0, 1, 2, 3, 4, 5, 6, 7, 8, 9, 10, 11, 12] hP hD (by decide) rfl
        have hK9 := hK.sub (tys' := []) [] rfl
        rw [hQQ]
        exact W.zret (v := (1 : Int32)) hx hb hr rfl (fun t ht hW => ⟨⟨(1 : Int32), (), rfl, ⟨rfl, (by decide)⟩, by rw [ht]; exact hP9, va_K.moved hW.alike hK9, hD9⟩, hS.F ht⟩) hS.2.2 (zat zrX8_isFree_0_ok 26 rfl)
      · have h := (if_neg c6).symm.trans h
        refine lv_aload_n hx hb (zat zrX8_isFree_0_ok 5 rfl) rfl (lv_at hl 1 rfl) ?_
        refine va_get (D := (dC, dI)) (ci := 6) (v := .ref (us 0)) (C := RX8) (T := TX8) (N := 3) hx hb hts ifX8_isFree_X8 hown hK hP 0 rfl rfl 0 (by decide) (hts (.fieldLink RX8 9 "HookPier$Seats" "row" "[I") (List.mem_of_getElem? (i := 1) rfl)) (fun _ h9 => h9) rfl (zat zrX8_isFree_0_ok 6 rfl) ?_
        refine lv_iload hx hb (zat zrX8_isFree_0_ok 7 rfl) (lv_at hl 0 rfl) ?_
        obtain ⟨hg15, h⟩ := gA_of h
        refine va_iald hx hb hK hP 1 0 rfl rfl hg15 (zat zrX8_isFree_0_ok 8 rfl) ?_
        refine lv_iconst (v := (-1)) hx hb (zat zrX8_isFree_0_ok 9 rfl) (by decide) ?_
        have J40 : ∀ (H : Heap) (locs : List Loc) (ls : Array Slot), f_X8_isFree_J40 (f_X8_isFree_L3 k2 k3 s_s p_p n3) v3_l4 = some out → va_P (dC, dI) vwCl (bX8 a0 us ks s_s (bX6 a1 up kp p_p [])) H → va_D A (bX8 a0 us ks s_s (bX6 a1 up kp p_p [])) → va_S A s.heap H locs → lv_has ls 5 [(4, .int v3_l4), (0, .ref a0), (1, .ref a1), (2, .int k2), (3, .int k3)] → W p l e (headSpec vfX8_isFree { frames := 2, cells := 0, slots := 0, locals := 45 }).room s m ([.ref a0, .ref a1, .int k2, .int k3]).toArray below meth c H locs 0 0 QQ (F0 m 40 ls []) := by
          intro  H locs ls h  hP hD hS hl
          rw [f_X8_isFree_J40] at h
          refine lv_iinc (v := (v3_l4 + (1 : Int32))) (lv' := [(4, .int (v3_l4 + (1 : Int32))), (0, .ref a0), (1, .ref a1), (2, .int k2), (3, .int k3)]) hx hb (zat zrX8_isFree_0_ok 23 rfl) hl (k := 0) rfl rfl (by decide) rfl (fun ls hl => ?_)
          refine lv_goto (tgt := 3) hx hb (zat zrX8_isFree_0_ok 24 rfl) (by decide) ?_
          exact ih3 (v3_l4 + (1 : Int32)) H _ ls h  hP hD hS (lv_sub hl [0, 1, 2, 3, 4] rfl)
        refine lv_icmp_eq (tgt := 40) hx hb (zat zrX8_isFree_0_ok 10 rfl) (by decide) (fun c17 => ?_) (fun c17 => ?_)
        · have h := (if_pos c17).symm.trans h
          exact J40  H _ ls h  hP hD hS (lv_sub hl [0, 1, 2, 3, 4] rfl)
        · have h := (if_neg c17).symm.trans h
          refine lv_aload_n hx hb (zat zrX8_isFree_0_ok 11 rfl) rfl (lv_at hl 2 rfl) ?_
          refine lv_iload_n hx hb (zat zrX8_isFree_0_ok 12 rfl) rfl (lv_at hl 3 rfl) ?_
          refine lv_iload_n hx hb (zat zrX8_isFree_0_ok 13 rfl) rfl (lv_at hl 4 rfl) ?_
          refine lv_iload hx hb (zat zrX8_isFree_0_ok 14 rfl) (lv_at hl 0 rfl) ?_
          refine lv_aload_n hx hb (zat zrX8_isFree_0_ok 15 rfl) rfl (lv_at hl 1 rfl) ?_
          refine va_get (D := (dC, dI)) (ci := 6) (v := .ref (us 0)) (C := RX8) (T := TX8) (N := 3) hx hb hts ifX8_isFree_X8 hown hK hP 0 rfl rfl 0 (by decide) (hts (.fieldLink RX8 9 "HookPier$Seats" "row" "[I") (List.mem_of_getElem? (i := 1) rfl)) (fun _ h9 => h9) rfl (zat zrX8_isFree_0_ok 16 rfl) ?_
          refine lv_iload hx hb (zat zrX8_isFree_0_ok 17 rfl) (lv_at hl 0 rfl) ?_
          obtain ⟨hg31, h⟩ := gA_of h
          refine va_iald hx hb hK hP 1 0 rfl rfl hg31 (zat zrX8_isFree_0_ok 18 rfl) ?_
          obtain ⟨o32, eo32, h⟩ := bd_of h
          refine ck_i (wc := (bX6 a1 up kp p_p [])) (wr := (bX8 a0 us ks s_s [])) hP hD hK hS hA [3, 4, 5, 6, 7, 8, 9, 10, 11, 12] [0, 1, 2] rfl rfl (by decide) (by decide) (by decide) (fun hPc hDc => (va_runV (As := [.int k2, .int k3, .int v3_l4, .int (s_s.1 (v3_l4).toNatClampNeg)]) (rest := []) ⟨hx, hb, hml, hown, hts⟩ (kfX6_isTangle l dC dI a1 k2 k3 v3_l4 (s_s.1 (v3_l4).toNatClampNeg) up kp p_p H.size o32 eo32) (cwV 4 hts gfX8_isFree_0 rfl rfl rfl (by decide +kernel) ⟨(Nat.le_of_ble_eq_true rfl), (Nat.le_of_ble_eq_true rfl)⟩) (PV hPc (hK.sub (tys' := (tX6 kp ([]))) [2, 3, 4, 5, 6, 7, 8, 9, 10] rfl) hDc hN 0 rfl rfl) rfl rfl hl.1 rfl (lv_room (Nat.le_of_ble_eq_true rfl)) (zat zrX8_isFree_0_ok 19 rfl) ⟨(Nat.le_of_ble_eq_true rfl), (Nat.le_of_ble_eq_true rfl)⟩)) (fun r32 _ H locs hw hP hD _ hS => ?_)
          obtain ⟨hw, br32⟩ := hw
          obtain rfl := hw.symm
          obtain ⟨hP, hD⟩ := pd_mk (bX8 a0 us ks s_s (bX6 a1 up kp p_p [])) hP hD
          refine lv_if_eq (tgt := 40) hx hb (zat zrX8_isFree_0_ok 20 rfl) (by decide) (fun c35 => ?_) (fun c35 => ?_)
          · have h := (if_pos c35).symm.trans h
            exact J40  H _ ls h  hP hD hS (lv_sub hl [0, 1, 2, 3, 4] rfl)
          · have h := (if_neg c35).symm.trans h
            refine lv_iconst (v := 0) hx hb (zat zrX8_isFree_0_ok 21 rfl) (by decide) ?_
            obtain rfl := Option.some.inj h
            obtain ⟨hP9, hD9⟩ := pd_sub (bX8 a0 us ks s_s (bX6 a1 up kp p_p [])) [0, 1, 2, 3, 4, 5, 6, 7, 8, 9, 10, 11, 12] hP hD (by decide) rfl
            have hK9 := hK.sub (tys' := []) [] rfl
            rw [hQQ]
            exact W.zret (v := (0 : Int32)) hx hb hr rfl (fun t ht hW => ⟨⟨(0 : Int32), (), rfl, ⟨rfl, (by decide)⟩, by rw [ht]; exact hP9, va_K.moved hW.alike hK9, hD9⟩, hS.F ht⟩) hS.2.2 (zat zrX8_isFree_0_ok 22 rfl)
  exact L3 FU (0 : Int32) s.heap _ ls h  hP hD hS (lv_sub hl [0, 1, 2, 3, 4] rfl)
def vfX8_fill_s4 : List Cond := List.cons (.code yX8_fill cX8_fill 6 none) (apW [.fieldLink RX8 26 "HookPier$Plan" "askers" "I", .methodLink RX8 31 yX8_keepRow, .instanceMethod yX8_keepRow, .selects RX8 yX8_keepRow yX8_keepRow, .initialized RX8, .fieldLink RX8 9 "HookPier$Seats" "row" "[I", .fieldLink RX8 34 "HookPier$Plan" "spots" "I", .fieldLink RX8 18 "HookPier$Seats" "found" "I", .methodLink RX8 37 yX8_isFree, .instanceMethod yX8_isFree, .selects RX8 yX8_isFree yX8_isFree, .methodLink RX8 22 yX8_fill, .instanceMethod yX8_fill, .selects RX8 yX8_fill yX8_fill] (apW wsX60 (apW wsX80 (apW vfX8_keepRow (apW vfX8_isFree (vfX8_fill_s5))))))
theorem ifX8_fill_s4_X6 : ∀ w ∈ wsX60, w ∈ vfX8_fill_s4 := fun _ h => (List.mem_cons_of_mem _ (List.mem_append_right _ (List.mem_append_left _ h)))
theorem ifX8_fill_s4_X8 : ∀ w ∈ wsX80, w ∈ vfX8_fill_s4 := fun _ h => (List.mem_cons_of_mem _ (List.mem_append_right _ (List.mem_append_right _ (List.mem_append_left _ h))))
theorem qfX8_fill_s4 : Good vfX8_fill_s4 := gd_cons (by decide +kernel) (gd_app (gd_dec (by decide +kernel) : Good [.fieldLink RX8 26 "HookPier$Plan" "askers" "I", .methodLink RX8 31 yX8_keepRow, .instanceMethod yX8_keepRow, .selects RX8 yX8_keepRow yX8_keepRow, .initialized RX8, .fieldLink RX8 9 "HookPier$Seats" "row" "[I", .fieldLink RX8 34 "HookPier$Plan" "spots" "I", .fieldLink RX8 18 "HookPier$Seats" "found" "I", .methodLink RX8 37 yX8_isFree, .instanceMethod yX8_isFree, .selects RX8 yX8_isFree yX8_isFree, .methodLink RX8 22 yX8_fill, .instanceMethod yX8_fill, .selects RX8 yX8_fill yX8_fill]) (gd_app qsX6 (gd_app qsX8 (gd_app qfX8_keepRow (gd_app qfX8_isFree qfX8_fill_s5)))))
theorem gfX8_fill_s4_0 : GoodIn vfX8_fill_s4 (wsV RX8 31 RX8 yX8_keepRow vfX8_keepRow) := goodIn_app (goodIn_r [.methodLink RX8 31 yX8_keepRow, .instanceMethod yX8_keepRow, .selects RX8 yX8_keepRow yX8_keepRow, .initialized RX8] [2, 3, 4, 5] rfl (by decide +kernel)) (goodIn_m (fun _ h => (List.mem_cons_of_mem _ (List.mem_append_right _ (List.mem_append_right _ (List.mem_append_right _ (List.mem_append_left _ h)))))) qfX8_keepRow)
theorem gfX8_fill_s4_1 : GoodIn vfX8_fill_s4 (wsV RX8 37 RX8 yX8_isFree vfX8_isFree) := goodIn_app (goodIn_r [.methodLink RX8 37 yX8_isFree, .instanceMethod yX8_isFree, .selects RX8 yX8_isFree yX8_isFree, .initialized RX8] [9, 10, 11, 5] rfl (by decide +kernel)) (goodIn_m (fun _ h => (List.mem_cons_of_mem _ (List.mem_append_right _ (List.mem_append_right _ (List.mem_append_right _ (List.mem_append_right _ (List.mem_append_left _ h))))))) qfX8_isFree)
theorem gfX8_fill_s4_2 : GoodIn vfX8_fill_s4 (wsV RX8 22 RX8 yX8_fill vfX8_fill_s5) := goodIn_app (goodIn_r [.methodLink RX8 22 yX8_fill, .instanceMethod yX8_fill, .selects RX8 yX8_fill yX8_fill, .initialized RX8] [12, 13, 14, 5] rfl (by decide +kernel)) (goodIn_m (fun _ h => (List.mem_cons_of_mem _ (List.mem_append_right _ (List.mem_append_right _ (List.mem_append_right _ (List.mem_append_right _ (List.mem_append_right _ h))))))) qfX8_fill_s5)
set_option maxHeartbeats 2000000 in
set_option maxRecDepth 100000 in
theorem kfX8_fill_s4 (l : Launch) (dC : Nat → ClassId) (dI : Nat → Nat → Nat) (a0 : Nat) (a1 : Nat) (k3 : Int32) (k4 : Int32) (us : Nat → Nat) (ks : Nat → ClassId) (up : Nat → Nat) (kp : Nat → ClassId) (s_s : TX8_s) (p_p : TX6_p) (sz : Nat) (out : TX8_s) (h : f_X8_fill_s4 k3 k4 s_s p_p = some out) : KCv l yX8_fill vfX8_fill_s4 ({ frames := 3, cells := 0, slots := 0, locals := 85 }) (dC, dI) [.ref a0, .ref a1, .int 4, .int k3, .int k4] sz (bX8 a0 us ks s_s (bX6 a1 up kp p_p [])) (tX8 ks (tX6 kp ([]))) (fun _ => True) (bX8 a0 us ks out (bX6 a1 up kp p_p [])) 0 0 := by
  refine Met.ofW (cc := cX8_fill) (maxL := 6) (ret := none) (by decide) rfl ?_
  intro p e s m args below meth c s₁ B0 hml hv
  obtain ⟨rfl, hsz, hP, hK, hD0, hN⟩ := hv
  have hx := B0.exec
  have hb := B0.bytes
  have hr := B0.returns
  have hts := atoms_spec (ws := vfX8_fill_s4) B0.pre
  have hown : s.vm.findClass RX8 = some m.cls := findClass_of_methodNamed B0.named
  have hlocks := B0.notSynchronized
  subst hsz
  have hD := hD0.self (sz := s.heap.size)
  generalize hAe : va_A (bX8 a0 us ks s_s (bX6 a1 up kp p_p [])) s.heap.size = A at hD ⊢
  have hA : ∀ q : Nat, s.heap.size ≤ q → A q := fun q h => by rw [← hAe]; exact Or.inr h
  have hS : va_S A s.heap s.heap [] := va_S.rf
  have hP : va_P (dC, dI) vwCl (bX8 a0 us ks s_s (bX6 a1 up kp p_p [])) s.heap := hP
  have hl := lv_entry ([.ref a0, .ref a1, .int 4, .int k3, .int k4]) (n := 6) (Nat.le_of_ble_eq_true rfl)
  rw [lg_entry_eq]
  generalize (lg_sl ([.ref a0, .ref a1, .int 4, .int k3, .int k4]) ++ List.replicate (6 - (lg_sl ([.ref a0, .ref a1, .int 4, .int k3, .int k4])).length) Slot.unset).toArray = ls at hl ⊢
  have hl : lv_has ls 6 [(0, .ref a0), (1, .ref a1), (2, .int 4), (3, .int k3), (4, .int k4)] := hl
  refine W_q (fun QQ hQQ => ?_)
  rw [f_X8_fill_s4] at h
  refine lv_iload_n hx hb (zat zrX8_fill_0_ok 0 rfl) rfl (lv_at hl 2 rfl) ?_
  refine lv_aload_n hx hb (zat zrX8_fill_0_ok 1 rfl) rfl (lv_at hl 1 rfl) ?_
  refine va_get (D := (dC, dI)) (ci := 4) (v := .int p_p.2.2.2.2.2.1) (C := RX6) (T := TX6) (N := 18) hx hb hts ifX8_fill_s4_X6 hown hK hP 3 rfl rfl 5 (by decide) (hts (.fieldLink RX8 26 "HookPier$Plan" "askers" "I") (List.mem_of_getElem? (i := 1) rfl)) (fun _ h9 => h9) rfl (zat zrX8_fill_0_ok 2 rfl) ?_
  refine lv_icmp_ge (tgt := 17) hx hb (zat zrX8_fill_0_ok 3 rfl) (by decide) (fun c5 => ?_) (fun c5 => ?_)
  · have h := (if_pos c5).symm.trans h
    refine lv_aload_n hx hb (zat zrX8_fill_0_ok 9 rfl) rfl (lv_at hl 0 rfl) ?_
    obtain ⟨o18, eo18⟩ : ∃ o, o = f_X8_keepRow s_s := ⟨_, rfl⟩
    have h := nm_of h o18 eo18
    refine ck_v (wc := (bX8 a0 us ks s_s [])) (wr := (bX6 a1 up kp p_p [])) hP hD hK hS hA [0, 1, 2] [3, 4, 5, 6, 7, 8, 9, 10, 11, 12] rfl rfl (by decide) (by decide) (by decide) (fun hPc hDc => (va_runV (As := []) (rest := []) ⟨hx, hb, hml, hown, hts⟩ (kfX8_keepRow l dC dI a0 us ks s_s s.heap.size o18 eo18.symm) (cwV 0 hts gfX8_fill_s4_0 rfl rfl rfl (by decide +kernel) ⟨(Nat.le_of_ble_eq_true rfl), (Nat.le_of_ble_eq_true rfl)⟩) (PV hPc (hK.sub (tys' := (tX8 ks ([]))) [0, 1] rfl) hDc hN 0 rfl rfl) rfl rfl hl.1 rfl (lv_room (Nat.le_of_ble_eq_true rfl)) (zat zrX8_fill_0_ok 10 rfl) ⟨(Nat.le_of_ble_eq_true rfl), (Nat.le_of_ble_eq_true rfl)⟩)) (fun _ H locs hw hP hD _ hS => ?_)
    obtain ⟨hP, hD⟩ := pd_mk (bX6 a1 up kp p_p (bX8 a0 us ks o18 [])) hP hD
    obtain rfl := Option.some.inj h
    obtain ⟨hP9, hD9⟩ := pd_sub (bX8 a0 us ks o18 (bX6 a1 up kp p_p [])) [10, 11, 12, 0, 1, 2, 3, 4, 5, 6, 7, 8, 9] hP hD (by decide) rfl
    have hK9 := hK.sub (tys' := []) [] rfl
    rw [hQQ]
    exact W.vret hx hb hr (fun t ht hW => ⟨⟨(), rfl, trivial, by rw [ht]; exact hP9, va_K.moved hW.alike hK9, hD9⟩, hS.F ht⟩) hS.2.2 (zat zrX8_fill_0_ok 11 rfl)
  · have h := (if_neg c5).symm.trans h
    refine lv_iload_n hx hb (zat zrX8_fill_0_ok 4 rfl) rfl (lv_at hl 2 rfl) ?_
    refine lv_aload_n hx hb (zat zrX8_fill_0_ok 5 rfl) rfl (lv_at hl 0 rfl) ?_
    refine va_get (D := (dC, dI)) (ci := 6) (v := .ref (us 0)) (C := RX8) (T := TX8) (N := 3) hx hb hts ifX8_fill_s4_X8 hown hK hP 0 rfl rfl 0 (by decide) (hts (.fieldLink RX8 9 "HookPier$Seats" "row" "[I") (List.mem_of_getElem? (i := 6) rfl)) (fun _ h9 => h9) rfl (zat zrX8_fill_0_ok 6 rfl) ?_
    refine va_alen (v := 5) hx hb hK hP 1 0 rfl rfl rfl (zat zrX8_fill_0_ok 7 rfl) ?_
    refine lv_icmp_lt (tgt := 22) hx hb (zat zrX8_fill_0_ok 8 rfl) (by decide) (fun _ => ?_) (fun c14 => absurd c14 (by decide))
    refine lv_iload_n hx hb (zat zrX8_fill_0_ok 12 rfl) rfl (lv_at hl 3 rfl) ?_
    refine lv_iload_n hx hb (zat zrX8_fill_0_ok 13 rfl) rfl (lv_at hl 2 rfl) ?_
    refine lv_ishr hx hb (zat zrX8_fill_0_ok 14 rfl) ?_
    refine lv_iconst (v := 1) hx hb (zat zrX8_fill_0_ok 15 rfl) (by decide) ?_
    refine lv_iand hx hb (zat zrX8_fill_0_ok 16 rfl) ?_
    refine lv_if_ne (tgt := 49) hx hb (zat zrX8_fill_0_ok 17 rfl) (by decide) (fun c27 => ?_) (fun c27 => ?_)
    · have h := (if_neg c27).symm.trans h
      refine lv_iconst (v := 0) hx hb (zat zrX8_fill_0_ok 32 rfl) (by decide) ?_
      refine lv_istore (lv' := [(5, .int 0), (0, .ref a0), (1, .ref a1), (2, .int 4), (3, .int k3), (4, .int k4)]) hx hb (zat zrX8_fill_0_ok 33 rfl) hl (by decide) rfl (fun ls hl => ?_)
      have L52 : ∀ (n52 : Nat) (v52_l5 : Int32) (v52_s_s : TX8_s) (H : Heap) (locs : List Loc) (ls : Array Slot), f_X8_fill_s4_L52 k3 k4 p_p n52 v52_l5 v52_s_s = some out → va_P (dC, dI) vwCl (bX8 a0 us ks v52_s_s (bX6 a1 up kp p_p [])) H → va_D A (bX8 a0 us ks v52_s_s (bX6 a1 up kp p_p [])) → va_S A s.heap H locs → lv_has ls 6 [(5, .int v52_l5), (0, .ref a0), (1, .ref a1), (2, .int 4), (3, .int k3), (4, .int k4)] → W p l e (headSpec vfX8_fill_s4 { frames := 3, cells := 0, slots := 0, locals := 85 }).room s m ([.ref a0, .ref a1, .int 4, .int k3, .int k4]).toArray below meth c H locs 0 0 QQ (F0 m 52 ls []) := by
        intro n52
        induction n52 with
        | zero =>
          intro v52_l5 v52_s_s H locs ls h  _ _ _ _
          rw [f_X8_fill_s4_L52] at h
          cases h
        | succ n52 ih52 =>
          intro v52_l5 v52_s_s H locs ls h  hP hD hS hl
          rw [f_X8_fill_s4_L52] at h
          refine lv_iload hx hb (zat zrX8_fill_0_ok 34 rfl) (lv_at hl 0 rfl) ?_
          refine lv_aload_n hx hb (zat zrX8_fill_0_ok 35 rfl) rfl (lv_at hl 2 rfl) ?_
          refine va_get (D := (dC, dI)) (ci := 4) (v := .int p_p.1) (C := RX6) (T := TX6) (N := 18) hx hb hts ifX8_fill_s4_X6 hown hK hP 3 rfl rfl 0 (by decide) (hts (.fieldLink RX8 34 "HookPier$Plan" "spots" "I") (List.mem_of_getElem? (i := 7) rfl)) (fun _ h9 => h9) rfl (zat zrX8_fill_0_ok 36 rfl) ?_
          refine lv_icmp_ge (tgt := 106) hx hb (zat zrX8_fill_0_ok 37 rfl) (by decide) (fun c58 => ?_) (fun c58 => ?_)
          · have h := (if_pos c58).symm.trans h
            obtain rfl := Option.some.inj h
            obtain ⟨hP9, hD9⟩ := pd_sub (bX8 a0 us ks v52_s_s (bX6 a1 up kp p_p [])) [0, 1, 2, 3, 4, 5, 6, 7, 8, 9, 10, 11, 12] hP hD (by decide) rfl
            have hK9 := hK.sub (tys' := []) [] rfl
            rw [hQQ]
            exact W.vret hx hb hr (fun t ht hW => ⟨⟨(), rfl, trivial, by rw [ht]; exact hP9, va_K.moved hW.alike hK9, hD9⟩, hS.F ht⟩) hS.2.2 (zat zrX8_fill_0_ok 63 rfl)
          · have h := (if_neg c58).symm.trans h
            refine lv_aload_n hx hb (zat zrX8_fill_0_ok 38 rfl) rfl (lv_at hl 1 rfl) ?_
            refine va_get (D := (dC, dI)) (ci := 6) (v := .int v52_s_s.2.2) (C := RX8) (T := TX8) (N := 3) hx hb hts ifX8_fill_s4_X8 hown hK hP 0 rfl rfl 2 (by decide) (hts (.fieldLink RX8 18 "HookPier$Seats" "found" "I") (List.mem_of_getElem? (i := 8) rfl)) (fun _ h9 => h9) rfl (zat zrX8_fill_0_ok 39 rfl) ?_
            refine lv_iload hx hb (zat zrX8_fill_0_ok 40 rfl) (lv_at hl 5 rfl) ?_
            refine lv_icmp_ge (tgt := 106) hx hb (zat zrX8_fill_0_ok 41 rfl) (by decide) (fun c67 => ?_) (fun c67 => ?_)
            · have h := (if_pos c67).symm.trans h
              obtain rfl := Option.some.inj h
              obtain ⟨hP9, hD9⟩ := pd_sub (bX8 a0 us ks v52_s_s (bX6 a1 up kp p_p [])) [0, 1, 2, 3, 4, 5, 6, 7, 8, 9, 10, 11, 12] hP hD (by decide) rfl
              have hK9 := hK.sub (tys' := []) [] rfl
              rw [hQQ]
              exact W.vret hx hb hr (fun t ht hW => ⟨⟨(), rfl, trivial, by rw [ht]; exact hP9, va_K.moved hW.alike hK9, hD9⟩, hS.F ht⟩) hS.2.2 (zat zrX8_fill_0_ok 63 rfl)
            · have h := (if_neg c67).symm.trans h
              refine lv_aload_n hx hb (zat zrX8_fill_0_ok 42 rfl) rfl (lv_at hl 1 rfl) ?_
              refine lv_aload_n hx hb (zat zrX8_fill_0_ok 43 rfl) rfl (lv_at hl 2 rfl) ?_
              refine lv_iload_n hx hb (zat zrX8_fill_0_ok 44 rfl) rfl (lv_at hl 3 rfl) ?_
              refine lv_iload hx hb (zat zrX8_fill_0_ok 45 rfl) (lv_at hl 0 rfl) ?_
              obtain ⟨o75, eo75, h⟩ := bd_of h
              refine ck_i (wc := (bX8 a0 us ks v52_s_s (bX6 a1 up kp p_p []))) (wr := []) hP hD hK hS hA [0, 1, 2, 3, 4, 5, 6, 7, 8, 9, 10, 11, 12] [] rfl rfl (by decide) (by decide) (by decide) (fun hPc hDc => (va_runV (As := [.ref a1, .int 4, .int v52_l5]) (rest := []) ⟨hx, hb, hml, hown, hts⟩ (kfX8_isFree l dC dI a0 a1 (4 : Int32) v52_l5 us ks up kp v52_s_s p_p H.size o75 eo75) (cwV 3 hts gfX8_fill_s4_1 rfl rfl rfl (by decide +kernel) ⟨(Nat.le_of_ble_eq_true rfl), (Nat.le_of_ble_eq_true rfl)⟩) (PV hPc (hK.sub (tys' := (tX8 ks (tX6 kp ([])))) [0, 1, 2, 3, 4, 5, 6, 7, 8, 9, 10] rfl) hDc hN 0 rfl rfl) rfl rfl hl.1 rfl (lv_room (Nat.le_of_ble_eq_true rfl)) (zat zrX8_fill_0_ok 46 rfl) ⟨(Nat.le_of_ble_eq_true rfl), (Nat.le_of_ble_eq_true rfl)⟩)) (fun r75 _ H locs hw hP hD _ hS => ?_)
              obtain ⟨hw, br75⟩ := hw
              obtain rfl := hw.symm
              obtain ⟨hP, hD⟩ := pd_mk (bX8 a0 us ks v52_s_s (bX6 a1 up kp p_p [])) hP hD
              have J100 : ∀ (v100_s_s : TX8_s) (H : Heap) (locs : List Loc) (ls : Array Slot), f_X8_fill_s4_J100 (f_X8_fill_s4_L52 k3 k4 p_p n52) v52_l5 v100_s_s = some out → va_P (dC, dI) vwCl (bX8 a0 us ks v100_s_s (bX6 a1 up kp p_p [])) H → va_D A (bX8 a0 us ks v100_s_s (bX6 a1 up kp p_p [])) → va_S A s.heap H locs → lv_has ls 6 [(5, .int v52_l5), (0, .ref a0), (1, .ref a1), (2, .int 4), (3, .int k3), (4, .int k4)] → W p l e (headSpec vfX8_fill_s4 { frames := 3, cells := 0, slots := 0, locals := 85 }).room s m ([.ref a0, .ref a1, .int 4, .int k3, .int k4]).toArray below meth c H locs 0 0 QQ (F0 m 100 ls []) := by
                intro v100_s_s H locs ls h  hP hD hS hl
                rw [f_X8_fill_s4_J100] at h
                refine lv_iinc (v := (v52_l5 + (1 : Int32))) (lv' := [(5, .int (v52_l5 + (1 : Int32))), (0, .ref a0), (1, .ref a1), (2, .int 4), (3, .int k3), (4, .int k4)]) hx hb (zat zrX8_fill_0_ok 61 rfl) hl (k := 0) rfl rfl (by decide) rfl (fun ls hl => ?_)
                refine lv_goto (tgt := 52) hx hb (zat zrX8_fill_0_ok 62 rfl) (by decide) ?_
                exact ih52 (v52_l5 + (1 : Int32)) v100_s_s H _ ls h  hP hD hS (lv_sub hl [0, 1, 2, 3, 4, 5] rfl)
              refine lv_if_eq (tgt := 100) hx hb (zat zrX8_fill_0_ok 47 rfl) (by decide) (fun c78 => ?_) (fun c78 => ?_)
              · have h := (if_pos c78).symm.trans h
                exact J100 v52_s_s H _ ls h  hP hD hS (lv_sub hl [0, 1, 2, 3, 4, 5] rfl)
              · have h := (if_neg c78).symm.trans h
                refine lv_aload_n hx hb (zat zrX8_fill_0_ok 48 rfl) rfl (lv_at hl 1 rfl) ?_
                refine va_get (D := (dC, dI)) (ci := 6) (v := .ref (us 0)) (C := RX8) (T := TX8) (N := 3) hx hb hts ifX8_fill_s4_X8 hown hK hP 0 rfl rfl 0 (by decide) (hts (.fieldLink RX8 9 "HookPier$Seats" "row" "[I") (List.mem_of_getElem? (i := 6) rfl)) (fun _ h9 => h9) rfl (zat zrX8_fill_0_ok 49 rfl) ?_
                refine lv_iload_n hx hb (zat zrX8_fill_0_ok 50 rfl) rfl (lv_at hl 3 rfl) ?_
                refine lv_iload hx hb (zat zrX8_fill_0_ok 51 rfl) (lv_at hl 0 rfl) ?_
                refine va_iast hx hb hK hP hD hS 1 0 rfl rfl (by unfold vp_in; decide) (zat zrX8_fill_0_ok 52 rfl) (fun H locs hP hD hS => ?_)
                obtain ⟨hP, hD⟩ := pd_mk (bX8 a0 us ks ((upd v52_s_s.1 ((4 : Int32)).toNatClampNeg v52_l5), v52_s_s.2) (bX6 a1 up kp p_p [])) hP hD
                refine lv_aload_n hx hb (zat zrX8_fill_0_ok 53 rfl) rfl (lv_at hl 1 rfl) ?_
                refine lv_aload_n hx hb (zat zrX8_fill_0_ok 54 rfl) rfl (lv_at hl 2 rfl) ?_
                refine lv_iload_n hx hb (zat zrX8_fill_0_ok 55 rfl) rfl (lv_at hl 3 rfl) ?_
                refine lv_iconst (v := 1) hx hb (zat zrX8_fill_0_ok 56 rfl) (by decide) ?_
                refine lv_iadd hx hb (zat zrX8_fill_0_ok 57 rfl) ?_
                refine lv_topi (fun z93 e93 => ?_)
                obtain rfl : z93 = 5 := e93.trans (by decide)
                refine lv_iload_n hx hb (zat zrX8_fill_0_ok 58 rfl) rfl (lv_at hl 4 rfl) ?_
                refine lv_iload hx hb (zat zrX8_fill_0_ok 59 rfl) (lv_at hl 5 rfl) ?_
                obtain ⟨o97, eo97⟩ : ∃ o, o = f_X8_fill_s5 k3 k4 ((upd v52_s_s.1 ((4 : Int32)).toNatClampNeg v52_l5), v52_s_s.2) p_p := ⟨_, rfl⟩
                have h := nm_of h o97 eo97
                refine ck_v (wc := (bX8 a0 us ks ((upd v52_s_s.1 ((4 : Int32)).toNatClampNeg v52_l5), v52_s_s.2) (bX6 a1 up kp p_p []))) (wr := []) hP hD hK hS hA [0, 1, 2, 3, 4, 5, 6, 7, 8, 9, 10, 11, 12] [] rfl rfl (by decide) (by decide) (by decide) (fun hPc hDc => (va_runV (As := [.ref a1, .int 5, .int k3, .int k4]) (rest := []) ⟨hx, hb, hml, hown, hts⟩ (kfX8_fill_s5 l dC dI a0 a1 k3 k4 us ks up kp ((upd v52_s_s.1 ((4 : Int32)).toNatClampNeg v52_l5), v52_s_s.2) p_p H.size o97 eo97.symm) (cwV 4 hts gfX8_fill_s4_2 rfl rfl rfl (by decide +kernel) ⟨(Nat.le_of_ble_eq_true rfl), (Nat.le_of_ble_eq_true rfl)⟩) (PV hPc (hK.sub (tys' := (tX8 ks (tX6 kp ([])))) [0, 1, 2, 3, 4, 5, 6, 7, 8, 9, 10] rfl) hDc hN 0 rfl rfl) rfl rfl hl.1 rfl (lv_room (Nat.le_of_ble_eq_true rfl)) (zat zrX8_fill_0_ok 60 rfl) ⟨(Nat.le_of_ble_eq_true rfl), (Nat.le_of_ble_eq_true rfl)⟩)) (fun _ H locs hw hP hD _ hS => ?_)
                obtain ⟨hP, hD⟩ := pd_mk (bX8 a0 us ks o97 (bX6 a1 up kp p_p [])) hP hD
                exact J100 o97 H _ ls h  hP hD hS (lv_sub hl [0, 1, 2, 3, 4, 5] rfl)
      exact L52 FU (0 : Int32) s_s s.heap _ ls h  hP hD hS (lv_sub hl [0, 1, 2, 3, 4, 5] rfl)
    · have h := (if_pos c27).symm.trans h
      refine lv_aload_n hx hb (zat zrX8_fill_0_ok 18 rfl) rfl (lv_at hl 0 rfl) ?_
      refine va_get (D := (dC, dI)) (ci := 6) (v := .ref (us 0)) (C := RX8) (T := TX8) (N := 3) hx hb hts ifX8_fill_s4_X8 hown hK hP 0 rfl rfl 0 (by decide) (hts (.fieldLink RX8 9 "HookPier$Seats" "row" "[I") (List.mem_of_getElem? (i := 6) rfl)) (fun _ h9 => h9) rfl (zat zrX8_fill_0_ok 19 rfl) ?_
      refine lv_iload_n hx hb (zat zrX8_fill_0_ok 20 rfl) rfl (lv_at hl 2 rfl) ?_
      refine lv_iconst (v := (-1)) hx hb (zat zrX8_fill_0_ok 21 rfl) (by decide) ?_
      refine va_iast hx hb hK hP hD hS 1 0 rfl rfl (by unfold vp_in; decide) (zat zrX8_fill_0_ok 22 rfl) (fun H locs hP hD hS => ?_)
      obtain ⟨hP, hD⟩ := pd_mk (bX8 a0 us ks ((upd s_s.1 ((4 : Int32)).toNatClampNeg (-1 : Int32)), s_s.2) (bX6 a1 up kp p_p [])) hP hD
      refine lv_aload_n hx hb (zat zrX8_fill_0_ok 23 rfl) rfl (lv_at hl 0 rfl) ?_
      refine lv_aload_n hx hb (zat zrX8_fill_0_ok 24 rfl) rfl (lv_at hl 1 rfl) ?_
      refine lv_iload_n hx hb (zat zrX8_fill_0_ok 25 rfl) rfl (lv_at hl 2 rfl) ?_
      refine lv_iconst (v := 1) hx hb (zat zrX8_fill_0_ok 26 rfl) (by decide) ?_
      refine lv_iadd hx hb (zat zrX8_fill_0_ok 27 rfl) ?_
      refine lv_topi (fun z41 e41 => ?_)
      obtain rfl : z41 = 5 := e41.trans (by decide)
      refine lv_iload_n hx hb (zat zrX8_fill_0_ok 28 rfl) rfl (lv_at hl 3 rfl) ?_
      refine lv_iload hx hb (zat zrX8_fill_0_ok 29 rfl) (lv_at hl 4 rfl) ?_
      obtain ⟨o45, eo45⟩ : ∃ o, o = f_X8_fill_s5 k3 k4 ((upd s_s.1 ((4 : Int32)).toNatClampNeg (-1 : Int32)), s_s.2) p_p := ⟨_, rfl⟩
      have h := nm_of h o45 eo45
      refine ck_v (wc := (bX8 a0 us ks ((upd s_s.1 ((4 : Int32)).toNatClampNeg (-1 : Int32)), s_s.2) (bX6 a1 up kp p_p []))) (wr := []) hP hD hK hS hA [0, 1, 2, 3, 4, 5, 6, 7, 8, 9, 10, 11, 12] [] rfl rfl (by decide) (by decide) (by decide) (fun hPc hDc => (va_runV (As := [.ref a1, .int 5, .int k3, .int k4]) (rest := []) ⟨hx, hb, hml, hown, hts⟩ (kfX8_fill_s5 l dC dI a0 a1 k3 k4 us ks up kp ((upd s_s.1 ((4 : Int32)).toNatClampNeg (-1 : Int32)), s_s.2) p_p H.size o45 eo45.symm) (cwV 4 hts gfX8_fill_s4_2 rfl rfl rfl (by decide +kernel) ⟨(Nat.le_of_ble_eq_true rfl), (Nat.le_of_ble_eq_true rfl)⟩) (PV hPc (hK.sub (tys' := (tX8 ks (tX6 kp ([])))) [0, 1, 2, 3, 4, 5, 6, 7, 8, 9, 10] rfl) hDc hN 0 rfl rfl) rfl rfl hl.1 rfl (lv_room (Nat.le_of_ble_eq_true rfl)) (zat zrX8_fill_0_ok 30 rfl) ⟨(Nat.le_of_ble_eq_true rfl), (Nat.le_of_ble_eq_true rfl)⟩)) (fun _ H locs hw hP hD _ hS => ?_)
      obtain ⟨hP, hD⟩ := pd_mk (bX8 a0 us ks o45 (bX6 a1 up kp p_p [])) hP hD
      obtain rfl := Option.some.inj h
      obtain ⟨hP9, hD9⟩ := pd_sub (bX8 a0 us ks o45 (bX6 a1 up kp p_p [])) [0, 1, 2, 3, 4, 5, 6, 7, 8, 9, 10, 11, 12] hP hD (by decide) rfl
      have hK9 := hK.sub (tys' := []) [] rfl
      rw [hQQ]
      exact W.vret hx hb hr (fun t ht hW => ⟨⟨(), rfl, trivial, by rw [ht]; exact hP9, va_K.moved hW.alike hK9, hD9⟩, hS.F ht⟩) hS.2.2 (zat zrX8_fill_0_ok 31 rfl)
def vfX8_fill_s3 : List Cond := List.cons (.code yX8_fill cX8_fill 6 none) (apW [.fieldLink RX8 26 "HookPier$Plan" "askers" "I", .methodLink RX8 31 yX8_keepRow, .instanceMethod yX8_keepRow, .selects RX8 yX8_keepRow yX8_keepRow, .initialized RX8, .fieldLink RX8 9 "HookPier$Seats" "row" "[I", .fieldLink RX8 34 "HookPier$Plan" "spots" "I", .fieldLink RX8 18 "HookPier$Seats" "found" "I", .methodLink RX8 37 yX8_isFree, .instanceMethod yX8_isFree, .selects RX8 yX8_isFree yX8_isFree, .methodLink RX8 22 yX8_fill, .instanceMethod yX8_fill, .selects RX8 yX8_fill yX8_fill] (apW wsX60 (apW wsX80 (apW vfX8_keepRow (apW vfX8_isFree (vfX8_fill_s4))))))
theorem ifX8_fill_s3_X6 : ∀ w ∈ wsX60, w ∈ vfX8_fill_s3 := fun _ h => (List.mem_cons_of_mem _ (List.mem_append_right _ (List.mem_append_left _ h)))
theorem ifX8_fill_s3_X8 : ∀ w ∈ wsX80, w ∈ vfX8_fill_s3 := fun _ h => (List.mem_cons_of_mem _ (List.mem_append_right _ (List.mem_append_right _ (List.mem_append_left _ h))))
theorem qfX8_fill_s3 : Good vfX8_fill_s3 := gd_cons (by decide +kernel) (gd_app (gd_dec (by decide +kernel) : Good [.fieldLink RX8 26 "HookPier$Plan" "askers" "I", .methodLink RX8 31 yX8_keepRow, .instanceMethod yX8_keepRow, .selects RX8 yX8_keepRow yX8_keepRow, .initialized RX8, .fieldLink RX8 9 "HookPier$Seats" "row" "[I", .fieldLink RX8 34 "HookPier$Plan" "spots" "I", .fieldLink RX8 18 "HookPier$Seats" "found" "I", .methodLink RX8 37 yX8_isFree, .instanceMethod yX8_isFree, .selects RX8 yX8_isFree yX8_isFree, .methodLink RX8 22 yX8_fill, .instanceMethod yX8_fill, .selects RX8 yX8_fill yX8_fill]) (gd_app qsX6 (gd_app qsX8 (gd_app qfX8_keepRow (gd_app qfX8_isFree qfX8_fill_s4)))))
theorem gfX8_fill_s3_0 : GoodIn vfX8_fill_s3 (wsV RX8 31 RX8 yX8_keepRow vfX8_keepRow) := goodIn_app (goodIn_r [.methodLink RX8 31 yX8_keepRow, .instanceMethod yX8_keepRow, .selects RX8 yX8_keepRow yX8_keepRow, .initialized RX8] [2, 3, 4, 5] rfl (by decide +kernel)) (goodIn_m (fun _ h => (List.mem_cons_of_mem _ (List.mem_append_right _ (List.mem_append_right _ (List.mem_append_right _ (List.mem_append_left _ h)))))) qfX8_keepRow)
theorem gfX8_fill_s3_1 : GoodIn vfX8_fill_s3 (wsV RX8 37 RX8 yX8_isFree vfX8_isFree) := goodIn_app (goodIn_r [.methodLink RX8 37 yX8_isFree, .instanceMethod yX8_isFree, .selects RX8 yX8_isFree yX8_isFree, .initialized RX8] [9, 10, 11, 5] rfl (by decide +kernel)) (goodIn_m (fun _ h => (List.mem_cons_of_mem _ (List.mem_append_right _ (List.mem_append_right _ (List.mem_append_right _ (List.mem_append_right _ (List.mem_append_left _ h))))))) qfX8_isFree)
theorem gfX8_fill_s3_2 : GoodIn vfX8_fill_s3 (wsV RX8 22 RX8 yX8_fill vfX8_fill_s4) := goodIn_app (goodIn_r [.methodLink RX8 22 yX8_fill, .instanceMethod yX8_fill, .selects RX8 yX8_fill yX8_fill, .initialized RX8] [12, 13, 14, 5] rfl (by decide +kernel)) (goodIn_m (fun _ h => (List.mem_cons_of_mem _ (List.mem_append_right _ (List.mem_append_right _ (List.mem_append_right _ (List.mem_append_right _ (List.mem_append_right _ h))))))) qfX8_fill_s4)
set_option maxHeartbeats 2000000 in
set_option maxRecDepth 100000 in
theorem kfX8_fill_s3 (l : Launch) (dC : Nat → ClassId) (dI : Nat → Nat → Nat) (a0 : Nat) (a1 : Nat) (k3 : Int32) (k4 : Int32) (us : Nat → Nat) (ks : Nat → ClassId) (up : Nat → Nat) (kp : Nat → ClassId) (s_s : TX8_s) (p_p : TX6_p) (sz : Nat) (out : TX8_s) (h : f_X8_fill_s3 k3 k4 s_s p_p = some out) : KCv l yX8_fill vfX8_fill_s3 ({ frames := 4, cells := 0, slots := 0, locals := 110 }) (dC, dI) [.ref a0, .ref a1, .int 3, .int k3, .int k4] sz (bX8 a0 us ks s_s (bX6 a1 up kp p_p [])) (tX8 ks (tX6 kp ([]))) (fun _ => True) (bX8 a0 us ks out (bX6 a1 up kp p_p [])) 0 0 := by
  refine Met.ofW (cc := cX8_fill) (maxL := 6) (ret := none) (by decide) rfl ?_
  intro p e s m args below meth c s₁ B0 hml hv
  obtain ⟨rfl, hsz, hP, hK, hD0, hN⟩ := hv
  have hx := B0.exec
  have hb := B0.bytes
  have hr := B0.returns
  have hts := atoms_spec (ws := vfX8_fill_s3) B0.pre
  have hown : s.vm.findClass RX8 = some m.cls := findClass_of_methodNamed B0.named
  have hlocks := B0.notSynchronized
  subst hsz
  have hD := hD0.self (sz := s.heap.size)
  generalize hAe : va_A (bX8 a0 us ks s_s (bX6 a1 up kp p_p [])) s.heap.size = A at hD ⊢
  have hA : ∀ q : Nat, s.heap.size ≤ q → A q := fun q h => by rw [← hAe]; exact Or.inr h
  have hS : va_S A s.heap s.heap [] := va_S.rf
  have hP : va_P (dC, dI) vwCl (bX8 a0 us ks s_s (bX6 a1 up kp p_p [])) s.heap := hP
  have hl := lv_entry ([.ref a0, .ref a1, .int 3, .int k3, .int k4]) (n := 6) (Nat.le_of_ble_eq_true rfl)
  rw [lg_entry_eq]
  generalize (lg_sl ([.ref a0, .ref a1, .int 3, .int k3, .int k4]) ++ List.replicate (6 - (lg_sl ([.ref a0, .ref a1, .int 3, .int k3, .int k4])).length) Slot.unset).toArray = ls at hl ⊢
  have hl : lv_has ls 6 [(0, .ref a0), (1, .ref a1), (2, .int 3), (3, .int k3), (4, .int k4)] := hl
  refine W_q (fun QQ hQQ => ?_)
  rw [f_X8_fill_s3] at h
  refine lv_iload_n hx hb (zat zrX8_fill_0_ok 0 rfl) rfl (lv_at hl 2 rfl) ?_
  refine lv_aload_n hx hb (zat zrX8_fill_0_ok 1 rfl) rfl (lv_at hl 1 rfl) ?_
  refine va_get (D := (dC, dI)) (ci := 4) (v := .int p_p.2.2.2.2.2.1) (C := RX6) (T := TX6) (N := 18) hx hb hts ifX8_fill_s3_X6 hown hK hP 3 rfl rfl 5 (by decide) (hts (.fieldLink RX8 26 "HookPier$Plan" "askers" "I") (List.mem_of_getElem? (i := 1) rfl)) (fun _ h9 => h9) rfl (zat zrX8_fill_0_ok 2 rfl) ?_
  refine lv_icmp_ge (tgt := 17) hx hb (zat zrX8_fill_0_ok 3 rfl) (by decide) (fun c5 => ?_) (fun c5 => ?_)
  · have h := (if_pos c5).symm.trans h
    refine lv_aload_n hx hb (zat zrX8_fill_0_ok 9 rfl) rfl (lv_at hl 0 rfl) ?_
    obtain ⟨o18, eo18⟩ : ∃ o, o = f_X8_keepRow s_s := ⟨_, rfl⟩
    have h := nm_of h o18 eo18
    refine ck_v (wc := (bX8 a0 us ks s_s [])) (wr := (bX6 a1 up kp p_p [])) hP hD hK hS hA [0, 1, 2] [3, 4, 5, 6, 7, 8, 9, 10, 11, 12] rfl rfl (by decide) (by decide) (by decide) (fun hPc hDc => (va_runV (As := []) (rest := []) ⟨hx, hb, hml, hown, hts⟩ (kfX8_keepRow l dC dI a0 us ks s_s s.heap.size o18 eo18.symm) (cwV 0 hts gfX8_fill_s3_0 rfl rfl rfl (by decide +kernel) ⟨(Nat.le_of_ble_eq_true rfl), (Nat.le_of_ble_eq_true rfl)⟩) (PV hPc (hK.sub (tys' := (tX8 ks ([]))) [0, 1] rfl) hDc hN 0 rfl rfl) rfl rfl hl.1 rfl (lv_room (Nat.le_of_ble_eq_true rfl)) (zat zrX8_fill_0_ok 10 rfl) ⟨(Nat.le_of_ble_eq_true rfl), (Nat.le_of_ble_eq_true rfl)⟩)) (fun _ H locs hw hP hD _ hS => ?_)
    obtain ⟨hP, hD⟩ := pd_mk (bX6 a1 up kp p_p (bX8 a0 us ks o18 [])) hP hD
    obtain rfl := Option.some.inj h
    obtain ⟨hP9, hD9⟩ := pd_sub (bX8 a0 us ks o18 (bX6 a1 up kp p_p [])) [10, 11, 12, 0, 1, 2, 3, 4, 5, 6, 7, 8, 9] hP hD (by decide) rfl
    have hK9 := hK.sub (tys' := []) [] rfl
    rw [hQQ]
    exact W.vret hx hb hr (fun t ht hW => ⟨⟨(), rfl, trivial, by rw [ht]; exact hP9, va_K.moved hW.alike hK9, hD9⟩, hS.F ht⟩) hS.2.2 (zat zrX8_fill_0_ok 11 rfl)
  · have h := (if_neg c5).symm.trans h
    refine lv_iload_n hx hb (zat zrX8_fill_0_ok 4 rfl) rfl (lv_at hl 2 rfl) ?_
    refine lv_aload_n hx hb (zat zrX8_fill_0_ok 5 rfl) rfl (lv_at hl 0 rfl) ?_
    refine va_get (D := (dC, dI)) (ci := 6) (v := .ref (us 0)) (C := RX8) (T := TX8) (N := 3) hx hb hts ifX8_fill_s3_X8 hown hK hP 0 rfl rfl 0 (by decide) (hts (.fieldLink RX8 9 "HookPier$Seats" "row" "[I") (List.mem_of_getElem? (i := 6) rfl)) (fun _ h9 => h9) rfl (zat zrX8_fill_0_ok 6 rfl) ?_
    refine va_alen (v := 5) hx hb hK hP 1 0 rfl rfl rfl (zat zrX8_fill_0_ok 7 rfl) ?_
    refine lv_icmp_lt (tgt := 22) hx hb (zat zrX8_fill_0_ok 8 rfl) (by decide) (fun _ => ?_) (fun c14 => absurd c14 (by decide))
    refine lv_iload_n hx hb (zat zrX8_fill_0_ok 12 rfl) rfl (lv_at hl 3 rfl) ?_
    refine lv_iload_n hx hb (zat zrX8_fill_0_ok 13 rfl) rfl (lv_at hl 2 rfl) ?_
    refine lv_ishr hx hb (zat zrX8_fill_0_ok 14 rfl) ?_
    refine lv_iconst (v := 1) hx hb (zat zrX8_fill_0_ok 15 rfl) (by decide) ?_
    refine lv_iand hx hb (zat zrX8_fill_0_ok 16 rfl) ?_
    refine lv_if_ne (tgt := 49) hx hb (zat zrX8_fill_0_ok 17 rfl) (by decide) (fun c27 => ?_) (fun c27 => ?_)
    · have h := (if_neg c27).symm.trans h
      refine lv_iconst (v := 0) hx hb (zat zrX8_fill_0_ok 32 rfl) (by decide) ?_
      refine lv_istore (lv' := [(5, .int 0), (0, .ref a0), (1, .ref a1), (2, .int 3), (3, .int k3), (4, .int k4)]) hx hb (zat zrX8_fill_0_ok 33 rfl) hl (by decide) rfl (fun ls hl => ?_)
      have L52 : ∀ (n52 : Nat) (v52_l5 : Int32) (v52_s_s : TX8_s) (H : Heap) (locs : List Loc) (ls : Array Slot), f_X8_fill_s3_L52 k3 k4 p_p n52 v52_l5 v52_s_s = some out → va_P (dC, dI) vwCl (bX8 a0 us ks v52_s_s (bX6 a1 up kp p_p [])) H → va_D A (bX8 a0 us ks v52_s_s (bX6 a1 up kp p_p [])) → va_S A s.heap H locs → lv_has ls 6 [(5, .int v52_l5), (0, .ref a0), (1, .ref a1), (2, .int 3), (3, .int k3), (4, .int k4)] → W p l e (headSpec vfX8_fill_s3 { frames := 4, cells := 0, slots := 0, locals := 110 }).room s m ([.ref a0, .ref a1, .int 3, .int k3, .int k4]).toArray below meth c H locs 0 0 QQ (F0 m 52 ls []) := by
        intro n52
        induction n52 with
        | zero =>
          intro v52_l5 v52_s_s H locs ls h  _ _ _ _
          rw [f_X8_fill_s3_L52] at h
          cases h
        | succ n52 ih52 =>
          intro v52_l5 v52_s_s H locs ls h  hP hD hS hl
          rw [f_X8_fill_s3_L52] at h
          refine lv_iload hx hb (zat zrX8_fill_0_ok 34 rfl) (lv_at hl 0 rfl) ?_
          refine lv_aload_n hx hb (zat zrX8_fill_0_ok 35 rfl) rfl (lv_at hl 2 rfl) ?_
          refine va_get (D := (dC, dI)) (ci := 4) (v := .int p_p.1) (C := RX6) (T := TX6) (N := 18) hx hb hts ifX8_fill_s3_X6 hown hK hP 3 rfl rfl 0 (by decide) (hts (.fieldLink RX8 34 "HookPier$Plan" "spots" "I") (List.mem_of_getElem? (i := 7) rfl)) (fun _ h9 => h9) rfl (zat zrX8_fill_0_ok 36 rfl) ?_
          refine lv_icmp_ge (tgt := 106) hx hb (zat zrX8_fill_0_ok 37 rfl) (by decide) (fun c58 => ?_) (fun c58 => ?_)
          · have h := (if_pos c58).symm.trans h
            obtain rfl := Option.some.inj h
            obtain ⟨hP9, hD9⟩ := pd_sub (bX8 a0 us ks v52_s_s (bX6 a1 up kp p_p [])) [0, 1, 2, 3, 4, 5, 6, 7, 8, 9, 10, 11, 12] hP hD (by decide) rfl
            have hK9 := hK.sub (tys' := []) [] rfl
            rw [hQQ]
            exact W.vret hx hb hr (fun t ht hW => ⟨⟨(), rfl, trivial, by rw [ht]; exact hP9, va_K.moved hW.alike hK9, hD9⟩, hS.F ht⟩) hS.2.2 (zat zrX8_fill_0_ok 63 rfl)
          · have h := (if_neg c58).symm.trans h
            refine lv_aload_n hx hb (zat zrX8_fill_0_ok 38 rfl) rfl (lv_at hl 1 rfl) ?_
            refine va_get (D := (dC, dI)) (ci := 6) (v := .int v52_s_s.2.2) (C := RX8) (T := TX8) (N := 3) hx hb hts ifX8_fill_s3_X8 hown hK hP 0 rfl rfl 2 (by decide) (hts (.fieldLink RX8 18 "HookPier$Seats" "found" "I") (List.mem_of_getElem? (i := 8) rfl)) (fun _ h9 => h9) rfl (zat zrX8_fill_0_ok 39 rfl) ?_
            refine lv_iload hx hb (zat zrX8_fill_0_ok 40 rfl) (lv_at hl 5 rfl) ?_
            refine lv_icmp_ge (tgt := 106) hx hb (zat zrX8_fill_0_ok 41 rfl) (by decide) (fun c67 => ?_) (fun c67 => ?_)
            · have h := (if_pos c67).symm.trans h
              obtain rfl := Option.some.inj h
              obtain ⟨hP9, hD9⟩ := pd_sub (bX8 a0 us ks v52_s_s (bX6 a1 up kp p_p [])) [0, 1, 2, 3, 4, 5, 6, 7, 8, 9, 10, 11, 12] hP hD (by decide) rfl
              have hK9 := hK.sub (tys' := []) [] rfl
              rw [hQQ]
              exact W.vret hx hb hr (fun t ht hW => ⟨⟨(), rfl, trivial, by rw [ht]; exact hP9, va_K.moved hW.alike hK9, hD9⟩, hS.F ht⟩) hS.2.2 (zat zrX8_fill_0_ok 63 rfl)
            · have h := (if_neg c67).symm.trans h
              refine lv_aload_n hx hb (zat zrX8_fill_0_ok 42 rfl) rfl (lv_at hl 1 rfl) ?_
              refine lv_aload_n hx hb (zat zrX8_fill_0_ok 43 rfl) rfl (lv_at hl 2 rfl) ?_
              refine lv_iload_n hx hb (zat zrX8_fill_0_ok 44 rfl) rfl (lv_at hl 3 rfl) ?_
              refine lv_iload hx hb (zat zrX8_fill_0_ok 45 rfl) (lv_at hl 0 rfl) ?_
              obtain ⟨o75, eo75, h⟩ := bd_of h
              refine ck_i (wc := (bX8 a0 us ks v52_s_s (bX6 a1 up kp p_p []))) (wr := []) hP hD hK hS hA [0, 1, 2, 3, 4, 5, 6, 7, 8, 9, 10, 11, 12] [] rfl rfl (by decide) (by decide) (by decide) (fun hPc hDc => (va_runV (As := [.ref a1, .int 3, .int v52_l5]) (rest := []) ⟨hx, hb, hml, hown, hts⟩ (kfX8_isFree l dC dI a0 a1 (3 : Int32) v52_l5 us ks up kp v52_s_s p_p H.size o75 eo75) (cwV 3 hts gfX8_fill_s3_1 rfl rfl rfl (by decide +kernel) ⟨(Nat.le_of_ble_eq_true rfl), (Nat.le_of_ble_eq_true rfl)⟩) (PV hPc (hK.sub (tys' := (tX8 ks (tX6 kp ([])))) [0, 1, 2, 3, 4, 5, 6, 7, 8, 9, 10] rfl) hDc hN 0 rfl rfl) rfl rfl hl.1 rfl (lv_room (Nat.le_of_ble_eq_true rfl)) (zat zrX8_fill_0_ok 46 rfl) ⟨(Nat.le_of_ble_eq_true rfl), (Nat.le_of_ble_eq_true rfl)⟩)) (fun r75 _ H locs hw hP hD _ hS => ?_)
              obtain ⟨hw, br75⟩ := hw
              obtain rfl := hw.symm
              obtain ⟨hP, hD⟩ := pd_mk (bX8 a0 us ks v52_s_s (bX6 a1 up kp p_p [])) hP hD
              have J100 : ∀ (v100_s_s : TX8_s) (H : Heap) (locs : List Loc) (ls : Array Slot), f_X8_fill_s3_J100 (f_X8_fill_s3_L52 k3 k4 p_p n52) v52_l5 v100_s_s = some out → va_P (dC, dI) vwCl (bX8 a0 us ks v100_s_s (bX6 a1 up kp p_p [])) H → va_D A (bX8 a0 us ks v100_s_s (bX6 a1 up kp p_p [])) → va_S A s.heap H locs → lv_has ls 6 [(5, .int v52_l5), (0, .ref a0), (1, .ref a1), (2, .int 3), (3, .int k3), (4, .int k4)] → W p l e (headSpec vfX8_fill_s3 { frames := 4, cells := 0, slots := 0, locals := 110 }).room s m ([.ref a0, .ref a1, .int 3, .int k3, .int k4]).toArray below meth c H locs 0 0 QQ (F0 m 100 ls []) := by
                intro v100_s_s H locs ls h  hP hD hS hl
                rw [f_X8_fill_s3_J100] at h
                refine lv_iinc (v := (v52_l5 + (1 : Int32))) (lv' := [(5, .int (v52_l5 + (1 : Int32))), (0, .ref a0), (1, .ref a1), (2, .int 3), (3, .int k3), (4, .int k4)]) hx hb (zat zrX8_fill_0_ok 61 rfl) hl (k := 0) rfl rfl (by decide) rfl (fun ls hl => ?_)
                refine lv_goto (tgt := 52) hx hb (zat zrX8_fill_0_ok 62 rfl) (by decide) ?_
                exact ih52 (v52_l5 + (1 : Int32)) v100_s_s H _ ls h  hP hD hS (lv_sub hl [0, 1, 2, 3, 4, 5] rfl)
              refine lv_if_eq (tgt := 100) hx hb (zat zrX8_fill_0_ok 47 rfl) (by decide) (fun c78 => ?_) (fun c78 => ?_)
              · have h := (if_pos c78).symm.trans h
                exact J100 v52_s_s H _ ls h  hP hD hS (lv_sub hl [0, 1, 2, 3, 4, 5] rfl)
              · have h := (if_neg c78).symm.trans h
                refine lv_aload_n hx hb (zat zrX8_fill_0_ok 48 rfl) rfl (lv_at hl 1 rfl) ?_
                refine va_get (D := (dC, dI)) (ci := 6) (v := .ref (us 0)) (C := RX8) (T := TX8) (N := 3) hx hb hts ifX8_fill_s3_X8 hown hK hP 0 rfl rfl 0 (by decide) (hts (.fieldLink RX8 9 "HookPier$Seats" "row" "[I") (List.mem_of_getElem? (i := 6) rfl)) (fun _ h9 => h9) rfl (zat zrX8_fill_0_ok 49 rfl) ?_
                refine lv_iload_n hx hb (zat zrX8_fill_0_ok 50 rfl) rfl (lv_at hl 3 rfl) ?_
                refine lv_iload hx hb (zat zrX8_fill_0_ok 51 rfl) (lv_at hl 0 rfl) ?_
                refine va_iast hx hb hK hP hD hS 1 0 rfl rfl (by unfold vp_in; decide) (zat zrX8_fill_0_ok 52 rfl) (fun H locs hP hD hS => ?_)
                obtain ⟨hP, hD⟩ := pd_mk (bX8 a0 us ks ((upd v52_s_s.1 ((3 : Int32)).toNatClampNeg v52_l5), v52_s_s.2) (bX6 a1 up kp p_p [])) hP hD
                refine lv_aload_n hx hb (zat zrX8_fill_0_ok 53 rfl) rfl (lv_at hl 1 rfl) ?_
                refine lv_aload_n hx hb (zat zrX8_fill_0_ok 54 rfl) rfl (lv_at hl 2 rfl) ?_
                refine lv_iload_n hx hb (zat zrX8_fill_0_ok 55 rfl) rfl (lv_at hl 3 rfl) ?_
                refine lv_iconst (v := 1) hx hb (zat zrX8_fill_0_ok 56 rfl) (by decide) ?_
                refine lv_iadd hx hb (zat zrX8_fill_0_ok 57 rfl) ?_
                refine lv_topi (fun z93 e93 => ?_)
                obtain rfl : z93 = 4 := e93.trans (by decide)
                refine lv_iload_n hx hb (zat zrX8_fill_0_ok 58 rfl) rfl (lv_at hl 4 rfl) ?_
                refine lv_iload hx hb (zat zrX8_fill_0_ok 59 rfl) (lv_at hl 5 rfl) ?_
                obtain ⟨o97, eo97, h⟩ := bd_of h
                refine ck_v (wc := (bX8 a0 us ks ((upd v52_s_s.1 ((3 : Int32)).toNatClampNeg v52_l5), v52_s_s.2) (bX6 a1 up kp p_p []))) (wr := []) hP hD hK hS hA [0, 1, 2, 3, 4, 5, 6, 7, 8, 9, 10, 11, 12] [] rfl rfl (by decide) (by decide) (by decide) (fun hPc hDc => (va_runV (As := [.ref a1, .int 4, .int k3, .int k4]) (rest := []) ⟨hx, hb, hml, hown, hts⟩ (kfX8_fill_s4 l dC dI a0 a1 k3 k4 us ks up kp ((upd v52_s_s.1 ((3 : Int32)).toNatClampNeg v52_l5), v52_s_s.2) p_p H.size o97 eo97) (cwV 4 hts gfX8_fill_s3_2 rfl rfl rfl (by decide +kernel) ⟨(Nat.le_of_ble_eq_true rfl), (Nat.le_of_ble_eq_true rfl)⟩) (PV hPc (hK.sub (tys' := (tX8 ks (tX6 kp ([])))) [0, 1, 2, 3, 4, 5, 6, 7, 8, 9, 10] rfl) hDc hN 0 rfl rfl) rfl rfl hl.1 rfl (lv_room (Nat.le_of_ble_eq_true rfl)) (zat zrX8_fill_0_ok 60 rfl) ⟨(Nat.le_of_ble_eq_true rfl), (Nat.le_of_ble_eq_true rfl)⟩)) (fun _ H locs hw hP hD _ hS => ?_)
                obtain ⟨hP, hD⟩ := pd_mk (bX8 a0 us ks o97 (bX6 a1 up kp p_p [])) hP hD
                exact J100 o97 H _ ls h  hP hD hS (lv_sub hl [0, 1, 2, 3, 4, 5] rfl)
      exact L52 FU (0 : Int32) s_s s.heap _ ls h  hP hD hS (lv_sub hl [0, 1, 2, 3, 4, 5] rfl)
    · have h := (if_pos c27).symm.trans h
      refine lv_aload_n hx hb (zat zrX8_fill_0_ok 18 rfl) rfl (lv_at hl 0 rfl) ?_
      refine va_get (D := (dC, dI)) (ci := 6) (v := .ref (us 0)) (C := RX8) (T := TX8) (N := 3) hx hb hts ifX8_fill_s3_X8 hown hK hP 0 rfl rfl 0 (by decide) (hts (.fieldLink RX8 9 "HookPier$Seats" "row" "[I") (List.mem_of_getElem? (i := 6) rfl)) (fun _ h9 => h9) rfl (zat zrX8_fill_0_ok 19 rfl) ?_
      refine lv_iload_n hx hb (zat zrX8_fill_0_ok 20 rfl) rfl (lv_at hl 2 rfl) ?_
      refine lv_iconst (v := (-1)) hx hb (zat zrX8_fill_0_ok 21 rfl) (by decide) ?_
      refine va_iast hx hb hK hP hD hS 1 0 rfl rfl (by unfold vp_in; decide) (zat zrX8_fill_0_ok 22 rfl) (fun H locs hP hD hS => ?_)
      obtain ⟨hP, hD⟩ := pd_mk (bX8 a0 us ks ((upd s_s.1 ((3 : Int32)).toNatClampNeg (-1 : Int32)), s_s.2) (bX6 a1 up kp p_p [])) hP hD
      refine lv_aload_n hx hb (zat zrX8_fill_0_ok 23 rfl) rfl (lv_at hl 0 rfl) ?_
      refine lv_aload_n hx hb (zat zrX8_fill_0_ok 24 rfl) rfl (lv_at hl 1 rfl) ?_
      refine lv_iload_n hx hb (zat zrX8_fill_0_ok 25 rfl) rfl (lv_at hl 2 rfl) ?_
      refine lv_iconst (v := 1) hx hb (zat zrX8_fill_0_ok 26 rfl) (by decide) ?_
      refine lv_iadd hx hb (zat zrX8_fill_0_ok 27 rfl) ?_
      refine lv_topi (fun z41 e41 => ?_)
      obtain rfl : z41 = 4 := e41.trans (by decide)
      refine lv_iload_n hx hb (zat zrX8_fill_0_ok 28 rfl) rfl (lv_at hl 3 rfl) ?_
      refine lv_iload hx hb (zat zrX8_fill_0_ok 29 rfl) (lv_at hl 4 rfl) ?_
      obtain ⟨o45, eo45, h⟩ := bd_of h
      refine ck_v (wc := (bX8 a0 us ks ((upd s_s.1 ((3 : Int32)).toNatClampNeg (-1 : Int32)), s_s.2) (bX6 a1 up kp p_p []))) (wr := []) hP hD hK hS hA [0, 1, 2, 3, 4, 5, 6, 7, 8, 9, 10, 11, 12] [] rfl rfl (by decide) (by decide) (by decide) (fun hPc hDc => (va_runV (As := [.ref a1, .int 4, .int k3, .int k4]) (rest := []) ⟨hx, hb, hml, hown, hts⟩ (kfX8_fill_s4 l dC dI a0 a1 k3 k4 us ks up kp ((upd s_s.1 ((3 : Int32)).toNatClampNeg (-1 : Int32)), s_s.2) p_p H.size o45 eo45) (cwV 4 hts gfX8_fill_s3_2 rfl rfl rfl (by decide +kernel) ⟨(Nat.le_of_ble_eq_true rfl), (Nat.le_of_ble_eq_true rfl)⟩) (PV hPc (hK.sub (tys' := (tX8 ks (tX6 kp ([])))) [0, 1, 2, 3, 4, 5, 6, 7, 8, 9, 10] rfl) hDc hN 0 rfl rfl) rfl rfl hl.1 rfl (lv_room (Nat.le_of_ble_eq_true rfl)) (zat zrX8_fill_0_ok 30 rfl) ⟨(Nat.le_of_ble_eq_true rfl), (Nat.le_of_ble_eq_true rfl)⟩)) (fun _ H locs hw hP hD _ hS => ?_)
      obtain ⟨hP, hD⟩ := pd_mk (bX8 a0 us ks o45 (bX6 a1 up kp p_p [])) hP hD
      obtain rfl := Option.some.inj h
      obtain ⟨hP9, hD9⟩ := pd_sub (bX8 a0 us ks o45 (bX6 a1 up kp p_p [])) [0, 1, 2, 3, 4, 5, 6, 7, 8, 9, 10, 11, 12] hP hD (by decide) rfl
      have hK9 := hK.sub (tys' := []) [] rfl
      rw [hQQ]
      exact W.vret hx hb hr (fun t ht hW => ⟨⟨(), rfl, trivial, by rw [ht]; exact hP9, va_K.moved hW.alike hK9, hD9⟩, hS.F ht⟩) hS.2.2 (zat zrX8_fill_0_ok 31 rfl)
def vfX8_fill_s2 : List Cond := List.cons (.code yX8_fill cX8_fill 6 none) (apW [.fieldLink RX8 26 "HookPier$Plan" "askers" "I", .methodLink RX8 31 yX8_keepRow, .instanceMethod yX8_keepRow, .selects RX8 yX8_keepRow yX8_keepRow, .initialized RX8, .fieldLink RX8 9 "HookPier$Seats" "row" "[I", .fieldLink RX8 34 "HookPier$Plan" "spots" "I", .fieldLink RX8 18 "HookPier$Seats" "found" "I", .methodLink RX8 37 yX8_isFree, .instanceMethod yX8_isFree, .selects RX8 yX8_isFree yX8_isFree, .methodLink RX8 22 yX8_fill, .instanceMethod yX8_fill, .selects RX8 yX8_fill yX8_fill] (apW wsX60 (apW wsX80 (apW vfX8_keepRow (apW vfX8_isFree (vfX8_fill_s3))))))
theorem ifX8_fill_s2_X6 : ∀ w ∈ wsX60, w ∈ vfX8_fill_s2 := fun _ h => (List.mem_cons_of_mem _ (List.mem_append_right _ (List.mem_append_left _ h)))
theorem ifX8_fill_s2_X8 : ∀ w ∈ wsX80, w ∈ vfX8_fill_s2 := fun _ h => (List.mem_cons_of_mem _ (List.mem_append_right _ (List.mem_append_right _ (List.mem_append_left _ h))))
theorem qfX8_fill_s2 : Good vfX8_fill_s2 := gd_cons (by decide +kernel) (gd_app (gd_dec (by decide +kernel) : Good [.fieldLink RX8 26 "HookPier$Plan" "askers" "I", .methodLink RX8 31 yX8_keepRow, .instanceMethod yX8_keepRow, .selects RX8 yX8_keepRow yX8_keepRow, .initialized RX8, .fieldLink RX8 9 "HookPier$Seats" "row" "[I", .fieldLink RX8 34 "HookPier$Plan" "spots" "I", .fieldLink RX8 18 "HookPier$Seats" "found" "I", .methodLink RX8 37 yX8_isFree, .instanceMethod yX8_isFree, .selects RX8 yX8_isFree yX8_isFree, .methodLink RX8 22 yX8_fill, .instanceMethod yX8_fill, .selects RX8 yX8_fill yX8_fill]) (gd_app qsX6 (gd_app qsX8 (gd_app qfX8_keepRow (gd_app qfX8_isFree qfX8_fill_s3)))))
theorem gfX8_fill_s2_0 : GoodIn vfX8_fill_s2 (wsV RX8 31 RX8 yX8_keepRow vfX8_keepRow) := goodIn_app (goodIn_r [.methodLink RX8 31 yX8_keepRow, .instanceMethod yX8_keepRow, .selects RX8 yX8_keepRow yX8_keepRow, .initialized RX8] [2, 3, 4, 5] rfl (by decide +kernel)) (goodIn_m (fun _ h => (List.mem_cons_of_mem _ (List.mem_append_right _ (List.mem_append_right _ (List.mem_append_right _ (List.mem_append_left _ h)))))) qfX8_keepRow)
theorem gfX8_fill_s2_1 : GoodIn vfX8_fill_s2 (wsV RX8 37 RX8 yX8_isFree vfX8_isFree) := goodIn_app (goodIn_r [.methodLink RX8 37 yX8_isFree, .instanceMethod yX8_isFree, .selects RX8 yX8_isFree yX8_isFree, .initialized RX8] [9, 10, 11, 5] rfl (by decide +kernel)) (goodIn_m (fun _ h => (List.mem_cons_of_mem _ (List.mem_append_right _ (List.mem_append_right _ (List.mem_append_right _ (List.mem_append_right _ (List.mem_append_left _ h))))))) qfX8_isFree)
theorem gfX8_fill_s2_2 : GoodIn vfX8_fill_s2 (wsV RX8 22 RX8 yX8_fill vfX8_fill_s3) := goodIn_app (goodIn_r [.methodLink RX8 22 yX8_fill, .instanceMethod yX8_fill, .selects RX8 yX8_fill yX8_fill, .initialized RX8] [12, 13, 14, 5] rfl (by decide +kernel)) (goodIn_m (fun _ h => (List.mem_cons_of_mem _ (List.mem_append_right _ (List.mem_append_right _ (List.mem_append_right _ (List.mem_append_right _ (List.mem_append_right _ h))))))) qfX8_fill_s3)
set_option maxHeartbeats 2000000 in
set_option maxRecDepth 100000 in
theorem kfX8_fill_s2 (l : Launch) (dC : Nat → ClassId) (dI : Nat → Nat → Nat) (a0 : Nat) (a1 : Nat) (k3 : Int32) (k4 : Int32) (us : Nat → Nat) (ks : Nat → ClassId) (up : Nat → Nat) (kp : Nat → ClassId) (s_s : TX8_s) (p_p : TX6_p) (sz : Nat) (out : TX8_s) (h : f_X8_fill_s2 k3 k4 s_s p_p = some out) : KCv l yX8_fill vfX8_fill_s2 ({ frames := 5, cells := 0, slots := 0, locals := 135 }) (dC, dI) [.ref a0, .ref a1, .int 2, .int k3, .int k4] sz (bX8 a0 us ks s_s (bX6 a1 up kp p_p [])) (tX8 ks (tX6 kp ([]))) (fun _ => True) (bX8 a0 us ks out (bX6 a1 up kp p_p [])) 0 0 := by
  refine Met.ofW (cc := cX8_fill) (maxL := 6) (ret := none) (by decide) rfl ?_
  intro p e s m args below meth c s₁ B0 hml hv
  obtain ⟨rfl, hsz, hP, hK, hD0, hN⟩ := hv
  have hx := B0.exec
  have hb := B0.bytes
  have hr := B0.returns
  have hts := atoms_spec (ws := vfX8_fill_s2) B0.pre
  have hown : s.vm.findClass RX8 = some m.cls := findClass_of_methodNamed B0.named
  have hlocks := B0.notSynchronized
  subst hsz
  have hD := hD0.self (sz := s.heap.size)
  generalize hAe : va_A (bX8 a0 us ks s_s (bX6 a1 up kp p_p [])) s.heap.size = A at hD ⊢
  have hA : ∀ q : Nat, s.heap.size ≤ q → A q := fun q h => by rw [← hAe]; exact Or.inr h
  have hS : va_S A s.heap s.heap [] := va_S.rf
  have hP : va_P (dC, dI) vwCl (bX8 a0 us ks s_s (bX6 a1 up kp p_p [])) s.heap := hP
  have hl := lv_entry ([.ref a0, .ref a1, .int 2, .int k3, .int k4]) (n := 6) (Nat.le_of_ble_eq_true rfl)
  rw [lg_entry_eq]
  generalize (lg_sl ([.ref a0, .ref a1, .int 2, .int k3, .int k4]) ++ List.replicate (6 - (lg_sl ([.ref a0, .ref a1, .int 2, .int k3, .int k4])).length) Slot.unset).toArray = ls at hl ⊢
  have hl : lv_has ls 6 [(0, .ref a0), (1, .ref a1), (2, .int 2), (3, .int k3), (4, .int k4)] := hl
  refine W_q (fun QQ hQQ => ?_)
  rw [f_X8_fill_s2] at h
  refine lv_iload_n hx hb (zat zrX8_fill_0_ok 0 rfl) rfl (lv_at hl 2 rfl) ?_
  refine lv_aload_n hx hb (zat zrX8_fill_0_ok 1 rfl) rfl (lv_at hl 1 rfl) ?_
  refine va_get (D := (dC, dI)) (ci := 4) (v := .int p_p.2.2.2.2.2.1) (C := RX6) (T := TX6) (N := 18) hx hb hts ifX8_fill_s2_X6 hown hK hP 3 rfl rfl 5 (by decide) (hts (.fieldLink RX8 26 "HookPier$Plan" "askers" "I") (List.mem_of_getElem? (i := 1) rfl)) (fun _ h9 => h9) rfl (zat zrX8_fill_0_ok 2 rfl) ?_
  refine lv_icmp_ge (tgt := 17) hx hb (zat zrX8_fill_0_ok 3 rfl) (by decide) (fun c5 => ?_) (fun c5 => ?_)
  · have h := (if_pos c5).symm.trans h
    refine lv_aload_n hx hb (zat zrX8_fill_0_ok 9 rfl) rfl (lv_at hl 0 rfl) ?_
    obtain ⟨o18, eo18⟩ : ∃ o, o = f_X8_keepRow s_s := ⟨_, rfl⟩
    have h := nm_of h o18 eo18
    refine ck_v (wc := (bX8 a0 us ks s_s [])) (wr := (bX6 a1 up kp p_p [])) hP hD hK hS hA [0, 1, 2] [3, 4, 5, 6, 7, 8, 9, 10, 11, 12] rfl rfl (by decide) (by decide) (by decide) (fun hPc hDc => (va_runV (As := []) (rest := []) ⟨hx, hb, hml, hown, hts⟩ (kfX8_keepRow l dC dI a0 us ks s_s s.heap.size o18 eo18.symm) (cwV 0 hts gfX8_fill_s2_0 rfl rfl rfl (by decide +kernel) ⟨(Nat.le_of_ble_eq_true rfl), (Nat.le_of_ble_eq_true rfl)⟩) (PV hPc (hK.sub (tys' := (tX8 ks ([]))) [0, 1] rfl) hDc hN 0 rfl rfl) rfl rfl hl.1 rfl (lv_room (Nat.le_of_ble_eq_true rfl)) (zat zrX8_fill_0_ok 10 rfl) ⟨(Nat.le_of_ble_eq_true rfl), (Nat.le_of_ble_eq_true rfl)⟩)) (fun _ H locs hw hP hD _ hS => ?_)
    obtain ⟨hP, hD⟩ := pd_mk (bX6 a1 up kp p_p (bX8 a0 us ks o18 [])) hP hD
    obtain rfl := Option.some.inj h
    obtain ⟨hP9, hD9⟩ := pd_sub (bX8 a0 us ks o18 (bX6 a1 up kp p_p [])) [10, 11, 12, 0, 1, 2, 3, 4, 5, 6, 7, 8, 9] hP hD (by decide) rfl
    have hK9 := hK.sub (tys' := []) [] rfl
    rw [hQQ]
    exact W.vret hx hb hr (fun t ht hW => ⟨⟨(), rfl, trivial, by rw [ht]; exact hP9, va_K.moved hW.alike hK9, hD9⟩, hS.F ht⟩) hS.2.2 (zat zrX8_fill_0_ok 11 rfl)
  · have h := (if_neg c5).symm.trans h
    refine lv_iload_n hx hb (zat zrX8_fill_0_ok 4 rfl) rfl (lv_at hl 2 rfl) ?_
    refine lv_aload_n hx hb (zat zrX8_fill_0_ok 5 rfl) rfl (lv_at hl 0 rfl) ?_
    refine va_get (D := (dC, dI)) (ci := 6) (v := .ref (us 0)) (C := RX8) (T := TX8) (N := 3) hx hb hts ifX8_fill_s2_X8 hown hK hP 0 rfl rfl 0 (by decide) (hts (.fieldLink RX8 9 "HookPier$Seats" "row" "[I") (List.mem_of_getElem? (i := 6) rfl)) (fun _ h9 => h9) rfl (zat zrX8_fill_0_ok 6 rfl) ?_
    refine va_alen (v := 5) hx hb hK hP 1 0 rfl rfl rfl (zat zrX8_fill_0_ok 7 rfl) ?_
    refine lv_icmp_lt (tgt := 22) hx hb (zat zrX8_fill_0_ok 8 rfl) (by decide) (fun _ => ?_) (fun c14 => absurd c14 (by decide))
    refine lv_iload_n hx hb (zat zrX8_fill_0_ok 12 rfl) rfl (lv_at hl 3 rfl) ?_
    refine lv_iload_n hx hb (zat zrX8_fill_0_ok 13 rfl) rfl (lv_at hl 2 rfl) ?_
    refine lv_ishr hx hb (zat zrX8_fill_0_ok 14 rfl) ?_
    refine lv_iconst (v := 1) hx hb (zat zrX8_fill_0_ok 15 rfl) (by decide) ?_
    refine lv_iand hx hb (zat zrX8_fill_0_ok 16 rfl) ?_
    refine lv_if_ne (tgt := 49) hx hb (zat zrX8_fill_0_ok 17 rfl) (by decide) (fun c27 => ?_) (fun c27 => ?_)
    · have h := (if_neg c27).symm.trans h
      refine lv_iconst (v := 0) hx hb (zat zrX8_fill_0_ok 32 rfl) (by decide) ?_
      refine lv_istore (lv' := [(5, .int 0), (0, .ref a0), (1, .ref a1), (2, .int 2), (3, .int k3), (4, .int k4)]) hx hb (zat zrX8_fill_0_ok 33 rfl) hl (by decide) rfl (fun ls hl => ?_)
      have L52 : ∀ (n52 : Nat) (v52_l5 : Int32) (v52_s_s : TX8_s) (H : Heap) (locs : List Loc) (ls : Array Slot), f_X8_fill_s2_L52 k3 k4 p_p n52 v52_l5 v52_s_s = some out → va_P (dC, dI) vwCl (bX8 a0 us ks v52_s_s (bX6 a1 up kp p_p [])) H → va_D A (bX8 a0 us ks v52_s_s (bX6 a1 up kp p_p [])) → va_S A s.heap H locs → lv_has ls 6 [(5, .int v52_l5), (0, .ref a0), (1, .ref a1), (2, .int 2), (3, .int k3), (4, .int k4)] → W p l e (headSpec vfX8_fill_s2 { frames := 5, cells := 0, slots := 0, locals := 135 }).room s m ([.ref a0, .ref a1, .int 2, .int k3, .int k4]).toArray below meth c H locs 0 0 QQ (F0 m 52 ls []) := by
        intro n52
        induction n52 with
        | zero =>
          intro v52_l5 v52_s_s H locs ls h  _ _ _ _
          rw [f_X8_fill_s2_L52] at h
          cases h
        | succ n52 ih52 =>
          intro v52_l5 v52_s_s H locs ls h  hP hD hS hl
          rw [f_X8_fill_s2_L52] at h
          refine lv_iload hx hb (zat zrX8_fill_0_ok 34 rfl) (lv_at hl 0 rfl) ?_
          refine lv_aload_n hx hb (zat zrX8_fill_0_ok 35 rfl) rfl (lv_at hl 2 rfl) ?_
          refine va_get (D := (dC, dI)) (ci := 4) (v := .int p_p.1) (C := RX6) (T := TX6) (N := 18) hx hb hts ifX8_fill_s2_X6 hown hK hP 3 rfl rfl 0 (by decide) (hts (.fieldLink RX8 34 "HookPier$Plan" "spots" "I") (List.mem_of_getElem? (i := 7) rfl)) (fun _ h9 => h9) rfl (zat zrX8_fill_0_ok 36 rfl) ?_
          refine lv_icmp_ge (tgt := 106) hx hb (zat zrX8_fill_0_ok 37 rfl) (by decide) (fun c58 => ?_) (fun c58 => ?_)
          · have h := (if_pos c58).symm.trans h
            obtain rfl := Option.some.inj h
            obtain ⟨hP9, hD9⟩ := pd_sub (bX8 a0 us ks v52_s_s (bX6 a1 up kp p_p [])) [0, 1, 2, 3, 4, 5, 6, 7, 8, 9, 10, 11, 12] hP hD (by decide) rfl
            have hK9 := hK.sub (tys' := []) [] rfl
            rw [hQQ]
            exact W.vret hx hb hr (fun t ht hW => ⟨⟨(), rfl, trivial, by rw [ht]; exact hP9, va_K.moved hW.alike hK9, hD9⟩, hS.F ht⟩) hS.2.2 (zat zrX8_fill_0_ok 63 rfl)
          · have h := (if_neg c58).symm.trans h
            refine lv_aload_n hx hb (zat zrX8_fill_0_ok 38 rfl) rfl (lv_at hl 1 rfl) ?_
            refine va_get (D := (dC, dI)) (ci := 6) (v := .int v52_s_s.2.2) (C := RX8) (T := TX8) (N := 3) hx hb hts ifX8_fill_s2_X8 hown hK hP 0 rfl rfl 2 (by decide) (hts (.fieldLink RX8 18 "HookPier$Seats" "found" "I") (List.mem_of_getElem? (i := 8) rfl)) (fun _ h9 => h9) rfl (zat zrX8_fill_0_ok 39 rfl) ?_
            refine lv_iload hx hb (zat zrX8_fill_0_ok 40 rfl) (lv_at hl 5 rfl) ?_
            refine lv_icmp_ge (tgt := 106) hx hb (zat zrX8_fill_0_ok 41 rfl) (by decide) (fun c67 => ?_) (fun c67 => ?_)
            · have h := (if_pos c67).symm.trans h
              obtain rfl := Option.some.inj h
              obtain ⟨hP9, hD9⟩ := pd_sub (bX8 a0 us ks v52_s_s (bX6 a1 up kp p_p [])) [0, 1, 2, 3, 4, 5, 6, 7, 8, 9, 10, 11, 12] hP hD (by decide) rfl
              have hK9 := hK.sub (tys' := []) [] rfl
              rw [hQQ]
              exact W.vret hx hb hr (fun t ht hW => ⟨⟨(), rfl, trivial, by rw [ht]; exact hP9, va_K.moved hW.alike hK9, hD9⟩, hS.F ht⟩) hS.2.2 (zat zrX8_fill_0_ok 63 rfl)
            · have h := (if_neg c67).symm.trans h
              refine lv_aload_n hx hb (zat zrX8_fill_0_ok 42 rfl) rfl (lv_at hl 1 rfl) ?_
              refine lv_aload_n hx hb (zat zrX8_fill_0_ok 43 rfl) rfl (lv_at hl 2 rfl) ?_
              refine lv_iload_n hx hb (zat zrX8_fill_0_ok 44 rfl) rfl (lv_at hl 3 rfl) ?_
              refine lv_iload hx hb (zat zrX8_fill_0_ok 45 rfl) (lv_at hl 0 rfl) ?_
              obtain ⟨o75, eo75, h⟩ := bd_of h
              refine ck_i (wc := (bX8 a0 us ks v52_s_s (bX6 a1 up kp p_p []))) (wr := []) hP hD hK hS hA [0, 1, 2, 3, 4, 5, 6, 7, 8, 9, 10, 11, 12] [] rfl rfl (by decide) (by decide) (by decide) (fun hPc hDc => (va_runV (As := [.ref a1, .int 2, .int v52_l5]) (rest := []) ⟨hx, hb, hml, hown, hts⟩ (kfX8_isFree l dC dI a0 a1 (2 : Int32) v52_l5 us ks up kp v52_s_s p_p H.size o75 eo75) (cwV 3 hts gfX8_fill_s2_1 rfl rfl rfl (by decide +kernel) ⟨(Nat.le_of_ble_eq_true rfl), (Nat.le_of_ble_eq_true rfl)⟩) (PV hPc (hK.sub (tys' := (tX8 ks (tX6 kp ([])))) [0, 1, 2, 3, 4, 5, 6, 7, 8, 9, 10] rfl) hDc hN 0 rfl rfl) rfl rfl hl.1 rfl (lv_room (Nat.le_of_ble_eq_true rfl)) (zat zrX8_fill_0_ok 46 rfl) ⟨(Nat.le_of_ble_eq_true rfl), (Nat.le_of_ble_eq_true rfl)⟩)) (fun r75 _ H locs hw hP hD _ hS => ?_)
              obtain ⟨hw, br75⟩ := hw
              obtain rfl := hw.symm
              obtain ⟨hP, hD⟩ := pd_mk (bX8 a0 us ks v52_s_s (bX6 a1 up kp p_p [])) hP hD
              have J100 : ∀ (v100_s_s : TX8_s) (H : Heap) (locs : List Loc) (ls : Array Slot), f_X8_fill_s2_J100 (f_X8_fill_s2_L52 k3 k4 p_p n52) v52_l5 v100_s_s = some out → va_P (dC, dI) vwCl (bX8 a0 us ks v100_s_s (bX6 a1 up kp p_p [])) H → va_D A (bX8 a0 us ks v100_s_s (bX6 a1 up kp p_p [])) → va_S A s.heap H locs → lv_has ls 6 [(5, .int v52_l5), (0, .ref a0), (1, .ref a1), (2, .int 2), (3, .int k3), (4, .int k4)] → W p l e (headSpec vfX8_fill_s2 { frames := 5, cells := 0, slots := 0, locals := 135 }).room s m ([.ref a0, .ref a1, .int 2, .int k3, .int k4]).toArray below meth c H locs 0 0 QQ (F0 m 100 ls []) := by
                intro v100_s_s H locs ls h  hP hD hS hl
                rw [f_X8_fill_s2_J100] at h
                refine lv_iinc (v := (v52_l5 + (1 : Int32))) (lv' := [(5, .int (v52_l5 + (1 : Int32))), (0, .ref a0), (1, .ref a1), (2, .int 2), (3, .int k3), (4, .int k4)]) hx hb (zat zrX8_fill_0_ok 61 rfl) hl (k := 0) rfl rfl (by decide) rfl (fun ls hl => ?_)
                refine lv_goto (tgt := 52) hx hb (zat zrX8_fill_0_ok 62 rfl) (by decide) ?_
                exact ih52 (v52_l5 + (1 : Int32)) v100_s_s H _ ls h  hP hD hS (lv_sub hl [0, 1, 2, 3, 4, 5] rfl)
              refine lv_if_eq (tgt := 100) hx hb (zat zrX8_fill_0_ok 47 rfl) (by decide) (fun c78 => ?_) (fun c78 => ?_)
              · have h := (if_pos c78).symm.trans h
                exact J100 v52_s_s H _ ls h  hP hD hS (lv_sub hl [0, 1, 2, 3, 4, 5] rfl)
              · have h := (if_neg c78).symm.trans h
                refine lv_aload_n hx hb (zat zrX8_fill_0_ok 48 rfl) rfl (lv_at hl 1 rfl) ?_
                refine va_get (D := (dC, dI)) (ci := 6) (v := .ref (us 0)) (C := RX8) (T := TX8) (N := 3) hx hb hts ifX8_fill_s2_X8 hown hK hP 0 rfl rfl 0 (by decide) (hts (.fieldLink RX8 9 "HookPier$Seats" "row" "[I") (List.mem_of_getElem? (i := 6) rfl)) (fun _ h9 => h9) rfl (zat zrX8_fill_0_ok 49 rfl) ?_
                refine lv_iload_n hx hb (zat zrX8_fill_0_ok 50 rfl) rfl (lv_at hl 3 rfl) ?_
                refine lv_iload hx hb (zat zrX8_fill_0_ok 51 rfl) (lv_at hl 0 rfl) ?_
                refine va_iast hx hb hK hP hD hS 1 0 rfl rfl (by unfold vp_in; decide) (zat zrX8_fill_0_ok 52 rfl) (fun H locs hP hD hS => ?_)
                obtain ⟨hP, hD⟩ := pd_mk (bX8 a0 us ks ((upd v52_s_s.1 ((2 : Int32)).toNatClampNeg v52_l5), v52_s_s.2) (bX6 a1 up kp p_p [])) hP hD
                refine lv_aload_n hx hb (zat zrX8_fill_0_ok 53 rfl) rfl (lv_at hl 1 rfl) ?_
                refine lv_aload_n hx hb (zat zrX8_fill_0_ok 54 rfl) rfl (lv_at hl 2 rfl) ?_
                refine lv_iload_n hx hb (zat zrX8_fill_0_ok 55 rfl) rfl (lv_at hl 3 rfl) ?_
                refine lv_iconst (v := 1) hx hb (zat zrX8_fill_0_ok 56 rfl) (by decide) ?_
                refine lv_iadd hx hb (zat zrX8_fill_0_ok 57 rfl) ?_
                refine lv_topi (fun z93 e93 => ?_)
                obtain rfl : z93 = 3 := e93.trans (by decide)
                refine lv_iload_n hx hb (zat zrX8_fill_0_ok 58 rfl) rfl (lv_at hl 4 rfl) ?_
                refine lv_iload hx hb (zat zrX8_fill_0_ok 59 rfl) (lv_at hl 5 rfl) ?_
                obtain ⟨o97, eo97, h⟩ := bd_of h
                refine ck_v (wc := (bX8 a0 us ks ((upd v52_s_s.1 ((2 : Int32)).toNatClampNeg v52_l5), v52_s_s.2) (bX6 a1 up kp p_p []))) (wr := []) hP hD hK hS hA [0, 1, 2, 3, 4, 5, 6, 7, 8, 9, 10, 11, 12] [] rfl rfl (by decide) (by decide) (by decide) (fun hPc hDc => (va_runV (As := [.ref a1, .int 3, .int k3, .int k4]) (rest := []) ⟨hx, hb, hml, hown, hts⟩ (kfX8_fill_s3 l dC dI a0 a1 k3 k4 us ks up kp ((upd v52_s_s.1 ((2 : Int32)).toNatClampNeg v52_l5), v52_s_s.2) p_p H.size o97 eo97) (cwV 4 hts gfX8_fill_s2_2 rfl rfl rfl (by decide +kernel) ⟨(Nat.le_of_ble_eq_true rfl), (Nat.le_of_ble_eq_true rfl)⟩) (PV hPc (hK.sub (tys' := (tX8 ks (tX6 kp ([])))) [0, 1, 2, 3, 4, 5, 6, 7, 8, 9, 10] rfl) hDc hN 0 rfl rfl) rfl rfl hl.1 rfl (lv_room (Nat.le_of_ble_eq_true rfl)) (zat zrX8_fill_0_ok 60 rfl) ⟨(Nat.le_of_ble_eq_true rfl), (Nat.le_of_ble_eq_true rfl)⟩)) (fun _ H locs hw hP hD _ hS => ?_)
                obtain ⟨hP, hD⟩ := pd_mk (bX8 a0 us ks o97 (bX6 a1 up kp p_p [])) hP hD
                exact J100 o97 H _ ls h  hP hD hS (lv_sub hl [0, 1, 2, 3, 4, 5] rfl)
      exact L52 FU (0 : Int32) s_s s.heap _ ls h  hP hD hS (lv_sub hl [0, 1, 2, 3, 4, 5] rfl)
    · have h := (if_pos c27).symm.trans h
      refine lv_aload_n hx hb (zat zrX8_fill_0_ok 18 rfl) rfl (lv_at hl 0 rfl) ?_
      refine va_get (D := (dC, dI)) (ci := 6) (v := .ref (us 0)) (C := RX8) (T := TX8) (N := 3) hx hb hts ifX8_fill_s2_X8 hown hK hP 0 rfl rfl 0 (by decide) (hts (.fieldLink RX8 9 "HookPier$Seats" "row" "[I") (List.mem_of_getElem? (i := 6) rfl)) (fun _ h9 => h9) rfl (zat zrX8_fill_0_ok 19 rfl) ?_
      refine lv_iload_n hx hb (zat zrX8_fill_0_ok 20 rfl) rfl (lv_at hl 2 rfl) ?_
      refine lv_iconst (v := (-1)) hx hb (zat zrX8_fill_0_ok 21 rfl) (by decide) ?_
      refine va_iast hx hb hK hP hD hS 1 0 rfl rfl (by unfold vp_in; decide) (zat zrX8_fill_0_ok 22 rfl) (fun H locs hP hD hS => ?_)
      obtain ⟨hP, hD⟩ := pd_mk (bX8 a0 us ks ((upd s_s.1 ((2 : Int32)).toNatClampNeg (-1 : Int32)), s_s.2) (bX6 a1 up kp p_p [])) hP hD
      refine lv_aload_n hx hb (zat zrX8_fill_0_ok 23 rfl) rfl (lv_at hl 0 rfl) ?_
      refine lv_aload_n hx hb (zat zrX8_fill_0_ok 24 rfl) rfl (lv_at hl 1 rfl) ?_
      refine lv_iload_n hx hb (zat zrX8_fill_0_ok 25 rfl) rfl (lv_at hl 2 rfl) ?_
      refine lv_iconst (v := 1) hx hb (zat zrX8_fill_0_ok 26 rfl) (by decide) ?_
      refine lv_iadd hx hb (zat zrX8_fill_0_ok 27 rfl) ?_
      refine lv_topi (fun z41 e41 => ?_)
      obtain rfl : z41 = 3 := e41.trans (by decide)
      refine lv_iload_n hx hb (zat zrX8_fill_0_ok 28 rfl) rfl (lv_at hl 3 rfl) ?_
      refine lv_iload hx hb (zat zrX8_fill_0_ok 29 rfl) (lv_at hl 4 rfl) ?_
      obtain ⟨o45, eo45, h⟩ := bd_of h
      refine ck_v (wc := (bX8 a0 us ks ((upd s_s.1 ((2 : Int32)).toNatClampNeg (-1 : Int32)), s_s.2) (bX6 a1 up kp p_p []))) (wr := []) hP hD hK hS hA [0, 1, 2, 3, 4, 5, 6, 7, 8, 9, 10, 11, 12] [] rfl rfl (by decide) (by decide) (by decide) (fun hPc hDc => (va_runV (As := [.ref a1, .int 3, .int k3, .int k4]) (rest := []) ⟨hx, hb, hml, hown, hts⟩ (kfX8_fill_s3 l dC dI a0 a1 k3 k4 us ks up kp ((upd s_s.1 ((2 : Int32)).toNatClampNeg (-1 : Int32)), s_s.2) p_p H.size o45 eo45) (cwV 4 hts gfX8_fill_s2_2 rfl rfl rfl (by decide +kernel) ⟨(Nat.le_of_ble_eq_true rfl), (Nat.le_of_ble_eq_true rfl)⟩) (PV hPc (hK.sub (tys' := (tX8 ks (tX6 kp ([])))) [0, 1, 2, 3, 4, 5, 6, 7, 8, 9, 10] rfl) hDc hN 0 rfl rfl) rfl rfl hl.1 rfl (lv_room (Nat.le_of_ble_eq_true rfl)) (zat zrX8_fill_0_ok 30 rfl) ⟨(Nat.le_of_ble_eq_true rfl), (Nat.le_of_ble_eq_true rfl)⟩)) (fun _ H locs hw hP hD _ hS => ?_)
      obtain ⟨hP, hD⟩ := pd_mk (bX8 a0 us ks o45 (bX6 a1 up kp p_p [])) hP hD
      obtain rfl := Option.some.inj h
      obtain ⟨hP9, hD9⟩ := pd_sub (bX8 a0 us ks o45 (bX6 a1 up kp p_p [])) [0, 1, 2, 3, 4, 5, 6, 7, 8, 9, 10, 11, 12] hP hD (by decide) rfl
      have hK9 := hK.sub (tys' := []) [] rfl
      rw [hQQ]
      exact W.vret hx hb hr (fun t ht hW => ⟨⟨(), rfl, trivial, by rw [ht]; exact hP9, va_K.moved hW.alike hK9, hD9⟩, hS.F ht⟩) hS.2.2 (zat zrX8_fill_0_ok 31 rfl)
def vfX8_fill_s1 : List Cond := List.cons (.code yX8_fill cX8_fill 6 none) (apW [.fieldLink RX8 26 "HookPier$Plan" "askers" "I", .methodLink RX8 31 yX8_keepRow, .instanceMethod yX8_keepRow, .selects RX8 yX8_keepRow yX8_keepRow, .initialized RX8, .fieldLink RX8 9 "HookPier$Seats" "row" "[I", .fieldLink RX8 34 "HookPier$Plan" "spots" "I", .fieldLink RX8 18 "HookPier$Seats" "found" "I", .methodLink RX8 37 yX8_isFree, .instanceMethod yX8_isFree, .selects RX8 yX8_isFree yX8_isFree, .methodLink RX8 22 yX8_fill, .instanceMethod yX8_fill, .selects RX8 yX8_fill yX8_fill] (apW wsX60 (apW wsX80 (apW vfX8_keepRow (apW vfX8_isFree (vfX8_fill_s2))))))
theorem ifX8_fill_s1_X6 : ∀ w ∈ wsX60, w ∈ vfX8_fill_s1 := fun _ h => (List.mem_cons_of_mem _ (List.mem_append_right _ (List.mem_append_left _ h)))
theorem ifX8_fill_s1_X8 : ∀ w ∈ wsX80, w ∈ vfX8_fill_s1 := fun _ h => (List.mem_cons_of_mem _ (List.mem_append_right _ (List.mem_append_right _ (List.mem_append_left _ h))))
theorem qfX8_fill_s1 : Good vfX8_fill_s1 := gd_cons (by decide +kernel) (gd_app (gd_dec (by decide +kernel) : Good [.fieldLink RX8 26 "HookPier$Plan" "askers" "I", .methodLink RX8 31 yX8_keepRow, .instanceMethod yX8_keepRow, .selects RX8 yX8_keepRow yX8_keepRow, .initialized RX8, .fieldLink RX8 9 "HookPier$Seats" "row" "[I", .fieldLink RX8 34 "HookPier$Plan" "spots" "I", .fieldLink RX8 18 "HookPier$Seats" "found" "I", .methodLink RX8 37 yX8_isFree, .instanceMethod yX8_isFree, .selects RX8 yX8_isFree yX8_isFree, .methodLink RX8 22 yX8_fill, .instanceMethod yX8_fill, .selects RX8 yX8_fill yX8_fill]) (gd_app qsX6 (gd_app qsX8 (gd_app qfX8_keepRow (gd_app qfX8_isFree qfX8_fill_s2)))))
theorem gfX8_fill_s1_0 : GoodIn vfX8_fill_s1 (wsV RX8 31 RX8 yX8_keepRow vfX8_keepRow) := goodIn_app (goodIn_r [.methodLink RX8 31 yX8_keepRow, .instanceMethod yX8_keepRow, .selects RX8 yX8_keepRow yX8_keepRow, .initialized RX8] [2, 3, 4, 5] rfl (by decide +kernel)) (goodIn_m (fun _ h => (List.mem_cons_of_mem _ (List.mem_append_right _ (List.mem_append_right _ (List.mem_append_right _ (List.mem_append_left _ h)))))) qfX8_keepRow)
theorem gfX8_fill_s1_1 : GoodIn vfX8_fill_s1 (wsV RX8 37 RX8 yX8_isFree vfX8_isFree) := goodIn_app (goodIn_r [.methodLink RX8 37 yX8_isFree, .instanceMethod yX8_isFree, .selects RX8 yX8_isFree yX8_isFree, .initialized RX8] [9, 10, 11, 5] rfl (by decide +kernel)) (goodIn_m (fun _ h => (List.mem_cons_of_mem _ (List.mem_append_right _ (List.mem_append_right _ (List.mem_append_right _ (List.mem_append_right _ (List.mem_append_left _ h))))))) qfX8_isFree)
theorem gfX8_fill_s1_2 : GoodIn vfX8_fill_s1 (wsV RX8 22 RX8 yX8_fill vfX8_fill_s2) := goodIn_app (goodIn_r [.methodLink RX8 22 yX8_fill, .instanceMethod yX8_fill, .selects RX8 yX8_fill yX8_fill, .initialized RX8] [12, 13, 14, 5] rfl (by decide +kernel)) (goodIn_m (fun _ h => (List.mem_cons_of_mem _ (List.mem_append_right _ (List.mem_append_right _ (List.mem_append_right _ (List.mem_append_right _ (List.mem_append_right _ h))))))) qfX8_fill_s2)
set_option maxHeartbeats 2000000 in
set_option maxRecDepth 100000 in
theorem kfX8_fill_s1 (l : Launch) (dC : Nat → ClassId) (dI : Nat → Nat → Nat) (a0 : Nat) (a1 : Nat) (k3 : Int32) (k4 : Int32) (us : Nat → Nat) (ks : Nat → ClassId) (up : Nat → Nat) (kp : Nat → ClassId) (s_s : TX8_s) (p_p : TX6_p) (sz : Nat) (out : TX8_s) (h : f_X8_fill_s1 k3 k4 s_s p_p = some out) : KCv l yX8_fill vfX8_fill_s1 ({ frames := 6, cells := 0, slots := 0, locals := 160 }) (dC, dI) [.ref a0, .ref a1, .int 1, .int k3, .int k4] sz (bX8 a0 us ks s_s (bX6 a1 up kp p_p [])) (tX8 ks (tX6 kp ([]))) (fun _ => True) (bX8 a0 us ks out (bX6 a1 up kp p_p [])) 0 0 := by
  refine Met.ofW (cc := cX8_fill) (maxL := 6) (ret := none) (by decide) rfl ?_
  intro p e s m args below meth c s₁ B0 hml hv
  obtain ⟨rfl, hsz, hP, hK, hD0, hN⟩ := hv
  have hx := B0.exec
  have hb := B0.bytes
  have hr := B0.returns
  have hts := atoms_spec (ws := vfX8_fill_s1) B0.pre
  have hown : s.vm.findClass RX8 = some m.cls := findClass_of_methodNamed B0.named
  have hlocks := B0.notSynchronized
  subst hsz
  have hD := hD0.self (sz := s.heap.size)
  generalize hAe : va_A (bX8 a0 us ks s_s (bX6 a1 up kp p_p [])) s.heap.size = A at hD ⊢
  have hA : ∀ q : Nat, s.heap.size ≤ q → A q := fun q h => by rw [← hAe]; exact Or.inr h
  have hS : va_S A s.heap s.heap [] := va_S.rf
  have hP : va_P (dC, dI) vwCl (bX8 a0 us ks s_s (bX6 a1 up kp p_p [])) s.heap := hP
  have hl := lv_entry ([.ref a0, .ref a1, .int 1, .int k3, .int k4]) (n := 6) (Nat.le_of_ble_eq_true rfl)
  rw [lg_entry_eq]
  generalize (lg_sl ([.ref a0, .ref a1, .int 1, .int k3, .int k4]) ++ List.replicate (6 - (lg_sl ([.ref a0, .ref a1, .int 1, .int k3, .int k4])).length) Slot.unset).toArray = ls at hl ⊢
  have hl : lv_has ls 6 [(0, .ref a0), (1, .ref a1), (2, .int 1), (3, .int k3), (4, .int k4)] := hl
  refine W_q (fun QQ hQQ => ?_)
  rw [f_X8_fill_s1] at h
  refine lv_iload_n hx hb (zat zrX8_fill_0_ok 0 rfl) rfl (lv_at hl 2 rfl) ?_
  refine lv_aload_n hx hb (zat zrX8_fill_0_ok 1 rfl) rfl (lv_at hl 1 rfl) ?_
  refine va_get (D := (dC, dI)) (ci := 4) (v := .int p_p.2.2.2.2.2.1) (C := RX6) (T := TX6) (N := 18) hx hb hts ifX8_fill_s1_X6 hown hK hP 3 rfl rfl 5 (by decide) (hts (.fieldLink RX8 26 "HookPier$Plan" "askers" "I") (List.mem_of_getElem? (i := 1) rfl)) (fun _ h9 => h9) rfl (zat zrX8_fill_0_ok 2 rfl) ?_
  refine lv_icmp_ge (tgt := 17) hx hb (zat zrX8_fill_0_ok 3 rfl) (by decide) (fun c5 => ?_) (fun c5 => ?_)
  · have h := (if_pos c5).symm.trans h
    refine lv_aload_n hx hb (zat zrX8_fill_0_ok 9 rfl) rfl (lv_at hl 0 rfl) ?_
    obtain ⟨o18, eo18⟩ : ∃ o, o = f_X8_keepRow s_s := ⟨_, rfl⟩
    have h := nm_of h o18 eo18
    refine ck_v (wc := (bX8 a0 us ks s_s [])) (wr := (bX6 a1 up kp p_p [])) hP hD hK hS hA [0, 1, 2] [3, 4, 5, 6, 7, 8, 9, 10, 11, 12] rfl rfl (by decide) (by decide) (by decide) (fun hPc hDc => (va_runV (As := []) (rest := []) ⟨hx, hb, hml, hown, hts⟩ (kfX8_keepRow l dC dI a0 us ks s_s s.heap.size o18 eo18.symm) (cwV 0 hts gfX8_fill_s1_0 rfl rfl rfl (by decide +kernel) ⟨(Nat.le_of_ble_eq_true rfl), (Nat.le_of_ble_eq_true rfl)⟩) (PV hPc (hK.sub (tys' := (tX8 ks ([]))) [0, 1] rfl) hDc hN 0 rfl rfl) rfl rfl hl.1 rfl (lv_room (Nat.le_of_ble_eq_true rfl)) (zat zrX8_fill_0_ok 10 rfl) ⟨(Nat.le_of_ble_eq_true rfl), (Nat.le_of_ble_eq_true rfl)⟩)) (fun _ H locs hw hP hD _ hS => ?_)
    obtain ⟨hP, hD⟩ := pd_mk (bX6 a1 up kp p_p (bX8 a0 us ks o18 [])) hP hD
    obtain rfl := Option.some.inj h
    obtain ⟨hP9, hD9⟩ := pd_sub (bX8 a0 us ks o18 (bX6 a1 up kp p_p [])) [10, 11, 12, 0, 1, 2, 3, 4, 5, 6, 7, 8, 9] hP hD (by decide) rfl
    have hK9 := hK.sub (tys' := []) [] rfl
    rw [hQQ]
    exact W.vret hx hb hr (fun t ht hW => ⟨⟨(), rfl, trivial, by rw [ht]; exact hP9, va_K.moved hW.alike hK9, hD9⟩, hS.F ht⟩) hS.2.2 (zat zrX8_fill_0_ok 11 rfl)
  · have h := (if_neg c5).symm.trans h
    refine lv_iload_n hx hb (zat zrX8_fill_0_ok 4 rfl) rfl (lv_at hl 2 rfl) ?_
    refine lv_aload_n hx hb (zat zrX8_fill_0_ok 5 rfl) rfl (lv_at hl 0 rfl) ?_
    refine va_get (D := (dC, dI)) (ci := 6) (v := .ref (us 0)) (C := RX8) (T := TX8) (N := 3) hx hb hts ifX8_fill_s1_X8 hown hK hP 0 rfl rfl 0 (by decide) (hts (.fieldLink RX8 9 "HookPier$Seats" "row" "[I") (List.mem_of_getElem? (i := 6) rfl)) (fun _ h9 => h9) rfl (zat zrX8_fill_0_ok 6 rfl) ?_
    refine va_alen (v := 5) hx hb hK hP 1 0 rfl rfl rfl (zat zrX8_fill_0_ok 7 rfl) ?_
    refine lv_icmp_lt (tgt := 22) hx hb (zat zrX8_fill_0_ok 8 rfl) (by decide) (fun _ => ?_) (fun c14 => absurd c14 (by decide))
    refine lv_iload_n hx hb (zat zrX8_fill_0_ok 12 rfl) rfl (lv_at hl 3 rfl) ?_
    refine lv_iload_n hx hb (zat zrX8_fill_0_ok 13 rfl) rfl (lv_at hl 2 rfl) ?_
    refine lv_ishr hx hb (zat zrX8_fill_0_ok 14 rfl) ?_
    refine lv_iconst (v := 1) hx hb (zat zrX8_fill_0_ok 15 rfl) (by decide) ?_
    refine lv_iand hx hb (zat zrX8_fill_0_ok 16 rfl) ?_
    refine lv_if_ne (tgt := 49) hx hb (zat zrX8_fill_0_ok 17 rfl) (by decide) (fun c27 => ?_) (fun c27 => ?_)
    · have h := (if_neg c27).symm.trans h
      refine lv_iconst (v := 0) hx hb (zat zrX8_fill_0_ok 32 rfl) (by decide) ?_
      refine lv_istore (lv' := [(5, .int 0), (0, .ref a0), (1, .ref a1), (2, .int 1), (3, .int k3), (4, .int k4)]) hx hb (zat zrX8_fill_0_ok 33 rfl) hl (by decide) rfl (fun ls hl => ?_)
      have L52 : ∀ (n52 : Nat) (v52_l5 : Int32) (v52_s_s : TX8_s) (H : Heap) (locs : List Loc) (ls : Array Slot), f_X8_fill_s1_L52 k3 k4 p_p n52 v52_l5 v52_s_s = some out → va_P (dC, dI) vwCl (bX8 a0 us ks v52_s_s (bX6 a1 up kp p_p [])) H → va_D A (bX8 a0 us ks v52_s_s (bX6 a1 up kp p_p [])) → va_S A s.heap H locs → lv_has ls 6 [(5, .int v52_l5), (0, .ref a0), (1, .ref a1), (2, .int 1), (3, .int k3), (4, .int k4)] → W p l e (headSpec vfX8_fill_s1 { frames := 6, cells := 0, slots := 0, locals := 160 }).room s m ([.ref a0, .ref a1, .int 1, .int k3, .int k4]).toArray below meth c H locs 0 0 QQ (F0 m 52 ls []) := by
        intro n52
        induction n52 with
        | zero =>
          intro v52_l5 v52_s_s H locs ls h  _ _ _ _
          rw [f_X8_fill_s1_L52] at h
          cases h
        | succ n52 ih52 =>
          intro v52_l5 v52_s_s H locs ls h  hP hD hS hl
          rw [f_X8_fill_s1_L52] at h
          refine lv_iload hx hb (zat zrX8_fill_0_ok 34 rfl) (lv_at hl 0 rfl) ?_
          refine lv_aload_n hx hb (zat zrX8_fill_0_ok 35 rfl) rfl (lv_at hl 2 rfl) ?_
          refine va_get (D := (dC, dI)) (ci := 4) (v := .int p_p.1) (C := RX6) (T := TX6) (N := 18) hx hb hts ifX8_fill_s1_X6 hown hK hP 3 rfl rfl 0 (by decide) (hts (.fieldLink RX8 34 "HookPier$Plan" "spots" "I") (List.mem_of_getElem? (i := 7) rfl)) (fun _ h9 => h9) rfl (zat zrX8_fill_0_ok 36 rfl) ?_
          refine lv_icmp_ge (tgt := 106) hx hb (zat zrX8_fill_0_ok 37 rfl) (by decide) (fun c58 => ?_) (fun c58 => ?_)
          · have h := (if_pos c58).symm.trans h
            obtain rfl := Option.some.inj h
            obtain ⟨hP9, hD9⟩ := pd_sub (bX8 a0 us ks v52_s_s (bX6 a1 up kp p_p [])) [0, 1, 2, 3, 4, 5, 6, 7, 8, 9, 10, 11, 12] hP hD (by decide) rfl
            have hK9 := hK.sub (tys' := []) [] rfl
            rw [hQQ]
            exact W.vret hx hb hr (fun t ht hW => ⟨⟨(), rfl, trivial, by rw [ht]; exact hP9, va_K.moved hW.alike hK9, hD9⟩, hS.F ht⟩) hS.2.2 (zat zrX8_fill_0_ok 63 rfl)
          · have h := (if_neg c58).symm.trans h
            refine lv_aload_n hx hb (zat zrX8_fill_0_ok 38 rfl) rfl (lv_at hl 1 rfl) ?_
            refine va_get (D := (dC, dI)) (ci := 6) (v := .int v52_s_s.2.2) (C := RX8) (T := TX8) (N := 3) hx hb hts ifX8_fill_s1_X8 hown hK hP 0 rfl rfl 2 (by decide) (hts (.fieldLink RX8 18 "HookPier$Seats" "found" "I") (List.mem_of_getElem? (i := 8) rfl)) (fun _ h9 => h9) rfl (zat zrX8_fill_0_ok 39 rfl) ?_
            refine lv_iload hx hb (zat zrX8_fill_0_ok 40 rfl) (lv_at hl 5 rfl) ?_
            refine lv_icmp_ge (tgt := 106) hx hb (zat zrX8_fill_0_ok 41 rfl) (by decide) (fun c67 => ?_) (fun c67 => ?_)
            · have h := (if_pos c67).symm.trans h
              obtain rfl := Option.some.inj h
              obtain ⟨hP9, hD9⟩ := pd_sub (bX8 a0 us ks v52_s_s (bX6 a1 up kp p_p [])) [0, 1, 2, 3, 4, 5, 6, 7, 8, 9, 10, 11, 12] hP hD (by decide) rfl
              have hK9 := hK.sub (tys' := []) [] rfl
              rw [hQQ]
              exact W.vret hx hb hr (fun t ht hW => ⟨⟨(), rfl, trivial, by rw [ht]; exact hP9, va_K.moved hW.alike hK9, hD9⟩, hS.F ht⟩) hS.2.2 (zat zrX8_fill_0_ok 63 rfl)
            · have h := (if_neg c67).symm.trans h
              refine lv_aload_n hx hb (zat zrX8_fill_0_ok 42 rfl) rfl (lv_at hl 1 rfl) ?_
              refine lv_aload_n hx hb (zat zrX8_fill_0_ok 43 rfl) rfl (lv_at hl 2 rfl) ?_
              refine lv_iload_n hx hb (zat zrX8_fill_0_ok 44 rfl) rfl (lv_at hl 3 rfl) ?_
              refine lv_iload hx hb (zat zrX8_fill_0_ok 45 rfl) (lv_at hl 0 rfl) ?_
              obtain ⟨o75, eo75, h⟩ := bd_of h
              refine ck_i (wc := (bX8 a0 us ks v52_s_s (bX6 a1 up kp p_p []))) (wr := []) hP hD hK hS hA [0, 1, 2, 3, 4, 5, 6, 7, 8, 9, 10, 11, 12] [] rfl rfl (by decide) (by decide) (by decide) (fun hPc hDc => (va_runV (As := [.ref a1, .int 1, .int v52_l5]) (rest := []) ⟨hx, hb, hml, hown, hts⟩ (kfX8_isFree l dC dI a0 a1 (1 : Int32) v52_l5 us ks up kp v52_s_s p_p H.size o75 eo75) (cwV 3 hts gfX8_fill_s1_1 rfl rfl rfl (by decide +kernel) ⟨(Nat.le_of_ble_eq_true rfl), (Nat.le_of_ble_eq_true rfl)⟩) (PV hPc (hK.sub (tys' := (tX8 ks (tX6 kp ([])))) [0, 1, 2, 3, 4, 5, 6, 7, 8, 9, 10] rfl) hDc hN 0 rfl rfl) rfl rfl hl.1 rfl (lv_room (Nat.le_of_ble_eq_true rfl)) (zat zrX8_fill_0_ok 46 rfl) ⟨(Nat.le_of_ble_eq_true rfl), (Nat.le_of_ble_eq_true rfl)⟩)) (fun r75 _ H locs hw hP hD _ hS => ?_)
              obtain ⟨hw, br75⟩ := hw
              obtain rfl := hw.symm
              obtain ⟨hP, hD⟩ := pd_mk (bX8 a0 us ks v52_s_s (bX6 a1 up kp p_p [])) hP hD
              have J100 : ∀ (v100_s_s : TX8_s) (H : Heap) (locs : List Loc) (ls : Array Slot), f_X8_fill_s1_J100 (f_X8_fill_s1_L52 k3 k4 p_p n52) v52_l5 v100_s_s = some out → va_P (dC, dI) vwCl (bX8 a0 us ks v100_s_s (bX6 a1 up kp p_p [])) H → va_D A (bX8 a0 us ks v100_s_s (bX6 a1 up kp p_p [])) → va_S A s.heap H locs → lv_has ls 6 [(5, .int v52_l5), (0, .ref a0), (1, .ref a1), (2, .int 1), (3, .int k3), (4, .int k4)] → W p l e (headSpec vfX8_fill_s1 { frames := 6, cells := 0, slots := 0, locals := 160 }).room s m ([.ref a0, .ref a1, .int 1, .int k3, .int k4]).toArray below meth c H locs 0 0 QQ (F0 m 100 ls []) := by
                intro v100_s_s H locs ls h  hP hD hS hl
                rw [f_X8_fill_s1_J100] at h
                refine lv_iinc (v := (v52_l5 + (1 : Int32))) (lv' := [(5, .int (v52_l5 + (1 : Int32))), (0, .ref a0), (1, .ref a1), (2, .int 1), (3, .int k3), (4, .int k4)]) hx hb (zat zrX8_fill_0_ok 61 rfl) hl (k := 0) rfl rfl (by decide) rfl (fun ls hl => ?_)
                refine lv_goto (tgt := 52) hx hb (zat zrX8_fill_0_ok 62 rfl) (by decide) ?_
                exact ih52 (v52_l5 + (1 : Int32)) v100_s_s H _ ls h  hP hD hS (lv_sub hl [0, 1, 2, 3, 4, 5] rfl)
              refine lv_if_eq (tgt := 100) hx hb (zat zrX8_fill_0_ok 47 rfl) (by decide) (fun c78 => ?_) (fun c78 => ?_)
              · have h := (if_pos c78).symm.trans h
                exact J100 v52_s_s H _ ls h  hP hD hS (lv_sub hl [0, 1, 2, 3, 4, 5] rfl)
              · have h := (if_neg c78).symm.trans h
                refine lv_aload_n hx hb (zat zrX8_fill_0_ok 48 rfl) rfl (lv_at hl 1 rfl) ?_
                refine va_get (D := (dC, dI)) (ci := 6) (v := .ref (us 0)) (C := RX8) (T := TX8) (N := 3) hx hb hts ifX8_fill_s1_X8 hown hK hP 0 rfl rfl 0 (by decide) (hts (.fieldLink RX8 9 "HookPier$Seats" "row" "[I") (List.mem_of_getElem? (i := 6) rfl)) (fun _ h9 => h9) rfl (zat zrX8_fill_0_ok 49 rfl) ?_
                refine lv_iload_n hx hb (zat zrX8_fill_0_ok 50 rfl) rfl (lv_at hl 3 rfl) ?_
                refine lv_iload hx hb (zat zrX8_fill_0_ok 51 rfl) (lv_at hl 0 rfl) ?_
                refine va_iast hx hb hK hP hD hS 1 0 rfl rfl (by unfold vp_in; decide) (zat zrX8_fill_0_ok 52 rfl) (fun H locs hP hD hS => ?_)
                obtain ⟨hP, hD⟩ := pd_mk (bX8 a0 us ks ((upd v52_s_s.1 ((1 : Int32)).toNatClampNeg v52_l5), v52_s_s.2) (bX6 a1 up kp p_p [])) hP hD
                refine lv_aload_n hx hb (zat zrX8_fill_0_ok 53 rfl) rfl (lv_at hl 1 rfl) ?_
                refine lv_aload_n hx hb (zat zrX8_fill_0_ok 54 rfl) rfl (lv_at hl 2 rfl) ?_
                refine lv_iload_n hx hb (zat zrX8_fill_0_ok 55 rfl) rfl (lv_at hl 3 rfl) ?_
                refine lv_iconst (v := 1) hx hb (zat zrX8_fill_0_ok 56 rfl) (by decide) ?_
                refine lv_iadd hx hb (zat zrX8_fill_0_ok 57 rfl) ?_
                refine lv_topi (fun z93 e93 => ?_)
                obtain rfl : z93 = 2 := e93.trans (by decide)
                refine lv_iload_n hx hb (zat zrX8_fill_0_ok 58 rfl) rfl (lv_at hl 4 rfl) ?_
                refine lv_iload hx hb (zat zrX8_fill_0_ok 59 rfl) (lv_at hl 5 rfl) ?_
                obtain ⟨o97, eo97, h⟩ := bd_of h
                refine ck_v (wc := (bX8 a0 us ks ((upd v52_s_s.1 ((1 : Int32)).toNatClampNeg v52_l5), v52_s_s.2) (bX6 a1 up kp p_p []))) (wr := []) hP hD hK hS hA [0, 1, 2, 3, 4, 5, 6, 7, 8, 9, 10, 11, 12] [] rfl rfl (by decide) (by decide) (by decide) (fun hPc hDc => (va_runV (As := [.ref a1, .int 2, .int k3, .int k4]) (rest := []) ⟨hx, hb, hml, hown, hts⟩ (kfX8_fill_s2 l dC dI a0 a1 k3 k4 us ks up kp ((upd v52_s_s.1 ((1 : Int32)).toNatClampNeg v52_l5), v52_s_s.2) p_p H.size o97 eo97) (cwV 4 hts gfX8_fill_s1_2 rfl rfl rfl (by decide +kernel) ⟨(Nat.le_of_ble_eq_true rfl), (Nat.le_of_ble_eq_true rfl)⟩) (PV hPc (hK.sub (tys' := (tX8 ks (tX6 kp ([])))) [0, 1, 2, 3, 4, 5, 6, 7, 8, 9, 10] rfl) hDc hN 0 rfl rfl) rfl rfl hl.1 rfl (lv_room (Nat.le_of_ble_eq_true rfl)) (zat zrX8_fill_0_ok 60 rfl) ⟨(Nat.le_of_ble_eq_true rfl), (Nat.le_of_ble_eq_true rfl)⟩)) (fun _ H locs hw hP hD _ hS => ?_)
                obtain ⟨hP, hD⟩ := pd_mk (bX8 a0 us ks o97 (bX6 a1 up kp p_p [])) hP hD
                exact J100 o97 H _ ls h  hP hD hS (lv_sub hl [0, 1, 2, 3, 4, 5] rfl)
      exact L52 FU (0 : Int32) s_s s.heap _ ls h  hP hD hS (lv_sub hl [0, 1, 2, 3, 4, 5] rfl)
    · have h := (if_pos c27).symm.trans h
      refine lv_aload_n hx hb (zat zrX8_fill_0_ok 18 rfl) rfl (lv_at hl 0 rfl) ?_
      refine va_get (D := (dC, dI)) (ci := 6) (v := .ref (us 0)) (C := RX8) (T := TX8) (N := 3) hx hb hts ifX8_fill_s1_X8 hown hK hP 0 rfl rfl 0 (by decide) (hts (.fieldLink RX8 9 "HookPier$Seats" "row" "[I") (List.mem_of_getElem? (i := 6) rfl)) (fun _ h9 => h9) rfl (zat zrX8_fill_0_ok 19 rfl) ?_
      refine lv_iload_n hx hb (zat zrX8_fill_0_ok 20 rfl) rfl (lv_at hl 2 rfl) ?_
      refine lv_iconst (v := (-1)) hx hb (zat zrX8_fill_0_ok 21 rfl) (by decide) ?_
      refine va_iast hx hb hK hP hD hS 1 0 rfl rfl (by unfold vp_in; decide) (zat zrX8_fill_0_ok 22 rfl) (fun H locs hP hD hS => ?_)
      obtain ⟨hP, hD⟩ := pd_mk (bX8 a0 us ks ((upd s_s.1 ((1 : Int32)).toNatClampNeg (-1 : Int32)), s_s.2) (bX6 a1 up kp p_p [])) hP hD
      refine lv_aload_n hx hb (zat zrX8_fill_0_ok 23 rfl) rfl (lv_at hl 0 rfl) ?_
      refine lv_aload_n hx hb (zat zrX8_fill_0_ok 24 rfl) rfl (lv_at hl 1 rfl) ?_
      refine lv_iload_n hx hb (zat zrX8_fill_0_ok 25 rfl) rfl (lv_at hl 2 rfl) ?_
      refine lv_iconst (v := 1) hx hb (zat zrX8_fill_0_ok 26 rfl) (by decide) ?_
      refine lv_iadd hx hb (zat zrX8_fill_0_ok 27 rfl) ?_
      refine lv_topi (fun z41 e41 => ?_)
      obtain rfl : z41 = 2 := e41.trans (by decide)
      refine lv_iload_n hx hb (zat zrX8_fill_0_ok 28 rfl) rfl (lv_at hl 3 rfl) ?_
      refine lv_iload hx hb (zat zrX8_fill_0_ok 29 rfl) (lv_at hl 4 rfl) ?_
      obtain ⟨o45, eo45, h⟩ := bd_of h
      refine ck_v (wc := (bX8 a0 us ks ((upd s_s.1 ((1 : Int32)).toNatClampNeg (-1 : Int32)), s_s.2) (bX6 a1 up kp p_p []))) (wr := []) hP hD hK hS hA [0, 1, 2, 3, 4, 5, 6, 7, 8, 9, 10, 11, 12] [] rfl rfl (by decide) (by decide) (by decide) (fun hPc hDc => (va_runV (As := [.ref a1, .int 2, .int k3, .int k4]) (rest := []) ⟨hx, hb, hml, hown, hts⟩ (kfX8_fill_s2 l dC dI a0 a1 k3 k4 us ks up kp ((upd s_s.1 ((1 : Int32)).toNatClampNeg (-1 : Int32)), s_s.2) p_p H.size o45 eo45) (cwV 4 hts gfX8_fill_s1_2 rfl rfl rfl (by decide +kernel) ⟨(Nat.le_of_ble_eq_true rfl), (Nat.le_of_ble_eq_true rfl)⟩) (PV hPc (hK.sub (tys' := (tX8 ks (tX6 kp ([])))) [0, 1, 2, 3, 4, 5, 6, 7, 8, 9, 10] rfl) hDc hN 0 rfl rfl) rfl rfl hl.1 rfl (lv_room (Nat.le_of_ble_eq_true rfl)) (zat zrX8_fill_0_ok 30 rfl) ⟨(Nat.le_of_ble_eq_true rfl), (Nat.le_of_ble_eq_true rfl)⟩)) (fun _ H locs hw hP hD _ hS => ?_)
      obtain ⟨hP, hD⟩ := pd_mk (bX8 a0 us ks o45 (bX6 a1 up kp p_p [])) hP hD
      obtain rfl := Option.some.inj h
      obtain ⟨hP9, hD9⟩ := pd_sub (bX8 a0 us ks o45 (bX6 a1 up kp p_p [])) [0, 1, 2, 3, 4, 5, 6, 7, 8, 9, 10, 11, 12] hP hD (by decide) rfl
      have hK9 := hK.sub (tys' := []) [] rfl
      rw [hQQ]
      exact W.vret hx hb hr (fun t ht hW => ⟨⟨(), rfl, trivial, by rw [ht]; exact hP9, va_K.moved hW.alike hK9, hD9⟩, hS.F ht⟩) hS.2.2 (zat zrX8_fill_0_ok 31 rfl)
def vfX8_fill_s0 : List Cond := List.cons (.code yX8_fill cX8_fill 6 none) (apW [.fieldLink RX8 26 "HookPier$Plan" "askers" "I", .methodLink RX8 31 yX8_keepRow, .instanceMethod yX8_keepRow, .selects RX8 yX8_keepRow yX8_keepRow, .initialized RX8, .fieldLink RX8 9 "HookPier$Seats" "row" "[I", .fieldLink RX8 34 "HookPier$Plan" "spots" "I", .fieldLink RX8 18 "HookPier$Seats" "found" "I", .methodLink RX8 37 yX8_isFree, .instanceMethod yX8_isFree, .selects RX8 yX8_isFree yX8_isFree, .methodLink RX8 22 yX8_fill, .instanceMethod yX8_fill, .selects RX8 yX8_fill yX8_fill] (apW wsX60 (apW wsX80 (apW vfX8_keepRow (apW vfX8_isFree (vfX8_fill_s1))))))
theorem ifX8_fill_s0_X6 : ∀ w ∈ wsX60, w ∈ vfX8_fill_s0 := fun _ h => (List.mem_cons_of_mem _ (List.mem_append_right _ (List.mem_append_left _ h)))
theorem ifX8_fill_s0_X8 : ∀ w ∈ wsX80, w ∈ vfX8_fill_s0 := fun _ h => (List.mem_cons_of_mem _ (List.mem_append_right _ (List.mem_append_right _ (List.mem_append_left _ h))))
theorem qfX8_fill_s0 : Good vfX8_fill_s0 := gd_cons (by decide +kernel) (gd_app (gd_dec (by decide +kernel) : Good [.fieldLink RX8 26 "HookPier$Plan" "askers" "I", .methodLink RX8 31 yX8_keepRow, .instanceMethod yX8_keepRow, .selects RX8 yX8_keepRow yX8_keepRow, .initialized RX8, .fieldLink RX8 9 "HookPier$Seats" "row" "[I", .fieldLink RX8 34 "HookPier$Plan" "spots" "I", .fieldLink RX8 18 "HookPier$Seats" "found" "I", .methodLink RX8 37 yX8_isFree, .instanceMethod yX8_isFree, .selects RX8 yX8_isFree yX8_isFree, .methodLink RX8 22 yX8_fill, .instanceMethod yX8_fill, .selects RX8 yX8_fill yX8_fill]) (gd_app qsX6 (gd_app qsX8 (gd_app qfX8_keepRow (gd_app qfX8_isFree qfX8_fill_s1)))))
theorem gfX8_fill_s0_0 : GoodIn vfX8_fill_s0 (wsV RX8 31 RX8 yX8_keepRow vfX8_keepRow) := goodIn_app (goodIn_r [.methodLink RX8 31 yX8_keepRow, .instanceMethod yX8_keepRow, .selects RX8 yX8_keepRow yX8_keepRow, .initialized RX8] [2, 3, 4, 5] rfl (by decide +kernel)) (goodIn_m (fun _ h => (List.mem_cons_of_mem _ (List.mem_append_right _ (List.mem_append_right _ (List.mem_append_right _ (List.mem_append_left _ h)))))) qfX8_keepRow)
theorem gfX8_fill_s0_1 : GoodIn vfX8_fill_s0 (wsV RX8 37 RX8 yX8_isFree vfX8_isFree) := goodIn_app (goodIn_r [.methodLink RX8 37 yX8_isFree, .instanceMethod yX8_isFree, .selects RX8 yX8_isFree yX8_isFree, .initialized RX8] [9, 10, 11, 5] rfl (by decide +kernel)) (goodIn_m (fun _ h => (List.mem_cons_of_mem _ (List.mem_append_right _ (List.mem_append_right _ (List.mem_append_right _ (List.mem_append_right _ (List.mem_append_left _ h))))))) qfX8_isFree)
theorem gfX8_fill_s0_2 : GoodIn vfX8_fill_s0 (wsV RX8 22 RX8 yX8_fill vfX8_fill_s1) := goodIn_app (goodIn_r [.methodLink RX8 22 yX8_fill, .instanceMethod yX8_fill, .selects RX8 yX8_fill yX8_fill, .initialized RX8] [12, 13, 14, 5] rfl (by decide +kernel)) (goodIn_m (fun _ h => (List.mem_cons_of_mem _ (List.mem_append_right _ (List.mem_append_right _ (List.mem_append_right _ (List.mem_append_right _ (List.mem_append_right _ h))))))) qfX8_fill_s1)
set_option maxHeartbeats 2000000 in
set_option maxRecDepth 100000 in
theorem kfX8_fill_s0 (l : Launch) (dC : Nat → ClassId) (dI : Nat → Nat → Nat) (a0 : Nat) (a1 : Nat) (k3 : Int32) (k4 : Int32) (us : Nat → Nat) (ks : Nat → ClassId) (up : Nat → Nat) (kp : Nat → ClassId) (s_s : TX8_s) (p_p : TX6_p) (sz : Nat) (out : TX8_s) (h : f_X8_fill_s0 k3 k4 s_s p_p = some out) : KCv l yX8_fill vfX8_fill_s0 ({ frames := 7, cells := 0, slots := 0, locals := 185 }) (dC, dI) [.ref a0, .ref a1, .int 0, .int k3, .int k4] sz (bX8 a0 us ks s_s (bX6 a1 up kp p_p [])) (tX8 ks (tX6 kp ([]))) (fun _ => True) (bX8 a0 us ks out (bX6 a1 up kp p_p [])) 0 0 := by
  refine Met.ofW (cc := cX8_fill) (maxL := 6) (ret := none) (by decide) rfl ?_
  intro p e s m args below meth c s₁ B0 hml hv
  obtain ⟨rfl, hsz, hP, hK, hD0, hN⟩ := hv
  have hx := B0.exec
  have hb := B0.bytes
  have hr := B0.returns
  have hts := atoms_spec (ws := vfX8_fill_s0) B0.pre
  have hown : s.vm.findClass RX8 = some m.cls := findClass_of_methodNamed B0.named
  have hlocks := B0.notSynchronized
  subst hsz
  have hD := hD0.self (sz := s.heap.size)
  generalize hAe : va_A (bX8 a0 us ks s_s (bX6 a1 up kp p_p [])) s.heap.size = A at hD ⊢
  have hA : ∀ q : Nat, s.heap.size ≤ q → A q := fun q h => by rw [← hAe]; exact Or.inr h
  have hS : va_S A s.heap s.heap [] := va_S.rf
  have hP : va_P (dC, dI) vwCl (bX8 a0 us ks s_s (bX6 a1 up kp p_p [])) s.heap := hP
  have hl := lv_entry ([.ref a0, .ref a1, .int 0, .int k3, .int k4]) (n := 6) (Nat.le_of_ble_eq_true rfl)
  rw [lg_entry_eq]
  generalize (lg_sl ([.ref a0, .ref a1, .int 0, .int k3, .int k4]) ++ List.replicate (6 - (lg_sl ([.ref a0, .ref a1, .int 0, .int k3, .int k4])).length) Slot.unset).toArray = ls at hl ⊢
  have hl : lv_has ls 6 [(0, .ref a0), (1, .ref a1), (2, .int 0), (3, .int k3), (4, .int k4)] := hl
  refine W_q (fun QQ hQQ => ?_)
  rw [f_X8_fill_s0] at h
  refine lv_iload_n hx hb (zat zrX8_fill_0_ok 0 rfl) rfl (lv_at hl 2 rfl) ?_
  refine lv_aload_n hx hb (zat zrX8_fill_0_ok 1 rfl) rfl (lv_at hl 1 rfl) ?_
  refine va_get (D := (dC, dI)) (ci := 4) (v := .int p_p.2.2.2.2.2.1) (C := RX6) (T := TX6) (N := 18) hx hb hts ifX8_fill_s0_X6 hown hK hP 3 rfl rfl 5 (by decide) (hts (.fieldLink RX8 26 "HookPier$Plan" "askers" "I") (List.mem_of_getElem? (i := 1) rfl)) (fun _ h9 => h9) rfl (zat zrX8_fill_0_ok 2 rfl) ?_
  refine lv_icmp_ge (tgt := 17) hx hb (zat zrX8_fill_0_ok 3 rfl) (by decide) (fun c5 => ?_) (fun c5 => ?_)
  · have h := (if_pos c5).symm.trans h
    refine lv_aload_n hx hb (zat zrX8_fill_0_ok 9 rfl) rfl (lv_at hl 0 rfl) ?_
    obtain ⟨o18, eo18⟩ : ∃ o, o = f_X8_keepRow s_s := ⟨_, rfl⟩
    have h := nm_of h o18 eo18
    refine ck_v (wc := (bX8 a0 us ks s_s [])) (wr := (bX6 a1 up kp p_p [])) hP hD hK hS hA [0, 1, 2] [3, 4, 5, 6, 7, 8, 9, 10, 11, 12] rfl rfl (by decide) (by decide) (by decide) (fun hPc hDc => (va_runV (As := []) (rest := []) ⟨hx, hb, hml, hown, hts⟩ (kfX8_keepRow l dC dI a0 us ks s_s s.heap.size o18 eo18.symm) (cwV 0 hts gfX8_fill_s0_0 rfl rfl rfl (by decide +kernel) ⟨(Nat.le_of_ble_eq_true rfl), (Nat.le_of_ble_eq_true rfl)⟩) (PV hPc (hK.sub (tys' := (tX8 ks ([]))) [0, 1] rfl) hDc hN 0 rfl rfl) rfl rfl hl.1 rfl (lv_room (Nat.le_of_ble_eq_true rfl)) (zat zrX8_fill_0_ok 10 rfl) ⟨(Nat.le_of_ble_eq_true rfl), (Nat.le_of_ble_eq_true rfl)⟩)) (fun _ H locs hw hP hD _ hS => ?_)
    obtain ⟨hP, hD⟩ := pd_mk (bX6 a1 up kp p_p (bX8 a0 us ks o18 [])) hP hD
    obtain rfl := Option.some.inj h
    obtain ⟨hP9, hD9⟩ := pd_sub (bX8 a0 us ks o18 (bX6 a1 up kp p_p [])) [10, 11, 12, 0, 1, 2, 3, 4, 5, 6, 7, 8, 9] hP hD (by decide) rfl
    have hK9 := hK.sub (tys' := []) [] rfl
    rw [hQQ]
    exact W.vret hx hb hr (fun t ht hW => ⟨⟨(), rfl, trivial, by rw [ht]; exact hP9, va_K.moved hW.alike hK9, hD9⟩, hS.F ht⟩) hS.2.2 (zat zrX8_fill_0_ok 11 rfl)
  · have h := (if_neg c5).symm.trans h
    refine lv_iload_n hx hb (zat zrX8_fill_0_ok 4 rfl) rfl (lv_at hl 2 rfl) ?_
    refine lv_aload_n hx hb (zat zrX8_fill_0_ok 5 rfl) rfl (lv_at hl 0 rfl) ?_
    refine va_get (D := (dC, dI)) (ci := 6) (v := .ref (us 0)) (C := RX8) (T := TX8) (N := 3) hx hb hts ifX8_fill_s0_X8 hown hK hP 0 rfl rfl 0 (by decide) (hts (.fieldLink RX8 9 "HookPier$Seats" "row" "[I") (List.mem_of_getElem? (i := 6) rfl)) (fun _ h9 => h9) rfl (zat zrX8_fill_0_ok 6 rfl) ?_
    refine va_alen (v := 5) hx hb hK hP 1 0 rfl rfl rfl (zat zrX8_fill_0_ok 7 rfl) ?_
    refine lv_icmp_lt (tgt := 22) hx hb (zat zrX8_fill_0_ok 8 rfl) (by decide) (fun _ => ?_) (fun c14 => absurd c14 (by decide))
    refine lv_iload_n hx hb (zat zrX8_fill_0_ok 12 rfl) rfl (lv_at hl 3 rfl) ?_
    refine lv_iload_n hx hb (zat zrX8_fill_0_ok 13 rfl) rfl (lv_at hl 2 rfl) ?_
    refine lv_ishr hx hb (zat zrX8_fill_0_ok 14 rfl) ?_
    refine lv_iconst (v := 1) hx hb (zat zrX8_fill_0_ok 15 rfl) (by decide) ?_
    refine lv_iand hx hb (zat zrX8_fill_0_ok 16 rfl) ?_
    refine lv_if_ne (tgt := 49) hx hb (zat zrX8_fill_0_ok 17 rfl) (by decide) (fun c27 => ?_) (fun c27 => ?_)
    · have h := (if_neg c27).symm.trans h
      refine lv_iconst (v := 0) hx hb (zat zrX8_fill_0_ok 32 rfl) (by decide) ?_
      refine lv_istore (lv' := [(5, .int 0), (0, .ref a0), (1, .ref a1), (2, .int 0), (3, .int k3), (4, .int k4)]) hx hb (zat zrX8_fill_0_ok 33 rfl) hl (by decide) rfl (fun ls hl => ?_)
      have L52 : ∀ (n52 : Nat) (v52_l5 : Int32) (v52_s_s : TX8_s) (H : Heap) (locs : List Loc) (ls : Array Slot), f_X8_fill_s0_L52 k3 k4 p_p n52 v52_l5 v52_s_s = some out → va_P (dC, dI) vwCl (bX8 a0 us ks v52_s_s (bX6 a1 up kp p_p [])) H → va_D A (bX8 a0 us ks v52_s_s (bX6 a1 up kp p_p [])) → va_S A s.heap H locs → lv_has ls 6 [(5, .int v52_l5), (0, .ref a0), (1, .ref a1), (2, .int 0), (3, .int k3), (4, .int k4)] → W p l e (headSpec vfX8_fill_s0 { frames := 7, cells := 0, slots := 0, locals := 185 }).room s m ([.ref a0, .ref a1, .int 0, .int k3, .int k4]).toArray below meth c H locs 0 0 QQ (F0 m 52 ls []) := by
        intro n52
        induction n52 with
        | zero =>
          intro v52_l5 v52_s_s H locs ls h  _ _ _ _
          rw [f_X8_fill_s0_L52] at h
          cases h
        | succ n52 ih52 =>
          intro v52_l5 v52_s_s H locs ls h  hP hD hS hl
          rw [f_X8_fill_s0_L52] at h
          refine lv_iload hx hb (zat zrX8_fill_0_ok 34 rfl) (lv_at hl 0 rfl) ?_
          refine lv_aload_n hx hb (zat zrX8_fill_0_ok 35 rfl) rfl (lv_at hl 2 rfl) ?_
          refine va_get (D := (dC, dI)) (ci := 4) (v := .int p_p.1) (C := RX6) (T := TX6) (N := 18) hx hb hts ifX8_fill_s0_X6 hown hK hP 3 rfl rfl 0 (by decide) (hts (.fieldLink RX8 34 "HookPier$Plan" "spots" "I") (List.mem_of_getElem? (i := 7) rfl)) (fun _ h9 => h9) rfl (zat zrX8_fill_0_ok 36 rfl) ?_
          refine lv_icmp_ge (tgt := 106) hx hb (zat zrX8_fill_0_ok 37 rfl) (by decide) (fun c58 => ?_) (fun c58 => ?_)
          · have h := (if_pos c58).symm.trans h
            obtain rfl := Option.some.inj h
            obtain ⟨hP9, hD9⟩ := pd_sub (bX8 a0 us ks v52_s_s (bX6 a1 up kp p_p [])) [0, 1, 2, 3, 4, 5, 6, 7, 8, 9, 10, 11, 12] hP hD (by decide) rfl
            have hK9 := hK.sub (tys' := []) [] rfl
            rw [hQQ]
            exact W.vret hx hb hr (fun t ht hW => ⟨⟨(), rfl, trivial, by rw [ht]; exact hP9, va_K.moved hW.alike hK9, hD9⟩, hS.F ht⟩) hS.2.2 (zat zrX8_fill_0_ok 63 rfl)
          · have h := (if_neg c58).symm.trans h
            refine lv_aload_n hx hb (zat zrX8_fill_0_ok 38 rfl) rfl (lv_at hl 1 rfl) ?_
            refine va_get (D := (dC, dI)) (ci := 6) (v := .int v52_s_s.2.2) (C := RX8) (T := TX8) (N := 3) hx hb hts ifX8_fill_s0_X8 hown hK hP 0 rfl rfl 2 (by decide) (hts (.fieldLink RX8 18 "HookPier$Seats" "found" "I") (List.mem_of_getElem? (i := 8) rfl)) (fun _ h9 => h9) rfl (zat zrX8_fill_0_ok 39 rfl) ?_
            refine lv_iload hx hb (zat zrX8_fill_0_ok 40 rfl) (lv_at hl 5 rfl) ?_
            refine lv_icmp_ge (tgt := 106) hx hb (zat zrX8_fill_0_ok 41 rfl) (by decide) (fun c67 => ?_) (fun c67 => ?_)
            · have h := (if_pos c67).symm.trans h
              obtain rfl := Option.some.inj h
              obtain ⟨hP9, hD9⟩ := pd_sub (bX8 a0 us ks v52_s_s (bX6 a1 up kp p_p [])) [0, 1, 2, 3, 4, 5, 6, 7, 8, 9, 10, 11, 12] hP hD (by decide) rfl
              have hK9 := hK.sub (tys' := []) [] rfl
              rw [hQQ]
              exact W.vret hx hb hr (fun t ht hW => ⟨⟨(), rfl, trivial, by rw [ht]; exact hP9, va_K.moved hW.alike hK9, hD9⟩, hS.F ht⟩) hS.2.2 (zat zrX8_fill_0_ok 63 rfl)
            · have h := (if_neg c67).symm.trans h
              refine lv_aload_n hx hb (zat zrX8_fill_0_ok 42 rfl) rfl (lv_at hl 1 rfl) ?_
              refine lv_aload_n hx hb (zat zrX8_fill_0_ok 43 rfl) rfl (lv_at hl 2 rfl) ?_
              refine lv_iload_n hx hb (zat zrX8_fill_0_ok 44 rfl) rfl (lv_at hl 3 rfl) ?_
              refine lv_iload hx hb (zat zrX8_fill_0_ok 45 rfl) (lv_at hl 0 rfl) ?_
              obtain ⟨o75, eo75, h⟩ := bd_of h
              refine ck_i (wc := (bX8 a0 us ks v52_s_s (bX6 a1 up kp p_p []))) (wr := []) hP hD hK hS hA [0, 1, 2, 3, 4, 5, 6, 7, 8, 9, 10, 11, 12] [] rfl rfl (by decide) (by decide) (by decide) (fun hPc hDc => (va_runV (As := [.ref a1, .int 0, .int v52_l5]) (rest := []) ⟨hx, hb, hml, hown, hts⟩ (kfX8_isFree l dC dI a0 a1 (0 : Int32) v52_l5 us ks up kp v52_s_s p_p H.size o75 eo75) (cwV 3 hts gfX8_fill_s0_1 rfl rfl rfl (by decide +kernel) ⟨(Nat.le_of_ble_eq_true rfl), (Nat.le_of_ble_eq_true rfl)⟩) (PV hPc (hK.sub (tys' := (tX8 ks (tX6 kp ([])))) [0, 1, 2, 3, 4, 5, 6, 7, 8, 9, 10] rfl) hDc hN 0 rfl rfl) rfl rfl hl.1 rfl (lv_room (Nat.le_of_ble_eq_true rfl)) (zat zrX8_fill_0_ok 46 rfl) ⟨(Nat.le_of_ble_eq_true rfl), (Nat.le_of_ble_eq_true rfl)⟩)) (fun r75 _ H locs hw hP hD _ hS => ?_)
              obtain ⟨hw, br75⟩ := hw
              obtain rfl := hw.symm
              obtain ⟨hP, hD⟩ := pd_mk (bX8 a0 us ks v52_s_s (bX6 a1 up kp p_p [])) hP hD
              have J100 : ∀ (v100_s_s : TX8_s) (H : Heap) (locs : List Loc) (ls : Array Slot), f_X8_fill_s0_J100 (f_X8_fill_s0_L52 k3 k4 p_p n52) v52_l5 v100_s_s = some out → va_P (dC, dI) vwCl (bX8 a0 us ks v100_s_s (bX6 a1 up kp p_p [])) H → va_D A (bX8 a0 us ks v100_s_s (bX6 a1 up kp p_p [])) → va_S A s.heap H locs → lv_has ls 6 [(5, .int v52_l5), (0, .ref a0), (1, .ref a1), (2, .int 0), (3, .int k3), (4, .int k4)] → W p l e (headSpec vfX8_fill_s0 { frames := 7, cells := 0, slots := 0, locals := 185 }).room s m ([.ref a0, .ref a1, .int 0, .int k3, .int k4]).toArray below meth c H locs 0 0 QQ (F0 m 100 ls []) := by
                intro v100_s_s H locs ls h  hP hD hS hl
                rw [f_X8_fill_s0_J100] at h
                refine lv_iinc (v := (v52_l5 + (1 : Int32))) (lv' := [(5, .int (v52_l5 + (1 : Int32))), (0, .ref a0), (1, .ref a1), (2, .int 0), (3, .int k3), (4, .int k4)]) hx hb (zat zrX8_fill_0_ok 61 rfl) hl (k := 0) rfl rfl (by decide) rfl (fun ls hl => ?_)
                refine lv_goto (tgt := 52) hx hb (zat zrX8_fill_0_ok 62 rfl) (by decide) ?_
                exact ih52 (v52_l5 + (1 : Int32)) v100_s_s H _ ls h  hP hD hS (lv_sub hl [0, 1, 2, 3, 4, 5] rfl)
              refine lv_if_eq (tgt := 100) hx hb (zat zrX8_fill_0_ok 47 rfl) (by decide) (fun c78 => ?_) (fun c78 => ?_)
              · have h := (if_pos c78).symm.trans h
                exact J100 v52_s_s H _ ls h  hP hD hS (lv_sub hl [0, 1, 2, 3, 4, 5] rfl)
              · have h := (if_neg c78).symm.trans h
                refine lv_aload_n hx hb (zat zrX8_fill_0_ok 48 rfl) rfl (lv_at hl 1 rfl) ?_
                refine va_get (D := (dC, dI)) (ci := 6) (v := .ref (us 0)) (C := RX8) (T := TX8) (N := 3) hx hb hts ifX8_fill_s0_X8 hown hK hP 0 rfl rfl 0 (by decide) (hts (.fieldLink RX8 9 "HookPier$Seats" "row" "[I") (List.mem_of_getElem? (i := 6) rfl)) (fun _ h9 => h9) rfl (zat zrX8_fill_0_ok 49 rfl) ?_
                refine lv_iload_n hx hb (zat zrX8_fill_0_ok 50 rfl) rfl (lv_at hl 3 rfl) ?_
                refine lv_iload hx hb (zat zrX8_fill_0_ok 51 rfl) (lv_at hl 0 rfl) ?_
                refine va_iast hx hb hK hP hD hS 1 0 rfl rfl (by unfold vp_in; decide) (zat zrX8_fill_0_ok 52 rfl) (fun H locs hP hD hS => ?_)
                obtain ⟨hP, hD⟩ := pd_mk (bX8 a0 us ks ((upd v52_s_s.1 ((0 : Int32)).toNatClampNeg v52_l5), v52_s_s.2) (bX6 a1 up kp p_p [])) hP hD
                refine lv_aload_n hx hb (zat zrX8_fill_0_ok 53 rfl) rfl (lv_at hl 1 rfl) ?_
                refine lv_aload_n hx hb (zat zrX8_fill_0_ok 54 rfl) rfl (lv_at hl 2 rfl) ?_
                refine lv_iload_n hx hb (zat zrX8_fill_0_ok 55 rfl) rfl (lv_at hl 3 rfl) ?_
                refine lv_iconst (v := 1) hx hb (zat zrX8_fill_0_ok 56 rfl) (by decide) ?_
                refine lv_iadd hx hb (zat zrX8_fill_0_ok 57 rfl) ?_
                refine lv_topi (fun z93 e93 => ?_)
                obtain rfl : z93 = 1 := e93.trans (by decide)
                refine lv_iload_n hx hb (zat zrX8_fill_0_ok 58 rfl) rfl (lv_at hl 4 rfl) ?_
                refine lv_iload hx hb (zat zrX8_fill_0_ok 59 rfl) (lv_at hl 5 rfl) ?_
                obtain ⟨o97, eo97, h⟩ := bd_of h
                refine ck_v (wc := (bX8 a0 us ks ((upd v52_s_s.1 ((0 : Int32)).toNatClampNeg v52_l5), v52_s_s.2) (bX6 a1 up kp p_p []))) (wr := []) hP hD hK hS hA [0, 1, 2, 3, 4, 5, 6, 7, 8, 9, 10, 11, 12] [] rfl rfl (by decide) (by decide) (by decide) (fun hPc hDc => (va_runV (As := [.ref a1, .int 1, .int k3, .int k4]) (rest := []) ⟨hx, hb, hml, hown, hts⟩ (kfX8_fill_s1 l dC dI a0 a1 k3 k4 us ks up kp ((upd v52_s_s.1 ((0 : Int32)).toNatClampNeg v52_l5), v52_s_s.2) p_p H.size o97 eo97) (cwV 4 hts gfX8_fill_s0_2 rfl rfl rfl (by decide +kernel) ⟨(Nat.le_of_ble_eq_true rfl), (Nat.le_of_ble_eq_true rfl)⟩) (PV hPc (hK.sub (tys' := (tX8 ks (tX6 kp ([])))) [0, 1, 2, 3, 4, 5, 6, 7, 8, 9, 10] rfl) hDc hN 0 rfl rfl) rfl rfl hl.1 rfl (lv_room (Nat.le_of_ble_eq_true rfl)) (zat zrX8_fill_0_ok 60 rfl) ⟨(Nat.le_of_ble_eq_true rfl), (Nat.le_of_ble_eq_true rfl)⟩)) (fun _ H locs hw hP hD _ hS => ?_)
                obtain ⟨hP, hD⟩ := pd_mk (bX8 a0 us ks o97 (bX6 a1 up kp p_p [])) hP hD
                exact J100 o97 H _ ls h  hP hD hS (lv_sub hl [0, 1, 2, 3, 4, 5] rfl)
      exact L52 FU (0 : Int32) s_s s.heap _ ls h  hP hD hS (lv_sub hl [0, 1, 2, 3, 4, 5] rfl)
    · have h := (if_pos c27).symm.trans h
      refine lv_aload_n hx hb (zat zrX8_fill_0_ok 18 rfl) rfl (lv_at hl 0 rfl) ?_
      refine va_get (D := (dC, dI)) (ci := 6) (v := .ref (us 0)) (C := RX8) (T := TX8) (N := 3) hx hb hts ifX8_fill_s0_X8 hown hK hP 0 rfl rfl 0 (by decide) (hts (.fieldLink RX8 9 "HookPier$Seats" "row" "[I") (List.mem_of_getElem? (i := 6) rfl)) (fun _ h9 => h9) rfl (zat zrX8_fill_0_ok 19 rfl) ?_
      refine lv_iload_n hx hb (zat zrX8_fill_0_ok 20 rfl) rfl (lv_at hl 2 rfl) ?_
      refine lv_iconst (v := (-1)) hx hb (zat zrX8_fill_0_ok 21 rfl) (by decide) ?_
      refine va_iast hx hb hK hP hD hS 1 0 rfl rfl (by unfold vp_in; decide) (zat zrX8_fill_0_ok 22 rfl) (fun H locs hP hD hS => ?_)
      obtain ⟨hP, hD⟩ := pd_mk (bX8 a0 us ks ((upd s_s.1 ((0 : Int32)).toNatClampNeg (-1 : Int32)), s_s.2) (bX6 a1 up kp p_p [])) hP hD
      refine lv_aload_n hx hb (zat zrX8_fill_0_ok 23 rfl) rfl (lv_at hl 0 rfl) ?_
      refine lv_aload_n hx hb (zat zrX8_fill_0_ok 24 rfl) rfl (lv_at hl 1 rfl) ?_
      refine lv_iload_n hx hb (zat zrX8_fill_0_ok 25 rfl) rfl (lv_at hl 2 rfl) ?_
      refine lv_iconst (v := 1) hx hb (zat zrX8_fill_0_ok 26 rfl) (by decide) ?_
      refine lv_iadd hx hb (zat zrX8_fill_0_ok 27 rfl) ?_
      refine lv_topi (fun z41 e41 => ?_)
      obtain rfl : z41 = 1 := e41.trans (by decide)
      refine lv_iload_n hx hb (zat zrX8_fill_0_ok 28 rfl) rfl (lv_at hl 3 rfl) ?_
      refine lv_iload hx hb (zat zrX8_fill_0_ok 29 rfl) (lv_at hl 4 rfl) ?_
      obtain ⟨o45, eo45, h⟩ := bd_of h
      refine ck_v (wc := (bX8 a0 us ks ((upd s_s.1 ((0 : Int32)).toNatClampNeg (-1 : Int32)), s_s.2) (bX6 a1 up kp p_p []))) (wr := []) hP hD hK hS hA [0, 1, 2, 3, 4, 5, 6, 7, 8, 9, 10, 11, 12] [] rfl rfl (by decide) (by decide) (by decide) (fun hPc hDc => (va_runV (As := [.ref a1, .int 1, .int k3, .int k4]) (rest := []) ⟨hx, hb, hml, hown, hts⟩ (kfX8_fill_s1 l dC dI a0 a1 k3 k4 us ks up kp ((upd s_s.1 ((0 : Int32)).toNatClampNeg (-1 : Int32)), s_s.2) p_p H.size o45 eo45) (cwV 4 hts gfX8_fill_s0_2 rfl rfl rfl (by decide +kernel) ⟨(Nat.le_of_ble_eq_true rfl), (Nat.le_of_ble_eq_true rfl)⟩) (PV hPc (hK.sub (tys' := (tX8 ks (tX6 kp ([])))) [0, 1, 2, 3, 4, 5, 6, 7, 8, 9, 10] rfl) hDc hN 0 rfl rfl) rfl rfl hl.1 rfl (lv_room (Nat.le_of_ble_eq_true rfl)) (zat zrX8_fill_0_ok 30 rfl) ⟨(Nat.le_of_ble_eq_true rfl), (Nat.le_of_ble_eq_true rfl)⟩)) (fun _ H locs hw hP hD _ hS => ?_)
      obtain ⟨hP, hD⟩ := pd_mk (bX8 a0 us ks o45 (bX6 a1 up kp p_p [])) hP hD
      obtain rfl := Option.some.inj h
      obtain ⟨hP9, hD9⟩ := pd_sub (bX8 a0 us ks o45 (bX6 a1 up kp p_p [])) [0, 1, 2, 3, 4, 5, 6, 7, 8, 9, 10, 11, 12] hP hD (by decide) rfl
      have hK9 := hK.sub (tys' := []) [] rfl
      rw [hQQ]
      exact W.vret hx hb hr (fun t ht hW => ⟨⟨(), rfl, trivial, by rw [ht]; exact hP9, va_K.moved hW.alike hK9, hD9⟩, hS.F ht⟩) hS.2.2 (zat zrX8_fill_0_ok 31 rfl)
noncomputable def zrX8_countRows_0 : List ZR := zc 0 true (.aload_n 0) 1 (zc 1 true (.iconst 0) 1 (zc 2 true (.putfield 18) 3 (zc 5 true (.aload_n 0) 1 (zc 6 true (.aload_n 1) 1 (zc 7 true (.iconst 0) 1 (zc 8 true (.iload_n 2) 1 (zc 9 true (.iload_n 3) 1 (zc 10 true (.invokevirtual 22) 3 (zc 13 true (.aload_n 0) 1 (zc 14 true (.getfield 18) 3 (zc 17 true (.ireturn) 1 ([]))))))))))))
theorem zrX8_countRows_0_ok : zck 0 ((zby cX8_countRows).drop 0) zrX8_countRows_0 = true := by decide +kernel
def vfX8_countRows : List Cond := List.cons (.code yX8_countRows cX8_countRows 4 (some .int)) (apW [.fieldLink RX8 18 "HookPier$Seats" "found" "I", .methodLink RX8 22 yX8_fill, .instanceMethod yX8_fill, .selects RX8 yX8_fill yX8_fill, .initialized RX8] (apW wsX80 (vfX8_fill_s0)))
theorem ifX8_countRows_X8 : ∀ w ∈ wsX80, w ∈ vfX8_countRows := fun _ h => (List.mem_cons_of_mem _ (List.mem_append_right _ (List.mem_append_left _ h)))
theorem qfX8_countRows : Good vfX8_countRows := gd_cons (by decide +kernel) (gd_app (gd_dec (by decide +kernel) : Good [.fieldLink RX8 18 "HookPier$Seats" "found" "I", .methodLink RX8 22 yX8_fill, .instanceMethod yX8_fill, .selects RX8 yX8_fill yX8_fill, .initialized RX8]) (gd_app qsX8 qfX8_fill_s0))
theorem gfX8_countRows_0 : GoodIn vfX8_countRows (wsV RX8 22 RX8 yX8_fill vfX8_fill_s0) := goodIn_app (goodIn_r [.methodLink RX8 22 yX8_fill, .instanceMethod yX8_fill, .selects RX8 yX8_fill yX8_fill, .initialized RX8] [2, 3, 4, 5] rfl (by decide +kernel)) (goodIn_m (fun _ h => (List.mem_cons_of_mem _ (List.mem_append_right _ (List.mem_append_right _ h)))) qfX8_fill_s0)
set_option maxHeartbeats 2000000 in
set_option maxRecDepth 100000 in
theorem kfX8_countRows (l : Launch) (dC : Nat → ClassId) (dI : Nat → Nat → Nat) (a0 : Nat) (a1 : Nat) (k2 : Int32) (k3 : Int32) (us : Nat → Nat) (ks : Nat → ClassId) (up : Nat → Nat) (kp : Nat → ClassId) (s_s : TX8_s) (p_p : TX6_p) (sz : Nat) (out : (Int32 × TX8_s)) (h : f_X8_countRows k2 k3 s_s p_p = some out) : KCi l yX8_countRows vfX8_countRows ({ frames := 8, cells := 0, slots := 0, locals := 210 }) (dC, dI) [.ref a0, .ref a1, .int k2, .int k3] sz (bX8 a0 us ks s_s (bX6 a1 up kp p_p [])) (tX8 ks (tX6 kp ([]))) (fun (r : Int32) _ => r = out.1) (bX8 a0 us ks out.2 (bX6 a1 up kp p_p [])) 0 0 := by
  refine Met.ofW (cc := cX8_countRows) (maxL := 4) (ret := (some .int)) (by decide) rfl ?_
  intro p e s m args below meth c s₁ B0 hml hv
  obtain ⟨rfl, hsz, hP, hK, hD0, hN⟩ := hv
  have hx := B0.exec
  have hb := B0.bytes
  have hr := B0.returns
  have hts := atoms_spec (ws := vfX8_countRows) B0.pre
  have hown : s.vm.findClass RX8 = some m.cls := findClass_of_methodNamed B0.named
  have hlocks := B0.notSynchronized
  subst hsz
  have hD := hD0.self (sz := s.heap.size)
  generalize hAe : va_A (bX8 a0 us ks s_s (bX6 a1 up kp p_p [])) s.heap.size = A at hD ⊢
  have hA : ∀ q : Nat, s.heap.size ≤ q → A q := fun q h => by rw [← hAe]; exact Or.inr h
  have hS : va_S A s.heap s.heap [] := va_S.rf
  have hP : va_P (dC, dI) vwCl (bX8 a0 us ks s_s (bX6 a1 up kp p_p [])) s.heap := hP
  have hl := lv_entry ([.ref a0, .ref a1, .int k2, .int k3]) (n := 4) (Nat.le_of_ble_eq_true rfl)
  rw [lg_entry_eq]
  generalize (lg_sl ([.ref a0, .ref a1, .int k2, .int k3]) ++ List.replicate (4 - (lg_sl ([.ref a0, .ref a1, .int k2, .int k3])).length) Slot.unset).toArray = ls at hl ⊢
  have hl : lv_has ls 4 [(0, .ref a0), (1, .ref a1), (2, .int k2), (3, .int k3)] := hl
  refine W_q (fun QQ hQQ => ?_)
  rw [f_X8_countRows] at h
  refine lv_aload_n hx hb (zat zrX8_countRows_0_ok 0 rfl) rfl (lv_at hl 0 rfl) ?_
  refine lv_iconst (v := 0) hx hb (zat zrX8_countRows_0_ok 1 rfl) (by decide) ?_
  refine va_put (D := (dC, dI)) (ci := 6) (v := .int 0) (ty := .int) (C := RX8) (T := TX8) (N := 3) hx hb hts ifX8_countRows_X8 tyX8 tyX8_ok nmX8 hown hK hP hD hS 0 rfl rfl 2 (by decide) (hts (.fieldLink RX8 18 "HookPier$Seats" "found" "I") (List.mem_of_getElem? (i := 1) rfl)) (fun _ h9 => h9) rfl (by decide +kernel) rfl rfl (Nat.le_of_ble_eq_true rfl) (zat zrX8_countRows_0_ok 2 rfl) (fun H locs hP hD hS => ?_)
  obtain ⟨hP, hD⟩ := pd_mk (bX8 a0 us ks (s_s.1, s_s.2.1, (0 : Int32)) (bX6 a1 up kp p_p [])) hP hD
  refine lv_aload_n hx hb (zat zrX8_countRows_0_ok 3 rfl) rfl (lv_at hl 0 rfl) ?_
  refine lv_aload_n hx hb (zat zrX8_countRows_0_ok 4 rfl) rfl (lv_at hl 1 rfl) ?_
  refine lv_iconst (v := 0) hx hb (zat zrX8_countRows_0_ok 5 rfl) (by decide) ?_
  refine lv_iload_n hx hb (zat zrX8_countRows_0_ok 6 rfl) rfl (lv_at hl 2 rfl) ?_
  refine lv_iload_n hx hb (zat zrX8_countRows_0_ok 7 rfl) rfl (lv_at hl 3 rfl) ?_
  obtain ⟨o10, eo10, h⟩ := bd_of h
  refine ck_v (wc := (bX8 a0 us ks (s_s.1, s_s.2.1, (0 : Int32)) (bX6 a1 up kp p_p []))) (wr := []) hP hD hK hS hA [0, 1, 2, 3, 4, 5, 6, 7, 8, 9, 10, 11, 12] [] rfl rfl (by decide) (by decide) (by decide) (fun hPc hDc => (va_runV (As := [.ref a1, .int 0, .int k2, .int k3]) (rest := []) ⟨hx, hb, hml, hown, hts⟩ (kfX8_fill_s0 l dC dI a0 a1 k2 k3 us ks up kp (s_s.1, s_s.2.1, (0 : Int32)) p_p H.size o10 eo10) (cwV 4 hts gfX8_countRows_0 rfl rfl rfl (by decide +kernel) ⟨(Nat.le_of_ble_eq_true rfl), (Nat.le_of_ble_eq_true rfl)⟩) (PV hPc (hK.sub (tys' := (tX8 ks (tX6 kp ([])))) [0, 1, 2, 3, 4, 5, 6, 7, 8, 9, 10] rfl) hDc hN 0 rfl rfl) rfl rfl hl.1 rfl (lv_room (Nat.le_of_ble_eq_true rfl)) (zat zrX8_countRows_0_ok 8 rfl) ⟨(Nat.le_of_ble_eq_true rfl), (Nat.le_of_ble_eq_true rfl)⟩)) (fun _ H locs hw hP hD _ hS => ?_)
  obtain ⟨hP, hD⟩ := pd_mk (bX8 a0 us ks o10 (bX6 a1 up kp p_p [])) hP hD
  refine lv_aload_n hx hb (zat zrX8_countRows_0_ok 9 rfl) rfl (lv_at hl 0 rfl) ?_
  refine va_get (D := (dC, dI)) (ci := 6) (v := .int o10.2.2) (C := RX8) (T := TX8) (N := 3) hx hb hts ifX8_countRows_X8 hown hK hP 0 rfl rfl 2 (by decide) (hts (.fieldLink RX8 18 "HookPier$Seats" "found" "I") (List.mem_of_getElem? (i := 1) rfl)) (fun _ h9 => h9) rfl (zat zrX8_countRows_0_ok 10 rfl) ?_
  obtain rfl := Option.some.inj h
  obtain ⟨hP9, hD9⟩ := pd_sub (bX8 a0 us ks o10 (bX6 a1 up kp p_p [])) [0, 1, 2, 3, 4, 5, 6, 7, 8, 9, 10, 11, 12] hP hD (by decide) rfl
  have hK9 := hK.sub (tys' := []) [] rfl
  rw [hQQ]
  exact W.iret (v := o10.2.2) hx hb hr (fun t ht hW => ⟨⟨o10.2.2, (), rfl, rfl, by rw [ht]; exact hP9, va_K.moved hW.alike hK9, hD9⟩, hS.F ht⟩) hS.2.2 (zat zrX8_countRows_0_ok 11 rfl)
noncomputable def zrX10_seatings_0 : List ZR := zc 0 true (.aload_n 0) 1 (zc 1 true (.invokevirtual 216) 3 (zc 4 true (.istore_n 1) 1 (zc 5 true (.aload_n 0) 1 (zc 6 true (.iload_n 1) 1 (zc 7 true (.ifCond .ne 18) 3 (zc 10 true (.aload_n 0) 1 (zc 11 true (.getfield 10) 3 (zc 14 true (.getfield 246) 3 (zc 17 true (.ifCond .ne 8) 3 (zc 20 true (.bipush 6) 2 (zc 22 true (.goto 4) 3 (zc 25 true (.iload_n 1) 1 (zc 26 true (.invokevirtual 79) 3 (zc 29 true (.ifCond .eq 5) 3 (zc 32 true (.iconst (-1)) 1 (zc 33 true (.ireturn) 1 (zc 34 true (.aload_n 0) 1 (zc 35 true (.getfield 43) 3 (zc 38 true (.aload_n 0) 1 (zc 39 true (.getfield 10) 3 (zc 42 true (.aload_n 0) 1 (zc 43 true (.invokevirtual 249) 3 (zc 46 true (.sipush 6720) 3 (zc 49 true (.invokevirtual 252) 3 (zc 52 true (.ireturn) 1 ([]))))))))))))))))))))))))))
theorem zrX10_seatings_0_ok : zck 0 ((zby cX10_seatings).drop 0) zrX10_seatings_0 = true := by decide +kernel
def vfX10_seatings : List Cond := List.cons (.code yX10_seatings cX10_seatings 2 (some .int)) (apW [.methodLink RX10 216 yX10_pierTrouble, .instanceMethod yX10_pierTrouble, .selects RX10 yX10_pierTrouble yX10_pierTrouble, .initialized RX10, .methodLink RX10 79 yX10_refused, .instanceMethod yX10_refused, .selects RX10 yX10_refused yX10_refused, .fieldLink RX10 43 "HookPier" "seats" "LHookPier$Seats;", .fieldLink RX10 10 "HookPier" "plan" "LHookPier$Plan;", .methodLink RX10 249 yX10_everyAsker, .instanceMethod yX10_everyAsker, .selects RX10 yX10_everyAsker yX10_everyAsker, .methodLink RX10 252 yX8_countRows, .instanceMethod yX8_countRows, .selects RX8 yX8_countRows yX8_countRows, .initialized RX8, .fieldLink RX10 246 "HookPier$Plan" "askers" "I"] (apW wsX100 (apW wsX60 (apW vfX10_pierTrouble (apW vfX10_refused (apW vfX10_everyAsker (vfX8_countRows)))))))
theorem ifX10_seatings_X10 : ∀ w ∈ wsX100, w ∈ vfX10_seatings := fun _ h => (List.mem_cons_of_mem _ (List.mem_append_right _ (List.mem_append_left _ h)))
theorem ifX10_seatings_X6 : ∀ w ∈ wsX60, w ∈ vfX10_seatings := fun _ h => (List.mem_cons_of_mem _ (List.mem_append_right _ (List.mem_append_right _ (List.mem_append_left _ h))))
theorem qfX10_seatings : Good vfX10_seatings := gd_cons (by decide +kernel) (gd_app (gd_dec (by decide +kernel) : Good [.methodLink RX10 216 yX10_pierTrouble, .instanceMethod yX10_pierTrouble, .selects RX10 yX10_pierTrouble yX10_pierTrouble, .initialized RX10, .methodLink RX10 79 yX10_refused, .instanceMethod yX10_refused, .selects RX10 yX10_refused yX10_refused, .fieldLink RX10 43 "HookPier" "seats" "LHookPier$Seats;", .fieldLink RX10 10 "HookPier" "plan" "LHookPier$Plan;", .methodLink RX10 249 yX10_everyAsker, .instanceMethod yX10_everyAsker, .selects RX10 yX10_everyAsker yX10_everyAsker, .methodLink RX10 252 yX8_countRows, .instanceMethod yX8_countRows, .selects RX8 yX8_countRows yX8_countRows, .initialized RX8, .fieldLink RX10 246 "HookPier$Plan" "askers" "I"]) (gd_app qsX10 (gd_app qsX6 (gd_app qfX10_pierTrouble (gd_app qfX10_refused (gd_app qfX10_everyAsker qfX8_countRows))))))
theorem gfX10_seatings_0 : GoodIn vfX10_seatings (wsV RX10 216 RX10 yX10_pierTrouble vfX10_pierTrouble) := goodIn_app (goodIn_r [.methodLink RX10 216 yX10_pierTrouble, .instanceMethod yX10_pierTrouble, .selects RX10 yX10_pierTrouble yX10_pierTrouble, .initialized RX10] [1, 2, 3, 4] rfl (by decide +kernel)) (goodIn_m (fun _ h => (List.mem_cons_of_mem _ (List.mem_append_right _ (List.mem_append_right _ (List.mem_append_right _ (List.mem_append_left _ h)))))) qfX10_pierTrouble)
theorem gfX10_seatings_1 : GoodIn vfX10_seatings (wsV RX10 79 RX10 yX10_refused vfX10_refused) := goodIn_app (goodIn_r [.methodLink RX10 79 yX10_refused, .instanceMethod yX10_refused, .selects RX10 yX10_refused yX10_refused, .initialized RX10] [5, 6, 7, 4] rfl (by decide +kernel)) (goodIn_m (fun _ h => (List.mem_cons_of_mem _ (List.mem_append_right _ (List.mem_append_right _ (List.mem_append_right _ (List.mem_append_right _ (List.mem_append_left _ h))))))) qfX10_refused)
theorem gfX10_seatings_2 : GoodIn vfX10_seatings (wsV RX10 249 RX10 yX10_everyAsker vfX10_everyAsker) := goodIn_app (goodIn_r [.methodLink RX10 249 yX10_everyAsker, .instanceMethod yX10_everyAsker, .selects RX10 yX10_everyAsker yX10_everyAsker, .initialized RX10] [10, 11, 12, 4] rfl (by decide +kernel)) (goodIn_m (fun _ h => (List.mem_cons_of_mem _ (List.mem_append_right _ (List.mem_append_right _ (List.mem_append_right _ (List.mem_append_right _ (List.mem_append_right _ (List.mem_append_left _ h)))))))) qfX10_everyAsker)
theorem gfX10_seatings_3 : GoodIn vfX10_seatings (wsV RX10 252 RX8 yX8_countRows vfX8_countRows) := goodIn_app (goodIn_r [.methodLink RX10 252 yX8_countRows, .instanceMethod yX8_countRows, .selects RX8 yX8_countRows yX8_countRows, .initialized RX8] [13, 14, 15, 16] rfl (by decide +kernel)) (goodIn_m (fun _ h => (List.mem_cons_of_mem _ (List.mem_append_right _ (List.mem_append_right _ (List.mem_append_right _ (List.mem_append_right _ (List.mem_append_right _ (List.mem_append_right _ h)))))))) qfX8_countRows)
set_option maxHeartbeats 2000000 in
set_option maxRecDepth 100000 in
theorem kfX10_seatings (l : Launch) (dC : Nat → ClassId) (dI : Nat → Nat → Nat) (a0 : Nat) (a1 : Nat) (a2 : Nat) (up : Nat → Nat) (kp : Nat → ClassId) (us : Nat → Nat) (ks : Nat → ClassId) (x_x : TX10_x) (g8 : Value) (g9 : Value) (g10 : Value) (g11 : Value) (g12 : Value) (g13 : Value) (p_p : TX6_p) (s_s : TX8_s) (sz : Nat) (out : (Int32 × TX10_x × TX8_s)) (h : f_X10_seatings x_x p_p s_s = some out) : KCi l yX10_seatings vfX10_seatings ({ frames := 9, cells := 0, slots := 0, locals := 233 }) (dC, dI) [.ref a0] sz ((a0, .inr (7, [.ref a1, g8, g9, g10, g11, .ref a2, g12, g13, .int x_x.1, .int x_x.2])) :: bX6 a1 up kp p_p (bX8 a2 us ks s_s [])) (tX6 kp (tX8 ks ([]))) (fun (r : Int32) _ => r = out.1) ((a0, .inr (7, [.ref a1, g8, g9, g10, g11, .ref a2, g12, g13, .int out.2.1.1, .int out.2.1.2])) :: bX6 a1 up kp p_p (bX8 a2 us ks out.2.2 [])) 0 0 := by
  refine Met.ofW (cc := cX10_seatings) (maxL := 2) (ret := (some .int)) (by decide) rfl ?_
  intro p e s m args below meth c s₁ B0 hml hv
  obtain ⟨rfl, hsz, hP, hK, hD0, hN⟩ := hv
  have hx := B0.exec
  have hb := B0.bytes
  have hr := B0.returns
  have hts := atoms_spec (ws := vfX10_seatings) B0.pre
  have hown : s.vm.findClass RX10 = some m.cls := findClass_of_methodNamed B0.named
  have hlocks := B0.notSynchronized
  subst hsz
  have hD := hD0.self (sz := s.heap.size)
  generalize hAe : va_A ((a0, .inr (7, [.ref a1, g8, g9, g10, g11, .ref a2, g12, g13, .int x_x.1, .int x_x.2])) :: bX6 a1 up kp p_p (bX8 a2 us ks s_s [])) s.heap.size = A at hD ⊢
  have hA : ∀ q : Nat, s.heap.size ≤ q → A q := fun q h => by rw [← hAe]; exact Or.inr h
  have hS : va_S A s.heap s.heap [] := va_S.rf
  have hP : va_P (dC, dI) vwCl ((a0, .inr (7, [.ref a1, g8, g9, g10, g11, .ref a2, g12, g13, .int x_x.1, .int x_x.2])) :: bX6 a1 up kp p_p (bX8 a2 us ks s_s [])) s.heap := hP
  have hl := lv_entry ([.ref a0]) (n := 2) (Nat.le_of_ble_eq_true rfl)
  rw [lg_entry_eq]
  generalize (lg_sl ([.ref a0]) ++ List.replicate (2 - (lg_sl ([.ref a0])).length) Slot.unset).toArray = ls at hl ⊢
  have hl : lv_has ls 2 [(0, .ref a0)] := hl
  refine W_q (fun QQ hQQ => ?_)
  rw [f_X10_seatings] at h
  refine lv_aload_n hx hb (zat zrX10_seatings_0_ok 0 rfl) rfl (lv_at hl 0 rfl) ?_
  obtain ⟨o1, eo1⟩ : ∃ o, o = f_X10_pierTrouble p_p := ⟨_, rfl⟩
  have h := nm_of h o1 eo1
  refine ck_i (wc := ((a0, .inr (7, [.ref a1, g8, g9, g10, g11, .ref a2, g12, g13, .int x_x.1, .int x_x.2])) :: bX6 a1 up kp p_p [])) (wr := (bX8 a2 us ks s_s [])) hP hD hK hS hA [0, 1, 2, 3, 4, 5, 6, 7, 8, 9, 10] [11, 12, 13] rfl rfl (by decide) (by decide) (by decide) (fun hPc hDc => (va_runV (As := []) (rest := []) ⟨hx, hb, hml, hown, hts⟩ (kfX10_pierTrouble l dC dI a0 a1 up kp (g8) (g9) (g10) (g11) (.ref a2) (g12) (g13) (.int x_x.1) (.int x_x.2) p_p s.heap.size o1 eo1.symm) (cwV 0 hts gfX10_seatings_0 rfl rfl rfl (by decide +kernel) ⟨(Nat.le_of_ble_eq_true rfl), (Nat.le_of_ble_eq_true rfl)⟩) (PV hPc (hK.sub (tys' := (tX6 kp ([]))) [0, 1, 2, 3, 4, 5, 6, 7, 8] rfl) hDc hN 0 rfl rfl) rfl rfl hl.1 rfl (lv_room (Nat.le_of_ble_eq_true rfl)) (zat zrX10_seatings_0_ok 1 rfl) ⟨(Nat.le_of_ble_eq_true rfl), (Nat.le_of_ble_eq_true rfl)⟩)) (fun r1 _ H locs hw hP hD _ hS => ?_)
  obtain rfl := hw.symm
  obtain ⟨hP, hD⟩ := pd_mk (bX8 a2 us ks s_s ((a0, .inr (7, [.ref a1, g8, g9, g10, g11, .ref a2, g12, g13, .int x_x.1, .int x_x.2])) :: bX6 a1 up kp p_p [])) hP hD
  refine lv_istore_n (lv' := [(1, .int o1), (0, .ref a0)]) hx hb (zat zrX10_seatings_0_ok 2 rfl) rfl hl (by decide) rfl (fun ls hl => ?_)
  refine lv_aload_n hx hb (zat zrX10_seatings_0_ok 3 rfl) rfl (lv_at hl 1 rfl) ?_
  refine lv_iload_n hx hb (zat zrX10_seatings_0_ok 4 rfl) rfl (lv_at hl 0 rfl) ?_
  have J26 : ∀ (v26_t1 : Int32) (H : Heap) (locs : List Loc) (ls : Array Slot), f_X10_seatings_J26 x_x p_p s_s v26_t1 = some out → va_P (dC, dI) vwCl (bX8 a2 us ks s_s ((a0, .inr (7, [.ref a1, g8, g9, g10, g11, .ref a2, g12, g13, .int x_x.1, .int x_x.2])) :: bX6 a1 up kp p_p [])) H → va_D A (bX8 a2 us ks s_s ((a0, .inr (7, [.ref a1, g8, g9, g10, g11, .ref a2, g12, g13, .int x_x.1, .int x_x.2])) :: bX6 a1 up kp p_p [])) → va_S A s.heap H locs → lv_has ls 2 [(0, .ref a0)] → W p l e (headSpec vfX10_seatings { frames := 9, cells := 0, slots := 0, locals := 233 }).room s m ([.ref a0]).toArray below meth c H locs 0 0 QQ (F0 m 26 ls [.int v26_t1, .ref a0]) := by
    intro v26_t1 H locs ls h  hP hD hS hl
    rw [f_X10_seatings_J26] at h
    obtain ⟨o26, eo26⟩ : ∃ o, o = f_X10_refused v26_t1 x_x := ⟨_, rfl⟩
    have h := nm_of h o26 eo26
    refine ck_i (wc := ([(a0, .inr (7, [.ref a1, g8, g9, g10, g11, .ref a2, g12, g13, .int x_x.1, .int x_x.2]))])) (wr := (bX8 a2 us ks s_s (bX6 a1 up kp p_p []))) hP hD hK hS hA [3] [0, 1, 2, 4, 5, 6, 7, 8, 9, 10, 11, 12, 13] rfl rfl (by decide) (by decide) (by decide) (fun hPc hDc => (va_runV (As := [.int v26_t1]) (rest := []) ⟨hx, hb, hml, hown, hts⟩ (kfX10_refused l dC dI a0 v26_t1 x_x (.ref a1) (g8) (g9) (g10) (g11) (.ref a2) (g12) (g13) H.size o26 eo26.symm) (cwV 1 hts gfX10_seatings_1 rfl rfl rfl (by decide +kernel) ⟨(Nat.le_of_ble_eq_true rfl), (Nat.le_of_ble_eq_true rfl)⟩) (PV hPc (hK.sub (tys' := ([])) [] rfl) hDc hN 0 rfl rfl) rfl rfl hl.1 rfl (lv_room (Nat.le_of_ble_eq_true rfl)) (zat zrX10_seatings_0_ok 13 rfl) ⟨(Nat.le_of_ble_eq_true rfl), (Nat.le_of_ble_eq_true rfl)⟩)) (fun r26 _ H locs hw hP hD _ hS => ?_)
    obtain ⟨hw, br26⟩ := hw
    obtain rfl := hw
    obtain ⟨hP, hD⟩ := pd_mk (bX8 a2 us ks s_s (bX6 a1 up kp p_p ([(a0, .inr (7, [.ref a1, g8, g9, g10, g11, .ref a2, g12, g13, .int o26.2.1, .int o26.2.2]))]))) hP hD
    refine lv_if_eq (tgt := 34) hx hb (zat zrX10_seatings_0_ok 14 rfl) (by decide) (fun c29 => ?_) (fun c29 => ?_)
    · have h := (if_pos c29).symm.trans h
      refine lv_aload_n hx hb (zat zrX10_seatings_0_ok 17 rfl) rfl (lv_at hl 0 rfl) ?_
      refine va_get (D := (dC, dI)) (ci := 7) (v := .ref a2) (C := RX10) (T := TX10) (N := 10) hx hb hts ifX10_seatings_X10 hown hK hP 13 rfl rfl 5 (by decide) (hts (.fieldLink RX10 43 "HookPier" "seats" "LHookPier$Seats;") (List.mem_of_getElem? (i := 8) rfl)) (fun _ h9 => h9) rfl (zat zrX10_seatings_0_ok 18 rfl) ?_
      refine lv_aload_n hx hb (zat zrX10_seatings_0_ok 19 rfl) rfl (lv_at hl 0 rfl) ?_
      refine va_get (D := (dC, dI)) (ci := 7) (v := .ref a1) (C := RX10) (T := TX10) (N := 10) hx hb hts ifX10_seatings_X10 hown hK hP 13 rfl rfl 0 (by decide) (hts (.fieldLink RX10 10 "HookPier" "plan" "LHookPier$Plan;") (List.mem_of_getElem? (i := 9) rfl)) (fun _ h9 => h9) rfl (zat zrX10_seatings_0_ok 20 rfl) ?_
      refine lv_aload_n hx hb (zat zrX10_seatings_0_ok 21 rfl) rfl (lv_at hl 0 rfl) ?_
      obtain ⟨o43, eo43⟩ : ∃ o, o = f_X10_everyAsker p_p := ⟨_, rfl⟩
      have h := nm_of h o43 eo43
      refine ck_i (wc := ((a0, .inr (7, [.ref a1, g8, g9, g10, g11, .ref a2, g12, g13, .int o26.2.1, .int o26.2.2])) :: bX6 a1 up kp p_p [])) (wr := (bX8 a2 us ks s_s [])) hP hD hK hS hA [13, 3, 4, 5, 6, 7, 8, 9, 10, 11, 12] [0, 1, 2] rfl rfl (by decide) (by decide) (by decide) (fun hPc hDc => (va_runV (As := []) (rest := [.ref a1, .ref a2]) ⟨hx, hb, hml, hown, hts⟩ (kfX10_everyAsker l dC dI a0 a1 up kp (g8) (g9) (g10) (g11) (.ref a2) (g12) (g13) (.int o26.2.1) (.int o26.2.2) p_p H.size o43 eo43.symm) (cwV 0 hts gfX10_seatings_2 rfl rfl rfl (by decide +kernel) ⟨(Nat.le_of_ble_eq_true rfl), (Nat.le_of_ble_eq_true rfl)⟩) (PV hPc (hK.sub (tys' := (tX6 kp ([]))) [0, 1, 2, 3, 4, 5, 6, 7, 8] rfl) hDc hN 0 rfl rfl) rfl rfl hl.1 rfl (lv_room (Nat.le_of_ble_eq_true rfl)) (zat zrX10_seatings_0_ok 22 rfl) ⟨(Nat.le_of_ble_eq_true rfl), (Nat.le_of_ble_eq_true rfl)⟩)) (fun r43 _ H locs hw hP hD _ hS => ?_)
      obtain rfl := hw.symm
      obtain ⟨hP, hD⟩ := pd_mk (bX8 a2 us ks s_s ((a0, .inr (7, [.ref a1, g8, g9, g10, g11, .ref a2, g12, g13, .int o26.2.1, .int o26.2.2])) :: bX6 a1 up kp p_p [])) hP hD
      refine lv_sipush (v := 6720) hx hb (zat zrX10_seatings_0_ok 23 rfl) (by decide) ?_
      obtain ⟨o49, eo49, h⟩ := bd_of h
      refine ck_i (wc := (bX8 a2 us ks s_s (bX6 a1 up kp p_p []))) (wr := ([(a0, .inr (7, [.ref a1, g8, g9, g10, g11, .ref a2, g12, g13, .int o26.2.1, .int o26.2.2]))])) hP hD hK hS hA [0, 1, 2, 4, 5, 6, 7, 8, 9, 10, 11, 12, 13] [3] rfl rfl (by decide) (by decide) (by decide) (fun hPc hDc => (va_runV (As := [.ref a1, .int o43, .int 6720]) (rest := []) ⟨hx, hb, hml, hown, hts⟩ (kfX8_countRows l dC dI a2 a1 o43 (6720 : Int32) us ks up kp s_s p_p H.size o49 eo49) (cwV 3 hts gfX10_seatings_3 rfl rfl rfl (by decide +kernel) ⟨(Nat.le_of_ble_eq_true rfl), (Nat.le_of_ble_eq_true rfl)⟩) (PV hPc (hK.sub (tys' := (tX8 ks (tX6 kp ([])))) [9, 10, 0, 1, 2, 3, 4, 5, 6, 7, 8] rfl) hDc hN 0 rfl rfl) rfl rfl hl.1 rfl (lv_room (Nat.le_of_ble_eq_true rfl)) (zat zrX10_seatings_0_ok 24 rfl) ⟨(Nat.le_of_ble_eq_true rfl), (Nat.le_of_ble_eq_true rfl)⟩)) (fun r49 _ H locs hw hP hD _ hS => ?_)
      obtain rfl := hw
      obtain ⟨hP, hD⟩ := pd_mk ((a0, .inr (7, [.ref a1, g8, g9, g10, g11, .ref a2, g12, g13, .int o26.2.1, .int o26.2.2])) :: bX8 a2 us ks o49.2 (bX6 a1 up kp p_p [])) hP hD
      obtain rfl := Option.some.inj h
      obtain ⟨hP9, hD9⟩ := pd_sub ((a0, .inr (7, [.ref a1, g8, g9, g10, g11, .ref a2, g12, g13, .int o26.2.1, .int o26.2.2])) :: bX6 a1 up kp p_p (bX8 a2 us ks o49.2 [])) [0, 4, 5, 6, 7, 8, 9, 10, 11, 12, 13, 1, 2, 3] hP hD (by decide) rfl
      have hK9 := hK.sub (tys' := []) [] rfl
      rw [hQQ]
      exact W.iret (v := o49.1) hx hb hr (fun t ht hW => ⟨⟨o49.1, (), rfl, rfl, by rw [ht]; exact hP9, va_K.moved hW.alike hK9, hD9⟩, hS.F ht⟩) hS.2.2 (zat zrX10_seatings_0_ok 25 rfl)
    · have h := (if_neg c29).symm.trans h
      refine lv_iconst (v := (-1)) hx hb (zat zrX10_seatings_0_ok 15 rfl) (by decide) ?_
      obtain rfl := Option.some.inj h
      obtain ⟨hP9, hD9⟩ := pd_sub ((a0, .inr (7, [.ref a1, g8, g9, g10, g11, .ref a2, g12, g13, .int o26.2.1, .int o26.2.2])) :: bX6 a1 up kp p_p (bX8 a2 us ks s_s [])) [13, 3, 4, 5, 6, 7, 8, 9, 10, 11, 12, 0, 1, 2] hP hD (by decide) rfl
      have hK9 := hK.sub (tys' := []) [] rfl
      rw [hQQ]
      exact W.iret (v := (-1 : Int32)) hx hb hr (fun t ht hW => ⟨⟨(-1 : Int32), (), rfl, rfl, by rw [ht]; exact hP9, va_K.moved hW.alike hK9, hD9⟩, hS.F ht⟩) hS.2.2 (zat zrX10_seatings_0_ok 16 rfl)
  have J25 : ∀ (H : Heap) (locs : List Loc) (ls : Array Slot), f_X10_seatings_J25 x_x p_p s_s o1 = some out → va_P (dC, dI) vwCl (bX8 a2 us ks s_s ((a0, .inr (7, [.ref a1, g8, g9, g10, g11, .ref a2, g12, g13, .int x_x.1, .int x_x.2])) :: bX6 a1 up kp p_p [])) H → va_D A (bX8 a2 us ks s_s ((a0, .inr (7, [.ref a1, g8, g9, g10, g11, .ref a2, g12, g13, .int x_x.1, .int x_x.2])) :: bX6 a1 up kp p_p [])) → va_S A s.heap H locs → lv_has ls 2 [(1, .int o1), (0, .ref a0)] → W p l e (headSpec vfX10_seatings { frames := 9, cells := 0, slots := 0, locals := 233 }).room s m ([.ref a0]).toArray below meth c H locs 0 0 QQ (F0 m 25 ls [.ref a0]) := by
    intro  H locs ls h  hP hD hS hl
    rw [f_X10_seatings_J25] at h
    refine lv_iload_n hx hb (zat zrX10_seatings_0_ok 12 rfl) rfl (lv_at hl 0 rfl) ?_
    exact J26 o1 H _ ls h  hP hD hS (lv_sub hl [1] rfl)
  refine lv_if_ne (tgt := 25) hx hb (zat zrX10_seatings_0_ok 5 rfl) (by decide) (fun c7 => ?_) (fun c7 => ?_)
  · have h := (if_neg c7).symm.trans h
    exact J25  H _ ls h  hP hD hS (lv_sub hl [0, 1] rfl)
  · have h := (if_pos c7).symm.trans h
    refine lv_aload_n hx hb (zat zrX10_seatings_0_ok 6 rfl) rfl (lv_at hl 1 rfl) ?_
    refine va_get (D := (dC, dI)) (ci := 7) (v := .ref a1) (C := RX10) (T := TX10) (N := 10) hx hb hts ifX10_seatings_X10 hown hK hP 3 rfl rfl 0 (by decide) (hts (.fieldLink RX10 10 "HookPier" "plan" "LHookPier$Plan;") (List.mem_of_getElem? (i := 9) rfl)) (fun _ h9 => h9) rfl (zat zrX10_seatings_0_ok 7 rfl) ?_
    refine va_get (D := (dC, dI)) (ci := 4) (v := .int p_p.2.2.2.2.2.1) (C := RX6) (T := TX6) (N := 18) hx hb hts ifX10_seatings_X6 hown hK hP 4 rfl rfl 5 (by decide) (hts (.fieldLink RX10 246 "HookPier$Plan" "askers" "I") (List.mem_of_getElem? (i := 17) rfl)) (fun _ h9 => h9) rfl (zat zrX10_seatings_0_ok 8 rfl) ?_
    refine lv_if_ne (tgt := 25) hx hb (zat zrX10_seatings_0_ok 9 rfl) (by decide) (fun c17 => ?_) (fun c17 => ?_)
    · have h := (if_neg c17).symm.trans h
      exact J25  H _ ls h  hP hD hS (lv_sub hl [0, 1] rfl)
    · have h := (if_pos c17).symm.trans h
      refine lv_bipush (v := 6) hx hb (zat zrX10_seatings_0_ok 10 rfl) (by decide) ?_
      refine lv_goto (tgt := 26) hx hb (zat zrX10_seatings_0_ok 11 rfl) (by decide) ?_
      exact J26 (6 : Int32) H _ ls h  hP hD hS (lv_sub hl [1] rfl)
