noncomputable def zrX10_seat_0 : List ZR := zc 0 true (.aload_n 0) 1 (zc 1 true (.aload_n 0) 1 (zc 2 true (.iload_n 1) 1 (zc 3 true (.invokevirtual 143) 3 (zc 6 true (.invokevirtual 79) 3 (zc 9 true (.ifCond .eq 5) 3 (zc 12 true (.iconst (-1)) 1 (zc 13 true (.ireturn) 1 (zc 14 true (.aload_n 0) 1 (zc 15 true (.getfield 43) 3 (zc 18 true (.aload_n 0) 1 (zc 19 true (.getfield 10) 3 (zc 22 true (.aload_n 0) 1 (zc 23 true (.invokevirtual 249) 3 (zc 26 true (.iconst 1) 1 (zc 27 true (.invokevirtual 252) 3 (zc 30 true (.ifCond .ne 8) 3 (zc 33 true (.bipush (-2)) 2 (zc 35 true (.goto 12) 3 (zc 38 true (.aload_n 0) 1 (zc 39 true (.getfield 43) 3 (zc 42 true (.getfield 256) 3 (zc 45 true (.iload_n 1) 1 (zc 46 true (.iaload) 1 (zc 47 true (.ireturn) 1 ([])))))))))))))))))))))))))
theorem zrX10_seat_0_ok : zck 0 ((zby cX10_seat).drop 0) zrX10_seat_0 = true := by decide +kernel
def vfX10_seat : List Cond := List.cons (.code yX10_seat cX10_seat 2 (some .int)) (apW [.methodLink RX10 143 yX10_askerTrouble, .instanceMethod yX10_askerTrouble, .selects RX10 yX10_askerTrouble yX10_askerTrouble, .initialized RX10, .methodLink RX10 79 yX10_refused, .instanceMethod yX10_refused, .selects RX10 yX10_refused yX10_refused, .fieldLink RX10 43 "HookPier" "seats" "LHookPier$Seats;", .fieldLink RX10 10 "HookPier" "plan" "LHookPier$Plan;", .methodLink RX10 249 yX10_everyAsker, .instanceMethod yX10_everyAsker, .selects RX10 yX10_everyAsker yX10_everyAsker, .methodLink RX10 252 yX8_countRows, .instanceMethod yX8_countRows, .selects RX8 yX8_countRows yX8_countRows, .initialized RX8, .fieldLink RX10 256 "HookPier$Seats" "first" "[I"] (apW wsX100 (apW wsX80 (apW vfX10_askerTrouble (apW vfX10_refused (apW vfX10_everyAsker (vfX8_countRows)))))))
theorem ifX10_seat_X10 : ∀ w ∈ wsX100, w ∈ vfX10_seat := fun _ h => (List.mem_cons_of_mem _ (List.mem_append_right _ (List.mem_append_left _ h)))
theorem ifX10_seat_X8 : ∀ w ∈ wsX80, w ∈ vfX10_seat := fun _ h => (List.mem_cons_of_mem _ (List.mem_append_right _ (List.mem_append_right _ (List.mem_append_left _ h))))
theorem qfX10_seat : Good vfX10_seat := gd_cons (by decide +kernel) (gd_app (gd_dec (by decide +kernel) : Good [.methodLink RX10 143 yX10_askerTrouble, .instanceMethod yX10_askerTrouble, .selects RX10 yX10_askerTrouble yX10_askerTrouble, .initialized RX10, .methodLink RX10 79 yX10_refused, .instanceMethod yX10_refused, .selects RX10 yX10_refused yX10_refused, .fieldLink RX10 43 "HookPier" "seats" "LHookPier$Seats;", .fieldLink RX10 10 "HookPier" "plan" "LHookPier$Plan;", .methodLink RX10 249 yX10_everyAsker, .instanceMethod yX10_everyAsker, .selects RX10 yX10_everyAsker yX10_everyAsker, .methodLink RX10 252 yX8_countRows, .instanceMethod yX8_countRows, .selects RX8 yX8_countRows yX8_countRows, .initialized RX8, .fieldLink RX10 256 "HookPier$Seats" "first" "[I"]) (gd_app qsX10 (gd_app qsX8 (gd_app qfX10_askerTrouble (gd_app qfX10_refused (gd_app qfX10_everyAsker qfX8_countRows))))))
theorem gfX10_seat_0 : GoodIn vfX10_seat (wsV RX10 143 RX10 yX10_askerTrouble vfX10_askerTrouble) := goodIn_app (goodIn_r [.methodLink RX10 143 yX10_askerTrouble, .instanceMethod yX10_askerTrouble, .selects RX10 yX10_askerTrouble yX10_askerTrouble, .initialized RX10] [1, 2, 3, 4] rfl (by decide +kernel)) (goodIn_m (fun _ h => (List.mem_cons_of_mem _ (List.mem_append_right _ (List.mem_append_right _ (List.mem_append_right _ (List.mem_append_left _ h)))))) qfX10_askerTrouble)
theorem gfX10_seat_1 : GoodIn vfX10_seat (wsV RX10 79 RX10 yX10_refused vfX10_refused) := goodIn_app (goodIn_r [.methodLink RX10 79 yX10_refused, .instanceMethod yX10_refused, .selects RX10 yX10_refused yX10_refused, .initialized RX10] [5, 6, 7, 4] rfl (by decide +kernel)) (goodIn_m (fun _ h => (List.mem_cons_of_mem _ (List.mem_append_right _ (List.mem_append_right _ (List.mem_append_right _ (List.mem_append_right _ (List.mem_append_left _ h))))))) qfX10_refused)
theorem gfX10_seat_2 : GoodIn vfX10_seat (wsV RX10 249 RX10 yX10_everyAsker vfX10_everyAsker) := goodIn_app (goodIn_r [.methodLink RX10 249 yX10_everyAsker, .instanceMethod yX10_everyAsker, .selects RX10 yX10_everyAsker yX10_everyAsker, .initialized RX10] [10, 11, 12, 4] rfl (by decide +kernel)) (goodIn_m (fun _ h => (List.mem_cons_of_mem _ (List.mem_append_right _ (List.mem_append_right _ (List.mem_append_right _ (List.mem_append_right _ (List.mem_append_right _ (List.mem_append_left _ h)))))))) qfX10_everyAsker)
theorem gfX10_seat_3 : GoodIn vfX10_seat (wsV RX10 252 RX8 yX8_countRows vfX8_countRows) := goodIn_app (goodIn_r [.methodLink RX10 252 yX8_countRows, .instanceMethod yX8_countRows, .selects RX8 yX8_countRows yX8_countRows, .initialized RX8] [13, 14, 15, 16] rfl (by decide +kernel)) (goodIn_m (fun _ h => (List.mem_cons_of_mem _ (List.mem_append_right _ (List.mem_append_right _ (List.mem_append_right _ (List.mem_append_right _ (List.mem_append_right _ (List.mem_append_right _ h)))))))) qfX8_countRows)
set_option maxHeartbeats 2000000 in
set_option maxRecDepth 100000 in
theorem kfX10_seat (l : Launch) (dC : Nat → ClassId) (dI : Nat → Nat → Nat) (a0 : Nat) (k1 : Int32) (a2 : Nat) (a3 : Nat) (up : Nat → Nat) (kp : Nat → ClassId) (us : Nat → Nat) (ks : Nat → ClassId) (x_x : TX10_x) (g9 : Value) (g10 : Value) (g11 : Value) (g12 : Value) (g13 : Value) (g14 : Value) (p_p : TX6_p) (s_s : TX8_s) (sz : Nat) (out : (Int32 × TX10_x × TX8_s)) (h : f_X10_seat k1 x_x p_p s_s = some out) : KCi l yX10_seat vfX10_seat ({ frames := 9, cells := 0, slots := 0, locals := 233 }) (dC, dI) [.ref a0, .int k1] sz ((a0, .inr (7, [.ref a2, g9, g10, g11, g12, .ref a3, g13, g14, .int x_x.1, .int x_x.2])) :: bX6 a2 up kp p_p (bX8 a3 us ks s_s [])) (tX6 kp (tX8 ks ([]))) (fun (r : Int32) _ => r = out.1) ((a0, .inr (7, [.ref a2, g9, g10, g11, g12, .ref a3, g13, g14, .int out.2.1.1, .int out.2.1.2])) :: bX6 a2 up kp p_p (bX8 a3 us ks out.2.2 [])) 0 0 := by
  refine Met.ofW (cc := cX10_seat) (maxL := 2) (ret := (some .int)) (by decide) rfl ?_
  intro p e s m args below meth c s₁ B0 hml hv
  obtain ⟨rfl, hsz, hP, hK, hD0, hN⟩ := hv
  have hx := B0.exec
  have hb := B0.bytes
  have hr := B0.returns
  have hts := atoms_spec (ws := vfX10_seat) B0.pre
  have hown : s.vm.findClass RX10 = some m.cls := findClass_of_methodNamed B0.named
  have hlocks := B0.notSynchronized
  subst hsz
  have hD := hD0.self (sz := s.heap.size)
  generalize hAe : va_A ((a0, .inr (7, [.ref a2, g9, g10, g11, g12, .ref a3, g13, g14, .int x_x.1, .int x_x.2])) :: bX6 a2 up kp p_p (bX8 a3 us ks s_s [])) s.heap.size = A at hD ⊢
  have hA : ∀ q : Nat, s.heap.size ≤ q → A q := fun q h => by rw [← hAe]; exact Or.inr h
  have hS : va_S A s.heap s.heap [] := va_S.rf
  have hP : va_P (dC, dI) vwCl ((a0, .inr (7, [.ref a2, g9, g10, g11, g12, .ref a3, g13, g14, .int x_x.1, .int x_x.2])) :: bX6 a2 up kp p_p (bX8 a3 us ks s_s [])) s.heap := hP
  have hl := lv_entry ([.ref a0, .int k1]) (n := 2) (Nat.le_of_ble_eq_true rfl)
  rw [lg_entry_eq]
  generalize (lg_sl ([.ref a0, .int k1]) ++ List.replicate (2 - (lg_sl ([.ref a0, .int k1])).length) Slot.unset).toArray = ls at hl ⊢
  have hl : lv_has ls 2 [(0, .ref a0), (1, .int k1)] := hl
  refine W_q (fun QQ hQQ => ?_)
  rw [f_X10_seat] at h
  refine lv_aload_n hx hb (zat zrX10_seat_0_ok 0 rfl) rfl (lv_at hl 0 rfl) ?_
  refine lv_aload_n hx hb (zat zrX10_seat_0_ok 1 rfl) rfl (lv_at hl 0 rfl) ?_
  refine lv_iload_n hx hb (zat zrX10_seat_0_ok 2 rfl) rfl (lv_at hl 1 rfl) ?_
  obtain ⟨o3, eo3⟩ : ∃ o, o = f_X10_askerTrouble k1 p_p := ⟨_, rfl⟩
  have h := nm_of h o3 eo3
  refine ck_i (wc := ((a0, .inr (7, [.ref a2, g9, g10, g11, g12, .ref a3, g13, g14, .int x_x.1, .int x_x.2])) :: bX6 a2 up kp p_p [])) (wr := (bX8 a3 us ks s_s [])) hP hD hK hS hA [0, 1, 2, 3, 4, 5, 6, 7, 8, 9, 10] [11, 12, 13] rfl rfl (by decide) (by decide) (by decide) (fun hPc hDc => (va_runV (As := [.int k1]) (rest := [.ref a0]) ⟨hx, hb, hml, hown, hts⟩ (kfX10_askerTrouble l dC dI a0 k1 a2 up kp (g9) (g10) (g11) (g12) (.ref a3) (g13) (g14) (.int x_x.1) (.int x_x.2) p_p s.heap.size o3 eo3.symm) (cwV 1 hts gfX10_seat_0 rfl rfl rfl (by decide +kernel) ⟨(Nat.le_of_ble_eq_true rfl), (Nat.le_of_ble_eq_true rfl)⟩) (PV hPc (hK.sub (tys' := (tX6 kp ([]))) [0, 1, 2, 3, 4, 5, 6, 7, 8] rfl) hDc hN 0 rfl rfl) rfl rfl hl.1 rfl (lv_room (Nat.le_of_ble_eq_true rfl)) (zat zrX10_seat_0_ok 3 rfl) ⟨(Nat.le_of_ble_eq_true rfl), (Nat.le_of_ble_eq_true rfl)⟩)) (fun r3 _ H locs hw hP hD _ hS => ?_)
  obtain rfl := hw.symm
  obtain ⟨hP, hD⟩ := pd_mk (bX8 a3 us ks s_s ((a0, .inr (7, [.ref a2, g9, g10, g11, g12, .ref a3, g13, g14, .int x_x.1, .int x_x.2])) :: bX6 a2 up kp p_p [])) hP hD
  obtain ⟨o6, eo6⟩ : ∃ o, o = f_X10_refused o3 x_x := ⟨_, rfl⟩
  have h := nm_of h o6 eo6
  refine ck_i (wc := ([(a0, .inr (7, [.ref a2, g9, g10, g11, g12, .ref a3, g13, g14, .int x_x.1, .int x_x.2]))])) (wr := (bX8 a3 us ks s_s (bX6 a2 up kp p_p []))) hP hD hK hS hA [3] [0, 1, 2, 4, 5, 6, 7, 8, 9, 10, 11, 12, 13] rfl rfl (by decide) (by decide) (by decide) (fun hPc hDc => (va_runV (As := [.int o3]) (rest := []) ⟨hx, hb, hml, hown, hts⟩ (kfX10_refused l dC dI a0 o3 x_x (.ref a2) (g9) (g10) (g11) (g12) (.ref a3) (g13) (g14) H.size o6 eo6.symm) (cwV 1 hts gfX10_seat_1 rfl rfl rfl (by decide +kernel) ⟨(Nat.le_of_ble_eq_true rfl), (Nat.le_of_ble_eq_true rfl)⟩) (PV hPc (hK.sub (tys' := ([])) [] rfl) hDc hN 0 rfl rfl) rfl rfl hl.1 rfl (lv_room (Nat.le_of_ble_eq_true rfl)) (zat zrX10_seat_0_ok 4 rfl) ⟨(Nat.le_of_ble_eq_true rfl), (Nat.le_of_ble_eq_true rfl)⟩)) (fun r6 _ H locs hw hP hD _ hS => ?_)
  obtain ⟨hw, br6⟩ := hw
  obtain rfl := hw
  obtain ⟨hP, hD⟩ := pd_mk (bX8 a3 us ks s_s (bX6 a2 up kp p_p ([(a0, .inr (7, [.ref a2, g9, g10, g11, g12, .ref a3, g13, g14, .int o6.2.1, .int o6.2.2]))]))) hP hD
  refine lv_if_eq (tgt := 14) hx hb (zat zrX10_seat_0_ok 5 rfl) (by decide) (fun c9 => ?_) (fun c9 => ?_)
  · have h := (if_pos c9).symm.trans h
    refine lv_aload_n hx hb (zat zrX10_seat_0_ok 8 rfl) rfl (lv_at hl 0 rfl) ?_
    refine va_get (D := (dC, dI)) (ci := 7) (v := .ref a3) (C := RX10) (T := TX10) (N := 10) hx hb hts ifX10_seat_X10 hown hK hP 13 rfl rfl 5 (by decide) (hts (.fieldLink RX10 43 "HookPier" "seats" "LHookPier$Seats;") (List.mem_of_getElem? (i := 8) rfl)) (fun _ h9 => h9) rfl (zat zrX10_seat_0_ok 9 rfl) ?_
    refine lv_aload_n hx hb (zat zrX10_seat_0_ok 10 rfl) rfl (lv_at hl 0 rfl) ?_
    refine va_get (D := (dC, dI)) (ci := 7) (v := .ref a2) (C := RX10) (T := TX10) (N := 10) hx hb hts ifX10_seat_X10 hown hK hP 13 rfl rfl 0 (by decide) (hts (.fieldLink RX10 10 "HookPier" "plan" "LHookPier$Plan;") (List.mem_of_getElem? (i := 9) rfl)) (fun _ h9 => h9) rfl (zat zrX10_seat_0_ok 11 rfl) ?_
    refine lv_aload_n hx hb (zat zrX10_seat_0_ok 12 rfl) rfl (lv_at hl 0 rfl) ?_
    obtain ⟨o23, eo23⟩ : ∃ o, o = f_X10_everyAsker p_p := ⟨_, rfl⟩
    have h := nm_of h o23 eo23
    refine ck_i (wc := ((a0, .inr (7, [.ref a2, g9, g10, g11, g12, .ref a3, g13, g14, .int o6.2.1, .int o6.2.2])) :: bX6 a2 up kp p_p [])) (wr := (bX8 a3 us ks s_s [])) hP hD hK hS hA [13, 3, 4, 5, 6, 7, 8, 9, 10, 11, 12] [0, 1, 2] rfl rfl (by decide) (by decide) (by decide) (fun hPc hDc => (va_runV (As := []) (rest := [.ref a2, .ref a3]) ⟨hx, hb, hml, hown, hts⟩ (kfX10_everyAsker l dC dI a0 a2 up kp (g9) (g10) (g11) (g12) (.ref a3) (g13) (g14) (.int o6.2.1) (.int o6.2.2) p_p H.size o23 eo23.symm) (cwV 0 hts gfX10_seat_2 rfl rfl rfl (by decide +kernel) ⟨(Nat.le_of_ble_eq_true rfl), (Nat.le_of_ble_eq_true rfl)⟩) (PV hPc (hK.sub (tys' := (tX6 kp ([]))) [0, 1, 2, 3, 4, 5, 6, 7, 8] rfl) hDc hN 0 rfl rfl) rfl rfl hl.1 rfl (lv_room (Nat.le_of_ble_eq_true rfl)) (zat zrX10_seat_0_ok 13 rfl) ⟨(Nat.le_of_ble_eq_true rfl), (Nat.le_of_ble_eq_true rfl)⟩)) (fun r23 _ H locs hw hP hD _ hS => ?_)
    obtain rfl := hw.symm
    obtain ⟨hP, hD⟩ := pd_mk (bX8 a3 us ks s_s ((a0, .inr (7, [.ref a2, g9, g10, g11, g12, .ref a3, g13, g14, .int o6.2.1, .int o6.2.2])) :: bX6 a2 up kp p_p [])) hP hD
    refine lv_iconst (v := 1) hx hb (zat zrX10_seat_0_ok 14 rfl) (by decide) ?_
    obtain ⟨o27, eo27, h⟩ := bd_of h
    refine ck_i (wc := (bX8 a3 us ks s_s (bX6 a2 up kp p_p []))) (wr := ([(a0, .inr (7, [.ref a2, g9, g10, g11, g12, .ref a3, g13, g14, .int o6.2.1, .int o6.2.2]))])) hP hD hK hS hA [0, 1, 2, 4, 5, 6, 7, 8, 9, 10, 11, 12, 13] [3] rfl rfl (by decide) (by decide) (by decide) (fun hPc hDc => (va_runV (As := [.ref a2, .int o23, .int 1]) (rest := []) ⟨hx, hb, hml, hown, hts⟩ (kfX8_countRows l dC dI a3 a2 o23 (1 : Int32) us ks up kp s_s p_p H.size o27 eo27) (cwV 3 hts gfX10_seat_3 rfl rfl rfl (by decide +kernel) ⟨(Nat.le_of_ble_eq_true rfl), (Nat.le_of_ble_eq_true rfl)⟩) (PV hPc (hK.sub (tys' := (tX8 ks (tX6 kp ([])))) [9, 10, 0, 1, 2, 3, 4, 5, 6, 7, 8] rfl) hDc hN 0 rfl rfl) rfl rfl hl.1 rfl (lv_room (Nat.le_of_ble_eq_true rfl)) (zat zrX10_seat_0_ok 15 rfl) ⟨(Nat.le_of_ble_eq_true rfl), (Nat.le_of_ble_eq_true rfl)⟩)) (fun r27 _ H locs hw hP hD _ hS => ?_)
    obtain rfl := hw
    obtain ⟨hP, hD⟩ := pd_mk ((a0, .inr (7, [.ref a2, g9, g10, g11, g12, .ref a3, g13, g14, .int o6.2.1, .int o6.2.2])) :: bX8 a3 us ks o27.2 (bX6 a2 up kp p_p [])) hP hD
    refine lv_if_ne (tgt := 38) hx hb (zat zrX10_seat_0_ok 16 rfl) (by decide) (fun c30 => ?_) (fun c30 => ?_)
    · have h := (if_neg c30).symm.trans h
      refine lv_aload_n hx hb (zat zrX10_seat_0_ok 19 rfl) rfl (lv_at hl 0 rfl) ?_
      refine va_get (D := (dC, dI)) (ci := 7) (v := .ref a3) (C := RX10) (T := TX10) (N := 10) hx hb hts ifX10_seat_X10 hown hK hP 0 rfl rfl 5 (by decide) (hts (.fieldLink RX10 43 "HookPier" "seats" "LHookPier$Seats;") (List.mem_of_getElem? (i := 8) rfl)) (fun _ h9 => h9) rfl (zat zrX10_seat_0_ok 20 rfl) ?_
      refine va_get (D := (dC, dI)) (ci := 6) (v := .ref (us 1)) (C := RX8) (T := TX8) (N := 3) hx hb hts ifX10_seat_X8 hown hK hP 1 rfl rfl 1 (by decide) (hts (.fieldLink RX10 256 "HookPier$Seats" "first" "[I") (List.mem_of_getElem? (i := 17) rfl)) (fun _ h9 => h9) rfl (zat zrX10_seat_0_ok 21 rfl) ?_
      refine lv_iload_n hx hb (zat zrX10_seat_0_ok 22 rfl) rfl (lv_at hl 1 rfl) ?_
      obtain ⟨hg46, h⟩ := gA_of h
      refine va_iald hx hb hK hP 3 10 rfl rfl hg46 (zat zrX10_seat_0_ok 23 rfl) ?_
      obtain rfl := Option.some.inj h
      obtain ⟨hP9, hD9⟩ := pd_sub ((a0, .inr (7, [.ref a2, g9, g10, g11, g12, .ref a3, g13, g14, .int o6.2.1, .int o6.2.2])) :: bX6 a2 up kp p_p (bX8 a3 us ks o27.2 [])) [0, 4, 5, 6, 7, 8, 9, 10, 11, 12, 13, 1, 2, 3] hP hD (by decide) rfl
      have hK9 := hK.sub (tys' := []) [] rfl
      rw [hQQ]
      exact W.iret (v := (o27.2.2.1 (k1).toNatClampNeg)) hx hb hr (fun t ht hW => ⟨⟨(o27.2.2.1 (k1).toNatClampNeg), (), rfl, rfl, by rw [ht]; exact hP9, va_K.moved hW.alike hK9, hD9⟩, hS.F ht⟩) hS.2.2 (zat zrX10_seat_0_ok 24 rfl)
    · have h := (if_pos c30).symm.trans h
      refine lv_bipush (v := (-2)) hx hb (zat zrX10_seat_0_ok 17 rfl) (by decide) ?_
      refine lv_goto (tgt := 47) hx hb (zat zrX10_seat_0_ok 18 rfl) (by decide) ?_
      obtain rfl := Option.some.inj h
      obtain ⟨hP9, hD9⟩ := pd_sub ((a0, .inr (7, [.ref a2, g9, g10, g11, g12, .ref a3, g13, g14, .int o6.2.1, .int o6.2.2])) :: bX6 a2 up kp p_p (bX8 a3 us ks o27.2 [])) [0, 4, 5, 6, 7, 8, 9, 10, 11, 12, 13, 1, 2, 3] hP hD (by decide) rfl
      have hK9 := hK.sub (tys' := []) [] rfl
      rw [hQQ]
      exact W.iret (v := (-2 : Int32)) hx hb hr (fun t ht hW => ⟨⟨(-2 : Int32), (), rfl, rfl, by rw [ht]; exact hP9, va_K.moved hW.alike hK9, hD9⟩, hS.F ht⟩) hS.2.2 (zat zrX10_seat_0_ok 24 rfl)
  · have h := (if_neg c9).symm.trans h
    refine lv_iconst (v := (-1)) hx hb (zat zrX10_seat_0_ok 6 rfl) (by decide) ?_
    obtain rfl := Option.some.inj h
    obtain ⟨hP9, hD9⟩ := pd_sub ((a0, .inr (7, [.ref a2, g9, g10, g11, g12, .ref a3, g13, g14, .int o6.2.1, .int o6.2.2])) :: bX6 a2 up kp p_p (bX8 a3 us ks s_s [])) [13, 3, 4, 5, 6, 7, 8, 9, 10, 11, 12, 0, 1, 2] hP hD (by decide) rfl
    have hK9 := hK.sub (tys' := []) [] rfl
    rw [hQQ]
    exact W.iret (v := (-1 : Int32)) hx hb hr (fun t ht hW => ⟨⟨(-1 : Int32), (), rfl, rfl, by rw [ht]; exact hP9, va_K.moved hW.alike hK9, hD9⟩, hS.F ht⟩) hS.2.2 (zat zrX10_seat_0_ok 7 rfl)
noncomputable def zrJ6_bitCount_0f7a4_0 : List ZR := zc 0 true (.iload_n 0) 1 (zc 1 true (.iload_n 0) 1 (zc 2 true (.iconst 1) 1 (zc 3 true (.iushr) 1 (zc 4 true (.ldc_w 265) 3 (zc 7 true (.iand) 1 (zc 8 true (.isub) 1 (zc 9 true (.istore_n 0) 1 (zc 10 true (.iload_n 0) 1 (zc 11 true (.ldc_w 266) 3 (zc 14 true (.iand) 1 (zc 15 true (.iload_n 0) 1 (zc 16 true (.iconst 2) 1 (zc 17 true (.iushr) 1 (zc 18 true (.ldc_w 266) 3 (zc 21 true (.iand) 1 (zc 22 true (.iadd) 1 (zc 23 true (.istore_n 0) 1 (zc 24 true (.iload_n 0) 1 (zc 25 true (.iload_n 0) 1 (zc 26 true (.iconst 4) 1 (zc 27 true (.iushr) 1 (zc 28 true (.iadd) 1 (zc 29 true (.ldc_w 267) 3 (zc 32 true (.iand) 1 (zc 33 true (.istore_n 0) 1 (zc 34 true (.iload_n 0) 1 (zc 35 true (.iload_n 0) 1 (zc 36 true (.bipush 8) 2 (zc 38 true (.iushr) 1 (zc 39 true (.iadd) 1 (zc 40 true (.istore_n 0) 1 (zc 41 true (.iload_n 0) 1 (zc 42 true (.iload_n 0) 1 (zc 43 true (.bipush 16) 2 (zc 45 true (.iushr) 1 (zc 46 true (.iadd) 1 (zc 47 true (.istore_n 0) 1 (zc 48 true (.iload_n 0) 1 (zc 49 true (.bipush 63) 2 (zc 51 true (.iand) 1 (zc 52 true (.ireturn) 1 ([]))))))))))))))))))))))))))))))))))))))))))
theorem zrJ6_bitCount_0f7a4_0_ok : zck 0 ((zby cJ6_bitCount_0f7a4).drop 0) zrJ6_bitCount_0f7a4_0 = true := by decide +kernel
def vfJ6_bitCount_0f7a4 : List Cond := .code yJ6_bitCount_0f7a4 cJ6_bitCount_0f7a4 1 (some .int) :: ([.constant RJ6 265 (1431655765), .constant RJ6 266 (858993459), .constant RJ6 267 (252645135)])
theorem qfJ6_bitCount_0f7a4 : Good vfJ6_bitCount_0f7a4 := gd_cons (by decide +kernel) (gd_dec (by decide +kernel) : Good [.constant RJ6 265 (1431655765), .constant RJ6 266 (858993459), .constant RJ6 267 (252645135)])
set_option maxHeartbeats 2000000 in
set_option maxRecDepth 100000 in
theorem kfJ6_bitCount_0f7a4 (l : Launch) (dC : Nat → ClassId) (dI : Nat → Nat → Nat) (k0 : Int32) (sz : Nat) (out : Int32) (h : f_J6_bitCount_0f7a4 k0 = out) : KDi l yJ6_bitCount_0f7a4 vfJ6_bitCount_0f7a4 ({ frames := 0, cells := 0, slots := 0, locals := 0 }) (dC, dI) [.int k0] sz [] ([]) (fun (r : Int32) _ => r = out) 0 0 := by
  refine va_MetF (cc := cJ6_bitCount_0f7a4) (maxL := 1) (ret := (some .int)) (by decide) rfl ?_
  intro p e s m args below meth c s₁ B0 hml hv
  obtain ⟨rfl, hsz, hP, hK, hD0, hN⟩ := hv
  have hx := B0.exec
  have hb := B0.bytes
  have hr := B0.returns
  have hts := atoms_spec (ws := vfJ6_bitCount_0f7a4) B0.pre
  have hown : s.vm.findClass RJ6 = some m.cls := findClass_of_methodNamed B0.named
  have hlocks := B0.notSynchronized
  subst hsz
  have hD := hD0.self (sz := s.heap.size)
  generalize hAe : va_A [] s.heap.size = A at hD ⊢
  have hA : ∀ q : Nat, s.heap.size ≤ q → A q := fun q h => by rw [← hAe]; exact Or.inr h
  have hS : va_S A s.heap s.heap [] := va_S.rf
  have hP : va_P (dC, dI) vwCl [] s.heap := hP
  have hl := lv_entry ([.int k0]) (n := 1) (Nat.le_of_ble_eq_true rfl)
  rw [lg_entry_eq]
  generalize (lg_sl ([.int k0]) ++ List.replicate (1 - (lg_sl ([.int k0])).length) Slot.unset).toArray = ls at hl ⊢
  have hl : lv_has ls 1 [(0, .int k0)] := hl
  refine W_q (fun QQ hQQ => ?_)
  rw [f_J6_bitCount_0f7a4] at h
  refine lv_iload_n hx hb (zat zrJ6_bitCount_0f7a4_0_ok 0 rfl) rfl (lv_at hl 0 rfl) ?_
  refine lv_iload_n hx hb (zat zrJ6_bitCount_0f7a4_0_ok 1 rfl) rfl (lv_at hl 0 rfl) ?_
  refine lv_iconst (v := 1) hx hb (zat zrJ6_bitCount_0f7a4_0_ok 2 rfl) (by decide) ?_
  refine lv_iushr hx hb (zat zrJ6_bitCount_0f7a4_0_ok 3 rfl) rfl ?_
  refine lv_topi (fun z3 ez3 => ?_)
  have h := nm_of h z3 ez3
  refine lv_ldcw hx hb hown (hts (.constant RJ6 265 (1431655765)) (List.mem_of_getElem? (i := 1) rfl)) (zat zrJ6_bitCount_0f7a4_0_ok 4 rfl) ?_
  refine lv_iand hx hb (zat zrJ6_bitCount_0f7a4_0_ok 5 rfl) ?_
  refine lv_isub hx hb (zat zrJ6_bitCount_0f7a4_0_ok 6 rfl) ?_
  refine lv_istore_n (lv' := [(0, .int (k0 - (z3 &&& (1431655765 : Int32))))]) hx hb (zat zrJ6_bitCount_0f7a4_0_ok 7 rfl) rfl hl (by decide) rfl (fun ls hl => ?_)
  refine lv_iload_n hx hb (zat zrJ6_bitCount_0f7a4_0_ok 8 rfl) rfl (lv_at hl 0 rfl) ?_
  refine lv_ldcw hx hb hown (hts (.constant RJ6 266 (858993459)) (List.mem_of_getElem? (i := 2) rfl)) (zat zrJ6_bitCount_0f7a4_0_ok 9 rfl) ?_
  refine lv_iand hx hb (zat zrJ6_bitCount_0f7a4_0_ok 10 rfl) ?_
  refine lv_topi (fun z14 ez14 => ?_)
  have h := nm_of h z14 ez14
  refine lv_iload_n hx hb (zat zrJ6_bitCount_0f7a4_0_ok 11 rfl) rfl (lv_at hl 0 rfl) ?_
  refine lv_iconst (v := 2) hx hb (zat zrJ6_bitCount_0f7a4_0_ok 12 rfl) (by decide) ?_
  refine lv_iushr hx hb (zat zrJ6_bitCount_0f7a4_0_ok 13 rfl) rfl ?_
  refine lv_topi (fun z17 ez17 => ?_)
  have h := nm_of h z17 ez17
  refine lv_ldcw hx hb hown (hts (.constant RJ6 266 (858993459)) (List.mem_of_getElem? (i := 2) rfl)) (zat zrJ6_bitCount_0f7a4_0_ok 14 rfl) ?_
  refine lv_iand hx hb (zat zrJ6_bitCount_0f7a4_0_ok 15 rfl) ?_
  refine lv_iadd hx hb (zat zrJ6_bitCount_0f7a4_0_ok 16 rfl) ?_
  refine lv_istore_n (lv' := [(0, .int (z14 + (z17 &&& (858993459 : Int32))))]) hx hb (zat zrJ6_bitCount_0f7a4_0_ok 17 rfl) rfl hl (by decide) rfl (fun ls hl => ?_)
  refine lv_iload_n hx hb (zat zrJ6_bitCount_0f7a4_0_ok 18 rfl) rfl (lv_at hl 0 rfl) ?_
  refine lv_iload_n hx hb (zat zrJ6_bitCount_0f7a4_0_ok 19 rfl) rfl (lv_at hl 0 rfl) ?_
  refine lv_iconst (v := 4) hx hb (zat zrJ6_bitCount_0f7a4_0_ok 20 rfl) (by decide) ?_
  refine lv_iushr hx hb (zat zrJ6_bitCount_0f7a4_0_ok 21 rfl) rfl ?_
  refine lv_topi (fun z27 ez27 => ?_)
  have h := nm_of h z27 ez27
  refine lv_iadd hx hb (zat zrJ6_bitCount_0f7a4_0_ok 22 rfl) ?_
  refine lv_ldcw hx hb hown (hts (.constant RJ6 267 (252645135)) (List.mem_of_getElem? (i := 3) rfl)) (zat zrJ6_bitCount_0f7a4_0_ok 23 rfl) ?_
  refine lv_iand hx hb (zat zrJ6_bitCount_0f7a4_0_ok 24 rfl) ?_
  refine lv_topi (fun z32 ez32 => ?_)
  have h := nm_of h z32 ez32
  refine lv_istore_n (lv' := [(0, .int z32)]) hx hb (zat zrJ6_bitCount_0f7a4_0_ok 25 rfl) rfl hl (by decide) rfl (fun ls hl => ?_)
  refine lv_iload_n hx hb (zat zrJ6_bitCount_0f7a4_0_ok 26 rfl) rfl (lv_at hl 0 rfl) ?_
  refine lv_iload_n hx hb (zat zrJ6_bitCount_0f7a4_0_ok 27 rfl) rfl (lv_at hl 0 rfl) ?_
  refine lv_bipush (v := 8) hx hb (zat zrJ6_bitCount_0f7a4_0_ok 28 rfl) (by decide) ?_
  refine lv_iushr hx hb (zat zrJ6_bitCount_0f7a4_0_ok 29 rfl) rfl ?_
  refine lv_topi (fun z38 ez38 => ?_)
  have h := nm_of h z38 ez38
  refine lv_iadd hx hb (zat zrJ6_bitCount_0f7a4_0_ok 30 rfl) ?_
  refine lv_istore_n (lv' := [(0, .int (z32 + z38))]) hx hb (zat zrJ6_bitCount_0f7a4_0_ok 31 rfl) rfl hl (by decide) rfl (fun ls hl => ?_)
  refine lv_iload_n hx hb (zat zrJ6_bitCount_0f7a4_0_ok 32 rfl) rfl (lv_at hl 0 rfl) ?_
  refine lv_iload_n hx hb (zat zrJ6_bitCount_0f7a4_0_ok 33 rfl) rfl (lv_at hl 0 rfl) ?_
  refine lv_bipush (v := 16) hx hb (zat zrJ6_bitCount_0f7a4_0_ok 34 rfl) (by decide) ?_
  refine lv_iushr hx hb (zat zrJ6_bitCount_0f7a4_0_ok 35 rfl) rfl ?_
  refine lv_topi (fun z45 ez45 => ?_)
  have h := nm_of h z45 ez45
  refine lv_iadd hx hb (zat zrJ6_bitCount_0f7a4_0_ok 36 rfl) ?_
  refine lv_istore_n (lv' := [(0, .int ((z32 + z38) + z45))]) hx hb (zat zrJ6_bitCount_0f7a4_0_ok 37 rfl) rfl hl (by decide) rfl (fun ls hl => ?_)
  refine lv_iload_n hx hb (zat zrJ6_bitCount_0f7a4_0_ok 38 rfl) rfl (lv_at hl 0 rfl) ?_
  refine lv_bipush (v := 63) hx hb (zat zrJ6_bitCount_0f7a4_0_ok 39 rfl) (by decide) ?_
  refine lv_iand hx hb (zat zrJ6_bitCount_0f7a4_0_ok 40 rfl) ?_
  obtain rfl := h
  obtain ⟨hP9, hD9⟩ := pd_sub [] [] hP hD (by decide) rfl
  have hK9 := hK.sub (tys' := []) [] rfl
  rw [hQQ]
  exact W.iret (v := (((z32 + z38) + z45) &&& (63 : Int32))) hx hb hr (fun t ht hW => ⟨⟨(((z32 + z38) + z45) &&& (63 : Int32)), (), rfl, rfl, by rw [ht]; exact hP9, va_K.moved hW.alike hK9, hD9⟩, hS.F ht⟩) hS.2.2 (zat zrJ6_bitCount_0f7a4_0_ok 41 rfl)
noncomputable def zrX10_mostSeated_0 : List ZR := zc 0 true (.aload_n 0) 1 (zc 1 true (.aload_n 0) 1 (zc 2 true (.invokevirtual 216) 3 (zc 5 true (.invokevirtual 79) 3 (zc 8 true (.ifCond .eq 5) 3 (zc 11 true (.iconst (-1)) 1 (zc 12 true (.ireturn) 1 (zc 13 true (.iconst 0) 1 (zc 14 true (.istore_n 1) 1 (zc 15 true (.iconst 1) 1 (zc 16 true (.istore_n 2) 1 (zc 17 true (.iload_n 2) 1 (zc 18 true (.aload_n 0) 1 (zc 19 true (.invokevirtual 249) 3 (zc 22 true (.if_icmp .gt 38) 3 (zc 25 true (.iload_n 2) 1 (zc 26 true (.invokestatic 259) 3 (zc 29 true (.iload_n 1) 1 (zc 30 true (.invokestatic 259) 3 (zc 33 true (.if_icmp .le 21) 3 (zc 36 true (.aload_n 0) 1 (zc 37 true (.getfield 43) 3 (zc 40 true (.aload_n 0) 1 (zc 41 true (.getfield 10) 3 (zc 44 true (.iload_n 2) 1 (zc 45 true (.iconst 1) 1 (zc 46 true (.invokevirtual 252) 3 (zc 49 true (.ifCond .le 5) 3 (zc 52 true (.iload_n 2) 1 (zc 53 true (.istore_n 1) 1 (zc 54 true (.iinc 2 1) 3 (zc 57 true (.goto (-40)) 3 (zc 60 true (.iload_n 1) 1 (zc 61 true (.ireturn) 1 ([]))))))))))))))))))))))))))))))))))
theorem zrX10_mostSeated_0_ok : zck 0 ((zby cX10_mostSeated).drop 0) zrX10_mostSeated_0 = true := by decide +kernel
def vfX10_mostSeated : List Cond := List.cons (.code yX10_mostSeated cX10_mostSeated 3 (some .int)) (apW [.methodLink RX10 216 yX10_pierTrouble, .instanceMethod yX10_pierTrouble, .selects RX10 yX10_pierTrouble yX10_pierTrouble, .initialized RX10, .methodLink RX10 79 yX10_refused, .instanceMethod yX10_refused, .selects RX10 yX10_refused yX10_refused, .methodLink RX10 249 yX10_everyAsker, .instanceMethod yX10_everyAsker, .selects RX10 yX10_everyAsker yX10_everyAsker, .methodLink RX10 259 yJ6_bitCount_0f7a4, .static yJ6_bitCount_0f7a4, .initialized RJ6, .fieldLink RX10 43 "HookPier" "seats" "LHookPier$Seats;", .fieldLink RX10 10 "HookPier" "plan" "LHookPier$Plan;", .methodLink RX10 252 yX8_countRows, .instanceMethod yX8_countRows, .selects RX8 yX8_countRows yX8_countRows, .initialized RX8] (apW wsX100 (apW vfX10_pierTrouble (apW vfX10_refused (apW vfX10_everyAsker (apW vfJ6_bitCount_0f7a4 (vfX8_countRows)))))))
theorem ifX10_mostSeated_X10 : ∀ w ∈ wsX100, w ∈ vfX10_mostSeated := fun _ h => (List.mem_cons_of_mem _ (List.mem_append_right _ (List.mem_append_left _ h)))
theorem qfX10_mostSeated : Good vfX10_mostSeated := gd_cons (by decide +kernel) (gd_app (gd_dec (by decide +kernel) : Good [.methodLink RX10 216 yX10_pierTrouble, .instanceMethod yX10_pierTrouble, .selects RX10 yX10_pierTrouble yX10_pierTrouble, .initialized RX10, .methodLink RX10 79 yX10_refused, .instanceMethod yX10_refused, .selects RX10 yX10_refused yX10_refused, .methodLink RX10 249 yX10_everyAsker, .instanceMethod yX10_everyAsker, .selects RX10 yX10_everyAsker yX10_everyAsker, .methodLink RX10 259 yJ6_bitCount_0f7a4, .static yJ6_bitCount_0f7a4, .initialized RJ6, .fieldLink RX10 43 "HookPier" "seats" "LHookPier$Seats;", .fieldLink RX10 10 "HookPier" "plan" "LHookPier$Plan;", .methodLink RX10 252 yX8_countRows, .instanceMethod yX8_countRows, .selects RX8 yX8_countRows yX8_countRows, .initialized RX8]) (gd_app qsX10 (gd_app qfX10_pierTrouble (gd_app qfX10_refused (gd_app qfX10_everyAsker (gd_app qfJ6_bitCount_0f7a4 qfX8_countRows))))))
theorem gfX10_mostSeated_0 : GoodIn vfX10_mostSeated (wsV RX10 216 RX10 yX10_pierTrouble vfX10_pierTrouble) := goodIn_app (goodIn_r [.methodLink RX10 216 yX10_pierTrouble, .instanceMethod yX10_pierTrouble, .selects RX10 yX10_pierTrouble yX10_pierTrouble, .initialized RX10] [1, 2, 3, 4] rfl (by decide +kernel)) (goodIn_m (fun _ h => (List.mem_cons_of_mem _ (List.mem_append_right _ (List.mem_append_right _ (List.mem_append_left _ h))))) qfX10_pierTrouble)
theorem gfX10_mostSeated_1 : GoodIn vfX10_mostSeated (wsV RX10 79 RX10 yX10_refused vfX10_refused) := goodIn_app (goodIn_r [.methodLink RX10 79 yX10_refused, .instanceMethod yX10_refused, .selects RX10 yX10_refused yX10_refused, .initialized RX10] [5, 6, 7, 4] rfl (by decide +kernel)) (goodIn_m (fun _ h => (List.mem_cons_of_mem _ (List.mem_append_right _ (List.mem_append_right _ (List.mem_append_right _ (List.mem_append_left _ h)))))) qfX10_refused)
theorem gfX10_mostSeated_2 : GoodIn vfX10_mostSeated (wsV RX10 249 RX10 yX10_everyAsker vfX10_everyAsker) := goodIn_app (goodIn_r [.methodLink RX10 249 yX10_everyAsker, .instanceMethod yX10_everyAsker, .selects RX10 yX10_everyAsker yX10_everyAsker, .initialized RX10] [8, 9, 10, 4] rfl (by decide +kernel)) (goodIn_m (fun _ h => (List.mem_cons_of_mem _ (List.mem_append_right _ (List.mem_append_right _ (List.mem_append_right _ (List.mem_append_right _ (List.mem_append_left _ h))))))) qfX10_everyAsker)
theorem gfX10_mostSeated_3 : GoodIn vfX10_mostSeated (va_wsS RX10 259 yJ6_bitCount_0f7a4 vfJ6_bitCount_0f7a4) := goodIn_app (goodIn_r [.methodLink RX10 259 yJ6_bitCount_0f7a4, .static yJ6_bitCount_0f7a4, .initialized RJ6] [11, 12, 13] rfl (by decide +kernel)) (goodIn_m (fun _ h => (List.mem_cons_of_mem _ (List.mem_append_right _ (List.mem_append_right _ (List.mem_append_right _ (List.mem_append_right _ (List.mem_append_right _ (List.mem_append_left _ h)))))))) qfJ6_bitCount_0f7a4)
theorem gfX10_mostSeated_4 : GoodIn vfX10_mostSeated (wsV RX10 252 RX8 yX8_countRows vfX8_countRows) := goodIn_app (goodIn_r [.methodLink RX10 252 yX8_countRows, .instanceMethod yX8_countRows, .selects RX8 yX8_countRows yX8_countRows, .initialized RX8] [16, 17, 18, 19] rfl (by decide +kernel)) (goodIn_m (fun _ h => (List.mem_cons_of_mem _ (List.mem_append_right _ (List.mem_append_right _ (List.mem_append_right _ (List.mem_append_right _ (List.mem_append_right _ (List.mem_append_right _ h)))))))) qfX8_countRows)
set_option maxHeartbeats 2000000 in
set_option maxRecDepth 100000 in
theorem kfX10_mostSeated (l : Launch) (dC : Nat → ClassId) (dI : Nat → Nat → Nat) (a0 : Nat) (a1 : Nat) (a2 : Nat) (up : Nat → Nat) (kp : Nat → ClassId) (us : Nat → Nat) (ks : Nat → ClassId) (x_x : TX10_x) (g8 : Value) (g9 : Value) (g10 : Value) (g11 : Value) (g12 : Value) (g13 : Value) (p_p : TX6_p) (s_s : TX8_s) (sz : Nat) (out : (Int32 × TX10_x × TX8_s)) (h : f_X10_mostSeated x_x p_p s_s = some out) : KCi l yX10_mostSeated vfX10_mostSeated ({ frames := 9, cells := 0, slots := 0, locals := 233 }) (dC, dI) [.ref a0] sz ((a0, .inr (7, [.ref a1, g8, g9, g10, g11, .ref a2, g12, g13, .int x_x.1, .int x_x.2])) :: bX6 a1 up kp p_p (bX8 a2 us ks s_s [])) (tX6 kp (tX8 ks ([]))) (fun (r : Int32) _ => r = out.1) ((a0, .inr (7, [.ref a1, g8, g9, g10, g11, .ref a2, g12, g13, .int out.2.1.1, .int out.2.1.2])) :: bX6 a1 up kp p_p (bX8 a2 us ks out.2.2 [])) 0 0 := by
  refine Met.ofW (cc := cX10_mostSeated) (maxL := 3) (ret := (some .int)) (by decide) rfl ?_
  intro p e s m args below meth c s₁ B0 hml hv
  obtain ⟨rfl, hsz, hP, hK, hD0, hN⟩ := hv
  have hx := B0.exec
  have hb := B0.bytes
  have hr := B0.returns
  have hts := atoms_spec (ws := vfX10_mostSeated) B0.pre
  have hown : s.vm.findClass RX10 = some m.cls := findClass_of_methodNamed B0.named
  have hlocks := B0.notSynchronized
  subst hsz
  have hD := hD0.self (sz := s.heap.size)
  generalize hAe : va_A ((a0, .inr (7, [.ref a1, g8, g9, g10, g11, .ref a2, g12, g13, .int x_x.1, .int x_x.2])) :: bX6 a1 up kp p_p (bX8 a2 us ks s_s [])) s.heap.size = A at hD ⊢
  have hA : ∀ q : Nat, s.heap.size ≤ q → A q := fun q h => by rw [← hAe]; exact Or.inr h
  have hS : va_S A s.heap s.heap [] := va_S.rf
  have hP : va_P (dC, dI) vwCl ((a0, .inr (7, [.ref a1, g8, g9, g10, g11, .ref a2, g12, g13, .int x_x.1, .int x_x.2])) :: bX6 a1 up kp p_p (bX8 a2 us ks s_s [])) s.heap := hP
  have hl := lv_entry ([.ref a0]) (n := 3) (Nat.le_of_ble_eq_true rfl)
  rw [lg_entry_eq]
  generalize (lg_sl ([.ref a0]) ++ List.replicate (3 - (lg_sl ([.ref a0])).length) Slot.unset).toArray = ls at hl ⊢
  have hl : lv_has ls 3 [(0, .ref a0)] := hl
  refine W_q (fun QQ hQQ => ?_)
  rw [f_X10_mostSeated] at h
  refine lv_aload_n hx hb (zat zrX10_mostSeated_0_ok 0 rfl) rfl (lv_at hl 0 rfl) ?_
  refine lv_aload_n hx hb (zat zrX10_mostSeated_0_ok 1 rfl) rfl (lv_at hl 0 rfl) ?_
  obtain ⟨o2, eo2⟩ : ∃ o, o = f_X10_pierTrouble p_p := ⟨_, rfl⟩
  have h := nm_of h o2 eo2
  refine ck_i (wc := ((a0, .inr (7, [.ref a1, g8, g9, g10, g11, .ref a2, g12, g13, .int x_x.1, .int x_x.2])) :: bX6 a1 up kp p_p [])) (wr := (bX8 a2 us ks s_s [])) hP hD hK hS hA [0, 1, 2, 3, 4, 5, 6, 7, 8, 9, 10] [11, 12, 13] rfl rfl (by decide) (by decide) (by decide) (fun hPc hDc => (va_runV (As := []) (rest := [.ref a0]) ⟨hx, hb, hml, hown, hts⟩ (kfX10_pierTrouble l dC dI a0 a1 up kp (g8) (g9) (g10) (g11) (.ref a2) (g12) (g13) (.int x_x.1) (.int x_x.2) p_p s.heap.size o2 eo2.symm) (cwV 0 hts gfX10_mostSeated_0 rfl rfl rfl (by decide +kernel) ⟨(Nat.le_of_ble_eq_true rfl), (Nat.le_of_ble_eq_true rfl)⟩) (PV hPc (hK.sub (tys' := (tX6 kp ([]))) [0, 1, 2, 3, 4, 5, 6, 7, 8] rfl) hDc hN 0 rfl rfl) rfl rfl hl.1 rfl (lv_room (Nat.le_of_ble_eq_true rfl)) (zat zrX10_mostSeated_0_ok 2 rfl) ⟨(Nat.le_of_ble_eq_true rfl), (Nat.le_of_ble_eq_true rfl)⟩)) (fun r2 _ H locs hw hP hD _ hS => ?_)
  obtain rfl := hw.symm
  obtain ⟨hP, hD⟩ := pd_mk (bX8 a2 us ks s_s ((a0, .inr (7, [.ref a1, g8, g9, g10, g11, .ref a2, g12, g13, .int x_x.1, .int x_x.2])) :: bX6 a1 up kp p_p [])) hP hD
  obtain ⟨o5, eo5⟩ : ∃ o, o = f_X10_refused o2 x_x := ⟨_, rfl⟩
  have h := nm_of h o5 eo5
  refine ck_i (wc := ([(a0, .inr (7, [.ref a1, g8, g9, g10, g11, .ref a2, g12, g13, .int x_x.1, .int x_x.2]))])) (wr := (bX8 a2 us ks s_s (bX6 a1 up kp p_p []))) hP hD hK hS hA [3] [0, 1, 2, 4, 5, 6, 7, 8, 9, 10, 11, 12, 13] rfl rfl (by decide) (by decide) (by decide) (fun hPc hDc => (va_runV (As := [.int o2]) (rest := []) ⟨hx, hb, hml, hown, hts⟩ (kfX10_refused l dC dI a0 o2 x_x (.ref a1) (g8) (g9) (g10) (g11) (.ref a2) (g12) (g13) H.size o5 eo5.symm) (cwV 1 hts gfX10_mostSeated_1 rfl rfl rfl (by decide +kernel) ⟨(Nat.le_of_ble_eq_true rfl), (Nat.le_of_ble_eq_true rfl)⟩) (PV hPc (hK.sub (tys' := ([])) [] rfl) hDc hN 0 rfl rfl) rfl rfl hl.1 rfl (lv_room (Nat.le_of_ble_eq_true rfl)) (zat zrX10_mostSeated_0_ok 3 rfl) ⟨(Nat.le_of_ble_eq_true rfl), (Nat.le_of_ble_eq_true rfl)⟩)) (fun r5 _ H locs hw hP hD _ hS => ?_)
  obtain ⟨hw, br5⟩ := hw
  obtain rfl := hw
  obtain ⟨hP, hD⟩ := pd_mk (bX8 a2 us ks s_s (bX6 a1 up kp p_p ([(a0, .inr (7, [.ref a1, g8, g9, g10, g11, .ref a2, g12, g13, .int o5.2.1, .int o5.2.2]))]))) hP hD
  refine lv_if_eq (tgt := 13) hx hb (zat zrX10_mostSeated_0_ok 4 rfl) (by decide) (fun c8 => ?_) (fun c8 => ?_)
  · have h := (if_pos c8).symm.trans h
    refine lv_iconst (v := 0) hx hb (zat zrX10_mostSeated_0_ok 7 rfl) (by decide) ?_
    refine lv_istore_n (lv' := [(1, .int 0), (0, .ref a0)]) hx hb (zat zrX10_mostSeated_0_ok 8 rfl) rfl hl (by decide) rfl (fun ls hl => ?_)
    refine lv_iconst (v := 1) hx hb (zat zrX10_mostSeated_0_ok 9 rfl) (by decide) ?_
    refine lv_istore_n (lv' := [(2, .int 1), (1, .int 0), (0, .ref a0)]) hx hb (zat zrX10_mostSeated_0_ok 10 rfl) rfl hl (by decide) rfl (fun ls hl => ?_)
    have L17 : ∀ (n17 : Nat) (v17_l2 : Int32) (v17_l1 : Int32) (v17_s_s : TX8_s) (H : Heap) (locs : List Loc) (ls : Array Slot), f_X10_mostSeated_L17 p_p o5 n17 v17_l2 v17_l1 v17_s_s = some out → va_P (dC, dI) vwCl (bX8 a2 us ks v17_s_s (bX6 a1 up kp p_p ([(a0, .inr (7, [.ref a1, g8, g9, g10, g11, .ref a2, g12, g13, .int o5.2.1, .int o5.2.2]))]))) H → va_D A (bX8 a2 us ks v17_s_s (bX6 a1 up kp p_p ([(a0, .inr (7, [.ref a1, g8, g9, g10, g11, .ref a2, g12, g13, .int o5.2.1, .int o5.2.2]))]))) → va_S A s.heap H locs → lv_has ls 3 [(2, .int v17_l2), (1, .int v17_l1), (0, .ref a0)] → W p l e (headSpec vfX10_mostSeated { frames := 9, cells := 0, slots := 0, locals := 233 }).room s m ([.ref a0]).toArray below meth c H locs 0 0 QQ (F0 m 17 ls []) := by
      intro n17
      induction n17 with
      | zero =>
        intro v17_l2 v17_l1 v17_s_s H locs ls h  _ _ _ _
        rw [f_X10_mostSeated_L17] at h
        cases h
      | succ n17 ih17 =>
        intro v17_l2 v17_l1 v17_s_s H locs ls h  hP hD hS hl
        rw [f_X10_mostSeated_L17] at h
        refine lv_iload_n hx hb (zat zrX10_mostSeated_0_ok 11 rfl) rfl (lv_at hl 0 rfl) ?_
        refine lv_aload_n hx hb (zat zrX10_mostSeated_0_ok 12 rfl) rfl (lv_at hl 2 rfl) ?_
        obtain ⟨o19, eo19⟩ : ∃ o, o = f_X10_everyAsker p_p := ⟨_, rfl⟩
        have h := nm_of h o19 eo19
        refine ck_i (wc := ((a0, .inr (7, [.ref a1, g8, g9, g10, g11, .ref a2, g12, g13, .int o5.2.1, .int o5.2.2])) :: bX6 a1 up kp p_p [])) (wr := (bX8 a2 us ks v17_s_s [])) hP hD hK hS hA [13, 3, 4, 5, 6, 7, 8, 9, 10, 11, 12] [0, 1, 2] rfl rfl (by decide) (by decide) (by decide) (fun hPc hDc => (va_runV (As := []) (rest := [.int v17_l2]) ⟨hx, hb, hml, hown, hts⟩ (kfX10_everyAsker l dC dI a0 a1 up kp (g8) (g9) (g10) (g11) (.ref a2) (g12) (g13) (.int o5.2.1) (.int o5.2.2) p_p H.size o19 eo19.symm) (cwV 0 hts gfX10_mostSeated_2 rfl rfl rfl (by decide +kernel) ⟨(Nat.le_of_ble_eq_true rfl), (Nat.le_of_ble_eq_true rfl)⟩) (PV hPc (hK.sub (tys' := (tX6 kp ([]))) [0, 1, 2, 3, 4, 5, 6, 7, 8] rfl) hDc hN 0 rfl rfl) rfl rfl hl.1 rfl (lv_room (Nat.le_of_ble_eq_true rfl)) (zat zrX10_mostSeated_0_ok 13 rfl) ⟨(Nat.le_of_ble_eq_true rfl), (Nat.le_of_ble_eq_true rfl)⟩)) (fun r19 _ H locs hw hP hD _ hS => ?_)
        obtain rfl := hw.symm
        obtain ⟨hP, hD⟩ := pd_mk (bX8 a2 us ks v17_s_s ((a0, .inr (7, [.ref a1, g8, g9, g10, g11, .ref a2, g12, g13, .int o5.2.1, .int o5.2.2])) :: bX6 a1 up kp p_p [])) hP hD
        refine lv_icmp_gt (tgt := 60) hx hb (zat zrX10_mostSeated_0_ok 14 rfl) (by decide) (fun c22 => ?_) (fun c22 => ?_)
        · have h := (if_pos c22).symm.trans h
          refine lv_iload_n hx hb (zat zrX10_mostSeated_0_ok 32 rfl) rfl (lv_at hl 1 rfl) ?_
          obtain rfl := Option.some.inj h
          obtain ⟨hP9, hD9⟩ := pd_sub ((a0, .inr (7, [.ref a1, g8, g9, g10, g11, .ref a2, g12, g13, .int o5.2.1, .int o5.2.2])) :: bX6 a1 up kp p_p (bX8 a2 us ks v17_s_s [])) [3, 4, 5, 6, 7, 8, 9, 10, 11, 12, 13, 0, 1, 2] hP hD (by decide) rfl
          have hK9 := hK.sub (tys' := []) [] rfl
          rw [hQQ]
          exact W.iret (v := v17_l1) hx hb hr (fun t ht hW => ⟨⟨v17_l1, (), rfl, rfl, by rw [ht]; exact hP9, va_K.moved hW.alike hK9, hD9⟩, hS.F ht⟩) hS.2.2 (zat zrX10_mostSeated_0_ok 33 rfl)
        · have h := (if_neg c22).symm.trans h
          refine lv_iload_n hx hb (zat zrX10_mostSeated_0_ok 15 rfl) rfl (lv_at hl 0 rfl) ?_
          obtain ⟨o26, eo26⟩ : ∃ o, o = f_J6_bitCount_0f7a4 v17_l2 := ⟨_, rfl⟩
          have h := nm_of h o26 eo26
          refine ck_i (wc := []) (wr := (bX8 a2 us ks v17_s_s ((a0, .inr (7, [.ref a1, g8, g9, g10, g11, .ref a2, g12, g13, .int o5.2.1, .int o5.2.2])) :: bX6 a1 up kp p_p []))) hP hD hK hS hA [] [0, 1, 2, 3, 4, 5, 6, 7, 8, 9, 10, 11, 12, 13] rfl rfl (by decide) (by decide) (by decide) (fun hPc hDc => (va_runS (As := [.int v17_l2]) (rest := []) ⟨hx, hb, hml, hown, hts⟩ (kfJ6_bitCount_0f7a4 l dC dI v17_l2 H.size o26 eo26.symm) (va_cwS 1 hts gfX10_mostSeated_3 rfl rfl rfl (by decide +kernel) ⟨(Nat.le_of_ble_eq_true rfl), (Nat.le_of_ble_eq_true rfl)⟩) (PS hPc (hK.sub (tys' := ([])) [] rfl) hDc hN) rfl rfl hl.1 rfl (lv_room (Nat.le_of_ble_eq_true rfl)) (zat zrX10_mostSeated_0_ok 16 rfl) ⟨(Nat.le_of_ble_eq_true rfl), (Nat.le_of_ble_eq_true rfl)⟩)) (fun r26 _ H locs hw hP hD _ hS => ?_)
          obtain rfl := hw.symm
          obtain ⟨hP, hD⟩ := pd_mk (bX8 a2 us ks v17_s_s ((a0, .inr (7, [.ref a1, g8, g9, g10, g11, .ref a2, g12, g13, .int o5.2.1, .int o5.2.2])) :: bX6 a1 up kp p_p [])) hP hD
          refine lv_iload_n hx hb (zat zrX10_mostSeated_0_ok 17 rfl) rfl (lv_at hl 1 rfl) ?_
          obtain ⟨o30, eo30⟩ : ∃ o, o = f_J6_bitCount_0f7a4 v17_l1 := ⟨_, rfl⟩
          have h := nm_of h o30 eo30
          refine ck_i (wc := []) (wr := (bX8 a2 us ks v17_s_s ((a0, .inr (7, [.ref a1, g8, g9, g10, g11, .ref a2, g12, g13, .int o5.2.1, .int o5.2.2])) :: bX6 a1 up kp p_p []))) hP hD hK hS hA [] [0, 1, 2, 3, 4, 5, 6, 7, 8, 9, 10, 11, 12, 13] rfl rfl (by decide) (by decide) (by decide) (fun hPc hDc => (va_runS (As := [.int v17_l1]) (rest := [.int o26]) ⟨hx, hb, hml, hown, hts⟩ (kfJ6_bitCount_0f7a4 l dC dI v17_l1 H.size o30 eo30.symm) (va_cwS 1 hts gfX10_mostSeated_3 rfl rfl rfl (by decide +kernel) ⟨(Nat.le_of_ble_eq_true rfl), (Nat.le_of_ble_eq_true rfl)⟩) (PS hPc (hK.sub (tys' := ([])) [] rfl) hDc hN) rfl rfl hl.1 rfl (lv_room (Nat.le_of_ble_eq_true rfl)) (zat zrX10_mostSeated_0_ok 18 rfl) ⟨(Nat.le_of_ble_eq_true rfl), (Nat.le_of_ble_eq_true rfl)⟩)) (fun r30 _ H locs hw hP hD _ hS => ?_)
          obtain rfl := hw.symm
          obtain ⟨hP, hD⟩ := pd_mk (bX8 a2 us ks v17_s_s ((a0, .inr (7, [.ref a1, g8, g9, g10, g11, .ref a2, g12, g13, .int o5.2.1, .int o5.2.2])) :: bX6 a1 up kp p_p [])) hP hD
          have J54 : ∀ (v54_s_s : TX8_s) (v54_l1 : Int32) (H : Heap) (locs : List Loc) (ls : Array Slot), f_X10_mostSeated_J54 (f_X10_mostSeated_L17 p_p o5 n17) v17_l2 v54_s_s v54_l1 = some out → va_P (dC, dI) vwCl (bX8 a2 us ks v54_s_s ((a0, .inr (7, [.ref a1, g8, g9, g10, g11, .ref a2, g12, g13, .int o5.2.1, .int o5.2.2])) :: bX6 a1 up kp p_p [])) H → va_D A (bX8 a2 us ks v54_s_s ((a0, .inr (7, [.ref a1, g8, g9, g10, g11, .ref a2, g12, g13, .int o5.2.1, .int o5.2.2])) :: bX6 a1 up kp p_p [])) → va_S A s.heap H locs → lv_has ls 3 [(2, .int v17_l2), (1, .int v54_l1), (0, .ref a0)] → W p l e (headSpec vfX10_mostSeated { frames := 9, cells := 0, slots := 0, locals := 233 }).room s m ([.ref a0]).toArray below meth c H locs 0 0 QQ (F0 m 54 ls []) := by
            intro v54_s_s v54_l1 H locs ls h  hP hD hS hl
            rw [f_X10_mostSeated_J54] at h
            refine lv_iinc (v := (v17_l2 + (1 : Int32))) (lv' := [(2, .int (v17_l2 + (1 : Int32))), (1, .int v54_l1), (0, .ref a0)]) hx hb (zat zrX10_mostSeated_0_ok 30 rfl) hl (k := 0) rfl rfl (by decide) rfl (fun ls hl => ?_)
            refine lv_goto (tgt := 17) hx hb (zat zrX10_mostSeated_0_ok 31 rfl) (by decide) ?_
            exact ih17 (v17_l2 + (1 : Int32)) v54_l1 v54_s_s H _ ls h  (hP.sub (ws' := (bX8 a2 us ks v54_s_s (bX6 a1 up kp p_p ([(a0, .inr (7, [.ref a1, g8, g9, g10, g11, .ref a2, g12, g13, .int o5.2.1, .int o5.2.2]))])))) [0, 1, 2, 4, 5, 6, 7, 8, 9, 10, 11, 12, 13, 3] rfl) (hD.sub (ws' := (bX8 a2 us ks v54_s_s (bX6 a1 up kp p_p ([(a0, .inr (7, [.ref a1, g8, g9, g10, g11, .ref a2, g12, g13, .int o5.2.1, .int o5.2.2]))])))) [0, 1, 2, 4, 5, 6, 7, 8, 9, 10, 11, 12, 13, 3] (by decide) rfl) hS (lv_sub hl [0, 1, 2] rfl)
          refine lv_icmp_le (tgt := 54) hx hb (zat zrX10_mostSeated_0_ok 19 rfl) (by decide) (fun c33 => ?_) (fun c33 => ?_)
          · have h := (if_pos c33).symm.trans h
            exact J54 v17_s_s v17_l1 H _ ls h  hP hD hS (lv_sub hl [0, 1, 2] rfl)
          · have h := (if_neg c33).symm.trans h
            refine lv_aload_n hx hb (zat zrX10_mostSeated_0_ok 20 rfl) rfl (lv_at hl 2 rfl) ?_
            refine va_get (D := (dC, dI)) (ci := 7) (v := .ref a2) (C := RX10) (T := TX10) (N := 10) hx hb hts ifX10_mostSeated_X10 hown hK hP 3 rfl rfl 5 (by decide) (hts (.fieldLink RX10 43 "HookPier" "seats" "LHookPier$Seats;") (List.mem_of_getElem? (i := 14) rfl)) (fun _ h9 => h9) rfl (zat zrX10_mostSeated_0_ok 21 rfl) ?_
            refine lv_aload_n hx hb (zat zrX10_mostSeated_0_ok 22 rfl) rfl (lv_at hl 2 rfl) ?_
            refine va_get (D := (dC, dI)) (ci := 7) (v := .ref a1) (C := RX10) (T := TX10) (N := 10) hx hb hts ifX10_mostSeated_X10 hown hK hP 3 rfl rfl 0 (by decide) (hts (.fieldLink RX10 10 "HookPier" "plan" "LHookPier$Plan;") (List.mem_of_getElem? (i := 15) rfl)) (fun _ h9 => h9) rfl (zat zrX10_mostSeated_0_ok 23 rfl) ?_
            refine lv_iload_n hx hb (zat zrX10_mostSeated_0_ok 24 rfl) rfl (lv_at hl 0 rfl) ?_
            refine lv_iconst (v := 1) hx hb (zat zrX10_mostSeated_0_ok 25 rfl) (by decide) ?_
            obtain ⟨o46, eo46, h⟩ := bd_of h
            refine ck_i (wc := (bX8 a2 us ks v17_s_s (bX6 a1 up kp p_p []))) (wr := ([(a0, .inr (7, [.ref a1, g8, g9, g10, g11, .ref a2, g12, g13, .int o5.2.1, .int o5.2.2]))])) hP hD hK hS hA [0, 1, 2, 4, 5, 6, 7, 8, 9, 10, 11, 12, 13] [3] rfl rfl (by decide) (by decide) (by decide) (fun hPc hDc => (va_runV (As := [.ref a1, .int v17_l2, .int 1]) (rest := []) ⟨hx, hb, hml, hown, hts⟩ (kfX8_countRows l dC dI a2 a1 v17_l2 (1 : Int32) us ks up kp v17_s_s p_p H.size o46 eo46) (cwV 3 hts gfX10_mostSeated_4 rfl rfl rfl (by decide +kernel) ⟨(Nat.le_of_ble_eq_true rfl), (Nat.le_of_ble_eq_true rfl)⟩) (PV hPc (hK.sub (tys' := (tX8 ks (tX6 kp ([])))) [9, 10, 0, 1, 2, 3, 4, 5, 6, 7, 8] rfl) hDc hN 0 rfl rfl) rfl rfl hl.1 rfl (lv_room (Nat.le_of_ble_eq_true rfl)) (zat zrX10_mostSeated_0_ok 26 rfl) ⟨(Nat.le_of_ble_eq_true rfl), (Nat.le_of_ble_eq_true rfl)⟩)) (fun r46 _ H locs hw hP hD _ hS => ?_)
            obtain rfl := hw
            obtain ⟨hP, hD⟩ := pd_mk ((a0, .inr (7, [.ref a1, g8, g9, g10, g11, .ref a2, g12, g13, .int o5.2.1, .int o5.2.2])) :: bX8 a2 us ks o46.2 (bX6 a1 up kp p_p [])) hP hD
            refine lv_if_le (tgt := 54) hx hb (zat zrX10_mostSeated_0_ok 27 rfl) (by decide) (fun c49 => ?_) (fun c49 => ?_)
            · have h := (if_pos c49).symm.trans h
              exact J54 o46.2 v17_l1 H _ ls h  (hP.sub (ws' := (bX8 a2 us ks o46.2 ((a0, .inr (7, [.ref a1, g8, g9, g10, g11, .ref a2, g12, g13, .int o5.2.1, .int o5.2.2])) :: bX6 a1 up kp p_p []))) [1, 2, 3, 0, 4, 5, 6, 7, 8, 9, 10, 11, 12, 13] rfl) (hD.sub (ws' := (bX8 a2 us ks o46.2 ((a0, .inr (7, [.ref a1, g8, g9, g10, g11, .ref a2, g12, g13, .int o5.2.1, .int o5.2.2])) :: bX6 a1 up kp p_p []))) [1, 2, 3, 0, 4, 5, 6, 7, 8, 9, 10, 11, 12, 13] (by decide) rfl) hS (lv_sub hl [0, 1, 2] rfl)
            · have h := (if_neg c49).symm.trans h
              refine lv_iload_n hx hb (zat zrX10_mostSeated_0_ok 28 rfl) rfl (lv_at hl 0 rfl) ?_
              refine lv_istore_n (lv' := [(1, .int v17_l2), (2, .int v17_l2), (0, .ref a0)]) hx hb (zat zrX10_mostSeated_0_ok 29 rfl) rfl hl (by decide) rfl (fun ls hl => ?_)
              exact J54 o46.2 v17_l2 H _ ls h  (hP.sub (ws' := (bX8 a2 us ks o46.2 ((a0, .inr (7, [.ref a1, g8, g9, g10, g11, .ref a2, g12, g13, .int o5.2.1, .int o5.2.2])) :: bX6 a1 up kp p_p []))) [1, 2, 3, 0, 4, 5, 6, 7, 8, 9, 10, 11, 12, 13] rfl) (hD.sub (ws' := (bX8 a2 us ks o46.2 ((a0, .inr (7, [.ref a1, g8, g9, g10, g11, .ref a2, g12, g13, .int o5.2.1, .int o5.2.2])) :: bX6 a1 up kp p_p []))) [1, 2, 3, 0, 4, 5, 6, 7, 8, 9, 10, 11, 12, 13] (by decide) rfl) hS (lv_sub hl [1, 0, 2] rfl)
    exact L17 FU (1 : Int32) (0 : Int32) s_s H _ ls h  hP hD hS (lv_sub hl [0, 1, 2] rfl)
  · have h := (if_neg c8).symm.trans h
    refine lv_iconst (v := (-1)) hx hb (zat zrX10_mostSeated_0_ok 5 rfl) (by decide) ?_
    obtain rfl := Option.some.inj h
    obtain ⟨hP9, hD9⟩ := pd_sub ((a0, .inr (7, [.ref a1, g8, g9, g10, g11, .ref a2, g12, g13, .int o5.2.1, .int o5.2.2])) :: bX6 a1 up kp p_p (bX8 a2 us ks s_s [])) [13, 3, 4, 5, 6, 7, 8, 9, 10, 11, 12, 0, 1, 2] hP hD (by decide) rfl
    have hK9 := hK.sub (tys' := []) [] rfl
    rw [hQQ]
    exact W.iret (v := (-1 : Int32)) hx hb hr (fun t ht hW => ⟨⟨(-1 : Int32), (), rfl, rfl, by rw [ht]; exact hP9, va_K.moved hW.alike hK9, hD9⟩, hS.F ht⟩) hS.2.2 (zat zrX10_mostSeated_0_ok 6 rfl)
noncomputable def zrX10_darkTrouble_0 : List ZR := zc 0 true (.aload_n 0) 1 (zc 1 true (.invokevirtual 216) 3 (zc 4 true (.istore_n 1) 1 (zc 5 true (.iload_n 1) 1 (zc 6 true (.ifCond .ne 19) 3 (zc 9 true (.aload_n 0) 1 (zc 10 true (.getfield 10) 3 (zc 13 true (.getfield 287) 3 (zc 16 true (.iconst (-1)) 1 (zc 17 true (.if_icmp .ne 8) 3 (zc 20 true (.bipush 6) 2 (zc 22 true (.goto 4) 3 (zc 25 true (.iload_n 1) 1 (zc 26 true (.ireturn) 1 ([]))))))))))))))
theorem zrX10_darkTrouble_0_ok : zck 0 ((zby cX10_darkTrouble).drop 0) zrX10_darkTrouble_0 = true := by decide +kernel
def vfX10_darkTrouble : List Cond := List.cons (.code yX10_darkTrouble cX10_darkTrouble 2 (some .int)) (apW [.methodLink RX10 216 yX10_pierTrouble, .instanceMethod yX10_pierTrouble, .selects RX10 yX10_pierTrouble yX10_pierTrouble, .initialized RX10, .fieldLink RX10 10 "HookPier" "plan" "LHookPier$Plan;", .fieldLink RX10 287 "HookPier$Plan" "darkHunger" "I"] (apW wsX100 (apW wsX60 (vfX10_pierTrouble))))
theorem ifX10_darkTrouble_X10 : ∀ w ∈ wsX100, w ∈ vfX10_darkTrouble := fun _ h => (List.mem_cons_of_mem _ (List.mem_append_right _ (List.mem_append_left _ h)))
theorem ifX10_darkTrouble_X6 : ∀ w ∈ wsX60, w ∈ vfX10_darkTrouble := fun _ h => (List.mem_cons_of_mem _ (List.mem_append_right _ (List.mem_append_right _ (List.mem_append_left _ h))))
theorem qfX10_darkTrouble : Good vfX10_darkTrouble := gd_cons (by decide +kernel) (gd_app (gd_dec (by decide +kernel) : Good [.methodLink RX10 216 yX10_pierTrouble, .instanceMethod yX10_pierTrouble, .selects RX10 yX10_pierTrouble yX10_pierTrouble, .initialized RX10, .fieldLink RX10 10 "HookPier" "plan" "LHookPier$Plan;", .fieldLink RX10 287 "HookPier$Plan" "darkHunger" "I"]) (gd_app qsX10 (gd_app qsX6 qfX10_pierTrouble)))
theorem gfX10_darkTrouble_0 : GoodIn vfX10_darkTrouble (wsV RX10 216 RX10 yX10_pierTrouble vfX10_pierTrouble) := goodIn_app (goodIn_r [.methodLink RX10 216 yX10_pierTrouble, .instanceMethod yX10_pierTrouble, .selects RX10 yX10_pierTrouble yX10_pierTrouble, .initialized RX10] [1, 2, 3, 4] rfl (by decide +kernel)) (goodIn_m (fun _ h => (List.mem_cons_of_mem _ (List.mem_append_right _ (List.mem_append_right _ (List.mem_append_right _ h))))) qfX10_pierTrouble)
set_option maxHeartbeats 2000000 in
set_option maxRecDepth 100000 in
theorem kfX10_darkTrouble (l : Launch) (dC : Nat → ClassId) (dI : Nat → Nat → Nat) (a0 : Nat) (a1 : Nat) (up : Nat → Nat) (kp : Nat → ClassId) (g4 : Value) (g5 : Value) (g6 : Value) (g7 : Value) (g8 : Value) (g9 : Value) (g10 : Value) (g11 : Value) (g12 : Value) (p_p : TX6_p) (sz : Nat) (out : Int32) (h : f_X10_darkTrouble p_p = out) : KDi l yX10_darkTrouble vfX10_darkTrouble ({ frames := 1, cells := 0, slots := 0, locals := 20 }) (dC, dI) [.ref a0] sz ((a0, .inr (7, [.ref a1, g4, g5, g6, g7, g8, g9, g10, g11, g12])) :: bX6 a1 up kp p_p []) (tX6 kp ([])) (fun (r : Int32) _ => r = out) 0 0 := by
  refine Met.ofW (cc := cX10_darkTrouble) (maxL := 2) (ret := (some .int)) (by decide) rfl ?_
  intro p e s m args below meth c s₁ B0 hml hv
  obtain ⟨rfl, hsz, hP, hK, hD0, hN⟩ := hv
  have hx := B0.exec
  have hb := B0.bytes
  have hr := B0.returns
  have hts := atoms_spec (ws := vfX10_darkTrouble) B0.pre
  have hown : s.vm.findClass RX10 = some m.cls := findClass_of_methodNamed B0.named
  have hlocks := B0.notSynchronized
  subst hsz
  have hD := hD0.self (sz := s.heap.size)
  generalize hAe : va_A ((a0, .inr (7, [.ref a1, g4, g5, g6, g7, g8, g9, g10, g11, g12])) :: bX6 a1 up kp p_p []) s.heap.size = A at hD ⊢
  have hA : ∀ q : Nat, s.heap.size ≤ q → A q := fun q h => by rw [← hAe]; exact Or.inr h
  have hS : va_S A s.heap s.heap [] := va_S.rf
  have hP : va_P (dC, dI) vwCl ((a0, .inr (7, [.ref a1, g4, g5, g6, g7, g8, g9, g10, g11, g12])) :: bX6 a1 up kp p_p []) s.heap := hP
  have hl := lv_entry ([.ref a0]) (n := 2) (Nat.le_of_ble_eq_true rfl)
  rw [lg_entry_eq]
  generalize (lg_sl ([.ref a0]) ++ List.replicate (2 - (lg_sl ([.ref a0])).length) Slot.unset).toArray = ls at hl ⊢
  have hl : lv_has ls 2 [(0, .ref a0)] := hl
  refine W_q (fun QQ hQQ => ?_)
  rw [f_X10_darkTrouble] at h
  refine lv_aload_n hx hb (zat zrX10_darkTrouble_0_ok 0 rfl) rfl (lv_at hl 0 rfl) ?_
  obtain ⟨o1, eo1⟩ : ∃ o, o = f_X10_pierTrouble p_p := ⟨_, rfl⟩
  have h := nm_of h o1 eo1
  refine ck_i (wc := ((a0, .inr (7, [.ref a1, g4, g5, g6, g7, g8, g9, g10, g11, g12])) :: bX6 a1 up kp p_p [])) (wr := []) hP hD hK hS hA [0, 1, 2, 3, 4, 5, 6, 7, 8, 9, 10] [] rfl rfl (by decide) (by decide) (by decide) (fun hPc hDc => (va_runV (As := []) (rest := []) ⟨hx, hb, hml, hown, hts⟩ (kfX10_pierTrouble l dC dI a0 a1 up kp (g4) (g5) (g6) (g7) (g8) (g9) (g10) (g11) (g12) p_p s.heap.size o1 eo1.symm) (cwV 0 hts gfX10_darkTrouble_0 rfl rfl rfl (by decide +kernel) ⟨(Nat.le_of_ble_eq_true rfl), (Nat.le_of_ble_eq_true rfl)⟩) (PV hPc (hK.sub (tys' := (tX6 kp ([]))) [0, 1, 2, 3, 4, 5, 6, 7, 8] rfl) hDc hN 0 rfl rfl) rfl rfl hl.1 rfl (lv_room (Nat.le_of_ble_eq_true rfl)) (zat zrX10_darkTrouble_0_ok 1 rfl) ⟨(Nat.le_of_ble_eq_true rfl), (Nat.le_of_ble_eq_true rfl)⟩)) (fun r1 _ H locs hw hP hD _ hS => ?_)
  obtain rfl := hw.symm
  obtain ⟨hP, hD⟩ := pd_mk ((a0, .inr (7, [.ref a1, g4, g5, g6, g7, g8, g9, g10, g11, g12])) :: bX6 a1 up kp p_p []) hP hD
  refine lv_istore_n (lv' := [(1, .int o1), (0, .ref a0)]) hx hb (zat zrX10_darkTrouble_0_ok 2 rfl) rfl hl (by decide) rfl (fun ls hl => ?_)
  refine lv_iload_n hx hb (zat zrX10_darkTrouble_0_ok 3 rfl) rfl (lv_at hl 0 rfl) ?_
  have J25 : ∀ (H : Heap) (locs : List Loc) (ls : Array Slot), f_X10_darkTrouble_J25 o1 = out → va_P (dC, dI) vwCl ((a0, .inr (7, [.ref a1, g4, g5, g6, g7, g8, g9, g10, g11, g12])) :: bX6 a1 up kp p_p []) H → va_D A ((a0, .inr (7, [.ref a1, g4, g5, g6, g7, g8, g9, g10, g11, g12])) :: bX6 a1 up kp p_p []) → va_S A s.heap H locs → lv_has ls 2 [(1, .int o1)] → W p l e (headSpec vfX10_darkTrouble { frames := 1, cells := 0, slots := 0, locals := 20 }).room s m ([.ref a0]).toArray below meth c H locs 0 0 QQ (F0 m 25 ls []) := by
    intro  H locs ls h  hP hD hS hl
    rw [f_X10_darkTrouble_J25] at h
    refine lv_iload_n hx hb (zat zrX10_darkTrouble_0_ok 12 rfl) rfl (lv_at hl 0 rfl) ?_
    obtain rfl := h
    obtain ⟨hP9, hD9⟩ := pd_sub ((a0, .inr (7, [.ref a1, g4, g5, g6, g7, g8, g9, g10, g11, g12])) :: bX6 a1 up kp p_p []) [0, 1, 2, 3, 4, 5, 6, 7, 8, 9, 10] hP hD (by decide) rfl
    have hK9 := hK.sub (tys' := []) [] rfl
    rw [hQQ]
    exact W.iret (v := o1) hx hb hr (fun t ht hW => ⟨⟨o1, (), rfl, rfl, by rw [ht]; exact hP9, va_K.moved hW.alike hK9, hD9⟩, hS.F ht⟩) hS.2.2 (zat zrX10_darkTrouble_0_ok 13 rfl)
  refine lv_if_ne (tgt := 25) hx hb (zat zrX10_darkTrouble_0_ok 4 rfl) (by decide) (fun c6 => ?_) (fun c6 => ?_)
  · have h := (if_neg c6).symm.trans h
    exact J25  H _ ls h  hP hD hS (lv_sub hl [0] rfl)
  · have h := (if_pos c6).symm.trans h
    refine lv_aload_n hx hb (zat zrX10_darkTrouble_0_ok 5 rfl) rfl (lv_at hl 1 rfl) ?_
    refine va_get (D := (dC, dI)) (ci := 7) (v := .ref a1) (C := RX10) (T := TX10) (N := 10) hx hb hts ifX10_darkTrouble_X10 hown hK hP 0 rfl rfl 0 (by decide) (hts (.fieldLink RX10 10 "HookPier" "plan" "LHookPier$Plan;") (List.mem_of_getElem? (i := 5) rfl)) (fun _ h9 => h9) rfl (zat zrX10_darkTrouble_0_ok 6 rfl) ?_
    refine va_get (D := (dC, dI)) (ci := 4) (v := .int p_p.2.2.2.2.2.2.2.2.1) (C := RX6) (T := TX6) (N := 18) hx hb hts ifX10_darkTrouble_X6 hown hK hP 1 rfl rfl 8 (by decide) (hts (.fieldLink RX10 287 "HookPier$Plan" "darkHunger" "I") (List.mem_of_getElem? (i := 6) rfl)) (fun _ h9 => h9) rfl (zat zrX10_darkTrouble_0_ok 7 rfl) ?_
    refine lv_iconst (v := (-1)) hx hb (zat zrX10_darkTrouble_0_ok 8 rfl) (by decide) ?_
    refine lv_icmp_ne (tgt := 25) hx hb (zat zrX10_darkTrouble_0_ok 9 rfl) (by decide) (fun c17 => ?_) (fun c17 => ?_)
    · have h := (if_neg c17).symm.trans h
      exact J25  H _ ls h  hP hD hS (lv_sub hl [0] rfl)
    · have h := (if_pos c17).symm.trans h
      refine lv_bipush (v := 6) hx hb (zat zrX10_darkTrouble_0_ok 10 rfl) (by decide) ?_
      refine lv_goto (tgt := 26) hx hb (zat zrX10_darkTrouble_0_ok 11 rfl) (by decide) ?_
      obtain rfl := h
      obtain ⟨hP9, hD9⟩ := pd_sub ((a0, .inr (7, [.ref a1, g4, g5, g6, g7, g8, g9, g10, g11, g12])) :: bX6 a1 up kp p_p []) [0, 1, 2, 3, 4, 5, 6, 7, 8, 9, 10] hP hD (by decide) rfl
      have hK9 := hK.sub (tys' := []) [] rfl
      rw [hQQ]
      exact W.iret (v := (6 : Int32)) hx hb hr (fun t ht hW => ⟨⟨(6 : Int32), (), rfl, rfl, by rw [ht]; exact hP9, va_K.moved hW.alike hK9, hD9⟩, hS.F ht⟩) hS.2.2 (zat zrX10_darkTrouble_0_ok 13 rfl)
noncomputable def zrX0_wouldBite_0 : List ZR := zc 0 true (.iload_n 0) 1 (zc 1 true (.iload_n 1) 1 (zc 2 true (.invokestatic 60) 3 (zc 5 true (.iload_n 2) 1 (zc 6 true (.invokestatic 60) 3 (zc 9 true (.if_icmp .ne 8) 3 (zc 12 true (.bipush 20) 2 (zc 14 true (.goto 4) 3 (zc 17 true (.iconst 0) 1 (zc 18 true (.iadd) 1 (zc 19 true (.bipush 10) 2 (zc 21 true (.iload_n 1) 1 (zc 22 true (.invokestatic 64) 3 (zc 25 true (.iload_n 2) 1 (zc 26 true (.invokestatic 64) 3 (zc 29 true (.isub) 1 (zc 30 true (.invokestatic 67) 3 (zc 33 true (.imul) 1 (zc 34 true (.isub) 1 (zc 35 true (.bipush 8) 2 (zc 37 true (.iload_n 1) 1 (zc 38 true (.invokestatic 70) 3 (zc 41 true (.iload_n 2) 1 (zc 42 true (.invokestatic 70) 3 (zc 45 true (.isub) 1 (zc 46 true (.invokestatic 67) 3 (zc 49 true (.imul) 1 (zc 50 true (.isub) 1 (zc 51 true (.istore_n 3) 1 (zc 52 true (.iload_n 3) 1 (zc 53 true (.bipush 50) 2 (zc 55 true (.if_icmp .lt 7) 3 (zc 58 true (.iconst 1) 1 (zc 59 true (.goto 4) 3 (zc 62 true (.iconst 0) 1 (zc 63 true (.ireturn) 1 ([]))))))))))))))))))))))))))))))))))))
theorem zrX0_wouldBite_0_ok : zck 0 ((zby cX0_wouldBite).drop 0) zrX0_wouldBite_0 = true := by decide +kernel
def vfX0_wouldBite : List Cond := List.cons (.code yX0_wouldBite cX0_wouldBite 4 (some .boolean)) (apW [.initialized RX10, .static yX10_baitOf, .static yX10_spotOf, .methodLink RX0 67 Lib.Math.abs.name, .static Lib.Math.abs.name, .initialized "java/lang/Math", .code Lib.Math.abs.name Lib.Math.abs.code 1 (some .int), .static yX10_fathomsOf] (apW vfX10_baitOf (apW vfX10_spotOf (vfX10_fathomsOf))))
theorem qfX0_wouldBite : Good vfX0_wouldBite := gd_cons (by decide +kernel) (gd_app (gd_dec (by decide +kernel) : Good [.initialized RX10, .static yX10_baitOf, .static yX10_spotOf, .methodLink RX0 67 Lib.Math.abs.name, .static Lib.Math.abs.name, .initialized "java/lang/Math", .code Lib.Math.abs.name Lib.Math.abs.code 1 (some .int), .static yX10_fathomsOf]) (gd_app qfX10_baitOf (gd_app qfX10_spotOf qfX10_fathomsOf)))
theorem gfX0_wouldBite_0 : GoodIn vfX0_wouldBite vfX10_baitOf := (goodIn_m (fun _ h => (List.mem_cons_of_mem _ (List.mem_append_right _ (List.mem_append_left _ h)))) qfX10_baitOf)
theorem gfX0_wouldBite_1 : GoodIn vfX0_wouldBite vfX10_spotOf := (goodIn_m (fun _ h => (List.mem_cons_of_mem _ (List.mem_append_right _ (List.mem_append_right _ (List.mem_append_left _ h))))) qfX10_spotOf)
theorem gfX0_wouldBite_2 : GoodIn vfX0_wouldBite vfX10_fathomsOf := (goodIn_m (fun _ h => (List.mem_cons_of_mem _ (List.mem_append_right _ (List.mem_append_right _ (List.mem_append_right _ h))))) qfX10_fathomsOf)
set_option maxHeartbeats 2000000 in
set_option maxRecDepth 100000 in
theorem kfX0_wouldBite (l : Launch) (dC : Nat → ClassId) (dI : Nat → Nat → Nat) (k0 : Int32) (k1 : Int32) (k2 : Int32) (sz : Nat) (out : Int32) (h : f_X0_wouldBite k0 k1 k2 = out) : KDi l yX0_wouldBite vfX0_wouldBite ({ frames := 1, cells := 0, slots := 0, locals := 21 }) (dC, dI) [.int k0, .int k1, .int k2] sz [] ([]) (fun (r : Int32) _ => r = out ∧ (0 ≤ r.toInt ∧ r.toInt ≤ 1)) 0 0 := by
  refine Met.ofW (cc := cX0_wouldBite) (maxL := 4) (ret := (some .boolean)) (by decide) rfl ?_
  intro p e s m args below meth c s₁ B0 hml hv
  obtain ⟨rfl, hsz, hP, hK, hD0, hN⟩ := hv
  have hx := B0.exec
  have hb := B0.bytes
  have hr := B0.returns
  have hts := atoms_spec (ws := vfX0_wouldBite) B0.pre
  have hown : s.vm.findClass RX0 = some m.cls := findClass_of_methodNamed B0.named
  have hlocks := B0.notSynchronized
  subst hsz
  have hD := hD0.self (sz := s.heap.size)
  generalize hAe : va_A [] s.heap.size = A at hD ⊢
  have hA : ∀ q : Nat, s.heap.size ≤ q → A q := fun q h => by rw [← hAe]; exact Or.inr h
  have hS : va_S A s.heap s.heap [] := va_S.rf
  have hP : va_P (dC, dI) vwCl [] s.heap := hP
  have hl := lv_entry ([.int k0, .int k1, .int k2]) (n := 4) (Nat.le_of_ble_eq_true rfl)
  rw [lg_entry_eq]
  generalize (lg_sl ([.int k0, .int k1, .int k2]) ++ List.replicate (4 - (lg_sl ([.int k0, .int k1, .int k2])).length) Slot.unset).toArray = ls at hl ⊢
  have hl : lv_has ls 4 [(0, .int k0), (1, .int k1), (2, .int k2)] := hl
  refine W_q (fun QQ hQQ => ?_)
  rw [f_X0_wouldBite] at h
  refine lv_iload_n hx hb (zat zrX0_wouldBite_0_ok 0 rfl) rfl (lv_at hl 0 rfl) ?_
  refine lv_iload_n hx hb (zat zrX0_wouldBite_0_ok 1 rfl) rfl (lv_at hl 1 rfl) ?_
  obtain ⟨o2, eo2⟩ : ∃ o, o = f_X10_baitOf k1 := ⟨_, rfl⟩
  have h := nm_of h o2 eo2
  refine ck_i (wc := []) (wr := []) hP hD hK hS hA [] [] rfl rfl (by decide) (by decide) (by decide) (fun hPc hDc => (va_runSN (As := [.int k1]) (rest := [.int k0]) ⟨hx, hb, hml, hown, hts⟩ (kfX10_baitOf l dC dI k1 s.heap.size o2 eo2.symm) ⟨va_cnB 1 hts gfX0_wouldBite_0 rfl rfl rfl (hN.1 (.methodLinkNest RX0 60 yX10_baitOf "HookPier") (List.mem_of_getElem? (i := 15) rfl)) (hts (.initialized RX10) (List.mem_of_getElem? (i := 1) rfl)) (by decide +kernel) ⟨(Nat.le_of_ble_eq_true rfl), (Nat.le_of_ble_eq_true rfl)⟩, (hts (.static yX10_baitOf) (List.mem_of_getElem? (i := 2) rfl)), trivial⟩ (PS hPc (hK.sub (tys' := ([])) [] rfl) hDc hN) rfl rfl hl.1 rfl (lv_room (Nat.le_of_ble_eq_true rfl)) (zat zrX0_wouldBite_0_ok 2 rfl) ⟨(Nat.le_of_ble_eq_true rfl), (Nat.le_of_ble_eq_true rfl)⟩)) (fun r2 _ H locs hw hP hD _ hS => ?_)
  obtain rfl := hw.symm
  obtain ⟨hP, hD⟩ := pd_mk [] hP hD
  refine lv_iload_n hx hb (zat zrX0_wouldBite_0_ok 3 rfl) rfl (lv_at hl 2 rfl) ?_
  obtain ⟨o6, eo6⟩ : ∃ o, o = f_X10_baitOf k2 := ⟨_, rfl⟩
  have h := nm_of h o6 eo6
  refine ck_i (wc := []) (wr := []) hP hD hK hS hA [] [] rfl rfl (by decide) (by decide) (by decide) (fun hPc hDc => (va_runSN (As := [.int k2]) (rest := [.int o2, .int k0]) ⟨hx, hb, hml, hown, hts⟩ (kfX10_baitOf l dC dI k2 H.size o6 eo6.symm) ⟨va_cnB 1 hts gfX0_wouldBite_0 rfl rfl rfl (hN.1 (.methodLinkNest RX0 60 yX10_baitOf "HookPier") (List.mem_of_getElem? (i := 15) rfl)) (hts (.initialized RX10) (List.mem_of_getElem? (i := 1) rfl)) (by decide +kernel) ⟨(Nat.le_of_ble_eq_true rfl), (Nat.le_of_ble_eq_true rfl)⟩, (hts (.static yX10_baitOf) (List.mem_of_getElem? (i := 2) rfl)), trivial⟩ (PS hPc (hK.sub (tys' := ([])) [] rfl) hDc hN) rfl rfl hl.1 rfl (lv_room (Nat.le_of_ble_eq_true rfl)) (zat zrX0_wouldBite_0_ok 4 rfl) ⟨(Nat.le_of_ble_eq_true rfl), (Nat.le_of_ble_eq_true rfl)⟩)) (fun r6 _ H locs hw hP hD _ hS => ?_)
  obtain rfl := hw.symm
  obtain ⟨hP, hD⟩ := pd_mk [] hP hD
  have J18 : ∀ (v18_t1 : Int32) (H : Heap) (locs : List Loc) (ls : Array Slot), f_X0_wouldBite_J18 k0 k1 k2 v18_t1 = out → va_P (dC, dI) vwCl [] H → va_D A [] → va_S A s.heap H locs → lv_has ls 4 [(1, .int k1), (2, .int k2)] → W p l e (headSpec vfX0_wouldBite { frames := 1, cells := 0, slots := 0, locals := 21 }).room s m ([.int k0, .int k1, .int k2]).toArray below meth c H locs 0 0 QQ (F0 m 18 ls [.int v18_t1, .int k0]) := by
    intro v18_t1 H locs ls h  hP hD hS hl
    rw [f_X0_wouldBite_J18] at h
    refine lv_iadd hx hb (zat zrX0_wouldBite_0_ok 9 rfl) ?_
    refine lv_bipush (v := 10) hx hb (zat zrX0_wouldBite_0_ok 10 rfl) (by decide) ?_
    refine lv_iload_n hx hb (zat zrX0_wouldBite_0_ok 11 rfl) rfl (lv_at hl 0 rfl) ?_
    obtain ⟨o22, eo22⟩ : ∃ o, o = f_X10_spotOf k1 := ⟨_, rfl⟩
    have h := nm_of h o22 eo22
    refine ck_i (wc := []) (wr := []) hP hD hK hS hA [] [] rfl rfl (by decide) (by decide) (by decide) (fun hPc hDc => (va_runSN (As := [.int k1]) (rest := [.int 10, .int (k0 + v18_t1)]) ⟨hx, hb, hml, hown, hts⟩ (kfX10_spotOf l dC dI k1 H.size o22 eo22.symm) ⟨va_cnB 1 hts gfX0_wouldBite_1 rfl rfl rfl (hN.1 (.methodLinkNest RX0 64 yX10_spotOf "HookPier") (List.mem_of_getElem? (i := 16) rfl)) (hts (.initialized RX10) (List.mem_of_getElem? (i := 1) rfl)) (by decide +kernel) ⟨(Nat.le_of_ble_eq_true rfl), (Nat.le_of_ble_eq_true rfl)⟩, (hts (.static yX10_spotOf) (List.mem_of_getElem? (i := 3) rfl)), trivial⟩ (PS hPc (hK.sub (tys' := ([])) [] rfl) hDc hN) rfl rfl hl.1 rfl (lv_room (Nat.le_of_ble_eq_true rfl)) (zat zrX0_wouldBite_0_ok 12 rfl) ⟨(Nat.le_of_ble_eq_true rfl), (Nat.le_of_ble_eq_true rfl)⟩)) (fun r22 _ H locs hw hP hD _ hS => ?_)
    obtain rfl := hw.symm
    obtain ⟨hP, hD⟩ := pd_mk [] hP hD
    refine lv_iload_n hx hb (zat zrX0_wouldBite_0_ok 13 rfl) rfl (lv_at hl 1 rfl) ?_
    obtain ⟨o26, eo26⟩ : ∃ o, o = f_X10_spotOf k2 := ⟨_, rfl⟩
    have h := nm_of h o26 eo26
    refine ck_i (wc := []) (wr := []) hP hD hK hS hA [] [] rfl rfl (by decide) (by decide) (by decide) (fun hPc hDc => (va_runSN (As := [.int k2]) (rest := [.int o22, .int 10, .int (k0 + v18_t1)]) ⟨hx, hb, hml, hown, hts⟩ (kfX10_spotOf l dC dI k2 H.size o26 eo26.symm) ⟨va_cnB 1 hts gfX0_wouldBite_1 rfl rfl rfl (hN.1 (.methodLinkNest RX0 64 yX10_spotOf "HookPier") (List.mem_of_getElem? (i := 16) rfl)) (hts (.initialized RX10) (List.mem_of_getElem? (i := 1) rfl)) (by decide +kernel) ⟨(Nat.le_of_ble_eq_true rfl), (Nat.le_of_ble_eq_true rfl)⟩, (hts (.static yX10_spotOf) (List.mem_of_getElem? (i := 3) rfl)), trivial⟩ (PS hPc (hK.sub (tys' := ([])) [] rfl) hDc hN) rfl rfl hl.1 rfl (lv_room (Nat.le_of_ble_eq_true rfl)) (zat zrX0_wouldBite_0_ok 14 rfl) ⟨(Nat.le_of_ble_eq_true rfl), (Nat.le_of_ble_eq_true rfl)⟩)) (fun r26 _ H locs hw hP hD _ hS => ?_)
    obtain rfl := hw.symm
    obtain ⟨hP, hD⟩ := pd_mk [] hP hD
    refine lv_isub hx hb (zat zrX0_wouldBite_0_ok 15 rfl) ?_
    refine va_mabs hx hb (by rw [hml]; exact hl.1.symm) hown (hts (.methodLink RX0 67 Lib.Math.abs.name) (List.mem_of_getElem? (i := 4) rfl)) (hts (.static Lib.Math.abs.name) (List.mem_of_getElem? (i := 5) rfl)) (hts (.initialized "java/lang/Math") (List.mem_of_getElem? (i := 6) rfl)) (hts (.code Lib.Math.abs.name Lib.Math.abs.code 1 (some .int)) (List.mem_of_getElem? (i := 7) rfl)) (Nat.le_of_ble_eq_true rfl) (Nat.le_of_ble_eq_true rfl) (Nat.le_of_ble_eq_true rfl) (Nat.le_of_ble_eq_true rfl) (zat zrX0_wouldBite_0_ok 16 rfl) ?_
    refine lv_topi (fun z30 ez30 => ?_)
    have h := nm_of h z30 ez30
    refine lv_imul hx hb (zat zrX0_wouldBite_0_ok 17 rfl) ?_
    refine lv_isub hx hb (zat zrX0_wouldBite_0_ok 18 rfl) ?_
    refine lv_bipush (v := 8) hx hb (zat zrX0_wouldBite_0_ok 19 rfl) (by decide) ?_
    refine lv_iload_n hx hb (zat zrX0_wouldBite_0_ok 20 rfl) rfl (lv_at hl 0 rfl) ?_
    obtain ⟨o38, eo38⟩ : ∃ o, o = f_X10_fathomsOf k1 := ⟨_, rfl⟩
    have h := nm_of h o38 eo38
    refine ck_i (wc := []) (wr := []) hP hD hK hS hA [] [] rfl rfl (by decide) (by decide) (by decide) (fun hPc hDc => (va_runSN (As := [.int k1]) (rest := [.int 8, .int ((k0 + v18_t1) - ((10 : Int32) * z30))]) ⟨hx, hb, hml, hown, hts⟩ (kfX10_fathomsOf l dC dI k1 H.size o38 eo38.symm) ⟨va_cnB 1 hts gfX0_wouldBite_2 rfl rfl rfl (hN.1 (.methodLinkNest RX0 70 yX10_fathomsOf "HookPier") (List.mem_of_getElem? (i := 17) rfl)) (hts (.initialized RX10) (List.mem_of_getElem? (i := 1) rfl)) (by decide +kernel) ⟨(Nat.le_of_ble_eq_true rfl), (Nat.le_of_ble_eq_true rfl)⟩, (hts (.static yX10_fathomsOf) (List.mem_of_getElem? (i := 8) rfl)), trivial⟩ (PS hPc (hK.sub (tys' := ([])) [] rfl) hDc hN) rfl rfl hl.1 rfl (lv_room (Nat.le_of_ble_eq_true rfl)) (zat zrX0_wouldBite_0_ok 21 rfl) ⟨(Nat.le_of_ble_eq_true rfl), (Nat.le_of_ble_eq_true rfl)⟩)) (fun r38 _ H locs hw hP hD _ hS => ?_)
    obtain rfl := hw.symm
    obtain ⟨hP, hD⟩ := pd_mk [] hP hD
    refine lv_iload_n hx hb (zat zrX0_wouldBite_0_ok 22 rfl) rfl (lv_at hl 1 rfl) ?_
    obtain ⟨o42, eo42⟩ : ∃ o, o = f_X10_fathomsOf k2 := ⟨_, rfl⟩
    have h := nm_of h o42 eo42
    refine ck_i (wc := []) (wr := []) hP hD hK hS hA [] [] rfl rfl (by decide) (by decide) (by decide) (fun hPc hDc => (va_runSN (As := [.int k2]) (rest := [.int o38, .int 8, .int ((k0 + v18_t1) - ((10 : Int32) * z30))]) ⟨hx, hb, hml, hown, hts⟩ (kfX10_fathomsOf l dC dI k2 H.size o42 eo42.symm) ⟨va_cnB 1 hts gfX0_wouldBite_2 rfl rfl rfl (hN.1 (.methodLinkNest RX0 70 yX10_fathomsOf "HookPier") (List.mem_of_getElem? (i := 17) rfl)) (hts (.initialized RX10) (List.mem_of_getElem? (i := 1) rfl)) (by decide +kernel) ⟨(Nat.le_of_ble_eq_true rfl), (Nat.le_of_ble_eq_true rfl)⟩, (hts (.static yX10_fathomsOf) (List.mem_of_getElem? (i := 8) rfl)), trivial⟩ (PS hPc (hK.sub (tys' := ([])) [] rfl) hDc hN) rfl rfl hl.1 rfl (lv_room (Nat.le_of_ble_eq_true rfl)) (zat zrX0_wouldBite_0_ok 23 rfl) ⟨(Nat.le_of_ble_eq_true rfl), (Nat.le_of_ble_eq_true rfl)⟩)) (fun r42 _ H locs hw hP hD _ hS => ?_)
    obtain rfl := hw.symm
    obtain ⟨hP, hD⟩ := pd_mk [] hP hD
    refine lv_isub hx hb (zat zrX0_wouldBite_0_ok 24 rfl) ?_
    refine va_mabs hx hb (by rw [hml]; exact hl.1.symm) hown (hts (.methodLink RX0 67 Lib.Math.abs.name) (List.mem_of_getElem? (i := 4) rfl)) (hts (.static Lib.Math.abs.name) (List.mem_of_getElem? (i := 5) rfl)) (hts (.initialized "java/lang/Math") (List.mem_of_getElem? (i := 6) rfl)) (hts (.code Lib.Math.abs.name Lib.Math.abs.code 1 (some .int)) (List.mem_of_getElem? (i := 7) rfl)) (Nat.le_of_ble_eq_true rfl) (Nat.le_of_ble_eq_true rfl) (Nat.le_of_ble_eq_true rfl) (Nat.le_of_ble_eq_true rfl) (zat zrX0_wouldBite_0_ok 25 rfl) ?_
    refine lv_topi (fun z46 ez46 => ?_)
    have h := nm_of h z46 ez46
    refine lv_imul hx hb (zat zrX0_wouldBite_0_ok 26 rfl) ?_
    refine lv_isub hx hb (zat zrX0_wouldBite_0_ok 27 rfl) ?_
    refine lv_topi (fun z50 ez50 => ?_)
    have h := nm_of h z50 ez50
    refine lv_istore_n (lv' := [(3, .int z50), (1, .int k1), (2, .int k2)]) hx hb (zat zrX0_wouldBite_0_ok 28 rfl) rfl hl (by decide) rfl (fun ls hl => ?_)
    refine lv_iload_n hx hb (zat zrX0_wouldBite_0_ok 29 rfl) rfl (lv_at hl 0 rfl) ?_
    refine lv_bipush (v := 50) hx hb (zat zrX0_wouldBite_0_ok 30 rfl) (by decide) ?_
    refine lv_icmp_lt (tgt := 62) hx hb (zat zrX0_wouldBite_0_ok 31 rfl) (by decide) (fun c55 => ?_) (fun c55 => ?_)
    · have h := (if_pos c55).symm.trans h
      refine lv_iconst (v := 0) hx hb (zat zrX0_wouldBite_0_ok 34 rfl) (by decide) ?_
      obtain rfl := h
      obtain ⟨hP9, hD9⟩ := pd_sub [] [] hP hD (by decide) rfl
      have hK9 := hK.sub (tys' := []) [] rfl
      rw [hQQ]
      exact W.zret (v := (0 : Int32)) hx hb hr rfl (fun t ht hW => ⟨⟨(0 : Int32), (), rfl, ⟨rfl, (by decide)⟩, by rw [ht]; exact hP9, va_K.moved hW.alike hK9, hD9⟩, hS.F ht⟩) hS.2.2 (zat zrX0_wouldBite_0_ok 35 rfl)
    · have h := (if_neg c55).symm.trans h
      refine lv_iconst (v := 1) hx hb (zat zrX0_wouldBite_0_ok 32 rfl) (by decide) ?_
      refine lv_goto (tgt := 63) hx hb (zat zrX0_wouldBite_0_ok 33 rfl) (by decide) ?_
      obtain rfl := h
      obtain ⟨hP9, hD9⟩ := pd_sub [] [] hP hD (by decide) rfl
      have hK9 := hK.sub (tys' := []) [] rfl
      rw [hQQ]
      exact W.zret (v := (1 : Int32)) hx hb hr rfl (fun t ht hW => ⟨⟨(1 : Int32), (), rfl, ⟨rfl, (by decide)⟩, by rw [ht]; exact hP9, va_K.moved hW.alike hK9, hD9⟩, hS.F ht⟩) hS.2.2 (zat zrX0_wouldBite_0_ok 35 rfl)
  refine lv_icmp_ne (tgt := 17) hx hb (zat zrX0_wouldBite_0_ok 5 rfl) (by decide) (fun c9 => ?_) (fun c9 => ?_)
  · have h := (if_neg c9).symm.trans h
    refine lv_iconst (v := 0) hx hb (zat zrX0_wouldBite_0_ok 8 rfl) (by decide) ?_
    exact J18 (0 : Int32) H _ ls h  hP hD hS (lv_sub hl [1, 2] rfl)
  · have h := (if_pos c9).symm.trans h
    refine lv_bipush (v := 20) hx hb (zat zrX0_wouldBite_0_ok 6 rfl) (by decide) ?_
    refine lv_goto (tgt := 18) hx hb (zat zrX0_wouldBite_0_ok 7 rfl) (by decide) ?_
    exact J18 (20 : Int32) H _ ls h  hP hD hS (lv_sub hl [1, 2] rfl)
noncomputable def zrX0_isAsTold_0 : List ZR := zc 0 true (.iconst 0) 1 (zc 1 true (.istore_n 2) 1 (zc 2 true (.iload_n 2) 1 (zc 3 true (.aload_n 0) 1 (zc 4 true (.getfield 50) 3 (zc 7 true (.if_icmp .ge 34) 3 (zc 10 true (.aload_n 0) 1 (zc 11 true (.getfield 37) 3 (zc 14 true (.iload_n 1) 1 (zc 15 true (.aload_n 0) 1 (zc 16 true (.getfield 53) 3 (zc 19 true (.iload_n 2) 1 (zc 20 true (.iaload) 1 (zc 21 true (.invokestatic 40) 3 (zc 24 true (.aload_n 0) 1 (zc 25 true (.getfield 56) 3 (zc 28 true (.iload_n 2) 1 (zc 29 true (.baload) 1 (zc 30 true (.if_icmp .eq 5) 3 (zc 33 true (.iconst 0) 1 (zc 34 true (.ireturn) 1 (zc 35 true (.iinc 2 1) 3 (zc 38 true (.goto (-36)) 3 (zc 41 true (.iconst 1) 1 (zc 42 true (.ireturn) 1 ([])))))))))))))))))))))))))
theorem zrX0_isAsTold_0_ok : zck 0 ((zby cX0_isAsTold).drop 0) zrX0_isAsTold_0 = true := by decide +kernel
def vfX0_isAsTold : List Cond := List.cons (.code yX0_isAsTold cX0_isAsTold 3 (some .boolean)) (apW [.fieldLink RX0 50 "HookPier$Plan" "bites" "I", .fieldLink RX0 37 "HookPier$Plan" "darkHunger" "I", .fieldLink RX0 53 "HookPier$Plan" "bite" "[I", .methodLink RX0 40 yX0_wouldBite, .static yX0_wouldBite, .initialized RX0, .fieldLink RX0 56 "HookPier$Plan" "bit" "[Z"] (apW wsX60 (vfX0_wouldBite)))
theorem ifX0_isAsTold_X6 : ∀ w ∈ wsX60, w ∈ vfX0_isAsTold := fun _ h => (List.mem_cons_of_mem _ (List.mem_append_right _ (List.mem_append_left _ h)))
theorem qfX0_isAsTold : Good vfX0_isAsTold := gd_cons (by decide +kernel) (gd_app (gd_dec (by decide +kernel) : Good [.fieldLink RX0 50 "HookPier$Plan" "bites" "I", .fieldLink RX0 37 "HookPier$Plan" "darkHunger" "I", .fieldLink RX0 53 "HookPier$Plan" "bite" "[I", .methodLink RX0 40 yX0_wouldBite, .static yX0_wouldBite, .initialized RX0, .fieldLink RX0 56 "HookPier$Plan" "bit" "[Z"]) (gd_app qsX6 qfX0_wouldBite))
theorem gfX0_isAsTold_0 : GoodIn vfX0_isAsTold (va_wsS RX0 40 yX0_wouldBite vfX0_wouldBite) := goodIn_app (goodIn_r [.methodLink RX0 40 yX0_wouldBite, .static yX0_wouldBite, .initialized RX0] [4, 5, 6] rfl (by decide +kernel)) (goodIn_m (fun _ h => (List.mem_cons_of_mem _ (List.mem_append_right _ (List.mem_append_right _ h)))) qfX0_wouldBite)
set_option maxHeartbeats 2000000 in
set_option maxRecDepth 100000 in
theorem kfX0_isAsTold (l : Launch) (dC : Nat → ClassId) (dI : Nat → Nat → Nat) (a0 : Nat) (k1 : Int32) (up : Nat → Nat) (kp : Nat → ClassId) (p_p : TX6_p) (sz : Nat) (out : Int32) (h : f_X0_isAsTold k1 p_p = some out) : KDi l yX0_isAsTold vfX0_isAsTold ({ frames := 2, cells := 0, slots := 0, locals := 44 }) (dC, dI) [.ref a0, .int k1] sz (bX6 a0 up kp p_p []) (tX6 kp ([])) (fun (r : Int32) _ => r = out ∧ (0 ≤ r.toInt ∧ r.toInt ≤ 1)) 0 0 := by
  refine Met.ofW (cc := cX0_isAsTold) (maxL := 3) (ret := (some .boolean)) (by decide) rfl ?_
  intro p e s m args below meth c s₁ B0 hml hv
  obtain ⟨rfl, hsz, hP, hK, hD0, hN⟩ := hv
  have hx := B0.exec
  have hb := B0.bytes
  have hr := B0.returns
  have hts := atoms_spec (ws := vfX0_isAsTold) B0.pre
  have hown : s.vm.findClass RX0 = some m.cls := findClass_of_methodNamed B0.named
  have hlocks := B0.notSynchronized
  subst hsz
  have hD := hD0.self (sz := s.heap.size)
  generalize hAe : va_A (bX6 a0 up kp p_p []) s.heap.size = A at hD ⊢
  have hA : ∀ q : Nat, s.heap.size ≤ q → A q := fun q h => by rw [← hAe]; exact Or.inr h
  have hS : va_S A s.heap s.heap [] := va_S.rf
  have hP : va_P (dC, dI) vwCl (bX6 a0 up kp p_p []) s.heap := hP
  have hl := lv_entry ([.ref a0, .int k1]) (n := 3) (Nat.le_of_ble_eq_true rfl)
  rw [lg_entry_eq]
  generalize (lg_sl ([.ref a0, .int k1]) ++ List.replicate (3 - (lg_sl ([.ref a0, .int k1])).length) Slot.unset).toArray = ls at hl ⊢
  have hl : lv_has ls 3 [(0, .ref a0), (1, .int k1)] := hl
  refine W_q (fun QQ hQQ => ?_)
  rw [f_X0_isAsTold] at h
  refine lv_iconst (v := 0) hx hb (zat zrX0_isAsTold_0_ok 0 rfl) (by decide) ?_
  refine lv_istore_n (lv' := [(2, .int 0), (0, .ref a0), (1, .int k1)]) hx hb (zat zrX0_isAsTold_0_ok 1 rfl) rfl hl (by decide) rfl (fun ls hl => ?_)
  have L2 : ∀ (n2 : Nat) (v2_l2 : Int32) (H : Heap) (locs : List Loc) (ls : Array Slot), f_X0_isAsTold_L2 k1 p_p n2 v2_l2 = some out → va_P (dC, dI) vwCl (bX6 a0 up kp p_p []) H → va_D A (bX6 a0 up kp p_p []) → va_S A s.heap H locs → lv_has ls 3 [(2, .int v2_l2), (0, .ref a0), (1, .int k1)] → W p l e (headSpec vfX0_isAsTold { frames := 2, cells := 0, slots := 0, locals := 44 }).room s m ([.ref a0, .int k1]).toArray below meth c H locs 0 0 QQ (F0 m 2 ls []) := by
    intro n2
    induction n2 with
    | zero =>
      intro v2_l2 H locs ls h  _ _ _ _
      rw [f_X0_isAsTold_L2] at h
      cases h
    | succ n2 ih2 =>
      intro v2_l2 H locs ls h  hP hD hS hl
      rw [f_X0_isAsTold_L2] at h
      refine lv_iload_n hx hb (zat zrX0_isAsTold_0_ok 2 rfl) rfl (lv_at hl 0 rfl) ?_
      refine lv_aload_n hx hb (zat zrX0_isAsTold_0_ok 3 rfl) rfl (lv_at hl 1 rfl) ?_
      refine va_get (D := (dC, dI)) (ci := 4) (v := .int p_p.2.2.2.2.2.2.2.1) (C := RX6) (T := TX6) (N := 18) hx hb hts ifX0_isAsTold_X6 hown hK hP 0 rfl rfl 7 (by decide) (hts (.fieldLink RX0 50 "HookPier$Plan" "bites" "I") (List.mem_of_getElem? (i := 1) rfl)) (fun _ h9 => h9) rfl (zat zrX0_isAsTold_0_ok 4 rfl) ?_
      refine lv_icmp_ge (tgt := 41) hx hb (zat zrX0_isAsTold_0_ok 5 rfl) (by decide) (fun c7 => ?_) (fun c7 => ?_)
      · have h := (if_pos c7).symm.trans h
        refine lv_iconst (v := 1) hx hb (zat zrX0_isAsTold_0_ok 23 rfl) (by decide) ?_
        obtain rfl := Option.some.inj h
        obtain ⟨hP9, hD9⟩ := pd_sub (bX6 a0 up kp p_p []) [0, 1, 2, 3, 4, 5, 6, 7, 8, 9] hP hD (by decide) rfl
        have hK9 := hK.sub (tys' := []) [] rfl
        rw [hQQ]
        exact W.zret (v := (1 : Int32)) hx hb hr rfl (fun t ht hW => ⟨⟨(1 : Int32), (), rfl, ⟨rfl, (by decide)⟩, by rw [ht]; exact hP9, va_K.moved hW.alike hK9, hD9⟩, hS.F ht⟩) hS.2.2 (zat zrX0_isAsTold_0_ok 24 rfl)
      · have h := (if_neg c7).symm.trans h
        refine lv_aload_n hx hb (zat zrX0_isAsTold_0_ok 6 rfl) rfl (lv_at hl 1 rfl) ?_
        refine va_get (D := (dC, dI)) (ci := 4) (v := .int p_p.2.2.2.2.2.2.2.2.1) (C := RX6) (T := TX6) (N := 18) hx hb hts ifX0_isAsTold_X6 hown hK hP 0 rfl rfl 8 (by decide) (hts (.fieldLink RX0 37 "HookPier$Plan" "darkHunger" "I") (List.mem_of_getElem? (i := 2) rfl)) (fun _ h9 => h9) rfl (zat zrX0_isAsTold_0_ok 7 rfl) ?_
        refine lv_iload_n hx hb (zat zrX0_isAsTold_0_ok 8 rfl) rfl (lv_at hl 2 rfl) ?_
        refine lv_aload_n hx hb (zat zrX0_isAsTold_0_ok 9 rfl) rfl (lv_at hl 1 rfl) ?_
        refine va_get (D := (dC, dI)) (ci := 4) (v := .ref (up 7)) (C := RX6) (T := TX6) (N := 18) hx hb hts ifX0_isAsTold_X6 hown hK hP 0 rfl rfl 16 (by decide) (hts (.fieldLink RX0 53 "HookPier$Plan" "bite" "[I") (List.mem_of_getElem? (i := 3) rfl)) (fun _ h9 => h9) rfl (zat zrX0_isAsTold_0_ok 10 rfl) ?_
        refine lv_iload_n hx hb (zat zrX0_isAsTold_0_ok 11 rfl) rfl (lv_at hl 0 rfl) ?_
        obtain ⟨hg20, h⟩ := gA_of h
        refine va_iald hx hb hK hP 8 7 rfl rfl hg20 (zat zrX0_isAsTold_0_ok 12 rfl) ?_
        refine lv_topi (fun z20 ez20 => ?_)
        have h := nm_of h z20 ez20
        obtain ⟨o21, eo21⟩ : ∃ o, o = f_X0_wouldBite p_p.2.2.2.2.2.2.2.2.1 k1 z20 := ⟨_, rfl⟩
        have h := nm_of h o21 eo21
        refine ck_i (wc := []) (wr := (bX6 a0 up kp p_p [])) hP hD hK hS hA [] [0, 1, 2, 3, 4, 5, 6, 7, 8, 9] rfl rfl (by decide) (by decide) (by decide) (fun hPc hDc => (va_runS (As := [.int p_p.2.2.2.2.2.2.2.2.1, .int k1, .int z20]) (rest := []) ⟨hx, hb, hml, hown, hts⟩ (kfX0_wouldBite l dC dI p_p.2.2.2.2.2.2.2.2.1 k1 z20 H.size o21 eo21.symm) (va_cwS 3 hts gfX0_isAsTold_0 rfl rfl rfl (by decide +kernel) ⟨(Nat.le_of_ble_eq_true rfl), (Nat.le_of_ble_eq_true rfl)⟩) (PS hPc (hK.sub (tys' := ([])) [] rfl) hDc hN) rfl rfl hl.1 rfl (lv_room (Nat.le_of_ble_eq_true rfl)) (zat zrX0_isAsTold_0_ok 13 rfl) ⟨(Nat.le_of_ble_eq_true rfl), (Nat.le_of_ble_eq_true rfl)⟩)) (fun r21 _ H locs hw hP hD _ hS => ?_)
        obtain ⟨hw, br21⟩ := hw
        obtain rfl := hw.symm
        obtain ⟨hP, hD⟩ := pd_mk (bX6 a0 up kp p_p []) hP hD
        refine lv_aload_n hx hb (zat zrX0_isAsTold_0_ok 14 rfl) rfl (lv_at hl 1 rfl) ?_
        refine va_get (D := (dC, dI)) (ci := 4) (v := .ref (up 8)) (C := RX6) (T := TX6) (N := 18) hx hb hts ifX0_isAsTold_X6 hown hK hP 0 rfl rfl 17 (by decide) (hts (.fieldLink RX0 56 "HookPier$Plan" "bit" "[Z") (List.mem_of_getElem? (i := 7) rfl)) (fun _ h9 => h9) rfl (zat zrX0_isAsTold_0_ok 15 rfl) ?_
        refine lv_iload_n hx hb (zat zrX0_isAsTold_0_ok 16 rfl) rfl (lv_at hl 0 rfl) ?_
        obtain ⟨hg29, h⟩ := gA_of h
        refine va_zald hx hb hK hP 9 8 rfl rfl hg29 (zat zrX0_isAsTold_0_ok 17 rfl) ?_
        refine lv_topi (fun z29 ez29 => ?_)
        have h := nm_of h z29 ez29
        refine lv_icmp_eq (tgt := 35) hx hb (zat zrX0_isAsTold_0_ok 18 rfl) (by decide) (fun c30 => ?_) (fun c30 => ?_)
        · have h := (if_pos c30).symm.trans h
          refine lv_iinc (v := (v2_l2 + (1 : Int32))) (lv' := [(2, .int (v2_l2 + (1 : Int32))), (0, .ref a0), (1, .int k1)]) hx hb (zat zrX0_isAsTold_0_ok 21 rfl) hl (k := 0) rfl rfl (by decide) rfl (fun ls hl => ?_)
          refine lv_goto (tgt := 2) hx hb (zat zrX0_isAsTold_0_ok 22 rfl) (by decide) ?_
          exact ih2 (v2_l2 + (1 : Int32)) H _ ls h  hP hD hS (lv_sub hl [0, 1, 2] rfl)
        · have h := (if_neg c30).symm.trans h
          refine lv_iconst (v := 0) hx hb (zat zrX0_isAsTold_0_ok 19 rfl) (by decide) ?_
          obtain rfl := Option.some.inj h
          obtain ⟨hP9, hD9⟩ := pd_sub (bX6 a0 up kp p_p []) [0, 1, 2, 3, 4, 5, 6, 7, 8, 9] hP hD (by decide) rfl
          have hK9 := hK.sub (tys' := []) [] rfl
          rw [hQQ]
          exact W.zret (v := (0 : Int32)) hx hb hr rfl (fun t ht hW => ⟨⟨(0 : Int32), (), rfl, ⟨rfl, (by decide)⟩, by rw [ht]; exact hP9, va_K.moved hW.alike hK9, hD9⟩, hS.F ht⟩) hS.2.2 (zat zrX0_isAsTold_0_ok 20 rfl)
  exact L2 FU (0 : Int32) s.heap _ ls h  hP hD hS (lv_sub hl [0, 1, 2] rfl)
noncomputable def zrX0_find_0 : List ZR := zc 0 true (.aload_n 0) 1 (zc 1 true (.iconst 0) 1 (zc 2 true (.putfield 15) 3 (zc 5 true (.iconst 0) 1 (zc 6 true (.istore_n 2) 1 (zc 7 true (.iload_n 2) 1 (zc 8 true (.aload_n 1) 1 (zc 9 true (.invokevirtual 19) 3 (zc 12 true (.if_icmp .ge 57) 3 (zc 15 true (.aload_n 1) 1 (zc 16 true (.iload_n 2) 1 (zc 17 true (.invokevirtual 25) 3 (zc 20 true (.ifCond .eq 43) 3 (zc 23 true (.aload_n 1) 1 (zc 24 true (.iload_n 2) 1 (zc 25 true (.invokestatic 29) 3 (zc 28 true (.ifCond .eq 35) 3 (zc 31 true (.aload_n 0) 1 (zc 32 true (.getfield 15) 3 (zc 35 true (.aload_n 0) 1 (zc 36 true (.getfield 11) 3 (zc 39 true (.arraylength) 1 (zc 40 true (.if_icmp .ge 23) 3 (zc 43 true (.aload_n 0) 1 (zc 44 true (.getfield 11) 3 (zc 47 true (.aload_n 0) 1 (zc 48 true (.getfield 15) 3 (zc 51 true (.iload_n 2) 1 (zc 52 true (.iastore) 1 (zc 53 true (.aload_n 0) 1 (zc 54 true (.dup) 1 (zc 55 true (.getfield 15) 3 (zc 58 true (.iconst 1) 1 (zc 59 true (.iadd) 1 (zc 60 true (.putfield 15) 3 (zc 63 true (.iinc 2 1) 3 (zc 66 true (.goto (-59)) 3 (zc 69 true (.return_) 1 ([]))))))))))))))))))))))))))))))))))))))
theorem zrX0_find_0_ok : zck 0 ((zby cX0_find).drop 0) zrX0_find_0 = true := by decide +kernel
def vfX0_find : List Cond := List.cons (.code yX0_find cX0_find 3 none) (apW [.fieldLink RX0 15 "HookPier$Dark" "many" "I", .methodLink RX0 19 yX6_questionBound, .instanceMethod yX6_questionBound, .selects RX6 yX6_questionBound yX6_questionBound, .initialized RX6, .methodLink RX0 25 yX6_hasQuestion, .instanceMethod yX6_hasQuestion, .selects RX6 yX6_hasQuestion yX6_hasQuestion, .methodLink RX0 29 yX0_isAsTold, .static yX0_isAsTold, .initialized RX0, .fieldLink RX0 11 "HookPier$Dark" "place" "[I"] (apW wsX00 (apW vfX6_questionBound (apW vfX6_hasQuestion (vfX0_isAsTold)))))
theorem ifX0_find_X0 : ∀ w ∈ wsX00, w ∈ vfX0_find := fun _ h => (List.mem_cons_of_mem _ (List.mem_append_right _ (List.mem_append_left _ h)))
theorem qfX0_find : Good vfX0_find := gd_cons (by decide +kernel) (gd_app (gd_dec (by decide +kernel) : Good [.fieldLink RX0 15 "HookPier$Dark" "many" "I", .methodLink RX0 19 yX6_questionBound, .instanceMethod yX6_questionBound, .selects RX6 yX6_questionBound yX6_questionBound, .initialized RX6, .methodLink RX0 25 yX6_hasQuestion, .instanceMethod yX6_hasQuestion, .selects RX6 yX6_hasQuestion yX6_hasQuestion, .methodLink RX0 29 yX0_isAsTold, .static yX0_isAsTold, .initialized RX0, .fieldLink RX0 11 "HookPier$Dark" "place" "[I"]) (gd_app qsX0 (gd_app qfX6_questionBound (gd_app qfX6_hasQuestion qfX0_isAsTold))))
theorem gfX0_find_0 : GoodIn vfX0_find (wsV RX0 19 RX6 yX6_questionBound vfX6_questionBound) := goodIn_app (goodIn_r [.methodLink RX0 19 yX6_questionBound, .instanceMethod yX6_questionBound, .selects RX6 yX6_questionBound yX6_questionBound, .initialized RX6] [2, 3, 4, 5] rfl (by decide +kernel)) (goodIn_m (fun _ h => (List.mem_cons_of_mem _ (List.mem_append_right _ (List.mem_append_right _ (List.mem_append_left _ h))))) qfX6_questionBound)
theorem gfX0_find_1 : GoodIn vfX0_find (wsV RX0 25 RX6 yX6_hasQuestion vfX6_hasQuestion) := goodIn_app (goodIn_r [.methodLink RX0 25 yX6_hasQuestion, .instanceMethod yX6_hasQuestion, .selects RX6 yX6_hasQuestion yX6_hasQuestion, .initialized RX6] [6, 7, 8, 5] rfl (by decide +kernel)) (goodIn_m (fun _ h => (List.mem_cons_of_mem _ (List.mem_append_right _ (List.mem_append_right _ (List.mem_append_right _ (List.mem_append_left _ h)))))) qfX6_hasQuestion)
theorem gfX0_find_2 : GoodIn vfX0_find (va_wsS RX0 29 yX0_isAsTold vfX0_isAsTold) := goodIn_app (goodIn_r [.methodLink RX0 29 yX0_isAsTold, .static yX0_isAsTold, .initialized RX0] [9, 10, 11] rfl (by decide +kernel)) (goodIn_m (fun _ h => (List.mem_cons_of_mem _ (List.mem_append_right _ (List.mem_append_right _ (List.mem_append_right _ (List.mem_append_right _ h)))))) qfX0_isAsTold)
set_option maxHeartbeats 2000000 in
set_option maxRecDepth 100000 in
theorem kfX0_find (l : Launch) (dC : Nat → ClassId) (dI : Nat → Nat → Nat) (a0 : Nat) (a1 : Nat) (ud : Nat → Nat) (kd : Nat → ClassId) (up : Nat → Nat) (kp : Nat → ClassId) (d_d : TX0_d) (p_p : TX6_p) (sz : Nat) (out : TX0_d) (h : f_X0_find d_d p_p = some out) : KCv l yX0_find vfX0_find ({ frames := 3, cells := 0, slots := 0, locals := 66 }) (dC, dI) [.ref a0, .ref a1] sz (bX0 a0 ud kd d_d (bX6 a1 up kp p_p [])) (tX0 kd (tX6 kp ([]))) (fun _ => True) (bX0 a0 ud kd out (bX6 a1 up kp p_p [])) 0 0 := by
  refine Met.ofW (cc := cX0_find) (maxL := 3) (ret := none) (by decide) rfl ?_
  intro p e s m args below meth c s₁ B0 hml hv
  obtain ⟨rfl, hsz, hP, hK, hD0, hN⟩ := hv
  have hx := B0.exec
  have hb := B0.bytes
  have hr := B0.returns
  have hts := atoms_spec (ws := vfX0_find) B0.pre
  have hown : s.vm.findClass RX0 = some m.cls := findClass_of_methodNamed B0.named
  have hlocks := B0.notSynchronized
  subst hsz
  have hD := hD0.self (sz := s.heap.size)
  generalize hAe : va_A (bX0 a0 ud kd d_d (bX6 a1 up kp p_p [])) s.heap.size = A at hD ⊢
  have hA : ∀ q : Nat, s.heap.size ≤ q → A q := fun q h => by rw [← hAe]; exact Or.inr h
  have hS : va_S A s.heap s.heap [] := va_S.rf
  have hP : va_P (dC, dI) vwCl (bX0 a0 ud kd d_d (bX6 a1 up kp p_p [])) s.heap := hP
  have hl := lv_entry ([.ref a0, .ref a1]) (n := 3) (Nat.le_of_ble_eq_true rfl)
  rw [lg_entry_eq]
  generalize (lg_sl ([.ref a0, .ref a1]) ++ List.replicate (3 - (lg_sl ([.ref a0, .ref a1])).length) Slot.unset).toArray = ls at hl ⊢
  have hl : lv_has ls 3 [(0, .ref a0), (1, .ref a1)] := hl
  refine W_q (fun QQ hQQ => ?_)
  rw [f_X0_find] at h
  refine lv_aload_n hx hb (zat zrX0_find_0_ok 0 rfl) rfl (lv_at hl 0 rfl) ?_
  refine lv_iconst (v := 0) hx hb (zat zrX0_find_0_ok 1 rfl) (by decide) ?_
  refine va_put (D := (dC, dI)) (ci := 0) (v := .int 0) (ty := .int) (C := RX0) (T := TX0) (N := 2) hx hb hts ifX0_find_X0 tyX0 tyX0_ok nmX0 hown hK hP hD hS 0 rfl rfl 1 (by decide) (hts (.fieldLink RX0 15 "HookPier$Dark" "many" "I") (List.mem_of_getElem? (i := 1) rfl)) (fun _ h9 => h9) rfl (by decide +kernel) rfl rfl (Nat.le_of_ble_eq_true rfl) (zat zrX0_find_0_ok 2 rfl) (fun H locs hP hD hS => ?_)
  obtain ⟨hP, hD⟩ := pd_mk (bX0 a0 ud kd (d_d.1, (0 : Int32)) (bX6 a1 up kp p_p [])) hP hD
  refine lv_iconst (v := 0) hx hb (zat zrX0_find_0_ok 3 rfl) (by decide) ?_
  refine lv_istore_n (lv' := [(2, .int 0), (0, .ref a0), (1, .ref a1)]) hx hb (zat zrX0_find_0_ok 4 rfl) rfl hl (by decide) rfl (fun ls hl => ?_)
  have L7 : ∀ (n7 : Nat) (v7_l2 : Int32) (v7_d_d : TX0_d) (H : Heap) (locs : List Loc) (ls : Array Slot), f_X0_find_L7 p_p n7 v7_l2 v7_d_d = some out → va_P (dC, dI) vwCl (bX0 a0 ud kd v7_d_d (bX6 a1 up kp p_p [])) H → va_D A (bX0 a0 ud kd v7_d_d (bX6 a1 up kp p_p [])) → va_S A s.heap H locs → lv_has ls 3 [(2, .int v7_l2), (0, .ref a0), (1, .ref a1)] → W p l e (headSpec vfX0_find { frames := 3, cells := 0, slots := 0, locals := 66 }).room s m ([.ref a0, .ref a1]).toArray below meth c H locs 0 0 QQ (F0 m 7 ls []) := by
    intro n7
    induction n7 with
    | zero =>
      intro v7_l2 v7_d_d H locs ls h  _ _ _ _
      rw [f_X0_find_L7] at h
      cases h
    | succ n7 ih7 =>
      intro v7_l2 v7_d_d H locs ls h  hP hD hS hl
      rw [f_X0_find_L7] at h
      refine lv_iload_n hx hb (zat zrX0_find_0_ok 5 rfl) rfl (lv_at hl 0 rfl) ?_
      refine lv_aload_n hx hb (zat zrX0_find_0_ok 6 rfl) rfl (lv_at hl 2 rfl) ?_
      obtain ⟨o9, eo9⟩ : ∃ o, o = f_X6_questionBound p_p := ⟨_, rfl⟩
      have h := nm_of h o9 eo9
      refine ck_i (wc := (bX6 a1 up kp p_p [])) (wr := (bX0 a0 ud kd v7_d_d [])) hP hD hK hS hA [2, 3, 4, 5, 6, 7, 8, 9, 10, 11] [0, 1] rfl rfl (by decide) (by decide) (by decide) (fun hPc hDc => (va_runV (As := []) (rest := [.int v7_l2]) ⟨hx, hb, hml, hown, hts⟩ (kfX6_questionBound l dC dI a1 up kp p_p H.size o9 eo9.symm) (cwV 0 hts gfX0_find_0 rfl rfl rfl (by decide +kernel) ⟨(Nat.le_of_ble_eq_true rfl), (Nat.le_of_ble_eq_true rfl)⟩) (PV hPc (hK.sub (tys' := (tX6 kp ([]))) [1, 2, 3, 4, 5, 6, 7, 8, 9] rfl) hDc hN 0 rfl rfl) rfl rfl hl.1 rfl (lv_room (Nat.le_of_ble_eq_true rfl)) (zat zrX0_find_0_ok 7 rfl) ⟨(Nat.le_of_ble_eq_true rfl), (Nat.le_of_ble_eq_true rfl)⟩)) (fun r9 _ H locs hw hP hD _ hS => ?_)
      obtain rfl := hw.symm
      obtain ⟨hP, hD⟩ := pd_mk (bX0 a0 ud kd v7_d_d (bX6 a1 up kp p_p [])) hP hD
      refine lv_icmp_ge (tgt := 69) hx hb (zat zrX0_find_0_ok 8 rfl) (by decide) (fun c12 => ?_) (fun c12 => ?_)
      · have h := (if_pos c12).symm.trans h
        obtain rfl := Option.some.inj h
        obtain ⟨hP9, hD9⟩ := pd_sub (bX0 a0 ud kd v7_d_d (bX6 a1 up kp p_p [])) [0, 1, 2, 3, 4, 5, 6, 7, 8, 9, 10, 11] hP hD (by decide) rfl
        have hK9 := hK.sub (tys' := []) [] rfl
        rw [hQQ]
        exact W.vret hx hb hr (fun t ht hW => ⟨⟨(), rfl, trivial, by rw [ht]; exact hP9, va_K.moved hW.alike hK9, hD9⟩, hS.F ht⟩) hS.2.2 (zat zrX0_find_0_ok 37 rfl)
      · have h := (if_neg c12).symm.trans h
        refine lv_aload_n hx hb (zat zrX0_find_0_ok 9 rfl) rfl (lv_at hl 2 rfl) ?_
        refine lv_iload_n hx hb (zat zrX0_find_0_ok 10 rfl) rfl (lv_at hl 0 rfl) ?_
        obtain ⟨o17, eo17⟩ : ∃ o, o = f_X6_hasQuestion v7_l2 p_p := ⟨_, rfl⟩
        have h := nm_of h o17 eo17
        refine ck_i (wc := (bX6 a1 up kp p_p [])) (wr := (bX0 a0 ud kd v7_d_d [])) hP hD hK hS hA [2, 3, 4, 5, 6, 7, 8, 9, 10, 11] [0, 1] rfl rfl (by decide) (by decide) (by decide) (fun hPc hDc => (va_runV (As := [.int v7_l2]) (rest := []) ⟨hx, hb, hml, hown, hts⟩ (kfX6_hasQuestion l dC dI a1 v7_l2 up kp p_p H.size o17 eo17.symm) (cwV 1 hts gfX0_find_1 rfl rfl rfl (by decide +kernel) ⟨(Nat.le_of_ble_eq_true rfl), (Nat.le_of_ble_eq_true rfl)⟩) (PV hPc (hK.sub (tys' := (tX6 kp ([]))) [1, 2, 3, 4, 5, 6, 7, 8, 9] rfl) hDc hN 0 rfl rfl) rfl rfl hl.1 rfl (lv_room (Nat.le_of_ble_eq_true rfl)) (zat zrX0_find_0_ok 11 rfl) ⟨(Nat.le_of_ble_eq_true rfl), (Nat.le_of_ble_eq_true rfl)⟩)) (fun r17 _ H locs hw hP hD _ hS => ?_)
        obtain ⟨hw, br17⟩ := hw
        obtain rfl := hw.symm
        obtain ⟨hP, hD⟩ := pd_mk (bX0 a0 ud kd v7_d_d (bX6 a1 up kp p_p [])) hP hD
        have J63 : ∀ (v63_d_d : TX0_d) (H : Heap) (locs : List Loc) (ls : Array Slot), f_X0_find_J63 (f_X0_find_L7 p_p n7) v7_l2 v63_d_d = some out → va_P (dC, dI) vwCl (bX0 a0 ud kd v63_d_d (bX6 a1 up kp p_p [])) H → va_D A (bX0 a0 ud kd v63_d_d (bX6 a1 up kp p_p [])) → va_S A s.heap H locs → lv_has ls 3 [(2, .int v7_l2), (0, .ref a0), (1, .ref a1)] → W p l e (headSpec vfX0_find { frames := 3, cells := 0, slots := 0, locals := 66 }).room s m ([.ref a0, .ref a1]).toArray below meth c H locs 0 0 QQ (F0 m 63 ls []) := by
          intro v63_d_d H locs ls h  hP hD hS hl
          rw [f_X0_find_J63] at h
          refine lv_iinc (v := (v7_l2 + (1 : Int32))) (lv' := [(2, .int (v7_l2 + (1 : Int32))), (0, .ref a0), (1, .ref a1)]) hx hb (zat zrX0_find_0_ok 35 rfl) hl (k := 0) rfl rfl (by decide) rfl (fun ls hl => ?_)
          refine lv_goto (tgt := 7) hx hb (zat zrX0_find_0_ok 36 rfl) (by decide) ?_
          exact ih7 (v7_l2 + (1 : Int32)) v63_d_d H _ ls h  hP hD hS (lv_sub hl [0, 1, 2] rfl)
        refine lv_if_eq (tgt := 63) hx hb (zat zrX0_find_0_ok 12 rfl) (by decide) (fun c20 => ?_) (fun c20 => ?_)
        · have h := (if_pos c20).symm.trans h
          exact J63 v7_d_d H _ ls h  hP hD hS (lv_sub hl [0, 1, 2] rfl)
        · have h := (if_neg c20).symm.trans h
          refine lv_aload_n hx hb (zat zrX0_find_0_ok 13 rfl) rfl (lv_at hl 2 rfl) ?_
          refine lv_iload_n hx hb (zat zrX0_find_0_ok 14 rfl) rfl (lv_at hl 0 rfl) ?_
          obtain ⟨o25, eo25, h⟩ := bd_of h
          refine ck_i (wc := (bX6 a1 up kp p_p [])) (wr := (bX0 a0 ud kd v7_d_d [])) hP hD hK hS hA [2, 3, 4, 5, 6, 7, 8, 9, 10, 11] [0, 1] rfl rfl (by decide) (by decide) (by decide) (fun hPc hDc => (va_runS (As := [.ref a1, .int v7_l2]) (rest := []) ⟨hx, hb, hml, hown, hts⟩ (kfX0_isAsTold l dC dI a1 v7_l2 up kp p_p H.size o25 eo25) (va_cwS 2 hts gfX0_find_2 rfl rfl rfl (by decide +kernel) ⟨(Nat.le_of_ble_eq_true rfl), (Nat.le_of_ble_eq_true rfl)⟩) (PS hPc (hK.sub (tys' := (tX6 kp ([]))) [1, 2, 3, 4, 5, 6, 7, 8, 9] rfl) hDc hN) rfl rfl hl.1 rfl (lv_room (Nat.le_of_ble_eq_true rfl)) (zat zrX0_find_0_ok 15 rfl) ⟨(Nat.le_of_ble_eq_true rfl), (Nat.le_of_ble_eq_true rfl)⟩)) (fun r25 _ H locs hw hP hD _ hS => ?_)
          obtain ⟨hw, br25⟩ := hw
          obtain rfl := hw.symm
          obtain ⟨hP, hD⟩ := pd_mk (bX0 a0 ud kd v7_d_d (bX6 a1 up kp p_p [])) hP hD
          refine lv_if_eq (tgt := 63) hx hb (zat zrX0_find_0_ok 16 rfl) (by decide) (fun c28 => ?_) (fun c28 => ?_)
          · have h := (if_pos c28).symm.trans h
            exact J63 v7_d_d H _ ls h  hP hD hS (lv_sub hl [0, 1, 2] rfl)
          · have h := (if_neg c28).symm.trans h
            refine lv_aload_n hx hb (zat zrX0_find_0_ok 17 rfl) rfl (lv_at hl 1 rfl) ?_
            refine va_get (D := (dC, dI)) (ci := 0) (v := .int v7_d_d.2) (C := RX0) (T := TX0) (N := 2) hx hb hts ifX0_find_X0 hown hK hP 0 rfl rfl 1 (by decide) (hts (.fieldLink RX0 15 "HookPier$Dark" "many" "I") (List.mem_of_getElem? (i := 1) rfl)) (fun _ h9 => h9) rfl (zat zrX0_find_0_ok 18 rfl) ?_
            refine lv_aload_n hx hb (zat zrX0_find_0_ok 19 rfl) rfl (lv_at hl 1 rfl) ?_
            refine va_get (D := (dC, dI)) (ci := 0) (v := .ref (ud 0)) (C := RX0) (T := TX0) (N := 2) hx hb hts ifX0_find_X0 hown hK hP 0 rfl rfl 0 (by decide) (hts (.fieldLink RX0 11 "HookPier$Dark" "place" "[I") (List.mem_of_getElem? (i := 12) rfl)) (fun _ h9 => h9) rfl (zat zrX0_find_0_ok 20 rfl) ?_
            refine va_alen (v := 288) hx hb hK hP 1 0 rfl rfl rfl (zat zrX0_find_0_ok 21 rfl) ?_
            refine lv_icmp_ge (tgt := 63) hx hb (zat zrX0_find_0_ok 22 rfl) (by decide) (fun c40 => ?_) (fun c40 => ?_)
            · have h := (if_pos c40).symm.trans h
              exact J63 v7_d_d H _ ls h  hP hD hS (lv_sub hl [0, 1, 2] rfl)
            · have h := (if_neg c40).symm.trans h
              refine lv_aload_n hx hb (zat zrX0_find_0_ok 23 rfl) rfl (lv_at hl 1 rfl) ?_
              refine va_get (D := (dC, dI)) (ci := 0) (v := .ref (ud 0)) (C := RX0) (T := TX0) (N := 2) hx hb hts ifX0_find_X0 hown hK hP 0 rfl rfl 0 (by decide) (hts (.fieldLink RX0 11 "HookPier$Dark" "place" "[I") (List.mem_of_getElem? (i := 12) rfl)) (fun _ h9 => h9) rfl (zat zrX0_find_0_ok 24 rfl) ?_
              refine lv_aload_n hx hb (zat zrX0_find_0_ok 25 rfl) rfl (lv_at hl 1 rfl) ?_
              refine va_get (D := (dC, dI)) (ci := 0) (v := .int v7_d_d.2) (C := RX0) (T := TX0) (N := 2) hx hb hts ifX0_find_X0 hown hK hP 0 rfl rfl 1 (by decide) (hts (.fieldLink RX0 15 "HookPier$Dark" "many" "I") (List.mem_of_getElem? (i := 1) rfl)) (fun _ h9 => h9) rfl (zat zrX0_find_0_ok 26 rfl) ?_
              refine lv_iload_n hx hb (zat zrX0_find_0_ok 27 rfl) rfl (lv_at hl 0 rfl) ?_
              obtain ⟨hg52, h⟩ := gA_of h
              refine va_iast hx hb hK hP hD hS 1 0 rfl rfl hg52 (zat zrX0_find_0_ok 28 rfl) (fun H locs hP hD hS => ?_)
              obtain ⟨hP, hD⟩ := pd_mk (bX0 a0 ud kd ((upd v7_d_d.1 (v7_d_d.2).toNatClampNeg v7_l2), v7_d_d.2) (bX6 a1 up kp p_p [])) hP hD
              refine lv_aload_n hx hb (zat zrX0_find_0_ok 29 rfl) rfl (lv_at hl 1 rfl) ?_
              refine lv_dup hx hb (zat zrX0_find_0_ok 30 rfl) rfl ?_
              refine va_get (D := (dC, dI)) (ci := 0) (v := .int v7_d_d.2) (C := RX0) (T := TX0) (N := 2) hx hb hts ifX0_find_X0 hown hK hP 0 rfl rfl 1 (by decide) (hts (.fieldLink RX0 15 "HookPier$Dark" "many" "I") (List.mem_of_getElem? (i := 1) rfl)) (fun _ h9 => h9) rfl (zat zrX0_find_0_ok 31 rfl) ?_
              refine lv_iconst (v := 1) hx hb (zat zrX0_find_0_ok 32 rfl) (by decide) ?_
              refine lv_iadd hx hb (zat zrX0_find_0_ok 33 rfl) ?_
              refine va_put (D := (dC, dI)) (ci := 0) (v := .int (v7_d_d.2 + (1 : Int32))) (ty := .int) (C := RX0) (T := TX0) (N := 2) hx hb hts ifX0_find_X0 tyX0 tyX0_ok nmX0 hown hK hP hD hS 0 rfl rfl 1 (by decide) (hts (.fieldLink RX0 15 "HookPier$Dark" "many" "I") (List.mem_of_getElem? (i := 1) rfl)) (fun _ h9 => h9) rfl (by decide +kernel) rfl rfl (Nat.le_of_ble_eq_true rfl) (zat zrX0_find_0_ok 34 rfl) (fun H locs hP hD hS => ?_)
              obtain ⟨hP, hD⟩ := pd_mk (bX0 a0 ud kd ((upd v7_d_d.1 (v7_d_d.2).toNatClampNeg v7_l2), (v7_d_d.2 + (1 : Int32))) (bX6 a1 up kp p_p [])) hP hD
              exact J63 ((upd v7_d_d.1 (v7_d_d.2).toNatClampNeg v7_l2), (v7_d_d.2 + (1 : Int32))) H _ ls h  hP hD hS (lv_sub hl [0, 1, 2] rfl)
  exact L7 FU (0 : Int32) (d_d.1, (0 : Int32)) H _ ls h  hP hD hS (lv_sub hl [0, 1, 2] rfl)
noncomputable def zrX10_darks_0 : List ZR := zc 0 true (.aload_n 0) 1 (zc 1 true (.aload_n 0) 1 (zc 2 true (.invokevirtual 264) 3 (zc 5 true (.invokevirtual 79) 3 (zc 8 true (.ifCond .eq 5) 3 (zc 11 true (.iconst (-1)) 1 (zc 12 true (.ireturn) 1 (zc 13 true (.aload_n 0) 1 (zc 14 true (.getfield 50) 3 (zc 17 true (.aload_n 0) 1 (zc 18 true (.getfield 10) 3 (zc 21 true (.invokevirtual 267) 3 (zc 24 true (.aload_n 0) 1 (zc 25 true (.getfield 50) 3 (zc 28 true (.getfield 271) 3 (zc 31 true (.ireturn) 1 ([]))))))))))))))))
theorem zrX10_darks_0_ok : zck 0 ((zby cX10_darks).drop 0) zrX10_darks_0 = true := by decide +kernel
def vfX10_darks : List Cond := List.cons (.code yX10_darks cX10_darks 1 (some .int)) (apW [.methodLink RX10 264 yX10_darkTrouble, .instanceMethod yX10_darkTrouble, .selects RX10 yX10_darkTrouble yX10_darkTrouble, .initialized RX10, .methodLink RX10 79 yX10_refused, .instanceMethod yX10_refused, .selects RX10 yX10_refused yX10_refused, .fieldLink RX10 50 "HookPier" "dark" "LHookPier$Dark;", .fieldLink RX10 10 "HookPier" "plan" "LHookPier$Plan;", .methodLink RX10 267 yX0_find, .instanceMethod yX0_find, .selects RX0 yX0_find yX0_find, .initialized RX0, .fieldLink RX10 271 "HookPier$Dark" "many" "I"] (apW wsX100 (apW wsX00 (apW vfX10_darkTrouble (apW vfX10_refused (vfX0_find))))))
theorem ifX10_darks_X10 : ∀ w ∈ wsX100, w ∈ vfX10_darks := fun _ h => (List.mem_cons_of_mem _ (List.mem_append_right _ (List.mem_append_left _ h)))
theorem ifX10_darks_X0 : ∀ w ∈ wsX00, w ∈ vfX10_darks := fun _ h => (List.mem_cons_of_mem _ (List.mem_append_right _ (List.mem_append_right _ (List.mem_append_left _ h))))
theorem qfX10_darks : Good vfX10_darks := gd_cons (by decide +kernel) (gd_app (gd_dec (by decide +kernel) : Good [.methodLink RX10 264 yX10_darkTrouble, .instanceMethod yX10_darkTrouble, .selects RX10 yX10_darkTrouble yX10_darkTrouble, .initialized RX10, .methodLink RX10 79 yX10_refused, .instanceMethod yX10_refused, .selects RX10 yX10_refused yX10_refused, .fieldLink RX10 50 "HookPier" "dark" "LHookPier$Dark;", .fieldLink RX10 10 "HookPier" "plan" "LHookPier$Plan;", .methodLink RX10 267 yX0_find, .instanceMethod yX0_find, .selects RX0 yX0_find yX0_find, .initialized RX0, .fieldLink RX10 271 "HookPier$Dark" "many" "I"]) (gd_app qsX10 (gd_app qsX0 (gd_app qfX10_darkTrouble (gd_app qfX10_refused qfX0_find)))))
theorem gfX10_darks_0 : GoodIn vfX10_darks (wsV RX10 264 RX10 yX10_darkTrouble vfX10_darkTrouble) := goodIn_app (goodIn_r [.methodLink RX10 264 yX10_darkTrouble, .instanceMethod yX10_darkTrouble, .selects RX10 yX10_darkTrouble yX10_darkTrouble, .initialized RX10] [1, 2, 3, 4] rfl (by decide +kernel)) (goodIn_m (fun _ h => (List.mem_cons_of_mem _ (List.mem_append_right _ (List.mem_append_right _ (List.mem_append_right _ (List.mem_append_left _ h)))))) qfX10_darkTrouble)
theorem gfX10_darks_1 : GoodIn vfX10_darks (wsV RX10 79 RX10 yX10_refused vfX10_refused) := goodIn_app (goodIn_r [.methodLink RX10 79 yX10_refused, .instanceMethod yX10_refused, .selects RX10 yX10_refused yX10_refused, .initialized RX10] [5, 6, 7, 4] rfl (by decide +kernel)) (goodIn_m (fun _ h => (List.mem_cons_of_mem _ (List.mem_append_right _ (List.mem_append_right _ (List.mem_append_right _ (List.mem_append_right _ (List.mem_append_left _ h))))))) qfX10_refused)
theorem gfX10_darks_2 : GoodIn vfX10_darks (wsV RX10 267 RX0 yX0_find vfX0_find) := goodIn_app (goodIn_r [.methodLink RX10 267 yX0_find, .instanceMethod yX0_find, .selects RX0 yX0_find yX0_find, .initialized RX0] [10, 11, 12, 13] rfl (by decide +kernel)) (goodIn_m (fun _ h => (List.mem_cons_of_mem _ (List.mem_append_right _ (List.mem_append_right _ (List.mem_append_right _ (List.mem_append_right _ (List.mem_append_right _ h))))))) qfX0_find)
set_option maxHeartbeats 2000000 in
set_option maxRecDepth 100000 in
theorem kfX10_darks (l : Launch) (dC : Nat → ClassId) (dI : Nat → Nat → Nat) (a0 : Nat) (a1 : Nat) (a2 : Nat) (up : Nat → Nat) (kp : Nat → ClassId) (ud : Nat → Nat) (kd : Nat → ClassId) (x_x : TX10_x) (g8 : Value) (g9 : Value) (g10 : Value) (g11 : Value) (g12 : Value) (g13 : Value) (p_p : TX6_p) (d_d : TX0_d) (sz : Nat) (out : (Int32 × TX10_x × TX0_d)) (h : f_X10_darks x_x p_p d_d = some out) : KCi l yX10_darks vfX10_darks ({ frames := 4, cells := 0, slots := 0, locals := 88 }) (dC, dI) [.ref a0] sz ((a0, .inr (7, [.ref a1, g8, g9, g10, g11, g12, .ref a2, g13, .int x_x.1, .int x_x.2])) :: bX6 a1 up kp p_p (bX0 a2 ud kd d_d [])) (tX6 kp (tX0 kd ([]))) (fun (r : Int32) _ => r = out.1) ((a0, .inr (7, [.ref a1, g8, g9, g10, g11, g12, .ref a2, g13, .int out.2.1.1, .int out.2.1.2])) :: bX6 a1 up kp p_p (bX0 a2 ud kd out.2.2 [])) 0 0 := by
  refine Met.ofW (cc := cX10_darks) (maxL := 1) (ret := (some .int)) (by decide) rfl ?_
  intro p e s m args below meth c s₁ B0 hml hv
  obtain ⟨rfl, hsz, hP, hK, hD0, hN⟩ := hv
  have hx := B0.exec
  have hb := B0.bytes
  have hr := B0.returns
  have hts := atoms_spec (ws := vfX10_darks) B0.pre
  have hown : s.vm.findClass RX10 = some m.cls := findClass_of_methodNamed B0.named
  have hlocks := B0.notSynchronized
  subst hsz
  have hD := hD0.self (sz := s.heap.size)
  generalize hAe : va_A ((a0, .inr (7, [.ref a1, g8, g9, g10, g11, g12, .ref a2, g13, .int x_x.1, .int x_x.2])) :: bX6 a1 up kp p_p (bX0 a2 ud kd d_d [])) s.heap.size = A at hD ⊢
  have hA : ∀ q : Nat, s.heap.size ≤ q → A q := fun q h => by rw [← hAe]; exact Or.inr h
  have hS : va_S A s.heap s.heap [] := va_S.rf
  have hP : va_P (dC, dI) vwCl ((a0, .inr (7, [.ref a1, g8, g9, g10, g11, g12, .ref a2, g13, .int x_x.1, .int x_x.2])) :: bX6 a1 up kp p_p (bX0 a2 ud kd d_d [])) s.heap := hP
  have hl := lv_entry ([.ref a0]) (n := 1) (Nat.le_of_ble_eq_true rfl)
  rw [lg_entry_eq]
  generalize (lg_sl ([.ref a0]) ++ List.replicate (1 - (lg_sl ([.ref a0])).length) Slot.unset).toArray = ls at hl ⊢
  have hl : lv_has ls 1 [(0, .ref a0)] := hl
  refine W_q (fun QQ hQQ => ?_)
  rw [f_X10_darks] at h
  refine lv_aload_n hx hb (zat zrX10_darks_0_ok 0 rfl) rfl (lv_at hl 0 rfl) ?_
  refine lv_aload_n hx hb (zat zrX10_darks_0_ok 1 rfl) rfl (lv_at hl 0 rfl) ?_
  obtain ⟨o2, eo2⟩ : ∃ o, o = f_X10_darkTrouble p_p := ⟨_, rfl⟩
  have h := nm_of h o2 eo2
  refine ck_i (wc := ((a0, .inr (7, [.ref a1, g8, g9, g10, g11, g12, .ref a2, g13, .int x_x.1, .int x_x.2])) :: bX6 a1 up kp p_p [])) (wr := (bX0 a2 ud kd d_d [])) hP hD hK hS hA [0, 1, 2, 3, 4, 5, 6, 7, 8, 9, 10] [11, 12] rfl rfl (by decide) (by decide) (by decide) (fun hPc hDc => (va_runV (As := []) (rest := [.ref a0]) ⟨hx, hb, hml, hown, hts⟩ (kfX10_darkTrouble l dC dI a0 a1 up kp (g8) (g9) (g10) (g11) (g12) (.ref a2) (g13) (.int x_x.1) (.int x_x.2) p_p s.heap.size o2 eo2.symm) (cwV 0 hts gfX10_darks_0 rfl rfl rfl (by decide +kernel) ⟨(Nat.le_of_ble_eq_true rfl), (Nat.le_of_ble_eq_true rfl)⟩) (PV hPc (hK.sub (tys' := (tX6 kp ([]))) [0, 1, 2, 3, 4, 5, 6, 7, 8] rfl) hDc hN 0 rfl rfl) rfl rfl hl.1 rfl (lv_room (Nat.le_of_ble_eq_true rfl)) (zat zrX10_darks_0_ok 2 rfl) ⟨(Nat.le_of_ble_eq_true rfl), (Nat.le_of_ble_eq_true rfl)⟩)) (fun r2 _ H locs hw hP hD _ hS => ?_)
  obtain rfl := hw.symm
  obtain ⟨hP, hD⟩ := pd_mk (bX0 a2 ud kd d_d ((a0, .inr (7, [.ref a1, g8, g9, g10, g11, g12, .ref a2, g13, .int x_x.1, .int x_x.2])) :: bX6 a1 up kp p_p [])) hP hD
  obtain ⟨o5, eo5⟩ : ∃ o, o = f_X10_refused o2 x_x := ⟨_, rfl⟩
  have h := nm_of h o5 eo5
  refine ck_i (wc := ([(a0, .inr (7, [.ref a1, g8, g9, g10, g11, g12, .ref a2, g13, .int x_x.1, .int x_x.2]))])) (wr := (bX0 a2 ud kd d_d (bX6 a1 up kp p_p []))) hP hD hK hS hA [2] [0, 1, 3, 4, 5, 6, 7, 8, 9, 10, 11, 12] rfl rfl (by decide) (by decide) (by decide) (fun hPc hDc => (va_runV (As := [.int o2]) (rest := []) ⟨hx, hb, hml, hown, hts⟩ (kfX10_refused l dC dI a0 o2 x_x (.ref a1) (g8) (g9) (g10) (g11) (g12) (.ref a2) (g13) H.size o5 eo5.symm) (cwV 1 hts gfX10_darks_1 rfl rfl rfl (by decide +kernel) ⟨(Nat.le_of_ble_eq_true rfl), (Nat.le_of_ble_eq_true rfl)⟩) (PV hPc (hK.sub (tys' := ([])) [] rfl) hDc hN 0 rfl rfl) rfl rfl hl.1 rfl (lv_room (Nat.le_of_ble_eq_true rfl)) (zat zrX10_darks_0_ok 3 rfl) ⟨(Nat.le_of_ble_eq_true rfl), (Nat.le_of_ble_eq_true rfl)⟩)) (fun r5 _ H locs hw hP hD _ hS => ?_)
  obtain ⟨hw, br5⟩ := hw
  obtain rfl := hw
  obtain ⟨hP, hD⟩ := pd_mk (bX0 a2 ud kd d_d (bX6 a1 up kp p_p ([(a0, .inr (7, [.ref a1, g8, g9, g10, g11, g12, .ref a2, g13, .int o5.2.1, .int o5.2.2]))]))) hP hD
  refine lv_if_eq (tgt := 13) hx hb (zat zrX10_darks_0_ok 4 rfl) (by decide) (fun c8 => ?_) (fun c8 => ?_)
  · have h := (if_pos c8).symm.trans h
    refine lv_aload_n hx hb (zat zrX10_darks_0_ok 7 rfl) rfl (lv_at hl 0 rfl) ?_
    refine va_get (D := (dC, dI)) (ci := 7) (v := .ref a2) (C := RX10) (T := TX10) (N := 10) hx hb hts ifX10_darks_X10 hown hK hP 12 rfl rfl 6 (by decide) (hts (.fieldLink RX10 50 "HookPier" "dark" "LHookPier$Dark;") (List.mem_of_getElem? (i := 8) rfl)) (fun _ h9 => h9) rfl (zat zrX10_darks_0_ok 8 rfl) ?_
    refine lv_aload_n hx hb (zat zrX10_darks_0_ok 9 rfl) rfl (lv_at hl 0 rfl) ?_
    refine va_get (D := (dC, dI)) (ci := 7) (v := .ref a1) (C := RX10) (T := TX10) (N := 10) hx hb hts ifX10_darks_X10 hown hK hP 12 rfl rfl 0 (by decide) (hts (.fieldLink RX10 10 "HookPier" "plan" "LHookPier$Plan;") (List.mem_of_getElem? (i := 9) rfl)) (fun _ h9 => h9) rfl (zat zrX10_darks_0_ok 10 rfl) ?_
    obtain ⟨o21, eo21, h⟩ := bd_of h
    refine ck_v (wc := (bX0 a2 ud kd d_d (bX6 a1 up kp p_p []))) (wr := ([(a0, .inr (7, [.ref a1, g8, g9, g10, g11, g12, .ref a2, g13, .int o5.2.1, .int o5.2.2]))])) hP hD hK hS hA [0, 1, 2, 3, 4, 5, 6, 7, 8, 9, 10, 11] [12] rfl rfl (by decide) (by decide) (by decide) (fun hPc hDc => (va_runV (As := [.ref a1]) (rest := []) ⟨hx, hb, hml, hown, hts⟩ (kfX0_find l dC dI a2 a1 ud kd up kp d_d p_p H.size o21 eo21) (cwV 1 hts gfX10_darks_2 rfl rfl rfl (by decide +kernel) ⟨(Nat.le_of_ble_eq_true rfl), (Nat.le_of_ble_eq_true rfl)⟩) (PV hPc (hK.sub (tys' := (tX0 kd (tX6 kp ([])))) [9, 0, 1, 2, 3, 4, 5, 6, 7, 8] rfl) hDc hN 0 rfl rfl) rfl rfl hl.1 rfl (lv_room (Nat.le_of_ble_eq_true rfl)) (zat zrX10_darks_0_ok 11 rfl) ⟨(Nat.le_of_ble_eq_true rfl), (Nat.le_of_ble_eq_true rfl)⟩)) (fun _ H locs hw hP hD _ hS => ?_)
    obtain ⟨hP, hD⟩ := pd_mk ((a0, .inr (7, [.ref a1, g8, g9, g10, g11, g12, .ref a2, g13, .int o5.2.1, .int o5.2.2])) :: bX0 a2 ud kd o21 (bX6 a1 up kp p_p [])) hP hD
    refine lv_aload_n hx hb (zat zrX10_darks_0_ok 12 rfl) rfl (lv_at hl 0 rfl) ?_
    refine va_get (D := (dC, dI)) (ci := 7) (v := .ref a2) (C := RX10) (T := TX10) (N := 10) hx hb hts ifX10_darks_X10 hown hK hP 0 rfl rfl 6 (by decide) (hts (.fieldLink RX10 50 "HookPier" "dark" "LHookPier$Dark;") (List.mem_of_getElem? (i := 8) rfl)) (fun _ h9 => h9) rfl (zat zrX10_darks_0_ok 13 rfl) ?_
    refine va_get (D := (dC, dI)) (ci := 0) (v := .int o21.2) (C := RX0) (T := TX0) (N := 2) hx hb hts ifX10_darks_X0 hown hK hP 1 rfl rfl 1 (by decide) (hts (.fieldLink RX10 271 "HookPier$Dark" "many" "I") (List.mem_of_getElem? (i := 14) rfl)) (fun _ h9 => h9) rfl (zat zrX10_darks_0_ok 14 rfl) ?_
    obtain rfl := Option.some.inj h
    obtain ⟨hP9, hD9⟩ := pd_sub ((a0, .inr (7, [.ref a1, g8, g9, g10, g11, g12, .ref a2, g13, .int o5.2.1, .int o5.2.2])) :: bX6 a1 up kp p_p (bX0 a2 ud kd o21 [])) [0, 3, 4, 5, 6, 7, 8, 9, 10, 11, 12, 1, 2] hP hD (by decide) rfl
    have hK9 := hK.sub (tys' := []) [] rfl
    rw [hQQ]
    exact W.iret (v := o21.2) hx hb hr (fun t ht hW => ⟨⟨o21.2, (), rfl, rfl, by rw [ht]; exact hP9, va_K.moved hW.alike hK9, hD9⟩, hS.F ht⟩) hS.2.2 (zat zrX10_darks_0_ok 15 rfl)
  · have h := (if_neg c8).symm.trans h
    refine lv_iconst (v := (-1)) hx hb (zat zrX10_darks_0_ok 5 rfl) (by decide) ?_
    obtain rfl := Option.some.inj h
    obtain ⟨hP9, hD9⟩ := pd_sub ((a0, .inr (7, [.ref a1, g8, g9, g10, g11, g12, .ref a2, g13, .int o5.2.1, .int o5.2.2])) :: bX6 a1 up kp p_p (bX0 a2 ud kd d_d [])) [12, 2, 3, 4, 5, 6, 7, 8, 9, 10, 11, 0, 1] hP hD (by decide) rfl
    have hK9 := hK.sub (tys' := []) [] rfl
    rw [hQQ]
    exact W.iret (v := (-1 : Int32)) hx hb hr (fun t ht hW => ⟨⟨(-1 : Int32), (), rfl, rfl, by rw [ht]; exact hP9, va_K.moved hW.alike hK9, hD9⟩, hS.F ht⟩) hS.2.2 (zat zrX10_darks_0_ok 6 rfl)
noncomputable def zrX10_darkAt_0 : List ZR := zc 0 true (.aload_n 0) 1 (zc 1 true (.aload_n 0) 1 (zc 2 true (.invokevirtual 264) 3 (zc 5 true (.invokevirtual 79) 3 (zc 8 true (.ifCond .eq 5) 3 (zc 11 true (.iconst (-1)) 1 (zc 12 true (.ireturn) 1 (zc 13 true (.aload_n 0) 1 (zc 14 true (.getfield 50) 3 (zc 17 true (.aload_n 0) 1 (zc 18 true (.getfield 10) 3 (zc 21 true (.invokevirtual 267) 3 (zc 24 true (.aload_n 0) 1 (zc 25 true (.iload_n 1) 1 (zc 26 true (.iconst 0) 1 (zc 27 true (.aload_n 0) 1 (zc 28 true (.getfield 50) 3 (zc 31 true (.getfield 271) 3 (zc 34 true (.iconst 1) 1 (zc 35 true (.isub) 1 (zc 36 true (.invokestatic 75) 3 (zc 39 true (.ifCond .eq 7) 3 (zc 42 true (.iconst 0) 1 (zc 43 true (.goto 4) 3 (zc 46 true (.iconst 1) 1 (zc 47 true (.invokevirtual 79) 3 (zc 50 true (.ifCond .eq 5) 3 (zc 53 true (.iconst (-1)) 1 (zc 54 true (.ireturn) 1 (zc 55 true (.aload_n 0) 1 (zc 56 true (.getfield 50) 3 (zc 59 true (.getfield 274) 3 (zc 62 true (.iload_n 1) 1 (zc 63 true (.iaload) 1 (zc 64 true (.ireturn) 1 ([])))))))))))))))))))))))))))))))))))
theorem zrX10_darkAt_0_ok : zck 0 ((zby cX10_darkAt).drop 0) zrX10_darkAt_0 = true := by decide +kernel
def vfX10_darkAt : List Cond := List.cons (.code yX10_darkAt cX10_darkAt 2 (some .int)) (apW [.methodLink RX10 264 yX10_darkTrouble, .instanceMethod yX10_darkTrouble, .selects RX10 yX10_darkTrouble yX10_darkTrouble, .initialized RX10, .methodLink RX10 79 yX10_refused, .instanceMethod yX10_refused, .selects RX10 yX10_refused yX10_refused, .fieldLink RX10 50 "HookPier" "dark" "LHookPier$Dark;", .fieldLink RX10 10 "HookPier" "plan" "LHookPier$Plan;", .methodLink RX10 267 yX0_find, .instanceMethod yX0_find, .selects RX0 yX0_find yX0_find, .initialized RX0, .fieldLink RX10 271 "HookPier$Dark" "many" "I", .methodLink RX10 75 yX10_within, .static yX10_within, .fieldLink RX10 274 "HookPier$Dark" "place" "[I"] (apW wsX100 (apW wsX00 (apW vfX10_darkTrouble (apW vfX10_refused (apW vfX0_find (vfX10_within)))))))
theorem ifX10_darkAt_X10 : ∀ w ∈ wsX100, w ∈ vfX10_darkAt := fun _ h => (List.mem_cons_of_mem _ (List.mem_append_right _ (List.mem_append_left _ h)))
theorem ifX10_darkAt_X0 : ∀ w ∈ wsX00, w ∈ vfX10_darkAt := fun _ h => (List.mem_cons_of_mem _ (List.mem_append_right _ (List.mem_append_right _ (List.mem_append_left _ h))))
theorem qfX10_darkAt : Good vfX10_darkAt := gd_cons (by decide +kernel) (gd_app (gd_dec (by decide +kernel) : Good [.methodLink RX10 264 yX10_darkTrouble, .instanceMethod yX10_darkTrouble, .selects RX10 yX10_darkTrouble yX10_darkTrouble, .initialized RX10, .methodLink RX10 79 yX10_refused, .instanceMethod yX10_refused, .selects RX10 yX10_refused yX10_refused, .fieldLink RX10 50 "HookPier" "dark" "LHookPier$Dark;", .fieldLink RX10 10 "HookPier" "plan" "LHookPier$Plan;", .methodLink RX10 267 yX0_find, .instanceMethod yX0_find, .selects RX0 yX0_find yX0_find, .initialized RX0, .fieldLink RX10 271 "HookPier$Dark" "many" "I", .methodLink RX10 75 yX10_within, .static yX10_within, .fieldLink RX10 274 "HookPier$Dark" "place" "[I"]) (gd_app qsX10 (gd_app qsX0 (gd_app qfX10_darkTrouble (gd_app qfX10_refused (gd_app qfX0_find qfX10_within))))))
theorem gfX10_darkAt_0 : GoodIn vfX10_darkAt (wsV RX10 264 RX10 yX10_darkTrouble vfX10_darkTrouble) := goodIn_app (goodIn_r [.methodLink RX10 264 yX10_darkTrouble, .instanceMethod yX10_darkTrouble, .selects RX10 yX10_darkTrouble yX10_darkTrouble, .initialized RX10] [1, 2, 3, 4] rfl (by decide +kernel)) (goodIn_m (fun _ h => (List.mem_cons_of_mem _ (List.mem_append_right _ (List.mem_append_right _ (List.mem_append_right _ (List.mem_append_left _ h)))))) qfX10_darkTrouble)
theorem gfX10_darkAt_1 : GoodIn vfX10_darkAt (wsV RX10 79 RX10 yX10_refused vfX10_refused) := goodIn_app (goodIn_r [.methodLink RX10 79 yX10_refused, .instanceMethod yX10_refused, .selects RX10 yX10_refused yX10_refused, .initialized RX10] [5, 6, 7, 4] rfl (by decide +kernel)) (goodIn_m (fun _ h => (List.mem_cons_of_mem _ (List.mem_append_right _ (List.mem_append_right _ (List.mem_append_right _ (List.mem_append_right _ (List.mem_append_left _ h))))))) qfX10_refused)
theorem gfX10_darkAt_2 : GoodIn vfX10_darkAt (wsV RX10 267 RX0 yX0_find vfX0_find) := goodIn_app (goodIn_r [.methodLink RX10 267 yX0_find, .instanceMethod yX0_find, .selects RX0 yX0_find yX0_find, .initialized RX0] [10, 11, 12, 13] rfl (by decide +kernel)) (goodIn_m (fun _ h => (List.mem_cons_of_mem _ (List.mem_append_right _ (List.mem_append_right _ (List.mem_append_right _ (List.mem_append_right _ (List.mem_append_right _ (List.mem_append_left _ h)))))))) qfX0_find)
theorem gfX10_darkAt_3 : GoodIn vfX10_darkAt (va_wsS RX10 75 yX10_within vfX10_within) := goodIn_app (goodIn_r [.methodLink RX10 75 yX10_within, .static yX10_within, .initialized RX10] [15, 16, 4] rfl (by decide +kernel)) (goodIn_m (fun _ h => (List.mem_cons_of_mem _ (List.mem_append_right _ (List.mem_append_right _ (List.mem_append_right _ (List.mem_append_right _ (List.mem_append_right _ (List.mem_append_right _ h)))))))) qfX10_within)
set_option maxHeartbeats 2000000 in
set_option maxRecDepth 100000 in
theorem kfX10_darkAt (l : Launch) (dC : Nat → ClassId) (dI : Nat → Nat → Nat) (a0 : Nat) (k1 : Int32) (a2 : Nat) (a3 : Nat) (up : Nat → Nat) (kp : Nat → ClassId) (ud : Nat → Nat) (kd : Nat → ClassId) (x_x : TX10_x) (g9 : Value) (g10 : Value) (g11 : Value) (g12 : Value) (g13 : Value) (g14 : Value) (p_p : TX6_p) (d_d : TX0_d) (sz : Nat) (out : (Int32 × TX10_x × TX0_d)) (h : f_X10_darkAt k1 x_x p_p d_d = some out) : KCi l yX10_darkAt vfX10_darkAt ({ frames := 4, cells := 0, slots := 0, locals := 88 }) (dC, dI) [.ref a0, .int k1] sz ((a0, .inr (7, [.ref a2, g9, g10, g11, g12, g13, .ref a3, g14, .int x_x.1, .int x_x.2])) :: bX6 a2 up kp p_p (bX0 a3 ud kd d_d [])) (tX6 kp (tX0 kd ([]))) (fun (r : Int32) _ => r = out.1) ((a0, .inr (7, [.ref a2, g9, g10, g11, g12, g13, .ref a3, g14, .int out.2.1.1, .int out.2.1.2])) :: bX6 a2 up kp p_p (bX0 a3 ud kd out.2.2 [])) 0 0 := by
  refine Met.ofW (cc := cX10_darkAt) (maxL := 2) (ret := (some .int)) (by decide) rfl ?_
  intro p e s m args below meth c s₁ B0 hml hv
  obtain ⟨rfl, hsz, hP, hK, hD0, hN⟩ := hv
  have hx := B0.exec
  have hb := B0.bytes
  have hr := B0.returns
  have hts := atoms_spec (ws := vfX10_darkAt) B0.pre
  have hown : s.vm.findClass RX10 = some m.cls := findClass_of_methodNamed B0.named
  have hlocks := B0.notSynchronized
  subst hsz
  have hD := hD0.self (sz := s.heap.size)
  generalize hAe : va_A ((a0, .inr (7, [.ref a2, g9, g10, g11, g12, g13, .ref a3, g14, .int x_x.1, .int x_x.2])) :: bX6 a2 up kp p_p (bX0 a3 ud kd d_d [])) s.heap.size = A at hD ⊢
  have hA : ∀ q : Nat, s.heap.size ≤ q → A q := fun q h => by rw [← hAe]; exact Or.inr h
  have hS : va_S A s.heap s.heap [] := va_S.rf
  have hP : va_P (dC, dI) vwCl ((a0, .inr (7, [.ref a2, g9, g10, g11, g12, g13, .ref a3, g14, .int x_x.1, .int x_x.2])) :: bX6 a2 up kp p_p (bX0 a3 ud kd d_d [])) s.heap := hP
  have hl := lv_entry ([.ref a0, .int k1]) (n := 2) (Nat.le_of_ble_eq_true rfl)
  rw [lg_entry_eq]
  generalize (lg_sl ([.ref a0, .int k1]) ++ List.replicate (2 - (lg_sl ([.ref a0, .int k1])).length) Slot.unset).toArray = ls at hl ⊢
  have hl : lv_has ls 2 [(0, .ref a0), (1, .int k1)] := hl
  refine W_q (fun QQ hQQ => ?_)
  rw [f_X10_darkAt] at h
  refine lv_aload_n hx hb (zat zrX10_darkAt_0_ok 0 rfl) rfl (lv_at hl 0 rfl) ?_
  refine lv_aload_n hx hb (zat zrX10_darkAt_0_ok 1 rfl) rfl (lv_at hl 0 rfl) ?_
  obtain ⟨o2, eo2⟩ : ∃ o, o = f_X10_darkTrouble p_p := ⟨_, rfl⟩
  have h := nm_of h o2 eo2
  refine ck_i (wc := ((a0, .inr (7, [.ref a2, g9, g10, g11, g12, g13, .ref a3, g14, .int x_x.1, .int x_x.2])) :: bX6 a2 up kp p_p [])) (wr := (bX0 a3 ud kd d_d [])) hP hD hK hS hA [0, 1, 2, 3, 4, 5, 6, 7, 8, 9, 10] [11, 12] rfl rfl (by decide) (by decide) (by decide) (fun hPc hDc => (va_runV (As := []) (rest := [.ref a0]) ⟨hx, hb, hml, hown, hts⟩ (kfX10_darkTrouble l dC dI a0 a2 up kp (g9) (g10) (g11) (g12) (g13) (.ref a3) (g14) (.int x_x.1) (.int x_x.2) p_p s.heap.size o2 eo2.symm) (cwV 0 hts gfX10_darkAt_0 rfl rfl rfl (by decide +kernel) ⟨(Nat.le_of_ble_eq_true rfl), (Nat.le_of_ble_eq_true rfl)⟩) (PV hPc (hK.sub (tys' := (tX6 kp ([]))) [0, 1, 2, 3, 4, 5, 6, 7, 8] rfl) hDc hN 0 rfl rfl) rfl rfl hl.1 rfl (lv_room (Nat.le_of_ble_eq_true rfl)) (zat zrX10_darkAt_0_ok 2 rfl) ⟨(Nat.le_of_ble_eq_true rfl), (Nat.le_of_ble_eq_true rfl)⟩)) (fun r2 _ H locs hw hP hD _ hS => ?_)
  obtain rfl := hw.symm
  obtain ⟨hP, hD⟩ := pd_mk (bX0 a3 ud kd d_d ((a0, .inr (7, [.ref a2, g9, g10, g11, g12, g13, .ref a3, g14, .int x_x.1, .int x_x.2])) :: bX6 a2 up kp p_p [])) hP hD
  obtain ⟨o5, eo5⟩ : ∃ o, o = f_X10_refused o2 x_x := ⟨_, rfl⟩
  have h := nm_of h o5 eo5
  refine ck_i (wc := ([(a0, .inr (7, [.ref a2, g9, g10, g11, g12, g13, .ref a3, g14, .int x_x.1, .int x_x.2]))])) (wr := (bX0 a3 ud kd d_d (bX6 a2 up kp p_p []))) hP hD hK hS hA [2] [0, 1, 3, 4, 5, 6, 7, 8, 9, 10, 11, 12] rfl rfl (by decide) (by decide) (by decide) (fun hPc hDc => (va_runV (As := [.int o2]) (rest := []) ⟨hx, hb, hml, hown, hts⟩ (kfX10_refused l dC dI a0 o2 x_x (.ref a2) (g9) (g10) (g11) (g12) (g13) (.ref a3) (g14) H.size o5 eo5.symm) (cwV 1 hts gfX10_darkAt_1 rfl rfl rfl (by decide +kernel) ⟨(Nat.le_of_ble_eq_true rfl), (Nat.le_of_ble_eq_true rfl)⟩) (PV hPc (hK.sub (tys' := ([])) [] rfl) hDc hN 0 rfl rfl) rfl rfl hl.1 rfl (lv_room (Nat.le_of_ble_eq_true rfl)) (zat zrX10_darkAt_0_ok 3 rfl) ⟨(Nat.le_of_ble_eq_true rfl), (Nat.le_of_ble_eq_true rfl)⟩)) (fun r5 _ H locs hw hP hD _ hS => ?_)
  obtain ⟨hw, br5⟩ := hw
  obtain rfl := hw
  obtain ⟨hP, hD⟩ := pd_mk (bX0 a3 ud kd d_d (bX6 a2 up kp p_p ([(a0, .inr (7, [.ref a2, g9, g10, g11, g12, g13, .ref a3, g14, .int o5.2.1, .int o5.2.2]))]))) hP hD
  refine lv_if_eq (tgt := 13) hx hb (zat zrX10_darkAt_0_ok 4 rfl) (by decide) (fun c8 => ?_) (fun c8 => ?_)
  · have h := (if_pos c8).symm.trans h
    refine lv_aload_n hx hb (zat zrX10_darkAt_0_ok 7 rfl) rfl (lv_at hl 0 rfl) ?_
    refine va_get (D := (dC, dI)) (ci := 7) (v := .ref a3) (C := RX10) (T := TX10) (N := 10) hx hb hts ifX10_darkAt_X10 hown hK hP 12 rfl rfl 6 (by decide) (hts (.fieldLink RX10 50 "HookPier" "dark" "LHookPier$Dark;") (List.mem_of_getElem? (i := 8) rfl)) (fun _ h9 => h9) rfl (zat zrX10_darkAt_0_ok 8 rfl) ?_
    refine lv_aload_n hx hb (zat zrX10_darkAt_0_ok 9 rfl) rfl (lv_at hl 0 rfl) ?_
    refine va_get (D := (dC, dI)) (ci := 7) (v := .ref a2) (C := RX10) (T := TX10) (N := 10) hx hb hts ifX10_darkAt_X10 hown hK hP 12 rfl rfl 0 (by decide) (hts (.fieldLink RX10 10 "HookPier" "plan" "LHookPier$Plan;") (List.mem_of_getElem? (i := 9) rfl)) (fun _ h9 => h9) rfl (zat zrX10_darkAt_0_ok 10 rfl) ?_
    obtain ⟨o21, eo21, h⟩ := bd_of h
    refine ck_v (wc := (bX0 a3 ud kd d_d (bX6 a2 up kp p_p []))) (wr := ([(a0, .inr (7, [.ref a2, g9, g10, g11, g12, g13, .ref a3, g14, .int o5.2.1, .int o5.2.2]))])) hP hD hK hS hA [0, 1, 2, 3, 4, 5, 6, 7, 8, 9, 10, 11] [12] rfl rfl (by decide) (by decide) (by decide) (fun hPc hDc => (va_runV (As := [.ref a2]) (rest := []) ⟨hx, hb, hml, hown, hts⟩ (kfX0_find l dC dI a3 a2 ud kd up kp d_d p_p H.size o21 eo21) (cwV 1 hts gfX10_darkAt_2 rfl rfl rfl (by decide +kernel) ⟨(Nat.le_of_ble_eq_true rfl), (Nat.le_of_ble_eq_true rfl)⟩) (PV hPc (hK.sub (tys' := (tX0 kd (tX6 kp ([])))) [9, 0, 1, 2, 3, 4, 5, 6, 7, 8] rfl) hDc hN 0 rfl rfl) rfl rfl hl.1 rfl (lv_room (Nat.le_of_ble_eq_true rfl)) (zat zrX10_darkAt_0_ok 11 rfl) ⟨(Nat.le_of_ble_eq_true rfl), (Nat.le_of_ble_eq_true rfl)⟩)) (fun _ H locs hw hP hD _ hS => ?_)
    obtain ⟨hP, hD⟩ := pd_mk ((a0, .inr (7, [.ref a2, g9, g10, g11, g12, g13, .ref a3, g14, .int o5.2.1, .int o5.2.2])) :: bX0 a3 ud kd o21 (bX6 a2 up kp p_p [])) hP hD
    refine lv_aload_n hx hb (zat zrX10_darkAt_0_ok 12 rfl) rfl (lv_at hl 0 rfl) ?_
    refine lv_iload_n hx hb (zat zrX10_darkAt_0_ok 13 rfl) rfl (lv_at hl 1 rfl) ?_
    refine lv_iconst (v := 0) hx hb (zat zrX10_darkAt_0_ok 14 rfl) (by decide) ?_
    refine lv_aload_n hx hb (zat zrX10_darkAt_0_ok 15 rfl) rfl (lv_at hl 0 rfl) ?_
    refine va_get (D := (dC, dI)) (ci := 7) (v := .ref a3) (C := RX10) (T := TX10) (N := 10) hx hb hts ifX10_darkAt_X10 hown hK hP 0 rfl rfl 6 (by decide) (hts (.fieldLink RX10 50 "HookPier" "dark" "LHookPier$Dark;") (List.mem_of_getElem? (i := 8) rfl)) (fun _ h9 => h9) rfl (zat zrX10_darkAt_0_ok 16 rfl) ?_
    refine va_get (D := (dC, dI)) (ci := 0) (v := .int o21.2) (C := RX0) (T := TX0) (N := 2) hx hb hts ifX10_darkAt_X0 hown hK hP 1 rfl rfl 1 (by decide) (hts (.fieldLink RX10 271 "HookPier$Dark" "many" "I") (List.mem_of_getElem? (i := 14) rfl)) (fun _ h9 => h9) rfl (zat zrX10_darkAt_0_ok 17 rfl) ?_
    refine lv_iconst (v := 1) hx hb (zat zrX10_darkAt_0_ok 18 rfl) (by decide) ?_
    refine lv_isub hx hb (zat zrX10_darkAt_0_ok 19 rfl) ?_
    obtain ⟨o36, eo36⟩ : ∃ o, o = f_X10_within k1 (0 : Int32) (o21.2 - (1 : Int32)) := ⟨_, rfl⟩
    have h := nm_of h o36 eo36
    refine ck_i (wc := []) (wr := ((a0, .inr (7, [.ref a2, g9, g10, g11, g12, g13, .ref a3, g14, .int o5.2.1, .int o5.2.2])) :: bX0 a3 ud kd o21 (bX6 a2 up kp p_p []))) hP hD hK hS hA [] [0, 1, 2, 3, 4, 5, 6, 7, 8, 9, 10, 11, 12] rfl rfl (by decide) (by decide) (by decide) (fun hPc hDc => (va_runS (As := [.int k1, .int 0, .int (o21.2 - (1 : Int32))]) (rest := [.ref a0]) ⟨hx, hb, hml, hown, hts⟩ (kfX10_within l dC dI k1 (0 : Int32) (o21.2 - (1 : Int32)) H.size o36 eo36.symm) (va_cwS 3 hts gfX10_darkAt_3 rfl rfl rfl (by decide +kernel) ⟨(Nat.le_of_ble_eq_true rfl), (Nat.le_of_ble_eq_true rfl)⟩) (PS hPc (hK.sub (tys' := ([])) [] rfl) hDc hN) rfl rfl hl.1 rfl (lv_room (Nat.le_of_ble_eq_true rfl)) (zat zrX10_darkAt_0_ok 20 rfl) ⟨(Nat.le_of_ble_eq_true rfl), (Nat.le_of_ble_eq_true rfl)⟩)) (fun r36 _ H locs hw hP hD _ hS => ?_)
    obtain ⟨hw, br36⟩ := hw
    obtain rfl := hw.symm
    obtain ⟨hP, hD⟩ := pd_mk ((a0, .inr (7, [.ref a2, g9, g10, g11, g12, g13, .ref a3, g14, .int o5.2.1, .int o5.2.2])) :: bX0 a3 ud kd o21 (bX6 a2 up kp p_p [])) hP hD
    have J47 : ∀ (v47_t1 : Int32) (H : Heap) (locs : List Loc) (ls : Array Slot), f_X10_darkAt_J47 k1 o21 o5 v47_t1 = some out → 0 ≤ v47_t1.toInt ∧ v47_t1.toInt ≤ 1 → va_P (dC, dI) vwCl ((a0, .inr (7, [.ref a2, g9, g10, g11, g12, g13, .ref a3, g14, .int o5.2.1, .int o5.2.2])) :: bX0 a3 ud kd o21 (bX6 a2 up kp p_p [])) H → va_D A ((a0, .inr (7, [.ref a2, g9, g10, g11, g12, g13, .ref a3, g14, .int o5.2.1, .int o5.2.2])) :: bX0 a3 ud kd o21 (bX6 a2 up kp p_p [])) → va_S A s.heap H locs → lv_has ls 2 [(0, .ref a0), (1, .int k1)] → W p l e (headSpec vfX10_darkAt { frames := 4, cells := 0, slots := 0, locals := 88 }).room s m ([.ref a0, .int k1]).toArray below meth c H locs 0 0 QQ (F0 m 47 ls [.int v47_t1, .ref a0]) := by
      intro v47_t1 H locs ls h zb_v47_t1 hP hD hS hl
      rw [f_X10_darkAt_J47] at h
      obtain ⟨o47, eo47⟩ : ∃ o, o = f_X10_refused v47_t1 o5.2 := ⟨_, rfl⟩
      have h := nm_of h o47 eo47
      refine ck_i (wc := ([(a0, .inr (7, [.ref a2, g9, g10, g11, g12, g13, .ref a3, g14, .int o5.2.1, .int o5.2.2]))])) (wr := (bX0 a3 ud kd o21 (bX6 a2 up kp p_p []))) hP hD hK hS hA [0] [1, 2, 3, 4, 5, 6, 7, 8, 9, 10, 11, 12] rfl rfl (by decide) (by decide) (by decide) (fun hPc hDc => (va_runV (As := [.int v47_t1]) (rest := []) ⟨hx, hb, hml, hown, hts⟩ (kfX10_refused l dC dI a0 v47_t1 o5.2 (.ref a2) (g9) (g10) (g11) (g12) (g13) (.ref a3) (g14) H.size o47 eo47.symm) (cwV 1 hts gfX10_darkAt_1 rfl rfl rfl (by decide +kernel) ⟨(Nat.le_of_ble_eq_true rfl), (Nat.le_of_ble_eq_true rfl)⟩) (PV hPc (hK.sub (tys' := ([])) [] rfl) hDc hN 0 rfl rfl) rfl rfl hl.1 rfl (lv_room (Nat.le_of_ble_eq_true rfl)) (zat zrX10_darkAt_0_ok 25 rfl) ⟨(Nat.le_of_ble_eq_true rfl), (Nat.le_of_ble_eq_true rfl)⟩)) (fun r47 _ H locs hw hP hD _ hS => ?_)
      obtain ⟨hw, br47⟩ := hw
      obtain rfl := hw
      obtain ⟨hP, hD⟩ := pd_mk (bX0 a3 ud kd o21 (bX6 a2 up kp p_p ([(a0, .inr (7, [.ref a2, g9, g10, g11, g12, g13, .ref a3, g14, .int o47.2.1, .int o47.2.2]))]))) hP hD
      refine lv_if_eq (tgt := 55) hx hb (zat zrX10_darkAt_0_ok 26 rfl) (by decide) (fun c50 => ?_) (fun c50 => ?_)
      · have h := (if_pos c50).symm.trans h
        refine lv_aload_n hx hb (zat zrX10_darkAt_0_ok 29 rfl) rfl (lv_at hl 0 rfl) ?_
        refine va_get (D := (dC, dI)) (ci := 7) (v := .ref a3) (C := RX10) (T := TX10) (N := 10) hx hb hts ifX10_darkAt_X10 hown hK hP 12 rfl rfl 6 (by decide) (hts (.fieldLink RX10 50 "HookPier" "dark" "LHookPier$Dark;") (List.mem_of_getElem? (i := 8) rfl)) (fun _ h9 => h9) rfl (zat zrX10_darkAt_0_ok 30 rfl) ?_
        refine va_get (D := (dC, dI)) (ci := 0) (v := .ref (ud 0)) (C := RX0) (T := TX0) (N := 2) hx hb hts ifX10_darkAt_X0 hown hK hP 0 rfl rfl 0 (by decide) (hts (.fieldLink RX10 274 "HookPier$Dark" "place" "[I") (List.mem_of_getElem? (i := 17) rfl)) (fun _ h9 => h9) rfl (zat zrX10_darkAt_0_ok 31 rfl) ?_
        refine lv_iload_n hx hb (zat zrX10_darkAt_0_ok 32 rfl) rfl (lv_at hl 1 rfl) ?_
        obtain ⟨hg63, h⟩ := gA_of h
        refine va_iald hx hb hK hP 1 9 rfl rfl hg63 (zat zrX10_darkAt_0_ok 33 rfl) ?_
        obtain rfl := Option.some.inj h
        obtain ⟨hP9, hD9⟩ := pd_sub ((a0, .inr (7, [.ref a2, g9, g10, g11, g12, g13, .ref a3, g14, .int o47.2.1, .int o47.2.2])) :: bX6 a2 up kp p_p (bX0 a3 ud kd o21 [])) [12, 2, 3, 4, 5, 6, 7, 8, 9, 10, 11, 0, 1] hP hD (by decide) rfl
        have hK9 := hK.sub (tys' := []) [] rfl
        rw [hQQ]
        exact W.iret (v := (o21.1 (k1).toNatClampNeg)) hx hb hr (fun t ht hW => ⟨⟨(o21.1 (k1).toNatClampNeg), (), rfl, rfl, by rw [ht]; exact hP9, va_K.moved hW.alike hK9, hD9⟩, hS.F ht⟩) hS.2.2 (zat zrX10_darkAt_0_ok 34 rfl)
      · have h := (if_neg c50).symm.trans h
        refine lv_iconst (v := (-1)) hx hb (zat zrX10_darkAt_0_ok 27 rfl) (by decide) ?_
        obtain rfl := Option.some.inj h
        obtain ⟨hP9, hD9⟩ := pd_sub ((a0, .inr (7, [.ref a2, g9, g10, g11, g12, g13, .ref a3, g14, .int o47.2.1, .int o47.2.2])) :: bX6 a2 up kp p_p (bX0 a3 ud kd o21 [])) [12, 2, 3, 4, 5, 6, 7, 8, 9, 10, 11, 0, 1] hP hD (by decide) rfl
        have hK9 := hK.sub (tys' := []) [] rfl
        rw [hQQ]
        exact W.iret (v := (-1 : Int32)) hx hb hr (fun t ht hW => ⟨⟨(-1 : Int32), (), rfl, rfl, by rw [ht]; exact hP9, va_K.moved hW.alike hK9, hD9⟩, hS.F ht⟩) hS.2.2 (zat zrX10_darkAt_0_ok 28 rfl)
    refine lv_if_eq (tgt := 46) hx hb (zat zrX10_darkAt_0_ok 21 rfl) (by decide) (fun c39 => ?_) (fun c39 => ?_)
    · have h := (if_pos c39).symm.trans h
      refine lv_iconst (v := 1) hx hb (zat zrX10_darkAt_0_ok 24 rfl) (by decide) ?_
      exact J47 (1 : Int32) H _ ls h (by decide) hP hD hS (lv_sub hl [0, 1] rfl)
    · have h := (if_neg c39).symm.trans h
      refine lv_iconst (v := 0) hx hb (zat zrX10_darkAt_0_ok 22 rfl) (by decide) ?_
      refine lv_goto (tgt := 47) hx hb (zat zrX10_darkAt_0_ok 23 rfl) (by decide) ?_
      exact J47 (0 : Int32) H _ ls h (by decide) hP hD hS (lv_sub hl [0, 1] rfl)
  · have h := (if_neg c8).symm.trans h
    refine lv_iconst (v := (-1)) hx hb (zat zrX10_darkAt_0_ok 5 rfl) (by decide) ?_
    obtain rfl := Option.some.inj h
    obtain ⟨hP9, hD9⟩ := pd_sub ((a0, .inr (7, [.ref a2, g9, g10, g11, g12, g13, .ref a3, g14, .int o5.2.1, .int o5.2.2])) :: bX6 a2 up kp p_p (bX0 a3 ud kd d_d [])) [12, 2, 3, 4, 5, 6, 7, 8, 9, 10, 11, 0, 1] hP hD (by decide) rfl
    have hK9 := hK.sub (tys' := []) [] rfl
    rw [hQQ]
    exact W.iret (v := (-1 : Int32)) hx hb hr (fun t ht hW => ⟨⟨(-1 : Int32), (), rfl, rfl, by rw [ht]; exact hP9, va_K.moved hW.alike hK9, hD9⟩, hS.F ht⟩) hS.2.2 (zat zrX10_darkAt_0_ok 6 rfl)
noncomputable def zrX10_darkSpots_0 : List ZR := zc 0 true (.aload_n 0) 1 (zc 1 true (.aload_n 0) 1 (zc 2 true (.invokevirtual 264) 3 (zc 5 true (.invokevirtual 79) 3 (zc 8 true (.ifCond .eq 5) 3 (zc 11 true (.iconst (-1)) 1 (zc 12 true (.ireturn) 1 (zc 13 true (.aload_n 0) 1 (zc 14 true (.getfield 50) 3 (zc 17 true (.aload_n 0) 1 (zc 18 true (.getfield 10) 3 (zc 21 true (.invokevirtual 267) 3 (zc 24 true (.iconst 0) 1 (zc 25 true (.istore_n 1) 1 (zc 26 true (.iconst 0) 1 (zc 27 true (.istore_n 2) 1 (zc 28 true (.iload_n 2) 1 (zc 29 true (.aload_n 0) 1 (zc 30 true (.getfield 50) 3 (zc 33 true (.getfield 271) 3 (zc 36 true (.if_icmp .ge 26) 3 (zc 39 true (.iload_n 1) 1 (zc 40 true (.iconst 1) 1 (zc 41 true (.aload_n 0) 1 (zc 42 true (.getfield 50) 3 (zc 45 true (.getfield 274) 3 (zc 48 true (.iload_n 2) 1 (zc 49 true (.iaload) 1 (zc 50 true (.invokestatic 152) 3 (zc 53 true (.ishl) 1 (zc 54 true (.ior) 1 (zc 55 true (.istore_n 1) 1 (zc 56 true (.iinc 2 1) 3 (zc 59 true (.goto (-31)) 3 (zc 62 true (.iload_n 1) 1 (zc 63 true (.ireturn) 1 ([]))))))))))))))))))))))))))))))))))))
theorem zrX10_darkSpots_0_ok : zck 0 ((zby cX10_darkSpots).drop 0) zrX10_darkSpots_0 = true := by decide +kernel
def vfX10_darkSpots : List Cond := List.cons (.code yX10_darkSpots cX10_darkSpots 3 (some .int)) (apW [.methodLink RX10 264 yX10_darkTrouble, .instanceMethod yX10_darkTrouble, .selects RX10 yX10_darkTrouble yX10_darkTrouble, .initialized RX10, .methodLink RX10 79 yX10_refused, .instanceMethod yX10_refused, .selects RX10 yX10_refused yX10_refused, .fieldLink RX10 50 "HookPier" "dark" "LHookPier$Dark;", .fieldLink RX10 10 "HookPier" "plan" "LHookPier$Plan;", .methodLink RX10 267 yX0_find, .instanceMethod yX0_find, .selects RX0 yX0_find yX0_find, .initialized RX0, .fieldLink RX10 271 "HookPier$Dark" "many" "I", .fieldLink RX10 274 "HookPier$Dark" "place" "[I", .methodLink RX10 152 yX10_spotOf, .static yX10_spotOf] (apW wsX100 (apW wsX00 (apW vfX10_darkTrouble (apW vfX10_refused (apW vfX0_find (vfX10_spotOf)))))))
theorem ifX10_darkSpots_X10 : ∀ w ∈ wsX100, w ∈ vfX10_darkSpots := fun _ h => (List.mem_cons_of_mem _ (List.mem_append_right _ (List.mem_append_left _ h)))
theorem ifX10_darkSpots_X0 : ∀ w ∈ wsX00, w ∈ vfX10_darkSpots := fun _ h => (List.mem_cons_of_mem _ (List.mem_append_right _ (List.mem_append_right _ (List.mem_append_left _ h))))
theorem qfX10_darkSpots : Good vfX10_darkSpots := gd_cons (by decide +kernel) (gd_app (gd_dec (by decide +kernel) : Good [.methodLink RX10 264 yX10_darkTrouble, .instanceMethod yX10_darkTrouble, .selects RX10 yX10_darkTrouble yX10_darkTrouble, .initialized RX10, .methodLink RX10 79 yX10_refused, .instanceMethod yX10_refused, .selects RX10 yX10_refused yX10_refused, .fieldLink RX10 50 "HookPier" "dark" "LHookPier$Dark;", .fieldLink RX10 10 "HookPier" "plan" "LHookPier$Plan;", .methodLink RX10 267 yX0_find, .instanceMethod yX0_find, .selects RX0 yX0_find yX0_find, .initialized RX0, .fieldLink RX10 271 "HookPier$Dark" "many" "I", .fieldLink RX10 274 "HookPier$Dark" "place" "[I", .methodLink RX10 152 yX10_spotOf, .static yX10_spotOf]) (gd_app qsX10 (gd_app qsX0 (gd_app qfX10_darkTrouble (gd_app qfX10_refused (gd_app qfX0_find qfX10_spotOf))))))
theorem gfX10_darkSpots_0 : GoodIn vfX10_darkSpots (wsV RX10 264 RX10 yX10_darkTrouble vfX10_darkTrouble) := goodIn_app (goodIn_r [.methodLink RX10 264 yX10_darkTrouble, .instanceMethod yX10_darkTrouble, .selects RX10 yX10_darkTrouble yX10_darkTrouble, .initialized RX10] [1, 2, 3, 4] rfl (by decide +kernel)) (goodIn_m (fun _ h => (List.mem_cons_of_mem _ (List.mem_append_right _ (List.mem_append_right _ (List.mem_append_right _ (List.mem_append_left _ h)))))) qfX10_darkTrouble)
theorem gfX10_darkSpots_1 : GoodIn vfX10_darkSpots (wsV RX10 79 RX10 yX10_refused vfX10_refused) := goodIn_app (goodIn_r [.methodLink RX10 79 yX10_refused, .instanceMethod yX10_refused, .selects RX10 yX10_refused yX10_refused, .initialized RX10] [5, 6, 7, 4] rfl (by decide +kernel)) (goodIn_m (fun _ h => (List.mem_cons_of_mem _ (List.mem_append_right _ (List.mem_append_right _ (List.mem_append_right _ (List.mem_append_right _ (List.mem_append_left _ h))))))) qfX10_refused)
theorem gfX10_darkSpots_2 : GoodIn vfX10_darkSpots (wsV RX10 267 RX0 yX0_find vfX0_find) := goodIn_app (goodIn_r [.methodLink RX10 267 yX0_find, .instanceMethod yX0_find, .selects RX0 yX0_find yX0_find, .initialized RX0] [10, 11, 12, 13] rfl (by decide +kernel)) (goodIn_m (fun _ h => (List.mem_cons_of_mem _ (List.mem_append_right _ (List.mem_append_right _ (List.mem_append_right _ (List.mem_append_right _ (List.mem_append_right _ (List.mem_append_left _ h)))))))) qfX0_find)
theorem gfX10_darkSpots_3 : GoodIn vfX10_darkSpots (va_wsS RX10 152 yX10_spotOf vfX10_spotOf) := goodIn_app (goodIn_r [.methodLink RX10 152 yX10_spotOf, .static yX10_spotOf, .initialized RX10] [16, 17, 4] rfl (by decide +kernel)) (goodIn_m (fun _ h => (List.mem_cons_of_mem _ (List.mem_append_right _ (List.mem_append_right _ (List.mem_append_right _ (List.mem_append_right _ (List.mem_append_right _ (List.mem_append_right _ h)))))))) qfX10_spotOf)
set_option maxHeartbeats 2000000 in
set_option maxRecDepth 100000 in
theorem kfX10_darkSpots (l : Launch) (dC : Nat → ClassId) (dI : Nat → Nat → Nat) (a0 : Nat) (a1 : Nat) (a2 : Nat) (up : Nat → Nat) (kp : Nat → ClassId) (ud : Nat → Nat) (kd : Nat → ClassId) (x_x : TX10_x) (g8 : Value) (g9 : Value) (g10 : Value) (g11 : Value) (g12 : Value) (g13 : Value) (p_p : TX6_p) (d_d : TX0_d) (sz : Nat) (out : (Int32 × TX10_x × TX0_d)) (h : f_X10_darkSpots x_x p_p d_d = some out) : KCi l yX10_darkSpots vfX10_darkSpots ({ frames := 4, cells := 0, slots := 0, locals := 88 }) (dC, dI) [.ref a0] sz ((a0, .inr (7, [.ref a1, g8, g9, g10, g11, g12, .ref a2, g13, .int x_x.1, .int x_x.2])) :: bX6 a1 up kp p_p (bX0 a2 ud kd d_d [])) (tX6 kp (tX0 kd ([]))) (fun (r : Int32) _ => r = out.1) ((a0, .inr (7, [.ref a1, g8, g9, g10, g11, g12, .ref a2, g13, .int out.2.1.1, .int out.2.1.2])) :: bX6 a1 up kp p_p (bX0 a2 ud kd out.2.2 [])) 0 0 := by
  refine Met.ofW (cc := cX10_darkSpots) (maxL := 3) (ret := (some .int)) (by decide) rfl ?_
  intro p e s m args below meth c s₁ B0 hml hv
  obtain ⟨rfl, hsz, hP, hK, hD0, hN⟩ := hv
  have hx := B0.exec
  have hb := B0.bytes
  have hr := B0.returns
  have hts := atoms_spec (ws := vfX10_darkSpots) B0.pre
  have hown : s.vm.findClass RX10 = some m.cls := findClass_of_methodNamed B0.named
  have hlocks := B0.notSynchronized
  subst hsz
  have hD := hD0.self (sz := s.heap.size)
  generalize hAe : va_A ((a0, .inr (7, [.ref a1, g8, g9, g10, g11, g12, .ref a2, g13, .int x_x.1, .int x_x.2])) :: bX6 a1 up kp p_p (bX0 a2 ud kd d_d [])) s.heap.size = A at hD ⊢
  have hA : ∀ q : Nat, s.heap.size ≤ q → A q := fun q h => by rw [← hAe]; exact Or.inr h
  have hS : va_S A s.heap s.heap [] := va_S.rf
  have hP : va_P (dC, dI) vwCl ((a0, .inr (7, [.ref a1, g8, g9, g10, g11, g12, .ref a2, g13, .int x_x.1, .int x_x.2])) :: bX6 a1 up kp p_p (bX0 a2 ud kd d_d [])) s.heap := hP
  have hl := lv_entry ([.ref a0]) (n := 3) (Nat.le_of_ble_eq_true rfl)
  rw [lg_entry_eq]
  generalize (lg_sl ([.ref a0]) ++ List.replicate (3 - (lg_sl ([.ref a0])).length) Slot.unset).toArray = ls at hl ⊢
  have hl : lv_has ls 3 [(0, .ref a0)] := hl
  refine W_q (fun QQ hQQ => ?_)
  rw [f_X10_darkSpots] at h
  refine lv_aload_n hx hb (zat zrX10_darkSpots_0_ok 0 rfl) rfl (lv_at hl 0 rfl) ?_
  refine lv_aload_n hx hb (zat zrX10_darkSpots_0_ok 1 rfl) rfl (lv_at hl 0 rfl) ?_
  obtain ⟨o2, eo2⟩ : ∃ o, o = f_X10_darkTrouble p_p := ⟨_, rfl⟩
  have h := nm_of h o2 eo2
  refine ck_i (wc := ((a0, .inr (7, [.ref a1, g8, g9, g10, g11, g12, .ref a2, g13, .int x_x.1, .int x_x.2])) :: bX6 a1 up kp p_p [])) (wr := (bX0 a2 ud kd d_d [])) hP hD hK hS hA [0, 1, 2, 3, 4, 5, 6, 7, 8, 9, 10] [11, 12] rfl rfl (by decide) (by decide) (by decide) (fun hPc hDc => (va_runV (As := []) (rest := [.ref a0]) ⟨hx, hb, hml, hown, hts⟩ (kfX10_darkTrouble l dC dI a0 a1 up kp (g8) (g9) (g10) (g11) (g12) (.ref a2) (g13) (.int x_x.1) (.int x_x.2) p_p s.heap.size o2 eo2.symm) (cwV 0 hts gfX10_darkSpots_0 rfl rfl rfl (by decide +kernel) ⟨(Nat.le_of_ble_eq_true rfl), (Nat.le_of_ble_eq_true rfl)⟩) (PV hPc (hK.sub (tys' := (tX6 kp ([]))) [0, 1, 2, 3, 4, 5, 6, 7, 8] rfl) hDc hN 0 rfl rfl) rfl rfl hl.1 rfl (lv_room (Nat.le_of_ble_eq_true rfl)) (zat zrX10_darkSpots_0_ok 2 rfl) ⟨(Nat.le_of_ble_eq_true rfl), (Nat.le_of_ble_eq_true rfl)⟩)) (fun r2 _ H locs hw hP hD _ hS => ?_)
  obtain rfl := hw.symm
  obtain ⟨hP, hD⟩ := pd_mk (bX0 a2 ud kd d_d ((a0, .inr (7, [.ref a1, g8, g9, g10, g11, g12, .ref a2, g13, .int x_x.1, .int x_x.2])) :: bX6 a1 up kp p_p [])) hP hD
  obtain ⟨o5, eo5⟩ : ∃ o, o = f_X10_refused o2 x_x := ⟨_, rfl⟩
  have h := nm_of h o5 eo5
  refine ck_i (wc := ([(a0, .inr (7, [.ref a1, g8, g9, g10, g11, g12, .ref a2, g13, .int x_x.1, .int x_x.2]))])) (wr := (bX0 a2 ud kd d_d (bX6 a1 up kp p_p []))) hP hD hK hS hA [2] [0, 1, 3, 4, 5, 6, 7, 8, 9, 10, 11, 12] rfl rfl (by decide) (by decide) (by decide) (fun hPc hDc => (va_runV (As := [.int o2]) (rest := []) ⟨hx, hb, hml, hown, hts⟩ (kfX10_refused l dC dI a0 o2 x_x (.ref a1) (g8) (g9) (g10) (g11) (g12) (.ref a2) (g13) H.size o5 eo5.symm) (cwV 1 hts gfX10_darkSpots_1 rfl rfl rfl (by decide +kernel) ⟨(Nat.le_of_ble_eq_true rfl), (Nat.le_of_ble_eq_true rfl)⟩) (PV hPc (hK.sub (tys' := ([])) [] rfl) hDc hN 0 rfl rfl) rfl rfl hl.1 rfl (lv_room (Nat.le_of_ble_eq_true rfl)) (zat zrX10_darkSpots_0_ok 3 rfl) ⟨(Nat.le_of_ble_eq_true rfl), (Nat.le_of_ble_eq_true rfl)⟩)) (fun r5 _ H locs hw hP hD _ hS => ?_)
  obtain ⟨hw, br5⟩ := hw
  obtain rfl := hw
  obtain ⟨hP, hD⟩ := pd_mk (bX0 a2 ud kd d_d (bX6 a1 up kp p_p ([(a0, .inr (7, [.ref a1, g8, g9, g10, g11, g12, .ref a2, g13, .int o5.2.1, .int o5.2.2]))]))) hP hD
  refine lv_if_eq (tgt := 13) hx hb (zat zrX10_darkSpots_0_ok 4 rfl) (by decide) (fun c8 => ?_) (fun c8 => ?_)
  · have h := (if_pos c8).symm.trans h
    refine lv_aload_n hx hb (zat zrX10_darkSpots_0_ok 7 rfl) rfl (lv_at hl 0 rfl) ?_
    refine va_get (D := (dC, dI)) (ci := 7) (v := .ref a2) (C := RX10) (T := TX10) (N := 10) hx hb hts ifX10_darkSpots_X10 hown hK hP 12 rfl rfl 6 (by decide) (hts (.fieldLink RX10 50 "HookPier" "dark" "LHookPier$Dark;") (List.mem_of_getElem? (i := 8) rfl)) (fun _ h9 => h9) rfl (zat zrX10_darkSpots_0_ok 8 rfl) ?_
    refine lv_aload_n hx hb (zat zrX10_darkSpots_0_ok 9 rfl) rfl (lv_at hl 0 rfl) ?_
    refine va_get (D := (dC, dI)) (ci := 7) (v := .ref a1) (C := RX10) (T := TX10) (N := 10) hx hb hts ifX10_darkSpots_X10 hown hK hP 12 rfl rfl 0 (by decide) (hts (.fieldLink RX10 10 "HookPier" "plan" "LHookPier$Plan;") (List.mem_of_getElem? (i := 9) rfl)) (fun _ h9 => h9) rfl (zat zrX10_darkSpots_0_ok 10 rfl) ?_
    obtain ⟨o21, eo21, h⟩ := bd_of h
    refine ck_v (wc := (bX0 a2 ud kd d_d (bX6 a1 up kp p_p []))) (wr := ([(a0, .inr (7, [.ref a1, g8, g9, g10, g11, g12, .ref a2, g13, .int o5.2.1, .int o5.2.2]))])) hP hD hK hS hA [0, 1, 2, 3, 4, 5, 6, 7, 8, 9, 10, 11] [12] rfl rfl (by decide) (by decide) (by decide) (fun hPc hDc => (va_runV (As := [.ref a1]) (rest := []) ⟨hx, hb, hml, hown, hts⟩ (kfX0_find l dC dI a2 a1 ud kd up kp d_d p_p H.size o21 eo21) (cwV 1 hts gfX10_darkSpots_2 rfl rfl rfl (by decide +kernel) ⟨(Nat.le_of_ble_eq_true rfl), (Nat.le_of_ble_eq_true rfl)⟩) (PV hPc (hK.sub (tys' := (tX0 kd (tX6 kp ([])))) [9, 0, 1, 2, 3, 4, 5, 6, 7, 8] rfl) hDc hN 0 rfl rfl) rfl rfl hl.1 rfl (lv_room (Nat.le_of_ble_eq_true rfl)) (zat zrX10_darkSpots_0_ok 11 rfl) ⟨(Nat.le_of_ble_eq_true rfl), (Nat.le_of_ble_eq_true rfl)⟩)) (fun _ H locs hw hP hD _ hS => ?_)
    obtain ⟨hP, hD⟩ := pd_mk ((a0, .inr (7, [.ref a1, g8, g9, g10, g11, g12, .ref a2, g13, .int o5.2.1, .int o5.2.2])) :: bX0 a2 ud kd o21 (bX6 a1 up kp p_p [])) hP hD
    refine lv_iconst (v := 0) hx hb (zat zrX10_darkSpots_0_ok 12 rfl) (by decide) ?_
    refine lv_istore_n (lv' := [(1, .int 0), (0, .ref a0)]) hx hb (zat zrX10_darkSpots_0_ok 13 rfl) rfl hl (by decide) rfl (fun ls hl => ?_)
    refine lv_iconst (v := 0) hx hb (zat zrX10_darkSpots_0_ok 14 rfl) (by decide) ?_
    refine lv_istore_n (lv' := [(2, .int 0), (1, .int 0), (0, .ref a0)]) hx hb (zat zrX10_darkSpots_0_ok 15 rfl) rfl hl (by decide) rfl (fun ls hl => ?_)
    have L28 : ∀ (n28 : Nat) (v28_l2 : Int32) (v28_l1 : Int32) (H : Heap) (locs : List Loc) (ls : Array Slot), f_X10_darkSpots_L28 o21 o5 n28 v28_l2 v28_l1 = some out → va_P (dC, dI) vwCl ((a0, .inr (7, [.ref a1, g8, g9, g10, g11, g12, .ref a2, g13, .int o5.2.1, .int o5.2.2])) :: bX0 a2 ud kd o21 (bX6 a1 up kp p_p [])) H → va_D A ((a0, .inr (7, [.ref a1, g8, g9, g10, g11, g12, .ref a2, g13, .int o5.2.1, .int o5.2.2])) :: bX0 a2 ud kd o21 (bX6 a1 up kp p_p [])) → va_S A s.heap H locs → lv_has ls 3 [(2, .int v28_l2), (1, .int v28_l1), (0, .ref a0)] → W p l e (headSpec vfX10_darkSpots { frames := 4, cells := 0, slots := 0, locals := 88 }).room s m ([.ref a0]).toArray below meth c H locs 0 0 QQ (F0 m 28 ls []) := by
      intro n28
      induction n28 with
      | zero =>
        intro v28_l2 v28_l1 H locs ls h  _ _ _ _
        rw [f_X10_darkSpots_L28] at h
        cases h
      | succ n28 ih28 =>
        intro v28_l2 v28_l1 H locs ls h  hP hD hS hl
        rw [f_X10_darkSpots_L28] at h
        refine lv_iload_n hx hb (zat zrX10_darkSpots_0_ok 16 rfl) rfl (lv_at hl 0 rfl) ?_
        refine lv_aload_n hx hb (zat zrX10_darkSpots_0_ok 17 rfl) rfl (lv_at hl 2 rfl) ?_
        refine va_get (D := (dC, dI)) (ci := 7) (v := .ref a2) (C := RX10) (T := TX10) (N := 10) hx hb hts ifX10_darkSpots_X10 hown hK hP 0 rfl rfl 6 (by decide) (hts (.fieldLink RX10 50 "HookPier" "dark" "LHookPier$Dark;") (List.mem_of_getElem? (i := 8) rfl)) (fun _ h9 => h9) rfl (zat zrX10_darkSpots_0_ok 18 rfl) ?_
        refine va_get (D := (dC, dI)) (ci := 0) (v := .int o21.2) (C := RX0) (T := TX0) (N := 2) hx hb hts ifX10_darkSpots_X0 hown hK hP 1 rfl rfl 1 (by decide) (hts (.fieldLink RX10 271 "HookPier$Dark" "many" "I") (List.mem_of_getElem? (i := 14) rfl)) (fun _ h9 => h9) rfl (zat zrX10_darkSpots_0_ok 19 rfl) ?_
        refine lv_icmp_ge (tgt := 62) hx hb (zat zrX10_darkSpots_0_ok 20 rfl) (by decide) (fun c36 => ?_) (fun c36 => ?_)
        · have h := (if_pos c36).symm.trans h
          refine lv_iload_n hx hb (zat zrX10_darkSpots_0_ok 34 rfl) rfl (lv_at hl 1 rfl) ?_
          obtain rfl := Option.some.inj h
          obtain ⟨hP9, hD9⟩ := pd_sub ((a0, .inr (7, [.ref a1, g8, g9, g10, g11, g12, .ref a2, g13, .int o5.2.1, .int o5.2.2])) :: bX6 a1 up kp p_p (bX0 a2 ud kd o21 [])) [0, 3, 4, 5, 6, 7, 8, 9, 10, 11, 12, 1, 2] hP hD (by decide) rfl
          have hK9 := hK.sub (tys' := []) [] rfl
          rw [hQQ]
          exact W.iret (v := v28_l1) hx hb hr (fun t ht hW => ⟨⟨v28_l1, (), rfl, rfl, by rw [ht]; exact hP9, va_K.moved hW.alike hK9, hD9⟩, hS.F ht⟩) hS.2.2 (zat zrX10_darkSpots_0_ok 35 rfl)
        · have h := (if_neg c36).symm.trans h
          refine lv_iload_n hx hb (zat zrX10_darkSpots_0_ok 21 rfl) rfl (lv_at hl 1 rfl) ?_
          refine lv_iconst (v := 1) hx hb (zat zrX10_darkSpots_0_ok 22 rfl) (by decide) ?_
          refine lv_aload_n hx hb (zat zrX10_darkSpots_0_ok 23 rfl) rfl (lv_at hl 2 rfl) ?_
          refine va_get (D := (dC, dI)) (ci := 7) (v := .ref a2) (C := RX10) (T := TX10) (N := 10) hx hb hts ifX10_darkSpots_X10 hown hK hP 0 rfl rfl 6 (by decide) (hts (.fieldLink RX10 50 "HookPier" "dark" "LHookPier$Dark;") (List.mem_of_getElem? (i := 8) rfl)) (fun _ h9 => h9) rfl (zat zrX10_darkSpots_0_ok 24 rfl) ?_
          refine va_get (D := (dC, dI)) (ci := 0) (v := .ref (ud 0)) (C := RX0) (T := TX0) (N := 2) hx hb hts ifX10_darkSpots_X0 hown hK hP 1 rfl rfl 0 (by decide) (hts (.fieldLink RX10 274 "HookPier$Dark" "place" "[I") (List.mem_of_getElem? (i := 15) rfl)) (fun _ h9 => h9) rfl (zat zrX10_darkSpots_0_ok 25 rfl) ?_
          refine lv_iload_n hx hb (zat zrX10_darkSpots_0_ok 26 rfl) rfl (lv_at hl 0 rfl) ?_
          obtain ⟨hg49, h⟩ := gA_of h
          refine va_iald hx hb hK hP 2 9 rfl rfl hg49 (zat zrX10_darkSpots_0_ok 27 rfl) ?_
          obtain ⟨o50, eo50⟩ : ∃ o, o = f_X10_spotOf (o21.1 (v28_l2).toNatClampNeg) := ⟨_, rfl⟩
          have h := nm_of h o50 eo50
          refine ck_i (wc := []) (wr := ((a0, .inr (7, [.ref a1, g8, g9, g10, g11, g12, .ref a2, g13, .int o5.2.1, .int o5.2.2])) :: bX0 a2 ud kd o21 (bX6 a1 up kp p_p []))) hP hD hK hS hA [] [0, 1, 2, 3, 4, 5, 6, 7, 8, 9, 10, 11, 12] rfl rfl (by decide) (by decide) (by decide) (fun hPc hDc => (va_runS (As := [.int (o21.1 (v28_l2).toNatClampNeg)]) (rest := [.int 1, .int v28_l1]) ⟨hx, hb, hml, hown, hts⟩ (kfX10_spotOf l dC dI (o21.1 (v28_l2).toNatClampNeg) H.size o50 eo50.symm) (va_cwS 1 hts gfX10_darkSpots_3 rfl rfl rfl (by decide +kernel) ⟨(Nat.le_of_ble_eq_true rfl), (Nat.le_of_ble_eq_true rfl)⟩) (PS hPc (hK.sub (tys' := ([])) [] rfl) hDc hN) rfl rfl hl.1 rfl (lv_room (Nat.le_of_ble_eq_true rfl)) (zat zrX10_darkSpots_0_ok 28 rfl) ⟨(Nat.le_of_ble_eq_true rfl), (Nat.le_of_ble_eq_true rfl)⟩)) (fun r50 _ H locs hw hP hD _ hS => ?_)
          obtain rfl := hw.symm
          obtain ⟨hP, hD⟩ := pd_mk ((a0, .inr (7, [.ref a1, g8, g9, g10, g11, g12, .ref a2, g13, .int o5.2.1, .int o5.2.2])) :: bX0 a2 ud kd o21 (bX6 a1 up kp p_p [])) hP hD
          refine lv_ishl hx hb (zat zrX10_darkSpots_0_ok 29 rfl) ?_
          refine lv_ior hx hb (zat zrX10_darkSpots_0_ok 30 rfl) ?_
          refine lv_istore_n (lv' := [(1, .int (v28_l1 ||| ((1 : Int32) <<< (o50 &&& 31)))), (2, .int v28_l2), (0, .ref a0)]) hx hb (zat zrX10_darkSpots_0_ok 31 rfl) rfl hl (by decide) rfl (fun ls hl => ?_)
          refine lv_iinc (v := (v28_l2 + (1 : Int32))) (lv' := [(2, .int (v28_l2 + (1 : Int32))), (1, .int (v28_l1 ||| ((1 : Int32) <<< (o50 &&& 31)))), (0, .ref a0)]) hx hb (zat zrX10_darkSpots_0_ok 32 rfl) hl (k := 1) rfl rfl (by decide) rfl (fun ls hl => ?_)
          refine lv_goto (tgt := 28) hx hb (zat zrX10_darkSpots_0_ok 33 rfl) (by decide) ?_
          exact ih28 (v28_l2 + (1 : Int32)) (v28_l1 ||| ((1 : Int32) <<< (o50 &&& 31))) H _ ls h  hP hD hS (lv_sub hl [0, 1, 2] rfl)
    exact L28 FU (0 : Int32) (0 : Int32) H _ ls h  hP hD hS (lv_sub hl [0, 1, 2] rfl)
  · have h := (if_neg c8).symm.trans h
    refine lv_iconst (v := (-1)) hx hb (zat zrX10_darkSpots_0_ok 5 rfl) (by decide) ?_
    obtain rfl := Option.some.inj h
    obtain ⟨hP9, hD9⟩ := pd_sub ((a0, .inr (7, [.ref a1, g8, g9, g10, g11, g12, .ref a2, g13, .int o5.2.1, .int o5.2.2])) :: bX6 a1 up kp p_p (bX0 a2 ud kd d_d [])) [12, 2, 3, 4, 5, 6, 7, 8, 9, 10, 11, 0, 1] hP hD (by decide) rfl
    have hK9 := hK.sub (tys' := []) [] rfl
    rw [hQQ]
    exact W.iret (v := (-1 : Int32)) hx hb hr (fun t ht hW => ⟨⟨(-1 : Int32), (), rfl, rfl, by rw [ht]; exact hP9, va_K.moved hW.alike hK9, hD9⟩, hS.F ht⟩) hS.2.2 (zat zrX10_darkSpots_0_ok 6 rfl)
noncomputable def zrX0_leftAtMost_0 : List ZR := zc 0 true (.iconst 0) 1 (zc 1 true (.istore_n 3) 1 (zc 2 true (.iconst 0) 1 (zc 3 true (.istore 4) 2 (zc 5 true (.iload 4) 2 (zc 7 true (.aload_n 0) 1 (zc 8 true (.getfield 15) 3 (zc 11 true (.if_icmp .ge 30) 3 (zc 14 true (.aload_n 1) 1 (zc 15 true (.getfield 37) 3 (zc 18 true (.aload_n 0) 1 (zc 19 true (.getfield 11) 3 (zc 22 true (.iload 4) 2 (zc 24 true (.iaload) 1 (zc 25 true (.iload_n 2) 1 (zc 26 true (.invokestatic 40) 3 (zc 29 true (.ifCond .eq 6) 3 (zc 32 true (.iinc 3 1) 3 (zc 35 true (.iinc 4 1) 3 (zc 38 true (.goto (-33)) 3 (zc 41 true (.iload_n 3) 1 (zc 42 true (.aload_n 0) 1 (zc 43 true (.getfield 15) 3 (zc 46 true (.iload_n 3) 1 (zc 47 true (.isub) 1 (zc 48 true (.invokestatic 44) 3 (zc 51 true (.ireturn) 1 ([])))))))))))))))))))))))))))
theorem zrX0_leftAtMost_0_ok : zck 0 ((zby cX0_leftAtMost).drop 0) zrX0_leftAtMost_0 = true := by decide +kernel
def vfX0_leftAtMost : List Cond := List.cons (.code yX0_leftAtMost cX0_leftAtMost 5 (some .int)) (apW [.fieldLink RX0 15 "HookPier$Dark" "many" "I", .methodLink RX0 44 Lib.Math.max.name, .static Lib.Math.max.name, .initialized "java/lang/Math", .code Lib.Math.max.name Lib.Math.max.code 2 (some .int), .fieldLink RX0 37 "HookPier$Plan" "darkHunger" "I", .fieldLink RX0 11 "HookPier$Dark" "place" "[I", .methodLink RX0 40 yX0_wouldBite, .static yX0_wouldBite, .initialized RX0] (apW wsX00 (apW wsX60 (vfX0_wouldBite))))
theorem ifX0_leftAtMost_X0 : ∀ w ∈ wsX00, w ∈ vfX0_leftAtMost := fun _ h => (List.mem_cons_of_mem _ (List.mem_append_right _ (List.mem_append_left _ h)))
theorem ifX0_leftAtMost_X6 : ∀ w ∈ wsX60, w ∈ vfX0_leftAtMost := fun _ h => (List.mem_cons_of_mem _ (List.mem_append_right _ (List.mem_append_right _ (List.mem_append_left _ h))))
theorem qfX0_leftAtMost : Good vfX0_leftAtMost := gd_cons (by decide +kernel) (gd_app (gd_dec (by decide +kernel) : Good [.fieldLink RX0 15 "HookPier$Dark" "many" "I", .methodLink RX0 44 Lib.Math.max.name, .static Lib.Math.max.name, .initialized "java/lang/Math", .code Lib.Math.max.name Lib.Math.max.code 2 (some .int), .fieldLink RX0 37 "HookPier$Plan" "darkHunger" "I", .fieldLink RX0 11 "HookPier$Dark" "place" "[I", .methodLink RX0 40 yX0_wouldBite, .static yX0_wouldBite, .initialized RX0]) (gd_app qsX0 (gd_app qsX6 qfX0_wouldBite)))
theorem gfX0_leftAtMost_0 : GoodIn vfX0_leftAtMost (va_wsS RX0 40 yX0_wouldBite vfX0_wouldBite) := goodIn_app (goodIn_r [.methodLink RX0 40 yX0_wouldBite, .static yX0_wouldBite, .initialized RX0] [8, 9, 10] rfl (by decide +kernel)) (goodIn_m (fun _ h => (List.mem_cons_of_mem _ (List.mem_append_right _ (List.mem_append_right _ (List.mem_append_right _ h))))) qfX0_wouldBite)
set_option maxHeartbeats 2000000 in
set_option maxRecDepth 100000 in
theorem kfX0_leftAtMost (l : Launch) (dC : Nat → ClassId) (dI : Nat → Nat → Nat) (a0 : Nat) (a1 : Nat) (k2 : Int32) (ud : Nat → Nat) (kd : Nat → ClassId) (up : Nat → Nat) (kp : Nat → ClassId) (d_d : TX0_d) (p_p : TX6_p) (sz : Nat) (out : Int32) (h : f_X0_leftAtMost k2 d_d p_p = some out) : KDi l yX0_leftAtMost vfX0_leftAtMost ({ frames := 2, cells := 0, slots := 0, locals := 44 }) (dC, dI) [.ref a0, .ref a1, .int k2] sz (bX0 a0 ud kd d_d (bX6 a1 up kp p_p [])) (tX0 kd (tX6 kp ([]))) (fun (r : Int32) _ => r = out) 0 0 := by
  refine Met.ofW (cc := cX0_leftAtMost) (maxL := 5) (ret := (some .int)) (by decide) rfl ?_
  intro p e s m args below meth c s₁ B0 hml hv
  obtain ⟨rfl, hsz, hP, hK, hD0, hN⟩ := hv
  have hx := B0.exec
  have hb := B0.bytes
  have hr := B0.returns
  have hts := atoms_spec (ws := vfX0_leftAtMost) B0.pre
  have hown : s.vm.findClass RX0 = some m.cls := findClass_of_methodNamed B0.named
  have hlocks := B0.notSynchronized
  subst hsz
  have hD := hD0.self (sz := s.heap.size)
  generalize hAe : va_A (bX0 a0 ud kd d_d (bX6 a1 up kp p_p [])) s.heap.size = A at hD ⊢
  have hA : ∀ q : Nat, s.heap.size ≤ q → A q := fun q h => by rw [← hAe]; exact Or.inr h
  have hS : va_S A s.heap s.heap [] := va_S.rf
  have hP : va_P (dC, dI) vwCl (bX0 a0 ud kd d_d (bX6 a1 up kp p_p [])) s.heap := hP
  have hl := lv_entry ([.ref a0, .ref a1, .int k2]) (n := 5) (Nat.le_of_ble_eq_true rfl)
  rw [lg_entry_eq]
  generalize (lg_sl ([.ref a0, .ref a1, .int k2]) ++ List.replicate (5 - (lg_sl ([.ref a0, .ref a1, .int k2])).length) Slot.unset).toArray = ls at hl ⊢
  have hl : lv_has ls 5 [(0, .ref a0), (1, .ref a1), (2, .int k2)] := hl
  refine W_q (fun QQ hQQ => ?_)
  rw [f_X0_leftAtMost] at h
  refine lv_iconst (v := 0) hx hb (zat zrX0_leftAtMost_0_ok 0 rfl) (by decide) ?_
  refine lv_istore_n (lv' := [(3, .int 0), (0, .ref a0), (1, .ref a1), (2, .int k2)]) hx hb (zat zrX0_leftAtMost_0_ok 1 rfl) rfl hl (by decide) rfl (fun ls hl => ?_)
  refine lv_iconst (v := 0) hx hb (zat zrX0_leftAtMost_0_ok 2 rfl) (by decide) ?_
  refine lv_istore (lv' := [(4, .int 0), (3, .int 0), (0, .ref a0), (1, .ref a1), (2, .int k2)]) hx hb (zat zrX0_leftAtMost_0_ok 3 rfl) hl (by decide) rfl (fun ls hl => ?_)
  have L5 : ∀ (n5 : Nat) (v5_l4 : Int32) (v5_l3 : Int32) (H : Heap) (locs : List Loc) (ls : Array Slot), f_X0_leftAtMost_L5 k2 d_d p_p n5 v5_l4 v5_l3 = some out → va_P (dC, dI) vwCl (bX0 a0 ud kd d_d (bX6 a1 up kp p_p [])) H → va_D A (bX0 a0 ud kd d_d (bX6 a1 up kp p_p [])) → va_S A s.heap H locs → lv_has ls 5 [(4, .int v5_l4), (3, .int v5_l3), (0, .ref a0), (1, .ref a1), (2, .int k2)] → W p l e (headSpec vfX0_leftAtMost { frames := 2, cells := 0, slots := 0, locals := 44 }).room s m ([.ref a0, .ref a1, .int k2]).toArray below meth c H locs 0 0 QQ (F0 m 5 ls []) := by
    intro n5
    induction n5 with
    | zero =>
      intro v5_l4 v5_l3 H locs ls h  _ _ _ _
      rw [f_X0_leftAtMost_L5] at h
      cases h
    | succ n5 ih5 =>
      intro v5_l4 v5_l3 H locs ls h  hP hD hS hl
      rw [f_X0_leftAtMost_L5] at h
      refine lv_iload hx hb (zat zrX0_leftAtMost_0_ok 4 rfl) (lv_at hl 0 rfl) ?_
      refine lv_aload_n hx hb (zat zrX0_leftAtMost_0_ok 5 rfl) rfl (lv_at hl 2 rfl) ?_
      refine va_get (D := (dC, dI)) (ci := 0) (v := .int d_d.2) (C := RX0) (T := TX0) (N := 2) hx hb hts ifX0_leftAtMost_X0 hown hK hP 0 rfl rfl 1 (by decide) (hts (.fieldLink RX0 15 "HookPier$Dark" "many" "I") (List.mem_of_getElem? (i := 1) rfl)) (fun _ h9 => h9) rfl (zat zrX0_leftAtMost_0_ok 6 rfl) ?_
      refine lv_icmp_ge (tgt := 41) hx hb (zat zrX0_leftAtMost_0_ok 7 rfl) (by decide) (fun c11 => ?_) (fun c11 => ?_)
      · have h := (if_pos c11).symm.trans h
        refine lv_iload_n hx hb (zat zrX0_leftAtMost_0_ok 20 rfl) rfl (lv_at hl 1 rfl) ?_
        refine lv_aload_n hx hb (zat zrX0_leftAtMost_0_ok 21 rfl) rfl (lv_at hl 2 rfl) ?_
        refine va_get (D := (dC, dI)) (ci := 0) (v := .int d_d.2) (C := RX0) (T := TX0) (N := 2) hx hb hts ifX0_leftAtMost_X0 hown hK hP 0 rfl rfl 1 (by decide) (hts (.fieldLink RX0 15 "HookPier$Dark" "many" "I") (List.mem_of_getElem? (i := 1) rfl)) (fun _ h9 => h9) rfl (zat zrX0_leftAtMost_0_ok 22 rfl) ?_
        refine lv_iload_n hx hb (zat zrX0_leftAtMost_0_ok 23 rfl) rfl (lv_at hl 1 rfl) ?_
        refine lv_isub hx hb (zat zrX0_leftAtMost_0_ok 24 rfl) ?_
        refine va_mmax hx hb (by rw [hml]; exact hl.1.symm) hown (hts (.methodLink RX0 44 Lib.Math.max.name) (List.mem_of_getElem? (i := 2) rfl)) (hts (.static Lib.Math.max.name) (List.mem_of_getElem? (i := 3) rfl)) (hts (.initialized "java/lang/Math") (List.mem_of_getElem? (i := 4) rfl)) (hts (.code Lib.Math.max.name Lib.Math.max.code 2 (some .int)) (List.mem_of_getElem? (i := 5) rfl)) (Nat.le_of_ble_eq_true rfl) (Nat.le_of_ble_eq_true rfl) (Nat.le_of_ble_eq_true rfl) (Nat.le_of_ble_eq_true rfl) (zat zrX0_leftAtMost_0_ok 25 rfl) ?_
        refine lv_topi (fun z48 ez48 => ?_)
        have h := nm_of h z48 ez48
        obtain rfl := Option.some.inj h
        obtain ⟨hP9, hD9⟩ := pd_sub (bX0 a0 ud kd d_d (bX6 a1 up kp p_p [])) [0, 1, 2, 3, 4, 5, 6, 7, 8, 9, 10, 11] hP hD (by decide) rfl
        have hK9 := hK.sub (tys' := []) [] rfl
        rw [hQQ]
        exact W.iret (v := z48) hx hb hr (fun t ht hW => ⟨⟨z48, (), rfl, rfl, by rw [ht]; exact hP9, va_K.moved hW.alike hK9, hD9⟩, hS.F ht⟩) hS.2.2 (zat zrX0_leftAtMost_0_ok 26 rfl)
      · have h := (if_neg c11).symm.trans h
        refine lv_aload_n hx hb (zat zrX0_leftAtMost_0_ok 8 rfl) rfl (lv_at hl 3 rfl) ?_
        refine va_get (D := (dC, dI)) (ci := 4) (v := .int p_p.2.2.2.2.2.2.2.2.1) (C := RX6) (T := TX6) (N := 18) hx hb hts ifX0_leftAtMost_X6 hown hK hP 2 rfl rfl 8 (by decide) (hts (.fieldLink RX0 37 "HookPier$Plan" "darkHunger" "I") (List.mem_of_getElem? (i := 6) rfl)) (fun _ h9 => h9) rfl (zat zrX0_leftAtMost_0_ok 9 rfl) ?_
        refine lv_aload_n hx hb (zat zrX0_leftAtMost_0_ok 10 rfl) rfl (lv_at hl 2 rfl) ?_
        refine va_get (D := (dC, dI)) (ci := 0) (v := .ref (ud 0)) (C := RX0) (T := TX0) (N := 2) hx hb hts ifX0_leftAtMost_X0 hown hK hP 0 rfl rfl 0 (by decide) (hts (.fieldLink RX0 11 "HookPier$Dark" "place" "[I") (List.mem_of_getElem? (i := 7) rfl)) (fun _ h9 => h9) rfl (zat zrX0_leftAtMost_0_ok 11 rfl) ?_
        refine lv_iload hx hb (zat zrX0_leftAtMost_0_ok 12 rfl) (lv_at hl 0 rfl) ?_
        obtain ⟨hg24, h⟩ := gA_of h
        refine va_iald hx hb hK hP 1 0 rfl rfl hg24 (zat zrX0_leftAtMost_0_ok 13 rfl) ?_
        refine lv_iload_n hx hb (zat zrX0_leftAtMost_0_ok 14 rfl) rfl (lv_at hl 4 rfl) ?_
        obtain ⟨o26, eo26⟩ : ∃ o, o = f_X0_wouldBite p_p.2.2.2.2.2.2.2.2.1 (d_d.1 (v5_l4).toNatClampNeg) k2 := ⟨_, rfl⟩
        have h := nm_of h o26 eo26
        refine ck_i (wc := []) (wr := (bX0 a0 ud kd d_d (bX6 a1 up kp p_p []))) hP hD hK hS hA [] [0, 1, 2, 3, 4, 5, 6, 7, 8, 9, 10, 11] rfl rfl (by decide) (by decide) (by decide) (fun hPc hDc => (va_runS (As := [.int p_p.2.2.2.2.2.2.2.2.1, .int (d_d.1 (v5_l4).toNatClampNeg), .int k2]) (rest := []) ⟨hx, hb, hml, hown, hts⟩ (kfX0_wouldBite l dC dI p_p.2.2.2.2.2.2.2.2.1 (d_d.1 (v5_l4).toNatClampNeg) k2 H.size o26 eo26.symm) (va_cwS 3 hts gfX0_leftAtMost_0 rfl rfl rfl (by decide +kernel) ⟨(Nat.le_of_ble_eq_true rfl), (Nat.le_of_ble_eq_true rfl)⟩) (PS hPc (hK.sub (tys' := ([])) [] rfl) hDc hN) rfl rfl hl.1 rfl (lv_room (Nat.le_of_ble_eq_true rfl)) (zat zrX0_leftAtMost_0_ok 15 rfl) ⟨(Nat.le_of_ble_eq_true rfl), (Nat.le_of_ble_eq_true rfl)⟩)) (fun r26 _ H locs hw hP hD _ hS => ?_)
        obtain ⟨hw, br26⟩ := hw
        obtain rfl := hw.symm
        obtain ⟨hP, hD⟩ := pd_mk (bX0 a0 ud kd d_d (bX6 a1 up kp p_p [])) hP hD
        have J35 : ∀ (v35_l3 : Int32) (H : Heap) (locs : List Loc) (ls : Array Slot), f_X0_leftAtMost_J35 (f_X0_leftAtMost_L5 k2 d_d p_p n5) v5_l4 v35_l3 = some out → va_P (dC, dI) vwCl (bX0 a0 ud kd d_d (bX6 a1 up kp p_p [])) H → va_D A (bX0 a0 ud kd d_d (bX6 a1 up kp p_p [])) → va_S A s.heap H locs → lv_has ls 5 [(4, .int v5_l4), (3, .int v35_l3), (0, .ref a0), (1, .ref a1), (2, .int k2)] → W p l e (headSpec vfX0_leftAtMost { frames := 2, cells := 0, slots := 0, locals := 44 }).room s m ([.ref a0, .ref a1, .int k2]).toArray below meth c H locs 0 0 QQ (F0 m 35 ls []) := by
          intro v35_l3 H locs ls h  hP hD hS hl
          rw [f_X0_leftAtMost_J35] at h
          refine lv_iinc (v := (v5_l4 + (1 : Int32))) (lv' := [(4, .int (v5_l4 + (1 : Int32))), (3, .int v35_l3), (0, .ref a0), (1, .ref a1), (2, .int k2)]) hx hb (zat zrX0_leftAtMost_0_ok 18 rfl) hl (k := 0) rfl rfl (by decide) rfl (fun ls hl => ?_)
          refine lv_goto (tgt := 5) hx hb (zat zrX0_leftAtMost_0_ok 19 rfl) (by decide) ?_
          exact ih5 (v5_l4 + (1 : Int32)) v35_l3 H _ ls h  hP hD hS (lv_sub hl [0, 1, 2, 3, 4] rfl)
        refine lv_if_eq (tgt := 35) hx hb (zat zrX0_leftAtMost_0_ok 16 rfl) (by decide) (fun c29 => ?_) (fun c29 => ?_)
        · have h := (if_pos c29).symm.trans h
          exact J35 v5_l3 H _ ls h  hP hD hS (lv_sub hl [0, 1, 2, 3, 4] rfl)
        · have h := (if_neg c29).symm.trans h
          refine lv_iinc (v := (v5_l3 + (1 : Int32))) (lv' := [(3, .int (v5_l3 + (1 : Int32))), (4, .int v5_l4), (0, .ref a0), (1, .ref a1), (2, .int k2)]) hx hb (zat zrX0_leftAtMost_0_ok 17 rfl) hl (k := 1) rfl rfl (by decide) rfl (fun ls hl => ?_)
          exact J35 (v5_l3 + (1 : Int32)) H _ ls h  hP hD hS (lv_sub hl [1, 0, 2, 3, 4] rfl)
  exact L5 FU (0 : Int32) (0 : Int32) s.heap _ ls h  hP hD hS (lv_sub hl [0, 1, 2, 3, 4] rfl)
noncomputable def zrX0_tellingQuestion_0 : List ZR := zc 0 true (.bipush (-2)) 2 (zc 2 true (.istore_n 2) 1 (zc 3 true (.aload_n 0) 1 (zc 4 true (.getfield 15) 3 (zc 7 true (.istore_n 3) 1 (zc 8 true (.iconst 0) 1 (zc 9 true (.istore 4) 2 (zc 11 true (.iload 4) 2 (zc 13 true (.aload_n 1) 1 (zc 14 true (.invokevirtual 19) 3 (zc 17 true (.if_icmp .ge 52) 3 (zc 20 true (.aload_n 0) 1 (zc 21 true (.getfield 15) 3 (zc 24 true (.ifCond .le 45) 3 (zc 27 true (.aload_n 1) 1 (zc 28 true (.iload 4) 2 (zc 30 true (.invokevirtual 25) 3 (zc 33 true (.ifCond .eq 30) 3 (zc 36 true (.aload_n 0) 1 (zc 37 true (.aload_n 1) 1 (zc 38 true (.iload 4) 2 (zc 40 true (.invokevirtual 33) 3 (zc 43 true (.istore 5) 2 (zc 45 true (.iload_n 2) 1 (zc 46 true (.bipush (-2)) 2 (zc 48 true (.if_icmp .eq 9) 3 (zc 51 true (.iload 5) 2 (zc 53 true (.iload_n 3) 1 (zc 54 true (.if_icmp .ge 9) 3 (zc 57 true (.iload 5) 2 (zc 59 true (.istore_n 3) 1 (zc 60 true (.iload 4) 2 (zc 62 true (.istore_n 2) 1 (zc 63 true (.iinc 4 1) 3 (zc 66 true (.goto (-55)) 3 (zc 69 true (.iload_n 2) 1 (zc 70 true (.ireturn) 1 ([])))))))))))))))))))))))))))))))))))))
theorem zrX0_tellingQuestion_0_ok : zck 0 ((zby cX0_tellingQuestion).drop 0) zrX0_tellingQuestion_0 = true := by decide +kernel
def vfX0_tellingQuestion : List Cond := List.cons (.code yX0_tellingQuestion cX0_tellingQuestion 6 (some .int)) (apW [.fieldLink RX0 15 "HookPier$Dark" "many" "I", .methodLink RX0 19 yX6_questionBound, .instanceMethod yX6_questionBound, .selects RX6 yX6_questionBound yX6_questionBound, .initialized RX6, .methodLink RX0 25 yX6_hasQuestion, .instanceMethod yX6_hasQuestion, .selects RX6 yX6_hasQuestion yX6_hasQuestion, .methodLink RX0 33 yX0_leftAtMost, .instanceMethod yX0_leftAtMost, .selects RX0 yX0_leftAtMost yX0_leftAtMost, .initialized RX0] (apW wsX00 (apW vfX6_questionBound (apW vfX6_hasQuestion (vfX0_leftAtMost)))))
theorem ifX0_tellingQuestion_X0 : ∀ w ∈ wsX00, w ∈ vfX0_tellingQuestion := fun _ h => (List.mem_cons_of_mem _ (List.mem_append_right _ (List.mem_append_left _ h)))
theorem qfX0_tellingQuestion : Good vfX0_tellingQuestion := gd_cons (by decide +kernel) (gd_app (gd_dec (by decide +kernel) : Good [.fieldLink RX0 15 "HookPier$Dark" "many" "I", .methodLink RX0 19 yX6_questionBound, .instanceMethod yX6_questionBound, .selects RX6 yX6_questionBound yX6_questionBound, .initialized RX6, .methodLink RX0 25 yX6_hasQuestion, .instanceMethod yX6_hasQuestion, .selects RX6 yX6_hasQuestion yX6_hasQuestion, .methodLink RX0 33 yX0_leftAtMost, .instanceMethod yX0_leftAtMost, .selects RX0 yX0_leftAtMost yX0_leftAtMost, .initialized RX0]) (gd_app qsX0 (gd_app qfX6_questionBound (gd_app qfX6_hasQuestion qfX0_leftAtMost))))
theorem gfX0_tellingQuestion_0 : GoodIn vfX0_tellingQuestion (wsV RX0 19 RX6 yX6_questionBound vfX6_questionBound) := goodIn_app (goodIn_r [.methodLink RX0 19 yX6_questionBound, .instanceMethod yX6_questionBound, .selects RX6 yX6_questionBound yX6_questionBound, .initialized RX6] [2, 3, 4, 5] rfl (by decide +kernel)) (goodIn_m (fun _ h => (List.mem_cons_of_mem _ (List.mem_append_right _ (List.mem_append_right _ (List.mem_append_left _ h))))) qfX6_questionBound)
theorem gfX0_tellingQuestion_1 : GoodIn vfX0_tellingQuestion (wsV RX0 25 RX6 yX6_hasQuestion vfX6_hasQuestion) := goodIn_app (goodIn_r [.methodLink RX0 25 yX6_hasQuestion, .instanceMethod yX6_hasQuestion, .selects RX6 yX6_hasQuestion yX6_hasQuestion, .initialized RX6] [6, 7, 8, 5] rfl (by decide +kernel)) (goodIn_m (fun _ h => (List.mem_cons_of_mem _ (List.mem_append_right _ (List.mem_append_right _ (List.mem_append_right _ (List.mem_append_left _ h)))))) qfX6_hasQuestion)
theorem gfX0_tellingQuestion_2 : GoodIn vfX0_tellingQuestion (wsV RX0 33 RX0 yX0_leftAtMost vfX0_leftAtMost) := goodIn_app (goodIn_r [.methodLink RX0 33 yX0_leftAtMost, .instanceMethod yX0_leftAtMost, .selects RX0 yX0_leftAtMost yX0_leftAtMost, .initialized RX0] [9, 10, 11, 12] rfl (by decide +kernel)) (goodIn_m (fun _ h => (List.mem_cons_of_mem _ (List.mem_append_right _ (List.mem_append_right _ (List.mem_append_right _ (List.mem_append_right _ h)))))) qfX0_leftAtMost)
set_option maxHeartbeats 2000000 in
set_option maxRecDepth 100000 in
theorem kfX0_tellingQuestion (l : Launch) (dC : Nat → ClassId) (dI : Nat → Nat → Nat) (a0 : Nat) (a1 : Nat) (ud : Nat → Nat) (kd : Nat → ClassId) (up : Nat → Nat) (kp : Nat → ClassId) (d_d : TX0_d) (p_p : TX6_p) (sz : Nat) (out : Int32) (h : f_X0_tellingQuestion d_d p_p = some out) : KDi l yX0_tellingQuestion vfX0_tellingQuestion ({ frames := 3, cells := 0, slots := 0, locals := 68 }) (dC, dI) [.ref a0, .ref a1] sz (bX0 a0 ud kd d_d (bX6 a1 up kp p_p [])) (tX0 kd (tX6 kp ([]))) (fun (r : Int32) _ => r = out) 0 0 := by
  refine Met.ofW (cc := cX0_tellingQuestion) (maxL := 6) (ret := (some .int)) (by decide) rfl ?_
  intro p e s m args below meth c s₁ B0 hml hv
  obtain ⟨rfl, hsz, hP, hK, hD0, hN⟩ := hv
  have hx := B0.exec
  have hb := B0.bytes
  have hr := B0.returns
  have hts := atoms_spec (ws := vfX0_tellingQuestion) B0.pre
  have hown : s.vm.findClass RX0 = some m.cls := findClass_of_methodNamed B0.named
  have hlocks := B0.notSynchronized
  subst hsz
  have hD := hD0.self (sz := s.heap.size)
  generalize hAe : va_A (bX0 a0 ud kd d_d (bX6 a1 up kp p_p [])) s.heap.size = A at hD ⊢
  have hA : ∀ q : Nat, s.heap.size ≤ q → A q := fun q h => by rw [← hAe]; exact Or.inr h
  have hS : va_S A s.heap s.heap [] := va_S.rf
  have hP : va_P (dC, dI) vwCl (bX0 a0 ud kd d_d (bX6 a1 up kp p_p [])) s.heap := hP
  have hl := lv_entry ([.ref a0, .ref a1]) (n := 6) (Nat.le_of_ble_eq_true rfl)
  rw [lg_entry_eq]
  generalize (lg_sl ([.ref a0, .ref a1]) ++ List.replicate (6 - (lg_sl ([.ref a0, .ref a1])).length) Slot.unset).toArray = ls at hl ⊢
  have hl : lv_has ls 6 [(0, .ref a0), (1, .ref a1)] := hl
  refine W_q (fun QQ hQQ => ?_)
  rw [f_X0_tellingQuestion] at h
  refine lv_bipush (v := (-2)) hx hb (zat zrX0_tellingQuestion_0_ok 0 rfl) (by decide) ?_
  refine lv_istore_n (lv' := [(2, .int (-2)), (0, .ref a0), (1, .ref a1)]) hx hb (zat zrX0_tellingQuestion_0_ok 1 rfl) rfl hl (by decide) rfl (fun ls hl => ?_)
  refine lv_aload_n hx hb (zat zrX0_tellingQuestion_0_ok 2 rfl) rfl (lv_at hl 1 rfl) ?_
  refine va_get (D := (dC, dI)) (ci := 0) (v := .int d_d.2) (C := RX0) (T := TX0) (N := 2) hx hb hts ifX0_tellingQuestion_X0 hown hK hP 0 rfl rfl 1 (by decide) (hts (.fieldLink RX0 15 "HookPier$Dark" "many" "I") (List.mem_of_getElem? (i := 1) rfl)) (fun _ h9 => h9) rfl (zat zrX0_tellingQuestion_0_ok 3 rfl) ?_
  refine lv_istore_n (lv' := [(3, .int d_d.2), (2, .int (-2)), (0, .ref a0), (1, .ref a1)]) hx hb (zat zrX0_tellingQuestion_0_ok 4 rfl) rfl hl (by decide) rfl (fun ls hl => ?_)
  refine lv_iconst (v := 0) hx hb (zat zrX0_tellingQuestion_0_ok 5 rfl) (by decide) ?_
  refine lv_istore (lv' := [(4, .int 0), (3, .int d_d.2), (2, .int (-2)), (0, .ref a0), (1, .ref a1)]) hx hb (zat zrX0_tellingQuestion_0_ok 6 rfl) hl (by decide) rfl (fun ls hl => ?_)
  have L11 : ∀ (n11 : Nat) (v11_l4 : Int32) (v11_l3 : Int32) (v11_l2 : Int32) (H : Heap) (locs : List Loc) (ls : Array Slot), f_X0_tellingQuestion_L11 d_d p_p n11 v11_l4 v11_l3 v11_l2 = some out → va_P (dC, dI) vwCl (bX0 a0 ud kd d_d (bX6 a1 up kp p_p [])) H → va_D A (bX0 a0 ud kd d_d (bX6 a1 up kp p_p [])) → va_S A s.heap H locs → lv_has ls 6 [(4, .int v11_l4), (3, .int v11_l3), (2, .int v11_l2), (0, .ref a0), (1, .ref a1)] → W p l e (headSpec vfX0_tellingQuestion { frames := 3, cells := 0, slots := 0, locals := 68 }).room s m ([.ref a0, .ref a1]).toArray below meth c H locs 0 0 QQ (F0 m 11 ls []) := by
    intro n11
    induction n11 with
    | zero =>
      intro v11_l4 v11_l3 v11_l2 H locs ls h  _ _ _ _
      rw [f_X0_tellingQuestion_L11] at h
      cases h
    | succ n11 ih11 =>
      intro v11_l4 v11_l3 v11_l2 H locs ls h  hP hD hS hl
      rw [f_X0_tellingQuestion_L11] at h
      refine lv_iload hx hb (zat zrX0_tellingQuestion_0_ok 7 rfl) (lv_at hl 0 rfl) ?_
      refine lv_aload_n hx hb (zat zrX0_tellingQuestion_0_ok 8 rfl) rfl (lv_at hl 4 rfl) ?_
      obtain ⟨o14, eo14⟩ : ∃ o, o = f_X6_questionBound p_p := ⟨_, rfl⟩
      have h := nm_of h o14 eo14
      refine ck_i (wc := (bX6 a1 up kp p_p [])) (wr := (bX0 a0 ud kd d_d [])) hP hD hK hS hA [2, 3, 4, 5, 6, 7, 8, 9, 10, 11] [0, 1] rfl rfl (by decide) (by decide) (by decide) (fun hPc hDc => (va_runV (As := []) (rest := [.int v11_l4]) ⟨hx, hb, hml, hown, hts⟩ (kfX6_questionBound l dC dI a1 up kp p_p H.size o14 eo14.symm) (cwV 0 hts gfX0_tellingQuestion_0 rfl rfl rfl (by decide +kernel) ⟨(Nat.le_of_ble_eq_true rfl), (Nat.le_of_ble_eq_true rfl)⟩) (PV hPc (hK.sub (tys' := (tX6 kp ([]))) [1, 2, 3, 4, 5, 6, 7, 8, 9] rfl) hDc hN 0 rfl rfl) rfl rfl hl.1 rfl (lv_room (Nat.le_of_ble_eq_true rfl)) (zat zrX0_tellingQuestion_0_ok 9 rfl) ⟨(Nat.le_of_ble_eq_true rfl), (Nat.le_of_ble_eq_true rfl)⟩)) (fun r14 _ H locs hw hP hD _ hS => ?_)
      obtain rfl := hw.symm
      obtain ⟨hP, hD⟩ := pd_mk (bX0 a0 ud kd d_d (bX6 a1 up kp p_p [])) hP hD
      have J69 : ∀ (H : Heap) (locs : List Loc) (ls : Array Slot), f_X0_tellingQuestion_J69 v11_l2 = some out → va_P (dC, dI) vwCl (bX0 a0 ud kd d_d (bX6 a1 up kp p_p [])) H → va_D A (bX0 a0 ud kd d_d (bX6 a1 up kp p_p [])) → va_S A s.heap H locs → lv_has ls 6 [(2, .int v11_l2)] → W p l e (headSpec vfX0_tellingQuestion { frames := 3, cells := 0, slots := 0, locals := 68 }).room s m ([.ref a0, .ref a1]).toArray below meth c H locs 0 0 QQ (F0 m 69 ls []) := by
        intro  H locs ls h  hP hD hS hl
        rw [f_X0_tellingQuestion_J69] at h
        refine lv_iload_n hx hb (zat zrX0_tellingQuestion_0_ok 35 rfl) rfl (lv_at hl 0 rfl) ?_
        obtain rfl := Option.some.inj h
        obtain ⟨hP9, hD9⟩ := pd_sub (bX0 a0 ud kd d_d (bX6 a1 up kp p_p [])) [0, 1, 2, 3, 4, 5, 6, 7, 8, 9, 10, 11] hP hD (by decide) rfl
        have hK9 := hK.sub (tys' := []) [] rfl
        rw [hQQ]
        exact W.iret (v := v11_l2) hx hb hr (fun t ht hW => ⟨⟨v11_l2, (), rfl, rfl, by rw [ht]; exact hP9, va_K.moved hW.alike hK9, hD9⟩, hS.F ht⟩) hS.2.2 (zat zrX0_tellingQuestion_0_ok 36 rfl)
      refine lv_icmp_ge (tgt := 69) hx hb (zat zrX0_tellingQuestion_0_ok 10 rfl) (by decide) (fun c17 => ?_) (fun c17 => ?_)
      · have h := (if_pos c17).symm.trans h
        exact J69  H _ ls h  hP hD hS (lv_sub hl [2] rfl)
      · have h := (if_neg c17).symm.trans h
        refine lv_aload_n hx hb (zat zrX0_tellingQuestion_0_ok 11 rfl) rfl (lv_at hl 3 rfl) ?_
        refine va_get (D := (dC, dI)) (ci := 0) (v := .int d_d.2) (C := RX0) (T := TX0) (N := 2) hx hb hts ifX0_tellingQuestion_X0 hown hK hP 0 rfl rfl 1 (by decide) (hts (.fieldLink RX0 15 "HookPier$Dark" "many" "I") (List.mem_of_getElem? (i := 1) rfl)) (fun _ h9 => h9) rfl (zat zrX0_tellingQuestion_0_ok 12 rfl) ?_
        refine lv_if_le (tgt := 69) hx hb (zat zrX0_tellingQuestion_0_ok 13 rfl) (by decide) (fun c24 => ?_) (fun c24 => ?_)
        · have h := (if_pos c24).symm.trans h
          exact J69  H _ ls h  hP hD hS (lv_sub hl [2] rfl)
        · have h := (if_neg c24).symm.trans h
          refine lv_aload_n hx hb (zat zrX0_tellingQuestion_0_ok 14 rfl) rfl (lv_at hl 4 rfl) ?_
          refine lv_iload hx hb (zat zrX0_tellingQuestion_0_ok 15 rfl) (lv_at hl 0 rfl) ?_
          obtain ⟨o30, eo30⟩ : ∃ o, o = f_X6_hasQuestion v11_l4 p_p := ⟨_, rfl⟩
          have h := nm_of h o30 eo30
          refine ck_i (wc := (bX6 a1 up kp p_p [])) (wr := (bX0 a0 ud kd d_d [])) hP hD hK hS hA [2, 3, 4, 5, 6, 7, 8, 9, 10, 11] [0, 1] rfl rfl (by decide) (by decide) (by decide) (fun hPc hDc => (va_runV (As := [.int v11_l4]) (rest := []) ⟨hx, hb, hml, hown, hts⟩ (kfX6_hasQuestion l dC dI a1 v11_l4 up kp p_p H.size o30 eo30.symm) (cwV 1 hts gfX0_tellingQuestion_1 rfl rfl rfl (by decide +kernel) ⟨(Nat.le_of_ble_eq_true rfl), (Nat.le_of_ble_eq_true rfl)⟩) (PV hPc (hK.sub (tys' := (tX6 kp ([]))) [1, 2, 3, 4, 5, 6, 7, 8, 9] rfl) hDc hN 0 rfl rfl) rfl rfl hl.1 rfl (lv_room (Nat.le_of_ble_eq_true rfl)) (zat zrX0_tellingQuestion_0_ok 16 rfl) ⟨(Nat.le_of_ble_eq_true rfl), (Nat.le_of_ble_eq_true rfl)⟩)) (fun r30 _ H locs hw hP hD _ hS => ?_)
          obtain ⟨hw, br30⟩ := hw
          obtain rfl := hw.symm
          obtain ⟨hP, hD⟩ := pd_mk (bX0 a0 ud kd d_d (bX6 a1 up kp p_p [])) hP hD
          have J63 : ∀ (v63_l3 : Int32) (v63_l2 : Int32) (H : Heap) (locs : List Loc) (ls : Array Slot), f_X0_tellingQuestion_J63 (f_X0_tellingQuestion_L11 d_d p_p n11) v11_l4 v63_l3 v63_l2 = some out → va_P (dC, dI) vwCl (bX0 a0 ud kd d_d (bX6 a1 up kp p_p [])) H → va_D A (bX0 a0 ud kd d_d (bX6 a1 up kp p_p [])) → va_S A s.heap H locs → lv_has ls 6 [(4, .int v11_l4), (3, .int v63_l3), (2, .int v63_l2), (0, .ref a0), (1, .ref a1)] → W p l e (headSpec vfX0_tellingQuestion { frames := 3, cells := 0, slots := 0, locals := 68 }).room s m ([.ref a0, .ref a1]).toArray below meth c H locs 0 0 QQ (F0 m 63 ls []) := by
            intro v63_l3 v63_l2 H locs ls h  hP hD hS hl
            rw [f_X0_tellingQuestion_J63] at h
            refine lv_iinc (v := (v11_l4 + (1 : Int32))) (lv' := [(4, .int (v11_l4 + (1 : Int32))), (3, .int v63_l3), (2, .int v63_l2), (0, .ref a0), (1, .ref a1)]) hx hb (zat zrX0_tellingQuestion_0_ok 33 rfl) hl (k := 0) rfl rfl (by decide) rfl (fun ls hl => ?_)
            refine lv_goto (tgt := 11) hx hb (zat zrX0_tellingQuestion_0_ok 34 rfl) (by decide) ?_
            exact ih11 (v11_l4 + (1 : Int32)) v63_l3 v63_l2 H _ ls h  hP hD hS (lv_sub hl [0, 1, 2, 3, 4] rfl)
          refine lv_if_eq (tgt := 63) hx hb (zat zrX0_tellingQuestion_0_ok 17 rfl) (by decide) (fun c33 => ?_) (fun c33 => ?_)
          · have h := (if_pos c33).symm.trans h
            exact J63 v11_l3 v11_l2 H _ ls h  hP hD hS (lv_sub hl [0, 1, 2, 3, 4] rfl)
          · have h := (if_neg c33).symm.trans h
            refine lv_aload_n hx hb (zat zrX0_tellingQuestion_0_ok 18 rfl) rfl (lv_at hl 3 rfl) ?_
            refine lv_aload_n hx hb (zat zrX0_tellingQuestion_0_ok 19 rfl) rfl (lv_at hl 4 rfl) ?_
            refine lv_iload hx hb (zat zrX0_tellingQuestion_0_ok 20 rfl) (lv_at hl 0 rfl) ?_
            obtain ⟨o40, eo40, h⟩ := bd_of h
            refine ck_i (wc := (bX0 a0 ud kd d_d (bX6 a1 up kp p_p []))) (wr := []) hP hD hK hS hA [0, 1, 2, 3, 4, 5, 6, 7, 8, 9, 10, 11] [] rfl rfl (by decide) (by decide) (by decide) (fun hPc hDc => (va_runV (As := [.ref a1, .int v11_l4]) (rest := []) ⟨hx, hb, hml, hown, hts⟩ (kfX0_leftAtMost l dC dI a0 a1 v11_l4 ud kd up kp d_d p_p H.size o40 eo40) (cwV 2 hts gfX0_tellingQuestion_2 rfl rfl rfl (by decide +kernel) ⟨(Nat.le_of_ble_eq_true rfl), (Nat.le_of_ble_eq_true rfl)⟩) (PV hPc (hK.sub (tys' := (tX0 kd (tX6 kp ([])))) [0, 1, 2, 3, 4, 5, 6, 7, 8, 9] rfl) hDc hN 0 rfl rfl) rfl rfl hl.1 rfl (lv_room (Nat.le_of_ble_eq_true rfl)) (zat zrX0_tellingQuestion_0_ok 21 rfl) ⟨(Nat.le_of_ble_eq_true rfl), (Nat.le_of_ble_eq_true rfl)⟩)) (fun r40 _ H locs hw hP hD _ hS => ?_)
            obtain rfl := hw.symm
            obtain ⟨hP, hD⟩ := pd_mk (bX0 a0 ud kd d_d (bX6 a1 up kp p_p [])) hP hD
            refine lv_istore (lv' := [(5, .int o40), (4, .int v11_l4), (3, .int v11_l3), (2, .int v11_l2), (0, .ref a0), (1, .ref a1)]) hx hb (zat zrX0_tellingQuestion_0_ok 22 rfl) hl (by decide) rfl (fun ls hl => ?_)
            refine lv_iload_n hx hb (zat zrX0_tellingQuestion_0_ok 23 rfl) rfl (lv_at hl 3 rfl) ?_
            refine lv_bipush (v := (-2)) hx hb (zat zrX0_tellingQuestion_0_ok 24 rfl) (by decide) ?_
            have J57 : ∀ (H : Heap) (locs : List Loc) (ls : Array Slot), f_X0_tellingQuestion_J57 (f_X0_tellingQuestion_L11 d_d p_p n11) o40 v11_l4 = some out → va_P (dC, dI) vwCl (bX0 a0 ud kd d_d (bX6 a1 up kp p_p [])) H → va_D A (bX0 a0 ud kd d_d (bX6 a1 up kp p_p [])) → va_S A s.heap H locs → lv_has ls 6 [(5, .int o40), (4, .int v11_l4), (0, .ref a0), (1, .ref a1)] → W p l e (headSpec vfX0_tellingQuestion { frames := 3, cells := 0, slots := 0, locals := 68 }).room s m ([.ref a0, .ref a1]).toArray below meth c H locs 0 0 QQ (F0 m 57 ls []) := by
              intro  H locs ls h  hP hD hS hl
              rw [f_X0_tellingQuestion_J57] at h
              refine lv_iload hx hb (zat zrX0_tellingQuestion_0_ok 29 rfl) (lv_at hl 0 rfl) ?_
              refine lv_istore_n (lv' := [(3, .int o40), (5, .int o40), (4, .int v11_l4), (0, .ref a0), (1, .ref a1)]) hx hb (zat zrX0_tellingQuestion_0_ok 30 rfl) rfl hl (by decide) rfl (fun ls hl => ?_)
              refine lv_iload hx hb (zat zrX0_tellingQuestion_0_ok 31 rfl) (lv_at hl 2 rfl) ?_
              refine lv_istore_n (lv' := [(2, .int v11_l4), (3, .int o40), (5, .int o40), (4, .int v11_l4), (0, .ref a0), (1, .ref a1)]) hx hb (zat zrX0_tellingQuestion_0_ok 32 rfl) rfl hl (by decide) rfl (fun ls hl => ?_)
              exact J63 o40 v11_l4 H _ ls h  hP hD hS (lv_sub hl [3, 1, 0, 4, 5] rfl)
            refine lv_icmp_eq (tgt := 57) hx hb (zat zrX0_tellingQuestion_0_ok 25 rfl) (by decide) (fun c48 => ?_) (fun c48 => ?_)
            · have h := (if_pos c48).symm.trans h
              exact J57  H _ ls h  hP hD hS (lv_sub hl [0, 1, 4, 5] rfl)
            · have h := (if_neg c48).symm.trans h
              refine lv_iload hx hb (zat zrX0_tellingQuestion_0_ok 26 rfl) (lv_at hl 0 rfl) ?_
              refine lv_iload_n hx hb (zat zrX0_tellingQuestion_0_ok 27 rfl) rfl (lv_at hl 2 rfl) ?_
              refine lv_icmp_ge (tgt := 63) hx hb (zat zrX0_tellingQuestion_0_ok 28 rfl) (by decide) (fun c54 => ?_) (fun c54 => ?_)
              · have h := (if_pos c54).symm.trans h
                exact J63 v11_l3 v11_l2 H _ ls h  hP hD hS (lv_sub hl [1, 2, 3, 4, 5] rfl)
              · have h := (if_neg c54).symm.trans h
                exact J57  H _ ls h  hP hD hS (lv_sub hl [0, 1, 4, 5] rfl)
  exact L11 FU (0 : Int32) d_d.2 (-2 : Int32) s.heap _ ls h  hP hD hS (lv_sub hl [0, 1, 2, 3, 4] rfl)
noncomputable def zrX10_ask_0 : List ZR := zc 0 true (.aload_n 0) 1 (zc 1 true (.aload_n 0) 1 (zc 2 true (.invokevirtual 264) 3 (zc 5 true (.invokevirtual 79) 3 (zc 8 true (.ifCond .eq 5) 3 (zc 11 true (.iconst (-1)) 1 (zc 12 true (.ireturn) 1 (zc 13 true (.aload_n 0) 1 (zc 14 true (.getfield 50) 3 (zc 17 true (.aload_n 0) 1 (zc 18 true (.getfield 10) 3 (zc 21 true (.invokevirtual 267) 3 (zc 24 true (.aload_n 0) 1 (zc 25 true (.getfield 50) 3 (zc 28 true (.aload_n 0) 1 (zc 29 true (.getfield 10) 3 (zc 32 true (.invokevirtual 276) 3 (zc 35 true (.ireturn) 1 ([]))))))))))))))))))
theorem zrX10_ask_0_ok : zck 0 ((zby cX10_ask).drop 0) zrX10_ask_0 = true := by decide +kernel
def vfX10_ask : List Cond := List.cons (.code yX10_ask cX10_ask 1 (some .int)) (apW [.methodLink RX10 264 yX10_darkTrouble, .instanceMethod yX10_darkTrouble, .selects RX10 yX10_darkTrouble yX10_darkTrouble, .initialized RX10, .methodLink RX10 79 yX10_refused, .instanceMethod yX10_refused, .selects RX10 yX10_refused yX10_refused, .fieldLink RX10 50 "HookPier" "dark" "LHookPier$Dark;", .fieldLink RX10 10 "HookPier" "plan" "LHookPier$Plan;", .methodLink RX10 267 yX0_find, .instanceMethod yX0_find, .selects RX0 yX0_find yX0_find, .initialized RX0, .methodLink RX10 276 yX0_tellingQuestion, .instanceMethod yX0_tellingQuestion, .selects RX0 yX0_tellingQuestion yX0_tellingQuestion] (apW wsX100 (apW vfX10_darkTrouble (apW vfX10_refused (apW vfX0_find (vfX0_tellingQuestion))))))
theorem ifX10_ask_X10 : ∀ w ∈ wsX100, w ∈ vfX10_ask := fun _ h => (List.mem_cons_of_mem _ (List.mem_append_right _ (List.mem_append_left _ h)))
theorem qfX10_ask : Good vfX10_ask := gd_cons (by decide +kernel) (gd_app (gd_dec (by decide +kernel) : Good [.methodLink RX10 264 yX10_darkTrouble, .instanceMethod yX10_darkTrouble, .selects RX10 yX10_darkTrouble yX10_darkTrouble, .initialized RX10, .methodLink RX10 79 yX10_refused, .instanceMethod yX10_refused, .selects RX10 yX10_refused yX10_refused, .fieldLink RX10 50 "HookPier" "dark" "LHookPier$Dark;", .fieldLink RX10 10 "HookPier" "plan" "LHookPier$Plan;", .methodLink RX10 267 yX0_find, .instanceMethod yX0_find, .selects RX0 yX0_find yX0_find, .initialized RX0, .methodLink RX10 276 yX0_tellingQuestion, .instanceMethod yX0_tellingQuestion, .selects RX0 yX0_tellingQuestion yX0_tellingQuestion]) (gd_app qsX10 (gd_app qfX10_darkTrouble (gd_app qfX10_refused (gd_app qfX0_find qfX0_tellingQuestion)))))
theorem gfX10_ask_0 : GoodIn vfX10_ask (wsV RX10 264 RX10 yX10_darkTrouble vfX10_darkTrouble) := goodIn_app (goodIn_r [.methodLink RX10 264 yX10_darkTrouble, .instanceMethod yX10_darkTrouble, .selects RX10 yX10_darkTrouble yX10_darkTrouble, .initialized RX10] [1, 2, 3, 4] rfl (by decide +kernel)) (goodIn_m (fun _ h => (List.mem_cons_of_mem _ (List.mem_append_right _ (List.mem_append_right _ (List.mem_append_left _ h))))) qfX10_darkTrouble)
theorem gfX10_ask_1 : GoodIn vfX10_ask (wsV RX10 79 RX10 yX10_refused vfX10_refused) := goodIn_app (goodIn_r [.methodLink RX10 79 yX10_refused, .instanceMethod yX10_refused, .selects RX10 yX10_refused yX10_refused, .initialized RX10] [5, 6, 7, 4] rfl (by decide +kernel)) (goodIn_m (fun _ h => (List.mem_cons_of_mem _ (List.mem_append_right _ (List.mem_append_right _ (List.mem_append_right _ (List.mem_append_left _ h)))))) qfX10_refused)
theorem gfX10_ask_2 : GoodIn vfX10_ask (wsV RX10 267 RX0 yX0_find vfX0_find) := goodIn_app (goodIn_r [.methodLink RX10 267 yX0_find, .instanceMethod yX0_find, .selects RX0 yX0_find yX0_find, .initialized RX0] [10, 11, 12, 13] rfl (by decide +kernel)) (goodIn_m (fun _ h => (List.mem_cons_of_mem _ (List.mem_append_right _ (List.mem_append_right _ (List.mem_append_right _ (List.mem_append_right _ (List.mem_append_left _ h))))))) qfX0_find)
theorem gfX10_ask_3 : GoodIn vfX10_ask (wsV RX10 276 RX0 yX0_tellingQuestion vfX0_tellingQuestion) := goodIn_app (goodIn_r [.methodLink RX10 276 yX0_tellingQuestion, .instanceMethod yX0_tellingQuestion, .selects RX0 yX0_tellingQuestion yX0_tellingQuestion, .initialized RX0] [14, 15, 16, 13] rfl (by decide +kernel)) (goodIn_m (fun _ h => (List.mem_cons_of_mem _ (List.mem_append_right _ (List.mem_append_right _ (List.mem_append_right _ (List.mem_append_right _ (List.mem_append_right _ h))))))) qfX0_tellingQuestion)
set_option maxHeartbeats 2000000 in
set_option maxRecDepth 100000 in
theorem kfX10_ask (l : Launch) (dC : Nat → ClassId) (dI : Nat → Nat → Nat) (a0 : Nat) (a1 : Nat) (a2 : Nat) (up : Nat → Nat) (kp : Nat → ClassId) (ud : Nat → Nat) (kd : Nat → ClassId) (x_x : TX10_x) (g8 : Value) (g9 : Value) (g10 : Value) (g11 : Value) (g12 : Value) (g13 : Value) (p_p : TX6_p) (d_d : TX0_d) (sz : Nat) (out : (Int32 × TX10_x × TX0_d)) (h : f_X10_ask x_x p_p d_d = some out) : KCi l yX10_ask vfX10_ask ({ frames := 4, cells := 0, slots := 0, locals := 93 }) (dC, dI) [.ref a0] sz ((a0, .inr (7, [.ref a1, g8, g9, g10, g11, g12, .ref a2, g13, .int x_x.1, .int x_x.2])) :: bX6 a1 up kp p_p (bX0 a2 ud kd d_d [])) (tX6 kp (tX0 kd ([]))) (fun (r : Int32) _ => r = out.1) ((a0, .inr (7, [.ref a1, g8, g9, g10, g11, g12, .ref a2, g13, .int out.2.1.1, .int out.2.1.2])) :: bX6 a1 up kp p_p (bX0 a2 ud kd out.2.2 [])) 0 0 := by
  refine Met.ofW (cc := cX10_ask) (maxL := 1) (ret := (some .int)) (by decide) rfl ?_
  intro p e s m args below meth c s₁ B0 hml hv
  obtain ⟨rfl, hsz, hP, hK, hD0, hN⟩ := hv
  have hx := B0.exec
  have hb := B0.bytes
  have hr := B0.returns
  have hts := atoms_spec (ws := vfX10_ask) B0.pre
  have hown : s.vm.findClass RX10 = some m.cls := findClass_of_methodNamed B0.named
  have hlocks := B0.notSynchronized
  subst hsz
  have hD := hD0.self (sz := s.heap.size)
  generalize hAe : va_A ((a0, .inr (7, [.ref a1, g8, g9, g10, g11, g12, .ref a2, g13, .int x_x.1, .int x_x.2])) :: bX6 a1 up kp p_p (bX0 a2 ud kd d_d [])) s.heap.size = A at hD ⊢
  have hA : ∀ q : Nat, s.heap.size ≤ q → A q := fun q h => by rw [← hAe]; exact Or.inr h
  have hS : va_S A s.heap s.heap [] := va_S.rf
  have hP : va_P (dC, dI) vwCl ((a0, .inr (7, [.ref a1, g8, g9, g10, g11, g12, .ref a2, g13, .int x_x.1, .int x_x.2])) :: bX6 a1 up kp p_p (bX0 a2 ud kd d_d [])) s.heap := hP
  have hl := lv_entry ([.ref a0]) (n := 1) (Nat.le_of_ble_eq_true rfl)
  rw [lg_entry_eq]
  generalize (lg_sl ([.ref a0]) ++ List.replicate (1 - (lg_sl ([.ref a0])).length) Slot.unset).toArray = ls at hl ⊢
  have hl : lv_has ls 1 [(0, .ref a0)] := hl
  refine W_q (fun QQ hQQ => ?_)
  rw [f_X10_ask] at h
  refine lv_aload_n hx hb (zat zrX10_ask_0_ok 0 rfl) rfl (lv_at hl 0 rfl) ?_
  refine lv_aload_n hx hb (zat zrX10_ask_0_ok 1 rfl) rfl (lv_at hl 0 rfl) ?_
  obtain ⟨o2, eo2⟩ : ∃ o, o = f_X10_darkTrouble p_p := ⟨_, rfl⟩
  have h := nm_of h o2 eo2
  refine ck_i (wc := ((a0, .inr (7, [.ref a1, g8, g9, g10, g11, g12, .ref a2, g13, .int x_x.1, .int x_x.2])) :: bX6 a1 up kp p_p [])) (wr := (bX0 a2 ud kd d_d [])) hP hD hK hS hA [0, 1, 2, 3, 4, 5, 6, 7, 8, 9, 10] [11, 12] rfl rfl (by decide) (by decide) (by decide) (fun hPc hDc => (va_runV (As := []) (rest := [.ref a0]) ⟨hx, hb, hml, hown, hts⟩ (kfX10_darkTrouble l dC dI a0 a1 up kp (g8) (g9) (g10) (g11) (g12) (.ref a2) (g13) (.int x_x.1) (.int x_x.2) p_p s.heap.size o2 eo2.symm) (cwV 0 hts gfX10_ask_0 rfl rfl rfl (by decide +kernel) ⟨(Nat.le_of_ble_eq_true rfl), (Nat.le_of_ble_eq_true rfl)⟩) (PV hPc (hK.sub (tys' := (tX6 kp ([]))) [0, 1, 2, 3, 4, 5, 6, 7, 8] rfl) hDc hN 0 rfl rfl) rfl rfl hl.1 rfl (lv_room (Nat.le_of_ble_eq_true rfl)) (zat zrX10_ask_0_ok 2 rfl) ⟨(Nat.le_of_ble_eq_true rfl), (Nat.le_of_ble_eq_true rfl)⟩)) (fun r2 _ H locs hw hP hD _ hS => ?_)
  obtain rfl := hw.symm
  obtain ⟨hP, hD⟩ := pd_mk (bX0 a2 ud kd d_d ((a0, .inr (7, [.ref a1, g8, g9, g10, g11, g12, .ref a2, g13, .int x_x.1, .int x_x.2])) :: bX6 a1 up kp p_p [])) hP hD
  obtain ⟨o5, eo5⟩ : ∃ o, o = f_X10_refused o2 x_x := ⟨_, rfl⟩
  have h := nm_of h o5 eo5
  refine ck_i (wc := ([(a0, .inr (7, [.ref a1, g8, g9, g10, g11, g12, .ref a2, g13, .int x_x.1, .int x_x.2]))])) (wr := (bX0 a2 ud kd d_d (bX6 a1 up kp p_p []))) hP hD hK hS hA [2] [0, 1, 3, 4, 5, 6, 7, 8, 9, 10, 11, 12] rfl rfl (by decide) (by decide) (by decide) (fun hPc hDc => (va_runV (As := [.int o2]) (rest := []) ⟨hx, hb, hml, hown, hts⟩ (kfX10_refused l dC dI a0 o2 x_x (.ref a1) (g8) (g9) (g10) (g11) (g12) (.ref a2) (g13) H.size o5 eo5.symm) (cwV 1 hts gfX10_ask_1 rfl rfl rfl (by decide +kernel) ⟨(Nat.le_of_ble_eq_true rfl), (Nat.le_of_ble_eq_true rfl)⟩) (PV hPc (hK.sub (tys' := ([])) [] rfl) hDc hN 0 rfl rfl) rfl rfl hl.1 rfl (lv_room (Nat.le_of_ble_eq_true rfl)) (zat zrX10_ask_0_ok 3 rfl) ⟨(Nat.le_of_ble_eq_true rfl), (Nat.le_of_ble_eq_true rfl)⟩)) (fun r5 _ H locs hw hP hD _ hS => ?_)
  obtain ⟨hw, br5⟩ := hw
  obtain rfl := hw
  obtain ⟨hP, hD⟩ := pd_mk (bX0 a2 ud kd d_d (bX6 a1 up kp p_p ([(a0, .inr (7, [.ref a1, g8, g9, g10, g11, g12, .ref a2, g13, .int o5.2.1, .int o5.2.2]))]))) hP hD
  refine lv_if_eq (tgt := 13) hx hb (zat zrX10_ask_0_ok 4 rfl) (by decide) (fun c8 => ?_) (fun c8 => ?_)
  · have h := (if_pos c8).symm.trans h
    refine lv_aload_n hx hb (zat zrX10_ask_0_ok 7 rfl) rfl (lv_at hl 0 rfl) ?_
    refine va_get (D := (dC, dI)) (ci := 7) (v := .ref a2) (C := RX10) (T := TX10) (N := 10) hx hb hts ifX10_ask_X10 hown hK hP 12 rfl rfl 6 (by decide) (hts (.fieldLink RX10 50 "HookPier" "dark" "LHookPier$Dark;") (List.mem_of_getElem? (i := 8) rfl)) (fun _ h9 => h9) rfl (zat zrX10_ask_0_ok 8 rfl) ?_
    refine lv_aload_n hx hb (zat zrX10_ask_0_ok 9 rfl) rfl (lv_at hl 0 rfl) ?_
    refine va_get (D := (dC, dI)) (ci := 7) (v := .ref a1) (C := RX10) (T := TX10) (N := 10) hx hb hts ifX10_ask_X10 hown hK hP 12 rfl rfl 0 (by decide) (hts (.fieldLink RX10 10 "HookPier" "plan" "LHookPier$Plan;") (List.mem_of_getElem? (i := 9) rfl)) (fun _ h9 => h9) rfl (zat zrX10_ask_0_ok 10 rfl) ?_
    obtain ⟨o21, eo21, h⟩ := bd_of h
    refine ck_v (wc := (bX0 a2 ud kd d_d (bX6 a1 up kp p_p []))) (wr := ([(a0, .inr (7, [.ref a1, g8, g9, g10, g11, g12, .ref a2, g13, .int o5.2.1, .int o5.2.2]))])) hP hD hK hS hA [0, 1, 2, 3, 4, 5, 6, 7, 8, 9, 10, 11] [12] rfl rfl (by decide) (by decide) (by decide) (fun hPc hDc => (va_runV (As := [.ref a1]) (rest := []) ⟨hx, hb, hml, hown, hts⟩ (kfX0_find l dC dI a2 a1 ud kd up kp d_d p_p H.size o21 eo21) (cwV 1 hts gfX10_ask_2 rfl rfl rfl (by decide +kernel) ⟨(Nat.le_of_ble_eq_true rfl), (Nat.le_of_ble_eq_true rfl)⟩) (PV hPc (hK.sub (tys' := (tX0 kd (tX6 kp ([])))) [9, 0, 1, 2, 3, 4, 5, 6, 7, 8] rfl) hDc hN 0 rfl rfl) rfl rfl hl.1 rfl (lv_room (Nat.le_of_ble_eq_true rfl)) (zat zrX10_ask_0_ok 11 rfl) ⟨(Nat.le_of_ble_eq_true rfl), (Nat.le_of_ble_eq_true rfl)⟩)) (fun _ H locs hw hP hD _ hS => ?_)
    obtain ⟨hP, hD⟩ := pd_mk ((a0, .inr (7, [.ref a1, g8, g9, g10, g11, g12, .ref a2, g13, .int o5.2.1, .int o5.2.2])) :: bX0 a2 ud kd o21 (bX6 a1 up kp p_p [])) hP hD
    refine lv_aload_n hx hb (zat zrX10_ask_0_ok 12 rfl) rfl (lv_at hl 0 rfl) ?_
    refine va_get (D := (dC, dI)) (ci := 7) (v := .ref a2) (C := RX10) (T := TX10) (N := 10) hx hb hts ifX10_ask_X10 hown hK hP 0 rfl rfl 6 (by decide) (hts (.fieldLink RX10 50 "HookPier" "dark" "LHookPier$Dark;") (List.mem_of_getElem? (i := 8) rfl)) (fun _ h9 => h9) rfl (zat zrX10_ask_0_ok 13 rfl) ?_
    refine lv_aload_n hx hb (zat zrX10_ask_0_ok 14 rfl) rfl (lv_at hl 0 rfl) ?_
    refine va_get (D := (dC, dI)) (ci := 7) (v := .ref a1) (C := RX10) (T := TX10) (N := 10) hx hb hts ifX10_ask_X10 hown hK hP 0 rfl rfl 0 (by decide) (hts (.fieldLink RX10 10 "HookPier" "plan" "LHookPier$Plan;") (List.mem_of_getElem? (i := 9) rfl)) (fun _ h9 => h9) rfl (zat zrX10_ask_0_ok 15 rfl) ?_
    obtain ⟨o32, eo32, h⟩ := bd_of h
    refine ck_i (wc := (bX0 a2 ud kd o21 (bX6 a1 up kp p_p []))) (wr := ([(a0, .inr (7, [.ref a1, g8, g9, g10, g11, g12, .ref a2, g13, .int o5.2.1, .int o5.2.2]))])) hP hD hK hS hA [1, 2, 3, 4, 5, 6, 7, 8, 9, 10, 11, 12] [0] rfl rfl (by decide) (by decide) (by decide) (fun hPc hDc => (va_runV (As := [.ref a1]) (rest := []) ⟨hx, hb, hml, hown, hts⟩ (kfX0_tellingQuestion l dC dI a2 a1 ud kd up kp o21 p_p H.size o32 eo32) (cwV 1 hts gfX10_ask_3 rfl rfl rfl (by decide +kernel) ⟨(Nat.le_of_ble_eq_true rfl), (Nat.le_of_ble_eq_true rfl)⟩) (PV hPc (hK.sub (tys' := (tX0 kd (tX6 kp ([])))) [9, 0, 1, 2, 3, 4, 5, 6, 7, 8] rfl) hDc hN 0 rfl rfl) rfl rfl hl.1 rfl (lv_room (Nat.le_of_ble_eq_true rfl)) (zat zrX10_ask_0_ok 16 rfl) ⟨(Nat.le_of_ble_eq_true rfl), (Nat.le_of_ble_eq_true rfl)⟩)) (fun r32 _ H locs hw hP hD _ hS => ?_)
    obtain rfl := hw.symm
    obtain ⟨hP, hD⟩ := pd_mk ((a0, .inr (7, [.ref a1, g8, g9, g10, g11, g12, .ref a2, g13, .int o5.2.1, .int o5.2.2])) :: bX0 a2 ud kd o21 (bX6 a1 up kp p_p [])) hP hD
    obtain rfl := Option.some.inj h
    obtain ⟨hP9, hD9⟩ := pd_sub ((a0, .inr (7, [.ref a1, g8, g9, g10, g11, g12, .ref a2, g13, .int o5.2.1, .int o5.2.2])) :: bX6 a1 up kp p_p (bX0 a2 ud kd o21 [])) [0, 3, 4, 5, 6, 7, 8, 9, 10, 11, 12, 1, 2] hP hD (by decide) rfl
    have hK9 := hK.sub (tys' := []) [] rfl
    rw [hQQ]
    exact W.iret (v := o32) hx hb hr (fun t ht hW => ⟨⟨o32, (), rfl, rfl, by rw [ht]; exact hP9, va_K.moved hW.alike hK9, hD9⟩, hS.F ht⟩) hS.2.2 (zat zrX10_ask_0_ok 17 rfl)
  · have h := (if_neg c8).symm.trans h
    refine lv_iconst (v := (-1)) hx hb (zat zrX10_ask_0_ok 5 rfl) (by decide) ?_
    obtain rfl := Option.some.inj h
    obtain ⟨hP9, hD9⟩ := pd_sub ((a0, .inr (7, [.ref a1, g8, g9, g10, g11, g12, .ref a2, g13, .int o5.2.1, .int o5.2.2])) :: bX6 a1 up kp p_p (bX0 a2 ud kd d_d [])) [12, 2, 3, 4, 5, 6, 7, 8, 9, 10, 11, 0, 1] hP hD (by decide) rfl
    have hK9 := hK.sub (tys' := []) [] rfl
    rw [hQQ]
    exact W.iret (v := (-1 : Int32)) hx hb hr (fun t ht hW => ⟨⟨(-1 : Int32), (), rfl, rfl, by rw [ht]; exact hP9, va_K.moved hW.alike hK9, hD9⟩, hS.F ht⟩) hS.2.2 (zat zrX10_ask_0_ok 6 rfl)
