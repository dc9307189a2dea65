noncomputable def zrX10_crabs_0 : List ZR := zc 0 true (.aload_n 0) 1 (zc 1 true (.aload_n 0) 1 (zc 2 true (.iload_n 1) 1 (zc 3 true (.iload_n 2) 1 (zc 4 true (.invokestatic 321) 3 (zc 7 true (.invokevirtual 169) 3 (zc 10 true (.invokevirtual 79) 3 (zc 13 true (.ifCond .eq 5) 3 (zc 16 true (.iconst (-1)) 1 (zc 17 true (.ireturn) 1 (zc 18 true (.aload_n 0) 1 (zc 19 true (.getfield 57) 3 (zc 22 true (.aload_n 0) 1 (zc 23 true (.getfield 10) 3 (zc 26 true (.aload_n 0) 1 (zc 27 true (.getfield 29) 3 (zc 30 true (.iload_n 1) 1 (zc 31 true (.iload_n 2) 1 (zc 32 true (.invokevirtual 324) 3 (zc 35 true (.aload_n 0) 1 (zc 36 true (.getfield 57) 3 (zc 39 true (.getfield 334) 3 (zc 42 true (.ireturn) 1 ([])))))))))))))))))))))))
theorem zrX10_crabs_0_ok : zck 0 ((zby cX10_crabs).drop 0) zrX10_crabs_0 = true := by decide +kernel
def vfX10_crabs : List Cond := List.cons (.code yX10_crabs cX10_crabs 3 (some .int)) (apW [.methodLink RX10 321 yX10_isForecast, .static yX10_isForecast, .initialized RX10, .methodLink RX10 169 yX10_numberTrouble, .instanceMethod yX10_numberTrouble, .selects RX10 yX10_numberTrouble yX10_numberTrouble, .methodLink RX10 79 yX10_refused, .instanceMethod yX10_refused, .selects RX10 yX10_refused yX10_refused, .fieldLink RX10 57 "HookPier" "days" "LHookPier$Days;", .fieldLink RX10 10 "HookPier" "plan" "LHookPier$Plan;", .fieldLink RX10 29 "HookPier" "now" "LHookPier$Now;", .methodLink RX10 324 yX1_forecast, .instanceMethod yX1_forecast, .selects RX1 yX1_forecast yX1_forecast, .initialized RX1, .fieldLink RX10 334 "HookPier$Days" "crabTakes" "I"] (apW wsX100 (apW wsX10 (apW vfX10_isForecast (apW vfX10_numberTrouble (apW vfX10_refused (vfX1_forecast)))))))
theorem ifX10_crabs_X10 : ∀ w ∈ wsX100, w ∈ vfX10_crabs := fun _ h => (List.mem_cons_of_mem _ (List.mem_append_right _ (List.mem_append_left _ h)))
theorem ifX10_crabs_X1 : ∀ w ∈ wsX10, w ∈ vfX10_crabs := fun _ h => (List.mem_cons_of_mem _ (List.mem_append_right _ (List.mem_append_right _ (List.mem_append_left _ h))))
theorem qfX10_crabs : Good vfX10_crabs := gd_cons (by decide +kernel) (gd_app (gd_dec (by decide +kernel) : Good [.methodLink RX10 321 yX10_isForecast, .static yX10_isForecast, .initialized RX10, .methodLink RX10 169 yX10_numberTrouble, .instanceMethod yX10_numberTrouble, .selects RX10 yX10_numberTrouble yX10_numberTrouble, .methodLink RX10 79 yX10_refused, .instanceMethod yX10_refused, .selects RX10 yX10_refused yX10_refused, .fieldLink RX10 57 "HookPier" "days" "LHookPier$Days;", .fieldLink RX10 10 "HookPier" "plan" "LHookPier$Plan;", .fieldLink RX10 29 "HookPier" "now" "LHookPier$Now;", .methodLink RX10 324 yX1_forecast, .instanceMethod yX1_forecast, .selects RX1 yX1_forecast yX1_forecast, .initialized RX1, .fieldLink RX10 334 "HookPier$Days" "crabTakes" "I"]) (gd_app qsX10 (gd_app qsX1 (gd_app qfX10_isForecast (gd_app qfX10_numberTrouble (gd_app qfX10_refused qfX1_forecast))))))
theorem gfX10_crabs_0 : GoodIn vfX10_crabs (va_wsS RX10 321 yX10_isForecast vfX10_isForecast) := goodIn_app (goodIn_r [.methodLink RX10 321 yX10_isForecast, .static yX10_isForecast, .initialized RX10] [1, 2, 3] rfl (by decide +kernel)) (goodIn_m (fun _ h => (List.mem_cons_of_mem _ (List.mem_append_right _ (List.mem_append_right _ (List.mem_append_right _ (List.mem_append_left _ h)))))) qfX10_isForecast)
theorem gfX10_crabs_1 : GoodIn vfX10_crabs (wsV RX10 169 RX10 yX10_numberTrouble vfX10_numberTrouble) := goodIn_app (goodIn_r [.methodLink RX10 169 yX10_numberTrouble, .instanceMethod yX10_numberTrouble, .selects RX10 yX10_numberTrouble yX10_numberTrouble, .initialized RX10] [4, 5, 6, 3] rfl (by decide +kernel)) (goodIn_m (fun _ h => (List.mem_cons_of_mem _ (List.mem_append_right _ (List.mem_append_right _ (List.mem_append_right _ (List.mem_append_right _ (List.mem_append_left _ h))))))) qfX10_numberTrouble)
theorem gfX10_crabs_2 : GoodIn vfX10_crabs (wsV RX10 79 RX10 yX10_refused vfX10_refused) := goodIn_app (goodIn_r [.methodLink RX10 79 yX10_refused, .instanceMethod yX10_refused, .selects RX10 yX10_refused yX10_refused, .initialized RX10] [7, 8, 9, 3] rfl (by decide +kernel)) (goodIn_m (fun _ h => (List.mem_cons_of_mem _ (List.mem_append_right _ (List.mem_append_right _ (List.mem_append_right _ (List.mem_append_right _ (List.mem_append_right _ (List.mem_append_left _ h)))))))) qfX10_refused)
theorem gfX10_crabs_3 : GoodIn vfX10_crabs (wsV RX10 324 RX1 yX1_forecast vfX1_forecast) := goodIn_app (goodIn_r [.methodLink RX10 324 yX1_forecast, .instanceMethod yX1_forecast, .selects RX1 yX1_forecast yX1_forecast, .initialized RX1] [13, 14, 15, 16] rfl (by decide +kernel)) (goodIn_m (fun _ h => (List.mem_cons_of_mem _ (List.mem_append_right _ (List.mem_append_right _ (List.mem_append_right _ (List.mem_append_right _ (List.mem_append_right _ (List.mem_append_right _ h)))))))) qfX1_forecast)
set_option maxHeartbeats 2000000 in
set_option maxRecDepth 100000 in
theorem kfX10_crabs (l : Launch) (dC : Nat → ClassId) (dI : Nat → Nat → Nat) (a0 : Nat) (k1 : Int32) (k2 : Int32) (a3 : Nat) (a4 : Nat) (a5 : Nat) (a6 : Nat) (a7 : Nat) (up : Nat → Nat) (kp : Nat → ClassId) (un : Nat → Nat) (kn : Nat → ClassId) (un2 : Nat → Nat) (kn2 : Nat → ClassId) (x_x : TX10_x) (g15 : Value) (g16 : Value) (g17 : Value) (g18 : Value) (g19 : Value) (p_p : TX6_p) (n_n : TX4_n) (y_y : TX1_y) (n2_n : TX4_n) (cB24 : ClassId) (sz : Nat) (out : (Int32 × TX10_x × TX1_y × TX4_n)) (h : f_X10_crabs k1 k2 x_x p_p n_n y_y n2_n = some out) : KCi l yX10_crabs vfX10_crabs ({ frames := 6, cells := 0, slots := 0, locals := 143 }) (dC, dI) [.ref a0, .int k1, .int k2] sz ((a0, .inr (7, [.ref a3, g15, g16, .ref a4, g17, g18, g19, .ref a5, .int x_x.1, .int x_x.2])) :: bX6 a3 up kp p_p (bX4 a4 un kn n_n ((a5, .inr (1, [.ref a6, .int y_y.1, .int y_y.2.1, .ref a7])) :: bX4 a6 un2 kn2 n2_n ([(a7, .inl (cB24, 6, .inl y_y.2.2))])))) (tX6 kp (tX4 kn (tX4 kn2 ((cB24, .int) :: [])))) (fun (r : Int32) _ => r = out.1) ((a0, .inr (7, [.ref a3, g15, g16, .ref a4, g17, g18, g19, .ref a5, .int out.2.1.1, .int out.2.1.2])) :: bX6 a3 up kp p_p (bX4 a4 un kn n_n ((a5, .inr (1, [.ref a6, .int out.2.2.1.1, .int out.2.2.1.2.1, .ref a7])) :: bX4 a6 un2 kn2 out.2.2.2 ([(a7, .inl (cB24, 6, .inl out.2.2.1.2.2))])))) 0 0 := by
  refine Met.ofW (cc := cX10_crabs) (maxL := 3) (ret := (some .int)) (by decide) rfl ?_
  intro p e s m args below meth c s₁ B0 hml hv
  obtain ⟨rfl, hsz, hP, hK, hD0, hN⟩ := hv
  have hx := B0.exec
  have hb := B0.bytes
  have hr := B0.returns
  have hts := atoms_spec (ws := vfX10_crabs) B0.pre
  have hown : s.vm.findClass RX10 = some m.cls := findClass_of_methodNamed B0.named
  have hlocks := B0.notSynchronized
  subst hsz
  have hD := hD0.self (sz := s.heap.size)
  generalize hAe : va_A ((a0, .inr (7, [.ref a3, g15, g16, .ref a4, g17, g18, g19, .ref a5, .int x_x.1, .int x_x.2])) :: bX6 a3 up kp p_p (bX4 a4 un kn n_n ((a5, .inr (1, [.ref a6, .int y_y.1, .int y_y.2.1, .ref a7])) :: bX4 a6 un2 kn2 n2_n ([(a7, .inl (cB24, 6, .inl y_y.2.2))])))) s.heap.size = A at hD ⊢
  have hA : ∀ q : Nat, s.heap.size ≤ q → A q := fun q h => by rw [← hAe]; exact Or.inr h
  have hS : va_S A s.heap s.heap [] := va_S.rf
  have hP : va_P (dC, dI) vwCl ((a0, .inr (7, [.ref a3, g15, g16, .ref a4, g17, g18, g19, .ref a5, .int x_x.1, .int x_x.2])) :: bX6 a3 up kp p_p (bX4 a4 un kn n_n ((a5, .inr (1, [.ref a6, .int y_y.1, .int y_y.2.1, .ref a7])) :: bX4 a6 un2 kn2 n2_n ([(a7, .inl (cB24, 6, .inl y_y.2.2))])))) s.heap := hP
  have hl := lv_entry ([.ref a0, .int k1, .int k2]) (n := 3) (Nat.le_of_ble_eq_true rfl)
  rw [lg_entry_eq]
  generalize (lg_sl ([.ref a0, .int k1, .int k2]) ++ List.replicate (3 - (lg_sl ([.ref a0, .int k1, .int k2])).length) Slot.unset).toArray = ls at hl ⊢
  have hl : lv_has ls 3 [(0, .ref a0), (1, .int k1), (2, .int k2)] := hl
  refine W_q (fun QQ hQQ => ?_)
  rw [f_X10_crabs] at h
  refine lv_aload_n hx hb (zat zrX10_crabs_0_ok 0 rfl) rfl (lv_at hl 0 rfl) ?_
  refine lv_aload_n hx hb (zat zrX10_crabs_0_ok 1 rfl) rfl (lv_at hl 0 rfl) ?_
  refine lv_iload_n hx hb (zat zrX10_crabs_0_ok 2 rfl) rfl (lv_at hl 1 rfl) ?_
  refine lv_iload_n hx hb (zat zrX10_crabs_0_ok 3 rfl) rfl (lv_at hl 2 rfl) ?_
  obtain ⟨o4, eo4⟩ : ∃ o, o = f_X10_isForecast k1 k2 := ⟨_, rfl⟩
  have h := nm_of h o4 eo4
  refine ck_i (wc := []) (wr := ((a0, .inr (7, [.ref a3, g15, g16, .ref a4, g17, g18, g19, .ref a5, .int x_x.1, .int x_x.2])) :: bX6 a3 up kp p_p (bX4 a4 un kn n_n ((a5, .inr (1, [.ref a6, .int y_y.1, .int y_y.2.1, .ref a7])) :: bX4 a6 un2 kn2 n2_n ([(a7, .inl (cB24, 6, .inl y_y.2.2))]))))) hP hD hK hS hA [] [0, 1, 2, 3, 4, 5, 6, 7, 8, 9, 10, 11, 12, 13, 14, 15, 16, 17, 18, 19, 20, 21, 22] rfl rfl (by decide) (by decide) (by decide) (fun hPc hDc => (va_runS (As := [.int k1, .int k2]) (rest := [.ref a0, .ref a0]) ⟨hx, hb, hml, hown, hts⟩ (kfX10_isForecast l dC dI k1 k2 s.heap.size o4 eo4.symm) (va_cwS 2 hts gfX10_crabs_0 rfl rfl rfl (by decide +kernel) ⟨(Nat.le_of_ble_eq_true rfl), (Nat.le_of_ble_eq_true rfl)⟩) (PS hPc (hK.sub (tys' := ([])) [] rfl) hDc hN) rfl rfl hl.1 rfl (lv_room (Nat.le_of_ble_eq_true rfl)) (zat zrX10_crabs_0_ok 4 rfl) ⟨(Nat.le_of_ble_eq_true rfl), (Nat.le_of_ble_eq_true rfl)⟩)) (fun r4 _ H locs hw hP hD _ hS => ?_)
  obtain ⟨hw, br4⟩ := hw
  obtain rfl := hw.symm
  obtain ⟨hP, hD⟩ := pd_mk ((a0, .inr (7, [.ref a3, g15, g16, .ref a4, g17, g18, g19, .ref a5, .int x_x.1, .int x_x.2])) :: bX6 a3 up kp p_p (bX4 a4 un kn n_n ((a5, .inr (1, [.ref a6, .int y_y.1, .int y_y.2.1, .ref a7])) :: bX4 a6 un2 kn2 n2_n ([(a7, .inl (cB24, 6, .inl y_y.2.2))])))) hP hD
  obtain ⟨o7, eo7⟩ : ∃ o, o = f_X10_numberTrouble o4 p_p := ⟨_, rfl⟩
  have h := nm_of h o7 eo7
  refine ck_i (wc := ((a0, .inr (7, [.ref a3, g15, g16, .ref a4, g17, g18, g19, .ref a5, .int x_x.1, .int x_x.2])) :: bX6 a3 up kp p_p [])) (wr := (bX4 a4 un kn n_n ((a5, .inr (1, [.ref a6, .int y_y.1, .int y_y.2.1, .ref a7])) :: bX4 a6 un2 kn2 n2_n ([(a7, .inl (cB24, 6, .inl y_y.2.2))])))) hP hD hK hS hA [0, 1, 2, 3, 4, 5, 6, 7, 8, 9, 10] [11, 12, 13, 14, 15, 16, 17, 18, 19, 20, 21, 22] rfl rfl (by decide) (by decide) (by decide) (fun hPc hDc => (va_runV (As := [.int o4]) (rest := [.ref a0]) ⟨hx, hb, hml, hown, hts⟩ (kfX10_numberTrouble l dC dI a0 o4 a3 up kp (g15) (g16) (.ref a4) (g17) (g18) (g19) (.ref a5) (.int x_x.1) (.int x_x.2) p_p H.size o7 eo7.symm) (cwV 1 hts gfX10_crabs_1 rfl rfl rfl (by decide +kernel) ⟨(Nat.le_of_ble_eq_true rfl), (Nat.le_of_ble_eq_true rfl)⟩) (PV hPc (hK.sub (tys' := (tX6 kp ([]))) [0, 1, 2, 3, 4, 5, 6, 7, 8] rfl) hDc hN 0 rfl rfl) rfl rfl hl.1 rfl (lv_room (Nat.le_of_ble_eq_true rfl)) (zat zrX10_crabs_0_ok 5 rfl) ⟨(Nat.le_of_ble_eq_true rfl), (Nat.le_of_ble_eq_true rfl)⟩)) (fun r7 _ H locs hw hP hD _ hS => ?_)
  obtain rfl := hw.symm
  obtain ⟨hP, hD⟩ := pd_mk (bX4 a4 un kn n_n ((a5, .inr (1, [.ref a6, .int y_y.1, .int y_y.2.1, .ref a7])) :: bX4 a6 un2 kn2 n2_n ((a7, .inl (cB24, 6, .inl y_y.2.2)) :: (a0, .inr (7, [.ref a3, g15, g16, .ref a4, g17, g18, g19, .ref a5, .int x_x.1, .int x_x.2])) :: bX6 a3 up kp p_p []))) hP hD
  obtain ⟨o10, eo10⟩ : ∃ o, o = f_X10_refused o7 x_x := ⟨_, rfl⟩
  have h := nm_of h o10 eo10
  refine ck_i (wc := ([(a0, .inr (7, [.ref a3, g15, g16, .ref a4, g17, g18, g19, .ref a5, .int x_x.1, .int x_x.2]))])) (wr := (bX4 a4 un kn n_n ((a5, .inr (1, [.ref a6, .int y_y.1, .int y_y.2.1, .ref a7])) :: bX4 a6 un2 kn2 n2_n ((a7, .inl (cB24, 6, .inl y_y.2.2)) :: bX6 a3 up kp p_p [])))) hP hD hK hS hA [12] [0, 1, 2, 3, 4, 5, 6, 7, 8, 9, 10, 11, 13, 14, 15, 16, 17, 18, 19, 20, 21, 22] rfl rfl (by decide) (by decide) (by decide) (fun hPc hDc => (va_runV (As := [.int o7]) (rest := []) ⟨hx, hb, hml, hown, hts⟩ (kfX10_refused l dC dI a0 o7 x_x (.ref a3) (g15) (g16) (.ref a4) (g17) (g18) (g19) (.ref a5) H.size o10 eo10.symm) (cwV 1 hts gfX10_crabs_2 rfl rfl rfl (by decide +kernel) ⟨(Nat.le_of_ble_eq_true rfl), (Nat.le_of_ble_eq_true rfl)⟩) (PV hPc (hK.sub (tys' := ([])) [] rfl) hDc hN 0 rfl rfl) rfl rfl hl.1 rfl (lv_room (Nat.le_of_ble_eq_true rfl)) (zat zrX10_crabs_0_ok 6 rfl) ⟨(Nat.le_of_ble_eq_true rfl), (Nat.le_of_ble_eq_true rfl)⟩)) (fun r10 _ H locs hw hP hD _ hS => ?_)
  obtain ⟨hw, br10⟩ := hw
  obtain rfl := hw
  obtain ⟨hP, hD⟩ := pd_mk (bX4 a4 un kn n_n ((a5, .inr (1, [.ref a6, .int y_y.1, .int y_y.2.1, .ref a7])) :: bX4 a6 un2 kn2 n2_n ((a7, .inl (cB24, 6, .inl y_y.2.2)) :: bX6 a3 up kp p_p ([(a0, .inr (7, [.ref a3, g15, g16, .ref a4, g17, g18, g19, .ref a5, .int o10.2.1, .int o10.2.2]))])))) hP hD
  refine lv_if_eq (tgt := 18) hx hb (zat zrX10_crabs_0_ok 7 rfl) (by decide) (fun c13 => ?_) (fun c13 => ?_)
  · have h := (if_pos c13).symm.trans h
    refine lv_aload_n hx hb (zat zrX10_crabs_0_ok 10 rfl) rfl (lv_at hl 0 rfl) ?_
    refine va_get (D := (dC, dI)) (ci := 7) (v := .ref a5) (C := RX10) (T := TX10) (N := 10) hx hb hts ifX10_crabs_X10 hown hK hP 22 rfl rfl 7 (by decide) (hts (.fieldLink RX10 57 "HookPier" "days" "LHookPier$Days;") (List.mem_of_getElem? (i := 10) rfl)) (fun _ h9 => h9) rfl (zat zrX10_crabs_0_ok 11 rfl) ?_
    refine lv_aload_n hx hb (zat zrX10_crabs_0_ok 12 rfl) rfl (lv_at hl 0 rfl) ?_
    refine va_get (D := (dC, dI)) (ci := 7) (v := .ref a3) (C := RX10) (T := TX10) (N := 10) hx hb hts ifX10_crabs_X10 hown hK hP 22 rfl rfl 0 (by decide) (hts (.fieldLink RX10 10 "HookPier" "plan" "LHookPier$Plan;") (List.mem_of_getElem? (i := 11) rfl)) (fun _ h9 => h9) rfl (zat zrX10_crabs_0_ok 13 rfl) ?_
    refine lv_aload_n hx hb (zat zrX10_crabs_0_ok 14 rfl) rfl (lv_at hl 0 rfl) ?_
    refine va_get (D := (dC, dI)) (ci := 7) (v := .ref a4) (C := RX10) (T := TX10) (N := 10) hx hb hts ifX10_crabs_X10 hown hK hP 22 rfl rfl 3 (by decide) (hts (.fieldLink RX10 29 "HookPier" "now" "LHookPier$Now;") (List.mem_of_getElem? (i := 12) rfl)) (fun _ h9 => h9) rfl (zat zrX10_crabs_0_ok 15 rfl) ?_
    refine lv_iload_n hx hb (zat zrX10_crabs_0_ok 16 rfl) rfl (lv_at hl 1 rfl) ?_
    refine lv_iload_n hx hb (zat zrX10_crabs_0_ok 17 rfl) rfl (lv_at hl 2 rfl) ?_
    obtain ⟨o32, eo32, h⟩ := bd_of h
    refine ck_v (wc := ((a5, .inr (1, [.ref a6, .int y_y.1, .int y_y.2.1, .ref a7])) :: bX6 a3 up kp p_p (bX4 a4 un kn n_n (bX4 a6 un2 kn2 n2_n ([(a7, .inl (cB24, 6, .inl y_y.2.2))]))))) (wr := ([(a0, .inr (7, [.ref a3, g15, g16, .ref a4, g17, g18, g19, .ref a5, .int o10.2.1, .int o10.2.2]))])) hP hD hK hS hA [5, 12, 13, 14, 15, 16, 17, 18, 19, 20, 21, 0, 1, 2, 3, 4, 6, 7, 8, 9, 10, 11] [22] rfl rfl (by decide) (by decide) (by decide) (fun hPc hDc => (va_runV (As := [.ref a3, .ref a4, .int k1, .int k2]) (rest := []) ⟨hx, hb, hml, hown, hts⟩ (kfX1_forecast l dC dI a5 a3 a4 k1 k2 a6 a7 up kp un kn un2 kn2 y_y p_p n_n n2_n cB24 H.size o32 eo32) (cwV 4 hts gfX10_crabs_3 rfl rfl rfl (by decide +kernel) ⟨(Nat.le_of_ble_eq_true rfl), (Nat.le_of_ble_eq_true rfl)⟩) (PV hPc (hK.sub (tys' := (tX6 kp (tX4 kn (tX4 kn2 ((cB24, .int) :: []))))) [0, 1, 2, 3, 4, 5, 6, 7, 8, 9, 10, 11, 12, 13, 14, 15, 16, 17] rfl) hDc hN 0 rfl rfl) rfl rfl hl.1 rfl (lv_room (Nat.le_of_ble_eq_true rfl)) (zat zrX10_crabs_0_ok 18 rfl) ⟨(Nat.le_of_ble_eq_true rfl), (Nat.le_of_ble_eq_true rfl)⟩)) (fun _ H locs hw hP hD _ hS => ?_)
    obtain ⟨hP, hD⟩ := pd_mk ((a0, .inr (7, [.ref a3, g15, g16, .ref a4, g17, g18, g19, .ref a5, .int o10.2.1, .int o10.2.2])) :: (a5, .inr (1, [.ref a6, .int o32.1.1, .int o32.1.2.1, .ref a7])) :: bX6 a3 up kp p_p (bX4 a4 un kn n_n (bX4 a6 un2 kn2 o32.2 ([(a7, .inl (cB24, 6, .inl o32.1.2.2))])))) hP hD
    refine lv_aload_n hx hb (zat zrX10_crabs_0_ok 19 rfl) rfl (lv_at hl 0 rfl) ?_
    refine va_get (D := (dC, dI)) (ci := 7) (v := .ref a5) (C := RX10) (T := TX10) (N := 10) hx hb hts ifX10_crabs_X10 hown hK hP 0 rfl rfl 7 (by decide) (hts (.fieldLink RX10 57 "HookPier" "days" "LHookPier$Days;") (List.mem_of_getElem? (i := 10) rfl)) (fun _ h9 => h9) rfl (zat zrX10_crabs_0_ok 20 rfl) ?_
    refine va_get (D := (dC, dI)) (ci := 1) (v := .int o32.1.2.1) (C := RX1) (T := TX1) (N := 4) hx hb hts ifX10_crabs_X1 hown hK hP 1 rfl rfl 2 (by decide) (hts (.fieldLink RX10 334 "HookPier$Days" "crabTakes" "I") (List.mem_of_getElem? (i := 17) rfl)) (fun _ h9 => h9) rfl (zat zrX10_crabs_0_ok 21 rfl) ?_
    obtain rfl := Option.some.inj h
    obtain ⟨hP9, hD9⟩ := pd_sub ((a0, .inr (7, [.ref a3, g15, g16, .ref a4, g17, g18, g19, .ref a5, .int o10.2.1, .int o10.2.2])) :: bX6 a3 up kp p_p (bX4 a4 un kn n_n ((a5, .inr (1, [.ref a6, .int o32.1.1, .int o32.1.2.1, .ref a7])) :: bX4 a6 un2 kn2 o32.2 ([(a7, .inl (cB24, 6, .inl o32.1.2.2))])))) [0, 2, 3, 4, 5, 6, 7, 8, 9, 10, 11, 12, 13, 14, 15, 16, 1, 17, 18, 19, 20, 21, 22] hP hD (by decide) rfl
    have hK9 := hK.sub (tys' := []) [] rfl
    rw [hQQ]
    exact W.iret (v := o32.1.2.1) hx hb hr (fun t ht hW => ⟨⟨o32.1.2.1, (), rfl, rfl, by rw [ht]; exact hP9, va_K.moved hW.alike hK9, hD9⟩, hS.F ht⟩) hS.2.2 (zat zrX10_crabs_0_ok 22 rfl)
  · have h := (if_neg c13).symm.trans h
    refine lv_iconst (v := (-1)) hx hb (zat zrX10_crabs_0_ok 8 rfl) (by decide) ?_
    obtain rfl := Option.some.inj h
    obtain ⟨hP9, hD9⟩ := pd_sub ((a0, .inr (7, [.ref a3, g15, g16, .ref a4, g17, g18, g19, .ref a5, .int o10.2.1, .int o10.2.2])) :: bX6 a3 up kp p_p (bX4 a4 un kn n_n ((a5, .inr (1, [.ref a6, .int y_y.1, .int y_y.2.1, .ref a7])) :: bX4 a6 un2 kn2 n2_n ([(a7, .inl (cB24, 6, .inl y_y.2.2))])))) [22, 12, 13, 14, 15, 16, 17, 18, 19, 20, 21, 0, 1, 2, 3, 4, 5, 6, 7, 8, 9, 10, 11] hP hD (by decide) rfl
    have hK9 := hK.sub (tys' := []) [] rfl
    rw [hQQ]
    exact W.iret (v := (-1 : Int32)) hx hb hr (fun t ht hW => ⟨⟨(-1 : Int32), (), rfl, rfl, by rw [ht]; exact hP9, va_K.moved hW.alike hK9, hD9⟩, hS.F ht⟩) hS.2.2 (zat zrX10_crabs_0_ok 9 rfl)
noncomputable def zrX12_answer_0 : List ZR := zc 0 true (.aload_n 0) 1 (zc 1 true (.iconst 0) 1 (zc 2 true (.putfield 36) 3 (zc 5 true (.aload_n 0) 1 (zc 6 true (.iload_n 1) 1 (zc 7 true (.invokevirtual 320) 3 (zc 10 true (.ifCond .eq 13) 3 (zc 13 true (.iload_n 2) 1 (zc 14 true (.iconst 0) 1 (zc 15 true (.bipush 9) 2 (zc 17 true (.invokestatic 115) 3 (zc 20 true (.ifCond .ne 9) 3 (zc 23 true (.aload_n 0) 1 (zc 24 true (.iconst 1) 1 (zc 25 true (.invokevirtual 42) 3 (zc 28 true (.ireturn) 1 (zc 29 true (.iload_n 2) 1 (zc 30 false (.nop) 50 (zc 80 true (.aload_n 0) 1 (zc 81 true (.aload_n 0) 1 (zc 82 true (.getfield 299) 3 (zc 85 true (.getfield 256) 3 (zc 88 true (.iload_n 1) 1 (zc 89 true (.iaload) 1 (zc 90 true (.invokevirtual 46) 3 (zc 93 true (.ireturn) 1 (zc 94 true (.aload_n 0) 1 (zc 95 true (.aload_n 0) 1 (zc 96 true (.getfield 299) 3 (zc 99 true (.getfield 259) 3 (zc 102 true (.iload_n 1) 1 (zc 103 true (.iaload) 1 (zc 104 true (.invokevirtual 46) 3 (zc 107 true (.ireturn) 1 (zc 108 true (.aload_n 0) 1 (zc 109 true (.aload_n 0) 1 (zc 110 true (.getfield 299) 3 (zc 113 true (.getfield 261) 3 (zc 116 true (.iload_n 1) 1 (zc 117 true (.iaload) 1 (zc 118 true (.invokevirtual 46) 3 (zc 121 true (.ireturn) 1 (zc 122 true (.aload_n 0) 1 (zc 123 true (.aload_n 0) 1 (zc 124 true (.getfield 299) 3 (zc 127 true (.getfield 263) 3 (zc 130 true (.iload_n 1) 1 (zc 131 true (.iaload) 1 (zc 132 true (.invokevirtual 46) 3 (zc 135 true (.ireturn) 1 (zc 136 true (.aload_n 0) 1 (zc 137 true (.aload_n 0) 1 (zc 138 true (.getfield 299) 3 (zc 141 true (.getfield 265) 3 (zc 144 true (.iload_n 1) 1 (zc 145 true (.iaload) 1 (zc 146 true (.invokevirtual 46) 3 (zc 149 true (.ireturn) 1 (zc 150 true (.aload_n 0) 1 (zc 151 true (.aload_n 0) 1 (zc 152 true (.getfield 299) 3 (zc 155 true (.getfield 267) 3 (zc 158 true (.iload_n 1) 1 (zc 159 true (.iaload) 1 ([]))))))))))))))))))))))))))))))))))))))))))))))))))))))))))))))))
theorem zrX12_answer_0_ok : zck 0 ((zby cX12_answer).drop 0) zrX12_answer_0 = true := by decide +kernel
noncomputable def zrX12_answer_1 : List ZR := zc 160 true (.invokevirtual 46) 3 (zc 163 true (.ireturn) 1 (zc 164 true (.aload_n 0) 1 (zc 165 true (.aload_n 0) 1 (zc 166 true (.getfield 17) 3 (zc 169 true (.iconst 0) 1 (zc 170 true (.iload_n 1) 1 (zc 171 true (.iadd) 1 (zc 172 true (.iaload) 1 (zc 173 true (.invokevirtual 46) 3 (zc 176 true (.ireturn) 1 (zc 177 true (.aload_n 0) 1 (zc 178 true (.aload_n 0) 1 (zc 179 true (.getfield 17) 3 (zc 182 true (.bipush 6) 2 (zc 184 true (.iload_n 1) 1 (zc 185 true (.iadd) 1 (zc 186 true (.iaload) 1 (zc 187 true (.invokevirtual 46) 3 (zc 190 true (.ireturn) 1 (zc 191 true (.aload_n 0) 1 (zc 192 true (.aload_n 0) 1 (zc 193 true (.getfield 17) 3 (zc 196 true (.bipush 12) 2 (zc 198 true (.iload_n 1) 1 (zc 199 true (.iadd) 1 (zc 200 true (.iaload) 1 (zc 201 true (.invokevirtual 46) 3 (zc 204 true (.ireturn) 1 (zc 205 true (.aload_n 0) 1 (zc 206 true (.aload_n 0) 1 (zc 207 true (.getfield 17) 3 (zc 210 true (.iconst 0) 1 (zc 211 true (.iload_n 1) 1 (zc 212 true (.iadd) 1 (zc 213 true (.iaload) 1 (zc 214 true (.iconst 1) 1 (zc 215 true (.if_icmp .ne 27) 3 (zc 218 true (.aload_n 0) 1 (zc 219 true (.iload_n 1) 1 (zc 220 true (.aload_n 0) 1 (zc 221 true (.getfield 17) 3 (zc 224 true (.bipush 6) 2 (zc 226 true (.iload_n 1) 1 (zc 227 true (.iadd) 1 (zc 228 true (.iaload) 1 (zc 229 true (.aload_n 0) 1 (zc 230 true (.getfield 17) 3 (zc 233 true (.bipush 23) 2 (zc 235 true (.iaload) 1 (zc 236 true (.invokevirtual 323) 3 (zc 239 true (.goto 5) 3 (zc 242 true (.bipush (-2)) 2 (zc 244 true (.invokevirtual 46) 3 (zc 247 true (.ireturn) 1 ([])))))))))))))))))))))))))))))))))))))))))))))))))))))))
theorem zrX12_answer_1_ok : zck 160 ((zby cX12_answer).drop 160) zrX12_answer_1 = true := by decide +kernel
theorem dX12_answer_30 : decode cX12_answer 30 = .ok (.tableswitch 175 0 8 #[50, 64, 78, 92, 106, 120, 134, 147, 161], 50) := by decide +kernel
def vfX12_answer : List Cond := List.cons (.code yX12_answer cX12_answer 3 (some .int)) (apW [.fieldLink RX12 36 "HookPierModel" "thrown" "I", .methodLink RX12 320 yX12_isAnswer, .instanceMethod yX12_isAnswer, .selects RX12 yX12_isAnswer yX12_isAnswer, .initialized RX12, .methodLink RX12 42 yX12_refused, .instanceMethod yX12_refused, .selects RX12 yX12_refused yX12_refused, .methodLink RX12 115 yX12_in, .static yX12_in, .fieldLink RX12 299 "HookPierModel" "pier" "LHookPierModel$Pier;", .methodLink RX12 46 yX12_good, .instanceMethod yX12_good, .selects RX12 yX12_good yX12_good, .fieldLink RX12 17 "HookPierModel" "v" "[I", .methodLink RX12 323 yX12_keeps, .instanceMethod yX12_keeps, .selects RX12 yX12_keeps yX12_keeps] (apW wsX120 (apW wsX110 (apW vfX12_isAnswer (apW vfX12_refused (apW vfX12_in (apW vfX12_good (vfX12_keeps))))))))
theorem ifX12_answer_X12 : ∀ w ∈ wsX120, w ∈ vfX12_answer := fun _ h => (List.mem_cons_of_mem _ (List.mem_append_right _ (List.mem_append_left _ h)))
theorem ifX12_answer_X11 : ∀ w ∈ wsX110, w ∈ vfX12_answer := fun _ h => (List.mem_cons_of_mem _ (List.mem_append_right _ (List.mem_append_right _ (List.mem_append_left _ h))))
theorem qfX12_answer : Good vfX12_answer := gd_cons (by decide +kernel) (gd_app (gd_dec (by decide +kernel) : Good [.fieldLink RX12 36 "HookPierModel" "thrown" "I", .methodLink RX12 320 yX12_isAnswer, .instanceMethod yX12_isAnswer, .selects RX12 yX12_isAnswer yX12_isAnswer, .initialized RX12, .methodLink RX12 42 yX12_refused, .instanceMethod yX12_refused, .selects RX12 yX12_refused yX12_refused, .methodLink RX12 115 yX12_in, .static yX12_in, .fieldLink RX12 299 "HookPierModel" "pier" "LHookPierModel$Pier;", .methodLink RX12 46 yX12_good, .instanceMethod yX12_good, .selects RX12 yX12_good yX12_good, .fieldLink RX12 17 "HookPierModel" "v" "[I", .methodLink RX12 323 yX12_keeps, .instanceMethod yX12_keeps, .selects RX12 yX12_keeps yX12_keeps]) (gd_app qsX12 (gd_app qsX11 (gd_app qfX12_isAnswer (gd_app qfX12_refused (gd_app qfX12_in (gd_app qfX12_good qfX12_keeps)))))))
theorem gfX12_answer_0 : GoodIn vfX12_answer (wsV RX12 320 RX12 yX12_isAnswer vfX12_isAnswer) := goodIn_app (goodIn_r [.methodLink RX12 320 yX12_isAnswer, .instanceMethod yX12_isAnswer, .selects RX12 yX12_isAnswer yX12_isAnswer, .initialized RX12] [2, 3, 4, 5] rfl (by decide +kernel)) (goodIn_m (fun _ h => (List.mem_cons_of_mem _ (List.mem_append_right _ (List.mem_append_right _ (List.mem_append_right _ (List.mem_append_left _ h)))))) qfX12_isAnswer)
theorem gfX12_answer_1 : GoodIn vfX12_answer (wsV RX12 42 RX12 yX12_refused vfX12_refused) := goodIn_app (goodIn_r [.methodLink RX12 42 yX12_refused, .instanceMethod yX12_refused, .selects RX12 yX12_refused yX12_refused, .initialized RX12] [6, 7, 8, 5] rfl (by decide +kernel)) (goodIn_m (fun _ h => (List.mem_cons_of_mem _ (List.mem_append_right _ (List.mem_append_right _ (List.mem_append_right _ (List.mem_append_right _ (List.mem_append_left _ h))))))) qfX12_refused)
theorem gfX12_answer_2 : GoodIn vfX12_answer (va_wsS RX12 115 yX12_in vfX12_in) := goodIn_app (goodIn_r [.methodLink RX12 115 yX12_in, .static yX12_in, .initialized RX12] [9, 10, 5] rfl (by decide +kernel)) (goodIn_m (fun _ h => (List.mem_cons_of_mem _ (List.mem_append_right _ (List.mem_append_right _ (List.mem_append_right _ (List.mem_append_right _ (List.mem_append_right _ (List.mem_append_left _ h)))))))) qfX12_in)
theorem gfX12_answer_3 : GoodIn vfX12_answer (wsV RX12 46 RX12 yX12_good vfX12_good) := goodIn_app (goodIn_r [.methodLink RX12 46 yX12_good, .instanceMethod yX12_good, .selects RX12 yX12_good yX12_good, .initialized RX12] [12, 13, 14, 5] rfl (by decide +kernel)) (goodIn_m (fun _ h => (List.mem_cons_of_mem _ (List.mem_append_right _ (List.mem_append_right _ (List.mem_append_right _ (List.mem_append_right _ (List.mem_append_right _ (List.mem_append_right _ (List.mem_append_left _ h))))))))) qfX12_good)
theorem gfX12_answer_4 : GoodIn vfX12_answer (wsV RX12 323 RX12 yX12_keeps vfX12_keeps) := goodIn_app (goodIn_r [.methodLink RX12 323 yX12_keeps, .instanceMethod yX12_keeps, .selects RX12 yX12_keeps yX12_keeps, .initialized RX12] [16, 17, 18, 5] rfl (by decide +kernel)) (goodIn_m (fun _ h => (List.mem_cons_of_mem _ (List.mem_append_right _ (List.mem_append_right _ (List.mem_append_right _ (List.mem_append_right _ (List.mem_append_right _ (List.mem_append_right _ (List.mem_append_right _ h))))))))) qfX12_keeps)
set_option maxHeartbeats 2000000 in
set_option maxRecDepth 100000 in
theorem kfX12_answer (l : Launch) (dC : Nat → ClassId) (dI : Nat → Nat → Nat) (a0 : Nat) (k1 : Int32) (k2 : Int32) (a3 : Nat) (a4 : Nat) (uq : Nat → Nat) (kq : Nat → ClassId) (m_t : TX12_t) (m_v : TX12_v) (g9 : Value) (g10 : Value) (g11 : Value) (g12 : Value) (g13 : Value) (g14 : Value) (g15 : Value) (g16 : Value) (g17 : Value) (g18 : Value) (g19 : Value) (g20 : Value) (g21 : Value) (g22 : Value) (g23 : Value) (g24 : Value) (g25 : Value) (g26 : Value) (g27 : Value) (g28 : Value) (g29 : Value) (g30 : Value) (g31 : Value) (g32 : Value) (g33 : Value) (q_q : TX11_q) (cB35 : ClassId) (sz : Nat) (out : (Int32 × TX12_t)) (h : f_X12_answer k1 k2 m_t m_v q_q = some out) : KCi l yX12_answer vfX12_answer ({ frames := 1, cells := 0, slots := 0, locals := 24 }) (dC, dI) [.ref a0, .int k1, .int k2] sz ((a0, .inr (9, [.int m_t.1, .int m_t.2.1, .int m_t.2.2, .ref a3, g9, g10, g11, g12, g13, g14, g15, g16, g17, g18, g19, .ref a4, g20, g21, g22, g23, g24, g25, g26, g27, g28, g29, g30, g31, g32, g33])) :: bX11 a3 uq kq q_q ([(a4, .inl (cB35, 26, .inl m_v))])) (tX11 kq ((cB35, .int) :: [])) (fun (r : Int32) _ => r = out.1) ((a0, .inr (9, [.int out.2.1, .int out.2.2.1, .int out.2.2.2, .ref a3, g9, g10, g11, g12, g13, g14, g15, g16, g17, g18, g19, .ref a4, g20, g21, g22, g23, g24, g25, g26, g27, g28, g29, g30, g31, g32, g33])) :: bX11 a3 uq kq q_q ([(a4, .inl (cB35, 26, .inl m_v))])) 0 0 := by
  refine Met.ofW (cc := cX12_answer) (maxL := 3) (ret := (some .int)) (by decide) rfl ?_
  intro p e s m args below meth c s₁ B0 hml hv
  obtain ⟨rfl, hsz, hP, hK, hD0, hN⟩ := hv
  have hx := B0.exec
  have hb := B0.bytes
  have hr := B0.returns
  have hts := atoms_spec (ws := vfX12_answer) B0.pre
  have hown : s.vm.findClass RX12 = some m.cls := findClass_of_methodNamed B0.named
  have hlocks := B0.notSynchronized
  subst hsz
  have hD := hD0.self (sz := s.heap.size)
  generalize hAe : va_A ((a0, .inr (9, [.int m_t.1, .int m_t.2.1, .int m_t.2.2, .ref a3, g9, g10, g11, g12, g13, g14, g15, g16, g17, g18, g19, .ref a4, g20, g21, g22, g23, g24, g25, g26, g27, g28, g29, g30, g31, g32, g33])) :: bX11 a3 uq kq q_q ([(a4, .inl (cB35, 26, .inl m_v))])) s.heap.size = A at hD ⊢
  have hA : ∀ q : Nat, s.heap.size ≤ q → A q := fun q h => by rw [← hAe]; exact Or.inr h
  have hS : va_S A s.heap s.heap [] := va_S.rf
  have hP : va_P (dC, dI) vwCl ((a0, .inr (9, [.int m_t.1, .int m_t.2.1, .int m_t.2.2, .ref a3, g9, g10, g11, g12, g13, g14, g15, g16, g17, g18, g19, .ref a4, g20, g21, g22, g23, g24, g25, g26, g27, g28, g29, g30, g31, g32, g33])) :: bX11 a3 uq kq q_q ([(a4, .inl (cB35, 26, .inl m_v))])) s.heap := hP
  have hl := lv_entry ([.ref a0, .int k1, .int k2]) (n := 3) (Nat.le_of_ble_eq_true rfl)
  rw [lg_entry_eq]
  generalize (lg_sl ([.ref a0, .int k1, .int k2]) ++ List.replicate (3 - (lg_sl ([.ref a0, .int k1, .int k2])).length) Slot.unset).toArray = ls at hl ⊢
  have hl : lv_has ls 3 [(0, .ref a0), (1, .int k1), (2, .int k2)] := hl
  refine W_q (fun QQ hQQ => ?_)
  rw [f_X12_answer] at h
  refine lv_aload_n hx hb (zat zrX12_answer_0_ok 0 rfl) rfl (lv_at hl 0 rfl) ?_
  refine lv_iconst (v := 0) hx hb (zat zrX12_answer_0_ok 1 rfl) (by decide) ?_
  refine va_put (D := (dC, dI)) (ci := 9) (v := .int 0) (ty := .int) (C := RX12) (T := TX12) (N := 30) hx hb hts ifX12_answer_X12 tyX12 tyX12_ok nmX12 hown hK hP hD hS 0 rfl rfl 0 (by decide) (hts (.fieldLink RX12 36 "HookPierModel" "thrown" "I") (List.mem_of_getElem? (i := 1) rfl)) (fun _ h9 => h9) rfl (by decide +kernel) rfl rfl (Nat.le_of_ble_eq_true rfl) (zat zrX12_answer_0_ok 2 rfl) (fun H locs hP hD hS => ?_)
  obtain ⟨hP, hD⟩ := pd_mk ((a0, .inr (9, [.int 0, .int m_t.2.1, .int m_t.2.2, .ref a3, g9, g10, g11, g12, g13, g14, g15, g16, g17, g18, g19, .ref a4, g20, g21, g22, g23, g24, g25, g26, g27, g28, g29, g30, g31, g32, g33])) :: bX11 a3 uq kq q_q ([(a4, .inl (cB35, 26, .inl m_v))])) hP hD
  refine lv_aload_n hx hb (zat zrX12_answer_0_ok 3 rfl) rfl (lv_at hl 0 rfl) ?_
  refine lv_iload_n hx hb (zat zrX12_answer_0_ok 4 rfl) rfl (lv_at hl 1 rfl) ?_
  obtain ⟨o7, eo7⟩ : ∃ o, o = f_X12_isAnswer k1 q_q := ⟨_, rfl⟩
  have h := nm_of h o7 eo7
  refine ck_i (wc := ((a0, .inr (9, [.int 0, .int m_t.2.1, .int m_t.2.2, .ref a3, g9, g10, g11, g12, g13, g14, g15, g16, g17, g18, g19, .ref a4, g20, g21, g22, g23, g24, g25, g26, g27, g28, g29, g30, g31, g32, g33])) :: bX11 a3 uq kq q_q [])) (wr := ([(a4, .inl (cB35, 26, .inl m_v))])) hP hD hK hS hA [0, 1, 2, 3, 4, 5, 6, 7, 8, 9, 10, 11, 12, 13, 14, 15] [16] rfl rfl (by decide) (by decide) (by decide) (fun hPc hDc => (va_runV (As := [.int k1]) (rest := []) ⟨hx, hb, hml, hown, hts⟩ (kfX12_isAnswer l dC dI a0 k1 a3 uq kq (.int 0) (.int m_t.2.1) (.int m_t.2.2) (g9) (g10) (g11) (g12) (g13) (g14) (g15) (g16) (g17) (g18) (g19) (.ref a4) (g20) (g21) (g22) (g23) (g24) (g25) (g26) (g27) (g28) (g29) (g30) (g31) (g32) (g33) q_q H.size o7 eo7.symm) (cwV 1 hts gfX12_answer_0 rfl rfl rfl (by decide +kernel) ⟨(Nat.le_of_ble_eq_true rfl), (Nat.le_of_ble_eq_true rfl)⟩) (PV hPc (hK.sub (tys' := (tX11 kq ([]))) [0, 1, 2, 3, 4, 5, 6, 7, 8, 9, 10, 11, 12, 13] rfl) hDc hN 0 rfl rfl) rfl rfl hl.1 rfl (lv_room (Nat.le_of_ble_eq_true rfl)) (zat zrX12_answer_0_ok 5 rfl) ⟨(Nat.le_of_ble_eq_true rfl), (Nat.le_of_ble_eq_true rfl)⟩)) (fun r7 _ H locs hw hP hD _ hS => ?_)
  obtain ⟨hw, br7⟩ := hw
  obtain rfl := hw.symm
  obtain ⟨hP, hD⟩ := pd_mk ((a4, .inl (cB35, 26, .inl m_v)) :: (a0, .inr (9, [.int 0, .int m_t.2.1, .int m_t.2.2, .ref a3, g9, g10, g11, g12, g13, g14, g15, g16, g17, g18, g19, .ref a4, g20, g21, g22, g23, g24, g25, g26, g27, g28, g29, g30, g31, g32, g33])) :: bX11 a3 uq kq q_q []) hP hD
  have J23 : ∀ (H : Heap) (locs : List Loc) (ls : Array Slot), f_X12_answer_J23 m_t = some out → va_P (dC, dI) vwCl ((a4, .inl (cB35, 26, .inl m_v)) :: (a0, .inr (9, [.int 0, .int m_t.2.1, .int m_t.2.2, .ref a3, g9, g10, g11, g12, g13, g14, g15, g16, g17, g18, g19, .ref a4, g20, g21, g22, g23, g24, g25, g26, g27, g28, g29, g30, g31, g32, g33])) :: bX11 a3 uq kq q_q []) H → va_D A ((a4, .inl (cB35, 26, .inl m_v)) :: (a0, .inr (9, [.int 0, .int m_t.2.1, .int m_t.2.2, .ref a3, g9, g10, g11, g12, g13, g14, g15, g16, g17, g18, g19, .ref a4, g20, g21, g22, g23, g24, g25, g26, g27, g28, g29, g30, g31, g32, g33])) :: bX11 a3 uq kq q_q []) → va_S A s.heap H locs → lv_has ls 3 [(0, .ref a0)] → W p l e (headSpec vfX12_answer { frames := 1, cells := 0, slots := 0, locals := 24 }).room s m ([.ref a0, .int k1, .int k2]).toArray below meth c H locs 0 0 QQ (F0 m 23 ls []) := by
    intro  H locs ls h  hP hD hS hl
    rw [f_X12_answer_J23] at h
    refine lv_aload_n hx hb (zat zrX12_answer_0_ok 12 rfl) rfl (lv_at hl 0 rfl) ?_
    refine lv_iconst (v := 1) hx hb (zat zrX12_answer_0_ok 13 rfl) (by decide) ?_
    obtain ⟨o25, eo25⟩ : ∃ o, o = f_X12_refused (1 : Int32) ((0 : Int32), m_t.2) := ⟨_, rfl⟩
    have h := nm_of h o25 eo25
    refine ck_i (wc := ([(a0, .inr (9, [.int 0, .int m_t.2.1, .int m_t.2.2, .ref a3, g9, g10, g11, g12, g13, g14, g15, g16, g17, g18, g19, .ref a4, g20, g21, g22, g23, g24, g25, g26, g27, g28, g29, g30, g31, g32, g33]))])) (wr := ((a4, .inl (cB35, 26, .inl m_v)) :: bX11 a3 uq kq q_q [])) hP hD hK hS hA [1] [0, 2, 3, 4, 5, 6, 7, 8, 9, 10, 11, 12, 13, 14, 15, 16] rfl rfl (by decide) (by decide) (by decide) (fun hPc hDc => (va_runV (As := [.int 1]) (rest := []) ⟨hx, hb, hml, hown, hts⟩ (kfX12_refused l dC dI a0 (1 : Int32) ((0 : Int32), m_t.2) (.ref a3) (g9) (g10) (g11) (g12) (g13) (g14) (g15) (g16) (g17) (g18) (g19) (.ref a4) (g20) (g21) (g22) (g23) (g24) (g25) (g26) (g27) (g28) (g29) (g30) (g31) (g32) (g33) H.size o25 eo25.symm) (cwV 1 hts gfX12_answer_1 rfl rfl rfl (by decide +kernel) ⟨(Nat.le_of_ble_eq_true rfl), (Nat.le_of_ble_eq_true rfl)⟩) (PV hPc (hK.sub (tys' := ([])) [] rfl) hDc hN 0 rfl rfl) rfl rfl hl.1 rfl (lv_room (Nat.le_of_ble_eq_true rfl)) (zat zrX12_answer_0_ok 14 rfl) ⟨(Nat.le_of_ble_eq_true rfl), (Nat.le_of_ble_eq_true rfl)⟩)) (fun r25 _ H locs hw hP hD _ hS => ?_)
    obtain rfl := hw
    obtain ⟨hP, hD⟩ := pd_mk ((a4, .inl (cB35, 26, .inl m_v)) :: bX11 a3 uq kq q_q ([(a0, .inr (9, [.int o25.1, .int o25.2.1, .int o25.2.2, .ref a3, g9, g10, g11, g12, g13, g14, g15, g16, g17, g18, g19, .ref a4, g20, g21, g22, g23, g24, g25, g26, g27, g28, g29, g30, g31, g32, g33]))])) hP hD
    obtain rfl := Option.some.inj h
    obtain ⟨hP9, hD9⟩ := pd_sub ((a0, .inr (9, [.int o25.1, .int o25.2.1, .int o25.2.2, .ref a3, g9, g10, g11, g12, g13, g14, g15, g16, g17, g18, g19, .ref a4, g20, g21, g22, g23, g24, g25, g26, g27, g28, g29, g30, g31, g32, g33])) :: bX11 a3 uq kq q_q ([(a4, .inl (cB35, 26, .inl m_v))])) [16, 1, 2, 3, 4, 5, 6, 7, 8, 9, 10, 11, 12, 13, 14, 15, 0] hP hD (by decide) rfl
    have hK9 := hK.sub (tys' := []) [] rfl
    rw [hQQ]
    exact W.iret (v := (-1 : Int32)) hx hb hr (fun t ht hW => ⟨⟨(-1 : Int32), (), rfl, rfl, by rw [ht]; exact hP9, va_K.moved hW.alike hK9, hD9⟩, hS.F ht⟩) hS.2.2 (zat zrX12_answer_0_ok 15 rfl)
  refine lv_if_eq (tgt := 23) hx hb (zat zrX12_answer_0_ok 6 rfl) (by decide) (fun c10 => ?_) (fun c10 => ?_)
  · have h := (if_pos c10).symm.trans h
    exact J23  H _ ls h  hP hD hS (lv_sub hl [0] rfl)
  · have h := (if_neg c10).symm.trans h
    refine lv_iload_n hx hb (zat zrX12_answer_0_ok 7 rfl) rfl (lv_at hl 2 rfl) ?_
    refine lv_iconst (v := 0) hx hb (zat zrX12_answer_0_ok 8 rfl) (by decide) ?_
    refine lv_bipush (v := 9) hx hb (zat zrX12_answer_0_ok 9 rfl) (by decide) ?_
    obtain ⟨o17, eo17⟩ : ∃ o, o = f_X12_in k2 (0 : Int32) (9 : Int32) := ⟨_, rfl⟩
    have h := nm_of h o17 eo17
    refine ck_i (wc := []) (wr := ((a4, .inl (cB35, 26, .inl m_v)) :: (a0, .inr (9, [.int 0, .int m_t.2.1, .int m_t.2.2, .ref a3, g9, g10, g11, g12, g13, g14, g15, g16, g17, g18, g19, .ref a4, g20, g21, g22, g23, g24, g25, g26, g27, g28, g29, g30, g31, g32, g33])) :: bX11 a3 uq kq q_q [])) hP hD hK hS hA [] [0, 1, 2, 3, 4, 5, 6, 7, 8, 9, 10, 11, 12, 13, 14, 15, 16] rfl rfl (by decide) (by decide) (by decide) (fun hPc hDc => (va_runS (As := [.int k2, .int 0, .int 9]) (rest := []) ⟨hx, hb, hml, hown, hts⟩ (kfX12_in l dC dI k2 (0 : Int32) (9 : Int32) H.size o17 eo17.symm) (va_cwS 3 hts gfX12_answer_2 rfl rfl rfl (by decide +kernel) ⟨(Nat.le_of_ble_eq_true rfl), (Nat.le_of_ble_eq_true rfl)⟩) (PS hPc (hK.sub (tys' := ([])) [] rfl) hDc hN) rfl rfl hl.1 rfl (lv_room (Nat.le_of_ble_eq_true rfl)) (zat zrX12_answer_0_ok 10 rfl) ⟨(Nat.le_of_ble_eq_true rfl), (Nat.le_of_ble_eq_true rfl)⟩)) (fun r17 _ H locs hw hP hD _ hS => ?_)
    obtain ⟨hw, br17⟩ := hw
    obtain rfl := hw.symm
    obtain ⟨hP, hD⟩ := pd_mk ((a4, .inl (cB35, 26, .inl m_v)) :: (a0, .inr (9, [.int 0, .int m_t.2.1, .int m_t.2.2, .ref a3, g9, g10, g11, g12, g13, g14, g15, g16, g17, g18, g19, .ref a4, g20, g21, g22, g23, g24, g25, g26, g27, g28, g29, g30, g31, g32, g33])) :: bX11 a3 uq kq q_q []) hP hD
    refine lv_if_ne (tgt := 29) hx hb (zat zrX12_answer_0_ok 11 rfl) (by decide) (fun c20 => ?_) (fun c20 => ?_)
    · have h := (if_neg c20).symm.trans h
      refine lv_iload_n hx hb (zat zrX12_answer_0_ok 16 rfl) rfl (lv_at hl 2 rfl) ?_
      by_cases c30_0 : k2 = 0
      · have h := (if_pos c30_0).symm.trans h
        refine lv_tableIn (tgt := 80) hx hb dX12_answer_30 (by rw [c30_0] <;> decide) (by rw [c30_0] <;> decide) (by rw [c30_0] <;> rfl) (by decide) ?_
        refine lv_aload_n hx hb (zat zrX12_answer_0_ok 18 rfl) rfl (lv_at hl 0 rfl) ?_
        refine lv_aload_n hx hb (zat zrX12_answer_0_ok 19 rfl) rfl (lv_at hl 0 rfl) ?_
        refine va_get (D := (dC, dI)) (ci := 9) (v := .ref a3) (C := RX12) (T := TX12) (N := 30) hx hb hts ifX12_answer_X12 hown hK hP 1 rfl rfl 3 (by decide) (hts (.fieldLink RX12 299 "HookPierModel" "pier" "LHookPierModel$Pier;") (List.mem_of_getElem? (i := 11) rfl)) (fun _ h9 => h9) rfl (zat zrX12_answer_0_ok 20 rfl) ?_
        refine va_getN (D := (dC, dI)) (ci := 8) (v := .ref (uq 1)) (C := RX11) (T := TX11) (N := 24) hx hb hts ifX12_answer_X11 hown hK hP 2 rfl rfl 11 (by decide) (va_Nw.use rfl (hN.1 (.fieldLinkNest RX12 256 "HookPierModel$Pier" "kind" "[I" "HookPierModel") (List.mem_of_getElem? (i := 33) rfl))) (fun _ h9 => h9) rfl (zat zrX12_answer_0_ok 21 rfl) ?_
        refine lv_iload_n hx hb (zat zrX12_answer_0_ok 22 rfl) rfl (lv_at hl 1 rfl) ?_
        obtain ⟨hg89, h⟩ := gA_of h
        refine va_iald hx hb hK hP 4 1 rfl rfl hg89 (zat zrX12_answer_0_ok 23 rfl) ?_
        obtain ⟨o90, eo90⟩ : ∃ o, o = f_X12_good (q_q.2.2.2.2.2.2.2.2.2.2.2.1 (k1).toNatClampNeg) ((0 : Int32), m_t.2) := ⟨_, rfl⟩
        have h := nm_of h o90 eo90
        refine ck_i (wc := ([(a0, .inr (9, [.int 0, .int m_t.2.1, .int m_t.2.2, .ref a3, g9, g10, g11, g12, g13, g14, g15, g16, g17, g18, g19, .ref a4, g20, g21, g22, g23, g24, g25, g26, g27, g28, g29, g30, g31, g32, g33]))])) (wr := ((a4, .inl (cB35, 26, .inl m_v)) :: bX11 a3 uq kq q_q [])) hP hD hK hS hA [1] [0, 2, 3, 4, 5, 6, 7, 8, 9, 10, 11, 12, 13, 14, 15, 16] rfl rfl (by decide) (by decide) (by decide) (fun hPc hDc => (va_runV (As := [.int (q_q.2.2.2.2.2.2.2.2.2.2.2.1 (k1).toNatClampNeg)]) (rest := []) ⟨hx, hb, hml, hown, hts⟩ (kfX12_good l dC dI a0 (q_q.2.2.2.2.2.2.2.2.2.2.2.1 (k1).toNatClampNeg) ((0 : Int32), m_t.2) (.ref a3) (g9) (g10) (g11) (g12) (g13) (g14) (g15) (g16) (g17) (g18) (g19) (.ref a4) (g20) (g21) (g22) (g23) (g24) (g25) (g26) (g27) (g28) (g29) (g30) (g31) (g32) (g33) H.size o90 eo90.symm) (cwV 1 hts gfX12_answer_3 rfl rfl rfl (by decide +kernel) ⟨(Nat.le_of_ble_eq_true rfl), (Nat.le_of_ble_eq_true rfl)⟩) (PV hPc (hK.sub (tys' := ([])) [] rfl) hDc hN 0 rfl rfl) rfl rfl hl.1 rfl (lv_room (Nat.le_of_ble_eq_true rfl)) (zat zrX12_answer_0_ok 24 rfl) ⟨(Nat.le_of_ble_eq_true rfl), (Nat.le_of_ble_eq_true rfl)⟩)) (fun r90 _ H locs hw hP hD _ hS => ?_)
        obtain rfl := hw
        obtain ⟨hP, hD⟩ := pd_mk ((a4, .inl (cB35, 26, .inl m_v)) :: bX11 a3 uq kq q_q ([(a0, .inr (9, [.int o90.2.1, .int o90.2.2.1, .int o90.2.2.2, .ref a3, g9, g10, g11, g12, g13, g14, g15, g16, g17, g18, g19, .ref a4, g20, g21, g22, g23, g24, g25, g26, g27, g28, g29, g30, g31, g32, g33]))])) hP hD
        obtain rfl := Option.some.inj h
        obtain ⟨hP9, hD9⟩ := pd_sub ((a0, .inr (9, [.int o90.2.1, .int o90.2.2.1, .int o90.2.2.2, .ref a3, g9, g10, g11, g12, g13, g14, g15, g16, g17, g18, g19, .ref a4, g20, g21, g22, g23, g24, g25, g26, g27, g28, g29, g30, g31, g32, g33])) :: bX11 a3 uq kq q_q ([(a4, .inl (cB35, 26, .inl m_v))])) [16, 1, 2, 3, 4, 5, 6, 7, 8, 9, 10, 11, 12, 13, 14, 15, 0] hP hD (by decide) rfl
        have hK9 := hK.sub (tys' := []) [] rfl
        rw [hQQ]
        exact W.iret (v := o90.1) hx hb hr (fun t ht hW => ⟨⟨o90.1, (), rfl, rfl, by rw [ht]; exact hP9, va_K.moved hW.alike hK9, hD9⟩, hS.F ht⟩) hS.2.2 (zat zrX12_answer_0_ok 25 rfl)
      have h := (if_neg c30_0).symm.trans h
      by_cases c30_1 : k2 = 1
      · have h := (if_pos c30_1).symm.trans h
        refine lv_tableIn (tgt := 94) hx hb dX12_answer_30 (by rw [c30_1] <;> decide) (by rw [c30_1] <;> decide) (by rw [c30_1] <;> rfl) (by decide) ?_
        refine lv_aload_n hx hb (zat zrX12_answer_0_ok 26 rfl) rfl (lv_at hl 0 rfl) ?_
        refine lv_aload_n hx hb (zat zrX12_answer_0_ok 27 rfl) rfl (lv_at hl 0 rfl) ?_
        refine va_get (D := (dC, dI)) (ci := 9) (v := .ref a3) (C := RX12) (T := TX12) (N := 30) hx hb hts ifX12_answer_X12 hown hK hP 1 rfl rfl 3 (by decide) (hts (.fieldLink RX12 299 "HookPierModel" "pier" "LHookPierModel$Pier;") (List.mem_of_getElem? (i := 11) rfl)) (fun _ h9 => h9) rfl (zat zrX12_answer_0_ok 28 rfl) ?_
        refine va_getN (D := (dC, dI)) (ci := 8) (v := .ref (uq 2)) (C := RX11) (T := TX11) (N := 24) hx hb hts ifX12_answer_X11 hown hK hP 2 rfl rfl 12 (by decide) (va_Nw.use rfl (hN.1 (.fieldLinkNest RX12 259 "HookPierModel$Pier" "spot" "[I" "HookPierModel") (List.mem_of_getElem? (i := 34) rfl))) (fun _ h9 => h9) rfl (zat zrX12_answer_0_ok 29 rfl) ?_
        refine lv_iload_n hx hb (zat zrX12_answer_0_ok 30 rfl) rfl (lv_at hl 1 rfl) ?_
        obtain ⟨hg103, h⟩ := gA_of h
        refine va_iald hx hb hK hP 5 2 rfl rfl hg103 (zat zrX12_answer_0_ok 31 rfl) ?_
        obtain ⟨o104, eo104⟩ : ∃ o, o = f_X12_good (q_q.2.2.2.2.2.2.2.2.2.2.2.2.1 (k1).toNatClampNeg) ((0 : Int32), m_t.2) := ⟨_, rfl⟩
        have h := nm_of h o104 eo104
        refine ck_i (wc := ([(a0, .inr (9, [.int 0, .int m_t.2.1, .int m_t.2.2, .ref a3, g9, g10, g11, g12, g13, g14, g15, g16, g17, g18, g19, .ref a4, g20, g21, g22, g23, g24, g25, g26, g27, g28, g29, g30, g31, g32, g33]))])) (wr := ((a4, .inl (cB35, 26, .inl m_v)) :: bX11 a3 uq kq q_q [])) hP hD hK hS hA [1] [0, 2, 3, 4, 5, 6, 7, 8, 9, 10, 11, 12, 13, 14, 15, 16] rfl rfl (by decide) (by decide) (by decide) (fun hPc hDc => (va_runV (As := [.int (q_q.2.2.2.2.2.2.2.2.2.2.2.2.1 (k1).toNatClampNeg)]) (rest := []) ⟨hx, hb, hml, hown, hts⟩ (kfX12_good l dC dI a0 (q_q.2.2.2.2.2.2.2.2.2.2.2.2.1 (k1).toNatClampNeg) ((0 : Int32), m_t.2) (.ref a3) (g9) (g10) (g11) (g12) (g13) (g14) (g15) (g16) (g17) (g18) (g19) (.ref a4) (g20) (g21) (g22) (g23) (g24) (g25) (g26) (g27) (g28) (g29) (g30) (g31) (g32) (g33) H.size o104 eo104.symm) (cwV 1 hts gfX12_answer_3 rfl rfl rfl (by decide +kernel) ⟨(Nat.le_of_ble_eq_true rfl), (Nat.le_of_ble_eq_true rfl)⟩) (PV hPc (hK.sub (tys' := ([])) [] rfl) hDc hN 0 rfl rfl) rfl rfl hl.1 rfl (lv_room (Nat.le_of_ble_eq_true rfl)) (zat zrX12_answer_0_ok 32 rfl) ⟨(Nat.le_of_ble_eq_true rfl), (Nat.le_of_ble_eq_true rfl)⟩)) (fun r104 _ H locs hw hP hD _ hS => ?_)
        obtain rfl := hw
        obtain ⟨hP, hD⟩ := pd_mk ((a4, .inl (cB35, 26, .inl m_v)) :: bX11 a3 uq kq q_q ([(a0, .inr (9, [.int o104.2.1, .int o104.2.2.1, .int o104.2.2.2, .ref a3, g9, g10, g11, g12, g13, g14, g15, g16, g17, g18, g19, .ref a4, g20, g21, g22, g23, g24, g25, g26, g27, g28, g29, g30, g31, g32, g33]))])) hP hD
        obtain rfl := Option.some.inj h
        obtain ⟨hP9, hD9⟩ := pd_sub ((a0, .inr (9, [.int o104.2.1, .int o104.2.2.1, .int o104.2.2.2, .ref a3, g9, g10, g11, g12, g13, g14, g15, g16, g17, g18, g19, .ref a4, g20, g21, g22, g23, g24, g25, g26, g27, g28, g29, g30, g31, g32, g33])) :: bX11 a3 uq kq q_q ([(a4, .inl (cB35, 26, .inl m_v))])) [16, 1, 2, 3, 4, 5, 6, 7, 8, 9, 10, 11, 12, 13, 14, 15, 0] hP hD (by decide) rfl
        have hK9 := hK.sub (tys' := []) [] rfl
        rw [hQQ]
        exact W.iret (v := o104.1) hx hb hr (fun t ht hW => ⟨⟨o104.1, (), rfl, rfl, by rw [ht]; exact hP9, va_K.moved hW.alike hK9, hD9⟩, hS.F ht⟩) hS.2.2 (zat zrX12_answer_0_ok 33 rfl)
      have h := (if_neg c30_1).symm.trans h
      by_cases c30_2 : k2 = 2
      · have h := (if_pos c30_2).symm.trans h
        refine lv_tableIn (tgt := 108) hx hb dX12_answer_30 (by rw [c30_2] <;> decide) (by rw [c30_2] <;> decide) (by rw [c30_2] <;> rfl) (by decide) ?_
        refine lv_aload_n hx hb (zat zrX12_answer_0_ok 34 rfl) rfl (lv_at hl 0 rfl) ?_
        refine lv_aload_n hx hb (zat zrX12_answer_0_ok 35 rfl) rfl (lv_at hl 0 rfl) ?_
        refine va_get (D := (dC, dI)) (ci := 9) (v := .ref a3) (C := RX12) (T := TX12) (N := 30) hx hb hts ifX12_answer_X12 hown hK hP 1 rfl rfl 3 (by decide) (hts (.fieldLink RX12 299 "HookPierModel" "pier" "LHookPierModel$Pier;") (List.mem_of_getElem? (i := 11) rfl)) (fun _ h9 => h9) rfl (zat zrX12_answer_0_ok 36 rfl) ?_
        refine va_getN (D := (dC, dI)) (ci := 8) (v := .ref (uq 3)) (C := RX11) (T := TX11) (N := 24) hx hb hts ifX12_answer_X11 hown hK hP 2 rfl rfl 13 (by decide) (va_Nw.use rfl (hN.1 (.fieldLinkNest RX12 261 "HookPierModel$Pier" "depth" "[I" "HookPierModel") (List.mem_of_getElem? (i := 35) rfl))) (fun _ h9 => h9) rfl (zat zrX12_answer_0_ok 37 rfl) ?_
        refine lv_iload_n hx hb (zat zrX12_answer_0_ok 38 rfl) rfl (lv_at hl 1 rfl) ?_
        obtain ⟨hg117, h⟩ := gA_of h
        refine va_iald hx hb hK hP 6 3 rfl rfl hg117 (zat zrX12_answer_0_ok 39 rfl) ?_
        obtain ⟨o118, eo118⟩ : ∃ o, o = f_X12_good (q_q.2.2.2.2.2.2.2.2.2.2.2.2.2.1 (k1).toNatClampNeg) ((0 : Int32), m_t.2) := ⟨_, rfl⟩
        have h := nm_of h o118 eo118
        refine ck_i (wc := ([(a0, .inr (9, [.int 0, .int m_t.2.1, .int m_t.2.2, .ref a3, g9, g10, g11, g12, g13, g14, g15, g16, g17, g18, g19, .ref a4, g20, g21, g22, g23, g24, g25, g26, g27, g28, g29, g30, g31, g32, g33]))])) (wr := ((a4, .inl (cB35, 26, .inl m_v)) :: bX11 a3 uq kq q_q [])) hP hD hK hS hA [1] [0, 2, 3, 4, 5, 6, 7, 8, 9, 10, 11, 12, 13, 14, 15, 16] rfl rfl (by decide) (by decide) (by decide) (fun hPc hDc => (va_runV (As := [.int (q_q.2.2.2.2.2.2.2.2.2.2.2.2.2.1 (k1).toNatClampNeg)]) (rest := []) ⟨hx, hb, hml, hown, hts⟩ (kfX12_good l dC dI a0 (q_q.2.2.2.2.2.2.2.2.2.2.2.2.2.1 (k1).toNatClampNeg) ((0 : Int32), m_t.2) (.ref a3) (g9) (g10) (g11) (g12) (g13) (g14) (g15) (g16) (g17) (g18) (g19) (.ref a4) (g20) (g21) (g22) (g23) (g24) (g25) (g26) (g27) (g28) (g29) (g30) (g31) (g32) (g33) H.size o118 eo118.symm) (cwV 1 hts gfX12_answer_3 rfl rfl rfl (by decide +kernel) ⟨(Nat.le_of_ble_eq_true rfl), (Nat.le_of_ble_eq_true rfl)⟩) (PV hPc (hK.sub (tys' := ([])) [] rfl) hDc hN 0 rfl rfl) rfl rfl hl.1 rfl (lv_room (Nat.le_of_ble_eq_true rfl)) (zat zrX12_answer_0_ok 40 rfl) ⟨(Nat.le_of_ble_eq_true rfl), (Nat.le_of_ble_eq_true rfl)⟩)) (fun r118 _ H locs hw hP hD _ hS => ?_)
        obtain rfl := hw
        obtain ⟨hP, hD⟩ := pd_mk ((a4, .inl (cB35, 26, .inl m_v)) :: bX11 a3 uq kq q_q ([(a0, .inr (9, [.int o118.2.1, .int o118.2.2.1, .int o118.2.2.2, .ref a3, g9, g10, g11, g12, g13, g14, g15, g16, g17, g18, g19, .ref a4, g20, g21, g22, g23, g24, g25, g26, g27, g28, g29, g30, g31, g32, g33]))])) hP hD
        obtain rfl := Option.some.inj h
        obtain ⟨hP9, hD9⟩ := pd_sub ((a0, .inr (9, [.int o118.2.1, .int o118.2.2.1, .int o118.2.2.2, .ref a3, g9, g10, g11, g12, g13, g14, g15, g16, g17, g18, g19, .ref a4, g20, g21, g22, g23, g24, g25, g26, g27, g28, g29, g30, g31, g32, g33])) :: bX11 a3 uq kq q_q ([(a4, .inl (cB35, 26, .inl m_v))])) [16, 1, 2, 3, 4, 5, 6, 7, 8, 9, 10, 11, 12, 13, 14, 15, 0] hP hD (by decide) rfl
        have hK9 := hK.sub (tys' := []) [] rfl
        rw [hQQ]
        exact W.iret (v := o118.1) hx hb hr (fun t ht hW => ⟨⟨o118.1, (), rfl, rfl, by rw [ht]; exact hP9, va_K.moved hW.alike hK9, hD9⟩, hS.F ht⟩) hS.2.2 (zat zrX12_answer_0_ok 41 rfl)
      have h := (if_neg c30_2).symm.trans h
      by_cases c30_3 : k2 = 3
      · have h := (if_pos c30_3).symm.trans h
        refine lv_tableIn (tgt := 122) hx hb dX12_answer_30 (by rw [c30_3] <;> decide) (by rw [c30_3] <;> decide) (by rw [c30_3] <;> rfl) (by decide) ?_
        refine lv_aload_n hx hb (zat zrX12_answer_0_ok 42 rfl) rfl (lv_at hl 0 rfl) ?_
        refine lv_aload_n hx hb (zat zrX12_answer_0_ok 43 rfl) rfl (lv_at hl 0 rfl) ?_
        refine va_get (D := (dC, dI)) (ci := 9) (v := .ref a3) (C := RX12) (T := TX12) (N := 30) hx hb hts ifX12_answer_X12 hown hK hP 1 rfl rfl 3 (by decide) (hts (.fieldLink RX12 299 "HookPierModel" "pier" "LHookPierModel$Pier;") (List.mem_of_getElem? (i := 11) rfl)) (fun _ h9 => h9) rfl (zat zrX12_answer_0_ok 44 rfl) ?_
        refine va_getN (D := (dC, dI)) (ci := 8) (v := .ref (uq 4)) (C := RX11) (T := TX11) (N := 24) hx hb hts ifX12_answer_X11 hown hK hP 2 rfl rfl 14 (by decide) (va_Nw.use rfl (hN.1 (.fieldLinkNest RX12 263 "HookPierModel$Pier" "hunger" "[I" "HookPierModel") (List.mem_of_getElem? (i := 36) rfl))) (fun _ h9 => h9) rfl (zat zrX12_answer_0_ok 45 rfl) ?_
        refine lv_iload_n hx hb (zat zrX12_answer_0_ok 46 rfl) rfl (lv_at hl 1 rfl) ?_
        obtain ⟨hg131, h⟩ := gA_of h
        refine va_iald hx hb hK hP 7 4 rfl rfl hg131 (zat zrX12_answer_0_ok 47 rfl) ?_
        obtain ⟨o132, eo132⟩ : ∃ o, o = f_X12_good (q_q.2.2.2.2.2.2.2.2.2.2.2.2.2.2.1 (k1).toNatClampNeg) ((0 : Int32), m_t.2) := ⟨_, rfl⟩
        have h := nm_of h o132 eo132
        refine ck_i (wc := ([(a0, .inr (9, [.int 0, .int m_t.2.1, .int m_t.2.2, .ref a3, g9, g10, g11, g12, g13, g14, g15, g16, g17, g18, g19, .ref a4, g20, g21, g22, g23, g24, g25, g26, g27, g28, g29, g30, g31, g32, g33]))])) (wr := ((a4, .inl (cB35, 26, .inl m_v)) :: bX11 a3 uq kq q_q [])) hP hD hK hS hA [1] [0, 2, 3, 4, 5, 6, 7, 8, 9, 10, 11, 12, 13, 14, 15, 16] rfl rfl (by decide) (by decide) (by decide) (fun hPc hDc => (va_runV (As := [.int (q_q.2.2.2.2.2.2.2.2.2.2.2.2.2.2.1 (k1).toNatClampNeg)]) (rest := []) ⟨hx, hb, hml, hown, hts⟩ (kfX12_good l dC dI a0 (q_q.2.2.2.2.2.2.2.2.2.2.2.2.2.2.1 (k1).toNatClampNeg) ((0 : Int32), m_t.2) (.ref a3) (g9) (g10) (g11) (g12) (g13) (g14) (g15) (g16) (g17) (g18) (g19) (.ref a4) (g20) (g21) (g22) (g23) (g24) (g25) (g26) (g27) (g28) (g29) (g30) (g31) (g32) (g33) H.size o132 eo132.symm) (cwV 1 hts gfX12_answer_3 rfl rfl rfl (by decide +kernel) ⟨(Nat.le_of_ble_eq_true rfl), (Nat.le_of_ble_eq_true rfl)⟩) (PV hPc (hK.sub (tys' := ([])) [] rfl) hDc hN 0 rfl rfl) rfl rfl hl.1 rfl (lv_room (Nat.le_of_ble_eq_true rfl)) (zat zrX12_answer_0_ok 48 rfl) ⟨(Nat.le_of_ble_eq_true rfl), (Nat.le_of_ble_eq_true rfl)⟩)) (fun r132 _ H locs hw hP hD _ hS => ?_)
        obtain rfl := hw
        obtain ⟨hP, hD⟩ := pd_mk ((a4, .inl (cB35, 26, .inl m_v)) :: bX11 a3 uq kq q_q ([(a0, .inr (9, [.int o132.2.1, .int o132.2.2.1, .int o132.2.2.2, .ref a3, g9, g10, g11, g12, g13, g14, g15, g16, g17, g18, g19, .ref a4, g20, g21, g22, g23, g24, g25, g26, g27, g28, g29, g30, g31, g32, g33]))])) hP hD
        obtain rfl := Option.some.inj h
        obtain ⟨hP9, hD9⟩ := pd_sub ((a0, .inr (9, [.int o132.2.1, .int o132.2.2.1, .int o132.2.2.2, .ref a3, g9, g10, g11, g12, g13, g14, g15, g16, g17, g18, g19, .ref a4, g20, g21, g22, g23, g24, g25, g26, g27, g28, g29, g30, g31, g32, g33])) :: bX11 a3 uq kq q_q ([(a4, .inl (cB35, 26, .inl m_v))])) [16, 1, 2, 3, 4, 5, 6, 7, 8, 9, 10, 11, 12, 13, 14, 15, 0] hP hD (by decide) rfl
        have hK9 := hK.sub (tys' := []) [] rfl
        rw [hQQ]
        exact W.iret (v := o132.1) hx hb hr (fun t ht hW => ⟨⟨o132.1, (), rfl, rfl, by rw [ht]; exact hP9, va_K.moved hW.alike hK9, hD9⟩, hS.F ht⟩) hS.2.2 (zat zrX12_answer_0_ok 49 rfl)
      have h := (if_neg c30_3).symm.trans h
      by_cases c30_4 : k2 = 4
      · have h := (if_pos c30_4).symm.trans h
        refine lv_tableIn (tgt := 136) hx hb dX12_answer_30 (by rw [c30_4] <;> decide) (by rw [c30_4] <;> decide) (by rw [c30_4] <;> rfl) (by decide) ?_
        refine lv_aload_n hx hb (zat zrX12_answer_0_ok 50 rfl) rfl (lv_at hl 0 rfl) ?_
        refine lv_aload_n hx hb (zat zrX12_answer_0_ok 51 rfl) rfl (lv_at hl 0 rfl) ?_
        refine va_get (D := (dC, dI)) (ci := 9) (v := .ref a3) (C := RX12) (T := TX12) (N := 30) hx hb hts ifX12_answer_X12 hown hK hP 1 rfl rfl 3 (by decide) (hts (.fieldLink RX12 299 "HookPierModel" "pier" "LHookPierModel$Pier;") (List.mem_of_getElem? (i := 11) rfl)) (fun _ h9 => h9) rfl (zat zrX12_answer_0_ok 52 rfl) ?_
        refine va_getN (D := (dC, dI)) (ci := 8) (v := .ref (uq 5)) (C := RX11) (T := TX11) (N := 24) hx hb hts ifX12_answer_X11 hown hK hP 2 rfl rfl 15 (by decide) (va_Nw.use rfl (hN.1 (.fieldLinkNest RX12 265 "HookPierModel$Pier" "likes" "[I" "HookPierModel") (List.mem_of_getElem? (i := 37) rfl))) (fun _ h9 => h9) rfl (zat zrX12_answer_0_ok 53 rfl) ?_
        refine lv_iload_n hx hb (zat zrX12_answer_0_ok 54 rfl) rfl (lv_at hl 1 rfl) ?_
        obtain ⟨hg145, h⟩ := gA_of h
        refine va_iald hx hb hK hP 8 5 rfl rfl hg145 (zat zrX12_answer_0_ok 55 rfl) ?_
        obtain ⟨o146, eo146⟩ : ∃ o, o = f_X12_good (q_q.2.2.2.2.2.2.2.2.2.2.2.2.2.2.2.1 (k1).toNatClampNeg) ((0 : Int32), m_t.2) := ⟨_, rfl⟩
        have h := nm_of h o146 eo146
        refine ck_i (wc := ([(a0, .inr (9, [.int 0, .int m_t.2.1, .int m_t.2.2, .ref a3, g9, g10, g11, g12, g13, g14, g15, g16, g17, g18, g19, .ref a4, g20, g21, g22, g23, g24, g25, g26, g27, g28, g29, g30, g31, g32, g33]))])) (wr := ((a4, .inl (cB35, 26, .inl m_v)) :: bX11 a3 uq kq q_q [])) hP hD hK hS hA [1] [0, 2, 3, 4, 5, 6, 7, 8, 9, 10, 11, 12, 13, 14, 15, 16] rfl rfl (by decide) (by decide) (by decide) (fun hPc hDc => (va_runV (As := [.int (q_q.2.2.2.2.2.2.2.2.2.2.2.2.2.2.2.1 (k1).toNatClampNeg)]) (rest := []) ⟨hx, hb, hml, hown, hts⟩ (kfX12_good l dC dI a0 (q_q.2.2.2.2.2.2.2.2.2.2.2.2.2.2.2.1 (k1).toNatClampNeg) ((0 : Int32), m_t.2) (.ref a3) (g9) (g10) (g11) (g12) (g13) (g14) (g15) (g16) (g17) (g18) (g19) (.ref a4) (g20) (g21) (g22) (g23) (g24) (g25) (g26) (g27) (g28) (g29) (g30) (g31) (g32) (g33) H.size o146 eo146.symm) (cwV 1 hts gfX12_answer_3 rfl rfl rfl (by decide +kernel) ⟨(Nat.le_of_ble_eq_true rfl), (Nat.le_of_ble_eq_true rfl)⟩) (PV hPc (hK.sub (tys' := ([])) [] rfl) hDc hN 0 rfl rfl) rfl rfl hl.1 rfl (lv_room (Nat.le_of_ble_eq_true rfl)) (zat zrX12_answer_0_ok 56 rfl) ⟨(Nat.le_of_ble_eq_true rfl), (Nat.le_of_ble_eq_true rfl)⟩)) (fun r146 _ H locs hw hP hD _ hS => ?_)
        obtain rfl := hw
        obtain ⟨hP, hD⟩ := pd_mk ((a4, .inl (cB35, 26, .inl m_v)) :: bX11 a3 uq kq q_q ([(a0, .inr (9, [.int o146.2.1, .int o146.2.2.1, .int o146.2.2.2, .ref a3, g9, g10, g11, g12, g13, g14, g15, g16, g17, g18, g19, .ref a4, g20, g21, g22, g23, g24, g25, g26, g27, g28, g29, g30, g31, g32, g33]))])) hP hD
        obtain rfl := Option.some.inj h
        obtain ⟨hP9, hD9⟩ := pd_sub ((a0, .inr (9, [.int o146.2.1, .int o146.2.2.1, .int o146.2.2.2, .ref a3, g9, g10, g11, g12, g13, g14, g15, g16, g17, g18, g19, .ref a4, g20, g21, g22, g23, g24, g25, g26, g27, g28, g29, g30, g31, g32, g33])) :: bX11 a3 uq kq q_q ([(a4, .inl (cB35, 26, .inl m_v))])) [16, 1, 2, 3, 4, 5, 6, 7, 8, 9, 10, 11, 12, 13, 14, 15, 0] hP hD (by decide) rfl
        have hK9 := hK.sub (tys' := []) [] rfl
        rw [hQQ]
        exact W.iret (v := o146.1) hx hb hr (fun t ht hW => ⟨⟨o146.1, (), rfl, rfl, by rw [ht]; exact hP9, va_K.moved hW.alike hK9, hD9⟩, hS.F ht⟩) hS.2.2 (zat zrX12_answer_0_ok 57 rfl)
      have h := (if_neg c30_4).symm.trans h
      by_cases c30_5 : k2 = 5
      · have h := (if_pos c30_5).symm.trans h
        refine lv_tableIn (tgt := 150) hx hb dX12_answer_30 (by rw [c30_5] <;> decide) (by rw [c30_5] <;> decide) (by rw [c30_5] <;> rfl) (by decide) ?_
        refine lv_aload_n hx hb (zat zrX12_answer_0_ok 58 rfl) rfl (lv_at hl 0 rfl) ?_
        refine lv_aload_n hx hb (zat zrX12_answer_0_ok 59 rfl) rfl (lv_at hl 0 rfl) ?_
        refine va_get (D := (dC, dI)) (ci := 9) (v := .ref a3) (C := RX12) (T := TX12) (N := 30) hx hb hts ifX12_answer_X12 hown hK hP 1 rfl rfl 3 (by decide) (hts (.fieldLink RX12 299 "HookPierModel" "pier" "LHookPierModel$Pier;") (List.mem_of_getElem? (i := 11) rfl)) (fun _ h9 => h9) rfl (zat zrX12_answer_0_ok 60 rfl) ?_
        refine va_getN (D := (dC, dI)) (ci := 8) (v := .ref (uq 6)) (C := RX11) (T := TX11) (N := 24) hx hb hts ifX12_answer_X11 hown hK hP 2 rfl rfl 16 (by decide) (va_Nw.use rfl (hN.1 (.fieldLinkNest RX12 267 "HookPierModel$Pier" "worth" "[I" "HookPierModel") (List.mem_of_getElem? (i := 38) rfl))) (fun _ h9 => h9) rfl (zat zrX12_answer_0_ok 61 rfl) ?_
        refine lv_iload_n hx hb (zat zrX12_answer_0_ok 62 rfl) rfl (lv_at hl 1 rfl) ?_
        obtain ⟨hg159, h⟩ := gA_of h
        refine va_iald hx hb hK hP 9 6 rfl rfl hg159 (zat zrX12_answer_0_ok 63 rfl) ?_
        obtain ⟨o160, eo160⟩ : ∃ o, o = f_X12_good (q_q.2.2.2.2.2.2.2.2.2.2.2.2.2.2.2.2.1 (k1).toNatClampNeg) ((0 : Int32), m_t.2) := ⟨_, rfl⟩
        have h := nm_of h o160 eo160
        refine ck_i (wc := ([(a0, .inr (9, [.int 0, .int m_t.2.1, .int m_t.2.2, .ref a3, g9, g10, g11, g12, g13, g14, g15, g16, g17, g18, g19, .ref a4, g20, g21, g22, g23, g24, g25, g26, g27, g28, g29, g30, g31, g32, g33]))])) (wr := ((a4, .inl (cB35, 26, .inl m_v)) :: bX11 a3 uq kq q_q [])) hP hD hK hS hA [1] [0, 2, 3, 4, 5, 6, 7, 8, 9, 10, 11, 12, 13, 14, 15, 16] rfl rfl (by decide) (by decide) (by decide) (fun hPc hDc => (va_runV (As := [.int (q_q.2.2.2.2.2.2.2.2.2.2.2.2.2.2.2.2.1 (k1).toNatClampNeg)]) (rest := []) ⟨hx, hb, hml, hown, hts⟩ (kfX12_good l dC dI a0 (q_q.2.2.2.2.2.2.2.2.2.2.2.2.2.2.2.2.1 (k1).toNatClampNeg) ((0 : Int32), m_t.2) (.ref a3) (g9) (g10) (g11) (g12) (g13) (g14) (g15) (g16) (g17) (g18) (g19) (.ref a4) (g20) (g21) (g22) (g23) (g24) (g25) (g26) (g27) (g28) (g29) (g30) (g31) (g32) (g33) H.size o160 eo160.symm) (cwV 1 hts gfX12_answer_3 rfl rfl rfl (by decide +kernel) ⟨(Nat.le_of_ble_eq_true rfl), (Nat.le_of_ble_eq_true rfl)⟩) (PV hPc (hK.sub (tys' := ([])) [] rfl) hDc hN 0 rfl rfl) rfl rfl hl.1 rfl (lv_room (Nat.le_of_ble_eq_true rfl)) (zat zrX12_answer_1_ok 0 rfl) ⟨(Nat.le_of_ble_eq_true rfl), (Nat.le_of_ble_eq_true rfl)⟩)) (fun r160 _ H locs hw hP hD _ hS => ?_)
        obtain rfl := hw
        obtain ⟨hP, hD⟩ := pd_mk ((a4, .inl (cB35, 26, .inl m_v)) :: bX11 a3 uq kq q_q ([(a0, .inr (9, [.int o160.2.1, .int o160.2.2.1, .int o160.2.2.2, .ref a3, g9, g10, g11, g12, g13, g14, g15, g16, g17, g18, g19, .ref a4, g20, g21, g22, g23, g24, g25, g26, g27, g28, g29, g30, g31, g32, g33]))])) hP hD
        obtain rfl := Option.some.inj h
        obtain ⟨hP9, hD9⟩ := pd_sub ((a0, .inr (9, [.int o160.2.1, .int o160.2.2.1, .int o160.2.2.2, .ref a3, g9, g10, g11, g12, g13, g14, g15, g16, g17, g18, g19, .ref a4, g20, g21, g22, g23, g24, g25, g26, g27, g28, g29, g30, g31, g32, g33])) :: bX11 a3 uq kq q_q ([(a4, .inl (cB35, 26, .inl m_v))])) [16, 1, 2, 3, 4, 5, 6, 7, 8, 9, 10, 11, 12, 13, 14, 15, 0] hP hD (by decide) rfl
        have hK9 := hK.sub (tys' := []) [] rfl
        rw [hQQ]
        exact W.iret (v := o160.1) hx hb hr (fun t ht hW => ⟨⟨o160.1, (), rfl, rfl, by rw [ht]; exact hP9, va_K.moved hW.alike hK9, hD9⟩, hS.F ht⟩) hS.2.2 (zat zrX12_answer_1_ok 1 rfl)
      have h := (if_neg c30_5).symm.trans h
      by_cases c30_6 : k2 = 6
      · have h := (if_pos c30_6).symm.trans h
        refine lv_tableIn (tgt := 164) hx hb dX12_answer_30 (by rw [c30_6] <;> decide) (by rw [c30_6] <;> decide) (by rw [c30_6] <;> rfl) (by decide) ?_
        refine lv_aload_n hx hb (zat zrX12_answer_1_ok 2 rfl) rfl (lv_at hl 0 rfl) ?_
        refine lv_aload_n hx hb (zat zrX12_answer_1_ok 3 rfl) rfl (lv_at hl 0 rfl) ?_
        refine va_get (D := (dC, dI)) (ci := 9) (v := .ref a4) (C := RX12) (T := TX12) (N := 30) hx hb hts ifX12_answer_X12 hown hK hP 1 rfl rfl 15 (by decide) (hts (.fieldLink RX12 17 "HookPierModel" "v" "[I") (List.mem_of_getElem? (i := 15) rfl)) (fun _ h9 => h9) rfl (zat zrX12_answer_1_ok 4 rfl) ?_
        refine lv_iconst (v := 0) hx hb (zat zrX12_answer_1_ok 5 rfl) (by decide) ?_
        refine lv_iload_n hx hb (zat zrX12_answer_1_ok 6 rfl) rfl (lv_at hl 1 rfl) ?_
        refine lv_iadd hx hb (zat zrX12_answer_1_ok 7 rfl) ?_
        obtain ⟨hg172, h⟩ := gA_of h
        refine va_iald hx hb hK hP 0 14 rfl rfl hg172 (zat zrX12_answer_1_ok 8 rfl) ?_
        obtain ⟨o173, eo173⟩ : ∃ o, o = f_X12_good (m_v (((0 : Int32) + k1)).toNatClampNeg) ((0 : Int32), m_t.2) := ⟨_, rfl⟩
        have h := nm_of h o173 eo173
        refine ck_i (wc := ([(a0, .inr (9, [.int 0, .int m_t.2.1, .int m_t.2.2, .ref a3, g9, g10, g11, g12, g13, g14, g15, g16, g17, g18, g19, .ref a4, g20, g21, g22, g23, g24, g25, g26, g27, g28, g29, g30, g31, g32, g33]))])) (wr := ((a4, .inl (cB35, 26, .inl m_v)) :: bX11 a3 uq kq q_q [])) hP hD hK hS hA [1] [0, 2, 3, 4, 5, 6, 7, 8, 9, 10, 11, 12, 13, 14, 15, 16] rfl rfl (by decide) (by decide) (by decide) (fun hPc hDc => (va_runV (As := [.int (m_v (((0 : Int32) + k1)).toNatClampNeg)]) (rest := []) ⟨hx, hb, hml, hown, hts⟩ (kfX12_good l dC dI a0 (m_v (((0 : Int32) + k1)).toNatClampNeg) ((0 : Int32), m_t.2) (.ref a3) (g9) (g10) (g11) (g12) (g13) (g14) (g15) (g16) (g17) (g18) (g19) (.ref a4) (g20) (g21) (g22) (g23) (g24) (g25) (g26) (g27) (g28) (g29) (g30) (g31) (g32) (g33) H.size o173 eo173.symm) (cwV 1 hts gfX12_answer_3 rfl rfl rfl (by decide +kernel) ⟨(Nat.le_of_ble_eq_true rfl), (Nat.le_of_ble_eq_true rfl)⟩) (PV hPc (hK.sub (tys' := ([])) [] rfl) hDc hN 0 rfl rfl) rfl rfl hl.1 rfl (lv_room (Nat.le_of_ble_eq_true rfl)) (zat zrX12_answer_1_ok 9 rfl) ⟨(Nat.le_of_ble_eq_true rfl), (Nat.le_of_ble_eq_true rfl)⟩)) (fun r173 _ H locs hw hP hD _ hS => ?_)
        obtain rfl := hw
        obtain ⟨hP, hD⟩ := pd_mk ((a4, .inl (cB35, 26, .inl m_v)) :: bX11 a3 uq kq q_q ([(a0, .inr (9, [.int o173.2.1, .int o173.2.2.1, .int o173.2.2.2, .ref a3, g9, g10, g11, g12, g13, g14, g15, g16, g17, g18, g19, .ref a4, g20, g21, g22, g23, g24, g25, g26, g27, g28, g29, g30, g31, g32, g33]))])) hP hD
        obtain rfl := Option.some.inj h
        obtain ⟨hP9, hD9⟩ := pd_sub ((a0, .inr (9, [.int o173.2.1, .int o173.2.2.1, .int o173.2.2.2, .ref a3, g9, g10, g11, g12, g13, g14, g15, g16, g17, g18, g19, .ref a4, g20, g21, g22, g23, g24, g25, g26, g27, g28, g29, g30, g31, g32, g33])) :: bX11 a3 uq kq q_q ([(a4, .inl (cB35, 26, .inl m_v))])) [16, 1, 2, 3, 4, 5, 6, 7, 8, 9, 10, 11, 12, 13, 14, 15, 0] hP hD (by decide) rfl
        have hK9 := hK.sub (tys' := []) [] rfl
        rw [hQQ]
        exact W.iret (v := o173.1) hx hb hr (fun t ht hW => ⟨⟨o173.1, (), rfl, rfl, by rw [ht]; exact hP9, va_K.moved hW.alike hK9, hD9⟩, hS.F ht⟩) hS.2.2 (zat zrX12_answer_1_ok 10 rfl)
      have h := (if_neg c30_6).symm.trans h
      by_cases c30_7 : k2 = 7
      · have h := (if_pos c30_7).symm.trans h
        refine lv_tableIn (tgt := 177) hx hb dX12_answer_30 (by rw [c30_7] <;> decide) (by rw [c30_7] <;> decide) (by rw [c30_7] <;> rfl) (by decide) ?_
        refine lv_aload_n hx hb (zat zrX12_answer_1_ok 11 rfl) rfl (lv_at hl 0 rfl) ?_
        refine lv_aload_n hx hb (zat zrX12_answer_1_ok 12 rfl) rfl (lv_at hl 0 rfl) ?_
        refine va_get (D := (dC, dI)) (ci := 9) (v := .ref a4) (C := RX12) (T := TX12) (N := 30) hx hb hts ifX12_answer_X12 hown hK hP 1 rfl rfl 15 (by decide) (hts (.fieldLink RX12 17 "HookPierModel" "v" "[I") (List.mem_of_getElem? (i := 15) rfl)) (fun _ h9 => h9) rfl (zat zrX12_answer_1_ok 13 rfl) ?_
        refine lv_bipush (v := 6) hx hb (zat zrX12_answer_1_ok 14 rfl) (by decide) ?_
        refine lv_iload_n hx hb (zat zrX12_answer_1_ok 15 rfl) rfl (lv_at hl 1 rfl) ?_
        refine lv_iadd hx hb (zat zrX12_answer_1_ok 16 rfl) ?_
        obtain ⟨hg186, h⟩ := gA_of h
        refine va_iald hx hb hK hP 0 14 rfl rfl hg186 (zat zrX12_answer_1_ok 17 rfl) ?_
        obtain ⟨o187, eo187⟩ : ∃ o, o = f_X12_good (m_v (((6 : Int32) + k1)).toNatClampNeg) ((0 : Int32), m_t.2) := ⟨_, rfl⟩
        have h := nm_of h o187 eo187
        refine ck_i (wc := ([(a0, .inr (9, [.int 0, .int m_t.2.1, .int m_t.2.2, .ref a3, g9, g10, g11, g12, g13, g14, g15, g16, g17, g18, g19, .ref a4, g20, g21, g22, g23, g24, g25, g26, g27, g28, g29, g30, g31, g32, g33]))])) (wr := ((a4, .inl (cB35, 26, .inl m_v)) :: bX11 a3 uq kq q_q [])) hP hD hK hS hA [1] [0, 2, 3, 4, 5, 6, 7, 8, 9, 10, 11, 12, 13, 14, 15, 16] rfl rfl (by decide) (by decide) (by decide) (fun hPc hDc => (va_runV (As := [.int (m_v (((6 : Int32) + k1)).toNatClampNeg)]) (rest := []) ⟨hx, hb, hml, hown, hts⟩ (kfX12_good l dC dI a0 (m_v (((6 : Int32) + k1)).toNatClampNeg) ((0 : Int32), m_t.2) (.ref a3) (g9) (g10) (g11) (g12) (g13) (g14) (g15) (g16) (g17) (g18) (g19) (.ref a4) (g20) (g21) (g22) (g23) (g24) (g25) (g26) (g27) (g28) (g29) (g30) (g31) (g32) (g33) H.size o187 eo187.symm) (cwV 1 hts gfX12_answer_3 rfl rfl rfl (by decide +kernel) ⟨(Nat.le_of_ble_eq_true rfl), (Nat.le_of_ble_eq_true rfl)⟩) (PV hPc (hK.sub (tys' := ([])) [] rfl) hDc hN 0 rfl rfl) rfl rfl hl.1 rfl (lv_room (Nat.le_of_ble_eq_true rfl)) (zat zrX12_answer_1_ok 18 rfl) ⟨(Nat.le_of_ble_eq_true rfl), (Nat.le_of_ble_eq_true rfl)⟩)) (fun r187 _ H locs hw hP hD _ hS => ?_)
        obtain rfl := hw
        obtain ⟨hP, hD⟩ := pd_mk ((a4, .inl (cB35, 26, .inl m_v)) :: bX11 a3 uq kq q_q ([(a0, .inr (9, [.int o187.2.1, .int o187.2.2.1, .int o187.2.2.2, .ref a3, g9, g10, g11, g12, g13, g14, g15, g16, g17, g18, g19, .ref a4, g20, g21, g22, g23, g24, g25, g26, g27, g28, g29, g30, g31, g32, g33]))])) hP hD
        obtain rfl := Option.some.inj h
        obtain ⟨hP9, hD9⟩ := pd_sub ((a0, .inr (9, [.int o187.2.1, .int o187.2.2.1, .int o187.2.2.2, .ref a3, g9, g10, g11, g12, g13, g14, g15, g16, g17, g18, g19, .ref a4, g20, g21, g22, g23, g24, g25, g26, g27, g28, g29, g30, g31, g32, g33])) :: bX11 a3 uq kq q_q ([(a4, .inl (cB35, 26, .inl m_v))])) [16, 1, 2, 3, 4, 5, 6, 7, 8, 9, 10, 11, 12, 13, 14, 15, 0] hP hD (by decide) rfl
        have hK9 := hK.sub (tys' := []) [] rfl
        rw [hQQ]
        exact W.iret (v := o187.1) hx hb hr (fun t ht hW => ⟨⟨o187.1, (), rfl, rfl, by rw [ht]; exact hP9, va_K.moved hW.alike hK9, hD9⟩, hS.F ht⟩) hS.2.2 (zat zrX12_answer_1_ok 19 rfl)
      have h := (if_neg c30_7).symm.trans h
      by_cases c30_8 : k2 = 8
      · have h := (if_pos c30_8).symm.trans h
        refine lv_tableIn (tgt := 191) hx hb dX12_answer_30 (by rw [c30_8] <;> decide) (by rw [c30_8] <;> decide) (by rw [c30_8] <;> rfl) (by decide) ?_
        refine lv_aload_n hx hb (zat zrX12_answer_1_ok 20 rfl) rfl (lv_at hl 0 rfl) ?_
        refine lv_aload_n hx hb (zat zrX12_answer_1_ok 21 rfl) rfl (lv_at hl 0 rfl) ?_
        refine va_get (D := (dC, dI)) (ci := 9) (v := .ref a4) (C := RX12) (T := TX12) (N := 30) hx hb hts ifX12_answer_X12 hown hK hP 1 rfl rfl 15 (by decide) (hts (.fieldLink RX12 17 "HookPierModel" "v" "[I") (List.mem_of_getElem? (i := 15) rfl)) (fun _ h9 => h9) rfl (zat zrX12_answer_1_ok 22 rfl) ?_
        refine lv_bipush (v := 12) hx hb (zat zrX12_answer_1_ok 23 rfl) (by decide) ?_
        refine lv_iload_n hx hb (zat zrX12_answer_1_ok 24 rfl) rfl (lv_at hl 1 rfl) ?_
        refine lv_iadd hx hb (zat zrX12_answer_1_ok 25 rfl) ?_
        obtain ⟨hg200, h⟩ := gA_of h
        refine va_iald hx hb hK hP 0 14 rfl rfl hg200 (zat zrX12_answer_1_ok 26 rfl) ?_
        obtain ⟨o201, eo201⟩ : ∃ o, o = f_X12_good (m_v (((12 : Int32) + k1)).toNatClampNeg) ((0 : Int32), m_t.2) := ⟨_, rfl⟩
        have h := nm_of h o201 eo201
        refine ck_i (wc := ([(a0, .inr (9, [.int 0, .int m_t.2.1, .int m_t.2.2, .ref a3, g9, g10, g11, g12, g13, g14, g15, g16, g17, g18, g19, .ref a4, g20, g21, g22, g23, g24, g25, g26, g27, g28, g29, g30, g31, g32, g33]))])) (wr := ((a4, .inl (cB35, 26, .inl m_v)) :: bX11 a3 uq kq q_q [])) hP hD hK hS hA [1] [0, 2, 3, 4, 5, 6, 7, 8, 9, 10, 11, 12, 13, 14, 15, 16] rfl rfl (by decide) (by decide) (by decide) (fun hPc hDc => (va_runV (As := [.int (m_v (((12 : Int32) + k1)).toNatClampNeg)]) (rest := []) ⟨hx, hb, hml, hown, hts⟩ (kfX12_good l dC dI a0 (m_v (((12 : Int32) + k1)).toNatClampNeg) ((0 : Int32), m_t.2) (.ref a3) (g9) (g10) (g11) (g12) (g13) (g14) (g15) (g16) (g17) (g18) (g19) (.ref a4) (g20) (g21) (g22) (g23) (g24) (g25) (g26) (g27) (g28) (g29) (g30) (g31) (g32) (g33) H.size o201 eo201.symm) (cwV 1 hts gfX12_answer_3 rfl rfl rfl (by decide +kernel) ⟨(Nat.le_of_ble_eq_true rfl), (Nat.le_of_ble_eq_true rfl)⟩) (PV hPc (hK.sub (tys' := ([])) [] rfl) hDc hN 0 rfl rfl) rfl rfl hl.1 rfl (lv_room (Nat.le_of_ble_eq_true rfl)) (zat zrX12_answer_1_ok 27 rfl) ⟨(Nat.le_of_ble_eq_true rfl), (Nat.le_of_ble_eq_true rfl)⟩)) (fun r201 _ H locs hw hP hD _ hS => ?_)
        obtain rfl := hw
        obtain ⟨hP, hD⟩ := pd_mk ((a4, .inl (cB35, 26, .inl m_v)) :: bX11 a3 uq kq q_q ([(a0, .inr (9, [.int o201.2.1, .int o201.2.2.1, .int o201.2.2.2, .ref a3, g9, g10, g11, g12, g13, g14, g15, g16, g17, g18, g19, .ref a4, g20, g21, g22, g23, g24, g25, g26, g27, g28, g29, g30, g31, g32, g33]))])) hP hD
        obtain rfl := Option.some.inj h
        obtain ⟨hP9, hD9⟩ := pd_sub ((a0, .inr (9, [.int o201.2.1, .int o201.2.2.1, .int o201.2.2.2, .ref a3, g9, g10, g11, g12, g13, g14, g15, g16, g17, g18, g19, .ref a4, g20, g21, g22, g23, g24, g25, g26, g27, g28, g29, g30, g31, g32, g33])) :: bX11 a3 uq kq q_q ([(a4, .inl (cB35, 26, .inl m_v))])) [16, 1, 2, 3, 4, 5, 6, 7, 8, 9, 10, 11, 12, 13, 14, 15, 0] hP hD (by decide) rfl
        have hK9 := hK.sub (tys' := []) [] rfl
        rw [hQQ]
        exact W.iret (v := o201.1) hx hb hr (fun t ht hW => ⟨⟨o201.1, (), rfl, rfl, by rw [ht]; exact hP9, va_K.moved hW.alike hK9, hD9⟩, hS.F ht⟩) hS.2.2 (zat zrX12_answer_1_ok 28 rfl)
      have h := (if_neg c30_8).symm.trans h
      refine lv_tableOut (tgt := 205) hx hb dX12_answer_30 (by simp only [fa_eq, ltv_0, ltv_1, ltv_2, ltv_3, ltv_4, ltv_5, ltv_6, ltv_7, ltv_8] at c30_0 c30_1 c30_2 c30_3 c30_4 c30_5 c30_6 c30_7 c30_8; omega) (by decide) ?_
      refine lv_aload_n hx hb (zat zrX12_answer_1_ok 29 rfl) rfl (lv_at hl 0 rfl) ?_
      refine lv_aload_n hx hb (zat zrX12_answer_1_ok 30 rfl) rfl (lv_at hl 0 rfl) ?_
      refine va_get (D := (dC, dI)) (ci := 9) (v := .ref a4) (C := RX12) (T := TX12) (N := 30) hx hb hts ifX12_answer_X12 hown hK hP 1 rfl rfl 15 (by decide) (hts (.fieldLink RX12 17 "HookPierModel" "v" "[I") (List.mem_of_getElem? (i := 15) rfl)) (fun _ h9 => h9) rfl (zat zrX12_answer_1_ok 31 rfl) ?_
      refine lv_iconst (v := 0) hx hb (zat zrX12_answer_1_ok 32 rfl) (by decide) ?_
      refine lv_iload_n hx hb (zat zrX12_answer_1_ok 33 rfl) rfl (lv_at hl 1 rfl) ?_
      refine lv_iadd hx hb (zat zrX12_answer_1_ok 34 rfl) ?_
      obtain ⟨hg213, h⟩ := gA_of h
      refine va_iald hx hb hK hP 0 14 rfl rfl hg213 (zat zrX12_answer_1_ok 35 rfl) ?_
      refine lv_iconst (v := 1) hx hb (zat zrX12_answer_1_ok 36 rfl) (by decide) ?_
      have J244 : ∀ (v244_t1 : Int32) (H : Heap) (locs : List Loc) (ls : Array Slot), f_X12_answer_J244 m_t v244_t1 = some out → va_P (dC, dI) vwCl ((a4, .inl (cB35, 26, .inl m_v)) :: (a0, .inr (9, [.int 0, .int m_t.2.1, .int m_t.2.2, .ref a3, g9, g10, g11, g12, g13, g14, g15, g16, g17, g18, g19, .ref a4, g20, g21, g22, g23, g24, g25, g26, g27, g28, g29, g30, g31, g32, g33])) :: bX11 a3 uq kq q_q []) H → va_D A ((a4, .inl (cB35, 26, .inl m_v)) :: (a0, .inr (9, [.int 0, .int m_t.2.1, .int m_t.2.2, .ref a3, g9, g10, g11, g12, g13, g14, g15, g16, g17, g18, g19, .ref a4, g20, g21, g22, g23, g24, g25, g26, g27, g28, g29, g30, g31, g32, g33])) :: bX11 a3 uq kq q_q []) → va_S A s.heap H locs → lv_has ls 3 [] → W p l e (headSpec vfX12_answer { frames := 1, cells := 0, slots := 0, locals := 24 }).room s m ([.ref a0, .int k1, .int k2]).toArray below meth c H locs 0 0 QQ (F0 m 244 ls [.int v244_t1, .ref a0]) := by
        intro v244_t1 H locs ls h  hP hD hS hl
        rw [f_X12_answer_J244] at h
        obtain ⟨o244, eo244⟩ : ∃ o, o = f_X12_good v244_t1 ((0 : Int32), m_t.2) := ⟨_, rfl⟩
        have h := nm_of h o244 eo244
        refine ck_i (wc := ([(a0, .inr (9, [.int 0, .int m_t.2.1, .int m_t.2.2, .ref a3, g9, g10, g11, g12, g13, g14, g15, g16, g17, g18, g19, .ref a4, g20, g21, g22, g23, g24, g25, g26, g27, g28, g29, g30, g31, g32, g33]))])) (wr := ((a4, .inl (cB35, 26, .inl m_v)) :: bX11 a3 uq kq q_q [])) hP hD hK hS hA [1] [0, 2, 3, 4, 5, 6, 7, 8, 9, 10, 11, 12, 13, 14, 15, 16] rfl rfl (by decide) (by decide) (by decide) (fun hPc hDc => (va_runV (As := [.int v244_t1]) (rest := []) ⟨hx, hb, hml, hown, hts⟩ (kfX12_good l dC dI a0 v244_t1 ((0 : Int32), m_t.2) (.ref a3) (g9) (g10) (g11) (g12) (g13) (g14) (g15) (g16) (g17) (g18) (g19) (.ref a4) (g20) (g21) (g22) (g23) (g24) (g25) (g26) (g27) (g28) (g29) (g30) (g31) (g32) (g33) H.size o244 eo244.symm) (cwV 1 hts gfX12_answer_3 rfl rfl rfl (by decide +kernel) ⟨(Nat.le_of_ble_eq_true rfl), (Nat.le_of_ble_eq_true rfl)⟩) (PV hPc (hK.sub (tys' := ([])) [] rfl) hDc hN 0 rfl rfl) rfl rfl hl.1 rfl (lv_room (Nat.le_of_ble_eq_true rfl)) (zat zrX12_answer_1_ok 53 rfl) ⟨(Nat.le_of_ble_eq_true rfl), (Nat.le_of_ble_eq_true rfl)⟩)) (fun r244 _ H locs hw hP hD _ hS => ?_)
        obtain rfl := hw
        obtain ⟨hP, hD⟩ := pd_mk ((a4, .inl (cB35, 26, .inl m_v)) :: bX11 a3 uq kq q_q ([(a0, .inr (9, [.int o244.2.1, .int o244.2.2.1, .int o244.2.2.2, .ref a3, g9, g10, g11, g12, g13, g14, g15, g16, g17, g18, g19, .ref a4, g20, g21, g22, g23, g24, g25, g26, g27, g28, g29, g30, g31, g32, g33]))])) hP hD
        obtain rfl := Option.some.inj h
        obtain ⟨hP9, hD9⟩ := pd_sub ((a0, .inr (9, [.int o244.2.1, .int o244.2.2.1, .int o244.2.2.2, .ref a3, g9, g10, g11, g12, g13, g14, g15, g16, g17, g18, g19, .ref a4, g20, g21, g22, g23, g24, g25, g26, g27, g28, g29, g30, g31, g32, g33])) :: bX11 a3 uq kq q_q ([(a4, .inl (cB35, 26, .inl m_v))])) [16, 1, 2, 3, 4, 5, 6, 7, 8, 9, 10, 11, 12, 13, 14, 15, 0] hP hD (by decide) rfl
        have hK9 := hK.sub (tys' := []) [] rfl
        rw [hQQ]
        exact W.iret (v := o244.1) hx hb hr (fun t ht hW => ⟨⟨o244.1, (), rfl, rfl, by rw [ht]; exact hP9, va_K.moved hW.alike hK9, hD9⟩, hS.F ht⟩) hS.2.2 (zat zrX12_answer_1_ok 54 rfl)
      refine lv_icmp_ne (tgt := 242) hx hb (zat zrX12_answer_1_ok 37 rfl) (by decide) (fun c215 => ?_) (fun c215 => ?_)
      · have h := (if_neg c215).symm.trans h
        refine lv_bipush (v := (-2)) hx hb (zat zrX12_answer_1_ok 52 rfl) (by decide) ?_
        exact J244 (-2 : Int32) H _ ls h  hP hD hS (lv_sub hl [] rfl)
      · have h := (if_pos c215).symm.trans h
        refine lv_aload_n hx hb (zat zrX12_answer_1_ok 38 rfl) rfl (lv_at hl 0 rfl) ?_
        refine lv_iload_n hx hb (zat zrX12_answer_1_ok 39 rfl) rfl (lv_at hl 1 rfl) ?_
        refine lv_aload_n hx hb (zat zrX12_answer_1_ok 40 rfl) rfl (lv_at hl 0 rfl) ?_
        refine va_get (D := (dC, dI)) (ci := 9) (v := .ref a4) (C := RX12) (T := TX12) (N := 30) hx hb hts ifX12_answer_X12 hown hK hP 1 rfl rfl 15 (by decide) (hts (.fieldLink RX12 17 "HookPierModel" "v" "[I") (List.mem_of_getElem? (i := 15) rfl)) (fun _ h9 => h9) rfl (zat zrX12_answer_1_ok 41 rfl) ?_
        refine lv_bipush (v := 6) hx hb (zat zrX12_answer_1_ok 42 rfl) (by decide) ?_
        refine lv_iload_n hx hb (zat zrX12_answer_1_ok 43 rfl) rfl (lv_at hl 1 rfl) ?_
        refine lv_iadd hx hb (zat zrX12_answer_1_ok 44 rfl) ?_
        obtain ⟨hg228, h⟩ := gA_of h
        refine va_iald hx hb hK hP 0 14 rfl rfl hg228 (zat zrX12_answer_1_ok 45 rfl) ?_
        refine lv_aload_n hx hb (zat zrX12_answer_1_ok 46 rfl) rfl (lv_at hl 0 rfl) ?_
        refine va_get (D := (dC, dI)) (ci := 9) (v := .ref a4) (C := RX12) (T := TX12) (N := 30) hx hb hts ifX12_answer_X12 hown hK hP 1 rfl rfl 15 (by decide) (hts (.fieldLink RX12 17 "HookPierModel" "v" "[I") (List.mem_of_getElem? (i := 15) rfl)) (fun _ h9 => h9) rfl (zat zrX12_answer_1_ok 47 rfl) ?_
        refine lv_bipush (v := 23) hx hb (zat zrX12_answer_1_ok 48 rfl) (by decide) ?_
        refine va_iald hx hb hK hP 0 14 rfl rfl (by unfold vp_in; decide) (zat zrX12_answer_1_ok 49 rfl) ?_
        obtain ⟨o236, eo236, h⟩ := bd_of h
        refine ck_i (wc := ((a0, .inr (9, [.int 0, .int m_t.2.1, .int m_t.2.2, .ref a3, g9, g10, g11, g12, g13, g14, g15, g16, g17, g18, g19, .ref a4, g20, g21, g22, g23, g24, g25, g26, g27, g28, g29, g30, g31, g32, g33])) :: bX11 a3 uq kq q_q [])) (wr := ([(a4, .inl (cB35, 26, .inl m_v))])) hP hD hK hS hA [1, 2, 3, 4, 5, 6, 7, 8, 9, 10, 11, 12, 13, 14, 15, 16] [0] rfl rfl (by decide) (by decide) (by decide) (fun hPc hDc => (va_runV (As := [.int k1, .int (m_v (((6 : Int32) + k1)).toNatClampNeg), .int (m_v ((23 : Int32)).toNatClampNeg)]) (rest := [.ref a0]) ⟨hx, hb, hml, hown, hts⟩ (kfX12_keeps l dC dI a0 k1 (m_v (((6 : Int32) + k1)).toNatClampNeg) (m_v ((23 : Int32)).toNatClampNeg) a3 uq kq (.int 0) (.int m_t.2.1) (.int m_t.2.2) (g9) (g10) (g11) (g12) (g13) (g14) (g15) (g16) (g17) (g18) (g19) (.ref a4) (g20) (g21) (g22) (g23) (g24) (g25) (g26) (g27) (g28) (g29) (g30) (g31) (g32) (g33) q_q H.size o236 eo236) (cwV 3 hts gfX12_answer_4 rfl rfl rfl (by decide +kernel) ⟨(Nat.le_of_ble_eq_true rfl), (Nat.le_of_ble_eq_true rfl)⟩) (PV hPc (hK.sub (tys' := (tX11 kq ([]))) [0, 1, 2, 3, 4, 5, 6, 7, 8, 9, 10, 11, 12, 13] rfl) hDc hN 0 rfl rfl) rfl rfl hl.1 rfl (lv_room (Nat.le_of_ble_eq_true rfl)) (zat zrX12_answer_1_ok 50 rfl) ⟨(Nat.le_of_ble_eq_true rfl), (Nat.le_of_ble_eq_true rfl)⟩)) (fun r236 _ H locs hw hP hD _ hS => ?_)
        obtain rfl := hw.symm
        obtain ⟨hP, hD⟩ := pd_mk ((a4, .inl (cB35, 26, .inl m_v)) :: (a0, .inr (9, [.int 0, .int m_t.2.1, .int m_t.2.2, .ref a3, g9, g10, g11, g12, g13, g14, g15, g16, g17, g18, g19, .ref a4, g20, g21, g22, g23, g24, g25, g26, g27, g28, g29, g30, g31, g32, g33])) :: bX11 a3 uq kq q_q []) hP hD
        refine lv_goto (tgt := 244) hx hb (zat zrX12_answer_1_ok 51 rfl) (by decide) ?_
        exact J244 o236 H _ ls h  hP hD hS (lv_sub hl [] rfl)
    · have h := (if_pos c20).symm.trans h
      exact J23  H _ ls h  hP hD hS (lv_sub hl [0] rfl)
noncomputable def zrX12_asker_0 : List ZR := zc 0 true (.aload_n 0) 1 (zc 1 true (.iconst 0) 1 (zc 2 true (.putfield 36) 3 (zc 5 true (.aload_n 0) 1 (zc 6 true (.iload_n 1) 1 (zc 7 true (.invokevirtual 334) 3 (zc 10 true (.ifCond .eq 12) 3 (zc 13 true (.iload_n 2) 1 (zc 14 true (.iconst 0) 1 (zc 15 true (.iconst 5) 1 (zc 16 true (.invokestatic 115) 3 (zc 19 true (.ifCond .ne 9) 3 (zc 22 true (.aload_n 0) 1 (zc 23 true (.iconst 1) 1 (zc 24 true (.invokevirtual 42) 3 (zc 27 true (.ireturn) 1 (zc 28 true (.aload_n 0) 1 (zc 29 true (.getfield 17) 3 (zc 32 true (.bipush 18) 2 (zc 34 true (.iload_n 1) 1 (zc 35 true (.iadd) 1 (zc 36 true (.iaload) 1 (zc 37 true (.istore_n 3) 1 (zc 38 true (.iconst 0) 1 (zc 39 true (.istore 4) 2 (zc 41 true (.iconst 0) 1 (zc 42 true (.istore 5) 2 (zc 44 true (.iload 5) 2 (zc 46 true (.aload_n 0) 1 (zc 47 true (.getfield 299) 3 (zc 50 true (.getfield 231) 3 (zc 53 true (.if_icmp .ge 36) 3 (zc 56 true (.iload 4) 2 (zc 58 true (.aload_n 0) 1 (zc 59 true (.getfield 17) 3 (zc 62 true (.bipush 12) 2 (zc 64 true (.iload 5) 2 (zc 66 true (.iadd) 1 (zc 67 true (.iaload) 1 (zc 68 true (.iload_n 1) 1 (zc 69 true (.if_icmp .ne 10) 3 (zc 72 true (.iconst 1) 1 (zc 73 true (.iload 5) 2 (zc 75 true (.ishl) 1 (zc 76 true (.goto 4) 3 (zc 79 true (.iconst 0) 1 (zc 80 true (.ior) 1 (zc 81 true (.istore 4) 2 (zc 83 true (.iinc 5 1) 3 (zc 86 true (.goto (-42)) 3 (zc 89 true (.iload_n 2) 1 (zc 90 false (.nop) 34 (zc 124 true (.aload_n 0) 1 (zc 125 true (.aload_n 0) 1 (zc 126 true (.getfield 299) 3 (zc 129 true (.getfield 229) 3 (zc 132 true (.iload_n 1) 1 (zc 133 true (.iaload) 1 (zc 134 true (.invokevirtual 46) 3 (zc 137 true (.ireturn) 1 (zc 138 true (.aload_n 0) 1 (zc 139 true (.iload_n 3) 1 (zc 140 true (.bipush (-2)) 2 (zc 142 true (.if_icmp .ne 8) 3 ([]))))))))))))))))))))))))))))))))))))))))))))))))))))))))))))))))
theorem zrX12_asker_0_ok : zck 0 ((zby cX12_asker).drop 0) zrX12_asker_0 = true := by decide +kernel
noncomputable def zrX12_asker_1 : List ZR := zc 145 true (.bipush (-2)) 2 (zc 147 true (.goto 8) 3 (zc 150 true (.aload_n 0) 1 (zc 151 true (.iload_n 3) 1 (zc 152 true (.invokevirtual 307) 3 (zc 155 true (.invokevirtual 46) 3 (zc 158 true (.ireturn) 1 (zc 159 true (.aload_n 0) 1 (zc 160 true (.iload_n 3) 1 (zc 161 true (.bipush (-2)) 2 (zc 163 true (.if_icmp .ne 8) 3 (zc 166 true (.bipush (-2)) 2 (zc 168 true (.goto 8) 3 (zc 171 true (.aload_n 0) 1 (zc 172 true (.iload_n 3) 1 (zc 173 true (.invokevirtual 310) 3 (zc 176 true (.invokevirtual 46) 3 (zc 179 true (.ireturn) 1 (zc 180 true (.aload_n 0) 1 (zc 181 true (.iload_n 3) 1 (zc 182 true (.bipush (-2)) 2 (zc 184 true (.if_icmp .ne 8) 3 (zc 187 true (.bipush (-2)) 2 (zc 189 true (.goto 8) 3 (zc 192 true (.aload_n 0) 1 (zc 193 true (.iload_n 3) 1 (zc 194 true (.invokevirtual 313) 3 (zc 197 true (.invokevirtual 46) 3 (zc 200 true (.ireturn) 1 (zc 201 true (.aload_n 0) 1 (zc 202 true (.iload 4) 2 (zc 204 true (.invokevirtual 46) 3 (zc 207 true (.ireturn) 1 (zc 208 true (.aload_n 0) 1 (zc 209 true (.iload_n 3) 1 (zc 210 true (.bipush (-2)) 2 (zc 212 true (.if_icmp .eq 19) 3 (zc 215 true (.aload_n 0) 1 (zc 216 true (.aload_n 0) 1 (zc 217 true (.getfield 17) 3 (zc 220 true (.iload_n 1) 1 (zc 221 true (.invokevirtual 337) 3 (zc 224 true (.ifCond .eq 7) 3 (zc 227 true (.iconst 1) 1 (zc 228 true (.goto 4) 3 (zc 231 true (.iconst 0) 1 (zc 232 true (.invokevirtual 46) 3 (zc 235 true (.ireturn) 1 ([]))))))))))))))))))))))))))))))))))))))))))))))))
theorem zrX12_asker_1_ok : zck 145 ((zby cX12_asker).drop 145) zrX12_asker_1 = true := by decide +kernel
theorem dX12_asker_90 : decode cX12_asker 90 = .ok (.tableswitch 118 0 4 #[34, 48, 69, 90, 111], 34) := by decide +kernel
def vfX12_asker : List Cond := List.cons (.code yX12_asker cX12_asker 6 (some .int)) (apW [.fieldLink RX12 36 "HookPierModel" "thrown" "I", .methodLink RX12 334 yX12_isAsker, .instanceMethod yX12_isAsker, .selects RX12 yX12_isAsker yX12_isAsker, .initialized RX12, .methodLink RX12 42 yX12_refused, .instanceMethod yX12_refused, .selects RX12 yX12_refused yX12_refused, .methodLink RX12 115 yX12_in, .static yX12_in, .fieldLink RX12 17 "HookPierModel" "v" "[I", .fieldLink RX12 299 "HookPierModel" "pier" "LHookPierModel$Pier;", .methodLink RX12 46 yX12_good, .instanceMethod yX12_good, .selects RX12 yX12_good yX12_good, .methodLink RX12 307 yX12_spotOf, .instanceMethod yX12_spotOf, .selects RX12 yX12_spotOf yX12_spotOf, .methodLink RX12 310 yX12_fathomsOf, .instanceMethod yX12_fathomsOf, .selects RX12 yX12_fathomsOf yX12_fathomsOf, .methodLink RX12 313 yX12_baitOf, .instanceMethod yX12_baitOf, .selects RX12 yX12_baitOf yX12_baitOf, .methodLink RX12 337 yX12_isTangled, .instanceMethod yX12_isTangled, .selects RX12 yX12_isTangled yX12_isTangled] (apW wsX120 (apW wsX110 (apW vfX12_isAsker (apW vfX12_refused (apW vfX12_in (apW vfX12_good (apW vfX12_spotOf (apW vfX12_fathomsOf (apW vfX12_baitOf (vfX12_isTangled)))))))))))
theorem ifX12_asker_X12 : ∀ w ∈ wsX120, w ∈ vfX12_asker := fun _ h => (List.mem_cons_of_mem _ (List.mem_append_right _ (List.mem_append_left _ h)))
theorem ifX12_asker_X11 : ∀ w ∈ wsX110, w ∈ vfX12_asker := fun _ h => (List.mem_cons_of_mem _ (List.mem_append_right _ (List.mem_append_right _ (List.mem_append_left _ h))))
theorem qfX12_asker : Good vfX12_asker := gd_cons (by decide +kernel) (gd_app (gd_dec (by decide +kernel) : Good [.fieldLink RX12 36 "HookPierModel" "thrown" "I", .methodLink RX12 334 yX12_isAsker, .instanceMethod yX12_isAsker, .selects RX12 yX12_isAsker yX12_isAsker, .initialized RX12, .methodLink RX12 42 yX12_refused, .instanceMethod yX12_refused, .selects RX12 yX12_refused yX12_refused, .methodLink RX12 115 yX12_in, .static yX12_in, .fieldLink RX12 17 "HookPierModel" "v" "[I", .fieldLink RX12 299 "HookPierModel" "pier" "LHookPierModel$Pier;", .methodLink RX12 46 yX12_good, .instanceMethod yX12_good, .selects RX12 yX12_good yX12_good, .methodLink RX12 307 yX12_spotOf, .instanceMethod yX12_spotOf, .selects RX12 yX12_spotOf yX12_spotOf, .methodLink RX12 310 yX12_fathomsOf, .instanceMethod yX12_fathomsOf, .selects RX12 yX12_fathomsOf yX12_fathomsOf, .methodLink RX12 313 yX12_baitOf, .instanceMethod yX12_baitOf, .selects RX12 yX12_baitOf yX12_baitOf, .methodLink RX12 337 yX12_isTangled, .instanceMethod yX12_isTangled, .selects RX12 yX12_isTangled yX12_isTangled]) (gd_app qsX12 (gd_app qsX11 (gd_app qfX12_isAsker (gd_app qfX12_refused (gd_app qfX12_in (gd_app qfX12_good (gd_app qfX12_spotOf (gd_app qfX12_fathomsOf (gd_app qfX12_baitOf qfX12_isTangled))))))))))
theorem gfX12_asker_0 : GoodIn vfX12_asker (wsV RX12 334 RX12 yX12_isAsker vfX12_isAsker) := goodIn_app (goodIn_r [.methodLink RX12 334 yX12_isAsker, .instanceMethod yX12_isAsker, .selects RX12 yX12_isAsker yX12_isAsker, .initialized RX12] [2, 3, 4, 5] rfl (by decide +kernel)) (goodIn_m (fun _ h => (List.mem_cons_of_mem _ (List.mem_append_right _ (List.mem_append_right _ (List.mem_append_right _ (List.mem_append_left _ h)))))) qfX12_isAsker)
theorem gfX12_asker_1 : GoodIn vfX12_asker (wsV RX12 42 RX12 yX12_refused vfX12_refused) := goodIn_app (goodIn_r [.methodLink RX12 42 yX12_refused, .instanceMethod yX12_refused, .selects RX12 yX12_refused yX12_refused, .initialized RX12] [6, 7, 8, 5] rfl (by decide +kernel)) (goodIn_m (fun _ h => (List.mem_cons_of_mem _ (List.mem_append_right _ (List.mem_append_right _ (List.mem_append_right _ (List.mem_append_right _ (List.mem_append_left _ h))))))) qfX12_refused)
theorem gfX12_asker_2 : GoodIn vfX12_asker (va_wsS RX12 115 yX12_in vfX12_in) := goodIn_app (goodIn_r [.methodLink RX12 115 yX12_in, .static yX12_in, .initialized RX12] [9, 10, 5] rfl (by decide +kernel)) (goodIn_m (fun _ h => (List.mem_cons_of_mem _ (List.mem_append_right _ (List.mem_append_right _ (List.mem_append_right _ (List.mem_append_right _ (List.mem_append_right _ (List.mem_append_left _ h)))))))) qfX12_in)
theorem gfX12_asker_3 : GoodIn vfX12_asker (wsV RX12 46 RX12 yX12_good vfX12_good) := goodIn_app (goodIn_r [.methodLink RX12 46 yX12_good, .instanceMethod yX12_good, .selects RX12 yX12_good yX12_good, .initialized RX12] [13, 14, 15, 5] rfl (by decide +kernel)) (goodIn_m (fun _ h => (List.mem_cons_of_mem _ (List.mem_append_right _ (List.mem_append_right _ (List.mem_append_right _ (List.mem_append_right _ (List.mem_append_right _ (List.mem_append_right _ (List.mem_append_left _ h))))))))) qfX12_good)
theorem gfX12_asker_4 : GoodIn vfX12_asker (wsV RX12 307 RX12 yX12_spotOf vfX12_spotOf) := goodIn_app (goodIn_r [.methodLink RX12 307 yX12_spotOf, .instanceMethod yX12_spotOf, .selects RX12 yX12_spotOf yX12_spotOf, .initialized RX12] [16, 17, 18, 5] rfl (by decide +kernel)) (goodIn_m (fun _ h => (List.mem_cons_of_mem _ (List.mem_append_right _ (List.mem_append_right _ (List.mem_append_right _ (List.mem_append_right _ (List.mem_append_right _ (List.mem_append_right _ (List.mem_append_right _ (List.mem_append_left _ h)))))))))) qfX12_spotOf)
theorem gfX12_asker_5 : GoodIn vfX12_asker (wsV RX12 310 RX12 yX12_fathomsOf vfX12_fathomsOf) := goodIn_app (goodIn_r [.methodLink RX12 310 yX12_fathomsOf, .instanceMethod yX12_fathomsOf, .selects RX12 yX12_fathomsOf yX12_fathomsOf, .initialized RX12] [19, 20, 21, 5] rfl (by decide +kernel)) (goodIn_m (fun _ h => (List.mem_cons_of_mem _ (List.mem_append_right _ (List.mem_append_right _ (List.mem_append_right _ (List.mem_append_right _ (List.mem_append_right _ (List.mem_append_right _ (List.mem_append_right _ (List.mem_append_right _ (List.mem_append_left _ h))))))))))) qfX12_fathomsOf)
theorem gfX12_asker_6 : GoodIn vfX12_asker (wsV RX12 313 RX12 yX12_baitOf vfX12_baitOf) := goodIn_app (goodIn_r [.methodLink RX12 313 yX12_baitOf, .instanceMethod yX12_baitOf, .selects RX12 yX12_baitOf yX12_baitOf, .initialized RX12] [22, 23, 24, 5] rfl (by decide +kernel)) (goodIn_m (fun _ h => (List.mem_cons_of_mem _ (List.mem_append_right _ (List.mem_append_right _ (List.mem_append_right _ (List.mem_append_right _ (List.mem_append_right _ (List.mem_append_right _ (List.mem_append_right _ (List.mem_append_right _ (List.mem_append_right _ (List.mem_append_left _ h)))))))))))) qfX12_baitOf)
theorem gfX12_asker_7 : GoodIn vfX12_asker (wsV RX12 337 RX12 yX12_isTangled vfX12_isTangled) := goodIn_app (goodIn_r [.methodLink RX12 337 yX12_isTangled, .instanceMethod yX12_isTangled, .selects RX12 yX12_isTangled yX12_isTangled, .initialized RX12] [25, 26, 27, 5] rfl (by decide +kernel)) (goodIn_m (fun _ h => (List.mem_cons_of_mem _ (List.mem_append_right _ (List.mem_append_right _ (List.mem_append_right _ (List.mem_append_right _ (List.mem_append_right _ (List.mem_append_right _ (List.mem_append_right _ (List.mem_append_right _ (List.mem_append_right _ (List.mem_append_right _ h)))))))))))) qfX12_isTangled)
set_option maxHeartbeats 2000000 in
set_option maxRecDepth 100000 in
theorem kfX12_asker (l : Launch) (dC : Nat → ClassId) (dI : Nat → Nat → Nat) (a0 : Nat) (k1 : Int32) (k2 : Int32) (a3 : Nat) (a4 : Nat) (uq : Nat → Nat) (kq : Nat → ClassId) (m_t : TX12_t) (m_v : TX12_v) (g9 : Value) (g10 : Value) (g11 : Value) (g12 : Value) (g13 : Value) (g14 : Value) (g15 : Value) (g16 : Value) (g17 : Value) (g18 : Value) (g19 : Value) (g20 : Value) (g21 : Value) (g22 : Value) (g23 : Value) (g24 : Value) (g25 : Value) (g26 : Value) (g27 : Value) (g28 : Value) (g29 : Value) (g30 : Value) (g31 : Value) (g32 : Value) (g33 : Value) (q_q : TX11_q) (cB35 : ClassId) (sz : Nat) (out : (Int32 × TX12_t)) (h : f_X12_asker k1 k2 m_t m_v q_q = some out) : KCi l yX12_asker vfX12_asker ({ frames := 3, cells := 0, slots := 0, locals := 68 }) (dC, dI) [.ref a0, .int k1, .int k2] sz ((a0, .inr (9, [.int m_t.1, .int m_t.2.1, .int m_t.2.2, .ref a3, g9, g10, g11, g12, g13, g14, g15, g16, g17, g18, g19, .ref a4, g20, g21, g22, g23, g24, g25, g26, g27, g28, g29, g30, g31, g32, g33])) :: bX11 a3 uq kq q_q ([(a4, .inl (cB35, 26, .inl m_v))])) (tX11 kq ((cB35, .int) :: [])) (fun (r : Int32) _ => r = out.1) ((a0, .inr (9, [.int out.2.1, .int out.2.2.1, .int out.2.2.2, .ref a3, g9, g10, g11, g12, g13, g14, g15, g16, g17, g18, g19, .ref a4, g20, g21, g22, g23, g24, g25, g26, g27, g28, g29, g30, g31, g32, g33])) :: bX11 a3 uq kq q_q ([(a4, .inl (cB35, 26, .inl m_v))])) 0 0 := by
  refine Met.ofW (cc := cX12_asker) (maxL := 6) (ret := (some .int)) (by decide) rfl ?_
  intro p e s m args below meth c s₁ B0 hml hv
  obtain ⟨rfl, hsz, hP, hK, hD0, hN⟩ := hv
  have hx := B0.exec
  have hb := B0.bytes
  have hr := B0.returns
  have hts := atoms_spec (ws := vfX12_asker) B0.pre
  have hown : s.vm.findClass RX12 = some m.cls := findClass_of_methodNamed B0.named
  have hlocks := B0.notSynchronized
  subst hsz
  have hD := hD0.self (sz := s.heap.size)
  generalize hAe : va_A ((a0, .inr (9, [.int m_t.1, .int m_t.2.1, .int m_t.2.2, .ref a3, g9, g10, g11, g12, g13, g14, g15, g16, g17, g18, g19, .ref a4, g20, g21, g22, g23, g24, g25, g26, g27, g28, g29, g30, g31, g32, g33])) :: bX11 a3 uq kq q_q ([(a4, .inl (cB35, 26, .inl m_v))])) s.heap.size = A at hD ⊢
  have hA : ∀ q : Nat, s.heap.size ≤ q → A q := fun q h => by rw [← hAe]; exact Or.inr h
  have hS : va_S A s.heap s.heap [] := va_S.rf
  have hP : va_P (dC, dI) vwCl ((a0, .inr (9, [.int m_t.1, .int m_t.2.1, .int m_t.2.2, .ref a3, g9, g10, g11, g12, g13, g14, g15, g16, g17, g18, g19, .ref a4, g20, g21, g22, g23, g24, g25, g26, g27, g28, g29, g30, g31, g32, g33])) :: bX11 a3 uq kq q_q ([(a4, .inl (cB35, 26, .inl m_v))])) s.heap := hP
  have hl := lv_entry ([.ref a0, .int k1, .int k2]) (n := 6) (Nat.le_of_ble_eq_true rfl)
  rw [lg_entry_eq]
  generalize (lg_sl ([.ref a0, .int k1, .int k2]) ++ List.replicate (6 - (lg_sl ([.ref a0, .int k1, .int k2])).length) Slot.unset).toArray = ls at hl ⊢
  have hl : lv_has ls 6 [(0, .ref a0), (1, .int k1), (2, .int k2)] := hl
  refine W_q (fun QQ hQQ => ?_)
  rw [f_X12_asker] at h
  refine lv_aload_n hx hb (zat zrX12_asker_0_ok 0 rfl) rfl (lv_at hl 0 rfl) ?_
  refine lv_iconst (v := 0) hx hb (zat zrX12_asker_0_ok 1 rfl) (by decide) ?_
  refine va_put (D := (dC, dI)) (ci := 9) (v := .int 0) (ty := .int) (C := RX12) (T := TX12) (N := 30) hx hb hts ifX12_asker_X12 tyX12 tyX12_ok nmX12 hown hK hP hD hS 0 rfl rfl 0 (by decide) (hts (.fieldLink RX12 36 "HookPierModel" "thrown" "I") (List.mem_of_getElem? (i := 1) rfl)) (fun _ h9 => h9) rfl (by decide +kernel) rfl rfl (Nat.le_of_ble_eq_true rfl) (zat zrX12_asker_0_ok 2 rfl) (fun H locs hP hD hS => ?_)
  obtain ⟨hP, hD⟩ := pd_mk ((a0, .inr (9, [.int 0, .int m_t.2.1, .int m_t.2.2, .ref a3, g9, g10, g11, g12, g13, g14, g15, g16, g17, g18, g19, .ref a4, g20, g21, g22, g23, g24, g25, g26, g27, g28, g29, g30, g31, g32, g33])) :: bX11 a3 uq kq q_q ([(a4, .inl (cB35, 26, .inl m_v))])) hP hD
  refine lv_aload_n hx hb (zat zrX12_asker_0_ok 3 rfl) rfl (lv_at hl 0 rfl) ?_
  refine lv_iload_n hx hb (zat zrX12_asker_0_ok 4 rfl) rfl (lv_at hl 1 rfl) ?_
  obtain ⟨o7, eo7⟩ : ∃ o, o = f_X12_isAsker k1 q_q := ⟨_, rfl⟩
  have h := nm_of h o7 eo7
  refine ck_i (wc := ((a0, .inr (9, [.int 0, .int m_t.2.1, .int m_t.2.2, .ref a3, g9, g10, g11, g12, g13, g14, g15, g16, g17, g18, g19, .ref a4, g20, g21, g22, g23, g24, g25, g26, g27, g28, g29, g30, g31, g32, g33])) :: bX11 a3 uq kq q_q [])) (wr := ([(a4, .inl (cB35, 26, .inl m_v))])) hP hD hK hS hA [0, 1, 2, 3, 4, 5, 6, 7, 8, 9, 10, 11, 12, 13, 14, 15] [16] rfl rfl (by decide) (by decide) (by decide) (fun hPc hDc => (va_runV (As := [.int k1]) (rest := []) ⟨hx, hb, hml, hown, hts⟩ (kfX12_isAsker l dC dI a0 k1 a3 uq kq (.int 0) (.int m_t.2.1) (.int m_t.2.2) (g9) (g10) (g11) (g12) (g13) (g14) (g15) (g16) (g17) (g18) (g19) (.ref a4) (g20) (g21) (g22) (g23) (g24) (g25) (g26) (g27) (g28) (g29) (g30) (g31) (g32) (g33) q_q H.size o7 eo7.symm) (cwV 1 hts gfX12_asker_0 rfl rfl rfl (by decide +kernel) ⟨(Nat.le_of_ble_eq_true rfl), (Nat.le_of_ble_eq_true rfl)⟩) (PV hPc (hK.sub (tys' := (tX11 kq ([]))) [0, 1, 2, 3, 4, 5, 6, 7, 8, 9, 10, 11, 12, 13] rfl) hDc hN 0 rfl rfl) rfl rfl hl.1 rfl (lv_room (Nat.le_of_ble_eq_true rfl)) (zat zrX12_asker_0_ok 5 rfl) ⟨(Nat.le_of_ble_eq_true rfl), (Nat.le_of_ble_eq_true rfl)⟩)) (fun r7 _ H locs hw hP hD _ hS => ?_)
  obtain ⟨hw, br7⟩ := hw
  obtain rfl := hw.symm
  obtain ⟨hP, hD⟩ := pd_mk ((a4, .inl (cB35, 26, .inl m_v)) :: (a0, .inr (9, [.int 0, .int m_t.2.1, .int m_t.2.2, .ref a3, g9, g10, g11, g12, g13, g14, g15, g16, g17, g18, g19, .ref a4, g20, g21, g22, g23, g24, g25, g26, g27, g28, g29, g30, g31, g32, g33])) :: bX11 a3 uq kq q_q []) hP hD
  have J22 : ∀ (H : Heap) (locs : List Loc) (ls : Array Slot), f_X12_asker_J22 m_t = some out → va_P (dC, dI) vwCl ((a4, .inl (cB35, 26, .inl m_v)) :: (a0, .inr (9, [.int 0, .int m_t.2.1, .int m_t.2.2, .ref a3, g9, g10, g11, g12, g13, g14, g15, g16, g17, g18, g19, .ref a4, g20, g21, g22, g23, g24, g25, g26, g27, g28, g29, g30, g31, g32, g33])) :: bX11 a3 uq kq q_q []) H → va_D A ((a4, .inl (cB35, 26, .inl m_v)) :: (a0, .inr (9, [.int 0, .int m_t.2.1, .int m_t.2.2, .ref a3, g9, g10, g11, g12, g13, g14, g15, g16, g17, g18, g19, .ref a4, g20, g21, g22, g23, g24, g25, g26, g27, g28, g29, g30, g31, g32, g33])) :: bX11 a3 uq kq q_q []) → va_S A s.heap H locs → lv_has ls 6 [(0, .ref a0)] → W p l e (headSpec vfX12_asker { frames := 3, cells := 0, slots := 0, locals := 68 }).room s m ([.ref a0, .int k1, .int k2]).toArray below meth c H locs 0 0 QQ (F0 m 22 ls []) := by
    intro  H locs ls h  hP hD hS hl
    rw [f_X12_asker_J22] at h
    refine lv_aload_n hx hb (zat zrX12_asker_0_ok 12 rfl) rfl (lv_at hl 0 rfl) ?_
    refine lv_iconst (v := 1) hx hb (zat zrX12_asker_0_ok 13 rfl) (by decide) ?_
    obtain ⟨o24, eo24⟩ : ∃ o, o = f_X12_refused (1 : Int32) ((0 : Int32), m_t.2) := ⟨_, rfl⟩
    have h := nm_of h o24 eo24
    refine ck_i (wc := ([(a0, .inr (9, [.int 0, .int m_t.2.1, .int m_t.2.2, .ref a3, g9, g10, g11, g12, g13, g14, g15, g16, g17, g18, g19, .ref a4, g20, g21, g22, g23, g24, g25, g26, g27, g28, g29, g30, g31, g32, g33]))])) (wr := ((a4, .inl (cB35, 26, .inl m_v)) :: bX11 a3 uq kq q_q [])) hP hD hK hS hA [1] [0, 2, 3, 4, 5, 6, 7, 8, 9, 10, 11, 12, 13, 14, 15, 16] rfl rfl (by decide) (by decide) (by decide) (fun hPc hDc => (va_runV (As := [.int 1]) (rest := []) ⟨hx, hb, hml, hown, hts⟩ (kfX12_refused l dC dI a0 (1 : Int32) ((0 : Int32), m_t.2) (.ref a3) (g9) (g10) (g11) (g12) (g13) (g14) (g15) (g16) (g17) (g18) (g19) (.ref a4) (g20) (g21) (g22) (g23) (g24) (g25) (g26) (g27) (g28) (g29) (g30) (g31) (g32) (g33) H.size o24 eo24.symm) (cwV 1 hts gfX12_asker_1 rfl rfl rfl (by decide +kernel) ⟨(Nat.le_of_ble_eq_true rfl), (Nat.le_of_ble_eq_true rfl)⟩) (PV hPc (hK.sub (tys' := ([])) [] rfl) hDc hN 0 rfl rfl) rfl rfl hl.1 rfl (lv_room (Nat.le_of_ble_eq_true rfl)) (zat zrX12_asker_0_ok 14 rfl) ⟨(Nat.le_of_ble_eq_true rfl), (Nat.le_of_ble_eq_true rfl)⟩)) (fun r24 _ H locs hw hP hD _ hS => ?_)
    obtain rfl := hw
    obtain ⟨hP, hD⟩ := pd_mk ((a4, .inl (cB35, 26, .inl m_v)) :: bX11 a3 uq kq q_q ([(a0, .inr (9, [.int o24.1, .int o24.2.1, .int o24.2.2, .ref a3, g9, g10, g11, g12, g13, g14, g15, g16, g17, g18, g19, .ref a4, g20, g21, g22, g23, g24, g25, g26, g27, g28, g29, g30, g31, g32, g33]))])) hP hD
    obtain rfl := Option.some.inj h
    obtain ⟨hP9, hD9⟩ := pd_sub ((a0, .inr (9, [.int o24.1, .int o24.2.1, .int o24.2.2, .ref a3, g9, g10, g11, g12, g13, g14, g15, g16, g17, g18, g19, .ref a4, g20, g21, g22, g23, g24, g25, g26, g27, g28, g29, g30, g31, g32, g33])) :: bX11 a3 uq kq q_q ([(a4, .inl (cB35, 26, .inl m_v))])) [16, 1, 2, 3, 4, 5, 6, 7, 8, 9, 10, 11, 12, 13, 14, 15, 0] hP hD (by decide) rfl
    have hK9 := hK.sub (tys' := []) [] rfl
    rw [hQQ]
    exact W.iret (v := (-1 : Int32)) hx hb hr (fun t ht hW => ⟨⟨(-1 : Int32), (), rfl, rfl, by rw [ht]; exact hP9, va_K.moved hW.alike hK9, hD9⟩, hS.F ht⟩) hS.2.2 (zat zrX12_asker_0_ok 15 rfl)
  refine lv_if_eq (tgt := 22) hx hb (zat zrX12_asker_0_ok 6 rfl) (by decide) (fun c10 => ?_) (fun c10 => ?_)
  · have h := (if_pos c10).symm.trans h
    exact J22  H _ ls h  hP hD hS (lv_sub hl [0] rfl)
  · have h := (if_neg c10).symm.trans h
    refine lv_iload_n hx hb (zat zrX12_asker_0_ok 7 rfl) rfl (lv_at hl 2 rfl) ?_
    refine lv_iconst (v := 0) hx hb (zat zrX12_asker_0_ok 8 rfl) (by decide) ?_
    refine lv_iconst (v := 5) hx hb (zat zrX12_asker_0_ok 9 rfl) (by decide) ?_
    obtain ⟨o16, eo16⟩ : ∃ o, o = f_X12_in k2 (0 : Int32) (5 : Int32) := ⟨_, rfl⟩
    have h := nm_of h o16 eo16
    refine ck_i (wc := []) (wr := ((a4, .inl (cB35, 26, .inl m_v)) :: (a0, .inr (9, [.int 0, .int m_t.2.1, .int m_t.2.2, .ref a3, g9, g10, g11, g12, g13, g14, g15, g16, g17, g18, g19, .ref a4, g20, g21, g22, g23, g24, g25, g26, g27, g28, g29, g30, g31, g32, g33])) :: bX11 a3 uq kq q_q [])) hP hD hK hS hA [] [0, 1, 2, 3, 4, 5, 6, 7, 8, 9, 10, 11, 12, 13, 14, 15, 16] rfl rfl (by decide) (by decide) (by decide) (fun hPc hDc => (va_runS (As := [.int k2, .int 0, .int 5]) (rest := []) ⟨hx, hb, hml, hown, hts⟩ (kfX12_in l dC dI k2 (0 : Int32) (5 : Int32) H.size o16 eo16.symm) (va_cwS 3 hts gfX12_asker_2 rfl rfl rfl (by decide +kernel) ⟨(Nat.le_of_ble_eq_true rfl), (Nat.le_of_ble_eq_true rfl)⟩) (PS hPc (hK.sub (tys' := ([])) [] rfl) hDc hN) rfl rfl hl.1 rfl (lv_room (Nat.le_of_ble_eq_true rfl)) (zat zrX12_asker_0_ok 10 rfl) ⟨(Nat.le_of_ble_eq_true rfl), (Nat.le_of_ble_eq_true rfl)⟩)) (fun r16 _ H locs hw hP hD _ hS => ?_)
    obtain ⟨hw, br16⟩ := hw
    obtain rfl := hw.symm
    obtain ⟨hP, hD⟩ := pd_mk ((a4, .inl (cB35, 26, .inl m_v)) :: (a0, .inr (9, [.int 0, .int m_t.2.1, .int m_t.2.2, .ref a3, g9, g10, g11, g12, g13, g14, g15, g16, g17, g18, g19, .ref a4, g20, g21, g22, g23, g24, g25, g26, g27, g28, g29, g30, g31, g32, g33])) :: bX11 a3 uq kq q_q []) hP hD
    refine lv_if_ne (tgt := 28) hx hb (zat zrX12_asker_0_ok 11 rfl) (by decide) (fun c19 => ?_) (fun c19 => ?_)
    · have h := (if_neg c19).symm.trans h
      refine lv_aload_n hx hb (zat zrX12_asker_0_ok 16 rfl) rfl (lv_at hl 0 rfl) ?_
      refine va_get (D := (dC, dI)) (ci := 9) (v := .ref a4) (C := RX12) (T := TX12) (N := 30) hx hb hts ifX12_asker_X12 hown hK hP 1 rfl rfl 15 (by decide) (hts (.fieldLink RX12 17 "HookPierModel" "v" "[I") (List.mem_of_getElem? (i := 11) rfl)) (fun _ h9 => h9) rfl (zat zrX12_asker_0_ok 17 rfl) ?_
      refine lv_bipush (v := 18) hx hb (zat zrX12_asker_0_ok 18 rfl) (by decide) ?_
      refine lv_iload_n hx hb (zat zrX12_asker_0_ok 19 rfl) rfl (lv_at hl 1 rfl) ?_
      refine lv_iadd hx hb (zat zrX12_asker_0_ok 20 rfl) ?_
      obtain ⟨hg36, h⟩ := gA_of h
      refine va_iald hx hb hK hP 0 14 rfl rfl hg36 (zat zrX12_asker_0_ok 21 rfl) ?_
      refine lv_istore_n (lv' := [(3, .int (m_v (((18 : Int32) + k1)).toNatClampNeg)), (0, .ref a0), (1, .int k1), (2, .int k2)]) hx hb (zat zrX12_asker_0_ok 22 rfl) rfl hl (by decide) rfl (fun ls hl => ?_)
      refine lv_iconst (v := 0) hx hb (zat zrX12_asker_0_ok 23 rfl) (by decide) ?_
      refine lv_istore (lv' := [(4, .int 0), (3, .int (m_v (((18 : Int32) + k1)).toNatClampNeg)), (0, .ref a0), (1, .int k1), (2, .int k2)]) hx hb (zat zrX12_asker_0_ok 24 rfl) hl (by decide) rfl (fun ls hl => ?_)
      refine lv_iconst (v := 0) hx hb (zat zrX12_asker_0_ok 25 rfl) (by decide) ?_
      refine lv_istore (lv' := [(5, .int 0), (4, .int 0), (3, .int (m_v (((18 : Int32) + k1)).toNatClampNeg)), (0, .ref a0), (1, .int k1), (2, .int k2)]) hx hb (zat zrX12_asker_0_ok 26 rfl) hl (by decide) rfl (fun ls hl => ?_)
      have L44 : ∀ (n44 : Nat) (v44_l5 : Int32) (v44_l4 : Int32) (H : Heap) (locs : List Loc) (ls : Array Slot), f_X12_asker_L44 k1 k2 m_t m_v q_q n44 v44_l5 v44_l4 = some out → va_P (dC, dI) vwCl ((a4, .inl (cB35, 26, .inl m_v)) :: (a0, .inr (9, [.int 0, .int m_t.2.1, .int m_t.2.2, .ref a3, g9, g10, g11, g12, g13, g14, g15, g16, g17, g18, g19, .ref a4, g20, g21, g22, g23, g24, g25, g26, g27, g28, g29, g30, g31, g32, g33])) :: bX11 a3 uq kq q_q []) H → va_D A ((a4, .inl (cB35, 26, .inl m_v)) :: (a0, .inr (9, [.int 0, .int m_t.2.1, .int m_t.2.2, .ref a3, g9, g10, g11, g12, g13, g14, g15, g16, g17, g18, g19, .ref a4, g20, g21, g22, g23, g24, g25, g26, g27, g28, g29, g30, g31, g32, g33])) :: bX11 a3 uq kq q_q []) → va_S A s.heap H locs → lv_has ls 6 [(5, .int v44_l5), (4, .int v44_l4), (3, .int (m_v (((18 : Int32) + k1)).toNatClampNeg)), (0, .ref a0), (1, .int k1), (2, .int k2)] → W p l e (headSpec vfX12_asker { frames := 3, cells := 0, slots := 0, locals := 68 }).room s m ([.ref a0, .int k1, .int k2]).toArray below meth c H locs 0 0 QQ (F0 m 44 ls []) := by
        intro n44
        induction n44 with
        | zero =>
          intro v44_l5 v44_l4 H locs ls h  _ _ _ _
          rw [f_X12_asker_L44] at h
          cases h
        | succ n44 ih44 =>
          intro v44_l5 v44_l4 H locs ls h  hP hD hS hl
          rw [f_X12_asker_L44] at h
          refine lv_iload hx hb (zat zrX12_asker_0_ok 27 rfl) (lv_at hl 0 rfl) ?_
          refine lv_aload_n hx hb (zat zrX12_asker_0_ok 28 rfl) rfl (lv_at hl 3 rfl) ?_
          refine va_get (D := (dC, dI)) (ci := 9) (v := .ref a3) (C := RX12) (T := TX12) (N := 30) hx hb hts ifX12_asker_X12 hown hK hP 1 rfl rfl 3 (by decide) (hts (.fieldLink RX12 299 "HookPierModel" "pier" "LHookPierModel$Pier;") (List.mem_of_getElem? (i := 12) rfl)) (fun _ h9 => h9) rfl (zat zrX12_asker_0_ok 29 rfl) ?_
          refine va_getN (D := (dC, dI)) (ci := 8) (v := .int q_q.2.2.2.2.2.2.1) (C := RX11) (T := TX11) (N := 24) hx hb hts ifX12_asker_X11 hown hK hP 2 rfl rfl 6 (by decide) (va_Nw.use rfl (hN.1 (.fieldLinkNest RX12 231 "HookPierModel$Pier" "answers" "I" "HookPierModel") (List.mem_of_getElem? (i := 28) rfl))) (fun _ h9 => h9) rfl (zat zrX12_asker_0_ok 30 rfl) ?_
          refine lv_icmp_ge (tgt := 89) hx hb (zat zrX12_asker_0_ok 31 rfl) (by decide) (fun c53 => ?_) (fun c53 => ?_)
          · have h := (if_pos c53).symm.trans h
            refine lv_iload_n hx hb (zat zrX12_asker_0_ok 50 rfl) rfl (lv_at hl 5 rfl) ?_
            by_cases c90_0 : k2 = 0
            · have h := (if_pos c90_0).symm.trans h
              refine lv_tableIn (tgt := 124) hx hb dX12_asker_90 (by rw [c90_0] <;> decide) (by rw [c90_0] <;> decide) (by rw [c90_0] <;> rfl) (by decide) ?_
              refine lv_aload_n hx hb (zat zrX12_asker_0_ok 52 rfl) rfl (lv_at hl 3 rfl) ?_
              refine lv_aload_n hx hb (zat zrX12_asker_0_ok 53 rfl) rfl (lv_at hl 3 rfl) ?_
              refine va_get (D := (dC, dI)) (ci := 9) (v := .ref a3) (C := RX12) (T := TX12) (N := 30) hx hb hts ifX12_asker_X12 hown hK hP 1 rfl rfl 3 (by decide) (hts (.fieldLink RX12 299 "HookPierModel" "pier" "LHookPierModel$Pier;") (List.mem_of_getElem? (i := 12) rfl)) (fun _ h9 => h9) rfl (zat zrX12_asker_0_ok 54 rfl) ?_
              refine va_getN (D := (dC, dI)) (ci := 8) (v := .ref (uq 0)) (C := RX11) (T := TX11) (N := 24) hx hb hts ifX12_asker_X11 hown hK hP 2 rfl rfl 10 (by decide) (va_Nw.use rfl (hN.1 (.fieldLinkNest RX12 229 "HookPierModel$Pier" "reach" "[I" "HookPierModel") (List.mem_of_getElem? (i := 32) rfl))) (fun _ h9 => h9) rfl (zat zrX12_asker_0_ok 55 rfl) ?_
              refine lv_iload_n hx hb (zat zrX12_asker_0_ok 56 rfl) rfl (lv_at hl 4 rfl) ?_
              obtain ⟨hg133, h⟩ := gA_of h
              refine va_iald hx hb hK hP 3 0 rfl rfl hg133 (zat zrX12_asker_0_ok 57 rfl) ?_
              obtain ⟨o134, eo134⟩ : ∃ o, o = f_X12_good (q_q.2.2.2.2.2.2.2.2.2.2.1 (k1).toNatClampNeg) ((0 : Int32), m_t.2) := ⟨_, rfl⟩
              have h := nm_of h o134 eo134
              refine ck_i (wc := ([(a0, .inr (9, [.int 0, .int m_t.2.1, .int m_t.2.2, .ref a3, g9, g10, g11, g12, g13, g14, g15, g16, g17, g18, g19, .ref a4, g20, g21, g22, g23, g24, g25, g26, g27, g28, g29, g30, g31, g32, g33]))])) (wr := ((a4, .inl (cB35, 26, .inl m_v)) :: bX11 a3 uq kq q_q [])) hP hD hK hS hA [1] [0, 2, 3, 4, 5, 6, 7, 8, 9, 10, 11, 12, 13, 14, 15, 16] rfl rfl (by decide) (by decide) (by decide) (fun hPc hDc => (va_runV (As := [.int (q_q.2.2.2.2.2.2.2.2.2.2.1 (k1).toNatClampNeg)]) (rest := []) ⟨hx, hb, hml, hown, hts⟩ (kfX12_good l dC dI a0 (q_q.2.2.2.2.2.2.2.2.2.2.1 (k1).toNatClampNeg) ((0 : Int32), m_t.2) (.ref a3) (g9) (g10) (g11) (g12) (g13) (g14) (g15) (g16) (g17) (g18) (g19) (.ref a4) (g20) (g21) (g22) (g23) (g24) (g25) (g26) (g27) (g28) (g29) (g30) (g31) (g32) (g33) H.size o134 eo134.symm) (cwV 1 hts gfX12_asker_3 rfl rfl rfl (by decide +kernel) ⟨(Nat.le_of_ble_eq_true rfl), (Nat.le_of_ble_eq_true rfl)⟩) (PV hPc (hK.sub (tys' := ([])) [] rfl) hDc hN 0 rfl rfl) rfl rfl hl.1 rfl (lv_room (Nat.le_of_ble_eq_true rfl)) (zat zrX12_asker_0_ok 58 rfl) ⟨(Nat.le_of_ble_eq_true rfl), (Nat.le_of_ble_eq_true rfl)⟩)) (fun r134 _ H locs hw hP hD _ hS => ?_)
              obtain rfl := hw
              obtain ⟨hP, hD⟩ := pd_mk ((a4, .inl (cB35, 26, .inl m_v)) :: bX11 a3 uq kq q_q ([(a0, .inr (9, [.int o134.2.1, .int o134.2.2.1, .int o134.2.2.2, .ref a3, g9, g10, g11, g12, g13, g14, g15, g16, g17, g18, g19, .ref a4, g20, g21, g22, g23, g24, g25, g26, g27, g28, g29, g30, g31, g32, g33]))])) hP hD
              obtain rfl := Option.some.inj h
              obtain ⟨hP9, hD9⟩ := pd_sub ((a0, .inr (9, [.int o134.2.1, .int o134.2.2.1, .int o134.2.2.2, .ref a3, g9, g10, g11, g12, g13, g14, g15, g16, g17, g18, g19, .ref a4, g20, g21, g22, g23, g24, g25, g26, g27, g28, g29, g30, g31, g32, g33])) :: bX11 a3 uq kq q_q ([(a4, .inl (cB35, 26, .inl m_v))])) [16, 1, 2, 3, 4, 5, 6, 7, 8, 9, 10, 11, 12, 13, 14, 15, 0] hP hD (by decide) rfl
              have hK9 := hK.sub (tys' := []) [] rfl
              rw [hQQ]
              exact W.iret (v := o134.1) hx hb hr (fun t ht hW => ⟨⟨o134.1, (), rfl, rfl, by rw [ht]; exact hP9, va_K.moved hW.alike hK9, hD9⟩, hS.F ht⟩) hS.2.2 (zat zrX12_asker_0_ok 59 rfl)
            have h := (if_neg c90_0).symm.trans h
            by_cases c90_1 : k2 = 1
            · have h := (if_pos c90_1).symm.trans h
              refine lv_tableIn (tgt := 138) hx hb dX12_asker_90 (by rw [c90_1] <;> decide) (by rw [c90_1] <;> decide) (by rw [c90_1] <;> rfl) (by decide) ?_
              refine lv_aload_n hx hb (zat zrX12_asker_0_ok 60 rfl) rfl (lv_at hl 3 rfl) ?_
              refine lv_iload_n hx hb (zat zrX12_asker_0_ok 61 rfl) rfl (lv_at hl 2 rfl) ?_
              refine lv_bipush (v := (-2)) hx hb (zat zrX12_asker_0_ok 62 rfl) (by decide) ?_
              have J155 : ∀ (v155_t1 : Int32) (H : Heap) (locs : List Loc) (ls : Array Slot), f_X12_asker_J155 m_t v155_t1 = some out → va_P (dC, dI) vwCl ((a4, .inl (cB35, 26, .inl m_v)) :: (a0, .inr (9, [.int 0, .int m_t.2.1, .int m_t.2.2, .ref a3, g9, g10, g11, g12, g13, g14, g15, g16, g17, g18, g19, .ref a4, g20, g21, g22, g23, g24, g25, g26, g27, g28, g29, g30, g31, g32, g33])) :: bX11 a3 uq kq q_q []) H → va_D A ((a4, .inl (cB35, 26, .inl m_v)) :: (a0, .inr (9, [.int 0, .int m_t.2.1, .int m_t.2.2, .ref a3, g9, g10, g11, g12, g13, g14, g15, g16, g17, g18, g19, .ref a4, g20, g21, g22, g23, g24, g25, g26, g27, g28, g29, g30, g31, g32, g33])) :: bX11 a3 uq kq q_q []) → va_S A s.heap H locs → lv_has ls 6 [] → W p l e (headSpec vfX12_asker { frames := 3, cells := 0, slots := 0, locals := 68 }).room s m ([.ref a0, .int k1, .int k2]).toArray below meth c H locs 0 0 QQ (F0 m 155 ls [.int v155_t1, .ref a0]) := by
                intro v155_t1 H locs ls h  hP hD hS hl
                rw [f_X12_asker_J155] at h
                obtain ⟨o155, eo155⟩ : ∃ o, o = f_X12_good v155_t1 ((0 : Int32), m_t.2) := ⟨_, rfl⟩
                have h := nm_of h o155 eo155
                refine ck_i (wc := ([(a0, .inr (9, [.int 0, .int m_t.2.1, .int m_t.2.2, .ref a3, g9, g10, g11, g12, g13, g14, g15, g16, g17, g18, g19, .ref a4, g20, g21, g22, g23, g24, g25, g26, g27, g28, g29, g30, g31, g32, g33]))])) (wr := ((a4, .inl (cB35, 26, .inl m_v)) :: bX11 a3 uq kq q_q [])) hP hD hK hS hA [1] [0, 2, 3, 4, 5, 6, 7, 8, 9, 10, 11, 12, 13, 14, 15, 16] rfl rfl (by decide) (by decide) (by decide) (fun hPc hDc => (va_runV (As := [.int v155_t1]) (rest := []) ⟨hx, hb, hml, hown, hts⟩ (kfX12_good l dC dI a0 v155_t1 ((0 : Int32), m_t.2) (.ref a3) (g9) (g10) (g11) (g12) (g13) (g14) (g15) (g16) (g17) (g18) (g19) (.ref a4) (g20) (g21) (g22) (g23) (g24) (g25) (g26) (g27) (g28) (g29) (g30) (g31) (g32) (g33) H.size o155 eo155.symm) (cwV 1 hts gfX12_asker_3 rfl rfl rfl (by decide +kernel) ⟨(Nat.le_of_ble_eq_true rfl), (Nat.le_of_ble_eq_true rfl)⟩) (PV hPc (hK.sub (tys' := ([])) [] rfl) hDc hN 0 rfl rfl) rfl rfl hl.1 rfl (lv_room (Nat.le_of_ble_eq_true rfl)) (zat zrX12_asker_1_ok 5 rfl) ⟨(Nat.le_of_ble_eq_true rfl), (Nat.le_of_ble_eq_true rfl)⟩)) (fun r155 _ H locs hw hP hD _ hS => ?_)
                obtain rfl := hw
                obtain ⟨hP, hD⟩ := pd_mk ((a4, .inl (cB35, 26, .inl m_v)) :: bX11 a3 uq kq q_q ([(a0, .inr (9, [.int o155.2.1, .int o155.2.2.1, .int o155.2.2.2, .ref a3, g9, g10, g11, g12, g13, g14, g15, g16, g17, g18, g19, .ref a4, g20, g21, g22, g23, g24, g25, g26, g27, g28, g29, g30, g31, g32, g33]))])) hP hD
                obtain rfl := Option.some.inj h
                obtain ⟨hP9, hD9⟩ := pd_sub ((a0, .inr (9, [.int o155.2.1, .int o155.2.2.1, .int o155.2.2.2, .ref a3, g9, g10, g11, g12, g13, g14, g15, g16, g17, g18, g19, .ref a4, g20, g21, g22, g23, g24, g25, g26, g27, g28, g29, g30, g31, g32, g33])) :: bX11 a3 uq kq q_q ([(a4, .inl (cB35, 26, .inl m_v))])) [16, 1, 2, 3, 4, 5, 6, 7, 8, 9, 10, 11, 12, 13, 14, 15, 0] hP hD (by decide) rfl
                have hK9 := hK.sub (tys' := []) [] rfl
                rw [hQQ]
                exact W.iret (v := o155.1) hx hb hr (fun t ht hW => ⟨⟨o155.1, (), rfl, rfl, by rw [ht]; exact hP9, va_K.moved hW.alike hK9, hD9⟩, hS.F ht⟩) hS.2.2 (zat zrX12_asker_1_ok 6 rfl)
              refine lv_icmp_ne (tgt := 150) hx hb (zat zrX12_asker_0_ok 63 rfl) (by decide) (fun c142 => ?_) (fun c142 => ?_)
              · have h := (if_neg c142).symm.trans h
                refine lv_aload_n hx hb (zat zrX12_asker_1_ok 2 rfl) rfl (lv_at hl 3 rfl) ?_
                refine lv_iload_n hx hb (zat zrX12_asker_1_ok 3 rfl) rfl (lv_at hl 2 rfl) ?_
                obtain ⟨o152, eo152, h⟩ := bd_of h
                refine ck_i (wc := ((a0, .inr (9, [.int 0, .int m_t.2.1, .int m_t.2.2, .ref a3, g9, g10, g11, g12, g13, g14, g15, g16, g17, g18, g19, .ref a4, g20, g21, g22, g23, g24, g25, g26, g27, g28, g29, g30, g31, g32, g33])) :: bX11 a3 uq kq q_q [])) (wr := ([(a4, .inl (cB35, 26, .inl m_v))])) hP hD hK hS hA [1, 2, 3, 4, 5, 6, 7, 8, 9, 10, 11, 12, 13, 14, 15, 16] [0] rfl rfl (by decide) (by decide) (by decide) (fun hPc hDc => (va_runV (As := [.int (m_v (((18 : Int32) + k1)).toNatClampNeg)]) (rest := [.ref a0]) ⟨hx, hb, hml, hown, hts⟩ (kfX12_spotOf l dC dI a0 (m_v (((18 : Int32) + k1)).toNatClampNeg) a3 uq kq (.int 0) (.int m_t.2.1) (.int m_t.2.2) (g9) (g10) (g11) (g12) (g13) (g14) (g15) (g16) (g17) (g18) (g19) (.ref a4) (g20) (g21) (g22) (g23) (g24) (g25) (g26) (g27) (g28) (g29) (g30) (g31) (g32) (g33) q_q H.size o152 eo152) (cwV 1 hts gfX12_asker_4 rfl rfl rfl (by decide +kernel) ⟨(Nat.le_of_ble_eq_true rfl), (Nat.le_of_ble_eq_true rfl)⟩) (PV hPc (hK.sub (tys' := (tX11 kq ([]))) [0, 1, 2, 3, 4, 5, 6, 7, 8, 9, 10, 11, 12, 13] rfl) hDc hN 0 rfl rfl) rfl rfl hl.1 rfl (lv_room (Nat.le_of_ble_eq_true rfl)) (zat zrX12_asker_1_ok 4 rfl) ⟨(Nat.le_of_ble_eq_true rfl), (Nat.le_of_ble_eq_true rfl)⟩)) (fun r152 _ H locs hw hP hD _ hS => ?_)
                obtain rfl := hw.symm
                obtain ⟨hP, hD⟩ := pd_mk ((a4, .inl (cB35, 26, .inl m_v)) :: (a0, .inr (9, [.int 0, .int m_t.2.1, .int m_t.2.2, .ref a3, g9, g10, g11, g12, g13, g14, g15, g16, g17, g18, g19, .ref a4, g20, g21, g22, g23, g24, g25, g26, g27, g28, g29, g30, g31, g32, g33])) :: bX11 a3 uq kq q_q []) hP hD
                exact J155 o152 H _ ls h  hP hD hS (lv_sub hl [] rfl)
              · have h := (if_pos c142).symm.trans h
                refine lv_bipush (v := (-2)) hx hb (zat zrX12_asker_1_ok 0 rfl) (by decide) ?_
                refine lv_goto (tgt := 155) hx hb (zat zrX12_asker_1_ok 1 rfl) (by decide) ?_
                exact J155 (-2 : Int32) H _ ls h  hP hD hS (lv_sub hl [] rfl)
            have h := (if_neg c90_1).symm.trans h
            by_cases c90_2 : k2 = 2
            · have h := (if_pos c90_2).symm.trans h
              refine lv_tableIn (tgt := 159) hx hb dX12_asker_90 (by rw [c90_2] <;> decide) (by rw [c90_2] <;> decide) (by rw [c90_2] <;> rfl) (by decide) ?_
              refine lv_aload_n hx hb (zat zrX12_asker_1_ok 7 rfl) rfl (lv_at hl 3 rfl) ?_
              refine lv_iload_n hx hb (zat zrX12_asker_1_ok 8 rfl) rfl (lv_at hl 2 rfl) ?_
              refine lv_bipush (v := (-2)) hx hb (zat zrX12_asker_1_ok 9 rfl) (by decide) ?_
              have J176 : ∀ (v176_t1 : Int32) (H : Heap) (locs : List Loc) (ls : Array Slot), f_X12_asker_J176 m_t v176_t1 = some out → va_P (dC, dI) vwCl ((a4, .inl (cB35, 26, .inl m_v)) :: (a0, .inr (9, [.int 0, .int m_t.2.1, .int m_t.2.2, .ref a3, g9, g10, g11, g12, g13, g14, g15, g16, g17, g18, g19, .ref a4, g20, g21, g22, g23, g24, g25, g26, g27, g28, g29, g30, g31, g32, g33])) :: bX11 a3 uq kq q_q []) H → va_D A ((a4, .inl (cB35, 26, .inl m_v)) :: (a0, .inr (9, [.int 0, .int m_t.2.1, .int m_t.2.2, .ref a3, g9, g10, g11, g12, g13, g14, g15, g16, g17, g18, g19, .ref a4, g20, g21, g22, g23, g24, g25, g26, g27, g28, g29, g30, g31, g32, g33])) :: bX11 a3 uq kq q_q []) → va_S A s.heap H locs → lv_has ls 6 [] → W p l e (headSpec vfX12_asker { frames := 3, cells := 0, slots := 0, locals := 68 }).room s m ([.ref a0, .int k1, .int k2]).toArray below meth c H locs 0 0 QQ (F0 m 176 ls [.int v176_t1, .ref a0]) := by
                intro v176_t1 H locs ls h  hP hD hS hl
                rw [f_X12_asker_J176] at h
                obtain ⟨o176, eo176⟩ : ∃ o, o = f_X12_good v176_t1 ((0 : Int32), m_t.2) := ⟨_, rfl⟩
                have h := nm_of h o176 eo176
                refine ck_i (wc := ([(a0, .inr (9, [.int 0, .int m_t.2.1, .int m_t.2.2, .ref a3, g9, g10, g11, g12, g13, g14, g15, g16, g17, g18, g19, .ref a4, g20, g21, g22, g23, g24, g25, g26, g27, g28, g29, g30, g31, g32, g33]))])) (wr := ((a4, .inl (cB35, 26, .inl m_v)) :: bX11 a3 uq kq q_q [])) hP hD hK hS hA [1] [0, 2, 3, 4, 5, 6, 7, 8, 9, 10, 11, 12, 13, 14, 15, 16] rfl rfl (by decide) (by decide) (by decide) (fun hPc hDc => (va_runV (As := [.int v176_t1]) (rest := []) ⟨hx, hb, hml, hown, hts⟩ (kfX12_good l dC dI a0 v176_t1 ((0 : Int32), m_t.2) (.ref a3) (g9) (g10) (g11) (g12) (g13) (g14) (g15) (g16) (g17) (g18) (g19) (.ref a4) (g20) (g21) (g22) (g23) (g24) (g25) (g26) (g27) (g28) (g29) (g30) (g31) (g32) (g33) H.size o176 eo176.symm) (cwV 1 hts gfX12_asker_3 rfl rfl rfl (by decide +kernel) ⟨(Nat.le_of_ble_eq_true rfl), (Nat.le_of_ble_eq_true rfl)⟩) (PV hPc (hK.sub (tys' := ([])) [] rfl) hDc hN 0 rfl rfl) rfl rfl hl.1 rfl (lv_room (Nat.le_of_ble_eq_true rfl)) (zat zrX12_asker_1_ok 16 rfl) ⟨(Nat.le_of_ble_eq_true rfl), (Nat.le_of_ble_eq_true rfl)⟩)) (fun r176 _ H locs hw hP hD _ hS => ?_)
                obtain rfl := hw
                obtain ⟨hP, hD⟩ := pd_mk ((a4, .inl (cB35, 26, .inl m_v)) :: bX11 a3 uq kq q_q ([(a0, .inr (9, [.int o176.2.1, .int o176.2.2.1, .int o176.2.2.2, .ref a3, g9, g10, g11, g12, g13, g14, g15, g16, g17, g18, g19, .ref a4, g20, g21, g22, g23, g24, g25, g26, g27, g28, g29, g30, g31, g32, g33]))])) hP hD
                obtain rfl := Option.some.inj h
                obtain ⟨hP9, hD9⟩ := pd_sub ((a0, .inr (9, [.int o176.2.1, .int o176.2.2.1, .int o176.2.2.2, .ref a3, g9, g10, g11, g12, g13, g14, g15, g16, g17, g18, g19, .ref a4, g20, g21, g22, g23, g24, g25, g26, g27, g28, g29, g30, g31, g32, g33])) :: bX11 a3 uq kq q_q ([(a4, .inl (cB35, 26, .inl m_v))])) [16, 1, 2, 3, 4, 5, 6, 7, 8, 9, 10, 11, 12, 13, 14, 15, 0] hP hD (by decide) rfl
                have hK9 := hK.sub (tys' := []) [] rfl
                rw [hQQ]
                exact W.iret (v := o176.1) hx hb hr (fun t ht hW => ⟨⟨o176.1, (), rfl, rfl, by rw [ht]; exact hP9, va_K.moved hW.alike hK9, hD9⟩, hS.F ht⟩) hS.2.2 (zat zrX12_asker_1_ok 17 rfl)
              refine lv_icmp_ne (tgt := 171) hx hb (zat zrX12_asker_1_ok 10 rfl) (by decide) (fun c163 => ?_) (fun c163 => ?_)
              · have h := (if_neg c163).symm.trans h
                refine lv_aload_n hx hb (zat zrX12_asker_1_ok 13 rfl) rfl (lv_at hl 3 rfl) ?_
                refine lv_iload_n hx hb (zat zrX12_asker_1_ok 14 rfl) rfl (lv_at hl 2 rfl) ?_
                obtain ⟨o173, eo173, h⟩ := bd_of h
                refine ck_i (wc := ((a0, .inr (9, [.int 0, .int m_t.2.1, .int m_t.2.2, .ref a3, g9, g10, g11, g12, g13, g14, g15, g16, g17, g18, g19, .ref a4, g20, g21, g22, g23, g24, g25, g26, g27, g28, g29, g30, g31, g32, g33])) :: bX11 a3 uq kq q_q [])) (wr := ([(a4, .inl (cB35, 26, .inl m_v))])) hP hD hK hS hA [1, 2, 3, 4, 5, 6, 7, 8, 9, 10, 11, 12, 13, 14, 15, 16] [0] rfl rfl (by decide) (by decide) (by decide) (fun hPc hDc => (va_runV (As := [.int (m_v (((18 : Int32) + k1)).toNatClampNeg)]) (rest := [.ref a0]) ⟨hx, hb, hml, hown, hts⟩ (kfX12_fathomsOf l dC dI a0 (m_v (((18 : Int32) + k1)).toNatClampNeg) a3 uq kq (.int 0) (.int m_t.2.1) (.int m_t.2.2) (g9) (g10) (g11) (g12) (g13) (g14) (g15) (g16) (g17) (g18) (g19) (.ref a4) (g20) (g21) (g22) (g23) (g24) (g25) (g26) (g27) (g28) (g29) (g30) (g31) (g32) (g33) q_q H.size o173 eo173) (cwV 1 hts gfX12_asker_5 rfl rfl rfl (by decide +kernel) ⟨(Nat.le_of_ble_eq_true rfl), (Nat.le_of_ble_eq_true rfl)⟩) (PV hPc (hK.sub (tys' := (tX11 kq ([]))) [0, 1, 2, 3, 4, 5, 6, 7, 8, 9, 10, 11, 12, 13] rfl) hDc hN 0 rfl rfl) rfl rfl hl.1 rfl (lv_room (Nat.le_of_ble_eq_true rfl)) (zat zrX12_asker_1_ok 15 rfl) ⟨(Nat.le_of_ble_eq_true rfl), (Nat.le_of_ble_eq_true rfl)⟩)) (fun r173 _ H locs hw hP hD _ hS => ?_)
                obtain rfl := hw.symm
                obtain ⟨hP, hD⟩ := pd_mk ((a4, .inl (cB35, 26, .inl m_v)) :: (a0, .inr (9, [.int 0, .int m_t.2.1, .int m_t.2.2, .ref a3, g9, g10, g11, g12, g13, g14, g15, g16, g17, g18, g19, .ref a4, g20, g21, g22, g23, g24, g25, g26, g27, g28, g29, g30, g31, g32, g33])) :: bX11 a3 uq kq q_q []) hP hD
                exact J176 o173 H _ ls h  hP hD hS (lv_sub hl [] rfl)
              · have h := (if_pos c163).symm.trans h
                refine lv_bipush (v := (-2)) hx hb (zat zrX12_asker_1_ok 11 rfl) (by decide) ?_
                refine lv_goto (tgt := 176) hx hb (zat zrX12_asker_1_ok 12 rfl) (by decide) ?_
                exact J176 (-2 : Int32) H _ ls h  hP hD hS (lv_sub hl [] rfl)
            have h := (if_neg c90_2).symm.trans h
            by_cases c90_3 : k2 = 3
            · have h := (if_pos c90_3).symm.trans h
              refine lv_tableIn (tgt := 180) hx hb dX12_asker_90 (by rw [c90_3] <;> decide) (by rw [c90_3] <;> decide) (by rw [c90_3] <;> rfl) (by decide) ?_
              refine lv_aload_n hx hb (zat zrX12_asker_1_ok 18 rfl) rfl (lv_at hl 3 rfl) ?_
              refine lv_iload_n hx hb (zat zrX12_asker_1_ok 19 rfl) rfl (lv_at hl 2 rfl) ?_
              refine lv_bipush (v := (-2)) hx hb (zat zrX12_asker_1_ok 20 rfl) (by decide) ?_
              have J197 : ∀ (v197_t1 : Int32) (H : Heap) (locs : List Loc) (ls : Array Slot), f_X12_asker_J197 m_t v197_t1 = some out → va_P (dC, dI) vwCl ((a4, .inl (cB35, 26, .inl m_v)) :: (a0, .inr (9, [.int 0, .int m_t.2.1, .int m_t.2.2, .ref a3, g9, g10, g11, g12, g13, g14, g15, g16, g17, g18, g19, .ref a4, g20, g21, g22, g23, g24, g25, g26, g27, g28, g29, g30, g31, g32, g33])) :: bX11 a3 uq kq q_q []) H → va_D A ((a4, .inl (cB35, 26, .inl m_v)) :: (a0, .inr (9, [.int 0, .int m_t.2.1, .int m_t.2.2, .ref a3, g9, g10, g11, g12, g13, g14, g15, g16, g17, g18, g19, .ref a4, g20, g21, g22, g23, g24, g25, g26, g27, g28, g29, g30, g31, g32, g33])) :: bX11 a3 uq kq q_q []) → va_S A s.heap H locs → lv_has ls 6 [] → W p l e (headSpec vfX12_asker { frames := 3, cells := 0, slots := 0, locals := 68 }).room s m ([.ref a0, .int k1, .int k2]).toArray below meth c H locs 0 0 QQ (F0 m 197 ls [.int v197_t1, .ref a0]) := by
                intro v197_t1 H locs ls h  hP hD hS hl
                rw [f_X12_asker_J197] at h
                obtain ⟨o197, eo197⟩ : ∃ o, o = f_X12_good v197_t1 ((0 : Int32), m_t.2) := ⟨_, rfl⟩
                have h := nm_of h o197 eo197
                refine ck_i (wc := ([(a0, .inr (9, [.int 0, .int m_t.2.1, .int m_t.2.2, .ref a3, g9, g10, g11, g12, g13, g14, g15, g16, g17, g18, g19, .ref a4, g20, g21, g22, g23, g24, g25, g26, g27, g28, g29, g30, g31, g32, g33]))])) (wr := ((a4, .inl (cB35, 26, .inl m_v)) :: bX11 a3 uq kq q_q [])) hP hD hK hS hA [1] [0, 2, 3, 4, 5, 6, 7, 8, 9, 10, 11, 12, 13, 14, 15, 16] rfl rfl (by decide) (by decide) (by decide) (fun hPc hDc => (va_runV (As := [.int v197_t1]) (rest := []) ⟨hx, hb, hml, hown, hts⟩ (kfX12_good l dC dI a0 v197_t1 ((0 : Int32), m_t.2) (.ref a3) (g9) (g10) (g11) (g12) (g13) (g14) (g15) (g16) (g17) (g18) (g19) (.ref a4) (g20) (g21) (g22) (g23) (g24) (g25) (g26) (g27) (g28) (g29) (g30) (g31) (g32) (g33) H.size o197 eo197.symm) (cwV 1 hts gfX12_asker_3 rfl rfl rfl (by decide +kernel) ⟨(Nat.le_of_ble_eq_true rfl), (Nat.le_of_ble_eq_true rfl)⟩) (PV hPc (hK.sub (tys' := ([])) [] rfl) hDc hN 0 rfl rfl) rfl rfl hl.1 rfl (lv_room (Nat.le_of_ble_eq_true rfl)) (zat zrX12_asker_1_ok 27 rfl) ⟨(Nat.le_of_ble_eq_true rfl), (Nat.le_of_ble_eq_true rfl)⟩)) (fun r197 _ H locs hw hP hD _ hS => ?_)
                obtain rfl := hw
                obtain ⟨hP, hD⟩ := pd_mk ((a4, .inl (cB35, 26, .inl m_v)) :: bX11 a3 uq kq q_q ([(a0, .inr (9, [.int o197.2.1, .int o197.2.2.1, .int o197.2.2.2, .ref a3, g9, g10, g11, g12, g13, g14, g15, g16, g17, g18, g19, .ref a4, g20, g21, g22, g23, g24, g25, g26, g27, g28, g29, g30, g31, g32, g33]))])) hP hD
                obtain rfl := Option.some.inj h
                obtain ⟨hP9, hD9⟩ := pd_sub ((a0, .inr (9, [.int o197.2.1, .int o197.2.2.1, .int o197.2.2.2, .ref a3, g9, g10, g11, g12, g13, g14, g15, g16, g17, g18, g19, .ref a4, g20, g21, g22, g23, g24, g25, g26, g27, g28, g29, g30, g31, g32, g33])) :: bX11 a3 uq kq q_q ([(a4, .inl (cB35, 26, .inl m_v))])) [16, 1, 2, 3, 4, 5, 6, 7, 8, 9, 10, 11, 12, 13, 14, 15, 0] hP hD (by decide) rfl
                have hK9 := hK.sub (tys' := []) [] rfl
                rw [hQQ]
                exact W.iret (v := o197.1) hx hb hr (fun t ht hW => ⟨⟨o197.1, (), rfl, rfl, by rw [ht]; exact hP9, va_K.moved hW.alike hK9, hD9⟩, hS.F ht⟩) hS.2.2 (zat zrX12_asker_1_ok 28 rfl)
              refine lv_icmp_ne (tgt := 192) hx hb (zat zrX12_asker_1_ok 21 rfl) (by decide) (fun c184 => ?_) (fun c184 => ?_)
              · have h := (if_neg c184).symm.trans h
                refine lv_aload_n hx hb (zat zrX12_asker_1_ok 24 rfl) rfl (lv_at hl 3 rfl) ?_
                refine lv_iload_n hx hb (zat zrX12_asker_1_ok 25 rfl) rfl (lv_at hl 2 rfl) ?_
                obtain ⟨o194, eo194, h⟩ := bd_of h
                refine ck_i (wc := ((a0, .inr (9, [.int 0, .int m_t.2.1, .int m_t.2.2, .ref a3, g9, g10, g11, g12, g13, g14, g15, g16, g17, g18, g19, .ref a4, g20, g21, g22, g23, g24, g25, g26, g27, g28, g29, g30, g31, g32, g33])) :: bX11 a3 uq kq q_q [])) (wr := ([(a4, .inl (cB35, 26, .inl m_v))])) hP hD hK hS hA [1, 2, 3, 4, 5, 6, 7, 8, 9, 10, 11, 12, 13, 14, 15, 16] [0] rfl rfl (by decide) (by decide) (by decide) (fun hPc hDc => (va_runV (As := [.int (m_v (((18 : Int32) + k1)).toNatClampNeg)]) (rest := [.ref a0]) ⟨hx, hb, hml, hown, hts⟩ (kfX12_baitOf l dC dI a0 (m_v (((18 : Int32) + k1)).toNatClampNeg) a3 uq kq (.int 0) (.int m_t.2.1) (.int m_t.2.2) (g9) (g10) (g11) (g12) (g13) (g14) (g15) (g16) (g17) (g18) (g19) (.ref a4) (g20) (g21) (g22) (g23) (g24) (g25) (g26) (g27) (g28) (g29) (g30) (g31) (g32) (g33) q_q H.size o194 eo194) (cwV 1 hts gfX12_asker_6 rfl rfl rfl (by decide +kernel) ⟨(Nat.le_of_ble_eq_true rfl), (Nat.le_of_ble_eq_true rfl)⟩) (PV hPc (hK.sub (tys' := (tX11 kq ([]))) [0, 1, 2, 3, 4, 5, 6, 7, 8, 9, 10, 11, 12, 13] rfl) hDc hN 0 rfl rfl) rfl rfl hl.1 rfl (lv_room (Nat.le_of_ble_eq_true rfl)) (zat zrX12_asker_1_ok 26 rfl) ⟨(Nat.le_of_ble_eq_true rfl), (Nat.le_of_ble_eq_true rfl)⟩)) (fun r194 _ H locs hw hP hD _ hS => ?_)
                obtain rfl := hw.symm
                obtain ⟨hP, hD⟩ := pd_mk ((a4, .inl (cB35, 26, .inl m_v)) :: (a0, .inr (9, [.int 0, .int m_t.2.1, .int m_t.2.2, .ref a3, g9, g10, g11, g12, g13, g14, g15, g16, g17, g18, g19, .ref a4, g20, g21, g22, g23, g24, g25, g26, g27, g28, g29, g30, g31, g32, g33])) :: bX11 a3 uq kq q_q []) hP hD
                exact J197 o194 H _ ls h  hP hD hS (lv_sub hl [] rfl)
              · have h := (if_pos c184).symm.trans h
                refine lv_bipush (v := (-2)) hx hb (zat zrX12_asker_1_ok 22 rfl) (by decide) ?_
                refine lv_goto (tgt := 197) hx hb (zat zrX12_asker_1_ok 23 rfl) (by decide) ?_
                exact J197 (-2 : Int32) H _ ls h  hP hD hS (lv_sub hl [] rfl)
            have h := (if_neg c90_3).symm.trans h
            by_cases c90_4 : k2 = 4
            · have h := (if_pos c90_4).symm.trans h
              refine lv_tableIn (tgt := 201) hx hb dX12_asker_90 (by rw [c90_4] <;> decide) (by rw [c90_4] <;> decide) (by rw [c90_4] <;> rfl) (by decide) ?_
              refine lv_aload_n hx hb (zat zrX12_asker_1_ok 29 rfl) rfl (lv_at hl 3 rfl) ?_
              refine lv_iload hx hb (zat zrX12_asker_1_ok 30 rfl) (lv_at hl 1 rfl) ?_
              obtain ⟨o204, eo204⟩ : ∃ o, o = f_X12_good v44_l4 ((0 : Int32), m_t.2) := ⟨_, rfl⟩
              have h := nm_of h o204 eo204
              refine ck_i (wc := ([(a0, .inr (9, [.int 0, .int m_t.2.1, .int m_t.2.2, .ref a3, g9, g10, g11, g12, g13, g14, g15, g16, g17, g18, g19, .ref a4, g20, g21, g22, g23, g24, g25, g26, g27, g28, g29, g30, g31, g32, g33]))])) (wr := ((a4, .inl (cB35, 26, .inl m_v)) :: bX11 a3 uq kq q_q [])) hP hD hK hS hA [1] [0, 2, 3, 4, 5, 6, 7, 8, 9, 10, 11, 12, 13, 14, 15, 16] rfl rfl (by decide) (by decide) (by decide) (fun hPc hDc => (va_runV (As := [.int v44_l4]) (rest := []) ⟨hx, hb, hml, hown, hts⟩ (kfX12_good l dC dI a0 v44_l4 ((0 : Int32), m_t.2) (.ref a3) (g9) (g10) (g11) (g12) (g13) (g14) (g15) (g16) (g17) (g18) (g19) (.ref a4) (g20) (g21) (g22) (g23) (g24) (g25) (g26) (g27) (g28) (g29) (g30) (g31) (g32) (g33) H.size o204 eo204.symm) (cwV 1 hts gfX12_asker_3 rfl rfl rfl (by decide +kernel) ⟨(Nat.le_of_ble_eq_true rfl), (Nat.le_of_ble_eq_true rfl)⟩) (PV hPc (hK.sub (tys' := ([])) [] rfl) hDc hN 0 rfl rfl) rfl rfl hl.1 rfl (lv_room (Nat.le_of_ble_eq_true rfl)) (zat zrX12_asker_1_ok 31 rfl) ⟨(Nat.le_of_ble_eq_true rfl), (Nat.le_of_ble_eq_true rfl)⟩)) (fun r204 _ H locs hw hP hD _ hS => ?_)
              obtain rfl := hw
              obtain ⟨hP, hD⟩ := pd_mk ((a4, .inl (cB35, 26, .inl m_v)) :: bX11 a3 uq kq q_q ([(a0, .inr (9, [.int o204.2.1, .int o204.2.2.1, .int o204.2.2.2, .ref a3, g9, g10, g11, g12, g13, g14, g15, g16, g17, g18, g19, .ref a4, g20, g21, g22, g23, g24, g25, g26, g27, g28, g29, g30, g31, g32, g33]))])) hP hD
              obtain rfl := Option.some.inj h
              obtain ⟨hP9, hD9⟩ := pd_sub ((a0, .inr (9, [.int o204.2.1, .int o204.2.2.1, .int o204.2.2.2, .ref a3, g9, g10, g11, g12, g13, g14, g15, g16, g17, g18, g19, .ref a4, g20, g21, g22, g23, g24, g25, g26, g27, g28, g29, g30, g31, g32, g33])) :: bX11 a3 uq kq q_q ([(a4, .inl (cB35, 26, .inl m_v))])) [16, 1, 2, 3, 4, 5, 6, 7, 8, 9, 10, 11, 12, 13, 14, 15, 0] hP hD (by decide) rfl
              have hK9 := hK.sub (tys' := []) [] rfl
              rw [hQQ]
              exact W.iret (v := o204.1) hx hb hr (fun t ht hW => ⟨⟨o204.1, (), rfl, rfl, by rw [ht]; exact hP9, va_K.moved hW.alike hK9, hD9⟩, hS.F ht⟩) hS.2.2 (zat zrX12_asker_1_ok 32 rfl)
            have h := (if_neg c90_4).symm.trans h
            refine lv_tableOut (tgt := 208) hx hb dX12_asker_90 (by simp only [fa_eq, ltv_0, ltv_1, ltv_2, ltv_3, ltv_4] at c90_0 c90_1 c90_2 c90_3 c90_4; omega) (by decide) ?_
            refine lv_aload_n hx hb (zat zrX12_asker_1_ok 33 rfl) rfl (lv_at hl 3 rfl) ?_
            refine lv_iload_n hx hb (zat zrX12_asker_1_ok 34 rfl) rfl (lv_at hl 2 rfl) ?_
            refine lv_bipush (v := (-2)) hx hb (zat zrX12_asker_1_ok 35 rfl) (by decide) ?_
            have J232 : ∀ (v232_t1 : Int32) (H : Heap) (locs : List Loc) (ls : Array Slot), f_X12_asker_J232 m_t v232_t1 = some out → 0 ≤ v232_t1.toInt ∧ v232_t1.toInt ≤ 1 → va_P (dC, dI) vwCl ((a0, .inr (9, [.int 0, .int m_t.2.1, .int m_t.2.2, .ref a3, g9, g10, g11, g12, g13, g14, g15, g16, g17, g18, g19, .ref a4, g20, g21, g22, g23, g24, g25, g26, g27, g28, g29, g30, g31, g32, g33])) :: bX11 a3 uq kq q_q ([(a4, .inl (cB35, 26, .inl m_v))])) H → va_D A ((a0, .inr (9, [.int 0, .int m_t.2.1, .int m_t.2.2, .ref a3, g9, g10, g11, g12, g13, g14, g15, g16, g17, g18, g19, .ref a4, g20, g21, g22, g23, g24, g25, g26, g27, g28, g29, g30, g31, g32, g33])) :: bX11 a3 uq kq q_q ([(a4, .inl (cB35, 26, .inl m_v))])) → va_S A s.heap H locs → lv_has ls 6 [] → W p l e (headSpec vfX12_asker { frames := 3, cells := 0, slots := 0, locals := 68 }).room s m ([.ref a0, .int k1, .int k2]).toArray below meth c H locs 0 0 QQ (F0 m 232 ls [.int v232_t1, .ref a0]) := by
              intro v232_t1 H locs ls h zb_v232_t1 hP hD hS hl
              rw [f_X12_asker_J232] at h
              obtain ⟨o232, eo232⟩ : ∃ o, o = f_X12_good v232_t1 ((0 : Int32), m_t.2) := ⟨_, rfl⟩
              have h := nm_of h o232 eo232
              refine ck_i (wc := ([(a0, .inr (9, [.int 0, .int m_t.2.1, .int m_t.2.2, .ref a3, g9, g10, g11, g12, g13, g14, g15, g16, g17, g18, g19, .ref a4, g20, g21, g22, g23, g24, g25, g26, g27, g28, g29, g30, g31, g32, g33]))])) (wr := (bX11 a3 uq kq q_q ([(a4, .inl (cB35, 26, .inl m_v))]))) hP hD hK hS hA [0] [1, 2, 3, 4, 5, 6, 7, 8, 9, 10, 11, 12, 13, 14, 15, 16] rfl rfl (by decide) (by decide) (by decide) (fun hPc hDc => (va_runV (As := [.int v232_t1]) (rest := []) ⟨hx, hb, hml, hown, hts⟩ (kfX12_good l dC dI a0 v232_t1 ((0 : Int32), m_t.2) (.ref a3) (g9) (g10) (g11) (g12) (g13) (g14) (g15) (g16) (g17) (g18) (g19) (.ref a4) (g20) (g21) (g22) (g23) (g24) (g25) (g26) (g27) (g28) (g29) (g30) (g31) (g32) (g33) H.size o232 eo232.symm) (cwV 1 hts gfX12_asker_3 rfl rfl rfl (by decide +kernel) ⟨(Nat.le_of_ble_eq_true rfl), (Nat.le_of_ble_eq_true rfl)⟩) (PV hPc (hK.sub (tys' := ([])) [] rfl) hDc hN 0 rfl rfl) rfl rfl hl.1 rfl (lv_room (Nat.le_of_ble_eq_true rfl)) (zat zrX12_asker_1_ok 46 rfl) ⟨(Nat.le_of_ble_eq_true rfl), (Nat.le_of_ble_eq_true rfl)⟩)) (fun r232 _ H locs hw hP hD _ hS => ?_)
              obtain rfl := hw
              obtain ⟨hP, hD⟩ := pd_mk (bX11 a3 uq kq q_q ([(a4, .inl (cB35, 26, .inl m_v)), (a0, .inr (9, [.int o232.2.1, .int o232.2.2.1, .int o232.2.2.2, .ref a3, g9, g10, g11, g12, g13, g14, g15, g16, g17, g18, g19, .ref a4, g20, g21, g22, g23, g24, g25, g26, g27, g28, g29, g30, g31, g32, g33]))])) hP hD
              obtain rfl := Option.some.inj h
              obtain ⟨hP9, hD9⟩ := pd_sub ((a0, .inr (9, [.int o232.2.1, .int o232.2.2.1, .int o232.2.2.2, .ref a3, g9, g10, g11, g12, g13, g14, g15, g16, g17, g18, g19, .ref a4, g20, g21, g22, g23, g24, g25, g26, g27, g28, g29, g30, g31, g32, g33])) :: bX11 a3 uq kq q_q ([(a4, .inl (cB35, 26, .inl m_v))])) [16, 0, 1, 2, 3, 4, 5, 6, 7, 8, 9, 10, 11, 12, 13, 14, 15] hP hD (by decide) rfl
              have hK9 := hK.sub (tys' := []) [] rfl
              rw [hQQ]
              exact W.iret (v := o232.1) hx hb hr (fun t ht hW => ⟨⟨o232.1, (), rfl, rfl, by rw [ht]; exact hP9, va_K.moved hW.alike hK9, hD9⟩, hS.F ht⟩) hS.2.2 (zat zrX12_asker_1_ok 47 rfl)
            have J231 : ∀ (H : Heap) (locs : List Loc) (ls : Array Slot), f_X12_asker_J231 m_t = some out → va_P (dC, dI) vwCl ((a4, .inl (cB35, 26, .inl m_v)) :: (a0, .inr (9, [.int 0, .int m_t.2.1, .int m_t.2.2, .ref a3, g9, g10, g11, g12, g13, g14, g15, g16, g17, g18, g19, .ref a4, g20, g21, g22, g23, g24, g25, g26, g27, g28, g29, g30, g31, g32, g33])) :: bX11 a3 uq kq q_q []) H → va_D A ((a4, .inl (cB35, 26, .inl m_v)) :: (a0, .inr (9, [.int 0, .int m_t.2.1, .int m_t.2.2, .ref a3, g9, g10, g11, g12, g13, g14, g15, g16, g17, g18, g19, .ref a4, g20, g21, g22, g23, g24, g25, g26, g27, g28, g29, g30, g31, g32, g33])) :: bX11 a3 uq kq q_q []) → va_S A s.heap H locs → lv_has ls 6 [] → W p l e (headSpec vfX12_asker { frames := 3, cells := 0, slots := 0, locals := 68 }).room s m ([.ref a0, .int k1, .int k2]).toArray below meth c H locs 0 0 QQ (F0 m 231 ls [.ref a0]) := by
              intro  H locs ls h  hP hD hS hl
              rw [f_X12_asker_J231] at h
              refine lv_iconst (v := 0) hx hb (zat zrX12_asker_1_ok 45 rfl) (by decide) ?_
              exact J232 (0 : Int32) H _ ls h (by decide) (hP.sub (ws' := ((a0, .inr (9, [.int 0, .int m_t.2.1, .int m_t.2.2, .ref a3, g9, g10, g11, g12, g13, g14, g15, g16, g17, g18, g19, .ref a4, g20, g21, g22, g23, g24, g25, g26, g27, g28, g29, g30, g31, g32, g33])) :: bX11 a3 uq kq q_q ([(a4, .inl (cB35, 26, .inl m_v))]))) [1, 2, 3, 4, 5, 6, 7, 8, 9, 10, 11, 12, 13, 14, 15, 16, 0] rfl) (hD.sub (ws' := ((a0, .inr (9, [.int 0, .int m_t.2.1, .int m_t.2.2, .ref a3, g9, g10, g11, g12, g13, g14, g15, g16, g17, g18, g19, .ref a4, g20, g21, g22, g23, g24, g25, g26, g27, g28, g29, g30, g31, g32, g33])) :: bX11 a3 uq kq q_q ([(a4, .inl (cB35, 26, .inl m_v))]))) [1, 2, 3, 4, 5, 6, 7, 8, 9, 10, 11, 12, 13, 14, 15, 16, 0] (by decide) rfl) hS (lv_sub hl [] rfl)
            refine lv_icmp_eq (tgt := 231) hx hb (zat zrX12_asker_1_ok 36 rfl) (by decide) (fun c212 => ?_) (fun c212 => ?_)
            · have h := (if_pos c212).symm.trans h
              exact J231  H _ ls h  hP hD hS (lv_sub hl [] rfl)
            · have h := (if_neg c212).symm.trans h
              refine lv_aload_n hx hb (zat zrX12_asker_1_ok 37 rfl) rfl (lv_at hl 3 rfl) ?_
              refine lv_aload_n hx hb (zat zrX12_asker_1_ok 38 rfl) rfl (lv_at hl 3 rfl) ?_
              refine va_get (D := (dC, dI)) (ci := 9) (v := .ref a4) (C := RX12) (T := TX12) (N := 30) hx hb hts ifX12_asker_X12 hown hK hP 1 rfl rfl 15 (by decide) (hts (.fieldLink RX12 17 "HookPierModel" "v" "[I") (List.mem_of_getElem? (i := 11) rfl)) (fun _ h9 => h9) rfl (zat zrX12_asker_1_ok 39 rfl) ?_
              refine lv_iload_n hx hb (zat zrX12_asker_1_ok 40 rfl) rfl (lv_at hl 4 rfl) ?_
              obtain ⟨o221, eo221, h⟩ := bd_of h
              refine ck_i (wc := ((a0, .inr (9, [.int 0, .int m_t.2.1, .int m_t.2.2, .ref a3, g9, g10, g11, g12, g13, g14, g15, g16, g17, g18, g19, .ref a4, g20, g21, g22, g23, g24, g25, g26, g27, g28, g29, g30, g31, g32, g33])) :: bX11 a3 uq kq q_q ([(a4, .inl (cB35, 26, .inl m_v))]))) (wr := []) hP hD hK hS hA [1, 2, 3, 4, 5, 6, 7, 8, 9, 10, 11, 12, 13, 14, 15, 16, 0] [] rfl rfl (by decide) (by decide) (by decide) (fun hPc hDc => (va_runV (As := [.ref a4, .int k1]) (rest := [.ref a0]) ⟨hx, hb, hml, hown, hts⟩ (kfX12_isTangled l dC dI a0 a4 k1 a3 uq kq m_v (.int 0) (.int m_t.2.1) (.int m_t.2.2) (g9) (g10) (g11) (g12) (g13) (g14) (g15) (g16) (g17) (g18) (g19) (g20) (g21) (g22) (g23) (g24) (g25) (g26) (g27) (g28) (g29) (g30) (g31) (g32) (g33) q_q cB35 H.size o221 eo221) (cwV 2 hts gfX12_asker_7 rfl rfl rfl (by decide +kernel) ⟨(Nat.le_of_ble_eq_true rfl), (Nat.le_of_ble_eq_true rfl)⟩) (PV hPc (hK.sub (tys' := (tX11 kq ((cB35, .int) :: []))) [0, 1, 2, 3, 4, 5, 6, 7, 8, 9, 10, 11, 12, 13, 14] rfl) hDc hN 0 rfl rfl) rfl rfl hl.1 rfl (lv_room (Nat.le_of_ble_eq_true rfl)) (zat zrX12_asker_1_ok 41 rfl) ⟨(Nat.le_of_ble_eq_true rfl), (Nat.le_of_ble_eq_true rfl)⟩)) (fun r221 _ H locs hw hP hD _ hS => ?_)
              obtain ⟨hw, br221⟩ := hw
              obtain rfl := hw.symm
              obtain ⟨hP, hD⟩ := pd_mk ((a0, .inr (9, [.int 0, .int m_t.2.1, .int m_t.2.2, .ref a3, g9, g10, g11, g12, g13, g14, g15, g16, g17, g18, g19, .ref a4, g20, g21, g22, g23, g24, g25, g26, g27, g28, g29, g30, g31, g32, g33])) :: bX11 a3 uq kq q_q ([(a4, .inl (cB35, 26, .inl m_v))])) hP hD
              refine lv_if_eq (tgt := 231) hx hb (zat zrX12_asker_1_ok 42 rfl) (by decide) (fun c224 => ?_) (fun c224 => ?_)
              · have h := (if_pos c224).symm.trans h
                exact J231  H _ ls h  (hP.sub (ws' := ((a4, .inl (cB35, 26, .inl m_v)) :: (a0, .inr (9, [.int 0, .int m_t.2.1, .int m_t.2.2, .ref a3, g9, g10, g11, g12, g13, g14, g15, g16, g17, g18, g19, .ref a4, g20, g21, g22, g23, g24, g25, g26, g27, g28, g29, g30, g31, g32, g33])) :: bX11 a3 uq kq q_q [])) [16, 0, 1, 2, 3, 4, 5, 6, 7, 8, 9, 10, 11, 12, 13, 14, 15] rfl) (hD.sub (ws' := ((a4, .inl (cB35, 26, .inl m_v)) :: (a0, .inr (9, [.int 0, .int m_t.2.1, .int m_t.2.2, .ref a3, g9, g10, g11, g12, g13, g14, g15, g16, g17, g18, g19, .ref a4, g20, g21, g22, g23, g24, g25, g26, g27, g28, g29, g30, g31, g32, g33])) :: bX11 a3 uq kq q_q [])) [16, 0, 1, 2, 3, 4, 5, 6, 7, 8, 9, 10, 11, 12, 13, 14, 15] (by decide) rfl) hS (lv_sub hl [] rfl)
              · have h := (if_neg c224).symm.trans h
                refine lv_iconst (v := 1) hx hb (zat zrX12_asker_1_ok 43 rfl) (by decide) ?_
                refine lv_goto (tgt := 232) hx hb (zat zrX12_asker_1_ok 44 rfl) (by decide) ?_
                exact J232 (1 : Int32) H _ ls h (by decide) hP hD hS (lv_sub hl [] rfl)
          · have h := (if_neg c53).symm.trans h
            refine lv_iload hx hb (zat zrX12_asker_0_ok 32 rfl) (lv_at hl 1 rfl) ?_
            refine lv_aload_n hx hb (zat zrX12_asker_0_ok 33 rfl) rfl (lv_at hl 3 rfl) ?_
            refine va_get (D := (dC, dI)) (ci := 9) (v := .ref a4) (C := RX12) (T := TX12) (N := 30) hx hb hts ifX12_asker_X12 hown hK hP 1 rfl rfl 15 (by decide) (hts (.fieldLink RX12 17 "HookPierModel" "v" "[I") (List.mem_of_getElem? (i := 11) rfl)) (fun _ h9 => h9) rfl (zat zrX12_asker_0_ok 34 rfl) ?_
            refine lv_bipush (v := 12) hx hb (zat zrX12_asker_0_ok 35 rfl) (by decide) ?_
            refine lv_iload hx hb (zat zrX12_asker_0_ok 36 rfl) (lv_at hl 0 rfl) ?_
            refine lv_iadd hx hb (zat zrX12_asker_0_ok 37 rfl) ?_
            obtain ⟨hg67, h⟩ := gA_of h
            refine va_iald hx hb hK hP 0 14 rfl rfl hg67 (zat zrX12_asker_0_ok 38 rfl) ?_
            refine lv_iload_n hx hb (zat zrX12_asker_0_ok 39 rfl) rfl (lv_at hl 4 rfl) ?_
            have J80 : ∀ (v80_t1 : Int32) (H : Heap) (locs : List Loc) (ls : Array Slot), f_X12_asker_J80 (f_X12_asker_L44 k1 k2 m_t m_v q_q n44) v44_l4 v44_l5 v80_t1 = some out → va_P (dC, dI) vwCl ((a4, .inl (cB35, 26, .inl m_v)) :: (a0, .inr (9, [.int 0, .int m_t.2.1, .int m_t.2.2, .ref a3, g9, g10, g11, g12, g13, g14, g15, g16, g17, g18, g19, .ref a4, g20, g21, g22, g23, g24, g25, g26, g27, g28, g29, g30, g31, g32, g33])) :: bX11 a3 uq kq q_q []) H → va_D A ((a4, .inl (cB35, 26, .inl m_v)) :: (a0, .inr (9, [.int 0, .int m_t.2.1, .int m_t.2.2, .ref a3, g9, g10, g11, g12, g13, g14, g15, g16, g17, g18, g19, .ref a4, g20, g21, g22, g23, g24, g25, g26, g27, g28, g29, g30, g31, g32, g33])) :: bX11 a3 uq kq q_q []) → va_S A s.heap H locs → lv_has ls 6 [(5, .int v44_l5), (3, .int (m_v (((18 : Int32) + k1)).toNatClampNeg)), (0, .ref a0), (1, .int k1), (2, .int k2)] → W p l e (headSpec vfX12_asker { frames := 3, cells := 0, slots := 0, locals := 68 }).room s m ([.ref a0, .int k1, .int k2]).toArray below meth c H locs 0 0 QQ (F0 m 80 ls [.int v80_t1, .int v44_l4]) := by
              intro v80_t1 H locs ls h  hP hD hS hl
              rw [f_X12_asker_J80] at h
              refine lv_ior hx hb (zat zrX12_asker_0_ok 46 rfl) ?_
              refine lv_istore (lv' := [(4, .int (v44_l4 ||| v80_t1)), (5, .int v44_l5), (3, .int (m_v (((18 : Int32) + k1)).toNatClampNeg)), (0, .ref a0), (1, .int k1), (2, .int k2)]) hx hb (zat zrX12_asker_0_ok 47 rfl) hl (by decide) rfl (fun ls hl => ?_)
              refine lv_iinc (v := (v44_l5 + (1 : Int32))) (lv' := [(5, .int (v44_l5 + (1 : Int32))), (4, .int (v44_l4 ||| v80_t1)), (3, .int (m_v (((18 : Int32) + k1)).toNatClampNeg)), (0, .ref a0), (1, .int k1), (2, .int k2)]) hx hb (zat zrX12_asker_0_ok 48 rfl) hl (k := 1) rfl rfl (by decide) rfl (fun ls hl => ?_)
              refine lv_goto (tgt := 44) hx hb (zat zrX12_asker_0_ok 49 rfl) (by decide) ?_
              exact ih44 (v44_l5 + (1 : Int32)) (v44_l4 ||| v80_t1) H _ ls h  hP hD hS (lv_sub hl [0, 1, 2, 3, 4, 5] rfl)
            refine lv_icmp_ne (tgt := 79) hx hb (zat zrX12_asker_0_ok 40 rfl) (by decide) (fun c69 => ?_) (fun c69 => ?_)
            · have h := (if_neg c69).symm.trans h
              refine lv_iconst (v := 0) hx hb (zat zrX12_asker_0_ok 45 rfl) (by decide) ?_
              exact J80 (0 : Int32) H _ ls h  hP hD hS (lv_sub hl [0, 2, 3, 4, 5] rfl)
            · have h := (if_pos c69).symm.trans h
              refine lv_iconst (v := 1) hx hb (zat zrX12_asker_0_ok 41 rfl) (by decide) ?_
              refine lv_iload hx hb (zat zrX12_asker_0_ok 42 rfl) (lv_at hl 0 rfl) ?_
              refine lv_ishl hx hb (zat zrX12_asker_0_ok 43 rfl) ?_
              refine lv_goto (tgt := 80) hx hb (zat zrX12_asker_0_ok 44 rfl) (by decide) ?_
              exact J80 ((1 : Int32) <<< (v44_l5 &&& 31)) H _ ls h  hP hD hS (lv_sub hl [0, 2, 3, 4, 5] rfl)
      exact L44 FU (0 : Int32) (0 : Int32) H _ ls h  hP hD hS (lv_sub hl [0, 1, 2, 3, 4, 5] rfl)
    · have h := (if_pos c19).symm.trans h
      exact J22  H _ ls h  hP hD hS (lv_sub hl [0] rfl)
noncomputable def zrX12_close_0 : List ZR := zc 0 true (.aload_n 0) 1 (zc 1 true (.iconst 0) 1 (zc 2 true (.putfield 36) 3 (zc 5 true (.aload_n 0) 1 (zc 6 true (.getfield 299) 3 (zc 9 true (.ifnonnull 9) 3 (zc 12 false (.nop) 6 (zc 18 true (.iload_n 1) 1 (zc 19 true (.iconst 0) 1 (zc 20 true (.sipush 999) 3 (zc 23 true (.invokestatic 115) 3 (zc 26 true (.ifCond .eq 26) 3 (zc 29 true (.aload_n 0) 1 (zc 30 true (.aload_n 0) 1 (zc 31 true (.getfield 299) 3 (zc 34 true (.iload_n 1) 1 (zc 35 true (.invokevirtual 341) 3 (zc 38 true (.ifCond .eq 7) 3 (zc 41 true (.iconst 1) 1 (zc 42 true (.goto 4) 3 (zc 45 true (.iconst 0) 1 (zc 46 true (.invokevirtual 46) 3 (zc 49 true (.goto 8) 3 (zc 52 true (.aload_n 0) 1 (zc 53 true (.iconst 2) 1 (zc 54 true (.invokevirtual 42) 3 (zc 57 true (.ireturn) 1 ([])))))))))))))))))))))))))))
theorem zrX12_close_0_ok : zck 0 ((zby cX12_close).drop 0) zrX12_close_0 = true := by decide +kernel
def vfX12_close : List Cond := List.cons (.code yX12_close cX12_close 2 (some .int)) (apW [.fieldLink RX12 36 "HookPierModel" "thrown" "I", .fieldLink RX12 299 "HookPierModel" "pier" "LHookPierModel$Pier;", .methodLink RX12 115 yX12_in, .static yX12_in, .initialized RX12, .methodLink RX12 42 yX12_refused, .instanceMethod yX12_refused, .selects RX12 yX12_refused yX12_refused, .methodLink RX12 341 yX11_isClose, .instanceMethod yX11_isClose, .selects RX11 yX11_isClose yX11_isClose, .initialized RX11, .methodLink RX12 46 yX12_good, .instanceMethod yX12_good, .selects RX12 yX12_good yX12_good] (apW wsX120 (apW vfX12_in (apW vfX12_refused (apW vfX11_isClose (vfX12_good))))))
theorem ifX12_close_X12 : ∀ w ∈ wsX120, w ∈ vfX12_close := fun _ h => (List.mem_cons_of_mem _ (List.mem_append_right _ (List.mem_append_left _ h)))
theorem qfX12_close : Good vfX12_close := gd_cons (by decide +kernel) (gd_app (gd_dec (by decide +kernel) : Good [.fieldLink RX12 36 "HookPierModel" "thrown" "I", .fieldLink RX12 299 "HookPierModel" "pier" "LHookPierModel$Pier;", .methodLink RX12 115 yX12_in, .static yX12_in, .initialized RX12, .methodLink RX12 42 yX12_refused, .instanceMethod yX12_refused, .selects RX12 yX12_refused yX12_refused, .methodLink RX12 341 yX11_isClose, .instanceMethod yX11_isClose, .selects RX11 yX11_isClose yX11_isClose, .initialized RX11, .methodLink RX12 46 yX12_good, .instanceMethod yX12_good, .selects RX12 yX12_good yX12_good]) (gd_app qsX12 (gd_app qfX12_in (gd_app qfX12_refused (gd_app qfX11_isClose qfX12_good)))))
theorem gfX12_close_0 : GoodIn vfX12_close (va_wsS RX12 115 yX12_in vfX12_in) := goodIn_app (goodIn_r [.methodLink RX12 115 yX12_in, .static yX12_in, .initialized RX12] [3, 4, 5] rfl (by decide +kernel)) (goodIn_m (fun _ h => (List.mem_cons_of_mem _ (List.mem_append_right _ (List.mem_append_right _ (List.mem_append_left _ h))))) qfX12_in)
theorem gfX12_close_1 : GoodIn vfX12_close (wsV RX12 42 RX12 yX12_refused vfX12_refused) := goodIn_app (goodIn_r [.methodLink RX12 42 yX12_refused, .instanceMethod yX12_refused, .selects RX12 yX12_refused yX12_refused, .initialized RX12] [6, 7, 8, 5] rfl (by decide +kernel)) (goodIn_m (fun _ h => (List.mem_cons_of_mem _ (List.mem_append_right _ (List.mem_append_right _ (List.mem_append_right _ (List.mem_append_left _ h)))))) qfX12_refused)
theorem gfX12_close_2 : GoodIn vfX12_close (wsV RX12 341 RX11 yX11_isClose vfX11_isClose) := goodIn_app (goodIn_r [.methodLink RX12 341 yX11_isClose, .instanceMethod yX11_isClose, .selects RX11 yX11_isClose yX11_isClose, .initialized RX11] [9, 10, 11, 12] rfl (by decide +kernel)) (goodIn_m (fun _ h => (List.mem_cons_of_mem _ (List.mem_append_right _ (List.mem_append_right _ (List.mem_append_right _ (List.mem_append_right _ (List.mem_append_left _ h))))))) qfX11_isClose)
theorem gfX12_close_3 : GoodIn vfX12_close (wsV RX12 46 RX12 yX12_good vfX12_good) := goodIn_app (goodIn_r [.methodLink RX12 46 yX12_good, .instanceMethod yX12_good, .selects RX12 yX12_good yX12_good, .initialized RX12] [13, 14, 15, 5] rfl (by decide +kernel)) (goodIn_m (fun _ h => (List.mem_cons_of_mem _ (List.mem_append_right _ (List.mem_append_right _ (List.mem_append_right _ (List.mem_append_right _ (List.mem_append_right _ h))))))) qfX12_good)
set_option maxHeartbeats 2000000 in
set_option maxRecDepth 100000 in
theorem kfX12_close (l : Launch) (dC : Nat → ClassId) (dI : Nat → Nat → Nat) (a0 : Nat) (k1 : Int32) (a2 : Nat) (uq : Nat → Nat) (kq : Nat → ClassId) (m_t : TX12_t) (g6 : Value) (g7 : Value) (g8 : Value) (g9 : Value) (g10 : Value) (g11 : Value) (g12 : Value) (g13 : Value) (g14 : Value) (g15 : Value) (g16 : Value) (g17 : Value) (g18 : Value) (g19 : Value) (g20 : Value) (g21 : Value) (g22 : Value) (g23 : Value) (g24 : Value) (g25 : Value) (g26 : Value) (g27 : Value) (g28 : Value) (g29 : Value) (g30 : Value) (g31 : Value) (q_q : TX11_q) (sz : Nat) (out : (Int32 × TX12_t)) (h : f_X12_close k1 m_t q_q = out) : KCi l yX12_close vfX12_close ({ frames := 1, cells := 0, slots := 0, locals := 22 }) (dC, dI) [.ref a0, .int k1] sz ((a0, .inr (9, [.int m_t.1, .int m_t.2.1, .int m_t.2.2, .ref a2, g6, g7, g8, g9, g10, g11, g12, g13, g14, g15, g16, g17, g18, g19, g20, g21, g22, g23, g24, g25, g26, g27, g28, g29, g30, g31])) :: bX11 a2 uq kq q_q []) (tX11 kq ([])) (fun (r : Int32) _ => r = out.1) ((a0, .inr (9, [.int out.2.1, .int out.2.2.1, .int out.2.2.2, .ref a2, g6, g7, g8, g9, g10, g11, g12, g13, g14, g15, g16, g17, g18, g19, g20, g21, g22, g23, g24, g25, g26, g27, g28, g29, g30, g31])) :: bX11 a2 uq kq q_q []) 0 0 := by
  refine Met.ofW (cc := cX12_close) (maxL := 2) (ret := (some .int)) (by decide) rfl ?_
  intro p e s m args below meth c s₁ B0 hml hv
  obtain ⟨rfl, hsz, hP, hK, hD0, hN⟩ := hv
  have hx := B0.exec
  have hb := B0.bytes
  have hr := B0.returns
  have hts := atoms_spec (ws := vfX12_close) B0.pre
  have hown : s.vm.findClass RX12 = some m.cls := findClass_of_methodNamed B0.named
  have hlocks := B0.notSynchronized
  subst hsz
  have hD := hD0.self (sz := s.heap.size)
  generalize hAe : va_A ((a0, .inr (9, [.int m_t.1, .int m_t.2.1, .int m_t.2.2, .ref a2, g6, g7, g8, g9, g10, g11, g12, g13, g14, g15, g16, g17, g18, g19, g20, g21, g22, g23, g24, g25, g26, g27, g28, g29, g30, g31])) :: bX11 a2 uq kq q_q []) s.heap.size = A at hD ⊢
  have hA : ∀ q : Nat, s.heap.size ≤ q → A q := fun q h => by rw [← hAe]; exact Or.inr h
  have hS : va_S A s.heap s.heap [] := va_S.rf
  have hP : va_P (dC, dI) vwCl ((a0, .inr (9, [.int m_t.1, .int m_t.2.1, .int m_t.2.2, .ref a2, g6, g7, g8, g9, g10, g11, g12, g13, g14, g15, g16, g17, g18, g19, g20, g21, g22, g23, g24, g25, g26, g27, g28, g29, g30, g31])) :: bX11 a2 uq kq q_q []) s.heap := hP
  have hl := lv_entry ([.ref a0, .int k1]) (n := 2) (Nat.le_of_ble_eq_true rfl)
  rw [lg_entry_eq]
  generalize (lg_sl ([.ref a0, .int k1]) ++ List.replicate (2 - (lg_sl ([.ref a0, .int k1])).length) Slot.unset).toArray = ls at hl ⊢
  have hl : lv_has ls 2 [(0, .ref a0), (1, .int k1)] := hl
  refine W_q (fun QQ hQQ => ?_)
  rw [f_X12_close] at h
  refine lv_aload_n hx hb (zat zrX12_close_0_ok 0 rfl) rfl (lv_at hl 0 rfl) ?_
  refine lv_iconst (v := 0) hx hb (zat zrX12_close_0_ok 1 rfl) (by decide) ?_
  refine va_put (D := (dC, dI)) (ci := 9) (v := .int 0) (ty := .int) (C := RX12) (T := TX12) (N := 30) hx hb hts ifX12_close_X12 tyX12 tyX12_ok nmX12 hown hK hP hD hS 0 rfl rfl 0 (by decide) (hts (.fieldLink RX12 36 "HookPierModel" "thrown" "I") (List.mem_of_getElem? (i := 1) rfl)) (fun _ h9 => h9) rfl (by decide +kernel) rfl rfl (Nat.le_of_ble_eq_true rfl) (zat zrX12_close_0_ok 2 rfl) (fun H locs hP hD hS => ?_)
  obtain ⟨hP, hD⟩ := pd_mk ((a0, .inr (9, [.int 0, .int m_t.2.1, .int m_t.2.2, .ref a2, g6, g7, g8, g9, g10, g11, g12, g13, g14, g15, g16, g17, g18, g19, g20, g21, g22, g23, g24, g25, g26, g27, g28, g29, g30, g31])) :: bX11 a2 uq kq q_q []) hP hD
  refine lv_aload_n hx hb (zat zrX12_close_0_ok 3 rfl) rfl (lv_at hl 0 rfl) ?_
  refine va_get (D := (dC, dI)) (ci := 9) (v := .ref a2) (C := RX12) (T := TX12) (N := 30) hx hb hts ifX12_close_X12 hown hK hP 0 rfl rfl 3 (by decide) (hts (.fieldLink RX12 299 "HookPierModel" "pier" "LHookPierModel$Pier;") (List.mem_of_getElem? (i := 2) rfl)) (fun _ h9 => h9) rfl (zat zrX12_close_0_ok 4 rfl) ?_
  refine lv_ifnonnull (tgt := 18) hx hb (zat zrX12_close_0_ok 5 rfl) (by decide) ?_
  refine lv_iload_n hx hb (zat zrX12_close_0_ok 7 rfl) rfl (lv_at hl 1 rfl) ?_
  refine lv_iconst (v := 0) hx hb (zat zrX12_close_0_ok 8 rfl) (by decide) ?_
  refine lv_sipush (v := 999) hx hb (zat zrX12_close_0_ok 9 rfl) (by decide) ?_
  obtain ⟨o23, eo23⟩ : ∃ o, o = f_X12_in k1 (0 : Int32) (999 : Int32) := ⟨_, rfl⟩
  have h := nm_of h o23 eo23
  refine ck_i (wc := []) (wr := ((a0, .inr (9, [.int 0, .int m_t.2.1, .int m_t.2.2, .ref a2, g6, g7, g8, g9, g10, g11, g12, g13, g14, g15, g16, g17, g18, g19, g20, g21, g22, g23, g24, g25, g26, g27, g28, g29, g30, g31])) :: bX11 a2 uq kq q_q [])) hP hD hK hS hA [] [0, 1, 2, 3, 4, 5, 6, 7, 8, 9, 10, 11, 12, 13, 14, 15] rfl rfl (by decide) (by decide) (by decide) (fun hPc hDc => (va_runS (As := [.int k1, .int 0, .int 999]) (rest := []) ⟨hx, hb, hml, hown, hts⟩ (kfX12_in l dC dI k1 (0 : Int32) (999 : Int32) H.size o23 eo23.symm) (va_cwS 3 hts gfX12_close_0 rfl rfl rfl (by decide +kernel) ⟨(Nat.le_of_ble_eq_true rfl), (Nat.le_of_ble_eq_true rfl)⟩) (PS hPc (hK.sub (tys' := ([])) [] rfl) hDc hN) rfl rfl hl.1 rfl (lv_room (Nat.le_of_ble_eq_true rfl)) (zat zrX12_close_0_ok 10 rfl) ⟨(Nat.le_of_ble_eq_true rfl), (Nat.le_of_ble_eq_true rfl)⟩)) (fun r23 _ H locs hw hP hD _ hS => ?_)
  obtain ⟨hw, br23⟩ := hw
  obtain rfl := hw.symm
  obtain ⟨hP, hD⟩ := pd_mk ((a0, .inr (9, [.int 0, .int m_t.2.1, .int m_t.2.2, .ref a2, g6, g7, g8, g9, g10, g11, g12, g13, g14, g15, g16, g17, g18, g19, g20, g21, g22, g23, g24, g25, g26, g27, g28, g29, g30, g31])) :: bX11 a2 uq kq q_q []) hP hD
  refine lv_if_eq (tgt := 52) hx hb (zat zrX12_close_0_ok 11 rfl) (by decide) (fun c26 => ?_) (fun c26 => ?_)
  · have h := (if_pos c26).symm.trans h
    refine lv_aload_n hx hb (zat zrX12_close_0_ok 23 rfl) rfl (lv_at hl 0 rfl) ?_
    refine lv_iconst (v := 2) hx hb (zat zrX12_close_0_ok 24 rfl) (by decide) ?_
    obtain ⟨o54, eo54⟩ : ∃ o, o = f_X12_refused (2 : Int32) ((0 : Int32), m_t.2) := ⟨_, rfl⟩
    have h := nm_of h o54 eo54
    refine ck_i (wc := ([(a0, .inr (9, [.int 0, .int m_t.2.1, .int m_t.2.2, .ref a2, g6, g7, g8, g9, g10, g11, g12, g13, g14, g15, g16, g17, g18, g19, g20, g21, g22, g23, g24, g25, g26, g27, g28, g29, g30, g31]))])) (wr := (bX11 a2 uq kq q_q [])) hP hD hK hS hA [0] [1, 2, 3, 4, 5, 6, 7, 8, 9, 10, 11, 12, 13, 14, 15] rfl rfl (by decide) (by decide) (by decide) (fun hPc hDc => (va_runV (As := [.int 2]) (rest := []) ⟨hx, hb, hml, hown, hts⟩ (kfX12_refused l dC dI a0 (2 : Int32) ((0 : Int32), m_t.2) (.ref a2) (g6) (g7) (g8) (g9) (g10) (g11) (g12) (g13) (g14) (g15) (g16) (g17) (g18) (g19) (g20) (g21) (g22) (g23) (g24) (g25) (g26) (g27) (g28) (g29) (g30) (g31) H.size o54 eo54.symm) (cwV 1 hts gfX12_close_1 rfl rfl rfl (by decide +kernel) ⟨(Nat.le_of_ble_eq_true rfl), (Nat.le_of_ble_eq_true rfl)⟩) (PV hPc (hK.sub (tys' := ([])) [] rfl) hDc hN 0 rfl rfl) rfl rfl hl.1 rfl (lv_room (Nat.le_of_ble_eq_true rfl)) (zat zrX12_close_0_ok 25 rfl) ⟨(Nat.le_of_ble_eq_true rfl), (Nat.le_of_ble_eq_true rfl)⟩)) (fun r54 _ H locs hw hP hD _ hS => ?_)
    obtain rfl := hw
    obtain ⟨hP, hD⟩ := pd_mk (bX11 a2 uq kq q_q ([(a0, .inr (9, [.int o54.1, .int o54.2.1, .int o54.2.2, .ref a2, g6, g7, g8, g9, g10, g11, g12, g13, g14, g15, g16, g17, g18, g19, g20, g21, g22, g23, g24, g25, g26, g27, g28, g29, g30, g31]))])) hP hD
    obtain rfl := h
    obtain ⟨hP9, hD9⟩ := pd_sub ((a0, .inr (9, [.int o54.1, .int o54.2.1, .int o54.2.2, .ref a2, g6, g7, g8, g9, g10, g11, g12, g13, g14, g15, g16, g17, g18, g19, g20, g21, g22, g23, g24, g25, g26, g27, g28, g29, g30, g31])) :: bX11 a2 uq kq q_q []) [15, 0, 1, 2, 3, 4, 5, 6, 7, 8, 9, 10, 11, 12, 13, 14] hP hD (by decide) rfl
    have hK9 := hK.sub (tys' := []) [] rfl
    rw [hQQ]
    exact W.iret (v := (-1 : Int32)) hx hb hr (fun t ht hW => ⟨⟨(-1 : Int32), (), rfl, rfl, by rw [ht]; exact hP9, va_K.moved hW.alike hK9, hD9⟩, hS.F ht⟩) hS.2.2 (zat zrX12_close_0_ok 26 rfl)
  · have h := (if_neg c26).symm.trans h
    refine lv_aload_n hx hb (zat zrX12_close_0_ok 12 rfl) rfl (lv_at hl 0 rfl) ?_
    refine lv_aload_n hx hb (zat zrX12_close_0_ok 13 rfl) rfl (lv_at hl 0 rfl) ?_
    refine va_get (D := (dC, dI)) (ci := 9) (v := .ref a2) (C := RX12) (T := TX12) (N := 30) hx hb hts ifX12_close_X12 hown hK hP 0 rfl rfl 3 (by decide) (hts (.fieldLink RX12 299 "HookPierModel" "pier" "LHookPierModel$Pier;") (List.mem_of_getElem? (i := 2) rfl)) (fun _ h9 => h9) rfl (zat zrX12_close_0_ok 14 rfl) ?_
    refine lv_iload_n hx hb (zat zrX12_close_0_ok 15 rfl) rfl (lv_at hl 1 rfl) ?_
    obtain ⟨o35, eo35⟩ : ∃ o, o = f_X11_isClose k1 q_q := ⟨_, rfl⟩
    have h := nm_of h o35 eo35
    refine ck_i (wc := (bX11 a2 uq kq q_q [])) (wr := ([(a0, .inr (9, [.int 0, .int m_t.2.1, .int m_t.2.2, .ref a2, g6, g7, g8, g9, g10, g11, g12, g13, g14, g15, g16, g17, g18, g19, g20, g21, g22, g23, g24, g25, g26, g27, g28, g29, g30, g31]))])) hP hD hK hS hA [1, 2, 3, 4, 5, 6, 7, 8, 9, 10, 11, 12, 13, 14, 15] [0] rfl rfl (by decide) (by decide) (by decide) (fun hPc hDc => (va_runV (As := [.int k1]) (rest := [.ref a0]) ⟨hx, hb, hml, hown, hts⟩ (kfX11_isClose l dC dI a2 k1 uq kq q_q H.size o35 eo35.symm) (cwV 1 hts gfX12_close_2 rfl rfl rfl (by decide +kernel) ⟨(Nat.le_of_ble_eq_true rfl), (Nat.le_of_ble_eq_true rfl)⟩) (PV hPc (hK.sub (tys' := (tX11 kq ([]))) [0, 1, 2, 3, 4, 5, 6, 7, 8, 9, 10, 11, 12, 13] rfl) hDc hN 0 rfl rfl) rfl rfl hl.1 rfl (lv_room (Nat.le_of_ble_eq_true rfl)) (zat zrX12_close_0_ok 16 rfl) ⟨(Nat.le_of_ble_eq_true rfl), (Nat.le_of_ble_eq_true rfl)⟩)) (fun r35 _ H locs hw hP hD _ hS => ?_)
    obtain ⟨hw, br35⟩ := hw
    obtain rfl := hw.symm
    obtain ⟨hP, hD⟩ := pd_mk ((a0, .inr (9, [.int 0, .int m_t.2.1, .int m_t.2.2, .ref a2, g6, g7, g8, g9, g10, g11, g12, g13, g14, g15, g16, g17, g18, g19, g20, g21, g22, g23, g24, g25, g26, g27, g28, g29, g30, g31])) :: bX11 a2 uq kq q_q []) hP hD
    have J46 : ∀ (v46_t1 : Int32) (H : Heap) (locs : List Loc) (ls : Array Slot), f_X12_close_J46 m_t v46_t1 = out → 0 ≤ v46_t1.toInt ∧ v46_t1.toInt ≤ 1 → va_P (dC, dI) vwCl ((a0, .inr (9, [.int 0, .int m_t.2.1, .int m_t.2.2, .ref a2, g6, g7, g8, g9, g10, g11, g12, g13, g14, g15, g16, g17, g18, g19, g20, g21, g22, g23, g24, g25, g26, g27, g28, g29, g30, g31])) :: bX11 a2 uq kq q_q []) H → va_D A ((a0, .inr (9, [.int 0, .int m_t.2.1, .int m_t.2.2, .ref a2, g6, g7, g8, g9, g10, g11, g12, g13, g14, g15, g16, g17, g18, g19, g20, g21, g22, g23, g24, g25, g26, g27, g28, g29, g30, g31])) :: bX11 a2 uq kq q_q []) → va_S A s.heap H locs → lv_has ls 2 [] → W p l e (headSpec vfX12_close { frames := 1, cells := 0, slots := 0, locals := 22 }).room s m ([.ref a0, .int k1]).toArray below meth c H locs 0 0 QQ (F0 m 46 ls [.int v46_t1, .ref a0]) := by
      intro v46_t1 H locs ls h zb_v46_t1 hP hD hS hl
      rw [f_X12_close_J46] at h
      obtain ⟨o46, eo46⟩ : ∃ o, o = f_X12_good v46_t1 ((0 : Int32), m_t.2) := ⟨_, rfl⟩
      have h := nm_of h o46 eo46
      refine ck_i (wc := ([(a0, .inr (9, [.int 0, .int m_t.2.1, .int m_t.2.2, .ref a2, g6, g7, g8, g9, g10, g11, g12, g13, g14, g15, g16, g17, g18, g19, g20, g21, g22, g23, g24, g25, g26, g27, g28, g29, g30, g31]))])) (wr := (bX11 a2 uq kq q_q [])) hP hD hK hS hA [0] [1, 2, 3, 4, 5, 6, 7, 8, 9, 10, 11, 12, 13, 14, 15] rfl rfl (by decide) (by decide) (by decide) (fun hPc hDc => (va_runV (As := [.int v46_t1]) (rest := []) ⟨hx, hb, hml, hown, hts⟩ (kfX12_good l dC dI a0 v46_t1 ((0 : Int32), m_t.2) (.ref a2) (g6) (g7) (g8) (g9) (g10) (g11) (g12) (g13) (g14) (g15) (g16) (g17) (g18) (g19) (g20) (g21) (g22) (g23) (g24) (g25) (g26) (g27) (g28) (g29) (g30) (g31) H.size o46 eo46.symm) (cwV 1 hts gfX12_close_3 rfl rfl rfl (by decide +kernel) ⟨(Nat.le_of_ble_eq_true rfl), (Nat.le_of_ble_eq_true rfl)⟩) (PV hPc (hK.sub (tys' := ([])) [] rfl) hDc hN 0 rfl rfl) rfl rfl hl.1 rfl (lv_room (Nat.le_of_ble_eq_true rfl)) (zat zrX12_close_0_ok 21 rfl) ⟨(Nat.le_of_ble_eq_true rfl), (Nat.le_of_ble_eq_true rfl)⟩)) (fun r46 _ H locs hw hP hD _ hS => ?_)
      obtain rfl := hw
      obtain ⟨hP, hD⟩ := pd_mk (bX11 a2 uq kq q_q ([(a0, .inr (9, [.int o46.2.1, .int o46.2.2.1, .int o46.2.2.2, .ref a2, g6, g7, g8, g9, g10, g11, g12, g13, g14, g15, g16, g17, g18, g19, g20, g21, g22, g23, g24, g25, g26, g27, g28, g29, g30, g31]))])) hP hD
      refine lv_goto (tgt := 57) hx hb (zat zrX12_close_0_ok 22 rfl) (by decide) ?_
      obtain rfl := h
      obtain ⟨hP9, hD9⟩ := pd_sub ((a0, .inr (9, [.int o46.2.1, .int o46.2.2.1, .int o46.2.2.2, .ref a2, g6, g7, g8, g9, g10, g11, g12, g13, g14, g15, g16, g17, g18, g19, g20, g21, g22, g23, g24, g25, g26, g27, g28, g29, g30, g31])) :: bX11 a2 uq kq q_q []) [15, 0, 1, 2, 3, 4, 5, 6, 7, 8, 9, 10, 11, 12, 13, 14] hP hD (by decide) rfl
      have hK9 := hK.sub (tys' := []) [] rfl
      rw [hQQ]
      exact W.iret (v := o46.1) hx hb hr (fun t ht hW => ⟨⟨o46.1, (), rfl, rfl, by rw [ht]; exact hP9, va_K.moved hW.alike hK9, hD9⟩, hS.F ht⟩) hS.2.2 (zat zrX12_close_0_ok 26 rfl)
    refine lv_if_eq (tgt := 45) hx hb (zat zrX12_close_0_ok 17 rfl) (by decide) (fun c38 => ?_) (fun c38 => ?_)
    · have h := (if_pos c38).symm.trans h
      refine lv_iconst (v := 0) hx hb (zat zrX12_close_0_ok 20 rfl) (by decide) ?_
      exact J46 (0 : Int32) H _ ls h (by decide) hP hD hS (lv_sub hl [] rfl)
    · have h := (if_neg c38).symm.trans h
      refine lv_iconst (v := 1) hx hb (zat zrX12_close_0_ok 18 rfl) (by decide) ?_
      refine lv_goto (tgt := 46) hx hb (zat zrX12_close_0_ok 19 rfl) (by decide) ?_
      exact J46 (1 : Int32) H _ ls h (by decide) hP hD hS (lv_sub hl [] rfl)
noncomputable def zrX12_wish_0 : List ZR := zc 0 true (.aload_n 0) 1 (zc 1 true (.iconst 0) 1 (zc 2 true (.putfield 36) 3 (zc 5 true (.aload_n 0) 1 (zc 6 true (.aload_n 0) 1 (zc 7 true (.iload_n 1) 1 (zc 8 true (.invokevirtual 320) 3 (zc 11 true (.iload_n 2) 1 (zc 12 true (.iload_n 3) 1 (zc 13 true (.iload 4) 2 (zc 15 true (.invokevirtual 353) 3 (zc 18 true (.istore 5) 2 (zc 20 true (.iload 5) 2 (zc 22 true (.ifCond .le 12) 3 (zc 25 true (.aload_n 0) 1 (zc 26 true (.iload 5) 2 (zc 28 true (.invokevirtual 42) 3 (zc 31 true (.goto 19) 3 (zc 34 true (.aload_n 0) 1 (zc 35 true (.aload_n 0) 1 (zc 36 true (.getfield 299) 3 (zc 39 true (.iload_n 1) 1 (zc 40 true (.iload_n 2) 1 (zc 41 true (.iload_n 3) 1 (zc 42 true (.iload 4) 2 (zc 44 true (.invokevirtual 316) 3 (zc 47 true (.invokevirtual 46) 3 (zc 50 true (.ireturn) 1 ([]))))))))))))))))))))))))))))
theorem zrX12_wish_0_ok : zck 0 ((zby cX12_wish).drop 0) zrX12_wish_0 = true := by decide +kernel
def vfX12_wish : List Cond := List.cons (.code yX12_wish cX12_wish 6 (some .int)) (apW [.fieldLink RX12 36 "HookPierModel" "thrown" "I", .methodLink RX12 320 yX12_isAnswer, .instanceMethod yX12_isAnswer, .selects RX12 yX12_isAnswer yX12_isAnswer, .initialized RX12, .methodLink RX12 353 yX12_refusesQuestion, .instanceMethod yX12_refusesQuestion, .selects RX12 yX12_refusesQuestion yX12_refusesQuestion, .fieldLink RX12 299 "HookPierModel" "pier" "LHookPierModel$Pier;", .methodLink RX12 316 yX11_wish, .instanceMethod yX11_wish, .selects RX11 yX11_wish yX11_wish, .initialized RX11, .methodLink RX12 46 yX12_good, .instanceMethod yX12_good, .selects RX12 yX12_good yX12_good, .methodLink RX12 42 yX12_refused, .instanceMethod yX12_refused, .selects RX12 yX12_refused yX12_refused] (apW wsX120 (apW vfX12_isAnswer (apW vfX12_refusesQuestion (apW vfX11_wish (apW vfX12_good (vfX12_refused)))))))
theorem ifX12_wish_X12 : ∀ w ∈ wsX120, w ∈ vfX12_wish := fun _ h => (List.mem_cons_of_mem _ (List.mem_append_right _ (List.mem_append_left _ h)))
theorem qfX12_wish : Good vfX12_wish := gd_cons (by decide +kernel) (gd_app (gd_dec (by decide +kernel) : Good [.fieldLink RX12 36 "HookPierModel" "thrown" "I", .methodLink RX12 320 yX12_isAnswer, .instanceMethod yX12_isAnswer, .selects RX12 yX12_isAnswer yX12_isAnswer, .initialized RX12, .methodLink RX12 353 yX12_refusesQuestion, .instanceMethod yX12_refusesQuestion, .selects RX12 yX12_refusesQuestion yX12_refusesQuestion, .fieldLink RX12 299 "HookPierModel" "pier" "LHookPierModel$Pier;", .methodLink RX12 316 yX11_wish, .instanceMethod yX11_wish, .selects RX11 yX11_wish yX11_wish, .initialized RX11, .methodLink RX12 46 yX12_good, .instanceMethod yX12_good, .selects RX12 yX12_good yX12_good, .methodLink RX12 42 yX12_refused, .instanceMethod yX12_refused, .selects RX12 yX12_refused yX12_refused]) (gd_app qsX12 (gd_app qfX12_isAnswer (gd_app qfX12_refusesQuestion (gd_app qfX11_wish (gd_app qfX12_good qfX12_refused))))))
theorem gfX12_wish_0 : GoodIn vfX12_wish (wsV RX12 320 RX12 yX12_isAnswer vfX12_isAnswer) := goodIn_app (goodIn_r [.methodLink RX12 320 yX12_isAnswer, .instanceMethod yX12_isAnswer, .selects RX12 yX12_isAnswer yX12_isAnswer, .initialized RX12] [2, 3, 4, 5] rfl (by decide +kernel)) (goodIn_m (fun _ h => (List.mem_cons_of_mem _ (List.mem_append_right _ (List.mem_append_right _ (List.mem_append_left _ h))))) qfX12_isAnswer)
theorem gfX12_wish_1 : GoodIn vfX12_wish (wsV RX12 353 RX12 yX12_refusesQuestion vfX12_refusesQuestion) := goodIn_app (goodIn_r [.methodLink RX12 353 yX12_refusesQuestion, .instanceMethod yX12_refusesQuestion, .selects RX12 yX12_refusesQuestion yX12_refusesQuestion, .initialized RX12] [6, 7, 8, 5] rfl (by decide +kernel)) (goodIn_m (fun _ h => (List.mem_cons_of_mem _ (List.mem_append_right _ (List.mem_append_right _ (List.mem_append_right _ (List.mem_append_left _ h)))))) qfX12_refusesQuestion)
theorem gfX12_wish_2 : GoodIn vfX12_wish (wsV RX12 316 RX11 yX11_wish vfX11_wish) := goodIn_app (goodIn_r [.methodLink RX12 316 yX11_wish, .instanceMethod yX11_wish, .selects RX11 yX11_wish yX11_wish, .initialized RX11] [10, 11, 12, 13] rfl (by decide +kernel)) (goodIn_m (fun _ h => (List.mem_cons_of_mem _ (List.mem_append_right _ (List.mem_append_right _ (List.mem_append_right _ (List.mem_append_right _ (List.mem_append_left _ h))))))) qfX11_wish)
theorem gfX12_wish_3 : GoodIn vfX12_wish (wsV RX12 46 RX12 yX12_good vfX12_good) := goodIn_app (goodIn_r [.methodLink RX12 46 yX12_good, .instanceMethod yX12_good, .selects RX12 yX12_good yX12_good, .initialized RX12] [14, 15, 16, 5] rfl (by decide +kernel)) (goodIn_m (fun _ h => (List.mem_cons_of_mem _ (List.mem_append_right _ (List.mem_append_right _ (List.mem_append_right _ (List.mem_append_right _ (List.mem_append_right _ (List.mem_append_left _ h)))))))) qfX12_good)
theorem gfX12_wish_4 : GoodIn vfX12_wish (wsV RX12 42 RX12 yX12_refused vfX12_refused) := goodIn_app (goodIn_r [.methodLink RX12 42 yX12_refused, .instanceMethod yX12_refused, .selects RX12 yX12_refused yX12_refused, .initialized RX12] [17, 18, 19, 5] rfl (by decide +kernel)) (goodIn_m (fun _ h => (List.mem_cons_of_mem _ (List.mem_append_right _ (List.mem_append_right _ (List.mem_append_right _ (List.mem_append_right _ (List.mem_append_right _ (List.mem_append_right _ h)))))))) qfX12_refused)
set_option maxHeartbeats 2000000 in
set_option maxRecDepth 100000 in
theorem kfX12_wish (l : Launch) (dC : Nat → ClassId) (dI : Nat → Nat → Nat) (a0 : Nat) (k1 : Int32) (k2 : Int32) (k3 : Int32) (k4 : Int32) (a5 : Nat) (uq : Nat → Nat) (kq : Nat → ClassId) (m_t : TX12_t) (g9 : Value) (g10 : Value) (g11 : Value) (g12 : Value) (g13 : Value) (g14 : Value) (g15 : Value) (g16 : Value) (g17 : Value) (g18 : Value) (g19 : Value) (g20 : Value) (g21 : Value) (g22 : Value) (g23 : Value) (g24 : Value) (g25 : Value) (g26 : Value) (g27 : Value) (g28 : Value) (g29 : Value) (g30 : Value) (g31 : Value) (g32 : Value) (g33 : Value) (g34 : Value) (q_q : TX11_q) (sz : Nat) (out : (Int32 × TX12_t)) (h : f_X12_wish k1 k2 k3 k4 m_t q_q = some out) : KCi l yX12_wish vfX12_wish ({ frames := 3, cells := 0, slots := 0, locals := 71 }) (dC, dI) [.ref a0, .int k1, .int k2, .int k3, .int k4] sz ((a0, .inr (9, [.int m_t.1, .int m_t.2.1, .int m_t.2.2, .ref a5, g9, g10, g11, g12, g13, g14, g15, g16, g17, g18, g19, g20, g21, g22, g23, g24, g25, g26, g27, g28, g29, g30, g31, g32, g33, g34])) :: bX11 a5 uq kq q_q []) (tX11 kq ([])) (fun (r : Int32) _ => r = out.1) ((a0, .inr (9, [.int out.2.1, .int out.2.2.1, .int out.2.2.2, .ref a5, g9, g10, g11, g12, g13, g14, g15, g16, g17, g18, g19, g20, g21, g22, g23, g24, g25, g26, g27, g28, g29, g30, g31, g32, g33, g34])) :: bX11 a5 uq kq q_q []) 0 0 := by
  refine Met.ofW (cc := cX12_wish) (maxL := 6) (ret := (some .int)) (by decide) rfl ?_
  intro p e s m args below meth c s₁ B0 hml hv
  obtain ⟨rfl, hsz, hP, hK, hD0, hN⟩ := hv
  have hx := B0.exec
  have hb := B0.bytes
  have hr := B0.returns
  have hts := atoms_spec (ws := vfX12_wish) B0.pre
  have hown : s.vm.findClass RX12 = some m.cls := findClass_of_methodNamed B0.named
  have hlocks := B0.notSynchronized
  subst hsz
  have hD := hD0.self (sz := s.heap.size)
  generalize hAe : va_A ((a0, .inr (9, [.int m_t.1, .int m_t.2.1, .int m_t.2.2, .ref a5, g9, g10, g11, g12, g13, g14, g15, g16, g17, g18, g19, g20, g21, g22, g23, g24, g25, g26, g27, g28, g29, g30, g31, g32, g33, g34])) :: bX11 a5 uq kq q_q []) s.heap.size = A at hD ⊢
  have hA : ∀ q : Nat, s.heap.size ≤ q → A q := fun q h => by rw [← hAe]; exact Or.inr h
  have hS : va_S A s.heap s.heap [] := va_S.rf
  have hP : va_P (dC, dI) vwCl ((a0, .inr (9, [.int m_t.1, .int m_t.2.1, .int m_t.2.2, .ref a5, g9, g10, g11, g12, g13, g14, g15, g16, g17, g18, g19, g20, g21, g22, g23, g24, g25, g26, g27, g28, g29, g30, g31, g32, g33, g34])) :: bX11 a5 uq kq q_q []) s.heap := hP
  have hl := lv_entry ([.ref a0, .int k1, .int k2, .int k3, .int k4]) (n := 6) (Nat.le_of_ble_eq_true rfl)
  rw [lg_entry_eq]
  generalize (lg_sl ([.ref a0, .int k1, .int k2, .int k3, .int k4]) ++ List.replicate (6 - (lg_sl ([.ref a0, .int k1, .int k2, .int k3, .int k4])).length) Slot.unset).toArray = ls at hl ⊢
  have hl : lv_has ls 6 [(0, .ref a0), (1, .int k1), (2, .int k2), (3, .int k3), (4, .int k4)] := hl
  refine W_q (fun QQ hQQ => ?_)
  rw [f_X12_wish] at h
  refine lv_aload_n hx hb (zat zrX12_wish_0_ok 0 rfl) rfl (lv_at hl 0 rfl) ?_
  refine lv_iconst (v := 0) hx hb (zat zrX12_wish_0_ok 1 rfl) (by decide) ?_
  refine va_put (D := (dC, dI)) (ci := 9) (v := .int 0) (ty := .int) (C := RX12) (T := TX12) (N := 30) hx hb hts ifX12_wish_X12 tyX12 tyX12_ok nmX12 hown hK hP hD hS 0 rfl rfl 0 (by decide) (hts (.fieldLink RX12 36 "HookPierModel" "thrown" "I") (List.mem_of_getElem? (i := 1) rfl)) (fun _ h9 => h9) rfl (by decide +kernel) rfl rfl (Nat.le_of_ble_eq_true rfl) (zat zrX12_wish_0_ok 2 rfl) (fun H locs hP hD hS => ?_)
  obtain ⟨hP, hD⟩ := pd_mk ((a0, .inr (9, [.int 0, .int m_t.2.1, .int m_t.2.2, .ref a5, g9, g10, g11, g12, g13, g14, g15, g16, g17, g18, g19, g20, g21, g22, g23, g24, g25, g26, g27, g28, g29, g30, g31, g32, g33, g34])) :: bX11 a5 uq kq q_q []) hP hD
  refine lv_aload_n hx hb (zat zrX12_wish_0_ok 3 rfl) rfl (lv_at hl 0 rfl) ?_
  refine lv_aload_n hx hb (zat zrX12_wish_0_ok 4 rfl) rfl (lv_at hl 0 rfl) ?_
  refine lv_iload_n hx hb (zat zrX12_wish_0_ok 5 rfl) rfl (lv_at hl 1 rfl) ?_
  obtain ⟨o8, eo8⟩ : ∃ o, o = f_X12_isAnswer k1 q_q := ⟨_, rfl⟩
  have h := nm_of h o8 eo8
  refine ck_i (wc := ((a0, .inr (9, [.int 0, .int m_t.2.1, .int m_t.2.2, .ref a5, g9, g10, g11, g12, g13, g14, g15, g16, g17, g18, g19, g20, g21, g22, g23, g24, g25, g26, g27, g28, g29, g30, g31, g32, g33, g34])) :: bX11 a5 uq kq q_q [])) (wr := []) hP hD hK hS hA [0, 1, 2, 3, 4, 5, 6, 7, 8, 9, 10, 11, 12, 13, 14, 15] [] rfl rfl (by decide) (by decide) (by decide) (fun hPc hDc => (va_runV (As := [.int k1]) (rest := [.ref a0]) ⟨hx, hb, hml, hown, hts⟩ (kfX12_isAnswer l dC dI a0 k1 a5 uq kq (.int 0) (.int m_t.2.1) (.int m_t.2.2) (g9) (g10) (g11) (g12) (g13) (g14) (g15) (g16) (g17) (g18) (g19) (g20) (g21) (g22) (g23) (g24) (g25) (g26) (g27) (g28) (g29) (g30) (g31) (g32) (g33) (g34) q_q H.size o8 eo8.symm) (cwV 1 hts gfX12_wish_0 rfl rfl rfl (by decide +kernel) ⟨(Nat.le_of_ble_eq_true rfl), (Nat.le_of_ble_eq_true rfl)⟩) (PV hPc (hK.sub (tys' := (tX11 kq ([]))) [0, 1, 2, 3, 4, 5, 6, 7, 8, 9, 10, 11, 12, 13] rfl) hDc hN 0 rfl rfl) rfl rfl hl.1 rfl (lv_room (Nat.le_of_ble_eq_true rfl)) (zat zrX12_wish_0_ok 6 rfl) ⟨(Nat.le_of_ble_eq_true rfl), (Nat.le_of_ble_eq_true rfl)⟩)) (fun r8 _ H locs hw hP hD _ hS => ?_)
  obtain ⟨hw, br8⟩ := hw
  obtain rfl := hw.symm
  obtain ⟨hP, hD⟩ := pd_mk ((a0, .inr (9, [.int 0, .int m_t.2.1, .int m_t.2.2, .ref a5, g9, g10, g11, g12, g13, g14, g15, g16, g17, g18, g19, g20, g21, g22, g23, g24, g25, g26, g27, g28, g29, g30, g31, g32, g33, g34])) :: bX11 a5 uq kq q_q []) hP hD
  refine lv_iload_n hx hb (zat zrX12_wish_0_ok 7 rfl) rfl (lv_at hl 2 rfl) ?_
  refine lv_iload_n hx hb (zat zrX12_wish_0_ok 8 rfl) rfl (lv_at hl 3 rfl) ?_
  refine lv_iload hx hb (zat zrX12_wish_0_ok 9 rfl) (lv_at hl 4 rfl) ?_
  obtain ⟨o15, eo15⟩ : ∃ o, o = f_X12_refusesQuestion o8 k2 k3 k4 q_q := ⟨_, rfl⟩
  have h := nm_of h o15 eo15
  refine ck_i (wc := ((a0, .inr (9, [.int 0, .int m_t.2.1, .int m_t.2.2, .ref a5, g9, g10, g11, g12, g13, g14, g15, g16, g17, g18, g19, g20, g21, g22, g23, g24, g25, g26, g27, g28, g29, g30, g31, g32, g33, g34])) :: bX11 a5 uq kq q_q [])) (wr := []) hP hD hK hS hA [0, 1, 2, 3, 4, 5, 6, 7, 8, 9, 10, 11, 12, 13, 14, 15] [] rfl rfl (by decide) (by decide) (by decide) (fun hPc hDc => (va_runV (As := [.int o8, .int k2, .int k3, .int k4]) (rest := []) ⟨hx, hb, hml, hown, hts⟩ (kfX12_refusesQuestion l dC dI a0 o8 k2 k3 k4 a5 uq kq (.int 0) (.int m_t.2.1) (.int m_t.2.2) (g9) (g10) (g11) (g12) (g13) (g14) (g15) (g16) (g17) (g18) (g19) (g20) (g21) (g22) (g23) (g24) (g25) (g26) (g27) (g28) (g29) (g30) (g31) (g32) (g33) (g34) q_q H.size o15 eo15.symm) (cwV 4 hts gfX12_wish_1 rfl rfl rfl (by decide +kernel) ⟨(Nat.le_of_ble_eq_true rfl), (Nat.le_of_ble_eq_true rfl)⟩) (PV hPc (hK.sub (tys' := (tX11 kq ([]))) [0, 1, 2, 3, 4, 5, 6, 7, 8, 9, 10, 11, 12, 13] rfl) hDc hN 0 rfl rfl) rfl rfl hl.1 rfl (lv_room (Nat.le_of_ble_eq_true rfl)) (zat zrX12_wish_0_ok 10 rfl) ⟨(Nat.le_of_ble_eq_true rfl), (Nat.le_of_ble_eq_true rfl)⟩)) (fun r15 _ H locs hw hP hD _ hS => ?_)
  obtain rfl := hw.symm
  obtain ⟨hP, hD⟩ := pd_mk ((a0, .inr (9, [.int 0, .int m_t.2.1, .int m_t.2.2, .ref a5, g9, g10, g11, g12, g13, g14, g15, g16, g17, g18, g19, g20, g21, g22, g23, g24, g25, g26, g27, g28, g29, g30, g31, g32, g33, g34])) :: bX11 a5 uq kq q_q []) hP hD
  refine lv_istore (lv' := [(5, .int o15), (0, .ref a0), (1, .int k1), (2, .int k2), (3, .int k3), (4, .int k4)]) hx hb (zat zrX12_wish_0_ok 11 rfl) hl (by decide) rfl (fun ls hl => ?_)
  refine lv_iload hx hb (zat zrX12_wish_0_ok 12 rfl) (lv_at hl 0 rfl) ?_
  refine lv_if_le (tgt := 34) hx hb (zat zrX12_wish_0_ok 13 rfl) (by decide) (fun c22 => ?_) (fun c22 => ?_)
  · have h := (if_pos c22).symm.trans h
    refine lv_aload_n hx hb (zat zrX12_wish_0_ok 18 rfl) rfl (lv_at hl 1 rfl) ?_
    refine lv_aload_n hx hb (zat zrX12_wish_0_ok 19 rfl) rfl (lv_at hl 1 rfl) ?_
    refine va_get (D := (dC, dI)) (ci := 9) (v := .ref a5) (C := RX12) (T := TX12) (N := 30) hx hb hts ifX12_wish_X12 hown hK hP 0 rfl rfl 3 (by decide) (hts (.fieldLink RX12 299 "HookPierModel" "pier" "LHookPierModel$Pier;") (List.mem_of_getElem? (i := 9) rfl)) (fun _ h9 => h9) rfl (zat zrX12_wish_0_ok 20 rfl) ?_
    refine lv_iload_n hx hb (zat zrX12_wish_0_ok 21 rfl) rfl (lv_at hl 2 rfl) ?_
    refine lv_iload_n hx hb (zat zrX12_wish_0_ok 22 rfl) rfl (lv_at hl 3 rfl) ?_
    refine lv_iload_n hx hb (zat zrX12_wish_0_ok 23 rfl) rfl (lv_at hl 4 rfl) ?_
    refine lv_iload hx hb (zat zrX12_wish_0_ok 24 rfl) (lv_at hl 5 rfl) ?_
    obtain ⟨o44, eo44, h⟩ := bd_of h
    refine ck_i (wc := (bX11 a5 uq kq q_q [])) (wr := ([(a0, .inr (9, [.int 0, .int m_t.2.1, .int m_t.2.2, .ref a5, g9, g10, g11, g12, g13, g14, g15, g16, g17, g18, g19, g20, g21, g22, g23, g24, g25, g26, g27, g28, g29, g30, g31, g32, g33, g34]))])) hP hD hK hS hA [1, 2, 3, 4, 5, 6, 7, 8, 9, 10, 11, 12, 13, 14, 15] [0] rfl rfl (by decide) (by decide) (by decide) (fun hPc hDc => (va_runV (As := [.int k1, .int k2, .int k3, .int k4]) (rest := [.ref a0]) ⟨hx, hb, hml, hown, hts⟩ (kfX11_wish l dC dI a5 k1 k2 k3 k4 uq kq q_q H.size o44 eo44) (cwV 4 hts gfX12_wish_2 rfl rfl rfl (by decide +kernel) ⟨(Nat.le_of_ble_eq_true rfl), (Nat.le_of_ble_eq_true rfl)⟩) (PV hPc (hK.sub (tys' := (tX11 kq ([]))) [0, 1, 2, 3, 4, 5, 6, 7, 8, 9, 10, 11, 12, 13] rfl) hDc hN 0 rfl rfl) rfl rfl hl.1 rfl (lv_room (Nat.le_of_ble_eq_true rfl)) (zat zrX12_wish_0_ok 25 rfl) ⟨(Nat.le_of_ble_eq_true rfl), (Nat.le_of_ble_eq_true rfl)⟩)) (fun r44 _ H locs hw hP hD _ hS => ?_)
    obtain rfl := hw.symm
    obtain ⟨hP, hD⟩ := pd_mk ((a0, .inr (9, [.int 0, .int m_t.2.1, .int m_t.2.2, .ref a5, g9, g10, g11, g12, g13, g14, g15, g16, g17, g18, g19, g20, g21, g22, g23, g24, g25, g26, g27, g28, g29, g30, g31, g32, g33, g34])) :: bX11 a5 uq kq q_q []) hP hD
    obtain ⟨o47, eo47⟩ : ∃ o, o = f_X12_good o44 ((0 : Int32), m_t.2) := ⟨_, rfl⟩
    have h := nm_of h o47 eo47
    refine ck_i (wc := ([(a0, .inr (9, [.int 0, .int m_t.2.1, .int m_t.2.2, .ref a5, g9, g10, g11, g12, g13, g14, g15, g16, g17, g18, g19, g20, g21, g22, g23, g24, g25, g26, g27, g28, g29, g30, g31, g32, g33, g34]))])) (wr := (bX11 a5 uq kq q_q [])) hP hD hK hS hA [0] [1, 2, 3, 4, 5, 6, 7, 8, 9, 10, 11, 12, 13, 14, 15] rfl rfl (by decide) (by decide) (by decide) (fun hPc hDc => (va_runV (As := [.int o44]) (rest := []) ⟨hx, hb, hml, hown, hts⟩ (kfX12_good l dC dI a0 o44 ((0 : Int32), m_t.2) (.ref a5) (g9) (g10) (g11) (g12) (g13) (g14) (g15) (g16) (g17) (g18) (g19) (g20) (g21) (g22) (g23) (g24) (g25) (g26) (g27) (g28) (g29) (g30) (g31) (g32) (g33) (g34) H.size o47 eo47.symm) (cwV 1 hts gfX12_wish_3 rfl rfl rfl (by decide +kernel) ⟨(Nat.le_of_ble_eq_true rfl), (Nat.le_of_ble_eq_true rfl)⟩) (PV hPc (hK.sub (tys' := ([])) [] rfl) hDc hN 0 rfl rfl) rfl rfl hl.1 rfl (lv_room (Nat.le_of_ble_eq_true rfl)) (zat zrX12_wish_0_ok 26 rfl) ⟨(Nat.le_of_ble_eq_true rfl), (Nat.le_of_ble_eq_true rfl)⟩)) (fun r47 _ H locs hw hP hD _ hS => ?_)
    obtain rfl := hw
    obtain ⟨hP, hD⟩ := pd_mk (bX11 a5 uq kq q_q ([(a0, .inr (9, [.int o47.2.1, .int o47.2.2.1, .int o47.2.2.2, .ref a5, g9, g10, g11, g12, g13, g14, g15, g16, g17, g18, g19, g20, g21, g22, g23, g24, g25, g26, g27, g28, g29, g30, g31, g32, g33, g34]))])) hP hD
    obtain rfl := Option.some.inj h
    obtain ⟨hP9, hD9⟩ := pd_sub ((a0, .inr (9, [.int o47.2.1, .int o47.2.2.1, .int o47.2.2.2, .ref a5, g9, g10, g11, g12, g13, g14, g15, g16, g17, g18, g19, g20, g21, g22, g23, g24, g25, g26, g27, g28, g29, g30, g31, g32, g33, g34])) :: bX11 a5 uq kq q_q []) [15, 0, 1, 2, 3, 4, 5, 6, 7, 8, 9, 10, 11, 12, 13, 14] hP hD (by decide) rfl
    have hK9 := hK.sub (tys' := []) [] rfl
    rw [hQQ]
    exact W.iret (v := o47.1) hx hb hr (fun t ht hW => ⟨⟨o47.1, (), rfl, rfl, by rw [ht]; exact hP9, va_K.moved hW.alike hK9, hD9⟩, hS.F ht⟩) hS.2.2 (zat zrX12_wish_0_ok 27 rfl)
  · have h := (if_neg c22).symm.trans h
    refine lv_aload_n hx hb (zat zrX12_wish_0_ok 14 rfl) rfl (lv_at hl 1 rfl) ?_
    refine lv_iload hx hb (zat zrX12_wish_0_ok 15 rfl) (lv_at hl 0 rfl) ?_
    obtain ⟨o28, eo28⟩ : ∃ o, o = f_X12_refused o15 ((0 : Int32), m_t.2) := ⟨_, rfl⟩
    have h := nm_of h o28 eo28
    refine ck_i (wc := ([(a0, .inr (9, [.int 0, .int m_t.2.1, .int m_t.2.2, .ref a5, g9, g10, g11, g12, g13, g14, g15, g16, g17, g18, g19, g20, g21, g22, g23, g24, g25, g26, g27, g28, g29, g30, g31, g32, g33, g34]))])) (wr := (bX11 a5 uq kq q_q [])) hP hD hK hS hA [0] [1, 2, 3, 4, 5, 6, 7, 8, 9, 10, 11, 12, 13, 14, 15] rfl rfl (by decide) (by decide) (by decide) (fun hPc hDc => (va_runV (As := [.int o15]) (rest := []) ⟨hx, hb, hml, hown, hts⟩ (kfX12_refused l dC dI a0 o15 ((0 : Int32), m_t.2) (.ref a5) (g9) (g10) (g11) (g12) (g13) (g14) (g15) (g16) (g17) (g18) (g19) (g20) (g21) (g22) (g23) (g24) (g25) (g26) (g27) (g28) (g29) (g30) (g31) (g32) (g33) (g34) H.size o28 eo28.symm) (cwV 1 hts gfX12_wish_4 rfl rfl rfl (by decide +kernel) ⟨(Nat.le_of_ble_eq_true rfl), (Nat.le_of_ble_eq_true rfl)⟩) (PV hPc (hK.sub (tys' := ([])) [] rfl) hDc hN 0 rfl rfl) rfl rfl hl.1 rfl (lv_room (Nat.le_of_ble_eq_true rfl)) (zat zrX12_wish_0_ok 16 rfl) ⟨(Nat.le_of_ble_eq_true rfl), (Nat.le_of_ble_eq_true rfl)⟩)) (fun r28 _ H locs hw hP hD _ hS => ?_)
    obtain rfl := hw
    obtain ⟨hP, hD⟩ := pd_mk (bX11 a5 uq kq q_q ([(a0, .inr (9, [.int o28.1, .int o28.2.1, .int o28.2.2, .ref a5, g9, g10, g11, g12, g13, g14, g15, g16, g17, g18, g19, g20, g21, g22, g23, g24, g25, g26, g27, g28, g29, g30, g31, g32, g33, g34]))])) hP hD
    refine lv_goto (tgt := 50) hx hb (zat zrX12_wish_0_ok 17 rfl) (by decide) ?_
    obtain rfl := Option.some.inj h
    obtain ⟨hP9, hD9⟩ := pd_sub ((a0, .inr (9, [.int o28.1, .int o28.2.1, .int o28.2.2, .ref a5, g9, g10, g11, g12, g13, g14, g15, g16, g17, g18, g19, g20, g21, g22, g23, g24, g25, g26, g27, g28, g29, g30, g31, g32, g33, g34])) :: bX11 a5 uq kq q_q []) [15, 0, 1, 2, 3, 4, 5, 6, 7, 8, 9, 10, 11, 12, 13, 14] hP hD (by decide) rfl
    have hK9 := hK.sub (tys' := []) [] rfl
    rw [hQQ]
    exact W.iret (v := (-1 : Int32)) hx hb hr (fun t ht hW => ⟨⟨(-1 : Int32), (), rfl, rfl, by rw [ht]; exact hP9, va_K.moved hW.alike hK9, hD9⟩, hS.F ht⟩) hS.2.2 (zat zrX12_wish_0_ok 27 rfl)
