noncomputable def zrX10_askLeaves_0 : List ZR := zc 0 true (.aload_n 0) 1 (zc 1 true (.aload_n 0) 1 (zc 2 true (.invokevirtual 264) 3 (zc 5 true (.invokevirtual 79) 3 (zc 8 true (.ifCond .eq 5) 3 (zc 11 true (.iconst (-1)) 1 (zc 12 true (.ireturn) 1 (zc 13 true (.aload_n 0) 1 (zc 14 true (.getfield 50) 3 (zc 17 true (.aload_n 0) 1 (zc 18 true (.getfield 10) 3 (zc 21 true (.invokevirtual 267) 3 (zc 24 true (.aload_n 0) 1 (zc 25 true (.getfield 50) 3 (zc 28 true (.aload_n 0) 1 (zc 29 true (.getfield 10) 3 (zc 32 true (.invokevirtual 276) 3 (zc 35 true (.istore_n 1) 1 (zc 36 true (.iload_n 1) 1 (zc 37 true (.bipush (-2)) 2 (zc 39 true (.if_icmp .ne 8) 3 (zc 42 true (.bipush (-2)) 2 (zc 44 true (.goto 15) 3 (zc 47 true (.aload_n 0) 1 (zc 48 true (.getfield 50) 3 (zc 51 true (.aload_n 0) 1 (zc 52 true (.getfield 10) 3 (zc 55 true (.iload_n 1) 1 (zc 56 true (.invokevirtual 280) 3 (zc 59 true (.ireturn) 1 ([]))))))))))))))))))))))))))))))
theorem zrX10_askLeaves_0_ok : zck 0 ((zby cX10_askLeaves).drop 0) zrX10_askLeaves_0 = true := by decide +kernel
def vfX10_askLeaves : List Cond := List.cons (.code yX10_askLeaves cX10_askLeaves 2 (some .int)) (apW [.methodLink RX10 264 yX10_darkTrouble, .instanceMethod yX10_darkTrouble, .selects RX10 yX10_darkTrouble yX10_darkTrouble, .initialized RX10, .methodLink RX10 79 yX10_refused, .instanceMethod yX10_refused, .selects RX10 yX10_refused yX10_refused, .fieldLink RX10 50 "HookPier" "dark" "LHookPier$Dark;", .fieldLink RX10 10 "HookPier" "plan" "LHookPier$Plan;", .methodLink RX10 267 yX0_find, .instanceMethod yX0_find, .selects RX0 yX0_find yX0_find, .initialized RX0, .methodLink RX10 276 yX0_tellingQuestion, .instanceMethod yX0_tellingQuestion, .selects RX0 yX0_tellingQuestion yX0_tellingQuestion, .methodLink RX10 280 yX0_leftAtMost, .instanceMethod yX0_leftAtMost, .selects RX0 yX0_leftAtMost yX0_leftAtMost] (apW wsX100 (apW vfX10_darkTrouble (apW vfX10_refused (apW vfX0_find (apW vfX0_tellingQuestion (vfX0_leftAtMost)))))))
theorem ifX10_askLeaves_X10 : ∀ w ∈ wsX100, w ∈ vfX10_askLeaves := fun _ h => (List.mem_cons_of_mem _ (List.mem_append_right _ (List.mem_append_left _ h)))
theorem qfX10_askLeaves : Good vfX10_askLeaves := gd_cons (by decide +kernel) (gd_app (gd_dec (by decide +kernel) : Good [.methodLink RX10 264 yX10_darkTrouble, .instanceMethod yX10_darkTrouble, .selects RX10 yX10_darkTrouble yX10_darkTrouble, .initialized RX10, .methodLink RX10 79 yX10_refused, .instanceMethod yX10_refused, .selects RX10 yX10_refused yX10_refused, .fieldLink RX10 50 "HookPier" "dark" "LHookPier$Dark;", .fieldLink RX10 10 "HookPier" "plan" "LHookPier$Plan;", .methodLink RX10 267 yX0_find, .instanceMethod yX0_find, .selects RX0 yX0_find yX0_find, .initialized RX0, .methodLink RX10 276 yX0_tellingQuestion, .instanceMethod yX0_tellingQuestion, .selects RX0 yX0_tellingQuestion yX0_tellingQuestion, .methodLink RX10 280 yX0_leftAtMost, .instanceMethod yX0_leftAtMost, .selects RX0 yX0_leftAtMost yX0_leftAtMost]) (gd_app qsX10 (gd_app qfX10_darkTrouble (gd_app qfX10_refused (gd_app qfX0_find (gd_app qfX0_tellingQuestion qfX0_leftAtMost))))))
theorem gfX10_askLeaves_0 : GoodIn vfX10_askLeaves (wsV RX10 264 RX10 yX10_darkTrouble vfX10_darkTrouble) := goodIn_app (goodIn_r [.methodLink RX10 264 yX10_darkTrouble, .instanceMethod yX10_darkTrouble, .selects RX10 yX10_darkTrouble yX10_darkTrouble, .initialized RX10] [1, 2, 3, 4] rfl (by decide +kernel)) (goodIn_m (fun _ h => (List.mem_cons_of_mem _ (List.mem_append_right _ (List.mem_append_right _ (List.mem_append_left _ h))))) qfX10_darkTrouble)
theorem gfX10_askLeaves_1 : GoodIn vfX10_askLeaves (wsV RX10 79 RX10 yX10_refused vfX10_refused) := goodIn_app (goodIn_r [.methodLink RX10 79 yX10_refused, .instanceMethod yX10_refused, .selects RX10 yX10_refused yX10_refused, .initialized RX10] [5, 6, 7, 4] rfl (by decide +kernel)) (goodIn_m (fun _ h => (List.mem_cons_of_mem _ (List.mem_append_right _ (List.mem_append_right _ (List.mem_append_right _ (List.mem_append_left _ h)))))) qfX10_refused)
theorem gfX10_askLeaves_2 : GoodIn vfX10_askLeaves (wsV RX10 267 RX0 yX0_find vfX0_find) := goodIn_app (goodIn_r [.methodLink RX10 267 yX0_find, .instanceMethod yX0_find, .selects RX0 yX0_find yX0_find, .initialized RX0] [10, 11, 12, 13] rfl (by decide +kernel)) (goodIn_m (fun _ h => (List.mem_cons_of_mem _ (List.mem_append_right _ (List.mem_append_right _ (List.mem_append_right _ (List.mem_append_right _ (List.mem_append_left _ h))))))) qfX0_find)
theorem gfX10_askLeaves_3 : GoodIn vfX10_askLeaves (wsV RX10 276 RX0 yX0_tellingQuestion vfX0_tellingQuestion) := goodIn_app (goodIn_r [.methodLink RX10 276 yX0_tellingQuestion, .instanceMethod yX0_tellingQuestion, .selects RX0 yX0_tellingQuestion yX0_tellingQuestion, .initialized RX0] [14, 15, 16, 13] rfl (by decide +kernel)) (goodIn_m (fun _ h => (List.mem_cons_of_mem _ (List.mem_append_right _ (List.mem_append_right _ (List.mem_append_right _ (List.mem_append_right _ (List.mem_append_right _ (List.mem_append_left _ h)))))))) qfX0_tellingQuestion)
theorem gfX10_askLeaves_4 : GoodIn vfX10_askLeaves (wsV RX10 280 RX0 yX0_leftAtMost vfX0_leftAtMost) := goodIn_app (goodIn_r [.methodLink RX10 280 yX0_leftAtMost, .instanceMethod yX0_leftAtMost, .selects RX0 yX0_leftAtMost yX0_leftAtMost, .initialized RX0] [17, 18, 19, 13] rfl (by decide +kernel)) (goodIn_m (fun _ h => (List.mem_cons_of_mem _ (List.mem_append_right _ (List.mem_append_right _ (List.mem_append_right _ (List.mem_append_right _ (List.mem_append_right _ (List.mem_append_right _ h)))))))) qfX0_leftAtMost)
set_option maxHeartbeats 2000000 in
set_option maxRecDepth 100000 in
theorem kfX10_askLeaves (l : Launch) (dC : Nat → ClassId) (dI : Nat → Nat → Nat) (a0 : Nat) (a1 : Nat) (a2 : Nat) (up : Nat → Nat) (kp : Nat → ClassId) (ud : Nat → Nat) (kd : Nat → ClassId) (x_x : TX10_x) (g8 : Value) (g9 : Value) (g10 : Value) (g11 : Value) (g12 : Value) (g13 : Value) (p_p : TX6_p) (d_d : TX0_d) (sz : Nat) (out : (Int32 × TX10_x × TX0_d)) (h : f_X10_askLeaves x_x p_p d_d = some out) : KCi l yX10_askLeaves vfX10_askLeaves ({ frames := 4, cells := 0, slots := 0, locals := 93 }) (dC, dI) [.ref a0] sz ((a0, .inr (7, [.ref a1, g8, g9, g10, g11, g12, .ref a2, g13, .int x_x.1, .int x_x.2])) :: bX6 a1 up kp p_p (bX0 a2 ud kd d_d [])) (tX6 kp (tX0 kd ([]))) (fun (r : Int32) _ => r = out.1) ((a0, .inr (7, [.ref a1, g8, g9, g10, g11, g12, .ref a2, g13, .int out.2.1.1, .int out.2.1.2])) :: bX6 a1 up kp p_p (bX0 a2 ud kd out.2.2 [])) 0 0 := by
  refine Met.ofW (cc := cX10_askLeaves) (maxL := 2) (ret := (some .int)) (by decide) rfl ?_
  intro p e s m args below meth c s₁ B0 hml hv
  obtain ⟨rfl, hsz, hP, hK, hD0, hN⟩ := hv
  have hx := B0.exec
  have hb := B0.bytes
  have hr := B0.returns
  have hts := atoms_spec (ws := vfX10_askLeaves) B0.pre
  have hown : s.vm.findClass RX10 = some m.cls := findClass_of_methodNamed B0.named
  have hlocks := B0.notSynchronized
  subst hsz
  have hD := hD0.self (sz := s.heap.size)
  generalize hAe : va_A ((a0, .inr (7, [.ref a1, g8, g9, g10, g11, g12, .ref a2, g13, .int x_x.1, .int x_x.2])) :: bX6 a1 up kp p_p (bX0 a2 ud kd d_d [])) s.heap.size = A at hD ⊢
  have hA : ∀ q : Nat, s.heap.size ≤ q → A q := fun q h => by rw [← hAe]; exact Or.inr h
  have hS : va_S A s.heap s.heap [] := va_S.rf
  have hP : va_P (dC, dI) vwCl ((a0, .inr (7, [.ref a1, g8, g9, g10, g11, g12, .ref a2, g13, .int x_x.1, .int x_x.2])) :: bX6 a1 up kp p_p (bX0 a2 ud kd d_d [])) s.heap := hP
  have hl := lv_entry ([.ref a0]) (n := 2) (Nat.le_of_ble_eq_true rfl)
  rw [lg_entry_eq]
  generalize (lg_sl ([.ref a0]) ++ List.replicate (2 - (lg_sl ([.ref a0])).length) Slot.unset).toArray = ls at hl ⊢
  have hl : lv_has ls 2 [(0, .ref a0)] := hl
  refine W_q (fun QQ hQQ => ?_)
  rw [f_X10_askLeaves] at h
  refine lv_aload_n hx hb (zat zrX10_askLeaves_0_ok 0 rfl) rfl (lv_at hl 0 rfl) ?_
  refine lv_aload_n hx hb (zat zrX10_askLeaves_0_ok 1 rfl) rfl (lv_at hl 0 rfl) ?_
  obtain ⟨o2, eo2⟩ : ∃ o, o = f_X10_darkTrouble p_p := ⟨_, rfl⟩
  have h := nm_of h o2 eo2
  refine ck_i (wc := ((a0, .inr (7, [.ref a1, g8, g9, g10, g11, g12, .ref a2, g13, .int x_x.1, .int x_x.2])) :: bX6 a1 up kp p_p [])) (wr := (bX0 a2 ud kd d_d [])) hP hD hK hS hA [0, 1, 2, 3, 4, 5, 6, 7, 8, 9, 10] [11, 12] rfl rfl (by decide) (by decide) (by decide) (fun hPc hDc => (va_runV (As := []) (rest := [.ref a0]) ⟨hx, hb, hml, hown, hts⟩ (kfX10_darkTrouble l dC dI a0 a1 up kp (g8) (g9) (g10) (g11) (g12) (.ref a2) (g13) (.int x_x.1) (.int x_x.2) p_p s.heap.size o2 eo2.symm) (cwV 0 hts gfX10_askLeaves_0 rfl rfl rfl (by decide +kernel) ⟨(Nat.le_of_ble_eq_true rfl), (Nat.le_of_ble_eq_true rfl)⟩) (PV hPc (hK.sub (tys' := (tX6 kp ([]))) [0, 1, 2, 3, 4, 5, 6, 7, 8] rfl) hDc hN 0 rfl rfl) rfl rfl hl.1 rfl (lv_room (Nat.le_of_ble_eq_true rfl)) (zat zrX10_askLeaves_0_ok 2 rfl) ⟨(Nat.le_of_ble_eq_true rfl), (Nat.le_of_ble_eq_true rfl)⟩)) (fun r2 _ H locs hw hP hD _ hS => ?_)
  obtain rfl := hw.symm
  obtain ⟨hP, hD⟩ := pd_mk (bX0 a2 ud kd d_d ((a0, .inr (7, [.ref a1, g8, g9, g10, g11, g12, .ref a2, g13, .int x_x.1, .int x_x.2])) :: bX6 a1 up kp p_p [])) hP hD
  obtain ⟨o5, eo5⟩ : ∃ o, o = f_X10_refused o2 x_x := ⟨_, rfl⟩
  have h := nm_of h o5 eo5
  refine ck_i (wc := ([(a0, .inr (7, [.ref a1, g8, g9, g10, g11, g12, .ref a2, g13, .int x_x.1, .int x_x.2]))])) (wr := (bX0 a2 ud kd d_d (bX6 a1 up kp p_p []))) hP hD hK hS hA [2] [0, 1, 3, 4, 5, 6, 7, 8, 9, 10, 11, 12] rfl rfl (by decide) (by decide) (by decide) (fun hPc hDc => (va_runV (As := [.int o2]) (rest := []) ⟨hx, hb, hml, hown, hts⟩ (kfX10_refused l dC dI a0 o2 x_x (.ref a1) (g8) (g9) (g10) (g11) (g12) (.ref a2) (g13) H.size o5 eo5.symm) (cwV 1 hts gfX10_askLeaves_1 rfl rfl rfl (by decide +kernel) ⟨(Nat.le_of_ble_eq_true rfl), (Nat.le_of_ble_eq_true rfl)⟩) (PV hPc (hK.sub (tys' := ([])) [] rfl) hDc hN 0 rfl rfl) rfl rfl hl.1 rfl (lv_room (Nat.le_of_ble_eq_true rfl)) (zat zrX10_askLeaves_0_ok 3 rfl) ⟨(Nat.le_of_ble_eq_true rfl), (Nat.le_of_ble_eq_true rfl)⟩)) (fun r5 _ H locs hw hP hD _ hS => ?_)
  obtain ⟨hw, br5⟩ := hw
  obtain rfl := hw
  obtain ⟨hP, hD⟩ := pd_mk (bX0 a2 ud kd d_d (bX6 a1 up kp p_p ([(a0, .inr (7, [.ref a1, g8, g9, g10, g11, g12, .ref a2, g13, .int o5.2.1, .int o5.2.2]))]))) hP hD
  refine lv_if_eq (tgt := 13) hx hb (zat zrX10_askLeaves_0_ok 4 rfl) (by decide) (fun c8 => ?_) (fun c8 => ?_)
  · have h := (if_pos c8).symm.trans h
    refine lv_aload_n hx hb (zat zrX10_askLeaves_0_ok 7 rfl) rfl (lv_at hl 0 rfl) ?_
    refine va_get (D := (dC, dI)) (ci := 7) (v := .ref a2) (C := RX10) (T := TX10) (N := 10) hx hb hts ifX10_askLeaves_X10 hown hK hP 12 rfl rfl 6 (by decide) (hts (.fieldLink RX10 50 "HookPier" "dark" "LHookPier$Dark;") (List.mem_of_getElem? (i := 8) rfl)) (fun _ h9 => h9) rfl (zat zrX10_askLeaves_0_ok 8 rfl) ?_
    refine lv_aload_n hx hb (zat zrX10_askLeaves_0_ok 9 rfl) rfl (lv_at hl 0 rfl) ?_
    refine va_get (D := (dC, dI)) (ci := 7) (v := .ref a1) (C := RX10) (T := TX10) (N := 10) hx hb hts ifX10_askLeaves_X10 hown hK hP 12 rfl rfl 0 (by decide) (hts (.fieldLink RX10 10 "HookPier" "plan" "LHookPier$Plan;") (List.mem_of_getElem? (i := 9) rfl)) (fun _ h9 => h9) rfl (zat zrX10_askLeaves_0_ok 10 rfl) ?_
    obtain ⟨o21, eo21, h⟩ := bd_of h
    refine ck_v (wc := (bX0 a2 ud kd d_d (bX6 a1 up kp p_p []))) (wr := ([(a0, .inr (7, [.ref a1, g8, g9, g10, g11, g12, .ref a2, g13, .int o5.2.1, .int o5.2.2]))])) hP hD hK hS hA [0, 1, 2, 3, 4, 5, 6, 7, 8, 9, 10, 11] [12] rfl rfl (by decide) (by decide) (by decide) (fun hPc hDc => (va_runV (As := [.ref a1]) (rest := []) ⟨hx, hb, hml, hown, hts⟩ (kfX0_find l dC dI a2 a1 ud kd up kp d_d p_p H.size o21 eo21) (cwV 1 hts gfX10_askLeaves_2 rfl rfl rfl (by decide +kernel) ⟨(Nat.le_of_ble_eq_true rfl), (Nat.le_of_ble_eq_true rfl)⟩) (PV hPc (hK.sub (tys' := (tX0 kd (tX6 kp ([])))) [9, 0, 1, 2, 3, 4, 5, 6, 7, 8] rfl) hDc hN 0 rfl rfl) rfl rfl hl.1 rfl (lv_room (Nat.le_of_ble_eq_true rfl)) (zat zrX10_askLeaves_0_ok 11 rfl) ⟨(Nat.le_of_ble_eq_true rfl), (Nat.le_of_ble_eq_true rfl)⟩)) (fun _ H locs hw hP hD _ hS => ?_)
    obtain ⟨hP, hD⟩ := pd_mk ((a0, .inr (7, [.ref a1, g8, g9, g10, g11, g12, .ref a2, g13, .int o5.2.1, .int o5.2.2])) :: bX0 a2 ud kd o21 (bX6 a1 up kp p_p [])) hP hD
    refine lv_aload_n hx hb (zat zrX10_askLeaves_0_ok 12 rfl) rfl (lv_at hl 0 rfl) ?_
    refine va_get (D := (dC, dI)) (ci := 7) (v := .ref a2) (C := RX10) (T := TX10) (N := 10) hx hb hts ifX10_askLeaves_X10 hown hK hP 0 rfl rfl 6 (by decide) (hts (.fieldLink RX10 50 "HookPier" "dark" "LHookPier$Dark;") (List.mem_of_getElem? (i := 8) rfl)) (fun _ h9 => h9) rfl (zat zrX10_askLeaves_0_ok 13 rfl) ?_
    refine lv_aload_n hx hb (zat zrX10_askLeaves_0_ok 14 rfl) rfl (lv_at hl 0 rfl) ?_
    refine va_get (D := (dC, dI)) (ci := 7) (v := .ref a1) (C := RX10) (T := TX10) (N := 10) hx hb hts ifX10_askLeaves_X10 hown hK hP 0 rfl rfl 0 (by decide) (hts (.fieldLink RX10 10 "HookPier" "plan" "LHookPier$Plan;") (List.mem_of_getElem? (i := 9) rfl)) (fun _ h9 => h9) rfl (zat zrX10_askLeaves_0_ok 15 rfl) ?_
    obtain ⟨o32, eo32, h⟩ := bd_of h
    refine ck_i (wc := (bX0 a2 ud kd o21 (bX6 a1 up kp p_p []))) (wr := ([(a0, .inr (7, [.ref a1, g8, g9, g10, g11, g12, .ref a2, g13, .int o5.2.1, .int o5.2.2]))])) hP hD hK hS hA [1, 2, 3, 4, 5, 6, 7, 8, 9, 10, 11, 12] [0] rfl rfl (by decide) (by decide) (by decide) (fun hPc hDc => (va_runV (As := [.ref a1]) (rest := []) ⟨hx, hb, hml, hown, hts⟩ (kfX0_tellingQuestion l dC dI a2 a1 ud kd up kp o21 p_p H.size o32 eo32) (cwV 1 hts gfX10_askLeaves_3 rfl rfl rfl (by decide +kernel) ⟨(Nat.le_of_ble_eq_true rfl), (Nat.le_of_ble_eq_true rfl)⟩) (PV hPc (hK.sub (tys' := (tX0 kd (tX6 kp ([])))) [9, 0, 1, 2, 3, 4, 5, 6, 7, 8] rfl) hDc hN 0 rfl rfl) rfl rfl hl.1 rfl (lv_room (Nat.le_of_ble_eq_true rfl)) (zat zrX10_askLeaves_0_ok 16 rfl) ⟨(Nat.le_of_ble_eq_true rfl), (Nat.le_of_ble_eq_true rfl)⟩)) (fun r32 _ H locs hw hP hD _ hS => ?_)
    obtain rfl := hw.symm
    obtain ⟨hP, hD⟩ := pd_mk ((a0, .inr (7, [.ref a1, g8, g9, g10, g11, g12, .ref a2, g13, .int o5.2.1, .int o5.2.2])) :: bX0 a2 ud kd o21 (bX6 a1 up kp p_p [])) hP hD
    refine lv_istore_n (lv' := [(1, .int o32), (0, .ref a0)]) hx hb (zat zrX10_askLeaves_0_ok 17 rfl) rfl hl (by decide) rfl (fun ls hl => ?_)
    refine lv_iload_n hx hb (zat zrX10_askLeaves_0_ok 18 rfl) rfl (lv_at hl 0 rfl) ?_
    refine lv_bipush (v := (-2)) hx hb (zat zrX10_askLeaves_0_ok 19 rfl) (by decide) ?_
    refine lv_icmp_ne (tgt := 47) hx hb (zat zrX10_askLeaves_0_ok 20 rfl) (by decide) (fun c39 => ?_) (fun c39 => ?_)
    · have h := (if_neg c39).symm.trans h
      refine lv_aload_n hx hb (zat zrX10_askLeaves_0_ok 23 rfl) rfl (lv_at hl 1 rfl) ?_
      refine va_get (D := (dC, dI)) (ci := 7) (v := .ref a2) (C := RX10) (T := TX10) (N := 10) hx hb hts ifX10_askLeaves_X10 hown hK hP 0 rfl rfl 6 (by decide) (hts (.fieldLink RX10 50 "HookPier" "dark" "LHookPier$Dark;") (List.mem_of_getElem? (i := 8) rfl)) (fun _ h9 => h9) rfl (zat zrX10_askLeaves_0_ok 24 rfl) ?_
      refine lv_aload_n hx hb (zat zrX10_askLeaves_0_ok 25 rfl) rfl (lv_at hl 1 rfl) ?_
      refine va_get (D := (dC, dI)) (ci := 7) (v := .ref a1) (C := RX10) (T := TX10) (N := 10) hx hb hts ifX10_askLeaves_X10 hown hK hP 0 rfl rfl 0 (by decide) (hts (.fieldLink RX10 10 "HookPier" "plan" "LHookPier$Plan;") (List.mem_of_getElem? (i := 9) rfl)) (fun _ h9 => h9) rfl (zat zrX10_askLeaves_0_ok 26 rfl) ?_
      refine lv_iload_n hx hb (zat zrX10_askLeaves_0_ok 27 rfl) rfl (lv_at hl 0 rfl) ?_
      obtain ⟨o56, eo56, h⟩ := bd_of h
      refine ck_i (wc := (bX0 a2 ud kd o21 (bX6 a1 up kp p_p []))) (wr := ([(a0, .inr (7, [.ref a1, g8, g9, g10, g11, g12, .ref a2, g13, .int o5.2.1, .int o5.2.2]))])) hP hD hK hS hA [1, 2, 3, 4, 5, 6, 7, 8, 9, 10, 11, 12] [0] rfl rfl (by decide) (by decide) (by decide) (fun hPc hDc => (va_runV (As := [.ref a1, .int o32]) (rest := []) ⟨hx, hb, hml, hown, hts⟩ (kfX0_leftAtMost l dC dI a2 a1 o32 ud kd up kp o21 p_p H.size o56 eo56) (cwV 2 hts gfX10_askLeaves_4 rfl rfl rfl (by decide +kernel) ⟨(Nat.le_of_ble_eq_true rfl), (Nat.le_of_ble_eq_true rfl)⟩) (PV hPc (hK.sub (tys' := (tX0 kd (tX6 kp ([])))) [9, 0, 1, 2, 3, 4, 5, 6, 7, 8] rfl) hDc hN 0 rfl rfl) rfl rfl hl.1 rfl (lv_room (Nat.le_of_ble_eq_true rfl)) (zat zrX10_askLeaves_0_ok 28 rfl) ⟨(Nat.le_of_ble_eq_true rfl), (Nat.le_of_ble_eq_true rfl)⟩)) (fun r56 _ H locs hw hP hD _ hS => ?_)
      obtain rfl := hw.symm
      obtain ⟨hP, hD⟩ := pd_mk ((a0, .inr (7, [.ref a1, g8, g9, g10, g11, g12, .ref a2, g13, .int o5.2.1, .int o5.2.2])) :: bX0 a2 ud kd o21 (bX6 a1 up kp p_p [])) hP hD
      obtain rfl := Option.some.inj h
      obtain ⟨hP9, hD9⟩ := pd_sub ((a0, .inr (7, [.ref a1, g8, g9, g10, g11, g12, .ref a2, g13, .int o5.2.1, .int o5.2.2])) :: bX6 a1 up kp p_p (bX0 a2 ud kd o21 [])) [0, 3, 4, 5, 6, 7, 8, 9, 10, 11, 12, 1, 2] hP hD (by decide) rfl
      have hK9 := hK.sub (tys' := []) [] rfl
      rw [hQQ]
      exact W.iret (v := o56) hx hb hr (fun t ht hW => ⟨⟨o56, (), rfl, rfl, by rw [ht]; exact hP9, va_K.moved hW.alike hK9, hD9⟩, hS.F ht⟩) hS.2.2 (zat zrX10_askLeaves_0_ok 29 rfl)
    · have h := (if_pos c39).symm.trans h
      refine lv_bipush (v := (-2)) hx hb (zat zrX10_askLeaves_0_ok 21 rfl) (by decide) ?_
      refine lv_goto (tgt := 59) hx hb (zat zrX10_askLeaves_0_ok 22 rfl) (by decide) ?_
      obtain rfl := Option.some.inj h
      obtain ⟨hP9, hD9⟩ := pd_sub ((a0, .inr (7, [.ref a1, g8, g9, g10, g11, g12, .ref a2, g13, .int o5.2.1, .int o5.2.2])) :: bX6 a1 up kp p_p (bX0 a2 ud kd o21 [])) [0, 3, 4, 5, 6, 7, 8, 9, 10, 11, 12, 1, 2] hP hD (by decide) rfl
      have hK9 := hK.sub (tys' := []) [] rfl
      rw [hQQ]
      exact W.iret (v := (-2 : Int32)) hx hb hr (fun t ht hW => ⟨⟨(-2 : Int32), (), rfl, rfl, by rw [ht]; exact hP9, va_K.moved hW.alike hK9, hD9⟩, hS.F ht⟩) hS.2.2 (zat zrX10_askLeaves_0_ok 29 rfl)
  · have h := (if_neg c8).symm.trans h
    refine lv_iconst (v := (-1)) hx hb (zat zrX10_askLeaves_0_ok 5 rfl) (by decide) ?_
    obtain rfl := Option.some.inj h
    obtain ⟨hP9, hD9⟩ := pd_sub ((a0, .inr (7, [.ref a1, g8, g9, g10, g11, g12, .ref a2, g13, .int o5.2.1, .int o5.2.2])) :: bX6 a1 up kp p_p (bX0 a2 ud kd d_d [])) [12, 2, 3, 4, 5, 6, 7, 8, 9, 10, 11, 0, 1] hP hD (by decide) rfl
    have hK9 := hK.sub (tys' := []) [] rfl
    rw [hQQ]
    exact W.iret (v := (-1 : Int32)) hx hb hr (fun t ht hW => ⟨⟨(-1 : Int32), (), rfl, rfl, by rw [ht]; exact hP9, va_K.moved hW.alike hK9, hD9⟩, hS.F ht⟩) hS.2.2 (zat zrX10_askLeaves_0_ok 6 rfl)
noncomputable def zrX10_judge_0 : List ZR := zc 0 true (.aload_n 0) 1 (zc 1 true (.iload_n 1) 1 (zc 2 true (.invokevirtual 102) 3 (zc 5 true (.istore_n 2) 1 (zc 6 true (.aload_n 0) 1 (zc 7 true (.iload_n 2) 1 (zc 8 true (.ifCond .ne 10) 3 (zc 11 true (.aload_n 0) 1 (zc 12 true (.invokevirtual 264) 3 (zc 15 true (.goto 4) 3 (zc 18 true (.iload_n 2) 1 (zc 19 true (.invokevirtual 79) 3 (zc 22 true (.ifCond .eq 5) 3 (zc 25 true (.iconst (-1)) 1 (zc 26 true (.ireturn) 1 (zc 27 true (.iconst 0) 1 (zc 28 true (.istore_n 3) 1 (zc 29 true (.iload_n 3) 1 (zc 30 true (.aload_n 0) 1 (zc 31 true (.getfield 10) 3 (zc 34 true (.getfield 284) 3 (zc 37 true (.if_icmp .ge 61) 3 (zc 40 true (.aload_n 0) 1 (zc 41 true (.getfield 10) 3 (zc 44 true (.iload_n 1) 1 (zc 45 true (.aload_n 0) 1 (zc 46 true (.getfield 10) 3 (zc 49 true (.getfield 287) 3 (zc 52 true (.aload_n 0) 1 (zc 53 true (.getfield 10) 3 (zc 56 true (.getfield 290) 3 (zc 59 true (.iload_n 3) 1 (zc 60 true (.iaload) 1 (zc 61 true (.invokevirtual 230) 3 (zc 64 true (.bipush 50) 2 (zc 66 true (.if_icmp .lt 7) 3 (zc 69 true (.iconst 1) 1 (zc 70 true (.goto 4) 3 (zc 73 true (.iconst 0) 1 (zc 74 true (.istore 4) 2 (zc 76 true (.iload 4) 2 (zc 78 true (.aload_n 0) 1 (zc 79 true (.getfield 10) 3 (zc 82 true (.getfield 293) 3 (zc 85 true (.iload_n 3) 1 (zc 86 true (.baload) 1 (zc 87 true (.if_icmp .eq 5) 3 (zc 90 true (.iload_n 3) 1 (zc 91 true (.ireturn) 1 (zc 92 true (.iinc 3 1) 3 (zc 95 true (.goto (-66)) 3 (zc 98 true (.bipush (-2)) 2 (zc 100 true (.ireturn) 1 ([])))))))))))))))))))))))))))))))))))))))))))))))))))))
theorem zrX10_judge_0_ok : zck 0 ((zby cX10_judge).drop 0) zrX10_judge_0 = true := by decide +kernel
def vfX10_judge : List Cond := List.cons (.code yX10_judge cX10_judge 5 (some .int)) (apW [.methodLink RX10 102 yX10_answerTrouble, .instanceMethod yX10_answerTrouble, .selects RX10 yX10_answerTrouble yX10_answerTrouble, .initialized RX10, .methodLink RX10 79 yX10_refused, .instanceMethod yX10_refused, .selects RX10 yX10_refused yX10_refused, .fieldLink RX10 10 "HookPier" "plan" "LHookPier$Plan;", .fieldLink RX10 284 "HookPier$Plan" "bites" "I", .fieldLink RX10 287 "HookPier$Plan" "darkHunger" "I", .fieldLink RX10 290 "HookPier$Plan" "bite" "[I", .methodLink RX10 230 yX6_wishBy, .instanceMethod yX6_wishBy, .selects RX6 yX6_wishBy yX6_wishBy, .initialized RX6, .fieldLink RX10 293 "HookPier$Plan" "bit" "[Z", .methodLink RX10 264 yX10_darkTrouble, .instanceMethod yX10_darkTrouble, .selects RX10 yX10_darkTrouble yX10_darkTrouble] (apW wsX100 (apW wsX60 (apW vfX10_answerTrouble (apW vfX10_refused (apW vfX6_wishBy (vfX10_darkTrouble)))))))
theorem ifX10_judge_X10 : ∀ w ∈ wsX100, w ∈ vfX10_judge := fun _ h => (List.mem_cons_of_mem _ (List.mem_append_right _ (List.mem_append_left _ h)))
theorem ifX10_judge_X6 : ∀ w ∈ wsX60, w ∈ vfX10_judge := fun _ h => (List.mem_cons_of_mem _ (List.mem_append_right _ (List.mem_append_right _ (List.mem_append_left _ h))))
theorem qfX10_judge : Good vfX10_judge := gd_cons (by decide +kernel) (gd_app (gd_dec (by decide +kernel) : Good [.methodLink RX10 102 yX10_answerTrouble, .instanceMethod yX10_answerTrouble, .selects RX10 yX10_answerTrouble yX10_answerTrouble, .initialized RX10, .methodLink RX10 79 yX10_refused, .instanceMethod yX10_refused, .selects RX10 yX10_refused yX10_refused, .fieldLink RX10 10 "HookPier" "plan" "LHookPier$Plan;", .fieldLink RX10 284 "HookPier$Plan" "bites" "I", .fieldLink RX10 287 "HookPier$Plan" "darkHunger" "I", .fieldLink RX10 290 "HookPier$Plan" "bite" "[I", .methodLink RX10 230 yX6_wishBy, .instanceMethod yX6_wishBy, .selects RX6 yX6_wishBy yX6_wishBy, .initialized RX6, .fieldLink RX10 293 "HookPier$Plan" "bit" "[Z", .methodLink RX10 264 yX10_darkTrouble, .instanceMethod yX10_darkTrouble, .selects RX10 yX10_darkTrouble yX10_darkTrouble]) (gd_app qsX10 (gd_app qsX6 (gd_app qfX10_answerTrouble (gd_app qfX10_refused (gd_app qfX6_wishBy qfX10_darkTrouble))))))
theorem gfX10_judge_0 : GoodIn vfX10_judge (wsV RX10 102 RX10 yX10_answerTrouble vfX10_answerTrouble) := goodIn_app (goodIn_r [.methodLink RX10 102 yX10_answerTrouble, .instanceMethod yX10_answerTrouble, .selects RX10 yX10_answerTrouble yX10_answerTrouble, .initialized RX10] [1, 2, 3, 4] rfl (by decide +kernel)) (goodIn_m (fun _ h => (List.mem_cons_of_mem _ (List.mem_append_right _ (List.mem_append_right _ (List.mem_append_right _ (List.mem_append_left _ h)))))) qfX10_answerTrouble)
theorem gfX10_judge_1 : GoodIn vfX10_judge (wsV RX10 79 RX10 yX10_refused vfX10_refused) := goodIn_app (goodIn_r [.methodLink RX10 79 yX10_refused, .instanceMethod yX10_refused, .selects RX10 yX10_refused yX10_refused, .initialized RX10] [5, 6, 7, 4] rfl (by decide +kernel)) (goodIn_m (fun _ h => (List.mem_cons_of_mem _ (List.mem_append_right _ (List.mem_append_right _ (List.mem_append_right _ (List.mem_append_right _ (List.mem_append_left _ h))))))) qfX10_refused)
theorem gfX10_judge_2 : GoodIn vfX10_judge (wsV RX10 230 RX6 yX6_wishBy vfX6_wishBy) := goodIn_app (goodIn_r [.methodLink RX10 230 yX6_wishBy, .instanceMethod yX6_wishBy, .selects RX6 yX6_wishBy yX6_wishBy, .initialized RX6] [12, 13, 14, 15] rfl (by decide +kernel)) (goodIn_m (fun _ h => (List.mem_cons_of_mem _ (List.mem_append_right _ (List.mem_append_right _ (List.mem_append_right _ (List.mem_append_right _ (List.mem_append_right _ (List.mem_append_left _ h)))))))) qfX6_wishBy)
theorem gfX10_judge_3 : GoodIn vfX10_judge (wsV RX10 264 RX10 yX10_darkTrouble vfX10_darkTrouble) := goodIn_app (goodIn_r [.methodLink RX10 264 yX10_darkTrouble, .instanceMethod yX10_darkTrouble, .selects RX10 yX10_darkTrouble yX10_darkTrouble, .initialized RX10] [17, 18, 19, 4] rfl (by decide +kernel)) (goodIn_m (fun _ h => (List.mem_cons_of_mem _ (List.mem_append_right _ (List.mem_append_right _ (List.mem_append_right _ (List.mem_append_right _ (List.mem_append_right _ (List.mem_append_right _ h)))))))) qfX10_darkTrouble)
set_option maxHeartbeats 2000000 in
set_option maxRecDepth 100000 in
theorem kfX10_judge (l : Launch) (dC : Nat → ClassId) (dI : Nat → Nat → Nat) (a0 : Nat) (k1 : Int32) (a2 : Nat) (up : Nat → Nat) (kp : Nat → ClassId) (x_x : TX10_x) (g6 : Value) (g7 : Value) (g8 : Value) (g9 : Value) (g10 : Value) (g11 : Value) (g12 : Value) (p_p : TX6_p) (sz : Nat) (out : (Int32 × TX10_x)) (h : f_X10_judge k1 x_x p_p = some out) : KCi l yX10_judge vfX10_judge ({ frames := 3, cells := 0, slots := 0, locals := 64 }) (dC, dI) [.ref a0, .int k1] sz ((a0, .inr (7, [.ref a2, g6, g7, g8, g9, g10, g11, g12, .int x_x.1, .int x_x.2])) :: bX6 a2 up kp p_p []) (tX6 kp ([])) (fun (r : Int32) _ => r = out.1) ((a0, .inr (7, [.ref a2, g6, g7, g8, g9, g10, g11, g12, .int out.2.1, .int out.2.2])) :: bX6 a2 up kp p_p []) 0 0 := by
  refine Met.ofW (cc := cX10_judge) (maxL := 5) (ret := (some .int)) (by decide) rfl ?_
  intro p e s m args below meth c s₁ B0 hml hv
  obtain ⟨rfl, hsz, hP, hK, hD0, hN⟩ := hv
  have hx := B0.exec
  have hb := B0.bytes
  have hr := B0.returns
  have hts := atoms_spec (ws := vfX10_judge) B0.pre
  have hown : s.vm.findClass RX10 = some m.cls := findClass_of_methodNamed B0.named
  have hlocks := B0.notSynchronized
  subst hsz
  have hD := hD0.self (sz := s.heap.size)
  generalize hAe : va_A ((a0, .inr (7, [.ref a2, g6, g7, g8, g9, g10, g11, g12, .int x_x.1, .int x_x.2])) :: bX6 a2 up kp p_p []) s.heap.size = A at hD ⊢
  have hA : ∀ q : Nat, s.heap.size ≤ q → A q := fun q h => by rw [← hAe]; exact Or.inr h
  have hS : va_S A s.heap s.heap [] := va_S.rf
  have hP : va_P (dC, dI) vwCl ((a0, .inr (7, [.ref a2, g6, g7, g8, g9, g10, g11, g12, .int x_x.1, .int x_x.2])) :: bX6 a2 up kp p_p []) s.heap := hP
  have hl := lv_entry ([.ref a0, .int k1]) (n := 5) (Nat.le_of_ble_eq_true rfl)
  rw [lg_entry_eq]
  generalize (lg_sl ([.ref a0, .int k1]) ++ List.replicate (5 - (lg_sl ([.ref a0, .int k1])).length) Slot.unset).toArray = ls at hl ⊢
  have hl : lv_has ls 5 [(0, .ref a0), (1, .int k1)] := hl
  refine W_q (fun QQ hQQ => ?_)
  rw [f_X10_judge] at h
  refine lv_aload_n hx hb (zat zrX10_judge_0_ok 0 rfl) rfl (lv_at hl 0 rfl) ?_
  refine lv_iload_n hx hb (zat zrX10_judge_0_ok 1 rfl) rfl (lv_at hl 1 rfl) ?_
  obtain ⟨o2, eo2⟩ : ∃ o, o = f_X10_answerTrouble k1 p_p := ⟨_, rfl⟩
  have h := nm_of h o2 eo2
  refine ck_i (wc := ((a0, .inr (7, [.ref a2, g6, g7, g8, g9, g10, g11, g12, .int x_x.1, .int x_x.2])) :: bX6 a2 up kp p_p [])) (wr := []) hP hD hK hS hA [0, 1, 2, 3, 4, 5, 6, 7, 8, 9, 10] [] rfl rfl (by decide) (by decide) (by decide) (fun hPc hDc => (va_runV (As := [.int k1]) (rest := []) ⟨hx, hb, hml, hown, hts⟩ (kfX10_answerTrouble l dC dI a0 k1 a2 up kp (g6) (g7) (g8) (g9) (g10) (g11) (g12) (.int x_x.1) (.int x_x.2) p_p s.heap.size o2 eo2.symm) (cwV 1 hts gfX10_judge_0 rfl rfl rfl (by decide +kernel) ⟨(Nat.le_of_ble_eq_true rfl), (Nat.le_of_ble_eq_true rfl)⟩) (PV hPc (hK.sub (tys' := (tX6 kp ([]))) [0, 1, 2, 3, 4, 5, 6, 7, 8] rfl) hDc hN 0 rfl rfl) rfl rfl hl.1 rfl (lv_room (Nat.le_of_ble_eq_true rfl)) (zat zrX10_judge_0_ok 2 rfl) ⟨(Nat.le_of_ble_eq_true rfl), (Nat.le_of_ble_eq_true rfl)⟩)) (fun r2 _ H locs hw hP hD _ hS => ?_)
  obtain rfl := hw.symm
  obtain ⟨hP, hD⟩ := pd_mk ((a0, .inr (7, [.ref a2, g6, g7, g8, g9, g10, g11, g12, .int x_x.1, .int x_x.2])) :: bX6 a2 up kp p_p []) hP hD
  refine lv_istore_n (lv' := [(2, .int o2), (0, .ref a0), (1, .int k1)]) hx hb (zat zrX10_judge_0_ok 3 rfl) rfl hl (by decide) rfl (fun ls hl => ?_)
  refine lv_aload_n hx hb (zat zrX10_judge_0_ok 4 rfl) rfl (lv_at hl 1 rfl) ?_
  refine lv_iload_n hx hb (zat zrX10_judge_0_ok 5 rfl) rfl (lv_at hl 0 rfl) ?_
  have J19 : ∀ (v19_t1 : Int32) (H : Heap) (locs : List Loc) (ls : Array Slot), f_X10_judge_J19 k1 x_x p_p v19_t1 = some out → va_P (dC, dI) vwCl ((a0, .inr (7, [.ref a2, g6, g7, g8, g9, g10, g11, g12, .int x_x.1, .int x_x.2])) :: bX6 a2 up kp p_p []) H → va_D A ((a0, .inr (7, [.ref a2, g6, g7, g8, g9, g10, g11, g12, .int x_x.1, .int x_x.2])) :: bX6 a2 up kp p_p []) → va_S A s.heap H locs → lv_has ls 5 [(0, .ref a0), (1, .int k1)] → W p l e (headSpec vfX10_judge { frames := 3, cells := 0, slots := 0, locals := 64 }).room s m ([.ref a0, .int k1]).toArray below meth c H locs 0 0 QQ (F0 m 19 ls [.int v19_t1, .ref a0]) := by
    intro v19_t1 H locs ls h  hP hD hS hl
    rw [f_X10_judge_J19] at h
    obtain ⟨o19, eo19⟩ : ∃ o, o = f_X10_refused v19_t1 x_x := ⟨_, rfl⟩
    have h := nm_of h o19 eo19
    refine ck_i (wc := ([(a0, .inr (7, [.ref a2, g6, g7, g8, g9, g10, g11, g12, .int x_x.1, .int x_x.2]))])) (wr := (bX6 a2 up kp p_p [])) hP hD hK hS hA [0] [1, 2, 3, 4, 5, 6, 7, 8, 9, 10] rfl rfl (by decide) (by decide) (by decide) (fun hPc hDc => (va_runV (As := [.int v19_t1]) (rest := []) ⟨hx, hb, hml, hown, hts⟩ (kfX10_refused l dC dI a0 v19_t1 x_x (.ref a2) (g6) (g7) (g8) (g9) (g10) (g11) (g12) H.size o19 eo19.symm) (cwV 1 hts gfX10_judge_1 rfl rfl rfl (by decide +kernel) ⟨(Nat.le_of_ble_eq_true rfl), (Nat.le_of_ble_eq_true rfl)⟩) (PV hPc (hK.sub (tys' := ([])) [] rfl) hDc hN 0 rfl rfl) rfl rfl hl.1 rfl (lv_room (Nat.le_of_ble_eq_true rfl)) (zat zrX10_judge_0_ok 11 rfl) ⟨(Nat.le_of_ble_eq_true rfl), (Nat.le_of_ble_eq_true rfl)⟩)) (fun r19 _ H locs hw hP hD _ hS => ?_)
    obtain ⟨hw, br19⟩ := hw
    obtain rfl := hw
    obtain ⟨hP, hD⟩ := pd_mk (bX6 a2 up kp p_p ([(a0, .inr (7, [.ref a2, g6, g7, g8, g9, g10, g11, g12, .int o19.2.1, .int o19.2.2]))])) hP hD
    refine lv_if_eq (tgt := 27) hx hb (zat zrX10_judge_0_ok 12 rfl) (by decide) (fun c22 => ?_) (fun c22 => ?_)
    · have h := (if_pos c22).symm.trans h
      refine lv_iconst (v := 0) hx hb (zat zrX10_judge_0_ok 15 rfl) (by decide) ?_
      refine lv_istore_n (lv' := [(3, .int 0), (0, .ref a0), (1, .int k1)]) hx hb (zat zrX10_judge_0_ok 16 rfl) rfl hl (by decide) rfl (fun ls hl => ?_)
      have L29 : ∀ (n29 : Nat) (v29_l3 : Int32) (H : Heap) (locs : List Loc) (ls : Array Slot), f_X10_judge_L29 k1 p_p o19 n29 v29_l3 = some out → va_P (dC, dI) vwCl (bX6 a2 up kp p_p ([(a0, .inr (7, [.ref a2, g6, g7, g8, g9, g10, g11, g12, .int o19.2.1, .int o19.2.2]))])) H → va_D A (bX6 a2 up kp p_p ([(a0, .inr (7, [.ref a2, g6, g7, g8, g9, g10, g11, g12, .int o19.2.1, .int o19.2.2]))])) → va_S A s.heap H locs → lv_has ls 5 [(3, .int v29_l3), (0, .ref a0), (1, .int k1)] → W p l e (headSpec vfX10_judge { frames := 3, cells := 0, slots := 0, locals := 64 }).room s m ([.ref a0, .int k1]).toArray below meth c H locs 0 0 QQ (F0 m 29 ls []) := by
        intro n29
        induction n29 with
        | zero =>
          intro v29_l3 H locs ls h  _ _ _ _
          rw [f_X10_judge_L29] at h
          cases h
        | succ n29 ih29 =>
          intro v29_l3 H locs ls h  hP hD hS hl
          rw [f_X10_judge_L29] at h
          refine lv_iload_n hx hb (zat zrX10_judge_0_ok 17 rfl) rfl (lv_at hl 0 rfl) ?_
          refine lv_aload_n hx hb (zat zrX10_judge_0_ok 18 rfl) rfl (lv_at hl 1 rfl) ?_
          refine va_get (D := (dC, dI)) (ci := 7) (v := .ref a2) (C := RX10) (T := TX10) (N := 10) hx hb hts ifX10_judge_X10 hown hK hP 10 rfl rfl 0 (by decide) (hts (.fieldLink RX10 10 "HookPier" "plan" "LHookPier$Plan;") (List.mem_of_getElem? (i := 8) rfl)) (fun _ h9 => h9) rfl (zat zrX10_judge_0_ok 19 rfl) ?_
          refine va_get (D := (dC, dI)) (ci := 4) (v := .int p_p.2.2.2.2.2.2.2.1) (C := RX6) (T := TX6) (N := 18) hx hb hts ifX10_judge_X6 hown hK hP 0 rfl rfl 7 (by decide) (hts (.fieldLink RX10 284 "HookPier$Plan" "bites" "I") (List.mem_of_getElem? (i := 9) rfl)) (fun _ h9 => h9) rfl (zat zrX10_judge_0_ok 20 rfl) ?_
          refine lv_icmp_ge (tgt := 98) hx hb (zat zrX10_judge_0_ok 21 rfl) (by decide) (fun c37 => ?_) (fun c37 => ?_)
          · have h := (if_pos c37).symm.trans h
            refine lv_bipush (v := (-2)) hx hb (zat zrX10_judge_0_ok 51 rfl) (by decide) ?_
            obtain rfl := Option.some.inj h
            obtain ⟨hP9, hD9⟩ := pd_sub ((a0, .inr (7, [.ref a2, g6, g7, g8, g9, g10, g11, g12, .int o19.2.1, .int o19.2.2])) :: bX6 a2 up kp p_p []) [10, 0, 1, 2, 3, 4, 5, 6, 7, 8, 9] hP hD (by decide) rfl
            have hK9 := hK.sub (tys' := []) [] rfl
            rw [hQQ]
            exact W.iret (v := (-2 : Int32)) hx hb hr (fun t ht hW => ⟨⟨(-2 : Int32), (), rfl, rfl, by rw [ht]; exact hP9, va_K.moved hW.alike hK9, hD9⟩, hS.F ht⟩) hS.2.2 (zat zrX10_judge_0_ok 52 rfl)
          · have h := (if_neg c37).symm.trans h
            refine lv_aload_n hx hb (zat zrX10_judge_0_ok 22 rfl) rfl (lv_at hl 1 rfl) ?_
            refine va_get (D := (dC, dI)) (ci := 7) (v := .ref a2) (C := RX10) (T := TX10) (N := 10) hx hb hts ifX10_judge_X10 hown hK hP 10 rfl rfl 0 (by decide) (hts (.fieldLink RX10 10 "HookPier" "plan" "LHookPier$Plan;") (List.mem_of_getElem? (i := 8) rfl)) (fun _ h9 => h9) rfl (zat zrX10_judge_0_ok 23 rfl) ?_
            refine lv_iload_n hx hb (zat zrX10_judge_0_ok 24 rfl) rfl (lv_at hl 2 rfl) ?_
            refine lv_aload_n hx hb (zat zrX10_judge_0_ok 25 rfl) rfl (lv_at hl 1 rfl) ?_
            refine va_get (D := (dC, dI)) (ci := 7) (v := .ref a2) (C := RX10) (T := TX10) (N := 10) hx hb hts ifX10_judge_X10 hown hK hP 10 rfl rfl 0 (by decide) (hts (.fieldLink RX10 10 "HookPier" "plan" "LHookPier$Plan;") (List.mem_of_getElem? (i := 8) rfl)) (fun _ h9 => h9) rfl (zat zrX10_judge_0_ok 26 rfl) ?_
            refine va_get (D := (dC, dI)) (ci := 4) (v := .int p_p.2.2.2.2.2.2.2.2.1) (C := RX6) (T := TX6) (N := 18) hx hb hts ifX10_judge_X6 hown hK hP 0 rfl rfl 8 (by decide) (hts (.fieldLink RX10 287 "HookPier$Plan" "darkHunger" "I") (List.mem_of_getElem? (i := 10) rfl)) (fun _ h9 => h9) rfl (zat zrX10_judge_0_ok 27 rfl) ?_
            refine lv_aload_n hx hb (zat zrX10_judge_0_ok 28 rfl) rfl (lv_at hl 1 rfl) ?_
            refine va_get (D := (dC, dI)) (ci := 7) (v := .ref a2) (C := RX10) (T := TX10) (N := 10) hx hb hts ifX10_judge_X10 hown hK hP 10 rfl rfl 0 (by decide) (hts (.fieldLink RX10 10 "HookPier" "plan" "LHookPier$Plan;") (List.mem_of_getElem? (i := 8) rfl)) (fun _ h9 => h9) rfl (zat zrX10_judge_0_ok 29 rfl) ?_
            refine va_get (D := (dC, dI)) (ci := 4) (v := .ref (up 7)) (C := RX6) (T := TX6) (N := 18) hx hb hts ifX10_judge_X6 hown hK hP 0 rfl rfl 16 (by decide) (hts (.fieldLink RX10 290 "HookPier$Plan" "bite" "[I") (List.mem_of_getElem? (i := 11) rfl)) (fun _ h9 => h9) rfl (zat zrX10_judge_0_ok 30 rfl) ?_
            refine lv_iload_n hx hb (zat zrX10_judge_0_ok 31 rfl) rfl (lv_at hl 0 rfl) ?_
            obtain ⟨hg60, h⟩ := gA_of h
            refine va_iald hx hb hK hP 8 7 rfl rfl hg60 (zat zrX10_judge_0_ok 32 rfl) ?_
            refine lv_topi (fun z60 ez60 => ?_)
            have h := nm_of h z60 ez60
            obtain ⟨o61, eo61, h⟩ := bd_of h
            refine ck_i (wc := (bX6 a2 up kp p_p [])) (wr := ([(a0, .inr (7, [.ref a2, g6, g7, g8, g9, g10, g11, g12, .int o19.2.1, .int o19.2.2]))])) hP hD hK hS hA [0, 1, 2, 3, 4, 5, 6, 7, 8, 9] [10] rfl rfl (by decide) (by decide) (by decide) (fun hPc hDc => (va_runV (As := [.int k1, .int p_p.2.2.2.2.2.2.2.2.1, .int z60]) (rest := []) ⟨hx, hb, hml, hown, hts⟩ (kfX6_wishBy l dC dI a2 k1 p_p.2.2.2.2.2.2.2.2.1 z60 up kp p_p H.size o61 eo61) (cwV 3 hts gfX10_judge_2 rfl rfl rfl (by decide +kernel) ⟨(Nat.le_of_ble_eq_true rfl), (Nat.le_of_ble_eq_true rfl)⟩) (PV hPc (hK.sub (tys' := (tX6 kp ([]))) [0, 1, 2, 3, 4, 5, 6, 7, 8] rfl) hDc hN 0 rfl rfl) rfl rfl hl.1 rfl (lv_room (Nat.le_of_ble_eq_true rfl)) (zat zrX10_judge_0_ok 33 rfl) ⟨(Nat.le_of_ble_eq_true rfl), (Nat.le_of_ble_eq_true rfl)⟩)) (fun r61 _ H locs hw hP hD _ hS => ?_)
            obtain rfl := hw.symm
            obtain ⟨hP, hD⟩ := pd_mk ((a0, .inr (7, [.ref a2, g6, g7, g8, g9, g10, g11, g12, .int o19.2.1, .int o19.2.2])) :: bX6 a2 up kp p_p []) hP hD
            refine lv_bipush (v := 50) hx hb (zat zrX10_judge_0_ok 34 rfl) (by decide) ?_
            have J74 : ∀ (v74_t0 : Int32) (H : Heap) (locs : List Loc) (ls : Array Slot), f_X10_judge_J74 p_p (f_X10_judge_L29 k1 p_p o19 n29) o19 v29_l3 v74_t0 = some out → 0 ≤ v74_t0.toInt ∧ v74_t0.toInt ≤ 1 → va_P (dC, dI) vwCl ((a0, .inr (7, [.ref a2, g6, g7, g8, g9, g10, g11, g12, .int o19.2.1, .int o19.2.2])) :: bX6 a2 up kp p_p []) H → va_D A ((a0, .inr (7, [.ref a2, g6, g7, g8, g9, g10, g11, g12, .int o19.2.1, .int o19.2.2])) :: bX6 a2 up kp p_p []) → va_S A s.heap H locs → lv_has ls 5 [(3, .int v29_l3), (0, .ref a0), (1, .int k1)] → W p l e (headSpec vfX10_judge { frames := 3, cells := 0, slots := 0, locals := 64 }).room s m ([.ref a0, .int k1]).toArray below meth c H locs 0 0 QQ (F0 m 74 ls [.int v74_t0]) := by
              intro v74_t0 H locs ls h zb_v74_t0 hP hD hS hl
              rw [f_X10_judge_J74] at h
              refine lv_istore (lv' := [(4, .int v74_t0), (3, .int v29_l3), (0, .ref a0), (1, .int k1)]) hx hb (zat zrX10_judge_0_ok 39 rfl) hl (by decide) rfl (fun ls hl => ?_)
              refine lv_iload hx hb (zat zrX10_judge_0_ok 40 rfl) (lv_at hl 0 rfl) ?_
              refine lv_aload_n hx hb (zat zrX10_judge_0_ok 41 rfl) rfl (lv_at hl 2 rfl) ?_
              refine va_get (D := (dC, dI)) (ci := 7) (v := .ref a2) (C := RX10) (T := TX10) (N := 10) hx hb hts ifX10_judge_X10 hown hK hP 0 rfl rfl 0 (by decide) (hts (.fieldLink RX10 10 "HookPier" "plan" "LHookPier$Plan;") (List.mem_of_getElem? (i := 8) rfl)) (fun _ h9 => h9) rfl (zat zrX10_judge_0_ok 42 rfl) ?_
              refine va_get (D := (dC, dI)) (ci := 4) (v := .ref (up 8)) (C := RX6) (T := TX6) (N := 18) hx hb hts ifX10_judge_X6 hown hK hP 1 rfl rfl 17 (by decide) (hts (.fieldLink RX10 293 "HookPier$Plan" "bit" "[Z") (List.mem_of_getElem? (i := 16) rfl)) (fun _ h9 => h9) rfl (zat zrX10_judge_0_ok 43 rfl) ?_
              refine lv_iload_n hx hb (zat zrX10_judge_0_ok 44 rfl) rfl (lv_at hl 1 rfl) ?_
              obtain ⟨hg86, h⟩ := gA_of h
              refine va_zald hx hb hK hP 10 8 rfl rfl hg86 (zat zrX10_judge_0_ok 45 rfl) ?_
              refine lv_topi (fun z86 ez86 => ?_)
              have h := nm_of h z86 ez86
              refine lv_icmp_eq (tgt := 92) hx hb (zat zrX10_judge_0_ok 46 rfl) (by decide) (fun c87 => ?_) (fun c87 => ?_)
              · have h := (if_pos c87).symm.trans h
                refine lv_iinc (v := (v29_l3 + (1 : Int32))) (lv' := [(3, .int (v29_l3 + (1 : Int32))), (4, .int v74_t0), (0, .ref a0), (1, .int k1)]) hx hb (zat zrX10_judge_0_ok 49 rfl) hl (k := 1) rfl rfl (by decide) rfl (fun ls hl => ?_)
                refine lv_goto (tgt := 29) hx hb (zat zrX10_judge_0_ok 50 rfl) (by decide) ?_
                exact ih29 (v29_l3 + (1 : Int32)) H _ ls h  (hP.sub (ws' := (bX6 a2 up kp p_p ([(a0, .inr (7, [.ref a2, g6, g7, g8, g9, g10, g11, g12, .int o19.2.1, .int o19.2.2]))]))) [1, 2, 3, 4, 5, 6, 7, 8, 9, 10, 0] rfl) (hD.sub (ws' := (bX6 a2 up kp p_p ([(a0, .inr (7, [.ref a2, g6, g7, g8, g9, g10, g11, g12, .int o19.2.1, .int o19.2.2]))]))) [1, 2, 3, 4, 5, 6, 7, 8, 9, 10, 0] (by decide) rfl) hS (lv_sub hl [0, 2, 3] rfl)
              · have h := (if_neg c87).symm.trans h
                refine lv_iload_n hx hb (zat zrX10_judge_0_ok 47 rfl) rfl (lv_at hl 1 rfl) ?_
                obtain rfl := Option.some.inj h
                obtain ⟨hP9, hD9⟩ := pd_sub ((a0, .inr (7, [.ref a2, g6, g7, g8, g9, g10, g11, g12, .int o19.2.1, .int o19.2.2])) :: bX6 a2 up kp p_p []) [0, 1, 2, 3, 4, 5, 6, 7, 8, 9, 10] hP hD (by decide) rfl
                have hK9 := hK.sub (tys' := []) [] rfl
                rw [hQQ]
                exact W.iret (v := v29_l3) hx hb hr (fun t ht hW => ⟨⟨v29_l3, (), rfl, rfl, by rw [ht]; exact hP9, va_K.moved hW.alike hK9, hD9⟩, hS.F ht⟩) hS.2.2 (zat zrX10_judge_0_ok 48 rfl)
            refine lv_icmp_lt (tgt := 73) hx hb (zat zrX10_judge_0_ok 35 rfl) (by decide) (fun c66 => ?_) (fun c66 => ?_)
            · have h := (if_pos c66).symm.trans h
              refine lv_iconst (v := 0) hx hb (zat zrX10_judge_0_ok 38 rfl) (by decide) ?_
              exact J74 (0 : Int32) H _ ls h (by decide) hP hD hS (lv_sub hl [0, 1, 2] rfl)
            · have h := (if_neg c66).symm.trans h
              refine lv_iconst (v := 1) hx hb (zat zrX10_judge_0_ok 36 rfl) (by decide) ?_
              refine lv_goto (tgt := 74) hx hb (zat zrX10_judge_0_ok 37 rfl) (by decide) ?_
              exact J74 (1 : Int32) H _ ls h (by decide) hP hD hS (lv_sub hl [0, 1, 2] rfl)
      exact L29 FU (0 : Int32) H _ ls h  hP hD hS (lv_sub hl [0, 1, 2] rfl)
    · have h := (if_neg c22).symm.trans h
      refine lv_iconst (v := (-1)) hx hb (zat zrX10_judge_0_ok 13 rfl) (by decide) ?_
      obtain rfl := Option.some.inj h
      obtain ⟨hP9, hD9⟩ := pd_sub ((a0, .inr (7, [.ref a2, g6, g7, g8, g9, g10, g11, g12, .int o19.2.1, .int o19.2.2])) :: bX6 a2 up kp p_p []) [10, 0, 1, 2, 3, 4, 5, 6, 7, 8, 9] hP hD (by decide) rfl
      have hK9 := hK.sub (tys' := []) [] rfl
      rw [hQQ]
      exact W.iret (v := (-1 : Int32)) hx hb hr (fun t ht hW => ⟨⟨(-1 : Int32), (), rfl, rfl, by rw [ht]; exact hP9, va_K.moved hW.alike hK9, hD9⟩, hS.F ht⟩) hS.2.2 (zat zrX10_judge_0_ok 14 rfl)
  refine lv_if_ne (tgt := 18) hx hb (zat zrX10_judge_0_ok 6 rfl) (by decide) (fun c8 => ?_) (fun c8 => ?_)
  · have h := (if_neg c8).symm.trans h
    refine lv_iload_n hx hb (zat zrX10_judge_0_ok 10 rfl) rfl (lv_at hl 0 rfl) ?_
    exact J19 o2 H _ ls h  hP hD hS (lv_sub hl [1, 2] rfl)
  · have h := (if_pos c8).symm.trans h
    refine lv_aload_n hx hb (zat zrX10_judge_0_ok 7 rfl) rfl (lv_at hl 1 rfl) ?_
    obtain ⟨o12, eo12⟩ : ∃ o, o = f_X10_darkTrouble p_p := ⟨_, rfl⟩
    have h := nm_of h o12 eo12
    refine ck_i (wc := ((a0, .inr (7, [.ref a2, g6, g7, g8, g9, g10, g11, g12, .int x_x.1, .int x_x.2])) :: bX6 a2 up kp p_p [])) (wr := []) hP hD hK hS hA [0, 1, 2, 3, 4, 5, 6, 7, 8, 9, 10] [] rfl rfl (by decide) (by decide) (by decide) (fun hPc hDc => (va_runV (As := []) (rest := [.ref a0]) ⟨hx, hb, hml, hown, hts⟩ (kfX10_darkTrouble l dC dI a0 a2 up kp (g6) (g7) (g8) (g9) (g10) (g11) (g12) (.int x_x.1) (.int x_x.2) p_p H.size o12 eo12.symm) (cwV 0 hts gfX10_judge_3 rfl rfl rfl (by decide +kernel) ⟨(Nat.le_of_ble_eq_true rfl), (Nat.le_of_ble_eq_true rfl)⟩) (PV hPc (hK.sub (tys' := (tX6 kp ([]))) [0, 1, 2, 3, 4, 5, 6, 7, 8] rfl) hDc hN 0 rfl rfl) rfl rfl hl.1 rfl (lv_room (Nat.le_of_ble_eq_true rfl)) (zat zrX10_judge_0_ok 8 rfl) ⟨(Nat.le_of_ble_eq_true rfl), (Nat.le_of_ble_eq_true rfl)⟩)) (fun r12 _ H locs hw hP hD _ hS => ?_)
    obtain rfl := hw.symm
    obtain ⟨hP, hD⟩ := pd_mk ((a0, .inr (7, [.ref a2, g6, g7, g8, g9, g10, g11, g12, .int x_x.1, .int x_x.2])) :: bX6 a2 up kp p_p []) hP hD
    refine lv_goto (tgt := 19) hx hb (zat zrX10_judge_0_ok 9 rfl) (by decide) ?_
    exact J19 o12 H _ ls h  hP hD hS (lv_sub hl [1, 2] rfl)
noncomputable def zrX10_worth_0 : List ZR := zc 0 true (.aload_n 0) 1 (zc 1 true (.iload_n 1) 1 (zc 2 true (.invokevirtual 102) 3 (zc 5 true (.istore 4) 2 (zc 7 true (.iload_n 2) 1 (zc 8 true (.iconst 0) 1 (zc 9 true (.sipush 999) 3 (zc 12 true (.invokestatic 75) 3 (zc 15 true (.ifCond .eq 18) 3 (zc 18 true (.iload_n 3) 1 (zc 19 true (.iload_n 2) 1 (zc 20 true (.sipush 999) 3 (zc 23 true (.invokestatic 75) 3 (zc 26 true (.ifCond .eq 7) 3 (zc 29 true (.iconst 1) 1 (zc 30 true (.goto 4) 3 (zc 33 true (.iconst 0) 1 (zc 34 true (.istore 5) 2 (zc 36 true (.aload_n 0) 1 (zc 37 true (.iload 4) 2 (zc 39 true (.ifCond .ne 12) 3 (zc 42 true (.iload 5) 2 (zc 44 true (.ifCond .ne 7) 3 (zc 47 true (.iconst 2) 1 (zc 48 true (.goto 5) 3 (zc 51 true (.iload 4) 2 (zc 53 true (.invokevirtual 79) 3 (zc 56 true (.ifCond .eq 5) 3 (zc 59 true (.iconst (-1)) 1 (zc 60 true (.ireturn) 1 (zc 61 true (.aload_n 0) 1 (zc 62 true (.getfield 10) 3 (zc 65 true (.iload_n 1) 1 (zc 66 true (.iload_n 3) 1 (zc 67 true (.iload_n 2) 1 (zc 68 true (.isub) 1 (zc 69 true (.invokevirtual 297) 3 (zc 72 true (.ireturn) 1 ([]))))))))))))))))))))))))))))))))))))))
theorem zrX10_worth_0_ok : zck 0 ((zby cX10_worth).drop 0) zrX10_worth_0 = true := by decide +kernel
def vfX10_worth : List Cond := List.cons (.code yX10_worth cX10_worth 6 (some .int)) (apW [.methodLink RX10 102 yX10_answerTrouble, .instanceMethod yX10_answerTrouble, .selects RX10 yX10_answerTrouble yX10_answerTrouble, .initialized RX10, .methodLink RX10 75 yX10_within, .static yX10_within, .methodLink RX10 79 yX10_refused, .instanceMethod yX10_refused, .selects RX10 yX10_refused yX10_refused, .fieldLink RX10 10 "HookPier" "plan" "LHookPier$Plan;", .methodLink RX10 297 yX6_worthAfter, .instanceMethod yX6_worthAfter, .selects RX6 yX6_worthAfter yX6_worthAfter, .initialized RX6] (apW wsX100 (apW vfX10_answerTrouble (apW vfX10_within (apW vfX10_refused (vfX6_worthAfter))))))
theorem ifX10_worth_X10 : ∀ w ∈ wsX100, w ∈ vfX10_worth := fun _ h => (List.mem_cons_of_mem _ (List.mem_append_right _ (List.mem_append_left _ h)))
theorem qfX10_worth : Good vfX10_worth := gd_cons (by decide +kernel) (gd_app (gd_dec (by decide +kernel) : Good [.methodLink RX10 102 yX10_answerTrouble, .instanceMethod yX10_answerTrouble, .selects RX10 yX10_answerTrouble yX10_answerTrouble, .initialized RX10, .methodLink RX10 75 yX10_within, .static yX10_within, .methodLink RX10 79 yX10_refused, .instanceMethod yX10_refused, .selects RX10 yX10_refused yX10_refused, .fieldLink RX10 10 "HookPier" "plan" "LHookPier$Plan;", .methodLink RX10 297 yX6_worthAfter, .instanceMethod yX6_worthAfter, .selects RX6 yX6_worthAfter yX6_worthAfter, .initialized RX6]) (gd_app qsX10 (gd_app qfX10_answerTrouble (gd_app qfX10_within (gd_app qfX10_refused qfX6_worthAfter)))))
theorem gfX10_worth_0 : GoodIn vfX10_worth (wsV RX10 102 RX10 yX10_answerTrouble vfX10_answerTrouble) := goodIn_app (goodIn_r [.methodLink RX10 102 yX10_answerTrouble, .instanceMethod yX10_answerTrouble, .selects RX10 yX10_answerTrouble yX10_answerTrouble, .initialized RX10] [1, 2, 3, 4] rfl (by decide +kernel)) (goodIn_m (fun _ h => (List.mem_cons_of_mem _ (List.mem_append_right _ (List.mem_append_right _ (List.mem_append_left _ h))))) qfX10_answerTrouble)
theorem gfX10_worth_1 : GoodIn vfX10_worth (va_wsS RX10 75 yX10_within vfX10_within) := goodIn_app (goodIn_r [.methodLink RX10 75 yX10_within, .static yX10_within, .initialized RX10] [5, 6, 4] rfl (by decide +kernel)) (goodIn_m (fun _ h => (List.mem_cons_of_mem _ (List.mem_append_right _ (List.mem_append_right _ (List.mem_append_right _ (List.mem_append_left _ h)))))) qfX10_within)
theorem gfX10_worth_2 : GoodIn vfX10_worth (wsV RX10 79 RX10 yX10_refused vfX10_refused) := goodIn_app (goodIn_r [.methodLink RX10 79 yX10_refused, .instanceMethod yX10_refused, .selects RX10 yX10_refused yX10_refused, .initialized RX10] [7, 8, 9, 4] rfl (by decide +kernel)) (goodIn_m (fun _ h => (List.mem_cons_of_mem _ (List.mem_append_right _ (List.mem_append_right _ (List.mem_append_right _ (List.mem_append_right _ (List.mem_append_left _ h))))))) qfX10_refused)
theorem gfX10_worth_3 : GoodIn vfX10_worth (wsV RX10 297 RX6 yX6_worthAfter vfX6_worthAfter) := goodIn_app (goodIn_r [.methodLink RX10 297 yX6_worthAfter, .instanceMethod yX6_worthAfter, .selects RX6 yX6_worthAfter yX6_worthAfter, .initialized RX6] [11, 12, 13, 14] rfl (by decide +kernel)) (goodIn_m (fun _ h => (List.mem_cons_of_mem _ (List.mem_append_right _ (List.mem_append_right _ (List.mem_append_right _ (List.mem_append_right _ (List.mem_append_right _ h))))))) qfX6_worthAfter)
set_option maxHeartbeats 2000000 in
set_option maxRecDepth 100000 in
theorem kfX10_worth (l : Launch) (dC : Nat → ClassId) (dI : Nat → Nat → Nat) (a0 : Nat) (k1 : Int32) (k2 : Int32) (k3 : Int32) (a4 : Nat) (up : Nat → Nat) (kp : Nat → ClassId) (x_x : TX10_x) (g8 : Value) (g9 : Value) (g10 : Value) (g11 : Value) (g12 : Value) (g13 : Value) (g14 : Value) (p_p : TX6_p) (sz : Nat) (out : (Int32 × TX10_x)) (h : f_X10_worth k1 k2 k3 x_x p_p = some out) : KCi l yX10_worth vfX10_worth ({ frames := 3, cells := 0, slots := 0, locals := 64 }) (dC, dI) [.ref a0, .int k1, .int k2, .int k3] sz ((a0, .inr (7, [.ref a4, g8, g9, g10, g11, g12, g13, g14, .int x_x.1, .int x_x.2])) :: bX6 a4 up kp p_p []) (tX6 kp ([])) (fun (r : Int32) _ => r = out.1) ((a0, .inr (7, [.ref a4, g8, g9, g10, g11, g12, g13, g14, .int out.2.1, .int out.2.2])) :: bX6 a4 up kp p_p []) 0 0 := by
  refine Met.ofW (cc := cX10_worth) (maxL := 6) (ret := (some .int)) (by decide) rfl ?_
  intro p e s m args below meth c s₁ B0 hml hv
  obtain ⟨rfl, hsz, hP, hK, hD0, hN⟩ := hv
  have hx := B0.exec
  have hb := B0.bytes
  have hr := B0.returns
  have hts := atoms_spec (ws := vfX10_worth) B0.pre
  have hown : s.vm.findClass RX10 = some m.cls := findClass_of_methodNamed B0.named
  have hlocks := B0.notSynchronized
  subst hsz
  have hD := hD0.self (sz := s.heap.size)
  generalize hAe : va_A ((a0, .inr (7, [.ref a4, g8, g9, g10, g11, g12, g13, g14, .int x_x.1, .int x_x.2])) :: bX6 a4 up kp p_p []) s.heap.size = A at hD ⊢
  have hA : ∀ q : Nat, s.heap.size ≤ q → A q := fun q h => by rw [← hAe]; exact Or.inr h
  have hS : va_S A s.heap s.heap [] := va_S.rf
  have hP : va_P (dC, dI) vwCl ((a0, .inr (7, [.ref a4, g8, g9, g10, g11, g12, g13, g14, .int x_x.1, .int x_x.2])) :: bX6 a4 up kp p_p []) s.heap := hP
  have hl := lv_entry ([.ref a0, .int k1, .int k2, .int k3]) (n := 6) (Nat.le_of_ble_eq_true rfl)
  rw [lg_entry_eq]
  generalize (lg_sl ([.ref a0, .int k1, .int k2, .int k3]) ++ List.replicate (6 - (lg_sl ([.ref a0, .int k1, .int k2, .int k3])).length) Slot.unset).toArray = ls at hl ⊢
  have hl : lv_has ls 6 [(0, .ref a0), (1, .int k1), (2, .int k2), (3, .int k3)] := hl
  refine W_q (fun QQ hQQ => ?_)
  rw [f_X10_worth] at h
  refine lv_aload_n hx hb (zat zrX10_worth_0_ok 0 rfl) rfl (lv_at hl 0 rfl) ?_
  refine lv_iload_n hx hb (zat zrX10_worth_0_ok 1 rfl) rfl (lv_at hl 1 rfl) ?_
  obtain ⟨o2, eo2⟩ : ∃ o, o = f_X10_answerTrouble k1 p_p := ⟨_, rfl⟩
  have h := nm_of h o2 eo2
  refine ck_i (wc := ((a0, .inr (7, [.ref a4, g8, g9, g10, g11, g12, g13, g14, .int x_x.1, .int x_x.2])) :: bX6 a4 up kp p_p [])) (wr := []) hP hD hK hS hA [0, 1, 2, 3, 4, 5, 6, 7, 8, 9, 10] [] rfl rfl (by decide) (by decide) (by decide) (fun hPc hDc => (va_runV (As := [.int k1]) (rest := []) ⟨hx, hb, hml, hown, hts⟩ (kfX10_answerTrouble l dC dI a0 k1 a4 up kp (g8) (g9) (g10) (g11) (g12) (g13) (g14) (.int x_x.1) (.int x_x.2) p_p s.heap.size o2 eo2.symm) (cwV 1 hts gfX10_worth_0 rfl rfl rfl (by decide +kernel) ⟨(Nat.le_of_ble_eq_true rfl), (Nat.le_of_ble_eq_true rfl)⟩) (PV hPc (hK.sub (tys' := (tX6 kp ([]))) [0, 1, 2, 3, 4, 5, 6, 7, 8] rfl) hDc hN 0 rfl rfl) rfl rfl hl.1 rfl (lv_room (Nat.le_of_ble_eq_true rfl)) (zat zrX10_worth_0_ok 2 rfl) ⟨(Nat.le_of_ble_eq_true rfl), (Nat.le_of_ble_eq_true rfl)⟩)) (fun r2 _ H locs hw hP hD _ hS => ?_)
  obtain rfl := hw.symm
  obtain ⟨hP, hD⟩ := pd_mk ((a0, .inr (7, [.ref a4, g8, g9, g10, g11, g12, g13, g14, .int x_x.1, .int x_x.2])) :: bX6 a4 up kp p_p []) hP hD
  refine lv_istore (lv' := [(4, .int o2), (0, .ref a0), (1, .int k1), (2, .int k2), (3, .int k3)]) hx hb (zat zrX10_worth_0_ok 3 rfl) hl (by decide) rfl (fun ls hl => ?_)
  refine lv_iload_n hx hb (zat zrX10_worth_0_ok 4 rfl) rfl (lv_at hl 3 rfl) ?_
  refine lv_iconst (v := 0) hx hb (zat zrX10_worth_0_ok 5 rfl) (by decide) ?_
  refine lv_sipush (v := 999) hx hb (zat zrX10_worth_0_ok 6 rfl) (by decide) ?_
  obtain ⟨o12, eo12⟩ : ∃ o, o = f_X10_within k2 (0 : Int32) (999 : Int32) := ⟨_, rfl⟩
  have h := nm_of h o12 eo12
  refine ck_i (wc := []) (wr := ((a0, .inr (7, [.ref a4, g8, g9, g10, g11, g12, g13, g14, .int x_x.1, .int x_x.2])) :: bX6 a4 up kp p_p [])) hP hD hK hS hA [] [0, 1, 2, 3, 4, 5, 6, 7, 8, 9, 10] rfl rfl (by decide) (by decide) (by decide) (fun hPc hDc => (va_runS (As := [.int k2, .int 0, .int 999]) (rest := []) ⟨hx, hb, hml, hown, hts⟩ (kfX10_within l dC dI k2 (0 : Int32) (999 : Int32) H.size o12 eo12.symm) (va_cwS 3 hts gfX10_worth_1 rfl rfl rfl (by decide +kernel) ⟨(Nat.le_of_ble_eq_true rfl), (Nat.le_of_ble_eq_true rfl)⟩) (PS hPc (hK.sub (tys' := ([])) [] rfl) hDc hN) rfl rfl hl.1 rfl (lv_room (Nat.le_of_ble_eq_true rfl)) (zat zrX10_worth_0_ok 7 rfl) ⟨(Nat.le_of_ble_eq_true rfl), (Nat.le_of_ble_eq_true rfl)⟩)) (fun r12 _ H locs hw hP hD _ hS => ?_)
  obtain ⟨hw, br12⟩ := hw
  obtain rfl := hw.symm
  obtain ⟨hP, hD⟩ := pd_mk ((a0, .inr (7, [.ref a4, g8, g9, g10, g11, g12, g13, g14, .int x_x.1, .int x_x.2])) :: bX6 a4 up kp p_p []) hP hD
  have J34 : ∀ (v34_t0 : Int32) (H : Heap) (locs : List Loc) (ls : Array Slot), f_X10_worth_J34 k1 k2 k3 x_x p_p o2 v34_t0 = some out → 0 ≤ v34_t0.toInt ∧ v34_t0.toInt ≤ 1 → va_P (dC, dI) vwCl ((a0, .inr (7, [.ref a4, g8, g9, g10, g11, g12, g13, g14, .int x_x.1, .int x_x.2])) :: bX6 a4 up kp p_p []) H → va_D A ((a0, .inr (7, [.ref a4, g8, g9, g10, g11, g12, g13, g14, .int x_x.1, .int x_x.2])) :: bX6 a4 up kp p_p []) → va_S A s.heap H locs → lv_has ls 6 [(4, .int o2), (0, .ref a0), (1, .int k1), (2, .int k2), (3, .int k3)] → W p l e (headSpec vfX10_worth { frames := 3, cells := 0, slots := 0, locals := 64 }).room s m ([.ref a0, .int k1, .int k2, .int k3]).toArray below meth c H locs 0 0 QQ (F0 m 34 ls [.int v34_t0]) := by
    intro v34_t0 H locs ls h zb_v34_t0 hP hD hS hl
    rw [f_X10_worth_J34] at h
    refine lv_istore (lv' := [(5, .int v34_t0), (4, .int o2), (0, .ref a0), (1, .int k1), (2, .int k2), (3, .int k3)]) hx hb (zat zrX10_worth_0_ok 17 rfl) hl (by decide) rfl (fun ls hl => ?_)
    refine lv_aload_n hx hb (zat zrX10_worth_0_ok 18 rfl) rfl (lv_at hl 2 rfl) ?_
    refine lv_iload hx hb (zat zrX10_worth_0_ok 19 rfl) (lv_at hl 1 rfl) ?_
    have J53 : ∀ (v53_t1 : Int32) (H : Heap) (locs : List Loc) (ls : Array Slot), f_X10_worth_J53 k1 k2 k3 x_x p_p v53_t1 = some out → va_P (dC, dI) vwCl ((a0, .inr (7, [.ref a4, g8, g9, g10, g11, g12, g13, g14, .int x_x.1, .int x_x.2])) :: bX6 a4 up kp p_p []) H → va_D A ((a0, .inr (7, [.ref a4, g8, g9, g10, g11, g12, g13, g14, .int x_x.1, .int x_x.2])) :: bX6 a4 up kp p_p []) → va_S A s.heap H locs → lv_has ls 6 [(0, .ref a0), (1, .int k1), (2, .int k2), (3, .int k3)] → W p l e (headSpec vfX10_worth { frames := 3, cells := 0, slots := 0, locals := 64 }).room s m ([.ref a0, .int k1, .int k2, .int k3]).toArray below meth c H locs 0 0 QQ (F0 m 53 ls [.int v53_t1, .ref a0]) := by
      intro v53_t1 H locs ls h  hP hD hS hl
      rw [f_X10_worth_J53] at h
      obtain ⟨o53, eo53⟩ : ∃ o, o = f_X10_refused v53_t1 x_x := ⟨_, rfl⟩
      have h := nm_of h o53 eo53
      refine ck_i (wc := ([(a0, .inr (7, [.ref a4, g8, g9, g10, g11, g12, g13, g14, .int x_x.1, .int x_x.2]))])) (wr := (bX6 a4 up kp p_p [])) hP hD hK hS hA [0] [1, 2, 3, 4, 5, 6, 7, 8, 9, 10] rfl rfl (by decide) (by decide) (by decide) (fun hPc hDc => (va_runV (As := [.int v53_t1]) (rest := []) ⟨hx, hb, hml, hown, hts⟩ (kfX10_refused l dC dI a0 v53_t1 x_x (.ref a4) (g8) (g9) (g10) (g11) (g12) (g13) (g14) H.size o53 eo53.symm) (cwV 1 hts gfX10_worth_2 rfl rfl rfl (by decide +kernel) ⟨(Nat.le_of_ble_eq_true rfl), (Nat.le_of_ble_eq_true rfl)⟩) (PV hPc (hK.sub (tys' := ([])) [] rfl) hDc hN 0 rfl rfl) rfl rfl hl.1 rfl (lv_room (Nat.le_of_ble_eq_true rfl)) (zat zrX10_worth_0_ok 26 rfl) ⟨(Nat.le_of_ble_eq_true rfl), (Nat.le_of_ble_eq_true rfl)⟩)) (fun r53 _ H locs hw hP hD _ hS => ?_)
      obtain ⟨hw, br53⟩ := hw
      obtain rfl := hw
      obtain ⟨hP, hD⟩ := pd_mk (bX6 a4 up kp p_p ([(a0, .inr (7, [.ref a4, g8, g9, g10, g11, g12, g13, g14, .int o53.2.1, .int o53.2.2]))])) hP hD
      refine lv_if_eq (tgt := 61) hx hb (zat zrX10_worth_0_ok 27 rfl) (by decide) (fun c56 => ?_) (fun c56 => ?_)
      · have h := (if_pos c56).symm.trans h
        refine lv_aload_n hx hb (zat zrX10_worth_0_ok 30 rfl) rfl (lv_at hl 0 rfl) ?_
        refine va_get (D := (dC, dI)) (ci := 7) (v := .ref a4) (C := RX10) (T := TX10) (N := 10) hx hb hts ifX10_worth_X10 hown hK hP 10 rfl rfl 0 (by decide) (hts (.fieldLink RX10 10 "HookPier" "plan" "LHookPier$Plan;") (List.mem_of_getElem? (i := 10) rfl)) (fun _ h9 => h9) rfl (zat zrX10_worth_0_ok 31 rfl) ?_
        refine lv_iload_n hx hb (zat zrX10_worth_0_ok 32 rfl) rfl (lv_at hl 1 rfl) ?_
        refine lv_iload_n hx hb (zat zrX10_worth_0_ok 33 rfl) rfl (lv_at hl 3 rfl) ?_
        refine lv_iload_n hx hb (zat zrX10_worth_0_ok 34 rfl) rfl (lv_at hl 2 rfl) ?_
        refine lv_isub hx hb (zat zrX10_worth_0_ok 35 rfl) ?_
        obtain ⟨o69, eo69, h⟩ := bd_of h
        refine ck_i (wc := (bX6 a4 up kp p_p [])) (wr := ([(a0, .inr (7, [.ref a4, g8, g9, g10, g11, g12, g13, g14, .int o53.2.1, .int o53.2.2]))])) hP hD hK hS hA [0, 1, 2, 3, 4, 5, 6, 7, 8, 9] [10] rfl rfl (by decide) (by decide) (by decide) (fun hPc hDc => (va_runV (As := [.int k1, .int (k3 - k2)]) (rest := []) ⟨hx, hb, hml, hown, hts⟩ (kfX6_worthAfter l dC dI a4 k1 (k3 - k2) up kp p_p H.size o69 eo69) (cwV 2 hts gfX10_worth_3 rfl rfl rfl (by decide +kernel) ⟨(Nat.le_of_ble_eq_true rfl), (Nat.le_of_ble_eq_true rfl)⟩) (PV hPc (hK.sub (tys' := (tX6 kp ([]))) [0, 1, 2, 3, 4, 5, 6, 7, 8] rfl) hDc hN 0 rfl rfl) rfl rfl hl.1 rfl (lv_room (Nat.le_of_ble_eq_true rfl)) (zat zrX10_worth_0_ok 36 rfl) ⟨(Nat.le_of_ble_eq_true rfl), (Nat.le_of_ble_eq_true rfl)⟩)) (fun r69 _ H locs hw hP hD _ hS => ?_)
        obtain rfl := hw.symm
        obtain ⟨hP, hD⟩ := pd_mk ((a0, .inr (7, [.ref a4, g8, g9, g10, g11, g12, g13, g14, .int o53.2.1, .int o53.2.2])) :: bX6 a4 up kp p_p []) hP hD
        obtain rfl := Option.some.inj h
        obtain ⟨hP9, hD9⟩ := pd_sub ((a0, .inr (7, [.ref a4, g8, g9, g10, g11, g12, g13, g14, .int o53.2.1, .int o53.2.2])) :: bX6 a4 up kp p_p []) [0, 1, 2, 3, 4, 5, 6, 7, 8, 9, 10] hP hD (by decide) rfl
        have hK9 := hK.sub (tys' := []) [] rfl
        rw [hQQ]
        exact W.iret (v := o69) hx hb hr (fun t ht hW => ⟨⟨o69, (), rfl, rfl, by rw [ht]; exact hP9, va_K.moved hW.alike hK9, hD9⟩, hS.F ht⟩) hS.2.2 (zat zrX10_worth_0_ok 37 rfl)
      · have h := (if_neg c56).symm.trans h
        refine lv_iconst (v := (-1)) hx hb (zat zrX10_worth_0_ok 28 rfl) (by decide) ?_
        obtain rfl := Option.some.inj h
        obtain ⟨hP9, hD9⟩ := pd_sub ((a0, .inr (7, [.ref a4, g8, g9, g10, g11, g12, g13, g14, .int o53.2.1, .int o53.2.2])) :: bX6 a4 up kp p_p []) [10, 0, 1, 2, 3, 4, 5, 6, 7, 8, 9] hP hD (by decide) rfl
        have hK9 := hK.sub (tys' := []) [] rfl
        rw [hQQ]
        exact W.iret (v := (-1 : Int32)) hx hb hr (fun t ht hW => ⟨⟨(-1 : Int32), (), rfl, rfl, by rw [ht]; exact hP9, va_K.moved hW.alike hK9, hD9⟩, hS.F ht⟩) hS.2.2 (zat zrX10_worth_0_ok 29 rfl)
    have J51 : ∀ (H : Heap) (locs : List Loc) (ls : Array Slot), f_X10_worth_J51 k1 k2 k3 x_x p_p o2 = some out → va_P (dC, dI) vwCl ((a0, .inr (7, [.ref a4, g8, g9, g10, g11, g12, g13, g14, .int x_x.1, .int x_x.2])) :: bX6 a4 up kp p_p []) H → va_D A ((a0, .inr (7, [.ref a4, g8, g9, g10, g11, g12, g13, g14, .int x_x.1, .int x_x.2])) :: bX6 a4 up kp p_p []) → va_S A s.heap H locs → lv_has ls 6 [(4, .int o2), (0, .ref a0), (1, .int k1), (2, .int k2), (3, .int k3)] → W p l e (headSpec vfX10_worth { frames := 3, cells := 0, slots := 0, locals := 64 }).room s m ([.ref a0, .int k1, .int k2, .int k3]).toArray below meth c H locs 0 0 QQ (F0 m 51 ls [.ref a0]) := by
      intro  H locs ls h  hP hD hS hl
      rw [f_X10_worth_J51] at h
      refine lv_iload hx hb (zat zrX10_worth_0_ok 25 rfl) (lv_at hl 0 rfl) ?_
      exact J53 o2 H _ ls h  hP hD hS (lv_sub hl [1, 2, 3, 4] rfl)
    refine lv_if_ne (tgt := 51) hx hb (zat zrX10_worth_0_ok 20 rfl) (by decide) (fun c39 => ?_) (fun c39 => ?_)
    · have h := (if_neg c39).symm.trans h
      exact J51  H _ ls h  hP hD hS (lv_sub hl [1, 2, 3, 4, 5] rfl)
    · have h := (if_pos c39).symm.trans h
      refine lv_iload hx hb (zat zrX10_worth_0_ok 21 rfl) (lv_at hl 0 rfl) ?_
      refine lv_if_ne (tgt := 51) hx hb (zat zrX10_worth_0_ok 22 rfl) (by decide) (fun c44 => ?_) (fun c44 => ?_)
      · have h := (if_neg c44).symm.trans h
        exact J51  H _ ls h  hP hD hS (lv_sub hl [1, 2, 3, 4, 5] rfl)
      · have h := (if_pos c44).symm.trans h
        refine lv_iconst (v := 2) hx hb (zat zrX10_worth_0_ok 23 rfl) (by decide) ?_
        refine lv_goto (tgt := 53) hx hb (zat zrX10_worth_0_ok 24 rfl) (by decide) ?_
        exact J53 (2 : Int32) H _ ls h  hP hD hS (lv_sub hl [2, 3, 4, 5] rfl)
  have J33 : ∀ (H : Heap) (locs : List Loc) (ls : Array Slot), f_X10_worth_J33 k1 k2 k3 x_x p_p o2 = some out → va_P (dC, dI) vwCl ((a0, .inr (7, [.ref a4, g8, g9, g10, g11, g12, g13, g14, .int x_x.1, .int x_x.2])) :: bX6 a4 up kp p_p []) H → va_D A ((a0, .inr (7, [.ref a4, g8, g9, g10, g11, g12, g13, g14, .int x_x.1, .int x_x.2])) :: bX6 a4 up kp p_p []) → va_S A s.heap H locs → lv_has ls 6 [(4, .int o2), (0, .ref a0), (1, .int k1), (2, .int k2), (3, .int k3)] → W p l e (headSpec vfX10_worth { frames := 3, cells := 0, slots := 0, locals := 64 }).room s m ([.ref a0, .int k1, .int k2, .int k3]).toArray below meth c H locs 0 0 QQ (F0 m 33 ls []) := by
    intro  H locs ls h  hP hD hS hl
    rw [f_X10_worth_J33] at h
    refine lv_iconst (v := 0) hx hb (zat zrX10_worth_0_ok 16 rfl) (by decide) ?_
    exact J34 (0 : Int32) H _ ls h (by decide) hP hD hS (lv_sub hl [0, 1, 2, 3, 4] rfl)
  refine lv_if_eq (tgt := 33) hx hb (zat zrX10_worth_0_ok 8 rfl) (by decide) (fun c15 => ?_) (fun c15 => ?_)
  · have h := (if_pos c15).symm.trans h
    exact J33  H _ ls h  hP hD hS (lv_sub hl [0, 1, 2, 3, 4] rfl)
  · have h := (if_neg c15).symm.trans h
    refine lv_iload_n hx hb (zat zrX10_worth_0_ok 9 rfl) rfl (lv_at hl 4 rfl) ?_
    refine lv_iload_n hx hb (zat zrX10_worth_0_ok 10 rfl) rfl (lv_at hl 3 rfl) ?_
    refine lv_sipush (v := 999) hx hb (zat zrX10_worth_0_ok 11 rfl) (by decide) ?_
    obtain ⟨o23, eo23⟩ : ∃ o, o = f_X10_within k3 k2 (999 : Int32) := ⟨_, rfl⟩
    have h := nm_of h o23 eo23
    refine ck_i (wc := []) (wr := ((a0, .inr (7, [.ref a4, g8, g9, g10, g11, g12, g13, g14, .int x_x.1, .int x_x.2])) :: bX6 a4 up kp p_p [])) hP hD hK hS hA [] [0, 1, 2, 3, 4, 5, 6, 7, 8, 9, 10] rfl rfl (by decide) (by decide) (by decide) (fun hPc hDc => (va_runS (As := [.int k3, .int k2, .int 999]) (rest := []) ⟨hx, hb, hml, hown, hts⟩ (kfX10_within l dC dI k3 k2 (999 : Int32) H.size o23 eo23.symm) (va_cwS 3 hts gfX10_worth_1 rfl rfl rfl (by decide +kernel) ⟨(Nat.le_of_ble_eq_true rfl), (Nat.le_of_ble_eq_true rfl)⟩) (PS hPc (hK.sub (tys' := ([])) [] rfl) hDc hN) rfl rfl hl.1 rfl (lv_room (Nat.le_of_ble_eq_true rfl)) (zat zrX10_worth_0_ok 12 rfl) ⟨(Nat.le_of_ble_eq_true rfl), (Nat.le_of_ble_eq_true rfl)⟩)) (fun r23 _ H locs hw hP hD _ hS => ?_)
    obtain ⟨hw, br23⟩ := hw
    obtain rfl := hw.symm
    obtain ⟨hP, hD⟩ := pd_mk ((a0, .inr (7, [.ref a4, g8, g9, g10, g11, g12, g13, g14, .int x_x.1, .int x_x.2])) :: bX6 a4 up kp p_p []) hP hD
    refine lv_if_eq (tgt := 33) hx hb (zat zrX10_worth_0_ok 13 rfl) (by decide) (fun c26 => ?_) (fun c26 => ?_)
    · have h := (if_pos c26).symm.trans h
      exact J33  H _ ls h  hP hD hS (lv_sub hl [0, 1, 2, 3, 4] rfl)
    · have h := (if_neg c26).symm.trans h
      refine lv_iconst (v := 1) hx hb (zat zrX10_worth_0_ok 14 rfl) (by decide) ?_
      refine lv_goto (tgt := 34) hx hb (zat zrX10_worth_0_ok 15 rfl) (by decide) ?_
      exact J34 (1 : Int32) H _ ls h (by decide) hP hD hS (lv_sub hl [0, 1, 2, 3, 4] rfl)
noncomputable def zrX3_unsold_0 : List ZR := zc 0 true (.iconst 0) 1 (zc 1 true (.istore_n 2) 1 (zc 2 true (.iconst 0) 1 (zc 3 true (.istore_n 3) 1 (zc 4 true (.iload_n 3) 1 (zc 5 true (.aload_n 0) 1 (zc 6 true (.getfield 21) 3 (zc 9 true (.if_icmp .ge 25) 3 (zc 12 true (.aload_n 1) 1 (zc 13 true (.getfield 25) 3 (zc 16 true (.iload_n 3) 1 (zc 17 true (.iaload) 1 (zc 18 true (.iconst 1) 1 (zc 19 true (.if_icmp .ne 9) 3 (zc 22 true (.iload_n 2) 1 (zc 23 true (.iconst 1) 1 (zc 24 true (.iload_n 3) 1 (zc 25 true (.ishl) 1 (zc 26 true (.ior) 1 (zc 27 true (.istore_n 2) 1 (zc 28 true (.iinc 3 1) 3 (zc 31 true (.goto (-27)) 3 (zc 34 true (.iload_n 2) 1 (zc 35 true (.ireturn) 1 ([]))))))))))))))))))))))))
theorem zrX3_unsold_0_ok : zck 0 ((zby cX3_unsold).drop 0) zrX3_unsold_0 = true := by decide +kernel
def vfX3_unsold : List Cond := List.cons (.code yX3_unsold cX3_unsold 4 (some .int)) (apW [.fieldLink RX3 21 "HookPier$Plan" "answers" "I", .fieldLink RX3 25 "HookPier$Now" "stage" "[I"] (apW wsX60 (wsX40)))
theorem ifX3_unsold_X6 : ∀ w ∈ wsX60, w ∈ vfX3_unsold := fun _ h => (List.mem_cons_of_mem _ (List.mem_append_right _ (List.mem_append_left _ h)))
theorem ifX3_unsold_X4 : ∀ w ∈ wsX40, w ∈ vfX3_unsold := fun _ h => (List.mem_cons_of_mem _ (List.mem_append_right _ (List.mem_append_right _ h)))
theorem qfX3_unsold : Good vfX3_unsold := gd_cons (by decide +kernel) (gd_app (gd_dec (by decide +kernel) : Good [.fieldLink RX3 21 "HookPier$Plan" "answers" "I", .fieldLink RX3 25 "HookPier$Now" "stage" "[I"]) (gd_app qsX6 qsX4))
set_option maxHeartbeats 2000000 in
set_option maxRecDepth 100000 in
theorem kfX3_unsold (l : Launch) (dC : Nat → ClassId) (dI : Nat → Nat → Nat) (a0 : Nat) (a1 : Nat) (up : Nat → Nat) (kp : Nat → ClassId) (un : Nat → Nat) (kn : Nat → ClassId) (p_p : TX6_p) (n_n : TX4_n) (sz : Nat) (out : Int32) (h : f_X3_unsold p_p n_n = some out) : KDi l yX3_unsold vfX3_unsold ({ frames := 0, cells := 0, slots := 0, locals := 0 }) (dC, dI) [.ref a0, .ref a1] sz (bX6 a0 up kp p_p (bX4 a1 un kn n_n [])) (tX6 kp (tX4 kn ([]))) (fun (r : Int32) _ => r = out) 0 0 := by
  refine Met.ofW (cc := cX3_unsold) (maxL := 4) (ret := (some .int)) (by decide) rfl ?_
  intro p e s m args below meth c s₁ B0 hml hv
  obtain ⟨rfl, hsz, hP, hK, hD0, hN⟩ := hv
  have hx := B0.exec
  have hb := B0.bytes
  have hr := B0.returns
  have hts := atoms_spec (ws := vfX3_unsold) B0.pre
  have hown : s.vm.findClass RX3 = some m.cls := findClass_of_methodNamed B0.named
  have hlocks := B0.notSynchronized
  subst hsz
  have hD := hD0.self (sz := s.heap.size)
  generalize hAe : va_A (bX6 a0 up kp p_p (bX4 a1 un kn n_n [])) s.heap.size = A at hD ⊢
  have hA : ∀ q : Nat, s.heap.size ≤ q → A q := fun q h => by rw [← hAe]; exact Or.inr h
  have hS : va_S A s.heap s.heap [] := va_S.rf
  have hP : va_P (dC, dI) vwCl (bX6 a0 up kp p_p (bX4 a1 un kn n_n [])) s.heap := hP
  have hl := lv_entry ([.ref a0, .ref a1]) (n := 4) (Nat.le_of_ble_eq_true rfl)
  rw [lg_entry_eq]
  generalize (lg_sl ([.ref a0, .ref a1]) ++ List.replicate (4 - (lg_sl ([.ref a0, .ref a1])).length) Slot.unset).toArray = ls at hl ⊢
  have hl : lv_has ls 4 [(0, .ref a0), (1, .ref a1)] := hl
  refine W_q (fun QQ hQQ => ?_)
  rw [f_X3_unsold] at h
  refine lv_iconst (v := 0) hx hb (zat zrX3_unsold_0_ok 0 rfl) (by decide) ?_
  refine lv_istore_n (lv' := [(2, .int 0), (0, .ref a0), (1, .ref a1)]) hx hb (zat zrX3_unsold_0_ok 1 rfl) rfl hl (by decide) rfl (fun ls hl => ?_)
  refine lv_iconst (v := 0) hx hb (zat zrX3_unsold_0_ok 2 rfl) (by decide) ?_
  refine lv_istore_n (lv' := [(3, .int 0), (2, .int 0), (0, .ref a0), (1, .ref a1)]) hx hb (zat zrX3_unsold_0_ok 3 rfl) rfl hl (by decide) rfl (fun ls hl => ?_)
  have L4 : ∀ (n4 : Nat) (v4_l3 : Int32) (v4_l2 : Int32) (H : Heap) (locs : List Loc) (ls : Array Slot), f_X3_unsold_L4 p_p n_n n4 v4_l3 v4_l2 = some out → va_P (dC, dI) vwCl (bX6 a0 up kp p_p (bX4 a1 un kn n_n [])) H → va_D A (bX6 a0 up kp p_p (bX4 a1 un kn n_n [])) → va_S A s.heap H locs → lv_has ls 4 [(3, .int v4_l3), (2, .int v4_l2), (0, .ref a0), (1, .ref a1)] → W p l e (headSpec vfX3_unsold { frames := 0, cells := 0, slots := 0, locals := 0 }).room s m ([.ref a0, .ref a1]).toArray below meth c H locs 0 0 QQ (F0 m 4 ls []) := by
    intro n4
    induction n4 with
    | zero =>
      intro v4_l3 v4_l2 H locs ls h  _ _ _ _
      rw [f_X3_unsold_L4] at h
      cases h
    | succ n4 ih4 =>
      intro v4_l3 v4_l2 H locs ls h  hP hD hS hl
      rw [f_X3_unsold_L4] at h
      refine lv_iload_n hx hb (zat zrX3_unsold_0_ok 4 rfl) rfl (lv_at hl 0 rfl) ?_
      refine lv_aload_n hx hb (zat zrX3_unsold_0_ok 5 rfl) rfl (lv_at hl 2 rfl) ?_
      refine va_get (D := (dC, dI)) (ci := 4) (v := .int p_p.2.2.2.2.2.2.1) (C := RX6) (T := TX6) (N := 18) hx hb hts ifX3_unsold_X6 hown hK hP 0 rfl rfl 6 (by decide) (hts (.fieldLink RX3 21 "HookPier$Plan" "answers" "I") (List.mem_of_getElem? (i := 1) rfl)) (fun _ h9 => h9) rfl (zat zrX3_unsold_0_ok 6 rfl) ?_
      refine lv_icmp_ge (tgt := 34) hx hb (zat zrX3_unsold_0_ok 7 rfl) (by decide) (fun c9 => ?_) (fun c9 => ?_)
      · have h := (if_pos c9).symm.trans h
        refine lv_iload_n hx hb (zat zrX3_unsold_0_ok 22 rfl) rfl (lv_at hl 1 rfl) ?_
        obtain rfl := Option.some.inj h
        obtain ⟨hP9, hD9⟩ := pd_sub (bX6 a0 up kp p_p (bX4 a1 un kn n_n [])) [0, 1, 2, 3, 4, 5, 6, 7, 8, 9, 10, 11, 12, 13, 14] hP hD (by decide) rfl
        have hK9 := hK.sub (tys' := []) [] rfl
        rw [hQQ]
        exact W.iret (v := v4_l2) hx hb hr (fun t ht hW => ⟨⟨v4_l2, (), rfl, rfl, by rw [ht]; exact hP9, va_K.moved hW.alike hK9, hD9⟩, hS.F ht⟩) hS.2.2 (zat zrX3_unsold_0_ok 23 rfl)
      · have h := (if_neg c9).symm.trans h
        refine lv_aload_n hx hb (zat zrX3_unsold_0_ok 8 rfl) rfl (lv_at hl 3 rfl) ?_
        refine va_get (D := (dC, dI)) (ci := 3) (v := .ref (un 0)) (C := RX4) (T := TX4) (N := 7) hx hb hts ifX3_unsold_X4 hown hK hP 10 rfl rfl 3 (by decide) (hts (.fieldLink RX3 25 "HookPier$Now" "stage" "[I") (List.mem_of_getElem? (i := 2) rfl)) (fun _ h9 => h9) rfl (zat zrX3_unsold_0_ok 9 rfl) ?_
        refine lv_iload_n hx hb (zat zrX3_unsold_0_ok 10 rfl) rfl (lv_at hl 0 rfl) ?_
        obtain ⟨hg17, h⟩ := gA_of h
        refine va_iald hx hb hK hP 11 9 rfl rfl hg17 (zat zrX3_unsold_0_ok 11 rfl) ?_
        refine lv_iconst (v := 1) hx hb (zat zrX3_unsold_0_ok 12 rfl) (by decide) ?_
        have J28 : ∀ (v28_l2 : Int32) (H : Heap) (locs : List Loc) (ls : Array Slot), f_X3_unsold_J28 (f_X3_unsold_L4 p_p n_n n4) v4_l3 v28_l2 = some out → va_P (dC, dI) vwCl (bX6 a0 up kp p_p (bX4 a1 un kn n_n [])) H → va_D A (bX6 a0 up kp p_p (bX4 a1 un kn n_n [])) → va_S A s.heap H locs → lv_has ls 4 [(3, .int v4_l3), (2, .int v28_l2), (0, .ref a0), (1, .ref a1)] → W p l e (headSpec vfX3_unsold { frames := 0, cells := 0, slots := 0, locals := 0 }).room s m ([.ref a0, .ref a1]).toArray below meth c H locs 0 0 QQ (F0 m 28 ls []) := by
          intro v28_l2 H locs ls h  hP hD hS hl
          rw [f_X3_unsold_J28] at h
          refine lv_iinc (v := (v4_l3 + (1 : Int32))) (lv' := [(3, .int (v4_l3 + (1 : Int32))), (2, .int v28_l2), (0, .ref a0), (1, .ref a1)]) hx hb (zat zrX3_unsold_0_ok 20 rfl) hl (k := 0) rfl rfl (by decide) rfl (fun ls hl => ?_)
          refine lv_goto (tgt := 4) hx hb (zat zrX3_unsold_0_ok 21 rfl) (by decide) ?_
          exact ih4 (v4_l3 + (1 : Int32)) v28_l2 H _ ls h  hP hD hS (lv_sub hl [0, 1, 2, 3] rfl)
        refine lv_icmp_ne (tgt := 28) hx hb (zat zrX3_unsold_0_ok 13 rfl) (by decide) (fun c19 => ?_) (fun c19 => ?_)
        · have h := (if_neg c19).symm.trans h
          exact J28 v4_l2 H _ ls h  hP hD hS (lv_sub hl [0, 1, 2, 3] rfl)
        · have h := (if_pos c19).symm.trans h
          refine lv_iload_n hx hb (zat zrX3_unsold_0_ok 14 rfl) rfl (lv_at hl 1 rfl) ?_
          refine lv_iconst (v := 1) hx hb (zat zrX3_unsold_0_ok 15 rfl) (by decide) ?_
          refine lv_iload_n hx hb (zat zrX3_unsold_0_ok 16 rfl) rfl (lv_at hl 0 rfl) ?_
          refine lv_ishl hx hb (zat zrX3_unsold_0_ok 17 rfl) ?_
          refine lv_ior hx hb (zat zrX3_unsold_0_ok 18 rfl) ?_
          refine lv_istore_n (lv' := [(2, .int (v4_l2 ||| ((1 : Int32) <<< (v4_l3 &&& 31)))), (3, .int v4_l3), (0, .ref a0), (1, .ref a1)]) hx hb (zat zrX3_unsold_0_ok 19 rfl) rfl hl (by decide) rfl (fun ls hl => ?_)
          exact J28 (v4_l2 ||| ((1 : Int32) <<< (v4_l3 &&& 31))) H _ ls h  hP hD hS (lv_sub hl [1, 0, 2, 3] rfl)
  exact L4 FU (0 : Int32) (0 : Int32) s.heap _ ls h  hP hD hS (lv_sub hl [0, 1, 2, 3] rfl)
noncomputable def zrX3_worthTogether_0 : List ZR := zc 0 true (.iconst 0) 1 (zc 1 true (.istore 4) 2 (zc 3 true (.iconst 0) 1 (zc 4 true (.istore 5) 2 (zc 6 true (.iload 5) 2 (zc 8 true (.aload_n 0) 1 (zc 9 true (.getfield 21) 3 (zc 12 true (.if_icmp .ge 32) 3 (zc 15 true (.iload_n 2) 1 (zc 16 true (.iload 5) 2 (zc 18 true (.ishr) 1 (zc 19 true (.iconst 1) 1 (zc 20 true (.iand) 1 (zc 21 true (.iconst 1) 1 (zc 22 true (.if_icmp .ne 16) 3 (zc 25 true (.iload 4) 2 (zc 27 true (.aload_n 0) 1 (zc 28 true (.aload_n 1) 1 (zc 29 true (.iload 5) 2 (zc 31 true (.iload_n 3) 1 (zc 32 true (.invokestatic 28) 3 (zc 35 true (.iadd) 1 (zc 36 true (.istore 4) 2 (zc 38 true (.iinc 5 1) 3 (zc 41 true (.goto (-35)) 3 (zc 44 true (.iload 4) 2 (zc 46 true (.ireturn) 1 ([])))))))))))))))))))))))))))
theorem zrX3_worthTogether_0_ok : zck 0 ((zby cX3_worthTogether).drop 0) zrX3_worthTogether_0 = true := by decide +kernel
def vfX3_worthTogether : List Cond := List.cons (.code yX3_worthTogether cX3_worthTogether 6 (some .int)) (apW [.fieldLink RX3 21 "HookPier$Plan" "answers" "I", .methodLink RX3 28 yX3_worthOn, .static yX3_worthOn, .initialized RX3] (apW wsX60 (vfX3_worthOn)))
theorem ifX3_worthTogether_X6 : ∀ w ∈ wsX60, w ∈ vfX3_worthTogether := fun _ h => (List.mem_cons_of_mem _ (List.mem_append_right _ (List.mem_append_left _ h)))
theorem qfX3_worthTogether : Good vfX3_worthTogether := gd_cons (by decide +kernel) (gd_app (gd_dec (by decide +kernel) : Good [.fieldLink RX3 21 "HookPier$Plan" "answers" "I", .methodLink RX3 28 yX3_worthOn, .static yX3_worthOn, .initialized RX3]) (gd_app qsX6 qfX3_worthOn))
theorem gfX3_worthTogether_0 : GoodIn vfX3_worthTogether (va_wsS RX3 28 yX3_worthOn vfX3_worthOn) := goodIn_app (goodIn_r [.methodLink RX3 28 yX3_worthOn, .static yX3_worthOn, .initialized RX3] [2, 3, 4] rfl (by decide +kernel)) (goodIn_m (fun _ h => (List.mem_cons_of_mem _ (List.mem_append_right _ (List.mem_append_right _ h)))) qfX3_worthOn)
set_option maxHeartbeats 2000000 in
set_option maxRecDepth 100000 in
theorem kfX3_worthTogether (l : Launch) (dC : Nat → ClassId) (dI : Nat → Nat → Nat) (a0 : Nat) (a1 : Nat) (k2 : Int32) (k3 : Int32) (up : Nat → Nat) (kp : Nat → ClassId) (un : Nat → Nat) (kn : Nat → ClassId) (p_p : TX6_p) (n_n : TX4_n) (sz : Nat) (out : Int32) (h : f_X3_worthTogether k2 k3 p_p n_n = some out) : KDi l yX3_worthTogether vfX3_worthTogether ({ frames := 3, cells := 0, slots := 0, locals := 66 }) (dC, dI) [.ref a0, .ref a1, .int k2, .int k3] sz (bX6 a0 up kp p_p (bX4 a1 un kn n_n [])) (tX6 kp (tX4 kn ([]))) (fun (r : Int32) _ => r = out) 0 0 := by
  refine Met.ofW (cc := cX3_worthTogether) (maxL := 6) (ret := (some .int)) (by decide) rfl ?_
  intro p e s m args below meth c s₁ B0 hml hv
  obtain ⟨rfl, hsz, hP, hK, hD0, hN⟩ := hv
  have hx := B0.exec
  have hb := B0.bytes
  have hr := B0.returns
  have hts := atoms_spec (ws := vfX3_worthTogether) B0.pre
  have hown : s.vm.findClass RX3 = some m.cls := findClass_of_methodNamed B0.named
  have hlocks := B0.notSynchronized
  subst hsz
  have hD := hD0.self (sz := s.heap.size)
  generalize hAe : va_A (bX6 a0 up kp p_p (bX4 a1 un kn n_n [])) s.heap.size = A at hD ⊢
  have hA : ∀ q : Nat, s.heap.size ≤ q → A q := fun q h => by rw [← hAe]; exact Or.inr h
  have hS : va_S A s.heap s.heap [] := va_S.rf
  have hP : va_P (dC, dI) vwCl (bX6 a0 up kp p_p (bX4 a1 un kn n_n [])) s.heap := hP
  have hl := lv_entry ([.ref a0, .ref a1, .int k2, .int k3]) (n := 6) (Nat.le_of_ble_eq_true rfl)
  rw [lg_entry_eq]
  generalize (lg_sl ([.ref a0, .ref a1, .int k2, .int k3]) ++ List.replicate (6 - (lg_sl ([.ref a0, .ref a1, .int k2, .int k3])).length) Slot.unset).toArray = ls at hl ⊢
  have hl : lv_has ls 6 [(0, .ref a0), (1, .ref a1), (2, .int k2), (3, .int k3)] := hl
  refine W_q (fun QQ hQQ => ?_)
  rw [f_X3_worthTogether] at h
  refine lv_iconst (v := 0) hx hb (zat zrX3_worthTogether_0_ok 0 rfl) (by decide) ?_
  refine lv_istore (lv' := [(4, .int 0), (0, .ref a0), (1, .ref a1), (2, .int k2), (3, .int k3)]) hx hb (zat zrX3_worthTogether_0_ok 1 rfl) hl (by decide) rfl (fun ls hl => ?_)
  refine lv_iconst (v := 0) hx hb (zat zrX3_worthTogether_0_ok 2 rfl) (by decide) ?_
  refine lv_istore (lv' := [(5, .int 0), (4, .int 0), (0, .ref a0), (1, .ref a1), (2, .int k2), (3, .int k3)]) hx hb (zat zrX3_worthTogether_0_ok 3 rfl) hl (by decide) rfl (fun ls hl => ?_)
  have L6 : ∀ (n6 : Nat) (v6_l5 : Int32) (v6_l4 : Int32) (H : Heap) (locs : List Loc) (ls : Array Slot), f_X3_worthTogether_L6 k2 k3 p_p n_n n6 v6_l5 v6_l4 = some out → va_P (dC, dI) vwCl (bX6 a0 up kp p_p (bX4 a1 un kn n_n [])) H → va_D A (bX6 a0 up kp p_p (bX4 a1 un kn n_n [])) → va_S A s.heap H locs → lv_has ls 6 [(5, .int v6_l5), (4, .int v6_l4), (0, .ref a0), (1, .ref a1), (2, .int k2), (3, .int k3)] → W p l e (headSpec vfX3_worthTogether { frames := 3, cells := 0, slots := 0, locals := 66 }).room s m ([.ref a0, .ref a1, .int k2, .int k3]).toArray below meth c H locs 0 0 QQ (F0 m 6 ls []) := by
    intro n6
    induction n6 with
    | zero =>
      intro v6_l5 v6_l4 H locs ls h  _ _ _ _
      rw [f_X3_worthTogether_L6] at h
      cases h
    | succ n6 ih6 =>
      intro v6_l5 v6_l4 H locs ls h  hP hD hS hl
      rw [f_X3_worthTogether_L6] at h
      refine lv_iload hx hb (zat zrX3_worthTogether_0_ok 4 rfl) (lv_at hl 0 rfl) ?_
      refine lv_aload_n hx hb (zat zrX3_worthTogether_0_ok 5 rfl) rfl (lv_at hl 2 rfl) ?_
      refine va_get (D := (dC, dI)) (ci := 4) (v := .int p_p.2.2.2.2.2.2.1) (C := RX6) (T := TX6) (N := 18) hx hb hts ifX3_worthTogether_X6 hown hK hP 0 rfl rfl 6 (by decide) (hts (.fieldLink RX3 21 "HookPier$Plan" "answers" "I") (List.mem_of_getElem? (i := 1) rfl)) (fun _ h9 => h9) rfl (zat zrX3_worthTogether_0_ok 6 rfl) ?_
      refine lv_icmp_ge (tgt := 44) hx hb (zat zrX3_worthTogether_0_ok 7 rfl) (by decide) (fun c12 => ?_) (fun c12 => ?_)
      · have h := (if_pos c12).symm.trans h
        refine lv_iload hx hb (zat zrX3_worthTogether_0_ok 25 rfl) (lv_at hl 1 rfl) ?_
        obtain rfl := Option.some.inj h
        obtain ⟨hP9, hD9⟩ := pd_sub (bX6 a0 up kp p_p (bX4 a1 un kn n_n [])) [0, 1, 2, 3, 4, 5, 6, 7, 8, 9, 10, 11, 12, 13, 14] hP hD (by decide) rfl
        have hK9 := hK.sub (tys' := []) [] rfl
        rw [hQQ]
        exact W.iret (v := v6_l4) hx hb hr (fun t ht hW => ⟨⟨v6_l4, (), rfl, rfl, by rw [ht]; exact hP9, va_K.moved hW.alike hK9, hD9⟩, hS.F ht⟩) hS.2.2 (zat zrX3_worthTogether_0_ok 26 rfl)
      · have h := (if_neg c12).symm.trans h
        refine lv_iload_n hx hb (zat zrX3_worthTogether_0_ok 8 rfl) rfl (lv_at hl 4 rfl) ?_
        refine lv_iload hx hb (zat zrX3_worthTogether_0_ok 9 rfl) (lv_at hl 0 rfl) ?_
        refine lv_ishr hx hb (zat zrX3_worthTogether_0_ok 10 rfl) ?_
        refine lv_iconst (v := 1) hx hb (zat zrX3_worthTogether_0_ok 11 rfl) (by decide) ?_
        refine lv_iand hx hb (zat zrX3_worthTogether_0_ok 12 rfl) ?_
        refine lv_iconst (v := 1) hx hb (zat zrX3_worthTogether_0_ok 13 rfl) (by decide) ?_
        have J38 : ∀ (v38_l4 : Int32) (H : Heap) (locs : List Loc) (ls : Array Slot), f_X3_worthTogether_J38 (f_X3_worthTogether_L6 k2 k3 p_p n_n n6) v6_l5 v38_l4 = some out → va_P (dC, dI) vwCl (bX6 a0 up kp p_p (bX4 a1 un kn n_n [])) H → va_D A (bX6 a0 up kp p_p (bX4 a1 un kn n_n [])) → va_S A s.heap H locs → lv_has ls 6 [(5, .int v6_l5), (4, .int v38_l4), (0, .ref a0), (1, .ref a1), (2, .int k2), (3, .int k3)] → W p l e (headSpec vfX3_worthTogether { frames := 3, cells := 0, slots := 0, locals := 66 }).room s m ([.ref a0, .ref a1, .int k2, .int k3]).toArray below meth c H locs 0 0 QQ (F0 m 38 ls []) := by
          intro v38_l4 H locs ls h  hP hD hS hl
          rw [f_X3_worthTogether_J38] at h
          refine lv_iinc (v := (v6_l5 + (1 : Int32))) (lv' := [(5, .int (v6_l5 + (1 : Int32))), (4, .int v38_l4), (0, .ref a0), (1, .ref a1), (2, .int k2), (3, .int k3)]) hx hb (zat zrX3_worthTogether_0_ok 23 rfl) hl (k := 0) rfl rfl (by decide) rfl (fun ls hl => ?_)
          refine lv_goto (tgt := 6) hx hb (zat zrX3_worthTogether_0_ok 24 rfl) (by decide) ?_
          exact ih6 (v6_l5 + (1 : Int32)) v38_l4 H _ ls h  hP hD hS (lv_sub hl [0, 1, 2, 3, 4, 5] rfl)
        refine lv_icmp_ne (tgt := 38) hx hb (zat zrX3_worthTogether_0_ok 14 rfl) (by decide) (fun c22 => ?_) (fun c22 => ?_)
        · have h := (if_neg c22).symm.trans h
          exact J38 v6_l4 H _ ls h  hP hD hS (lv_sub hl [0, 1, 2, 3, 4, 5] rfl)
        · have h := (if_pos c22).symm.trans h
          refine lv_iload hx hb (zat zrX3_worthTogether_0_ok 15 rfl) (lv_at hl 1 rfl) ?_
          refine lv_aload_n hx hb (zat zrX3_worthTogether_0_ok 16 rfl) rfl (lv_at hl 2 rfl) ?_
          refine lv_aload_n hx hb (zat zrX3_worthTogether_0_ok 17 rfl) rfl (lv_at hl 3 rfl) ?_
          refine lv_iload hx hb (zat zrX3_worthTogether_0_ok 18 rfl) (lv_at hl 0 rfl) ?_
          refine lv_iload_n hx hb (zat zrX3_worthTogether_0_ok 19 rfl) rfl (lv_at hl 5 rfl) ?_
          obtain ⟨o32, eo32, h⟩ := bd_of h
          refine ck_i (wc := (bX6 a0 up kp p_p (bX4 a1 un kn n_n []))) (wr := []) hP hD hK hS hA [0, 1, 2, 3, 4, 5, 6, 7, 8, 9, 10, 11, 12, 13, 14] [] rfl rfl (by decide) (by decide) (by decide) (fun hPc hDc => (va_runS (As := [.ref a0, .ref a1, .int v6_l5, .int k3]) (rest := [.int v6_l4]) ⟨hx, hb, hml, hown, hts⟩ (kfX3_worthOn l dC dI a0 a1 v6_l5 k3 up kp un kn p_p n_n H.size o32 eo32) (va_cwS 4 hts gfX3_worthTogether_0 rfl rfl rfl (by decide +kernel) ⟨(Nat.le_of_ble_eq_true rfl), (Nat.le_of_ble_eq_true rfl)⟩) (PS hPc (hK.sub (tys' := (tX6 kp (tX4 kn ([])))) [0, 1, 2, 3, 4, 5, 6, 7, 8, 9, 10, 11, 12] rfl) hDc hN) rfl rfl hl.1 rfl (lv_room (Nat.le_of_ble_eq_true rfl)) (zat zrX3_worthTogether_0_ok 20 rfl) ⟨(Nat.le_of_ble_eq_true rfl), (Nat.le_of_ble_eq_true rfl)⟩)) (fun r32 _ H locs hw hP hD _ hS => ?_)
          obtain rfl := hw.symm
          obtain ⟨hP, hD⟩ := pd_mk (bX6 a0 up kp p_p (bX4 a1 un kn n_n [])) hP hD
          refine lv_iadd hx hb (zat zrX3_worthTogether_0_ok 21 rfl) ?_
          refine lv_istore (lv' := [(4, .int (v6_l4 + o32)), (5, .int v6_l5), (0, .ref a0), (1, .ref a1), (2, .int k2), (3, .int k3)]) hx hb (zat zrX3_worthTogether_0_ok 22 rfl) hl (by decide) rfl (fun ls hl => ?_)
          exact J38 (v6_l4 + o32) H _ ls h  hP hD hS (lv_sub hl [1, 0, 2, 3, 4, 5] rfl)
  exact L6 FU (0 : Int32) (0 : Int32) s.heap _ ls h  hP hD hS (lv_sub hl [0, 1, 2, 3, 4, 5] rfl)
noncomputable def zrX3_bestLoad_0 : List ZR := zc 0 true (.aload_n 0) 1 (zc 1 true (.aload_n 1) 1 (zc 2 true (.invokestatic 34) 3 (zc 5 true (.istore_n 3) 1 (zc 6 true (.iconst 0) 1 (zc 7 true (.istore 4) 2 (zc 9 true (.iconst 0) 1 (zc 10 true (.istore 5) 2 (zc 12 true (.iconst 1) 1 (zc 13 true (.istore 6) 2 (zc 15 true (.iload 6) 2 (zc 17 true (.iload_n 3) 1 (zc 18 true (.if_icmp .gt 87) 3 (zc 21 true (.iload 6) 2 (zc 23 true (.iload_n 3) 1 (zc 24 true (.iconst (-1)) 1 (zc 25 true (.ixor) 1 (zc 26 true (.iand) 1 (zc 27 true (.ifCond .ne 72) 3 (zc 30 true (.iload 6) 2 (zc 32 true (.invokestatic 38) 3 (zc 35 true (.iload_n 2) 1 (zc 36 true (.if_icmp .gt 63) 3 (zc 39 true (.aload_n 0) 1 (zc 40 true (.aload_n 1) 1 (zc 41 true (.iload 6) 2 (zc 43 true (.aload_n 1) 1 (zc 44 true (.getfield 44) 3 (zc 47 true (.invokestatic 47) 3 (zc 50 true (.istore 7) 2 (zc 52 true (.iload 6) 2 (zc 54 true (.invokestatic 38) 3 (zc 57 true (.iload 4) 2 (zc 59 true (.invokestatic 38) 3 (zc 62 true (.if_icmp .ge 7) 3 (zc 65 true (.iconst 1) 1 (zc 66 true (.goto 4) 3 (zc 69 true (.iconst 0) 1 (zc 70 true (.istore 8) 2 (zc 72 true (.iload 7) 2 (zc 74 true (.iload 5) 2 (zc 76 true (.if_icmp .gt 15) 3 (zc 79 true (.iload 7) 2 (zc 81 true (.iload 5) 2 (zc 83 true (.if_icmp .ne 16) 3 (zc 86 true (.iload 8) 2 (zc 88 true (.ifCond .eq 11) 3 (zc 91 true (.iload 7) 2 (zc 93 true (.istore 5) 2 (zc 95 true (.iload 6) 2 (zc 97 true (.istore 4) 2 (zc 99 true (.iinc 6 1) 3 (zc 102 true (.goto (-87)) 3 (zc 105 true (.iload 4) 2 (zc 107 true (.ireturn) 1 ([])))))))))))))))))))))))))))))))))))))))))))))))))))))))
theorem zrX3_bestLoad_0_ok : zck 0 ((zby cX3_bestLoad).drop 0) zrX3_bestLoad_0 = true := by decide +kernel
def vfX3_bestLoad : List Cond := List.cons (.code yX3_bestLoad cX3_bestLoad 9 (some .int)) (apW [.methodLink RX3 34 yX3_unsold, .static yX3_unsold, .initialized RX3, .methodLink RX3 38 yJ6_bitCount_0f7a4, .static yJ6_bitCount_0f7a4, .initialized RJ6, .fieldLink RX3 44 "HookPier$Now" "today" "I", .methodLink RX3 47 yX3_worthTogether, .static yX3_worthTogether] (apW wsX40 (apW vfX3_unsold (apW vfJ6_bitCount_0f7a4 (vfX3_worthTogether)))))
theorem ifX3_bestLoad_X4 : ∀ w ∈ wsX40, w ∈ vfX3_bestLoad := fun _ h => (List.mem_cons_of_mem _ (List.mem_append_right _ (List.mem_append_left _ h)))
theorem qfX3_bestLoad : Good vfX3_bestLoad := gd_cons (by decide +kernel) (gd_app (gd_dec (by decide +kernel) : Good [.methodLink RX3 34 yX3_unsold, .static yX3_unsold, .initialized RX3, .methodLink RX3 38 yJ6_bitCount_0f7a4, .static yJ6_bitCount_0f7a4, .initialized RJ6, .fieldLink RX3 44 "HookPier$Now" "today" "I", .methodLink RX3 47 yX3_worthTogether, .static yX3_worthTogether]) (gd_app qsX4 (gd_app qfX3_unsold (gd_app qfJ6_bitCount_0f7a4 qfX3_worthTogether))))
theorem gfX3_bestLoad_0 : GoodIn vfX3_bestLoad (va_wsS RX3 34 yX3_unsold vfX3_unsold) := goodIn_app (goodIn_r [.methodLink RX3 34 yX3_unsold, .static yX3_unsold, .initialized RX3] [1, 2, 3] rfl (by decide +kernel)) (goodIn_m (fun _ h => (List.mem_cons_of_mem _ (List.mem_append_right _ (List.mem_append_right _ (List.mem_append_left _ h))))) qfX3_unsold)
theorem gfX3_bestLoad_1 : GoodIn vfX3_bestLoad (va_wsS RX3 38 yJ6_bitCount_0f7a4 vfJ6_bitCount_0f7a4) := goodIn_app (goodIn_r [.methodLink RX3 38 yJ6_bitCount_0f7a4, .static yJ6_bitCount_0f7a4, .initialized RJ6] [4, 5, 6] rfl (by decide +kernel)) (goodIn_m (fun _ h => (List.mem_cons_of_mem _ (List.mem_append_right _ (List.mem_append_right _ (List.mem_append_right _ (List.mem_append_left _ h)))))) qfJ6_bitCount_0f7a4)
theorem gfX3_bestLoad_2 : GoodIn vfX3_bestLoad (va_wsS RX3 47 yX3_worthTogether vfX3_worthTogether) := goodIn_app (goodIn_r [.methodLink RX3 47 yX3_worthTogether, .static yX3_worthTogether, .initialized RX3] [8, 9, 3] rfl (by decide +kernel)) (goodIn_m (fun _ h => (List.mem_cons_of_mem _ (List.mem_append_right _ (List.mem_append_right _ (List.mem_append_right _ (List.mem_append_right _ h)))))) qfX3_worthTogether)
set_option maxHeartbeats 2000000 in
set_option maxRecDepth 100000 in
theorem kfX3_bestLoad (l : Launch) (dC : Nat → ClassId) (dI : Nat → Nat → Nat) (a0 : Nat) (a1 : Nat) (k2 : Int32) (up : Nat → Nat) (kp : Nat → ClassId) (un : Nat → Nat) (kn : Nat → ClassId) (p_p : TX6_p) (n_n : TX4_n) (sz : Nat) (out : Int32) (h : f_X3_bestLoad k2 p_p n_n = some out) : KDi l yX3_bestLoad vfX3_bestLoad ({ frames := 4, cells := 0, slots := 0, locals := 91 }) (dC, dI) [.ref a0, .ref a1, .int k2] sz (bX6 a0 up kp p_p (bX4 a1 un kn n_n [])) (tX6 kp (tX4 kn ([]))) (fun (r : Int32) _ => r = out) 0 0 := by
  refine Met.ofW (cc := cX3_bestLoad) (maxL := 9) (ret := (some .int)) (by decide) rfl ?_
  intro p e s m args below meth c s₁ B0 hml hv
  obtain ⟨rfl, hsz, hP, hK, hD0, hN⟩ := hv
  have hx := B0.exec
  have hb := B0.bytes
  have hr := B0.returns
  have hts := atoms_spec (ws := vfX3_bestLoad) B0.pre
  have hown : s.vm.findClass RX3 = some m.cls := findClass_of_methodNamed B0.named
  have hlocks := B0.notSynchronized
  subst hsz
  have hD := hD0.self (sz := s.heap.size)
  generalize hAe : va_A (bX6 a0 up kp p_p (bX4 a1 un kn n_n [])) s.heap.size = A at hD ⊢
  have hA : ∀ q : Nat, s.heap.size ≤ q → A q := fun q h => by rw [← hAe]; exact Or.inr h
  have hS : va_S A s.heap s.heap [] := va_S.rf
  have hP : va_P (dC, dI) vwCl (bX6 a0 up kp p_p (bX4 a1 un kn n_n [])) s.heap := hP
  have hl := lv_entry ([.ref a0, .ref a1, .int k2]) (n := 9) (Nat.le_of_ble_eq_true rfl)
  rw [lg_entry_eq]
  generalize (lg_sl ([.ref a0, .ref a1, .int k2]) ++ List.replicate (9 - (lg_sl ([.ref a0, .ref a1, .int k2])).length) Slot.unset).toArray = ls at hl ⊢
  have hl : lv_has ls 9 [(0, .ref a0), (1, .ref a1), (2, .int k2)] := hl
  refine W_q (fun QQ hQQ => ?_)
  rw [f_X3_bestLoad] at h
  refine lv_aload_n hx hb (zat zrX3_bestLoad_0_ok 0 rfl) rfl (lv_at hl 0 rfl) ?_
  refine lv_aload_n hx hb (zat zrX3_bestLoad_0_ok 1 rfl) rfl (lv_at hl 1 rfl) ?_
  obtain ⟨o2, eo2, h⟩ := bd_of h
  refine ck_i (wc := (bX6 a0 up kp p_p (bX4 a1 un kn n_n []))) (wr := []) hP hD hK hS hA [0, 1, 2, 3, 4, 5, 6, 7, 8, 9, 10, 11, 12, 13, 14] [] rfl rfl (by decide) (by decide) (by decide) (fun hPc hDc => (va_runS (As := [.ref a0, .ref a1]) (rest := []) ⟨hx, hb, hml, hown, hts⟩ (kfX3_unsold l dC dI a0 a1 up kp un kn p_p n_n s.heap.size o2 eo2) (va_cwS 2 hts gfX3_bestLoad_0 rfl rfl rfl (by decide +kernel) ⟨(Nat.le_of_ble_eq_true rfl), (Nat.le_of_ble_eq_true rfl)⟩) (PS hPc (hK.sub (tys' := (tX6 kp (tX4 kn ([])))) [0, 1, 2, 3, 4, 5, 6, 7, 8, 9, 10, 11, 12] rfl) hDc hN) rfl rfl hl.1 rfl (lv_room (Nat.le_of_ble_eq_true rfl)) (zat zrX3_bestLoad_0_ok 2 rfl) ⟨(Nat.le_of_ble_eq_true rfl), (Nat.le_of_ble_eq_true rfl)⟩)) (fun r2 _ H locs hw hP hD _ hS => ?_)
  obtain rfl := hw.symm
  obtain ⟨hP, hD⟩ := pd_mk (bX6 a0 up kp p_p (bX4 a1 un kn n_n [])) hP hD
  refine lv_istore_n (lv' := [(3, .int o2), (0, .ref a0), (1, .ref a1), (2, .int k2)]) hx hb (zat zrX3_bestLoad_0_ok 3 rfl) rfl hl (by decide) rfl (fun ls hl => ?_)
  refine lv_iconst (v := 0) hx hb (zat zrX3_bestLoad_0_ok 4 rfl) (by decide) ?_
  refine lv_istore (lv' := [(4, .int 0), (3, .int o2), (0, .ref a0), (1, .ref a1), (2, .int k2)]) hx hb (zat zrX3_bestLoad_0_ok 5 rfl) hl (by decide) rfl (fun ls hl => ?_)
  refine lv_iconst (v := 0) hx hb (zat zrX3_bestLoad_0_ok 6 rfl) (by decide) ?_
  refine lv_istore (lv' := [(5, .int 0), (4, .int 0), (3, .int o2), (0, .ref a0), (1, .ref a1), (2, .int k2)]) hx hb (zat zrX3_bestLoad_0_ok 7 rfl) hl (by decide) rfl (fun ls hl => ?_)
  refine lv_iconst (v := 1) hx hb (zat zrX3_bestLoad_0_ok 8 rfl) (by decide) ?_
  refine lv_istore (lv' := [(6, .int 1), (5, .int 0), (4, .int 0), (3, .int o2), (0, .ref a0), (1, .ref a1), (2, .int k2)]) hx hb (zat zrX3_bestLoad_0_ok 9 rfl) hl (by decide) rfl (fun ls hl => ?_)
  have L15 : ∀ (n15 : Nat) (v15_l6 : Int32) (v15_l5 : Int32) (v15_l4 : Int32) (H : Heap) (locs : List Loc) (ls : Array Slot), f_X3_bestLoad_L15 k2 p_p n_n o2 n15 v15_l6 v15_l5 v15_l4 = some out → va_P (dC, dI) vwCl (bX6 a0 up kp p_p (bX4 a1 un kn n_n [])) H → va_D A (bX6 a0 up kp p_p (bX4 a1 un kn n_n [])) → va_S A s.heap H locs → lv_has ls 9 [(6, .int v15_l6), (5, .int v15_l5), (4, .int v15_l4), (3, .int o2), (0, .ref a0), (1, .ref a1), (2, .int k2)] → W p l e (headSpec vfX3_bestLoad { frames := 4, cells := 0, slots := 0, locals := 91 }).room s m ([.ref a0, .ref a1, .int k2]).toArray below meth c H locs 0 0 QQ (F0 m 15 ls []) := by
    intro n15
    induction n15 with
    | zero =>
      intro v15_l6 v15_l5 v15_l4 H locs ls h  _ _ _ _
      rw [f_X3_bestLoad_L15] at h
      cases h
    | succ n15 ih15 =>
      intro v15_l6 v15_l5 v15_l4 H locs ls h  hP hD hS hl
      rw [f_X3_bestLoad_L15] at h
      refine lv_iload hx hb (zat zrX3_bestLoad_0_ok 10 rfl) (lv_at hl 0 rfl) ?_
      refine lv_iload_n hx hb (zat zrX3_bestLoad_0_ok 11 rfl) rfl (lv_at hl 3 rfl) ?_
      refine lv_icmp_gt (tgt := 105) hx hb (zat zrX3_bestLoad_0_ok 12 rfl) (by decide) (fun c18 => ?_) (fun c18 => ?_)
      · have h := (if_pos c18).symm.trans h
        refine lv_iload hx hb (zat zrX3_bestLoad_0_ok 53 rfl) (lv_at hl 2 rfl) ?_
        obtain rfl := Option.some.inj h
        obtain ⟨hP9, hD9⟩ := pd_sub (bX6 a0 up kp p_p (bX4 a1 un kn n_n [])) [0, 1, 2, 3, 4, 5, 6, 7, 8, 9, 10, 11, 12, 13, 14] hP hD (by decide) rfl
        have hK9 := hK.sub (tys' := []) [] rfl
        rw [hQQ]
        exact W.iret (v := v15_l4) hx hb hr (fun t ht hW => ⟨⟨v15_l4, (), rfl, rfl, by rw [ht]; exact hP9, va_K.moved hW.alike hK9, hD9⟩, hS.F ht⟩) hS.2.2 (zat zrX3_bestLoad_0_ok 54 rfl)
      · have h := (if_neg c18).symm.trans h
        refine lv_iload hx hb (zat zrX3_bestLoad_0_ok 13 rfl) (lv_at hl 0 rfl) ?_
        refine lv_iload_n hx hb (zat zrX3_bestLoad_0_ok 14 rfl) rfl (lv_at hl 3 rfl) ?_
        refine lv_iconst (v := (-1)) hx hb (zat zrX3_bestLoad_0_ok 15 rfl) (by decide) ?_
        refine lv_ixor hx hb (zat zrX3_bestLoad_0_ok 16 rfl) ?_
        refine lv_iand hx hb (zat zrX3_bestLoad_0_ok 17 rfl) ?_
        have J99 : ∀ (v99_l5 : Int32) (v99_l4 : Int32) (H : Heap) (locs : List Loc) (ls : Array Slot), f_X3_bestLoad_J99 (f_X3_bestLoad_L15 k2 p_p n_n o2 n15) v15_l6 v99_l5 v99_l4 = some out → va_P (dC, dI) vwCl (bX6 a0 up kp p_p (bX4 a1 un kn n_n [])) H → va_D A (bX6 a0 up kp p_p (bX4 a1 un kn n_n [])) → va_S A s.heap H locs → lv_has ls 9 [(6, .int v15_l6), (5, .int v99_l5), (4, .int v99_l4), (3, .int o2), (0, .ref a0), (1, .ref a1), (2, .int k2)] → W p l e (headSpec vfX3_bestLoad { frames := 4, cells := 0, slots := 0, locals := 91 }).room s m ([.ref a0, .ref a1, .int k2]).toArray below meth c H locs 0 0 QQ (F0 m 99 ls []) := by
          intro v99_l5 v99_l4 H locs ls h  hP hD hS hl
          rw [f_X3_bestLoad_J99] at h
          refine lv_iinc (v := (v15_l6 + (1 : Int32))) (lv' := [(6, .int (v15_l6 + (1 : Int32))), (5, .int v99_l5), (4, .int v99_l4), (3, .int o2), (0, .ref a0), (1, .ref a1), (2, .int k2)]) hx hb (zat zrX3_bestLoad_0_ok 51 rfl) hl (k := 0) rfl rfl (by decide) rfl (fun ls hl => ?_)
          refine lv_goto (tgt := 15) hx hb (zat zrX3_bestLoad_0_ok 52 rfl) (by decide) ?_
          exact ih15 (v15_l6 + (1 : Int32)) v99_l5 v99_l4 H _ ls h  hP hD hS (lv_sub hl [0, 1, 2, 3, 4, 5, 6] rfl)
        refine lv_if_ne (tgt := 99) hx hb (zat zrX3_bestLoad_0_ok 18 rfl) (by decide) (fun c27 => ?_) (fun c27 => ?_)
        · have h := (if_neg c27).symm.trans h
          exact J99 v15_l5 v15_l4 H _ ls h  hP hD hS (lv_sub hl [0, 1, 2, 3, 4, 5, 6] rfl)
        · have h := (if_pos c27).symm.trans h
          refine lv_iload hx hb (zat zrX3_bestLoad_0_ok 19 rfl) (lv_at hl 0 rfl) ?_
          obtain ⟨o32, eo32⟩ : ∃ o, o = f_J6_bitCount_0f7a4 v15_l6 := ⟨_, rfl⟩
          have h := nm_of h o32 eo32
          refine ck_i (wc := []) (wr := (bX6 a0 up kp p_p (bX4 a1 un kn n_n []))) hP hD hK hS hA [] [0, 1, 2, 3, 4, 5, 6, 7, 8, 9, 10, 11, 12, 13, 14] rfl rfl (by decide) (by decide) (by decide) (fun hPc hDc => (va_runS (As := [.int v15_l6]) (rest := []) ⟨hx, hb, hml, hown, hts⟩ (kfJ6_bitCount_0f7a4 l dC dI v15_l6 H.size o32 eo32.symm) (va_cwS 1 hts gfX3_bestLoad_1 rfl rfl rfl (by decide +kernel) ⟨(Nat.le_of_ble_eq_true rfl), (Nat.le_of_ble_eq_true rfl)⟩) (PS hPc (hK.sub (tys' := ([])) [] rfl) hDc hN) rfl rfl hl.1 rfl (lv_room (Nat.le_of_ble_eq_true rfl)) (zat zrX3_bestLoad_0_ok 20 rfl) ⟨(Nat.le_of_ble_eq_true rfl), (Nat.le_of_ble_eq_true rfl)⟩)) (fun r32 _ H locs hw hP hD _ hS => ?_)
          obtain rfl := hw.symm
          obtain ⟨hP, hD⟩ := pd_mk (bX6 a0 up kp p_p (bX4 a1 un kn n_n [])) hP hD
          refine lv_iload_n hx hb (zat zrX3_bestLoad_0_ok 21 rfl) rfl (lv_at hl 6 rfl) ?_
          refine lv_icmp_gt (tgt := 99) hx hb (zat zrX3_bestLoad_0_ok 22 rfl) (by decide) (fun c36 => ?_) (fun c36 => ?_)
          · have h := (if_pos c36).symm.trans h
            exact J99 v15_l5 v15_l4 H _ ls h  hP hD hS (lv_sub hl [0, 1, 2, 3, 4, 5, 6] rfl)
          · have h := (if_neg c36).symm.trans h
            refine lv_aload_n hx hb (zat zrX3_bestLoad_0_ok 23 rfl) rfl (lv_at hl 4 rfl) ?_
            refine lv_aload_n hx hb (zat zrX3_bestLoad_0_ok 24 rfl) rfl (lv_at hl 5 rfl) ?_
            refine lv_iload hx hb (zat zrX3_bestLoad_0_ok 25 rfl) (lv_at hl 0 rfl) ?_
            refine lv_aload_n hx hb (zat zrX3_bestLoad_0_ok 26 rfl) rfl (lv_at hl 5 rfl) ?_
            refine va_get (D := (dC, dI)) (ci := 3) (v := .int n_n.1) (C := RX4) (T := TX4) (N := 7) hx hb hts ifX3_bestLoad_X4 hown hK hP 10 rfl rfl 0 (by decide) (hts (.fieldLink RX3 44 "HookPier$Now" "today" "I") (List.mem_of_getElem? (i := 7) rfl)) (fun _ h9 => h9) rfl (zat zrX3_bestLoad_0_ok 27 rfl) ?_
            obtain ⟨o47, eo47, h⟩ := bd_of h
            refine ck_i (wc := (bX6 a0 up kp p_p (bX4 a1 un kn n_n []))) (wr := []) hP hD hK hS hA [0, 1, 2, 3, 4, 5, 6, 7, 8, 9, 10, 11, 12, 13, 14] [] rfl rfl (by decide) (by decide) (by decide) (fun hPc hDc => (va_runS (As := [.ref a0, .ref a1, .int v15_l6, .int n_n.1]) (rest := []) ⟨hx, hb, hml, hown, hts⟩ (kfX3_worthTogether l dC dI a0 a1 v15_l6 n_n.1 up kp un kn p_p n_n H.size o47 eo47) (va_cwS 4 hts gfX3_bestLoad_2 rfl rfl rfl (by decide +kernel) ⟨(Nat.le_of_ble_eq_true rfl), (Nat.le_of_ble_eq_true rfl)⟩) (PS hPc (hK.sub (tys' := (tX6 kp (tX4 kn ([])))) [0, 1, 2, 3, 4, 5, 6, 7, 8, 9, 10, 11, 12] rfl) hDc hN) rfl rfl hl.1 rfl (lv_room (Nat.le_of_ble_eq_true rfl)) (zat zrX3_bestLoad_0_ok 28 rfl) ⟨(Nat.le_of_ble_eq_true rfl), (Nat.le_of_ble_eq_true rfl)⟩)) (fun r47 _ H locs hw hP hD _ hS => ?_)
            obtain rfl := hw.symm
            obtain ⟨hP, hD⟩ := pd_mk (bX6 a0 up kp p_p (bX4 a1 un kn n_n [])) hP hD
            refine lv_istore (lv' := [(7, .int o47), (6, .int v15_l6), (5, .int v15_l5), (4, .int v15_l4), (3, .int o2), (0, .ref a0), (1, .ref a1), (2, .int k2)]) hx hb (zat zrX3_bestLoad_0_ok 29 rfl) hl (by decide) rfl (fun ls hl => ?_)
            refine lv_iload hx hb (zat zrX3_bestLoad_0_ok 30 rfl) (lv_at hl 1 rfl) ?_
            obtain ⟨o54, eo54⟩ : ∃ o, o = f_J6_bitCount_0f7a4 v15_l6 := ⟨_, rfl⟩
            have h := nm_of h o54 eo54
            refine ck_i (wc := []) (wr := (bX6 a0 up kp p_p (bX4 a1 un kn n_n []))) hP hD hK hS hA [] [0, 1, 2, 3, 4, 5, 6, 7, 8, 9, 10, 11, 12, 13, 14] rfl rfl (by decide) (by decide) (by decide) (fun hPc hDc => (va_runS (As := [.int v15_l6]) (rest := []) ⟨hx, hb, hml, hown, hts⟩ (kfJ6_bitCount_0f7a4 l dC dI v15_l6 H.size o54 eo54.symm) (va_cwS 1 hts gfX3_bestLoad_1 rfl rfl rfl (by decide +kernel) ⟨(Nat.le_of_ble_eq_true rfl), (Nat.le_of_ble_eq_true rfl)⟩) (PS hPc (hK.sub (tys' := ([])) [] rfl) hDc hN) rfl rfl hl.1 rfl (lv_room (Nat.le_of_ble_eq_true rfl)) (zat zrX3_bestLoad_0_ok 31 rfl) ⟨(Nat.le_of_ble_eq_true rfl), (Nat.le_of_ble_eq_true rfl)⟩)) (fun r54 _ H locs hw hP hD _ hS => ?_)
            obtain rfl := hw.symm
            obtain ⟨hP, hD⟩ := pd_mk (bX6 a0 up kp p_p (bX4 a1 un kn n_n [])) hP hD
            refine lv_iload hx hb (zat zrX3_bestLoad_0_ok 32 rfl) (lv_at hl 3 rfl) ?_
            obtain ⟨o59, eo59⟩ : ∃ o, o = f_J6_bitCount_0f7a4 v15_l4 := ⟨_, rfl⟩
            have h := nm_of h o59 eo59
            refine ck_i (wc := []) (wr := (bX6 a0 up kp p_p (bX4 a1 un kn n_n []))) hP hD hK hS hA [] [0, 1, 2, 3, 4, 5, 6, 7, 8, 9, 10, 11, 12, 13, 14] rfl rfl (by decide) (by decide) (by decide) (fun hPc hDc => (va_runS (As := [.int v15_l4]) (rest := [.int o54]) ⟨hx, hb, hml, hown, hts⟩ (kfJ6_bitCount_0f7a4 l dC dI v15_l4 H.size o59 eo59.symm) (va_cwS 1 hts gfX3_bestLoad_1 rfl rfl rfl (by decide +kernel) ⟨(Nat.le_of_ble_eq_true rfl), (Nat.le_of_ble_eq_true rfl)⟩) (PS hPc (hK.sub (tys' := ([])) [] rfl) hDc hN) rfl rfl hl.1 rfl (lv_room (Nat.le_of_ble_eq_true rfl)) (zat zrX3_bestLoad_0_ok 33 rfl) ⟨(Nat.le_of_ble_eq_true rfl), (Nat.le_of_ble_eq_true rfl)⟩)) (fun r59 _ H locs hw hP hD _ hS => ?_)
            obtain rfl := hw.symm
            obtain ⟨hP, hD⟩ := pd_mk (bX6 a0 up kp p_p (bX4 a1 un kn n_n [])) hP hD
            have J70 : ∀ (v70_t0 : Int32) (H : Heap) (locs : List Loc) (ls : Array Slot), f_X3_bestLoad_J70 (f_X3_bestLoad_L15 k2 p_p n_n o2 n15) o47 v15_l4 v15_l5 v15_l6 v70_t0 = some out → 0 ≤ v70_t0.toInt ∧ v70_t0.toInt ≤ 1 → va_P (dC, dI) vwCl (bX6 a0 up kp p_p (bX4 a1 un kn n_n [])) H → va_D A (bX6 a0 up kp p_p (bX4 a1 un kn n_n [])) → va_S A s.heap H locs → lv_has ls 9 [(7, .int o47), (6, .int v15_l6), (5, .int v15_l5), (4, .int v15_l4), (3, .int o2), (0, .ref a0), (1, .ref a1), (2, .int k2)] → W p l e (headSpec vfX3_bestLoad { frames := 4, cells := 0, slots := 0, locals := 91 }).room s m ([.ref a0, .ref a1, .int k2]).toArray below meth c H locs 0 0 QQ (F0 m 70 ls [.int v70_t0]) := by
              intro v70_t0 H locs ls h zb_v70_t0 hP hD hS hl
              rw [f_X3_bestLoad_J70] at h
              refine lv_istore (lv' := [(8, .int v70_t0), (7, .int o47), (6, .int v15_l6), (5, .int v15_l5), (4, .int v15_l4), (3, .int o2), (0, .ref a0), (1, .ref a1), (2, .int k2)]) hx hb (zat zrX3_bestLoad_0_ok 38 rfl) hl (by decide) rfl (fun ls hl => ?_)
              refine lv_iload hx hb (zat zrX3_bestLoad_0_ok 39 rfl) (lv_at hl 1 rfl) ?_
              refine lv_iload hx hb (zat zrX3_bestLoad_0_ok 40 rfl) (lv_at hl 3 rfl) ?_
              have J91 : ∀ (H : Heap) (locs : List Loc) (ls : Array Slot), f_X3_bestLoad_J91 (f_X3_bestLoad_L15 k2 p_p n_n o2 n15) o47 v15_l6 = some out → va_P (dC, dI) vwCl (bX6 a0 up kp p_p (bX4 a1 un kn n_n [])) H → va_D A (bX6 a0 up kp p_p (bX4 a1 un kn n_n [])) → va_S A s.heap H locs → lv_has ls 9 [(7, .int o47), (6, .int v15_l6), (3, .int o2), (0, .ref a0), (1, .ref a1), (2, .int k2)] → W p l e (headSpec vfX3_bestLoad { frames := 4, cells := 0, slots := 0, locals := 91 }).room s m ([.ref a0, .ref a1, .int k2]).toArray below meth c H locs 0 0 QQ (F0 m 91 ls []) := by
                intro  H locs ls h  hP hD hS hl
                rw [f_X3_bestLoad_J91] at h
                refine lv_iload hx hb (zat zrX3_bestLoad_0_ok 47 rfl) (lv_at hl 0 rfl) ?_
                refine lv_istore (lv' := [(5, .int o47), (7, .int o47), (6, .int v15_l6), (3, .int o2), (0, .ref a0), (1, .ref a1), (2, .int k2)]) hx hb (zat zrX3_bestLoad_0_ok 48 rfl) hl (by decide) rfl (fun ls hl => ?_)
                refine lv_iload hx hb (zat zrX3_bestLoad_0_ok 49 rfl) (lv_at hl 2 rfl) ?_
                refine lv_istore (lv' := [(4, .int v15_l6), (5, .int o47), (7, .int o47), (6, .int v15_l6), (3, .int o2), (0, .ref a0), (1, .ref a1), (2, .int k2)]) hx hb (zat zrX3_bestLoad_0_ok 50 rfl) hl (by decide) rfl (fun ls hl => ?_)
                exact J99 o47 v15_l6 H _ ls h  hP hD hS (lv_sub hl [3, 1, 0, 4, 5, 6, 7] rfl)
              refine lv_icmp_gt (tgt := 91) hx hb (zat zrX3_bestLoad_0_ok 41 rfl) (by decide) (fun c76 => ?_) (fun c76 => ?_)
              · have h := (if_pos c76).symm.trans h
                exact J91  H _ ls h  hP hD hS (lv_sub hl [1, 2, 5, 6, 7, 8] rfl)
              · have h := (if_neg c76).symm.trans h
                refine lv_iload hx hb (zat zrX3_bestLoad_0_ok 42 rfl) (lv_at hl 1 rfl) ?_
                refine lv_iload hx hb (zat zrX3_bestLoad_0_ok 43 rfl) (lv_at hl 3 rfl) ?_
                refine lv_icmp_ne (tgt := 99) hx hb (zat zrX3_bestLoad_0_ok 44 rfl) (by decide) (fun c83 => ?_) (fun c83 => ?_)
                · have h := (if_neg c83).symm.trans h
                  exact J99 v15_l5 v15_l4 H _ ls h  hP hD hS (lv_sub hl [2, 3, 4, 5, 6, 7, 8] rfl)
                · have h := (if_pos c83).symm.trans h
                  refine lv_iload hx hb (zat zrX3_bestLoad_0_ok 45 rfl) (lv_at hl 0 rfl) ?_
                  refine lv_if_eq (tgt := 99) hx hb (zat zrX3_bestLoad_0_ok 46 rfl) (by decide) (fun c88 => ?_) (fun c88 => ?_)
                  · have h := (if_pos c88).symm.trans h
                    exact J99 v15_l5 v15_l4 H _ ls h  hP hD hS (lv_sub hl [2, 3, 4, 5, 6, 7, 8] rfl)
                  · have h := (if_neg c88).symm.trans h
                    exact J91  H _ ls h  hP hD hS (lv_sub hl [1, 2, 5, 6, 7, 8] rfl)
            refine lv_icmp_ge (tgt := 69) hx hb (zat zrX3_bestLoad_0_ok 34 rfl) (by decide) (fun c62 => ?_) (fun c62 => ?_)
            · have h := (if_pos c62).symm.trans h
              refine lv_iconst (v := 0) hx hb (zat zrX3_bestLoad_0_ok 37 rfl) (by decide) ?_
              exact J70 (0 : Int32) H _ ls h (by decide) hP hD hS (lv_sub hl [0, 1, 2, 3, 4, 5, 6, 7] rfl)
            · have h := (if_neg c62).symm.trans h
              refine lv_iconst (v := 1) hx hb (zat zrX3_bestLoad_0_ok 35 rfl) (by decide) ?_
              refine lv_goto (tgt := 70) hx hb (zat zrX3_bestLoad_0_ok 36 rfl) (by decide) ?_
              exact J70 (1 : Int32) H _ ls h (by decide) hP hD hS (lv_sub hl [0, 1, 2, 3, 4, 5, 6, 7] rfl)
  exact L15 FU (1 : Int32) (0 : Int32) (0 : Int32) H _ ls h  hP hD hS (lv_sub hl [0, 1, 2, 3, 4, 5, 6] rfl)
noncomputable def zrX10_load_0 : List ZR := zc 0 true (.aload_n 0) 1 (zc 1 true (.aload_n 0) 1 (zc 2 true (.iload_n 1) 1 (zc 3 true (.iconst 0) 1 (zc 4 true (.bipush 6) 2 (zc 6 true (.invokestatic 75) 3 (zc 9 true (.invokevirtual 169) 3 (zc 12 true (.invokevirtual 79) 3 (zc 15 true (.ifCond .eq 5) 3 (zc 18 true (.iconst (-1)) 1 (zc 19 true (.ireturn) 1 (zc 20 true (.aload_n 0) 1 (zc 21 true (.getfield 10) 3 (zc 24 true (.aload_n 0) 1 (zc 25 true (.getfield 29) 3 (zc 28 true (.iload_n 1) 1 (zc 29 true (.invokestatic 300) 3 (zc 32 true (.ireturn) 1 ([]))))))))))))))))))
theorem zrX10_load_0_ok : zck 0 ((zby cX10_load).drop 0) zrX10_load_0 = true := by decide +kernel
def vfX10_load : List Cond := List.cons (.code yX10_load cX10_load 2 (some .int)) (apW [.methodLink RX10 75 yX10_within, .static yX10_within, .initialized RX10, .methodLink RX10 169 yX10_numberTrouble, .instanceMethod yX10_numberTrouble, .selects RX10 yX10_numberTrouble yX10_numberTrouble, .methodLink RX10 79 yX10_refused, .instanceMethod yX10_refused, .selects RX10 yX10_refused yX10_refused, .fieldLink RX10 10 "HookPier" "plan" "LHookPier$Plan;", .fieldLink RX10 29 "HookPier" "now" "LHookPier$Now;", .methodLink RX10 300 yX3_bestLoad, .static yX3_bestLoad, .initialized RX3] (apW wsX100 (apW vfX10_within (apW vfX10_numberTrouble (apW vfX10_refused (vfX3_bestLoad))))))
theorem ifX10_load_X10 : ∀ w ∈ wsX100, w ∈ vfX10_load := fun _ h => (List.mem_cons_of_mem _ (List.mem_append_right _ (List.mem_append_left _ h)))
theorem qfX10_load : Good vfX10_load := gd_cons (by decide +kernel) (gd_app (gd_dec (by decide +kernel) : Good [.methodLink RX10 75 yX10_within, .static yX10_within, .initialized RX10, .methodLink RX10 169 yX10_numberTrouble, .instanceMethod yX10_numberTrouble, .selects RX10 yX10_numberTrouble yX10_numberTrouble, .methodLink RX10 79 yX10_refused, .instanceMethod yX10_refused, .selects RX10 yX10_refused yX10_refused, .fieldLink RX10 10 "HookPier" "plan" "LHookPier$Plan;", .fieldLink RX10 29 "HookPier" "now" "LHookPier$Now;", .methodLink RX10 300 yX3_bestLoad, .static yX3_bestLoad, .initialized RX3]) (gd_app qsX10 (gd_app qfX10_within (gd_app qfX10_numberTrouble (gd_app qfX10_refused qfX3_bestLoad)))))
theorem gfX10_load_0 : GoodIn vfX10_load (va_wsS RX10 75 yX10_within vfX10_within) := goodIn_app (goodIn_r [.methodLink RX10 75 yX10_within, .static yX10_within, .initialized RX10] [1, 2, 3] rfl (by decide +kernel)) (goodIn_m (fun _ h => (List.mem_cons_of_mem _ (List.mem_append_right _ (List.mem_append_right _ (List.mem_append_left _ h))))) qfX10_within)
theorem gfX10_load_1 : GoodIn vfX10_load (wsV RX10 169 RX10 yX10_numberTrouble vfX10_numberTrouble) := goodIn_app (goodIn_r [.methodLink RX10 169 yX10_numberTrouble, .instanceMethod yX10_numberTrouble, .selects RX10 yX10_numberTrouble yX10_numberTrouble, .initialized RX10] [4, 5, 6, 3] rfl (by decide +kernel)) (goodIn_m (fun _ h => (List.mem_cons_of_mem _ (List.mem_append_right _ (List.mem_append_right _ (List.mem_append_right _ (List.mem_append_left _ h)))))) qfX10_numberTrouble)
theorem gfX10_load_2 : GoodIn vfX10_load (wsV RX10 79 RX10 yX10_refused vfX10_refused) := goodIn_app (goodIn_r [.methodLink RX10 79 yX10_refused, .instanceMethod yX10_refused, .selects RX10 yX10_refused yX10_refused, .initialized RX10] [7, 8, 9, 3] rfl (by decide +kernel)) (goodIn_m (fun _ h => (List.mem_cons_of_mem _ (List.mem_append_right _ (List.mem_append_right _ (List.mem_append_right _ (List.mem_append_right _ (List.mem_append_left _ h))))))) qfX10_refused)
theorem gfX10_load_3 : GoodIn vfX10_load (va_wsS RX10 300 yX3_bestLoad vfX3_bestLoad) := goodIn_app (goodIn_r [.methodLink RX10 300 yX3_bestLoad, .static yX3_bestLoad, .initialized RX3] [12, 13, 14] rfl (by decide +kernel)) (goodIn_m (fun _ h => (List.mem_cons_of_mem _ (List.mem_append_right _ (List.mem_append_right _ (List.mem_append_right _ (List.mem_append_right _ (List.mem_append_right _ h))))))) qfX3_bestLoad)
set_option maxHeartbeats 2000000 in
set_option maxRecDepth 100000 in
theorem kfX10_load (l : Launch) (dC : Nat → ClassId) (dI : Nat → Nat → Nat) (a0 : Nat) (k1 : Int32) (a2 : Nat) (a3 : Nat) (up : Nat → Nat) (kp : Nat → ClassId) (un : Nat → Nat) (kn : Nat → ClassId) (x_x : TX10_x) (g9 : Value) (g10 : Value) (g11 : Value) (g12 : Value) (g13 : Value) (g14 : Value) (p_p : TX6_p) (n_n : TX4_n) (sz : Nat) (out : (Int32 × TX10_x)) (h : f_X10_load k1 x_x p_p n_n = some out) : KCi l yX10_load vfX10_load ({ frames := 5, cells := 0, slots := 0, locals := 119 }) (dC, dI) [.ref a0, .int k1] sz ((a0, .inr (7, [.ref a2, g9, g10, .ref a3, g11, g12, g13, g14, .int x_x.1, .int x_x.2])) :: bX6 a2 up kp p_p (bX4 a3 un kn n_n [])) (tX6 kp (tX4 kn ([]))) (fun (r : Int32) _ => r = out.1) ((a0, .inr (7, [.ref a2, g9, g10, .ref a3, g11, g12, g13, g14, .int out.2.1, .int out.2.2])) :: bX6 a2 up kp p_p (bX4 a3 un kn n_n [])) 0 0 := by
  refine Met.ofW (cc := cX10_load) (maxL := 2) (ret := (some .int)) (by decide) rfl ?_
  intro p e s m args below meth c s₁ B0 hml hv
  obtain ⟨rfl, hsz, hP, hK, hD0, hN⟩ := hv
  have hx := B0.exec
  have hb := B0.bytes
  have hr := B0.returns
  have hts := atoms_spec (ws := vfX10_load) B0.pre
  have hown : s.vm.findClass RX10 = some m.cls := findClass_of_methodNamed B0.named
  have hlocks := B0.notSynchronized
  subst hsz
  have hD := hD0.self (sz := s.heap.size)
  generalize hAe : va_A ((a0, .inr (7, [.ref a2, g9, g10, .ref a3, g11, g12, g13, g14, .int x_x.1, .int x_x.2])) :: bX6 a2 up kp p_p (bX4 a3 un kn n_n [])) s.heap.size = A at hD ⊢
  have hA : ∀ q : Nat, s.heap.size ≤ q → A q := fun q h => by rw [← hAe]; exact Or.inr h
  have hS : va_S A s.heap s.heap [] := va_S.rf
  have hP : va_P (dC, dI) vwCl ((a0, .inr (7, [.ref a2, g9, g10, .ref a3, g11, g12, g13, g14, .int x_x.1, .int x_x.2])) :: bX6 a2 up kp p_p (bX4 a3 un kn n_n [])) s.heap := hP
  have hl := lv_entry ([.ref a0, .int k1]) (n := 2) (Nat.le_of_ble_eq_true rfl)
  rw [lg_entry_eq]
  generalize (lg_sl ([.ref a0, .int k1]) ++ List.replicate (2 - (lg_sl ([.ref a0, .int k1])).length) Slot.unset).toArray = ls at hl ⊢
  have hl : lv_has ls 2 [(0, .ref a0), (1, .int k1)] := hl
  refine W_q (fun QQ hQQ => ?_)
  rw [f_X10_load] at h
  refine lv_aload_n hx hb (zat zrX10_load_0_ok 0 rfl) rfl (lv_at hl 0 rfl) ?_
  refine lv_aload_n hx hb (zat zrX10_load_0_ok 1 rfl) rfl (lv_at hl 0 rfl) ?_
  refine lv_iload_n hx hb (zat zrX10_load_0_ok 2 rfl) rfl (lv_at hl 1 rfl) ?_
  refine lv_iconst (v := 0) hx hb (zat zrX10_load_0_ok 3 rfl) (by decide) ?_
  refine lv_bipush (v := 6) hx hb (zat zrX10_load_0_ok 4 rfl) (by decide) ?_
  obtain ⟨o6, eo6⟩ : ∃ o, o = f_X10_within k1 (0 : Int32) (6 : Int32) := ⟨_, rfl⟩
  have h := nm_of h o6 eo6
  refine ck_i (wc := []) (wr := ((a0, .inr (7, [.ref a2, g9, g10, .ref a3, g11, g12, g13, g14, .int x_x.1, .int x_x.2])) :: bX6 a2 up kp p_p (bX4 a3 un kn n_n []))) hP hD hK hS hA [] [0, 1, 2, 3, 4, 5, 6, 7, 8, 9, 10, 11, 12, 13, 14, 15] rfl rfl (by decide) (by decide) (by decide) (fun hPc hDc => (va_runS (As := [.int k1, .int 0, .int 6]) (rest := [.ref a0, .ref a0]) ⟨hx, hb, hml, hown, hts⟩ (kfX10_within l dC dI k1 (0 : Int32) (6 : Int32) s.heap.size o6 eo6.symm) (va_cwS 3 hts gfX10_load_0 rfl rfl rfl (by decide +kernel) ⟨(Nat.le_of_ble_eq_true rfl), (Nat.le_of_ble_eq_true rfl)⟩) (PS hPc (hK.sub (tys' := ([])) [] rfl) hDc hN) rfl rfl hl.1 rfl (lv_room (Nat.le_of_ble_eq_true rfl)) (zat zrX10_load_0_ok 5 rfl) ⟨(Nat.le_of_ble_eq_true rfl), (Nat.le_of_ble_eq_true rfl)⟩)) (fun r6 _ H locs hw hP hD _ hS => ?_)
  obtain ⟨hw, br6⟩ := hw
  obtain rfl := hw.symm
  obtain ⟨hP, hD⟩ := pd_mk ((a0, .inr (7, [.ref a2, g9, g10, .ref a3, g11, g12, g13, g14, .int x_x.1, .int x_x.2])) :: bX6 a2 up kp p_p (bX4 a3 un kn n_n [])) hP hD
  obtain ⟨o9, eo9⟩ : ∃ o, o = f_X10_numberTrouble o6 p_p := ⟨_, rfl⟩
  have h := nm_of h o9 eo9
  refine ck_i (wc := ((a0, .inr (7, [.ref a2, g9, g10, .ref a3, g11, g12, g13, g14, .int x_x.1, .int x_x.2])) :: bX6 a2 up kp p_p [])) (wr := (bX4 a3 un kn n_n [])) hP hD hK hS hA [0, 1, 2, 3, 4, 5, 6, 7, 8, 9, 10] [11, 12, 13, 14, 15] rfl rfl (by decide) (by decide) (by decide) (fun hPc hDc => (va_runV (As := [.int o6]) (rest := [.ref a0]) ⟨hx, hb, hml, hown, hts⟩ (kfX10_numberTrouble l dC dI a0 o6 a2 up kp (g9) (g10) (.ref a3) (g11) (g12) (g13) (g14) (.int x_x.1) (.int x_x.2) p_p H.size o9 eo9.symm) (cwV 1 hts gfX10_load_1 rfl rfl rfl (by decide +kernel) ⟨(Nat.le_of_ble_eq_true rfl), (Nat.le_of_ble_eq_true rfl)⟩) (PV hPc (hK.sub (tys' := (tX6 kp ([]))) [0, 1, 2, 3, 4, 5, 6, 7, 8] rfl) hDc hN 0 rfl rfl) rfl rfl hl.1 rfl (lv_room (Nat.le_of_ble_eq_true rfl)) (zat zrX10_load_0_ok 6 rfl) ⟨(Nat.le_of_ble_eq_true rfl), (Nat.le_of_ble_eq_true rfl)⟩)) (fun r9 _ H locs hw hP hD _ hS => ?_)
  obtain rfl := hw.symm
  obtain ⟨hP, hD⟩ := pd_mk (bX4 a3 un kn n_n ((a0, .inr (7, [.ref a2, g9, g10, .ref a3, g11, g12, g13, g14, .int x_x.1, .int x_x.2])) :: bX6 a2 up kp p_p [])) hP hD
  obtain ⟨o12, eo12⟩ : ∃ o, o = f_X10_refused o9 x_x := ⟨_, rfl⟩
  have h := nm_of h o12 eo12
  refine ck_i (wc := ([(a0, .inr (7, [.ref a2, g9, g10, .ref a3, g11, g12, g13, g14, .int x_x.1, .int x_x.2]))])) (wr := (bX4 a3 un kn n_n (bX6 a2 up kp p_p []))) hP hD hK hS hA [5] [0, 1, 2, 3, 4, 6, 7, 8, 9, 10, 11, 12, 13, 14, 15] rfl rfl (by decide) (by decide) (by decide) (fun hPc hDc => (va_runV (As := [.int o9]) (rest := []) ⟨hx, hb, hml, hown, hts⟩ (kfX10_refused l dC dI a0 o9 x_x (.ref a2) (g9) (g10) (.ref a3) (g11) (g12) (g13) (g14) H.size o12 eo12.symm) (cwV 1 hts gfX10_load_2 rfl rfl rfl (by decide +kernel) ⟨(Nat.le_of_ble_eq_true rfl), (Nat.le_of_ble_eq_true rfl)⟩) (PV hPc (hK.sub (tys' := ([])) [] rfl) hDc hN 0 rfl rfl) rfl rfl hl.1 rfl (lv_room (Nat.le_of_ble_eq_true rfl)) (zat zrX10_load_0_ok 7 rfl) ⟨(Nat.le_of_ble_eq_true rfl), (Nat.le_of_ble_eq_true rfl)⟩)) (fun r12 _ H locs hw hP hD _ hS => ?_)
  obtain ⟨hw, br12⟩ := hw
  obtain rfl := hw
  obtain ⟨hP, hD⟩ := pd_mk (bX4 a3 un kn n_n (bX6 a2 up kp p_p ([(a0, .inr (7, [.ref a2, g9, g10, .ref a3, g11, g12, g13, g14, .int o12.2.1, .int o12.2.2]))]))) hP hD
  refine lv_if_eq (tgt := 20) hx hb (zat zrX10_load_0_ok 8 rfl) (by decide) (fun c15 => ?_) (fun c15 => ?_)
  · have h := (if_pos c15).symm.trans h
    refine lv_aload_n hx hb (zat zrX10_load_0_ok 11 rfl) rfl (lv_at hl 0 rfl) ?_
    refine va_get (D := (dC, dI)) (ci := 7) (v := .ref a2) (C := RX10) (T := TX10) (N := 10) hx hb hts ifX10_load_X10 hown hK hP 15 rfl rfl 0 (by decide) (hts (.fieldLink RX10 10 "HookPier" "plan" "LHookPier$Plan;") (List.mem_of_getElem? (i := 10) rfl)) (fun _ h9 => h9) rfl (zat zrX10_load_0_ok 12 rfl) ?_
    refine lv_aload_n hx hb (zat zrX10_load_0_ok 13 rfl) rfl (lv_at hl 0 rfl) ?_
    refine va_get (D := (dC, dI)) (ci := 7) (v := .ref a3) (C := RX10) (T := TX10) (N := 10) hx hb hts ifX10_load_X10 hown hK hP 15 rfl rfl 3 (by decide) (hts (.fieldLink RX10 29 "HookPier" "now" "LHookPier$Now;") (List.mem_of_getElem? (i := 11) rfl)) (fun _ h9 => h9) rfl (zat zrX10_load_0_ok 14 rfl) ?_
    refine lv_iload_n hx hb (zat zrX10_load_0_ok 15 rfl) rfl (lv_at hl 1 rfl) ?_
    obtain ⟨o29, eo29, h⟩ := bd_of h
    refine ck_i (wc := (bX6 a2 up kp p_p (bX4 a3 un kn n_n []))) (wr := ([(a0, .inr (7, [.ref a2, g9, g10, .ref a3, g11, g12, g13, g14, .int o12.2.1, .int o12.2.2]))])) hP hD hK hS hA [5, 6, 7, 8, 9, 10, 11, 12, 13, 14, 0, 1, 2, 3, 4] [15] rfl rfl (by decide) (by decide) (by decide) (fun hPc hDc => (va_runS (As := [.ref a2, .ref a3, .int k1]) (rest := []) ⟨hx, hb, hml, hown, hts⟩ (kfX3_bestLoad l dC dI a2 a3 k1 up kp un kn p_p n_n H.size o29 eo29) (va_cwS 3 hts gfX10_load_3 rfl rfl rfl (by decide +kernel) ⟨(Nat.le_of_ble_eq_true rfl), (Nat.le_of_ble_eq_true rfl)⟩) (PS hPc (hK.sub (tys' := (tX6 kp (tX4 kn ([])))) [0, 1, 2, 3, 4, 5, 6, 7, 8, 9, 10, 11, 12] rfl) hDc hN) rfl rfl hl.1 rfl (lv_room (Nat.le_of_ble_eq_true rfl)) (zat zrX10_load_0_ok 16 rfl) ⟨(Nat.le_of_ble_eq_true rfl), (Nat.le_of_ble_eq_true rfl)⟩)) (fun r29 _ H locs hw hP hD _ hS => ?_)
    obtain rfl := hw.symm
    obtain ⟨hP, hD⟩ := pd_mk ((a0, .inr (7, [.ref a2, g9, g10, .ref a3, g11, g12, g13, g14, .int o12.2.1, .int o12.2.2])) :: bX6 a2 up kp p_p (bX4 a3 un kn n_n [])) hP hD
    obtain rfl := Option.some.inj h
    obtain ⟨hP9, hD9⟩ := pd_sub ((a0, .inr (7, [.ref a2, g9, g10, .ref a3, g11, g12, g13, g14, .int o12.2.1, .int o12.2.2])) :: bX6 a2 up kp p_p (bX4 a3 un kn n_n [])) [0, 1, 2, 3, 4, 5, 6, 7, 8, 9, 10, 11, 12, 13, 14, 15] hP hD (by decide) rfl
    have hK9 := hK.sub (tys' := []) [] rfl
    rw [hQQ]
    exact W.iret (v := o29) hx hb hr (fun t ht hW => ⟨⟨o29, (), rfl, rfl, by rw [ht]; exact hP9, va_K.moved hW.alike hK9, hD9⟩, hS.F ht⟩) hS.2.2 (zat zrX10_load_0_ok 17 rfl)
  · have h := (if_neg c15).symm.trans h
    refine lv_iconst (v := (-1)) hx hb (zat zrX10_load_0_ok 9 rfl) (by decide) ?_
    obtain rfl := Option.some.inj h
    obtain ⟨hP9, hD9⟩ := pd_sub ((a0, .inr (7, [.ref a2, g9, g10, .ref a3, g11, g12, g13, g14, .int o12.2.1, .int o12.2.2])) :: bX6 a2 up kp p_p (bX4 a3 un kn n_n [])) [15, 5, 6, 7, 8, 9, 10, 11, 12, 13, 14, 0, 1, 2, 3, 4] hP hD (by decide) rfl
    have hK9 := hK.sub (tys' := []) [] rfl
    rw [hQQ]
    exact W.iret (v := (-1 : Int32)) hx hb hr (fun t ht hW => ⟨⟨(-1 : Int32), (), rfl, rfl, by rw [ht]; exact hP9, va_K.moved hW.alike hK9, hD9⟩, hS.F ht⟩) hS.2.2 (zat zrX10_load_0_ok 10 rfl)
noncomputable def zrX10_loadWorth_0 : List ZR := zc 0 true (.aload_n 0) 1 (zc 1 true (.aload_n 0) 1 (zc 2 true (.iload_n 1) 1 (zc 3 true (.iconst 0) 1 (zc 4 true (.bipush 6) 2 (zc 6 true (.invokestatic 75) 3 (zc 9 true (.invokevirtual 169) 3 (zc 12 true (.invokevirtual 79) 3 (zc 15 true (.ifCond .eq 5) 3 (zc 18 true (.iconst (-1)) 1 (zc 19 true (.ireturn) 1 (zc 20 true (.aload_n 0) 1 (zc 21 true (.getfield 10) 3 (zc 24 true (.aload_n 0) 1 (zc 25 true (.getfield 29) 3 (zc 28 true (.aload_n 0) 1 (zc 29 true (.getfield 10) 3 (zc 32 true (.aload_n 0) 1 (zc 33 true (.getfield 29) 3 (zc 36 true (.iload_n 1) 1 (zc 37 true (.invokestatic 300) 3 (zc 40 true (.aload_n 0) 1 (zc 41 true (.getfield 29) 3 (zc 44 true (.getfield 134) 3 (zc 47 true (.invokestatic 303) 3 (zc 50 true (.ireturn) 1 ([]))))))))))))))))))))))))))
theorem zrX10_loadWorth_0_ok : zck 0 ((zby cX10_loadWorth).drop 0) zrX10_loadWorth_0 = true := by decide +kernel
def vfX10_loadWorth : List Cond := List.cons (.code yX10_loadWorth cX10_loadWorth 2 (some .int)) (apW [.methodLink RX10 75 yX10_within, .static yX10_within, .initialized RX10, .methodLink RX10 169 yX10_numberTrouble, .instanceMethod yX10_numberTrouble, .selects RX10 yX10_numberTrouble yX10_numberTrouble, .methodLink RX10 79 yX10_refused, .instanceMethod yX10_refused, .selects RX10 yX10_refused yX10_refused, .fieldLink RX10 10 "HookPier" "plan" "LHookPier$Plan;", .fieldLink RX10 29 "HookPier" "now" "LHookPier$Now;", .methodLink RX10 300 yX3_bestLoad, .static yX3_bestLoad, .initialized RX3, .fieldLink RX10 134 "HookPier$Now" "today" "I", .methodLink RX10 303 yX3_worthTogether, .static yX3_worthTogether] (apW wsX100 (apW wsX40 (apW vfX10_within (apW vfX10_numberTrouble (apW vfX10_refused (apW vfX3_bestLoad (vfX3_worthTogether))))))))
theorem ifX10_loadWorth_X10 : ∀ w ∈ wsX100, w ∈ vfX10_loadWorth := fun _ h => (List.mem_cons_of_mem _ (List.mem_append_right _ (List.mem_append_left _ h)))
theorem ifX10_loadWorth_X4 : ∀ w ∈ wsX40, w ∈ vfX10_loadWorth := fun _ h => (List.mem_cons_of_mem _ (List.mem_append_right _ (List.mem_append_right _ (List.mem_append_left _ h))))
theorem qfX10_loadWorth : Good vfX10_loadWorth := gd_cons (by decide +kernel) (gd_app (gd_dec (by decide +kernel) : Good [.methodLink RX10 75 yX10_within, .static yX10_within, .initialized RX10, .methodLink RX10 169 yX10_numberTrouble, .instanceMethod yX10_numberTrouble, .selects RX10 yX10_numberTrouble yX10_numberTrouble, .methodLink RX10 79 yX10_refused, .instanceMethod yX10_refused, .selects RX10 yX10_refused yX10_refused, .fieldLink RX10 10 "HookPier" "plan" "LHookPier$Plan;", .fieldLink RX10 29 "HookPier" "now" "LHookPier$Now;", .methodLink RX10 300 yX3_bestLoad, .static yX3_bestLoad, .initialized RX3, .fieldLink RX10 134 "HookPier$Now" "today" "I", .methodLink RX10 303 yX3_worthTogether, .static yX3_worthTogether]) (gd_app qsX10 (gd_app qsX4 (gd_app qfX10_within (gd_app qfX10_numberTrouble (gd_app qfX10_refused (gd_app qfX3_bestLoad qfX3_worthTogether)))))))
theorem gfX10_loadWorth_0 : GoodIn vfX10_loadWorth (va_wsS RX10 75 yX10_within vfX10_within) := goodIn_app (goodIn_r [.methodLink RX10 75 yX10_within, .static yX10_within, .initialized RX10] [1, 2, 3] rfl (by decide +kernel)) (goodIn_m (fun _ h => (List.mem_cons_of_mem _ (List.mem_append_right _ (List.mem_append_right _ (List.mem_append_right _ (List.mem_append_left _ h)))))) qfX10_within)
theorem gfX10_loadWorth_1 : GoodIn vfX10_loadWorth (wsV RX10 169 RX10 yX10_numberTrouble vfX10_numberTrouble) := goodIn_app (goodIn_r [.methodLink RX10 169 yX10_numberTrouble, .instanceMethod yX10_numberTrouble, .selects RX10 yX10_numberTrouble yX10_numberTrouble, .initialized RX10] [4, 5, 6, 3] rfl (by decide +kernel)) (goodIn_m (fun _ h => (List.mem_cons_of_mem _ (List.mem_append_right _ (List.mem_append_right _ (List.mem_append_right _ (List.mem_append_right _ (List.mem_append_left _ h))))))) qfX10_numberTrouble)
theorem gfX10_loadWorth_2 : GoodIn vfX10_loadWorth (wsV RX10 79 RX10 yX10_refused vfX10_refused) := goodIn_app (goodIn_r [.methodLink RX10 79 yX10_refused, .instanceMethod yX10_refused, .selects RX10 yX10_refused yX10_refused, .initialized RX10] [7, 8, 9, 3] rfl (by decide +kernel)) (goodIn_m (fun _ h => (List.mem_cons_of_mem _ (List.mem_append_right _ (List.mem_append_right _ (List.mem_append_right _ (List.mem_append_right _ (List.mem_append_right _ (List.mem_append_left _ h)))))))) qfX10_refused)
theorem gfX10_loadWorth_3 : GoodIn vfX10_loadWorth (va_wsS RX10 300 yX3_bestLoad vfX3_bestLoad) := goodIn_app (goodIn_r [.methodLink RX10 300 yX3_bestLoad, .static yX3_bestLoad, .initialized RX3] [12, 13, 14] rfl (by decide +kernel)) (goodIn_m (fun _ h => (List.mem_cons_of_mem _ (List.mem_append_right _ (List.mem_append_right _ (List.mem_append_right _ (List.mem_append_right _ (List.mem_append_right _ (List.mem_append_right _ (List.mem_append_left _ h))))))))) qfX3_bestLoad)
theorem gfX10_loadWorth_4 : GoodIn vfX10_loadWorth (va_wsS RX10 303 yX3_worthTogether vfX3_worthTogether) := goodIn_app (goodIn_r [.methodLink RX10 303 yX3_worthTogether, .static yX3_worthTogether, .initialized RX3] [16, 17, 14] rfl (by decide +kernel)) (goodIn_m (fun _ h => (List.mem_cons_of_mem _ (List.mem_append_right _ (List.mem_append_right _ (List.mem_append_right _ (List.mem_append_right _ (List.mem_append_right _ (List.mem_append_right _ (List.mem_append_right _ h))))))))) qfX3_worthTogether)
set_option maxHeartbeats 2000000 in
set_option maxRecDepth 100000 in
theorem kfX10_loadWorth (l : Launch) (dC : Nat → ClassId) (dI : Nat → Nat → Nat) (a0 : Nat) (k1 : Int32) (a2 : Nat) (a3 : Nat) (up : Nat → Nat) (kp : Nat → ClassId) (un : Nat → Nat) (kn : Nat → ClassId) (x_x : TX10_x) (g9 : Value) (g10 : Value) (g11 : Value) (g12 : Value) (g13 : Value) (g14 : Value) (p_p : TX6_p) (n_n : TX4_n) (sz : Nat) (out : (Int32 × TX10_x)) (h : f_X10_loadWorth k1 x_x p_p n_n = some out) : KCi l yX10_loadWorth vfX10_loadWorth ({ frames := 5, cells := 0, slots := 0, locals := 119 }) (dC, dI) [.ref a0, .int k1] sz ((a0, .inr (7, [.ref a2, g9, g10, .ref a3, g11, g12, g13, g14, .int x_x.1, .int x_x.2])) :: bX6 a2 up kp p_p (bX4 a3 un kn n_n [])) (tX6 kp (tX4 kn ([]))) (fun (r : Int32) _ => r = out.1) ((a0, .inr (7, [.ref a2, g9, g10, .ref a3, g11, g12, g13, g14, .int out.2.1, .int out.2.2])) :: bX6 a2 up kp p_p (bX4 a3 un kn n_n [])) 0 0 := by
  refine Met.ofW (cc := cX10_loadWorth) (maxL := 2) (ret := (some .int)) (by decide) rfl ?_
  intro p e s m args below meth c s₁ B0 hml hv
  obtain ⟨rfl, hsz, hP, hK, hD0, hN⟩ := hv
  have hx := B0.exec
  have hb := B0.bytes
  have hr := B0.returns
  have hts := atoms_spec (ws := vfX10_loadWorth) B0.pre
  have hown : s.vm.findClass RX10 = some m.cls := findClass_of_methodNamed B0.named
  have hlocks := B0.notSynchronized
  subst hsz
  have hD := hD0.self (sz := s.heap.size)
  generalize hAe : va_A ((a0, .inr (7, [.ref a2, g9, g10, .ref a3, g11, g12, g13, g14, .int x_x.1, .int x_x.2])) :: bX6 a2 up kp p_p (bX4 a3 un kn n_n [])) s.heap.size = A at hD ⊢
  have hA : ∀ q : Nat, s.heap.size ≤ q → A q := fun q h => by rw [← hAe]; exact Or.inr h
  have hS : va_S A s.heap s.heap [] := va_S.rf
  have hP : va_P (dC, dI) vwCl ((a0, .inr (7, [.ref a2, g9, g10, .ref a3, g11, g12, g13, g14, .int x_x.1, .int x_x.2])) :: bX6 a2 up kp p_p (bX4 a3 un kn n_n [])) s.heap := hP
  have hl := lv_entry ([.ref a0, .int k1]) (n := 2) (Nat.le_of_ble_eq_true rfl)
  rw [lg_entry_eq]
  generalize (lg_sl ([.ref a0, .int k1]) ++ List.replicate (2 - (lg_sl ([.ref a0, .int k1])).length) Slot.unset).toArray = ls at hl ⊢
  have hl : lv_has ls 2 [(0, .ref a0), (1, .int k1)] := hl
  refine W_q (fun QQ hQQ => ?_)
  rw [f_X10_loadWorth] at h
  refine lv_aload_n hx hb (zat zrX10_loadWorth_0_ok 0 rfl) rfl (lv_at hl 0 rfl) ?_
  refine lv_aload_n hx hb (zat zrX10_loadWorth_0_ok 1 rfl) rfl (lv_at hl 0 rfl) ?_
  refine lv_iload_n hx hb (zat zrX10_loadWorth_0_ok 2 rfl) rfl (lv_at hl 1 rfl) ?_
  refine lv_iconst (v := 0) hx hb (zat zrX10_loadWorth_0_ok 3 rfl) (by decide) ?_
  refine lv_bipush (v := 6) hx hb (zat zrX10_loadWorth_0_ok 4 rfl) (by decide) ?_
  obtain ⟨o6, eo6⟩ : ∃ o, o = f_X10_within k1 (0 : Int32) (6 : Int32) := ⟨_, rfl⟩
  have h := nm_of h o6 eo6
  refine ck_i (wc := []) (wr := ((a0, .inr (7, [.ref a2, g9, g10, .ref a3, g11, g12, g13, g14, .int x_x.1, .int x_x.2])) :: bX6 a2 up kp p_p (bX4 a3 un kn n_n []))) hP hD hK hS hA [] [0, 1, 2, 3, 4, 5, 6, 7, 8, 9, 10, 11, 12, 13, 14, 15] rfl rfl (by decide) (by decide) (by decide) (fun hPc hDc => (va_runS (As := [.int k1, .int 0, .int 6]) (rest := [.ref a0, .ref a0]) ⟨hx, hb, hml, hown, hts⟩ (kfX10_within l dC dI k1 (0 : Int32) (6 : Int32) s.heap.size o6 eo6.symm) (va_cwS 3 hts gfX10_loadWorth_0 rfl rfl rfl (by decide +kernel) ⟨(Nat.le_of_ble_eq_true rfl), (Nat.le_of_ble_eq_true rfl)⟩) (PS hPc (hK.sub (tys' := ([])) [] rfl) hDc hN) rfl rfl hl.1 rfl (lv_room (Nat.le_of_ble_eq_true rfl)) (zat zrX10_loadWorth_0_ok 5 rfl) ⟨(Nat.le_of_ble_eq_true rfl), (Nat.le_of_ble_eq_true rfl)⟩)) (fun r6 _ H locs hw hP hD _ hS => ?_)
  obtain ⟨hw, br6⟩ := hw
  obtain rfl := hw.symm
  obtain ⟨hP, hD⟩ := pd_mk ((a0, .inr (7, [.ref a2, g9, g10, .ref a3, g11, g12, g13, g14, .int x_x.1, .int x_x.2])) :: bX6 a2 up kp p_p (bX4 a3 un kn n_n [])) hP hD
  obtain ⟨o9, eo9⟩ : ∃ o, o = f_X10_numberTrouble o6 p_p := ⟨_, rfl⟩
  have h := nm_of h o9 eo9
  refine ck_i (wc := ((a0, .inr (7, [.ref a2, g9, g10, .ref a3, g11, g12, g13, g14, .int x_x.1, .int x_x.2])) :: bX6 a2 up kp p_p [])) (wr := (bX4 a3 un kn n_n [])) hP hD hK hS hA [0, 1, 2, 3, 4, 5, 6, 7, 8, 9, 10] [11, 12, 13, 14, 15] rfl rfl (by decide) (by decide) (by decide) (fun hPc hDc => (va_runV (As := [.int o6]) (rest := [.ref a0]) ⟨hx, hb, hml, hown, hts⟩ (kfX10_numberTrouble l dC dI a0 o6 a2 up kp (g9) (g10) (.ref a3) (g11) (g12) (g13) (g14) (.int x_x.1) (.int x_x.2) p_p H.size o9 eo9.symm) (cwV 1 hts gfX10_loadWorth_1 rfl rfl rfl (by decide +kernel) ⟨(Nat.le_of_ble_eq_true rfl), (Nat.le_of_ble_eq_true rfl)⟩) (PV hPc (hK.sub (tys' := (tX6 kp ([]))) [0, 1, 2, 3, 4, 5, 6, 7, 8] rfl) hDc hN 0 rfl rfl) rfl rfl hl.1 rfl (lv_room (Nat.le_of_ble_eq_true rfl)) (zat zrX10_loadWorth_0_ok 6 rfl) ⟨(Nat.le_of_ble_eq_true rfl), (Nat.le_of_ble_eq_true rfl)⟩)) (fun r9 _ H locs hw hP hD _ hS => ?_)
  obtain rfl := hw.symm
  obtain ⟨hP, hD⟩ := pd_mk (bX4 a3 un kn n_n ((a0, .inr (7, [.ref a2, g9, g10, .ref a3, g11, g12, g13, g14, .int x_x.1, .int x_x.2])) :: bX6 a2 up kp p_p [])) hP hD
  obtain ⟨o12, eo12⟩ : ∃ o, o = f_X10_refused o9 x_x := ⟨_, rfl⟩
  have h := nm_of h o12 eo12
  refine ck_i (wc := ([(a0, .inr (7, [.ref a2, g9, g10, .ref a3, g11, g12, g13, g14, .int x_x.1, .int x_x.2]))])) (wr := (bX4 a3 un kn n_n (bX6 a2 up kp p_p []))) hP hD hK hS hA [5] [0, 1, 2, 3, 4, 6, 7, 8, 9, 10, 11, 12, 13, 14, 15] rfl rfl (by decide) (by decide) (by decide) (fun hPc hDc => (va_runV (As := [.int o9]) (rest := []) ⟨hx, hb, hml, hown, hts⟩ (kfX10_refused l dC dI a0 o9 x_x (.ref a2) (g9) (g10) (.ref a3) (g11) (g12) (g13) (g14) H.size o12 eo12.symm) (cwV 1 hts gfX10_loadWorth_2 rfl rfl rfl (by decide +kernel) ⟨(Nat.le_of_ble_eq_true rfl), (Nat.le_of_ble_eq_true rfl)⟩) (PV hPc (hK.sub (tys' := ([])) [] rfl) hDc hN 0 rfl rfl) rfl rfl hl.1 rfl (lv_room (Nat.le_of_ble_eq_true rfl)) (zat zrX10_loadWorth_0_ok 7 rfl) ⟨(Nat.le_of_ble_eq_true rfl), (Nat.le_of_ble_eq_true rfl)⟩)) (fun r12 _ H locs hw hP hD _ hS => ?_)
  obtain ⟨hw, br12⟩ := hw
  obtain rfl := hw
  obtain ⟨hP, hD⟩ := pd_mk (bX4 a3 un kn n_n (bX6 a2 up kp p_p ([(a0, .inr (7, [.ref a2, g9, g10, .ref a3, g11, g12, g13, g14, .int o12.2.1, .int o12.2.2]))]))) hP hD
  refine lv_if_eq (tgt := 20) hx hb (zat zrX10_loadWorth_0_ok 8 rfl) (by decide) (fun c15 => ?_) (fun c15 => ?_)
  · have h := (if_pos c15).symm.trans h
    refine lv_aload_n hx hb (zat zrX10_loadWorth_0_ok 11 rfl) rfl (lv_at hl 0 rfl) ?_
    refine va_get (D := (dC, dI)) (ci := 7) (v := .ref a2) (C := RX10) (T := TX10) (N := 10) hx hb hts ifX10_loadWorth_X10 hown hK hP 15 rfl rfl 0 (by decide) (hts (.fieldLink RX10 10 "HookPier" "plan" "LHookPier$Plan;") (List.mem_of_getElem? (i := 10) rfl)) (fun _ h9 => h9) rfl (zat zrX10_loadWorth_0_ok 12 rfl) ?_
    refine lv_aload_n hx hb (zat zrX10_loadWorth_0_ok 13 rfl) rfl (lv_at hl 0 rfl) ?_
    refine va_get (D := (dC, dI)) (ci := 7) (v := .ref a3) (C := RX10) (T := TX10) (N := 10) hx hb hts ifX10_loadWorth_X10 hown hK hP 15 rfl rfl 3 (by decide) (hts (.fieldLink RX10 29 "HookPier" "now" "LHookPier$Now;") (List.mem_of_getElem? (i := 11) rfl)) (fun _ h9 => h9) rfl (zat zrX10_loadWorth_0_ok 14 rfl) ?_
    refine lv_aload_n hx hb (zat zrX10_loadWorth_0_ok 15 rfl) rfl (lv_at hl 0 rfl) ?_
    refine va_get (D := (dC, dI)) (ci := 7) (v := .ref a2) (C := RX10) (T := TX10) (N := 10) hx hb hts ifX10_loadWorth_X10 hown hK hP 15 rfl rfl 0 (by decide) (hts (.fieldLink RX10 10 "HookPier" "plan" "LHookPier$Plan;") (List.mem_of_getElem? (i := 10) rfl)) (fun _ h9 => h9) rfl (zat zrX10_loadWorth_0_ok 16 rfl) ?_
    refine lv_aload_n hx hb (zat zrX10_loadWorth_0_ok 17 rfl) rfl (lv_at hl 0 rfl) ?_
    refine va_get (D := (dC, dI)) (ci := 7) (v := .ref a3) (C := RX10) (T := TX10) (N := 10) hx hb hts ifX10_loadWorth_X10 hown hK hP 15 rfl rfl 3 (by decide) (hts (.fieldLink RX10 29 "HookPier" "now" "LHookPier$Now;") (List.mem_of_getElem? (i := 11) rfl)) (fun _ h9 => h9) rfl (zat zrX10_loadWorth_0_ok 18 rfl) ?_
    refine lv_iload_n hx hb (zat zrX10_loadWorth_0_ok 19 rfl) rfl (lv_at hl 1 rfl) ?_
    obtain ⟨o37, eo37, h⟩ := bd_of h
    refine ck_i (wc := (bX6 a2 up kp p_p (bX4 a3 un kn n_n []))) (wr := ([(a0, .inr (7, [.ref a2, g9, g10, .ref a3, g11, g12, g13, g14, .int o12.2.1, .int o12.2.2]))])) hP hD hK hS hA [5, 6, 7, 8, 9, 10, 11, 12, 13, 14, 0, 1, 2, 3, 4] [15] rfl rfl (by decide) (by decide) (by decide) (fun hPc hDc => (va_runS (As := [.ref a2, .ref a3, .int k1]) (rest := [.ref a3, .ref a2]) ⟨hx, hb, hml, hown, hts⟩ (kfX3_bestLoad l dC dI a2 a3 k1 up kp un kn p_p n_n H.size o37 eo37) (va_cwS 3 hts gfX10_loadWorth_3 rfl rfl rfl (by decide +kernel) ⟨(Nat.le_of_ble_eq_true rfl), (Nat.le_of_ble_eq_true rfl)⟩) (PS hPc (hK.sub (tys' := (tX6 kp (tX4 kn ([])))) [0, 1, 2, 3, 4, 5, 6, 7, 8, 9, 10, 11, 12] rfl) hDc hN) rfl rfl hl.1 rfl (lv_room (Nat.le_of_ble_eq_true rfl)) (zat zrX10_loadWorth_0_ok 20 rfl) ⟨(Nat.le_of_ble_eq_true rfl), (Nat.le_of_ble_eq_true rfl)⟩)) (fun r37 _ H locs hw hP hD _ hS => ?_)
    obtain rfl := hw.symm
    obtain ⟨hP, hD⟩ := pd_mk ((a0, .inr (7, [.ref a2, g9, g10, .ref a3, g11, g12, g13, g14, .int o12.2.1, .int o12.2.2])) :: bX6 a2 up kp p_p (bX4 a3 un kn n_n [])) hP hD
    refine lv_aload_n hx hb (zat zrX10_loadWorth_0_ok 21 rfl) rfl (lv_at hl 0 rfl) ?_
    refine va_get (D := (dC, dI)) (ci := 7) (v := .ref a3) (C := RX10) (T := TX10) (N := 10) hx hb hts ifX10_loadWorth_X10 hown hK hP 0 rfl rfl 3 (by decide) (hts (.fieldLink RX10 29 "HookPier" "now" "LHookPier$Now;") (List.mem_of_getElem? (i := 11) rfl)) (fun _ h9 => h9) rfl (zat zrX10_loadWorth_0_ok 22 rfl) ?_
    refine va_get (D := (dC, dI)) (ci := 3) (v := .int n_n.1) (C := RX4) (T := TX4) (N := 7) hx hb hts ifX10_loadWorth_X4 hown hK hP 11 rfl rfl 0 (by decide) (hts (.fieldLink RX10 134 "HookPier$Now" "today" "I") (List.mem_of_getElem? (i := 15) rfl)) (fun _ h9 => h9) rfl (zat zrX10_loadWorth_0_ok 23 rfl) ?_
    obtain ⟨o47, eo47, h⟩ := bd_of h
    refine ck_i (wc := (bX6 a2 up kp p_p (bX4 a3 un kn n_n []))) (wr := ([(a0, .inr (7, [.ref a2, g9, g10, .ref a3, g11, g12, g13, g14, .int o12.2.1, .int o12.2.2]))])) hP hD hK hS hA [1, 2, 3, 4, 5, 6, 7, 8, 9, 10, 11, 12, 13, 14, 15] [0] rfl rfl (by decide) (by decide) (by decide) (fun hPc hDc => (va_runS (As := [.ref a2, .ref a3, .int o37, .int n_n.1]) (rest := []) ⟨hx, hb, hml, hown, hts⟩ (kfX3_worthTogether l dC dI a2 a3 o37 n_n.1 up kp un kn p_p n_n H.size o47 eo47) (va_cwS 4 hts gfX10_loadWorth_4 rfl rfl rfl (by decide +kernel) ⟨(Nat.le_of_ble_eq_true rfl), (Nat.le_of_ble_eq_true rfl)⟩) (PS hPc (hK.sub (tys' := (tX6 kp (tX4 kn ([])))) [0, 1, 2, 3, 4, 5, 6, 7, 8, 9, 10, 11, 12] rfl) hDc hN) rfl rfl hl.1 rfl (lv_room (Nat.le_of_ble_eq_true rfl)) (zat zrX10_loadWorth_0_ok 24 rfl) ⟨(Nat.le_of_ble_eq_true rfl), (Nat.le_of_ble_eq_true rfl)⟩)) (fun r47 _ H locs hw hP hD _ hS => ?_)
    obtain rfl := hw.symm
    obtain ⟨hP, hD⟩ := pd_mk ((a0, .inr (7, [.ref a2, g9, g10, .ref a3, g11, g12, g13, g14, .int o12.2.1, .int o12.2.2])) :: bX6 a2 up kp p_p (bX4 a3 un kn n_n [])) hP hD
    obtain rfl := Option.some.inj h
    obtain ⟨hP9, hD9⟩ := pd_sub ((a0, .inr (7, [.ref a2, g9, g10, .ref a3, g11, g12, g13, g14, .int o12.2.1, .int o12.2.2])) :: bX6 a2 up kp p_p (bX4 a3 un kn n_n [])) [0, 1, 2, 3, 4, 5, 6, 7, 8, 9, 10, 11, 12, 13, 14, 15] hP hD (by decide) rfl
    have hK9 := hK.sub (tys' := []) [] rfl
    rw [hQQ]
    exact W.iret (v := o47) hx hb hr (fun t ht hW => ⟨⟨o47, (), rfl, rfl, by rw [ht]; exact hP9, va_K.moved hW.alike hK9, hD9⟩, hS.F ht⟩) hS.2.2 (zat zrX10_loadWorth_0_ok 25 rfl)
  · have h := (if_neg c15).symm.trans h
    refine lv_iconst (v := (-1)) hx hb (zat zrX10_loadWorth_0_ok 9 rfl) (by decide) ?_
    obtain rfl := Option.some.inj h
    obtain ⟨hP9, hD9⟩ := pd_sub ((a0, .inr (7, [.ref a2, g9, g10, .ref a3, g11, g12, g13, g14, .int o12.2.1, .int o12.2.2])) :: bX6 a2 up kp p_p (bX4 a3 un kn n_n [])) [15, 5, 6, 7, 8, 9, 10, 11, 12, 13, 14, 0, 1, 2, 3, 4] hP hD (by decide) rfl
    have hK9 := hK.sub (tys' := []) [] rfl
    rw [hQQ]
    exact W.iret (v := (-1 : Int32)) hx hb hr (fun t ht hW => ⟨⟨(-1 : Int32), (), rfl, rfl, by rw [ht]; exact hP9, va_K.moved hW.alike hK9, hD9⟩, hS.F ht⟩) hS.2.2 (zat zrX10_loadWorth_0_ok 10 rfl)
noncomputable def zrX10_bestDay_0 : List ZR := zc 0 true (.aload_n 0) 1 (zc 1 true (.aload_n 0) 1 (zc 2 true (.invokevirtual 216) 3 (zc 5 true (.invokevirtual 79) 3 (zc 8 true (.ifCond .eq 5) 3 (zc 11 true (.iconst (-1)) 1 (zc 12 true (.ireturn) 1 (zc 13 true (.aload_n 0) 1 (zc 14 true (.getfield 10) 3 (zc 17 true (.aload_n 0) 1 (zc 18 true (.getfield 29) 3 (zc 21 true (.invokestatic 306) 3 (zc 24 true (.istore_n 1) 1 (zc 25 true (.iconst 0) 1 (zc 26 true (.istore_n 2) 1 (zc 27 true (.aload_n 0) 1 (zc 28 true (.getfield 10) 3 (zc 31 true (.aload_n 0) 1 (zc 32 true (.getfield 29) 3 (zc 35 true (.iload_n 1) 1 (zc 36 true (.aload_n 0) 1 (zc 37 true (.getfield 29) 3 (zc 40 true (.getfield 134) 3 (zc 43 true (.invokestatic 303) 3 (zc 46 true (.istore_n 3) 1 (zc 47 true (.iconst 1) 1 (zc 48 true (.istore 4) 2 (zc 50 true (.iload 4) 2 (zc 52 true (.bipush 20) 2 (zc 54 true (.if_icmp .gt 45) 3 (zc 57 true (.aload_n 0) 1 (zc 58 true (.getfield 10) 3 (zc 61 true (.aload_n 0) 1 (zc 62 true (.getfield 29) 3 (zc 65 true (.iload_n 1) 1 (zc 66 true (.aload_n 0) 1 (zc 67 true (.getfield 29) 3 (zc 70 true (.getfield 134) 3 (zc 73 true (.iload 4) 2 (zc 75 true (.iadd) 1 (zc 76 true (.invokestatic 303) 3 (zc 79 true (.istore 5) 2 (zc 81 true (.iload 5) 2 (zc 83 true (.iload_n 3) 1 (zc 84 true (.if_icmp .le 9) 3 (zc 87 true (.iload 5) 2 (zc 89 true (.istore_n 3) 1 (zc 90 true (.iload 4) 2 (zc 92 true (.istore_n 2) 1 (zc 93 true (.iinc 4 1) 3 (zc 96 true (.goto (-46)) 3 (zc 99 true (.iload_n 2) 1 (zc 100 true (.ireturn) 1 ([])))))))))))))))))))))))))))))))))))))))))))))))))))))
theorem zrX10_bestDay_0_ok : zck 0 ((zby cX10_bestDay).drop 0) zrX10_bestDay_0 = true := by decide +kernel
def vfX10_bestDay : List Cond := List.cons (.code yX10_bestDay cX10_bestDay 6 (some .int)) (apW [.methodLink RX10 216 yX10_pierTrouble, .instanceMethod yX10_pierTrouble, .selects RX10 yX10_pierTrouble yX10_pierTrouble, .initialized RX10, .methodLink RX10 79 yX10_refused, .instanceMethod yX10_refused, .selects RX10 yX10_refused yX10_refused, .fieldLink RX10 10 "HookPier" "plan" "LHookPier$Plan;", .fieldLink RX10 29 "HookPier" "now" "LHookPier$Now;", .methodLink RX10 306 yX3_unsold, .static yX3_unsold, .initialized RX3, .fieldLink RX10 134 "HookPier$Now" "today" "I", .methodLink RX10 303 yX3_worthTogether, .static yX3_worthTogether] (apW wsX100 (apW wsX40 (apW vfX10_pierTrouble (apW vfX10_refused (apW vfX3_unsold (vfX3_worthTogether)))))))
theorem ifX10_bestDay_X10 : ∀ w ∈ wsX100, w ∈ vfX10_bestDay := fun _ h => (List.mem_cons_of_mem _ (List.mem_append_right _ (List.mem_append_left _ h)))
theorem ifX10_bestDay_X4 : ∀ w ∈ wsX40, w ∈ vfX10_bestDay := fun _ h => (List.mem_cons_of_mem _ (List.mem_append_right _ (List.mem_append_right _ (List.mem_append_left _ h))))
theorem qfX10_bestDay : Good vfX10_bestDay := gd_cons (by decide +kernel) (gd_app (gd_dec (by decide +kernel) : Good [.methodLink RX10 216 yX10_pierTrouble, .instanceMethod yX10_pierTrouble, .selects RX10 yX10_pierTrouble yX10_pierTrouble, .initialized RX10, .methodLink RX10 79 yX10_refused, .instanceMethod yX10_refused, .selects RX10 yX10_refused yX10_refused, .fieldLink RX10 10 "HookPier" "plan" "LHookPier$Plan;", .fieldLink RX10 29 "HookPier" "now" "LHookPier$Now;", .methodLink RX10 306 yX3_unsold, .static yX3_unsold, .initialized RX3, .fieldLink RX10 134 "HookPier$Now" "today" "I", .methodLink RX10 303 yX3_worthTogether, .static yX3_worthTogether]) (gd_app qsX10 (gd_app qsX4 (gd_app qfX10_pierTrouble (gd_app qfX10_refused (gd_app qfX3_unsold qfX3_worthTogether))))))
theorem gfX10_bestDay_0 : GoodIn vfX10_bestDay (wsV RX10 216 RX10 yX10_pierTrouble vfX10_pierTrouble) := goodIn_app (goodIn_r [.methodLink RX10 216 yX10_pierTrouble, .instanceMethod yX10_pierTrouble, .selects RX10 yX10_pierTrouble yX10_pierTrouble, .initialized RX10] [1, 2, 3, 4] rfl (by decide +kernel)) (goodIn_m (fun _ h => (List.mem_cons_of_mem _ (List.mem_append_right _ (List.mem_append_right _ (List.mem_append_right _ (List.mem_append_left _ h)))))) qfX10_pierTrouble)
theorem gfX10_bestDay_1 : GoodIn vfX10_bestDay (wsV RX10 79 RX10 yX10_refused vfX10_refused) := goodIn_app (goodIn_r [.methodLink RX10 79 yX10_refused, .instanceMethod yX10_refused, .selects RX10 yX10_refused yX10_refused, .initialized RX10] [5, 6, 7, 4] rfl (by decide +kernel)) (goodIn_m (fun _ h => (List.mem_cons_of_mem _ (List.mem_append_right _ (List.mem_append_right _ (List.mem_append_right _ (List.mem_append_right _ (List.mem_append_left _ h))))))) qfX10_refused)
theorem gfX10_bestDay_2 : GoodIn vfX10_bestDay (va_wsS RX10 306 yX3_unsold vfX3_unsold) := goodIn_app (goodIn_r [.methodLink RX10 306 yX3_unsold, .static yX3_unsold, .initialized RX3] [10, 11, 12] rfl (by decide +kernel)) (goodIn_m (fun _ h => (List.mem_cons_of_mem _ (List.mem_append_right _ (List.mem_append_right _ (List.mem_append_right _ (List.mem_append_right _ (List.mem_append_right _ (List.mem_append_left _ h)))))))) qfX3_unsold)
theorem gfX10_bestDay_3 : GoodIn vfX10_bestDay (va_wsS RX10 303 yX3_worthTogether vfX3_worthTogether) := goodIn_app (goodIn_r [.methodLink RX10 303 yX3_worthTogether, .static yX3_worthTogether, .initialized RX3] [14, 15, 12] rfl (by decide +kernel)) (goodIn_m (fun _ h => (List.mem_cons_of_mem _ (List.mem_append_right _ (List.mem_append_right _ (List.mem_append_right _ (List.mem_append_right _ (List.mem_append_right _ (List.mem_append_right _ h)))))))) qfX3_worthTogether)
set_option maxHeartbeats 2000000 in
set_option maxRecDepth 100000 in
theorem kfX10_bestDay (l : Launch) (dC : Nat → ClassId) (dI : Nat → Nat → Nat) (a0 : Nat) (a1 : Nat) (a2 : Nat) (up : Nat → Nat) (kp : Nat → ClassId) (un : Nat → Nat) (kn : Nat → ClassId) (x_x : TX10_x) (g8 : Value) (g9 : Value) (g10 : Value) (g11 : Value) (g12 : Value) (g13 : Value) (p_p : TX6_p) (n_n : TX4_n) (sz : Nat) (out : (Int32 × TX10_x)) (h : f_X10_bestDay x_x p_p n_n = some out) : KCi l yX10_bestDay vfX10_bestDay ({ frames := 4, cells := 0, slots := 0, locals := 91 }) (dC, dI) [.ref a0] sz ((a0, .inr (7, [.ref a1, g8, g9, .ref a2, g10, g11, g12, g13, .int x_x.1, .int x_x.2])) :: bX6 a1 up kp p_p (bX4 a2 un kn n_n [])) (tX6 kp (tX4 kn ([]))) (fun (r : Int32) _ => r = out.1) ((a0, .inr (7, [.ref a1, g8, g9, .ref a2, g10, g11, g12, g13, .int out.2.1, .int out.2.2])) :: bX6 a1 up kp p_p (bX4 a2 un kn n_n [])) 0 0 := by
  refine Met.ofW (cc := cX10_bestDay) (maxL := 6) (ret := (some .int)) (by decide) rfl ?_
  intro p e s m args below meth c s₁ B0 hml hv
  obtain ⟨rfl, hsz, hP, hK, hD0, hN⟩ := hv
  have hx := B0.exec
  have hb := B0.bytes
  have hr := B0.returns
  have hts := atoms_spec (ws := vfX10_bestDay) B0.pre
  have hown : s.vm.findClass RX10 = some m.cls := findClass_of_methodNamed B0.named
  have hlocks := B0.notSynchronized
  subst hsz
  have hD := hD0.self (sz := s.heap.size)
  generalize hAe : va_A ((a0, .inr (7, [.ref a1, g8, g9, .ref a2, g10, g11, g12, g13, .int x_x.1, .int x_x.2])) :: bX6 a1 up kp p_p (bX4 a2 un kn n_n [])) s.heap.size = A at hD ⊢
  have hA : ∀ q : Nat, s.heap.size ≤ q → A q := fun q h => by rw [← hAe]; exact Or.inr h
  have hS : va_S A s.heap s.heap [] := va_S.rf
  have hP : va_P (dC, dI) vwCl ((a0, .inr (7, [.ref a1, g8, g9, .ref a2, g10, g11, g12, g13, .int x_x.1, .int x_x.2])) :: bX6 a1 up kp p_p (bX4 a2 un kn n_n [])) s.heap := hP
  have hl := lv_entry ([.ref a0]) (n := 6) (Nat.le_of_ble_eq_true rfl)
  rw [lg_entry_eq]
  generalize (lg_sl ([.ref a0]) ++ List.replicate (6 - (lg_sl ([.ref a0])).length) Slot.unset).toArray = ls at hl ⊢
  have hl : lv_has ls 6 [(0, .ref a0)] := hl
  refine W_q (fun QQ hQQ => ?_)
  rw [f_X10_bestDay] at h
  refine lv_aload_n hx hb (zat zrX10_bestDay_0_ok 0 rfl) rfl (lv_at hl 0 rfl) ?_
  refine lv_aload_n hx hb (zat zrX10_bestDay_0_ok 1 rfl) rfl (lv_at hl 0 rfl) ?_
  obtain ⟨o2, eo2⟩ : ∃ o, o = f_X10_pierTrouble p_p := ⟨_, rfl⟩
  have h := nm_of h o2 eo2
  refine ck_i (wc := ((a0, .inr (7, [.ref a1, g8, g9, .ref a2, g10, g11, g12, g13, .int x_x.1, .int x_x.2])) :: bX6 a1 up kp p_p [])) (wr := (bX4 a2 un kn n_n [])) hP hD hK hS hA [0, 1, 2, 3, 4, 5, 6, 7, 8, 9, 10] [11, 12, 13, 14, 15] rfl rfl (by decide) (by decide) (by decide) (fun hPc hDc => (va_runV (As := []) (rest := [.ref a0]) ⟨hx, hb, hml, hown, hts⟩ (kfX10_pierTrouble l dC dI a0 a1 up kp (g8) (g9) (.ref a2) (g10) (g11) (g12) (g13) (.int x_x.1) (.int x_x.2) p_p s.heap.size o2 eo2.symm) (cwV 0 hts gfX10_bestDay_0 rfl rfl rfl (by decide +kernel) ⟨(Nat.le_of_ble_eq_true rfl), (Nat.le_of_ble_eq_true rfl)⟩) (PV hPc (hK.sub (tys' := (tX6 kp ([]))) [0, 1, 2, 3, 4, 5, 6, 7, 8] rfl) hDc hN 0 rfl rfl) rfl rfl hl.1 rfl (lv_room (Nat.le_of_ble_eq_true rfl)) (zat zrX10_bestDay_0_ok 2 rfl) ⟨(Nat.le_of_ble_eq_true rfl), (Nat.le_of_ble_eq_true rfl)⟩)) (fun r2 _ H locs hw hP hD _ hS => ?_)
  obtain rfl := hw.symm
  obtain ⟨hP, hD⟩ := pd_mk (bX4 a2 un kn n_n ((a0, .inr (7, [.ref a1, g8, g9, .ref a2, g10, g11, g12, g13, .int x_x.1, .int x_x.2])) :: bX6 a1 up kp p_p [])) hP hD
  obtain ⟨o5, eo5⟩ : ∃ o, o = f_X10_refused o2 x_x := ⟨_, rfl⟩
  have h := nm_of h o5 eo5
  refine ck_i (wc := ([(a0, .inr (7, [.ref a1, g8, g9, .ref a2, g10, g11, g12, g13, .int x_x.1, .int x_x.2]))])) (wr := (bX4 a2 un kn n_n (bX6 a1 up kp p_p []))) hP hD hK hS hA [5] [0, 1, 2, 3, 4, 6, 7, 8, 9, 10, 11, 12, 13, 14, 15] rfl rfl (by decide) (by decide) (by decide) (fun hPc hDc => (va_runV (As := [.int o2]) (rest := []) ⟨hx, hb, hml, hown, hts⟩ (kfX10_refused l dC dI a0 o2 x_x (.ref a1) (g8) (g9) (.ref a2) (g10) (g11) (g12) (g13) H.size o5 eo5.symm) (cwV 1 hts gfX10_bestDay_1 rfl rfl rfl (by decide +kernel) ⟨(Nat.le_of_ble_eq_true rfl), (Nat.le_of_ble_eq_true rfl)⟩) (PV hPc (hK.sub (tys' := ([])) [] rfl) hDc hN 0 rfl rfl) rfl rfl hl.1 rfl (lv_room (Nat.le_of_ble_eq_true rfl)) (zat zrX10_bestDay_0_ok 3 rfl) ⟨(Nat.le_of_ble_eq_true rfl), (Nat.le_of_ble_eq_true rfl)⟩)) (fun r5 _ H locs hw hP hD _ hS => ?_)
  obtain ⟨hw, br5⟩ := hw
  obtain rfl := hw
  obtain ⟨hP, hD⟩ := pd_mk (bX4 a2 un kn n_n (bX6 a1 up kp p_p ([(a0, .inr (7, [.ref a1, g8, g9, .ref a2, g10, g11, g12, g13, .int o5.2.1, .int o5.2.2]))]))) hP hD
  refine lv_if_eq (tgt := 13) hx hb (zat zrX10_bestDay_0_ok 4 rfl) (by decide) (fun c8 => ?_) (fun c8 => ?_)
  · have h := (if_pos c8).symm.trans h
    refine lv_aload_n hx hb (zat zrX10_bestDay_0_ok 7 rfl) rfl (lv_at hl 0 rfl) ?_
    refine va_get (D := (dC, dI)) (ci := 7) (v := .ref a1) (C := RX10) (T := TX10) (N := 10) hx hb hts ifX10_bestDay_X10 hown hK hP 15 rfl rfl 0 (by decide) (hts (.fieldLink RX10 10 "HookPier" "plan" "LHookPier$Plan;") (List.mem_of_getElem? (i := 8) rfl)) (fun _ h9 => h9) rfl (zat zrX10_bestDay_0_ok 8 rfl) ?_
    refine lv_aload_n hx hb (zat zrX10_bestDay_0_ok 9 rfl) rfl (lv_at hl 0 rfl) ?_
    refine va_get (D := (dC, dI)) (ci := 7) (v := .ref a2) (C := RX10) (T := TX10) (N := 10) hx hb hts ifX10_bestDay_X10 hown hK hP 15 rfl rfl 3 (by decide) (hts (.fieldLink RX10 29 "HookPier" "now" "LHookPier$Now;") (List.mem_of_getElem? (i := 9) rfl)) (fun _ h9 => h9) rfl (zat zrX10_bestDay_0_ok 10 rfl) ?_
    obtain ⟨o21, eo21, h⟩ := bd_of h
    refine ck_i (wc := (bX6 a1 up kp p_p (bX4 a2 un kn n_n []))) (wr := ([(a0, .inr (7, [.ref a1, g8, g9, .ref a2, g10, g11, g12, g13, .int o5.2.1, .int o5.2.2]))])) hP hD hK hS hA [5, 6, 7, 8, 9, 10, 11, 12, 13, 14, 0, 1, 2, 3, 4] [15] rfl rfl (by decide) (by decide) (by decide) (fun hPc hDc => (va_runS (As := [.ref a1, .ref a2]) (rest := []) ⟨hx, hb, hml, hown, hts⟩ (kfX3_unsold l dC dI a1 a2 up kp un kn p_p n_n H.size o21 eo21) (va_cwS 2 hts gfX10_bestDay_2 rfl rfl rfl (by decide +kernel) ⟨(Nat.le_of_ble_eq_true rfl), (Nat.le_of_ble_eq_true rfl)⟩) (PS hPc (hK.sub (tys' := (tX6 kp (tX4 kn ([])))) [0, 1, 2, 3, 4, 5, 6, 7, 8, 9, 10, 11, 12] rfl) hDc hN) rfl rfl hl.1 rfl (lv_room (Nat.le_of_ble_eq_true rfl)) (zat zrX10_bestDay_0_ok 11 rfl) ⟨(Nat.le_of_ble_eq_true rfl), (Nat.le_of_ble_eq_true rfl)⟩)) (fun r21 _ H locs hw hP hD _ hS => ?_)
    obtain rfl := hw.symm
    obtain ⟨hP, hD⟩ := pd_mk ((a0, .inr (7, [.ref a1, g8, g9, .ref a2, g10, g11, g12, g13, .int o5.2.1, .int o5.2.2])) :: bX6 a1 up kp p_p (bX4 a2 un kn n_n [])) hP hD
    refine lv_istore_n (lv' := [(1, .int o21), (0, .ref a0)]) hx hb (zat zrX10_bestDay_0_ok 12 rfl) rfl hl (by decide) rfl (fun ls hl => ?_)
    refine lv_iconst (v := 0) hx hb (zat zrX10_bestDay_0_ok 13 rfl) (by decide) ?_
    refine lv_istore_n (lv' := [(2, .int 0), (1, .int o21), (0, .ref a0)]) hx hb (zat zrX10_bestDay_0_ok 14 rfl) rfl hl (by decide) rfl (fun ls hl => ?_)
    refine lv_aload_n hx hb (zat zrX10_bestDay_0_ok 15 rfl) rfl (lv_at hl 2 rfl) ?_
    refine va_get (D := (dC, dI)) (ci := 7) (v := .ref a1) (C := RX10) (T := TX10) (N := 10) hx hb hts ifX10_bestDay_X10 hown hK hP 0 rfl rfl 0 (by decide) (hts (.fieldLink RX10 10 "HookPier" "plan" "LHookPier$Plan;") (List.mem_of_getElem? (i := 8) rfl)) (fun _ h9 => h9) rfl (zat zrX10_bestDay_0_ok 16 rfl) ?_
    refine lv_aload_n hx hb (zat zrX10_bestDay_0_ok 17 rfl) rfl (lv_at hl 2 rfl) ?_
    refine va_get (D := (dC, dI)) (ci := 7) (v := .ref a2) (C := RX10) (T := TX10) (N := 10) hx hb hts ifX10_bestDay_X10 hown hK hP 0 rfl rfl 3 (by decide) (hts (.fieldLink RX10 29 "HookPier" "now" "LHookPier$Now;") (List.mem_of_getElem? (i := 9) rfl)) (fun _ h9 => h9) rfl (zat zrX10_bestDay_0_ok 18 rfl) ?_
    refine lv_iload_n hx hb (zat zrX10_bestDay_0_ok 19 rfl) rfl (lv_at hl 1 rfl) ?_
    refine lv_aload_n hx hb (zat zrX10_bestDay_0_ok 20 rfl) rfl (lv_at hl 2 rfl) ?_
    refine va_get (D := (dC, dI)) (ci := 7) (v := .ref a2) (C := RX10) (T := TX10) (N := 10) hx hb hts ifX10_bestDay_X10 hown hK hP 0 rfl rfl 3 (by decide) (hts (.fieldLink RX10 29 "HookPier" "now" "LHookPier$Now;") (List.mem_of_getElem? (i := 9) rfl)) (fun _ h9 => h9) rfl (zat zrX10_bestDay_0_ok 21 rfl) ?_
    refine va_get (D := (dC, dI)) (ci := 3) (v := .int n_n.1) (C := RX4) (T := TX4) (N := 7) hx hb hts ifX10_bestDay_X4 hown hK hP 11 rfl rfl 0 (by decide) (hts (.fieldLink RX10 134 "HookPier$Now" "today" "I") (List.mem_of_getElem? (i := 13) rfl)) (fun _ h9 => h9) rfl (zat zrX10_bestDay_0_ok 22 rfl) ?_
    obtain ⟨o43, eo43, h⟩ := bd_of h
    refine ck_i (wc := (bX6 a1 up kp p_p (bX4 a2 un kn n_n []))) (wr := ([(a0, .inr (7, [.ref a1, g8, g9, .ref a2, g10, g11, g12, g13, .int o5.2.1, .int o5.2.2]))])) hP hD hK hS hA [1, 2, 3, 4, 5, 6, 7, 8, 9, 10, 11, 12, 13, 14, 15] [0] rfl rfl (by decide) (by decide) (by decide) (fun hPc hDc => (va_runS (As := [.ref a1, .ref a2, .int o21, .int n_n.1]) (rest := []) ⟨hx, hb, hml, hown, hts⟩ (kfX3_worthTogether l dC dI a1 a2 o21 n_n.1 up kp un kn p_p n_n H.size o43 eo43) (va_cwS 4 hts gfX10_bestDay_3 rfl rfl rfl (by decide +kernel) ⟨(Nat.le_of_ble_eq_true rfl), (Nat.le_of_ble_eq_true rfl)⟩) (PS hPc (hK.sub (tys' := (tX6 kp (tX4 kn ([])))) [0, 1, 2, 3, 4, 5, 6, 7, 8, 9, 10, 11, 12] rfl) hDc hN) rfl rfl hl.1 rfl (lv_room (Nat.le_of_ble_eq_true rfl)) (zat zrX10_bestDay_0_ok 23 rfl) ⟨(Nat.le_of_ble_eq_true rfl), (Nat.le_of_ble_eq_true rfl)⟩)) (fun r43 _ H locs hw hP hD _ hS => ?_)
    obtain rfl := hw.symm
    obtain ⟨hP, hD⟩ := pd_mk ((a0, .inr (7, [.ref a1, g8, g9, .ref a2, g10, g11, g12, g13, .int o5.2.1, .int o5.2.2])) :: bX6 a1 up kp p_p (bX4 a2 un kn n_n [])) hP hD
    refine lv_istore_n (lv' := [(3, .int o43), (2, .int 0), (1, .int o21), (0, .ref a0)]) hx hb (zat zrX10_bestDay_0_ok 24 rfl) rfl hl (by decide) rfl (fun ls hl => ?_)
    refine lv_iconst (v := 1) hx hb (zat zrX10_bestDay_0_ok 25 rfl) (by decide) ?_
    refine lv_istore (lv' := [(4, .int 1), (3, .int o43), (2, .int 0), (1, .int o21), (0, .ref a0)]) hx hb (zat zrX10_bestDay_0_ok 26 rfl) hl (by decide) rfl (fun ls hl => ?_)
    have L50 : ∀ (n50 : Nat) (v50_l4 : Int32) (v50_l3 : Int32) (v50_l2 : Int32) (H : Heap) (locs : List Loc) (ls : Array Slot), f_X10_bestDay_L50 p_p n_n o21 o5 n50 v50_l4 v50_l3 v50_l2 = some out → va_P (dC, dI) vwCl ((a0, .inr (7, [.ref a1, g8, g9, .ref a2, g10, g11, g12, g13, .int o5.2.1, .int o5.2.2])) :: bX6 a1 up kp p_p (bX4 a2 un kn n_n [])) H → va_D A ((a0, .inr (7, [.ref a1, g8, g9, .ref a2, g10, g11, g12, g13, .int o5.2.1, .int o5.2.2])) :: bX6 a1 up kp p_p (bX4 a2 un kn n_n [])) → va_S A s.heap H locs → lv_has ls 6 [(4, .int v50_l4), (3, .int v50_l3), (2, .int v50_l2), (1, .int o21), (0, .ref a0)] → W p l e (headSpec vfX10_bestDay { frames := 4, cells := 0, slots := 0, locals := 91 }).room s m ([.ref a0]).toArray below meth c H locs 0 0 QQ (F0 m 50 ls []) := by
      intro n50
      induction n50 with
      | zero =>
        intro v50_l4 v50_l3 v50_l2 H locs ls h  _ _ _ _
        rw [f_X10_bestDay_L50] at h
        cases h
      | succ n50 ih50 =>
        intro v50_l4 v50_l3 v50_l2 H locs ls h  hP hD hS hl
        rw [f_X10_bestDay_L50] at h
        refine lv_iload hx hb (zat zrX10_bestDay_0_ok 27 rfl) (lv_at hl 0 rfl) ?_
        refine lv_bipush (v := 20) hx hb (zat zrX10_bestDay_0_ok 28 rfl) (by decide) ?_
        refine lv_icmp_gt (tgt := 99) hx hb (zat zrX10_bestDay_0_ok 29 rfl) (by decide) (fun c54 => ?_) (fun c54 => ?_)
        · have h := (if_pos c54).symm.trans h
          refine lv_iload_n hx hb (zat zrX10_bestDay_0_ok 51 rfl) rfl (lv_at hl 2 rfl) ?_
          obtain rfl := Option.some.inj h
          obtain ⟨hP9, hD9⟩ := pd_sub ((a0, .inr (7, [.ref a1, g8, g9, .ref a2, g10, g11, g12, g13, .int o5.2.1, .int o5.2.2])) :: bX6 a1 up kp p_p (bX4 a2 un kn n_n [])) [0, 1, 2, 3, 4, 5, 6, 7, 8, 9, 10, 11, 12, 13, 14, 15] hP hD (by decide) rfl
          have hK9 := hK.sub (tys' := []) [] rfl
          rw [hQQ]
          exact W.iret (v := v50_l2) hx hb hr (fun t ht hW => ⟨⟨v50_l2, (), rfl, rfl, by rw [ht]; exact hP9, va_K.moved hW.alike hK9, hD9⟩, hS.F ht⟩) hS.2.2 (zat zrX10_bestDay_0_ok 52 rfl)
        · have h := (if_neg c54).symm.trans h
          refine lv_aload_n hx hb (zat zrX10_bestDay_0_ok 30 rfl) rfl (lv_at hl 4 rfl) ?_
          refine va_get (D := (dC, dI)) (ci := 7) (v := .ref a1) (C := RX10) (T := TX10) (N := 10) hx hb hts ifX10_bestDay_X10 hown hK hP 0 rfl rfl 0 (by decide) (hts (.fieldLink RX10 10 "HookPier" "plan" "LHookPier$Plan;") (List.mem_of_getElem? (i := 8) rfl)) (fun _ h9 => h9) rfl (zat zrX10_bestDay_0_ok 31 rfl) ?_
          refine lv_aload_n hx hb (zat zrX10_bestDay_0_ok 32 rfl) rfl (lv_at hl 4 rfl) ?_
          refine va_get (D := (dC, dI)) (ci := 7) (v := .ref a2) (C := RX10) (T := TX10) (N := 10) hx hb hts ifX10_bestDay_X10 hown hK hP 0 rfl rfl 3 (by decide) (hts (.fieldLink RX10 29 "HookPier" "now" "LHookPier$Now;") (List.mem_of_getElem? (i := 9) rfl)) (fun _ h9 => h9) rfl (zat zrX10_bestDay_0_ok 33 rfl) ?_
          refine lv_iload_n hx hb (zat zrX10_bestDay_0_ok 34 rfl) rfl (lv_at hl 3 rfl) ?_
          refine lv_aload_n hx hb (zat zrX10_bestDay_0_ok 35 rfl) rfl (lv_at hl 4 rfl) ?_
          refine va_get (D := (dC, dI)) (ci := 7) (v := .ref a2) (C := RX10) (T := TX10) (N := 10) hx hb hts ifX10_bestDay_X10 hown hK hP 0 rfl rfl 3 (by decide) (hts (.fieldLink RX10 29 "HookPier" "now" "LHookPier$Now;") (List.mem_of_getElem? (i := 9) rfl)) (fun _ h9 => h9) rfl (zat zrX10_bestDay_0_ok 36 rfl) ?_
          refine va_get (D := (dC, dI)) (ci := 3) (v := .int n_n.1) (C := RX4) (T := TX4) (N := 7) hx hb hts ifX10_bestDay_X4 hown hK hP 11 rfl rfl 0 (by decide) (hts (.fieldLink RX10 134 "HookPier$Now" "today" "I") (List.mem_of_getElem? (i := 13) rfl)) (fun _ h9 => h9) rfl (zat zrX10_bestDay_0_ok 37 rfl) ?_
          refine lv_iload hx hb (zat zrX10_bestDay_0_ok 38 rfl) (lv_at hl 0 rfl) ?_
          refine lv_iadd hx hb (zat zrX10_bestDay_0_ok 39 rfl) ?_
          obtain ⟨o76, eo76, h⟩ := bd_of h
          refine ck_i (wc := (bX6 a1 up kp p_p (bX4 a2 un kn n_n []))) (wr := ([(a0, .inr (7, [.ref a1, g8, g9, .ref a2, g10, g11, g12, g13, .int o5.2.1, .int o5.2.2]))])) hP hD hK hS hA [1, 2, 3, 4, 5, 6, 7, 8, 9, 10, 11, 12, 13, 14, 15] [0] rfl rfl (by decide) (by decide) (by decide) (fun hPc hDc => (va_runS (As := [.ref a1, .ref a2, .int o21, .int (n_n.1 + v50_l4)]) (rest := []) ⟨hx, hb, hml, hown, hts⟩ (kfX3_worthTogether l dC dI a1 a2 o21 (n_n.1 + v50_l4) up kp un kn p_p n_n H.size o76 eo76) (va_cwS 4 hts gfX10_bestDay_3 rfl rfl rfl (by decide +kernel) ⟨(Nat.le_of_ble_eq_true rfl), (Nat.le_of_ble_eq_true rfl)⟩) (PS hPc (hK.sub (tys' := (tX6 kp (tX4 kn ([])))) [0, 1, 2, 3, 4, 5, 6, 7, 8, 9, 10, 11, 12] rfl) hDc hN) rfl rfl hl.1 rfl (lv_room (Nat.le_of_ble_eq_true rfl)) (zat zrX10_bestDay_0_ok 40 rfl) ⟨(Nat.le_of_ble_eq_true rfl), (Nat.le_of_ble_eq_true rfl)⟩)) (fun r76 _ H locs hw hP hD _ hS => ?_)
          obtain rfl := hw.symm
          obtain ⟨hP, hD⟩ := pd_mk ((a0, .inr (7, [.ref a1, g8, g9, .ref a2, g10, g11, g12, g13, .int o5.2.1, .int o5.2.2])) :: bX6 a1 up kp p_p (bX4 a2 un kn n_n [])) hP hD
          refine lv_istore (lv' := [(5, .int o76), (4, .int v50_l4), (3, .int v50_l3), (2, .int v50_l2), (1, .int o21), (0, .ref a0)]) hx hb (zat zrX10_bestDay_0_ok 41 rfl) hl (by decide) rfl (fun ls hl => ?_)
          refine lv_iload hx hb (zat zrX10_bestDay_0_ok 42 rfl) (lv_at hl 0 rfl) ?_
          refine lv_iload_n hx hb (zat zrX10_bestDay_0_ok 43 rfl) rfl (lv_at hl 2 rfl) ?_
          have J93 : ∀ (v93_l3 : Int32) (v93_l2 : Int32) (H : Heap) (locs : List Loc) (ls : Array Slot), f_X10_bestDay_J93 (f_X10_bestDay_L50 p_p n_n o21 o5 n50) v50_l4 v93_l3 v93_l2 = some out → va_P (dC, dI) vwCl ((a0, .inr (7, [.ref a1, g8, g9, .ref a2, g10, g11, g12, g13, .int o5.2.1, .int o5.2.2])) :: bX6 a1 up kp p_p (bX4 a2 un kn n_n [])) H → va_D A ((a0, .inr (7, [.ref a1, g8, g9, .ref a2, g10, g11, g12, g13, .int o5.2.1, .int o5.2.2])) :: bX6 a1 up kp p_p (bX4 a2 un kn n_n [])) → va_S A s.heap H locs → lv_has ls 6 [(4, .int v50_l4), (3, .int v93_l3), (2, .int v93_l2), (1, .int o21), (0, .ref a0)] → W p l e (headSpec vfX10_bestDay { frames := 4, cells := 0, slots := 0, locals := 91 }).room s m ([.ref a0]).toArray below meth c H locs 0 0 QQ (F0 m 93 ls []) := by
            intro v93_l3 v93_l2 H locs ls h  hP hD hS hl
            rw [f_X10_bestDay_J93] at h
            refine lv_iinc (v := (v50_l4 + (1 : Int32))) (lv' := [(4, .int (v50_l4 + (1 : Int32))), (3, .int v93_l3), (2, .int v93_l2), (1, .int o21), (0, .ref a0)]) hx hb (zat zrX10_bestDay_0_ok 49 rfl) hl (k := 0) rfl rfl (by decide) rfl (fun ls hl => ?_)
            refine lv_goto (tgt := 50) hx hb (zat zrX10_bestDay_0_ok 50 rfl) (by decide) ?_
            exact ih50 (v50_l4 + (1 : Int32)) v93_l3 v93_l2 H _ ls h  hP hD hS (lv_sub hl [0, 1, 2, 3, 4] rfl)
          refine lv_icmp_le (tgt := 93) hx hb (zat zrX10_bestDay_0_ok 44 rfl) (by decide) (fun c84 => ?_) (fun c84 => ?_)
          · have h := (if_pos c84).symm.trans h
            exact J93 v50_l3 v50_l2 H _ ls h  hP hD hS (lv_sub hl [1, 2, 3, 4, 5] rfl)
          · have h := (if_neg c84).symm.trans h
            refine lv_iload hx hb (zat zrX10_bestDay_0_ok 45 rfl) (lv_at hl 0 rfl) ?_
            refine lv_istore_n (lv' := [(3, .int o76), (5, .int o76), (4, .int v50_l4), (2, .int v50_l2), (1, .int o21), (0, .ref a0)]) hx hb (zat zrX10_bestDay_0_ok 46 rfl) rfl hl (by decide) rfl (fun ls hl => ?_)
            refine lv_iload hx hb (zat zrX10_bestDay_0_ok 47 rfl) (lv_at hl 2 rfl) ?_
            refine lv_istore_n (lv' := [(2, .int v50_l4), (3, .int o76), (5, .int o76), (4, .int v50_l4), (1, .int o21), (0, .ref a0)]) hx hb (zat zrX10_bestDay_0_ok 48 rfl) rfl hl (by decide) rfl (fun ls hl => ?_)
            exact J93 o76 v50_l4 H _ ls h  hP hD hS (lv_sub hl [3, 1, 0, 4, 5] rfl)
    exact L50 FU (1 : Int32) o43 (0 : Int32) H _ ls h  hP hD hS (lv_sub hl [0, 1, 2, 3, 4] rfl)
  · have h := (if_neg c8).symm.trans h
    refine lv_iconst (v := (-1)) hx hb (zat zrX10_bestDay_0_ok 5 rfl) (by decide) ?_
    obtain rfl := Option.some.inj h
    obtain ⟨hP9, hD9⟩ := pd_sub ((a0, .inr (7, [.ref a1, g8, g9, .ref a2, g10, g11, g12, g13, .int o5.2.1, .int o5.2.2])) :: bX6 a1 up kp p_p (bX4 a2 un kn n_n [])) [15, 5, 6, 7, 8, 9, 10, 11, 12, 13, 14, 0, 1, 2, 3, 4] hP hD (by decide) rfl
    have hK9 := hK.sub (tys' := []) [] rfl
    rw [hQQ]
    exact W.iret (v := (-1 : Int32)) hx hb hr (fun t ht hW => ⟨⟨(-1 : Int32), (), rfl, rfl, by rw [ht]; exact hP9, va_K.moved hW.alike hK9, hD9⟩, hS.F ht⟩) hS.2.2 (zat zrX10_bestDay_0_ok 6 rfl)
noncomputable def zrX10_hooksTrouble_0 : List ZR := zc 0 true (.aload_n 0) 1 (zc 1 true (.getfield 10) 3 (zc 4 true (.iload_n 1) 1 (zc 5 true (.invokevirtual 381) 3 (zc 8 true (.ifCond .eq 30) 3 (zc 11 true (.aload_n 0) 1 (zc 12 true (.getfield 10) 3 (zc 15 true (.iload_n 2) 1 (zc 16 true (.invokevirtual 236) 3 (zc 19 true (.ifCond .eq 19) 3 (zc 22 true (.aload_n 0) 1 (zc 23 true (.getfield 10) 3 (zc 26 true (.iload_n 3) 1 (zc 27 true (.invokevirtual 236) 3 (zc 30 true (.ifCond .eq 8) 3 (zc 33 true (.iload_n 2) 1 (zc 34 true (.iload_n 3) 1 (zc 35 true (.if_icmp .ne 5) 3 (zc 38 true (.iconst 1) 1 (zc 39 true (.ireturn) 1 (zc 40 true (.iload 4) 2 (zc 42 true (.iconst 0) 1 (zc 43 true (.sipush 999) 3 (zc 46 true (.invokestatic 75) 3 (zc 49 true (.ifCond .ne 5) 3 (zc 52 true (.iconst 2) 1 (zc 53 true (.ireturn) 1 (zc 54 true (.aload_n 0) 1 (zc 55 true (.getfield 29) 3 (zc 58 true (.getfield 146) 3 (zc 61 true (.iload_n 2) 1 (zc 62 true (.iaload) 1 (zc 63 true (.iconst (-1)) 1 (zc 64 true (.if_icmp .eq 16) 3 (zc 67 true (.aload_n 0) 1 (zc 68 true (.getfield 29) 3 (zc 71 true (.getfield 146) 3 (zc 74 true (.iload_n 3) 1 (zc 75 true (.iaload) 1 (zc 76 true (.iconst (-1)) 1 (zc 77 true (.if_icmp .ne 7) 3 (zc 80 true (.iconst 5) 1 (zc 81 true (.goto 4) 3 (zc 84 true (.iconst 0) 1 (zc 85 true (.ireturn) 1 ([])))))))))))))))))))))))))))))))))))))))))))))
theorem zrX10_hooksTrouble_0_ok : zck 0 ((zby cX10_hooksTrouble).drop 0) zrX10_hooksTrouble_0 = true := by decide +kernel
def vfX10_hooksTrouble : List Cond := List.cons (.code yX10_hooksTrouble cX10_hooksTrouble 5 (some .int)) (apW [.fieldLink RX10 10 "HookPier" "plan" "LHookPier$Plan;", .methodLink RX10 381 yX6_hasAnswer, .instanceMethod yX6_hasAnswer, .selects RX6 yX6_hasAnswer yX6_hasAnswer, .initialized RX6, .methodLink RX10 236 yX6_hasAsker, .instanceMethod yX6_hasAsker, .selects RX6 yX6_hasAsker yX6_hasAsker, .methodLink RX10 75 yX10_within, .static yX10_within, .initialized RX10, .fieldLink RX10 29 "HookPier" "now" "LHookPier$Now;", .fieldLink RX10 146 "HookPier$Now" "line" "[I"] (apW wsX100 (apW wsX40 (apW vfX6_hasAnswer (apW vfX6_hasAsker (vfX10_within))))))
theorem ifX10_hooksTrouble_X10 : ∀ w ∈ wsX100, w ∈ vfX10_hooksTrouble := fun _ h => (List.mem_cons_of_mem _ (List.mem_append_right _ (List.mem_append_left _ h)))
theorem ifX10_hooksTrouble_X4 : ∀ w ∈ wsX40, w ∈ vfX10_hooksTrouble := fun _ h => (List.mem_cons_of_mem _ (List.mem_append_right _ (List.mem_append_right _ (List.mem_append_left _ h))))
theorem qfX10_hooksTrouble : Good vfX10_hooksTrouble := gd_cons (by decide +kernel) (gd_app (gd_dec (by decide +kernel) : Good [.fieldLink RX10 10 "HookPier" "plan" "LHookPier$Plan;", .methodLink RX10 381 yX6_hasAnswer, .instanceMethod yX6_hasAnswer, .selects RX6 yX6_hasAnswer yX6_hasAnswer, .initialized RX6, .methodLink RX10 236 yX6_hasAsker, .instanceMethod yX6_hasAsker, .selects RX6 yX6_hasAsker yX6_hasAsker, .methodLink RX10 75 yX10_within, .static yX10_within, .initialized RX10, .fieldLink RX10 29 "HookPier" "now" "LHookPier$Now;", .fieldLink RX10 146 "HookPier$Now" "line" "[I"]) (gd_app qsX10 (gd_app qsX4 (gd_app qfX6_hasAnswer (gd_app qfX6_hasAsker qfX10_within)))))
theorem gfX10_hooksTrouble_0 : GoodIn vfX10_hooksTrouble (wsV RX10 381 RX6 yX6_hasAnswer vfX6_hasAnswer) := goodIn_app (goodIn_r [.methodLink RX10 381 yX6_hasAnswer, .instanceMethod yX6_hasAnswer, .selects RX6 yX6_hasAnswer yX6_hasAnswer, .initialized RX6] [2, 3, 4, 5] rfl (by decide +kernel)) (goodIn_m (fun _ h => (List.mem_cons_of_mem _ (List.mem_append_right _ (List.mem_append_right _ (List.mem_append_right _ (List.mem_append_left _ h)))))) qfX6_hasAnswer)
theorem gfX10_hooksTrouble_1 : GoodIn vfX10_hooksTrouble (wsV RX10 236 RX6 yX6_hasAsker vfX6_hasAsker) := goodIn_app (goodIn_r [.methodLink RX10 236 yX6_hasAsker, .instanceMethod yX6_hasAsker, .selects RX6 yX6_hasAsker yX6_hasAsker, .initialized RX6] [6, 7, 8, 5] rfl (by decide +kernel)) (goodIn_m (fun _ h => (List.mem_cons_of_mem _ (List.mem_append_right _ (List.mem_append_right _ (List.mem_append_right _ (List.mem_append_right _ (List.mem_append_left _ h))))))) qfX6_hasAsker)
theorem gfX10_hooksTrouble_2 : GoodIn vfX10_hooksTrouble (va_wsS RX10 75 yX10_within vfX10_within) := goodIn_app (goodIn_r [.methodLink RX10 75 yX10_within, .static yX10_within, .initialized RX10] [9, 10, 11] rfl (by decide +kernel)) (goodIn_m (fun _ h => (List.mem_cons_of_mem _ (List.mem_append_right _ (List.mem_append_right _ (List.mem_append_right _ (List.mem_append_right _ (List.mem_append_right _ h))))))) qfX10_within)
set_option maxHeartbeats 2000000 in
set_option maxRecDepth 100000 in
theorem kfX10_hooksTrouble (l : Launch) (dC : Nat → ClassId) (dI : Nat → Nat → Nat) (a0 : Nat) (k1 : Int32) (k2 : Int32) (k3 : Int32) (k4 : Int32) (a5 : Nat) (a6 : Nat) (up : Nat → Nat) (kp : Nat → ClassId) (un : Nat → Nat) (kn : Nat → ClassId) (g11 : Value) (g12 : Value) (g13 : Value) (g14 : Value) (g15 : Value) (g16 : Value) (g17 : Value) (g18 : Value) (p_p : TX6_p) (n_n : TX4_n) (sz : Nat) (out : Int32) (h : f_X10_hooksTrouble k1 k2 k3 k4 p_p n_n = some out) : KDi l yX10_hooksTrouble vfX10_hooksTrouble ({ frames := 2, cells := 0, slots := 0, locals := 43 }) (dC, dI) [.ref a0, .int k1, .int k2, .int k3, .int k4] sz ((a0, .inr (7, [.ref a5, g11, g12, .ref a6, g13, g14, g15, g16, g17, g18])) :: bX6 a5 up kp p_p (bX4 a6 un kn n_n [])) (tX6 kp (tX4 kn ([]))) (fun (r : Int32) _ => r = out) 0 0 := by
  refine Met.ofW (cc := cX10_hooksTrouble) (maxL := 5) (ret := (some .int)) (by decide) rfl ?_
  intro p e s m args below meth c s₁ B0 hml hv
  obtain ⟨rfl, hsz, hP, hK, hD0, hN⟩ := hv
  have hx := B0.exec
  have hb := B0.bytes
  have hr := B0.returns
  have hts := atoms_spec (ws := vfX10_hooksTrouble) B0.pre
  have hown : s.vm.findClass RX10 = some m.cls := findClass_of_methodNamed B0.named
  have hlocks := B0.notSynchronized
  subst hsz
  have hD := hD0.self (sz := s.heap.size)
  generalize hAe : va_A ((a0, .inr (7, [.ref a5, g11, g12, .ref a6, g13, g14, g15, g16, g17, g18])) :: bX6 a5 up kp p_p (bX4 a6 un kn n_n [])) s.heap.size = A at hD ⊢
  have hA : ∀ q : Nat, s.heap.size ≤ q → A q := fun q h => by rw [← hAe]; exact Or.inr h
  have hS : va_S A s.heap s.heap [] := va_S.rf
  have hP : va_P (dC, dI) vwCl ((a0, .inr (7, [.ref a5, g11, g12, .ref a6, g13, g14, g15, g16, g17, g18])) :: bX6 a5 up kp p_p (bX4 a6 un kn n_n [])) s.heap := hP
  have hl := lv_entry ([.ref a0, .int k1, .int k2, .int k3, .int k4]) (n := 5) (Nat.le_of_ble_eq_true rfl)
  rw [lg_entry_eq]
  generalize (lg_sl ([.ref a0, .int k1, .int k2, .int k3, .int k4]) ++ List.replicate (5 - (lg_sl ([.ref a0, .int k1, .int k2, .int k3, .int k4])).length) Slot.unset).toArray = ls at hl ⊢
  have hl : lv_has ls 5 [(0, .ref a0), (1, .int k1), (2, .int k2), (3, .int k3), (4, .int k4)] := hl
  refine W_q (fun QQ hQQ => ?_)
  rw [f_X10_hooksTrouble] at h
  refine lv_aload_n hx hb (zat zrX10_hooksTrouble_0_ok 0 rfl) rfl (lv_at hl 0 rfl) ?_
  refine va_get (D := (dC, dI)) (ci := 7) (v := .ref a5) (C := RX10) (T := TX10) (N := 10) hx hb hts ifX10_hooksTrouble_X10 hown hK hP 0 rfl rfl 0 (by decide) (hts (.fieldLink RX10 10 "HookPier" "plan" "LHookPier$Plan;") (List.mem_of_getElem? (i := 1) rfl)) (fun _ h9 => h9) rfl (zat zrX10_hooksTrouble_0_ok 1 rfl) ?_
  refine lv_iload_n hx hb (zat zrX10_hooksTrouble_0_ok 2 rfl) rfl (lv_at hl 1 rfl) ?_
  obtain ⟨o5, eo5⟩ : ∃ o, o = f_X6_hasAnswer k1 p_p := ⟨_, rfl⟩
  have h := nm_of h o5 eo5
  refine ck_i (wc := (bX6 a5 up kp p_p [])) (wr := ((a0, .inr (7, [.ref a5, g11, g12, .ref a6, g13, g14, g15, g16, g17, g18])) :: bX4 a6 un kn n_n [])) hP hD hK hS hA [1, 2, 3, 4, 5, 6, 7, 8, 9, 10] [0, 11, 12, 13, 14, 15] rfl rfl (by decide) (by decide) (by decide) (fun hPc hDc => (va_runV (As := [.int k1]) (rest := []) ⟨hx, hb, hml, hown, hts⟩ (kfX6_hasAnswer l dC dI a5 k1 up kp p_p s.heap.size o5 eo5.symm) (cwV 1 hts gfX10_hooksTrouble_0 rfl rfl rfl (by decide +kernel) ⟨(Nat.le_of_ble_eq_true rfl), (Nat.le_of_ble_eq_true rfl)⟩) (PV hPc (hK.sub (tys' := (tX6 kp ([]))) [0, 1, 2, 3, 4, 5, 6, 7, 8] rfl) hDc hN 0 rfl rfl) rfl rfl hl.1 rfl (lv_room (Nat.le_of_ble_eq_true rfl)) (zat zrX10_hooksTrouble_0_ok 3 rfl) ⟨(Nat.le_of_ble_eq_true rfl), (Nat.le_of_ble_eq_true rfl)⟩)) (fun r5 _ H locs hw hP hD _ hS => ?_)
  obtain ⟨hw, br5⟩ := hw
  obtain rfl := hw.symm
  obtain ⟨hP, hD⟩ := pd_mk ((a0, .inr (7, [.ref a5, g11, g12, .ref a6, g13, g14, g15, g16, g17, g18])) :: bX4 a6 un kn n_n (bX6 a5 up kp p_p [])) hP hD
  refine lv_if_eq (tgt := 38) hx hb (zat zrX10_hooksTrouble_0_ok 4 rfl) (by decide) (fun c8 => ?_) (fun c8 => ?_)
  · have h := (if_pos c8).symm.trans h
    refine lv_iconst (v := 1) hx hb (zat zrX10_hooksTrouble_0_ok 18 rfl) (by decide) ?_
    obtain rfl := Option.some.inj h
    obtain ⟨hP9, hD9⟩ := pd_sub ((a0, .inr (7, [.ref a5, g11, g12, .ref a6, g13, g14, g15, g16, g17, g18])) :: bX6 a5 up kp p_p (bX4 a6 un kn n_n [])) [0, 6, 7, 8, 9, 10, 11, 12, 13, 14, 15, 1, 2, 3, 4, 5] hP hD (by decide) rfl
    have hK9 := hK.sub (tys' := []) [] rfl
    rw [hQQ]
    exact W.iret (v := (1 : Int32)) hx hb hr (fun t ht hW => ⟨⟨(1 : Int32), (), rfl, rfl, by rw [ht]; exact hP9, va_K.moved hW.alike hK9, hD9⟩, hS.F ht⟩) hS.2.2 (zat zrX10_hooksTrouble_0_ok 19 rfl)
  · have h := (if_neg c8).symm.trans h
    refine lv_aload_n hx hb (zat zrX10_hooksTrouble_0_ok 5 rfl) rfl (lv_at hl 0 rfl) ?_
    refine va_get (D := (dC, dI)) (ci := 7) (v := .ref a5) (C := RX10) (T := TX10) (N := 10) hx hb hts ifX10_hooksTrouble_X10 hown hK hP 0 rfl rfl 0 (by decide) (hts (.fieldLink RX10 10 "HookPier" "plan" "LHookPier$Plan;") (List.mem_of_getElem? (i := 1) rfl)) (fun _ h9 => h9) rfl (zat zrX10_hooksTrouble_0_ok 6 rfl) ?_
    refine lv_iload_n hx hb (zat zrX10_hooksTrouble_0_ok 7 rfl) rfl (lv_at hl 2 rfl) ?_
    obtain ⟨o16, eo16⟩ : ∃ o, o = f_X6_hasAsker k2 p_p := ⟨_, rfl⟩
    have h := nm_of h o16 eo16
    refine ck_i (wc := (bX6 a5 up kp p_p [])) (wr := ((a0, .inr (7, [.ref a5, g11, g12, .ref a6, g13, g14, g15, g16, g17, g18])) :: bX4 a6 un kn n_n [])) hP hD hK hS hA [6, 7, 8, 9, 10, 11, 12, 13, 14, 15] [0, 1, 2, 3, 4, 5] rfl rfl (by decide) (by decide) (by decide) (fun hPc hDc => (va_runV (As := [.int k2]) (rest := []) ⟨hx, hb, hml, hown, hts⟩ (kfX6_hasAsker l dC dI a5 k2 up kp p_p H.size o16 eo16.symm) (cwV 1 hts gfX10_hooksTrouble_1 rfl rfl rfl (by decide +kernel) ⟨(Nat.le_of_ble_eq_true rfl), (Nat.le_of_ble_eq_true rfl)⟩) (PV hPc (hK.sub (tys' := (tX6 kp ([]))) [0, 1, 2, 3, 4, 5, 6, 7, 8] rfl) hDc hN 0 rfl rfl) rfl rfl hl.1 rfl (lv_room (Nat.le_of_ble_eq_true rfl)) (zat zrX10_hooksTrouble_0_ok 8 rfl) ⟨(Nat.le_of_ble_eq_true rfl), (Nat.le_of_ble_eq_true rfl)⟩)) (fun r16 _ H locs hw hP hD _ hS => ?_)
    obtain ⟨hw, br16⟩ := hw
    obtain rfl := hw.symm
    obtain ⟨hP, hD⟩ := pd_mk ((a0, .inr (7, [.ref a5, g11, g12, .ref a6, g13, g14, g15, g16, g17, g18])) :: bX4 a6 un kn n_n (bX6 a5 up kp p_p [])) hP hD
    refine lv_if_eq (tgt := 38) hx hb (zat zrX10_hooksTrouble_0_ok 9 rfl) (by decide) (fun c19 => ?_) (fun c19 => ?_)
    · have h := (if_pos c19).symm.trans h
      refine lv_iconst (v := 1) hx hb (zat zrX10_hooksTrouble_0_ok 18 rfl) (by decide) ?_
      obtain rfl := Option.some.inj h
      obtain ⟨hP9, hD9⟩ := pd_sub ((a0, .inr (7, [.ref a5, g11, g12, .ref a6, g13, g14, g15, g16, g17, g18])) :: bX6 a5 up kp p_p (bX4 a6 un kn n_n [])) [0, 6, 7, 8, 9, 10, 11, 12, 13, 14, 15, 1, 2, 3, 4, 5] hP hD (by decide) rfl
      have hK9 := hK.sub (tys' := []) [] rfl
      rw [hQQ]
      exact W.iret (v := (1 : Int32)) hx hb hr (fun t ht hW => ⟨⟨(1 : Int32), (), rfl, rfl, by rw [ht]; exact hP9, va_K.moved hW.alike hK9, hD9⟩, hS.F ht⟩) hS.2.2 (zat zrX10_hooksTrouble_0_ok 19 rfl)
    · have h := (if_neg c19).symm.trans h
      refine lv_aload_n hx hb (zat zrX10_hooksTrouble_0_ok 10 rfl) rfl (lv_at hl 0 rfl) ?_
      refine va_get (D := (dC, dI)) (ci := 7) (v := .ref a5) (C := RX10) (T := TX10) (N := 10) hx hb hts ifX10_hooksTrouble_X10 hown hK hP 0 rfl rfl 0 (by decide) (hts (.fieldLink RX10 10 "HookPier" "plan" "LHookPier$Plan;") (List.mem_of_getElem? (i := 1) rfl)) (fun _ h9 => h9) rfl (zat zrX10_hooksTrouble_0_ok 11 rfl) ?_
      refine lv_iload_n hx hb (zat zrX10_hooksTrouble_0_ok 12 rfl) rfl (lv_at hl 3 rfl) ?_
      obtain ⟨o27, eo27⟩ : ∃ o, o = f_X6_hasAsker k3 p_p := ⟨_, rfl⟩
      have h := nm_of h o27 eo27
      refine ck_i (wc := (bX6 a5 up kp p_p [])) (wr := ((a0, .inr (7, [.ref a5, g11, g12, .ref a6, g13, g14, g15, g16, g17, g18])) :: bX4 a6 un kn n_n [])) hP hD hK hS hA [6, 7, 8, 9, 10, 11, 12, 13, 14, 15] [0, 1, 2, 3, 4, 5] rfl rfl (by decide) (by decide) (by decide) (fun hPc hDc => (va_runV (As := [.int k3]) (rest := []) ⟨hx, hb, hml, hown, hts⟩ (kfX6_hasAsker l dC dI a5 k3 up kp p_p H.size o27 eo27.symm) (cwV 1 hts gfX10_hooksTrouble_1 rfl rfl rfl (by decide +kernel) ⟨(Nat.le_of_ble_eq_true rfl), (Nat.le_of_ble_eq_true rfl)⟩) (PV hPc (hK.sub (tys' := (tX6 kp ([]))) [0, 1, 2, 3, 4, 5, 6, 7, 8] rfl) hDc hN 0 rfl rfl) rfl rfl hl.1 rfl (lv_room (Nat.le_of_ble_eq_true rfl)) (zat zrX10_hooksTrouble_0_ok 13 rfl) ⟨(Nat.le_of_ble_eq_true rfl), (Nat.le_of_ble_eq_true rfl)⟩)) (fun r27 _ H locs hw hP hD _ hS => ?_)
      obtain ⟨hw, br27⟩ := hw
      obtain rfl := hw.symm
      obtain ⟨hP, hD⟩ := pd_mk ((a0, .inr (7, [.ref a5, g11, g12, .ref a6, g13, g14, g15, g16, g17, g18])) :: bX4 a6 un kn n_n (bX6 a5 up kp p_p [])) hP hD
      refine lv_if_eq (tgt := 38) hx hb (zat zrX10_hooksTrouble_0_ok 14 rfl) (by decide) (fun c30 => ?_) (fun c30 => ?_)
      · have h := (if_pos c30).symm.trans h
        refine lv_iconst (v := 1) hx hb (zat zrX10_hooksTrouble_0_ok 18 rfl) (by decide) ?_
        obtain rfl := Option.some.inj h
        obtain ⟨hP9, hD9⟩ := pd_sub ((a0, .inr (7, [.ref a5, g11, g12, .ref a6, g13, g14, g15, g16, g17, g18])) :: bX6 a5 up kp p_p (bX4 a6 un kn n_n [])) [0, 6, 7, 8, 9, 10, 11, 12, 13, 14, 15, 1, 2, 3, 4, 5] hP hD (by decide) rfl
        have hK9 := hK.sub (tys' := []) [] rfl
        rw [hQQ]
        exact W.iret (v := (1 : Int32)) hx hb hr (fun t ht hW => ⟨⟨(1 : Int32), (), rfl, rfl, by rw [ht]; exact hP9, va_K.moved hW.alike hK9, hD9⟩, hS.F ht⟩) hS.2.2 (zat zrX10_hooksTrouble_0_ok 19 rfl)
      · have h := (if_neg c30).symm.trans h
        refine lv_iload_n hx hb (zat zrX10_hooksTrouble_0_ok 15 rfl) rfl (lv_at hl 2 rfl) ?_
        refine lv_iload_n hx hb (zat zrX10_hooksTrouble_0_ok 16 rfl) rfl (lv_at hl 3 rfl) ?_
        refine lv_icmp_ne (tgt := 40) hx hb (zat zrX10_hooksTrouble_0_ok 17 rfl) (by decide) (fun c35 => ?_) (fun c35 => ?_)
        · have h := (if_neg c35).symm.trans h
          refine lv_iload hx hb (zat zrX10_hooksTrouble_0_ok 20 rfl) (lv_at hl 4 rfl) ?_
          refine lv_iconst (v := 0) hx hb (zat zrX10_hooksTrouble_0_ok 21 rfl) (by decide) ?_
          refine lv_sipush (v := 999) hx hb (zat zrX10_hooksTrouble_0_ok 22 rfl) (by decide) ?_
          obtain ⟨o46, eo46⟩ : ∃ o, o = f_X10_within k4 (0 : Int32) (999 : Int32) := ⟨_, rfl⟩
          have h := nm_of h o46 eo46
          refine ck_i (wc := []) (wr := ((a0, .inr (7, [.ref a5, g11, g12, .ref a6, g13, g14, g15, g16, g17, g18])) :: bX4 a6 un kn n_n (bX6 a5 up kp p_p []))) hP hD hK hS hA [] [0, 1, 2, 3, 4, 5, 6, 7, 8, 9, 10, 11, 12, 13, 14, 15] rfl rfl (by decide) (by decide) (by decide) (fun hPc hDc => (va_runS (As := [.int k4, .int 0, .int 999]) (rest := []) ⟨hx, hb, hml, hown, hts⟩ (kfX10_within l dC dI k4 (0 : Int32) (999 : Int32) H.size o46 eo46.symm) (va_cwS 3 hts gfX10_hooksTrouble_2 rfl rfl rfl (by decide +kernel) ⟨(Nat.le_of_ble_eq_true rfl), (Nat.le_of_ble_eq_true rfl)⟩) (PS hPc (hK.sub (tys' := ([])) [] rfl) hDc hN) rfl rfl hl.1 rfl (lv_room (Nat.le_of_ble_eq_true rfl)) (zat zrX10_hooksTrouble_0_ok 23 rfl) ⟨(Nat.le_of_ble_eq_true rfl), (Nat.le_of_ble_eq_true rfl)⟩)) (fun r46 _ H locs hw hP hD _ hS => ?_)
          obtain ⟨hw, br46⟩ := hw
          obtain rfl := hw.symm
          obtain ⟨hP, hD⟩ := pd_mk ((a0, .inr (7, [.ref a5, g11, g12, .ref a6, g13, g14, g15, g16, g17, g18])) :: bX4 a6 un kn n_n (bX6 a5 up kp p_p [])) hP hD
          refine lv_if_ne (tgt := 54) hx hb (zat zrX10_hooksTrouble_0_ok 24 rfl) (by decide) (fun c49 => ?_) (fun c49 => ?_)
          · have h := (if_neg c49).symm.trans h
            refine lv_aload_n hx hb (zat zrX10_hooksTrouble_0_ok 27 rfl) rfl (lv_at hl 0 rfl) ?_
            refine va_get (D := (dC, dI)) (ci := 7) (v := .ref a6) (C := RX10) (T := TX10) (N := 10) hx hb hts ifX10_hooksTrouble_X10 hown hK hP 0 rfl rfl 3 (by decide) (hts (.fieldLink RX10 29 "HookPier" "now" "LHookPier$Now;") (List.mem_of_getElem? (i := 12) rfl)) (fun _ h9 => h9) rfl (zat zrX10_hooksTrouble_0_ok 28 rfl) ?_
            refine va_get (D := (dC, dI)) (ci := 3) (v := .ref (un 3)) (C := RX4) (T := TX4) (N := 7) hx hb hts ifX10_hooksTrouble_X4 hown hK hP 1 rfl rfl 6 (by decide) (hts (.fieldLink RX10 146 "HookPier$Now" "line" "[I") (List.mem_of_getElem? (i := 13) rfl)) (fun _ h9 => h9) rfl (zat zrX10_hooksTrouble_0_ok 29 rfl) ?_
            refine lv_iload_n hx hb (zat zrX10_hooksTrouble_0_ok 30 rfl) rfl (lv_at hl 2 rfl) ?_
            obtain ⟨hg62, h⟩ := gA_of h
            refine va_iald hx hb hK hP 5 12 rfl rfl hg62 (zat zrX10_hooksTrouble_0_ok 31 rfl) ?_
            refine lv_iconst (v := (-1)) hx hb (zat zrX10_hooksTrouble_0_ok 32 rfl) (by decide) ?_
            have J80 : ∀ (H : Heap) (locs : List Loc) (ls : Array Slot), f_X10_hooksTrouble_J80 = some out → va_P (dC, dI) vwCl ((a0, .inr (7, [.ref a5, g11, g12, .ref a6, g13, g14, g15, g16, g17, g18])) :: bX4 a6 un kn n_n (bX6 a5 up kp p_p [])) H → va_D A ((a0, .inr (7, [.ref a5, g11, g12, .ref a6, g13, g14, g15, g16, g17, g18])) :: bX4 a6 un kn n_n (bX6 a5 up kp p_p [])) → va_S A s.heap H locs → lv_has ls 5 [] → W p l e (headSpec vfX10_hooksTrouble { frames := 2, cells := 0, slots := 0, locals := 43 }).room s m ([.ref a0, .int k1, .int k2, .int k3, .int k4]).toArray below meth c H locs 0 0 QQ (F0 m 80 ls []) := by
              intro  H locs ls h  hP hD hS hl
              rw [f_X10_hooksTrouble_J80] at h
              refine lv_iconst (v := 5) hx hb (zat zrX10_hooksTrouble_0_ok 41 rfl) (by decide) ?_
              refine lv_goto (tgt := 85) hx hb (zat zrX10_hooksTrouble_0_ok 42 rfl) (by decide) ?_
              obtain rfl := Option.some.inj h
              obtain ⟨hP9, hD9⟩ := pd_sub ((a0, .inr (7, [.ref a5, g11, g12, .ref a6, g13, g14, g15, g16, g17, g18])) :: bX6 a5 up kp p_p (bX4 a6 un kn n_n [])) [0, 6, 7, 8, 9, 10, 11, 12, 13, 14, 15, 1, 2, 3, 4, 5] hP hD (by decide) rfl
              have hK9 := hK.sub (tys' := []) [] rfl
              rw [hQQ]
              exact W.iret (v := (5 : Int32)) hx hb hr (fun t ht hW => ⟨⟨(5 : Int32), (), rfl, rfl, by rw [ht]; exact hP9, va_K.moved hW.alike hK9, hD9⟩, hS.F ht⟩) hS.2.2 (zat zrX10_hooksTrouble_0_ok 44 rfl)
            refine lv_icmp_eq (tgt := 80) hx hb (zat zrX10_hooksTrouble_0_ok 33 rfl) (by decide) (fun c64 => ?_) (fun c64 => ?_)
            · have h := (if_pos c64).symm.trans h
              exact J80  H _ ls h  hP hD hS (lv_sub hl [] rfl)
            · have h := (if_neg c64).symm.trans h
              refine lv_aload_n hx hb (zat zrX10_hooksTrouble_0_ok 34 rfl) rfl (lv_at hl 0 rfl) ?_
              refine va_get (D := (dC, dI)) (ci := 7) (v := .ref a6) (C := RX10) (T := TX10) (N := 10) hx hb hts ifX10_hooksTrouble_X10 hown hK hP 0 rfl rfl 3 (by decide) (hts (.fieldLink RX10 29 "HookPier" "now" "LHookPier$Now;") (List.mem_of_getElem? (i := 12) rfl)) (fun _ h9 => h9) rfl (zat zrX10_hooksTrouble_0_ok 35 rfl) ?_
              refine va_get (D := (dC, dI)) (ci := 3) (v := .ref (un 3)) (C := RX4) (T := TX4) (N := 7) hx hb hts ifX10_hooksTrouble_X4 hown hK hP 1 rfl rfl 6 (by decide) (hts (.fieldLink RX10 146 "HookPier$Now" "line" "[I") (List.mem_of_getElem? (i := 13) rfl)) (fun _ h9 => h9) rfl (zat zrX10_hooksTrouble_0_ok 36 rfl) ?_
              refine lv_iload_n hx hb (zat zrX10_hooksTrouble_0_ok 37 rfl) rfl (lv_at hl 3 rfl) ?_
              obtain ⟨hg75, h⟩ := gA_of h
              refine va_iald hx hb hK hP 5 12 rfl rfl hg75 (zat zrX10_hooksTrouble_0_ok 38 rfl) ?_
              refine lv_iconst (v := (-1)) hx hb (zat zrX10_hooksTrouble_0_ok 39 rfl) (by decide) ?_
              refine lv_icmp_ne (tgt := 84) hx hb (zat zrX10_hooksTrouble_0_ok 40 rfl) (by decide) (fun c77 => ?_) (fun c77 => ?_)
              · have h := (if_neg c77).symm.trans h
                refine lv_iconst (v := 0) hx hb (zat zrX10_hooksTrouble_0_ok 43 rfl) (by decide) ?_
                obtain rfl := Option.some.inj h
                obtain ⟨hP9, hD9⟩ := pd_sub ((a0, .inr (7, [.ref a5, g11, g12, .ref a6, g13, g14, g15, g16, g17, g18])) :: bX6 a5 up kp p_p (bX4 a6 un kn n_n [])) [0, 6, 7, 8, 9, 10, 11, 12, 13, 14, 15, 1, 2, 3, 4, 5] hP hD (by decide) rfl
                have hK9 := hK.sub (tys' := []) [] rfl
                rw [hQQ]
                exact W.iret (v := (0 : Int32)) hx hb hr (fun t ht hW => ⟨⟨(0 : Int32), (), rfl, rfl, by rw [ht]; exact hP9, va_K.moved hW.alike hK9, hD9⟩, hS.F ht⟩) hS.2.2 (zat zrX10_hooksTrouble_0_ok 44 rfl)
              · have h := (if_pos c77).symm.trans h
                exact J80  H _ ls h  hP hD hS (lv_sub hl [] rfl)
          · have h := (if_pos c49).symm.trans h
            refine lv_iconst (v := 2) hx hb (zat zrX10_hooksTrouble_0_ok 25 rfl) (by decide) ?_
            obtain rfl := Option.some.inj h
            obtain ⟨hP9, hD9⟩ := pd_sub ((a0, .inr (7, [.ref a5, g11, g12, .ref a6, g13, g14, g15, g16, g17, g18])) :: bX6 a5 up kp p_p (bX4 a6 un kn n_n [])) [0, 6, 7, 8, 9, 10, 11, 12, 13, 14, 15, 1, 2, 3, 4, 5] hP hD (by decide) rfl
            have hK9 := hK.sub (tys' := []) [] rfl
            rw [hQQ]
            exact W.iret (v := (2 : Int32)) hx hb hr (fun t ht hW => ⟨⟨(2 : Int32), (), rfl, rfl, by rw [ht]; exact hP9, va_K.moved hW.alike hK9, hD9⟩, hS.F ht⟩) hS.2.2 (zat zrX10_hooksTrouble_0_ok 26 rfl)
        · have h := (if_pos c35).symm.trans h
          refine lv_iconst (v := 1) hx hb (zat zrX10_hooksTrouble_0_ok 18 rfl) (by decide) ?_
          obtain rfl := Option.some.inj h
          obtain ⟨hP9, hD9⟩ := pd_sub ((a0, .inr (7, [.ref a5, g11, g12, .ref a6, g13, g14, g15, g16, g17, g18])) :: bX6 a5 up kp p_p (bX4 a6 un kn n_n [])) [0, 6, 7, 8, 9, 10, 11, 12, 13, 14, 15, 1, 2, 3, 4, 5] hP hD (by decide) rfl
          have hK9 := hK.sub (tys' := []) [] rfl
          rw [hQQ]
          exact W.iret (v := (1 : Int32)) hx hb hr (fun t ht hW => ⟨⟨(1 : Int32), (), rfl, rfl, by rw [ht]; exact hP9, va_K.moved hW.alike hK9, hD9⟩, hS.F ht⟩) hS.2.2 (zat zrX10_hooksTrouble_0_ok 19 rfl)
