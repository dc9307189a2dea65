theorem dX10_askLeaves_0 : decode cX10_askLeaves 0 = .ok (.aload_n 0, 1) := by decide +kernel
theorem dX10_askLeaves_1 : decode cX10_askLeaves 1 = .ok (.aload_n 0, 1) := by decide +kernel
theorem dX10_askLeaves_11 : decode cX10_askLeaves 11 = .ok (.iconst (-1), 1) := by decide +kernel
theorem dX10_askLeaves_12 : decode cX10_askLeaves 12 = .ok (.ireturn, 1) := by decide +kernel
theorem dX10_askLeaves_13 : decode cX10_askLeaves 13 = .ok (.aload_n 0, 1) := by decide +kernel
theorem dX10_askLeaves_14 : decode cX10_askLeaves 14 = .ok (.getfield 50, 3) := by decide +kernel
theorem dX10_askLeaves_17 : decode cX10_askLeaves 17 = .ok (.aload_n 0, 1) := by decide +kernel
theorem dX10_askLeaves_18 : decode cX10_askLeaves 18 = .ok (.getfield 10, 3) := by decide +kernel
theorem dX10_askLeaves_2 : decode cX10_askLeaves 2 = .ok (.invokevirtual 264, 3) := by decide +kernel
theorem dX10_askLeaves_21 : decode cX10_askLeaves 21 = .ok (.invokevirtual 267, 3) := by decide +kernel
theorem dX10_askLeaves_24 : decode cX10_askLeaves 24 = .ok (.aload_n 0, 1) := by decide +kernel
theorem dX10_askLeaves_25 : decode cX10_askLeaves 25 = .ok (.getfield 50, 3) := by decide +kernel
theorem dX10_askLeaves_28 : decode cX10_askLeaves 28 = .ok (.aload_n 0, 1) := by decide +kernel
theorem dX10_askLeaves_29 : decode cX10_askLeaves 29 = .ok (.getfield 10, 3) := by decide +kernel
theorem dX10_askLeaves_32 : decode cX10_askLeaves 32 = .ok (.invokevirtual 276, 3) := by decide +kernel
theorem dX10_askLeaves_35 : decode cX10_askLeaves 35 = .ok (.istore_n 1, 1) := by decide +kernel
theorem dX10_askLeaves_36 : decode cX10_askLeaves 36 = .ok (.iload_n 1, 1) := by decide +kernel
theorem dX10_askLeaves_37 : decode cX10_askLeaves 37 = .ok (.bipush (-2), 2) := by decide +kernel
theorem dX10_askLeaves_39 : decode cX10_askLeaves 39 = .ok (.if_icmp .ne 8, 3) := by decide +kernel
theorem dX10_askLeaves_42 : decode cX10_askLeaves 42 = .ok (.bipush (-2), 2) := by decide +kernel
theorem dX10_askLeaves_44 : decode cX10_askLeaves 44 = .ok (.goto 15, 3) := by decide +kernel
theorem dX10_askLeaves_47 : decode cX10_askLeaves 47 = .ok (.aload_n 0, 1) := by decide +kernel
theorem dX10_askLeaves_48 : decode cX10_askLeaves 48 = .ok (.getfield 50, 3) := by decide +kernel
theorem dX10_askLeaves_5 : decode cX10_askLeaves 5 = .ok (.invokevirtual 79, 3) := by decide +kernel
theorem dX10_askLeaves_51 : decode cX10_askLeaves 51 = .ok (.aload_n 0, 1) := by decide +kernel
theorem dX10_askLeaves_52 : decode cX10_askLeaves 52 = .ok (.getfield 10, 3) := by decide +kernel
theorem dX10_askLeaves_55 : decode cX10_askLeaves 55 = .ok (.iload_n 1, 1) := by decide +kernel
theorem dX10_askLeaves_56 : decode cX10_askLeaves 56 = .ok (.invokevirtual 280, 3) := by decide +kernel
theorem dX10_askLeaves_59 : decode cX10_askLeaves 59 = .ok (.ireturn, 1) := by decide +kernel
theorem dX10_askLeaves_8 : decode cX10_askLeaves 8 = .ok (.ifCond .eq 5, 3) := by decide +kernel
def vfX10_askLeaves : List Cond := List.cons (.code yX10_askLeaves cX10_askLeaves 2 (some .int)) (apW [.methodLink RX10 264 yX10_darkTrouble, .instanceMethod yX10_darkTrouble, .selects RX10 yX10_darkTrouble yX10_darkTrouble, .initialized RX10, .methodLink RX10 79 yX10_refused, .instanceMethod yX10_refused, .selects RX10 yX10_refused yX10_refused, .fieldLink RX10 50 "HookPier" "dark" "LHookPier$Dark;", .fieldLink RX10 10 "HookPier" "plan" "LHookPier$Plan;", .methodLink RX10 267 yX0_find, .instanceMethod yX0_find, .selects RX0 yX0_find yX0_find, .initialized RX0, .methodLink RX10 276 yX0_tellingQuestion, .instanceMethod yX0_tellingQuestion, .selects RX0 yX0_tellingQuestion yX0_tellingQuestion, .methodLink RX10 280 yX0_leftAtMost, .instanceMethod yX0_leftAtMost, .selects RX0 yX0_leftAtMost yX0_leftAtMost] (apW wsX100 (apW vfX10_darkTrouble (apW vfX10_refused (apW vfX0_find (apW vfX0_tellingQuestion (vfX0_leftAtMost)))))))
theorem ifX10_askLeaves_X10 : ∀ w ∈ wsX100, w ∈ vfX10_askLeaves := fun _ h => (List.mem_cons_of_mem _ (List.mem_append_right _ (List.mem_append_left _ h)))
theorem qfX10_askLeaves : Good vfX10_askLeaves := gd_cons (by decide +kernel) (gd_app (gd_dec (by decide +kernel) : Good [.methodLink RX10 264 yX10_darkTrouble, .instanceMethod yX10_darkTrouble, .selects RX10 yX10_darkTrouble yX10_darkTrouble, .initialized RX10, .methodLink RX10 79 yX10_refused, .instanceMethod yX10_refused, .selects RX10 yX10_refused yX10_refused, .fieldLink RX10 50 "HookPier" "dark" "LHookPier$Dark;", .fieldLink RX10 10 "HookPier" "plan" "LHookPier$Plan;", .methodLink RX10 267 yX0_find, .instanceMethod yX0_find, .selects RX0 yX0_find yX0_find, .initialized RX0, .methodLink RX10 276 yX0_tellingQuestion, .instanceMethod yX0_tellingQuestion, .selects RX0 yX0_tellingQuestion yX0_tellingQuestion, .methodLink RX10 280 yX0_leftAtMost, .instanceMethod yX0_leftAtMost, .selects RX0 yX0_leftAtMost yX0_leftAtMost]) (gd_app qsX10 (gd_app qfX10_darkTrouble (gd_app qfX10_refused (gd_app qfX0_find (gd_app qfX0_tellingQuestion qfX0_leftAtMost))))))
theorem gfX10_askLeaves_0 : GoodIn vfX10_askLeaves (wsV RX10 264 RX10 yX10_darkTrouble vfX10_darkTrouble) := goodIn_app (goodIn_r [.methodLink RX10 264 yX10_darkTrouble, .instanceMethod yX10_darkTrouble, .selects RX10 yX10_darkTrouble yX10_darkTrouble, .initialized RX10] [1, 2, 3, 4] rfl (by decide +kernel)) (goodIn_m (fun _ h => (List.mem_cons_of_mem _ (List.mem_append_right _ (List.mem_append_right _ (List.mem_append_left _ h))))) qfX10_darkTrouble)
theorem gfX10_askLeaves_1 : GoodIn vfX10_askLeaves (wsV RX10 79 RX10 yX10_refused vfX10_refused) := goodIn_app (goodIn_r [.methodLink RX10 79 yX10_refused, .instanceMethod yX10_refused, .selects RX10 yX10_refused yX10_refused, .initialized RX10] [5, 6, 7, 4] rfl (by decide +kernel)) (goodIn_m (fun _ h => (List.mem_cons_of_mem _ (List.mem_append_right _ (List.mem_append_right _ (List.mem_append_right _ (List.mem_append_left _ h)))))) qfX10_refused)
theorem gfX10_askLeaves_2 : GoodIn vfX10_askLeaves (wsV RX10 267 RX0 yX0_find vfX0_find) := goodIn_app (goodIn_r [.methodLink RX10 267 yX0_find, .instanceMethod yX0_find, .selects RX0 yX0_find yX0_find, .initialized RX0] [10, 11, 12, 13] rfl (by decide +kernel)) (goodIn_m (fun _ h => (List.mem_cons_of_mem _ (List.mem_append_right _ (List.mem_append_right _ (List.mem_append_right _ (List.mem_append_right _ (List.mem_append_left _ h))))))) qfX0_find)
theorem gfX10_askLeaves_3 : GoodIn vfX10_askLeaves (wsV RX10 276 RX0 yX0_tellingQuestion vfX0_tellingQuestion) := goodIn_app (goodIn_r [.methodLink RX10 276 yX0_tellingQuestion, .instanceMethod yX0_tellingQuestion, .selects RX0 yX0_tellingQuestion yX0_tellingQuestion, .initialized RX0] [14, 15, 16, 13] rfl (by decide +kernel)) (goodIn_m (fun _ h => (List.mem_cons_of_mem _ (List.mem_append_right _ (List.mem_append_right _ (List.mem_append_right _ (List.mem_append_right _ (List.mem_append_right _ (List.mem_append_left _ h)))))))) qfX0_tellingQuestion)
theorem gfX10_askLeaves_4 : GoodIn vfX10_askLeaves (wsV RX10 280 RX0 yX0_leftAtMost vfX0_leftAtMost) := goodIn_app (goodIn_r [.methodLink RX10 280 yX0_leftAtMost, .instanceMethod yX0_leftAtMost, .selects RX0 yX0_leftAtMost yX0_leftAtMost, .initialized RX0] [17, 18, 19, 13] rfl (by decide +kernel)) (goodIn_m (fun _ h => (List.mem_cons_of_mem _ (List.mem_append_right _ (List.mem_append_right _ (List.mem_append_right _ (List.mem_append_right _ (List.mem_append_right _ (List.mem_append_right _ h)))))))) qfX0_leftAtMost)
set_option maxHeartbeats 2000000 in
set_option maxRecDepth 100000 in
theorem kfX10_askLeaves (l : Launch) (dC : Nat → ClassId) (dI : Nat → Nat → Nat) (a0 : Nat) (a1 : Nat) (a2 : Nat) (up : Nat → Nat) (kp : Nat → ClassId) (ud : Nat → Nat) (kd : Nat → ClassId) (x_x : TX10_x) (g8 : Value) (g9 : Value) (g10 : Value) (g11 : Value) (g12 : Value) (g13 : Value) (p_p : TX6_p) (d_d : TX0_d) (sz : Nat) (out : (Int32 × TX10_x × TX0_d)) (h : f_X10_askLeaves x_x p_p d_d = some out) : Met l yX10_askLeaves vfX10_askLeaves ({ frames := 4, cells := 0, slots := 0, locals := 93 }) (PC (dC, dI) [.ref a0] sz ((a0, .inr (7, [.ref a1, g8, g9, g10, g11, g12, .ref a2, g13, .int x_x.1, .int x_x.2])) :: bX6 a1 up kp p_p (bX0 a2 ud kd d_d [])) (tX6 kp (tX0 kd ([])))) (va_Qi (S := Unit) (fun (r : Int32) _ => r = out.1) (fun _ t => BC (dC, dI) (va_A ((a0, .inr (7, [.ref a1, g8, g9, g10, g11, g12, .ref a2, g13, .int x_x.1, .int x_x.2])) :: bX6 a1 up kp p_p (bX0 a2 ud kd d_d [])) sz) ((a0, .inr (7, [.ref a1, g8, g9, g10, g11, g12, .ref a2, g13, .int out.2.1.1, .int out.2.1.2])) :: bX6 a1 up kp p_p (bX0 a2 ud kd out.2.2 [])) [] t) (va_A ((a0, .inr (7, [.ref a1, g8, g9, g10, g11, g12, .ref a2, g13, .int x_x.1, .int x_x.2])) :: bX6 a1 up kp p_p (bX0 a2 ud kd d_d [])) sz)) 0 0 (va_A ((a0, .inr (7, [.ref a1, g8, g9, g10, g11, g12, .ref a2, g13, .int x_x.1, .int x_x.2])) :: bX6 a1 up kp p_p (bX0 a2 ud kd d_d [])) sz) := by
  refine Met.ofW (cc := cX10_askLeaves) (maxL := 2) (ret := (some .int)) (by decide) rfl ?_
  intro p e s m args below meth c s₁ B0 hml hv
  obtain ⟨rfl, hsz, hP, hK, hD0, hN⟩ := hv
  have hx := B0.exec
  have hb := B0.bytes
  have hr := B0.returns
  have hts := atoms_spec (ws := vfX10_askLeaves) B0.pre
  have hown : s.vm.findClass RX10 = some m.cls := findClass_of_methodNamed B0.named
  have hlocks := B0.notSynchronized
  subst hsz
  have hD := hD0.self (sz := s.heap.size)
  generalize hAe : va_A ((a0, .inr (7, [.ref a1, g8, g9, g10, g11, g12, .ref a2, g13, .int x_x.1, .int x_x.2])) :: bX6 a1 up kp p_p (bX0 a2 ud kd d_d [])) s.heap.size = A at hD ⊢
  have hA : ∀ q : Nat, s.heap.size ≤ q → A q := fun q h => by rw [← hAe]; exact Or.inr h
  have hS : va_S A s.heap s.heap [] := va_S.rf
  have hP : va_P (dC, dI) vwCl ((a0, .inr (7, [.ref a1, g8, g9, g10, g11, g12, .ref a2, g13, .int x_x.1, .int x_x.2])) :: bX6 a1 up kp p_p (bX0 a2 ud kd d_d [])) s.heap := hP
  have hl := lv_entry ([.ref a0]) (n := 2) (Nat.le_of_ble_eq_true rfl)
  rw [lg_entry_eq]
  generalize (lg_sl ([.ref a0]) ++ List.replicate (2 - (lg_sl ([.ref a0])).length) Slot.unset).toArray = ls at hl ⊢
  have hl : lv_has ls 2 [(0, .ref a0)] := hl
  refine W_q (fun QQ hQQ => ?_)
  rw [f_X10_askLeaves] at h
  refine lv_aload_n hx hb dX10_askLeaves_0 rfl (lv_at hl 0 rfl) ?_
  refine lv_aload_n hx hb dX10_askLeaves_1 rfl (lv_at hl 0 rfl) ?_
  obtain ⟨o2, eo2⟩ : ∃ o, o = f_X10_darkTrouble p_p := ⟨_, rfl⟩
  have h := nm_of h o2 eo2
  refine cl_i (wc := ((a0, .inr (7, [.ref a1, g8, g9, g10, g11, g12, .ref a2, g13, .int x_x.1, .int x_x.2])) :: bX6 a1 up kp p_p [])) (wr := (bX0 a2 ud kd d_d [])) (va_runV (As := []) (rest := [.ref a0]) ⟨hx, hb, hml, hown, hts⟩ (kfX10_darkTrouble l dC dI a0 a1 up kp (g8) (g9) (g10) (g11) (g12) (.ref a2) (g13) (.int x_x.1) (.int x_x.2) p_p s.heap.size o2 eo2.symm) (cwV 0 hts gfX10_askLeaves_0 rfl rfl rfl (by decide +kernel) ⟨(Nat.le_of_ble_eq_true rfl), (Nat.le_of_ble_eq_true rfl)⟩) (PV (hP.sub (ws' := ((a0, .inr (7, [.ref a1, g8, g9, g10, g11, g12, .ref a2, g13, .int x_x.1, .int x_x.2])) :: bX6 a1 up kp p_p [])) [0, 1, 2, 3, 4, 5, 6, 7, 8, 9, 10] rfl) (hK.sub (tys' := (tX6 kp ([]))) [0, 1, 2, 3, 4, 5, 6, 7, 8] rfl) (hD.sub (ws' := ((a0, .inr (7, [.ref a1, g8, g9, g10, g11, g12, .ref a2, g13, .int x_x.1, .int x_x.2])) :: bX6 a1 up kp p_p [])) [0, 1, 2, 3, 4, 5, 6, 7, 8, 9, 10] (by decide) rfl) hN 0 rfl rfl) rfl rfl hl.1 rfl (lv_room (Nat.le_of_ble_eq_true rfl)) dX10_askLeaves_2 ⟨(Nat.le_of_ble_eq_true rfl), (Nat.le_of_ble_eq_true rfl)⟩) hP hD hK hS hA [0, 1, 2, 3, 4, 5, 6, 7, 8, 9, 10] [11, 12] rfl rfl (by decide) (by decide) (fun r2 _ H locs hw hP hD _ hS => ?_)
  obtain rfl := hw.symm
  have hP : va_P (dC, dI) vwCl (bX0 a2 ud kd d_d ((a0, .inr (7, [.ref a1, g8, g9, g10, g11, g12, .ref a2, g13, .int x_x.1, .int x_x.2])) :: bX6 a1 up kp p_p [])) H := hP
  have hD : va_D A (bX0 a2 ud kd d_d ((a0, .inr (7, [.ref a1, g8, g9, g10, g11, g12, .ref a2, g13, .int x_x.1, .int x_x.2])) :: bX6 a1 up kp p_p [])) := hD
  obtain ⟨o5, eo5⟩ : ∃ o, o = f_X10_refused o2 x_x := ⟨_, rfl⟩
  have h := nm_of h o5 eo5
  refine cl_i (wc := ([(a0, .inr (7, [.ref a1, g8, g9, g10, g11, g12, .ref a2, g13, .int x_x.1, .int x_x.2]))])) (wr := (bX0 a2 ud kd d_d (bX6 a1 up kp p_p []))) (va_runV (As := [.int o2]) (rest := []) ⟨hx, hb, hml, hown, hts⟩ (kfX10_refused l dC dI a0 o2 x_x (.ref a1) (g8) (g9) (g10) (g11) (g12) (.ref a2) (g13) H.size o5 eo5.symm) (cwV 1 hts gfX10_askLeaves_1 rfl rfl rfl (by decide +kernel) ⟨(Nat.le_of_ble_eq_true rfl), (Nat.le_of_ble_eq_true rfl)⟩) (PV (hP.sub (ws' := ([(a0, .inr (7, [.ref a1, g8, g9, g10, g11, g12, .ref a2, g13, .int x_x.1, .int x_x.2]))])) [2] rfl) (hK.sub (tys' := ([])) [] rfl) (hD.sub (ws' := ([(a0, .inr (7, [.ref a1, g8, g9, g10, g11, g12, .ref a2, g13, .int x_x.1, .int x_x.2]))])) [2] (by decide) rfl) hN 0 rfl rfl) rfl rfl hl.1 rfl (lv_room (Nat.le_of_ble_eq_true rfl)) dX10_askLeaves_5 ⟨(Nat.le_of_ble_eq_true rfl), (Nat.le_of_ble_eq_true rfl)⟩) hP hD hK hS hA [2] [0, 1, 3, 4, 5, 6, 7, 8, 9, 10, 11, 12] rfl rfl (by decide) (by decide) (fun r5 _ H locs hw hP hD _ hS => ?_)
  obtain ⟨hw, br5⟩ := hw
  obtain rfl := hw
  have hP : va_P (dC, dI) vwCl (bX0 a2 ud kd d_d (bX6 a1 up kp p_p ([(a0, .inr (7, [.ref a1, g8, g9, g10, g11, g12, .ref a2, g13, .int o5.2.1, .int o5.2.2]))]))) H := hP
  have hD : va_D A (bX0 a2 ud kd d_d (bX6 a1 up kp p_p ([(a0, .inr (7, [.ref a1, g8, g9, g10, g11, g12, .ref a2, g13, .int o5.2.1, .int o5.2.2]))]))) := hD
  refine lv_if_eq (tgt := 13) hx hb dX10_askLeaves_8 (by decide) (fun c8 => ?_) (fun c8 => ?_)
  · have h := (if_pos c8).symm.trans h
    refine lv_aload_n hx hb dX10_askLeaves_13 rfl (lv_at hl 0 rfl) ?_
    refine va_get (D := (dC, dI)) (ci := 7) (v := .ref a2) (C := RX10) (T := TX10) (N := 10) hx hb hts ifX10_askLeaves_X10 hown hK hP 12 rfl rfl 6 (by decide) (hts (.fieldLink RX10 50 "HookPier" "dark" "LHookPier$Dark;") (List.mem_of_getElem? (i := 8) rfl)) (fun _ h9 => h9) rfl dX10_askLeaves_14 ?_
    refine lv_aload_n hx hb dX10_askLeaves_17 rfl (lv_at hl 0 rfl) ?_
    refine va_get (D := (dC, dI)) (ci := 7) (v := .ref a1) (C := RX10) (T := TX10) (N := 10) hx hb hts ifX10_askLeaves_X10 hown hK hP 12 rfl rfl 0 (by decide) (hts (.fieldLink RX10 10 "HookPier" "plan" "LHookPier$Plan;") (List.mem_of_getElem? (i := 9) rfl)) (fun _ h9 => h9) rfl dX10_askLeaves_18 ?_
    obtain ⟨o21, eo21, h⟩ := bd_of h
    refine cl_v (wc := (bX0 a2 ud kd d_d (bX6 a1 up kp p_p []))) (wr := ([(a0, .inr (7, [.ref a1, g8, g9, g10, g11, g12, .ref a2, g13, .int o5.2.1, .int o5.2.2]))])) (va_runV (As := [.ref a1]) (rest := []) ⟨hx, hb, hml, hown, hts⟩ (kfX0_find l dC dI a2 a1 ud kd up kp d_d p_p H.size o21 eo21) (cwV 1 hts gfX10_askLeaves_2 rfl rfl rfl (by decide +kernel) ⟨(Nat.le_of_ble_eq_true rfl), (Nat.le_of_ble_eq_true rfl)⟩) (PV (hP.sub (ws' := (bX0 a2 ud kd d_d (bX6 a1 up kp p_p []))) [0, 1, 2, 3, 4, 5, 6, 7, 8, 9, 10, 11] rfl) (hK.sub (tys' := (tX0 kd (tX6 kp ([])))) [9, 0, 1, 2, 3, 4, 5, 6, 7, 8] rfl) (hD.sub (ws' := (bX0 a2 ud kd d_d (bX6 a1 up kp p_p []))) [0, 1, 2, 3, 4, 5, 6, 7, 8, 9, 10, 11] (by decide) rfl) hN 0 rfl rfl) rfl rfl hl.1 rfl (lv_room (Nat.le_of_ble_eq_true rfl)) dX10_askLeaves_21 ⟨(Nat.le_of_ble_eq_true rfl), (Nat.le_of_ble_eq_true rfl)⟩) hP hD hK hS hA [0, 1, 2, 3, 4, 5, 6, 7, 8, 9, 10, 11] [12] rfl rfl (by decide) (by decide) (fun _ H locs hw hP hD _ hS => ?_)
    have hP : va_P (dC, dI) vwCl ((a0, .inr (7, [.ref a1, g8, g9, g10, g11, g12, .ref a2, g13, .int o5.2.1, .int o5.2.2])) :: bX0 a2 ud kd o21 (bX6 a1 up kp p_p [])) H := hP
    have hD : va_D A ((a0, .inr (7, [.ref a1, g8, g9, g10, g11, g12, .ref a2, g13, .int o5.2.1, .int o5.2.2])) :: bX0 a2 ud kd o21 (bX6 a1 up kp p_p [])) := hD
    refine lv_aload_n hx hb dX10_askLeaves_24 rfl (lv_at hl 0 rfl) ?_
    refine va_get (D := (dC, dI)) (ci := 7) (v := .ref a2) (C := RX10) (T := TX10) (N := 10) hx hb hts ifX10_askLeaves_X10 hown hK hP 0 rfl rfl 6 (by decide) (hts (.fieldLink RX10 50 "HookPier" "dark" "LHookPier$Dark;") (List.mem_of_getElem? (i := 8) rfl)) (fun _ h9 => h9) rfl dX10_askLeaves_25 ?_
    refine lv_aload_n hx hb dX10_askLeaves_28 rfl (lv_at hl 0 rfl) ?_
    refine va_get (D := (dC, dI)) (ci := 7) (v := .ref a1) (C := RX10) (T := TX10) (N := 10) hx hb hts ifX10_askLeaves_X10 hown hK hP 0 rfl rfl 0 (by decide) (hts (.fieldLink RX10 10 "HookPier" "plan" "LHookPier$Plan;") (List.mem_of_getElem? (i := 9) rfl)) (fun _ h9 => h9) rfl dX10_askLeaves_29 ?_
    obtain ⟨o32, eo32, h⟩ := bd_of h
    refine cl_i (wc := (bX0 a2 ud kd o21 (bX6 a1 up kp p_p []))) (wr := ([(a0, .inr (7, [.ref a1, g8, g9, g10, g11, g12, .ref a2, g13, .int o5.2.1, .int o5.2.2]))])) (va_runV (As := [.ref a1]) (rest := []) ⟨hx, hb, hml, hown, hts⟩ (kfX0_tellingQuestion l dC dI a2 a1 ud kd up kp o21 p_p H.size o32 eo32) (cwV 1 hts gfX10_askLeaves_3 rfl rfl rfl (by decide +kernel) ⟨(Nat.le_of_ble_eq_true rfl), (Nat.le_of_ble_eq_true rfl)⟩) (PV (hP.sub (ws' := (bX0 a2 ud kd o21 (bX6 a1 up kp p_p []))) [1, 2, 3, 4, 5, 6, 7, 8, 9, 10, 11, 12] rfl) (hK.sub (tys' := (tX0 kd (tX6 kp ([])))) [9, 0, 1, 2, 3, 4, 5, 6, 7, 8] rfl) (hD.sub (ws' := (bX0 a2 ud kd o21 (bX6 a1 up kp p_p []))) [1, 2, 3, 4, 5, 6, 7, 8, 9, 10, 11, 12] (by decide) rfl) hN 0 rfl rfl) rfl rfl hl.1 rfl (lv_room (Nat.le_of_ble_eq_true rfl)) dX10_askLeaves_32 ⟨(Nat.le_of_ble_eq_true rfl), (Nat.le_of_ble_eq_true rfl)⟩) hP hD hK hS hA [1, 2, 3, 4, 5, 6, 7, 8, 9, 10, 11, 12] [0] rfl rfl (by decide) (by decide) (fun r32 _ H locs hw hP hD _ hS => ?_)
    obtain rfl := hw.symm
    have hP : va_P (dC, dI) vwCl ((a0, .inr (7, [.ref a1, g8, g9, g10, g11, g12, .ref a2, g13, .int o5.2.1, .int o5.2.2])) :: bX0 a2 ud kd o21 (bX6 a1 up kp p_p [])) H := hP
    have hD : va_D A ((a0, .inr (7, [.ref a1, g8, g9, g10, g11, g12, .ref a2, g13, .int o5.2.1, .int o5.2.2])) :: bX0 a2 ud kd o21 (bX6 a1 up kp p_p [])) := hD
    refine lv_istore_n (lv' := [(1, .int o32), (0, .ref a0)]) hx hb dX10_askLeaves_35 rfl hl (by decide) rfl (fun ls hl => ?_)
    refine lv_iload_n hx hb dX10_askLeaves_36 rfl (lv_at hl 0 rfl) ?_
    refine lv_bipush (v := (-2)) hx hb dX10_askLeaves_37 (by decide) ?_
    refine lv_icmp_ne (tgt := 47) hx hb dX10_askLeaves_39 (by decide) (fun c39 => ?_) (fun c39 => ?_)
    · have h := (if_neg c39).symm.trans h
      refine lv_aload_n hx hb dX10_askLeaves_47 rfl (lv_at hl 1 rfl) ?_
      refine va_get (D := (dC, dI)) (ci := 7) (v := .ref a2) (C := RX10) (T := TX10) (N := 10) hx hb hts ifX10_askLeaves_X10 hown hK hP 0 rfl rfl 6 (by decide) (hts (.fieldLink RX10 50 "HookPier" "dark" "LHookPier$Dark;") (List.mem_of_getElem? (i := 8) rfl)) (fun _ h9 => h9) rfl dX10_askLeaves_48 ?_
      refine lv_aload_n hx hb dX10_askLeaves_51 rfl (lv_at hl 1 rfl) ?_
      refine va_get (D := (dC, dI)) (ci := 7) (v := .ref a1) (C := RX10) (T := TX10) (N := 10) hx hb hts ifX10_askLeaves_X10 hown hK hP 0 rfl rfl 0 (by decide) (hts (.fieldLink RX10 10 "HookPier" "plan" "LHookPier$Plan;") (List.mem_of_getElem? (i := 9) rfl)) (fun _ h9 => h9) rfl dX10_askLeaves_52 ?_
      refine lv_iload_n hx hb dX10_askLeaves_55 rfl (lv_at hl 0 rfl) ?_
      obtain ⟨o56, eo56, h⟩ := bd_of h
      refine cl_i (wc := (bX0 a2 ud kd o21 (bX6 a1 up kp p_p []))) (wr := ([(a0, .inr (7, [.ref a1, g8, g9, g10, g11, g12, .ref a2, g13, .int o5.2.1, .int o5.2.2]))])) (va_runV (As := [.ref a1, .int o32]) (rest := []) ⟨hx, hb, hml, hown, hts⟩ (kfX0_leftAtMost l dC dI a2 a1 o32 ud kd up kp o21 p_p H.size o56 eo56) (cwV 2 hts gfX10_askLeaves_4 rfl rfl rfl (by decide +kernel) ⟨(Nat.le_of_ble_eq_true rfl), (Nat.le_of_ble_eq_true rfl)⟩) (PV (hP.sub (ws' := (bX0 a2 ud kd o21 (bX6 a1 up kp p_p []))) [1, 2, 3, 4, 5, 6, 7, 8, 9, 10, 11, 12] rfl) (hK.sub (tys' := (tX0 kd (tX6 kp ([])))) [9, 0, 1, 2, 3, 4, 5, 6, 7, 8] rfl) (hD.sub (ws' := (bX0 a2 ud kd o21 (bX6 a1 up kp p_p []))) [1, 2, 3, 4, 5, 6, 7, 8, 9, 10, 11, 12] (by decide) rfl) hN 0 rfl rfl) rfl rfl hl.1 rfl (lv_room (Nat.le_of_ble_eq_true rfl)) dX10_askLeaves_56 ⟨(Nat.le_of_ble_eq_true rfl), (Nat.le_of_ble_eq_true rfl)⟩) hP hD hK hS hA [1, 2, 3, 4, 5, 6, 7, 8, 9, 10, 11, 12] [0] rfl rfl (by decide) (by decide) (fun r56 _ H locs hw hP hD _ hS => ?_)
      obtain rfl := hw.symm
      have hP : va_P (dC, dI) vwCl ((a0, .inr (7, [.ref a1, g8, g9, g10, g11, g12, .ref a2, g13, .int o5.2.1, .int o5.2.2])) :: bX0 a2 ud kd o21 (bX6 a1 up kp p_p [])) H := hP
      have hD : va_D A ((a0, .inr (7, [.ref a1, g8, g9, g10, g11, g12, .ref a2, g13, .int o5.2.1, .int o5.2.2])) :: bX0 a2 ud kd o21 (bX6 a1 up kp p_p [])) := hD
      obtain rfl := Option.some.inj h
      have hP9 := hP.sub (ws' := ((a0, .inr (7, [.ref a1, g8, g9, g10, g11, g12, .ref a2, g13, .int o5.2.1, .int o5.2.2])) :: bX6 a1 up kp p_p (bX0 a2 ud kd o21 []))) [0, 3, 4, 5, 6, 7, 8, 9, 10, 11, 12, 1, 2] rfl
      have hD9 := hD.sub (ws' := ((a0, .inr (7, [.ref a1, g8, g9, g10, g11, g12, .ref a2, g13, .int o5.2.1, .int o5.2.2])) :: bX6 a1 up kp p_p (bX0 a2 ud kd o21 []))) [0, 3, 4, 5, 6, 7, 8, 9, 10, 11, 12, 1, 2] (by decide) rfl
      have hK9 := hK.sub (tys' := []) [] rfl
      rw [hQQ]
      exact W.iret (v := o56) hx hb hr (fun t ht hW => ⟨⟨o56, (), rfl, rfl, by rw [ht]; exact hP9, va_K.moved hW.alike hK9, hD9⟩, hS.F ht⟩) hS.2.2 dX10_askLeaves_59
    · have h := (if_pos c39).symm.trans h
      refine lv_bipush (v := (-2)) hx hb dX10_askLeaves_42 (by decide) ?_
      refine lv_goto (tgt := 59) hx hb dX10_askLeaves_44 (by decide) ?_
      obtain rfl := Option.some.inj h
      have hP9 := hP.sub (ws' := ((a0, .inr (7, [.ref a1, g8, g9, g10, g11, g12, .ref a2, g13, .int o5.2.1, .int o5.2.2])) :: bX6 a1 up kp p_p (bX0 a2 ud kd o21 []))) [0, 3, 4, 5, 6, 7, 8, 9, 10, 11, 12, 1, 2] rfl
      have hD9 := hD.sub (ws' := ((a0, .inr (7, [.ref a1, g8, g9, g10, g11, g12, .ref a2, g13, .int o5.2.1, .int o5.2.2])) :: bX6 a1 up kp p_p (bX0 a2 ud kd o21 []))) [0, 3, 4, 5, 6, 7, 8, 9, 10, 11, 12, 1, 2] (by decide) rfl
      have hK9 := hK.sub (tys' := []) [] rfl
      rw [hQQ]
      exact W.iret (v := (-2 : Int32)) hx hb hr (fun t ht hW => ⟨⟨(-2 : Int32), (), rfl, rfl, by rw [ht]; exact hP9, va_K.moved hW.alike hK9, hD9⟩, hS.F ht⟩) hS.2.2 dX10_askLeaves_59
  · have h := (if_neg c8).symm.trans h
    refine lv_iconst (v := (-1)) hx hb dX10_askLeaves_11 (by decide) ?_
    obtain rfl := Option.some.inj h
    have hP9 := hP.sub (ws' := ((a0, .inr (7, [.ref a1, g8, g9, g10, g11, g12, .ref a2, g13, .int o5.2.1, .int o5.2.2])) :: bX6 a1 up kp p_p (bX0 a2 ud kd d_d []))) [12, 2, 3, 4, 5, 6, 7, 8, 9, 10, 11, 0, 1] rfl
    have hD9 := hD.sub (ws' := ((a0, .inr (7, [.ref a1, g8, g9, g10, g11, g12, .ref a2, g13, .int o5.2.1, .int o5.2.2])) :: bX6 a1 up kp p_p (bX0 a2 ud kd d_d []))) [12, 2, 3, 4, 5, 6, 7, 8, 9, 10, 11, 0, 1] (by decide) rfl
    have hK9 := hK.sub (tys' := []) [] rfl
    rw [hQQ]
    exact W.iret (v := (-1 : Int32)) hx hb hr (fun t ht hW => ⟨⟨(-1 : Int32), (), rfl, rfl, by rw [ht]; exact hP9, va_K.moved hW.alike hK9, hD9⟩, hS.F ht⟩) hS.2.2 dX10_askLeaves_12
theorem dX10_judge_0 : decode cX10_judge 0 = .ok (.aload_n 0, 1) := by decide +kernel
theorem dX10_judge_1 : decode cX10_judge 1 = .ok (.iload_n 1, 1) := by decide +kernel
theorem dX10_judge_100 : decode cX10_judge 100 = .ok (.ireturn, 1) := by decide +kernel
theorem dX10_judge_11 : decode cX10_judge 11 = .ok (.aload_n 0, 1) := by decide +kernel
theorem dX10_judge_12 : decode cX10_judge 12 = .ok (.invokevirtual 264, 3) := by decide +kernel
theorem dX10_judge_15 : decode cX10_judge 15 = .ok (.goto 4, 3) := by decide +kernel
theorem dX10_judge_18 : decode cX10_judge 18 = .ok (.iload_n 2, 1) := by decide +kernel
theorem dX10_judge_19 : decode cX10_judge 19 = .ok (.invokevirtual 79, 3) := by decide +kernel
theorem dX10_judge_2 : decode cX10_judge 2 = .ok (.invokevirtual 102, 3) := by decide +kernel
theorem dX10_judge_22 : decode cX10_judge 22 = .ok (.ifCond .eq 5, 3) := by decide +kernel
theorem dX10_judge_25 : decode cX10_judge 25 = .ok (.iconst (-1), 1) := by decide +kernel
theorem dX10_judge_26 : decode cX10_judge 26 = .ok (.ireturn, 1) := by decide +kernel
theorem dX10_judge_27 : decode cX10_judge 27 = .ok (.iconst 0, 1) := by decide +kernel
theorem dX10_judge_28 : decode cX10_judge 28 = .ok (.istore_n 3, 1) := by decide +kernel
theorem dX10_judge_29 : decode cX10_judge 29 = .ok (.iload_n 3, 1) := by decide +kernel
theorem dX10_judge_30 : decode cX10_judge 30 = .ok (.aload_n 0, 1) := by decide +kernel
theorem dX10_judge_31 : decode cX10_judge 31 = .ok (.getfield 10, 3) := by decide +kernel
theorem dX10_judge_34 : decode cX10_judge 34 = .ok (.getfield 284, 3) := by decide +kernel
theorem dX10_judge_37 : decode cX10_judge 37 = .ok (.if_icmp .ge 61, 3) := by decide +kernel
theorem dX10_judge_40 : decode cX10_judge 40 = .ok (.aload_n 0, 1) := by decide +kernel
theorem dX10_judge_41 : decode cX10_judge 41 = .ok (.getfield 10, 3) := by decide +kernel
theorem dX10_judge_44 : decode cX10_judge 44 = .ok (.iload_n 1, 1) := by decide +kernel
theorem dX10_judge_45 : decode cX10_judge 45 = .ok (.aload_n 0, 1) := by decide +kernel
theorem dX10_judge_46 : decode cX10_judge 46 = .ok (.getfield 10, 3) := by decide +kernel
theorem dX10_judge_49 : decode cX10_judge 49 = .ok (.getfield 287, 3) := by decide +kernel
theorem dX10_judge_5 : decode cX10_judge 5 = .ok (.istore_n 2, 1) := by decide +kernel
theorem dX10_judge_52 : decode cX10_judge 52 = .ok (.aload_n 0, 1) := by decide +kernel
theorem dX10_judge_53 : decode cX10_judge 53 = .ok (.getfield 10, 3) := by decide +kernel
theorem dX10_judge_56 : decode cX10_judge 56 = .ok (.getfield 290, 3) := by decide +kernel
theorem dX10_judge_59 : decode cX10_judge 59 = .ok (.iload_n 3, 1) := by decide +kernel
theorem dX10_judge_6 : decode cX10_judge 6 = .ok (.aload_n 0, 1) := by decide +kernel
theorem dX10_judge_60 : decode cX10_judge 60 = .ok (.iaload, 1) := by decide +kernel
theorem dX10_judge_61 : decode cX10_judge 61 = .ok (.invokevirtual 230, 3) := by decide +kernel
theorem dX10_judge_64 : decode cX10_judge 64 = .ok (.bipush 50, 2) := by decide +kernel
theorem dX10_judge_66 : decode cX10_judge 66 = .ok (.if_icmp .lt 7, 3) := by decide +kernel
theorem dX10_judge_69 : decode cX10_judge 69 = .ok (.iconst 1, 1) := by decide +kernel
theorem dX10_judge_7 : decode cX10_judge 7 = .ok (.iload_n 2, 1) := by decide +kernel
theorem dX10_judge_70 : decode cX10_judge 70 = .ok (.goto 4, 3) := by decide +kernel
theorem dX10_judge_73 : decode cX10_judge 73 = .ok (.iconst 0, 1) := by decide +kernel
theorem dX10_judge_74 : decode cX10_judge 74 = .ok (.istore 4, 2) := by decide +kernel
theorem dX10_judge_76 : decode cX10_judge 76 = .ok (.iload 4, 2) := by decide +kernel
theorem dX10_judge_78 : decode cX10_judge 78 = .ok (.aload_n 0, 1) := by decide +kernel
theorem dX10_judge_79 : decode cX10_judge 79 = .ok (.getfield 10, 3) := by decide +kernel
theorem dX10_judge_8 : decode cX10_judge 8 = .ok (.ifCond .ne 10, 3) := by decide +kernel
theorem dX10_judge_82 : decode cX10_judge 82 = .ok (.getfield 293, 3) := by decide +kernel
theorem dX10_judge_85 : decode cX10_judge 85 = .ok (.iload_n 3, 1) := by decide +kernel
theorem dX10_judge_86 : decode cX10_judge 86 = .ok (.baload, 1) := by decide +kernel
theorem dX10_judge_87 : decode cX10_judge 87 = .ok (.if_icmp .eq 5, 3) := by decide +kernel
theorem dX10_judge_90 : decode cX10_judge 90 = .ok (.iload_n 3, 1) := by decide +kernel
theorem dX10_judge_91 : decode cX10_judge 91 = .ok (.ireturn, 1) := by decide +kernel
theorem dX10_judge_92 : decode cX10_judge 92 = .ok (.iinc 3 1, 3) := by decide +kernel
theorem dX10_judge_95 : decode cX10_judge 95 = .ok (.goto (-66), 3) := by decide +kernel
theorem dX10_judge_98 : decode cX10_judge 98 = .ok (.bipush (-2), 2) := by decide +kernel
def vfX10_judge : List Cond := List.cons (.code yX10_judge cX10_judge 5 (some .int)) (apW [.methodLink RX10 102 yX10_answerTrouble, .instanceMethod yX10_answerTrouble, .selects RX10 yX10_answerTrouble yX10_answerTrouble, .initialized RX10, .methodLink RX10 79 yX10_refused, .instanceMethod yX10_refused, .selects RX10 yX10_refused yX10_refused, .fieldLink RX10 10 "HookPier" "plan" "LHookPier$Plan;", .fieldLink RX10 284 "HookPier$Plan" "bites" "I", .fieldLink RX10 287 "HookPier$Plan" "darkHunger" "I", .fieldLink RX10 290 "HookPier$Plan" "bite" "[I", .methodLink RX10 230 yX6_wishBy, .instanceMethod yX6_wishBy, .selects RX6 yX6_wishBy yX6_wishBy, .initialized RX6, .fieldLink RX10 293 "HookPier$Plan" "bit" "[Z", .methodLink RX10 264 yX10_darkTrouble, .instanceMethod yX10_darkTrouble, .selects RX10 yX10_darkTrouble yX10_darkTrouble] (apW wsX100 (apW wsX60 (apW vfX10_answerTrouble (apW vfX10_refused (apW vfX6_wishBy (vfX10_darkTrouble)))))))
theorem ifX10_judge_X10 : ∀ w ∈ wsX100, w ∈ vfX10_judge := fun _ h => (List.mem_cons_of_mem _ (List.mem_append_right _ (List.mem_append_left _ h)))
theorem ifX10_judge_X6 : ∀ w ∈ wsX60, w ∈ vfX10_judge := fun _ h => (List.mem_cons_of_mem _ (List.mem_append_right _ (List.mem_append_right _ (List.mem_append_left _ h))))
theorem qfX10_judge : Good vfX10_judge := gd_cons (by decide +kernel) (gd_app (gd_dec (by decide +kernel) : Good [.methodLink RX10 102 yX10_answerTrouble, .instanceMethod yX10_answerTrouble, .selects RX10 yX10_answerTrouble yX10_answerTrouble, .initialized RX10, .methodLink RX10 79 yX10_refused, .instanceMethod yX10_refused, .selects RX10 yX10_refused yX10_refused, .fieldLink RX10 10 "HookPier" "plan" "LHookPier$Plan;", .fieldLink RX10 284 "HookPier$Plan" "bites" "I", .fieldLink RX10 287 "HookPier$Plan" "darkHunger" "I", .fieldLink RX10 290 "HookPier$Plan" "bite" "[I", .methodLink RX10 230 yX6_wishBy, .instanceMethod yX6_wishBy, .selects RX6 yX6_wishBy yX6_wishBy, .initialized RX6, .fieldLink RX10 293 "HookPier$Plan" "bit" "[Z", .methodLink RX10 264 yX10_darkTrouble, .instanceMethod yX10_darkTrouble, .selects RX10 yX10_darkTrouble yX10_darkTrouble]) (gd_app qsX10 (gd_app qsX6 (gd_app qfX10_answerTrouble (gd_app qfX10_refused (gd_app qfX6_wishBy qfX10_darkTrouble))))))
theorem gfX10_judge_0 : GoodIn vfX10_judge (wsV RX10 102 RX10 yX10_answerTrouble vfX10_answerTrouble) := goodIn_app (goodIn_r [.methodLink RX10 102 yX10_answerTrouble, .instanceMethod yX10_answerTrouble, .selects RX10 yX10_answerTrouble yX10_answerTrouble, .initialized RX10] [1, 2, 3, 4] rfl (by decide +kernel)) (goodIn_m (fun _ h => (List.mem_cons_of_mem _ (List.mem_append_right _ (List.mem_append_right _ (List.mem_append_right _ (List.mem_append_left _ h)))))) qfX10_answerTrouble)
theorem gfX10_judge_1 : GoodIn vfX10_judge (wsV RX10 79 RX10 yX10_refused vfX10_refused) := goodIn_app (goodIn_r [.methodLink RX10 79 yX10_refused, .instanceMethod yX10_refused, .selects RX10 yX10_refused yX10_refused, .initialized RX10] [5, 6, 7, 4] rfl (by decide +kernel)) (goodIn_m (fun _ h => (List.mem_cons_of_mem _ (List.mem_append_right _ (List.mem_append_right _ (List.mem_append_right _ (List.mem_append_right _ (List.mem_append_left _ h))))))) qfX10_refused)
theorem gfX10_judge_2 : GoodIn vfX10_judge (wsV RX10 230 RX6 yX6_wishBy vfX6_wishBy) := goodIn_app (goodIn_r [.methodLink RX10 230 yX6_wishBy, .instanceMethod yX6_wishBy, .selects RX6 yX6_wishBy yX6_wishBy, .initialized RX6] [12, 13, 14, 15] rfl (by decide +kernel)) (goodIn_m (fun _ h => (List.mem_cons_of_mem _ (List.mem_append_right _ (List.mem_append_right _ (List.mem_append_right _ (List.mem_append_right _ (List.mem_append_right _ (List.mem_append_left _ h)))))))) qfX6_wishBy)
theorem gfX10_judge_3 : GoodIn vfX10_judge (wsV RX10 264 RX10 yX10_darkTrouble vfX10_darkTrouble) := goodIn_app (goodIn_r [.methodLink RX10 264 yX10_darkTrouble, .instanceMethod yX10_darkTrouble, .selects RX10 yX10_darkTrouble yX10_darkTrouble, .initialized RX10] [17, 18, 19, 4] rfl (by decide +kernel)) (goodIn_m (fun _ h => (List.mem_cons_of_mem _ (List.mem_append_right _ (List.mem_append_right _ (List.mem_append_right _ (List.mem_append_right _ (List.mem_append_right _ (List.mem_append_right _ h)))))))) qfX10_darkTrouble)
set_option maxHeartbeats 2000000 in
set_option maxRecDepth 100000 in
theorem kfX10_judge (l : Launch) (dC : Nat → ClassId) (dI : Nat → Nat → Nat) (a0 : Nat) (k1 : Int32) (a2 : Nat) (up : Nat → Nat) (kp : Nat → ClassId) (x_x : TX10_x) (g6 : Value) (g7 : Value) (g8 : Value) (g9 : Value) (g10 : Value) (g11 : Value) (g12 : Value) (p_p : TX6_p) (sz : Nat) (out : (Int32 × TX10_x)) (h : f_X10_judge k1 x_x p_p = some out) : Met l yX10_judge vfX10_judge ({ frames := 3, cells := 0, slots := 0, locals := 64 }) (PC (dC, dI) [.ref a0, .int k1] sz ((a0, .inr (7, [.ref a2, g6, g7, g8, g9, g10, g11, g12, .int x_x.1, .int x_x.2])) :: bX6 a2 up kp p_p []) (tX6 kp ([]))) (va_Qi (S := Unit) (fun (r : Int32) _ => r = out.1) (fun _ t => BC (dC, dI) (va_A ((a0, .inr (7, [.ref a2, g6, g7, g8, g9, g10, g11, g12, .int x_x.1, .int x_x.2])) :: bX6 a2 up kp p_p []) sz) ((a0, .inr (7, [.ref a2, g6, g7, g8, g9, g10, g11, g12, .int out.2.1, .int out.2.2])) :: bX6 a2 up kp p_p []) [] t) (va_A ((a0, .inr (7, [.ref a2, g6, g7, g8, g9, g10, g11, g12, .int x_x.1, .int x_x.2])) :: bX6 a2 up kp p_p []) sz)) 0 0 (va_A ((a0, .inr (7, [.ref a2, g6, g7, g8, g9, g10, g11, g12, .int x_x.1, .int x_x.2])) :: bX6 a2 up kp p_p []) sz) := by
  refine Met.ofW (cc := cX10_judge) (maxL := 5) (ret := (some .int)) (by decide) rfl ?_
  intro p e s m args below meth c s₁ B0 hml hv
  obtain ⟨rfl, hsz, hP, hK, hD0, hN⟩ := hv
  have hx := B0.exec
  have hb := B0.bytes
  have hr := B0.returns
  have hts := atoms_spec (ws := vfX10_judge) B0.pre
  have hown : s.vm.findClass RX10 = some m.cls := findClass_of_methodNamed B0.named
  have hlocks := B0.notSynchronized
  subst hsz
  have hD := hD0.self (sz := s.heap.size)
  generalize hAe : va_A ((a0, .inr (7, [.ref a2, g6, g7, g8, g9, g10, g11, g12, .int x_x.1, .int x_x.2])) :: bX6 a2 up kp p_p []) s.heap.size = A at hD ⊢
  have hA : ∀ q : Nat, s.heap.size ≤ q → A q := fun q h => by rw [← hAe]; exact Or.inr h
  have hS : va_S A s.heap s.heap [] := va_S.rf
  have hP : va_P (dC, dI) vwCl ((a0, .inr (7, [.ref a2, g6, g7, g8, g9, g10, g11, g12, .int x_x.1, .int x_x.2])) :: bX6 a2 up kp p_p []) s.heap := hP
  have hl := lv_entry ([.ref a0, .int k1]) (n := 5) (Nat.le_of_ble_eq_true rfl)
  rw [lg_entry_eq]
  generalize (lg_sl ([.ref a0, .int k1]) ++ List.replicate (5 - (lg_sl ([.ref a0, .int k1])).length) Slot.unset).toArray = ls at hl ⊢
  have hl : lv_has ls 5 [(0, .ref a0), (1, .int k1)] := hl
  refine W_q (fun QQ hQQ => ?_)
  rw [f_X10_judge] at h
  refine lv_aload_n hx hb dX10_judge_0 rfl (lv_at hl 0 rfl) ?_
  refine lv_iload_n hx hb dX10_judge_1 rfl (lv_at hl 1 rfl) ?_
  obtain ⟨o2, eo2⟩ : ∃ o, o = f_X10_answerTrouble k1 p_p := ⟨_, rfl⟩
  have h := nm_of h o2 eo2
  refine cl_i (wc := ((a0, .inr (7, [.ref a2, g6, g7, g8, g9, g10, g11, g12, .int x_x.1, .int x_x.2])) :: bX6 a2 up kp p_p [])) (wr := []) (va_runV (As := [.int k1]) (rest := []) ⟨hx, hb, hml, hown, hts⟩ (kfX10_answerTrouble l dC dI a0 k1 a2 up kp (g6) (g7) (g8) (g9) (g10) (g11) (g12) (.int x_x.1) (.int x_x.2) p_p s.heap.size o2 eo2.symm) (cwV 1 hts gfX10_judge_0 rfl rfl rfl (by decide +kernel) ⟨(Nat.le_of_ble_eq_true rfl), (Nat.le_of_ble_eq_true rfl)⟩) (PV (hP.sub (ws' := ((a0, .inr (7, [.ref a2, g6, g7, g8, g9, g10, g11, g12, .int x_x.1, .int x_x.2])) :: bX6 a2 up kp p_p [])) [0, 1, 2, 3, 4, 5, 6, 7, 8, 9, 10] rfl) (hK.sub (tys' := (tX6 kp ([]))) [0, 1, 2, 3, 4, 5, 6, 7, 8] rfl) (hD.sub (ws' := ((a0, .inr (7, [.ref a2, g6, g7, g8, g9, g10, g11, g12, .int x_x.1, .int x_x.2])) :: bX6 a2 up kp p_p [])) [0, 1, 2, 3, 4, 5, 6, 7, 8, 9, 10] (by decide) rfl) hN 0 rfl rfl) rfl rfl hl.1 rfl (lv_room (Nat.le_of_ble_eq_true rfl)) dX10_judge_2 ⟨(Nat.le_of_ble_eq_true rfl), (Nat.le_of_ble_eq_true rfl)⟩) hP hD hK hS hA [0, 1, 2, 3, 4, 5, 6, 7, 8, 9, 10] [] rfl rfl (by decide) (by decide) (fun r2 _ H locs hw hP hD _ hS => ?_)
  obtain rfl := hw.symm
  have hP : va_P (dC, dI) vwCl ((a0, .inr (7, [.ref a2, g6, g7, g8, g9, g10, g11, g12, .int x_x.1, .int x_x.2])) :: bX6 a2 up kp p_p []) H := hP
  have hD : va_D A ((a0, .inr (7, [.ref a2, g6, g7, g8, g9, g10, g11, g12, .int x_x.1, .int x_x.2])) :: bX6 a2 up kp p_p []) := hD
  refine lv_istore_n (lv' := [(2, .int o2), (0, .ref a0), (1, .int k1)]) hx hb dX10_judge_5 rfl hl (by decide) rfl (fun ls hl => ?_)
  refine lv_aload_n hx hb dX10_judge_6 rfl (lv_at hl 1 rfl) ?_
  refine lv_iload_n hx hb dX10_judge_7 rfl (lv_at hl 0 rfl) ?_
  have J19 : ∀ (v19_t1 : Int32) (H : Heap) (locs : List Loc) (ls : Array Slot), f_X10_judge_J19 k1 x_x p_p v19_t1 = some out → va_P (dC, dI) vwCl ((a0, .inr (7, [.ref a2, g6, g7, g8, g9, g10, g11, g12, .int x_x.1, .int x_x.2])) :: bX6 a2 up kp p_p []) H → va_D A ((a0, .inr (7, [.ref a2, g6, g7, g8, g9, g10, g11, g12, .int x_x.1, .int x_x.2])) :: bX6 a2 up kp p_p []) → va_S A s.heap H locs → lv_has ls 5 [(0, .ref a0), (1, .int k1)] → W p l e (headSpec vfX10_judge { frames := 3, cells := 0, slots := 0, locals := 64 }).room s m ([.ref a0, .int k1]).toArray below meth c H locs 0 0 QQ (F0 m 19 ls [.int v19_t1, .ref a0]) := by
    intro v19_t1 H locs ls h  hP hD hS hl
    rw [f_X10_judge_J19] at h
    obtain ⟨o19, eo19⟩ : ∃ o, o = f_X10_refused v19_t1 x_x := ⟨_, rfl⟩
    have h := nm_of h o19 eo19
    refine cl_i (wc := ([(a0, .inr (7, [.ref a2, g6, g7, g8, g9, g10, g11, g12, .int x_x.1, .int x_x.2]))])) (wr := (bX6 a2 up kp p_p [])) (va_runV (As := [.int v19_t1]) (rest := []) ⟨hx, hb, hml, hown, hts⟩ (kfX10_refused l dC dI a0 v19_t1 x_x (.ref a2) (g6) (g7) (g8) (g9) (g10) (g11) (g12) H.size o19 eo19.symm) (cwV 1 hts gfX10_judge_1 rfl rfl rfl (by decide +kernel) ⟨(Nat.le_of_ble_eq_true rfl), (Nat.le_of_ble_eq_true rfl)⟩) (PV (hP.sub (ws' := ([(a0, .inr (7, [.ref a2, g6, g7, g8, g9, g10, g11, g12, .int x_x.1, .int x_x.2]))])) [0] rfl) (hK.sub (tys' := ([])) [] rfl) (hD.sub (ws' := ([(a0, .inr (7, [.ref a2, g6, g7, g8, g9, g10, g11, g12, .int x_x.1, .int x_x.2]))])) [0] (by decide) rfl) hN 0 rfl rfl) rfl rfl hl.1 rfl (lv_room (Nat.le_of_ble_eq_true rfl)) dX10_judge_19 ⟨(Nat.le_of_ble_eq_true rfl), (Nat.le_of_ble_eq_true rfl)⟩) hP hD hK hS hA [0] [1, 2, 3, 4, 5, 6, 7, 8, 9, 10] rfl rfl (by decide) (by decide) (fun r19 _ H locs hw hP hD _ hS => ?_)
    obtain ⟨hw, br19⟩ := hw
    obtain rfl := hw
    have hP : va_P (dC, dI) vwCl (bX6 a2 up kp p_p ([(a0, .inr (7, [.ref a2, g6, g7, g8, g9, g10, g11, g12, .int o19.2.1, .int o19.2.2]))])) H := hP
    have hD : va_D A (bX6 a2 up kp p_p ([(a0, .inr (7, [.ref a2, g6, g7, g8, g9, g10, g11, g12, .int o19.2.1, .int o19.2.2]))])) := hD
    refine lv_if_eq (tgt := 27) hx hb dX10_judge_22 (by decide) (fun c22 => ?_) (fun c22 => ?_)
    · have h := (if_pos c22).symm.trans h
      refine lv_iconst (v := 0) hx hb dX10_judge_27 (by decide) ?_
      refine lv_istore_n (lv' := [(3, .int 0), (0, .ref a0), (1, .int k1)]) hx hb dX10_judge_28 rfl hl (by decide) rfl (fun ls hl => ?_)
      have L29 : ∀ (n29 : Nat) (v29_l3 : Int32) (H : Heap) (locs : List Loc) (ls : Array Slot), f_X10_judge_L29 k1 p_p o19 n29 v29_l3 = some out → va_P (dC, dI) vwCl (bX6 a2 up kp p_p ([(a0, .inr (7, [.ref a2, g6, g7, g8, g9, g10, g11, g12, .int o19.2.1, .int o19.2.2]))])) H → va_D A (bX6 a2 up kp p_p ([(a0, .inr (7, [.ref a2, g6, g7, g8, g9, g10, g11, g12, .int o19.2.1, .int o19.2.2]))])) → va_S A s.heap H locs → lv_has ls 5 [(3, .int v29_l3), (0, .ref a0), (1, .int k1)] → W p l e (headSpec vfX10_judge { frames := 3, cells := 0, slots := 0, locals := 64 }).room s m ([.ref a0, .int k1]).toArray below meth c H locs 0 0 QQ (F0 m 29 ls []) := by
        intro n29
        induction n29 with
        | zero =>
          intro v29_l3 H locs ls h  _ _ _ _
          rw [f_X10_judge_L29] at h
          cases h
        | succ n29 ih29 =>
          intro v29_l3 H locs ls h  hP hD hS hl
          rw [f_X10_judge_L29] at h
          refine lv_iload_n hx hb dX10_judge_29 rfl (lv_at hl 0 rfl) ?_
          refine lv_aload_n hx hb dX10_judge_30 rfl (lv_at hl 1 rfl) ?_
          refine va_get (D := (dC, dI)) (ci := 7) (v := .ref a2) (C := RX10) (T := TX10) (N := 10) hx hb hts ifX10_judge_X10 hown hK hP 10 rfl rfl 0 (by decide) (hts (.fieldLink RX10 10 "HookPier" "plan" "LHookPier$Plan;") (List.mem_of_getElem? (i := 8) rfl)) (fun _ h9 => h9) rfl dX10_judge_31 ?_
          refine va_get (D := (dC, dI)) (ci := 4) (v := .int p_p.2.2.2.2.2.2.2.1) (C := RX6) (T := TX6) (N := 18) hx hb hts ifX10_judge_X6 hown hK hP 0 rfl rfl 7 (by decide) (hts (.fieldLink RX10 284 "HookPier$Plan" "bites" "I") (List.mem_of_getElem? (i := 9) rfl)) (fun _ h9 => h9) rfl dX10_judge_34 ?_
          refine lv_icmp_ge (tgt := 98) hx hb dX10_judge_37 (by decide) (fun c37 => ?_) (fun c37 => ?_)
          · have h := (if_pos c37).symm.trans h
            refine lv_bipush (v := (-2)) hx hb dX10_judge_98 (by decide) ?_
            obtain rfl := Option.some.inj h
            have hP9 := hP.sub (ws' := ((a0, .inr (7, [.ref a2, g6, g7, g8, g9, g10, g11, g12, .int o19.2.1, .int o19.2.2])) :: bX6 a2 up kp p_p [])) [10, 0, 1, 2, 3, 4, 5, 6, 7, 8, 9] rfl
            have hD9 := hD.sub (ws' := ((a0, .inr (7, [.ref a2, g6, g7, g8, g9, g10, g11, g12, .int o19.2.1, .int o19.2.2])) :: bX6 a2 up kp p_p [])) [10, 0, 1, 2, 3, 4, 5, 6, 7, 8, 9] (by decide) rfl
            have hK9 := hK.sub (tys' := []) [] rfl
            rw [hQQ]
            exact W.iret (v := (-2 : Int32)) hx hb hr (fun t ht hW => ⟨⟨(-2 : Int32), (), rfl, rfl, by rw [ht]; exact hP9, va_K.moved hW.alike hK9, hD9⟩, hS.F ht⟩) hS.2.2 dX10_judge_100
          · have h := (if_neg c37).symm.trans h
            refine lv_aload_n hx hb dX10_judge_40 rfl (lv_at hl 1 rfl) ?_
            refine va_get (D := (dC, dI)) (ci := 7) (v := .ref a2) (C := RX10) (T := TX10) (N := 10) hx hb hts ifX10_judge_X10 hown hK hP 10 rfl rfl 0 (by decide) (hts (.fieldLink RX10 10 "HookPier" "plan" "LHookPier$Plan;") (List.mem_of_getElem? (i := 8) rfl)) (fun _ h9 => h9) rfl dX10_judge_41 ?_
            refine lv_iload_n hx hb dX10_judge_44 rfl (lv_at hl 2 rfl) ?_
            refine lv_aload_n hx hb dX10_judge_45 rfl (lv_at hl 1 rfl) ?_
            refine va_get (D := (dC, dI)) (ci := 7) (v := .ref a2) (C := RX10) (T := TX10) (N := 10) hx hb hts ifX10_judge_X10 hown hK hP 10 rfl rfl 0 (by decide) (hts (.fieldLink RX10 10 "HookPier" "plan" "LHookPier$Plan;") (List.mem_of_getElem? (i := 8) rfl)) (fun _ h9 => h9) rfl dX10_judge_46 ?_
            refine va_get (D := (dC, dI)) (ci := 4) (v := .int p_p.2.2.2.2.2.2.2.2.1) (C := RX6) (T := TX6) (N := 18) hx hb hts ifX10_judge_X6 hown hK hP 0 rfl rfl 8 (by decide) (hts (.fieldLink RX10 287 "HookPier$Plan" "darkHunger" "I") (List.mem_of_getElem? (i := 10) rfl)) (fun _ h9 => h9) rfl dX10_judge_49 ?_
            refine lv_aload_n hx hb dX10_judge_52 rfl (lv_at hl 1 rfl) ?_
            refine va_get (D := (dC, dI)) (ci := 7) (v := .ref a2) (C := RX10) (T := TX10) (N := 10) hx hb hts ifX10_judge_X10 hown hK hP 10 rfl rfl 0 (by decide) (hts (.fieldLink RX10 10 "HookPier" "plan" "LHookPier$Plan;") (List.mem_of_getElem? (i := 8) rfl)) (fun _ h9 => h9) rfl dX10_judge_53 ?_
            refine va_get (D := (dC, dI)) (ci := 4) (v := .ref (up 7)) (C := RX6) (T := TX6) (N := 18) hx hb hts ifX10_judge_X6 hown hK hP 0 rfl rfl 16 (by decide) (hts (.fieldLink RX10 290 "HookPier$Plan" "bite" "[I") (List.mem_of_getElem? (i := 11) rfl)) (fun _ h9 => h9) rfl dX10_judge_56 ?_
            refine lv_iload_n hx hb dX10_judge_59 rfl (lv_at hl 0 rfl) ?_
            obtain ⟨hg60, h⟩ := gA_of h
            refine va_iald hx hb hK hP 8 7 rfl rfl hg60 dX10_judge_60 ?_
            refine lv_topi (fun z60 ez60 => ?_)
            have h := nm_of h z60 ez60
            obtain ⟨o61, eo61, h⟩ := bd_of h
            refine cl_i (wc := (bX6 a2 up kp p_p [])) (wr := ([(a0, .inr (7, [.ref a2, g6, g7, g8, g9, g10, g11, g12, .int o19.2.1, .int o19.2.2]))])) (va_runV (As := [.int k1, .int p_p.2.2.2.2.2.2.2.2.1, .int z60]) (rest := []) ⟨hx, hb, hml, hown, hts⟩ (kfX6_wishBy l dC dI a2 k1 p_p.2.2.2.2.2.2.2.2.1 z60 up kp p_p H.size o61 eo61) (cwV 3 hts gfX10_judge_2 rfl rfl rfl (by decide +kernel) ⟨(Nat.le_of_ble_eq_true rfl), (Nat.le_of_ble_eq_true rfl)⟩) (PV (hP.sub (ws' := (bX6 a2 up kp p_p [])) [0, 1, 2, 3, 4, 5, 6, 7, 8, 9] rfl) (hK.sub (tys' := (tX6 kp ([]))) [0, 1, 2, 3, 4, 5, 6, 7, 8] rfl) (hD.sub (ws' := (bX6 a2 up kp p_p [])) [0, 1, 2, 3, 4, 5, 6, 7, 8, 9] (by decide) rfl) hN 0 rfl rfl) rfl rfl hl.1 rfl (lv_room (Nat.le_of_ble_eq_true rfl)) dX10_judge_61 ⟨(Nat.le_of_ble_eq_true rfl), (Nat.le_of_ble_eq_true rfl)⟩) hP hD hK hS hA [0, 1, 2, 3, 4, 5, 6, 7, 8, 9] [10] rfl rfl (by decide) (by decide) (fun r61 _ H locs hw hP hD _ hS => ?_)
            obtain rfl := hw.symm
            have hP : va_P (dC, dI) vwCl ((a0, .inr (7, [.ref a2, g6, g7, g8, g9, g10, g11, g12, .int o19.2.1, .int o19.2.2])) :: bX6 a2 up kp p_p []) H := hP
            have hD : va_D A ((a0, .inr (7, [.ref a2, g6, g7, g8, g9, g10, g11, g12, .int o19.2.1, .int o19.2.2])) :: bX6 a2 up kp p_p []) := hD
            refine lv_bipush (v := 50) hx hb dX10_judge_64 (by decide) ?_
            have J74 : ∀ (v74_t0 : Int32) (H : Heap) (locs : List Loc) (ls : Array Slot), f_X10_judge_J74 p_p (f_X10_judge_L29 k1 p_p o19 n29) o19 v29_l3 v74_t0 = some out → 0 ≤ v74_t0.toInt ∧ v74_t0.toInt ≤ 1 → va_P (dC, dI) vwCl ((a0, .inr (7, [.ref a2, g6, g7, g8, g9, g10, g11, g12, .int o19.2.1, .int o19.2.2])) :: bX6 a2 up kp p_p []) H → va_D A ((a0, .inr (7, [.ref a2, g6, g7, g8, g9, g10, g11, g12, .int o19.2.1, .int o19.2.2])) :: bX6 a2 up kp p_p []) → va_S A s.heap H locs → lv_has ls 5 [(3, .int v29_l3), (0, .ref a0), (1, .int k1)] → W p l e (headSpec vfX10_judge { frames := 3, cells := 0, slots := 0, locals := 64 }).room s m ([.ref a0, .int k1]).toArray below meth c H locs 0 0 QQ (F0 m 74 ls [.int v74_t0]) := by
              intro v74_t0 H locs ls h zb_v74_t0 hP hD hS hl
              rw [f_X10_judge_J74] at h
              refine lv_istore (lv' := [(4, .int v74_t0), (3, .int v29_l3), (0, .ref a0), (1, .int k1)]) hx hb dX10_judge_74 hl (by decide) rfl (fun ls hl => ?_)
              refine lv_iload hx hb dX10_judge_76 (lv_at hl 0 rfl) ?_
              refine lv_aload_n hx hb dX10_judge_78 rfl (lv_at hl 2 rfl) ?_
              refine va_get (D := (dC, dI)) (ci := 7) (v := .ref a2) (C := RX10) (T := TX10) (N := 10) hx hb hts ifX10_judge_X10 hown hK hP 0 rfl rfl 0 (by decide) (hts (.fieldLink RX10 10 "HookPier" "plan" "LHookPier$Plan;") (List.mem_of_getElem? (i := 8) rfl)) (fun _ h9 => h9) rfl dX10_judge_79 ?_
              refine va_get (D := (dC, dI)) (ci := 4) (v := .ref (up 8)) (C := RX6) (T := TX6) (N := 18) hx hb hts ifX10_judge_X6 hown hK hP 1 rfl rfl 17 (by decide) (hts (.fieldLink RX10 293 "HookPier$Plan" "bit" "[Z") (List.mem_of_getElem? (i := 16) rfl)) (fun _ h9 => h9) rfl dX10_judge_82 ?_
              refine lv_iload_n hx hb dX10_judge_85 rfl (lv_at hl 1 rfl) ?_
              obtain ⟨hg86, h⟩ := gA_of h
              refine va_zald hx hb hK hP 10 8 rfl rfl hg86 dX10_judge_86 ?_
              refine lv_topi (fun z86 ez86 => ?_)
              have h := nm_of h z86 ez86
              refine lv_icmp_eq (tgt := 92) hx hb dX10_judge_87 (by decide) (fun c87 => ?_) (fun c87 => ?_)
              · have h := (if_pos c87).symm.trans h
                refine lv_iinc (v := (v29_l3 + (1 : Int32))) (lv' := [(3, .int (v29_l3 + (1 : Int32))), (4, .int v74_t0), (0, .ref a0), (1, .int k1)]) hx hb dX10_judge_92 hl (k := 1) rfl rfl (by decide) rfl (fun ls hl => ?_)
                refine lv_goto (tgt := 29) hx hb dX10_judge_95 (by decide) ?_
                exact ih29 (v29_l3 + (1 : Int32)) H _ ls h  (hP.sub (ws' := (bX6 a2 up kp p_p ([(a0, .inr (7, [.ref a2, g6, g7, g8, g9, g10, g11, g12, .int o19.2.1, .int o19.2.2]))]))) [1, 2, 3, 4, 5, 6, 7, 8, 9, 10, 0] rfl) (hD.sub (ws' := (bX6 a2 up kp p_p ([(a0, .inr (7, [.ref a2, g6, g7, g8, g9, g10, g11, g12, .int o19.2.1, .int o19.2.2]))]))) [1, 2, 3, 4, 5, 6, 7, 8, 9, 10, 0] (by decide) rfl) hS (lv_sub hl [0, 2, 3] rfl)
              · have h := (if_neg c87).symm.trans h
                refine lv_iload_n hx hb dX10_judge_90 rfl (lv_at hl 1 rfl) ?_
                obtain rfl := Option.some.inj h
                have hP9 := hP.sub (ws' := ((a0, .inr (7, [.ref a2, g6, g7, g8, g9, g10, g11, g12, .int o19.2.1, .int o19.2.2])) :: bX6 a2 up kp p_p [])) [0, 1, 2, 3, 4, 5, 6, 7, 8, 9, 10] rfl
                have hD9 := hD.sub (ws' := ((a0, .inr (7, [.ref a2, g6, g7, g8, g9, g10, g11, g12, .int o19.2.1, .int o19.2.2])) :: bX6 a2 up kp p_p [])) [0, 1, 2, 3, 4, 5, 6, 7, 8, 9, 10] (by decide) rfl
                have hK9 := hK.sub (tys' := []) [] rfl
                rw [hQQ]
                exact W.iret (v := v29_l3) hx hb hr (fun t ht hW => ⟨⟨v29_l3, (), rfl, rfl, by rw [ht]; exact hP9, va_K.moved hW.alike hK9, hD9⟩, hS.F ht⟩) hS.2.2 dX10_judge_91
            refine lv_icmp_lt (tgt := 73) hx hb dX10_judge_66 (by decide) (fun c66 => ?_) (fun c66 => ?_)
            · have h := (if_pos c66).symm.trans h
              refine lv_iconst (v := 0) hx hb dX10_judge_73 (by decide) ?_
              exact J74 (0 : Int32) H _ ls h (by decide) hP hD hS (lv_sub hl [0, 1, 2] rfl)
            · have h := (if_neg c66).symm.trans h
              refine lv_iconst (v := 1) hx hb dX10_judge_69 (by decide) ?_
              refine lv_goto (tgt := 74) hx hb dX10_judge_70 (by decide) ?_
              exact J74 (1 : Int32) H _ ls h (by decide) hP hD hS (lv_sub hl [0, 1, 2] rfl)
      exact L29 FU (0 : Int32) H _ ls h  hP hD hS (lv_sub hl [0, 1, 2] rfl)
    · have h := (if_neg c22).symm.trans h
      refine lv_iconst (v := (-1)) hx hb dX10_judge_25 (by decide) ?_
      obtain rfl := Option.some.inj h
      have hP9 := hP.sub (ws' := ((a0, .inr (7, [.ref a2, g6, g7, g8, g9, g10, g11, g12, .int o19.2.1, .int o19.2.2])) :: bX6 a2 up kp p_p [])) [10, 0, 1, 2, 3, 4, 5, 6, 7, 8, 9] rfl
      have hD9 := hD.sub (ws' := ((a0, .inr (7, [.ref a2, g6, g7, g8, g9, g10, g11, g12, .int o19.2.1, .int o19.2.2])) :: bX6 a2 up kp p_p [])) [10, 0, 1, 2, 3, 4, 5, 6, 7, 8, 9] (by decide) rfl
      have hK9 := hK.sub (tys' := []) [] rfl
      rw [hQQ]
      exact W.iret (v := (-1 : Int32)) hx hb hr (fun t ht hW => ⟨⟨(-1 : Int32), (), rfl, rfl, by rw [ht]; exact hP9, va_K.moved hW.alike hK9, hD9⟩, hS.F ht⟩) hS.2.2 dX10_judge_26
  refine lv_if_ne (tgt := 18) hx hb dX10_judge_8 (by decide) (fun c8 => ?_) (fun c8 => ?_)
  · have h := (if_neg c8).symm.trans h
    refine lv_iload_n hx hb dX10_judge_18 rfl (lv_at hl 0 rfl) ?_
    exact J19 o2 H _ ls h  hP hD hS (lv_sub hl [1, 2] rfl)
  · have h := (if_pos c8).symm.trans h
    refine lv_aload_n hx hb dX10_judge_11 rfl (lv_at hl 1 rfl) ?_
    obtain ⟨o12, eo12⟩ : ∃ o, o = f_X10_darkTrouble p_p := ⟨_, rfl⟩
    have h := nm_of h o12 eo12
    refine cl_i (wc := ((a0, .inr (7, [.ref a2, g6, g7, g8, g9, g10, g11, g12, .int x_x.1, .int x_x.2])) :: bX6 a2 up kp p_p [])) (wr := []) (va_runV (As := []) (rest := [.ref a0]) ⟨hx, hb, hml, hown, hts⟩ (kfX10_darkTrouble l dC dI a0 a2 up kp (g6) (g7) (g8) (g9) (g10) (g11) (g12) (.int x_x.1) (.int x_x.2) p_p H.size o12 eo12.symm) (cwV 0 hts gfX10_judge_3 rfl rfl rfl (by decide +kernel) ⟨(Nat.le_of_ble_eq_true rfl), (Nat.le_of_ble_eq_true rfl)⟩) (PV (hP.sub (ws' := ((a0, .inr (7, [.ref a2, g6, g7, g8, g9, g10, g11, g12, .int x_x.1, .int x_x.2])) :: bX6 a2 up kp p_p [])) [0, 1, 2, 3, 4, 5, 6, 7, 8, 9, 10] rfl) (hK.sub (tys' := (tX6 kp ([]))) [0, 1, 2, 3, 4, 5, 6, 7, 8] rfl) (hD.sub (ws' := ((a0, .inr (7, [.ref a2, g6, g7, g8, g9, g10, g11, g12, .int x_x.1, .int x_x.2])) :: bX6 a2 up kp p_p [])) [0, 1, 2, 3, 4, 5, 6, 7, 8, 9, 10] (by decide) rfl) hN 0 rfl rfl) rfl rfl hl.1 rfl (lv_room (Nat.le_of_ble_eq_true rfl)) dX10_judge_12 ⟨(Nat.le_of_ble_eq_true rfl), (Nat.le_of_ble_eq_true rfl)⟩) hP hD hK hS hA [0, 1, 2, 3, 4, 5, 6, 7, 8, 9, 10] [] rfl rfl (by decide) (by decide) (fun r12 _ H locs hw hP hD _ hS => ?_)
    obtain rfl := hw.symm
    have hP : va_P (dC, dI) vwCl ((a0, .inr (7, [.ref a2, g6, g7, g8, g9, g10, g11, g12, .int x_x.1, .int x_x.2])) :: bX6 a2 up kp p_p []) H := hP
    have hD : va_D A ((a0, .inr (7, [.ref a2, g6, g7, g8, g9, g10, g11, g12, .int x_x.1, .int x_x.2])) :: bX6 a2 up kp p_p []) := hD
    refine lv_goto (tgt := 19) hx hb dX10_judge_15 (by decide) ?_
    exact J19 o12 H _ ls h  hP hD hS (lv_sub hl [1, 2] rfl)
theorem dX10_worth_0 : decode cX10_worth 0 = .ok (.aload_n 0, 1) := by decide +kernel
theorem dX10_worth_1 : decode cX10_worth 1 = .ok (.iload_n 1, 1) := by decide +kernel
theorem dX10_worth_12 : decode cX10_worth 12 = .ok (.invokestatic 75, 3) := by decide +kernel
theorem dX10_worth_15 : decode cX10_worth 15 = .ok (.ifCond .eq 18, 3) := by decide +kernel
theorem dX10_worth_18 : decode cX10_worth 18 = .ok (.iload_n 3, 1) := by decide +kernel
theorem dX10_worth_19 : decode cX10_worth 19 = .ok (.iload_n 2, 1) := by decide +kernel
theorem dX10_worth_2 : decode cX10_worth 2 = .ok (.invokevirtual 102, 3) := by decide +kernel
theorem dX10_worth_20 : decode cX10_worth 20 = .ok (.sipush 999, 3) := by decide +kernel
theorem dX10_worth_23 : decode cX10_worth 23 = .ok (.invokestatic 75, 3) := by decide +kernel
theorem dX10_worth_26 : decode cX10_worth 26 = .ok (.ifCond .eq 7, 3) := by decide +kernel
theorem dX10_worth_29 : decode cX10_worth 29 = .ok (.iconst 1, 1) := by decide +kernel
theorem dX10_worth_30 : decode cX10_worth 30 = .ok (.goto 4, 3) := by decide +kernel
theorem dX10_worth_33 : decode cX10_worth 33 = .ok (.iconst 0, 1) := by decide +kernel
theorem dX10_worth_34 : decode cX10_worth 34 = .ok (.istore 5, 2) := by decide +kernel
theorem dX10_worth_36 : decode cX10_worth 36 = .ok (.aload_n 0, 1) := by decide +kernel
theorem dX10_worth_37 : decode cX10_worth 37 = .ok (.iload 4, 2) := by decide +kernel
theorem dX10_worth_39 : decode cX10_worth 39 = .ok (.ifCond .ne 12, 3) := by decide +kernel
theorem dX10_worth_42 : decode cX10_worth 42 = .ok (.iload 5, 2) := by decide +kernel
theorem dX10_worth_44 : decode cX10_worth 44 = .ok (.ifCond .ne 7, 3) := by decide +kernel
theorem dX10_worth_47 : decode cX10_worth 47 = .ok (.iconst 2, 1) := by decide +kernel
theorem dX10_worth_48 : decode cX10_worth 48 = .ok (.goto 5, 3) := by decide +kernel
theorem dX10_worth_5 : decode cX10_worth 5 = .ok (.istore 4, 2) := by decide +kernel
theorem dX10_worth_51 : decode cX10_worth 51 = .ok (.iload 4, 2) := by decide +kernel
theorem dX10_worth_53 : decode cX10_worth 53 = .ok (.invokevirtual 79, 3) := by decide +kernel
theorem dX10_worth_56 : decode cX10_worth 56 = .ok (.ifCond .eq 5, 3) := by decide +kernel
theorem dX10_worth_59 : decode cX10_worth 59 = .ok (.iconst (-1), 1) := by decide +kernel
theorem dX10_worth_60 : decode cX10_worth 60 = .ok (.ireturn, 1) := by decide +kernel
theorem dX10_worth_61 : decode cX10_worth 61 = .ok (.aload_n 0, 1) := by decide +kernel
theorem dX10_worth_62 : decode cX10_worth 62 = .ok (.getfield 10, 3) := by decide +kernel
theorem dX10_worth_65 : decode cX10_worth 65 = .ok (.iload_n 1, 1) := by decide +kernel
theorem dX10_worth_66 : decode cX10_worth 66 = .ok (.iload_n 3, 1) := by decide +kernel
theorem dX10_worth_67 : decode cX10_worth 67 = .ok (.iload_n 2, 1) := by decide +kernel
theorem dX10_worth_68 : decode cX10_worth 68 = .ok (.isub, 1) := by decide +kernel
theorem dX10_worth_69 : decode cX10_worth 69 = .ok (.invokevirtual 297, 3) := by decide +kernel
theorem dX10_worth_7 : decode cX10_worth 7 = .ok (.iload_n 2, 1) := by decide +kernel
theorem dX10_worth_72 : decode cX10_worth 72 = .ok (.ireturn, 1) := by decide +kernel
theorem dX10_worth_8 : decode cX10_worth 8 = .ok (.iconst 0, 1) := by decide +kernel
theorem dX10_worth_9 : decode cX10_worth 9 = .ok (.sipush 999, 3) := by decide +kernel
def vfX10_worth : List Cond := List.cons (.code yX10_worth cX10_worth 6 (some .int)) (apW [.methodLink RX10 102 yX10_answerTrouble, .instanceMethod yX10_answerTrouble, .selects RX10 yX10_answerTrouble yX10_answerTrouble, .initialized RX10, .methodLink RX10 75 yX10_within, .static yX10_within, .methodLink RX10 79 yX10_refused, .instanceMethod yX10_refused, .selects RX10 yX10_refused yX10_refused, .fieldLink RX10 10 "HookPier" "plan" "LHookPier$Plan;", .methodLink RX10 297 yX6_worthAfter, .instanceMethod yX6_worthAfter, .selects RX6 yX6_worthAfter yX6_worthAfter, .initialized RX6] (apW wsX100 (apW vfX10_answerTrouble (apW vfX10_within (apW vfX10_refused (vfX6_worthAfter))))))
theorem ifX10_worth_X10 : ∀ w ∈ wsX100, w ∈ vfX10_worth := fun _ h => (List.mem_cons_of_mem _ (List.mem_append_right _ (List.mem_append_left _ h)))
theorem qfX10_worth : Good vfX10_worth := gd_cons (by decide +kernel) (gd_app (gd_dec (by decide +kernel) : Good [.methodLink RX10 102 yX10_answerTrouble, .instanceMethod yX10_answerTrouble, .selects RX10 yX10_answerTrouble yX10_answerTrouble, .initialized RX10, .methodLink RX10 75 yX10_within, .static yX10_within, .methodLink RX10 79 yX10_refused, .instanceMethod yX10_refused, .selects RX10 yX10_refused yX10_refused, .fieldLink RX10 10 "HookPier" "plan" "LHookPier$Plan;", .methodLink RX10 297 yX6_worthAfter, .instanceMethod yX6_worthAfter, .selects RX6 yX6_worthAfter yX6_worthAfter, .initialized RX6]) (gd_app qsX10 (gd_app qfX10_answerTrouble (gd_app qfX10_within (gd_app qfX10_refused qfX6_worthAfter)))))
theorem gfX10_worth_0 : GoodIn vfX10_worth (wsV RX10 102 RX10 yX10_answerTrouble vfX10_answerTrouble) := goodIn_app (goodIn_r [.methodLink RX10 102 yX10_answerTrouble, .instanceMethod yX10_answerTrouble, .selects RX10 yX10_answerTrouble yX10_answerTrouble, .initialized RX10] [1, 2, 3, 4] rfl (by decide +kernel)) (goodIn_m (fun _ h => (List.mem_cons_of_mem _ (List.mem_append_right _ (List.mem_append_right _ (List.mem_append_left _ h))))) qfX10_answerTrouble)
theorem gfX10_worth_1 : GoodIn vfX10_worth (va_wsS RX10 75 yX10_within vfX10_within) := goodIn_app (goodIn_r [.methodLink RX10 75 yX10_within, .static yX10_within, .initialized RX10] [5, 6, 4] rfl (by decide +kernel)) (goodIn_m (fun _ h => (List.mem_cons_of_mem _ (List.mem_append_right _ (List.mem_append_right _ (List.mem_append_right _ (List.mem_append_left _ h)))))) qfX10_within)
theorem gfX10_worth_2 : GoodIn vfX10_worth (wsV RX10 79 RX10 yX10_refused vfX10_refused) := goodIn_app (goodIn_r [.methodLink RX10 79 yX10_refused, .instanceMethod yX10_refused, .selects RX10 yX10_refused yX10_refused, .initialized RX10] [7, 8, 9, 4] rfl (by decide +kernel)) (goodIn_m (fun _ h => (List.mem_cons_of_mem _ (List.mem_append_right _ (List.mem_append_right _ (List.mem_append_right _ (List.mem_append_right _ (List.mem_append_left _ h))))))) qfX10_refused)
theorem gfX10_worth_3 : GoodIn vfX10_worth (wsV RX10 297 RX6 yX6_worthAfter vfX6_worthAfter) := goodIn_app (goodIn_r [.methodLink RX10 297 yX6_worthAfter, .instanceMethod yX6_worthAfter, .selects RX6 yX6_worthAfter yX6_worthAfter, .initialized RX6] [11, 12, 13, 14] rfl (by decide +kernel)) (goodIn_m (fun _ h => (List.mem_cons_of_mem _ (List.mem_append_right _ (List.mem_append_right _ (List.mem_append_right _ (List.mem_append_right _ (List.mem_append_right _ h))))))) qfX6_worthAfter)
set_option maxHeartbeats 2000000 in
set_option maxRecDepth 100000 in
theorem kfX10_worth (l : Launch) (dC : Nat → ClassId) (dI : Nat → Nat → Nat) (a0 : Nat) (k1 : Int32) (k2 : Int32) (k3 : Int32) (a4 : Nat) (up : Nat → Nat) (kp : Nat → ClassId) (x_x : TX10_x) (g8 : Value) (g9 : Value) (g10 : Value) (g11 : Value) (g12 : Value) (g13 : Value) (g14 : Value) (p_p : TX6_p) (sz : Nat) (out : (Int32 × TX10_x)) (h : f_X10_worth k1 k2 k3 x_x p_p = some out) : Met l yX10_worth vfX10_worth ({ frames := 3, cells := 0, slots := 0, locals := 64 }) (PC (dC, dI) [.ref a0, .int k1, .int k2, .int k3] sz ((a0, .inr (7, [.ref a4, g8, g9, g10, g11, g12, g13, g14, .int x_x.1, .int x_x.2])) :: bX6 a4 up kp p_p []) (tX6 kp ([]))) (va_Qi (S := Unit) (fun (r : Int32) _ => r = out.1) (fun _ t => BC (dC, dI) (va_A ((a0, .inr (7, [.ref a4, g8, g9, g10, g11, g12, g13, g14, .int x_x.1, .int x_x.2])) :: bX6 a4 up kp p_p []) sz) ((a0, .inr (7, [.ref a4, g8, g9, g10, g11, g12, g13, g14, .int out.2.1, .int out.2.2])) :: bX6 a4 up kp p_p []) [] t) (va_A ((a0, .inr (7, [.ref a4, g8, g9, g10, g11, g12, g13, g14, .int x_x.1, .int x_x.2])) :: bX6 a4 up kp p_p []) sz)) 0 0 (va_A ((a0, .inr (7, [.ref a4, g8, g9, g10, g11, g12, g13, g14, .int x_x.1, .int x_x.2])) :: bX6 a4 up kp p_p []) sz) := by
  refine Met.ofW (cc := cX10_worth) (maxL := 6) (ret := (some .int)) (by decide) rfl ?_
  intro p e s m args below meth c s₁ B0 hml hv
  obtain ⟨rfl, hsz, hP, hK, hD0, hN⟩ := hv
  have hx := B0.exec
  have hb := B0.bytes
  have hr := B0.returns
  have hts := atoms_spec (ws := vfX10_worth) B0.pre
  have hown : s.vm.findClass RX10 = some m.cls := findClass_of_methodNamed B0.named
  have hlocks := B0.notSynchronized
  subst hsz
  have hD := hD0.self (sz := s.heap.size)
  generalize hAe : va_A ((a0, .inr (7, [.ref a4, g8, g9, g10, g11, g12, g13, g14, .int x_x.1, .int x_x.2])) :: bX6 a4 up kp p_p []) s.heap.size = A at hD ⊢
  have hA : ∀ q : Nat, s.heap.size ≤ q → A q := fun q h => by rw [← hAe]; exact Or.inr h
  have hS : va_S A s.heap s.heap [] := va_S.rf
  have hP : va_P (dC, dI) vwCl ((a0, .inr (7, [.ref a4, g8, g9, g10, g11, g12, g13, g14, .int x_x.1, .int x_x.2])) :: bX6 a4 up kp p_p []) s.heap := hP
  have hl := lv_entry ([.ref a0, .int k1, .int k2, .int k3]) (n := 6) (Nat.le_of_ble_eq_true rfl)
  rw [lg_entry_eq]
  generalize (lg_sl ([.ref a0, .int k1, .int k2, .int k3]) ++ List.replicate (6 - (lg_sl ([.ref a0, .int k1, .int k2, .int k3])).length) Slot.unset).toArray = ls at hl ⊢
  have hl : lv_has ls 6 [(0, .ref a0), (1, .int k1), (2, .int k2), (3, .int k3)] := hl
  refine W_q (fun QQ hQQ => ?_)
  rw [f_X10_worth] at h
  refine lv_aload_n hx hb dX10_worth_0 rfl (lv_at hl 0 rfl) ?_
  refine lv_iload_n hx hb dX10_worth_1 rfl (lv_at hl 1 rfl) ?_
  obtain ⟨o2, eo2⟩ : ∃ o, o = f_X10_answerTrouble k1 p_p := ⟨_, rfl⟩
  have h := nm_of h o2 eo2
  refine cl_i (wc := ((a0, .inr (7, [.ref a4, g8, g9, g10, g11, g12, g13, g14, .int x_x.1, .int x_x.2])) :: bX6 a4 up kp p_p [])) (wr := []) (va_runV (As := [.int k1]) (rest := []) ⟨hx, hb, hml, hown, hts⟩ (kfX10_answerTrouble l dC dI a0 k1 a4 up kp (g8) (g9) (g10) (g11) (g12) (g13) (g14) (.int x_x.1) (.int x_x.2) p_p s.heap.size o2 eo2.symm) (cwV 1 hts gfX10_worth_0 rfl rfl rfl (by decide +kernel) ⟨(Nat.le_of_ble_eq_true rfl), (Nat.le_of_ble_eq_true rfl)⟩) (PV (hP.sub (ws' := ((a0, .inr (7, [.ref a4, g8, g9, g10, g11, g12, g13, g14, .int x_x.1, .int x_x.2])) :: bX6 a4 up kp p_p [])) [0, 1, 2, 3, 4, 5, 6, 7, 8, 9, 10] rfl) (hK.sub (tys' := (tX6 kp ([]))) [0, 1, 2, 3, 4, 5, 6, 7, 8] rfl) (hD.sub (ws' := ((a0, .inr (7, [.ref a4, g8, g9, g10, g11, g12, g13, g14, .int x_x.1, .int x_x.2])) :: bX6 a4 up kp p_p [])) [0, 1, 2, 3, 4, 5, 6, 7, 8, 9, 10] (by decide) rfl) hN 0 rfl rfl) rfl rfl hl.1 rfl (lv_room (Nat.le_of_ble_eq_true rfl)) dX10_worth_2 ⟨(Nat.le_of_ble_eq_true rfl), (Nat.le_of_ble_eq_true rfl)⟩) hP hD hK hS hA [0, 1, 2, 3, 4, 5, 6, 7, 8, 9, 10] [] rfl rfl (by decide) (by decide) (fun r2 _ H locs hw hP hD _ hS => ?_)
  obtain rfl := hw.symm
  have hP : va_P (dC, dI) vwCl ((a0, .inr (7, [.ref a4, g8, g9, g10, g11, g12, g13, g14, .int x_x.1, .int x_x.2])) :: bX6 a4 up kp p_p []) H := hP
  have hD : va_D A ((a0, .inr (7, [.ref a4, g8, g9, g10, g11, g12, g13, g14, .int x_x.1, .int x_x.2])) :: bX6 a4 up kp p_p []) := hD
  refine lv_istore (lv' := [(4, .int o2), (0, .ref a0), (1, .int k1), (2, .int k2), (3, .int k3)]) hx hb dX10_worth_5 hl (by decide) rfl (fun ls hl => ?_)
  refine lv_iload_n hx hb dX10_worth_7 rfl (lv_at hl 3 rfl) ?_
  refine lv_iconst (v := 0) hx hb dX10_worth_8 (by decide) ?_
  refine lv_sipush (v := 999) hx hb dX10_worth_9 (by decide) ?_
  obtain ⟨o12, eo12⟩ : ∃ o, o = f_X10_within k2 (0 : Int32) (999 : Int32) := ⟨_, rfl⟩
  have h := nm_of h o12 eo12
  refine cl_i (wc := []) (wr := ((a0, .inr (7, [.ref a4, g8, g9, g10, g11, g12, g13, g14, .int x_x.1, .int x_x.2])) :: bX6 a4 up kp p_p [])) (va_runS (As := [.int k2, .int 0, .int 999]) (rest := []) ⟨hx, hb, hml, hown, hts⟩ (kfX10_within l dC dI k2 (0 : Int32) (999 : Int32) H.size o12 eo12.symm) (va_cwS 3 hts gfX10_worth_1 rfl rfl rfl (by decide +kernel) ⟨(Nat.le_of_ble_eq_true rfl), (Nat.le_of_ble_eq_true rfl)⟩) (PS (hP.sub (ws' := []) [] rfl) (hK.sub (tys' := ([])) [] rfl) (hD.sub (ws' := []) [] (by decide) rfl) hN) rfl rfl hl.1 rfl (lv_room (Nat.le_of_ble_eq_true rfl)) dX10_worth_12 ⟨(Nat.le_of_ble_eq_true rfl), (Nat.le_of_ble_eq_true rfl)⟩) hP hD hK hS hA [] [0, 1, 2, 3, 4, 5, 6, 7, 8, 9, 10] rfl rfl (by decide) (by decide) (fun r12 _ H locs hw hP hD _ hS => ?_)
  obtain ⟨hw, br12⟩ := hw
  obtain rfl := hw.symm
  have hP : va_P (dC, dI) vwCl ((a0, .inr (7, [.ref a4, g8, g9, g10, g11, g12, g13, g14, .int x_x.1, .int x_x.2])) :: bX6 a4 up kp p_p []) H := hP
  have hD : va_D A ((a0, .inr (7, [.ref a4, g8, g9, g10, g11, g12, g13, g14, .int x_x.1, .int x_x.2])) :: bX6 a4 up kp p_p []) := hD
  have J34 : ∀ (v34_t0 : Int32) (H : Heap) (locs : List Loc) (ls : Array Slot), f_X10_worth_J34 k1 k2 k3 x_x p_p o2 v34_t0 = some out → 0 ≤ v34_t0.toInt ∧ v34_t0.toInt ≤ 1 → va_P (dC, dI) vwCl ((a0, .inr (7, [.ref a4, g8, g9, g10, g11, g12, g13, g14, .int x_x.1, .int x_x.2])) :: bX6 a4 up kp p_p []) H → va_D A ((a0, .inr (7, [.ref a4, g8, g9, g10, g11, g12, g13, g14, .int x_x.1, .int x_x.2])) :: bX6 a4 up kp p_p []) → va_S A s.heap H locs → lv_has ls 6 [(4, .int o2), (0, .ref a0), (1, .int k1), (2, .int k2), (3, .int k3)] → W p l e (headSpec vfX10_worth { frames := 3, cells := 0, slots := 0, locals := 64 }).room s m ([.ref a0, .int k1, .int k2, .int k3]).toArray below meth c H locs 0 0 QQ (F0 m 34 ls [.int v34_t0]) := by
    intro v34_t0 H locs ls h zb_v34_t0 hP hD hS hl
    rw [f_X10_worth_J34] at h
    refine lv_istore (lv' := [(5, .int v34_t0), (4, .int o2), (0, .ref a0), (1, .int k1), (2, .int k2), (3, .int k3)]) hx hb dX10_worth_34 hl (by decide) rfl (fun ls hl => ?_)
    refine lv_aload_n hx hb dX10_worth_36 rfl (lv_at hl 2 rfl) ?_
    refine lv_iload hx hb dX10_worth_37 (lv_at hl 1 rfl) ?_
    have J53 : ∀ (v53_t1 : Int32) (H : Heap) (locs : List Loc) (ls : Array Slot), f_X10_worth_J53 k1 k2 k3 x_x p_p v53_t1 = some out → va_P (dC, dI) vwCl ((a0, .inr (7, [.ref a4, g8, g9, g10, g11, g12, g13, g14, .int x_x.1, .int x_x.2])) :: bX6 a4 up kp p_p []) H → va_D A ((a0, .inr (7, [.ref a4, g8, g9, g10, g11, g12, g13, g14, .int x_x.1, .int x_x.2])) :: bX6 a4 up kp p_p []) → va_S A s.heap H locs → lv_has ls 6 [(0, .ref a0), (1, .int k1), (2, .int k2), (3, .int k3)] → W p l e (headSpec vfX10_worth { frames := 3, cells := 0, slots := 0, locals := 64 }).room s m ([.ref a0, .int k1, .int k2, .int k3]).toArray below meth c H locs 0 0 QQ (F0 m 53 ls [.int v53_t1, .ref a0]) := by
      intro v53_t1 H locs ls h  hP hD hS hl
      rw [f_X10_worth_J53] at h
      obtain ⟨o53, eo53⟩ : ∃ o, o = f_X10_refused v53_t1 x_x := ⟨_, rfl⟩
      have h := nm_of h o53 eo53
      refine cl_i (wc := ([(a0, .inr (7, [.ref a4, g8, g9, g10, g11, g12, g13, g14, .int x_x.1, .int x_x.2]))])) (wr := (bX6 a4 up kp p_p [])) (va_runV (As := [.int v53_t1]) (rest := []) ⟨hx, hb, hml, hown, hts⟩ (kfX10_refused l dC dI a0 v53_t1 x_x (.ref a4) (g8) (g9) (g10) (g11) (g12) (g13) (g14) H.size o53 eo53.symm) (cwV 1 hts gfX10_worth_2 rfl rfl rfl (by decide +kernel) ⟨(Nat.le_of_ble_eq_true rfl), (Nat.le_of_ble_eq_true rfl)⟩) (PV (hP.sub (ws' := ([(a0, .inr (7, [.ref a4, g8, g9, g10, g11, g12, g13, g14, .int x_x.1, .int x_x.2]))])) [0] rfl) (hK.sub (tys' := ([])) [] rfl) (hD.sub (ws' := ([(a0, .inr (7, [.ref a4, g8, g9, g10, g11, g12, g13, g14, .int x_x.1, .int x_x.2]))])) [0] (by decide) rfl) hN 0 rfl rfl) rfl rfl hl.1 rfl (lv_room (Nat.le_of_ble_eq_true rfl)) dX10_worth_53 ⟨(Nat.le_of_ble_eq_true rfl), (Nat.le_of_ble_eq_true rfl)⟩) hP hD hK hS hA [0] [1, 2, 3, 4, 5, 6, 7, 8, 9, 10] rfl rfl (by decide) (by decide) (fun r53 _ H locs hw hP hD _ hS => ?_)
      obtain ⟨hw, br53⟩ := hw
      obtain rfl := hw
      have hP : va_P (dC, dI) vwCl (bX6 a4 up kp p_p ([(a0, .inr (7, [.ref a4, g8, g9, g10, g11, g12, g13, g14, .int o53.2.1, .int o53.2.2]))])) H := hP
      have hD : va_D A (bX6 a4 up kp p_p ([(a0, .inr (7, [.ref a4, g8, g9, g10, g11, g12, g13, g14, .int o53.2.1, .int o53.2.2]))])) := hD
      refine lv_if_eq (tgt := 61) hx hb dX10_worth_56 (by decide) (fun c56 => ?_) (fun c56 => ?_)
      · have h := (if_pos c56).symm.trans h
        refine lv_aload_n hx hb dX10_worth_61 rfl (lv_at hl 0 rfl) ?_
        refine va_get (D := (dC, dI)) (ci := 7) (v := .ref a4) (C := RX10) (T := TX10) (N := 10) hx hb hts ifX10_worth_X10 hown hK hP 10 rfl rfl 0 (by decide) (hts (.fieldLink RX10 10 "HookPier" "plan" "LHookPier$Plan;") (List.mem_of_getElem? (i := 10) rfl)) (fun _ h9 => h9) rfl dX10_worth_62 ?_
        refine lv_iload_n hx hb dX10_worth_65 rfl (lv_at hl 1 rfl) ?_
        refine lv_iload_n hx hb dX10_worth_66 rfl (lv_at hl 3 rfl) ?_
        refine lv_iload_n hx hb dX10_worth_67 rfl (lv_at hl 2 rfl) ?_
        refine lv_isub hx hb dX10_worth_68 ?_
        obtain ⟨o69, eo69, h⟩ := bd_of h
        refine cl_i (wc := (bX6 a4 up kp p_p [])) (wr := ([(a0, .inr (7, [.ref a4, g8, g9, g10, g11, g12, g13, g14, .int o53.2.1, .int o53.2.2]))])) (va_runV (As := [.int k1, .int (k3 - k2)]) (rest := []) ⟨hx, hb, hml, hown, hts⟩ (kfX6_worthAfter l dC dI a4 k1 (k3 - k2) up kp p_p H.size o69 eo69) (cwV 2 hts gfX10_worth_3 rfl rfl rfl (by decide +kernel) ⟨(Nat.le_of_ble_eq_true rfl), (Nat.le_of_ble_eq_true rfl)⟩) (PV (hP.sub (ws' := (bX6 a4 up kp p_p [])) [0, 1, 2, 3, 4, 5, 6, 7, 8, 9] rfl) (hK.sub (tys' := (tX6 kp ([]))) [0, 1, 2, 3, 4, 5, 6, 7, 8] rfl) (hD.sub (ws' := (bX6 a4 up kp p_p [])) [0, 1, 2, 3, 4, 5, 6, 7, 8, 9] (by decide) rfl) hN 0 rfl rfl) rfl rfl hl.1 rfl (lv_room (Nat.le_of_ble_eq_true rfl)) dX10_worth_69 ⟨(Nat.le_of_ble_eq_true rfl), (Nat.le_of_ble_eq_true rfl)⟩) hP hD hK hS hA [0, 1, 2, 3, 4, 5, 6, 7, 8, 9] [10] rfl rfl (by decide) (by decide) (fun r69 _ H locs hw hP hD _ hS => ?_)
        obtain rfl := hw.symm
        have hP : va_P (dC, dI) vwCl ((a0, .inr (7, [.ref a4, g8, g9, g10, g11, g12, g13, g14, .int o53.2.1, .int o53.2.2])) :: bX6 a4 up kp p_p []) H := hP
        have hD : va_D A ((a0, .inr (7, [.ref a4, g8, g9, g10, g11, g12, g13, g14, .int o53.2.1, .int o53.2.2])) :: bX6 a4 up kp p_p []) := hD
        obtain rfl := Option.some.inj h
        have hP9 := hP.sub (ws' := ((a0, .inr (7, [.ref a4, g8, g9, g10, g11, g12, g13, g14, .int o53.2.1, .int o53.2.2])) :: bX6 a4 up kp p_p [])) [0, 1, 2, 3, 4, 5, 6, 7, 8, 9, 10] rfl
        have hD9 := hD.sub (ws' := ((a0, .inr (7, [.ref a4, g8, g9, g10, g11, g12, g13, g14, .int o53.2.1, .int o53.2.2])) :: bX6 a4 up kp p_p [])) [0, 1, 2, 3, 4, 5, 6, 7, 8, 9, 10] (by decide) rfl
        have hK9 := hK.sub (tys' := []) [] rfl
        rw [hQQ]
        exact W.iret (v := o69) hx hb hr (fun t ht hW => ⟨⟨o69, (), rfl, rfl, by rw [ht]; exact hP9, va_K.moved hW.alike hK9, hD9⟩, hS.F ht⟩) hS.2.2 dX10_worth_72
      · have h := (if_neg c56).symm.trans h
        refine lv_iconst (v := (-1)) hx hb dX10_worth_59 (by decide) ?_
        obtain rfl := Option.some.inj h
        have hP9 := hP.sub (ws' := ((a0, .inr (7, [.ref a4, g8, g9, g10, g11, g12, g13, g14, .int o53.2.1, .int o53.2.2])) :: bX6 a4 up kp p_p [])) [10, 0, 1, 2, 3, 4, 5, 6, 7, 8, 9] rfl
        have hD9 := hD.sub (ws' := ((a0, .inr (7, [.ref a4, g8, g9, g10, g11, g12, g13, g14, .int o53.2.1, .int o53.2.2])) :: bX6 a4 up kp p_p [])) [10, 0, 1, 2, 3, 4, 5, 6, 7, 8, 9] (by decide) rfl
        have hK9 := hK.sub (tys' := []) [] rfl
        rw [hQQ]
        exact W.iret (v := (-1 : Int32)) hx hb hr (fun t ht hW => ⟨⟨(-1 : Int32), (), rfl, rfl, by rw [ht]; exact hP9, va_K.moved hW.alike hK9, hD9⟩, hS.F ht⟩) hS.2.2 dX10_worth_60
    have J51 : ∀ (H : Heap) (locs : List Loc) (ls : Array Slot), f_X10_worth_J51 k1 k2 k3 x_x p_p o2 = some out → va_P (dC, dI) vwCl ((a0, .inr (7, [.ref a4, g8, g9, g10, g11, g12, g13, g14, .int x_x.1, .int x_x.2])) :: bX6 a4 up kp p_p []) H → va_D A ((a0, .inr (7, [.ref a4, g8, g9, g10, g11, g12, g13, g14, .int x_x.1, .int x_x.2])) :: bX6 a4 up kp p_p []) → va_S A s.heap H locs → lv_has ls 6 [(4, .int o2), (0, .ref a0), (1, .int k1), (2, .int k2), (3, .int k3)] → W p l e (headSpec vfX10_worth { frames := 3, cells := 0, slots := 0, locals := 64 }).room s m ([.ref a0, .int k1, .int k2, .int k3]).toArray below meth c H locs 0 0 QQ (F0 m 51 ls [.ref a0]) := by
      intro  H locs ls h  hP hD hS hl
      rw [f_X10_worth_J51] at h
      refine lv_iload hx hb dX10_worth_51 (lv_at hl 0 rfl) ?_
      exact J53 o2 H _ ls h  hP hD hS (lv_sub hl [1, 2, 3, 4] rfl)
    refine lv_if_ne (tgt := 51) hx hb dX10_worth_39 (by decide) (fun c39 => ?_) (fun c39 => ?_)
    · have h := (if_neg c39).symm.trans h
      exact J51  H _ ls h  hP hD hS (lv_sub hl [1, 2, 3, 4, 5] rfl)
    · have h := (if_pos c39).symm.trans h
      refine lv_iload hx hb dX10_worth_42 (lv_at hl 0 rfl) ?_
      refine lv_if_ne (tgt := 51) hx hb dX10_worth_44 (by decide) (fun c44 => ?_) (fun c44 => ?_)
      · have h := (if_neg c44).symm.trans h
        exact J51  H _ ls h  hP hD hS (lv_sub hl [1, 2, 3, 4, 5] rfl)
      · have h := (if_pos c44).symm.trans h
        refine lv_iconst (v := 2) hx hb dX10_worth_47 (by decide) ?_
        refine lv_goto (tgt := 53) hx hb dX10_worth_48 (by decide) ?_
        exact J53 (2 : Int32) H _ ls h  hP hD hS (lv_sub hl [2, 3, 4, 5] rfl)
  have J33 : ∀ (H : Heap) (locs : List Loc) (ls : Array Slot), f_X10_worth_J33 k1 k2 k3 x_x p_p o2 = some out → va_P (dC, dI) vwCl ((a0, .inr (7, [.ref a4, g8, g9, g10, g11, g12, g13, g14, .int x_x.1, .int x_x.2])) :: bX6 a4 up kp p_p []) H → va_D A ((a0, .inr (7, [.ref a4, g8, g9, g10, g11, g12, g13, g14, .int x_x.1, .int x_x.2])) :: bX6 a4 up kp p_p []) → va_S A s.heap H locs → lv_has ls 6 [(4, .int o2), (0, .ref a0), (1, .int k1), (2, .int k2), (3, .int k3)] → W p l e (headSpec vfX10_worth { frames := 3, cells := 0, slots := 0, locals := 64 }).room s m ([.ref a0, .int k1, .int k2, .int k3]).toArray below meth c H locs 0 0 QQ (F0 m 33 ls []) := by
    intro  H locs ls h  hP hD hS hl
    rw [f_X10_worth_J33] at h
    refine lv_iconst (v := 0) hx hb dX10_worth_33 (by decide) ?_
    exact J34 (0 : Int32) H _ ls h (by decide) hP hD hS (lv_sub hl [0, 1, 2, 3, 4] rfl)
  refine lv_if_eq (tgt := 33) hx hb dX10_worth_15 (by decide) (fun c15 => ?_) (fun c15 => ?_)
  · have h := (if_pos c15).symm.trans h
    exact J33  H _ ls h  hP hD hS (lv_sub hl [0, 1, 2, 3, 4] rfl)
  · have h := (if_neg c15).symm.trans h
    refine lv_iload_n hx hb dX10_worth_18 rfl (lv_at hl 4 rfl) ?_
    refine lv_iload_n hx hb dX10_worth_19 rfl (lv_at hl 3 rfl) ?_
    refine lv_sipush (v := 999) hx hb dX10_worth_20 (by decide) ?_
    obtain ⟨o23, eo23⟩ : ∃ o, o = f_X10_within k3 k2 (999 : Int32) := ⟨_, rfl⟩
    have h := nm_of h o23 eo23
    refine cl_i (wc := []) (wr := ((a0, .inr (7, [.ref a4, g8, g9, g10, g11, g12, g13, g14, .int x_x.1, .int x_x.2])) :: bX6 a4 up kp p_p [])) (va_runS (As := [.int k3, .int k2, .int 999]) (rest := []) ⟨hx, hb, hml, hown, hts⟩ (kfX10_within l dC dI k3 k2 (999 : Int32) H.size o23 eo23.symm) (va_cwS 3 hts gfX10_worth_1 rfl rfl rfl (by decide +kernel) ⟨(Nat.le_of_ble_eq_true rfl), (Nat.le_of_ble_eq_true rfl)⟩) (PS (hP.sub (ws' := []) [] rfl) (hK.sub (tys' := ([])) [] rfl) (hD.sub (ws' := []) [] (by decide) rfl) hN) rfl rfl hl.1 rfl (lv_room (Nat.le_of_ble_eq_true rfl)) dX10_worth_23 ⟨(Nat.le_of_ble_eq_true rfl), (Nat.le_of_ble_eq_true rfl)⟩) hP hD hK hS hA [] [0, 1, 2, 3, 4, 5, 6, 7, 8, 9, 10] rfl rfl (by decide) (by decide) (fun r23 _ H locs hw hP hD _ hS => ?_)
    obtain ⟨hw, br23⟩ := hw
    obtain rfl := hw.symm
    have hP : va_P (dC, dI) vwCl ((a0, .inr (7, [.ref a4, g8, g9, g10, g11, g12, g13, g14, .int x_x.1, .int x_x.2])) :: bX6 a4 up kp p_p []) H := hP
    have hD : va_D A ((a0, .inr (7, [.ref a4, g8, g9, g10, g11, g12, g13, g14, .int x_x.1, .int x_x.2])) :: bX6 a4 up kp p_p []) := hD
    refine lv_if_eq (tgt := 33) hx hb dX10_worth_26 (by decide) (fun c26 => ?_) (fun c26 => ?_)
    · have h := (if_pos c26).symm.trans h
      exact J33  H _ ls h  hP hD hS (lv_sub hl [0, 1, 2, 3, 4] rfl)
    · have h := (if_neg c26).symm.trans h
      refine lv_iconst (v := 1) hx hb dX10_worth_29 (by decide) ?_
      refine lv_goto (tgt := 34) hx hb dX10_worth_30 (by decide) ?_
      exact J34 (1 : Int32) H _ ls h (by decide) hP hD hS (lv_sub hl [0, 1, 2, 3, 4] rfl)
theorem dX3_unsold_0 : decode cX3_unsold 0 = .ok (.iconst 0, 1) := by decide +kernel
theorem dX3_unsold_1 : decode cX3_unsold 1 = .ok (.istore_n 2, 1) := by decide +kernel
theorem dX3_unsold_12 : decode cX3_unsold 12 = .ok (.aload_n 1, 1) := by decide +kernel
theorem dX3_unsold_13 : decode cX3_unsold 13 = .ok (.getfield 25, 3) := by decide +kernel
theorem dX3_unsold_16 : decode cX3_unsold 16 = .ok (.iload_n 3, 1) := by decide +kernel
theorem dX3_unsold_17 : decode cX3_unsold 17 = .ok (.iaload, 1) := by decide +kernel
theorem dX3_unsold_18 : decode cX3_unsold 18 = .ok (.iconst 1, 1) := by decide +kernel
theorem dX3_unsold_19 : decode cX3_unsold 19 = .ok (.if_icmp .ne 9, 3) := by decide +kernel
theorem dX3_unsold_2 : decode cX3_unsold 2 = .ok (.iconst 0, 1) := by decide +kernel
theorem dX3_unsold_22 : decode cX3_unsold 22 = .ok (.iload_n 2, 1) := by decide +kernel
theorem dX3_unsold_23 : decode cX3_unsold 23 = .ok (.iconst 1, 1) := by decide +kernel
theorem dX3_unsold_24 : decode cX3_unsold 24 = .ok (.iload_n 3, 1) := by decide +kernel
theorem dX3_unsold_25 : decode cX3_unsold 25 = .ok (.ishl, 1) := by decide +kernel
theorem dX3_unsold_26 : decode cX3_unsold 26 = .ok (.ior, 1) := by decide +kernel
theorem dX3_unsold_27 : decode cX3_unsold 27 = .ok (.istore_n 2, 1) := by decide +kernel
theorem dX3_unsold_28 : decode cX3_unsold 28 = .ok (.iinc 3 1, 3) := by decide +kernel
theorem dX3_unsold_3 : decode cX3_unsold 3 = .ok (.istore_n 3, 1) := by decide +kernel
theorem dX3_unsold_31 : decode cX3_unsold 31 = .ok (.goto (-27), 3) := by decide +kernel
theorem dX3_unsold_34 : decode cX3_unsold 34 = .ok (.iload_n 2, 1) := by decide +kernel
theorem dX3_unsold_35 : decode cX3_unsold 35 = .ok (.ireturn, 1) := by decide +kernel
theorem dX3_unsold_4 : decode cX3_unsold 4 = .ok (.iload_n 3, 1) := by decide +kernel
theorem dX3_unsold_5 : decode cX3_unsold 5 = .ok (.aload_n 0, 1) := by decide +kernel
theorem dX3_unsold_6 : decode cX3_unsold 6 = .ok (.getfield 21, 3) := by decide +kernel
theorem dX3_unsold_9 : decode cX3_unsold 9 = .ok (.if_icmp .ge 25, 3) := by decide +kernel
def vfX3_unsold : List Cond := List.cons (.code yX3_unsold cX3_unsold 4 (some .int)) (apW [.fieldLink RX3 21 "HookPier$Plan" "answers" "I", .fieldLink RX3 25 "HookPier$Now" "stage" "[I"] (apW wsX60 (wsX40)))
theorem ifX3_unsold_X6 : ∀ w ∈ wsX60, w ∈ vfX3_unsold := fun _ h => (List.mem_cons_of_mem _ (List.mem_append_right _ (List.mem_append_left _ h)))
theorem ifX3_unsold_X4 : ∀ w ∈ wsX40, w ∈ vfX3_unsold := fun _ h => (List.mem_cons_of_mem _ (List.mem_append_right _ (List.mem_append_right _ h)))
theorem qfX3_unsold : Good vfX3_unsold := gd_cons (by decide +kernel) (gd_app (gd_dec (by decide +kernel) : Good [.fieldLink RX3 21 "HookPier$Plan" "answers" "I", .fieldLink RX3 25 "HookPier$Now" "stage" "[I"]) (gd_app qsX6 qsX4))
set_option maxHeartbeats 2000000 in
set_option maxRecDepth 100000 in
theorem kfX3_unsold (l : Launch) (dC : Nat → ClassId) (dI : Nat → Nat → Nat) (a0 : Nat) (a1 : Nat) (up : Nat → Nat) (kp : Nat → ClassId) (un : Nat → Nat) (kn : Nat → ClassId) (p_p : TX6_p) (n_n : TX4_n) (sz : Nat) (out : Int32) (h : f_X3_unsold p_p n_n = some out) : Met l yX3_unsold vfX3_unsold ({ frames := 0, cells := 0, slots := 0, locals := 0 }) (PC (dC, dI) [.ref a0, .ref a1] sz (bX6 a0 up kp p_p (bX4 a1 un kn n_n [])) (tX6 kp (tX4 kn ([])))) (va_Qi (S := Unit) (fun (r : Int32) _ => r = out) (fun _ t => BC (dC, dI) (va_A (bX6 a0 up kp p_p (bX4 a1 un kn n_n [])) sz) (bX6 a0 up kp p_p (bX4 a1 un kn n_n [])) [] t) (va_A (bX6 a0 up kp p_p (bX4 a1 un kn n_n [])) sz)) 0 0 (va_A (bX6 a0 up kp p_p (bX4 a1 un kn n_n [])) sz) := by
  refine Met.ofW (cc := cX3_unsold) (maxL := 4) (ret := (some .int)) (by decide) rfl ?_
  intro p e s m args below meth c s₁ B0 hml hv
  obtain ⟨rfl, hsz, hP, hK, hD0, hN⟩ := hv
  have hx := B0.exec
  have hb := B0.bytes
  have hr := B0.returns
  have hts := atoms_spec (ws := vfX3_unsold) B0.pre
  have hown : s.vm.findClass RX3 = some m.cls := findClass_of_methodNamed B0.named
  have hlocks := B0.notSynchronized
  subst hsz
  have hD := hD0.self (sz := s.heap.size)
  generalize hAe : va_A (bX6 a0 up kp p_p (bX4 a1 un kn n_n [])) s.heap.size = A at hD ⊢
  have hA : ∀ q : Nat, s.heap.size ≤ q → A q := fun q h => by rw [← hAe]; exact Or.inr h
  have hS : va_S A s.heap s.heap [] := va_S.rf
  have hP : va_P (dC, dI) vwCl (bX6 a0 up kp p_p (bX4 a1 un kn n_n [])) s.heap := hP
  have hl := lv_entry ([.ref a0, .ref a1]) (n := 4) (Nat.le_of_ble_eq_true rfl)
  rw [lg_entry_eq]
  generalize (lg_sl ([.ref a0, .ref a1]) ++ List.replicate (4 - (lg_sl ([.ref a0, .ref a1])).length) Slot.unset).toArray = ls at hl ⊢
  have hl : lv_has ls 4 [(0, .ref a0), (1, .ref a1)] := hl
  refine W_q (fun QQ hQQ => ?_)
  rw [f_X3_unsold] at h
  refine lv_iconst (v := 0) hx hb dX3_unsold_0 (by decide) ?_
  refine lv_istore_n (lv' := [(2, .int 0), (0, .ref a0), (1, .ref a1)]) hx hb dX3_unsold_1 rfl hl (by decide) rfl (fun ls hl => ?_)
  refine lv_iconst (v := 0) hx hb dX3_unsold_2 (by decide) ?_
  refine lv_istore_n (lv' := [(3, .int 0), (2, .int 0), (0, .ref a0), (1, .ref a1)]) hx hb dX3_unsold_3 rfl hl (by decide) rfl (fun ls hl => ?_)
  have L4 : ∀ (n4 : Nat) (v4_l3 : Int32) (v4_l2 : Int32) (H : Heap) (locs : List Loc) (ls : Array Slot), f_X3_unsold_L4 p_p n_n n4 v4_l3 v4_l2 = some out → va_P (dC, dI) vwCl (bX6 a0 up kp p_p (bX4 a1 un kn n_n [])) H → va_D A (bX6 a0 up kp p_p (bX4 a1 un kn n_n [])) → va_S A s.heap H locs → lv_has ls 4 [(3, .int v4_l3), (2, .int v4_l2), (0, .ref a0), (1, .ref a1)] → W p l e (headSpec vfX3_unsold { frames := 0, cells := 0, slots := 0, locals := 0 }).room s m ([.ref a0, .ref a1]).toArray below meth c H locs 0 0 QQ (F0 m 4 ls []) := by
    intro n4
    induction n4 with
    | zero =>
      intro v4_l3 v4_l2 H locs ls h  _ _ _ _
      rw [f_X3_unsold_L4] at h
      cases h
    | succ n4 ih4 =>
      intro v4_l3 v4_l2 H locs ls h  hP hD hS hl
      rw [f_X3_unsold_L4] at h
      refine lv_iload_n hx hb dX3_unsold_4 rfl (lv_at hl 0 rfl) ?_
      refine lv_aload_n hx hb dX3_unsold_5 rfl (lv_at hl 2 rfl) ?_
      refine va_get (D := (dC, dI)) (ci := 4) (v := .int p_p.2.2.2.2.2.2.1) (C := RX6) (T := TX6) (N := 18) hx hb hts ifX3_unsold_X6 hown hK hP 0 rfl rfl 6 (by decide) (hts (.fieldLink RX3 21 "HookPier$Plan" "answers" "I") (List.mem_of_getElem? (i := 1) rfl)) (fun _ h9 => h9) rfl dX3_unsold_6 ?_
      refine lv_icmp_ge (tgt := 34) hx hb dX3_unsold_9 (by decide) (fun c9 => ?_) (fun c9 => ?_)
      · have h := (if_pos c9).symm.trans h
        refine lv_iload_n hx hb dX3_unsold_34 rfl (lv_at hl 1 rfl) ?_
        obtain rfl := Option.some.inj h
        have hP9 := hP.sub (ws' := (bX6 a0 up kp p_p (bX4 a1 un kn n_n []))) [0, 1, 2, 3, 4, 5, 6, 7, 8, 9, 10, 11, 12, 13, 14] rfl
        have hD9 := hD.sub (ws' := (bX6 a0 up kp p_p (bX4 a1 un kn n_n []))) [0, 1, 2, 3, 4, 5, 6, 7, 8, 9, 10, 11, 12, 13, 14] (by decide) rfl
        have hK9 := hK.sub (tys' := []) [] rfl
        rw [hQQ]
        exact W.iret (v := v4_l2) hx hb hr (fun t ht hW => ⟨⟨v4_l2, (), rfl, rfl, by rw [ht]; exact hP9, va_K.moved hW.alike hK9, hD9⟩, hS.F ht⟩) hS.2.2 dX3_unsold_35
      · have h := (if_neg c9).symm.trans h
        refine lv_aload_n hx hb dX3_unsold_12 rfl (lv_at hl 3 rfl) ?_
        refine va_get (D := (dC, dI)) (ci := 3) (v := .ref (un 0)) (C := RX4) (T := TX4) (N := 7) hx hb hts ifX3_unsold_X4 hown hK hP 10 rfl rfl 3 (by decide) (hts (.fieldLink RX3 25 "HookPier$Now" "stage" "[I") (List.mem_of_getElem? (i := 2) rfl)) (fun _ h9 => h9) rfl dX3_unsold_13 ?_
        refine lv_iload_n hx hb dX3_unsold_16 rfl (lv_at hl 0 rfl) ?_
        obtain ⟨hg17, h⟩ := gA_of h
        refine va_iald hx hb hK hP 11 9 rfl rfl hg17 dX3_unsold_17 ?_
        refine lv_iconst (v := 1) hx hb dX3_unsold_18 (by decide) ?_
        have J28 : ∀ (v28_l2 : Int32) (H : Heap) (locs : List Loc) (ls : Array Slot), f_X3_unsold_J28 (f_X3_unsold_L4 p_p n_n n4) v4_l3 v28_l2 = some out → va_P (dC, dI) vwCl (bX6 a0 up kp p_p (bX4 a1 un kn n_n [])) H → va_D A (bX6 a0 up kp p_p (bX4 a1 un kn n_n [])) → va_S A s.heap H locs → lv_has ls 4 [(3, .int v4_l3), (2, .int v28_l2), (0, .ref a0), (1, .ref a1)] → W p l e (headSpec vfX3_unsold { frames := 0, cells := 0, slots := 0, locals := 0 }).room s m ([.ref a0, .ref a1]).toArray below meth c H locs 0 0 QQ (F0 m 28 ls []) := by
          intro v28_l2 H locs ls h  hP hD hS hl
          rw [f_X3_unsold_J28] at h
          refine lv_iinc (v := (v4_l3 + (1 : Int32))) (lv' := [(3, .int (v4_l3 + (1 : Int32))), (2, .int v28_l2), (0, .ref a0), (1, .ref a1)]) hx hb dX3_unsold_28 hl (k := 0) rfl rfl (by decide) rfl (fun ls hl => ?_)
          refine lv_goto (tgt := 4) hx hb dX3_unsold_31 (by decide) ?_
          exact ih4 (v4_l3 + (1 : Int32)) v28_l2 H _ ls h  hP hD hS (lv_sub hl [0, 1, 2, 3] rfl)
        refine lv_icmp_ne (tgt := 28) hx hb dX3_unsold_19 (by decide) (fun c19 => ?_) (fun c19 => ?_)
        · have h := (if_neg c19).symm.trans h
          exact J28 v4_l2 H _ ls h  hP hD hS (lv_sub hl [0, 1, 2, 3] rfl)
        · have h := (if_pos c19).symm.trans h
          refine lv_iload_n hx hb dX3_unsold_22 rfl (lv_at hl 1 rfl) ?_
          refine lv_iconst (v := 1) hx hb dX3_unsold_23 (by decide) ?_
          refine lv_iload_n hx hb dX3_unsold_24 rfl (lv_at hl 0 rfl) ?_
          refine lv_ishl hx hb dX3_unsold_25 ?_
          refine lv_ior hx hb dX3_unsold_26 ?_
          refine lv_istore_n (lv' := [(2, .int (v4_l2 ||| ((1 : Int32) <<< (v4_l3 &&& 31)))), (3, .int v4_l3), (0, .ref a0), (1, .ref a1)]) hx hb dX3_unsold_27 rfl hl (by decide) rfl (fun ls hl => ?_)
          exact J28 (v4_l2 ||| ((1 : Int32) <<< (v4_l3 &&& 31))) H _ ls h  hP hD hS (lv_sub hl [1, 0, 2, 3] rfl)
  exact L4 FU (0 : Int32) (0 : Int32) s.heap _ ls h  hP hD hS (lv_sub hl [0, 1, 2, 3] rfl)
theorem dX3_worthTogether_0 : decode cX3_worthTogether 0 = .ok (.iconst 0, 1) := by decide +kernel
theorem dX3_worthTogether_1 : decode cX3_worthTogether 1 = .ok (.istore 4, 2) := by decide +kernel
theorem dX3_worthTogether_12 : decode cX3_worthTogether 12 = .ok (.if_icmp .ge 32, 3) := by decide +kernel
theorem dX3_worthTogether_15 : decode cX3_worthTogether 15 = .ok (.iload_n 2, 1) := by decide +kernel
theorem dX3_worthTogether_16 : decode cX3_worthTogether 16 = .ok (.iload 5, 2) := by decide +kernel
theorem dX3_worthTogether_18 : decode cX3_worthTogether 18 = .ok (.ishr, 1) := by decide +kernel
theorem dX3_worthTogether_19 : decode cX3_worthTogether 19 = .ok (.iconst 1, 1) := by decide +kernel
theorem dX3_worthTogether_20 : decode cX3_worthTogether 20 = .ok (.iand, 1) := by decide +kernel
theorem dX3_worthTogether_21 : decode cX3_worthTogether 21 = .ok (.iconst 1, 1) := by decide +kernel
theorem dX3_worthTogether_22 : decode cX3_worthTogether 22 = .ok (.if_icmp .ne 16, 3) := by decide +kernel
theorem dX3_worthTogether_25 : decode cX3_worthTogether 25 = .ok (.iload 4, 2) := by decide +kernel
theorem dX3_worthTogether_27 : decode cX3_worthTogether 27 = .ok (.aload_n 0, 1) := by decide +kernel
theorem dX3_worthTogether_28 : decode cX3_worthTogether 28 = .ok (.aload_n 1, 1) := by decide +kernel
theorem dX3_worthTogether_29 : decode cX3_worthTogether 29 = .ok (.iload 5, 2) := by decide +kernel
theorem dX3_worthTogether_3 : decode cX3_worthTogether 3 = .ok (.iconst 0, 1) := by decide +kernel
theorem dX3_worthTogether_31 : decode cX3_worthTogether 31 = .ok (.iload_n 3, 1) := by decide +kernel
theorem dX3_worthTogether_32 : decode cX3_worthTogether 32 = .ok (.invokestatic 28, 3) := by decide +kernel
theorem dX3_worthTogether_35 : decode cX3_worthTogether 35 = .ok (.iadd, 1) := by decide +kernel
theorem dX3_worthTogether_36 : decode cX3_worthTogether 36 = .ok (.istore 4, 2) := by decide +kernel
theorem dX3_worthTogether_38 : decode cX3_worthTogether 38 = .ok (.iinc 5 1, 3) := by decide +kernel
theorem dX3_worthTogether_4 : decode cX3_worthTogether 4 = .ok (.istore 5, 2) := by decide +kernel
theorem dX3_worthTogether_41 : decode cX3_worthTogether 41 = .ok (.goto (-35), 3) := by decide +kernel
theorem dX3_worthTogether_44 : decode cX3_worthTogether 44 = .ok (.iload 4, 2) := by decide +kernel
theorem dX3_worthTogether_46 : decode cX3_worthTogether 46 = .ok (.ireturn, 1) := by decide +kernel
theorem dX3_worthTogether_6 : decode cX3_worthTogether 6 = .ok (.iload 5, 2) := by decide +kernel
theorem dX3_worthTogether_8 : decode cX3_worthTogether 8 = .ok (.aload_n 0, 1) := by decide +kernel
theorem dX3_worthTogether_9 : decode cX3_worthTogether 9 = .ok (.getfield 21, 3) := by decide +kernel
def vfX3_worthTogether : List Cond := List.cons (.code yX3_worthTogether cX3_worthTogether 6 (some .int)) (apW [.fieldLink RX3 21 "HookPier$Plan" "answers" "I", .methodLink RX3 28 yX3_worthOn, .static yX3_worthOn, .initialized RX3] (apW wsX60 (vfX3_worthOn)))
theorem ifX3_worthTogether_X6 : ∀ w ∈ wsX60, w ∈ vfX3_worthTogether := fun _ h => (List.mem_cons_of_mem _ (List.mem_append_right _ (List.mem_append_left _ h)))
theorem qfX3_worthTogether : Good vfX3_worthTogether := gd_cons (by decide +kernel) (gd_app (gd_dec (by decide +kernel) : Good [.fieldLink RX3 21 "HookPier$Plan" "answers" "I", .methodLink RX3 28 yX3_worthOn, .static yX3_worthOn, .initialized RX3]) (gd_app qsX6 qfX3_worthOn))
theorem gfX3_worthTogether_0 : GoodIn vfX3_worthTogether (va_wsS RX3 28 yX3_worthOn vfX3_worthOn) := goodIn_app (goodIn_r [.methodLink RX3 28 yX3_worthOn, .static yX3_worthOn, .initialized RX3] [2, 3, 4] rfl (by decide +kernel)) (goodIn_m (fun _ h => (List.mem_cons_of_mem _ (List.mem_append_right _ (List.mem_append_right _ h)))) qfX3_worthOn)
set_option maxHeartbeats 2000000 in
set_option maxRecDepth 100000 in
theorem kfX3_worthTogether (l : Launch) (dC : Nat → ClassId) (dI : Nat → Nat → Nat) (a0 : Nat) (a1 : Nat) (k2 : Int32) (k3 : Int32) (up : Nat → Nat) (kp : Nat → ClassId) (un : Nat → Nat) (kn : Nat → ClassId) (p_p : TX6_p) (n_n : TX4_n) (sz : Nat) (out : Int32) (h : f_X3_worthTogether k2 k3 p_p n_n = some out) : Met l yX3_worthTogether vfX3_worthTogether ({ frames := 3, cells := 0, slots := 0, locals := 66 }) (PC (dC, dI) [.ref a0, .ref a1, .int k2, .int k3] sz (bX6 a0 up kp p_p (bX4 a1 un kn n_n [])) (tX6 kp (tX4 kn ([])))) (va_Qi (S := Unit) (fun (r : Int32) _ => r = out) (fun _ t => BC (dC, dI) (va_A (bX6 a0 up kp p_p (bX4 a1 un kn n_n [])) sz) (bX6 a0 up kp p_p (bX4 a1 un kn n_n [])) [] t) (va_A (bX6 a0 up kp p_p (bX4 a1 un kn n_n [])) sz)) 0 0 (va_A (bX6 a0 up kp p_p (bX4 a1 un kn n_n [])) sz) := by
  refine Met.ofW (cc := cX3_worthTogether) (maxL := 6) (ret := (some .int)) (by decide) rfl ?_
  intro p e s m args below meth c s₁ B0 hml hv
  obtain ⟨rfl, hsz, hP, hK, hD0, hN⟩ := hv
  have hx := B0.exec
  have hb := B0.bytes
  have hr := B0.returns
  have hts := atoms_spec (ws := vfX3_worthTogether) B0.pre
  have hown : s.vm.findClass RX3 = some m.cls := findClass_of_methodNamed B0.named
  have hlocks := B0.notSynchronized
  subst hsz
  have hD := hD0.self (sz := s.heap.size)
  generalize hAe : va_A (bX6 a0 up kp p_p (bX4 a1 un kn n_n [])) s.heap.size = A at hD ⊢
  have hA : ∀ q : Nat, s.heap.size ≤ q → A q := fun q h => by rw [← hAe]; exact Or.inr h
  have hS : va_S A s.heap s.heap [] := va_S.rf
  have hP : va_P (dC, dI) vwCl (bX6 a0 up kp p_p (bX4 a1 un kn n_n [])) s.heap := hP
  have hl := lv_entry ([.ref a0, .ref a1, .int k2, .int k3]) (n := 6) (Nat.le_of_ble_eq_true rfl)
  rw [lg_entry_eq]
  generalize (lg_sl ([.ref a0, .ref a1, .int k2, .int k3]) ++ List.replicate (6 - (lg_sl ([.ref a0, .ref a1, .int k2, .int k3])).length) Slot.unset).toArray = ls at hl ⊢
  have hl : lv_has ls 6 [(0, .ref a0), (1, .ref a1), (2, .int k2), (3, .int k3)] := hl
  refine W_q (fun QQ hQQ => ?_)
  rw [f_X3_worthTogether] at h
  refine lv_iconst (v := 0) hx hb dX3_worthTogether_0 (by decide) ?_
  refine lv_istore (lv' := [(4, .int 0), (0, .ref a0), (1, .ref a1), (2, .int k2), (3, .int k3)]) hx hb dX3_worthTogether_1 hl (by decide) rfl (fun ls hl => ?_)
  refine lv_iconst (v := 0) hx hb dX3_worthTogether_3 (by decide) ?_
  refine lv_istore (lv' := [(5, .int 0), (4, .int 0), (0, .ref a0), (1, .ref a1), (2, .int k2), (3, .int k3)]) hx hb dX3_worthTogether_4 hl (by decide) rfl (fun ls hl => ?_)
  have L6 : ∀ (n6 : Nat) (v6_l5 : Int32) (v6_l4 : Int32) (H : Heap) (locs : List Loc) (ls : Array Slot), f_X3_worthTogether_L6 k2 k3 p_p n_n n6 v6_l5 v6_l4 = some out → va_P (dC, dI) vwCl (bX6 a0 up kp p_p (bX4 a1 un kn n_n [])) H → va_D A (bX6 a0 up kp p_p (bX4 a1 un kn n_n [])) → va_S A s.heap H locs → lv_has ls 6 [(5, .int v6_l5), (4, .int v6_l4), (0, .ref a0), (1, .ref a1), (2, .int k2), (3, .int k3)] → W p l e (headSpec vfX3_worthTogether { frames := 3, cells := 0, slots := 0, locals := 66 }).room s m ([.ref a0, .ref a1, .int k2, .int k3]).toArray below meth c H locs 0 0 QQ (F0 m 6 ls []) := by
    intro n6
    induction n6 with
    | zero =>
      intro v6_l5 v6_l4 H locs ls h  _ _ _ _
      rw [f_X3_worthTogether_L6] at h
      cases h
    | succ n6 ih6 =>
      intro v6_l5 v6_l4 H locs ls h  hP hD hS hl
      rw [f_X3_worthTogether_L6] at h
      refine lv_iload hx hb dX3_worthTogether_6 (lv_at hl 0 rfl) ?_
      refine lv_aload_n hx hb dX3_worthTogether_8 rfl (lv_at hl 2 rfl) ?_
      refine va_get (D := (dC, dI)) (ci := 4) (v := .int p_p.2.2.2.2.2.2.1) (C := RX6) (T := TX6) (N := 18) hx hb hts ifX3_worthTogether_X6 hown hK hP 0 rfl rfl 6 (by decide) (hts (.fieldLink RX3 21 "HookPier$Plan" "answers" "I") (List.mem_of_getElem? (i := 1) rfl)) (fun _ h9 => h9) rfl dX3_worthTogether_9 ?_
      refine lv_icmp_ge (tgt := 44) hx hb dX3_worthTogether_12 (by decide) (fun c12 => ?_) (fun c12 => ?_)
      · have h := (if_pos c12).symm.trans h
        refine lv_iload hx hb dX3_worthTogether_44 (lv_at hl 1 rfl) ?_
        obtain rfl := Option.some.inj h
        have hP9 := hP.sub (ws' := (bX6 a0 up kp p_p (bX4 a1 un kn n_n []))) [0, 1, 2, 3, 4, 5, 6, 7, 8, 9, 10, 11, 12, 13, 14] rfl
        have hD9 := hD.sub (ws' := (bX6 a0 up kp p_p (bX4 a1 un kn n_n []))) [0, 1, 2, 3, 4, 5, 6, 7, 8, 9, 10, 11, 12, 13, 14] (by decide) rfl
        have hK9 := hK.sub (tys' := []) [] rfl
        rw [hQQ]
        exact W.iret (v := v6_l4) hx hb hr (fun t ht hW => ⟨⟨v6_l4, (), rfl, rfl, by rw [ht]; exact hP9, va_K.moved hW.alike hK9, hD9⟩, hS.F ht⟩) hS.2.2 dX3_worthTogether_46
      · have h := (if_neg c12).symm.trans h
        refine lv_iload_n hx hb dX3_worthTogether_15 rfl (lv_at hl 4 rfl) ?_
        refine lv_iload hx hb dX3_worthTogether_16 (lv_at hl 0 rfl) ?_
        refine lv_ishr hx hb dX3_worthTogether_18 ?_
        refine lv_iconst (v := 1) hx hb dX3_worthTogether_19 (by decide) ?_
        refine lv_iand hx hb dX3_worthTogether_20 ?_
        refine lv_iconst (v := 1) hx hb dX3_worthTogether_21 (by decide) ?_
        have J38 : ∀ (v38_l4 : Int32) (H : Heap) (locs : List Loc) (ls : Array Slot), f_X3_worthTogether_J38 (f_X3_worthTogether_L6 k2 k3 p_p n_n n6) v6_l5 v38_l4 = some out → va_P (dC, dI) vwCl (bX6 a0 up kp p_p (bX4 a1 un kn n_n [])) H → va_D A (bX6 a0 up kp p_p (bX4 a1 un kn n_n [])) → va_S A s.heap H locs → lv_has ls 6 [(5, .int v6_l5), (4, .int v38_l4), (0, .ref a0), (1, .ref a1), (2, .int k2), (3, .int k3)] → W p l e (headSpec vfX3_worthTogether { frames := 3, cells := 0, slots := 0, locals := 66 }).room s m ([.ref a0, .ref a1, .int k2, .int k3]).toArray below meth c H locs 0 0 QQ (F0 m 38 ls []) := by
          intro v38_l4 H locs ls h  hP hD hS hl
          rw [f_X3_worthTogether_J38] at h
          refine lv_iinc (v := (v6_l5 + (1 : Int32))) (lv' := [(5, .int (v6_l5 + (1 : Int32))), (4, .int v38_l4), (0, .ref a0), (1, .ref a1), (2, .int k2), (3, .int k3)]) hx hb dX3_worthTogether_38 hl (k := 0) rfl rfl (by decide) rfl (fun ls hl => ?_)
          refine lv_goto (tgt := 6) hx hb dX3_worthTogether_41 (by decide) ?_
          exact ih6 (v6_l5 + (1 : Int32)) v38_l4 H _ ls h  hP hD hS (lv_sub hl [0, 1, 2, 3, 4, 5] rfl)
        refine lv_icmp_ne (tgt := 38) hx hb dX3_worthTogether_22 (by decide) (fun c22 => ?_) (fun c22 => ?_)
        · have h := (if_neg c22).symm.trans h
          exact J38 v6_l4 H _ ls h  hP hD hS (lv_sub hl [0, 1, 2, 3, 4, 5] rfl)
        · have h := (if_pos c22).symm.trans h
          refine lv_iload hx hb dX3_worthTogether_25 (lv_at hl 1 rfl) ?_
          refine lv_aload_n hx hb dX3_worthTogether_27 rfl (lv_at hl 2 rfl) ?_
          refine lv_aload_n hx hb dX3_worthTogether_28 rfl (lv_at hl 3 rfl) ?_
          refine lv_iload hx hb dX3_worthTogether_29 (lv_at hl 0 rfl) ?_
          refine lv_iload_n hx hb dX3_worthTogether_31 rfl (lv_at hl 5 rfl) ?_
          obtain ⟨o32, eo32, h⟩ := bd_of h
          refine cl_i (wc := (bX6 a0 up kp p_p (bX4 a1 un kn n_n []))) (wr := []) (va_runS (As := [.ref a0, .ref a1, .int v6_l5, .int k3]) (rest := [.int v6_l4]) ⟨hx, hb, hml, hown, hts⟩ (kfX3_worthOn l dC dI a0 a1 v6_l5 k3 up kp un kn p_p n_n H.size o32 eo32) (va_cwS 4 hts gfX3_worthTogether_0 rfl rfl rfl (by decide +kernel) ⟨(Nat.le_of_ble_eq_true rfl), (Nat.le_of_ble_eq_true rfl)⟩) (PS (hP.sub (ws' := (bX6 a0 up kp p_p (bX4 a1 un kn n_n []))) [0, 1, 2, 3, 4, 5, 6, 7, 8, 9, 10, 11, 12, 13, 14] rfl) (hK.sub (tys' := (tX6 kp (tX4 kn ([])))) [0, 1, 2, 3, 4, 5, 6, 7, 8, 9, 10, 11, 12] rfl) (hD.sub (ws' := (bX6 a0 up kp p_p (bX4 a1 un kn n_n []))) [0, 1, 2, 3, 4, 5, 6, 7, 8, 9, 10, 11, 12, 13, 14] (by decide) rfl) hN) rfl rfl hl.1 rfl (lv_room (Nat.le_of_ble_eq_true rfl)) dX3_worthTogether_32 ⟨(Nat.le_of_ble_eq_true rfl), (Nat.le_of_ble_eq_true rfl)⟩) hP hD hK hS hA [0, 1, 2, 3, 4, 5, 6, 7, 8, 9, 10, 11, 12, 13, 14] [] rfl rfl (by decide) (by decide) (fun r32 _ H locs hw hP hD _ hS => ?_)
          obtain rfl := hw.symm
          have hP : va_P (dC, dI) vwCl (bX6 a0 up kp p_p (bX4 a1 un kn n_n [])) H := hP
          have hD : va_D A (bX6 a0 up kp p_p (bX4 a1 un kn n_n [])) := hD
          refine lv_iadd hx hb dX3_worthTogether_35 ?_
          refine lv_istore (lv' := [(4, .int (v6_l4 + o32)), (5, .int v6_l5), (0, .ref a0), (1, .ref a1), (2, .int k2), (3, .int k3)]) hx hb dX3_worthTogether_36 hl (by decide) rfl (fun ls hl => ?_)
          exact J38 (v6_l4 + o32) H _ ls h  hP hD hS (lv_sub hl [1, 0, 2, 3, 4, 5] rfl)
  exact L6 FU (0 : Int32) (0 : Int32) s.heap _ ls h  hP hD hS (lv_sub hl [0, 1, 2, 3, 4, 5] rfl)
theorem dX3_bestLoad_0 : decode cX3_bestLoad 0 = .ok (.aload_n 0, 1) := by decide +kernel
theorem dX3_bestLoad_1 : decode cX3_bestLoad 1 = .ok (.aload_n 1, 1) := by decide +kernel
theorem dX3_bestLoad_10 : decode cX3_bestLoad 10 = .ok (.istore 5, 2) := by decide +kernel
theorem dX3_bestLoad_102 : decode cX3_bestLoad 102 = .ok (.goto (-87), 3) := by decide +kernel
theorem dX3_bestLoad_105 : decode cX3_bestLoad 105 = .ok (.iload 4, 2) := by decide +kernel
theorem dX3_bestLoad_107 : decode cX3_bestLoad 107 = .ok (.ireturn, 1) := by decide +kernel
theorem dX3_bestLoad_12 : decode cX3_bestLoad 12 = .ok (.iconst 1, 1) := by decide +kernel
theorem dX3_bestLoad_13 : decode cX3_bestLoad 13 = .ok (.istore 6, 2) := by decide +kernel
theorem dX3_bestLoad_15 : decode cX3_bestLoad 15 = .ok (.iload 6, 2) := by decide +kernel
theorem dX3_bestLoad_17 : decode cX3_bestLoad 17 = .ok (.iload_n 3, 1) := by decide +kernel
theorem dX3_bestLoad_18 : decode cX3_bestLoad 18 = .ok (.if_icmp .gt 87, 3) := by decide +kernel
theorem dX3_bestLoad_2 : decode cX3_bestLoad 2 = .ok (.invokestatic 34, 3) := by decide +kernel
theorem dX3_bestLoad_21 : decode cX3_bestLoad 21 = .ok (.iload 6, 2) := by decide +kernel
theorem dX3_bestLoad_23 : decode cX3_bestLoad 23 = .ok (.iload_n 3, 1) := by decide +kernel
theorem dX3_bestLoad_24 : decode cX3_bestLoad 24 = .ok (.iconst (-1), 1) := by decide +kernel
theorem dX3_bestLoad_25 : decode cX3_bestLoad 25 = .ok (.ixor, 1) := by decide +kernel
theorem dX3_bestLoad_26 : decode cX3_bestLoad 26 = .ok (.iand, 1) := by decide +kernel
theorem dX3_bestLoad_27 : decode cX3_bestLoad 27 = .ok (.ifCond .ne 72, 3) := by decide +kernel
theorem dX3_bestLoad_30 : decode cX3_bestLoad 30 = .ok (.iload 6, 2) := by decide +kernel
theorem dX3_bestLoad_32 : decode cX3_bestLoad 32 = .ok (.invokestatic 38, 3) := by decide +kernel
theorem dX3_bestLoad_35 : decode cX3_bestLoad 35 = .ok (.iload_n 2, 1) := by decide +kernel
theorem dX3_bestLoad_36 : decode cX3_bestLoad 36 = .ok (.if_icmp .gt 63, 3) := by decide +kernel
theorem dX3_bestLoad_39 : decode cX3_bestLoad 39 = .ok (.aload_n 0, 1) := by decide +kernel
theorem dX3_bestLoad_40 : decode cX3_bestLoad 40 = .ok (.aload_n 1, 1) := by decide +kernel
theorem dX3_bestLoad_41 : decode cX3_bestLoad 41 = .ok (.iload 6, 2) := by decide +kernel
theorem dX3_bestLoad_43 : decode cX3_bestLoad 43 = .ok (.aload_n 1, 1) := by decide +kernel
theorem dX3_bestLoad_44 : decode cX3_bestLoad 44 = .ok (.getfield 44, 3) := by decide +kernel
theorem dX3_bestLoad_47 : decode cX3_bestLoad 47 = .ok (.invokestatic 47, 3) := by decide +kernel
theorem dX3_bestLoad_5 : decode cX3_bestLoad 5 = .ok (.istore_n 3, 1) := by decide +kernel
theorem dX3_bestLoad_50 : decode cX3_bestLoad 50 = .ok (.istore 7, 2) := by decide +kernel
theorem dX3_bestLoad_52 : decode cX3_bestLoad 52 = .ok (.iload 6, 2) := by decide +kernel
theorem dX3_bestLoad_54 : decode cX3_bestLoad 54 = .ok (.invokestatic 38, 3) := by decide +kernel
theorem dX3_bestLoad_57 : decode cX3_bestLoad 57 = .ok (.iload 4, 2) := by decide +kernel
theorem dX3_bestLoad_59 : decode cX3_bestLoad 59 = .ok (.invokestatic 38, 3) := by decide +kernel
theorem dX3_bestLoad_6 : decode cX3_bestLoad 6 = .ok (.iconst 0, 1) := by decide +kernel
theorem dX3_bestLoad_62 : decode cX3_bestLoad 62 = .ok (.if_icmp .ge 7, 3) := by decide +kernel
theorem dX3_bestLoad_65 : decode cX3_bestLoad 65 = .ok (.iconst 1, 1) := by decide +kernel
theorem dX3_bestLoad_66 : decode cX3_bestLoad 66 = .ok (.goto 4, 3) := by decide +kernel
theorem dX3_bestLoad_69 : decode cX3_bestLoad 69 = .ok (.iconst 0, 1) := by decide +kernel
theorem dX3_bestLoad_7 : decode cX3_bestLoad 7 = .ok (.istore 4, 2) := by decide +kernel
theorem dX3_bestLoad_70 : decode cX3_bestLoad 70 = .ok (.istore 8, 2) := by decide +kernel
theorem dX3_bestLoad_72 : decode cX3_bestLoad 72 = .ok (.iload 7, 2) := by decide +kernel
theorem dX3_bestLoad_74 : decode cX3_bestLoad 74 = .ok (.iload 5, 2) := by decide +kernel
theorem dX3_bestLoad_76 : decode cX3_bestLoad 76 = .ok (.if_icmp .gt 15, 3) := by decide +kernel
theorem dX3_bestLoad_79 : decode cX3_bestLoad 79 = .ok (.iload 7, 2) := by decide +kernel
theorem dX3_bestLoad_81 : decode cX3_bestLoad 81 = .ok (.iload 5, 2) := by decide +kernel
theorem dX3_bestLoad_83 : decode cX3_bestLoad 83 = .ok (.if_icmp .ne 16, 3) := by decide +kernel
theorem dX3_bestLoad_86 : decode cX3_bestLoad 86 = .ok (.iload 8, 2) := by decide +kernel
theorem dX3_bestLoad_88 : decode cX3_bestLoad 88 = .ok (.ifCond .eq 11, 3) := by decide +kernel
theorem dX3_bestLoad_9 : decode cX3_bestLoad 9 = .ok (.iconst 0, 1) := by decide +kernel
theorem dX3_bestLoad_91 : decode cX3_bestLoad 91 = .ok (.iload 7, 2) := by decide +kernel
theorem dX3_bestLoad_93 : decode cX3_bestLoad 93 = .ok (.istore 5, 2) := by decide +kernel
theorem dX3_bestLoad_95 : decode cX3_bestLoad 95 = .ok (.iload 6, 2) := by decide +kernel
theorem dX3_bestLoad_97 : decode cX3_bestLoad 97 = .ok (.istore 4, 2) := by decide +kernel
theorem dX3_bestLoad_99 : decode cX3_bestLoad 99 = .ok (.iinc 6 1, 3) := by decide +kernel
def vfX3_bestLoad : List Cond := List.cons (.code yX3_bestLoad cX3_bestLoad 9 (some .int)) (apW [.methodLink RX3 34 yX3_unsold, .static yX3_unsold, .initialized RX3, .methodLink RX3 38 yJ6_bitCount_0f7a4, .static yJ6_bitCount_0f7a4, .initialized RJ6, .fieldLink RX3 44 "HookPier$Now" "today" "I", .methodLink RX3 47 yX3_worthTogether, .static yX3_worthTogether] (apW wsX40 (apW vfX3_unsold (apW vfJ6_bitCount_0f7a4 (vfX3_worthTogether)))))
theorem ifX3_bestLoad_X4 : ∀ w ∈ wsX40, w ∈ vfX3_bestLoad := fun _ h => (List.mem_cons_of_mem _ (List.mem_append_right _ (List.mem_append_left _ h)))
theorem qfX3_bestLoad : Good vfX3_bestLoad := gd_cons (by decide +kernel) (gd_app (gd_dec (by decide +kernel) : Good [.methodLink RX3 34 yX3_unsold, .static yX3_unsold, .initialized RX3, .methodLink RX3 38 yJ6_bitCount_0f7a4, .static yJ6_bitCount_0f7a4, .initialized RJ6, .fieldLink RX3 44 "HookPier$Now" "today" "I", .methodLink RX3 47 yX3_worthTogether, .static yX3_worthTogether]) (gd_app qsX4 (gd_app qfX3_unsold (gd_app qfJ6_bitCount_0f7a4 qfX3_worthTogether))))
theorem gfX3_bestLoad_0 : GoodIn vfX3_bestLoad (va_wsS RX3 34 yX3_unsold vfX3_unsold) := goodIn_app (goodIn_r [.methodLink RX3 34 yX3_unsold, .static yX3_unsold, .initialized RX3] [1, 2, 3] rfl (by decide +kernel)) (goodIn_m (fun _ h => (List.mem_cons_of_mem _ (List.mem_append_right _ (List.mem_append_right _ (List.mem_append_left _ h))))) qfX3_unsold)
theorem gfX3_bestLoad_1 : GoodIn vfX3_bestLoad (va_wsS RX3 38 yJ6_bitCount_0f7a4 vfJ6_bitCount_0f7a4) := goodIn_app (goodIn_r [.methodLink RX3 38 yJ6_bitCount_0f7a4, .static yJ6_bitCount_0f7a4, .initialized RJ6] [4, 5, 6] rfl (by decide +kernel)) (goodIn_m (fun _ h => (List.mem_cons_of_mem _ (List.mem_append_right _ (List.mem_append_right _ (List.mem_append_right _ (List.mem_append_left _ h)))))) qfJ6_bitCount_0f7a4)
theorem gfX3_bestLoad_2 : GoodIn vfX3_bestLoad (va_wsS RX3 47 yX3_worthTogether vfX3_worthTogether) := goodIn_app (goodIn_r [.methodLink RX3 47 yX3_worthTogether, .static yX3_worthTogether, .initialized RX3] [8, 9, 3] rfl (by decide +kernel)) (goodIn_m (fun _ h => (List.mem_cons_of_mem _ (List.mem_append_right _ (List.mem_append_right _ (List.mem_append_right _ (List.mem_append_right _ h)))))) qfX3_worthTogether)
set_option maxHeartbeats 2000000 in
set_option maxRecDepth 100000 in
theorem kfX3_bestLoad (l : Launch) (dC : Nat → ClassId) (dI : Nat → Nat → Nat) (a0 : Nat) (a1 : Nat) (k2 : Int32) (up : Nat → Nat) (kp : Nat → ClassId) (un : Nat → Nat) (kn : Nat → ClassId) (p_p : TX6_p) (n_n : TX4_n) (sz : Nat) (out : Int32) (h : f_X3_bestLoad k2 p_p n_n = some out) : Met l yX3_bestLoad vfX3_bestLoad ({ frames := 4, cells := 0, slots := 0, locals := 91 }) (PC (dC, dI) [.ref a0, .ref a1, .int k2] sz (bX6 a0 up kp p_p (bX4 a1 un kn n_n [])) (tX6 kp (tX4 kn ([])))) (va_Qi (S := Unit) (fun (r : Int32) _ => r = out) (fun _ t => BC (dC, dI) (va_A (bX6 a0 up kp p_p (bX4 a1 un kn n_n [])) sz) (bX6 a0 up kp p_p (bX4 a1 un kn n_n [])) [] t) (va_A (bX6 a0 up kp p_p (bX4 a1 un kn n_n [])) sz)) 0 0 (va_A (bX6 a0 up kp p_p (bX4 a1 un kn n_n [])) sz) := by
  refine Met.ofW (cc := cX3_bestLoad) (maxL := 9) (ret := (some .int)) (by decide) rfl ?_
  intro p e s m args below meth c s₁ B0 hml hv
  obtain ⟨rfl, hsz, hP, hK, hD0, hN⟩ := hv
  have hx := B0.exec
  have hb := B0.bytes
  have hr := B0.returns
  have hts := atoms_spec (ws := vfX3_bestLoad) B0.pre
  have hown : s.vm.findClass RX3 = some m.cls := findClass_of_methodNamed B0.named
  have hlocks := B0.notSynchronized
  subst hsz
  have hD := hD0.self (sz := s.heap.size)
  generalize hAe : va_A (bX6 a0 up kp p_p (bX4 a1 un kn n_n [])) s.heap.size = A at hD ⊢
  have hA : ∀ q : Nat, s.heap.size ≤ q → A q := fun q h => by rw [← hAe]; exact Or.inr h
  have hS : va_S A s.heap s.heap [] := va_S.rf
  have hP : va_P (dC, dI) vwCl (bX6 a0 up kp p_p (bX4 a1 un kn n_n [])) s.heap := hP
  have hl := lv_entry ([.ref a0, .ref a1, .int k2]) (n := 9) (Nat.le_of_ble_eq_true rfl)
  rw [lg_entry_eq]
  generalize (lg_sl ([.ref a0, .ref a1, .int k2]) ++ List.replicate (9 - (lg_sl ([.ref a0, .ref a1, .int k2])).length) Slot.unset).toArray = ls at hl ⊢
  have hl : lv_has ls 9 [(0, .ref a0), (1, .ref a1), (2, .int k2)] := hl
  refine W_q (fun QQ hQQ => ?_)
  rw [f_X3_bestLoad] at h
  refine lv_aload_n hx hb dX3_bestLoad_0 rfl (lv_at hl 0 rfl) ?_
  refine lv_aload_n hx hb dX3_bestLoad_1 rfl (lv_at hl 1 rfl) ?_
  obtain ⟨o2, eo2, h⟩ := bd_of h
  refine cl_i (wc := (bX6 a0 up kp p_p (bX4 a1 un kn n_n []))) (wr := []) (va_runS (As := [.ref a0, .ref a1]) (rest := []) ⟨hx, hb, hml, hown, hts⟩ (kfX3_unsold l dC dI a0 a1 up kp un kn p_p n_n s.heap.size o2 eo2) (va_cwS 2 hts gfX3_bestLoad_0 rfl rfl rfl (by decide +kernel) ⟨(Nat.le_of_ble_eq_true rfl), (Nat.le_of_ble_eq_true rfl)⟩) (PS (hP.sub (ws' := (bX6 a0 up kp p_p (bX4 a1 un kn n_n []))) [0, 1, 2, 3, 4, 5, 6, 7, 8, 9, 10, 11, 12, 13, 14] rfl) (hK.sub (tys' := (tX6 kp (tX4 kn ([])))) [0, 1, 2, 3, 4, 5, 6, 7, 8, 9, 10, 11, 12] rfl) (hD.sub (ws' := (bX6 a0 up kp p_p (bX4 a1 un kn n_n []))) [0, 1, 2, 3, 4, 5, 6, 7, 8, 9, 10, 11, 12, 13, 14] (by decide) rfl) hN) rfl rfl hl.1 rfl (lv_room (Nat.le_of_ble_eq_true rfl)) dX3_bestLoad_2 ⟨(Nat.le_of_ble_eq_true rfl), (Nat.le_of_ble_eq_true rfl)⟩) hP hD hK hS hA [0, 1, 2, 3, 4, 5, 6, 7, 8, 9, 10, 11, 12, 13, 14] [] rfl rfl (by decide) (by decide) (fun r2 _ H locs hw hP hD _ hS => ?_)
  obtain rfl := hw.symm
  have hP : va_P (dC, dI) vwCl (bX6 a0 up kp p_p (bX4 a1 un kn n_n [])) H := hP
  have hD : va_D A (bX6 a0 up kp p_p (bX4 a1 un kn n_n [])) := hD
  refine lv_istore_n (lv' := [(3, .int o2), (0, .ref a0), (1, .ref a1), (2, .int k2)]) hx hb dX3_bestLoad_5 rfl hl (by decide) rfl (fun ls hl => ?_)
  refine lv_iconst (v := 0) hx hb dX3_bestLoad_6 (by decide) ?_
  refine lv_istore (lv' := [(4, .int 0), (3, .int o2), (0, .ref a0), (1, .ref a1), (2, .int k2)]) hx hb dX3_bestLoad_7 hl (by decide) rfl (fun ls hl => ?_)
  refine lv_iconst (v := 0) hx hb dX3_bestLoad_9 (by decide) ?_
  refine lv_istore (lv' := [(5, .int 0), (4, .int 0), (3, .int o2), (0, .ref a0), (1, .ref a1), (2, .int k2)]) hx hb dX3_bestLoad_10 hl (by decide) rfl (fun ls hl => ?_)
  refine lv_iconst (v := 1) hx hb dX3_bestLoad_12 (by decide) ?_
  refine lv_istore (lv' := [(6, .int 1), (5, .int 0), (4, .int 0), (3, .int o2), (0, .ref a0), (1, .ref a1), (2, .int k2)]) hx hb dX3_bestLoad_13 hl (by decide) rfl (fun ls hl => ?_)
  have L15 : ∀ (n15 : Nat) (v15_l6 : Int32) (v15_l5 : Int32) (v15_l4 : Int32) (H : Heap) (locs : List Loc) (ls : Array Slot), f_X3_bestLoad_L15 k2 p_p n_n o2 n15 v15_l6 v15_l5 v15_l4 = some out → va_P (dC, dI) vwCl (bX6 a0 up kp p_p (bX4 a1 un kn n_n [])) H → va_D A (bX6 a0 up kp p_p (bX4 a1 un kn n_n [])) → va_S A s.heap H locs → lv_has ls 9 [(6, .int v15_l6), (5, .int v15_l5), (4, .int v15_l4), (3, .int o2), (0, .ref a0), (1, .ref a1), (2, .int k2)] → W p l e (headSpec vfX3_bestLoad { frames := 4, cells := 0, slots := 0, locals := 91 }).room s m ([.ref a0, .ref a1, .int k2]).toArray below meth c H locs 0 0 QQ (F0 m 15 ls []) := by
    intro n15
    induction n15 with
    | zero =>
      intro v15_l6 v15_l5 v15_l4 H locs ls h  _ _ _ _
      rw [f_X3_bestLoad_L15] at h
      cases h
    | succ n15 ih15 =>
      intro v15_l6 v15_l5 v15_l4 H locs ls h  hP hD hS hl
      rw [f_X3_bestLoad_L15] at h
      refine lv_iload hx hb dX3_bestLoad_15 (lv_at hl 0 rfl) ?_
      refine lv_iload_n hx hb dX3_bestLoad_17 rfl (lv_at hl 3 rfl) ?_
      refine lv_icmp_gt (tgt := 105) hx hb dX3_bestLoad_18 (by decide) (fun c18 => ?_) (fun c18 => ?_)
      · have h := (if_pos c18).symm.trans h
        refine lv_iload hx hb dX3_bestLoad_105 (lv_at hl 2 rfl) ?_
        obtain rfl := Option.some.inj h
        have hP9 := hP.sub (ws' := (bX6 a0 up kp p_p (bX4 a1 un kn n_n []))) [0, 1, 2, 3, 4, 5, 6, 7, 8, 9, 10, 11, 12, 13, 14] rfl
        have hD9 := hD.sub (ws' := (bX6 a0 up kp p_p (bX4 a1 un kn n_n []))) [0, 1, 2, 3, 4, 5, 6, 7, 8, 9, 10, 11, 12, 13, 14] (by decide) rfl
        have hK9 := hK.sub (tys' := []) [] rfl
        rw [hQQ]
        exact W.iret (v := v15_l4) hx hb hr (fun t ht hW => ⟨⟨v15_l4, (), rfl, rfl, by rw [ht]; exact hP9, va_K.moved hW.alike hK9, hD9⟩, hS.F ht⟩) hS.2.2 dX3_bestLoad_107
      · have h := (if_neg c18).symm.trans h
        refine lv_iload hx hb dX3_bestLoad_21 (lv_at hl 0 rfl) ?_
        refine lv_iload_n hx hb dX3_bestLoad_23 rfl (lv_at hl 3 rfl) ?_
        refine lv_iconst (v := (-1)) hx hb dX3_bestLoad_24 (by decide) ?_
        refine lv_ixor hx hb dX3_bestLoad_25 ?_
        refine lv_iand hx hb dX3_bestLoad_26 ?_
        have J99 : ∀ (v99_l5 : Int32) (v99_l4 : Int32) (H : Heap) (locs : List Loc) (ls : Array Slot), f_X3_bestLoad_J99 (f_X3_bestLoad_L15 k2 p_p n_n o2 n15) v15_l6 v99_l5 v99_l4 = some out → va_P (dC, dI) vwCl (bX6 a0 up kp p_p (bX4 a1 un kn n_n [])) H → va_D A (bX6 a0 up kp p_p (bX4 a1 un kn n_n [])) → va_S A s.heap H locs → lv_has ls 9 [(6, .int v15_l6), (5, .int v99_l5), (4, .int v99_l4), (3, .int o2), (0, .ref a0), (1, .ref a1), (2, .int k2)] → W p l e (headSpec vfX3_bestLoad { frames := 4, cells := 0, slots := 0, locals := 91 }).room s m ([.ref a0, .ref a1, .int k2]).toArray below meth c H locs 0 0 QQ (F0 m 99 ls []) := by
          intro v99_l5 v99_l4 H locs ls h  hP hD hS hl
          rw [f_X3_bestLoad_J99] at h
          refine lv_iinc (v := (v15_l6 + (1 : Int32))) (lv' := [(6, .int (v15_l6 + (1 : Int32))), (5, .int v99_l5), (4, .int v99_l4), (3, .int o2), (0, .ref a0), (1, .ref a1), (2, .int k2)]) hx hb dX3_bestLoad_99 hl (k := 0) rfl rfl (by decide) rfl (fun ls hl => ?_)
          refine lv_goto (tgt := 15) hx hb dX3_bestLoad_102 (by decide) ?_
          exact ih15 (v15_l6 + (1 : Int32)) v99_l5 v99_l4 H _ ls h  hP hD hS (lv_sub hl [0, 1, 2, 3, 4, 5, 6] rfl)
        refine lv_if_ne (tgt := 99) hx hb dX3_bestLoad_27 (by decide) (fun c27 => ?_) (fun c27 => ?_)
        · have h := (if_neg c27).symm.trans h
          exact J99 v15_l5 v15_l4 H _ ls h  hP hD hS (lv_sub hl [0, 1, 2, 3, 4, 5, 6] rfl)
        · have h := (if_pos c27).symm.trans h
          refine lv_iload hx hb dX3_bestLoad_30 (lv_at hl 0 rfl) ?_
          obtain ⟨o32, eo32⟩ : ∃ o, o = f_J6_bitCount_0f7a4 v15_l6 := ⟨_, rfl⟩
          have h := nm_of h o32 eo32
          refine cl_i (wc := []) (wr := (bX6 a0 up kp p_p (bX4 a1 un kn n_n []))) (va_runS (As := [.int v15_l6]) (rest := []) ⟨hx, hb, hml, hown, hts⟩ (kfJ6_bitCount_0f7a4 l dC dI v15_l6 H.size o32 eo32.symm) (va_cwS 1 hts gfX3_bestLoad_1 rfl rfl rfl (by decide +kernel) ⟨(Nat.le_of_ble_eq_true rfl), (Nat.le_of_ble_eq_true rfl)⟩) (PS (hP.sub (ws' := []) [] rfl) (hK.sub (tys' := ([])) [] rfl) (hD.sub (ws' := []) [] (by decide) rfl) hN) rfl rfl hl.1 rfl (lv_room (Nat.le_of_ble_eq_true rfl)) dX3_bestLoad_32 ⟨(Nat.le_of_ble_eq_true rfl), (Nat.le_of_ble_eq_true rfl)⟩) hP hD hK hS hA [] [0, 1, 2, 3, 4, 5, 6, 7, 8, 9, 10, 11, 12, 13, 14] rfl rfl (by decide) (by decide) (fun r32 _ H locs hw hP hD _ hS => ?_)
          obtain rfl := hw.symm
          have hP : va_P (dC, dI) vwCl (bX6 a0 up kp p_p (bX4 a1 un kn n_n [])) H := hP
          have hD : va_D A (bX6 a0 up kp p_p (bX4 a1 un kn n_n [])) := hD
          refine lv_iload_n hx hb dX3_bestLoad_35 rfl (lv_at hl 6 rfl) ?_
          refine lv_icmp_gt (tgt := 99) hx hb dX3_bestLoad_36 (by decide) (fun c36 => ?_) (fun c36 => ?_)
          · have h := (if_pos c36).symm.trans h
            exact J99 v15_l5 v15_l4 H _ ls h  hP hD hS (lv_sub hl [0, 1, 2, 3, 4, 5, 6] rfl)
          · have h := (if_neg c36).symm.trans h
            refine lv_aload_n hx hb dX3_bestLoad_39 rfl (lv_at hl 4 rfl) ?_
            refine lv_aload_n hx hb dX3_bestLoad_40 rfl (lv_at hl 5 rfl) ?_
            refine lv_iload hx hb dX3_bestLoad_41 (lv_at hl 0 rfl) ?_
            refine lv_aload_n hx hb dX3_bestLoad_43 rfl (lv_at hl 5 rfl) ?_
            refine va_get (D := (dC, dI)) (ci := 3) (v := .int n_n.1) (C := RX4) (T := TX4) (N := 7) hx hb hts ifX3_bestLoad_X4 hown hK hP 10 rfl rfl 0 (by decide) (hts (.fieldLink RX3 44 "HookPier$Now" "today" "I") (List.mem_of_getElem? (i := 7) rfl)) (fun _ h9 => h9) rfl dX3_bestLoad_44 ?_
            obtain ⟨o47, eo47, h⟩ := bd_of h
            refine cl_i (wc := (bX6 a0 up kp p_p (bX4 a1 un kn n_n []))) (wr := []) (va_runS (As := [.ref a0, .ref a1, .int v15_l6, .int n_n.1]) (rest := []) ⟨hx, hb, hml, hown, hts⟩ (kfX3_worthTogether l dC dI a0 a1 v15_l6 n_n.1 up kp un kn p_p n_n H.size o47 eo47) (va_cwS 4 hts gfX3_bestLoad_2 rfl rfl rfl (by decide +kernel) ⟨(Nat.le_of_ble_eq_true rfl), (Nat.le_of_ble_eq_true rfl)⟩) (PS (hP.sub (ws' := (bX6 a0 up kp p_p (bX4 a1 un kn n_n []))) [0, 1, 2, 3, 4, 5, 6, 7, 8, 9, 10, 11, 12, 13, 14] rfl) (hK.sub (tys' := (tX6 kp (tX4 kn ([])))) [0, 1, 2, 3, 4, 5, 6, 7, 8, 9, 10, 11, 12] rfl) (hD.sub (ws' := (bX6 a0 up kp p_p (bX4 a1 un kn n_n []))) [0, 1, 2, 3, 4, 5, 6, 7, 8, 9, 10, 11, 12, 13, 14] (by decide) rfl) hN) rfl rfl hl.1 rfl (lv_room (Nat.le_of_ble_eq_true rfl)) dX3_bestLoad_47 ⟨(Nat.le_of_ble_eq_true rfl), (Nat.le_of_ble_eq_true rfl)⟩) hP hD hK hS hA [0, 1, 2, 3, 4, 5, 6, 7, 8, 9, 10, 11, 12, 13, 14] [] rfl rfl (by decide) (by decide) (fun r47 _ H locs hw hP hD _ hS => ?_)
            obtain rfl := hw.symm
            have hP : va_P (dC, dI) vwCl (bX6 a0 up kp p_p (bX4 a1 un kn n_n [])) H := hP
            have hD : va_D A (bX6 a0 up kp p_p (bX4 a1 un kn n_n [])) := hD
            refine lv_istore (lv' := [(7, .int o47), (6, .int v15_l6), (5, .int v15_l5), (4, .int v15_l4), (3, .int o2), (0, .ref a0), (1, .ref a1), (2, .int k2)]) hx hb dX3_bestLoad_50 hl (by decide) rfl (fun ls hl => ?_)
            refine lv_iload hx hb dX3_bestLoad_52 (lv_at hl 1 rfl) ?_
            obtain ⟨o54, eo54⟩ : ∃ o, o = f_J6_bitCount_0f7a4 v15_l6 := ⟨_, rfl⟩
            have h := nm_of h o54 eo54
            refine cl_i (wc := []) (wr := (bX6 a0 up kp p_p (bX4 a1 un kn n_n []))) (va_runS (As := [.int v15_l6]) (rest := []) ⟨hx, hb, hml, hown, hts⟩ (kfJ6_bitCount_0f7a4 l dC dI v15_l6 H.size o54 eo54.symm) (va_cwS 1 hts gfX3_bestLoad_1 rfl rfl rfl (by decide +kernel) ⟨(Nat.le_of_ble_eq_true rfl), (Nat.le_of_ble_eq_true rfl)⟩) (PS (hP.sub (ws' := []) [] rfl) (hK.sub (tys' := ([])) [] rfl) (hD.sub (ws' := []) [] (by decide) rfl) hN) rfl rfl hl.1 rfl (lv_room (Nat.le_of_ble_eq_true rfl)) dX3_bestLoad_54 ⟨(Nat.le_of_ble_eq_true rfl), (Nat.le_of_ble_eq_true rfl)⟩) hP hD hK hS hA [] [0, 1, 2, 3, 4, 5, 6, 7, 8, 9, 10, 11, 12, 13, 14] rfl rfl (by decide) (by decide) (fun r54 _ H locs hw hP hD _ hS => ?_)
            obtain rfl := hw.symm
            have hP : va_P (dC, dI) vwCl (bX6 a0 up kp p_p (bX4 a1 un kn n_n [])) H := hP
            have hD : va_D A (bX6 a0 up kp p_p (bX4 a1 un kn n_n [])) := hD
            refine lv_iload hx hb dX3_bestLoad_57 (lv_at hl 3 rfl) ?_
            obtain ⟨o59, eo59⟩ : ∃ o, o = f_J6_bitCount_0f7a4 v15_l4 := ⟨_, rfl⟩
            have h := nm_of h o59 eo59
            refine cl_i (wc := []) (wr := (bX6 a0 up kp p_p (bX4 a1 un kn n_n []))) (va_runS (As := [.int v15_l4]) (rest := [.int o54]) ⟨hx, hb, hml, hown, hts⟩ (kfJ6_bitCount_0f7a4 l dC dI v15_l4 H.size o59 eo59.symm) (va_cwS 1 hts gfX3_bestLoad_1 rfl rfl rfl (by decide +kernel) ⟨(Nat.le_of_ble_eq_true rfl), (Nat.le_of_ble_eq_true rfl)⟩) (PS (hP.sub (ws' := []) [] rfl) (hK.sub (tys' := ([])) [] rfl) (hD.sub (ws' := []) [] (by decide) rfl) hN) rfl rfl hl.1 rfl (lv_room (Nat.le_of_ble_eq_true rfl)) dX3_bestLoad_59 ⟨(Nat.le_of_ble_eq_true rfl), (Nat.le_of_ble_eq_true rfl)⟩) hP hD hK hS hA [] [0, 1, 2, 3, 4, 5, 6, 7, 8, 9, 10, 11, 12, 13, 14] rfl rfl (by decide) (by decide) (fun r59 _ H locs hw hP hD _ hS => ?_)
            obtain rfl := hw.symm
            have hP : va_P (dC, dI) vwCl (bX6 a0 up kp p_p (bX4 a1 un kn n_n [])) H := hP
            have hD : va_D A (bX6 a0 up kp p_p (bX4 a1 un kn n_n [])) := hD
            have J70 : ∀ (v70_t0 : Int32) (H : Heap) (locs : List Loc) (ls : Array Slot), f_X3_bestLoad_J70 (f_X3_bestLoad_L15 k2 p_p n_n o2 n15) o47 v15_l4 v15_l5 v15_l6 v70_t0 = some out → 0 ≤ v70_t0.toInt ∧ v70_t0.toInt ≤ 1 → va_P (dC, dI) vwCl (bX6 a0 up kp p_p (bX4 a1 un kn n_n [])) H → va_D A (bX6 a0 up kp p_p (bX4 a1 un kn n_n [])) → va_S A s.heap H locs → lv_has ls 9 [(7, .int o47), (6, .int v15_l6), (5, .int v15_l5), (4, .int v15_l4), (3, .int o2), (0, .ref a0), (1, .ref a1), (2, .int k2)] → W p l e (headSpec vfX3_bestLoad { frames := 4, cells := 0, slots := 0, locals := 91 }).room s m ([.ref a0, .ref a1, .int k2]).toArray below meth c H locs 0 0 QQ (F0 m 70 ls [.int v70_t0]) := by
              intro v70_t0 H locs ls h zb_v70_t0 hP hD hS hl
              rw [f_X3_bestLoad_J70] at h
              refine lv_istore (lv' := [(8, .int v70_t0), (7, .int o47), (6, .int v15_l6), (5, .int v15_l5), (4, .int v15_l4), (3, .int o2), (0, .ref a0), (1, .ref a1), (2, .int k2)]) hx hb dX3_bestLoad_70 hl (by decide) rfl (fun ls hl => ?_)
              refine lv_iload hx hb dX3_bestLoad_72 (lv_at hl 1 rfl) ?_
              refine lv_iload hx hb dX3_bestLoad_74 (lv_at hl 3 rfl) ?_
              have J91 : ∀ (H : Heap) (locs : List Loc) (ls : Array Slot), f_X3_bestLoad_J91 (f_X3_bestLoad_L15 k2 p_p n_n o2 n15) o47 v15_l6 = some out → va_P (dC, dI) vwCl (bX6 a0 up kp p_p (bX4 a1 un kn n_n [])) H → va_D A (bX6 a0 up kp p_p (bX4 a1 un kn n_n [])) → va_S A s.heap H locs → lv_has ls 9 [(7, .int o47), (6, .int v15_l6), (3, .int o2), (0, .ref a0), (1, .ref a1), (2, .int k2)] → W p l e (headSpec vfX3_bestLoad { frames := 4, cells := 0, slots := 0, locals := 91 }).room s m ([.ref a0, .ref a1, .int k2]).toArray below meth c H locs 0 0 QQ (F0 m 91 ls []) := by
                intro  H locs ls h  hP hD hS hl
                rw [f_X3_bestLoad_J91] at h
                refine lv_iload hx hb dX3_bestLoad_91 (lv_at hl 0 rfl) ?_
                refine lv_istore (lv' := [(5, .int o47), (7, .int o47), (6, .int v15_l6), (3, .int o2), (0, .ref a0), (1, .ref a1), (2, .int k2)]) hx hb dX3_bestLoad_93 hl (by decide) rfl (fun ls hl => ?_)
                refine lv_iload hx hb dX3_bestLoad_95 (lv_at hl 2 rfl) ?_
                refine lv_istore (lv' := [(4, .int v15_l6), (5, .int o47), (7, .int o47), (6, .int v15_l6), (3, .int o2), (0, .ref a0), (1, .ref a1), (2, .int k2)]) hx hb dX3_bestLoad_97 hl (by decide) rfl (fun ls hl => ?_)
                exact J99 o47 v15_l6 H _ ls h  hP hD hS (lv_sub hl [3, 1, 0, 4, 5, 6, 7] rfl)
              refine lv_icmp_gt (tgt := 91) hx hb dX3_bestLoad_76 (by decide) (fun c76 => ?_) (fun c76 => ?_)
              · have h := (if_pos c76).symm.trans h
                exact J91  H _ ls h  hP hD hS (lv_sub hl [1, 2, 5, 6, 7, 8] rfl)
              · have h := (if_neg c76).symm.trans h
                refine lv_iload hx hb dX3_bestLoad_79 (lv_at hl 1 rfl) ?_
                refine lv_iload hx hb dX3_bestLoad_81 (lv_at hl 3 rfl) ?_
                refine lv_icmp_ne (tgt := 99) hx hb dX3_bestLoad_83 (by decide) (fun c83 => ?_) (fun c83 => ?_)
                · have h := (if_neg c83).symm.trans h
                  exact J99 v15_l5 v15_l4 H _ ls h  hP hD hS (lv_sub hl [2, 3, 4, 5, 6, 7, 8] rfl)
                · have h := (if_pos c83).symm.trans h
                  refine lv_iload hx hb dX3_bestLoad_86 (lv_at hl 0 rfl) ?_
                  refine lv_if_eq (tgt := 99) hx hb dX3_bestLoad_88 (by decide) (fun c88 => ?_) (fun c88 => ?_)
                  · have h := (if_pos c88).symm.trans h
                    exact J99 v15_l5 v15_l4 H _ ls h  hP hD hS (lv_sub hl [2, 3, 4, 5, 6, 7, 8] rfl)
                  · have h := (if_neg c88).symm.trans h
                    exact J91  H _ ls h  hP hD hS (lv_sub hl [1, 2, 5, 6, 7, 8] rfl)
            refine lv_icmp_ge (tgt := 69) hx hb dX3_bestLoad_62 (by decide) (fun c62 => ?_) (fun c62 => ?_)
            · have h := (if_pos c62).symm.trans h
              refine lv_iconst (v := 0) hx hb dX3_bestLoad_69 (by decide) ?_
              exact J70 (0 : Int32) H _ ls h (by decide) hP hD hS (lv_sub hl [0, 1, 2, 3, 4, 5, 6, 7] rfl)
            · have h := (if_neg c62).symm.trans h
              refine lv_iconst (v := 1) hx hb dX3_bestLoad_65 (by decide) ?_
              refine lv_goto (tgt := 70) hx hb dX3_bestLoad_66 (by decide) ?_
              exact J70 (1 : Int32) H _ ls h (by decide) hP hD hS (lv_sub hl [0, 1, 2, 3, 4, 5, 6, 7] rfl)
  exact L15 FU (1 : Int32) (0 : Int32) (0 : Int32) H _ ls h  hP hD hS (lv_sub hl [0, 1, 2, 3, 4, 5, 6] rfl)
theorem dX10_load_0 : decode cX10_load 0 = .ok (.aload_n 0, 1) := by decide +kernel
theorem dX10_load_1 : decode cX10_load 1 = .ok (.aload_n 0, 1) := by decide +kernel
theorem dX10_load_12 : decode cX10_load 12 = .ok (.invokevirtual 79, 3) := by decide +kernel
theorem dX10_load_15 : decode cX10_load 15 = .ok (.ifCond .eq 5, 3) := by decide +kernel
theorem dX10_load_18 : decode cX10_load 18 = .ok (.iconst (-1), 1) := by decide +kernel
theorem dX10_load_19 : decode cX10_load 19 = .ok (.ireturn, 1) := by decide +kernel
theorem dX10_load_2 : decode cX10_load 2 = .ok (.iload_n 1, 1) := by decide +kernel
theorem dX10_load_20 : decode cX10_load 20 = .ok (.aload_n 0, 1) := by decide +kernel
theorem dX10_load_21 : decode cX10_load 21 = .ok (.getfield 10, 3) := by decide +kernel
theorem dX10_load_24 : decode cX10_load 24 = .ok (.aload_n 0, 1) := by decide +kernel
theorem dX10_load_25 : decode cX10_load 25 = .ok (.getfield 29, 3) := by decide +kernel
theorem dX10_load_28 : decode cX10_load 28 = .ok (.iload_n 1, 1) := by decide +kernel
theorem dX10_load_29 : decode cX10_load 29 = .ok (.invokestatic 300, 3) := by decide +kernel
theorem dX10_load_3 : decode cX10_load 3 = .ok (.iconst 0, 1) := by decide +kernel
theorem dX10_load_32 : decode cX10_load 32 = .ok (.ireturn, 1) := by decide +kernel
theorem dX10_load_4 : decode cX10_load 4 = .ok (.bipush 6, 2) := by decide +kernel
theorem dX10_load_6 : decode cX10_load 6 = .ok (.invokestatic 75, 3) := by decide +kernel
theorem dX10_load_9 : decode cX10_load 9 = .ok (.invokevirtual 169, 3) := by decide +kernel
def vfX10_load : List Cond := List.cons (.code yX10_load cX10_load 2 (some .int)) (apW [.methodLink RX10 75 yX10_within, .static yX10_within, .initialized RX10, .methodLink RX10 169 yX10_numberTrouble, .instanceMethod yX10_numberTrouble, .selects RX10 yX10_numberTrouble yX10_numberTrouble, .methodLink RX10 79 yX10_refused, .instanceMethod yX10_refused, .selects RX10 yX10_refused yX10_refused, .fieldLink RX10 10 "HookPier" "plan" "LHookPier$Plan;", .fieldLink RX10 29 "HookPier" "now" "LHookPier$Now;", .methodLink RX10 300 yX3_bestLoad, .static yX3_bestLoad, .initialized RX3] (apW wsX100 (apW vfX10_within (apW vfX10_numberTrouble (apW vfX10_refused (vfX3_bestLoad))))))
theorem ifX10_load_X10 : ∀ w ∈ wsX100, w ∈ vfX10_load := fun _ h => (List.mem_cons_of_mem _ (List.mem_append_right _ (List.mem_append_left _ h)))
theorem qfX10_load : Good vfX10_load := gd_cons (by decide +kernel) (gd_app (gd_dec (by decide +kernel) : Good [.methodLink RX10 75 yX10_within, .static yX10_within, .initialized RX10, .methodLink RX10 169 yX10_numberTrouble, .instanceMethod yX10_numberTrouble, .selects RX10 yX10_numberTrouble yX10_numberTrouble, .methodLink RX10 79 yX10_refused, .instanceMethod yX10_refused, .selects RX10 yX10_refused yX10_refused, .fieldLink RX10 10 "HookPier" "plan" "LHookPier$Plan;", .fieldLink RX10 29 "HookPier" "now" "LHookPier$Now;", .methodLink RX10 300 yX3_bestLoad, .static yX3_bestLoad, .initialized RX3]) (gd_app qsX10 (gd_app qfX10_within (gd_app qfX10_numberTrouble (gd_app qfX10_refused qfX3_bestLoad)))))
theorem gfX10_load_0 : GoodIn vfX10_load (va_wsS RX10 75 yX10_within vfX10_within) := goodIn_app (goodIn_r [.methodLink RX10 75 yX10_within, .static yX10_within, .initialized RX10] [1, 2, 3] rfl (by decide +kernel)) (goodIn_m (fun _ h => (List.mem_cons_of_mem _ (List.mem_append_right _ (List.mem_append_right _ (List.mem_append_left _ h))))) qfX10_within)
theorem gfX10_load_1 : GoodIn vfX10_load (wsV RX10 169 RX10 yX10_numberTrouble vfX10_numberTrouble) := goodIn_app (goodIn_r [.methodLink RX10 169 yX10_numberTrouble, .instanceMethod yX10_numberTrouble, .selects RX10 yX10_numberTrouble yX10_numberTrouble, .initialized RX10] [4, 5, 6, 3] rfl (by decide +kernel)) (goodIn_m (fun _ h => (List.mem_cons_of_mem _ (List.mem_append_right _ (List.mem_append_right _ (List.mem_append_right _ (List.mem_append_left _ h)))))) qfX10_numberTrouble)
theorem gfX10_load_2 : GoodIn vfX10_load (wsV RX10 79 RX10 yX10_refused vfX10_refused) := goodIn_app (goodIn_r [.methodLink RX10 79 yX10_refused, .instanceMethod yX10_refused, .selects RX10 yX10_refused yX10_refused, .initialized RX10] [7, 8, 9, 3] rfl (by decide +kernel)) (goodIn_m (fun _ h => (List.mem_cons_of_mem _ (List.mem_append_right _ (List.mem_append_right _ (List.mem_append_right _ (List.mem_append_right _ (List.mem_append_left _ h))))))) qfX10_refused)
theorem gfX10_load_3 : GoodIn vfX10_load (va_wsS RX10 300 yX3_bestLoad vfX3_bestLoad) := goodIn_app (goodIn_r [.methodLink RX10 300 yX3_bestLoad, .static yX3_bestLoad, .initialized RX3] [12, 13, 14] rfl (by decide +kernel)) (goodIn_m (fun _ h => (List.mem_cons_of_mem _ (List.mem_append_right _ (List.mem_append_right _ (List.mem_append_right _ (List.mem_append_right _ (List.mem_append_right _ h))))))) qfX3_bestLoad)
set_option maxHeartbeats 2000000 in
set_option maxRecDepth 100000 in
theorem kfX10_load (l : Launch) (dC : Nat → ClassId) (dI : Nat → Nat → Nat) (a0 : Nat) (k1 : Int32) (a2 : Nat) (a3 : Nat) (up : Nat → Nat) (kp : Nat → ClassId) (un : Nat → Nat) (kn : Nat → ClassId) (x_x : TX10_x) (g9 : Value) (g10 : Value) (g11 : Value) (g12 : Value) (g13 : Value) (g14 : Value) (p_p : TX6_p) (n_n : TX4_n) (sz : Nat) (out : (Int32 × TX10_x)) (h : f_X10_load k1 x_x p_p n_n = some out) : Met l yX10_load vfX10_load ({ frames := 5, cells := 0, slots := 0, locals := 119 }) (PC (dC, dI) [.ref a0, .int k1] sz ((a0, .inr (7, [.ref a2, g9, g10, .ref a3, g11, g12, g13, g14, .int x_x.1, .int x_x.2])) :: bX6 a2 up kp p_p (bX4 a3 un kn n_n [])) (tX6 kp (tX4 kn ([])))) (va_Qi (S := Unit) (fun (r : Int32) _ => r = out.1) (fun _ t => BC (dC, dI) (va_A ((a0, .inr (7, [.ref a2, g9, g10, .ref a3, g11, g12, g13, g14, .int x_x.1, .int x_x.2])) :: bX6 a2 up kp p_p (bX4 a3 un kn n_n [])) sz) ((a0, .inr (7, [.ref a2, g9, g10, .ref a3, g11, g12, g13, g14, .int out.2.1, .int out.2.2])) :: bX6 a2 up kp p_p (bX4 a3 un kn n_n [])) [] t) (va_A ((a0, .inr (7, [.ref a2, g9, g10, .ref a3, g11, g12, g13, g14, .int x_x.1, .int x_x.2])) :: bX6 a2 up kp p_p (bX4 a3 un kn n_n [])) sz)) 0 0 (va_A ((a0, .inr (7, [.ref a2, g9, g10, .ref a3, g11, g12, g13, g14, .int x_x.1, .int x_x.2])) :: bX6 a2 up kp p_p (bX4 a3 un kn n_n [])) sz) := by
  refine Met.ofW (cc := cX10_load) (maxL := 2) (ret := (some .int)) (by decide) rfl ?_
  intro p e s m args below meth c s₁ B0 hml hv
  obtain ⟨rfl, hsz, hP, hK, hD0, hN⟩ := hv
  have hx := B0.exec
  have hb := B0.bytes
  have hr := B0.returns
  have hts := atoms_spec (ws := vfX10_load) B0.pre
  have hown : s.vm.findClass RX10 = some m.cls := findClass_of_methodNamed B0.named
  have hlocks := B0.notSynchronized
  subst hsz
  have hD := hD0.self (sz := s.heap.size)
  generalize hAe : va_A ((a0, .inr (7, [.ref a2, g9, g10, .ref a3, g11, g12, g13, g14, .int x_x.1, .int x_x.2])) :: bX6 a2 up kp p_p (bX4 a3 un kn n_n [])) s.heap.size = A at hD ⊢
  have hA : ∀ q : Nat, s.heap.size ≤ q → A q := fun q h => by rw [← hAe]; exact Or.inr h
  have hS : va_S A s.heap s.heap [] := va_S.rf
  have hP : va_P (dC, dI) vwCl ((a0, .inr (7, [.ref a2, g9, g10, .ref a3, g11, g12, g13, g14, .int x_x.1, .int x_x.2])) :: bX6 a2 up kp p_p (bX4 a3 un kn n_n [])) s.heap := hP
  have hl := lv_entry ([.ref a0, .int k1]) (n := 2) (Nat.le_of_ble_eq_true rfl)
  rw [lg_entry_eq]
  generalize (lg_sl ([.ref a0, .int k1]) ++ List.replicate (2 - (lg_sl ([.ref a0, .int k1])).length) Slot.unset).toArray = ls at hl ⊢
  have hl : lv_has ls 2 [(0, .ref a0), (1, .int k1)] := hl
  refine W_q (fun QQ hQQ => ?_)
  rw [f_X10_load] at h
  refine lv_aload_n hx hb dX10_load_0 rfl (lv_at hl 0 rfl) ?_
  refine lv_aload_n hx hb dX10_load_1 rfl (lv_at hl 0 rfl) ?_
  refine lv_iload_n hx hb dX10_load_2 rfl (lv_at hl 1 rfl) ?_
  refine lv_iconst (v := 0) hx hb dX10_load_3 (by decide) ?_
  refine lv_bipush (v := 6) hx hb dX10_load_4 (by decide) ?_
  obtain ⟨o6, eo6⟩ : ∃ o, o = f_X10_within k1 (0 : Int32) (6 : Int32) := ⟨_, rfl⟩
  have h := nm_of h o6 eo6
  refine cl_i (wc := []) (wr := ((a0, .inr (7, [.ref a2, g9, g10, .ref a3, g11, g12, g13, g14, .int x_x.1, .int x_x.2])) :: bX6 a2 up kp p_p (bX4 a3 un kn n_n []))) (va_runS (As := [.int k1, .int 0, .int 6]) (rest := [.ref a0, .ref a0]) ⟨hx, hb, hml, hown, hts⟩ (kfX10_within l dC dI k1 (0 : Int32) (6 : Int32) s.heap.size o6 eo6.symm) (va_cwS 3 hts gfX10_load_0 rfl rfl rfl (by decide +kernel) ⟨(Nat.le_of_ble_eq_true rfl), (Nat.le_of_ble_eq_true rfl)⟩) (PS (hP.sub (ws' := []) [] rfl) (hK.sub (tys' := ([])) [] rfl) (hD.sub (ws' := []) [] (by decide) rfl) hN) rfl rfl hl.1 rfl (lv_room (Nat.le_of_ble_eq_true rfl)) dX10_load_6 ⟨(Nat.le_of_ble_eq_true rfl), (Nat.le_of_ble_eq_true rfl)⟩) hP hD hK hS hA [] [0, 1, 2, 3, 4, 5, 6, 7, 8, 9, 10, 11, 12, 13, 14, 15] rfl rfl (by decide) (by decide) (fun r6 _ H locs hw hP hD _ hS => ?_)
  obtain ⟨hw, br6⟩ := hw
  obtain rfl := hw.symm
  have hP : va_P (dC, dI) vwCl ((a0, .inr (7, [.ref a2, g9, g10, .ref a3, g11, g12, g13, g14, .int x_x.1, .int x_x.2])) :: bX6 a2 up kp p_p (bX4 a3 un kn n_n [])) H := hP
  have hD : va_D A ((a0, .inr (7, [.ref a2, g9, g10, .ref a3, g11, g12, g13, g14, .int x_x.1, .int x_x.2])) :: bX6 a2 up kp p_p (bX4 a3 un kn n_n [])) := hD
  obtain ⟨o9, eo9⟩ : ∃ o, o = f_X10_numberTrouble o6 p_p := ⟨_, rfl⟩
  have h := nm_of h o9 eo9
  refine cl_i (wc := ((a0, .inr (7, [.ref a2, g9, g10, .ref a3, g11, g12, g13, g14, .int x_x.1, .int x_x.2])) :: bX6 a2 up kp p_p [])) (wr := (bX4 a3 un kn n_n [])) (va_runV (As := [.int o6]) (rest := [.ref a0]) ⟨hx, hb, hml, hown, hts⟩ (kfX10_numberTrouble l dC dI a0 o6 a2 up kp (g9) (g10) (.ref a3) (g11) (g12) (g13) (g14) (.int x_x.1) (.int x_x.2) p_p H.size o9 eo9.symm) (cwV 1 hts gfX10_load_1 rfl rfl rfl (by decide +kernel) ⟨(Nat.le_of_ble_eq_true rfl), (Nat.le_of_ble_eq_true rfl)⟩) (PV (hP.sub (ws' := ((a0, .inr (7, [.ref a2, g9, g10, .ref a3, g11, g12, g13, g14, .int x_x.1, .int x_x.2])) :: bX6 a2 up kp p_p [])) [0, 1, 2, 3, 4, 5, 6, 7, 8, 9, 10] rfl) (hK.sub (tys' := (tX6 kp ([]))) [0, 1, 2, 3, 4, 5, 6, 7, 8] rfl) (hD.sub (ws' := ((a0, .inr (7, [.ref a2, g9, g10, .ref a3, g11, g12, g13, g14, .int x_x.1, .int x_x.2])) :: bX6 a2 up kp p_p [])) [0, 1, 2, 3, 4, 5, 6, 7, 8, 9, 10] (by decide) rfl) hN 0 rfl rfl) rfl rfl hl.1 rfl (lv_room (Nat.le_of_ble_eq_true rfl)) dX10_load_9 ⟨(Nat.le_of_ble_eq_true rfl), (Nat.le_of_ble_eq_true rfl)⟩) hP hD hK hS hA [0, 1, 2, 3, 4, 5, 6, 7, 8, 9, 10] [11, 12, 13, 14, 15] rfl rfl (by decide) (by decide) (fun r9 _ H locs hw hP hD _ hS => ?_)
  obtain rfl := hw.symm
  have hP : va_P (dC, dI) vwCl (bX4 a3 un kn n_n ((a0, .inr (7, [.ref a2, g9, g10, .ref a3, g11, g12, g13, g14, .int x_x.1, .int x_x.2])) :: bX6 a2 up kp p_p [])) H := hP
  have hD : va_D A (bX4 a3 un kn n_n ((a0, .inr (7, [.ref a2, g9, g10, .ref a3, g11, g12, g13, g14, .int x_x.1, .int x_x.2])) :: bX6 a2 up kp p_p [])) := hD
  obtain ⟨o12, eo12⟩ : ∃ o, o = f_X10_refused o9 x_x := ⟨_, rfl⟩
  have h := nm_of h o12 eo12
  refine cl_i (wc := ([(a0, .inr (7, [.ref a2, g9, g10, .ref a3, g11, g12, g13, g14, .int x_x.1, .int x_x.2]))])) (wr := (bX4 a3 un kn n_n (bX6 a2 up kp p_p []))) (va_runV (As := [.int o9]) (rest := []) ⟨hx, hb, hml, hown, hts⟩ (kfX10_refused l dC dI a0 o9 x_x (.ref a2) (g9) (g10) (.ref a3) (g11) (g12) (g13) (g14) H.size o12 eo12.symm) (cwV 1 hts gfX10_load_2 rfl rfl rfl (by decide +kernel) ⟨(Nat.le_of_ble_eq_true rfl), (Nat.le_of_ble_eq_true rfl)⟩) (PV (hP.sub (ws' := ([(a0, .inr (7, [.ref a2, g9, g10, .ref a3, g11, g12, g13, g14, .int x_x.1, .int x_x.2]))])) [5] rfl) (hK.sub (tys' := ([])) [] rfl) (hD.sub (ws' := ([(a0, .inr (7, [.ref a2, g9, g10, .ref a3, g11, g12, g13, g14, .int x_x.1, .int x_x.2]))])) [5] (by decide) rfl) hN 0 rfl rfl) rfl rfl hl.1 rfl (lv_room (Nat.le_of_ble_eq_true rfl)) dX10_load_12 ⟨(Nat.le_of_ble_eq_true rfl), (Nat.le_of_ble_eq_true rfl)⟩) hP hD hK hS hA [5] [0, 1, 2, 3, 4, 6, 7, 8, 9, 10, 11, 12, 13, 14, 15] rfl rfl (by decide) (by decide) (fun r12 _ H locs hw hP hD _ hS => ?_)
  obtain ⟨hw, br12⟩ := hw
  obtain rfl := hw
  have hP : va_P (dC, dI) vwCl (bX4 a3 un kn n_n (bX6 a2 up kp p_p ([(a0, .inr (7, [.ref a2, g9, g10, .ref a3, g11, g12, g13, g14, .int o12.2.1, .int o12.2.2]))]))) H := hP
  have hD : va_D A (bX4 a3 un kn n_n (bX6 a2 up kp p_p ([(a0, .inr (7, [.ref a2, g9, g10, .ref a3, g11, g12, g13, g14, .int o12.2.1, .int o12.2.2]))]))) := hD
  refine lv_if_eq (tgt := 20) hx hb dX10_load_15 (by decide) (fun c15 => ?_) (fun c15 => ?_)
  · have h := (if_pos c15).symm.trans h
    refine lv_aload_n hx hb dX10_load_20 rfl (lv_at hl 0 rfl) ?_
    refine va_get (D := (dC, dI)) (ci := 7) (v := .ref a2) (C := RX10) (T := TX10) (N := 10) hx hb hts ifX10_load_X10 hown hK hP 15 rfl rfl 0 (by decide) (hts (.fieldLink RX10 10 "HookPier" "plan" "LHookPier$Plan;") (List.mem_of_getElem? (i := 10) rfl)) (fun _ h9 => h9) rfl dX10_load_21 ?_
    refine lv_aload_n hx hb dX10_load_24 rfl (lv_at hl 0 rfl) ?_
    refine va_get (D := (dC, dI)) (ci := 7) (v := .ref a3) (C := RX10) (T := TX10) (N := 10) hx hb hts ifX10_load_X10 hown hK hP 15 rfl rfl 3 (by decide) (hts (.fieldLink RX10 29 "HookPier" "now" "LHookPier$Now;") (List.mem_of_getElem? (i := 11) rfl)) (fun _ h9 => h9) rfl dX10_load_25 ?_
    refine lv_iload_n hx hb dX10_load_28 rfl (lv_at hl 1 rfl) ?_
    obtain ⟨o29, eo29, h⟩ := bd_of h
    refine cl_i (wc := (bX6 a2 up kp p_p (bX4 a3 un kn n_n []))) (wr := ([(a0, .inr (7, [.ref a2, g9, g10, .ref a3, g11, g12, g13, g14, .int o12.2.1, .int o12.2.2]))])) (va_runS (As := [.ref a2, .ref a3, .int k1]) (rest := []) ⟨hx, hb, hml, hown, hts⟩ (kfX3_bestLoad l dC dI a2 a3 k1 up kp un kn p_p n_n H.size o29 eo29) (va_cwS 3 hts gfX10_load_3 rfl rfl rfl (by decide +kernel) ⟨(Nat.le_of_ble_eq_true rfl), (Nat.le_of_ble_eq_true rfl)⟩) (PS (hP.sub (ws' := (bX6 a2 up kp p_p (bX4 a3 un kn n_n []))) [5, 6, 7, 8, 9, 10, 11, 12, 13, 14, 0, 1, 2, 3, 4] rfl) (hK.sub (tys' := (tX6 kp (tX4 kn ([])))) [0, 1, 2, 3, 4, 5, 6, 7, 8, 9, 10, 11, 12] rfl) (hD.sub (ws' := (bX6 a2 up kp p_p (bX4 a3 un kn n_n []))) [5, 6, 7, 8, 9, 10, 11, 12, 13, 14, 0, 1, 2, 3, 4] (by decide) rfl) hN) rfl rfl hl.1 rfl (lv_room (Nat.le_of_ble_eq_true rfl)) dX10_load_29 ⟨(Nat.le_of_ble_eq_true rfl), (Nat.le_of_ble_eq_true rfl)⟩) hP hD hK hS hA [5, 6, 7, 8, 9, 10, 11, 12, 13, 14, 0, 1, 2, 3, 4] [15] rfl rfl (by decide) (by decide) (fun r29 _ H locs hw hP hD _ hS => ?_)
    obtain rfl := hw.symm
    have hP : va_P (dC, dI) vwCl ((a0, .inr (7, [.ref a2, g9, g10, .ref a3, g11, g12, g13, g14, .int o12.2.1, .int o12.2.2])) :: bX6 a2 up kp p_p (bX4 a3 un kn n_n [])) H := hP
    have hD : va_D A ((a0, .inr (7, [.ref a2, g9, g10, .ref a3, g11, g12, g13, g14, .int o12.2.1, .int o12.2.2])) :: bX6 a2 up kp p_p (bX4 a3 un kn n_n [])) := hD
    obtain rfl := Option.some.inj h
    have hP9 := hP.sub (ws' := ((a0, .inr (7, [.ref a2, g9, g10, .ref a3, g11, g12, g13, g14, .int o12.2.1, .int o12.2.2])) :: bX6 a2 up kp p_p (bX4 a3 un kn n_n []))) [0, 1, 2, 3, 4, 5, 6, 7, 8, 9, 10, 11, 12, 13, 14, 15] rfl
    have hD9 := hD.sub (ws' := ((a0, .inr (7, [.ref a2, g9, g10, .ref a3, g11, g12, g13, g14, .int o12.2.1, .int o12.2.2])) :: bX6 a2 up kp p_p (bX4 a3 un kn n_n []))) [0, 1, 2, 3, 4, 5, 6, 7, 8, 9, 10, 11, 12, 13, 14, 15] (by decide) rfl
    have hK9 := hK.sub (tys' := []) [] rfl
    rw [hQQ]
    exact W.iret (v := o29) hx hb hr (fun t ht hW => ⟨⟨o29, (), rfl, rfl, by rw [ht]; exact hP9, va_K.moved hW.alike hK9, hD9⟩, hS.F ht⟩) hS.2.2 dX10_load_32
  · have h := (if_neg c15).symm.trans h
    refine lv_iconst (v := (-1)) hx hb dX10_load_18 (by decide) ?_
    obtain rfl := Option.some.inj h
    have hP9 := hP.sub (ws' := ((a0, .inr (7, [.ref a2, g9, g10, .ref a3, g11, g12, g13, g14, .int o12.2.1, .int o12.2.2])) :: bX6 a2 up kp p_p (bX4 a3 un kn n_n []))) [15, 5, 6, 7, 8, 9, 10, 11, 12, 13, 14, 0, 1, 2, 3, 4] rfl
    have hD9 := hD.sub (ws' := ((a0, .inr (7, [.ref a2, g9, g10, .ref a3, g11, g12, g13, g14, .int o12.2.1, .int o12.2.2])) :: bX6 a2 up kp p_p (bX4 a3 un kn n_n []))) [15, 5, 6, 7, 8, 9, 10, 11, 12, 13, 14, 0, 1, 2, 3, 4] (by decide) rfl
    have hK9 := hK.sub (tys' := []) [] rfl
    rw [hQQ]
    exact W.iret (v := (-1 : Int32)) hx hb hr (fun t ht hW => ⟨⟨(-1 : Int32), (), rfl, rfl, by rw [ht]; exact hP9, va_K.moved hW.alike hK9, hD9⟩, hS.F ht⟩) hS.2.2 dX10_load_19
theorem dX10_loadWorth_0 : decode cX10_loadWorth 0 = .ok (.aload_n 0, 1) := by decide +kernel
theorem dX10_loadWorth_1 : decode cX10_loadWorth 1 = .ok (.aload_n 0, 1) := by decide +kernel
theorem dX10_loadWorth_12 : decode cX10_loadWorth 12 = .ok (.invokevirtual 79, 3) := by decide +kernel
theorem dX10_loadWorth_15 : decode cX10_loadWorth 15 = .ok (.ifCond .eq 5, 3) := by decide +kernel
theorem dX10_loadWorth_18 : decode cX10_loadWorth 18 = .ok (.iconst (-1), 1) := by decide +kernel
theorem dX10_loadWorth_19 : decode cX10_loadWorth 19 = .ok (.ireturn, 1) := by decide +kernel
theorem dX10_loadWorth_2 : decode cX10_loadWorth 2 = .ok (.iload_n 1, 1) := by decide +kernel
theorem dX10_loadWorth_20 : decode cX10_loadWorth 20 = .ok (.aload_n 0, 1) := by decide +kernel
theorem dX10_loadWorth_21 : decode cX10_loadWorth 21 = .ok (.getfield 10, 3) := by decide +kernel
theorem dX10_loadWorth_24 : decode cX10_loadWorth 24 = .ok (.aload_n 0, 1) := by decide +kernel
theorem dX10_loadWorth_25 : decode cX10_loadWorth 25 = .ok (.getfield 29, 3) := by decide +kernel
theorem dX10_loadWorth_28 : decode cX10_loadWorth 28 = .ok (.aload_n 0, 1) := by decide +kernel
theorem dX10_loadWorth_29 : decode cX10_loadWorth 29 = .ok (.getfield 10, 3) := by decide +kernel
theorem dX10_loadWorth_3 : decode cX10_loadWorth 3 = .ok (.iconst 0, 1) := by decide +kernel
theorem dX10_loadWorth_32 : decode cX10_loadWorth 32 = .ok (.aload_n 0, 1) := by decide +kernel
theorem dX10_loadWorth_33 : decode cX10_loadWorth 33 = .ok (.getfield 29, 3) := by decide +kernel
theorem dX10_loadWorth_36 : decode cX10_loadWorth 36 = .ok (.iload_n 1, 1) := by decide +kernel
theorem dX10_loadWorth_37 : decode cX10_loadWorth 37 = .ok (.invokestatic 300, 3) := by decide +kernel
theorem dX10_loadWorth_4 : decode cX10_loadWorth 4 = .ok (.bipush 6, 2) := by decide +kernel
theorem dX10_loadWorth_40 : decode cX10_loadWorth 40 = .ok (.aload_n 0, 1) := by decide +kernel
theorem dX10_loadWorth_41 : decode cX10_loadWorth 41 = .ok (.getfield 29, 3) := by decide +kernel
theorem dX10_loadWorth_44 : decode cX10_loadWorth 44 = .ok (.getfield 134, 3) := by decide +kernel
theorem dX10_loadWorth_47 : decode cX10_loadWorth 47 = .ok (.invokestatic 303, 3) := by decide +kernel
theorem dX10_loadWorth_50 : decode cX10_loadWorth 50 = .ok (.ireturn, 1) := by decide +kernel
theorem dX10_loadWorth_6 : decode cX10_loadWorth 6 = .ok (.invokestatic 75, 3) := by decide +kernel
theorem dX10_loadWorth_9 : decode cX10_loadWorth 9 = .ok (.invokevirtual 169, 3) := by decide +kernel
def vfX10_loadWorth : List Cond := List.cons (.code yX10_loadWorth cX10_loadWorth 2 (some .int)) (apW [.methodLink RX10 75 yX10_within, .static yX10_within, .initialized RX10, .methodLink RX10 169 yX10_numberTrouble, .instanceMethod yX10_numberTrouble, .selects RX10 yX10_numberTrouble yX10_numberTrouble, .methodLink RX10 79 yX10_refused, .instanceMethod yX10_refused, .selects RX10 yX10_refused yX10_refused, .fieldLink RX10 10 "HookPier" "plan" "LHookPier$Plan;", .fieldLink RX10 29 "HookPier" "now" "LHookPier$Now;", .methodLink RX10 300 yX3_bestLoad, .static yX3_bestLoad, .initialized RX3, .fieldLink RX10 134 "HookPier$Now" "today" "I", .methodLink RX10 303 yX3_worthTogether, .static yX3_worthTogether] (apW wsX100 (apW wsX40 (apW vfX10_within (apW vfX10_numberTrouble (apW vfX10_refused (apW vfX3_bestLoad (vfX3_worthTogether))))))))
theorem ifX10_loadWorth_X10 : ∀ w ∈ wsX100, w ∈ vfX10_loadWorth := fun _ h => (List.mem_cons_of_mem _ (List.mem_append_right _ (List.mem_append_left _ h)))
theorem ifX10_loadWorth_X4 : ∀ w ∈ wsX40, w ∈ vfX10_loadWorth := fun _ h => (List.mem_cons_of_mem _ (List.mem_append_right _ (List.mem_append_right _ (List.mem_append_left _ h))))
theorem qfX10_loadWorth : Good vfX10_loadWorth := gd_cons (by decide +kernel) (gd_app (gd_dec (by decide +kernel) : Good [.methodLink RX10 75 yX10_within, .static yX10_within, .initialized RX10, .methodLink RX10 169 yX10_numberTrouble, .instanceMethod yX10_numberTrouble, .selects RX10 yX10_numberTrouble yX10_numberTrouble, .methodLink RX10 79 yX10_refused, .instanceMethod yX10_refused, .selects RX10 yX10_refused yX10_refused, .fieldLink RX10 10 "HookPier" "plan" "LHookPier$Plan;", .fieldLink RX10 29 "HookPier" "now" "LHookPier$Now;", .methodLink RX10 300 yX3_bestLoad, .static yX3_bestLoad, .initialized RX3, .fieldLink RX10 134 "HookPier$Now" "today" "I", .methodLink RX10 303 yX3_worthTogether, .static yX3_worthTogether]) (gd_app qsX10 (gd_app qsX4 (gd_app qfX10_within (gd_app qfX10_numberTrouble (gd_app qfX10_refused (gd_app qfX3_bestLoad qfX3_worthTogether)))))))
theorem gfX10_loadWorth_0 : GoodIn vfX10_loadWorth (va_wsS RX10 75 yX10_within vfX10_within) := goodIn_app (goodIn_r [.methodLink RX10 75 yX10_within, .static yX10_within, .initialized RX10] [1, 2, 3] rfl (by decide +kernel)) (goodIn_m (fun _ h => (List.mem_cons_of_mem _ (List.mem_append_right _ (List.mem_append_right _ (List.mem_append_right _ (List.mem_append_left _ h)))))) qfX10_within)
theorem gfX10_loadWorth_1 : GoodIn vfX10_loadWorth (wsV RX10 169 RX10 yX10_numberTrouble vfX10_numberTrouble) := goodIn_app (goodIn_r [.methodLink RX10 169 yX10_numberTrouble, .instanceMethod yX10_numberTrouble, .selects RX10 yX10_numberTrouble yX10_numberTrouble, .initialized RX10] [4, 5, 6, 3] rfl (by decide +kernel)) (goodIn_m (fun _ h => (List.mem_cons_of_mem _ (List.mem_append_right _ (List.mem_append_right _ (List.mem_append_right _ (List.mem_append_right _ (List.mem_append_left _ h))))))) qfX10_numberTrouble)
theorem gfX10_loadWorth_2 : GoodIn vfX10_loadWorth (wsV RX10 79 RX10 yX10_refused vfX10_refused) := goodIn_app (goodIn_r [.methodLink RX10 79 yX10_refused, .instanceMethod yX10_refused, .selects RX10 yX10_refused yX10_refused, .initialized RX10] [7, 8, 9, 3] rfl (by decide +kernel)) (goodIn_m (fun _ h => (List.mem_cons_of_mem _ (List.mem_append_right _ (List.mem_append_right _ (List.mem_append_right _ (List.mem_append_right _ (List.mem_append_right _ (List.mem_append_left _ h)))))))) qfX10_refused)
theorem gfX10_loadWorth_3 : GoodIn vfX10_loadWorth (va_wsS RX10 300 yX3_bestLoad vfX3_bestLoad) := goodIn_app (goodIn_r [.methodLink RX10 300 yX3_bestLoad, .static yX3_bestLoad, .initialized RX3] [12, 13, 14] rfl (by decide +kernel)) (goodIn_m (fun _ h => (List.mem_cons_of_mem _ (List.mem_append_right _ (List.mem_append_right _ (List.mem_append_right _ (List.mem_append_right _ (List.mem_append_right _ (List.mem_append_right _ (List.mem_append_left _ h))))))))) qfX3_bestLoad)
theorem gfX10_loadWorth_4 : GoodIn vfX10_loadWorth (va_wsS RX10 303 yX3_worthTogether vfX3_worthTogether) := goodIn_app (goodIn_r [.methodLink RX10 303 yX3_worthTogether, .static yX3_worthTogether, .initialized RX3] [16, 17, 14] rfl (by decide +kernel)) (goodIn_m (fun _ h => (List.mem_cons_of_mem _ (List.mem_append_right _ (List.mem_append_right _ (List.mem_append_right _ (List.mem_append_right _ (List.mem_append_right _ (List.mem_append_right _ (List.mem_append_right _ h))))))))) qfX3_worthTogether)
set_option maxHeartbeats 2000000 in
set_option maxRecDepth 100000 in
theorem kfX10_loadWorth (l : Launch) (dC : Nat → ClassId) (dI : Nat → Nat → Nat) (a0 : Nat) (k1 : Int32) (a2 : Nat) (a3 : Nat) (up : Nat → Nat) (kp : Nat → ClassId) (un : Nat → Nat) (kn : Nat → ClassId) (x_x : TX10_x) (g9 : Value) (g10 : Value) (g11 : Value) (g12 : Value) (g13 : Value) (g14 : Value) (p_p : TX6_p) (n_n : TX4_n) (sz : Nat) (out : (Int32 × TX10_x)) (h : f_X10_loadWorth k1 x_x p_p n_n = some out) : Met l yX10_loadWorth vfX10_loadWorth ({ frames := 5, cells := 0, slots := 0, locals := 119 }) (PC (dC, dI) [.ref a0, .int k1] sz ((a0, .inr (7, [.ref a2, g9, g10, .ref a3, g11, g12, g13, g14, .int x_x.1, .int x_x.2])) :: bX6 a2 up kp p_p (bX4 a3 un kn n_n [])) (tX6 kp (tX4 kn ([])))) (va_Qi (S := Unit) (fun (r : Int32) _ => r = out.1) (fun _ t => BC (dC, dI) (va_A ((a0, .inr (7, [.ref a2, g9, g10, .ref a3, g11, g12, g13, g14, .int x_x.1, .int x_x.2])) :: bX6 a2 up kp p_p (bX4 a3 un kn n_n [])) sz) ((a0, .inr (7, [.ref a2, g9, g10, .ref a3, g11, g12, g13, g14, .int out.2.1, .int out.2.2])) :: bX6 a2 up kp p_p (bX4 a3 un kn n_n [])) [] t) (va_A ((a0, .inr (7, [.ref a2, g9, g10, .ref a3, g11, g12, g13, g14, .int x_x.1, .int x_x.2])) :: bX6 a2 up kp p_p (bX4 a3 un kn n_n [])) sz)) 0 0 (va_A ((a0, .inr (7, [.ref a2, g9, g10, .ref a3, g11, g12, g13, g14, .int x_x.1, .int x_x.2])) :: bX6 a2 up kp p_p (bX4 a3 un kn n_n [])) sz) := by
  refine Met.ofW (cc := cX10_loadWorth) (maxL := 2) (ret := (some .int)) (by decide) rfl ?_
  intro p e s m args below meth c s₁ B0 hml hv
  obtain ⟨rfl, hsz, hP, hK, hD0, hN⟩ := hv
  have hx := B0.exec
  have hb := B0.bytes
  have hr := B0.returns
  have hts := atoms_spec (ws := vfX10_loadWorth) B0.pre
  have hown : s.vm.findClass RX10 = some m.cls := findClass_of_methodNamed B0.named
  have hlocks := B0.notSynchronized
  subst hsz
  have hD := hD0.self (sz := s.heap.size)
  generalize hAe : va_A ((a0, .inr (7, [.ref a2, g9, g10, .ref a3, g11, g12, g13, g14, .int x_x.1, .int x_x.2])) :: bX6 a2 up kp p_p (bX4 a3 un kn n_n [])) s.heap.size = A at hD ⊢
  have hA : ∀ q : Nat, s.heap.size ≤ q → A q := fun q h => by rw [← hAe]; exact Or.inr h
  have hS : va_S A s.heap s.heap [] := va_S.rf
  have hP : va_P (dC, dI) vwCl ((a0, .inr (7, [.ref a2, g9, g10, .ref a3, g11, g12, g13, g14, .int x_x.1, .int x_x.2])) :: bX6 a2 up kp p_p (bX4 a3 un kn n_n [])) s.heap := hP
  have hl := lv_entry ([.ref a0, .int k1]) (n := 2) (Nat.le_of_ble_eq_true rfl)
  rw [lg_entry_eq]
  generalize (lg_sl ([.ref a0, .int k1]) ++ List.replicate (2 - (lg_sl ([.ref a0, .int k1])).length) Slot.unset).toArray = ls at hl ⊢
  have hl : lv_has ls 2 [(0, .ref a0), (1, .int k1)] := hl
  refine W_q (fun QQ hQQ => ?_)
  rw [f_X10_loadWorth] at h
  refine lv_aload_n hx hb dX10_loadWorth_0 rfl (lv_at hl 0 rfl) ?_
  refine lv_aload_n hx hb dX10_loadWorth_1 rfl (lv_at hl 0 rfl) ?_
  refine lv_iload_n hx hb dX10_loadWorth_2 rfl (lv_at hl 1 rfl) ?_
  refine lv_iconst (v := 0) hx hb dX10_loadWorth_3 (by decide) ?_
  refine lv_bipush (v := 6) hx hb dX10_loadWorth_4 (by decide) ?_
  obtain ⟨o6, eo6⟩ : ∃ o, o = f_X10_within k1 (0 : Int32) (6 : Int32) := ⟨_, rfl⟩
  have h := nm_of h o6 eo6
  refine cl_i (wc := []) (wr := ((a0, .inr (7, [.ref a2, g9, g10, .ref a3, g11, g12, g13, g14, .int x_x.1, .int x_x.2])) :: bX6 a2 up kp p_p (bX4 a3 un kn n_n []))) (va_runS (As := [.int k1, .int 0, .int 6]) (rest := [.ref a0, .ref a0]) ⟨hx, hb, hml, hown, hts⟩ (kfX10_within l dC dI k1 (0 : Int32) (6 : Int32) s.heap.size o6 eo6.symm) (va_cwS 3 hts gfX10_loadWorth_0 rfl rfl rfl (by decide +kernel) ⟨(Nat.le_of_ble_eq_true rfl), (Nat.le_of_ble_eq_true rfl)⟩) (PS (hP.sub (ws' := []) [] rfl) (hK.sub (tys' := ([])) [] rfl) (hD.sub (ws' := []) [] (by decide) rfl) hN) rfl rfl hl.1 rfl (lv_room (Nat.le_of_ble_eq_true rfl)) dX10_loadWorth_6 ⟨(Nat.le_of_ble_eq_true rfl), (Nat.le_of_ble_eq_true rfl)⟩) hP hD hK hS hA [] [0, 1, 2, 3, 4, 5, 6, 7, 8, 9, 10, 11, 12, 13, 14, 15] rfl rfl (by decide) (by decide) (fun r6 _ H locs hw hP hD _ hS => ?_)
  obtain ⟨hw, br6⟩ := hw
  obtain rfl := hw.symm
  have hP : va_P (dC, dI) vwCl ((a0, .inr (7, [.ref a2, g9, g10, .ref a3, g11, g12, g13, g14, .int x_x.1, .int x_x.2])) :: bX6 a2 up kp p_p (bX4 a3 un kn n_n [])) H := hP
  have hD : va_D A ((a0, .inr (7, [.ref a2, g9, g10, .ref a3, g11, g12, g13, g14, .int x_x.1, .int x_x.2])) :: bX6 a2 up kp p_p (bX4 a3 un kn n_n [])) := hD
  obtain ⟨o9, eo9⟩ : ∃ o, o = f_X10_numberTrouble o6 p_p := ⟨_, rfl⟩
  have h := nm_of h o9 eo9
  refine cl_i (wc := ((a0, .inr (7, [.ref a2, g9, g10, .ref a3, g11, g12, g13, g14, .int x_x.1, .int x_x.2])) :: bX6 a2 up kp p_p [])) (wr := (bX4 a3 un kn n_n [])) (va_runV (As := [.int o6]) (rest := [.ref a0]) ⟨hx, hb, hml, hown, hts⟩ (kfX10_numberTrouble l dC dI a0 o6 a2 up kp (g9) (g10) (.ref a3) (g11) (g12) (g13) (g14) (.int x_x.1) (.int x_x.2) p_p H.size o9 eo9.symm) (cwV 1 hts gfX10_loadWorth_1 rfl rfl rfl (by decide +kernel) ⟨(Nat.le_of_ble_eq_true rfl), (Nat.le_of_ble_eq_true rfl)⟩) (PV (hP.sub (ws' := ((a0, .inr (7, [.ref a2, g9, g10, .ref a3, g11, g12, g13, g14, .int x_x.1, .int x_x.2])) :: bX6 a2 up kp p_p [])) [0, 1, 2, 3, 4, 5, 6, 7, 8, 9, 10] rfl) (hK.sub (tys' := (tX6 kp ([]))) [0, 1, 2, 3, 4, 5, 6, 7, 8] rfl) (hD.sub (ws' := ((a0, .inr (7, [.ref a2, g9, g10, .ref a3, g11, g12, g13, g14, .int x_x.1, .int x_x.2])) :: bX6 a2 up kp p_p [])) [0, 1, 2, 3, 4, 5, 6, 7, 8, 9, 10] (by decide) rfl) hN 0 rfl rfl) rfl rfl hl.1 rfl (lv_room (Nat.le_of_ble_eq_true rfl)) dX10_loadWorth_9 ⟨(Nat.le_of_ble_eq_true rfl), (Nat.le_of_ble_eq_true rfl)⟩) hP hD hK hS hA [0, 1, 2, 3, 4, 5, 6, 7, 8, 9, 10] [11, 12, 13, 14, 15] rfl rfl (by decide) (by decide) (fun r9 _ H locs hw hP hD _ hS => ?_)
  obtain rfl := hw.symm
  have hP : va_P (dC, dI) vwCl (bX4 a3 un kn n_n ((a0, .inr (7, [.ref a2, g9, g10, .ref a3, g11, g12, g13, g14, .int x_x.1, .int x_x.2])) :: bX6 a2 up kp p_p [])) H := hP
  have hD : va_D A (bX4 a3 un kn n_n ((a0, .inr (7, [.ref a2, g9, g10, .ref a3, g11, g12, g13, g14, .int x_x.1, .int x_x.2])) :: bX6 a2 up kp p_p [])) := hD
  obtain ⟨o12, eo12⟩ : ∃ o, o = f_X10_refused o9 x_x := ⟨_, rfl⟩
  have h := nm_of h o12 eo12
  refine cl_i (wc := ([(a0, .inr (7, [.ref a2, g9, g10, .ref a3, g11, g12, g13, g14, .int x_x.1, .int x_x.2]))])) (wr := (bX4 a3 un kn n_n (bX6 a2 up kp p_p []))) (va_runV (As := [.int o9]) (rest := []) ⟨hx, hb, hml, hown, hts⟩ (kfX10_refused l dC dI a0 o9 x_x (.ref a2) (g9) (g10) (.ref a3) (g11) (g12) (g13) (g14) H.size o12 eo12.symm) (cwV 1 hts gfX10_loadWorth_2 rfl rfl rfl (by decide +kernel) ⟨(Nat.le_of_ble_eq_true rfl), (Nat.le_of_ble_eq_true rfl)⟩) (PV (hP.sub (ws' := ([(a0, .inr (7, [.ref a2, g9, g10, .ref a3, g11, g12, g13, g14, .int x_x.1, .int x_x.2]))])) [5] rfl) (hK.sub (tys' := ([])) [] rfl) (hD.sub (ws' := ([(a0, .inr (7, [.ref a2, g9, g10, .ref a3, g11, g12, g13, g14, .int x_x.1, .int x_x.2]))])) [5] (by decide) rfl) hN 0 rfl rfl) rfl rfl hl.1 rfl (lv_room (Nat.le_of_ble_eq_true rfl)) dX10_loadWorth_12 ⟨(Nat.le_of_ble_eq_true rfl), (Nat.le_of_ble_eq_true rfl)⟩) hP hD hK hS hA [5] [0, 1, 2, 3, 4, 6, 7, 8, 9, 10, 11, 12, 13, 14, 15] rfl rfl (by decide) (by decide) (fun r12 _ H locs hw hP hD _ hS => ?_)
  obtain ⟨hw, br12⟩ := hw
  obtain rfl := hw
  have hP : va_P (dC, dI) vwCl (bX4 a3 un kn n_n (bX6 a2 up kp p_p ([(a0, .inr (7, [.ref a2, g9, g10, .ref a3, g11, g12, g13, g14, .int o12.2.1, .int o12.2.2]))]))) H := hP
  have hD : va_D A (bX4 a3 un kn n_n (bX6 a2 up kp p_p ([(a0, .inr (7, [.ref a2, g9, g10, .ref a3, g11, g12, g13, g14, .int o12.2.1, .int o12.2.2]))]))) := hD
  refine lv_if_eq (tgt := 20) hx hb dX10_loadWorth_15 (by decide) (fun c15 => ?_) (fun c15 => ?_)
  · have h := (if_pos c15).symm.trans h
    refine lv_aload_n hx hb dX10_loadWorth_20 rfl (lv_at hl 0 rfl) ?_
    refine va_get (D := (dC, dI)) (ci := 7) (v := .ref a2) (C := RX10) (T := TX10) (N := 10) hx hb hts ifX10_loadWorth_X10 hown hK hP 15 rfl rfl 0 (by decide) (hts (.fieldLink RX10 10 "HookPier" "plan" "LHookPier$Plan;") (List.mem_of_getElem? (i := 10) rfl)) (fun _ h9 => h9) rfl dX10_loadWorth_21 ?_
    refine lv_aload_n hx hb dX10_loadWorth_24 rfl (lv_at hl 0 rfl) ?_
    refine va_get (D := (dC, dI)) (ci := 7) (v := .ref a3) (C := RX10) (T := TX10) (N := 10) hx hb hts ifX10_loadWorth_X10 hown hK hP 15 rfl rfl 3 (by decide) (hts (.fieldLink RX10 29 "HookPier" "now" "LHookPier$Now;") (List.mem_of_getElem? (i := 11) rfl)) (fun _ h9 => h9) rfl dX10_loadWorth_25 ?_
    refine lv_aload_n hx hb dX10_loadWorth_28 rfl (lv_at hl 0 rfl) ?_
    refine va_get (D := (dC, dI)) (ci := 7) (v := .ref a2) (C := RX10) (T := TX10) (N := 10) hx hb hts ifX10_loadWorth_X10 hown hK hP 15 rfl rfl 0 (by decide) (hts (.fieldLink RX10 10 "HookPier" "plan" "LHookPier$Plan;") (List.mem_of_getElem? (i := 10) rfl)) (fun _ h9 => h9) rfl dX10_loadWorth_29 ?_
    refine lv_aload_n hx hb dX10_loadWorth_32 rfl (lv_at hl 0 rfl) ?_
    refine va_get (D := (dC, dI)) (ci := 7) (v := .ref a3) (C := RX10) (T := TX10) (N := 10) hx hb hts ifX10_loadWorth_X10 hown hK hP 15 rfl rfl 3 (by decide) (hts (.fieldLink RX10 29 "HookPier" "now" "LHookPier$Now;") (List.mem_of_getElem? (i := 11) rfl)) (fun _ h9 => h9) rfl dX10_loadWorth_33 ?_
    refine lv_iload_n hx hb dX10_loadWorth_36 rfl (lv_at hl 1 rfl) ?_
    obtain ⟨o37, eo37, h⟩ := bd_of h
    refine cl_i (wc := (bX6 a2 up kp p_p (bX4 a3 un kn n_n []))) (wr := ([(a0, .inr (7, [.ref a2, g9, g10, .ref a3, g11, g12, g13, g14, .int o12.2.1, .int o12.2.2]))])) (va_runS (As := [.ref a2, .ref a3, .int k1]) (rest := [.ref a3, .ref a2]) ⟨hx, hb, hml, hown, hts⟩ (kfX3_bestLoad l dC dI a2 a3 k1 up kp un kn p_p n_n H.size o37 eo37) (va_cwS 3 hts gfX10_loadWorth_3 rfl rfl rfl (by decide +kernel) ⟨(Nat.le_of_ble_eq_true rfl), (Nat.le_of_ble_eq_true rfl)⟩) (PS (hP.sub (ws' := (bX6 a2 up kp p_p (bX4 a3 un kn n_n []))) [5, 6, 7, 8, 9, 10, 11, 12, 13, 14, 0, 1, 2, 3, 4] rfl) (hK.sub (tys' := (tX6 kp (tX4 kn ([])))) [0, 1, 2, 3, 4, 5, 6, 7, 8, 9, 10, 11, 12] rfl) (hD.sub (ws' := (bX6 a2 up kp p_p (bX4 a3 un kn n_n []))) [5, 6, 7, 8, 9, 10, 11, 12, 13, 14, 0, 1, 2, 3, 4] (by decide) rfl) hN) rfl rfl hl.1 rfl (lv_room (Nat.le_of_ble_eq_true rfl)) dX10_loadWorth_37 ⟨(Nat.le_of_ble_eq_true rfl), (Nat.le_of_ble_eq_true rfl)⟩) hP hD hK hS hA [5, 6, 7, 8, 9, 10, 11, 12, 13, 14, 0, 1, 2, 3, 4] [15] rfl rfl (by decide) (by decide) (fun r37 _ H locs hw hP hD _ hS => ?_)
    obtain rfl := hw.symm
    have hP : va_P (dC, dI) vwCl ((a0, .inr (7, [.ref a2, g9, g10, .ref a3, g11, g12, g13, g14, .int o12.2.1, .int o12.2.2])) :: bX6 a2 up kp p_p (bX4 a3 un kn n_n [])) H := hP
    have hD : va_D A ((a0, .inr (7, [.ref a2, g9, g10, .ref a3, g11, g12, g13, g14, .int o12.2.1, .int o12.2.2])) :: bX6 a2 up kp p_p (bX4 a3 un kn n_n [])) := hD
    refine lv_aload_n hx hb dX10_loadWorth_40 rfl (lv_at hl 0 rfl) ?_
    refine va_get (D := (dC, dI)) (ci := 7) (v := .ref a3) (C := RX10) (T := TX10) (N := 10) hx hb hts ifX10_loadWorth_X10 hown hK hP 0 rfl rfl 3 (by decide) (hts (.fieldLink RX10 29 "HookPier" "now" "LHookPier$Now;") (List.mem_of_getElem? (i := 11) rfl)) (fun _ h9 => h9) rfl dX10_loadWorth_41 ?_
    refine va_get (D := (dC, dI)) (ci := 3) (v := .int n_n.1) (C := RX4) (T := TX4) (N := 7) hx hb hts ifX10_loadWorth_X4 hown hK hP 11 rfl rfl 0 (by decide) (hts (.fieldLink RX10 134 "HookPier$Now" "today" "I") (List.mem_of_getElem? (i := 15) rfl)) (fun _ h9 => h9) rfl dX10_loadWorth_44 ?_
    obtain ⟨o47, eo47, h⟩ := bd_of h
    refine cl_i (wc := (bX6 a2 up kp p_p (bX4 a3 un kn n_n []))) (wr := ([(a0, .inr (7, [.ref a2, g9, g10, .ref a3, g11, g12, g13, g14, .int o12.2.1, .int o12.2.2]))])) (va_runS (As := [.ref a2, .ref a3, .int o37, .int n_n.1]) (rest := []) ⟨hx, hb, hml, hown, hts⟩ (kfX3_worthTogether l dC dI a2 a3 o37 n_n.1 up kp un kn p_p n_n H.size o47 eo47) (va_cwS 4 hts gfX10_loadWorth_4 rfl rfl rfl (by decide +kernel) ⟨(Nat.le_of_ble_eq_true rfl), (Nat.le_of_ble_eq_true rfl)⟩) (PS (hP.sub (ws' := (bX6 a2 up kp p_p (bX4 a3 un kn n_n []))) [1, 2, 3, 4, 5, 6, 7, 8, 9, 10, 11, 12, 13, 14, 15] rfl) (hK.sub (tys' := (tX6 kp (tX4 kn ([])))) [0, 1, 2, 3, 4, 5, 6, 7, 8, 9, 10, 11, 12] rfl) (hD.sub (ws' := (bX6 a2 up kp p_p (bX4 a3 un kn n_n []))) [1, 2, 3, 4, 5, 6, 7, 8, 9, 10, 11, 12, 13, 14, 15] (by decide) rfl) hN) rfl rfl hl.1 rfl (lv_room (Nat.le_of_ble_eq_true rfl)) dX10_loadWorth_47 ⟨(Nat.le_of_ble_eq_true rfl), (Nat.le_of_ble_eq_true rfl)⟩) hP hD hK hS hA [1, 2, 3, 4, 5, 6, 7, 8, 9, 10, 11, 12, 13, 14, 15] [0] rfl rfl (by decide) (by decide) (fun r47 _ H locs hw hP hD _ hS => ?_)
    obtain rfl := hw.symm
    have hP : va_P (dC, dI) vwCl ((a0, .inr (7, [.ref a2, g9, g10, .ref a3, g11, g12, g13, g14, .int o12.2.1, .int o12.2.2])) :: bX6 a2 up kp p_p (bX4 a3 un kn n_n [])) H := hP
    have hD : va_D A ((a0, .inr (7, [.ref a2, g9, g10, .ref a3, g11, g12, g13, g14, .int o12.2.1, .int o12.2.2])) :: bX6 a2 up kp p_p (bX4 a3 un kn n_n [])) := hD
    obtain rfl := Option.some.inj h
    have hP9 := hP.sub (ws' := ((a0, .inr (7, [.ref a2, g9, g10, .ref a3, g11, g12, g13, g14, .int o12.2.1, .int o12.2.2])) :: bX6 a2 up kp p_p (bX4 a3 un kn n_n []))) [0, 1, 2, 3, 4, 5, 6, 7, 8, 9, 10, 11, 12, 13, 14, 15] rfl
    have hD9 := hD.sub (ws' := ((a0, .inr (7, [.ref a2, g9, g10, .ref a3, g11, g12, g13, g14, .int o12.2.1, .int o12.2.2])) :: bX6 a2 up kp p_p (bX4 a3 un kn n_n []))) [0, 1, 2, 3, 4, 5, 6, 7, 8, 9, 10, 11, 12, 13, 14, 15] (by decide) rfl
    have hK9 := hK.sub (tys' := []) [] rfl
    rw [hQQ]
    exact W.iret (v := o47) hx hb hr (fun t ht hW => ⟨⟨o47, (), rfl, rfl, by rw [ht]; exact hP9, va_K.moved hW.alike hK9, hD9⟩, hS.F ht⟩) hS.2.2 dX10_loadWorth_50
  · have h := (if_neg c15).symm.trans h
    refine lv_iconst (v := (-1)) hx hb dX10_loadWorth_18 (by decide) ?_
    obtain rfl := Option.some.inj h
    have hP9 := hP.sub (ws' := ((a0, .inr (7, [.ref a2, g9, g10, .ref a3, g11, g12, g13, g14, .int o12.2.1, .int o12.2.2])) :: bX6 a2 up kp p_p (bX4 a3 un kn n_n []))) [15, 5, 6, 7, 8, 9, 10, 11, 12, 13, 14, 0, 1, 2, 3, 4] rfl
    have hD9 := hD.sub (ws' := ((a0, .inr (7, [.ref a2, g9, g10, .ref a3, g11, g12, g13, g14, .int o12.2.1, .int o12.2.2])) :: bX6 a2 up kp p_p (bX4 a3 un kn n_n []))) [15, 5, 6, 7, 8, 9, 10, 11, 12, 13, 14, 0, 1, 2, 3, 4] (by decide) rfl
    have hK9 := hK.sub (tys' := []) [] rfl
    rw [hQQ]
    exact W.iret (v := (-1 : Int32)) hx hb hr (fun t ht hW => ⟨⟨(-1 : Int32), (), rfl, rfl, by rw [ht]; exact hP9, va_K.moved hW.alike hK9, hD9⟩, hS.F ht⟩) hS.2.2 dX10_loadWorth_19
theorem dX10_bestDay_0 : decode cX10_bestDay 0 = .ok (.aload_n 0, 1) := by decide +kernel
theorem dX10_bestDay_1 : decode cX10_bestDay 1 = .ok (.aload_n 0, 1) := by decide +kernel
theorem dX10_bestDay_100 : decode cX10_bestDay 100 = .ok (.ireturn, 1) := by decide +kernel
theorem dX10_bestDay_11 : decode cX10_bestDay 11 = .ok (.iconst (-1), 1) := by decide +kernel
theorem dX10_bestDay_12 : decode cX10_bestDay 12 = .ok (.ireturn, 1) := by decide +kernel
theorem dX10_bestDay_13 : decode cX10_bestDay 13 = .ok (.aload_n 0, 1) := by decide +kernel
theorem dX10_bestDay_14 : decode cX10_bestDay 14 = .ok (.getfield 10, 3) := by decide +kernel
theorem dX10_bestDay_17 : decode cX10_bestDay 17 = .ok (.aload_n 0, 1) := by decide +kernel
theorem dX10_bestDay_18 : decode cX10_bestDay 18 = .ok (.getfield 29, 3) := by decide +kernel
theorem dX10_bestDay_2 : decode cX10_bestDay 2 = .ok (.invokevirtual 216, 3) := by decide +kernel
theorem dX10_bestDay_21 : decode cX10_bestDay 21 = .ok (.invokestatic 306, 3) := by decide +kernel
theorem dX10_bestDay_24 : decode cX10_bestDay 24 = .ok (.istore_n 1, 1) := by decide +kernel
theorem dX10_bestDay_25 : decode cX10_bestDay 25 = .ok (.iconst 0, 1) := by decide +kernel
theorem dX10_bestDay_26 : decode cX10_bestDay 26 = .ok (.istore_n 2, 1) := by decide +kernel
theorem dX10_bestDay_27 : decode cX10_bestDay 27 = .ok (.aload_n 0, 1) := by decide +kernel
theorem dX10_bestDay_28 : decode cX10_bestDay 28 = .ok (.getfield 10, 3) := by decide +kernel
theorem dX10_bestDay_31 : decode cX10_bestDay 31 = .ok (.aload_n 0, 1) := by decide +kernel
theorem dX10_bestDay_32 : decode cX10_bestDay 32 = .ok (.getfield 29, 3) := by decide +kernel
theorem dX10_bestDay_35 : decode cX10_bestDay 35 = .ok (.iload_n 1, 1) := by decide +kernel
theorem dX10_bestDay_36 : decode cX10_bestDay 36 = .ok (.aload_n 0, 1) := by decide +kernel
theorem dX10_bestDay_37 : decode cX10_bestDay 37 = .ok (.getfield 29, 3) := by decide +kernel
theorem dX10_bestDay_40 : decode cX10_bestDay 40 = .ok (.getfield 134, 3) := by decide +kernel
theorem dX10_bestDay_43 : decode cX10_bestDay 43 = .ok (.invokestatic 303, 3) := by decide +kernel
theorem dX10_bestDay_46 : decode cX10_bestDay 46 = .ok (.istore_n 3, 1) := by decide +kernel
theorem dX10_bestDay_47 : decode cX10_bestDay 47 = .ok (.iconst 1, 1) := by decide +kernel
theorem dX10_bestDay_48 : decode cX10_bestDay 48 = .ok (.istore 4, 2) := by decide +kernel
theorem dX10_bestDay_5 : decode cX10_bestDay 5 = .ok (.invokevirtual 79, 3) := by decide +kernel
theorem dX10_bestDay_50 : decode cX10_bestDay 50 = .ok (.iload 4, 2) := by decide +kernel
theorem dX10_bestDay_52 : decode cX10_bestDay 52 = .ok (.bipush 20, 2) := by decide +kernel
theorem dX10_bestDay_54 : decode cX10_bestDay 54 = .ok (.if_icmp .gt 45, 3) := by decide +kernel
theorem dX10_bestDay_57 : decode cX10_bestDay 57 = .ok (.aload_n 0, 1) := by decide +kernel
theorem dX10_bestDay_58 : decode cX10_bestDay 58 = .ok (.getfield 10, 3) := by decide +kernel
theorem dX10_bestDay_61 : decode cX10_bestDay 61 = .ok (.aload_n 0, 1) := by decide +kernel
theorem dX10_bestDay_62 : decode cX10_bestDay 62 = .ok (.getfield 29, 3) := by decide +kernel
theorem dX10_bestDay_65 : decode cX10_bestDay 65 = .ok (.iload_n 1, 1) := by decide +kernel
theorem dX10_bestDay_66 : decode cX10_bestDay 66 = .ok (.aload_n 0, 1) := by decide +kernel
theorem dX10_bestDay_67 : decode cX10_bestDay 67 = .ok (.getfield 29, 3) := by decide +kernel
theorem dX10_bestDay_70 : decode cX10_bestDay 70 = .ok (.getfield 134, 3) := by decide +kernel
theorem dX10_bestDay_73 : decode cX10_bestDay 73 = .ok (.iload 4, 2) := by decide +kernel
theorem dX10_bestDay_75 : decode cX10_bestDay 75 = .ok (.iadd, 1) := by decide +kernel
theorem dX10_bestDay_76 : decode cX10_bestDay 76 = .ok (.invokestatic 303, 3) := by decide +kernel
theorem dX10_bestDay_79 : decode cX10_bestDay 79 = .ok (.istore 5, 2) := by decide +kernel
theorem dX10_bestDay_8 : decode cX10_bestDay 8 = .ok (.ifCond .eq 5, 3) := by decide +kernel
theorem dX10_bestDay_81 : decode cX10_bestDay 81 = .ok (.iload 5, 2) := by decide +kernel
theorem dX10_bestDay_83 : decode cX10_bestDay 83 = .ok (.iload_n 3, 1) := by decide +kernel
theorem dX10_bestDay_84 : decode cX10_bestDay 84 = .ok (.if_icmp .le 9, 3) := by decide +kernel
theorem dX10_bestDay_87 : decode cX10_bestDay 87 = .ok (.iload 5, 2) := by decide +kernel
theorem dX10_bestDay_89 : decode cX10_bestDay 89 = .ok (.istore_n 3, 1) := by decide +kernel
theorem dX10_bestDay_90 : decode cX10_bestDay 90 = .ok (.iload 4, 2) := by decide +kernel
theorem dX10_bestDay_92 : decode cX10_bestDay 92 = .ok (.istore_n 2, 1) := by decide +kernel
theorem dX10_bestDay_93 : decode cX10_bestDay 93 = .ok (.iinc 4 1, 3) := by decide +kernel
theorem dX10_bestDay_96 : decode cX10_bestDay 96 = .ok (.goto (-46), 3) := by decide +kernel
theorem dX10_bestDay_99 : decode cX10_bestDay 99 = .ok (.iload_n 2, 1) := by decide +kernel
def vfX10_bestDay : List Cond := List.cons (.code yX10_bestDay cX10_bestDay 6 (some .int)) (apW [.methodLink RX10 216 yX10_pierTrouble, .instanceMethod yX10_pierTrouble, .selects RX10 yX10_pierTrouble yX10_pierTrouble, .initialized RX10, .methodLink RX10 79 yX10_refused, .instanceMethod yX10_refused, .selects RX10 yX10_refused yX10_refused, .fieldLink RX10 10 "HookPier" "plan" "LHookPier$Plan;", .fieldLink RX10 29 "HookPier" "now" "LHookPier$Now;", .methodLink RX10 306 yX3_unsold, .static yX3_unsold, .initialized RX3, .fieldLink RX10 134 "HookPier$Now" "today" "I", .methodLink RX10 303 yX3_worthTogether, .static yX3_worthTogether] (apW wsX100 (apW wsX40 (apW vfX10_pierTrouble (apW vfX10_refused (apW vfX3_unsold (vfX3_worthTogether)))))))
theorem ifX10_bestDay_X10 : ∀ w ∈ wsX100, w ∈ vfX10_bestDay := fun _ h => (List.mem_cons_of_mem _ (List.mem_append_right _ (List.mem_append_left _ h)))
theorem ifX10_bestDay_X4 : ∀ w ∈ wsX40, w ∈ vfX10_bestDay := fun _ h => (List.mem_cons_of_mem _ (List.mem_append_right _ (List.mem_append_right _ (List.mem_append_left _ h))))
theorem qfX10_bestDay : Good vfX10_bestDay := gd_cons (by decide +kernel) (gd_app (gd_dec (by decide +kernel) : Good [.methodLink RX10 216 yX10_pierTrouble, .instanceMethod yX10_pierTrouble, .selects RX10 yX10_pierTrouble yX10_pierTrouble, .initialized RX10, .methodLink RX10 79 yX10_refused, .instanceMethod yX10_refused, .selects RX10 yX10_refused yX10_refused, .fieldLink RX10 10 "HookPier" "plan" "LHookPier$Plan;", .fieldLink RX10 29 "HookPier" "now" "LHookPier$Now;", .methodLink RX10 306 yX3_unsold, .static yX3_unsold, .initialized RX3, .fieldLink RX10 134 "HookPier$Now" "today" "I", .methodLink RX10 303 yX3_worthTogether, .static yX3_worthTogether]) (gd_app qsX10 (gd_app qsX4 (gd_app qfX10_pierTrouble (gd_app qfX10_refused (gd_app qfX3_unsold qfX3_worthTogether))))))
theorem gfX10_bestDay_0 : GoodIn vfX10_bestDay (wsV RX10 216 RX10 yX10_pierTrouble vfX10_pierTrouble) := goodIn_app (goodIn_r [.methodLink RX10 216 yX10_pierTrouble, .instanceMethod yX10_pierTrouble, .selects RX10 yX10_pierTrouble yX10_pierTrouble, .initialized RX10] [1, 2, 3, 4] rfl (by decide +kernel)) (goodIn_m (fun _ h => (List.mem_cons_of_mem _ (List.mem_append_right _ (List.mem_append_right _ (List.mem_append_right _ (List.mem_append_left _ h)))))) qfX10_pierTrouble)
theorem gfX10_bestDay_1 : GoodIn vfX10_bestDay (wsV RX10 79 RX10 yX10_refused vfX10_refused) := goodIn_app (goodIn_r [.methodLink RX10 79 yX10_refused, .instanceMethod yX10_refused, .selects RX10 yX10_refused yX10_refused, .initialized RX10] [5, 6, 7, 4] rfl (by decide +kernel)) (goodIn_m (fun _ h => (List.mem_cons_of_mem _ (List.mem_append_right _ (List.mem_append_right _ (List.mem_append_right _ (List.mem_append_right _ (List.mem_append_left _ h))))))) qfX10_refused)
theorem gfX10_bestDay_2 : GoodIn vfX10_bestDay (va_wsS RX10 306 yX3_unsold vfX3_unsold) := goodIn_app (goodIn_r [.methodLink RX10 306 yX3_unsold, .static yX3_unsold, .initialized RX3] [10, 11, 12] rfl (by decide +kernel)) (goodIn_m (fun _ h => (List.mem_cons_of_mem _ (List.mem_append_right _ (List.mem_append_right _ (List.mem_append_right _ (List.mem_append_right _ (List.mem_append_right _ (List.mem_append_left _ h)))))))) qfX3_unsold)
theorem gfX10_bestDay_3 : GoodIn vfX10_bestDay (va_wsS RX10 303 yX3_worthTogether vfX3_worthTogether) := goodIn_app (goodIn_r [.methodLink RX10 303 yX3_worthTogether, .static yX3_worthTogether, .initialized RX3] [14, 15, 12] rfl (by decide +kernel)) (goodIn_m (fun _ h => (List.mem_cons_of_mem _ (List.mem_append_right _ (List.mem_append_right _ (List.mem_append_right _ (List.mem_append_right _ (List.mem_append_right _ (List.mem_append_right _ h)))))))) qfX3_worthTogether)
set_option maxHeartbeats 2000000 in
set_option maxRecDepth 100000 in
theorem kfX10_bestDay (l : Launch) (dC : Nat → ClassId) (dI : Nat → Nat → Nat) (a0 : Nat) (a1 : Nat) (a2 : Nat) (up : Nat → Nat) (kp : Nat → ClassId) (un : Nat → Nat) (kn : Nat → ClassId) (x_x : TX10_x) (g8 : Value) (g9 : Value) (g10 : Value) (g11 : Value) (g12 : Value) (g13 : Value) (p_p : TX6_p) (n_n : TX4_n) (sz : Nat) (out : (Int32 × TX10_x)) (h : f_X10_bestDay x_x p_p n_n = some out) : Met l yX10_bestDay vfX10_bestDay ({ frames := 4, cells := 0, slots := 0, locals := 91 }) (PC (dC, dI) [.ref a0] sz ((a0, .inr (7, [.ref a1, g8, g9, .ref a2, g10, g11, g12, g13, .int x_x.1, .int x_x.2])) :: bX6 a1 up kp p_p (bX4 a2 un kn n_n [])) (tX6 kp (tX4 kn ([])))) (va_Qi (S := Unit) (fun (r : Int32) _ => r = out.1) (fun _ t => BC (dC, dI) (va_A ((a0, .inr (7, [.ref a1, g8, g9, .ref a2, g10, g11, g12, g13, .int x_x.1, .int x_x.2])) :: bX6 a1 up kp p_p (bX4 a2 un kn n_n [])) sz) ((a0, .inr (7, [.ref a1, g8, g9, .ref a2, g10, g11, g12, g13, .int out.2.1, .int out.2.2])) :: bX6 a1 up kp p_p (bX4 a2 un kn n_n [])) [] t) (va_A ((a0, .inr (7, [.ref a1, g8, g9, .ref a2, g10, g11, g12, g13, .int x_x.1, .int x_x.2])) :: bX6 a1 up kp p_p (bX4 a2 un kn n_n [])) sz)) 0 0 (va_A ((a0, .inr (7, [.ref a1, g8, g9, .ref a2, g10, g11, g12, g13, .int x_x.1, .int x_x.2])) :: bX6 a1 up kp p_p (bX4 a2 un kn n_n [])) sz) := by
  refine Met.ofW (cc := cX10_bestDay) (maxL := 6) (ret := (some .int)) (by decide) rfl ?_
  intro p e s m args below meth c s₁ B0 hml hv
  obtain ⟨rfl, hsz, hP, hK, hD0, hN⟩ := hv
  have hx := B0.exec
  have hb := B0.bytes
  have hr := B0.returns
  have hts := atoms_spec (ws := vfX10_bestDay) B0.pre
  have hown : s.vm.findClass RX10 = some m.cls := findClass_of_methodNamed B0.named
  have hlocks := B0.notSynchronized
  subst hsz
  have hD := hD0.self (sz := s.heap.size)
  generalize hAe : va_A ((a0, .inr (7, [.ref a1, g8, g9, .ref a2, g10, g11, g12, g13, .int x_x.1, .int x_x.2])) :: bX6 a1 up kp p_p (bX4 a2 un kn n_n [])) s.heap.size = A at hD ⊢
  have hA : ∀ q : Nat, s.heap.size ≤ q → A q := fun q h => by rw [← hAe]; exact Or.inr h
  have hS : va_S A s.heap s.heap [] := va_S.rf
  have hP : va_P (dC, dI) vwCl ((a0, .inr (7, [.ref a1, g8, g9, .ref a2, g10, g11, g12, g13, .int x_x.1, .int x_x.2])) :: bX6 a1 up kp p_p (bX4 a2 un kn n_n [])) s.heap := hP
  have hl := lv_entry ([.ref a0]) (n := 6) (Nat.le_of_ble_eq_true rfl)
  rw [lg_entry_eq]
  generalize (lg_sl ([.ref a0]) ++ List.replicate (6 - (lg_sl ([.ref a0])).length) Slot.unset).toArray = ls at hl ⊢
  have hl : lv_has ls 6 [(0, .ref a0)] := hl
  refine W_q (fun QQ hQQ => ?_)
  rw [f_X10_bestDay] at h
  refine lv_aload_n hx hb dX10_bestDay_0 rfl (lv_at hl 0 rfl) ?_
  refine lv_aload_n hx hb dX10_bestDay_1 rfl (lv_at hl 0 rfl) ?_
  obtain ⟨o2, eo2⟩ : ∃ o, o = f_X10_pierTrouble p_p := ⟨_, rfl⟩
  have h := nm_of h o2 eo2
  refine cl_i (wc := ((a0, .inr (7, [.ref a1, g8, g9, .ref a2, g10, g11, g12, g13, .int x_x.1, .int x_x.2])) :: bX6 a1 up kp p_p [])) (wr := (bX4 a2 un kn n_n [])) (va_runV (As := []) (rest := [.ref a0]) ⟨hx, hb, hml, hown, hts⟩ (kfX10_pierTrouble l dC dI a0 a1 up kp (g8) (g9) (.ref a2) (g10) (g11) (g12) (g13) (.int x_x.1) (.int x_x.2) p_p s.heap.size o2 eo2.symm) (cwV 0 hts gfX10_bestDay_0 rfl rfl rfl (by decide +kernel) ⟨(Nat.le_of_ble_eq_true rfl), (Nat.le_of_ble_eq_true rfl)⟩) (PV (hP.sub (ws' := ((a0, .inr (7, [.ref a1, g8, g9, .ref a2, g10, g11, g12, g13, .int x_x.1, .int x_x.2])) :: bX6 a1 up kp p_p [])) [0, 1, 2, 3, 4, 5, 6, 7, 8, 9, 10] rfl) (hK.sub (tys' := (tX6 kp ([]))) [0, 1, 2, 3, 4, 5, 6, 7, 8] rfl) (hD.sub (ws' := ((a0, .inr (7, [.ref a1, g8, g9, .ref a2, g10, g11, g12, g13, .int x_x.1, .int x_x.2])) :: bX6 a1 up kp p_p [])) [0, 1, 2, 3, 4, 5, 6, 7, 8, 9, 10] (by decide) rfl) hN 0 rfl rfl) rfl rfl hl.1 rfl (lv_room (Nat.le_of_ble_eq_true rfl)) dX10_bestDay_2 ⟨(Nat.le_of_ble_eq_true rfl), (Nat.le_of_ble_eq_true rfl)⟩) hP hD hK hS hA [0, 1, 2, 3, 4, 5, 6, 7, 8, 9, 10] [11, 12, 13, 14, 15] rfl rfl (by decide) (by decide) (fun r2 _ H locs hw hP hD _ hS => ?_)
  obtain rfl := hw.symm
  have hP : va_P (dC, dI) vwCl (bX4 a2 un kn n_n ((a0, .inr (7, [.ref a1, g8, g9, .ref a2, g10, g11, g12, g13, .int x_x.1, .int x_x.2])) :: bX6 a1 up kp p_p [])) H := hP
  have hD : va_D A (bX4 a2 un kn n_n ((a0, .inr (7, [.ref a1, g8, g9, .ref a2, g10, g11, g12, g13, .int x_x.1, .int x_x.2])) :: bX6 a1 up kp p_p [])) := hD
  obtain ⟨o5, eo5⟩ : ∃ o, o = f_X10_refused o2 x_x := ⟨_, rfl⟩
  have h := nm_of h o5 eo5
  refine cl_i (wc := ([(a0, .inr (7, [.ref a1, g8, g9, .ref a2, g10, g11, g12, g13, .int x_x.1, .int x_x.2]))])) (wr := (bX4 a2 un kn n_n (bX6 a1 up kp p_p []))) (va_runV (As := [.int o2]) (rest := []) ⟨hx, hb, hml, hown, hts⟩ (kfX10_refused l dC dI a0 o2 x_x (.ref a1) (g8) (g9) (.ref a2) (g10) (g11) (g12) (g13) H.size o5 eo5.symm) (cwV 1 hts gfX10_bestDay_1 rfl rfl rfl (by decide +kernel) ⟨(Nat.le_of_ble_eq_true rfl), (Nat.le_of_ble_eq_true rfl)⟩) (PV (hP.sub (ws' := ([(a0, .inr (7, [.ref a1, g8, g9, .ref a2, g10, g11, g12, g13, .int x_x.1, .int x_x.2]))])) [5] rfl) (hK.sub (tys' := ([])) [] rfl) (hD.sub (ws' := ([(a0, .inr (7, [.ref a1, g8, g9, .ref a2, g10, g11, g12, g13, .int x_x.1, .int x_x.2]))])) [5] (by decide) rfl) hN 0 rfl rfl) rfl rfl hl.1 rfl (lv_room (Nat.le_of_ble_eq_true rfl)) dX10_bestDay_5 ⟨(Nat.le_of_ble_eq_true rfl), (Nat.le_of_ble_eq_true rfl)⟩) hP hD hK hS hA [5] [0, 1, 2, 3, 4, 6, 7, 8, 9, 10, 11, 12, 13, 14, 15] rfl rfl (by decide) (by decide) (fun r5 _ H locs hw hP hD _ hS => ?_)
  obtain ⟨hw, br5⟩ := hw
  obtain rfl := hw
  have hP : va_P (dC, dI) vwCl (bX4 a2 un kn n_n (bX6 a1 up kp p_p ([(a0, .inr (7, [.ref a1, g8, g9, .ref a2, g10, g11, g12, g13, .int o5.2.1, .int o5.2.2]))]))) H := hP
  have hD : va_D A (bX4 a2 un kn n_n (bX6 a1 up kp p_p ([(a0, .inr (7, [.ref a1, g8, g9, .ref a2, g10, g11, g12, g13, .int o5.2.1, .int o5.2.2]))]))) := hD
  refine lv_if_eq (tgt := 13) hx hb dX10_bestDay_8 (by decide) (fun c8 => ?_) (fun c8 => ?_)
  · have h := (if_pos c8).symm.trans h
    refine lv_aload_n hx hb dX10_bestDay_13 rfl (lv_at hl 0 rfl) ?_
    refine va_get (D := (dC, dI)) (ci := 7) (v := .ref a1) (C := RX10) (T := TX10) (N := 10) hx hb hts ifX10_bestDay_X10 hown hK hP 15 rfl rfl 0 (by decide) (hts (.fieldLink RX10 10 "HookPier" "plan" "LHookPier$Plan;") (List.mem_of_getElem? (i := 8) rfl)) (fun _ h9 => h9) rfl dX10_bestDay_14 ?_
    refine lv_aload_n hx hb dX10_bestDay_17 rfl (lv_at hl 0 rfl) ?_
    refine va_get (D := (dC, dI)) (ci := 7) (v := .ref a2) (C := RX10) (T := TX10) (N := 10) hx hb hts ifX10_bestDay_X10 hown hK hP 15 rfl rfl 3 (by decide) (hts (.fieldLink RX10 29 "HookPier" "now" "LHookPier$Now;") (List.mem_of_getElem? (i := 9) rfl)) (fun _ h9 => h9) rfl dX10_bestDay_18 ?_
    obtain ⟨o21, eo21, h⟩ := bd_of h
    refine cl_i (wc := (bX6 a1 up kp p_p (bX4 a2 un kn n_n []))) (wr := ([(a0, .inr (7, [.ref a1, g8, g9, .ref a2, g10, g11, g12, g13, .int o5.2.1, .int o5.2.2]))])) (va_runS (As := [.ref a1, .ref a2]) (rest := []) ⟨hx, hb, hml, hown, hts⟩ (kfX3_unsold l dC dI a1 a2 up kp un kn p_p n_n H.size o21 eo21) (va_cwS 2 hts gfX10_bestDay_2 rfl rfl rfl (by decide +kernel) ⟨(Nat.le_of_ble_eq_true rfl), (Nat.le_of_ble_eq_true rfl)⟩) (PS (hP.sub (ws' := (bX6 a1 up kp p_p (bX4 a2 un kn n_n []))) [5, 6, 7, 8, 9, 10, 11, 12, 13, 14, 0, 1, 2, 3, 4] rfl) (hK.sub (tys' := (tX6 kp (tX4 kn ([])))) [0, 1, 2, 3, 4, 5, 6, 7, 8, 9, 10, 11, 12] rfl) (hD.sub (ws' := (bX6 a1 up kp p_p (bX4 a2 un kn n_n []))) [5, 6, 7, 8, 9, 10, 11, 12, 13, 14, 0, 1, 2, 3, 4] (by decide) rfl) hN) rfl rfl hl.1 rfl (lv_room (Nat.le_of_ble_eq_true rfl)) dX10_bestDay_21 ⟨(Nat.le_of_ble_eq_true rfl), (Nat.le_of_ble_eq_true rfl)⟩) hP hD hK hS hA [5, 6, 7, 8, 9, 10, 11, 12, 13, 14, 0, 1, 2, 3, 4] [15] rfl rfl (by decide) (by decide) (fun r21 _ H locs hw hP hD _ hS => ?_)
    obtain rfl := hw.symm
    have hP : va_P (dC, dI) vwCl ((a0, .inr (7, [.ref a1, g8, g9, .ref a2, g10, g11, g12, g13, .int o5.2.1, .int o5.2.2])) :: bX6 a1 up kp p_p (bX4 a2 un kn n_n [])) H := hP
    have hD : va_D A ((a0, .inr (7, [.ref a1, g8, g9, .ref a2, g10, g11, g12, g13, .int o5.2.1, .int o5.2.2])) :: bX6 a1 up kp p_p (bX4 a2 un kn n_n [])) := hD
    refine lv_istore_n (lv' := [(1, .int o21), (0, .ref a0)]) hx hb dX10_bestDay_24 rfl hl (by decide) rfl (fun ls hl => ?_)
    refine lv_iconst (v := 0) hx hb dX10_bestDay_25 (by decide) ?_
    refine lv_istore_n (lv' := [(2, .int 0), (1, .int o21), (0, .ref a0)]) hx hb dX10_bestDay_26 rfl hl (by decide) rfl (fun ls hl => ?_)
    refine lv_aload_n hx hb dX10_bestDay_27 rfl (lv_at hl 2 rfl) ?_
    refine va_get (D := (dC, dI)) (ci := 7) (v := .ref a1) (C := RX10) (T := TX10) (N := 10) hx hb hts ifX10_bestDay_X10 hown hK hP 0 rfl rfl 0 (by decide) (hts (.fieldLink RX10 10 "HookPier" "plan" "LHookPier$Plan;") (List.mem_of_getElem? (i := 8) rfl)) (fun _ h9 => h9) rfl dX10_bestDay_28 ?_
    refine lv_aload_n hx hb dX10_bestDay_31 rfl (lv_at hl 2 rfl) ?_
    refine va_get (D := (dC, dI)) (ci := 7) (v := .ref a2) (C := RX10) (T := TX10) (N := 10) hx hb hts ifX10_bestDay_X10 hown hK hP 0 rfl rfl 3 (by decide) (hts (.fieldLink RX10 29 "HookPier" "now" "LHookPier$Now;") (List.mem_of_getElem? (i := 9) rfl)) (fun _ h9 => h9) rfl dX10_bestDay_32 ?_
    refine lv_iload_n hx hb dX10_bestDay_35 rfl (lv_at hl 1 rfl) ?_
    refine lv_aload_n hx hb dX10_bestDay_36 rfl (lv_at hl 2 rfl) ?_
    refine va_get (D := (dC, dI)) (ci := 7) (v := .ref a2) (C := RX10) (T := TX10) (N := 10) hx hb hts ifX10_bestDay_X10 hown hK hP 0 rfl rfl 3 (by decide) (hts (.fieldLink RX10 29 "HookPier" "now" "LHookPier$Now;") (List.mem_of_getElem? (i := 9) rfl)) (fun _ h9 => h9) rfl dX10_bestDay_37 ?_
    refine va_get (D := (dC, dI)) (ci := 3) (v := .int n_n.1) (C := RX4) (T := TX4) (N := 7) hx hb hts ifX10_bestDay_X4 hown hK hP 11 rfl rfl 0 (by decide) (hts (.fieldLink RX10 134 "HookPier$Now" "today" "I") (List.mem_of_getElem? (i := 13) rfl)) (fun _ h9 => h9) rfl dX10_bestDay_40 ?_
    obtain ⟨o43, eo43, h⟩ := bd_of h
    refine cl_i (wc := (bX6 a1 up kp p_p (bX4 a2 un kn n_n []))) (wr := ([(a0, .inr (7, [.ref a1, g8, g9, .ref a2, g10, g11, g12, g13, .int o5.2.1, .int o5.2.2]))])) (va_runS (As := [.ref a1, .ref a2, .int o21, .int n_n.1]) (rest := []) ⟨hx, hb, hml, hown, hts⟩ (kfX3_worthTogether l dC dI a1 a2 o21 n_n.1 up kp un kn p_p n_n H.size o43 eo43) (va_cwS 4 hts gfX10_bestDay_3 rfl rfl rfl (by decide +kernel) ⟨(Nat.le_of_ble_eq_true rfl), (Nat.le_of_ble_eq_true rfl)⟩) (PS (hP.sub (ws' := (bX6 a1 up kp p_p (bX4 a2 un kn n_n []))) [1, 2, 3, 4, 5, 6, 7, 8, 9, 10, 11, 12, 13, 14, 15] rfl) (hK.sub (tys' := (tX6 kp (tX4 kn ([])))) [0, 1, 2, 3, 4, 5, 6, 7, 8, 9, 10, 11, 12] rfl) (hD.sub (ws' := (bX6 a1 up kp p_p (bX4 a2 un kn n_n []))) [1, 2, 3, 4, 5, 6, 7, 8, 9, 10, 11, 12, 13, 14, 15] (by decide) rfl) hN) rfl rfl hl.1 rfl (lv_room (Nat.le_of_ble_eq_true rfl)) dX10_bestDay_43 ⟨(Nat.le_of_ble_eq_true rfl), (Nat.le_of_ble_eq_true rfl)⟩) hP hD hK hS hA [1, 2, 3, 4, 5, 6, 7, 8, 9, 10, 11, 12, 13, 14, 15] [0] rfl rfl (by decide) (by decide) (fun r43 _ H locs hw hP hD _ hS => ?_)
    obtain rfl := hw.symm
    have hP : va_P (dC, dI) vwCl ((a0, .inr (7, [.ref a1, g8, g9, .ref a2, g10, g11, g12, g13, .int o5.2.1, .int o5.2.2])) :: bX6 a1 up kp p_p (bX4 a2 un kn n_n [])) H := hP
    have hD : va_D A ((a0, .inr (7, [.ref a1, g8, g9, .ref a2, g10, g11, g12, g13, .int o5.2.1, .int o5.2.2])) :: bX6 a1 up kp p_p (bX4 a2 un kn n_n [])) := hD
    refine lv_istore_n (lv' := [(3, .int o43), (2, .int 0), (1, .int o21), (0, .ref a0)]) hx hb dX10_bestDay_46 rfl hl (by decide) rfl (fun ls hl => ?_)
    refine lv_iconst (v := 1) hx hb dX10_bestDay_47 (by decide) ?_
    refine lv_istore (lv' := [(4, .int 1), (3, .int o43), (2, .int 0), (1, .int o21), (0, .ref a0)]) hx hb dX10_bestDay_48 hl (by decide) rfl (fun ls hl => ?_)
    have L50 : ∀ (n50 : Nat) (v50_l4 : Int32) (v50_l3 : Int32) (v50_l2 : Int32) (H : Heap) (locs : List Loc) (ls : Array Slot), f_X10_bestDay_L50 p_p n_n o21 o5 n50 v50_l4 v50_l3 v50_l2 = some out → va_P (dC, dI) vwCl ((a0, .inr (7, [.ref a1, g8, g9, .ref a2, g10, g11, g12, g13, .int o5.2.1, .int o5.2.2])) :: bX6 a1 up kp p_p (bX4 a2 un kn n_n [])) H → va_D A ((a0, .inr (7, [.ref a1, g8, g9, .ref a2, g10, g11, g12, g13, .int o5.2.1, .int o5.2.2])) :: bX6 a1 up kp p_p (bX4 a2 un kn n_n [])) → va_S A s.heap H locs → lv_has ls 6 [(4, .int v50_l4), (3, .int v50_l3), (2, .int v50_l2), (1, .int o21), (0, .ref a0)] → W p l e (headSpec vfX10_bestDay { frames := 4, cells := 0, slots := 0, locals := 91 }).room s m ([.ref a0]).toArray below meth c H locs 0 0 QQ (F0 m 50 ls []) := by
      intro n50
      induction n50 with
      | zero =>
        intro v50_l4 v50_l3 v50_l2 H locs ls h  _ _ _ _
        rw [f_X10_bestDay_L50] at h
        cases h
      | succ n50 ih50 =>
        intro v50_l4 v50_l3 v50_l2 H locs ls h  hP hD hS hl
        rw [f_X10_bestDay_L50] at h
        refine lv_iload hx hb dX10_bestDay_50 (lv_at hl 0 rfl) ?_
        refine lv_bipush (v := 20) hx hb dX10_bestDay_52 (by decide) ?_
        refine lv_icmp_gt (tgt := 99) hx hb dX10_bestDay_54 (by decide) (fun c54 => ?_) (fun c54 => ?_)
        · have h := (if_pos c54).symm.trans h
          refine lv_iload_n hx hb dX10_bestDay_99 rfl (lv_at hl 2 rfl) ?_
          obtain rfl := Option.some.inj h
          have hP9 := hP.sub (ws' := ((a0, .inr (7, [.ref a1, g8, g9, .ref a2, g10, g11, g12, g13, .int o5.2.1, .int o5.2.2])) :: bX6 a1 up kp p_p (bX4 a2 un kn n_n []))) [0, 1, 2, 3, 4, 5, 6, 7, 8, 9, 10, 11, 12, 13, 14, 15] rfl
          have hD9 := hD.sub (ws' := ((a0, .inr (7, [.ref a1, g8, g9, .ref a2, g10, g11, g12, g13, .int o5.2.1, .int o5.2.2])) :: bX6 a1 up kp p_p (bX4 a2 un kn n_n []))) [0, 1, 2, 3, 4, 5, 6, 7, 8, 9, 10, 11, 12, 13, 14, 15] (by decide) rfl
          have hK9 := hK.sub (tys' := []) [] rfl
          rw [hQQ]
          exact W.iret (v := v50_l2) hx hb hr (fun t ht hW => ⟨⟨v50_l2, (), rfl, rfl, by rw [ht]; exact hP9, va_K.moved hW.alike hK9, hD9⟩, hS.F ht⟩) hS.2.2 dX10_bestDay_100
        · have h := (if_neg c54).symm.trans h
          refine lv_aload_n hx hb dX10_bestDay_57 rfl (lv_at hl 4 rfl) ?_
          refine va_get (D := (dC, dI)) (ci := 7) (v := .ref a1) (C := RX10) (T := TX10) (N := 10) hx hb hts ifX10_bestDay_X10 hown hK hP 0 rfl rfl 0 (by decide) (hts (.fieldLink RX10 10 "HookPier" "plan" "LHookPier$Plan;") (List.mem_of_getElem? (i := 8) rfl)) (fun _ h9 => h9) rfl dX10_bestDay_58 ?_
          refine lv_aload_n hx hb dX10_bestDay_61 rfl (lv_at hl 4 rfl) ?_
          refine va_get (D := (dC, dI)) (ci := 7) (v := .ref a2) (C := RX10) (T := TX10) (N := 10) hx hb hts ifX10_bestDay_X10 hown hK hP 0 rfl rfl 3 (by decide) (hts (.fieldLink RX10 29 "HookPier" "now" "LHookPier$Now;") (List.mem_of_getElem? (i := 9) rfl)) (fun _ h9 => h9) rfl dX10_bestDay_62 ?_
          refine lv_iload_n hx hb dX10_bestDay_65 rfl (lv_at hl 3 rfl) ?_
          refine lv_aload_n hx hb dX10_bestDay_66 rfl (lv_at hl 4 rfl) ?_
          refine va_get (D := (dC, dI)) (ci := 7) (v := .ref a2) (C := RX10) (T := TX10) (N := 10) hx hb hts ifX10_bestDay_X10 hown hK hP 0 rfl rfl 3 (by decide) (hts (.fieldLink RX10 29 "HookPier" "now" "LHookPier$Now;") (List.mem_of_getElem? (i := 9) rfl)) (fun _ h9 => h9) rfl dX10_bestDay_67 ?_
          refine va_get (D := (dC, dI)) (ci := 3) (v := .int n_n.1) (C := RX4) (T := TX4) (N := 7) hx hb hts ifX10_bestDay_X4 hown hK hP 11 rfl rfl 0 (by decide) (hts (.fieldLink RX10 134 "HookPier$Now" "today" "I") (List.mem_of_getElem? (i := 13) rfl)) (fun _ h9 => h9) rfl dX10_bestDay_70 ?_
          refine lv_iload hx hb dX10_bestDay_73 (lv_at hl 0 rfl) ?_
          refine lv_iadd hx hb dX10_bestDay_75 ?_
          obtain ⟨o76, eo76, h⟩ := bd_of h
          refine cl_i (wc := (bX6 a1 up kp p_p (bX4 a2 un kn n_n []))) (wr := ([(a0, .inr (7, [.ref a1, g8, g9, .ref a2, g10, g11, g12, g13, .int o5.2.1, .int o5.2.2]))])) (va_runS (As := [.ref a1, .ref a2, .int o21, .int (n_n.1 + v50_l4)]) (rest := []) ⟨hx, hb, hml, hown, hts⟩ (kfX3_worthTogether l dC dI a1 a2 o21 (n_n.1 + v50_l4) up kp un kn p_p n_n H.size o76 eo76) (va_cwS 4 hts gfX10_bestDay_3 rfl rfl rfl (by decide +kernel) ⟨(Nat.le_of_ble_eq_true rfl), (Nat.le_of_ble_eq_true rfl)⟩) (PS (hP.sub (ws' := (bX6 a1 up kp p_p (bX4 a2 un kn n_n []))) [1, 2, 3, 4, 5, 6, 7, 8, 9, 10, 11, 12, 13, 14, 15] rfl) (hK.sub (tys' := (tX6 kp (tX4 kn ([])))) [0, 1, 2, 3, 4, 5, 6, 7, 8, 9, 10, 11, 12] rfl) (hD.sub (ws' := (bX6 a1 up kp p_p (bX4 a2 un kn n_n []))) [1, 2, 3, 4, 5, 6, 7, 8, 9, 10, 11, 12, 13, 14, 15] (by decide) rfl) hN) rfl rfl hl.1 rfl (lv_room (Nat.le_of_ble_eq_true rfl)) dX10_bestDay_76 ⟨(Nat.le_of_ble_eq_true rfl), (Nat.le_of_ble_eq_true rfl)⟩) hP hD hK hS hA [1, 2, 3, 4, 5, 6, 7, 8, 9, 10, 11, 12, 13, 14, 15] [0] rfl rfl (by decide) (by decide) (fun r76 _ H locs hw hP hD _ hS => ?_)
          obtain rfl := hw.symm
          have hP : va_P (dC, dI) vwCl ((a0, .inr (7, [.ref a1, g8, g9, .ref a2, g10, g11, g12, g13, .int o5.2.1, .int o5.2.2])) :: bX6 a1 up kp p_p (bX4 a2 un kn n_n [])) H := hP
          have hD : va_D A ((a0, .inr (7, [.ref a1, g8, g9, .ref a2, g10, g11, g12, g13, .int o5.2.1, .int o5.2.2])) :: bX6 a1 up kp p_p (bX4 a2 un kn n_n [])) := hD
          refine lv_istore (lv' := [(5, .int o76), (4, .int v50_l4), (3, .int v50_l3), (2, .int v50_l2), (1, .int o21), (0, .ref a0)]) hx hb dX10_bestDay_79 hl (by decide) rfl (fun ls hl => ?_)
          refine lv_iload hx hb dX10_bestDay_81 (lv_at hl 0 rfl) ?_
          refine lv_iload_n hx hb dX10_bestDay_83 rfl (lv_at hl 2 rfl) ?_
          have J93 : ∀ (v93_l3 : Int32) (v93_l2 : Int32) (H : Heap) (locs : List Loc) (ls : Array Slot), f_X10_bestDay_J93 (f_X10_bestDay_L50 p_p n_n o21 o5 n50) v50_l4 v93_l3 v93_l2 = some out → va_P (dC, dI) vwCl ((a0, .inr (7, [.ref a1, g8, g9, .ref a2, g10, g11, g12, g13, .int o5.2.1, .int o5.2.2])) :: bX6 a1 up kp p_p (bX4 a2 un kn n_n [])) H → va_D A ((a0, .inr (7, [.ref a1, g8, g9, .ref a2, g10, g11, g12, g13, .int o5.2.1, .int o5.2.2])) :: bX6 a1 up kp p_p (bX4 a2 un kn n_n [])) → va_S A s.heap H locs → lv_has ls 6 [(4, .int v50_l4), (3, .int v93_l3), (2, .int v93_l2), (1, .int o21), (0, .ref a0)] → W p l e (headSpec vfX10_bestDay { frames := 4, cells := 0, slots := 0, locals := 91 }).room s m ([.ref a0]).toArray below meth c H locs 0 0 QQ (F0 m 93 ls []) := by
            intro v93_l3 v93_l2 H locs ls h  hP hD hS hl
            rw [f_X10_bestDay_J93] at h
            refine lv_iinc (v := (v50_l4 + (1 : Int32))) (lv' := [(4, .int (v50_l4 + (1 : Int32))), (3, .int v93_l3), (2, .int v93_l2), (1, .int o21), (0, .ref a0)]) hx hb dX10_bestDay_93 hl (k := 0) rfl rfl (by decide) rfl (fun ls hl => ?_)
            refine lv_goto (tgt := 50) hx hb dX10_bestDay_96 (by decide) ?_
            exact ih50 (v50_l4 + (1 : Int32)) v93_l3 v93_l2 H _ ls h  hP hD hS (lv_sub hl [0, 1, 2, 3, 4] rfl)
          refine lv_icmp_le (tgt := 93) hx hb dX10_bestDay_84 (by decide) (fun c84 => ?_) (fun c84 => ?_)
          · have h := (if_pos c84).symm.trans h
            exact J93 v50_l3 v50_l2 H _ ls h  hP hD hS (lv_sub hl [1, 2, 3, 4, 5] rfl)
          · have h := (if_neg c84).symm.trans h
            refine lv_iload hx hb dX10_bestDay_87 (lv_at hl 0 rfl) ?_
            refine lv_istore_n (lv' := [(3, .int o76), (5, .int o76), (4, .int v50_l4), (2, .int v50_l2), (1, .int o21), (0, .ref a0)]) hx hb dX10_bestDay_89 rfl hl (by decide) rfl (fun ls hl => ?_)
            refine lv_iload hx hb dX10_bestDay_90 (lv_at hl 2 rfl) ?_
            refine lv_istore_n (lv' := [(2, .int v50_l4), (3, .int o76), (5, .int o76), (4, .int v50_l4), (1, .int o21), (0, .ref a0)]) hx hb dX10_bestDay_92 rfl hl (by decide) rfl (fun ls hl => ?_)
            exact J93 o76 v50_l4 H _ ls h  hP hD hS (lv_sub hl [3, 1, 0, 4, 5] rfl)
    exact L50 FU (1 : Int32) o43 (0 : Int32) H _ ls h  hP hD hS (lv_sub hl [0, 1, 2, 3, 4] rfl)
  · have h := (if_neg c8).symm.trans h
    refine lv_iconst (v := (-1)) hx hb dX10_bestDay_11 (by decide) ?_
    obtain rfl := Option.some.inj h
    have hP9 := hP.sub (ws' := ((a0, .inr (7, [.ref a1, g8, g9, .ref a2, g10, g11, g12, g13, .int o5.2.1, .int o5.2.2])) :: bX6 a1 up kp p_p (bX4 a2 un kn n_n []))) [15, 5, 6, 7, 8, 9, 10, 11, 12, 13, 14, 0, 1, 2, 3, 4] rfl
    have hD9 := hD.sub (ws' := ((a0, .inr (7, [.ref a1, g8, g9, .ref a2, g10, g11, g12, g13, .int o5.2.1, .int o5.2.2])) :: bX6 a1 up kp p_p (bX4 a2 un kn n_n []))) [15, 5, 6, 7, 8, 9, 10, 11, 12, 13, 14, 0, 1, 2, 3, 4] (by decide) rfl
    have hK9 := hK.sub (tys' := []) [] rfl
    rw [hQQ]
    exact W.iret (v := (-1 : Int32)) hx hb hr (fun t ht hW => ⟨⟨(-1 : Int32), (), rfl, rfl, by rw [ht]; exact hP9, va_K.moved hW.alike hK9, hD9⟩, hS.F ht⟩) hS.2.2 dX10_bestDay_12
theorem dX10_hooksTrouble_0 : decode cX10_hooksTrouble 0 = .ok (.aload_n 0, 1) := by decide +kernel
theorem dX10_hooksTrouble_1 : decode cX10_hooksTrouble 1 = .ok (.getfield 10, 3) := by decide +kernel
theorem dX10_hooksTrouble_11 : decode cX10_hooksTrouble 11 = .ok (.aload_n 0, 1) := by decide +kernel
theorem dX10_hooksTrouble_12 : decode cX10_hooksTrouble 12 = .ok (.getfield 10, 3) := by decide +kernel
theorem dX10_hooksTrouble_15 : decode cX10_hooksTrouble 15 = .ok (.iload_n 2, 1) := by decide +kernel
theorem dX10_hooksTrouble_16 : decode cX10_hooksTrouble 16 = .ok (.invokevirtual 236, 3) := by decide +kernel
theorem dX10_hooksTrouble_19 : decode cX10_hooksTrouble 19 = .ok (.ifCond .eq 19, 3) := by decide +kernel
theorem dX10_hooksTrouble_22 : decode cX10_hooksTrouble 22 = .ok (.aload_n 0, 1) := by decide +kernel
theorem dX10_hooksTrouble_23 : decode cX10_hooksTrouble 23 = .ok (.getfield 10, 3) := by decide +kernel
theorem dX10_hooksTrouble_26 : decode cX10_hooksTrouble 26 = .ok (.iload_n 3, 1) := by decide +kernel
theorem dX10_hooksTrouble_27 : decode cX10_hooksTrouble 27 = .ok (.invokevirtual 236, 3) := by decide +kernel
theorem dX10_hooksTrouble_30 : decode cX10_hooksTrouble 30 = .ok (.ifCond .eq 8, 3) := by decide +kernel
theorem dX10_hooksTrouble_33 : decode cX10_hooksTrouble 33 = .ok (.iload_n 2, 1) := by decide +kernel
theorem dX10_hooksTrouble_34 : decode cX10_hooksTrouble 34 = .ok (.iload_n 3, 1) := by decide +kernel
theorem dX10_hooksTrouble_35 : decode cX10_hooksTrouble 35 = .ok (.if_icmp .ne 5, 3) := by decide +kernel
theorem dX10_hooksTrouble_38 : decode cX10_hooksTrouble 38 = .ok (.iconst 1, 1) := by decide +kernel
theorem dX10_hooksTrouble_39 : decode cX10_hooksTrouble 39 = .ok (.ireturn, 1) := by decide +kernel
theorem dX10_hooksTrouble_4 : decode cX10_hooksTrouble 4 = .ok (.iload_n 1, 1) := by decide +kernel
theorem dX10_hooksTrouble_40 : decode cX10_hooksTrouble 40 = .ok (.iload 4, 2) := by decide +kernel
theorem dX10_hooksTrouble_42 : decode cX10_hooksTrouble 42 = .ok (.iconst 0, 1) := by decide +kernel
theorem dX10_hooksTrouble_43 : decode cX10_hooksTrouble 43 = .ok (.sipush 999, 3) := by decide +kernel
theorem dX10_hooksTrouble_46 : decode cX10_hooksTrouble 46 = .ok (.invokestatic 75, 3) := by decide +kernel
theorem dX10_hooksTrouble_49 : decode cX10_hooksTrouble 49 = .ok (.ifCond .ne 5, 3) := by decide +kernel
theorem dX10_hooksTrouble_5 : decode cX10_hooksTrouble 5 = .ok (.invokevirtual 381, 3) := by decide +kernel
theorem dX10_hooksTrouble_52 : decode cX10_hooksTrouble 52 = .ok (.iconst 2, 1) := by decide +kernel
theorem dX10_hooksTrouble_53 : decode cX10_hooksTrouble 53 = .ok (.ireturn, 1) := by decide +kernel
theorem dX10_hooksTrouble_54 : decode cX10_hooksTrouble 54 = .ok (.aload_n 0, 1) := by decide +kernel
theorem dX10_hooksTrouble_55 : decode cX10_hooksTrouble 55 = .ok (.getfield 29, 3) := by decide +kernel
theorem dX10_hooksTrouble_58 : decode cX10_hooksTrouble 58 = .ok (.getfield 146, 3) := by decide +kernel
theorem dX10_hooksTrouble_61 : decode cX10_hooksTrouble 61 = .ok (.iload_n 2, 1) := by decide +kernel
theorem dX10_hooksTrouble_62 : decode cX10_hooksTrouble 62 = .ok (.iaload, 1) := by decide +kernel
theorem dX10_hooksTrouble_63 : decode cX10_hooksTrouble 63 = .ok (.iconst (-1), 1) := by decide +kernel
theorem dX10_hooksTrouble_64 : decode cX10_hooksTrouble 64 = .ok (.if_icmp .eq 16, 3) := by decide +kernel
theorem dX10_hooksTrouble_67 : decode cX10_hooksTrouble 67 = .ok (.aload_n 0, 1) := by decide +kernel
theorem dX10_hooksTrouble_68 : decode cX10_hooksTrouble 68 = .ok (.getfield 29, 3) := by decide +kernel
theorem dX10_hooksTrouble_71 : decode cX10_hooksTrouble 71 = .ok (.getfield 146, 3) := by decide +kernel
theorem dX10_hooksTrouble_74 : decode cX10_hooksTrouble 74 = .ok (.iload_n 3, 1) := by decide +kernel
theorem dX10_hooksTrouble_75 : decode cX10_hooksTrouble 75 = .ok (.iaload, 1) := by decide +kernel
theorem dX10_hooksTrouble_76 : decode cX10_hooksTrouble 76 = .ok (.iconst (-1), 1) := by decide +kernel
theorem dX10_hooksTrouble_77 : decode cX10_hooksTrouble 77 = .ok (.if_icmp .ne 7, 3) := by decide +kernel
theorem dX10_hooksTrouble_8 : decode cX10_hooksTrouble 8 = .ok (.ifCond .eq 30, 3) := by decide +kernel
theorem dX10_hooksTrouble_80 : decode cX10_hooksTrouble 80 = .ok (.iconst 5, 1) := by decide +kernel
theorem dX10_hooksTrouble_81 : decode cX10_hooksTrouble 81 = .ok (.goto 4, 3) := by decide +kernel
theorem dX10_hooksTrouble_84 : decode cX10_hooksTrouble 84 = .ok (.iconst 0, 1) := by decide +kernel
theorem dX10_hooksTrouble_85 : decode cX10_hooksTrouble 85 = .ok (.ireturn, 1) := by decide +kernel
def vfX10_hooksTrouble : List Cond := List.cons (.code yX10_hooksTrouble cX10_hooksTrouble 5 (some .int)) (apW [.fieldLink RX10 10 "HookPier" "plan" "LHookPier$Plan;", .methodLink RX10 381 yX6_hasAnswer, .instanceMethod yX6_hasAnswer, .selects RX6 yX6_hasAnswer yX6_hasAnswer, .initialized RX6, .methodLink RX10 236 yX6_hasAsker, .instanceMethod yX6_hasAsker, .selects RX6 yX6_hasAsker yX6_hasAsker, .methodLink RX10 75 yX10_within, .static yX10_within, .initialized RX10, .fieldLink RX10 29 "HookPier" "now" "LHookPier$Now;", .fieldLink RX10 146 "HookPier$Now" "line" "[I"] (apW wsX100 (apW wsX40 (apW vfX6_hasAnswer (apW vfX6_hasAsker (vfX10_within))))))
theorem ifX10_hooksTrouble_X10 : ∀ w ∈ wsX100, w ∈ vfX10_hooksTrouble := fun _ h => (List.mem_cons_of_mem _ (List.mem_append_right _ (List.mem_append_left _ h)))
theorem ifX10_hooksTrouble_X4 : ∀ w ∈ wsX40, w ∈ vfX10_hooksTrouble := fun _ h => (List.mem_cons_of_mem _ (List.mem_append_right _ (List.mem_append_right _ (List.mem_append_left _ h))))
theorem qfX10_hooksTrouble : Good vfX10_hooksTrouble := gd_cons (by decide +kernel) (gd_app (gd_dec (by decide +kernel) : Good [.fieldLink RX10 10 "HookPier" "plan" "LHookPier$Plan;", .methodLink RX10 381 yX6_hasAnswer, .instanceMethod yX6_hasAnswer, .selects RX6 yX6_hasAnswer yX6_hasAnswer, .initialized RX6, .methodLink RX10 236 yX6_hasAsker, .instanceMethod yX6_hasAsker, .selects RX6 yX6_hasAsker yX6_hasAsker, .methodLink RX10 75 yX10_within, .static yX10_within, .initialized RX10, .fieldLink RX10 29 "HookPier" "now" "LHookPier$Now;", .fieldLink RX10 146 "HookPier$Now" "line" "[I"]) (gd_app qsX10 (gd_app qsX4 (gd_app qfX6_hasAnswer (gd_app qfX6_hasAsker qfX10_within)))))
theorem gfX10_hooksTrouble_0 : GoodIn vfX10_hooksTrouble (wsV RX10 381 RX6 yX6_hasAnswer vfX6_hasAnswer) := goodIn_app (goodIn_r [.methodLink RX10 381 yX6_hasAnswer, .instanceMethod yX6_hasAnswer, .selects RX6 yX6_hasAnswer yX6_hasAnswer, .initialized RX6] [2, 3, 4, 5] rfl (by decide +kernel)) (goodIn_m (fun _ h => (List.mem_cons_of_mem _ (List.mem_append_right _ (List.mem_append_right _ (List.mem_append_right _ (List.mem_append_left _ h)))))) qfX6_hasAnswer)
theorem gfX10_hooksTrouble_1 : GoodIn vfX10_hooksTrouble (wsV RX10 236 RX6 yX6_hasAsker vfX6_hasAsker) := goodIn_app (goodIn_r [.methodLink RX10 236 yX6_hasAsker, .instanceMethod yX6_hasAsker, .selects RX6 yX6_hasAsker yX6_hasAsker, .initialized RX6] [6, 7, 8, 5] rfl (by decide +kernel)) (goodIn_m (fun _ h => (List.mem_cons_of_mem _ (List.mem_append_right _ (List.mem_append_right _ (List.mem_append_right _ (List.mem_append_right _ (List.mem_append_left _ h))))))) qfX6_hasAsker)
theorem gfX10_hooksTrouble_2 : GoodIn vfX10_hooksTrouble (va_wsS RX10 75 yX10_within vfX10_within) := goodIn_app (goodIn_r [.methodLink RX10 75 yX10_within, .static yX10_within, .initialized RX10] [9, 10, 11] rfl (by decide +kernel)) (goodIn_m (fun _ h => (List.mem_cons_of_mem _ (List.mem_append_right _ (List.mem_append_right _ (List.mem_append_right _ (List.mem_append_right _ (List.mem_append_right _ h))))))) qfX10_within)
set_option maxHeartbeats 2000000 in
set_option maxRecDepth 100000 in
theorem kfX10_hooksTrouble (l : Launch) (dC : Nat → ClassId) (dI : Nat → Nat → Nat) (a0 : Nat) (k1 : Int32) (k2 : Int32) (k3 : Int32) (k4 : Int32) (a5 : Nat) (a6 : Nat) (up : Nat → Nat) (kp : Nat → ClassId) (un : Nat → Nat) (kn : Nat → ClassId) (g11 : Value) (g12 : Value) (g13 : Value) (g14 : Value) (g15 : Value) (g16 : Value) (g17 : Value) (g18 : Value) (p_p : TX6_p) (n_n : TX4_n) (sz : Nat) (out : Int32) (h : f_X10_hooksTrouble k1 k2 k3 k4 p_p n_n = some out) : Met l yX10_hooksTrouble vfX10_hooksTrouble ({ frames := 2, cells := 0, slots := 0, locals := 43 }) (PC (dC, dI) [.ref a0, .int k1, .int k2, .int k3, .int k4] sz ((a0, .inr (7, [.ref a5, g11, g12, .ref a6, g13, g14, g15, g16, g17, g18])) :: bX6 a5 up kp p_p (bX4 a6 un kn n_n [])) (tX6 kp (tX4 kn ([])))) (va_Qi (S := Unit) (fun (r : Int32) _ => r = out) (fun _ t => BC (dC, dI) (va_A ((a0, .inr (7, [.ref a5, g11, g12, .ref a6, g13, g14, g15, g16, g17, g18])) :: bX6 a5 up kp p_p (bX4 a6 un kn n_n [])) sz) ((a0, .inr (7, [.ref a5, g11, g12, .ref a6, g13, g14, g15, g16, g17, g18])) :: bX6 a5 up kp p_p (bX4 a6 un kn n_n [])) [] t) (va_A ((a0, .inr (7, [.ref a5, g11, g12, .ref a6, g13, g14, g15, g16, g17, g18])) :: bX6 a5 up kp p_p (bX4 a6 un kn n_n [])) sz)) 0 0 (va_A ((a0, .inr (7, [.ref a5, g11, g12, .ref a6, g13, g14, g15, g16, g17, g18])) :: bX6 a5 up kp p_p (bX4 a6 un kn n_n [])) sz) := by
  refine Met.ofW (cc := cX10_hooksTrouble) (maxL := 5) (ret := (some .int)) (by decide) rfl ?_
  intro p e s m args below meth c s₁ B0 hml hv
  obtain ⟨rfl, hsz, hP, hK, hD0, hN⟩ := hv
  have hx := B0.exec
  have hb := B0.bytes
  have hr := B0.returns
  have hts := atoms_spec (ws := vfX10_hooksTrouble) B0.pre
  have hown : s.vm.findClass RX10 = some m.cls := findClass_of_methodNamed B0.named
  have hlocks := B0.notSynchronized
  subst hsz
  have hD := hD0.self (sz := s.heap.size)
  generalize hAe : va_A ((a0, .inr (7, [.ref a5, g11, g12, .ref a6, g13, g14, g15, g16, g17, g18])) :: bX6 a5 up kp p_p (bX4 a6 un kn n_n [])) s.heap.size = A at hD ⊢
  have hA : ∀ q : Nat, s.heap.size ≤ q → A q := fun q h => by rw [← hAe]; exact Or.inr h
  have hS : va_S A s.heap s.heap [] := va_S.rf
  have hP : va_P (dC, dI) vwCl ((a0, .inr (7, [.ref a5, g11, g12, .ref a6, g13, g14, g15, g16, g17, g18])) :: bX6 a5 up kp p_p (bX4 a6 un kn n_n [])) s.heap := hP
  have hl := lv_entry ([.ref a0, .int k1, .int k2, .int k3, .int k4]) (n := 5) (Nat.le_of_ble_eq_true rfl)
  rw [lg_entry_eq]
  generalize (lg_sl ([.ref a0, .int k1, .int k2, .int k3, .int k4]) ++ List.replicate (5 - (lg_sl ([.ref a0, .int k1, .int k2, .int k3, .int k4])).length) Slot.unset).toArray = ls at hl ⊢
  have hl : lv_has ls 5 [(0, .ref a0), (1, .int k1), (2, .int k2), (3, .int k3), (4, .int k4)] := hl
  refine W_q (fun QQ hQQ => ?_)
  rw [f_X10_hooksTrouble] at h
  refine lv_aload_n hx hb dX10_hooksTrouble_0 rfl (lv_at hl 0 rfl) ?_
  refine va_get (D := (dC, dI)) (ci := 7) (v := .ref a5) (C := RX10) (T := TX10) (N := 10) hx hb hts ifX10_hooksTrouble_X10 hown hK hP 0 rfl rfl 0 (by decide) (hts (.fieldLink RX10 10 "HookPier" "plan" "LHookPier$Plan;") (List.mem_of_getElem? (i := 1) rfl)) (fun _ h9 => h9) rfl dX10_hooksTrouble_1 ?_
  refine lv_iload_n hx hb dX10_hooksTrouble_4 rfl (lv_at hl 1 rfl) ?_
  obtain ⟨o5, eo5⟩ : ∃ o, o = f_X6_hasAnswer k1 p_p := ⟨_, rfl⟩
  have h := nm_of h o5 eo5
  refine cl_i (wc := (bX6 a5 up kp p_p [])) (wr := ((a0, .inr (7, [.ref a5, g11, g12, .ref a6, g13, g14, g15, g16, g17, g18])) :: bX4 a6 un kn n_n [])) (va_runV (As := [.int k1]) (rest := []) ⟨hx, hb, hml, hown, hts⟩ (kfX6_hasAnswer l dC dI a5 k1 up kp p_p s.heap.size o5 eo5.symm) (cwV 1 hts gfX10_hooksTrouble_0 rfl rfl rfl (by decide +kernel) ⟨(Nat.le_of_ble_eq_true rfl), (Nat.le_of_ble_eq_true rfl)⟩) (PV (hP.sub (ws' := (bX6 a5 up kp p_p [])) [1, 2, 3, 4, 5, 6, 7, 8, 9, 10] rfl) (hK.sub (tys' := (tX6 kp ([]))) [0, 1, 2, 3, 4, 5, 6, 7, 8] rfl) (hD.sub (ws' := (bX6 a5 up kp p_p [])) [1, 2, 3, 4, 5, 6, 7, 8, 9, 10] (by decide) rfl) hN 0 rfl rfl) rfl rfl hl.1 rfl (lv_room (Nat.le_of_ble_eq_true rfl)) dX10_hooksTrouble_5 ⟨(Nat.le_of_ble_eq_true rfl), (Nat.le_of_ble_eq_true rfl)⟩) hP hD hK hS hA [1, 2, 3, 4, 5, 6, 7, 8, 9, 10] [0, 11, 12, 13, 14, 15] rfl rfl (by decide) (by decide) (fun r5 _ H locs hw hP hD _ hS => ?_)
  obtain ⟨hw, br5⟩ := hw
  obtain rfl := hw.symm
  have hP : va_P (dC, dI) vwCl ((a0, .inr (7, [.ref a5, g11, g12, .ref a6, g13, g14, g15, g16, g17, g18])) :: bX4 a6 un kn n_n (bX6 a5 up kp p_p [])) H := hP
  have hD : va_D A ((a0, .inr (7, [.ref a5, g11, g12, .ref a6, g13, g14, g15, g16, g17, g18])) :: bX4 a6 un kn n_n (bX6 a5 up kp p_p [])) := hD
  refine lv_if_eq (tgt := 38) hx hb dX10_hooksTrouble_8 (by decide) (fun c8 => ?_) (fun c8 => ?_)
  · have h := (if_pos c8).symm.trans h
    refine lv_iconst (v := 1) hx hb dX10_hooksTrouble_38 (by decide) ?_
    obtain rfl := Option.some.inj h
    have hP9 := hP.sub (ws' := ((a0, .inr (7, [.ref a5, g11, g12, .ref a6, g13, g14, g15, g16, g17, g18])) :: bX6 a5 up kp p_p (bX4 a6 un kn n_n []))) [0, 6, 7, 8, 9, 10, 11, 12, 13, 14, 15, 1, 2, 3, 4, 5] rfl
    have hD9 := hD.sub (ws' := ((a0, .inr (7, [.ref a5, g11, g12, .ref a6, g13, g14, g15, g16, g17, g18])) :: bX6 a5 up kp p_p (bX4 a6 un kn n_n []))) [0, 6, 7, 8, 9, 10, 11, 12, 13, 14, 15, 1, 2, 3, 4, 5] (by decide) rfl
    have hK9 := hK.sub (tys' := []) [] rfl
    rw [hQQ]
    exact W.iret (v := (1 : Int32)) hx hb hr (fun t ht hW => ⟨⟨(1 : Int32), (), rfl, rfl, by rw [ht]; exact hP9, va_K.moved hW.alike hK9, hD9⟩, hS.F ht⟩) hS.2.2 dX10_hooksTrouble_39
  · have h := (if_neg c8).symm.trans h
    refine lv_aload_n hx hb dX10_hooksTrouble_11 rfl (lv_at hl 0 rfl) ?_
    refine va_get (D := (dC, dI)) (ci := 7) (v := .ref a5) (C := RX10) (T := TX10) (N := 10) hx hb hts ifX10_hooksTrouble_X10 hown hK hP 0 rfl rfl 0 (by decide) (hts (.fieldLink RX10 10 "HookPier" "plan" "LHookPier$Plan;") (List.mem_of_getElem? (i := 1) rfl)) (fun _ h9 => h9) rfl dX10_hooksTrouble_12 ?_
    refine lv_iload_n hx hb dX10_hooksTrouble_15 rfl (lv_at hl 2 rfl) ?_
    obtain ⟨o16, eo16⟩ : ∃ o, o = f_X6_hasAsker k2 p_p := ⟨_, rfl⟩
    have h := nm_of h o16 eo16
    refine cl_i (wc := (bX6 a5 up kp p_p [])) (wr := ((a0, .inr (7, [.ref a5, g11, g12, .ref a6, g13, g14, g15, g16, g17, g18])) :: bX4 a6 un kn n_n [])) (va_runV (As := [.int k2]) (rest := []) ⟨hx, hb, hml, hown, hts⟩ (kfX6_hasAsker l dC dI a5 k2 up kp p_p H.size o16 eo16.symm) (cwV 1 hts gfX10_hooksTrouble_1 rfl rfl rfl (by decide +kernel) ⟨(Nat.le_of_ble_eq_true rfl), (Nat.le_of_ble_eq_true rfl)⟩) (PV (hP.sub (ws' := (bX6 a5 up kp p_p [])) [6, 7, 8, 9, 10, 11, 12, 13, 14, 15] rfl) (hK.sub (tys' := (tX6 kp ([]))) [0, 1, 2, 3, 4, 5, 6, 7, 8] rfl) (hD.sub (ws' := (bX6 a5 up kp p_p [])) [6, 7, 8, 9, 10, 11, 12, 13, 14, 15] (by decide) rfl) hN 0 rfl rfl) rfl rfl hl.1 rfl (lv_room (Nat.le_of_ble_eq_true rfl)) dX10_hooksTrouble_16 ⟨(Nat.le_of_ble_eq_true rfl), (Nat.le_of_ble_eq_true rfl)⟩) hP hD hK hS hA [6, 7, 8, 9, 10, 11, 12, 13, 14, 15] [0, 1, 2, 3, 4, 5] rfl rfl (by decide) (by decide) (fun r16 _ H locs hw hP hD _ hS => ?_)
    obtain ⟨hw, br16⟩ := hw
    obtain rfl := hw.symm
    have hP : va_P (dC, dI) vwCl ((a0, .inr (7, [.ref a5, g11, g12, .ref a6, g13, g14, g15, g16, g17, g18])) :: bX4 a6 un kn n_n (bX6 a5 up kp p_p [])) H := hP
    have hD : va_D A ((a0, .inr (7, [.ref a5, g11, g12, .ref a6, g13, g14, g15, g16, g17, g18])) :: bX4 a6 un kn n_n (bX6 a5 up kp p_p [])) := hD
    refine lv_if_eq (tgt := 38) hx hb dX10_hooksTrouble_19 (by decide) (fun c19 => ?_) (fun c19 => ?_)
    · have h := (if_pos c19).symm.trans h
      refine lv_iconst (v := 1) hx hb dX10_hooksTrouble_38 (by decide) ?_
      obtain rfl := Option.some.inj h
      have hP9 := hP.sub (ws' := ((a0, .inr (7, [.ref a5, g11, g12, .ref a6, g13, g14, g15, g16, g17, g18])) :: bX6 a5 up kp p_p (bX4 a6 un kn n_n []))) [0, 6, 7, 8, 9, 10, 11, 12, 13, 14, 15, 1, 2, 3, 4, 5] rfl
      have hD9 := hD.sub (ws' := ((a0, .inr (7, [.ref a5, g11, g12, .ref a6, g13, g14, g15, g16, g17, g18])) :: bX6 a5 up kp p_p (bX4 a6 un kn n_n []))) [0, 6, 7, 8, 9, 10, 11, 12, 13, 14, 15, 1, 2, 3, 4, 5] (by decide) rfl
      have hK9 := hK.sub (tys' := []) [] rfl
      rw [hQQ]
      exact W.iret (v := (1 : Int32)) hx hb hr (fun t ht hW => ⟨⟨(1 : Int32), (), rfl, rfl, by rw [ht]; exact hP9, va_K.moved hW.alike hK9, hD9⟩, hS.F ht⟩) hS.2.2 dX10_hooksTrouble_39
    · have h := (if_neg c19).symm.trans h
      refine lv_aload_n hx hb dX10_hooksTrouble_22 rfl (lv_at hl 0 rfl) ?_
      refine va_get (D := (dC, dI)) (ci := 7) (v := .ref a5) (C := RX10) (T := TX10) (N := 10) hx hb hts ifX10_hooksTrouble_X10 hown hK hP 0 rfl rfl 0 (by decide) (hts (.fieldLink RX10 10 "HookPier" "plan" "LHookPier$Plan;") (List.mem_of_getElem? (i := 1) rfl)) (fun _ h9 => h9) rfl dX10_hooksTrouble_23 ?_
      refine lv_iload_n hx hb dX10_hooksTrouble_26 rfl (lv_at hl 3 rfl) ?_
      obtain ⟨o27, eo27⟩ : ∃ o, o = f_X6_hasAsker k3 p_p := ⟨_, rfl⟩
      have h := nm_of h o27 eo27
      refine cl_i (wc := (bX6 a5 up kp p_p [])) (wr := ((a0, .inr (7, [.ref a5, g11, g12, .ref a6, g13, g14, g15, g16, g17, g18])) :: bX4 a6 un kn n_n [])) (va_runV (As := [.int k3]) (rest := []) ⟨hx, hb, hml, hown, hts⟩ (kfX6_hasAsker l dC dI a5 k3 up kp p_p H.size o27 eo27.symm) (cwV 1 hts gfX10_hooksTrouble_1 rfl rfl rfl (by decide +kernel) ⟨(Nat.le_of_ble_eq_true rfl), (Nat.le_of_ble_eq_true rfl)⟩) (PV (hP.sub (ws' := (bX6 a5 up kp p_p [])) [6, 7, 8, 9, 10, 11, 12, 13, 14, 15] rfl) (hK.sub (tys' := (tX6 kp ([]))) [0, 1, 2, 3, 4, 5, 6, 7, 8] rfl) (hD.sub (ws' := (bX6 a5 up kp p_p [])) [6, 7, 8, 9, 10, 11, 12, 13, 14, 15] (by decide) rfl) hN 0 rfl rfl) rfl rfl hl.1 rfl (lv_room (Nat.le_of_ble_eq_true rfl)) dX10_hooksTrouble_27 ⟨(Nat.le_of_ble_eq_true rfl), (Nat.le_of_ble_eq_true rfl)⟩) hP hD hK hS hA [6, 7, 8, 9, 10, 11, 12, 13, 14, 15] [0, 1, 2, 3, 4, 5] rfl rfl (by decide) (by decide) (fun r27 _ H locs hw hP hD _ hS => ?_)
      obtain ⟨hw, br27⟩ := hw
      obtain rfl := hw.symm
      have hP : va_P (dC, dI) vwCl ((a0, .inr (7, [.ref a5, g11, g12, .ref a6, g13, g14, g15, g16, g17, g18])) :: bX4 a6 un kn n_n (bX6 a5 up kp p_p [])) H := hP
      have hD : va_D A ((a0, .inr (7, [.ref a5, g11, g12, .ref a6, g13, g14, g15, g16, g17, g18])) :: bX4 a6 un kn n_n (bX6 a5 up kp p_p [])) := hD
      refine lv_if_eq (tgt := 38) hx hb dX10_hooksTrouble_30 (by decide) (fun c30 => ?_) (fun c30 => ?_)
      · have h := (if_pos c30).symm.trans h
        refine lv_iconst (v := 1) hx hb dX10_hooksTrouble_38 (by decide) ?_
        obtain rfl := Option.some.inj h
        have hP9 := hP.sub (ws' := ((a0, .inr (7, [.ref a5, g11, g12, .ref a6, g13, g14, g15, g16, g17, g18])) :: bX6 a5 up kp p_p (bX4 a6 un kn n_n []))) [0, 6, 7, 8, 9, 10, 11, 12, 13, 14, 15, 1, 2, 3, 4, 5] rfl
        have hD9 := hD.sub (ws' := ((a0, .inr (7, [.ref a5, g11, g12, .ref a6, g13, g14, g15, g16, g17, g18])) :: bX6 a5 up kp p_p (bX4 a6 un kn n_n []))) [0, 6, 7, 8, 9, 10, 11, 12, 13, 14, 15, 1, 2, 3, 4, 5] (by decide) rfl
        have hK9 := hK.sub (tys' := []) [] rfl
        rw [hQQ]
        exact W.iret (v := (1 : Int32)) hx hb hr (fun t ht hW => ⟨⟨(1 : Int32), (), rfl, rfl, by rw [ht]; exact hP9, va_K.moved hW.alike hK9, hD9⟩, hS.F ht⟩) hS.2.2 dX10_hooksTrouble_39
      · have h := (if_neg c30).symm.trans h
        refine lv_iload_n hx hb dX10_hooksTrouble_33 rfl (lv_at hl 2 rfl) ?_
        refine lv_iload_n hx hb dX10_hooksTrouble_34 rfl (lv_at hl 3 rfl) ?_
        refine lv_icmp_ne (tgt := 40) hx hb dX10_hooksTrouble_35 (by decide) (fun c35 => ?_) (fun c35 => ?_)
        · have h := (if_neg c35).symm.trans h
          refine lv_iload hx hb dX10_hooksTrouble_40 (lv_at hl 4 rfl) ?_
          refine lv_iconst (v := 0) hx hb dX10_hooksTrouble_42 (by decide) ?_
          refine lv_sipush (v := 999) hx hb dX10_hooksTrouble_43 (by decide) ?_
          obtain ⟨o46, eo46⟩ : ∃ o, o = f_X10_within k4 (0 : Int32) (999 : Int32) := ⟨_, rfl⟩
          have h := nm_of h o46 eo46
          refine cl_i (wc := []) (wr := ((a0, .inr (7, [.ref a5, g11, g12, .ref a6, g13, g14, g15, g16, g17, g18])) :: bX4 a6 un kn n_n (bX6 a5 up kp p_p []))) (va_runS (As := [.int k4, .int 0, .int 999]) (rest := []) ⟨hx, hb, hml, hown, hts⟩ (kfX10_within l dC dI k4 (0 : Int32) (999 : Int32) H.size o46 eo46.symm) (va_cwS 3 hts gfX10_hooksTrouble_2 rfl rfl rfl (by decide +kernel) ⟨(Nat.le_of_ble_eq_true rfl), (Nat.le_of_ble_eq_true rfl)⟩) (PS (hP.sub (ws' := []) [] rfl) (hK.sub (tys' := ([])) [] rfl) (hD.sub (ws' := []) [] (by decide) rfl) hN) rfl rfl hl.1 rfl (lv_room (Nat.le_of_ble_eq_true rfl)) dX10_hooksTrouble_46 ⟨(Nat.le_of_ble_eq_true rfl), (Nat.le_of_ble_eq_true rfl)⟩) hP hD hK hS hA [] [0, 1, 2, 3, 4, 5, 6, 7, 8, 9, 10, 11, 12, 13, 14, 15] rfl rfl (by decide) (by decide) (fun r46 _ H locs hw hP hD _ hS => ?_)
          obtain ⟨hw, br46⟩ := hw
          obtain rfl := hw.symm
          have hP : va_P (dC, dI) vwCl ((a0, .inr (7, [.ref a5, g11, g12, .ref a6, g13, g14, g15, g16, g17, g18])) :: bX4 a6 un kn n_n (bX6 a5 up kp p_p [])) H := hP
          have hD : va_D A ((a0, .inr (7, [.ref a5, g11, g12, .ref a6, g13, g14, g15, g16, g17, g18])) :: bX4 a6 un kn n_n (bX6 a5 up kp p_p [])) := hD
          refine lv_if_ne (tgt := 54) hx hb dX10_hooksTrouble_49 (by decide) (fun c49 => ?_) (fun c49 => ?_)
          · have h := (if_neg c49).symm.trans h
            refine lv_aload_n hx hb dX10_hooksTrouble_54 rfl (lv_at hl 0 rfl) ?_
            refine va_get (D := (dC, dI)) (ci := 7) (v := .ref a6) (C := RX10) (T := TX10) (N := 10) hx hb hts ifX10_hooksTrouble_X10 hown hK hP 0 rfl rfl 3 (by decide) (hts (.fieldLink RX10 29 "HookPier" "now" "LHookPier$Now;") (List.mem_of_getElem? (i := 12) rfl)) (fun _ h9 => h9) rfl dX10_hooksTrouble_55 ?_
            refine va_get (D := (dC, dI)) (ci := 3) (v := .ref (un 3)) (C := RX4) (T := TX4) (N := 7) hx hb hts ifX10_hooksTrouble_X4 hown hK hP 1 rfl rfl 6 (by decide) (hts (.fieldLink RX10 146 "HookPier$Now" "line" "[I") (List.mem_of_getElem? (i := 13) rfl)) (fun _ h9 => h9) rfl dX10_hooksTrouble_58 ?_
            refine lv_iload_n hx hb dX10_hooksTrouble_61 rfl (lv_at hl 2 rfl) ?_
            obtain ⟨hg62, h⟩ := gA_of h
            refine va_iald hx hb hK hP 5 12 rfl rfl hg62 dX10_hooksTrouble_62 ?_
            refine lv_iconst (v := (-1)) hx hb dX10_hooksTrouble_63 (by decide) ?_
            have J80 : ∀ (H : Heap) (locs : List Loc) (ls : Array Slot), f_X10_hooksTrouble_J80 = some out → va_P (dC, dI) vwCl ((a0, .inr (7, [.ref a5, g11, g12, .ref a6, g13, g14, g15, g16, g17, g18])) :: bX4 a6 un kn n_n (bX6 a5 up kp p_p [])) H → va_D A ((a0, .inr (7, [.ref a5, g11, g12, .ref a6, g13, g14, g15, g16, g17, g18])) :: bX4 a6 un kn n_n (bX6 a5 up kp p_p [])) → va_S A s.heap H locs → lv_has ls 5 [] → W p l e (headSpec vfX10_hooksTrouble { frames := 2, cells := 0, slots := 0, locals := 43 }).room s m ([.ref a0, .int k1, .int k2, .int k3, .int k4]).toArray below meth c H locs 0 0 QQ (F0 m 80 ls []) := by
              intro  H locs ls h  hP hD hS hl
              rw [f_X10_hooksTrouble_J80] at h
              refine lv_iconst (v := 5) hx hb dX10_hooksTrouble_80 (by decide) ?_
              refine lv_goto (tgt := 85) hx hb dX10_hooksTrouble_81 (by decide) ?_
              obtain rfl := Option.some.inj h
              have hP9 := hP.sub (ws' := ((a0, .inr (7, [.ref a5, g11, g12, .ref a6, g13, g14, g15, g16, g17, g18])) :: bX6 a5 up kp p_p (bX4 a6 un kn n_n []))) [0, 6, 7, 8, 9, 10, 11, 12, 13, 14, 15, 1, 2, 3, 4, 5] rfl
              have hD9 := hD.sub (ws' := ((a0, .inr (7, [.ref a5, g11, g12, .ref a6, g13, g14, g15, g16, g17, g18])) :: bX6 a5 up kp p_p (bX4 a6 un kn n_n []))) [0, 6, 7, 8, 9, 10, 11, 12, 13, 14, 15, 1, 2, 3, 4, 5] (by decide) rfl
              have hK9 := hK.sub (tys' := []) [] rfl
              rw [hQQ]
              exact W.iret (v := (5 : Int32)) hx hb hr (fun t ht hW => ⟨⟨(5 : Int32), (), rfl, rfl, by rw [ht]; exact hP9, va_K.moved hW.alike hK9, hD9⟩, hS.F ht⟩) hS.2.2 dX10_hooksTrouble_85
            refine lv_icmp_eq (tgt := 80) hx hb dX10_hooksTrouble_64 (by decide) (fun c64 => ?_) (fun c64 => ?_)
            · have h := (if_pos c64).symm.trans h
              exact J80  H _ ls h  hP hD hS (lv_sub hl [] rfl)
            · have h := (if_neg c64).symm.trans h
              refine lv_aload_n hx hb dX10_hooksTrouble_67 rfl (lv_at hl 0 rfl) ?_
              refine va_get (D := (dC, dI)) (ci := 7) (v := .ref a6) (C := RX10) (T := TX10) (N := 10) hx hb hts ifX10_hooksTrouble_X10 hown hK hP 0 rfl rfl 3 (by decide) (hts (.fieldLink RX10 29 "HookPier" "now" "LHookPier$Now;") (List.mem_of_getElem? (i := 12) rfl)) (fun _ h9 => h9) rfl dX10_hooksTrouble_68 ?_
              refine va_get (D := (dC, dI)) (ci := 3) (v := .ref (un 3)) (C := RX4) (T := TX4) (N := 7) hx hb hts ifX10_hooksTrouble_X4 hown hK hP 1 rfl rfl 6 (by decide) (hts (.fieldLink RX10 146 "HookPier$Now" "line" "[I") (List.mem_of_getElem? (i := 13) rfl)) (fun _ h9 => h9) rfl dX10_hooksTrouble_71 ?_
              refine lv_iload_n hx hb dX10_hooksTrouble_74 rfl (lv_at hl 3 rfl) ?_
              obtain ⟨hg75, h⟩ := gA_of h
              refine va_iald hx hb hK hP 5 12 rfl rfl hg75 dX10_hooksTrouble_75 ?_
              refine lv_iconst (v := (-1)) hx hb dX10_hooksTrouble_76 (by decide) ?_
              refine lv_icmp_ne (tgt := 84) hx hb dX10_hooksTrouble_77 (by decide) (fun c77 => ?_) (fun c77 => ?_)
              · have h := (if_neg c77).symm.trans h
                refine lv_iconst (v := 0) hx hb dX10_hooksTrouble_84 (by decide) ?_
                obtain rfl := Option.some.inj h
                have hP9 := hP.sub (ws' := ((a0, .inr (7, [.ref a5, g11, g12, .ref a6, g13, g14, g15, g16, g17, g18])) :: bX6 a5 up kp p_p (bX4 a6 un kn n_n []))) [0, 6, 7, 8, 9, 10, 11, 12, 13, 14, 15, 1, 2, 3, 4, 5] rfl
                have hD9 := hD.sub (ws' := ((a0, .inr (7, [.ref a5, g11, g12, .ref a6, g13, g14, g15, g16, g17, g18])) :: bX6 a5 up kp p_p (bX4 a6 un kn n_n []))) [0, 6, 7, 8, 9, 10, 11, 12, 13, 14, 15, 1, 2, 3, 4, 5] (by decide) rfl
                have hK9 := hK.sub (tys' := []) [] rfl
                rw [hQQ]
                exact W.iret (v := (0 : Int32)) hx hb hr (fun t ht hW => ⟨⟨(0 : Int32), (), rfl, rfl, by rw [ht]; exact hP9, va_K.moved hW.alike hK9, hD9⟩, hS.F ht⟩) hS.2.2 dX10_hooksTrouble_85
              · have h := (if_pos c77).symm.trans h
                exact J80  H _ ls h  hP hD hS (lv_sub hl [] rfl)
          · have h := (if_pos c49).symm.trans h
            refine lv_iconst (v := 2) hx hb dX10_hooksTrouble_52 (by decide) ?_
            obtain rfl := Option.some.inj h
            have hP9 := hP.sub (ws' := ((a0, .inr (7, [.ref a5, g11, g12, .ref a6, g13, g14, g15, g16, g17, g18])) :: bX6 a5 up kp p_p (bX4 a6 un kn n_n []))) [0, 6, 7, 8, 9, 10, 11, 12, 13, 14, 15, 1, 2, 3, 4, 5] rfl
            have hD9 := hD.sub (ws' := ((a0, .inr (7, [.ref a5, g11, g12, .ref a6, g13, g14, g15, g16, g17, g18])) :: bX6 a5 up kp p_p (bX4 a6 un kn n_n []))) [0, 6, 7, 8, 9, 10, 11, 12, 13, 14, 15, 1, 2, 3, 4, 5] (by decide) rfl
            have hK9 := hK.sub (tys' := []) [] rfl
            rw [hQQ]
            exact W.iret (v := (2 : Int32)) hx hb hr (fun t ht hW => ⟨⟨(2 : Int32), (), rfl, rfl, by rw [ht]; exact hP9, va_K.moved hW.alike hK9, hD9⟩, hS.F ht⟩) hS.2.2 dX10_hooksTrouble_53
        · have h := (if_pos c35).symm.trans h
          refine lv_iconst (v := 1) hx hb dX10_hooksTrouble_38 (by decide) ?_
          obtain rfl := Option.some.inj h
          have hP9 := hP.sub (ws' := ((a0, .inr (7, [.ref a5, g11, g12, .ref a6, g13, g14, g15, g16, g17, g18])) :: bX6 a5 up kp p_p (bX4 a6 un kn n_n []))) [0, 6, 7, 8, 9, 10, 11, 12, 13, 14, 15, 1, 2, 3, 4, 5] rfl
          have hD9 := hD.sub (ws' := ((a0, .inr (7, [.ref a5, g11, g12, .ref a6, g13, g14, g15, g16, g17, g18])) :: bX6 a5 up kp p_p (bX4 a6 un kn n_n []))) [0, 6, 7, 8, 9, 10, 11, 12, 13, 14, 15, 1, 2, 3, 4, 5] (by decide) rfl
          have hK9 := hK.sub (tys' := []) [] rfl
          rw [hQQ]
          exact W.iret (v := (1 : Int32)) hx hb hr (fun t ht hW => ⟨⟨(1 : Int32), (), rfl, rfl, by rw [ht]; exact hP9, va_K.moved hW.alike hK9, hD9⟩, hS.F ht⟩) hS.2.2 dX10_hooksTrouble_39
