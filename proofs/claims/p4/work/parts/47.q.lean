theorem dX10_seat_0 : decode cX10_seat 0 = .ok (.aload_n 0, 1) := by decide +kernel
theorem dX10_seat_1 : decode cX10_seat 1 = .ok (.aload_n 0, 1) := by decide +kernel
theorem dX10_seat_12 : decode cX10_seat 12 = .ok (.iconst (-1), 1) := by decide +kernel
theorem dX10_seat_13 : decode cX10_seat 13 = .ok (.ireturn, 1) := by decide +kernel
theorem dX10_seat_14 : decode cX10_seat 14 = .ok (.aload_n 0, 1) := by decide +kernel
theorem dX10_seat_15 : decode cX10_seat 15 = .ok (.getfield 43, 3) := by decide +kernel
theorem dX10_seat_18 : decode cX10_seat 18 = .ok (.aload_n 0, 1) := by decide +kernel
theorem dX10_seat_19 : decode cX10_seat 19 = .ok (.getfield 10, 3) := by decide +kernel
theorem dX10_seat_2 : decode cX10_seat 2 = .ok (.iload_n 1, 1) := by decide +kernel
theorem dX10_seat_22 : decode cX10_seat 22 = .ok (.aload_n 0, 1) := by decide +kernel
theorem dX10_seat_23 : decode cX10_seat 23 = .ok (.invokevirtual 249, 3) := by decide +kernel
theorem dX10_seat_26 : decode cX10_seat 26 = .ok (.iconst 1, 1) := by decide +kernel
theorem dX10_seat_27 : decode cX10_seat 27 = .ok (.invokevirtual 252, 3) := by decide +kernel
theorem dX10_seat_3 : decode cX10_seat 3 = .ok (.invokevirtual 143, 3) := by decide +kernel
theorem dX10_seat_30 : decode cX10_seat 30 = .ok (.ifCond .ne 8, 3) := by decide +kernel
theorem dX10_seat_33 : decode cX10_seat 33 = .ok (.bipush (-2), 2) := by decide +kernel
theorem dX10_seat_35 : decode cX10_seat 35 = .ok (.goto 12, 3) := by decide +kernel
theorem dX10_seat_38 : decode cX10_seat 38 = .ok (.aload_n 0, 1) := by decide +kernel
theorem dX10_seat_39 : decode cX10_seat 39 = .ok (.getfield 43, 3) := by decide +kernel
theorem dX10_seat_42 : decode cX10_seat 42 = .ok (.getfield 256, 3) := by decide +kernel
theorem dX10_seat_45 : decode cX10_seat 45 = .ok (.iload_n 1, 1) := by decide +kernel
theorem dX10_seat_46 : decode cX10_seat 46 = .ok (.iaload, 1) := by decide +kernel
theorem dX10_seat_47 : decode cX10_seat 47 = .ok (.ireturn, 1) := by decide +kernel
theorem dX10_seat_6 : decode cX10_seat 6 = .ok (.invokevirtual 79, 3) := by decide +kernel
theorem dX10_seat_9 : decode cX10_seat 9 = .ok (.ifCond .eq 5, 3) := by decide +kernel
def vfX10_seat : List Cond := List.cons (.code yX10_seat cX10_seat 2 (some .int)) (apW [.methodLink RX10 143 yX10_askerTrouble, .instanceMethod yX10_askerTrouble, .selects RX10 yX10_askerTrouble yX10_askerTrouble, .initialized RX10, .methodLink RX10 79 yX10_refused, .instanceMethod yX10_refused, .selects RX10 yX10_refused yX10_refused, .fieldLink RX10 43 "HookPier" "seats" "LHookPier$Seats;", .fieldLink RX10 10 "HookPier" "plan" "LHookPier$Plan;", .methodLink RX10 249 yX10_everyAsker, .instanceMethod yX10_everyAsker, .selects RX10 yX10_everyAsker yX10_everyAsker, .methodLink RX10 252 yX8_countRows, .instanceMethod yX8_countRows, .selects RX8 yX8_countRows yX8_countRows, .initialized RX8, .fieldLink RX10 256 "HookPier$Seats" "first" "[I"] (apW wsX100 (apW wsX80 (apW vfX10_askerTrouble (apW vfX10_refused (apW vfX10_everyAsker (vfX8_countRows)))))))
theorem ifX10_seat_X10 : ∀ w ∈ wsX100, w ∈ vfX10_seat := fun _ h => (List.mem_cons_of_mem _ (List.mem_append_right _ (List.mem_append_left _ h)))
theorem ifX10_seat_X8 : ∀ w ∈ wsX80, w ∈ vfX10_seat := fun _ h => (List.mem_cons_of_mem _ (List.mem_append_right _ (List.mem_append_right _ (List.mem_append_left _ h))))
theorem qfX10_seat : Good vfX10_seat := gd_cons (by decide +kernel) (gd_app (gd_dec (by decide +kernel) : Good [.methodLink RX10 143 yX10_askerTrouble, .instanceMethod yX10_askerTrouble, .selects RX10 yX10_askerTrouble yX10_askerTrouble, .initialized RX10, .methodLink RX10 79 yX10_refused, .instanceMethod yX10_refused, .selects RX10 yX10_refused yX10_refused, .fieldLink RX10 43 "HookPier" "seats" "LHookPier$Seats;", .fieldLink RX10 10 "HookPier" "plan" "LHookPier$Plan;", .methodLink RX10 249 yX10_everyAsker, .instanceMethod yX10_everyAsker, .selects RX10 yX10_everyAsker yX10_everyAsker, .methodLink RX10 252 yX8_countRows, .instanceMethod yX8_countRows, .selects RX8 yX8_countRows yX8_countRows, .initialized RX8, .fieldLink RX10 256 "HookPier$Seats" "first" "[I"]) (gd_app qsX10 (gd_app qsX8 (gd_app qfX10_askerTrouble (gd_app qfX10_refused (gd_app qfX10_everyAsker qfX8_countRows))))))
theorem gfX10_seat_0 : GoodIn vfX10_seat (wsV RX10 143 RX10 yX10_askerTrouble vfX10_askerTrouble) := goodIn_app (goodIn_r [.methodLink RX10 143 yX10_askerTrouble, .instanceMethod yX10_askerTrouble, .selects RX10 yX10_askerTrouble yX10_askerTrouble, .initialized RX10] [1, 2, 3, 4] rfl (by decide +kernel)) (goodIn_m (fun _ h => (List.mem_cons_of_mem _ (List.mem_append_right _ (List.mem_append_right _ (List.mem_append_right _ (List.mem_append_left _ h)))))) qfX10_askerTrouble)
theorem gfX10_seat_1 : GoodIn vfX10_seat (wsV RX10 79 RX10 yX10_refused vfX10_refused) := goodIn_app (goodIn_r [.methodLink RX10 79 yX10_refused, .instanceMethod yX10_refused, .selects RX10 yX10_refused yX10_refused, .initialized RX10] [5, 6, 7, 4] rfl (by decide +kernel)) (goodIn_m (fun _ h => (List.mem_cons_of_mem _ (List.mem_append_right _ (List.mem_append_right _ (List.mem_append_right _ (List.mem_append_right _ (List.mem_append_left _ h))))))) qfX10_refused)
theorem gfX10_seat_2 : GoodIn vfX10_seat (wsV RX10 249 RX10 yX10_everyAsker vfX10_everyAsker) := goodIn_app (goodIn_r [.methodLink RX10 249 yX10_everyAsker, .instanceMethod yX10_everyAsker, .selects RX10 yX10_everyAsker yX10_everyAsker, .initialized RX10] [10, 11, 12, 4] rfl (by decide +kernel)) (goodIn_m (fun _ h => (List.mem_cons_of_mem _ (List.mem_append_right _ (List.mem_append_right _ (List.mem_append_right _ (List.mem_append_right _ (List.mem_append_right _ (List.mem_append_left _ h)))))))) qfX10_everyAsker)
theorem gfX10_seat_3 : GoodIn vfX10_seat (wsV RX10 252 RX8 yX8_countRows vfX8_countRows) := goodIn_app (goodIn_r [.methodLink RX10 252 yX8_countRows, .instanceMethod yX8_countRows, .selects RX8 yX8_countRows yX8_countRows, .initialized RX8] [13, 14, 15, 16] rfl (by decide +kernel)) (goodIn_m (fun _ h => (List.mem_cons_of_mem _ (List.mem_append_right _ (List.mem_append_right _ (List.mem_append_right _ (List.mem_append_right _ (List.mem_append_right _ (List.mem_append_right _ h)))))))) qfX8_countRows)
set_option maxHeartbeats 2000000 in
set_option maxRecDepth 100000 in
theorem kfX10_seat (l : Launch) (dC : Nat → ClassId) (dI : Nat → Nat → Nat) (a0 : Nat) (k1 : Int32) (a2 : Nat) (a3 : Nat) (up : Nat → Nat) (kp : Nat → ClassId) (us : Nat → Nat) (ks : Nat → ClassId) (x_x : TX10_x) (g9 : Value) (g10 : Value) (g11 : Value) (g12 : Value) (g13 : Value) (g14 : Value) (p_p : TX6_p) (s_s : TX8_s) (sz : Nat) (out : (Int32 × TX10_x × TX8_s)) (h : f_X10_seat k1 x_x p_p s_s = some out) : Met l yX10_seat vfX10_seat ({ frames := 9, cells := 0, slots := 0, locals := 233 }) (PC (dC, dI) [.ref a0, .int k1] sz ((a0, .inr (7, [.ref a2, g9, g10, g11, g12, .ref a3, g13, g14, .int x_x.1, .int x_x.2])) :: bX6 a2 up kp p_p (bX8 a3 us ks s_s [])) (tX6 kp (tX8 ks ([])))) (va_Qi (S := Unit) (fun (r : Int32) _ => r = out.1) (fun _ t => BC (dC, dI) (va_A ((a0, .inr (7, [.ref a2, g9, g10, g11, g12, .ref a3, g13, g14, .int x_x.1, .int x_x.2])) :: bX6 a2 up kp p_p (bX8 a3 us ks s_s [])) sz) ((a0, .inr (7, [.ref a2, g9, g10, g11, g12, .ref a3, g13, g14, .int out.2.1.1, .int out.2.1.2])) :: bX6 a2 up kp p_p (bX8 a3 us ks out.2.2 [])) [] t) (va_A ((a0, .inr (7, [.ref a2, g9, g10, g11, g12, .ref a3, g13, g14, .int x_x.1, .int x_x.2])) :: bX6 a2 up kp p_p (bX8 a3 us ks s_s [])) sz)) 0 0 (va_A ((a0, .inr (7, [.ref a2, g9, g10, g11, g12, .ref a3, g13, g14, .int x_x.1, .int x_x.2])) :: bX6 a2 up kp p_p (bX8 a3 us ks s_s [])) sz) := by
  refine Met.ofW (cc := cX10_seat) (maxL := 2) (ret := (some .int)) (by decide) rfl ?_
  intro p e s m args below meth c s₁ B0 hml hv
  obtain ⟨rfl, hsz, hP, hK, hD0, hN⟩ := hv
  have hx := B0.exec
  have hb := B0.bytes
  have hr := B0.returns
  have hts := atoms_spec (ws := vfX10_seat) B0.pre
  have hown : s.vm.findClass RX10 = some m.cls := findClass_of_methodNamed B0.named
  have hlocks := B0.notSynchronized
  subst hsz
  have hD := hD0.self (sz := s.heap.size)
  generalize hAe : va_A ((a0, .inr (7, [.ref a2, g9, g10, g11, g12, .ref a3, g13, g14, .int x_x.1, .int x_x.2])) :: bX6 a2 up kp p_p (bX8 a3 us ks s_s [])) s.heap.size = A at hD ⊢
  have hA : ∀ q : Nat, s.heap.size ≤ q → A q := fun q h => by rw [← hAe]; exact Or.inr h
  have hS : va_S A s.heap s.heap [] := va_S.rf
  have hP : va_P (dC, dI) vwCl ((a0, .inr (7, [.ref a2, g9, g10, g11, g12, .ref a3, g13, g14, .int x_x.1, .int x_x.2])) :: bX6 a2 up kp p_p (bX8 a3 us ks s_s [])) s.heap := hP
  have hl := lv_entry ([.ref a0, .int k1]) (n := 2) (Nat.le_of_ble_eq_true rfl)
  rw [lg_entry_eq]
  generalize (lg_sl ([.ref a0, .int k1]) ++ List.replicate (2 - (lg_sl ([.ref a0, .int k1])).length) Slot.unset).toArray = ls at hl ⊢
  have hl : lv_has ls 2 [(0, .ref a0), (1, .int k1)] := hl
  refine W_q (fun QQ hQQ => ?_)
  rw [f_X10_seat] at h
  refine lv_aload_n hx hb dX10_seat_0 rfl (lv_at hl 0 rfl) ?_
  refine lv_aload_n hx hb dX10_seat_1 rfl (lv_at hl 0 rfl) ?_
  refine lv_iload_n hx hb dX10_seat_2 rfl (lv_at hl 1 rfl) ?_
  obtain ⟨o3, eo3⟩ : ∃ o, o = f_X10_askerTrouble k1 p_p := ⟨_, rfl⟩
  have h := nm_of h o3 eo3
  refine cl_i (wc := ((a0, .inr (7, [.ref a2, g9, g10, g11, g12, .ref a3, g13, g14, .int x_x.1, .int x_x.2])) :: bX6 a2 up kp p_p [])) (wr := (bX8 a3 us ks s_s [])) (va_runV (As := [.int k1]) (rest := [.ref a0]) ⟨hx, hb, hml, hown, hts⟩ (kfX10_askerTrouble l dC dI a0 k1 a2 up kp (g9) (g10) (g11) (g12) (.ref a3) (g13) (g14) (.int x_x.1) (.int x_x.2) p_p s.heap.size o3 eo3.symm) (cwV 1 hts gfX10_seat_0 rfl rfl rfl (by decide +kernel) ⟨(Nat.le_of_ble_eq_true rfl), (Nat.le_of_ble_eq_true rfl)⟩) (PV (hP.sub (ws' := ((a0, .inr (7, [.ref a2, g9, g10, g11, g12, .ref a3, g13, g14, .int x_x.1, .int x_x.2])) :: bX6 a2 up kp p_p [])) [0, 1, 2, 3, 4, 5, 6, 7, 8, 9, 10] rfl) (hK.sub (tys' := (tX6 kp ([]))) [0, 1, 2, 3, 4, 5, 6, 7, 8] rfl) (hD.sub (ws' := ((a0, .inr (7, [.ref a2, g9, g10, g11, g12, .ref a3, g13, g14, .int x_x.1, .int x_x.2])) :: bX6 a2 up kp p_p [])) [0, 1, 2, 3, 4, 5, 6, 7, 8, 9, 10] (by decide) rfl) hN 0 rfl rfl) rfl rfl hl.1 rfl (lv_room (Nat.le_of_ble_eq_true rfl)) dX10_seat_3 ⟨(Nat.le_of_ble_eq_true rfl), (Nat.le_of_ble_eq_true rfl)⟩) hP hD hK hS hA [0, 1, 2, 3, 4, 5, 6, 7, 8, 9, 10] [11, 12, 13] rfl rfl (by decide) (by decide) (fun r3 _ H locs hw hP hD _ hS => ?_)
  obtain rfl := hw.symm
  have hP : va_P (dC, dI) vwCl (bX8 a3 us ks s_s ((a0, .inr (7, [.ref a2, g9, g10, g11, g12, .ref a3, g13, g14, .int x_x.1, .int x_x.2])) :: bX6 a2 up kp p_p [])) H := hP
  have hD : va_D A (bX8 a3 us ks s_s ((a0, .inr (7, [.ref a2, g9, g10, g11, g12, .ref a3, g13, g14, .int x_x.1, .int x_x.2])) :: bX6 a2 up kp p_p [])) := hD
  obtain ⟨o6, eo6⟩ : ∃ o, o = f_X10_refused o3 x_x := ⟨_, rfl⟩
  have h := nm_of h o6 eo6
  refine cl_i (wc := ([(a0, .inr (7, [.ref a2, g9, g10, g11, g12, .ref a3, g13, g14, .int x_x.1, .int x_x.2]))])) (wr := (bX8 a3 us ks s_s (bX6 a2 up kp p_p []))) (va_runV (As := [.int o3]) (rest := []) ⟨hx, hb, hml, hown, hts⟩ (kfX10_refused l dC dI a0 o3 x_x (.ref a2) (g9) (g10) (g11) (g12) (.ref a3) (g13) (g14) H.size o6 eo6.symm) (cwV 1 hts gfX10_seat_1 rfl rfl rfl (by decide +kernel) ⟨(Nat.le_of_ble_eq_true rfl), (Nat.le_of_ble_eq_true rfl)⟩) (PV (hP.sub (ws' := ([(a0, .inr (7, [.ref a2, g9, g10, g11, g12, .ref a3, g13, g14, .int x_x.1, .int x_x.2]))])) [3] rfl) (hK.sub (tys' := ([])) [] rfl) (hD.sub (ws' := ([(a0, .inr (7, [.ref a2, g9, g10, g11, g12, .ref a3, g13, g14, .int x_x.1, .int x_x.2]))])) [3] (by decide) rfl) hN 0 rfl rfl) rfl rfl hl.1 rfl (lv_room (Nat.le_of_ble_eq_true rfl)) dX10_seat_6 ⟨(Nat.le_of_ble_eq_true rfl), (Nat.le_of_ble_eq_true rfl)⟩) hP hD hK hS hA [3] [0, 1, 2, 4, 5, 6, 7, 8, 9, 10, 11, 12, 13] rfl rfl (by decide) (by decide) (fun r6 _ H locs hw hP hD _ hS => ?_)
  obtain ⟨hw, br6⟩ := hw
  obtain rfl := hw
  have hP : va_P (dC, dI) vwCl (bX8 a3 us ks s_s (bX6 a2 up kp p_p ([(a0, .inr (7, [.ref a2, g9, g10, g11, g12, .ref a3, g13, g14, .int o6.2.1, .int o6.2.2]))]))) H := hP
  have hD : va_D A (bX8 a3 us ks s_s (bX6 a2 up kp p_p ([(a0, .inr (7, [.ref a2, g9, g10, g11, g12, .ref a3, g13, g14, .int o6.2.1, .int o6.2.2]))]))) := hD
  refine lv_if_eq (tgt := 14) hx hb dX10_seat_9 (by decide) (fun c9 => ?_) (fun c9 => ?_)
  · have h := (if_pos c9).symm.trans h
    refine lv_aload_n hx hb dX10_seat_14 rfl (lv_at hl 0 rfl) ?_
    refine va_get (D := (dC, dI)) (ci := 7) (v := .ref a3) (C := RX10) (T := TX10) (N := 10) hx hb hts ifX10_seat_X10 hown hK hP 13 rfl rfl 5 (by decide) (hts (.fieldLink RX10 43 "HookPier" "seats" "LHookPier$Seats;") (List.mem_of_getElem? (i := 8) rfl)) (fun _ h9 => h9) rfl dX10_seat_15 ?_
    refine lv_aload_n hx hb dX10_seat_18 rfl (lv_at hl 0 rfl) ?_
    refine va_get (D := (dC, dI)) (ci := 7) (v := .ref a2) (C := RX10) (T := TX10) (N := 10) hx hb hts ifX10_seat_X10 hown hK hP 13 rfl rfl 0 (by decide) (hts (.fieldLink RX10 10 "HookPier" "plan" "LHookPier$Plan;") (List.mem_of_getElem? (i := 9) rfl)) (fun _ h9 => h9) rfl dX10_seat_19 ?_
    refine lv_aload_n hx hb dX10_seat_22 rfl (lv_at hl 0 rfl) ?_
    obtain ⟨o23, eo23⟩ : ∃ o, o = f_X10_everyAsker p_p := ⟨_, rfl⟩
    have h := nm_of h o23 eo23
    refine cl_i (wc := ((a0, .inr (7, [.ref a2, g9, g10, g11, g12, .ref a3, g13, g14, .int o6.2.1, .int o6.2.2])) :: bX6 a2 up kp p_p [])) (wr := (bX8 a3 us ks s_s [])) (va_runV (As := []) (rest := [.ref a2, .ref a3]) ⟨hx, hb, hml, hown, hts⟩ (kfX10_everyAsker l dC dI a0 a2 up kp (g9) (g10) (g11) (g12) (.ref a3) (g13) (g14) (.int o6.2.1) (.int o6.2.2) p_p H.size o23 eo23.symm) (cwV 0 hts gfX10_seat_2 rfl rfl rfl (by decide +kernel) ⟨(Nat.le_of_ble_eq_true rfl), (Nat.le_of_ble_eq_true rfl)⟩) (PV (hP.sub (ws' := ((a0, .inr (7, [.ref a2, g9, g10, g11, g12, .ref a3, g13, g14, .int o6.2.1, .int o6.2.2])) :: bX6 a2 up kp p_p [])) [13, 3, 4, 5, 6, 7, 8, 9, 10, 11, 12] rfl) (hK.sub (tys' := (tX6 kp ([]))) [0, 1, 2, 3, 4, 5, 6, 7, 8] rfl) (hD.sub (ws' := ((a0, .inr (7, [.ref a2, g9, g10, g11, g12, .ref a3, g13, g14, .int o6.2.1, .int o6.2.2])) :: bX6 a2 up kp p_p [])) [13, 3, 4, 5, 6, 7, 8, 9, 10, 11, 12] (by decide) rfl) hN 0 rfl rfl) rfl rfl hl.1 rfl (lv_room (Nat.le_of_ble_eq_true rfl)) dX10_seat_23 ⟨(Nat.le_of_ble_eq_true rfl), (Nat.le_of_ble_eq_true rfl)⟩) hP hD hK hS hA [13, 3, 4, 5, 6, 7, 8, 9, 10, 11, 12] [0, 1, 2] rfl rfl (by decide) (by decide) (fun r23 _ H locs hw hP hD _ hS => ?_)
    obtain rfl := hw.symm
    have hP : va_P (dC, dI) vwCl (bX8 a3 us ks s_s ((a0, .inr (7, [.ref a2, g9, g10, g11, g12, .ref a3, g13, g14, .int o6.2.1, .int o6.2.2])) :: bX6 a2 up kp p_p [])) H := hP
    have hD : va_D A (bX8 a3 us ks s_s ((a0, .inr (7, [.ref a2, g9, g10, g11, g12, .ref a3, g13, g14, .int o6.2.1, .int o6.2.2])) :: bX6 a2 up kp p_p [])) := hD
    refine lv_iconst (v := 1) hx hb dX10_seat_26 (by decide) ?_
    obtain ⟨o27, eo27, h⟩ := bd_of h
    refine cl_i (wc := (bX8 a3 us ks s_s (bX6 a2 up kp p_p []))) (wr := ([(a0, .inr (7, [.ref a2, g9, g10, g11, g12, .ref a3, g13, g14, .int o6.2.1, .int o6.2.2]))])) (va_runV (As := [.ref a2, .int o23, .int 1]) (rest := []) ⟨hx, hb, hml, hown, hts⟩ (kfX8_countRows l dC dI a3 a2 o23 (1 : Int32) us ks up kp s_s p_p H.size o27 eo27) (cwV 3 hts gfX10_seat_3 rfl rfl rfl (by decide +kernel) ⟨(Nat.le_of_ble_eq_true rfl), (Nat.le_of_ble_eq_true rfl)⟩) (PV (hP.sub (ws' := (bX8 a3 us ks s_s (bX6 a2 up kp p_p []))) [0, 1, 2, 4, 5, 6, 7, 8, 9, 10, 11, 12, 13] rfl) (hK.sub (tys' := (tX8 ks (tX6 kp ([])))) [9, 10, 0, 1, 2, 3, 4, 5, 6, 7, 8] rfl) (hD.sub (ws' := (bX8 a3 us ks s_s (bX6 a2 up kp p_p []))) [0, 1, 2, 4, 5, 6, 7, 8, 9, 10, 11, 12, 13] (by decide) rfl) hN 0 rfl rfl) rfl rfl hl.1 rfl (lv_room (Nat.le_of_ble_eq_true rfl)) dX10_seat_27 ⟨(Nat.le_of_ble_eq_true rfl), (Nat.le_of_ble_eq_true rfl)⟩) hP hD hK hS hA [0, 1, 2, 4, 5, 6, 7, 8, 9, 10, 11, 12, 13] [3] rfl rfl (by decide) (by decide) (fun r27 _ H locs hw hP hD _ hS => ?_)
    obtain rfl := hw
    have hP : va_P (dC, dI) vwCl ((a0, .inr (7, [.ref a2, g9, g10, g11, g12, .ref a3, g13, g14, .int o6.2.1, .int o6.2.2])) :: bX8 a3 us ks o27.2 (bX6 a2 up kp p_p [])) H := hP
    have hD : va_D A ((a0, .inr (7, [.ref a2, g9, g10, g11, g12, .ref a3, g13, g14, .int o6.2.1, .int o6.2.2])) :: bX8 a3 us ks o27.2 (bX6 a2 up kp p_p [])) := hD
    refine lv_if_ne (tgt := 38) hx hb dX10_seat_30 (by decide) (fun c30 => ?_) (fun c30 => ?_)
    · have h := (if_neg c30).symm.trans h
      refine lv_aload_n hx hb dX10_seat_38 rfl (lv_at hl 0 rfl) ?_
      refine va_get (D := (dC, dI)) (ci := 7) (v := .ref a3) (C := RX10) (T := TX10) (N := 10) hx hb hts ifX10_seat_X10 hown hK hP 0 rfl rfl 5 (by decide) (hts (.fieldLink RX10 43 "HookPier" "seats" "LHookPier$Seats;") (List.mem_of_getElem? (i := 8) rfl)) (fun _ h9 => h9) rfl dX10_seat_39 ?_
      refine va_get (D := (dC, dI)) (ci := 6) (v := .ref (us 1)) (C := RX8) (T := TX8) (N := 3) hx hb hts ifX10_seat_X8 hown hK hP 1 rfl rfl 1 (by decide) (hts (.fieldLink RX10 256 "HookPier$Seats" "first" "[I") (List.mem_of_getElem? (i := 17) rfl)) (fun _ h9 => h9) rfl dX10_seat_42 ?_
      refine lv_iload_n hx hb dX10_seat_45 rfl (lv_at hl 1 rfl) ?_
      obtain ⟨hg46, h⟩ := gA_of h
      refine va_iald hx hb hK hP 3 10 rfl rfl hg46 dX10_seat_46 ?_
      obtain rfl := Option.some.inj h
      have hP9 := hP.sub (ws' := ((a0, .inr (7, [.ref a2, g9, g10, g11, g12, .ref a3, g13, g14, .int o6.2.1, .int o6.2.2])) :: bX6 a2 up kp p_p (bX8 a3 us ks o27.2 []))) [0, 4, 5, 6, 7, 8, 9, 10, 11, 12, 13, 1, 2, 3] rfl
      have hD9 := hD.sub (ws' := ((a0, .inr (7, [.ref a2, g9, g10, g11, g12, .ref a3, g13, g14, .int o6.2.1, .int o6.2.2])) :: bX6 a2 up kp p_p (bX8 a3 us ks o27.2 []))) [0, 4, 5, 6, 7, 8, 9, 10, 11, 12, 13, 1, 2, 3] (by decide) rfl
      have hK9 := hK.sub (tys' := []) [] rfl
      rw [hQQ]
      exact W.iret (v := (o27.2.2.1 (k1).toNatClampNeg)) hx hb hr (fun t ht hW => ⟨⟨(o27.2.2.1 (k1).toNatClampNeg), (), rfl, rfl, by rw [ht]; exact hP9, va_K.moved hW.alike hK9, hD9⟩, hS.F ht⟩) hS.2.2 dX10_seat_47
    · have h := (if_pos c30).symm.trans h
      refine lv_bipush (v := (-2)) hx hb dX10_seat_33 (by decide) ?_
      refine lv_goto (tgt := 47) hx hb dX10_seat_35 (by decide) ?_
      obtain rfl := Option.some.inj h
      have hP9 := hP.sub (ws' := ((a0, .inr (7, [.ref a2, g9, g10, g11, g12, .ref a3, g13, g14, .int o6.2.1, .int o6.2.2])) :: bX6 a2 up kp p_p (bX8 a3 us ks o27.2 []))) [0, 4, 5, 6, 7, 8, 9, 10, 11, 12, 13, 1, 2, 3] rfl
      have hD9 := hD.sub (ws' := ((a0, .inr (7, [.ref a2, g9, g10, g11, g12, .ref a3, g13, g14, .int o6.2.1, .int o6.2.2])) :: bX6 a2 up kp p_p (bX8 a3 us ks o27.2 []))) [0, 4, 5, 6, 7, 8, 9, 10, 11, 12, 13, 1, 2, 3] (by decide) rfl
      have hK9 := hK.sub (tys' := []) [] rfl
      rw [hQQ]
      exact W.iret (v := (-2 : Int32)) hx hb hr (fun t ht hW => ⟨⟨(-2 : Int32), (), rfl, rfl, by rw [ht]; exact hP9, va_K.moved hW.alike hK9, hD9⟩, hS.F ht⟩) hS.2.2 dX10_seat_47
  · have h := (if_neg c9).symm.trans h
    refine lv_iconst (v := (-1)) hx hb dX10_seat_12 (by decide) ?_
    obtain rfl := Option.some.inj h
    have hP9 := hP.sub (ws' := ((a0, .inr (7, [.ref a2, g9, g10, g11, g12, .ref a3, g13, g14, .int o6.2.1, .int o6.2.2])) :: bX6 a2 up kp p_p (bX8 a3 us ks s_s []))) [13, 3, 4, 5, 6, 7, 8, 9, 10, 11, 12, 0, 1, 2] rfl
    have hD9 := hD.sub (ws' := ((a0, .inr (7, [.ref a2, g9, g10, g11, g12, .ref a3, g13, g14, .int o6.2.1, .int o6.2.2])) :: bX6 a2 up kp p_p (bX8 a3 us ks s_s []))) [13, 3, 4, 5, 6, 7, 8, 9, 10, 11, 12, 0, 1, 2] (by decide) rfl
    have hK9 := hK.sub (tys' := []) [] rfl
    rw [hQQ]
    exact W.iret (v := (-1 : Int32)) hx hb hr (fun t ht hW => ⟨⟨(-1 : Int32), (), rfl, rfl, by rw [ht]; exact hP9, va_K.moved hW.alike hK9, hD9⟩, hS.F ht⟩) hS.2.2 dX10_seat_13
theorem dJ6_bitCount_0f7a4_0 : decode cJ6_bitCount_0f7a4 0 = .ok (.iload_n 0, 1) := by decide +kernel
theorem dJ6_bitCount_0f7a4_1 : decode cJ6_bitCount_0f7a4 1 = .ok (.iload_n 0, 1) := by decide +kernel
theorem dJ6_bitCount_0f7a4_10 : decode cJ6_bitCount_0f7a4 10 = .ok (.iload_n 0, 1) := by decide +kernel
theorem dJ6_bitCount_0f7a4_11 : decode cJ6_bitCount_0f7a4 11 = .ok (.ldc_w 266, 3) := by decide +kernel
theorem dJ6_bitCount_0f7a4_14 : decode cJ6_bitCount_0f7a4 14 = .ok (.iand, 1) := by decide +kernel
theorem dJ6_bitCount_0f7a4_15 : decode cJ6_bitCount_0f7a4 15 = .ok (.iload_n 0, 1) := by decide +kernel
theorem dJ6_bitCount_0f7a4_16 : decode cJ6_bitCount_0f7a4 16 = .ok (.iconst 2, 1) := by decide +kernel
theorem dJ6_bitCount_0f7a4_17 : decode cJ6_bitCount_0f7a4 17 = .ok (.iushr, 1) := by decide +kernel
theorem dJ6_bitCount_0f7a4_18 : decode cJ6_bitCount_0f7a4 18 = .ok (.ldc_w 266, 3) := by decide +kernel
theorem dJ6_bitCount_0f7a4_2 : decode cJ6_bitCount_0f7a4 2 = .ok (.iconst 1, 1) := by decide +kernel
theorem dJ6_bitCount_0f7a4_21 : decode cJ6_bitCount_0f7a4 21 = .ok (.iand, 1) := by decide +kernel
theorem dJ6_bitCount_0f7a4_22 : decode cJ6_bitCount_0f7a4 22 = .ok (.iadd, 1) := by decide +kernel
theorem dJ6_bitCount_0f7a4_23 : decode cJ6_bitCount_0f7a4 23 = .ok (.istore_n 0, 1) := by decide +kernel
theorem dJ6_bitCount_0f7a4_24 : decode cJ6_bitCount_0f7a4 24 = .ok (.iload_n 0, 1) := by decide +kernel
theorem dJ6_bitCount_0f7a4_25 : decode cJ6_bitCount_0f7a4 25 = .ok (.iload_n 0, 1) := by decide +kernel
theorem dJ6_bitCount_0f7a4_26 : decode cJ6_bitCount_0f7a4 26 = .ok (.iconst 4, 1) := by decide +kernel
theorem dJ6_bitCount_0f7a4_27 : decode cJ6_bitCount_0f7a4 27 = .ok (.iushr, 1) := by decide +kernel
theorem dJ6_bitCount_0f7a4_28 : decode cJ6_bitCount_0f7a4 28 = .ok (.iadd, 1) := by decide +kernel
theorem dJ6_bitCount_0f7a4_29 : decode cJ6_bitCount_0f7a4 29 = .ok (.ldc_w 267, 3) := by decide +kernel
theorem dJ6_bitCount_0f7a4_3 : decode cJ6_bitCount_0f7a4 3 = .ok (.iushr, 1) := by decide +kernel
theorem dJ6_bitCount_0f7a4_32 : decode cJ6_bitCount_0f7a4 32 = .ok (.iand, 1) := by decide +kernel
theorem dJ6_bitCount_0f7a4_33 : decode cJ6_bitCount_0f7a4 33 = .ok (.istore_n 0, 1) := by decide +kernel
theorem dJ6_bitCount_0f7a4_34 : decode cJ6_bitCount_0f7a4 34 = .ok (.iload_n 0, 1) := by decide +kernel
theorem dJ6_bitCount_0f7a4_35 : decode cJ6_bitCount_0f7a4 35 = .ok (.iload_n 0, 1) := by decide +kernel
theorem dJ6_bitCount_0f7a4_36 : decode cJ6_bitCount_0f7a4 36 = .ok (.bipush 8, 2) := by decide +kernel
theorem dJ6_bitCount_0f7a4_38 : decode cJ6_bitCount_0f7a4 38 = .ok (.iushr, 1) := by decide +kernel
theorem dJ6_bitCount_0f7a4_39 : decode cJ6_bitCount_0f7a4 39 = .ok (.iadd, 1) := by decide +kernel
theorem dJ6_bitCount_0f7a4_4 : decode cJ6_bitCount_0f7a4 4 = .ok (.ldc_w 265, 3) := by decide +kernel
theorem dJ6_bitCount_0f7a4_40 : decode cJ6_bitCount_0f7a4 40 = .ok (.istore_n 0, 1) := by decide +kernel
theorem dJ6_bitCount_0f7a4_41 : decode cJ6_bitCount_0f7a4 41 = .ok (.iload_n 0, 1) := by decide +kernel
theorem dJ6_bitCount_0f7a4_42 : decode cJ6_bitCount_0f7a4 42 = .ok (.iload_n 0, 1) := by decide +kernel
theorem dJ6_bitCount_0f7a4_43 : decode cJ6_bitCount_0f7a4 43 = .ok (.bipush 16, 2) := by decide +kernel
theorem dJ6_bitCount_0f7a4_45 : decode cJ6_bitCount_0f7a4 45 = .ok (.iushr, 1) := by decide +kernel
theorem dJ6_bitCount_0f7a4_46 : decode cJ6_bitCount_0f7a4 46 = .ok (.iadd, 1) := by decide +kernel
theorem dJ6_bitCount_0f7a4_47 : decode cJ6_bitCount_0f7a4 47 = .ok (.istore_n 0, 1) := by decide +kernel
theorem dJ6_bitCount_0f7a4_48 : decode cJ6_bitCount_0f7a4 48 = .ok (.iload_n 0, 1) := by decide +kernel
theorem dJ6_bitCount_0f7a4_49 : decode cJ6_bitCount_0f7a4 49 = .ok (.bipush 63, 2) := by decide +kernel
theorem dJ6_bitCount_0f7a4_51 : decode cJ6_bitCount_0f7a4 51 = .ok (.iand, 1) := by decide +kernel
theorem dJ6_bitCount_0f7a4_52 : decode cJ6_bitCount_0f7a4 52 = .ok (.ireturn, 1) := by decide +kernel
theorem dJ6_bitCount_0f7a4_7 : decode cJ6_bitCount_0f7a4 7 = .ok (.iand, 1) := by decide +kernel
theorem dJ6_bitCount_0f7a4_8 : decode cJ6_bitCount_0f7a4 8 = .ok (.isub, 1) := by decide +kernel
theorem dJ6_bitCount_0f7a4_9 : decode cJ6_bitCount_0f7a4 9 = .ok (.istore_n 0, 1) := by decide +kernel
def vfJ6_bitCount_0f7a4 : List Cond := .code yJ6_bitCount_0f7a4 cJ6_bitCount_0f7a4 1 (some .int) :: ([.constant RJ6 265 (1431655765), .constant RJ6 266 (858993459), .constant RJ6 267 (252645135)])
theorem qfJ6_bitCount_0f7a4 : Good vfJ6_bitCount_0f7a4 := gd_cons (by decide +kernel) (gd_dec (by decide +kernel) : Good [.constant RJ6 265 (1431655765), .constant RJ6 266 (858993459), .constant RJ6 267 (252645135)])
set_option maxHeartbeats 2000000 in
set_option maxRecDepth 100000 in
theorem kfJ6_bitCount_0f7a4 (l : Launch) (dC : Nat → ClassId) (dI : Nat → Nat → Nat) (k0 : Int32) (sz : Nat) (out : Int32) (h : f_J6_bitCount_0f7a4 k0 = out) : Met l yJ6_bitCount_0f7a4 vfJ6_bitCount_0f7a4 ({ frames := 0, cells := 0, slots := 0, locals := 0 }) (PC (dC, dI) [.int k0] sz [] ([])) (va_Qi (S := Unit) (fun (r : Int32) _ => r = out) (fun _ t => BC (dC, dI) (va_A [] sz) [] [] t) (va_A [] sz)) 0 0 (va_A [] sz) := by
  refine va_MetF (cc := cJ6_bitCount_0f7a4) (maxL := 1) (ret := (some .int)) (by decide) rfl ?_
  intro p e s m args below meth c s₁ B0 hml hv
  obtain ⟨rfl, hsz, hP, hK, hD0, hN⟩ := hv
  have hx := B0.exec
  have hb := B0.bytes
  have hr := B0.returns
  have hts := atoms_spec (ws := vfJ6_bitCount_0f7a4) B0.pre
  have hown : s.vm.findClass RJ6 = some m.cls := findClass_of_methodNamed B0.named
  have hlocks := B0.notSynchronized
  subst hsz
  have hD := hD0.self (sz := s.heap.size)
  generalize hAe : va_A [] s.heap.size = A at hD ⊢
  have hA : ∀ q : Nat, s.heap.size ≤ q → A q := fun q h => by rw [← hAe]; exact Or.inr h
  have hS : va_S A s.heap s.heap [] := va_S.rf
  have hP : va_P (dC, dI) vwCl [] s.heap := hP
  have hl := lv_entry ([.int k0]) (n := 1) (Nat.le_of_ble_eq_true rfl)
  rw [lg_entry_eq]
  generalize (lg_sl ([.int k0]) ++ List.replicate (1 - (lg_sl ([.int k0])).length) Slot.unset).toArray = ls at hl ⊢
  have hl : lv_has ls 1 [(0, .int k0)] := hl
  refine W_q (fun QQ hQQ => ?_)
  rw [f_J6_bitCount_0f7a4] at h
  refine lv_iload_n hx hb dJ6_bitCount_0f7a4_0 rfl (lv_at hl 0 rfl) ?_
  refine lv_iload_n hx hb dJ6_bitCount_0f7a4_1 rfl (lv_at hl 0 rfl) ?_
  refine lv_iconst (v := 1) hx hb dJ6_bitCount_0f7a4_2 (by decide) ?_
  refine lv_iushr hx hb dJ6_bitCount_0f7a4_3 rfl ?_
  refine lv_topi (fun z3 ez3 => ?_)
  have h := nm_of h z3 ez3
  refine lv_ldcw hx hb hown (hts (.constant RJ6 265 (1431655765)) (List.mem_of_getElem? (i := 1) rfl)) dJ6_bitCount_0f7a4_4 ?_
  refine lv_iand hx hb dJ6_bitCount_0f7a4_7 ?_
  refine lv_isub hx hb dJ6_bitCount_0f7a4_8 ?_
  refine lv_istore_n (lv' := [(0, .int (k0 - (z3 &&& (1431655765 : Int32))))]) hx hb dJ6_bitCount_0f7a4_9 rfl hl (by decide) rfl (fun ls hl => ?_)
  refine lv_iload_n hx hb dJ6_bitCount_0f7a4_10 rfl (lv_at hl 0 rfl) ?_
  refine lv_ldcw hx hb hown (hts (.constant RJ6 266 (858993459)) (List.mem_of_getElem? (i := 2) rfl)) dJ6_bitCount_0f7a4_11 ?_
  refine lv_iand hx hb dJ6_bitCount_0f7a4_14 ?_
  refine lv_topi (fun z14 ez14 => ?_)
  have h := nm_of h z14 ez14
  refine lv_iload_n hx hb dJ6_bitCount_0f7a4_15 rfl (lv_at hl 0 rfl) ?_
  refine lv_iconst (v := 2) hx hb dJ6_bitCount_0f7a4_16 (by decide) ?_
  refine lv_iushr hx hb dJ6_bitCount_0f7a4_17 rfl ?_
  refine lv_topi (fun z17 ez17 => ?_)
  have h := nm_of h z17 ez17
  refine lv_ldcw hx hb hown (hts (.constant RJ6 266 (858993459)) (List.mem_of_getElem? (i := 2) rfl)) dJ6_bitCount_0f7a4_18 ?_
  refine lv_iand hx hb dJ6_bitCount_0f7a4_21 ?_
  refine lv_iadd hx hb dJ6_bitCount_0f7a4_22 ?_
  refine lv_istore_n (lv' := [(0, .int (z14 + (z17 &&& (858993459 : Int32))))]) hx hb dJ6_bitCount_0f7a4_23 rfl hl (by decide) rfl (fun ls hl => ?_)
  refine lv_iload_n hx hb dJ6_bitCount_0f7a4_24 rfl (lv_at hl 0 rfl) ?_
  refine lv_iload_n hx hb dJ6_bitCount_0f7a4_25 rfl (lv_at hl 0 rfl) ?_
  refine lv_iconst (v := 4) hx hb dJ6_bitCount_0f7a4_26 (by decide) ?_
  refine lv_iushr hx hb dJ6_bitCount_0f7a4_27 rfl ?_
  refine lv_topi (fun z27 ez27 => ?_)
  have h := nm_of h z27 ez27
  refine lv_iadd hx hb dJ6_bitCount_0f7a4_28 ?_
  refine lv_ldcw hx hb hown (hts (.constant RJ6 267 (252645135)) (List.mem_of_getElem? (i := 3) rfl)) dJ6_bitCount_0f7a4_29 ?_
  refine lv_iand hx hb dJ6_bitCount_0f7a4_32 ?_
  refine lv_topi (fun z32 ez32 => ?_)
  have h := nm_of h z32 ez32
  refine lv_istore_n (lv' := [(0, .int z32)]) hx hb dJ6_bitCount_0f7a4_33 rfl hl (by decide) rfl (fun ls hl => ?_)
  refine lv_iload_n hx hb dJ6_bitCount_0f7a4_34 rfl (lv_at hl 0 rfl) ?_
  refine lv_iload_n hx hb dJ6_bitCount_0f7a4_35 rfl (lv_at hl 0 rfl) ?_
  refine lv_bipush (v := 8) hx hb dJ6_bitCount_0f7a4_36 (by decide) ?_
  refine lv_iushr hx hb dJ6_bitCount_0f7a4_38 rfl ?_
  refine lv_topi (fun z38 ez38 => ?_)
  have h := nm_of h z38 ez38
  refine lv_iadd hx hb dJ6_bitCount_0f7a4_39 ?_
  refine lv_istore_n (lv' := [(0, .int (z32 + z38))]) hx hb dJ6_bitCount_0f7a4_40 rfl hl (by decide) rfl (fun ls hl => ?_)
  refine lv_iload_n hx hb dJ6_bitCount_0f7a4_41 rfl (lv_at hl 0 rfl) ?_
  refine lv_iload_n hx hb dJ6_bitCount_0f7a4_42 rfl (lv_at hl 0 rfl) ?_
  refine lv_bipush (v := 16) hx hb dJ6_bitCount_0f7a4_43 (by decide) ?_
  refine lv_iushr hx hb dJ6_bitCount_0f7a4_45 rfl ?_
  refine lv_topi (fun z45 ez45 => ?_)
  have h := nm_of h z45 ez45
  refine lv_iadd hx hb dJ6_bitCount_0f7a4_46 ?_
  refine lv_istore_n (lv' := [(0, .int ((z32 + z38) + z45))]) hx hb dJ6_bitCount_0f7a4_47 rfl hl (by decide) rfl (fun ls hl => ?_)
  refine lv_iload_n hx hb dJ6_bitCount_0f7a4_48 rfl (lv_at hl 0 rfl) ?_
  refine lv_bipush (v := 63) hx hb dJ6_bitCount_0f7a4_49 (by decide) ?_
  refine lv_iand hx hb dJ6_bitCount_0f7a4_51 ?_
  obtain rfl := h
  have hP9 := hP.sub (ws' := []) [] rfl
  have hD9 := hD.sub (ws' := []) [] (by decide) rfl
  have hK9 := hK.sub (tys' := []) [] rfl
  rw [hQQ]
  exact W.iret (v := (((z32 + z38) + z45) &&& (63 : Int32))) hx hb hr (fun t ht hW => ⟨⟨(((z32 + z38) + z45) &&& (63 : Int32)), (), rfl, rfl, by rw [ht]; exact hP9, va_K.moved hW.alike hK9, hD9⟩, hS.F ht⟩) hS.2.2 dJ6_bitCount_0f7a4_52
theorem dX10_mostSeated_0 : decode cX10_mostSeated 0 = .ok (.aload_n 0, 1) := by decide +kernel
theorem dX10_mostSeated_1 : decode cX10_mostSeated 1 = .ok (.aload_n 0, 1) := by decide +kernel
theorem dX10_mostSeated_11 : decode cX10_mostSeated 11 = .ok (.iconst (-1), 1) := by decide +kernel
theorem dX10_mostSeated_12 : decode cX10_mostSeated 12 = .ok (.ireturn, 1) := by decide +kernel
theorem dX10_mostSeated_13 : decode cX10_mostSeated 13 = .ok (.iconst 0, 1) := by decide +kernel
theorem dX10_mostSeated_14 : decode cX10_mostSeated 14 = .ok (.istore_n 1, 1) := by decide +kernel
theorem dX10_mostSeated_15 : decode cX10_mostSeated 15 = .ok (.iconst 1, 1) := by decide +kernel
theorem dX10_mostSeated_16 : decode cX10_mostSeated 16 = .ok (.istore_n 2, 1) := by decide +kernel
theorem dX10_mostSeated_17 : decode cX10_mostSeated 17 = .ok (.iload_n 2, 1) := by decide +kernel
theorem dX10_mostSeated_18 : decode cX10_mostSeated 18 = .ok (.aload_n 0, 1) := by decide +kernel
theorem dX10_mostSeated_19 : decode cX10_mostSeated 19 = .ok (.invokevirtual 249, 3) := by decide +kernel
theorem dX10_mostSeated_2 : decode cX10_mostSeated 2 = .ok (.invokevirtual 216, 3) := by decide +kernel
theorem dX10_mostSeated_22 : decode cX10_mostSeated 22 = .ok (.if_icmp .gt 38, 3) := by decide +kernel
theorem dX10_mostSeated_25 : decode cX10_mostSeated 25 = .ok (.iload_n 2, 1) := by decide +kernel
theorem dX10_mostSeated_26 : decode cX10_mostSeated 26 = .ok (.invokestatic 259, 3) := by decide +kernel
theorem dX10_mostSeated_29 : decode cX10_mostSeated 29 = .ok (.iload_n 1, 1) := by decide +kernel
theorem dX10_mostSeated_30 : decode cX10_mostSeated 30 = .ok (.invokestatic 259, 3) := by decide +kernel
theorem dX10_mostSeated_33 : decode cX10_mostSeated 33 = .ok (.if_icmp .le 21, 3) := by decide +kernel
theorem dX10_mostSeated_36 : decode cX10_mostSeated 36 = .ok (.aload_n 0, 1) := by decide +kernel
theorem dX10_mostSeated_37 : decode cX10_mostSeated 37 = .ok (.getfield 43, 3) := by decide +kernel
theorem dX10_mostSeated_40 : decode cX10_mostSeated 40 = .ok (.aload_n 0, 1) := by decide +kernel
theorem dX10_mostSeated_41 : decode cX10_mostSeated 41 = .ok (.getfield 10, 3) := by decide +kernel
theorem dX10_mostSeated_44 : decode cX10_mostSeated 44 = .ok (.iload_n 2, 1) := by decide +kernel
theorem dX10_mostSeated_45 : decode cX10_mostSeated 45 = .ok (.iconst 1, 1) := by decide +kernel
theorem dX10_mostSeated_46 : decode cX10_mostSeated 46 = .ok (.invokevirtual 252, 3) := by decide +kernel
theorem dX10_mostSeated_49 : decode cX10_mostSeated 49 = .ok (.ifCond .le 5, 3) := by decide +kernel
theorem dX10_mostSeated_5 : decode cX10_mostSeated 5 = .ok (.invokevirtual 79, 3) := by decide +kernel
theorem dX10_mostSeated_52 : decode cX10_mostSeated 52 = .ok (.iload_n 2, 1) := by decide +kernel
theorem dX10_mostSeated_53 : decode cX10_mostSeated 53 = .ok (.istore_n 1, 1) := by decide +kernel
theorem dX10_mostSeated_54 : decode cX10_mostSeated 54 = .ok (.iinc 2 1, 3) := by decide +kernel
theorem dX10_mostSeated_57 : decode cX10_mostSeated 57 = .ok (.goto (-40), 3) := by decide +kernel
theorem dX10_mostSeated_60 : decode cX10_mostSeated 60 = .ok (.iload_n 1, 1) := by decide +kernel
theorem dX10_mostSeated_61 : decode cX10_mostSeated 61 = .ok (.ireturn, 1) := by decide +kernel
theorem dX10_mostSeated_8 : decode cX10_mostSeated 8 = .ok (.ifCond .eq 5, 3) := by decide +kernel
def vfX10_mostSeated : List Cond := List.cons (.code yX10_mostSeated cX10_mostSeated 3 (some .int)) (apW [.methodLink RX10 216 yX10_pierTrouble, .instanceMethod yX10_pierTrouble, .selects RX10 yX10_pierTrouble yX10_pierTrouble, .initialized RX10, .methodLink RX10 79 yX10_refused, .instanceMethod yX10_refused, .selects RX10 yX10_refused yX10_refused, .methodLink RX10 249 yX10_everyAsker, .instanceMethod yX10_everyAsker, .selects RX10 yX10_everyAsker yX10_everyAsker, .methodLink RX10 259 yJ6_bitCount_0f7a4, .static yJ6_bitCount_0f7a4, .initialized RJ6, .fieldLink RX10 43 "HookPier" "seats" "LHookPier$Seats;", .fieldLink RX10 10 "HookPier" "plan" "LHookPier$Plan;", .methodLink RX10 252 yX8_countRows, .instanceMethod yX8_countRows, .selects RX8 yX8_countRows yX8_countRows, .initialized RX8] (apW wsX100 (apW vfX10_pierTrouble (apW vfX10_refused (apW vfX10_everyAsker (apW vfJ6_bitCount_0f7a4 (vfX8_countRows)))))))
theorem ifX10_mostSeated_X10 : ∀ w ∈ wsX100, w ∈ vfX10_mostSeated := fun _ h => (List.mem_cons_of_mem _ (List.mem_append_right _ (List.mem_append_left _ h)))
theorem qfX10_mostSeated : Good vfX10_mostSeated := gd_cons (by decide +kernel) (gd_app (gd_dec (by decide +kernel) : Good [.methodLink RX10 216 yX10_pierTrouble, .instanceMethod yX10_pierTrouble, .selects RX10 yX10_pierTrouble yX10_pierTrouble, .initialized RX10, .methodLink RX10 79 yX10_refused, .instanceMethod yX10_refused, .selects RX10 yX10_refused yX10_refused, .methodLink RX10 249 yX10_everyAsker, .instanceMethod yX10_everyAsker, .selects RX10 yX10_everyAsker yX10_everyAsker, .methodLink RX10 259 yJ6_bitCount_0f7a4, .static yJ6_bitCount_0f7a4, .initialized RJ6, .fieldLink RX10 43 "HookPier" "seats" "LHookPier$Seats;", .fieldLink RX10 10 "HookPier" "plan" "LHookPier$Plan;", .methodLink RX10 252 yX8_countRows, .instanceMethod yX8_countRows, .selects RX8 yX8_countRows yX8_countRows, .initialized RX8]) (gd_app qsX10 (gd_app qfX10_pierTrouble (gd_app qfX10_refused (gd_app qfX10_everyAsker (gd_app qfJ6_bitCount_0f7a4 qfX8_countRows))))))
theorem gfX10_mostSeated_0 : GoodIn vfX10_mostSeated (wsV RX10 216 RX10 yX10_pierTrouble vfX10_pierTrouble) := goodIn_app (goodIn_r [.methodLink RX10 216 yX10_pierTrouble, .instanceMethod yX10_pierTrouble, .selects RX10 yX10_pierTrouble yX10_pierTrouble, .initialized RX10] [1, 2, 3, 4] rfl (by decide +kernel)) (goodIn_m (fun _ h => (List.mem_cons_of_mem _ (List.mem_append_right _ (List.mem_append_right _ (List.mem_append_left _ h))))) qfX10_pierTrouble)
theorem gfX10_mostSeated_1 : GoodIn vfX10_mostSeated (wsV RX10 79 RX10 yX10_refused vfX10_refused) := goodIn_app (goodIn_r [.methodLink RX10 79 yX10_refused, .instanceMethod yX10_refused, .selects RX10 yX10_refused yX10_refused, .initialized RX10] [5, 6, 7, 4] rfl (by decide +kernel)) (goodIn_m (fun _ h => (List.mem_cons_of_mem _ (List.mem_append_right _ (List.mem_append_right _ (List.mem_append_right _ (List.mem_append_left _ h)))))) qfX10_refused)
theorem gfX10_mostSeated_2 : GoodIn vfX10_mostSeated (wsV RX10 249 RX10 yX10_everyAsker vfX10_everyAsker) := goodIn_app (goodIn_r [.methodLink RX10 249 yX10_everyAsker, .instanceMethod yX10_everyAsker, .selects RX10 yX10_everyAsker yX10_everyAsker, .initialized RX10] [8, 9, 10, 4] rfl (by decide +kernel)) (goodIn_m (fun _ h => (List.mem_cons_of_mem _ (List.mem_append_right _ (List.mem_append_right _ (List.mem_append_right _ (List.mem_append_right _ (List.mem_append_left _ h))))))) qfX10_everyAsker)
theorem gfX10_mostSeated_3 : GoodIn vfX10_mostSeated (va_wsS RX10 259 yJ6_bitCount_0f7a4 vfJ6_bitCount_0f7a4) := goodIn_app (goodIn_r [.methodLink RX10 259 yJ6_bitCount_0f7a4, .static yJ6_bitCount_0f7a4, .initialized RJ6] [11, 12, 13] rfl (by decide +kernel)) (goodIn_m (fun _ h => (List.mem_cons_of_mem _ (List.mem_append_right _ (List.mem_append_right _ (List.mem_append_right _ (List.mem_append_right _ (List.mem_append_right _ (List.mem_append_left _ h)))))))) qfJ6_bitCount_0f7a4)
theorem gfX10_mostSeated_4 : GoodIn vfX10_mostSeated (wsV RX10 252 RX8 yX8_countRows vfX8_countRows) := goodIn_app (goodIn_r [.methodLink RX10 252 yX8_countRows, .instanceMethod yX8_countRows, .selects RX8 yX8_countRows yX8_countRows, .initialized RX8] [16, 17, 18, 19] rfl (by decide +kernel)) (goodIn_m (fun _ h => (List.mem_cons_of_mem _ (List.mem_append_right _ (List.mem_append_right _ (List.mem_append_right _ (List.mem_append_right _ (List.mem_append_right _ (List.mem_append_right _ h)))))))) qfX8_countRows)
set_option maxHeartbeats 2000000 in
set_option maxRecDepth 100000 in
theorem kfX10_mostSeated (l : Launch) (dC : Nat → ClassId) (dI : Nat → Nat → Nat) (a0 : Nat) (a1 : Nat) (a2 : Nat) (up : Nat → Nat) (kp : Nat → ClassId) (us : Nat → Nat) (ks : Nat → ClassId) (x_x : TX10_x) (g8 : Value) (g9 : Value) (g10 : Value) (g11 : Value) (g12 : Value) (g13 : Value) (p_p : TX6_p) (s_s : TX8_s) (sz : Nat) (out : (Int32 × TX10_x × TX8_s)) (h : f_X10_mostSeated x_x p_p s_s = some out) : Met l yX10_mostSeated vfX10_mostSeated ({ frames := 9, cells := 0, slots := 0, locals := 233 }) (PC (dC, dI) [.ref a0] sz ((a0, .inr (7, [.ref a1, g8, g9, g10, g11, .ref a2, g12, g13, .int x_x.1, .int x_x.2])) :: bX6 a1 up kp p_p (bX8 a2 us ks s_s [])) (tX6 kp (tX8 ks ([])))) (va_Qi (S := Unit) (fun (r : Int32) _ => r = out.1) (fun _ t => BC (dC, dI) (va_A ((a0, .inr (7, [.ref a1, g8, g9, g10, g11, .ref a2, g12, g13, .int x_x.1, .int x_x.2])) :: bX6 a1 up kp p_p (bX8 a2 us ks s_s [])) sz) ((a0, .inr (7, [.ref a1, g8, g9, g10, g11, .ref a2, g12, g13, .int out.2.1.1, .int out.2.1.2])) :: bX6 a1 up kp p_p (bX8 a2 us ks out.2.2 [])) [] t) (va_A ((a0, .inr (7, [.ref a1, g8, g9, g10, g11, .ref a2, g12, g13, .int x_x.1, .int x_x.2])) :: bX6 a1 up kp p_p (bX8 a2 us ks s_s [])) sz)) 0 0 (va_A ((a0, .inr (7, [.ref a1, g8, g9, g10, g11, .ref a2, g12, g13, .int x_x.1, .int x_x.2])) :: bX6 a1 up kp p_p (bX8 a2 us ks s_s [])) sz) := by
  refine Met.ofW (cc := cX10_mostSeated) (maxL := 3) (ret := (some .int)) (by decide) rfl ?_
  intro p e s m args below meth c s₁ B0 hml hv
  obtain ⟨rfl, hsz, hP, hK, hD0, hN⟩ := hv
  have hx := B0.exec
  have hb := B0.bytes
  have hr := B0.returns
  have hts := atoms_spec (ws := vfX10_mostSeated) B0.pre
  have hown : s.vm.findClass RX10 = some m.cls := findClass_of_methodNamed B0.named
  have hlocks := B0.notSynchronized
  subst hsz
  have hD := hD0.self (sz := s.heap.size)
  generalize hAe : va_A ((a0, .inr (7, [.ref a1, g8, g9, g10, g11, .ref a2, g12, g13, .int x_x.1, .int x_x.2])) :: bX6 a1 up kp p_p (bX8 a2 us ks s_s [])) s.heap.size = A at hD ⊢
  have hA : ∀ q : Nat, s.heap.size ≤ q → A q := fun q h => by rw [← hAe]; exact Or.inr h
  have hS : va_S A s.heap s.heap [] := va_S.rf
  have hP : va_P (dC, dI) vwCl ((a0, .inr (7, [.ref a1, g8, g9, g10, g11, .ref a2, g12, g13, .int x_x.1, .int x_x.2])) :: bX6 a1 up kp p_p (bX8 a2 us ks s_s [])) s.heap := hP
  have hl := lv_entry ([.ref a0]) (n := 3) (Nat.le_of_ble_eq_true rfl)
  rw [lg_entry_eq]
  generalize (lg_sl ([.ref a0]) ++ List.replicate (3 - (lg_sl ([.ref a0])).length) Slot.unset).toArray = ls at hl ⊢
  have hl : lv_has ls 3 [(0, .ref a0)] := hl
  refine W_q (fun QQ hQQ => ?_)
  rw [f_X10_mostSeated] at h
  refine lv_aload_n hx hb dX10_mostSeated_0 rfl (lv_at hl 0 rfl) ?_
  refine lv_aload_n hx hb dX10_mostSeated_1 rfl (lv_at hl 0 rfl) ?_
  obtain ⟨o2, eo2⟩ : ∃ o, o = f_X10_pierTrouble p_p := ⟨_, rfl⟩
  have h := nm_of h o2 eo2
  refine cl_i (wc := ((a0, .inr (7, [.ref a1, g8, g9, g10, g11, .ref a2, g12, g13, .int x_x.1, .int x_x.2])) :: bX6 a1 up kp p_p [])) (wr := (bX8 a2 us ks s_s [])) (va_runV (As := []) (rest := [.ref a0]) ⟨hx, hb, hml, hown, hts⟩ (kfX10_pierTrouble l dC dI a0 a1 up kp (g8) (g9) (g10) (g11) (.ref a2) (g12) (g13) (.int x_x.1) (.int x_x.2) p_p s.heap.size o2 eo2.symm) (cwV 0 hts gfX10_mostSeated_0 rfl rfl rfl (by decide +kernel) ⟨(Nat.le_of_ble_eq_true rfl), (Nat.le_of_ble_eq_true rfl)⟩) (PV (hP.sub (ws' := ((a0, .inr (7, [.ref a1, g8, g9, g10, g11, .ref a2, g12, g13, .int x_x.1, .int x_x.2])) :: bX6 a1 up kp p_p [])) [0, 1, 2, 3, 4, 5, 6, 7, 8, 9, 10] rfl) (hK.sub (tys' := (tX6 kp ([]))) [0, 1, 2, 3, 4, 5, 6, 7, 8] rfl) (hD.sub (ws' := ((a0, .inr (7, [.ref a1, g8, g9, g10, g11, .ref a2, g12, g13, .int x_x.1, .int x_x.2])) :: bX6 a1 up kp p_p [])) [0, 1, 2, 3, 4, 5, 6, 7, 8, 9, 10] (by decide) rfl) hN 0 rfl rfl) rfl rfl hl.1 rfl (lv_room (Nat.le_of_ble_eq_true rfl)) dX10_mostSeated_2 ⟨(Nat.le_of_ble_eq_true rfl), (Nat.le_of_ble_eq_true rfl)⟩) hP hD hK hS hA [0, 1, 2, 3, 4, 5, 6, 7, 8, 9, 10] [11, 12, 13] rfl rfl (by decide) (by decide) (fun r2 _ H locs hw hP hD _ hS => ?_)
  obtain rfl := hw.symm
  have hP : va_P (dC, dI) vwCl (bX8 a2 us ks s_s ((a0, .inr (7, [.ref a1, g8, g9, g10, g11, .ref a2, g12, g13, .int x_x.1, .int x_x.2])) :: bX6 a1 up kp p_p [])) H := hP
  have hD : va_D A (bX8 a2 us ks s_s ((a0, .inr (7, [.ref a1, g8, g9, g10, g11, .ref a2, g12, g13, .int x_x.1, .int x_x.2])) :: bX6 a1 up kp p_p [])) := hD
  obtain ⟨o5, eo5⟩ : ∃ o, o = f_X10_refused o2 x_x := ⟨_, rfl⟩
  have h := nm_of h o5 eo5
  refine cl_i (wc := ([(a0, .inr (7, [.ref a1, g8, g9, g10, g11, .ref a2, g12, g13, .int x_x.1, .int x_x.2]))])) (wr := (bX8 a2 us ks s_s (bX6 a1 up kp p_p []))) (va_runV (As := [.int o2]) (rest := []) ⟨hx, hb, hml, hown, hts⟩ (kfX10_refused l dC dI a0 o2 x_x (.ref a1) (g8) (g9) (g10) (g11) (.ref a2) (g12) (g13) H.size o5 eo5.symm) (cwV 1 hts gfX10_mostSeated_1 rfl rfl rfl (by decide +kernel) ⟨(Nat.le_of_ble_eq_true rfl), (Nat.le_of_ble_eq_true rfl)⟩) (PV (hP.sub (ws' := ([(a0, .inr (7, [.ref a1, g8, g9, g10, g11, .ref a2, g12, g13, .int x_x.1, .int x_x.2]))])) [3] rfl) (hK.sub (tys' := ([])) [] rfl) (hD.sub (ws' := ([(a0, .inr (7, [.ref a1, g8, g9, g10, g11, .ref a2, g12, g13, .int x_x.1, .int x_x.2]))])) [3] (by decide) rfl) hN 0 rfl rfl) rfl rfl hl.1 rfl (lv_room (Nat.le_of_ble_eq_true rfl)) dX10_mostSeated_5 ⟨(Nat.le_of_ble_eq_true rfl), (Nat.le_of_ble_eq_true rfl)⟩) hP hD hK hS hA [3] [0, 1, 2, 4, 5, 6, 7, 8, 9, 10, 11, 12, 13] rfl rfl (by decide) (by decide) (fun r5 _ H locs hw hP hD _ hS => ?_)
  obtain ⟨hw, br5⟩ := hw
  obtain rfl := hw
  have hP : va_P (dC, dI) vwCl (bX8 a2 us ks s_s (bX6 a1 up kp p_p ([(a0, .inr (7, [.ref a1, g8, g9, g10, g11, .ref a2, g12, g13, .int o5.2.1, .int o5.2.2]))]))) H := hP
  have hD : va_D A (bX8 a2 us ks s_s (bX6 a1 up kp p_p ([(a0, .inr (7, [.ref a1, g8, g9, g10, g11, .ref a2, g12, g13, .int o5.2.1, .int o5.2.2]))]))) := hD
  refine lv_if_eq (tgt := 13) hx hb dX10_mostSeated_8 (by decide) (fun c8 => ?_) (fun c8 => ?_)
  · have h := (if_pos c8).symm.trans h
    refine lv_iconst (v := 0) hx hb dX10_mostSeated_13 (by decide) ?_
    refine lv_istore_n (lv' := [(1, .int 0), (0, .ref a0)]) hx hb dX10_mostSeated_14 rfl hl (by decide) rfl (fun ls hl => ?_)
    refine lv_iconst (v := 1) hx hb dX10_mostSeated_15 (by decide) ?_
    refine lv_istore_n (lv' := [(2, .int 1), (1, .int 0), (0, .ref a0)]) hx hb dX10_mostSeated_16 rfl hl (by decide) rfl (fun ls hl => ?_)
    have L17 : ∀ (n17 : Nat) (v17_l2 : Int32) (v17_l1 : Int32) (v17_s_s : TX8_s) (H : Heap) (locs : List Loc) (ls : Array Slot), f_X10_mostSeated_L17 p_p o5 n17 v17_l2 v17_l1 v17_s_s = some out → va_P (dC, dI) vwCl (bX8 a2 us ks v17_s_s (bX6 a1 up kp p_p ([(a0, .inr (7, [.ref a1, g8, g9, g10, g11, .ref a2, g12, g13, .int o5.2.1, .int o5.2.2]))]))) H → va_D A (bX8 a2 us ks v17_s_s (bX6 a1 up kp p_p ([(a0, .inr (7, [.ref a1, g8, g9, g10, g11, .ref a2, g12, g13, .int o5.2.1, .int o5.2.2]))]))) → va_S A s.heap H locs → lv_has ls 3 [(2, .int v17_l2), (1, .int v17_l1), (0, .ref a0)] → W p l e (headSpec vfX10_mostSeated { frames := 9, cells := 0, slots := 0, locals := 233 }).room s m ([.ref a0]).toArray below meth c H locs 0 0 QQ (F0 m 17 ls []) := by
      intro n17
      induction n17 with
      | zero =>
        intro v17_l2 v17_l1 v17_s_s H locs ls h  _ _ _ _
        rw [f_X10_mostSeated_L17] at h
        cases h
      | succ n17 ih17 =>
        intro v17_l2 v17_l1 v17_s_s H locs ls h  hP hD hS hl
        rw [f_X10_mostSeated_L17] at h
        refine lv_iload_n hx hb dX10_mostSeated_17 rfl (lv_at hl 0 rfl) ?_
        refine lv_aload_n hx hb dX10_mostSeated_18 rfl (lv_at hl 2 rfl) ?_
        obtain ⟨o19, eo19⟩ : ∃ o, o = f_X10_everyAsker p_p := ⟨_, rfl⟩
        have h := nm_of h o19 eo19
        refine cl_i (wc := ((a0, .inr (7, [.ref a1, g8, g9, g10, g11, .ref a2, g12, g13, .int o5.2.1, .int o5.2.2])) :: bX6 a1 up kp p_p [])) (wr := (bX8 a2 us ks v17_s_s [])) (va_runV (As := []) (rest := [.int v17_l2]) ⟨hx, hb, hml, hown, hts⟩ (kfX10_everyAsker l dC dI a0 a1 up kp (g8) (g9) (g10) (g11) (.ref a2) (g12) (g13) (.int o5.2.1) (.int o5.2.2) p_p H.size o19 eo19.symm) (cwV 0 hts gfX10_mostSeated_2 rfl rfl rfl (by decide +kernel) ⟨(Nat.le_of_ble_eq_true rfl), (Nat.le_of_ble_eq_true rfl)⟩) (PV (hP.sub (ws' := ((a0, .inr (7, [.ref a1, g8, g9, g10, g11, .ref a2, g12, g13, .int o5.2.1, .int o5.2.2])) :: bX6 a1 up kp p_p [])) [13, 3, 4, 5, 6, 7, 8, 9, 10, 11, 12] rfl) (hK.sub (tys' := (tX6 kp ([]))) [0, 1, 2, 3, 4, 5, 6, 7, 8] rfl) (hD.sub (ws' := ((a0, .inr (7, [.ref a1, g8, g9, g10, g11, .ref a2, g12, g13, .int o5.2.1, .int o5.2.2])) :: bX6 a1 up kp p_p [])) [13, 3, 4, 5, 6, 7, 8, 9, 10, 11, 12] (by decide) rfl) hN 0 rfl rfl) rfl rfl hl.1 rfl (lv_room (Nat.le_of_ble_eq_true rfl)) dX10_mostSeated_19 ⟨(Nat.le_of_ble_eq_true rfl), (Nat.le_of_ble_eq_true rfl)⟩) hP hD hK hS hA [13, 3, 4, 5, 6, 7, 8, 9, 10, 11, 12] [0, 1, 2] rfl rfl (by decide) (by decide) (fun r19 _ H locs hw hP hD _ hS => ?_)
        obtain rfl := hw.symm
        have hP : va_P (dC, dI) vwCl (bX8 a2 us ks v17_s_s ((a0, .inr (7, [.ref a1, g8, g9, g10, g11, .ref a2, g12, g13, .int o5.2.1, .int o5.2.2])) :: bX6 a1 up kp p_p [])) H := hP
        have hD : va_D A (bX8 a2 us ks v17_s_s ((a0, .inr (7, [.ref a1, g8, g9, g10, g11, .ref a2, g12, g13, .int o5.2.1, .int o5.2.2])) :: bX6 a1 up kp p_p [])) := hD
        refine lv_icmp_gt (tgt := 60) hx hb dX10_mostSeated_22 (by decide) (fun c22 => ?_) (fun c22 => ?_)
        · have h := (if_pos c22).symm.trans h
          refine lv_iload_n hx hb dX10_mostSeated_60 rfl (lv_at hl 1 rfl) ?_
          obtain rfl := Option.some.inj h
          have hP9 := hP.sub (ws' := ((a0, .inr (7, [.ref a1, g8, g9, g10, g11, .ref a2, g12, g13, .int o5.2.1, .int o5.2.2])) :: bX6 a1 up kp p_p (bX8 a2 us ks v17_s_s []))) [3, 4, 5, 6, 7, 8, 9, 10, 11, 12, 13, 0, 1, 2] rfl
          have hD9 := hD.sub (ws' := ((a0, .inr (7, [.ref a1, g8, g9, g10, g11, .ref a2, g12, g13, .int o5.2.1, .int o5.2.2])) :: bX6 a1 up kp p_p (bX8 a2 us ks v17_s_s []))) [3, 4, 5, 6, 7, 8, 9, 10, 11, 12, 13, 0, 1, 2] (by decide) rfl
          have hK9 := hK.sub (tys' := []) [] rfl
          rw [hQQ]
          exact W.iret (v := v17_l1) hx hb hr (fun t ht hW => ⟨⟨v17_l1, (), rfl, rfl, by rw [ht]; exact hP9, va_K.moved hW.alike hK9, hD9⟩, hS.F ht⟩) hS.2.2 dX10_mostSeated_61
        · have h := (if_neg c22).symm.trans h
          refine lv_iload_n hx hb dX10_mostSeated_25 rfl (lv_at hl 0 rfl) ?_
          obtain ⟨o26, eo26⟩ : ∃ o, o = f_J6_bitCount_0f7a4 v17_l2 := ⟨_, rfl⟩
          have h := nm_of h o26 eo26
          refine cl_i (wc := []) (wr := (bX8 a2 us ks v17_s_s ((a0, .inr (7, [.ref a1, g8, g9, g10, g11, .ref a2, g12, g13, .int o5.2.1, .int o5.2.2])) :: bX6 a1 up kp p_p []))) (va_runS (As := [.int v17_l2]) (rest := []) ⟨hx, hb, hml, hown, hts⟩ (kfJ6_bitCount_0f7a4 l dC dI v17_l2 H.size o26 eo26.symm) (va_cwS 1 hts gfX10_mostSeated_3 rfl rfl rfl (by decide +kernel) ⟨(Nat.le_of_ble_eq_true rfl), (Nat.le_of_ble_eq_true rfl)⟩) (PS (hP.sub (ws' := []) [] rfl) (hK.sub (tys' := ([])) [] rfl) (hD.sub (ws' := []) [] (by decide) rfl) hN) rfl rfl hl.1 rfl (lv_room (Nat.le_of_ble_eq_true rfl)) dX10_mostSeated_26 ⟨(Nat.le_of_ble_eq_true rfl), (Nat.le_of_ble_eq_true rfl)⟩) hP hD hK hS hA [] [0, 1, 2, 3, 4, 5, 6, 7, 8, 9, 10, 11, 12, 13] rfl rfl (by decide) (by decide) (fun r26 _ H locs hw hP hD _ hS => ?_)
          obtain rfl := hw.symm
          have hP : va_P (dC, dI) vwCl (bX8 a2 us ks v17_s_s ((a0, .inr (7, [.ref a1, g8, g9, g10, g11, .ref a2, g12, g13, .int o5.2.1, .int o5.2.2])) :: bX6 a1 up kp p_p [])) H := hP
          have hD : va_D A (bX8 a2 us ks v17_s_s ((a0, .inr (7, [.ref a1, g8, g9, g10, g11, .ref a2, g12, g13, .int o5.2.1, .int o5.2.2])) :: bX6 a1 up kp p_p [])) := hD
          refine lv_iload_n hx hb dX10_mostSeated_29 rfl (lv_at hl 1 rfl) ?_
          obtain ⟨o30, eo30⟩ : ∃ o, o = f_J6_bitCount_0f7a4 v17_l1 := ⟨_, rfl⟩
          have h := nm_of h o30 eo30
          refine cl_i (wc := []) (wr := (bX8 a2 us ks v17_s_s ((a0, .inr (7, [.ref a1, g8, g9, g10, g11, .ref a2, g12, g13, .int o5.2.1, .int o5.2.2])) :: bX6 a1 up kp p_p []))) (va_runS (As := [.int v17_l1]) (rest := [.int o26]) ⟨hx, hb, hml, hown, hts⟩ (kfJ6_bitCount_0f7a4 l dC dI v17_l1 H.size o30 eo30.symm) (va_cwS 1 hts gfX10_mostSeated_3 rfl rfl rfl (by decide +kernel) ⟨(Nat.le_of_ble_eq_true rfl), (Nat.le_of_ble_eq_true rfl)⟩) (PS (hP.sub (ws' := []) [] rfl) (hK.sub (tys' := ([])) [] rfl) (hD.sub (ws' := []) [] (by decide) rfl) hN) rfl rfl hl.1 rfl (lv_room (Nat.le_of_ble_eq_true rfl)) dX10_mostSeated_30 ⟨(Nat.le_of_ble_eq_true rfl), (Nat.le_of_ble_eq_true rfl)⟩) hP hD hK hS hA [] [0, 1, 2, 3, 4, 5, 6, 7, 8, 9, 10, 11, 12, 13] rfl rfl (by decide) (by decide) (fun r30 _ H locs hw hP hD _ hS => ?_)
          obtain rfl := hw.symm
          have hP : va_P (dC, dI) vwCl (bX8 a2 us ks v17_s_s ((a0, .inr (7, [.ref a1, g8, g9, g10, g11, .ref a2, g12, g13, .int o5.2.1, .int o5.2.2])) :: bX6 a1 up kp p_p [])) H := hP
          have hD : va_D A (bX8 a2 us ks v17_s_s ((a0, .inr (7, [.ref a1, g8, g9, g10, g11, .ref a2, g12, g13, .int o5.2.1, .int o5.2.2])) :: bX6 a1 up kp p_p [])) := hD
          have J54 : ∀ (v54_s_s : TX8_s) (v54_l1 : Int32) (H : Heap) (locs : List Loc) (ls : Array Slot), f_X10_mostSeated_J54 (f_X10_mostSeated_L17 p_p o5 n17) v17_l2 v54_s_s v54_l1 = some out → va_P (dC, dI) vwCl (bX8 a2 us ks v54_s_s ((a0, .inr (7, [.ref a1, g8, g9, g10, g11, .ref a2, g12, g13, .int o5.2.1, .int o5.2.2])) :: bX6 a1 up kp p_p [])) H → va_D A (bX8 a2 us ks v54_s_s ((a0, .inr (7, [.ref a1, g8, g9, g10, g11, .ref a2, g12, g13, .int o5.2.1, .int o5.2.2])) :: bX6 a1 up kp p_p [])) → va_S A s.heap H locs → lv_has ls 3 [(2, .int v17_l2), (1, .int v54_l1), (0, .ref a0)] → W p l e (headSpec vfX10_mostSeated { frames := 9, cells := 0, slots := 0, locals := 233 }).room s m ([.ref a0]).toArray below meth c H locs 0 0 QQ (F0 m 54 ls []) := by
            intro v54_s_s v54_l1 H locs ls h  hP hD hS hl
            rw [f_X10_mostSeated_J54] at h
            refine lv_iinc (v := (v17_l2 + (1 : Int32))) (lv' := [(2, .int (v17_l2 + (1 : Int32))), (1, .int v54_l1), (0, .ref a0)]) hx hb dX10_mostSeated_54 hl (k := 0) rfl rfl (by decide) rfl (fun ls hl => ?_)
            refine lv_goto (tgt := 17) hx hb dX10_mostSeated_57 (by decide) ?_
            exact ih17 (v17_l2 + (1 : Int32)) v54_l1 v54_s_s H _ ls h  (hP.sub (ws' := (bX8 a2 us ks v54_s_s (bX6 a1 up kp p_p ([(a0, .inr (7, [.ref a1, g8, g9, g10, g11, .ref a2, g12, g13, .int o5.2.1, .int o5.2.2]))])))) [0, 1, 2, 4, 5, 6, 7, 8, 9, 10, 11, 12, 13, 3] rfl) (hD.sub (ws' := (bX8 a2 us ks v54_s_s (bX6 a1 up kp p_p ([(a0, .inr (7, [.ref a1, g8, g9, g10, g11, .ref a2, g12, g13, .int o5.2.1, .int o5.2.2]))])))) [0, 1, 2, 4, 5, 6, 7, 8, 9, 10, 11, 12, 13, 3] (by decide) rfl) hS (lv_sub hl [0, 1, 2] rfl)
          refine lv_icmp_le (tgt := 54) hx hb dX10_mostSeated_33 (by decide) (fun c33 => ?_) (fun c33 => ?_)
          · have h := (if_pos c33).symm.trans h
            exact J54 v17_s_s v17_l1 H _ ls h  hP hD hS (lv_sub hl [0, 1, 2] rfl)
          · have h := (if_neg c33).symm.trans h
            refine lv_aload_n hx hb dX10_mostSeated_36 rfl (lv_at hl 2 rfl) ?_
            refine va_get (D := (dC, dI)) (ci := 7) (v := .ref a2) (C := RX10) (T := TX10) (N := 10) hx hb hts ifX10_mostSeated_X10 hown hK hP 3 rfl rfl 5 (by decide) (hts (.fieldLink RX10 43 "HookPier" "seats" "LHookPier$Seats;") (List.mem_of_getElem? (i := 14) rfl)) (fun _ h9 => h9) rfl dX10_mostSeated_37 ?_
            refine lv_aload_n hx hb dX10_mostSeated_40 rfl (lv_at hl 2 rfl) ?_
            refine va_get (D := (dC, dI)) (ci := 7) (v := .ref a1) (C := RX10) (T := TX10) (N := 10) hx hb hts ifX10_mostSeated_X10 hown hK hP 3 rfl rfl 0 (by decide) (hts (.fieldLink RX10 10 "HookPier" "plan" "LHookPier$Plan;") (List.mem_of_getElem? (i := 15) rfl)) (fun _ h9 => h9) rfl dX10_mostSeated_41 ?_
            refine lv_iload_n hx hb dX10_mostSeated_44 rfl (lv_at hl 0 rfl) ?_
            refine lv_iconst (v := 1) hx hb dX10_mostSeated_45 (by decide) ?_
            obtain ⟨o46, eo46, h⟩ := bd_of h
            refine cl_i (wc := (bX8 a2 us ks v17_s_s (bX6 a1 up kp p_p []))) (wr := ([(a0, .inr (7, [.ref a1, g8, g9, g10, g11, .ref a2, g12, g13, .int o5.2.1, .int o5.2.2]))])) (va_runV (As := [.ref a1, .int v17_l2, .int 1]) (rest := []) ⟨hx, hb, hml, hown, hts⟩ (kfX8_countRows l dC dI a2 a1 v17_l2 (1 : Int32) us ks up kp v17_s_s p_p H.size o46 eo46) (cwV 3 hts gfX10_mostSeated_4 rfl rfl rfl (by decide +kernel) ⟨(Nat.le_of_ble_eq_true rfl), (Nat.le_of_ble_eq_true rfl)⟩) (PV (hP.sub (ws' := (bX8 a2 us ks v17_s_s (bX6 a1 up kp p_p []))) [0, 1, 2, 4, 5, 6, 7, 8, 9, 10, 11, 12, 13] rfl) (hK.sub (tys' := (tX8 ks (tX6 kp ([])))) [9, 10, 0, 1, 2, 3, 4, 5, 6, 7, 8] rfl) (hD.sub (ws' := (bX8 a2 us ks v17_s_s (bX6 a1 up kp p_p []))) [0, 1, 2, 4, 5, 6, 7, 8, 9, 10, 11, 12, 13] (by decide) rfl) hN 0 rfl rfl) rfl rfl hl.1 rfl (lv_room (Nat.le_of_ble_eq_true rfl)) dX10_mostSeated_46 ⟨(Nat.le_of_ble_eq_true rfl), (Nat.le_of_ble_eq_true rfl)⟩) hP hD hK hS hA [0, 1, 2, 4, 5, 6, 7, 8, 9, 10, 11, 12, 13] [3] rfl rfl (by decide) (by decide) (fun r46 _ H locs hw hP hD _ hS => ?_)
            obtain rfl := hw
            have hP : va_P (dC, dI) vwCl ((a0, .inr (7, [.ref a1, g8, g9, g10, g11, .ref a2, g12, g13, .int o5.2.1, .int o5.2.2])) :: bX8 a2 us ks o46.2 (bX6 a1 up kp p_p [])) H := hP
            have hD : va_D A ((a0, .inr (7, [.ref a1, g8, g9, g10, g11, .ref a2, g12, g13, .int o5.2.1, .int o5.2.2])) :: bX8 a2 us ks o46.2 (bX6 a1 up kp p_p [])) := hD
            refine lv_if_le (tgt := 54) hx hb dX10_mostSeated_49 (by decide) (fun c49 => ?_) (fun c49 => ?_)
            · have h := (if_pos c49).symm.trans h
              exact J54 o46.2 v17_l1 H _ ls h  (hP.sub (ws' := (bX8 a2 us ks o46.2 ((a0, .inr (7, [.ref a1, g8, g9, g10, g11, .ref a2, g12, g13, .int o5.2.1, .int o5.2.2])) :: bX6 a1 up kp p_p []))) [1, 2, 3, 0, 4, 5, 6, 7, 8, 9, 10, 11, 12, 13] rfl) (hD.sub (ws' := (bX8 a2 us ks o46.2 ((a0, .inr (7, [.ref a1, g8, g9, g10, g11, .ref a2, g12, g13, .int o5.2.1, .int o5.2.2])) :: bX6 a1 up kp p_p []))) [1, 2, 3, 0, 4, 5, 6, 7, 8, 9, 10, 11, 12, 13] (by decide) rfl) hS (lv_sub hl [0, 1, 2] rfl)
            · have h := (if_neg c49).symm.trans h
              refine lv_iload_n hx hb dX10_mostSeated_52 rfl (lv_at hl 0 rfl) ?_
              refine lv_istore_n (lv' := [(1, .int v17_l2), (2, .int v17_l2), (0, .ref a0)]) hx hb dX10_mostSeated_53 rfl hl (by decide) rfl (fun ls hl => ?_)
              exact J54 o46.2 v17_l2 H _ ls h  (hP.sub (ws' := (bX8 a2 us ks o46.2 ((a0, .inr (7, [.ref a1, g8, g9, g10, g11, .ref a2, g12, g13, .int o5.2.1, .int o5.2.2])) :: bX6 a1 up kp p_p []))) [1, 2, 3, 0, 4, 5, 6, 7, 8, 9, 10, 11, 12, 13] rfl) (hD.sub (ws' := (bX8 a2 us ks o46.2 ((a0, .inr (7, [.ref a1, g8, g9, g10, g11, .ref a2, g12, g13, .int o5.2.1, .int o5.2.2])) :: bX6 a1 up kp p_p []))) [1, 2, 3, 0, 4, 5, 6, 7, 8, 9, 10, 11, 12, 13] (by decide) rfl) hS (lv_sub hl [1, 0, 2] rfl)
    exact L17 FU (1 : Int32) (0 : Int32) s_s H _ ls h  hP hD hS (lv_sub hl [0, 1, 2] rfl)
  · have h := (if_neg c8).symm.trans h
    refine lv_iconst (v := (-1)) hx hb dX10_mostSeated_11 (by decide) ?_
    obtain rfl := Option.some.inj h
    have hP9 := hP.sub (ws' := ((a0, .inr (7, [.ref a1, g8, g9, g10, g11, .ref a2, g12, g13, .int o5.2.1, .int o5.2.2])) :: bX6 a1 up kp p_p (bX8 a2 us ks s_s []))) [13, 3, 4, 5, 6, 7, 8, 9, 10, 11, 12, 0, 1, 2] rfl
    have hD9 := hD.sub (ws' := ((a0, .inr (7, [.ref a1, g8, g9, g10, g11, .ref a2, g12, g13, .int o5.2.1, .int o5.2.2])) :: bX6 a1 up kp p_p (bX8 a2 us ks s_s []))) [13, 3, 4, 5, 6, 7, 8, 9, 10, 11, 12, 0, 1, 2] (by decide) rfl
    have hK9 := hK.sub (tys' := []) [] rfl
    rw [hQQ]
    exact W.iret (v := (-1 : Int32)) hx hb hr (fun t ht hW => ⟨⟨(-1 : Int32), (), rfl, rfl, by rw [ht]; exact hP9, va_K.moved hW.alike hK9, hD9⟩, hS.F ht⟩) hS.2.2 dX10_mostSeated_12
theorem dX10_darkTrouble_0 : decode cX10_darkTrouble 0 = .ok (.aload_n 0, 1) := by decide +kernel
theorem dX10_darkTrouble_1 : decode cX10_darkTrouble 1 = .ok (.invokevirtual 216, 3) := by decide +kernel
theorem dX10_darkTrouble_10 : decode cX10_darkTrouble 10 = .ok (.getfield 10, 3) := by decide +kernel
theorem dX10_darkTrouble_13 : decode cX10_darkTrouble 13 = .ok (.getfield 287, 3) := by decide +kernel
theorem dX10_darkTrouble_16 : decode cX10_darkTrouble 16 = .ok (.iconst (-1), 1) := by decide +kernel
theorem dX10_darkTrouble_17 : decode cX10_darkTrouble 17 = .ok (.if_icmp .ne 8, 3) := by decide +kernel
theorem dX10_darkTrouble_20 : decode cX10_darkTrouble 20 = .ok (.bipush 6, 2) := by decide +kernel
theorem dX10_darkTrouble_22 : decode cX10_darkTrouble 22 = .ok (.goto 4, 3) := by decide +kernel
theorem dX10_darkTrouble_25 : decode cX10_darkTrouble 25 = .ok (.iload_n 1, 1) := by decide +kernel
theorem dX10_darkTrouble_26 : decode cX10_darkTrouble 26 = .ok (.ireturn, 1) := by decide +kernel
theorem dX10_darkTrouble_4 : decode cX10_darkTrouble 4 = .ok (.istore_n 1, 1) := by decide +kernel
theorem dX10_darkTrouble_5 : decode cX10_darkTrouble 5 = .ok (.iload_n 1, 1) := by decide +kernel
theorem dX10_darkTrouble_6 : decode cX10_darkTrouble 6 = .ok (.ifCond .ne 19, 3) := by decide +kernel
theorem dX10_darkTrouble_9 : decode cX10_darkTrouble 9 = .ok (.aload_n 0, 1) := by decide +kernel
def vfX10_darkTrouble : List Cond := List.cons (.code yX10_darkTrouble cX10_darkTrouble 2 (some .int)) (apW [.methodLink RX10 216 yX10_pierTrouble, .instanceMethod yX10_pierTrouble, .selects RX10 yX10_pierTrouble yX10_pierTrouble, .initialized RX10, .fieldLink RX10 10 "HookPier" "plan" "LHookPier$Plan;", .fieldLink RX10 287 "HookPier$Plan" "darkHunger" "I"] (apW wsX100 (apW wsX60 (vfX10_pierTrouble))))
theorem ifX10_darkTrouble_X10 : ∀ w ∈ wsX100, w ∈ vfX10_darkTrouble := fun _ h => (List.mem_cons_of_mem _ (List.mem_append_right _ (List.mem_append_left _ h)))
theorem ifX10_darkTrouble_X6 : ∀ w ∈ wsX60, w ∈ vfX10_darkTrouble := fun _ h => (List.mem_cons_of_mem _ (List.mem_append_right _ (List.mem_append_right _ (List.mem_append_left _ h))))
theorem qfX10_darkTrouble : Good vfX10_darkTrouble := gd_cons (by decide +kernel) (gd_app (gd_dec (by decide +kernel) : Good [.methodLink RX10 216 yX10_pierTrouble, .instanceMethod yX10_pierTrouble, .selects RX10 yX10_pierTrouble yX10_pierTrouble, .initialized RX10, .fieldLink RX10 10 "HookPier" "plan" "LHookPier$Plan;", .fieldLink RX10 287 "HookPier$Plan" "darkHunger" "I"]) (gd_app qsX10 (gd_app qsX6 qfX10_pierTrouble)))
theorem gfX10_darkTrouble_0 : GoodIn vfX10_darkTrouble (wsV RX10 216 RX10 yX10_pierTrouble vfX10_pierTrouble) := goodIn_app (goodIn_r [.methodLink RX10 216 yX10_pierTrouble, .instanceMethod yX10_pierTrouble, .selects RX10 yX10_pierTrouble yX10_pierTrouble, .initialized RX10] [1, 2, 3, 4] rfl (by decide +kernel)) (goodIn_m (fun _ h => (List.mem_cons_of_mem _ (List.mem_append_right _ (List.mem_append_right _ (List.mem_append_right _ h))))) qfX10_pierTrouble)
set_option maxHeartbeats 2000000 in
set_option maxRecDepth 100000 in
theorem kfX10_darkTrouble (l : Launch) (dC : Nat → ClassId) (dI : Nat → Nat → Nat) (a0 : Nat) (a1 : Nat) (up : Nat → Nat) (kp : Nat → ClassId) (g4 : Value) (g5 : Value) (g6 : Value) (g7 : Value) (g8 : Value) (g9 : Value) (g10 : Value) (g11 : Value) (g12 : Value) (p_p : TX6_p) (sz : Nat) (out : Int32) (h : f_X10_darkTrouble p_p = out) : Met l yX10_darkTrouble vfX10_darkTrouble ({ frames := 1, cells := 0, slots := 0, locals := 20 }) (PC (dC, dI) [.ref a0] sz ((a0, .inr (7, [.ref a1, g4, g5, g6, g7, g8, g9, g10, g11, g12])) :: bX6 a1 up kp p_p []) (tX6 kp ([]))) (va_Qi (S := Unit) (fun (r : Int32) _ => r = out) (fun _ t => BC (dC, dI) (va_A ((a0, .inr (7, [.ref a1, g4, g5, g6, g7, g8, g9, g10, g11, g12])) :: bX6 a1 up kp p_p []) sz) ((a0, .inr (7, [.ref a1, g4, g5, g6, g7, g8, g9, g10, g11, g12])) :: bX6 a1 up kp p_p []) [] t) (va_A ((a0, .inr (7, [.ref a1, g4, g5, g6, g7, g8, g9, g10, g11, g12])) :: bX6 a1 up kp p_p []) sz)) 0 0 (va_A ((a0, .inr (7, [.ref a1, g4, g5, g6, g7, g8, g9, g10, g11, g12])) :: bX6 a1 up kp p_p []) sz) := by
  refine Met.ofW (cc := cX10_darkTrouble) (maxL := 2) (ret := (some .int)) (by decide) rfl ?_
  intro p e s m args below meth c s₁ B0 hml hv
  obtain ⟨rfl, hsz, hP, hK, hD0, hN⟩ := hv
  have hx := B0.exec
  have hb := B0.bytes
  have hr := B0.returns
  have hts := atoms_spec (ws := vfX10_darkTrouble) B0.pre
  have hown : s.vm.findClass RX10 = some m.cls := findClass_of_methodNamed B0.named
  have hlocks := B0.notSynchronized
  subst hsz
  have hD := hD0.self (sz := s.heap.size)
  generalize hAe : va_A ((a0, .inr (7, [.ref a1, g4, g5, g6, g7, g8, g9, g10, g11, g12])) :: bX6 a1 up kp p_p []) s.heap.size = A at hD ⊢
  have hA : ∀ q : Nat, s.heap.size ≤ q → A q := fun q h => by rw [← hAe]; exact Or.inr h
  have hS : va_S A s.heap s.heap [] := va_S.rf
  have hP : va_P (dC, dI) vwCl ((a0, .inr (7, [.ref a1, g4, g5, g6, g7, g8, g9, g10, g11, g12])) :: bX6 a1 up kp p_p []) s.heap := hP
  have hl := lv_entry ([.ref a0]) (n := 2) (Nat.le_of_ble_eq_true rfl)
  rw [lg_entry_eq]
  generalize (lg_sl ([.ref a0]) ++ List.replicate (2 - (lg_sl ([.ref a0])).length) Slot.unset).toArray = ls at hl ⊢
  have hl : lv_has ls 2 [(0, .ref a0)] := hl
  refine W_q (fun QQ hQQ => ?_)
  rw [f_X10_darkTrouble] at h
  refine lv_aload_n hx hb dX10_darkTrouble_0 rfl (lv_at hl 0 rfl) ?_
  obtain ⟨o1, eo1⟩ : ∃ o, o = f_X10_pierTrouble p_p := ⟨_, rfl⟩
  have h := nm_of h o1 eo1
  refine cl_i (wc := ((a0, .inr (7, [.ref a1, g4, g5, g6, g7, g8, g9, g10, g11, g12])) :: bX6 a1 up kp p_p [])) (wr := []) (va_runV (As := []) (rest := []) ⟨hx, hb, hml, hown, hts⟩ (kfX10_pierTrouble l dC dI a0 a1 up kp (g4) (g5) (g6) (g7) (g8) (g9) (g10) (g11) (g12) p_p s.heap.size o1 eo1.symm) (cwV 0 hts gfX10_darkTrouble_0 rfl rfl rfl (by decide +kernel) ⟨(Nat.le_of_ble_eq_true rfl), (Nat.le_of_ble_eq_true rfl)⟩) (PV (hP.sub (ws' := ((a0, .inr (7, [.ref a1, g4, g5, g6, g7, g8, g9, g10, g11, g12])) :: bX6 a1 up kp p_p [])) [0, 1, 2, 3, 4, 5, 6, 7, 8, 9, 10] rfl) (hK.sub (tys' := (tX6 kp ([]))) [0, 1, 2, 3, 4, 5, 6, 7, 8] rfl) (hD.sub (ws' := ((a0, .inr (7, [.ref a1, g4, g5, g6, g7, g8, g9, g10, g11, g12])) :: bX6 a1 up kp p_p [])) [0, 1, 2, 3, 4, 5, 6, 7, 8, 9, 10] (by decide) rfl) hN 0 rfl rfl) rfl rfl hl.1 rfl (lv_room (Nat.le_of_ble_eq_true rfl)) dX10_darkTrouble_1 ⟨(Nat.le_of_ble_eq_true rfl), (Nat.le_of_ble_eq_true rfl)⟩) hP hD hK hS hA [0, 1, 2, 3, 4, 5, 6, 7, 8, 9, 10] [] rfl rfl (by decide) (by decide) (fun r1 _ H locs hw hP hD _ hS => ?_)
  obtain rfl := hw.symm
  have hP : va_P (dC, dI) vwCl ((a0, .inr (7, [.ref a1, g4, g5, g6, g7, g8, g9, g10, g11, g12])) :: bX6 a1 up kp p_p []) H := hP
  have hD : va_D A ((a0, .inr (7, [.ref a1, g4, g5, g6, g7, g8, g9, g10, g11, g12])) :: bX6 a1 up kp p_p []) := hD
  refine lv_istore_n (lv' := [(1, .int o1), (0, .ref a0)]) hx hb dX10_darkTrouble_4 rfl hl (by decide) rfl (fun ls hl => ?_)
  refine lv_iload_n hx hb dX10_darkTrouble_5 rfl (lv_at hl 0 rfl) ?_
  have J25 : ∀ (H : Heap) (locs : List Loc) (ls : Array Slot), f_X10_darkTrouble_J25 o1 = out → va_P (dC, dI) vwCl ((a0, .inr (7, [.ref a1, g4, g5, g6, g7, g8, g9, g10, g11, g12])) :: bX6 a1 up kp p_p []) H → va_D A ((a0, .inr (7, [.ref a1, g4, g5, g6, g7, g8, g9, g10, g11, g12])) :: bX6 a1 up kp p_p []) → va_S A s.heap H locs → lv_has ls 2 [(1, .int o1)] → W p l e (headSpec vfX10_darkTrouble { frames := 1, cells := 0, slots := 0, locals := 20 }).room s m ([.ref a0]).toArray below meth c H locs 0 0 QQ (F0 m 25 ls []) := by
    intro  H locs ls h  hP hD hS hl
    rw [f_X10_darkTrouble_J25] at h
    refine lv_iload_n hx hb dX10_darkTrouble_25 rfl (lv_at hl 0 rfl) ?_
    obtain rfl := h
    have hP9 := hP.sub (ws' := ((a0, .inr (7, [.ref a1, g4, g5, g6, g7, g8, g9, g10, g11, g12])) :: bX6 a1 up kp p_p [])) [0, 1, 2, 3, 4, 5, 6, 7, 8, 9, 10] rfl
    have hD9 := hD.sub (ws' := ((a0, .inr (7, [.ref a1, g4, g5, g6, g7, g8, g9, g10, g11, g12])) :: bX6 a1 up kp p_p [])) [0, 1, 2, 3, 4, 5, 6, 7, 8, 9, 10] (by decide) rfl
    have hK9 := hK.sub (tys' := []) [] rfl
    rw [hQQ]
    exact W.iret (v := o1) hx hb hr (fun t ht hW => ⟨⟨o1, (), rfl, rfl, by rw [ht]; exact hP9, va_K.moved hW.alike hK9, hD9⟩, hS.F ht⟩) hS.2.2 dX10_darkTrouble_26
  refine lv_if_ne (tgt := 25) hx hb dX10_darkTrouble_6 (by decide) (fun c6 => ?_) (fun c6 => ?_)
  · have h := (if_neg c6).symm.trans h
    exact J25  H _ ls h  hP hD hS (lv_sub hl [0] rfl)
  · have h := (if_pos c6).symm.trans h
    refine lv_aload_n hx hb dX10_darkTrouble_9 rfl (lv_at hl 1 rfl) ?_
    refine va_get (D := (dC, dI)) (ci := 7) (v := .ref a1) (C := RX10) (T := TX10) (N := 10) hx hb hts ifX10_darkTrouble_X10 hown hK hP 0 rfl rfl 0 (by decide) (hts (.fieldLink RX10 10 "HookPier" "plan" "LHookPier$Plan;") (List.mem_of_getElem? (i := 5) rfl)) (fun _ h9 => h9) rfl dX10_darkTrouble_10 ?_
    refine va_get (D := (dC, dI)) (ci := 4) (v := .int p_p.2.2.2.2.2.2.2.2.1) (C := RX6) (T := TX6) (N := 18) hx hb hts ifX10_darkTrouble_X6 hown hK hP 1 rfl rfl 8 (by decide) (hts (.fieldLink RX10 287 "HookPier$Plan" "darkHunger" "I") (List.mem_of_getElem? (i := 6) rfl)) (fun _ h9 => h9) rfl dX10_darkTrouble_13 ?_
    refine lv_iconst (v := (-1)) hx hb dX10_darkTrouble_16 (by decide) ?_
    refine lv_icmp_ne (tgt := 25) hx hb dX10_darkTrouble_17 (by decide) (fun c17 => ?_) (fun c17 => ?_)
    · have h := (if_neg c17).symm.trans h
      exact J25  H _ ls h  hP hD hS (lv_sub hl [0] rfl)
    · have h := (if_pos c17).symm.trans h
      refine lv_bipush (v := 6) hx hb dX10_darkTrouble_20 (by decide) ?_
      refine lv_goto (tgt := 26) hx hb dX10_darkTrouble_22 (by decide) ?_
      obtain rfl := h
      have hP9 := hP.sub (ws' := ((a0, .inr (7, [.ref a1, g4, g5, g6, g7, g8, g9, g10, g11, g12])) :: bX6 a1 up kp p_p [])) [0, 1, 2, 3, 4, 5, 6, 7, 8, 9, 10] rfl
      have hD9 := hD.sub (ws' := ((a0, .inr (7, [.ref a1, g4, g5, g6, g7, g8, g9, g10, g11, g12])) :: bX6 a1 up kp p_p [])) [0, 1, 2, 3, 4, 5, 6, 7, 8, 9, 10] (by decide) rfl
      have hK9 := hK.sub (tys' := []) [] rfl
      rw [hQQ]
      exact W.iret (v := (6 : Int32)) hx hb hr (fun t ht hW => ⟨⟨(6 : Int32), (), rfl, rfl, by rw [ht]; exact hP9, va_K.moved hW.alike hK9, hD9⟩, hS.F ht⟩) hS.2.2 dX10_darkTrouble_26
theorem dX0_wouldBite_0 : decode cX0_wouldBite 0 = .ok (.iload_n 0, 1) := by decide +kernel
theorem dX0_wouldBite_1 : decode cX0_wouldBite 1 = .ok (.iload_n 1, 1) := by decide +kernel
theorem dX0_wouldBite_12 : decode cX0_wouldBite 12 = .ok (.bipush 20, 2) := by decide +kernel
theorem dX0_wouldBite_14 : decode cX0_wouldBite 14 = .ok (.goto 4, 3) := by decide +kernel
theorem dX0_wouldBite_17 : decode cX0_wouldBite 17 = .ok (.iconst 0, 1) := by decide +kernel
theorem dX0_wouldBite_18 : decode cX0_wouldBite 18 = .ok (.iadd, 1) := by decide +kernel
theorem dX0_wouldBite_19 : decode cX0_wouldBite 19 = .ok (.bipush 10, 2) := by decide +kernel
theorem dX0_wouldBite_2 : decode cX0_wouldBite 2 = .ok (.invokestatic 60, 3) := by decide +kernel
theorem dX0_wouldBite_21 : decode cX0_wouldBite 21 = .ok (.iload_n 1, 1) := by decide +kernel
theorem dX0_wouldBite_22 : decode cX0_wouldBite 22 = .ok (.invokestatic 64, 3) := by decide +kernel
theorem dX0_wouldBite_25 : decode cX0_wouldBite 25 = .ok (.iload_n 2, 1) := by decide +kernel
theorem dX0_wouldBite_26 : decode cX0_wouldBite 26 = .ok (.invokestatic 64, 3) := by decide +kernel
theorem dX0_wouldBite_29 : decode cX0_wouldBite 29 = .ok (.isub, 1) := by decide +kernel
theorem dX0_wouldBite_30 : decode cX0_wouldBite 30 = .ok (.invokestatic 67, 3) := by decide +kernel
theorem dX0_wouldBite_33 : decode cX0_wouldBite 33 = .ok (.imul, 1) := by decide +kernel
theorem dX0_wouldBite_34 : decode cX0_wouldBite 34 = .ok (.isub, 1) := by decide +kernel
theorem dX0_wouldBite_35 : decode cX0_wouldBite 35 = .ok (.bipush 8, 2) := by decide +kernel
theorem dX0_wouldBite_37 : decode cX0_wouldBite 37 = .ok (.iload_n 1, 1) := by decide +kernel
theorem dX0_wouldBite_38 : decode cX0_wouldBite 38 = .ok (.invokestatic 70, 3) := by decide +kernel
theorem dX0_wouldBite_41 : decode cX0_wouldBite 41 = .ok (.iload_n 2, 1) := by decide +kernel
theorem dX0_wouldBite_42 : decode cX0_wouldBite 42 = .ok (.invokestatic 70, 3) := by decide +kernel
theorem dX0_wouldBite_45 : decode cX0_wouldBite 45 = .ok (.isub, 1) := by decide +kernel
theorem dX0_wouldBite_46 : decode cX0_wouldBite 46 = .ok (.invokestatic 67, 3) := by decide +kernel
theorem dX0_wouldBite_49 : decode cX0_wouldBite 49 = .ok (.imul, 1) := by decide +kernel
theorem dX0_wouldBite_5 : decode cX0_wouldBite 5 = .ok (.iload_n 2, 1) := by decide +kernel
theorem dX0_wouldBite_50 : decode cX0_wouldBite 50 = .ok (.isub, 1) := by decide +kernel
theorem dX0_wouldBite_51 : decode cX0_wouldBite 51 = .ok (.istore_n 3, 1) := by decide +kernel
theorem dX0_wouldBite_52 : decode cX0_wouldBite 52 = .ok (.iload_n 3, 1) := by decide +kernel
theorem dX0_wouldBite_53 : decode cX0_wouldBite 53 = .ok (.bipush 50, 2) := by decide +kernel
theorem dX0_wouldBite_55 : decode cX0_wouldBite 55 = .ok (.if_icmp .lt 7, 3) := by decide +kernel
theorem dX0_wouldBite_58 : decode cX0_wouldBite 58 = .ok (.iconst 1, 1) := by decide +kernel
theorem dX0_wouldBite_59 : decode cX0_wouldBite 59 = .ok (.goto 4, 3) := by decide +kernel
theorem dX0_wouldBite_6 : decode cX0_wouldBite 6 = .ok (.invokestatic 60, 3) := by decide +kernel
theorem dX0_wouldBite_62 : decode cX0_wouldBite 62 = .ok (.iconst 0, 1) := by decide +kernel
theorem dX0_wouldBite_63 : decode cX0_wouldBite 63 = .ok (.ireturn, 1) := by decide +kernel
theorem dX0_wouldBite_9 : decode cX0_wouldBite 9 = .ok (.if_icmp .ne 8, 3) := by decide +kernel
def vfX0_wouldBite : List Cond := List.cons (.code yX0_wouldBite cX0_wouldBite 4 (some .boolean)) (apW [.initialized RX10, .static yX10_baitOf, .static yX10_spotOf, .methodLink RX0 67 Lib.Math.abs.name, .static Lib.Math.abs.name, .initialized "java/lang/Math", .code Lib.Math.abs.name Lib.Math.abs.code 1 (some .int), .static yX10_fathomsOf] (apW vfX10_baitOf (apW vfX10_spotOf (vfX10_fathomsOf))))
theorem qfX0_wouldBite : Good vfX0_wouldBite := gd_cons (by decide +kernel) (gd_app (gd_dec (by decide +kernel) : Good [.initialized RX10, .static yX10_baitOf, .static yX10_spotOf, .methodLink RX0 67 Lib.Math.abs.name, .static Lib.Math.abs.name, .initialized "java/lang/Math", .code Lib.Math.abs.name Lib.Math.abs.code 1 (some .int), .static yX10_fathomsOf]) (gd_app qfX10_baitOf (gd_app qfX10_spotOf qfX10_fathomsOf)))
theorem gfX0_wouldBite_0 : GoodIn vfX0_wouldBite vfX10_baitOf := (goodIn_m (fun _ h => (List.mem_cons_of_mem _ (List.mem_append_right _ (List.mem_append_left _ h)))) qfX10_baitOf)
theorem gfX0_wouldBite_1 : GoodIn vfX0_wouldBite vfX10_spotOf := (goodIn_m (fun _ h => (List.mem_cons_of_mem _ (List.mem_append_right _ (List.mem_append_right _ (List.mem_append_left _ h))))) qfX10_spotOf)
theorem gfX0_wouldBite_2 : GoodIn vfX0_wouldBite vfX10_fathomsOf := (goodIn_m (fun _ h => (List.mem_cons_of_mem _ (List.mem_append_right _ (List.mem_append_right _ (List.mem_append_right _ h))))) qfX10_fathomsOf)
set_option maxHeartbeats 2000000 in
set_option maxRecDepth 100000 in
theorem kfX0_wouldBite (l : Launch) (dC : Nat → ClassId) (dI : Nat → Nat → Nat) (k0 : Int32) (k1 : Int32) (k2 : Int32) (sz : Nat) (out : Int32) (h : f_X0_wouldBite k0 k1 k2 = out) : Met l yX0_wouldBite vfX0_wouldBite ({ frames := 1, cells := 0, slots := 0, locals := 21 }) (PC (dC, dI) [.int k0, .int k1, .int k2] sz [] ([])) (va_Qi (S := Unit) (fun (r : Int32) _ => r = out ∧ (0 ≤ r.toInt ∧ r.toInt ≤ 1)) (fun _ t => BC (dC, dI) (va_A [] sz) [] [] t) (va_A [] sz)) 0 0 (va_A [] sz) := by
  refine Met.ofW (cc := cX0_wouldBite) (maxL := 4) (ret := (some .boolean)) (by decide) rfl ?_
  intro p e s m args below meth c s₁ B0 hml hv
  obtain ⟨rfl, hsz, hP, hK, hD0, hN⟩ := hv
  have hx := B0.exec
  have hb := B0.bytes
  have hr := B0.returns
  have hts := atoms_spec (ws := vfX0_wouldBite) B0.pre
  have hown : s.vm.findClass RX0 = some m.cls := findClass_of_methodNamed B0.named
  have hlocks := B0.notSynchronized
  subst hsz
  have hD := hD0.self (sz := s.heap.size)
  generalize hAe : va_A [] s.heap.size = A at hD ⊢
  have hA : ∀ q : Nat, s.heap.size ≤ q → A q := fun q h => by rw [← hAe]; exact Or.inr h
  have hS : va_S A s.heap s.heap [] := va_S.rf
  have hP : va_P (dC, dI) vwCl [] s.heap := hP
  have hl := lv_entry ([.int k0, .int k1, .int k2]) (n := 4) (Nat.le_of_ble_eq_true rfl)
  rw [lg_entry_eq]
  generalize (lg_sl ([.int k0, .int k1, .int k2]) ++ List.replicate (4 - (lg_sl ([.int k0, .int k1, .int k2])).length) Slot.unset).toArray = ls at hl ⊢
  have hl : lv_has ls 4 [(0, .int k0), (1, .int k1), (2, .int k2)] := hl
  refine W_q (fun QQ hQQ => ?_)
  rw [f_X0_wouldBite] at h
  refine lv_iload_n hx hb dX0_wouldBite_0 rfl (lv_at hl 0 rfl) ?_
  refine lv_iload_n hx hb dX0_wouldBite_1 rfl (lv_at hl 1 rfl) ?_
  obtain ⟨o2, eo2⟩ : ∃ o, o = f_X10_baitOf k1 := ⟨_, rfl⟩
  have h := nm_of h o2 eo2
  refine cl_i (wc := []) (wr := []) (va_runSN (As := [.int k1]) (rest := [.int k0]) ⟨hx, hb, hml, hown, hts⟩ (kfX10_baitOf l dC dI k1 s.heap.size o2 eo2.symm) ⟨va_cnB 1 hts gfX0_wouldBite_0 rfl rfl rfl (hN.1 (.methodLinkNest RX0 60 yX10_baitOf "HookPier") (List.mem_of_getElem? (i := 15) rfl)) (hts (.initialized RX10) (List.mem_of_getElem? (i := 1) rfl)) (by decide +kernel) ⟨(Nat.le_of_ble_eq_true rfl), (Nat.le_of_ble_eq_true rfl)⟩, (hts (.static yX10_baitOf) (List.mem_of_getElem? (i := 2) rfl)), trivial⟩ (PS (hP.sub (ws' := []) [] rfl) (hK.sub (tys' := ([])) [] rfl) (hD.sub (ws' := []) [] (by decide) rfl) hN) rfl rfl hl.1 rfl (lv_room (Nat.le_of_ble_eq_true rfl)) dX0_wouldBite_2 ⟨(Nat.le_of_ble_eq_true rfl), (Nat.le_of_ble_eq_true rfl)⟩) hP hD hK hS hA [] [] rfl rfl (by decide) (by decide) (fun r2 _ H locs hw hP hD _ hS => ?_)
  obtain rfl := hw.symm
  have hP : va_P (dC, dI) vwCl [] H := hP
  have hD : va_D A [] := hD
  refine lv_iload_n hx hb dX0_wouldBite_5 rfl (lv_at hl 2 rfl) ?_
  obtain ⟨o6, eo6⟩ : ∃ o, o = f_X10_baitOf k2 := ⟨_, rfl⟩
  have h := nm_of h o6 eo6
  refine cl_i (wc := []) (wr := []) (va_runSN (As := [.int k2]) (rest := [.int o2, .int k0]) ⟨hx, hb, hml, hown, hts⟩ (kfX10_baitOf l dC dI k2 H.size o6 eo6.symm) ⟨va_cnB 1 hts gfX0_wouldBite_0 rfl rfl rfl (hN.1 (.methodLinkNest RX0 60 yX10_baitOf "HookPier") (List.mem_of_getElem? (i := 15) rfl)) (hts (.initialized RX10) (List.mem_of_getElem? (i := 1) rfl)) (by decide +kernel) ⟨(Nat.le_of_ble_eq_true rfl), (Nat.le_of_ble_eq_true rfl)⟩, (hts (.static yX10_baitOf) (List.mem_of_getElem? (i := 2) rfl)), trivial⟩ (PS (hP.sub (ws' := []) [] rfl) (hK.sub (tys' := ([])) [] rfl) (hD.sub (ws' := []) [] (by decide) rfl) hN) rfl rfl hl.1 rfl (lv_room (Nat.le_of_ble_eq_true rfl)) dX0_wouldBite_6 ⟨(Nat.le_of_ble_eq_true rfl), (Nat.le_of_ble_eq_true rfl)⟩) hP hD hK hS hA [] [] rfl rfl (by decide) (by decide) (fun r6 _ H locs hw hP hD _ hS => ?_)
  obtain rfl := hw.symm
  have hP : va_P (dC, dI) vwCl [] H := hP
  have hD : va_D A [] := hD
  have J18 : ∀ (v18_t1 : Int32) (H : Heap) (locs : List Loc) (ls : Array Slot), f_X0_wouldBite_J18 k0 k1 k2 v18_t1 = out → va_P (dC, dI) vwCl [] H → va_D A [] → va_S A s.heap H locs → lv_has ls 4 [(1, .int k1), (2, .int k2)] → W p l e (headSpec vfX0_wouldBite { frames := 1, cells := 0, slots := 0, locals := 21 }).room s m ([.int k0, .int k1, .int k2]).toArray below meth c H locs 0 0 QQ (F0 m 18 ls [.int v18_t1, .int k0]) := by
    intro v18_t1 H locs ls h  hP hD hS hl
    rw [f_X0_wouldBite_J18] at h
    refine lv_iadd hx hb dX0_wouldBite_18 ?_
    refine lv_bipush (v := 10) hx hb dX0_wouldBite_19 (by decide) ?_
    refine lv_iload_n hx hb dX0_wouldBite_21 rfl (lv_at hl 0 rfl) ?_
    obtain ⟨o22, eo22⟩ : ∃ o, o = f_X10_spotOf k1 := ⟨_, rfl⟩
    have h := nm_of h o22 eo22
    refine cl_i (wc := []) (wr := []) (va_runSN (As := [.int k1]) (rest := [.int 10, .int (k0 + v18_t1)]) ⟨hx, hb, hml, hown, hts⟩ (kfX10_spotOf l dC dI k1 H.size o22 eo22.symm) ⟨va_cnB 1 hts gfX0_wouldBite_1 rfl rfl rfl (hN.1 (.methodLinkNest RX0 64 yX10_spotOf "HookPier") (List.mem_of_getElem? (i := 16) rfl)) (hts (.initialized RX10) (List.mem_of_getElem? (i := 1) rfl)) (by decide +kernel) ⟨(Nat.le_of_ble_eq_true rfl), (Nat.le_of_ble_eq_true rfl)⟩, (hts (.static yX10_spotOf) (List.mem_of_getElem? (i := 3) rfl)), trivial⟩ (PS (hP.sub (ws' := []) [] rfl) (hK.sub (tys' := ([])) [] rfl) (hD.sub (ws' := []) [] (by decide) rfl) hN) rfl rfl hl.1 rfl (lv_room (Nat.le_of_ble_eq_true rfl)) dX0_wouldBite_22 ⟨(Nat.le_of_ble_eq_true rfl), (Nat.le_of_ble_eq_true rfl)⟩) hP hD hK hS hA [] [] rfl rfl (by decide) (by decide) (fun r22 _ H locs hw hP hD _ hS => ?_)
    obtain rfl := hw.symm
    have hP : va_P (dC, dI) vwCl [] H := hP
    have hD : va_D A [] := hD
    refine lv_iload_n hx hb dX0_wouldBite_25 rfl (lv_at hl 1 rfl) ?_
    obtain ⟨o26, eo26⟩ : ∃ o, o = f_X10_spotOf k2 := ⟨_, rfl⟩
    have h := nm_of h o26 eo26
    refine cl_i (wc := []) (wr := []) (va_runSN (As := [.int k2]) (rest := [.int o22, .int 10, .int (k0 + v18_t1)]) ⟨hx, hb, hml, hown, hts⟩ (kfX10_spotOf l dC dI k2 H.size o26 eo26.symm) ⟨va_cnB 1 hts gfX0_wouldBite_1 rfl rfl rfl (hN.1 (.methodLinkNest RX0 64 yX10_spotOf "HookPier") (List.mem_of_getElem? (i := 16) rfl)) (hts (.initialized RX10) (List.mem_of_getElem? (i := 1) rfl)) (by decide +kernel) ⟨(Nat.le_of_ble_eq_true rfl), (Nat.le_of_ble_eq_true rfl)⟩, (hts (.static yX10_spotOf) (List.mem_of_getElem? (i := 3) rfl)), trivial⟩ (PS (hP.sub (ws' := []) [] rfl) (hK.sub (tys' := ([])) [] rfl) (hD.sub (ws' := []) [] (by decide) rfl) hN) rfl rfl hl.1 rfl (lv_room (Nat.le_of_ble_eq_true rfl)) dX0_wouldBite_26 ⟨(Nat.le_of_ble_eq_true rfl), (Nat.le_of_ble_eq_true rfl)⟩) hP hD hK hS hA [] [] rfl rfl (by decide) (by decide) (fun r26 _ H locs hw hP hD _ hS => ?_)
    obtain rfl := hw.symm
    have hP : va_P (dC, dI) vwCl [] H := hP
    have hD : va_D A [] := hD
    refine lv_isub hx hb dX0_wouldBite_29 ?_
    refine va_mabs hx hb (by rw [hml]; exact hl.1.symm) hown (hts (.methodLink RX0 67 Lib.Math.abs.name) (List.mem_of_getElem? (i := 4) rfl)) (hts (.static Lib.Math.abs.name) (List.mem_of_getElem? (i := 5) rfl)) (hts (.initialized "java/lang/Math") (List.mem_of_getElem? (i := 6) rfl)) (hts (.code Lib.Math.abs.name Lib.Math.abs.code 1 (some .int)) (List.mem_of_getElem? (i := 7) rfl)) (Nat.le_of_ble_eq_true rfl) (Nat.le_of_ble_eq_true rfl) (Nat.le_of_ble_eq_true rfl) (Nat.le_of_ble_eq_true rfl) dX0_wouldBite_30 ?_
    refine lv_topi (fun z30 ez30 => ?_)
    have h := nm_of h z30 ez30
    refine lv_imul hx hb dX0_wouldBite_33 ?_
    refine lv_isub hx hb dX0_wouldBite_34 ?_
    refine lv_bipush (v := 8) hx hb dX0_wouldBite_35 (by decide) ?_
    refine lv_iload_n hx hb dX0_wouldBite_37 rfl (lv_at hl 0 rfl) ?_
    obtain ⟨o38, eo38⟩ : ∃ o, o = f_X10_fathomsOf k1 := ⟨_, rfl⟩
    have h := nm_of h o38 eo38
    refine cl_i (wc := []) (wr := []) (va_runSN (As := [.int k1]) (rest := [.int 8, .int ((k0 + v18_t1) - ((10 : Int32) * z30))]) ⟨hx, hb, hml, hown, hts⟩ (kfX10_fathomsOf l dC dI k1 H.size o38 eo38.symm) ⟨va_cnB 1 hts gfX0_wouldBite_2 rfl rfl rfl (hN.1 (.methodLinkNest RX0 70 yX10_fathomsOf "HookPier") (List.mem_of_getElem? (i := 17) rfl)) (hts (.initialized RX10) (List.mem_of_getElem? (i := 1) rfl)) (by decide +kernel) ⟨(Nat.le_of_ble_eq_true rfl), (Nat.le_of_ble_eq_true rfl)⟩, (hts (.static yX10_fathomsOf) (List.mem_of_getElem? (i := 8) rfl)), trivial⟩ (PS (hP.sub (ws' := []) [] rfl) (hK.sub (tys' := ([])) [] rfl) (hD.sub (ws' := []) [] (by decide) rfl) hN) rfl rfl hl.1 rfl (lv_room (Nat.le_of_ble_eq_true rfl)) dX0_wouldBite_38 ⟨(Nat.le_of_ble_eq_true rfl), (Nat.le_of_ble_eq_true rfl)⟩) hP hD hK hS hA [] [] rfl rfl (by decide) (by decide) (fun r38 _ H locs hw hP hD _ hS => ?_)
    obtain rfl := hw.symm
    have hP : va_P (dC, dI) vwCl [] H := hP
    have hD : va_D A [] := hD
    refine lv_iload_n hx hb dX0_wouldBite_41 rfl (lv_at hl 1 rfl) ?_
    obtain ⟨o42, eo42⟩ : ∃ o, o = f_X10_fathomsOf k2 := ⟨_, rfl⟩
    have h := nm_of h o42 eo42
    refine cl_i (wc := []) (wr := []) (va_runSN (As := [.int k2]) (rest := [.int o38, .int 8, .int ((k0 + v18_t1) - ((10 : Int32) * z30))]) ⟨hx, hb, hml, hown, hts⟩ (kfX10_fathomsOf l dC dI k2 H.size o42 eo42.symm) ⟨va_cnB 1 hts gfX0_wouldBite_2 rfl rfl rfl (hN.1 (.methodLinkNest RX0 70 yX10_fathomsOf "HookPier") (List.mem_of_getElem? (i := 17) rfl)) (hts (.initialized RX10) (List.mem_of_getElem? (i := 1) rfl)) (by decide +kernel) ⟨(Nat.le_of_ble_eq_true rfl), (Nat.le_of_ble_eq_true rfl)⟩, (hts (.static yX10_fathomsOf) (List.mem_of_getElem? (i := 8) rfl)), trivial⟩ (PS (hP.sub (ws' := []) [] rfl) (hK.sub (tys' := ([])) [] rfl) (hD.sub (ws' := []) [] (by decide) rfl) hN) rfl rfl hl.1 rfl (lv_room (Nat.le_of_ble_eq_true rfl)) dX0_wouldBite_42 ⟨(Nat.le_of_ble_eq_true rfl), (Nat.le_of_ble_eq_true rfl)⟩) hP hD hK hS hA [] [] rfl rfl (by decide) (by decide) (fun r42 _ H locs hw hP hD _ hS => ?_)
    obtain rfl := hw.symm
    have hP : va_P (dC, dI) vwCl [] H := hP
    have hD : va_D A [] := hD
    refine lv_isub hx hb dX0_wouldBite_45 ?_
    refine va_mabs hx hb (by rw [hml]; exact hl.1.symm) hown (hts (.methodLink RX0 67 Lib.Math.abs.name) (List.mem_of_getElem? (i := 4) rfl)) (hts (.static Lib.Math.abs.name) (List.mem_of_getElem? (i := 5) rfl)) (hts (.initialized "java/lang/Math") (List.mem_of_getElem? (i := 6) rfl)) (hts (.code Lib.Math.abs.name Lib.Math.abs.code 1 (some .int)) (List.mem_of_getElem? (i := 7) rfl)) (Nat.le_of_ble_eq_true rfl) (Nat.le_of_ble_eq_true rfl) (Nat.le_of_ble_eq_true rfl) (Nat.le_of_ble_eq_true rfl) dX0_wouldBite_46 ?_
    refine lv_topi (fun z46 ez46 => ?_)
    have h := nm_of h z46 ez46
    refine lv_imul hx hb dX0_wouldBite_49 ?_
    refine lv_isub hx hb dX0_wouldBite_50 ?_
    refine lv_topi (fun z50 ez50 => ?_)
    have h := nm_of h z50 ez50
    refine lv_istore_n (lv' := [(3, .int z50), (1, .int k1), (2, .int k2)]) hx hb dX0_wouldBite_51 rfl hl (by decide) rfl (fun ls hl => ?_)
    refine lv_iload_n hx hb dX0_wouldBite_52 rfl (lv_at hl 0 rfl) ?_
    refine lv_bipush (v := 50) hx hb dX0_wouldBite_53 (by decide) ?_
    refine lv_icmp_lt (tgt := 62) hx hb dX0_wouldBite_55 (by decide) (fun c55 => ?_) (fun c55 => ?_)
    · have h := (if_pos c55).symm.trans h
      refine lv_iconst (v := 0) hx hb dX0_wouldBite_62 (by decide) ?_
      obtain rfl := h
      have hP9 := hP.sub (ws' := []) [] rfl
      have hD9 := hD.sub (ws' := []) [] (by decide) rfl
      have hK9 := hK.sub (tys' := []) [] rfl
      rw [hQQ]
      exact W.zret (v := (0 : Int32)) hx hb hr rfl (fun t ht hW => ⟨⟨(0 : Int32), (), rfl, ⟨rfl, (by decide)⟩, by rw [ht]; exact hP9, va_K.moved hW.alike hK9, hD9⟩, hS.F ht⟩) hS.2.2 dX0_wouldBite_63
    · have h := (if_neg c55).symm.trans h
      refine lv_iconst (v := 1) hx hb dX0_wouldBite_58 (by decide) ?_
      refine lv_goto (tgt := 63) hx hb dX0_wouldBite_59 (by decide) ?_
      obtain rfl := h
      have hP9 := hP.sub (ws' := []) [] rfl
      have hD9 := hD.sub (ws' := []) [] (by decide) rfl
      have hK9 := hK.sub (tys' := []) [] rfl
      rw [hQQ]
      exact W.zret (v := (1 : Int32)) hx hb hr rfl (fun t ht hW => ⟨⟨(1 : Int32), (), rfl, ⟨rfl, (by decide)⟩, by rw [ht]; exact hP9, va_K.moved hW.alike hK9, hD9⟩, hS.F ht⟩) hS.2.2 dX0_wouldBite_63
  refine lv_icmp_ne (tgt := 17) hx hb dX0_wouldBite_9 (by decide) (fun c9 => ?_) (fun c9 => ?_)
  · have h := (if_neg c9).symm.trans h
    refine lv_iconst (v := 0) hx hb dX0_wouldBite_17 (by decide) ?_
    exact J18 (0 : Int32) H _ ls h  hP hD hS (lv_sub hl [1, 2] rfl)
  · have h := (if_pos c9).symm.trans h
    refine lv_bipush (v := 20) hx hb dX0_wouldBite_12 (by decide) ?_
    refine lv_goto (tgt := 18) hx hb dX0_wouldBite_14 (by decide) ?_
    exact J18 (20 : Int32) H _ ls h  hP hD hS (lv_sub hl [1, 2] rfl)
theorem dX0_isAsTold_0 : decode cX0_isAsTold 0 = .ok (.iconst 0, 1) := by decide +kernel
theorem dX0_isAsTold_1 : decode cX0_isAsTold 1 = .ok (.istore_n 2, 1) := by decide +kernel
theorem dX0_isAsTold_10 : decode cX0_isAsTold 10 = .ok (.aload_n 0, 1) := by decide +kernel
theorem dX0_isAsTold_11 : decode cX0_isAsTold 11 = .ok (.getfield 37, 3) := by decide +kernel
theorem dX0_isAsTold_14 : decode cX0_isAsTold 14 = .ok (.iload_n 1, 1) := by decide +kernel
theorem dX0_isAsTold_15 : decode cX0_isAsTold 15 = .ok (.aload_n 0, 1) := by decide +kernel
theorem dX0_isAsTold_16 : decode cX0_isAsTold 16 = .ok (.getfield 53, 3) := by decide +kernel
theorem dX0_isAsTold_19 : decode cX0_isAsTold 19 = .ok (.iload_n 2, 1) := by decide +kernel
theorem dX0_isAsTold_2 : decode cX0_isAsTold 2 = .ok (.iload_n 2, 1) := by decide +kernel
theorem dX0_isAsTold_20 : decode cX0_isAsTold 20 = .ok (.iaload, 1) := by decide +kernel
theorem dX0_isAsTold_21 : decode cX0_isAsTold 21 = .ok (.invokestatic 40, 3) := by decide +kernel
theorem dX0_isAsTold_24 : decode cX0_isAsTold 24 = .ok (.aload_n 0, 1) := by decide +kernel
theorem dX0_isAsTold_25 : decode cX0_isAsTold 25 = .ok (.getfield 56, 3) := by decide +kernel
theorem dX0_isAsTold_28 : decode cX0_isAsTold 28 = .ok (.iload_n 2, 1) := by decide +kernel
theorem dX0_isAsTold_29 : decode cX0_isAsTold 29 = .ok (.baload, 1) := by decide +kernel
theorem dX0_isAsTold_3 : decode cX0_isAsTold 3 = .ok (.aload_n 0, 1) := by decide +kernel
theorem dX0_isAsTold_30 : decode cX0_isAsTold 30 = .ok (.if_icmp .eq 5, 3) := by decide +kernel
theorem dX0_isAsTold_33 : decode cX0_isAsTold 33 = .ok (.iconst 0, 1) := by decide +kernel
theorem dX0_isAsTold_34 : decode cX0_isAsTold 34 = .ok (.ireturn, 1) := by decide +kernel
theorem dX0_isAsTold_35 : decode cX0_isAsTold 35 = .ok (.iinc 2 1, 3) := by decide +kernel
theorem dX0_isAsTold_38 : decode cX0_isAsTold 38 = .ok (.goto (-36), 3) := by decide +kernel
theorem dX0_isAsTold_4 : decode cX0_isAsTold 4 = .ok (.getfield 50, 3) := by decide +kernel
theorem dX0_isAsTold_41 : decode cX0_isAsTold 41 = .ok (.iconst 1, 1) := by decide +kernel
theorem dX0_isAsTold_42 : decode cX0_isAsTold 42 = .ok (.ireturn, 1) := by decide +kernel
theorem dX0_isAsTold_7 : decode cX0_isAsTold 7 = .ok (.if_icmp .ge 34, 3) := by decide +kernel
def vfX0_isAsTold : List Cond := List.cons (.code yX0_isAsTold cX0_isAsTold 3 (some .boolean)) (apW [.fieldLink RX0 50 "HookPier$Plan" "bites" "I", .fieldLink RX0 37 "HookPier$Plan" "darkHunger" "I", .fieldLink RX0 53 "HookPier$Plan" "bite" "[I", .methodLink RX0 40 yX0_wouldBite, .static yX0_wouldBite, .initialized RX0, .fieldLink RX0 56 "HookPier$Plan" "bit" "[Z"] (apW wsX60 (vfX0_wouldBite)))
theorem ifX0_isAsTold_X6 : ∀ w ∈ wsX60, w ∈ vfX0_isAsTold := fun _ h => (List.mem_cons_of_mem _ (List.mem_append_right _ (List.mem_append_left _ h)))
theorem qfX0_isAsTold : Good vfX0_isAsTold := gd_cons (by decide +kernel) (gd_app (gd_dec (by decide +kernel) : Good [.fieldLink RX0 50 "HookPier$Plan" "bites" "I", .fieldLink RX0 37 "HookPier$Plan" "darkHunger" "I", .fieldLink RX0 53 "HookPier$Plan" "bite" "[I", .methodLink RX0 40 yX0_wouldBite, .static yX0_wouldBite, .initialized RX0, .fieldLink RX0 56 "HookPier$Plan" "bit" "[Z"]) (gd_app qsX6 qfX0_wouldBite))
theorem gfX0_isAsTold_0 : GoodIn vfX0_isAsTold (va_wsS RX0 40 yX0_wouldBite vfX0_wouldBite) := goodIn_app (goodIn_r [.methodLink RX0 40 yX0_wouldBite, .static yX0_wouldBite, .initialized RX0] [4, 5, 6] rfl (by decide +kernel)) (goodIn_m (fun _ h => (List.mem_cons_of_mem _ (List.mem_append_right _ (List.mem_append_right _ h)))) qfX0_wouldBite)
set_option maxHeartbeats 2000000 in
set_option maxRecDepth 100000 in
theorem kfX0_isAsTold (l : Launch) (dC : Nat → ClassId) (dI : Nat → Nat → Nat) (a0 : Nat) (k1 : Int32) (up : Nat → Nat) (kp : Nat → ClassId) (p_p : TX6_p) (sz : Nat) (out : Int32) (h : f_X0_isAsTold k1 p_p = some out) : Met l yX0_isAsTold vfX0_isAsTold ({ frames := 2, cells := 0, slots := 0, locals := 44 }) (PC (dC, dI) [.ref a0, .int k1] sz (bX6 a0 up kp p_p []) (tX6 kp ([]))) (va_Qi (S := Unit) (fun (r : Int32) _ => r = out ∧ (0 ≤ r.toInt ∧ r.toInt ≤ 1)) (fun _ t => BC (dC, dI) (va_A (bX6 a0 up kp p_p []) sz) (bX6 a0 up kp p_p []) [] t) (va_A (bX6 a0 up kp p_p []) sz)) 0 0 (va_A (bX6 a0 up kp p_p []) sz) := by
  refine Met.ofW (cc := cX0_isAsTold) (maxL := 3) (ret := (some .boolean)) (by decide) rfl ?_
  intro p e s m args below meth c s₁ B0 hml hv
  obtain ⟨rfl, hsz, hP, hK, hD0, hN⟩ := hv
  have hx := B0.exec
  have hb := B0.bytes
  have hr := B0.returns
  have hts := atoms_spec (ws := vfX0_isAsTold) B0.pre
  have hown : s.vm.findClass RX0 = some m.cls := findClass_of_methodNamed B0.named
  have hlocks := B0.notSynchronized
  subst hsz
  have hD := hD0.self (sz := s.heap.size)
  generalize hAe : va_A (bX6 a0 up kp p_p []) s.heap.size = A at hD ⊢
  have hA : ∀ q : Nat, s.heap.size ≤ q → A q := fun q h => by rw [← hAe]; exact Or.inr h
  have hS : va_S A s.heap s.heap [] := va_S.rf
  have hP : va_P (dC, dI) vwCl (bX6 a0 up kp p_p []) s.heap := hP
  have hl := lv_entry ([.ref a0, .int k1]) (n := 3) (Nat.le_of_ble_eq_true rfl)
  rw [lg_entry_eq]
  generalize (lg_sl ([.ref a0, .int k1]) ++ List.replicate (3 - (lg_sl ([.ref a0, .int k1])).length) Slot.unset).toArray = ls at hl ⊢
  have hl : lv_has ls 3 [(0, .ref a0), (1, .int k1)] := hl
  refine W_q (fun QQ hQQ => ?_)
  rw [f_X0_isAsTold] at h
  refine lv_iconst (v := 0) hx hb dX0_isAsTold_0 (by decide) ?_
  refine lv_istore_n (lv' := [(2, .int 0), (0, .ref a0), (1, .int k1)]) hx hb dX0_isAsTold_1 rfl hl (by decide) rfl (fun ls hl => ?_)
  have L2 : ∀ (n2 : Nat) (v2_l2 : Int32) (H : Heap) (locs : List Loc) (ls : Array Slot), f_X0_isAsTold_L2 k1 p_p n2 v2_l2 = some out → va_P (dC, dI) vwCl (bX6 a0 up kp p_p []) H → va_D A (bX6 a0 up kp p_p []) → va_S A s.heap H locs → lv_has ls 3 [(2, .int v2_l2), (0, .ref a0), (1, .int k1)] → W p l e (headSpec vfX0_isAsTold { frames := 2, cells := 0, slots := 0, locals := 44 }).room s m ([.ref a0, .int k1]).toArray below meth c H locs 0 0 QQ (F0 m 2 ls []) := by
    intro n2
    induction n2 with
    | zero =>
      intro v2_l2 H locs ls h  _ _ _ _
      rw [f_X0_isAsTold_L2] at h
      cases h
    | succ n2 ih2 =>
      intro v2_l2 H locs ls h  hP hD hS hl
      rw [f_X0_isAsTold_L2] at h
      refine lv_iload_n hx hb dX0_isAsTold_2 rfl (lv_at hl 0 rfl) ?_
      refine lv_aload_n hx hb dX0_isAsTold_3 rfl (lv_at hl 1 rfl) ?_
      refine va_get (D := (dC, dI)) (ci := 4) (v := .int p_p.2.2.2.2.2.2.2.1) (C := RX6) (T := TX6) (N := 18) hx hb hts ifX0_isAsTold_X6 hown hK hP 0 rfl rfl 7 (by decide) (hts (.fieldLink RX0 50 "HookPier$Plan" "bites" "I") (List.mem_of_getElem? (i := 1) rfl)) (fun _ h9 => h9) rfl dX0_isAsTold_4 ?_
      refine lv_icmp_ge (tgt := 41) hx hb dX0_isAsTold_7 (by decide) (fun c7 => ?_) (fun c7 => ?_)
      · have h := (if_pos c7).symm.trans h
        refine lv_iconst (v := 1) hx hb dX0_isAsTold_41 (by decide) ?_
        obtain rfl := Option.some.inj h
        have hP9 := hP.sub (ws' := (bX6 a0 up kp p_p [])) [0, 1, 2, 3, 4, 5, 6, 7, 8, 9] rfl
        have hD9 := hD.sub (ws' := (bX6 a0 up kp p_p [])) [0, 1, 2, 3, 4, 5, 6, 7, 8, 9] (by decide) rfl
        have hK9 := hK.sub (tys' := []) [] rfl
        rw [hQQ]
        exact W.zret (v := (1 : Int32)) hx hb hr rfl (fun t ht hW => ⟨⟨(1 : Int32), (), rfl, ⟨rfl, (by decide)⟩, by rw [ht]; exact hP9, va_K.moved hW.alike hK9, hD9⟩, hS.F ht⟩) hS.2.2 dX0_isAsTold_42
      · have h := (if_neg c7).symm.trans h
        refine lv_aload_n hx hb dX0_isAsTold_10 rfl (lv_at hl 1 rfl) ?_
        refine va_get (D := (dC, dI)) (ci := 4) (v := .int p_p.2.2.2.2.2.2.2.2.1) (C := RX6) (T := TX6) (N := 18) hx hb hts ifX0_isAsTold_X6 hown hK hP 0 rfl rfl 8 (by decide) (hts (.fieldLink RX0 37 "HookPier$Plan" "darkHunger" "I") (List.mem_of_getElem? (i := 2) rfl)) (fun _ h9 => h9) rfl dX0_isAsTold_11 ?_
        refine lv_iload_n hx hb dX0_isAsTold_14 rfl (lv_at hl 2 rfl) ?_
        refine lv_aload_n hx hb dX0_isAsTold_15 rfl (lv_at hl 1 rfl) ?_
        refine va_get (D := (dC, dI)) (ci := 4) (v := .ref (up 7)) (C := RX6) (T := TX6) (N := 18) hx hb hts ifX0_isAsTold_X6 hown hK hP 0 rfl rfl 16 (by decide) (hts (.fieldLink RX0 53 "HookPier$Plan" "bite" "[I") (List.mem_of_getElem? (i := 3) rfl)) (fun _ h9 => h9) rfl dX0_isAsTold_16 ?_
        refine lv_iload_n hx hb dX0_isAsTold_19 rfl (lv_at hl 0 rfl) ?_
        obtain ⟨hg20, h⟩ := gA_of h
        refine va_iald hx hb hK hP 8 7 rfl rfl hg20 dX0_isAsTold_20 ?_
        refine lv_topi (fun z20 ez20 => ?_)
        have h := nm_of h z20 ez20
        obtain ⟨o21, eo21⟩ : ∃ o, o = f_X0_wouldBite p_p.2.2.2.2.2.2.2.2.1 k1 z20 := ⟨_, rfl⟩
        have h := nm_of h o21 eo21
        refine cl_i (wc := []) (wr := (bX6 a0 up kp p_p [])) (va_runS (As := [.int p_p.2.2.2.2.2.2.2.2.1, .int k1, .int z20]) (rest := []) ⟨hx, hb, hml, hown, hts⟩ (kfX0_wouldBite l dC dI p_p.2.2.2.2.2.2.2.2.1 k1 z20 H.size o21 eo21.symm) (va_cwS 3 hts gfX0_isAsTold_0 rfl rfl rfl (by decide +kernel) ⟨(Nat.le_of_ble_eq_true rfl), (Nat.le_of_ble_eq_true rfl)⟩) (PS (hP.sub (ws' := []) [] rfl) (hK.sub (tys' := ([])) [] rfl) (hD.sub (ws' := []) [] (by decide) rfl) hN) rfl rfl hl.1 rfl (lv_room (Nat.le_of_ble_eq_true rfl)) dX0_isAsTold_21 ⟨(Nat.le_of_ble_eq_true rfl), (Nat.le_of_ble_eq_true rfl)⟩) hP hD hK hS hA [] [0, 1, 2, 3, 4, 5, 6, 7, 8, 9] rfl rfl (by decide) (by decide) (fun r21 _ H locs hw hP hD _ hS => ?_)
        obtain ⟨hw, br21⟩ := hw
        obtain rfl := hw.symm
        have hP : va_P (dC, dI) vwCl (bX6 a0 up kp p_p []) H := hP
        have hD : va_D A (bX6 a0 up kp p_p []) := hD
        refine lv_aload_n hx hb dX0_isAsTold_24 rfl (lv_at hl 1 rfl) ?_
        refine va_get (D := (dC, dI)) (ci := 4) (v := .ref (up 8)) (C := RX6) (T := TX6) (N := 18) hx hb hts ifX0_isAsTold_X6 hown hK hP 0 rfl rfl 17 (by decide) (hts (.fieldLink RX0 56 "HookPier$Plan" "bit" "[Z") (List.mem_of_getElem? (i := 7) rfl)) (fun _ h9 => h9) rfl dX0_isAsTold_25 ?_
        refine lv_iload_n hx hb dX0_isAsTold_28 rfl (lv_at hl 0 rfl) ?_
        obtain ⟨hg29, h⟩ := gA_of h
        refine va_zald hx hb hK hP 9 8 rfl rfl hg29 dX0_isAsTold_29 ?_
        refine lv_topi (fun z29 ez29 => ?_)
        have h := nm_of h z29 ez29
        refine lv_icmp_eq (tgt := 35) hx hb dX0_isAsTold_30 (by decide) (fun c30 => ?_) (fun c30 => ?_)
        · have h := (if_pos c30).symm.trans h
          refine lv_iinc (v := (v2_l2 + (1 : Int32))) (lv' := [(2, .int (v2_l2 + (1 : Int32))), (0, .ref a0), (1, .int k1)]) hx hb dX0_isAsTold_35 hl (k := 0) rfl rfl (by decide) rfl (fun ls hl => ?_)
          refine lv_goto (tgt := 2) hx hb dX0_isAsTold_38 (by decide) ?_
          exact ih2 (v2_l2 + (1 : Int32)) H _ ls h  hP hD hS (lv_sub hl [0, 1, 2] rfl)
        · have h := (if_neg c30).symm.trans h
          refine lv_iconst (v := 0) hx hb dX0_isAsTold_33 (by decide) ?_
          obtain rfl := Option.some.inj h
          have hP9 := hP.sub (ws' := (bX6 a0 up kp p_p [])) [0, 1, 2, 3, 4, 5, 6, 7, 8, 9] rfl
          have hD9 := hD.sub (ws' := (bX6 a0 up kp p_p [])) [0, 1, 2, 3, 4, 5, 6, 7, 8, 9] (by decide) rfl
          have hK9 := hK.sub (tys' := []) [] rfl
          rw [hQQ]
          exact W.zret (v := (0 : Int32)) hx hb hr rfl (fun t ht hW => ⟨⟨(0 : Int32), (), rfl, ⟨rfl, (by decide)⟩, by rw [ht]; exact hP9, va_K.moved hW.alike hK9, hD9⟩, hS.F ht⟩) hS.2.2 dX0_isAsTold_34
  exact L2 FU (0 : Int32) s.heap _ ls h  hP hD hS (lv_sub hl [0, 1, 2] rfl)
theorem dX0_find_0 : decode cX0_find 0 = .ok (.aload_n 0, 1) := by decide +kernel
theorem dX0_find_1 : decode cX0_find 1 = .ok (.iconst 0, 1) := by decide +kernel
theorem dX0_find_12 : decode cX0_find 12 = .ok (.if_icmp .ge 57, 3) := by decide +kernel
theorem dX0_find_15 : decode cX0_find 15 = .ok (.aload_n 1, 1) := by decide +kernel
theorem dX0_find_16 : decode cX0_find 16 = .ok (.iload_n 2, 1) := by decide +kernel
theorem dX0_find_17 : decode cX0_find 17 = .ok (.invokevirtual 25, 3) := by decide +kernel
theorem dX0_find_2 : decode cX0_find 2 = .ok (.putfield 15, 3) := by decide +kernel
theorem dX0_find_20 : decode cX0_find 20 = .ok (.ifCond .eq 43, 3) := by decide +kernel
theorem dX0_find_23 : decode cX0_find 23 = .ok (.aload_n 1, 1) := by decide +kernel
theorem dX0_find_24 : decode cX0_find 24 = .ok (.iload_n 2, 1) := by decide +kernel
theorem dX0_find_25 : decode cX0_find 25 = .ok (.invokestatic 29, 3) := by decide +kernel
theorem dX0_find_28 : decode cX0_find 28 = .ok (.ifCond .eq 35, 3) := by decide +kernel
theorem dX0_find_31 : decode cX0_find 31 = .ok (.aload_n 0, 1) := by decide +kernel
theorem dX0_find_32 : decode cX0_find 32 = .ok (.getfield 15, 3) := by decide +kernel
theorem dX0_find_35 : decode cX0_find 35 = .ok (.aload_n 0, 1) := by decide +kernel
theorem dX0_find_36 : decode cX0_find 36 = .ok (.getfield 11, 3) := by decide +kernel
theorem dX0_find_39 : decode cX0_find 39 = .ok (.arraylength, 1) := by decide +kernel
theorem dX0_find_40 : decode cX0_find 40 = .ok (.if_icmp .ge 23, 3) := by decide +kernel
theorem dX0_find_43 : decode cX0_find 43 = .ok (.aload_n 0, 1) := by decide +kernel
theorem dX0_find_44 : decode cX0_find 44 = .ok (.getfield 11, 3) := by decide +kernel
theorem dX0_find_47 : decode cX0_find 47 = .ok (.aload_n 0, 1) := by decide +kernel
theorem dX0_find_48 : decode cX0_find 48 = .ok (.getfield 15, 3) := by decide +kernel
theorem dX0_find_5 : decode cX0_find 5 = .ok (.iconst 0, 1) := by decide +kernel
theorem dX0_find_51 : decode cX0_find 51 = .ok (.iload_n 2, 1) := by decide +kernel
theorem dX0_find_52 : decode cX0_find 52 = .ok (.iastore, 1) := by decide +kernel
theorem dX0_find_53 : decode cX0_find 53 = .ok (.aload_n 0, 1) := by decide +kernel
theorem dX0_find_54 : decode cX0_find 54 = .ok (.dup, 1) := by decide +kernel
theorem dX0_find_55 : decode cX0_find 55 = .ok (.getfield 15, 3) := by decide +kernel
theorem dX0_find_58 : decode cX0_find 58 = .ok (.iconst 1, 1) := by decide +kernel
theorem dX0_find_59 : decode cX0_find 59 = .ok (.iadd, 1) := by decide +kernel
theorem dX0_find_6 : decode cX0_find 6 = .ok (.istore_n 2, 1) := by decide +kernel
theorem dX0_find_60 : decode cX0_find 60 = .ok (.putfield 15, 3) := by decide +kernel
theorem dX0_find_63 : decode cX0_find 63 = .ok (.iinc 2 1, 3) := by decide +kernel
theorem dX0_find_66 : decode cX0_find 66 = .ok (.goto (-59), 3) := by decide +kernel
theorem dX0_find_69 : decode cX0_find 69 = .ok (.return_, 1) := by decide +kernel
theorem dX0_find_7 : decode cX0_find 7 = .ok (.iload_n 2, 1) := by decide +kernel
theorem dX0_find_8 : decode cX0_find 8 = .ok (.aload_n 1, 1) := by decide +kernel
theorem dX0_find_9 : decode cX0_find 9 = .ok (.invokevirtual 19, 3) := by decide +kernel
def vfX0_find : List Cond := List.cons (.code yX0_find cX0_find 3 none) (apW [.fieldLink RX0 15 "HookPier$Dark" "many" "I", .methodLink RX0 19 yX6_questionBound, .instanceMethod yX6_questionBound, .selects RX6 yX6_questionBound yX6_questionBound, .initialized RX6, .methodLink RX0 25 yX6_hasQuestion, .instanceMethod yX6_hasQuestion, .selects RX6 yX6_hasQuestion yX6_hasQuestion, .methodLink RX0 29 yX0_isAsTold, .static yX0_isAsTold, .initialized RX0, .fieldLink RX0 11 "HookPier$Dark" "place" "[I"] (apW wsX00 (apW vfX6_questionBound (apW vfX6_hasQuestion (vfX0_isAsTold)))))
theorem ifX0_find_X0 : ∀ w ∈ wsX00, w ∈ vfX0_find := fun _ h => (List.mem_cons_of_mem _ (List.mem_append_right _ (List.mem_append_left _ h)))
theorem qfX0_find : Good vfX0_find := gd_cons (by decide +kernel) (gd_app (gd_dec (by decide +kernel) : Good [.fieldLink RX0 15 "HookPier$Dark" "many" "I", .methodLink RX0 19 yX6_questionBound, .instanceMethod yX6_questionBound, .selects RX6 yX6_questionBound yX6_questionBound, .initialized RX6, .methodLink RX0 25 yX6_hasQuestion, .instanceMethod yX6_hasQuestion, .selects RX6 yX6_hasQuestion yX6_hasQuestion, .methodLink RX0 29 yX0_isAsTold, .static yX0_isAsTold, .initialized RX0, .fieldLink RX0 11 "HookPier$Dark" "place" "[I"]) (gd_app qsX0 (gd_app qfX6_questionBound (gd_app qfX6_hasQuestion qfX0_isAsTold))))
theorem gfX0_find_0 : GoodIn vfX0_find (wsV RX0 19 RX6 yX6_questionBound vfX6_questionBound) := goodIn_app (goodIn_r [.methodLink RX0 19 yX6_questionBound, .instanceMethod yX6_questionBound, .selects RX6 yX6_questionBound yX6_questionBound, .initialized RX6] [2, 3, 4, 5] rfl (by decide +kernel)) (goodIn_m (fun _ h => (List.mem_cons_of_mem _ (List.mem_append_right _ (List.mem_append_right _ (List.mem_append_left _ h))))) qfX6_questionBound)
theorem gfX0_find_1 : GoodIn vfX0_find (wsV RX0 25 RX6 yX6_hasQuestion vfX6_hasQuestion) := goodIn_app (goodIn_r [.methodLink RX0 25 yX6_hasQuestion, .instanceMethod yX6_hasQuestion, .selects RX6 yX6_hasQuestion yX6_hasQuestion, .initialized RX6] [6, 7, 8, 5] rfl (by decide +kernel)) (goodIn_m (fun _ h => (List.mem_cons_of_mem _ (List.mem_append_right _ (List.mem_append_right _ (List.mem_append_right _ (List.mem_append_left _ h)))))) qfX6_hasQuestion)
theorem gfX0_find_2 : GoodIn vfX0_find (va_wsS RX0 29 yX0_isAsTold vfX0_isAsTold) := goodIn_app (goodIn_r [.methodLink RX0 29 yX0_isAsTold, .static yX0_isAsTold, .initialized RX0] [9, 10, 11] rfl (by decide +kernel)) (goodIn_m (fun _ h => (List.mem_cons_of_mem _ (List.mem_append_right _ (List.mem_append_right _ (List.mem_append_right _ (List.mem_append_right _ h)))))) qfX0_isAsTold)
set_option maxHeartbeats 2000000 in
set_option maxRecDepth 100000 in
theorem kfX0_find (l : Launch) (dC : Nat → ClassId) (dI : Nat → Nat → Nat) (a0 : Nat) (a1 : Nat) (ud : Nat → Nat) (kd : Nat → ClassId) (up : Nat → Nat) (kp : Nat → ClassId) (d_d : TX0_d) (p_p : TX6_p) (sz : Nat) (out : TX0_d) (h : f_X0_find d_d p_p = some out) : Met l yX0_find vfX0_find ({ frames := 3, cells := 0, slots := 0, locals := 66 }) (PC (dC, dI) [.ref a0, .ref a1] sz (bX0 a0 ud kd d_d (bX6 a1 up kp p_p [])) (tX0 kd (tX6 kp ([])))) (va_Qv (S := Unit) (fun _ => True) (fun _ t => BC (dC, dI) (va_A (bX0 a0 ud kd d_d (bX6 a1 up kp p_p [])) sz) (bX0 a0 ud kd out (bX6 a1 up kp p_p [])) [] t) (va_A (bX0 a0 ud kd d_d (bX6 a1 up kp p_p [])) sz)) 0 0 (va_A (bX0 a0 ud kd d_d (bX6 a1 up kp p_p [])) sz) := by
  refine Met.ofW (cc := cX0_find) (maxL := 3) (ret := none) (by decide) rfl ?_
  intro p e s m args below meth c s₁ B0 hml hv
  obtain ⟨rfl, hsz, hP, hK, hD0, hN⟩ := hv
  have hx := B0.exec
  have hb := B0.bytes
  have hr := B0.returns
  have hts := atoms_spec (ws := vfX0_find) B0.pre
  have hown : s.vm.findClass RX0 = some m.cls := findClass_of_methodNamed B0.named
  have hlocks := B0.notSynchronized
  subst hsz
  have hD := hD0.self (sz := s.heap.size)
  generalize hAe : va_A (bX0 a0 ud kd d_d (bX6 a1 up kp p_p [])) s.heap.size = A at hD ⊢
  have hA : ∀ q : Nat, s.heap.size ≤ q → A q := fun q h => by rw [← hAe]; exact Or.inr h
  have hS : va_S A s.heap s.heap [] := va_S.rf
  have hP : va_P (dC, dI) vwCl (bX0 a0 ud kd d_d (bX6 a1 up kp p_p [])) s.heap := hP
  have hl := lv_entry ([.ref a0, .ref a1]) (n := 3) (Nat.le_of_ble_eq_true rfl)
  rw [lg_entry_eq]
  generalize (lg_sl ([.ref a0, .ref a1]) ++ List.replicate (3 - (lg_sl ([.ref a0, .ref a1])).length) Slot.unset).toArray = ls at hl ⊢
  have hl : lv_has ls 3 [(0, .ref a0), (1, .ref a1)] := hl
  refine W_q (fun QQ hQQ => ?_)
  rw [f_X0_find] at h
  refine lv_aload_n hx hb dX0_find_0 rfl (lv_at hl 0 rfl) ?_
  refine lv_iconst (v := 0) hx hb dX0_find_1 (by decide) ?_
  refine va_put (D := (dC, dI)) (ci := 0) (v := .int 0) (ty := .int) (C := RX0) (T := TX0) (N := 2) hx hb hts ifX0_find_X0 tyX0 tyX0_ok nmX0 hown hK hP hD hS 0 rfl rfl 1 (by decide) (hts (.fieldLink RX0 15 "HookPier$Dark" "many" "I") (List.mem_of_getElem? (i := 1) rfl)) (fun _ h9 => h9) rfl (by decide +kernel) rfl rfl (Nat.le_of_ble_eq_true rfl) dX0_find_2 (fun H locs hP hD hS => ?_)
  have hP : va_P (dC, dI) vwCl (bX0 a0 ud kd (d_d.1, (0 : Int32)) (bX6 a1 up kp p_p [])) H := hP
  have hD : va_D A (bX0 a0 ud kd (d_d.1, (0 : Int32)) (bX6 a1 up kp p_p [])) := hD
  refine lv_iconst (v := 0) hx hb dX0_find_5 (by decide) ?_
  refine lv_istore_n (lv' := [(2, .int 0), (0, .ref a0), (1, .ref a1)]) hx hb dX0_find_6 rfl hl (by decide) rfl (fun ls hl => ?_)
  have L7 : ∀ (n7 : Nat) (v7_l2 : Int32) (v7_d_d : TX0_d) (H : Heap) (locs : List Loc) (ls : Array Slot), f_X0_find_L7 p_p n7 v7_l2 v7_d_d = some out → va_P (dC, dI) vwCl (bX0 a0 ud kd v7_d_d (bX6 a1 up kp p_p [])) H → va_D A (bX0 a0 ud kd v7_d_d (bX6 a1 up kp p_p [])) → va_S A s.heap H locs → lv_has ls 3 [(2, .int v7_l2), (0, .ref a0), (1, .ref a1)] → W p l e (headSpec vfX0_find { frames := 3, cells := 0, slots := 0, locals := 66 }).room s m ([.ref a0, .ref a1]).toArray below meth c H locs 0 0 QQ (F0 m 7 ls []) := by
    intro n7
    induction n7 with
    | zero =>
      intro v7_l2 v7_d_d H locs ls h  _ _ _ _
      rw [f_X0_find_L7] at h
      cases h
    | succ n7 ih7 =>
      intro v7_l2 v7_d_d H locs ls h  hP hD hS hl
      rw [f_X0_find_L7] at h
      refine lv_iload_n hx hb dX0_find_7 rfl (lv_at hl 0 rfl) ?_
      refine lv_aload_n hx hb dX0_find_8 rfl (lv_at hl 2 rfl) ?_
      obtain ⟨o9, eo9⟩ : ∃ o, o = f_X6_questionBound p_p := ⟨_, rfl⟩
      have h := nm_of h o9 eo9
      refine cl_i (wc := (bX6 a1 up kp p_p [])) (wr := (bX0 a0 ud kd v7_d_d [])) (va_runV (As := []) (rest := [.int v7_l2]) ⟨hx, hb, hml, hown, hts⟩ (kfX6_questionBound l dC dI a1 up kp p_p H.size o9 eo9.symm) (cwV 0 hts gfX0_find_0 rfl rfl rfl (by decide +kernel) ⟨(Nat.le_of_ble_eq_true rfl), (Nat.le_of_ble_eq_true rfl)⟩) (PV (hP.sub (ws' := (bX6 a1 up kp p_p [])) [2, 3, 4, 5, 6, 7, 8, 9, 10, 11] rfl) (hK.sub (tys' := (tX6 kp ([]))) [1, 2, 3, 4, 5, 6, 7, 8, 9] rfl) (hD.sub (ws' := (bX6 a1 up kp p_p [])) [2, 3, 4, 5, 6, 7, 8, 9, 10, 11] (by decide) rfl) hN 0 rfl rfl) rfl rfl hl.1 rfl (lv_room (Nat.le_of_ble_eq_true rfl)) dX0_find_9 ⟨(Nat.le_of_ble_eq_true rfl), (Nat.le_of_ble_eq_true rfl)⟩) hP hD hK hS hA [2, 3, 4, 5, 6, 7, 8, 9, 10, 11] [0, 1] rfl rfl (by decide) (by decide) (fun r9 _ H locs hw hP hD _ hS => ?_)
      obtain rfl := hw.symm
      have hP : va_P (dC, dI) vwCl (bX0 a0 ud kd v7_d_d (bX6 a1 up kp p_p [])) H := hP
      have hD : va_D A (bX0 a0 ud kd v7_d_d (bX6 a1 up kp p_p [])) := hD
      refine lv_icmp_ge (tgt := 69) hx hb dX0_find_12 (by decide) (fun c12 => ?_) (fun c12 => ?_)
      · have h := (if_pos c12).symm.trans h
        obtain rfl := Option.some.inj h
        have hP9 := hP.sub (ws' := (bX0 a0 ud kd v7_d_d (bX6 a1 up kp p_p []))) [0, 1, 2, 3, 4, 5, 6, 7, 8, 9, 10, 11] rfl
        have hD9 := hD.sub (ws' := (bX0 a0 ud kd v7_d_d (bX6 a1 up kp p_p []))) [0, 1, 2, 3, 4, 5, 6, 7, 8, 9, 10, 11] (by decide) rfl
        have hK9 := hK.sub (tys' := []) [] rfl
        rw [hQQ]
        exact W.vret hx hb hr (fun t ht hW => ⟨⟨(), rfl, trivial, by rw [ht]; exact hP9, va_K.moved hW.alike hK9, hD9⟩, hS.F ht⟩) hS.2.2 dX0_find_69
      · have h := (if_neg c12).symm.trans h
        refine lv_aload_n hx hb dX0_find_15 rfl (lv_at hl 2 rfl) ?_
        refine lv_iload_n hx hb dX0_find_16 rfl (lv_at hl 0 rfl) ?_
        obtain ⟨o17, eo17⟩ : ∃ o, o = f_X6_hasQuestion v7_l2 p_p := ⟨_, rfl⟩
        have h := nm_of h o17 eo17
        refine cl_i (wc := (bX6 a1 up kp p_p [])) (wr := (bX0 a0 ud kd v7_d_d [])) (va_runV (As := [.int v7_l2]) (rest := []) ⟨hx, hb, hml, hown, hts⟩ (kfX6_hasQuestion l dC dI a1 v7_l2 up kp p_p H.size o17 eo17.symm) (cwV 1 hts gfX0_find_1 rfl rfl rfl (by decide +kernel) ⟨(Nat.le_of_ble_eq_true rfl), (Nat.le_of_ble_eq_true rfl)⟩) (PV (hP.sub (ws' := (bX6 a1 up kp p_p [])) [2, 3, 4, 5, 6, 7, 8, 9, 10, 11] rfl) (hK.sub (tys' := (tX6 kp ([]))) [1, 2, 3, 4, 5, 6, 7, 8, 9] rfl) (hD.sub (ws' := (bX6 a1 up kp p_p [])) [2, 3, 4, 5, 6, 7, 8, 9, 10, 11] (by decide) rfl) hN 0 rfl rfl) rfl rfl hl.1 rfl (lv_room (Nat.le_of_ble_eq_true rfl)) dX0_find_17 ⟨(Nat.le_of_ble_eq_true rfl), (Nat.le_of_ble_eq_true rfl)⟩) hP hD hK hS hA [2, 3, 4, 5, 6, 7, 8, 9, 10, 11] [0, 1] rfl rfl (by decide) (by decide) (fun r17 _ H locs hw hP hD _ hS => ?_)
        obtain ⟨hw, br17⟩ := hw
        obtain rfl := hw.symm
        have hP : va_P (dC, dI) vwCl (bX0 a0 ud kd v7_d_d (bX6 a1 up kp p_p [])) H := hP
        have hD : va_D A (bX0 a0 ud kd v7_d_d (bX6 a1 up kp p_p [])) := hD
        have J63 : ∀ (v63_d_d : TX0_d) (H : Heap) (locs : List Loc) (ls : Array Slot), f_X0_find_J63 (f_X0_find_L7 p_p n7) v7_l2 v63_d_d = some out → va_P (dC, dI) vwCl (bX0 a0 ud kd v63_d_d (bX6 a1 up kp p_p [])) H → va_D A (bX0 a0 ud kd v63_d_d (bX6 a1 up kp p_p [])) → va_S A s.heap H locs → lv_has ls 3 [(2, .int v7_l2), (0, .ref a0), (1, .ref a1)] → W p l e (headSpec vfX0_find { frames := 3, cells := 0, slots := 0, locals := 66 }).room s m ([.ref a0, .ref a1]).toArray below meth c H locs 0 0 QQ (F0 m 63 ls []) := by
          intro v63_d_d H locs ls h  hP hD hS hl
          rw [f_X0_find_J63] at h
          refine lv_iinc (v := (v7_l2 + (1 : Int32))) (lv' := [(2, .int (v7_l2 + (1 : Int32))), (0, .ref a0), (1, .ref a1)]) hx hb dX0_find_63 hl (k := 0) rfl rfl (by decide) rfl (fun ls hl => ?_)
          refine lv_goto (tgt := 7) hx hb dX0_find_66 (by decide) ?_
          exact ih7 (v7_l2 + (1 : Int32)) v63_d_d H _ ls h  hP hD hS (lv_sub hl [0, 1, 2] rfl)
        refine lv_if_eq (tgt := 63) hx hb dX0_find_20 (by decide) (fun c20 => ?_) (fun c20 => ?_)
        · have h := (if_pos c20).symm.trans h
          exact J63 v7_d_d H _ ls h  hP hD hS (lv_sub hl [0, 1, 2] rfl)
        · have h := (if_neg c20).symm.trans h
          refine lv_aload_n hx hb dX0_find_23 rfl (lv_at hl 2 rfl) ?_
          refine lv_iload_n hx hb dX0_find_24 rfl (lv_at hl 0 rfl) ?_
          obtain ⟨o25, eo25, h⟩ := bd_of h
          refine cl_i (wc := (bX6 a1 up kp p_p [])) (wr := (bX0 a0 ud kd v7_d_d [])) (va_runS (As := [.ref a1, .int v7_l2]) (rest := []) ⟨hx, hb, hml, hown, hts⟩ (kfX0_isAsTold l dC dI a1 v7_l2 up kp p_p H.size o25 eo25) (va_cwS 2 hts gfX0_find_2 rfl rfl rfl (by decide +kernel) ⟨(Nat.le_of_ble_eq_true rfl), (Nat.le_of_ble_eq_true rfl)⟩) (PS (hP.sub (ws' := (bX6 a1 up kp p_p [])) [2, 3, 4, 5, 6, 7, 8, 9, 10, 11] rfl) (hK.sub (tys' := (tX6 kp ([]))) [1, 2, 3, 4, 5, 6, 7, 8, 9] rfl) (hD.sub (ws' := (bX6 a1 up kp p_p [])) [2, 3, 4, 5, 6, 7, 8, 9, 10, 11] (by decide) rfl) hN) rfl rfl hl.1 rfl (lv_room (Nat.le_of_ble_eq_true rfl)) dX0_find_25 ⟨(Nat.le_of_ble_eq_true rfl), (Nat.le_of_ble_eq_true rfl)⟩) hP hD hK hS hA [2, 3, 4, 5, 6, 7, 8, 9, 10, 11] [0, 1] rfl rfl (by decide) (by decide) (fun r25 _ H locs hw hP hD _ hS => ?_)
          obtain ⟨hw, br25⟩ := hw
          obtain rfl := hw.symm
          have hP : va_P (dC, dI) vwCl (bX0 a0 ud kd v7_d_d (bX6 a1 up kp p_p [])) H := hP
          have hD : va_D A (bX0 a0 ud kd v7_d_d (bX6 a1 up kp p_p [])) := hD
          refine lv_if_eq (tgt := 63) hx hb dX0_find_28 (by decide) (fun c28 => ?_) (fun c28 => ?_)
          · have h := (if_pos c28).symm.trans h
            exact J63 v7_d_d H _ ls h  hP hD hS (lv_sub hl [0, 1, 2] rfl)
          · have h := (if_neg c28).symm.trans h
            refine lv_aload_n hx hb dX0_find_31 rfl (lv_at hl 1 rfl) ?_
            refine va_get (D := (dC, dI)) (ci := 0) (v := .int v7_d_d.2) (C := RX0) (T := TX0) (N := 2) hx hb hts ifX0_find_X0 hown hK hP 0 rfl rfl 1 (by decide) (hts (.fieldLink RX0 15 "HookPier$Dark" "many" "I") (List.mem_of_getElem? (i := 1) rfl)) (fun _ h9 => h9) rfl dX0_find_32 ?_
            refine lv_aload_n hx hb dX0_find_35 rfl (lv_at hl 1 rfl) ?_
            refine va_get (D := (dC, dI)) (ci := 0) (v := .ref (ud 0)) (C := RX0) (T := TX0) (N := 2) hx hb hts ifX0_find_X0 hown hK hP 0 rfl rfl 0 (by decide) (hts (.fieldLink RX0 11 "HookPier$Dark" "place" "[I") (List.mem_of_getElem? (i := 12) rfl)) (fun _ h9 => h9) rfl dX0_find_36 ?_
            refine va_alen (v := 288) hx hb hK hP 1 0 rfl rfl rfl dX0_find_39 ?_
            refine lv_icmp_ge (tgt := 63) hx hb dX0_find_40 (by decide) (fun c40 => ?_) (fun c40 => ?_)
            · have h := (if_pos c40).symm.trans h
              exact J63 v7_d_d H _ ls h  hP hD hS (lv_sub hl [0, 1, 2] rfl)
            · have h := (if_neg c40).symm.trans h
              refine lv_aload_n hx hb dX0_find_43 rfl (lv_at hl 1 rfl) ?_
              refine va_get (D := (dC, dI)) (ci := 0) (v := .ref (ud 0)) (C := RX0) (T := TX0) (N := 2) hx hb hts ifX0_find_X0 hown hK hP 0 rfl rfl 0 (by decide) (hts (.fieldLink RX0 11 "HookPier$Dark" "place" "[I") (List.mem_of_getElem? (i := 12) rfl)) (fun _ h9 => h9) rfl dX0_find_44 ?_
              refine lv_aload_n hx hb dX0_find_47 rfl (lv_at hl 1 rfl) ?_
              refine va_get (D := (dC, dI)) (ci := 0) (v := .int v7_d_d.2) (C := RX0) (T := TX0) (N := 2) hx hb hts ifX0_find_X0 hown hK hP 0 rfl rfl 1 (by decide) (hts (.fieldLink RX0 15 "HookPier$Dark" "many" "I") (List.mem_of_getElem? (i := 1) rfl)) (fun _ h9 => h9) rfl dX0_find_48 ?_
              refine lv_iload_n hx hb dX0_find_51 rfl (lv_at hl 0 rfl) ?_
              obtain ⟨hg52, h⟩ := gA_of h
              refine va_iast hx hb hK hP hD hS 1 0 rfl rfl hg52 dX0_find_52 (fun H locs hP hD hS => ?_)
              have hP : va_P (dC, dI) vwCl (bX0 a0 ud kd ((upd v7_d_d.1 (v7_d_d.2).toNatClampNeg v7_l2), v7_d_d.2) (bX6 a1 up kp p_p [])) H := hP
              have hD : va_D A (bX0 a0 ud kd ((upd v7_d_d.1 (v7_d_d.2).toNatClampNeg v7_l2), v7_d_d.2) (bX6 a1 up kp p_p [])) := hD
              refine lv_aload_n hx hb dX0_find_53 rfl (lv_at hl 1 rfl) ?_
              refine lv_dup hx hb dX0_find_54 rfl ?_
              refine va_get (D := (dC, dI)) (ci := 0) (v := .int v7_d_d.2) (C := RX0) (T := TX0) (N := 2) hx hb hts ifX0_find_X0 hown hK hP 0 rfl rfl 1 (by decide) (hts (.fieldLink RX0 15 "HookPier$Dark" "many" "I") (List.mem_of_getElem? (i := 1) rfl)) (fun _ h9 => h9) rfl dX0_find_55 ?_
              refine lv_iconst (v := 1) hx hb dX0_find_58 (by decide) ?_
              refine lv_iadd hx hb dX0_find_59 ?_
              refine va_put (D := (dC, dI)) (ci := 0) (v := .int (v7_d_d.2 + (1 : Int32))) (ty := .int) (C := RX0) (T := TX0) (N := 2) hx hb hts ifX0_find_X0 tyX0 tyX0_ok nmX0 hown hK hP hD hS 0 rfl rfl 1 (by decide) (hts (.fieldLink RX0 15 "HookPier$Dark" "many" "I") (List.mem_of_getElem? (i := 1) rfl)) (fun _ h9 => h9) rfl (by decide +kernel) rfl rfl (Nat.le_of_ble_eq_true rfl) dX0_find_60 (fun H locs hP hD hS => ?_)
              have hP : va_P (dC, dI) vwCl (bX0 a0 ud kd ((upd v7_d_d.1 (v7_d_d.2).toNatClampNeg v7_l2), (v7_d_d.2 + (1 : Int32))) (bX6 a1 up kp p_p [])) H := hP
              have hD : va_D A (bX0 a0 ud kd ((upd v7_d_d.1 (v7_d_d.2).toNatClampNeg v7_l2), (v7_d_d.2 + (1 : Int32))) (bX6 a1 up kp p_p [])) := hD
              exact J63 ((upd v7_d_d.1 (v7_d_d.2).toNatClampNeg v7_l2), (v7_d_d.2 + (1 : Int32))) H _ ls h  hP hD hS (lv_sub hl [0, 1, 2] rfl)
  exact L7 FU (0 : Int32) (d_d.1, (0 : Int32)) H _ ls h  hP hD hS (lv_sub hl [0, 1, 2] rfl)
theorem dX10_darks_0 : decode cX10_darks 0 = .ok (.aload_n 0, 1) := by decide +kernel
theorem dX10_darks_1 : decode cX10_darks 1 = .ok (.aload_n 0, 1) := by decide +kernel
theorem dX10_darks_11 : decode cX10_darks 11 = .ok (.iconst (-1), 1) := by decide +kernel
theorem dX10_darks_12 : decode cX10_darks 12 = .ok (.ireturn, 1) := by decide +kernel
theorem dX10_darks_13 : decode cX10_darks 13 = .ok (.aload_n 0, 1) := by decide +kernel
theorem dX10_darks_14 : decode cX10_darks 14 = .ok (.getfield 50, 3) := by decide +kernel
theorem dX10_darks_17 : decode cX10_darks 17 = .ok (.aload_n 0, 1) := by decide +kernel
theorem dX10_darks_18 : decode cX10_darks 18 = .ok (.getfield 10, 3) := by decide +kernel
theorem dX10_darks_2 : decode cX10_darks 2 = .ok (.invokevirtual 264, 3) := by decide +kernel
theorem dX10_darks_21 : decode cX10_darks 21 = .ok (.invokevirtual 267, 3) := by decide +kernel
theorem dX10_darks_24 : decode cX10_darks 24 = .ok (.aload_n 0, 1) := by decide +kernel
theorem dX10_darks_25 : decode cX10_darks 25 = .ok (.getfield 50, 3) := by decide +kernel
theorem dX10_darks_28 : decode cX10_darks 28 = .ok (.getfield 271, 3) := by decide +kernel
theorem dX10_darks_31 : decode cX10_darks 31 = .ok (.ireturn, 1) := by decide +kernel
theorem dX10_darks_5 : decode cX10_darks 5 = .ok (.invokevirtual 79, 3) := by decide +kernel
theorem dX10_darks_8 : decode cX10_darks 8 = .ok (.ifCond .eq 5, 3) := by decide +kernel
def vfX10_darks : List Cond := List.cons (.code yX10_darks cX10_darks 1 (some .int)) (apW [.methodLink RX10 264 yX10_darkTrouble, .instanceMethod yX10_darkTrouble, .selects RX10 yX10_darkTrouble yX10_darkTrouble, .initialized RX10, .methodLink RX10 79 yX10_refused, .instanceMethod yX10_refused, .selects RX10 yX10_refused yX10_refused, .fieldLink RX10 50 "HookPier" "dark" "LHookPier$Dark;", .fieldLink RX10 10 "HookPier" "plan" "LHookPier$Plan;", .methodLink RX10 267 yX0_find, .instanceMethod yX0_find, .selects RX0 yX0_find yX0_find, .initialized RX0, .fieldLink RX10 271 "HookPier$Dark" "many" "I"] (apW wsX100 (apW wsX00 (apW vfX10_darkTrouble (apW vfX10_refused (vfX0_find))))))
theorem ifX10_darks_X10 : ∀ w ∈ wsX100, w ∈ vfX10_darks := fun _ h => (List.mem_cons_of_mem _ (List.mem_append_right _ (List.mem_append_left _ h)))
theorem ifX10_darks_X0 : ∀ w ∈ wsX00, w ∈ vfX10_darks := fun _ h => (List.mem_cons_of_mem _ (List.mem_append_right _ (List.mem_append_right _ (List.mem_append_left _ h))))
theorem qfX10_darks : Good vfX10_darks := gd_cons (by decide +kernel) (gd_app (gd_dec (by decide +kernel) : Good [.methodLink RX10 264 yX10_darkTrouble, .instanceMethod yX10_darkTrouble, .selects RX10 yX10_darkTrouble yX10_darkTrouble, .initialized RX10, .methodLink RX10 79 yX10_refused, .instanceMethod yX10_refused, .selects RX10 yX10_refused yX10_refused, .fieldLink RX10 50 "HookPier" "dark" "LHookPier$Dark;", .fieldLink RX10 10 "HookPier" "plan" "LHookPier$Plan;", .methodLink RX10 267 yX0_find, .instanceMethod yX0_find, .selects RX0 yX0_find yX0_find, .initialized RX0, .fieldLink RX10 271 "HookPier$Dark" "many" "I"]) (gd_app qsX10 (gd_app qsX0 (gd_app qfX10_darkTrouble (gd_app qfX10_refused qfX0_find)))))
theorem gfX10_darks_0 : GoodIn vfX10_darks (wsV RX10 264 RX10 yX10_darkTrouble vfX10_darkTrouble) := goodIn_app (goodIn_r [.methodLink RX10 264 yX10_darkTrouble, .instanceMethod yX10_darkTrouble, .selects RX10 yX10_darkTrouble yX10_darkTrouble, .initialized RX10] [1, 2, 3, 4] rfl (by decide +kernel)) (goodIn_m (fun _ h => (List.mem_cons_of_mem _ (List.mem_append_right _ (List.mem_append_right _ (List.mem_append_right _ (List.mem_append_left _ h)))))) qfX10_darkTrouble)
theorem gfX10_darks_1 : GoodIn vfX10_darks (wsV RX10 79 RX10 yX10_refused vfX10_refused) := goodIn_app (goodIn_r [.methodLink RX10 79 yX10_refused, .instanceMethod yX10_refused, .selects RX10 yX10_refused yX10_refused, .initialized RX10] [5, 6, 7, 4] rfl (by decide +kernel)) (goodIn_m (fun _ h => (List.mem_cons_of_mem _ (List.mem_append_right _ (List.mem_append_right _ (List.mem_append_right _ (List.mem_append_right _ (List.mem_append_left _ h))))))) qfX10_refused)
theorem gfX10_darks_2 : GoodIn vfX10_darks (wsV RX10 267 RX0 yX0_find vfX0_find) := goodIn_app (goodIn_r [.methodLink RX10 267 yX0_find, .instanceMethod yX0_find, .selects RX0 yX0_find yX0_find, .initialized RX0] [10, 11, 12, 13] rfl (by decide +kernel)) (goodIn_m (fun _ h => (List.mem_cons_of_mem _ (List.mem_append_right _ (List.mem_append_right _ (List.mem_append_right _ (List.mem_append_right _ (List.mem_append_right _ h))))))) qfX0_find)
set_option maxHeartbeats 2000000 in
set_option maxRecDepth 100000 in
theorem kfX10_darks (l : Launch) (dC : Nat → ClassId) (dI : Nat → Nat → Nat) (a0 : Nat) (a1 : Nat) (a2 : Nat) (up : Nat → Nat) (kp : Nat → ClassId) (ud : Nat → Nat) (kd : Nat → ClassId) (x_x : TX10_x) (g8 : Value) (g9 : Value) (g10 : Value) (g11 : Value) (g12 : Value) (g13 : Value) (p_p : TX6_p) (d_d : TX0_d) (sz : Nat) (out : (Int32 × TX10_x × TX0_d)) (h : f_X10_darks x_x p_p d_d = some out) : Met l yX10_darks vfX10_darks ({ frames := 4, cells := 0, slots := 0, locals := 88 }) (PC (dC, dI) [.ref a0] sz ((a0, .inr (7, [.ref a1, g8, g9, g10, g11, g12, .ref a2, g13, .int x_x.1, .int x_x.2])) :: bX6 a1 up kp p_p (bX0 a2 ud kd d_d [])) (tX6 kp (tX0 kd ([])))) (va_Qi (S := Unit) (fun (r : Int32) _ => r = out.1) (fun _ t => BC (dC, dI) (va_A ((a0, .inr (7, [.ref a1, g8, g9, g10, g11, g12, .ref a2, g13, .int x_x.1, .int x_x.2])) :: bX6 a1 up kp p_p (bX0 a2 ud kd d_d [])) sz) ((a0, .inr (7, [.ref a1, g8, g9, g10, g11, g12, .ref a2, g13, .int out.2.1.1, .int out.2.1.2])) :: bX6 a1 up kp p_p (bX0 a2 ud kd out.2.2 [])) [] t) (va_A ((a0, .inr (7, [.ref a1, g8, g9, g10, g11, g12, .ref a2, g13, .int x_x.1, .int x_x.2])) :: bX6 a1 up kp p_p (bX0 a2 ud kd d_d [])) sz)) 0 0 (va_A ((a0, .inr (7, [.ref a1, g8, g9, g10, g11, g12, .ref a2, g13, .int x_x.1, .int x_x.2])) :: bX6 a1 up kp p_p (bX0 a2 ud kd d_d [])) sz) := by
  refine Met.ofW (cc := cX10_darks) (maxL := 1) (ret := (some .int)) (by decide) rfl ?_
  intro p e s m args below meth c s₁ B0 hml hv
  obtain ⟨rfl, hsz, hP, hK, hD0, hN⟩ := hv
  have hx := B0.exec
  have hb := B0.bytes
  have hr := B0.returns
  have hts := atoms_spec (ws := vfX10_darks) B0.pre
  have hown : s.vm.findClass RX10 = some m.cls := findClass_of_methodNamed B0.named
  have hlocks := B0.notSynchronized
  subst hsz
  have hD := hD0.self (sz := s.heap.size)
  generalize hAe : va_A ((a0, .inr (7, [.ref a1, g8, g9, g10, g11, g12, .ref a2, g13, .int x_x.1, .int x_x.2])) :: bX6 a1 up kp p_p (bX0 a2 ud kd d_d [])) s.heap.size = A at hD ⊢
  have hA : ∀ q : Nat, s.heap.size ≤ q → A q := fun q h => by rw [← hAe]; exact Or.inr h
  have hS : va_S A s.heap s.heap [] := va_S.rf
  have hP : va_P (dC, dI) vwCl ((a0, .inr (7, [.ref a1, g8, g9, g10, g11, g12, .ref a2, g13, .int x_x.1, .int x_x.2])) :: bX6 a1 up kp p_p (bX0 a2 ud kd d_d [])) s.heap := hP
  have hl := lv_entry ([.ref a0]) (n := 1) (Nat.le_of_ble_eq_true rfl)
  rw [lg_entry_eq]
  generalize (lg_sl ([.ref a0]) ++ List.replicate (1 - (lg_sl ([.ref a0])).length) Slot.unset).toArray = ls at hl ⊢
  have hl : lv_has ls 1 [(0, .ref a0)] := hl
  refine W_q (fun QQ hQQ => ?_)
  rw [f_X10_darks] at h
  refine lv_aload_n hx hb dX10_darks_0 rfl (lv_at hl 0 rfl) ?_
  refine lv_aload_n hx hb dX10_darks_1 rfl (lv_at hl 0 rfl) ?_
  obtain ⟨o2, eo2⟩ : ∃ o, o = f_X10_darkTrouble p_p := ⟨_, rfl⟩
  have h := nm_of h o2 eo2
  refine cl_i (wc := ((a0, .inr (7, [.ref a1, g8, g9, g10, g11, g12, .ref a2, g13, .int x_x.1, .int x_x.2])) :: bX6 a1 up kp p_p [])) (wr := (bX0 a2 ud kd d_d [])) (va_runV (As := []) (rest := [.ref a0]) ⟨hx, hb, hml, hown, hts⟩ (kfX10_darkTrouble l dC dI a0 a1 up kp (g8) (g9) (g10) (g11) (g12) (.ref a2) (g13) (.int x_x.1) (.int x_x.2) p_p s.heap.size o2 eo2.symm) (cwV 0 hts gfX10_darks_0 rfl rfl rfl (by decide +kernel) ⟨(Nat.le_of_ble_eq_true rfl), (Nat.le_of_ble_eq_true rfl)⟩) (PV (hP.sub (ws' := ((a0, .inr (7, [.ref a1, g8, g9, g10, g11, g12, .ref a2, g13, .int x_x.1, .int x_x.2])) :: bX6 a1 up kp p_p [])) [0, 1, 2, 3, 4, 5, 6, 7, 8, 9, 10] rfl) (hK.sub (tys' := (tX6 kp ([]))) [0, 1, 2, 3, 4, 5, 6, 7, 8] rfl) (hD.sub (ws' := ((a0, .inr (7, [.ref a1, g8, g9, g10, g11, g12, .ref a2, g13, .int x_x.1, .int x_x.2])) :: bX6 a1 up kp p_p [])) [0, 1, 2, 3, 4, 5, 6, 7, 8, 9, 10] (by decide) rfl) hN 0 rfl rfl) rfl rfl hl.1 rfl (lv_room (Nat.le_of_ble_eq_true rfl)) dX10_darks_2 ⟨(Nat.le_of_ble_eq_true rfl), (Nat.le_of_ble_eq_true rfl)⟩) hP hD hK hS hA [0, 1, 2, 3, 4, 5, 6, 7, 8, 9, 10] [11, 12] rfl rfl (by decide) (by decide) (fun r2 _ H locs hw hP hD _ hS => ?_)
  obtain rfl := hw.symm
  have hP : va_P (dC, dI) vwCl (bX0 a2 ud kd d_d ((a0, .inr (7, [.ref a1, g8, g9, g10, g11, g12, .ref a2, g13, .int x_x.1, .int x_x.2])) :: bX6 a1 up kp p_p [])) H := hP
  have hD : va_D A (bX0 a2 ud kd d_d ((a0, .inr (7, [.ref a1, g8, g9, g10, g11, g12, .ref a2, g13, .int x_x.1, .int x_x.2])) :: bX6 a1 up kp p_p [])) := hD
  obtain ⟨o5, eo5⟩ : ∃ o, o = f_X10_refused o2 x_x := ⟨_, rfl⟩
  have h := nm_of h o5 eo5
  refine cl_i (wc := ([(a0, .inr (7, [.ref a1, g8, g9, g10, g11, g12, .ref a2, g13, .int x_x.1, .int x_x.2]))])) (wr := (bX0 a2 ud kd d_d (bX6 a1 up kp p_p []))) (va_runV (As := [.int o2]) (rest := []) ⟨hx, hb, hml, hown, hts⟩ (kfX10_refused l dC dI a0 o2 x_x (.ref a1) (g8) (g9) (g10) (g11) (g12) (.ref a2) (g13) H.size o5 eo5.symm) (cwV 1 hts gfX10_darks_1 rfl rfl rfl (by decide +kernel) ⟨(Nat.le_of_ble_eq_true rfl), (Nat.le_of_ble_eq_true rfl)⟩) (PV (hP.sub (ws' := ([(a0, .inr (7, [.ref a1, g8, g9, g10, g11, g12, .ref a2, g13, .int x_x.1, .int x_x.2]))])) [2] rfl) (hK.sub (tys' := ([])) [] rfl) (hD.sub (ws' := ([(a0, .inr (7, [.ref a1, g8, g9, g10, g11, g12, .ref a2, g13, .int x_x.1, .int x_x.2]))])) [2] (by decide) rfl) hN 0 rfl rfl) rfl rfl hl.1 rfl (lv_room (Nat.le_of_ble_eq_true rfl)) dX10_darks_5 ⟨(Nat.le_of_ble_eq_true rfl), (Nat.le_of_ble_eq_true rfl)⟩) hP hD hK hS hA [2] [0, 1, 3, 4, 5, 6, 7, 8, 9, 10, 11, 12] rfl rfl (by decide) (by decide) (fun r5 _ H locs hw hP hD _ hS => ?_)
  obtain ⟨hw, br5⟩ := hw
  obtain rfl := hw
  have hP : va_P (dC, dI) vwCl (bX0 a2 ud kd d_d (bX6 a1 up kp p_p ([(a0, .inr (7, [.ref a1, g8, g9, g10, g11, g12, .ref a2, g13, .int o5.2.1, .int o5.2.2]))]))) H := hP
  have hD : va_D A (bX0 a2 ud kd d_d (bX6 a1 up kp p_p ([(a0, .inr (7, [.ref a1, g8, g9, g10, g11, g12, .ref a2, g13, .int o5.2.1, .int o5.2.2]))]))) := hD
  refine lv_if_eq (tgt := 13) hx hb dX10_darks_8 (by decide) (fun c8 => ?_) (fun c8 => ?_)
  · have h := (if_pos c8).symm.trans h
    refine lv_aload_n hx hb dX10_darks_13 rfl (lv_at hl 0 rfl) ?_
    refine va_get (D := (dC, dI)) (ci := 7) (v := .ref a2) (C := RX10) (T := TX10) (N := 10) hx hb hts ifX10_darks_X10 hown hK hP 12 rfl rfl 6 (by decide) (hts (.fieldLink RX10 50 "HookPier" "dark" "LHookPier$Dark;") (List.mem_of_getElem? (i := 8) rfl)) (fun _ h9 => h9) rfl dX10_darks_14 ?_
    refine lv_aload_n hx hb dX10_darks_17 rfl (lv_at hl 0 rfl) ?_
    refine va_get (D := (dC, dI)) (ci := 7) (v := .ref a1) (C := RX10) (T := TX10) (N := 10) hx hb hts ifX10_darks_X10 hown hK hP 12 rfl rfl 0 (by decide) (hts (.fieldLink RX10 10 "HookPier" "plan" "LHookPier$Plan;") (List.mem_of_getElem? (i := 9) rfl)) (fun _ h9 => h9) rfl dX10_darks_18 ?_
    obtain ⟨o21, eo21, h⟩ := bd_of h
    refine cl_v (wc := (bX0 a2 ud kd d_d (bX6 a1 up kp p_p []))) (wr := ([(a0, .inr (7, [.ref a1, g8, g9, g10, g11, g12, .ref a2, g13, .int o5.2.1, .int o5.2.2]))])) (va_runV (As := [.ref a1]) (rest := []) ⟨hx, hb, hml, hown, hts⟩ (kfX0_find l dC dI a2 a1 ud kd up kp d_d p_p H.size o21 eo21) (cwV 1 hts gfX10_darks_2 rfl rfl rfl (by decide +kernel) ⟨(Nat.le_of_ble_eq_true rfl), (Nat.le_of_ble_eq_true rfl)⟩) (PV (hP.sub (ws' := (bX0 a2 ud kd d_d (bX6 a1 up kp p_p []))) [0, 1, 2, 3, 4, 5, 6, 7, 8, 9, 10, 11] rfl) (hK.sub (tys' := (tX0 kd (tX6 kp ([])))) [9, 0, 1, 2, 3, 4, 5, 6, 7, 8] rfl) (hD.sub (ws' := (bX0 a2 ud kd d_d (bX6 a1 up kp p_p []))) [0, 1, 2, 3, 4, 5, 6, 7, 8, 9, 10, 11] (by decide) rfl) hN 0 rfl rfl) rfl rfl hl.1 rfl (lv_room (Nat.le_of_ble_eq_true rfl)) dX10_darks_21 ⟨(Nat.le_of_ble_eq_true rfl), (Nat.le_of_ble_eq_true rfl)⟩) hP hD hK hS hA [0, 1, 2, 3, 4, 5, 6, 7, 8, 9, 10, 11] [12] rfl rfl (by decide) (by decide) (fun _ H locs hw hP hD _ hS => ?_)
    have hP : va_P (dC, dI) vwCl ((a0, .inr (7, [.ref a1, g8, g9, g10, g11, g12, .ref a2, g13, .int o5.2.1, .int o5.2.2])) :: bX0 a2 ud kd o21 (bX6 a1 up kp p_p [])) H := hP
    have hD : va_D A ((a0, .inr (7, [.ref a1, g8, g9, g10, g11, g12, .ref a2, g13, .int o5.2.1, .int o5.2.2])) :: bX0 a2 ud kd o21 (bX6 a1 up kp p_p [])) := hD
    refine lv_aload_n hx hb dX10_darks_24 rfl (lv_at hl 0 rfl) ?_
    refine va_get (D := (dC, dI)) (ci := 7) (v := .ref a2) (C := RX10) (T := TX10) (N := 10) hx hb hts ifX10_darks_X10 hown hK hP 0 rfl rfl 6 (by decide) (hts (.fieldLink RX10 50 "HookPier" "dark" "LHookPier$Dark;") (List.mem_of_getElem? (i := 8) rfl)) (fun _ h9 => h9) rfl dX10_darks_25 ?_
    refine va_get (D := (dC, dI)) (ci := 0) (v := .int o21.2) (C := RX0) (T := TX0) (N := 2) hx hb hts ifX10_darks_X0 hown hK hP 1 rfl rfl 1 (by decide) (hts (.fieldLink RX10 271 "HookPier$Dark" "many" "I") (List.mem_of_getElem? (i := 14) rfl)) (fun _ h9 => h9) rfl dX10_darks_28 ?_
    obtain rfl := Option.some.inj h
    have hP9 := hP.sub (ws' := ((a0, .inr (7, [.ref a1, g8, g9, g10, g11, g12, .ref a2, g13, .int o5.2.1, .int o5.2.2])) :: bX6 a1 up kp p_p (bX0 a2 ud kd o21 []))) [0, 3, 4, 5, 6, 7, 8, 9, 10, 11, 12, 1, 2] rfl
    have hD9 := hD.sub (ws' := ((a0, .inr (7, [.ref a1, g8, g9, g10, g11, g12, .ref a2, g13, .int o5.2.1, .int o5.2.2])) :: bX6 a1 up kp p_p (bX0 a2 ud kd o21 []))) [0, 3, 4, 5, 6, 7, 8, 9, 10, 11, 12, 1, 2] (by decide) rfl
    have hK9 := hK.sub (tys' := []) [] rfl
    rw [hQQ]
    exact W.iret (v := o21.2) hx hb hr (fun t ht hW => ⟨⟨o21.2, (), rfl, rfl, by rw [ht]; exact hP9, va_K.moved hW.alike hK9, hD9⟩, hS.F ht⟩) hS.2.2 dX10_darks_31
  · have h := (if_neg c8).symm.trans h
    refine lv_iconst (v := (-1)) hx hb dX10_darks_11 (by decide) ?_
    obtain rfl := Option.some.inj h
    have hP9 := hP.sub (ws' := ((a0, .inr (7, [.ref a1, g8, g9, g10, g11, g12, .ref a2, g13, .int o5.2.1, .int o5.2.2])) :: bX6 a1 up kp p_p (bX0 a2 ud kd d_d []))) [12, 2, 3, 4, 5, 6, 7, 8, 9, 10, 11, 0, 1] rfl
    have hD9 := hD.sub (ws' := ((a0, .inr (7, [.ref a1, g8, g9, g10, g11, g12, .ref a2, g13, .int o5.2.1, .int o5.2.2])) :: bX6 a1 up kp p_p (bX0 a2 ud kd d_d []))) [12, 2, 3, 4, 5, 6, 7, 8, 9, 10, 11, 0, 1] (by decide) rfl
    have hK9 := hK.sub (tys' := []) [] rfl
    rw [hQQ]
    exact W.iret (v := (-1 : Int32)) hx hb hr (fun t ht hW => ⟨⟨(-1 : Int32), (), rfl, rfl, by rw [ht]; exact hP9, va_K.moved hW.alike hK9, hD9⟩, hS.F ht⟩) hS.2.2 dX10_darks_12
theorem dX10_darkAt_0 : decode cX10_darkAt 0 = .ok (.aload_n 0, 1) := by decide +kernel
theorem dX10_darkAt_1 : decode cX10_darkAt 1 = .ok (.aload_n 0, 1) := by decide +kernel
theorem dX10_darkAt_11 : decode cX10_darkAt 11 = .ok (.iconst (-1), 1) := by decide +kernel
theorem dX10_darkAt_12 : decode cX10_darkAt 12 = .ok (.ireturn, 1) := by decide +kernel
theorem dX10_darkAt_13 : decode cX10_darkAt 13 = .ok (.aload_n 0, 1) := by decide +kernel
theorem dX10_darkAt_14 : decode cX10_darkAt 14 = .ok (.getfield 50, 3) := by decide +kernel
theorem dX10_darkAt_17 : decode cX10_darkAt 17 = .ok (.aload_n 0, 1) := by decide +kernel
theorem dX10_darkAt_18 : decode cX10_darkAt 18 = .ok (.getfield 10, 3) := by decide +kernel
theorem dX10_darkAt_2 : decode cX10_darkAt 2 = .ok (.invokevirtual 264, 3) := by decide +kernel
theorem dX10_darkAt_21 : decode cX10_darkAt 21 = .ok (.invokevirtual 267, 3) := by decide +kernel
theorem dX10_darkAt_24 : decode cX10_darkAt 24 = .ok (.aload_n 0, 1) := by decide +kernel
theorem dX10_darkAt_25 : decode cX10_darkAt 25 = .ok (.iload_n 1, 1) := by decide +kernel
theorem dX10_darkAt_26 : decode cX10_darkAt 26 = .ok (.iconst 0, 1) := by decide +kernel
theorem dX10_darkAt_27 : decode cX10_darkAt 27 = .ok (.aload_n 0, 1) := by decide +kernel
theorem dX10_darkAt_28 : decode cX10_darkAt 28 = .ok (.getfield 50, 3) := by decide +kernel
theorem dX10_darkAt_31 : decode cX10_darkAt 31 = .ok (.getfield 271, 3) := by decide +kernel
theorem dX10_darkAt_34 : decode cX10_darkAt 34 = .ok (.iconst 1, 1) := by decide +kernel
theorem dX10_darkAt_35 : decode cX10_darkAt 35 = .ok (.isub, 1) := by decide +kernel
theorem dX10_darkAt_36 : decode cX10_darkAt 36 = .ok (.invokestatic 75, 3) := by decide +kernel
theorem dX10_darkAt_39 : decode cX10_darkAt 39 = .ok (.ifCond .eq 7, 3) := by decide +kernel
theorem dX10_darkAt_42 : decode cX10_darkAt 42 = .ok (.iconst 0, 1) := by decide +kernel
theorem dX10_darkAt_43 : decode cX10_darkAt 43 = .ok (.goto 4, 3) := by decide +kernel
theorem dX10_darkAt_46 : decode cX10_darkAt 46 = .ok (.iconst 1, 1) := by decide +kernel
theorem dX10_darkAt_47 : decode cX10_darkAt 47 = .ok (.invokevirtual 79, 3) := by decide +kernel
theorem dX10_darkAt_5 : decode cX10_darkAt 5 = .ok (.invokevirtual 79, 3) := by decide +kernel
theorem dX10_darkAt_50 : decode cX10_darkAt 50 = .ok (.ifCond .eq 5, 3) := by decide +kernel
theorem dX10_darkAt_53 : decode cX10_darkAt 53 = .ok (.iconst (-1), 1) := by decide +kernel
theorem dX10_darkAt_54 : decode cX10_darkAt 54 = .ok (.ireturn, 1) := by decide +kernel
theorem dX10_darkAt_55 : decode cX10_darkAt 55 = .ok (.aload_n 0, 1) := by decide +kernel
theorem dX10_darkAt_56 : decode cX10_darkAt 56 = .ok (.getfield 50, 3) := by decide +kernel
theorem dX10_darkAt_59 : decode cX10_darkAt 59 = .ok (.getfield 274, 3) := by decide +kernel
theorem dX10_darkAt_62 : decode cX10_darkAt 62 = .ok (.iload_n 1, 1) := by decide +kernel
theorem dX10_darkAt_63 : decode cX10_darkAt 63 = .ok (.iaload, 1) := by decide +kernel
theorem dX10_darkAt_64 : decode cX10_darkAt 64 = .ok (.ireturn, 1) := by decide +kernel
theorem dX10_darkAt_8 : decode cX10_darkAt 8 = .ok (.ifCond .eq 5, 3) := by decide +kernel
def vfX10_darkAt : List Cond := List.cons (.code yX10_darkAt cX10_darkAt 2 (some .int)) (apW [.methodLink RX10 264 yX10_darkTrouble, .instanceMethod yX10_darkTrouble, .selects RX10 yX10_darkTrouble yX10_darkTrouble, .initialized RX10, .methodLink RX10 79 yX10_refused, .instanceMethod yX10_refused, .selects RX10 yX10_refused yX10_refused, .fieldLink RX10 50 "HookPier" "dark" "LHookPier$Dark;", .fieldLink RX10 10 "HookPier" "plan" "LHookPier$Plan;", .methodLink RX10 267 yX0_find, .instanceMethod yX0_find, .selects RX0 yX0_find yX0_find, .initialized RX0, .fieldLink RX10 271 "HookPier$Dark" "many" "I", .methodLink RX10 75 yX10_within, .static yX10_within, .fieldLink RX10 274 "HookPier$Dark" "place" "[I"] (apW wsX100 (apW wsX00 (apW vfX10_darkTrouble (apW vfX10_refused (apW vfX0_find (vfX10_within)))))))
theorem ifX10_darkAt_X10 : ∀ w ∈ wsX100, w ∈ vfX10_darkAt := fun _ h => (List.mem_cons_of_mem _ (List.mem_append_right _ (List.mem_append_left _ h)))
theorem ifX10_darkAt_X0 : ∀ w ∈ wsX00, w ∈ vfX10_darkAt := fun _ h => (List.mem_cons_of_mem _ (List.mem_append_right _ (List.mem_append_right _ (List.mem_append_left _ h))))
theorem qfX10_darkAt : Good vfX10_darkAt := gd_cons (by decide +kernel) (gd_app (gd_dec (by decide +kernel) : Good [.methodLink RX10 264 yX10_darkTrouble, .instanceMethod yX10_darkTrouble, .selects RX10 yX10_darkTrouble yX10_darkTrouble, .initialized RX10, .methodLink RX10 79 yX10_refused, .instanceMethod yX10_refused, .selects RX10 yX10_refused yX10_refused, .fieldLink RX10 50 "HookPier" "dark" "LHookPier$Dark;", .fieldLink RX10 10 "HookPier" "plan" "LHookPier$Plan;", .methodLink RX10 267 yX0_find, .instanceMethod yX0_find, .selects RX0 yX0_find yX0_find, .initialized RX0, .fieldLink RX10 271 "HookPier$Dark" "many" "I", .methodLink RX10 75 yX10_within, .static yX10_within, .fieldLink RX10 274 "HookPier$Dark" "place" "[I"]) (gd_app qsX10 (gd_app qsX0 (gd_app qfX10_darkTrouble (gd_app qfX10_refused (gd_app qfX0_find qfX10_within))))))
theorem gfX10_darkAt_0 : GoodIn vfX10_darkAt (wsV RX10 264 RX10 yX10_darkTrouble vfX10_darkTrouble) := goodIn_app (goodIn_r [.methodLink RX10 264 yX10_darkTrouble, .instanceMethod yX10_darkTrouble, .selects RX10 yX10_darkTrouble yX10_darkTrouble, .initialized RX10] [1, 2, 3, 4] rfl (by decide +kernel)) (goodIn_m (fun _ h => (List.mem_cons_of_mem _ (List.mem_append_right _ (List.mem_append_right _ (List.mem_append_right _ (List.mem_append_left _ h)))))) qfX10_darkTrouble)
theorem gfX10_darkAt_1 : GoodIn vfX10_darkAt (wsV RX10 79 RX10 yX10_refused vfX10_refused) := goodIn_app (goodIn_r [.methodLink RX10 79 yX10_refused, .instanceMethod yX10_refused, .selects RX10 yX10_refused yX10_refused, .initialized RX10] [5, 6, 7, 4] rfl (by decide +kernel)) (goodIn_m (fun _ h => (List.mem_cons_of_mem _ (List.mem_append_right _ (List.mem_append_right _ (List.mem_append_right _ (List.mem_append_right _ (List.mem_append_left _ h))))))) qfX10_refused)
theorem gfX10_darkAt_2 : GoodIn vfX10_darkAt (wsV RX10 267 RX0 yX0_find vfX0_find) := goodIn_app (goodIn_r [.methodLink RX10 267 yX0_find, .instanceMethod yX0_find, .selects RX0 yX0_find yX0_find, .initialized RX0] [10, 11, 12, 13] rfl (by decide +kernel)) (goodIn_m (fun _ h => (List.mem_cons_of_mem _ (List.mem_append_right _ (List.mem_append_right _ (List.mem_append_right _ (List.mem_append_right _ (List.mem_append_right _ (List.mem_append_left _ h)))))))) qfX0_find)
theorem gfX10_darkAt_3 : GoodIn vfX10_darkAt (va_wsS RX10 75 yX10_within vfX10_within) := goodIn_app (goodIn_r [.methodLink RX10 75 yX10_within, .static yX10_within, .initialized RX10] [15, 16, 4] rfl (by decide +kernel)) (goodIn_m (fun _ h => (List.mem_cons_of_mem _ (List.mem_append_right _ (List.mem_append_right _ (List.mem_append_right _ (List.mem_append_right _ (List.mem_append_right _ (List.mem_append_right _ h)))))))) qfX10_within)
set_option maxHeartbeats 2000000 in
set_option maxRecDepth 100000 in
theorem kfX10_darkAt (l : Launch) (dC : Nat → ClassId) (dI : Nat → Nat → Nat) (a0 : Nat) (k1 : Int32) (a2 : Nat) (a3 : Nat) (up : Nat → Nat) (kp : Nat → ClassId) (ud : Nat → Nat) (kd : Nat → ClassId) (x_x : TX10_x) (g9 : Value) (g10 : Value) (g11 : Value) (g12 : Value) (g13 : Value) (g14 : Value) (p_p : TX6_p) (d_d : TX0_d) (sz : Nat) (out : (Int32 × TX10_x × TX0_d)) (h : f_X10_darkAt k1 x_x p_p d_d = some out) : Met l yX10_darkAt vfX10_darkAt ({ frames := 4, cells := 0, slots := 0, locals := 88 }) (PC (dC, dI) [.ref a0, .int k1] sz ((a0, .inr (7, [.ref a2, g9, g10, g11, g12, g13, .ref a3, g14, .int x_x.1, .int x_x.2])) :: bX6 a2 up kp p_p (bX0 a3 ud kd d_d [])) (tX6 kp (tX0 kd ([])))) (va_Qi (S := Unit) (fun (r : Int32) _ => r = out.1) (fun _ t => BC (dC, dI) (va_A ((a0, .inr (7, [.ref a2, g9, g10, g11, g12, g13, .ref a3, g14, .int x_x.1, .int x_x.2])) :: bX6 a2 up kp p_p (bX0 a3 ud kd d_d [])) sz) ((a0, .inr (7, [.ref a2, g9, g10, g11, g12, g13, .ref a3, g14, .int out.2.1.1, .int out.2.1.2])) :: bX6 a2 up kp p_p (bX0 a3 ud kd out.2.2 [])) [] t) (va_A ((a0, .inr (7, [.ref a2, g9, g10, g11, g12, g13, .ref a3, g14, .int x_x.1, .int x_x.2])) :: bX6 a2 up kp p_p (bX0 a3 ud kd d_d [])) sz)) 0 0 (va_A ((a0, .inr (7, [.ref a2, g9, g10, g11, g12, g13, .ref a3, g14, .int x_x.1, .int x_x.2])) :: bX6 a2 up kp p_p (bX0 a3 ud kd d_d [])) sz) := by
  refine Met.ofW (cc := cX10_darkAt) (maxL := 2) (ret := (some .int)) (by decide) rfl ?_
  intro p e s m args below meth c s₁ B0 hml hv
  obtain ⟨rfl, hsz, hP, hK, hD0, hN⟩ := hv
  have hx := B0.exec
  have hb := B0.bytes
  have hr := B0.returns
  have hts := atoms_spec (ws := vfX10_darkAt) B0.pre
  have hown : s.vm.findClass RX10 = some m.cls := findClass_of_methodNamed B0.named
  have hlocks := B0.notSynchronized
  subst hsz
  have hD := hD0.self (sz := s.heap.size)
  generalize hAe : va_A ((a0, .inr (7, [.ref a2, g9, g10, g11, g12, g13, .ref a3, g14, .int x_x.1, .int x_x.2])) :: bX6 a2 up kp p_p (bX0 a3 ud kd d_d [])) s.heap.size = A at hD ⊢
  have hA : ∀ q : Nat, s.heap.size ≤ q → A q := fun q h => by rw [← hAe]; exact Or.inr h
  have hS : va_S A s.heap s.heap [] := va_S.rf
  have hP : va_P (dC, dI) vwCl ((a0, .inr (7, [.ref a2, g9, g10, g11, g12, g13, .ref a3, g14, .int x_x.1, .int x_x.2])) :: bX6 a2 up kp p_p (bX0 a3 ud kd d_d [])) s.heap := hP
  have hl := lv_entry ([.ref a0, .int k1]) (n := 2) (Nat.le_of_ble_eq_true rfl)
  rw [lg_entry_eq]
  generalize (lg_sl ([.ref a0, .int k1]) ++ List.replicate (2 - (lg_sl ([.ref a0, .int k1])).length) Slot.unset).toArray = ls at hl ⊢
  have hl : lv_has ls 2 [(0, .ref a0), (1, .int k1)] := hl
  refine W_q (fun QQ hQQ => ?_)
  rw [f_X10_darkAt] at h
  refine lv_aload_n hx hb dX10_darkAt_0 rfl (lv_at hl 0 rfl) ?_
  refine lv_aload_n hx hb dX10_darkAt_1 rfl (lv_at hl 0 rfl) ?_
  obtain ⟨o2, eo2⟩ : ∃ o, o = f_X10_darkTrouble p_p := ⟨_, rfl⟩
  have h := nm_of h o2 eo2
  refine cl_i (wc := ((a0, .inr (7, [.ref a2, g9, g10, g11, g12, g13, .ref a3, g14, .int x_x.1, .int x_x.2])) :: bX6 a2 up kp p_p [])) (wr := (bX0 a3 ud kd d_d [])) (va_runV (As := []) (rest := [.ref a0]) ⟨hx, hb, hml, hown, hts⟩ (kfX10_darkTrouble l dC dI a0 a2 up kp (g9) (g10) (g11) (g12) (g13) (.ref a3) (g14) (.int x_x.1) (.int x_x.2) p_p s.heap.size o2 eo2.symm) (cwV 0 hts gfX10_darkAt_0 rfl rfl rfl (by decide +kernel) ⟨(Nat.le_of_ble_eq_true rfl), (Nat.le_of_ble_eq_true rfl)⟩) (PV (hP.sub (ws' := ((a0, .inr (7, [.ref a2, g9, g10, g11, g12, g13, .ref a3, g14, .int x_x.1, .int x_x.2])) :: bX6 a2 up kp p_p [])) [0, 1, 2, 3, 4, 5, 6, 7, 8, 9, 10] rfl) (hK.sub (tys' := (tX6 kp ([]))) [0, 1, 2, 3, 4, 5, 6, 7, 8] rfl) (hD.sub (ws' := ((a0, .inr (7, [.ref a2, g9, g10, g11, g12, g13, .ref a3, g14, .int x_x.1, .int x_x.2])) :: bX6 a2 up kp p_p [])) [0, 1, 2, 3, 4, 5, 6, 7, 8, 9, 10] (by decide) rfl) hN 0 rfl rfl) rfl rfl hl.1 rfl (lv_room (Nat.le_of_ble_eq_true rfl)) dX10_darkAt_2 ⟨(Nat.le_of_ble_eq_true rfl), (Nat.le_of_ble_eq_true rfl)⟩) hP hD hK hS hA [0, 1, 2, 3, 4, 5, 6, 7, 8, 9, 10] [11, 12] rfl rfl (by decide) (by decide) (fun r2 _ H locs hw hP hD _ hS => ?_)
  obtain rfl := hw.symm
  have hP : va_P (dC, dI) vwCl (bX0 a3 ud kd d_d ((a0, .inr (7, [.ref a2, g9, g10, g11, g12, g13, .ref a3, g14, .int x_x.1, .int x_x.2])) :: bX6 a2 up kp p_p [])) H := hP
  have hD : va_D A (bX0 a3 ud kd d_d ((a0, .inr (7, [.ref a2, g9, g10, g11, g12, g13, .ref a3, g14, .int x_x.1, .int x_x.2])) :: bX6 a2 up kp p_p [])) := hD
  obtain ⟨o5, eo5⟩ : ∃ o, o = f_X10_refused o2 x_x := ⟨_, rfl⟩
  have h := nm_of h o5 eo5
  refine cl_i (wc := ([(a0, .inr (7, [.ref a2, g9, g10, g11, g12, g13, .ref a3, g14, .int x_x.1, .int x_x.2]))])) (wr := (bX0 a3 ud kd d_d (bX6 a2 up kp p_p []))) (va_runV (As := [.int o2]) (rest := []) ⟨hx, hb, hml, hown, hts⟩ (kfX10_refused l dC dI a0 o2 x_x (.ref a2) (g9) (g10) (g11) (g12) (g13) (.ref a3) (g14) H.size o5 eo5.symm) (cwV 1 hts gfX10_darkAt_1 rfl rfl rfl (by decide +kernel) ⟨(Nat.le_of_ble_eq_true rfl), (Nat.le_of_ble_eq_true rfl)⟩) (PV (hP.sub (ws' := ([(a0, .inr (7, [.ref a2, g9, g10, g11, g12, g13, .ref a3, g14, .int x_x.1, .int x_x.2]))])) [2] rfl) (hK.sub (tys' := ([])) [] rfl) (hD.sub (ws' := ([(a0, .inr (7, [.ref a2, g9, g10, g11, g12, g13, .ref a3, g14, .int x_x.1, .int x_x.2]))])) [2] (by decide) rfl) hN 0 rfl rfl) rfl rfl hl.1 rfl (lv_room (Nat.le_of_ble_eq_true rfl)) dX10_darkAt_5 ⟨(Nat.le_of_ble_eq_true rfl), (Nat.le_of_ble_eq_true rfl)⟩) hP hD hK hS hA [2] [0, 1, 3, 4, 5, 6, 7, 8, 9, 10, 11, 12] rfl rfl (by decide) (by decide) (fun r5 _ H locs hw hP hD _ hS => ?_)
  obtain ⟨hw, br5⟩ := hw
  obtain rfl := hw
  have hP : va_P (dC, dI) vwCl (bX0 a3 ud kd d_d (bX6 a2 up kp p_p ([(a0, .inr (7, [.ref a2, g9, g10, g11, g12, g13, .ref a3, g14, .int o5.2.1, .int o5.2.2]))]))) H := hP
  have hD : va_D A (bX0 a3 ud kd d_d (bX6 a2 up kp p_p ([(a0, .inr (7, [.ref a2, g9, g10, g11, g12, g13, .ref a3, g14, .int o5.2.1, .int o5.2.2]))]))) := hD
  refine lv_if_eq (tgt := 13) hx hb dX10_darkAt_8 (by decide) (fun c8 => ?_) (fun c8 => ?_)
  · have h := (if_pos c8).symm.trans h
    refine lv_aload_n hx hb dX10_darkAt_13 rfl (lv_at hl 0 rfl) ?_
    refine va_get (D := (dC, dI)) (ci := 7) (v := .ref a3) (C := RX10) (T := TX10) (N := 10) hx hb hts ifX10_darkAt_X10 hown hK hP 12 rfl rfl 6 (by decide) (hts (.fieldLink RX10 50 "HookPier" "dark" "LHookPier$Dark;") (List.mem_of_getElem? (i := 8) rfl)) (fun _ h9 => h9) rfl dX10_darkAt_14 ?_
    refine lv_aload_n hx hb dX10_darkAt_17 rfl (lv_at hl 0 rfl) ?_
    refine va_get (D := (dC, dI)) (ci := 7) (v := .ref a2) (C := RX10) (T := TX10) (N := 10) hx hb hts ifX10_darkAt_X10 hown hK hP 12 rfl rfl 0 (by decide) (hts (.fieldLink RX10 10 "HookPier" "plan" "LHookPier$Plan;") (List.mem_of_getElem? (i := 9) rfl)) (fun _ h9 => h9) rfl dX10_darkAt_18 ?_
    obtain ⟨o21, eo21, h⟩ := bd_of h
    refine cl_v (wc := (bX0 a3 ud kd d_d (bX6 a2 up kp p_p []))) (wr := ([(a0, .inr (7, [.ref a2, g9, g10, g11, g12, g13, .ref a3, g14, .int o5.2.1, .int o5.2.2]))])) (va_runV (As := [.ref a2]) (rest := []) ⟨hx, hb, hml, hown, hts⟩ (kfX0_find l dC dI a3 a2 ud kd up kp d_d p_p H.size o21 eo21) (cwV 1 hts gfX10_darkAt_2 rfl rfl rfl (by decide +kernel) ⟨(Nat.le_of_ble_eq_true rfl), (Nat.le_of_ble_eq_true rfl)⟩) (PV (hP.sub (ws' := (bX0 a3 ud kd d_d (bX6 a2 up kp p_p []))) [0, 1, 2, 3, 4, 5, 6, 7, 8, 9, 10, 11] rfl) (hK.sub (tys' := (tX0 kd (tX6 kp ([])))) [9, 0, 1, 2, 3, 4, 5, 6, 7, 8] rfl) (hD.sub (ws' := (bX0 a3 ud kd d_d (bX6 a2 up kp p_p []))) [0, 1, 2, 3, 4, 5, 6, 7, 8, 9, 10, 11] (by decide) rfl) hN 0 rfl rfl) rfl rfl hl.1 rfl (lv_room (Nat.le_of_ble_eq_true rfl)) dX10_darkAt_21 ⟨(Nat.le_of_ble_eq_true rfl), (Nat.le_of_ble_eq_true rfl)⟩) hP hD hK hS hA [0, 1, 2, 3, 4, 5, 6, 7, 8, 9, 10, 11] [12] rfl rfl (by decide) (by decide) (fun _ H locs hw hP hD _ hS => ?_)
    have hP : va_P (dC, dI) vwCl ((a0, .inr (7, [.ref a2, g9, g10, g11, g12, g13, .ref a3, g14, .int o5.2.1, .int o5.2.2])) :: bX0 a3 ud kd o21 (bX6 a2 up kp p_p [])) H := hP
    have hD : va_D A ((a0, .inr (7, [.ref a2, g9, g10, g11, g12, g13, .ref a3, g14, .int o5.2.1, .int o5.2.2])) :: bX0 a3 ud kd o21 (bX6 a2 up kp p_p [])) := hD
    refine lv_aload_n hx hb dX10_darkAt_24 rfl (lv_at hl 0 rfl) ?_
    refine lv_iload_n hx hb dX10_darkAt_25 rfl (lv_at hl 1 rfl) ?_
    refine lv_iconst (v := 0) hx hb dX10_darkAt_26 (by decide) ?_
    refine lv_aload_n hx hb dX10_darkAt_27 rfl (lv_at hl 0 rfl) ?_
    refine va_get (D := (dC, dI)) (ci := 7) (v := .ref a3) (C := RX10) (T := TX10) (N := 10) hx hb hts ifX10_darkAt_X10 hown hK hP 0 rfl rfl 6 (by decide) (hts (.fieldLink RX10 50 "HookPier" "dark" "LHookPier$Dark;") (List.mem_of_getElem? (i := 8) rfl)) (fun _ h9 => h9) rfl dX10_darkAt_28 ?_
    refine va_get (D := (dC, dI)) (ci := 0) (v := .int o21.2) (C := RX0) (T := TX0) (N := 2) hx hb hts ifX10_darkAt_X0 hown hK hP 1 rfl rfl 1 (by decide) (hts (.fieldLink RX10 271 "HookPier$Dark" "many" "I") (List.mem_of_getElem? (i := 14) rfl)) (fun _ h9 => h9) rfl dX10_darkAt_31 ?_
    refine lv_iconst (v := 1) hx hb dX10_darkAt_34 (by decide) ?_
    refine lv_isub hx hb dX10_darkAt_35 ?_
    obtain ⟨o36, eo36⟩ : ∃ o, o = f_X10_within k1 (0 : Int32) (o21.2 - (1 : Int32)) := ⟨_, rfl⟩
    have h := nm_of h o36 eo36
    refine cl_i (wc := []) (wr := ((a0, .inr (7, [.ref a2, g9, g10, g11, g12, g13, .ref a3, g14, .int o5.2.1, .int o5.2.2])) :: bX0 a3 ud kd o21 (bX6 a2 up kp p_p []))) (va_runS (As := [.int k1, .int 0, .int (o21.2 - (1 : Int32))]) (rest := [.ref a0]) ⟨hx, hb, hml, hown, hts⟩ (kfX10_within l dC dI k1 (0 : Int32) (o21.2 - (1 : Int32)) H.size o36 eo36.symm) (va_cwS 3 hts gfX10_darkAt_3 rfl rfl rfl (by decide +kernel) ⟨(Nat.le_of_ble_eq_true rfl), (Nat.le_of_ble_eq_true rfl)⟩) (PS (hP.sub (ws' := []) [] rfl) (hK.sub (tys' := ([])) [] rfl) (hD.sub (ws' := []) [] (by decide) rfl) hN) rfl rfl hl.1 rfl (lv_room (Nat.le_of_ble_eq_true rfl)) dX10_darkAt_36 ⟨(Nat.le_of_ble_eq_true rfl), (Nat.le_of_ble_eq_true rfl)⟩) hP hD hK hS hA [] [0, 1, 2, 3, 4, 5, 6, 7, 8, 9, 10, 11, 12] rfl rfl (by decide) (by decide) (fun r36 _ H locs hw hP hD _ hS => ?_)
    obtain ⟨hw, br36⟩ := hw
    obtain rfl := hw.symm
    have hP : va_P (dC, dI) vwCl ((a0, .inr (7, [.ref a2, g9, g10, g11, g12, g13, .ref a3, g14, .int o5.2.1, .int o5.2.2])) :: bX0 a3 ud kd o21 (bX6 a2 up kp p_p [])) H := hP
    have hD : va_D A ((a0, .inr (7, [.ref a2, g9, g10, g11, g12, g13, .ref a3, g14, .int o5.2.1, .int o5.2.2])) :: bX0 a3 ud kd o21 (bX6 a2 up kp p_p [])) := hD
    have J47 : ∀ (v47_t1 : Int32) (H : Heap) (locs : List Loc) (ls : Array Slot), f_X10_darkAt_J47 k1 o21 o5 v47_t1 = some out → 0 ≤ v47_t1.toInt ∧ v47_t1.toInt ≤ 1 → va_P (dC, dI) vwCl ((a0, .inr (7, [.ref a2, g9, g10, g11, g12, g13, .ref a3, g14, .int o5.2.1, .int o5.2.2])) :: bX0 a3 ud kd o21 (bX6 a2 up kp p_p [])) H → va_D A ((a0, .inr (7, [.ref a2, g9, g10, g11, g12, g13, .ref a3, g14, .int o5.2.1, .int o5.2.2])) :: bX0 a3 ud kd o21 (bX6 a2 up kp p_p [])) → va_S A s.heap H locs → lv_has ls 2 [(0, .ref a0), (1, .int k1)] → W p l e (headSpec vfX10_darkAt { frames := 4, cells := 0, slots := 0, locals := 88 }).room s m ([.ref a0, .int k1]).toArray below meth c H locs 0 0 QQ (F0 m 47 ls [.int v47_t1, .ref a0]) := by
      intro v47_t1 H locs ls h zb_v47_t1 hP hD hS hl
      rw [f_X10_darkAt_J47] at h
      obtain ⟨o47, eo47⟩ : ∃ o, o = f_X10_refused v47_t1 o5.2 := ⟨_, rfl⟩
      have h := nm_of h o47 eo47
      refine cl_i (wc := ([(a0, .inr (7, [.ref a2, g9, g10, g11, g12, g13, .ref a3, g14, .int o5.2.1, .int o5.2.2]))])) (wr := (bX0 a3 ud kd o21 (bX6 a2 up kp p_p []))) (va_runV (As := [.int v47_t1]) (rest := []) ⟨hx, hb, hml, hown, hts⟩ (kfX10_refused l dC dI a0 v47_t1 o5.2 (.ref a2) (g9) (g10) (g11) (g12) (g13) (.ref a3) (g14) H.size o47 eo47.symm) (cwV 1 hts gfX10_darkAt_1 rfl rfl rfl (by decide +kernel) ⟨(Nat.le_of_ble_eq_true rfl), (Nat.le_of_ble_eq_true rfl)⟩) (PV (hP.sub (ws' := ([(a0, .inr (7, [.ref a2, g9, g10, g11, g12, g13, .ref a3, g14, .int o5.2.1, .int o5.2.2]))])) [0] rfl) (hK.sub (tys' := ([])) [] rfl) (hD.sub (ws' := ([(a0, .inr (7, [.ref a2, g9, g10, g11, g12, g13, .ref a3, g14, .int o5.2.1, .int o5.2.2]))])) [0] (by decide) rfl) hN 0 rfl rfl) rfl rfl hl.1 rfl (lv_room (Nat.le_of_ble_eq_true rfl)) dX10_darkAt_47 ⟨(Nat.le_of_ble_eq_true rfl), (Nat.le_of_ble_eq_true rfl)⟩) hP hD hK hS hA [0] [1, 2, 3, 4, 5, 6, 7, 8, 9, 10, 11, 12] rfl rfl (by decide) (by decide) (fun r47 _ H locs hw hP hD _ hS => ?_)
      obtain ⟨hw, br47⟩ := hw
      obtain rfl := hw
      have hP : va_P (dC, dI) vwCl (bX0 a3 ud kd o21 (bX6 a2 up kp p_p ([(a0, .inr (7, [.ref a2, g9, g10, g11, g12, g13, .ref a3, g14, .int o47.2.1, .int o47.2.2]))]))) H := hP
      have hD : va_D A (bX0 a3 ud kd o21 (bX6 a2 up kp p_p ([(a0, .inr (7, [.ref a2, g9, g10, g11, g12, g13, .ref a3, g14, .int o47.2.1, .int o47.2.2]))]))) := hD
      refine lv_if_eq (tgt := 55) hx hb dX10_darkAt_50 (by decide) (fun c50 => ?_) (fun c50 => ?_)
      · have h := (if_pos c50).symm.trans h
        refine lv_aload_n hx hb dX10_darkAt_55 rfl (lv_at hl 0 rfl) ?_
        refine va_get (D := (dC, dI)) (ci := 7) (v := .ref a3) (C := RX10) (T := TX10) (N := 10) hx hb hts ifX10_darkAt_X10 hown hK hP 12 rfl rfl 6 (by decide) (hts (.fieldLink RX10 50 "HookPier" "dark" "LHookPier$Dark;") (List.mem_of_getElem? (i := 8) rfl)) (fun _ h9 => h9) rfl dX10_darkAt_56 ?_
        refine va_get (D := (dC, dI)) (ci := 0) (v := .ref (ud 0)) (C := RX0) (T := TX0) (N := 2) hx hb hts ifX10_darkAt_X0 hown hK hP 0 rfl rfl 0 (by decide) (hts (.fieldLink RX10 274 "HookPier$Dark" "place" "[I") (List.mem_of_getElem? (i := 17) rfl)) (fun _ h9 => h9) rfl dX10_darkAt_59 ?_
        refine lv_iload_n hx hb dX10_darkAt_62 rfl (lv_at hl 1 rfl) ?_
        obtain ⟨hg63, h⟩ := gA_of h
        refine va_iald hx hb hK hP 1 9 rfl rfl hg63 dX10_darkAt_63 ?_
        obtain rfl := Option.some.inj h
        have hP9 := hP.sub (ws' := ((a0, .inr (7, [.ref a2, g9, g10, g11, g12, g13, .ref a3, g14, .int o47.2.1, .int o47.2.2])) :: bX6 a2 up kp p_p (bX0 a3 ud kd o21 []))) [12, 2, 3, 4, 5, 6, 7, 8, 9, 10, 11, 0, 1] rfl
        have hD9 := hD.sub (ws' := ((a0, .inr (7, [.ref a2, g9, g10, g11, g12, g13, .ref a3, g14, .int o47.2.1, .int o47.2.2])) :: bX6 a2 up kp p_p (bX0 a3 ud kd o21 []))) [12, 2, 3, 4, 5, 6, 7, 8, 9, 10, 11, 0, 1] (by decide) rfl
        have hK9 := hK.sub (tys' := []) [] rfl
        rw [hQQ]
        exact W.iret (v := (o21.1 (k1).toNatClampNeg)) hx hb hr (fun t ht hW => ⟨⟨(o21.1 (k1).toNatClampNeg), (), rfl, rfl, by rw [ht]; exact hP9, va_K.moved hW.alike hK9, hD9⟩, hS.F ht⟩) hS.2.2 dX10_darkAt_64
      · have h := (if_neg c50).symm.trans h
        refine lv_iconst (v := (-1)) hx hb dX10_darkAt_53 (by decide) ?_
        obtain rfl := Option.some.inj h
        have hP9 := hP.sub (ws' := ((a0, .inr (7, [.ref a2, g9, g10, g11, g12, g13, .ref a3, g14, .int o47.2.1, .int o47.2.2])) :: bX6 a2 up kp p_p (bX0 a3 ud kd o21 []))) [12, 2, 3, 4, 5, 6, 7, 8, 9, 10, 11, 0, 1] rfl
        have hD9 := hD.sub (ws' := ((a0, .inr (7, [.ref a2, g9, g10, g11, g12, g13, .ref a3, g14, .int o47.2.1, .int o47.2.2])) :: bX6 a2 up kp p_p (bX0 a3 ud kd o21 []))) [12, 2, 3, 4, 5, 6, 7, 8, 9, 10, 11, 0, 1] (by decide) rfl
        have hK9 := hK.sub (tys' := []) [] rfl
        rw [hQQ]
        exact W.iret (v := (-1 : Int32)) hx hb hr (fun t ht hW => ⟨⟨(-1 : Int32), (), rfl, rfl, by rw [ht]; exact hP9, va_K.moved hW.alike hK9, hD9⟩, hS.F ht⟩) hS.2.2 dX10_darkAt_54
    refine lv_if_eq (tgt := 46) hx hb dX10_darkAt_39 (by decide) (fun c39 => ?_) (fun c39 => ?_)
    · have h := (if_pos c39).symm.trans h
      refine lv_iconst (v := 1) hx hb dX10_darkAt_46 (by decide) ?_
      exact J47 (1 : Int32) H _ ls h (by decide) hP hD hS (lv_sub hl [0, 1] rfl)
    · have h := (if_neg c39).symm.trans h
      refine lv_iconst (v := 0) hx hb dX10_darkAt_42 (by decide) ?_
      refine lv_goto (tgt := 47) hx hb dX10_darkAt_43 (by decide) ?_
      exact J47 (0 : Int32) H _ ls h (by decide) hP hD hS (lv_sub hl [0, 1] rfl)
  · have h := (if_neg c8).symm.trans h
    refine lv_iconst (v := (-1)) hx hb dX10_darkAt_11 (by decide) ?_
    obtain rfl := Option.some.inj h
    have hP9 := hP.sub (ws' := ((a0, .inr (7, [.ref a2, g9, g10, g11, g12, g13, .ref a3, g14, .int o5.2.1, .int o5.2.2])) :: bX6 a2 up kp p_p (bX0 a3 ud kd d_d []))) [12, 2, 3, 4, 5, 6, 7, 8, 9, 10, 11, 0, 1] rfl
    have hD9 := hD.sub (ws' := ((a0, .inr (7, [.ref a2, g9, g10, g11, g12, g13, .ref a3, g14, .int o5.2.1, .int o5.2.2])) :: bX6 a2 up kp p_p (bX0 a3 ud kd d_d []))) [12, 2, 3, 4, 5, 6, 7, 8, 9, 10, 11, 0, 1] (by decide) rfl
    have hK9 := hK.sub (tys' := []) [] rfl
    rw [hQQ]
    exact W.iret (v := (-1 : Int32)) hx hb hr (fun t ht hW => ⟨⟨(-1 : Int32), (), rfl, rfl, by rw [ht]; exact hP9, va_K.moved hW.alike hK9, hD9⟩, hS.F ht⟩) hS.2.2 dX10_darkAt_12
theorem dX10_darkSpots_0 : decode cX10_darkSpots 0 = .ok (.aload_n 0, 1) := by decide +kernel
theorem dX10_darkSpots_1 : decode cX10_darkSpots 1 = .ok (.aload_n 0, 1) := by decide +kernel
theorem dX10_darkSpots_11 : decode cX10_darkSpots 11 = .ok (.iconst (-1), 1) := by decide +kernel
theorem dX10_darkSpots_12 : decode cX10_darkSpots 12 = .ok (.ireturn, 1) := by decide +kernel
theorem dX10_darkSpots_13 : decode cX10_darkSpots 13 = .ok (.aload_n 0, 1) := by decide +kernel
theorem dX10_darkSpots_14 : decode cX10_darkSpots 14 = .ok (.getfield 50, 3) := by decide +kernel
theorem dX10_darkSpots_17 : decode cX10_darkSpots 17 = .ok (.aload_n 0, 1) := by decide +kernel
theorem dX10_darkSpots_18 : decode cX10_darkSpots 18 = .ok (.getfield 10, 3) := by decide +kernel
theorem dX10_darkSpots_2 : decode cX10_darkSpots 2 = .ok (.invokevirtual 264, 3) := by decide +kernel
theorem dX10_darkSpots_21 : decode cX10_darkSpots 21 = .ok (.invokevirtual 267, 3) := by decide +kernel
theorem dX10_darkSpots_24 : decode cX10_darkSpots 24 = .ok (.iconst 0, 1) := by decide +kernel
theorem dX10_darkSpots_25 : decode cX10_darkSpots 25 = .ok (.istore_n 1, 1) := by decide +kernel
theorem dX10_darkSpots_26 : decode cX10_darkSpots 26 = .ok (.iconst 0, 1) := by decide +kernel
theorem dX10_darkSpots_27 : decode cX10_darkSpots 27 = .ok (.istore_n 2, 1) := by decide +kernel
theorem dX10_darkSpots_28 : decode cX10_darkSpots 28 = .ok (.iload_n 2, 1) := by decide +kernel
theorem dX10_darkSpots_29 : decode cX10_darkSpots 29 = .ok (.aload_n 0, 1) := by decide +kernel
theorem dX10_darkSpots_30 : decode cX10_darkSpots 30 = .ok (.getfield 50, 3) := by decide +kernel
theorem dX10_darkSpots_33 : decode cX10_darkSpots 33 = .ok (.getfield 271, 3) := by decide +kernel
theorem dX10_darkSpots_36 : decode cX10_darkSpots 36 = .ok (.if_icmp .ge 26, 3) := by decide +kernel
theorem dX10_darkSpots_39 : decode cX10_darkSpots 39 = .ok (.iload_n 1, 1) := by decide +kernel
theorem dX10_darkSpots_40 : decode cX10_darkSpots 40 = .ok (.iconst 1, 1) := by decide +kernel
theorem dX10_darkSpots_41 : decode cX10_darkSpots 41 = .ok (.aload_n 0, 1) := by decide +kernel
theorem dX10_darkSpots_42 : decode cX10_darkSpots 42 = .ok (.getfield 50, 3) := by decide +kernel
theorem dX10_darkSpots_45 : decode cX10_darkSpots 45 = .ok (.getfield 274, 3) := by decide +kernel
theorem dX10_darkSpots_48 : decode cX10_darkSpots 48 = .ok (.iload_n 2, 1) := by decide +kernel
theorem dX10_darkSpots_49 : decode cX10_darkSpots 49 = .ok (.iaload, 1) := by decide +kernel
theorem dX10_darkSpots_5 : decode cX10_darkSpots 5 = .ok (.invokevirtual 79, 3) := by decide +kernel
theorem dX10_darkSpots_50 : decode cX10_darkSpots 50 = .ok (.invokestatic 152, 3) := by decide +kernel
theorem dX10_darkSpots_53 : decode cX10_darkSpots 53 = .ok (.ishl, 1) := by decide +kernel
theorem dX10_darkSpots_54 : decode cX10_darkSpots 54 = .ok (.ior, 1) := by decide +kernel
theorem dX10_darkSpots_55 : decode cX10_darkSpots 55 = .ok (.istore_n 1, 1) := by decide +kernel
theorem dX10_darkSpots_56 : decode cX10_darkSpots 56 = .ok (.iinc 2 1, 3) := by decide +kernel
theorem dX10_darkSpots_59 : decode cX10_darkSpots 59 = .ok (.goto (-31), 3) := by decide +kernel
theorem dX10_darkSpots_62 : decode cX10_darkSpots 62 = .ok (.iload_n 1, 1) := by decide +kernel
theorem dX10_darkSpots_63 : decode cX10_darkSpots 63 = .ok (.ireturn, 1) := by decide +kernel
theorem dX10_darkSpots_8 : decode cX10_darkSpots 8 = .ok (.ifCond .eq 5, 3) := by decide +kernel
def vfX10_darkSpots : List Cond := List.cons (.code yX10_darkSpots cX10_darkSpots 3 (some .int)) (apW [.methodLink RX10 264 yX10_darkTrouble, .instanceMethod yX10_darkTrouble, .selects RX10 yX10_darkTrouble yX10_darkTrouble, .initialized RX10, .methodLink RX10 79 yX10_refused, .instanceMethod yX10_refused, .selects RX10 yX10_refused yX10_refused, .fieldLink RX10 50 "HookPier" "dark" "LHookPier$Dark;", .fieldLink RX10 10 "HookPier" "plan" "LHookPier$Plan;", .methodLink RX10 267 yX0_find, .instanceMethod yX0_find, .selects RX0 yX0_find yX0_find, .initialized RX0, .fieldLink RX10 271 "HookPier$Dark" "many" "I", .fieldLink RX10 274 "HookPier$Dark" "place" "[I", .methodLink RX10 152 yX10_spotOf, .static yX10_spotOf] (apW wsX100 (apW wsX00 (apW vfX10_darkTrouble (apW vfX10_refused (apW vfX0_find (vfX10_spotOf)))))))
theorem ifX10_darkSpots_X10 : ∀ w ∈ wsX100, w ∈ vfX10_darkSpots := fun _ h => (List.mem_cons_of_mem _ (List.mem_append_right _ (List.mem_append_left _ h)))
theorem ifX10_darkSpots_X0 : ∀ w ∈ wsX00, w ∈ vfX10_darkSpots := fun _ h => (List.mem_cons_of_mem _ (List.mem_append_right _ (List.mem_append_right _ (List.mem_append_left _ h))))
theorem qfX10_darkSpots : Good vfX10_darkSpots := gd_cons (by decide +kernel) (gd_app (gd_dec (by decide +kernel) : Good [.methodLink RX10 264 yX10_darkTrouble, .instanceMethod yX10_darkTrouble, .selects RX10 yX10_darkTrouble yX10_darkTrouble, .initialized RX10, .methodLink RX10 79 yX10_refused, .instanceMethod yX10_refused, .selects RX10 yX10_refused yX10_refused, .fieldLink RX10 50 "HookPier" "dark" "LHookPier$Dark;", .fieldLink RX10 10 "HookPier" "plan" "LHookPier$Plan;", .methodLink RX10 267 yX0_find, .instanceMethod yX0_find, .selects RX0 yX0_find yX0_find, .initialized RX0, .fieldLink RX10 271 "HookPier$Dark" "many" "I", .fieldLink RX10 274 "HookPier$Dark" "place" "[I", .methodLink RX10 152 yX10_spotOf, .static yX10_spotOf]) (gd_app qsX10 (gd_app qsX0 (gd_app qfX10_darkTrouble (gd_app qfX10_refused (gd_app qfX0_find qfX10_spotOf))))))
theorem gfX10_darkSpots_0 : GoodIn vfX10_darkSpots (wsV RX10 264 RX10 yX10_darkTrouble vfX10_darkTrouble) := goodIn_app (goodIn_r [.methodLink RX10 264 yX10_darkTrouble, .instanceMethod yX10_darkTrouble, .selects RX10 yX10_darkTrouble yX10_darkTrouble, .initialized RX10] [1, 2, 3, 4] rfl (by decide +kernel)) (goodIn_m (fun _ h => (List.mem_cons_of_mem _ (List.mem_append_right _ (List.mem_append_right _ (List.mem_append_right _ (List.mem_append_left _ h)))))) qfX10_darkTrouble)
theorem gfX10_darkSpots_1 : GoodIn vfX10_darkSpots (wsV RX10 79 RX10 yX10_refused vfX10_refused) := goodIn_app (goodIn_r [.methodLink RX10 79 yX10_refused, .instanceMethod yX10_refused, .selects RX10 yX10_refused yX10_refused, .initialized RX10] [5, 6, 7, 4] rfl (by decide +kernel)) (goodIn_m (fun _ h => (List.mem_cons_of_mem _ (List.mem_append_right _ (List.mem_append_right _ (List.mem_append_right _ (List.mem_append_right _ (List.mem_append_left _ h))))))) qfX10_refused)
theorem gfX10_darkSpots_2 : GoodIn vfX10_darkSpots (wsV RX10 267 RX0 yX0_find vfX0_find) := goodIn_app (goodIn_r [.methodLink RX10 267 yX0_find, .instanceMethod yX0_find, .selects RX0 yX0_find yX0_find, .initialized RX0] [10, 11, 12, 13] rfl (by decide +kernel)) (goodIn_m (fun _ h => (List.mem_cons_of_mem _ (List.mem_append_right _ (List.mem_append_right _ (List.mem_append_right _ (List.mem_append_right _ (List.mem_append_right _ (List.mem_append_left _ h)))))))) qfX0_find)
theorem gfX10_darkSpots_3 : GoodIn vfX10_darkSpots (va_wsS RX10 152 yX10_spotOf vfX10_spotOf) := goodIn_app (goodIn_r [.methodLink RX10 152 yX10_spotOf, .static yX10_spotOf, .initialized RX10] [16, 17, 4] rfl (by decide +kernel)) (goodIn_m (fun _ h => (List.mem_cons_of_mem _ (List.mem_append_right _ (List.mem_append_right _ (List.mem_append_right _ (List.mem_append_right _ (List.mem_append_right _ (List.mem_append_right _ h)))))))) qfX10_spotOf)
set_option maxHeartbeats 2000000 in
set_option maxRecDepth 100000 in
theorem kfX10_darkSpots (l : Launch) (dC : Nat → ClassId) (dI : Nat → Nat → Nat) (a0 : Nat) (a1 : Nat) (a2 : Nat) (up : Nat → Nat) (kp : Nat → ClassId) (ud : Nat → Nat) (kd : Nat → ClassId) (x_x : TX10_x) (g8 : Value) (g9 : Value) (g10 : Value) (g11 : Value) (g12 : Value) (g13 : Value) (p_p : TX6_p) (d_d : TX0_d) (sz : Nat) (out : (Int32 × TX10_x × TX0_d)) (h : f_X10_darkSpots x_x p_p d_d = some out) : Met l yX10_darkSpots vfX10_darkSpots ({ frames := 4, cells := 0, slots := 0, locals := 88 }) (PC (dC, dI) [.ref a0] sz ((a0, .inr (7, [.ref a1, g8, g9, g10, g11, g12, .ref a2, g13, .int x_x.1, .int x_x.2])) :: bX6 a1 up kp p_p (bX0 a2 ud kd d_d [])) (tX6 kp (tX0 kd ([])))) (va_Qi (S := Unit) (fun (r : Int32) _ => r = out.1) (fun _ t => BC (dC, dI) (va_A ((a0, .inr (7, [.ref a1, g8, g9, g10, g11, g12, .ref a2, g13, .int x_x.1, .int x_x.2])) :: bX6 a1 up kp p_p (bX0 a2 ud kd d_d [])) sz) ((a0, .inr (7, [.ref a1, g8, g9, g10, g11, g12, .ref a2, g13, .int out.2.1.1, .int out.2.1.2])) :: bX6 a1 up kp p_p (bX0 a2 ud kd out.2.2 [])) [] t) (va_A ((a0, .inr (7, [.ref a1, g8, g9, g10, g11, g12, .ref a2, g13, .int x_x.1, .int x_x.2])) :: bX6 a1 up kp p_p (bX0 a2 ud kd d_d [])) sz)) 0 0 (va_A ((a0, .inr (7, [.ref a1, g8, g9, g10, g11, g12, .ref a2, g13, .int x_x.1, .int x_x.2])) :: bX6 a1 up kp p_p (bX0 a2 ud kd d_d [])) sz) := by
  refine Met.ofW (cc := cX10_darkSpots) (maxL := 3) (ret := (some .int)) (by decide) rfl ?_
  intro p e s m args below meth c s₁ B0 hml hv
  obtain ⟨rfl, hsz, hP, hK, hD0, hN⟩ := hv
  have hx := B0.exec
  have hb := B0.bytes
  have hr := B0.returns
  have hts := atoms_spec (ws := vfX10_darkSpots) B0.pre
  have hown : s.vm.findClass RX10 = some m.cls := findClass_of_methodNamed B0.named
  have hlocks := B0.notSynchronized
  subst hsz
  have hD := hD0.self (sz := s.heap.size)
  generalize hAe : va_A ((a0, .inr (7, [.ref a1, g8, g9, g10, g11, g12, .ref a2, g13, .int x_x.1, .int x_x.2])) :: bX6 a1 up kp p_p (bX0 a2 ud kd d_d [])) s.heap.size = A at hD ⊢
  have hA : ∀ q : Nat, s.heap.size ≤ q → A q := fun q h => by rw [← hAe]; exact Or.inr h
  have hS : va_S A s.heap s.heap [] := va_S.rf
  have hP : va_P (dC, dI) vwCl ((a0, .inr (7, [.ref a1, g8, g9, g10, g11, g12, .ref a2, g13, .int x_x.1, .int x_x.2])) :: bX6 a1 up kp p_p (bX0 a2 ud kd d_d [])) s.heap := hP
  have hl := lv_entry ([.ref a0]) (n := 3) (Nat.le_of_ble_eq_true rfl)
  rw [lg_entry_eq]
  generalize (lg_sl ([.ref a0]) ++ List.replicate (3 - (lg_sl ([.ref a0])).length) Slot.unset).toArray = ls at hl ⊢
  have hl : lv_has ls 3 [(0, .ref a0)] := hl
  refine W_q (fun QQ hQQ => ?_)
  rw [f_X10_darkSpots] at h
  refine lv_aload_n hx hb dX10_darkSpots_0 rfl (lv_at hl 0 rfl) ?_
  refine lv_aload_n hx hb dX10_darkSpots_1 rfl (lv_at hl 0 rfl) ?_
  obtain ⟨o2, eo2⟩ : ∃ o, o = f_X10_darkTrouble p_p := ⟨_, rfl⟩
  have h := nm_of h o2 eo2
  refine cl_i (wc := ((a0, .inr (7, [.ref a1, g8, g9, g10, g11, g12, .ref a2, g13, .int x_x.1, .int x_x.2])) :: bX6 a1 up kp p_p [])) (wr := (bX0 a2 ud kd d_d [])) (va_runV (As := []) (rest := [.ref a0]) ⟨hx, hb, hml, hown, hts⟩ (kfX10_darkTrouble l dC dI a0 a1 up kp (g8) (g9) (g10) (g11) (g12) (.ref a2) (g13) (.int x_x.1) (.int x_x.2) p_p s.heap.size o2 eo2.symm) (cwV 0 hts gfX10_darkSpots_0 rfl rfl rfl (by decide +kernel) ⟨(Nat.le_of_ble_eq_true rfl), (Nat.le_of_ble_eq_true rfl)⟩) (PV (hP.sub (ws' := ((a0, .inr (7, [.ref a1, g8, g9, g10, g11, g12, .ref a2, g13, .int x_x.1, .int x_x.2])) :: bX6 a1 up kp p_p [])) [0, 1, 2, 3, 4, 5, 6, 7, 8, 9, 10] rfl) (hK.sub (tys' := (tX6 kp ([]))) [0, 1, 2, 3, 4, 5, 6, 7, 8] rfl) (hD.sub (ws' := ((a0, .inr (7, [.ref a1, g8, g9, g10, g11, g12, .ref a2, g13, .int x_x.1, .int x_x.2])) :: bX6 a1 up kp p_p [])) [0, 1, 2, 3, 4, 5, 6, 7, 8, 9, 10] (by decide) rfl) hN 0 rfl rfl) rfl rfl hl.1 rfl (lv_room (Nat.le_of_ble_eq_true rfl)) dX10_darkSpots_2 ⟨(Nat.le_of_ble_eq_true rfl), (Nat.le_of_ble_eq_true rfl)⟩) hP hD hK hS hA [0, 1, 2, 3, 4, 5, 6, 7, 8, 9, 10] [11, 12] rfl rfl (by decide) (by decide) (fun r2 _ H locs hw hP hD _ hS => ?_)
  obtain rfl := hw.symm
  have hP : va_P (dC, dI) vwCl (bX0 a2 ud kd d_d ((a0, .inr (7, [.ref a1, g8, g9, g10, g11, g12, .ref a2, g13, .int x_x.1, .int x_x.2])) :: bX6 a1 up kp p_p [])) H := hP
  have hD : va_D A (bX0 a2 ud kd d_d ((a0, .inr (7, [.ref a1, g8, g9, g10, g11, g12, .ref a2, g13, .int x_x.1, .int x_x.2])) :: bX6 a1 up kp p_p [])) := hD
  obtain ⟨o5, eo5⟩ : ∃ o, o = f_X10_refused o2 x_x := ⟨_, rfl⟩
  have h := nm_of h o5 eo5
  refine cl_i (wc := ([(a0, .inr (7, [.ref a1, g8, g9, g10, g11, g12, .ref a2, g13, .int x_x.1, .int x_x.2]))])) (wr := (bX0 a2 ud kd d_d (bX6 a1 up kp p_p []))) (va_runV (As := [.int o2]) (rest := []) ⟨hx, hb, hml, hown, hts⟩ (kfX10_refused l dC dI a0 o2 x_x (.ref a1) (g8) (g9) (g10) (g11) (g12) (.ref a2) (g13) H.size o5 eo5.symm) (cwV 1 hts gfX10_darkSpots_1 rfl rfl rfl (by decide +kernel) ⟨(Nat.le_of_ble_eq_true rfl), (Nat.le_of_ble_eq_true rfl)⟩) (PV (hP.sub (ws' := ([(a0, .inr (7, [.ref a1, g8, g9, g10, g11, g12, .ref a2, g13, .int x_x.1, .int x_x.2]))])) [2] rfl) (hK.sub (tys' := ([])) [] rfl) (hD.sub (ws' := ([(a0, .inr (7, [.ref a1, g8, g9, g10, g11, g12, .ref a2, g13, .int x_x.1, .int x_x.2]))])) [2] (by decide) rfl) hN 0 rfl rfl) rfl rfl hl.1 rfl (lv_room (Nat.le_of_ble_eq_true rfl)) dX10_darkSpots_5 ⟨(Nat.le_of_ble_eq_true rfl), (Nat.le_of_ble_eq_true rfl)⟩) hP hD hK hS hA [2] [0, 1, 3, 4, 5, 6, 7, 8, 9, 10, 11, 12] rfl rfl (by decide) (by decide) (fun r5 _ H locs hw hP hD _ hS => ?_)
  obtain ⟨hw, br5⟩ := hw
  obtain rfl := hw
  have hP : va_P (dC, dI) vwCl (bX0 a2 ud kd d_d (bX6 a1 up kp p_p ([(a0, .inr (7, [.ref a1, g8, g9, g10, g11, g12, .ref a2, g13, .int o5.2.1, .int o5.2.2]))]))) H := hP
  have hD : va_D A (bX0 a2 ud kd d_d (bX6 a1 up kp p_p ([(a0, .inr (7, [.ref a1, g8, g9, g10, g11, g12, .ref a2, g13, .int o5.2.1, .int o5.2.2]))]))) := hD
  refine lv_if_eq (tgt := 13) hx hb dX10_darkSpots_8 (by decide) (fun c8 => ?_) (fun c8 => ?_)
  · have h := (if_pos c8).symm.trans h
    refine lv_aload_n hx hb dX10_darkSpots_13 rfl (lv_at hl 0 rfl) ?_
    refine va_get (D := (dC, dI)) (ci := 7) (v := .ref a2) (C := RX10) (T := TX10) (N := 10) hx hb hts ifX10_darkSpots_X10 hown hK hP 12 rfl rfl 6 (by decide) (hts (.fieldLink RX10 50 "HookPier" "dark" "LHookPier$Dark;") (List.mem_of_getElem? (i := 8) rfl)) (fun _ h9 => h9) rfl dX10_darkSpots_14 ?_
    refine lv_aload_n hx hb dX10_darkSpots_17 rfl (lv_at hl 0 rfl) ?_
    refine va_get (D := (dC, dI)) (ci := 7) (v := .ref a1) (C := RX10) (T := TX10) (N := 10) hx hb hts ifX10_darkSpots_X10 hown hK hP 12 rfl rfl 0 (by decide) (hts (.fieldLink RX10 10 "HookPier" "plan" "LHookPier$Plan;") (List.mem_of_getElem? (i := 9) rfl)) (fun _ h9 => h9) rfl dX10_darkSpots_18 ?_
    obtain ⟨o21, eo21, h⟩ := bd_of h
    refine cl_v (wc := (bX0 a2 ud kd d_d (bX6 a1 up kp p_p []))) (wr := ([(a0, .inr (7, [.ref a1, g8, g9, g10, g11, g12, .ref a2, g13, .int o5.2.1, .int o5.2.2]))])) (va_runV (As := [.ref a1]) (rest := []) ⟨hx, hb, hml, hown, hts⟩ (kfX0_find l dC dI a2 a1 ud kd up kp d_d p_p H.size o21 eo21) (cwV 1 hts gfX10_darkSpots_2 rfl rfl rfl (by decide +kernel) ⟨(Nat.le_of_ble_eq_true rfl), (Nat.le_of_ble_eq_true rfl)⟩) (PV (hP.sub (ws' := (bX0 a2 ud kd d_d (bX6 a1 up kp p_p []))) [0, 1, 2, 3, 4, 5, 6, 7, 8, 9, 10, 11] rfl) (hK.sub (tys' := (tX0 kd (tX6 kp ([])))) [9, 0, 1, 2, 3, 4, 5, 6, 7, 8] rfl) (hD.sub (ws' := (bX0 a2 ud kd d_d (bX6 a1 up kp p_p []))) [0, 1, 2, 3, 4, 5, 6, 7, 8, 9, 10, 11] (by decide) rfl) hN 0 rfl rfl) rfl rfl hl.1 rfl (lv_room (Nat.le_of_ble_eq_true rfl)) dX10_darkSpots_21 ⟨(Nat.le_of_ble_eq_true rfl), (Nat.le_of_ble_eq_true rfl)⟩) hP hD hK hS hA [0, 1, 2, 3, 4, 5, 6, 7, 8, 9, 10, 11] [12] rfl rfl (by decide) (by decide) (fun _ H locs hw hP hD _ hS => ?_)
    have hP : va_P (dC, dI) vwCl ((a0, .inr (7, [.ref a1, g8, g9, g10, g11, g12, .ref a2, g13, .int o5.2.1, .int o5.2.2])) :: bX0 a2 ud kd o21 (bX6 a1 up kp p_p [])) H := hP
    have hD : va_D A ((a0, .inr (7, [.ref a1, g8, g9, g10, g11, g12, .ref a2, g13, .int o5.2.1, .int o5.2.2])) :: bX0 a2 ud kd o21 (bX6 a1 up kp p_p [])) := hD
    refine lv_iconst (v := 0) hx hb dX10_darkSpots_24 (by decide) ?_
    refine lv_istore_n (lv' := [(1, .int 0), (0, .ref a0)]) hx hb dX10_darkSpots_25 rfl hl (by decide) rfl (fun ls hl => ?_)
    refine lv_iconst (v := 0) hx hb dX10_darkSpots_26 (by decide) ?_
    refine lv_istore_n (lv' := [(2, .int 0), (1, .int 0), (0, .ref a0)]) hx hb dX10_darkSpots_27 rfl hl (by decide) rfl (fun ls hl => ?_)
    have L28 : ∀ (n28 : Nat) (v28_l2 : Int32) (v28_l1 : Int32) (H : Heap) (locs : List Loc) (ls : Array Slot), f_X10_darkSpots_L28 o21 o5 n28 v28_l2 v28_l1 = some out → va_P (dC, dI) vwCl ((a0, .inr (7, [.ref a1, g8, g9, g10, g11, g12, .ref a2, g13, .int o5.2.1, .int o5.2.2])) :: bX0 a2 ud kd o21 (bX6 a1 up kp p_p [])) H → va_D A ((a0, .inr (7, [.ref a1, g8, g9, g10, g11, g12, .ref a2, g13, .int o5.2.1, .int o5.2.2])) :: bX0 a2 ud kd o21 (bX6 a1 up kp p_p [])) → va_S A s.heap H locs → lv_has ls 3 [(2, .int v28_l2), (1, .int v28_l1), (0, .ref a0)] → W p l e (headSpec vfX10_darkSpots { frames := 4, cells := 0, slots := 0, locals := 88 }).room s m ([.ref a0]).toArray below meth c H locs 0 0 QQ (F0 m 28 ls []) := by
      intro n28
      induction n28 with
      | zero =>
        intro v28_l2 v28_l1 H locs ls h  _ _ _ _
        rw [f_X10_darkSpots_L28] at h
        cases h
      | succ n28 ih28 =>
        intro v28_l2 v28_l1 H locs ls h  hP hD hS hl
        rw [f_X10_darkSpots_L28] at h
        refine lv_iload_n hx hb dX10_darkSpots_28 rfl (lv_at hl 0 rfl) ?_
        refine lv_aload_n hx hb dX10_darkSpots_29 rfl (lv_at hl 2 rfl) ?_
        refine va_get (D := (dC, dI)) (ci := 7) (v := .ref a2) (C := RX10) (T := TX10) (N := 10) hx hb hts ifX10_darkSpots_X10 hown hK hP 0 rfl rfl 6 (by decide) (hts (.fieldLink RX10 50 "HookPier" "dark" "LHookPier$Dark;") (List.mem_of_getElem? (i := 8) rfl)) (fun _ h9 => h9) rfl dX10_darkSpots_30 ?_
        refine va_get (D := (dC, dI)) (ci := 0) (v := .int o21.2) (C := RX0) (T := TX0) (N := 2) hx hb hts ifX10_darkSpots_X0 hown hK hP 1 rfl rfl 1 (by decide) (hts (.fieldLink RX10 271 "HookPier$Dark" "many" "I") (List.mem_of_getElem? (i := 14) rfl)) (fun _ h9 => h9) rfl dX10_darkSpots_33 ?_
        refine lv_icmp_ge (tgt := 62) hx hb dX10_darkSpots_36 (by decide) (fun c36 => ?_) (fun c36 => ?_)
        · have h := (if_pos c36).symm.trans h
          refine lv_iload_n hx hb dX10_darkSpots_62 rfl (lv_at hl 1 rfl) ?_
          obtain rfl := Option.some.inj h
          have hP9 := hP.sub (ws' := ((a0, .inr (7, [.ref a1, g8, g9, g10, g11, g12, .ref a2, g13, .int o5.2.1, .int o5.2.2])) :: bX6 a1 up kp p_p (bX0 a2 ud kd o21 []))) [0, 3, 4, 5, 6, 7, 8, 9, 10, 11, 12, 1, 2] rfl
          have hD9 := hD.sub (ws' := ((a0, .inr (7, [.ref a1, g8, g9, g10, g11, g12, .ref a2, g13, .int o5.2.1, .int o5.2.2])) :: bX6 a1 up kp p_p (bX0 a2 ud kd o21 []))) [0, 3, 4, 5, 6, 7, 8, 9, 10, 11, 12, 1, 2] (by decide) rfl
          have hK9 := hK.sub (tys' := []) [] rfl
          rw [hQQ]
          exact W.iret (v := v28_l1) hx hb hr (fun t ht hW => ⟨⟨v28_l1, (), rfl, rfl, by rw [ht]; exact hP9, va_K.moved hW.alike hK9, hD9⟩, hS.F ht⟩) hS.2.2 dX10_darkSpots_63
        · have h := (if_neg c36).symm.trans h
          refine lv_iload_n hx hb dX10_darkSpots_39 rfl (lv_at hl 1 rfl) ?_
          refine lv_iconst (v := 1) hx hb dX10_darkSpots_40 (by decide) ?_
          refine lv_aload_n hx hb dX10_darkSpots_41 rfl (lv_at hl 2 rfl) ?_
          refine va_get (D := (dC, dI)) (ci := 7) (v := .ref a2) (C := RX10) (T := TX10) (N := 10) hx hb hts ifX10_darkSpots_X10 hown hK hP 0 rfl rfl 6 (by decide) (hts (.fieldLink RX10 50 "HookPier" "dark" "LHookPier$Dark;") (List.mem_of_getElem? (i := 8) rfl)) (fun _ h9 => h9) rfl dX10_darkSpots_42 ?_
          refine va_get (D := (dC, dI)) (ci := 0) (v := .ref (ud 0)) (C := RX0) (T := TX0) (N := 2) hx hb hts ifX10_darkSpots_X0 hown hK hP 1 rfl rfl 0 (by decide) (hts (.fieldLink RX10 274 "HookPier$Dark" "place" "[I") (List.mem_of_getElem? (i := 15) rfl)) (fun _ h9 => h9) rfl dX10_darkSpots_45 ?_
          refine lv_iload_n hx hb dX10_darkSpots_48 rfl (lv_at hl 0 rfl) ?_
          obtain ⟨hg49, h⟩ := gA_of h
          refine va_iald hx hb hK hP 2 9 rfl rfl hg49 dX10_darkSpots_49 ?_
          obtain ⟨o50, eo50⟩ : ∃ o, o = f_X10_spotOf (o21.1 (v28_l2).toNatClampNeg) := ⟨_, rfl⟩
          have h := nm_of h o50 eo50
          refine cl_i (wc := []) (wr := ((a0, .inr (7, [.ref a1, g8, g9, g10, g11, g12, .ref a2, g13, .int o5.2.1, .int o5.2.2])) :: bX0 a2 ud kd o21 (bX6 a1 up kp p_p []))) (va_runS (As := [.int (o21.1 (v28_l2).toNatClampNeg)]) (rest := [.int 1, .int v28_l1]) ⟨hx, hb, hml, hown, hts⟩ (kfX10_spotOf l dC dI (o21.1 (v28_l2).toNatClampNeg) H.size o50 eo50.symm) (va_cwS 1 hts gfX10_darkSpots_3 rfl rfl rfl (by decide +kernel) ⟨(Nat.le_of_ble_eq_true rfl), (Nat.le_of_ble_eq_true rfl)⟩) (PS (hP.sub (ws' := []) [] rfl) (hK.sub (tys' := ([])) [] rfl) (hD.sub (ws' := []) [] (by decide) rfl) hN) rfl rfl hl.1 rfl (lv_room (Nat.le_of_ble_eq_true rfl)) dX10_darkSpots_50 ⟨(Nat.le_of_ble_eq_true rfl), (Nat.le_of_ble_eq_true rfl)⟩) hP hD hK hS hA [] [0, 1, 2, 3, 4, 5, 6, 7, 8, 9, 10, 11, 12] rfl rfl (by decide) (by decide) (fun r50 _ H locs hw hP hD _ hS => ?_)
          obtain rfl := hw.symm
          have hP : va_P (dC, dI) vwCl ((a0, .inr (7, [.ref a1, g8, g9, g10, g11, g12, .ref a2, g13, .int o5.2.1, .int o5.2.2])) :: bX0 a2 ud kd o21 (bX6 a1 up kp p_p [])) H := hP
          have hD : va_D A ((a0, .inr (7, [.ref a1, g8, g9, g10, g11, g12, .ref a2, g13, .int o5.2.1, .int o5.2.2])) :: bX0 a2 ud kd o21 (bX6 a1 up kp p_p [])) := hD
          refine lv_ishl hx hb dX10_darkSpots_53 ?_
          refine lv_ior hx hb dX10_darkSpots_54 ?_
          refine lv_istore_n (lv' := [(1, .int (v28_l1 ||| ((1 : Int32) <<< (o50 &&& 31)))), (2, .int v28_l2), (0, .ref a0)]) hx hb dX10_darkSpots_55 rfl hl (by decide) rfl (fun ls hl => ?_)
          refine lv_iinc (v := (v28_l2 + (1 : Int32))) (lv' := [(2, .int (v28_l2 + (1 : Int32))), (1, .int (v28_l1 ||| ((1 : Int32) <<< (o50 &&& 31)))), (0, .ref a0)]) hx hb dX10_darkSpots_56 hl (k := 1) rfl rfl (by decide) rfl (fun ls hl => ?_)
          refine lv_goto (tgt := 28) hx hb dX10_darkSpots_59 (by decide) ?_
          exact ih28 (v28_l2 + (1 : Int32)) (v28_l1 ||| ((1 : Int32) <<< (o50 &&& 31))) H _ ls h  hP hD hS (lv_sub hl [0, 1, 2] rfl)
    exact L28 FU (0 : Int32) (0 : Int32) H _ ls h  hP hD hS (lv_sub hl [0, 1, 2] rfl)
  · have h := (if_neg c8).symm.trans h
    refine lv_iconst (v := (-1)) hx hb dX10_darkSpots_11 (by decide) ?_
    obtain rfl := Option.some.inj h
    have hP9 := hP.sub (ws' := ((a0, .inr (7, [.ref a1, g8, g9, g10, g11, g12, .ref a2, g13, .int o5.2.1, .int o5.2.2])) :: bX6 a1 up kp p_p (bX0 a2 ud kd d_d []))) [12, 2, 3, 4, 5, 6, 7, 8, 9, 10, 11, 0, 1] rfl
    have hD9 := hD.sub (ws' := ((a0, .inr (7, [.ref a1, g8, g9, g10, g11, g12, .ref a2, g13, .int o5.2.1, .int o5.2.2])) :: bX6 a1 up kp p_p (bX0 a2 ud kd d_d []))) [12, 2, 3, 4, 5, 6, 7, 8, 9, 10, 11, 0, 1] (by decide) rfl
    have hK9 := hK.sub (tys' := []) [] rfl
    rw [hQQ]
    exact W.iret (v := (-1 : Int32)) hx hb hr (fun t ht hW => ⟨⟨(-1 : Int32), (), rfl, rfl, by rw [ht]; exact hP9, va_K.moved hW.alike hK9, hD9⟩, hS.F ht⟩) hS.2.2 dX10_darkSpots_12
theorem dX0_leftAtMost_0 : decode cX0_leftAtMost 0 = .ok (.iconst 0, 1) := by decide +kernel
theorem dX0_leftAtMost_1 : decode cX0_leftAtMost 1 = .ok (.istore_n 3, 1) := by decide +kernel
theorem dX0_leftAtMost_11 : decode cX0_leftAtMost 11 = .ok (.if_icmp .ge 30, 3) := by decide +kernel
theorem dX0_leftAtMost_14 : decode cX0_leftAtMost 14 = .ok (.aload_n 1, 1) := by decide +kernel
theorem dX0_leftAtMost_15 : decode cX0_leftAtMost 15 = .ok (.getfield 37, 3) := by decide +kernel
theorem dX0_leftAtMost_18 : decode cX0_leftAtMost 18 = .ok (.aload_n 0, 1) := by decide +kernel
theorem dX0_leftAtMost_19 : decode cX0_leftAtMost 19 = .ok (.getfield 11, 3) := by decide +kernel
theorem dX0_leftAtMost_2 : decode cX0_leftAtMost 2 = .ok (.iconst 0, 1) := by decide +kernel
theorem dX0_leftAtMost_22 : decode cX0_leftAtMost 22 = .ok (.iload 4, 2) := by decide +kernel
theorem dX0_leftAtMost_24 : decode cX0_leftAtMost 24 = .ok (.iaload, 1) := by decide +kernel
theorem dX0_leftAtMost_25 : decode cX0_leftAtMost 25 = .ok (.iload_n 2, 1) := by decide +kernel
theorem dX0_leftAtMost_26 : decode cX0_leftAtMost 26 = .ok (.invokestatic 40, 3) := by decide +kernel
theorem dX0_leftAtMost_29 : decode cX0_leftAtMost 29 = .ok (.ifCond .eq 6, 3) := by decide +kernel
theorem dX0_leftAtMost_3 : decode cX0_leftAtMost 3 = .ok (.istore 4, 2) := by decide +kernel
theorem dX0_leftAtMost_32 : decode cX0_leftAtMost 32 = .ok (.iinc 3 1, 3) := by decide +kernel
theorem dX0_leftAtMost_35 : decode cX0_leftAtMost 35 = .ok (.iinc 4 1, 3) := by decide +kernel
theorem dX0_leftAtMost_38 : decode cX0_leftAtMost 38 = .ok (.goto (-33), 3) := by decide +kernel
theorem dX0_leftAtMost_41 : decode cX0_leftAtMost 41 = .ok (.iload_n 3, 1) := by decide +kernel
theorem dX0_leftAtMost_42 : decode cX0_leftAtMost 42 = .ok (.aload_n 0, 1) := by decide +kernel
theorem dX0_leftAtMost_43 : decode cX0_leftAtMost 43 = .ok (.getfield 15, 3) := by decide +kernel
theorem dX0_leftAtMost_46 : decode cX0_leftAtMost 46 = .ok (.iload_n 3, 1) := by decide +kernel
theorem dX0_leftAtMost_47 : decode cX0_leftAtMost 47 = .ok (.isub, 1) := by decide +kernel
theorem dX0_leftAtMost_48 : decode cX0_leftAtMost 48 = .ok (.invokestatic 44, 3) := by decide +kernel
theorem dX0_leftAtMost_5 : decode cX0_leftAtMost 5 = .ok (.iload 4, 2) := by decide +kernel
theorem dX0_leftAtMost_51 : decode cX0_leftAtMost 51 = .ok (.ireturn, 1) := by decide +kernel
theorem dX0_leftAtMost_7 : decode cX0_leftAtMost 7 = .ok (.aload_n 0, 1) := by decide +kernel
theorem dX0_leftAtMost_8 : decode cX0_leftAtMost 8 = .ok (.getfield 15, 3) := by decide +kernel
def vfX0_leftAtMost : List Cond := List.cons (.code yX0_leftAtMost cX0_leftAtMost 5 (some .int)) (apW [.fieldLink RX0 15 "HookPier$Dark" "many" "I", .methodLink RX0 44 Lib.Math.max.name, .static Lib.Math.max.name, .initialized "java/lang/Math", .code Lib.Math.max.name Lib.Math.max.code 2 (some .int), .fieldLink RX0 37 "HookPier$Plan" "darkHunger" "I", .fieldLink RX0 11 "HookPier$Dark" "place" "[I", .methodLink RX0 40 yX0_wouldBite, .static yX0_wouldBite, .initialized RX0] (apW wsX00 (apW wsX60 (vfX0_wouldBite))))
theorem ifX0_leftAtMost_X0 : ∀ w ∈ wsX00, w ∈ vfX0_leftAtMost := fun _ h => (List.mem_cons_of_mem _ (List.mem_append_right _ (List.mem_append_left _ h)))
theorem ifX0_leftAtMost_X6 : ∀ w ∈ wsX60, w ∈ vfX0_leftAtMost := fun _ h => (List.mem_cons_of_mem _ (List.mem_append_right _ (List.mem_append_right _ (List.mem_append_left _ h))))
theorem qfX0_leftAtMost : Good vfX0_leftAtMost := gd_cons (by decide +kernel) (gd_app (gd_dec (by decide +kernel) : Good [.fieldLink RX0 15 "HookPier$Dark" "many" "I", .methodLink RX0 44 Lib.Math.max.name, .static Lib.Math.max.name, .initialized "java/lang/Math", .code Lib.Math.max.name Lib.Math.max.code 2 (some .int), .fieldLink RX0 37 "HookPier$Plan" "darkHunger" "I", .fieldLink RX0 11 "HookPier$Dark" "place" "[I", .methodLink RX0 40 yX0_wouldBite, .static yX0_wouldBite, .initialized RX0]) (gd_app qsX0 (gd_app qsX6 qfX0_wouldBite)))
theorem gfX0_leftAtMost_0 : GoodIn vfX0_leftAtMost (va_wsS RX0 40 yX0_wouldBite vfX0_wouldBite) := goodIn_app (goodIn_r [.methodLink RX0 40 yX0_wouldBite, .static yX0_wouldBite, .initialized RX0] [8, 9, 10] rfl (by decide +kernel)) (goodIn_m (fun _ h => (List.mem_cons_of_mem _ (List.mem_append_right _ (List.mem_append_right _ (List.mem_append_right _ h))))) qfX0_wouldBite)
set_option maxHeartbeats 2000000 in
set_option maxRecDepth 100000 in
theorem kfX0_leftAtMost (l : Launch) (dC : Nat → ClassId) (dI : Nat → Nat → Nat) (a0 : Nat) (a1 : Nat) (k2 : Int32) (ud : Nat → Nat) (kd : Nat → ClassId) (up : Nat → Nat) (kp : Nat → ClassId) (d_d : TX0_d) (p_p : TX6_p) (sz : Nat) (out : Int32) (h : f_X0_leftAtMost k2 d_d p_p = some out) : Met l yX0_leftAtMost vfX0_leftAtMost ({ frames := 2, cells := 0, slots := 0, locals := 44 }) (PC (dC, dI) [.ref a0, .ref a1, .int k2] sz (bX0 a0 ud kd d_d (bX6 a1 up kp p_p [])) (tX0 kd (tX6 kp ([])))) (va_Qi (S := Unit) (fun (r : Int32) _ => r = out) (fun _ t => BC (dC, dI) (va_A (bX0 a0 ud kd d_d (bX6 a1 up kp p_p [])) sz) (bX0 a0 ud kd d_d (bX6 a1 up kp p_p [])) [] t) (va_A (bX0 a0 ud kd d_d (bX6 a1 up kp p_p [])) sz)) 0 0 (va_A (bX0 a0 ud kd d_d (bX6 a1 up kp p_p [])) sz) := by
  refine Met.ofW (cc := cX0_leftAtMost) (maxL := 5) (ret := (some .int)) (by decide) rfl ?_
  intro p e s m args below meth c s₁ B0 hml hv
  obtain ⟨rfl, hsz, hP, hK, hD0, hN⟩ := hv
  have hx := B0.exec
  have hb := B0.bytes
  have hr := B0.returns
  have hts := atoms_spec (ws := vfX0_leftAtMost) B0.pre
  have hown : s.vm.findClass RX0 = some m.cls := findClass_of_methodNamed B0.named
  have hlocks := B0.notSynchronized
  subst hsz
  have hD := hD0.self (sz := s.heap.size)
  generalize hAe : va_A (bX0 a0 ud kd d_d (bX6 a1 up kp p_p [])) s.heap.size = A at hD ⊢
  have hA : ∀ q : Nat, s.heap.size ≤ q → A q := fun q h => by rw [← hAe]; exact Or.inr h
  have hS : va_S A s.heap s.heap [] := va_S.rf
  have hP : va_P (dC, dI) vwCl (bX0 a0 ud kd d_d (bX6 a1 up kp p_p [])) s.heap := hP
  have hl := lv_entry ([.ref a0, .ref a1, .int k2]) (n := 5) (Nat.le_of_ble_eq_true rfl)
  rw [lg_entry_eq]
  generalize (lg_sl ([.ref a0, .ref a1, .int k2]) ++ List.replicate (5 - (lg_sl ([.ref a0, .ref a1, .int k2])).length) Slot.unset).toArray = ls at hl ⊢
  have hl : lv_has ls 5 [(0, .ref a0), (1, .ref a1), (2, .int k2)] := hl
  refine W_q (fun QQ hQQ => ?_)
  rw [f_X0_leftAtMost] at h
  refine lv_iconst (v := 0) hx hb dX0_leftAtMost_0 (by decide) ?_
  refine lv_istore_n (lv' := [(3, .int 0), (0, .ref a0), (1, .ref a1), (2, .int k2)]) hx hb dX0_leftAtMost_1 rfl hl (by decide) rfl (fun ls hl => ?_)
  refine lv_iconst (v := 0) hx hb dX0_leftAtMost_2 (by decide) ?_
  refine lv_istore (lv' := [(4, .int 0), (3, .int 0), (0, .ref a0), (1, .ref a1), (2, .int k2)]) hx hb dX0_leftAtMost_3 hl (by decide) rfl (fun ls hl => ?_)
  have L5 : ∀ (n5 : Nat) (v5_l4 : Int32) (v5_l3 : Int32) (H : Heap) (locs : List Loc) (ls : Array Slot), f_X0_leftAtMost_L5 k2 d_d p_p n5 v5_l4 v5_l3 = some out → va_P (dC, dI) vwCl (bX0 a0 ud kd d_d (bX6 a1 up kp p_p [])) H → va_D A (bX0 a0 ud kd d_d (bX6 a1 up kp p_p [])) → va_S A s.heap H locs → lv_has ls 5 [(4, .int v5_l4), (3, .int v5_l3), (0, .ref a0), (1, .ref a1), (2, .int k2)] → W p l e (headSpec vfX0_leftAtMost { frames := 2, cells := 0, slots := 0, locals := 44 }).room s m ([.ref a0, .ref a1, .int k2]).toArray below meth c H locs 0 0 QQ (F0 m 5 ls []) := by
    intro n5
    induction n5 with
    | zero =>
      intro v5_l4 v5_l3 H locs ls h  _ _ _ _
      rw [f_X0_leftAtMost_L5] at h
      cases h
    | succ n5 ih5 =>
      intro v5_l4 v5_l3 H locs ls h  hP hD hS hl
      rw [f_X0_leftAtMost_L5] at h
      refine lv_iload hx hb dX0_leftAtMost_5 (lv_at hl 0 rfl) ?_
      refine lv_aload_n hx hb dX0_leftAtMost_7 rfl (lv_at hl 2 rfl) ?_
      refine va_get (D := (dC, dI)) (ci := 0) (v := .int d_d.2) (C := RX0) (T := TX0) (N := 2) hx hb hts ifX0_leftAtMost_X0 hown hK hP 0 rfl rfl 1 (by decide) (hts (.fieldLink RX0 15 "HookPier$Dark" "many" "I") (List.mem_of_getElem? (i := 1) rfl)) (fun _ h9 => h9) rfl dX0_leftAtMost_8 ?_
      refine lv_icmp_ge (tgt := 41) hx hb dX0_leftAtMost_11 (by decide) (fun c11 => ?_) (fun c11 => ?_)
      · have h := (if_pos c11).symm.trans h
        refine lv_iload_n hx hb dX0_leftAtMost_41 rfl (lv_at hl 1 rfl) ?_
        refine lv_aload_n hx hb dX0_leftAtMost_42 rfl (lv_at hl 2 rfl) ?_
        refine va_get (D := (dC, dI)) (ci := 0) (v := .int d_d.2) (C := RX0) (T := TX0) (N := 2) hx hb hts ifX0_leftAtMost_X0 hown hK hP 0 rfl rfl 1 (by decide) (hts (.fieldLink RX0 15 "HookPier$Dark" "many" "I") (List.mem_of_getElem? (i := 1) rfl)) (fun _ h9 => h9) rfl dX0_leftAtMost_43 ?_
        refine lv_iload_n hx hb dX0_leftAtMost_46 rfl (lv_at hl 1 rfl) ?_
        refine lv_isub hx hb dX0_leftAtMost_47 ?_
        refine va_mmax hx hb (by rw [hml]; exact hl.1.symm) hown (hts (.methodLink RX0 44 Lib.Math.max.name) (List.mem_of_getElem? (i := 2) rfl)) (hts (.static Lib.Math.max.name) (List.mem_of_getElem? (i := 3) rfl)) (hts (.initialized "java/lang/Math") (List.mem_of_getElem? (i := 4) rfl)) (hts (.code Lib.Math.max.name Lib.Math.max.code 2 (some .int)) (List.mem_of_getElem? (i := 5) rfl)) (Nat.le_of_ble_eq_true rfl) (Nat.le_of_ble_eq_true rfl) (Nat.le_of_ble_eq_true rfl) (Nat.le_of_ble_eq_true rfl) dX0_leftAtMost_48 ?_
        refine lv_topi (fun z48 ez48 => ?_)
        have h := nm_of h z48 ez48
        obtain rfl := Option.some.inj h
        have hP9 := hP.sub (ws' := (bX0 a0 ud kd d_d (bX6 a1 up kp p_p []))) [0, 1, 2, 3, 4, 5, 6, 7, 8, 9, 10, 11] rfl
        have hD9 := hD.sub (ws' := (bX0 a0 ud kd d_d (bX6 a1 up kp p_p []))) [0, 1, 2, 3, 4, 5, 6, 7, 8, 9, 10, 11] (by decide) rfl
        have hK9 := hK.sub (tys' := []) [] rfl
        rw [hQQ]
        exact W.iret (v := z48) hx hb hr (fun t ht hW => ⟨⟨z48, (), rfl, rfl, by rw [ht]; exact hP9, va_K.moved hW.alike hK9, hD9⟩, hS.F ht⟩) hS.2.2 dX0_leftAtMost_51
      · have h := (if_neg c11).symm.trans h
        refine lv_aload_n hx hb dX0_leftAtMost_14 rfl (lv_at hl 3 rfl) ?_
        refine va_get (D := (dC, dI)) (ci := 4) (v := .int p_p.2.2.2.2.2.2.2.2.1) (C := RX6) (T := TX6) (N := 18) hx hb hts ifX0_leftAtMost_X6 hown hK hP 2 rfl rfl 8 (by decide) (hts (.fieldLink RX0 37 "HookPier$Plan" "darkHunger" "I") (List.mem_of_getElem? (i := 6) rfl)) (fun _ h9 => h9) rfl dX0_leftAtMost_15 ?_
        refine lv_aload_n hx hb dX0_leftAtMost_18 rfl (lv_at hl 2 rfl) ?_
        refine va_get (D := (dC, dI)) (ci := 0) (v := .ref (ud 0)) (C := RX0) (T := TX0) (N := 2) hx hb hts ifX0_leftAtMost_X0 hown hK hP 0 rfl rfl 0 (by decide) (hts (.fieldLink RX0 11 "HookPier$Dark" "place" "[I") (List.mem_of_getElem? (i := 7) rfl)) (fun _ h9 => h9) rfl dX0_leftAtMost_19 ?_
        refine lv_iload hx hb dX0_leftAtMost_22 (lv_at hl 0 rfl) ?_
        obtain ⟨hg24, h⟩ := gA_of h
        refine va_iald hx hb hK hP 1 0 rfl rfl hg24 dX0_leftAtMost_24 ?_
        refine lv_iload_n hx hb dX0_leftAtMost_25 rfl (lv_at hl 4 rfl) ?_
        obtain ⟨o26, eo26⟩ : ∃ o, o = f_X0_wouldBite p_p.2.2.2.2.2.2.2.2.1 (d_d.1 (v5_l4).toNatClampNeg) k2 := ⟨_, rfl⟩
        have h := nm_of h o26 eo26
        refine cl_i (wc := []) (wr := (bX0 a0 ud kd d_d (bX6 a1 up kp p_p []))) (va_runS (As := [.int p_p.2.2.2.2.2.2.2.2.1, .int (d_d.1 (v5_l4).toNatClampNeg), .int k2]) (rest := []) ⟨hx, hb, hml, hown, hts⟩ (kfX0_wouldBite l dC dI p_p.2.2.2.2.2.2.2.2.1 (d_d.1 (v5_l4).toNatClampNeg) k2 H.size o26 eo26.symm) (va_cwS 3 hts gfX0_leftAtMost_0 rfl rfl rfl (by decide +kernel) ⟨(Nat.le_of_ble_eq_true rfl), (Nat.le_of_ble_eq_true rfl)⟩) (PS (hP.sub (ws' := []) [] rfl) (hK.sub (tys' := ([])) [] rfl) (hD.sub (ws' := []) [] (by decide) rfl) hN) rfl rfl hl.1 rfl (lv_room (Nat.le_of_ble_eq_true rfl)) dX0_leftAtMost_26 ⟨(Nat.le_of_ble_eq_true rfl), (Nat.le_of_ble_eq_true rfl)⟩) hP hD hK hS hA [] [0, 1, 2, 3, 4, 5, 6, 7, 8, 9, 10, 11] rfl rfl (by decide) (by decide) (fun r26 _ H locs hw hP hD _ hS => ?_)
        obtain ⟨hw, br26⟩ := hw
        obtain rfl := hw.symm
        have hP : va_P (dC, dI) vwCl (bX0 a0 ud kd d_d (bX6 a1 up kp p_p [])) H := hP
        have hD : va_D A (bX0 a0 ud kd d_d (bX6 a1 up kp p_p [])) := hD
        have J35 : ∀ (v35_l3 : Int32) (H : Heap) (locs : List Loc) (ls : Array Slot), f_X0_leftAtMost_J35 (f_X0_leftAtMost_L5 k2 d_d p_p n5) v5_l4 v35_l3 = some out → va_P (dC, dI) vwCl (bX0 a0 ud kd d_d (bX6 a1 up kp p_p [])) H → va_D A (bX0 a0 ud kd d_d (bX6 a1 up kp p_p [])) → va_S A s.heap H locs → lv_has ls 5 [(4, .int v5_l4), (3, .int v35_l3), (0, .ref a0), (1, .ref a1), (2, .int k2)] → W p l e (headSpec vfX0_leftAtMost { frames := 2, cells := 0, slots := 0, locals := 44 }).room s m ([.ref a0, .ref a1, .int k2]).toArray below meth c H locs 0 0 QQ (F0 m 35 ls []) := by
          intro v35_l3 H locs ls h  hP hD hS hl
          rw [f_X0_leftAtMost_J35] at h
          refine lv_iinc (v := (v5_l4 + (1 : Int32))) (lv' := [(4, .int (v5_l4 + (1 : Int32))), (3, .int v35_l3), (0, .ref a0), (1, .ref a1), (2, .int k2)]) hx hb dX0_leftAtMost_35 hl (k := 0) rfl rfl (by decide) rfl (fun ls hl => ?_)
          refine lv_goto (tgt := 5) hx hb dX0_leftAtMost_38 (by decide) ?_
          exact ih5 (v5_l4 + (1 : Int32)) v35_l3 H _ ls h  hP hD hS (lv_sub hl [0, 1, 2, 3, 4] rfl)
        refine lv_if_eq (tgt := 35) hx hb dX0_leftAtMost_29 (by decide) (fun c29 => ?_) (fun c29 => ?_)
        · have h := (if_pos c29).symm.trans h
          exact J35 v5_l3 H _ ls h  hP hD hS (lv_sub hl [0, 1, 2, 3, 4] rfl)
        · have h := (if_neg c29).symm.trans h
          refine lv_iinc (v := (v5_l3 + (1 : Int32))) (lv' := [(3, .int (v5_l3 + (1 : Int32))), (4, .int v5_l4), (0, .ref a0), (1, .ref a1), (2, .int k2)]) hx hb dX0_leftAtMost_32 hl (k := 1) rfl rfl (by decide) rfl (fun ls hl => ?_)
          exact J35 (v5_l3 + (1 : Int32)) H _ ls h  hP hD hS (lv_sub hl [1, 0, 2, 3, 4] rfl)
  exact L5 FU (0 : Int32) (0 : Int32) s.heap _ ls h  hP hD hS (lv_sub hl [0, 1, 2, 3, 4] rfl)
theorem dX0_tellingQuestion_0 : decode cX0_tellingQuestion 0 = .ok (.bipush (-2), 2) := by decide +kernel
theorem dX0_tellingQuestion_11 : decode cX0_tellingQuestion 11 = .ok (.iload 4, 2) := by decide +kernel
theorem dX0_tellingQuestion_13 : decode cX0_tellingQuestion 13 = .ok (.aload_n 1, 1) := by decide +kernel
theorem dX0_tellingQuestion_14 : decode cX0_tellingQuestion 14 = .ok (.invokevirtual 19, 3) := by decide +kernel
theorem dX0_tellingQuestion_17 : decode cX0_tellingQuestion 17 = .ok (.if_icmp .ge 52, 3) := by decide +kernel
theorem dX0_tellingQuestion_2 : decode cX0_tellingQuestion 2 = .ok (.istore_n 2, 1) := by decide +kernel
theorem dX0_tellingQuestion_20 : decode cX0_tellingQuestion 20 = .ok (.aload_n 0, 1) := by decide +kernel
theorem dX0_tellingQuestion_21 : decode cX0_tellingQuestion 21 = .ok (.getfield 15, 3) := by decide +kernel
theorem dX0_tellingQuestion_24 : decode cX0_tellingQuestion 24 = .ok (.ifCond .le 45, 3) := by decide +kernel
theorem dX0_tellingQuestion_27 : decode cX0_tellingQuestion 27 = .ok (.aload_n 1, 1) := by decide +kernel
theorem dX0_tellingQuestion_28 : decode cX0_tellingQuestion 28 = .ok (.iload 4, 2) := by decide +kernel
theorem dX0_tellingQuestion_3 : decode cX0_tellingQuestion 3 = .ok (.aload_n 0, 1) := by decide +kernel
theorem dX0_tellingQuestion_30 : decode cX0_tellingQuestion 30 = .ok (.invokevirtual 25, 3) := by decide +kernel
theorem dX0_tellingQuestion_33 : decode cX0_tellingQuestion 33 = .ok (.ifCond .eq 30, 3) := by decide +kernel
theorem dX0_tellingQuestion_36 : decode cX0_tellingQuestion 36 = .ok (.aload_n 0, 1) := by decide +kernel
theorem dX0_tellingQuestion_37 : decode cX0_tellingQuestion 37 = .ok (.aload_n 1, 1) := by decide +kernel
theorem dX0_tellingQuestion_38 : decode cX0_tellingQuestion 38 = .ok (.iload 4, 2) := by decide +kernel
theorem dX0_tellingQuestion_4 : decode cX0_tellingQuestion 4 = .ok (.getfield 15, 3) := by decide +kernel
theorem dX0_tellingQuestion_40 : decode cX0_tellingQuestion 40 = .ok (.invokevirtual 33, 3) := by decide +kernel
theorem dX0_tellingQuestion_43 : decode cX0_tellingQuestion 43 = .ok (.istore 5, 2) := by decide +kernel
theorem dX0_tellingQuestion_45 : decode cX0_tellingQuestion 45 = .ok (.iload_n 2, 1) := by decide +kernel
theorem dX0_tellingQuestion_46 : decode cX0_tellingQuestion 46 = .ok (.bipush (-2), 2) := by decide +kernel
theorem dX0_tellingQuestion_48 : decode cX0_tellingQuestion 48 = .ok (.if_icmp .eq 9, 3) := by decide +kernel
theorem dX0_tellingQuestion_51 : decode cX0_tellingQuestion 51 = .ok (.iload 5, 2) := by decide +kernel
theorem dX0_tellingQuestion_53 : decode cX0_tellingQuestion 53 = .ok (.iload_n 3, 1) := by decide +kernel
theorem dX0_tellingQuestion_54 : decode cX0_tellingQuestion 54 = .ok (.if_icmp .ge 9, 3) := by decide +kernel
theorem dX0_tellingQuestion_57 : decode cX0_tellingQuestion 57 = .ok (.iload 5, 2) := by decide +kernel
theorem dX0_tellingQuestion_59 : decode cX0_tellingQuestion 59 = .ok (.istore_n 3, 1) := by decide +kernel
theorem dX0_tellingQuestion_60 : decode cX0_tellingQuestion 60 = .ok (.iload 4, 2) := by decide +kernel
theorem dX0_tellingQuestion_62 : decode cX0_tellingQuestion 62 = .ok (.istore_n 2, 1) := by decide +kernel
theorem dX0_tellingQuestion_63 : decode cX0_tellingQuestion 63 = .ok (.iinc 4 1, 3) := by decide +kernel
theorem dX0_tellingQuestion_66 : decode cX0_tellingQuestion 66 = .ok (.goto (-55), 3) := by decide +kernel
theorem dX0_tellingQuestion_69 : decode cX0_tellingQuestion 69 = .ok (.iload_n 2, 1) := by decide +kernel
theorem dX0_tellingQuestion_7 : decode cX0_tellingQuestion 7 = .ok (.istore_n 3, 1) := by decide +kernel
theorem dX0_tellingQuestion_70 : decode cX0_tellingQuestion 70 = .ok (.ireturn, 1) := by decide +kernel
theorem dX0_tellingQuestion_8 : decode cX0_tellingQuestion 8 = .ok (.iconst 0, 1) := by decide +kernel
theorem dX0_tellingQuestion_9 : decode cX0_tellingQuestion 9 = .ok (.istore 4, 2) := by decide +kernel
def vfX0_tellingQuestion : List Cond := List.cons (.code yX0_tellingQuestion cX0_tellingQuestion 6 (some .int)) (apW [.fieldLink RX0 15 "HookPier$Dark" "many" "I", .methodLink RX0 19 yX6_questionBound, .instanceMethod yX6_questionBound, .selects RX6 yX6_questionBound yX6_questionBound, .initialized RX6, .methodLink RX0 25 yX6_hasQuestion, .instanceMethod yX6_hasQuestion, .selects RX6 yX6_hasQuestion yX6_hasQuestion, .methodLink RX0 33 yX0_leftAtMost, .instanceMethod yX0_leftAtMost, .selects RX0 yX0_leftAtMost yX0_leftAtMost, .initialized RX0] (apW wsX00 (apW vfX6_questionBound (apW vfX6_hasQuestion (vfX0_leftAtMost)))))
theorem ifX0_tellingQuestion_X0 : ∀ w ∈ wsX00, w ∈ vfX0_tellingQuestion := fun _ h => (List.mem_cons_of_mem _ (List.mem_append_right _ (List.mem_append_left _ h)))
theorem qfX0_tellingQuestion : Good vfX0_tellingQuestion := gd_cons (by decide +kernel) (gd_app (gd_dec (by decide +kernel) : Good [.fieldLink RX0 15 "HookPier$Dark" "many" "I", .methodLink RX0 19 yX6_questionBound, .instanceMethod yX6_questionBound, .selects RX6 yX6_questionBound yX6_questionBound, .initialized RX6, .methodLink RX0 25 yX6_hasQuestion, .instanceMethod yX6_hasQuestion, .selects RX6 yX6_hasQuestion yX6_hasQuestion, .methodLink RX0 33 yX0_leftAtMost, .instanceMethod yX0_leftAtMost, .selects RX0 yX0_leftAtMost yX0_leftAtMost, .initialized RX0]) (gd_app qsX0 (gd_app qfX6_questionBound (gd_app qfX6_hasQuestion qfX0_leftAtMost))))
theorem gfX0_tellingQuestion_0 : GoodIn vfX0_tellingQuestion (wsV RX0 19 RX6 yX6_questionBound vfX6_questionBound) := goodIn_app (goodIn_r [.methodLink RX0 19 yX6_questionBound, .instanceMethod yX6_questionBound, .selects RX6 yX6_questionBound yX6_questionBound, .initialized RX6] [2, 3, 4, 5] rfl (by decide +kernel)) (goodIn_m (fun _ h => (List.mem_cons_of_mem _ (List.mem_append_right _ (List.mem_append_right _ (List.mem_append_left _ h))))) qfX6_questionBound)
theorem gfX0_tellingQuestion_1 : GoodIn vfX0_tellingQuestion (wsV RX0 25 RX6 yX6_hasQuestion vfX6_hasQuestion) := goodIn_app (goodIn_r [.methodLink RX0 25 yX6_hasQuestion, .instanceMethod yX6_hasQuestion, .selects RX6 yX6_hasQuestion yX6_hasQuestion, .initialized RX6] [6, 7, 8, 5] rfl (by decide +kernel)) (goodIn_m (fun _ h => (List.mem_cons_of_mem _ (List.mem_append_right _ (List.mem_append_right _ (List.mem_append_right _ (List.mem_append_left _ h)))))) qfX6_hasQuestion)
theorem gfX0_tellingQuestion_2 : GoodIn vfX0_tellingQuestion (wsV RX0 33 RX0 yX0_leftAtMost vfX0_leftAtMost) := goodIn_app (goodIn_r [.methodLink RX0 33 yX0_leftAtMost, .instanceMethod yX0_leftAtMost, .selects RX0 yX0_leftAtMost yX0_leftAtMost, .initialized RX0] [9, 10, 11, 12] rfl (by decide +kernel)) (goodIn_m (fun _ h => (List.mem_cons_of_mem _ (List.mem_append_right _ (List.mem_append_right _ (List.mem_append_right _ (List.mem_append_right _ h)))))) qfX0_leftAtMost)
set_option maxHeartbeats 2000000 in
set_option maxRecDepth 100000 in
theorem kfX0_tellingQuestion (l : Launch) (dC : Nat → ClassId) (dI : Nat → Nat → Nat) (a0 : Nat) (a1 : Nat) (ud : Nat → Nat) (kd : Nat → ClassId) (up : Nat → Nat) (kp : Nat → ClassId) (d_d : TX0_d) (p_p : TX6_p) (sz : Nat) (out : Int32) (h : f_X0_tellingQuestion d_d p_p = some out) : Met l yX0_tellingQuestion vfX0_tellingQuestion ({ frames := 3, cells := 0, slots := 0, locals := 68 }) (PC (dC, dI) [.ref a0, .ref a1] sz (bX0 a0 ud kd d_d (bX6 a1 up kp p_p [])) (tX0 kd (tX6 kp ([])))) (va_Qi (S := Unit) (fun (r : Int32) _ => r = out) (fun _ t => BC (dC, dI) (va_A (bX0 a0 ud kd d_d (bX6 a1 up kp p_p [])) sz) (bX0 a0 ud kd d_d (bX6 a1 up kp p_p [])) [] t) (va_A (bX0 a0 ud kd d_d (bX6 a1 up kp p_p [])) sz)) 0 0 (va_A (bX0 a0 ud kd d_d (bX6 a1 up kp p_p [])) sz) := by
  refine Met.ofW (cc := cX0_tellingQuestion) (maxL := 6) (ret := (some .int)) (by decide) rfl ?_
  intro p e s m args below meth c s₁ B0 hml hv
  obtain ⟨rfl, hsz, hP, hK, hD0, hN⟩ := hv
  have hx := B0.exec
  have hb := B0.bytes
  have hr := B0.returns
  have hts := atoms_spec (ws := vfX0_tellingQuestion) B0.pre
  have hown : s.vm.findClass RX0 = some m.cls := findClass_of_methodNamed B0.named
  have hlocks := B0.notSynchronized
  subst hsz
  have hD := hD0.self (sz := s.heap.size)
  generalize hAe : va_A (bX0 a0 ud kd d_d (bX6 a1 up kp p_p [])) s.heap.size = A at hD ⊢
  have hA : ∀ q : Nat, s.heap.size ≤ q → A q := fun q h => by rw [← hAe]; exact Or.inr h
  have hS : va_S A s.heap s.heap [] := va_S.rf
  have hP : va_P (dC, dI) vwCl (bX0 a0 ud kd d_d (bX6 a1 up kp p_p [])) s.heap := hP
  have hl := lv_entry ([.ref a0, .ref a1]) (n := 6) (Nat.le_of_ble_eq_true rfl)
  rw [lg_entry_eq]
  generalize (lg_sl ([.ref a0, .ref a1]) ++ List.replicate (6 - (lg_sl ([.ref a0, .ref a1])).length) Slot.unset).toArray = ls at hl ⊢
  have hl : lv_has ls 6 [(0, .ref a0), (1, .ref a1)] := hl
  refine W_q (fun QQ hQQ => ?_)
  rw [f_X0_tellingQuestion] at h
  refine lv_bipush (v := (-2)) hx hb dX0_tellingQuestion_0 (by decide) ?_
  refine lv_istore_n (lv' := [(2, .int (-2)), (0, .ref a0), (1, .ref a1)]) hx hb dX0_tellingQuestion_2 rfl hl (by decide) rfl (fun ls hl => ?_)
  refine lv_aload_n hx hb dX0_tellingQuestion_3 rfl (lv_at hl 1 rfl) ?_
  refine va_get (D := (dC, dI)) (ci := 0) (v := .int d_d.2) (C := RX0) (T := TX0) (N := 2) hx hb hts ifX0_tellingQuestion_X0 hown hK hP 0 rfl rfl 1 (by decide) (hts (.fieldLink RX0 15 "HookPier$Dark" "many" "I") (List.mem_of_getElem? (i := 1) rfl)) (fun _ h9 => h9) rfl dX0_tellingQuestion_4 ?_
  refine lv_istore_n (lv' := [(3, .int d_d.2), (2, .int (-2)), (0, .ref a0), (1, .ref a1)]) hx hb dX0_tellingQuestion_7 rfl hl (by decide) rfl (fun ls hl => ?_)
  refine lv_iconst (v := 0) hx hb dX0_tellingQuestion_8 (by decide) ?_
  refine lv_istore (lv' := [(4, .int 0), (3, .int d_d.2), (2, .int (-2)), (0, .ref a0), (1, .ref a1)]) hx hb dX0_tellingQuestion_9 hl (by decide) rfl (fun ls hl => ?_)
  have L11 : ∀ (n11 : Nat) (v11_l4 : Int32) (v11_l3 : Int32) (v11_l2 : Int32) (H : Heap) (locs : List Loc) (ls : Array Slot), f_X0_tellingQuestion_L11 d_d p_p n11 v11_l4 v11_l3 v11_l2 = some out → va_P (dC, dI) vwCl (bX0 a0 ud kd d_d (bX6 a1 up kp p_p [])) H → va_D A (bX0 a0 ud kd d_d (bX6 a1 up kp p_p [])) → va_S A s.heap H locs → lv_has ls 6 [(4, .int v11_l4), (3, .int v11_l3), (2, .int v11_l2), (0, .ref a0), (1, .ref a1)] → W p l e (headSpec vfX0_tellingQuestion { frames := 3, cells := 0, slots := 0, locals := 68 }).room s m ([.ref a0, .ref a1]).toArray below meth c H locs 0 0 QQ (F0 m 11 ls []) := by
    intro n11
    induction n11 with
    | zero =>
      intro v11_l4 v11_l3 v11_l2 H locs ls h  _ _ _ _
      rw [f_X0_tellingQuestion_L11] at h
      cases h
    | succ n11 ih11 =>
      intro v11_l4 v11_l3 v11_l2 H locs ls h  hP hD hS hl
      rw [f_X0_tellingQuestion_L11] at h
      refine lv_iload hx hb dX0_tellingQuestion_11 (lv_at hl 0 rfl) ?_
      refine lv_aload_n hx hb dX0_tellingQuestion_13 rfl (lv_at hl 4 rfl) ?_
      obtain ⟨o14, eo14⟩ : ∃ o, o = f_X6_questionBound p_p := ⟨_, rfl⟩
      have h := nm_of h o14 eo14
      refine cl_i (wc := (bX6 a1 up kp p_p [])) (wr := (bX0 a0 ud kd d_d [])) (va_runV (As := []) (rest := [.int v11_l4]) ⟨hx, hb, hml, hown, hts⟩ (kfX6_questionBound l dC dI a1 up kp p_p H.size o14 eo14.symm) (cwV 0 hts gfX0_tellingQuestion_0 rfl rfl rfl (by decide +kernel) ⟨(Nat.le_of_ble_eq_true rfl), (Nat.le_of_ble_eq_true rfl)⟩) (PV (hP.sub (ws' := (bX6 a1 up kp p_p [])) [2, 3, 4, 5, 6, 7, 8, 9, 10, 11] rfl) (hK.sub (tys' := (tX6 kp ([]))) [1, 2, 3, 4, 5, 6, 7, 8, 9] rfl) (hD.sub (ws' := (bX6 a1 up kp p_p [])) [2, 3, 4, 5, 6, 7, 8, 9, 10, 11] (by decide) rfl) hN 0 rfl rfl) rfl rfl hl.1 rfl (lv_room (Nat.le_of_ble_eq_true rfl)) dX0_tellingQuestion_14 ⟨(Nat.le_of_ble_eq_true rfl), (Nat.le_of_ble_eq_true rfl)⟩) hP hD hK hS hA [2, 3, 4, 5, 6, 7, 8, 9, 10, 11] [0, 1] rfl rfl (by decide) (by decide) (fun r14 _ H locs hw hP hD _ hS => ?_)
      obtain rfl := hw.symm
      have hP : va_P (dC, dI) vwCl (bX0 a0 ud kd d_d (bX6 a1 up kp p_p [])) H := hP
      have hD : va_D A (bX0 a0 ud kd d_d (bX6 a1 up kp p_p [])) := hD
      have J69 : ∀ (H : Heap) (locs : List Loc) (ls : Array Slot), f_X0_tellingQuestion_J69 v11_l2 = some out → va_P (dC, dI) vwCl (bX0 a0 ud kd d_d (bX6 a1 up kp p_p [])) H → va_D A (bX0 a0 ud kd d_d (bX6 a1 up kp p_p [])) → va_S A s.heap H locs → lv_has ls 6 [(2, .int v11_l2)] → W p l e (headSpec vfX0_tellingQuestion { frames := 3, cells := 0, slots := 0, locals := 68 }).room s m ([.ref a0, .ref a1]).toArray below meth c H locs 0 0 QQ (F0 m 69 ls []) := by
        intro  H locs ls h  hP hD hS hl
        rw [f_X0_tellingQuestion_J69] at h
        refine lv_iload_n hx hb dX0_tellingQuestion_69 rfl (lv_at hl 0 rfl) ?_
        obtain rfl := Option.some.inj h
        have hP9 := hP.sub (ws' := (bX0 a0 ud kd d_d (bX6 a1 up kp p_p []))) [0, 1, 2, 3, 4, 5, 6, 7, 8, 9, 10, 11] rfl
        have hD9 := hD.sub (ws' := (bX0 a0 ud kd d_d (bX6 a1 up kp p_p []))) [0, 1, 2, 3, 4, 5, 6, 7, 8, 9, 10, 11] (by decide) rfl
        have hK9 := hK.sub (tys' := []) [] rfl
        rw [hQQ]
        exact W.iret (v := v11_l2) hx hb hr (fun t ht hW => ⟨⟨v11_l2, (), rfl, rfl, by rw [ht]; exact hP9, va_K.moved hW.alike hK9, hD9⟩, hS.F ht⟩) hS.2.2 dX0_tellingQuestion_70
      refine lv_icmp_ge (tgt := 69) hx hb dX0_tellingQuestion_17 (by decide) (fun c17 => ?_) (fun c17 => ?_)
      · have h := (if_pos c17).symm.trans h
        exact J69  H _ ls h  hP hD hS (lv_sub hl [2] rfl)
      · have h := (if_neg c17).symm.trans h
        refine lv_aload_n hx hb dX0_tellingQuestion_20 rfl (lv_at hl 3 rfl) ?_
        refine va_get (D := (dC, dI)) (ci := 0) (v := .int d_d.2) (C := RX0) (T := TX0) (N := 2) hx hb hts ifX0_tellingQuestion_X0 hown hK hP 0 rfl rfl 1 (by decide) (hts (.fieldLink RX0 15 "HookPier$Dark" "many" "I") (List.mem_of_getElem? (i := 1) rfl)) (fun _ h9 => h9) rfl dX0_tellingQuestion_21 ?_
        refine lv_if_le (tgt := 69) hx hb dX0_tellingQuestion_24 (by decide) (fun c24 => ?_) (fun c24 => ?_)
        · have h := (if_pos c24).symm.trans h
          exact J69  H _ ls h  hP hD hS (lv_sub hl [2] rfl)
        · have h := (if_neg c24).symm.trans h
          refine lv_aload_n hx hb dX0_tellingQuestion_27 rfl (lv_at hl 4 rfl) ?_
          refine lv_iload hx hb dX0_tellingQuestion_28 (lv_at hl 0 rfl) ?_
          obtain ⟨o30, eo30⟩ : ∃ o, o = f_X6_hasQuestion v11_l4 p_p := ⟨_, rfl⟩
          have h := nm_of h o30 eo30
          refine cl_i (wc := (bX6 a1 up kp p_p [])) (wr := (bX0 a0 ud kd d_d [])) (va_runV (As := [.int v11_l4]) (rest := []) ⟨hx, hb, hml, hown, hts⟩ (kfX6_hasQuestion l dC dI a1 v11_l4 up kp p_p H.size o30 eo30.symm) (cwV 1 hts gfX0_tellingQuestion_1 rfl rfl rfl (by decide +kernel) ⟨(Nat.le_of_ble_eq_true rfl), (Nat.le_of_ble_eq_true rfl)⟩) (PV (hP.sub (ws' := (bX6 a1 up kp p_p [])) [2, 3, 4, 5, 6, 7, 8, 9, 10, 11] rfl) (hK.sub (tys' := (tX6 kp ([]))) [1, 2, 3, 4, 5, 6, 7, 8, 9] rfl) (hD.sub (ws' := (bX6 a1 up kp p_p [])) [2, 3, 4, 5, 6, 7, 8, 9, 10, 11] (by decide) rfl) hN 0 rfl rfl) rfl rfl hl.1 rfl (lv_room (Nat.le_of_ble_eq_true rfl)) dX0_tellingQuestion_30 ⟨(Nat.le_of_ble_eq_true rfl), (Nat.le_of_ble_eq_true rfl)⟩) hP hD hK hS hA [2, 3, 4, 5, 6, 7, 8, 9, 10, 11] [0, 1] rfl rfl (by decide) (by decide) (fun r30 _ H locs hw hP hD _ hS => ?_)
          obtain ⟨hw, br30⟩ := hw
          obtain rfl := hw.symm
          have hP : va_P (dC, dI) vwCl (bX0 a0 ud kd d_d (bX6 a1 up kp p_p [])) H := hP
          have hD : va_D A (bX0 a0 ud kd d_d (bX6 a1 up kp p_p [])) := hD
          have J63 : ∀ (v63_l3 : Int32) (v63_l2 : Int32) (H : Heap) (locs : List Loc) (ls : Array Slot), f_X0_tellingQuestion_J63 (f_X0_tellingQuestion_L11 d_d p_p n11) v11_l4 v63_l3 v63_l2 = some out → va_P (dC, dI) vwCl (bX0 a0 ud kd d_d (bX6 a1 up kp p_p [])) H → va_D A (bX0 a0 ud kd d_d (bX6 a1 up kp p_p [])) → va_S A s.heap H locs → lv_has ls 6 [(4, .int v11_l4), (3, .int v63_l3), (2, .int v63_l2), (0, .ref a0), (1, .ref a1)] → W p l e (headSpec vfX0_tellingQuestion { frames := 3, cells := 0, slots := 0, locals := 68 }).room s m ([.ref a0, .ref a1]).toArray below meth c H locs 0 0 QQ (F0 m 63 ls []) := by
            intro v63_l3 v63_l2 H locs ls h  hP hD hS hl
            rw [f_X0_tellingQuestion_J63] at h
            refine lv_iinc (v := (v11_l4 + (1 : Int32))) (lv' := [(4, .int (v11_l4 + (1 : Int32))), (3, .int v63_l3), (2, .int v63_l2), (0, .ref a0), (1, .ref a1)]) hx hb dX0_tellingQuestion_63 hl (k := 0) rfl rfl (by decide) rfl (fun ls hl => ?_)
            refine lv_goto (tgt := 11) hx hb dX0_tellingQuestion_66 (by decide) ?_
            exact ih11 (v11_l4 + (1 : Int32)) v63_l3 v63_l2 H _ ls h  hP hD hS (lv_sub hl [0, 1, 2, 3, 4] rfl)
          refine lv_if_eq (tgt := 63) hx hb dX0_tellingQuestion_33 (by decide) (fun c33 => ?_) (fun c33 => ?_)
          · have h := (if_pos c33).symm.trans h
            exact J63 v11_l3 v11_l2 H _ ls h  hP hD hS (lv_sub hl [0, 1, 2, 3, 4] rfl)
          · have h := (if_neg c33).symm.trans h
            refine lv_aload_n hx hb dX0_tellingQuestion_36 rfl (lv_at hl 3 rfl) ?_
            refine lv_aload_n hx hb dX0_tellingQuestion_37 rfl (lv_at hl 4 rfl) ?_
            refine lv_iload hx hb dX0_tellingQuestion_38 (lv_at hl 0 rfl) ?_
            obtain ⟨o40, eo40, h⟩ := bd_of h
            refine cl_i (wc := (bX0 a0 ud kd d_d (bX6 a1 up kp p_p []))) (wr := []) (va_runV (As := [.ref a1, .int v11_l4]) (rest := []) ⟨hx, hb, hml, hown, hts⟩ (kfX0_leftAtMost l dC dI a0 a1 v11_l4 ud kd up kp d_d p_p H.size o40 eo40) (cwV 2 hts gfX0_tellingQuestion_2 rfl rfl rfl (by decide +kernel) ⟨(Nat.le_of_ble_eq_true rfl), (Nat.le_of_ble_eq_true rfl)⟩) (PV (hP.sub (ws' := (bX0 a0 ud kd d_d (bX6 a1 up kp p_p []))) [0, 1, 2, 3, 4, 5, 6, 7, 8, 9, 10, 11] rfl) (hK.sub (tys' := (tX0 kd (tX6 kp ([])))) [0, 1, 2, 3, 4, 5, 6, 7, 8, 9] rfl) (hD.sub (ws' := (bX0 a0 ud kd d_d (bX6 a1 up kp p_p []))) [0, 1, 2, 3, 4, 5, 6, 7, 8, 9, 10, 11] (by decide) rfl) hN 0 rfl rfl) rfl rfl hl.1 rfl (lv_room (Nat.le_of_ble_eq_true rfl)) dX0_tellingQuestion_40 ⟨(Nat.le_of_ble_eq_true rfl), (Nat.le_of_ble_eq_true rfl)⟩) hP hD hK hS hA [0, 1, 2, 3, 4, 5, 6, 7, 8, 9, 10, 11] [] rfl rfl (by decide) (by decide) (fun r40 _ H locs hw hP hD _ hS => ?_)
            obtain rfl := hw.symm
            have hP : va_P (dC, dI) vwCl (bX0 a0 ud kd d_d (bX6 a1 up kp p_p [])) H := hP
            have hD : va_D A (bX0 a0 ud kd d_d (bX6 a1 up kp p_p [])) := hD
            refine lv_istore (lv' := [(5, .int o40), (4, .int v11_l4), (3, .int v11_l3), (2, .int v11_l2), (0, .ref a0), (1, .ref a1)]) hx hb dX0_tellingQuestion_43 hl (by decide) rfl (fun ls hl => ?_)
            refine lv_iload_n hx hb dX0_tellingQuestion_45 rfl (lv_at hl 3 rfl) ?_
            refine lv_bipush (v := (-2)) hx hb dX0_tellingQuestion_46 (by decide) ?_
            have J57 : ∀ (H : Heap) (locs : List Loc) (ls : Array Slot), f_X0_tellingQuestion_J57 (f_X0_tellingQuestion_L11 d_d p_p n11) o40 v11_l4 = some out → va_P (dC, dI) vwCl (bX0 a0 ud kd d_d (bX6 a1 up kp p_p [])) H → va_D A (bX0 a0 ud kd d_d (bX6 a1 up kp p_p [])) → va_S A s.heap H locs → lv_has ls 6 [(5, .int o40), (4, .int v11_l4), (0, .ref a0), (1, .ref a1)] → W p l e (headSpec vfX0_tellingQuestion { frames := 3, cells := 0, slots := 0, locals := 68 }).room s m ([.ref a0, .ref a1]).toArray below meth c H locs 0 0 QQ (F0 m 57 ls []) := by
              intro  H locs ls h  hP hD hS hl
              rw [f_X0_tellingQuestion_J57] at h
              refine lv_iload hx hb dX0_tellingQuestion_57 (lv_at hl 0 rfl) ?_
              refine lv_istore_n (lv' := [(3, .int o40), (5, .int o40), (4, .int v11_l4), (0, .ref a0), (1, .ref a1)]) hx hb dX0_tellingQuestion_59 rfl hl (by decide) rfl (fun ls hl => ?_)
              refine lv_iload hx hb dX0_tellingQuestion_60 (lv_at hl 2 rfl) ?_
              refine lv_istore_n (lv' := [(2, .int v11_l4), (3, .int o40), (5, .int o40), (4, .int v11_l4), (0, .ref a0), (1, .ref a1)]) hx hb dX0_tellingQuestion_62 rfl hl (by decide) rfl (fun ls hl => ?_)
              exact J63 o40 v11_l4 H _ ls h  hP hD hS (lv_sub hl [3, 1, 0, 4, 5] rfl)
            refine lv_icmp_eq (tgt := 57) hx hb dX0_tellingQuestion_48 (by decide) (fun c48 => ?_) (fun c48 => ?_)
            · have h := (if_pos c48).symm.trans h
              exact J57  H _ ls h  hP hD hS (lv_sub hl [0, 1, 4, 5] rfl)
            · have h := (if_neg c48).symm.trans h
              refine lv_iload hx hb dX0_tellingQuestion_51 (lv_at hl 0 rfl) ?_
              refine lv_iload_n hx hb dX0_tellingQuestion_53 rfl (lv_at hl 2 rfl) ?_
              refine lv_icmp_ge (tgt := 63) hx hb dX0_tellingQuestion_54 (by decide) (fun c54 => ?_) (fun c54 => ?_)
              · have h := (if_pos c54).symm.trans h
                exact J63 v11_l3 v11_l2 H _ ls h  hP hD hS (lv_sub hl [1, 2, 3, 4, 5] rfl)
              · have h := (if_neg c54).symm.trans h
                exact J57  H _ ls h  hP hD hS (lv_sub hl [0, 1, 4, 5] rfl)
  exact L11 FU (0 : Int32) d_d.2 (-2 : Int32) s.heap _ ls h  hP hD hS (lv_sub hl [0, 1, 2, 3, 4] rfl)
theorem dX10_ask_0 : decode cX10_ask 0 = .ok (.aload_n 0, 1) := by decide +kernel
theorem dX10_ask_1 : decode cX10_ask 1 = .ok (.aload_n 0, 1) := by decide +kernel
theorem dX10_ask_11 : decode cX10_ask 11 = .ok (.iconst (-1), 1) := by decide +kernel
theorem dX10_ask_12 : decode cX10_ask 12 = .ok (.ireturn, 1) := by decide +kernel
theorem dX10_ask_13 : decode cX10_ask 13 = .ok (.aload_n 0, 1) := by decide +kernel
theorem dX10_ask_14 : decode cX10_ask 14 = .ok (.getfield 50, 3) := by decide +kernel
theorem dX10_ask_17 : decode cX10_ask 17 = .ok (.aload_n 0, 1) := by decide +kernel
theorem dX10_ask_18 : decode cX10_ask 18 = .ok (.getfield 10, 3) := by decide +kernel
theorem dX10_ask_2 : decode cX10_ask 2 = .ok (.invokevirtual 264, 3) := by decide +kernel
theorem dX10_ask_21 : decode cX10_ask 21 = .ok (.invokevirtual 267, 3) := by decide +kernel
theorem dX10_ask_24 : decode cX10_ask 24 = .ok (.aload_n 0, 1) := by decide +kernel
theorem dX10_ask_25 : decode cX10_ask 25 = .ok (.getfield 50, 3) := by decide +kernel
theorem dX10_ask_28 : decode cX10_ask 28 = .ok (.aload_n 0, 1) := by decide +kernel
theorem dX10_ask_29 : decode cX10_ask 29 = .ok (.getfield 10, 3) := by decide +kernel
theorem dX10_ask_32 : decode cX10_ask 32 = .ok (.invokevirtual 276, 3) := by decide +kernel
theorem dX10_ask_35 : decode cX10_ask 35 = .ok (.ireturn, 1) := by decide +kernel
theorem dX10_ask_5 : decode cX10_ask 5 = .ok (.invokevirtual 79, 3) := by decide +kernel
theorem dX10_ask_8 : decode cX10_ask 8 = .ok (.ifCond .eq 5, 3) := by decide +kernel
def vfX10_ask : List Cond := List.cons (.code yX10_ask cX10_ask 1 (some .int)) (apW [.methodLink RX10 264 yX10_darkTrouble, .instanceMethod yX10_darkTrouble, .selects RX10 yX10_darkTrouble yX10_darkTrouble, .initialized RX10, .methodLink RX10 79 yX10_refused, .instanceMethod yX10_refused, .selects RX10 yX10_refused yX10_refused, .fieldLink RX10 50 "HookPier" "dark" "LHookPier$Dark;", .fieldLink RX10 10 "HookPier" "plan" "LHookPier$Plan;", .methodLink RX10 267 yX0_find, .instanceMethod yX0_find, .selects RX0 yX0_find yX0_find, .initialized RX0, .methodLink RX10 276 yX0_tellingQuestion, .instanceMethod yX0_tellingQuestion, .selects RX0 yX0_tellingQuestion yX0_tellingQuestion] (apW wsX100 (apW vfX10_darkTrouble (apW vfX10_refused (apW vfX0_find (vfX0_tellingQuestion))))))
theorem ifX10_ask_X10 : ∀ w ∈ wsX100, w ∈ vfX10_ask := fun _ h => (List.mem_cons_of_mem _ (List.mem_append_right _ (List.mem_append_left _ h)))
theorem qfX10_ask : Good vfX10_ask := gd_cons (by decide +kernel) (gd_app (gd_dec (by decide +kernel) : Good [.methodLink RX10 264 yX10_darkTrouble, .instanceMethod yX10_darkTrouble, .selects RX10 yX10_darkTrouble yX10_darkTrouble, .initialized RX10, .methodLink RX10 79 yX10_refused, .instanceMethod yX10_refused, .selects RX10 yX10_refused yX10_refused, .fieldLink RX10 50 "HookPier" "dark" "LHookPier$Dark;", .fieldLink RX10 10 "HookPier" "plan" "LHookPier$Plan;", .methodLink RX10 267 yX0_find, .instanceMethod yX0_find, .selects RX0 yX0_find yX0_find, .initialized RX0, .methodLink RX10 276 yX0_tellingQuestion, .instanceMethod yX0_tellingQuestion, .selects RX0 yX0_tellingQuestion yX0_tellingQuestion]) (gd_app qsX10 (gd_app qfX10_darkTrouble (gd_app qfX10_refused (gd_app qfX0_find qfX0_tellingQuestion)))))
theorem gfX10_ask_0 : GoodIn vfX10_ask (wsV RX10 264 RX10 yX10_darkTrouble vfX10_darkTrouble) := goodIn_app (goodIn_r [.methodLink RX10 264 yX10_darkTrouble, .instanceMethod yX10_darkTrouble, .selects RX10 yX10_darkTrouble yX10_darkTrouble, .initialized RX10] [1, 2, 3, 4] rfl (by decide +kernel)) (goodIn_m (fun _ h => (List.mem_cons_of_mem _ (List.mem_append_right _ (List.mem_append_right _ (List.mem_append_left _ h))))) qfX10_darkTrouble)
theorem gfX10_ask_1 : GoodIn vfX10_ask (wsV RX10 79 RX10 yX10_refused vfX10_refused) := goodIn_app (goodIn_r [.methodLink RX10 79 yX10_refused, .instanceMethod yX10_refused, .selects RX10 yX10_refused yX10_refused, .initialized RX10] [5, 6, 7, 4] rfl (by decide +kernel)) (goodIn_m (fun _ h => (List.mem_cons_of_mem _ (List.mem_append_right _ (List.mem_append_right _ (List.mem_append_right _ (List.mem_append_left _ h)))))) qfX10_refused)
theorem gfX10_ask_2 : GoodIn vfX10_ask (wsV RX10 267 RX0 yX0_find vfX0_find) := goodIn_app (goodIn_r [.methodLink RX10 267 yX0_find, .instanceMethod yX0_find, .selects RX0 yX0_find yX0_find, .initialized RX0] [10, 11, 12, 13] rfl (by decide +kernel)) (goodIn_m (fun _ h => (List.mem_cons_of_mem _ (List.mem_append_right _ (List.mem_append_right _ (List.mem_append_right _ (List.mem_append_right _ (List.mem_append_left _ h))))))) qfX0_find)
theorem gfX10_ask_3 : GoodIn vfX10_ask (wsV RX10 276 RX0 yX0_tellingQuestion vfX0_tellingQuestion) := goodIn_app (goodIn_r [.methodLink RX10 276 yX0_tellingQuestion, .instanceMethod yX0_tellingQuestion, .selects RX0 yX0_tellingQuestion yX0_tellingQuestion, .initialized RX0] [14, 15, 16, 13] rfl (by decide +kernel)) (goodIn_m (fun _ h => (List.mem_cons_of_mem _ (List.mem_append_right _ (List.mem_append_right _ (List.mem_append_right _ (List.mem_append_right _ (List.mem_append_right _ h))))))) qfX0_tellingQuestion)
set_option maxHeartbeats 2000000 in
set_option maxRecDepth 100000 in
theorem kfX10_ask (l : Launch) (dC : Nat → ClassId) (dI : Nat → Nat → Nat) (a0 : Nat) (a1 : Nat) (a2 : Nat) (up : Nat → Nat) (kp : Nat → ClassId) (ud : Nat → Nat) (kd : Nat → ClassId) (x_x : TX10_x) (g8 : Value) (g9 : Value) (g10 : Value) (g11 : Value) (g12 : Value) (g13 : Value) (p_p : TX6_p) (d_d : TX0_d) (sz : Nat) (out : (Int32 × TX10_x × TX0_d)) (h : f_X10_ask x_x p_p d_d = some out) : Met l yX10_ask vfX10_ask ({ frames := 4, cells := 0, slots := 0, locals := 93 }) (PC (dC, dI) [.ref a0] sz ((a0, .inr (7, [.ref a1, g8, g9, g10, g11, g12, .ref a2, g13, .int x_x.1, .int x_x.2])) :: bX6 a1 up kp p_p (bX0 a2 ud kd d_d [])) (tX6 kp (tX0 kd ([])))) (va_Qi (S := Unit) (fun (r : Int32) _ => r = out.1) (fun _ t => BC (dC, dI) (va_A ((a0, .inr (7, [.ref a1, g8, g9, g10, g11, g12, .ref a2, g13, .int x_x.1, .int x_x.2])) :: bX6 a1 up kp p_p (bX0 a2 ud kd d_d [])) sz) ((a0, .inr (7, [.ref a1, g8, g9, g10, g11, g12, .ref a2, g13, .int out.2.1.1, .int out.2.1.2])) :: bX6 a1 up kp p_p (bX0 a2 ud kd out.2.2 [])) [] t) (va_A ((a0, .inr (7, [.ref a1, g8, g9, g10, g11, g12, .ref a2, g13, .int x_x.1, .int x_x.2])) :: bX6 a1 up kp p_p (bX0 a2 ud kd d_d [])) sz)) 0 0 (va_A ((a0, .inr (7, [.ref a1, g8, g9, g10, g11, g12, .ref a2, g13, .int x_x.1, .int x_x.2])) :: bX6 a1 up kp p_p (bX0 a2 ud kd d_d [])) sz) := by
  refine Met.ofW (cc := cX10_ask) (maxL := 1) (ret := (some .int)) (by decide) rfl ?_
  intro p e s m args below meth c s₁ B0 hml hv
  obtain ⟨rfl, hsz, hP, hK, hD0, hN⟩ := hv
  have hx := B0.exec
  have hb := B0.bytes
  have hr := B0.returns
  have hts := atoms_spec (ws := vfX10_ask) B0.pre
  have hown : s.vm.findClass RX10 = some m.cls := findClass_of_methodNamed B0.named
  have hlocks := B0.notSynchronized
  subst hsz
  have hD := hD0.self (sz := s.heap.size)
  generalize hAe : va_A ((a0, .inr (7, [.ref a1, g8, g9, g10, g11, g12, .ref a2, g13, .int x_x.1, .int x_x.2])) :: bX6 a1 up kp p_p (bX0 a2 ud kd d_d [])) s.heap.size = A at hD ⊢
  have hA : ∀ q : Nat, s.heap.size ≤ q → A q := fun q h => by rw [← hAe]; exact Or.inr h
  have hS : va_S A s.heap s.heap [] := va_S.rf
  have hP : va_P (dC, dI) vwCl ((a0, .inr (7, [.ref a1, g8, g9, g10, g11, g12, .ref a2, g13, .int x_x.1, .int x_x.2])) :: bX6 a1 up kp p_p (bX0 a2 ud kd d_d [])) s.heap := hP
  have hl := lv_entry ([.ref a0]) (n := 1) (Nat.le_of_ble_eq_true rfl)
  rw [lg_entry_eq]
  generalize (lg_sl ([.ref a0]) ++ List.replicate (1 - (lg_sl ([.ref a0])).length) Slot.unset).toArray = ls at hl ⊢
  have hl : lv_has ls 1 [(0, .ref a0)] := hl
  refine W_q (fun QQ hQQ => ?_)
  rw [f_X10_ask] at h
  refine lv_aload_n hx hb dX10_ask_0 rfl (lv_at hl 0 rfl) ?_
  refine lv_aload_n hx hb dX10_ask_1 rfl (lv_at hl 0 rfl) ?_
  obtain ⟨o2, eo2⟩ : ∃ o, o = f_X10_darkTrouble p_p := ⟨_, rfl⟩
  have h := nm_of h o2 eo2
  refine cl_i (wc := ((a0, .inr (7, [.ref a1, g8, g9, g10, g11, g12, .ref a2, g13, .int x_x.1, .int x_x.2])) :: bX6 a1 up kp p_p [])) (wr := (bX0 a2 ud kd d_d [])) (va_runV (As := []) (rest := [.ref a0]) ⟨hx, hb, hml, hown, hts⟩ (kfX10_darkTrouble l dC dI a0 a1 up kp (g8) (g9) (g10) (g11) (g12) (.ref a2) (g13) (.int x_x.1) (.int x_x.2) p_p s.heap.size o2 eo2.symm) (cwV 0 hts gfX10_ask_0 rfl rfl rfl (by decide +kernel) ⟨(Nat.le_of_ble_eq_true rfl), (Nat.le_of_ble_eq_true rfl)⟩) (PV (hP.sub (ws' := ((a0, .inr (7, [.ref a1, g8, g9, g10, g11, g12, .ref a2, g13, .int x_x.1, .int x_x.2])) :: bX6 a1 up kp p_p [])) [0, 1, 2, 3, 4, 5, 6, 7, 8, 9, 10] rfl) (hK.sub (tys' := (tX6 kp ([]))) [0, 1, 2, 3, 4, 5, 6, 7, 8] rfl) (hD.sub (ws' := ((a0, .inr (7, [.ref a1, g8, g9, g10, g11, g12, .ref a2, g13, .int x_x.1, .int x_x.2])) :: bX6 a1 up kp p_p [])) [0, 1, 2, 3, 4, 5, 6, 7, 8, 9, 10] (by decide) rfl) hN 0 rfl rfl) rfl rfl hl.1 rfl (lv_room (Nat.le_of_ble_eq_true rfl)) dX10_ask_2 ⟨(Nat.le_of_ble_eq_true rfl), (Nat.le_of_ble_eq_true rfl)⟩) hP hD hK hS hA [0, 1, 2, 3, 4, 5, 6, 7, 8, 9, 10] [11, 12] rfl rfl (by decide) (by decide) (fun r2 _ H locs hw hP hD _ hS => ?_)
  obtain rfl := hw.symm
  have hP : va_P (dC, dI) vwCl (bX0 a2 ud kd d_d ((a0, .inr (7, [.ref a1, g8, g9, g10, g11, g12, .ref a2, g13, .int x_x.1, .int x_x.2])) :: bX6 a1 up kp p_p [])) H := hP
  have hD : va_D A (bX0 a2 ud kd d_d ((a0, .inr (7, [.ref a1, g8, g9, g10, g11, g12, .ref a2, g13, .int x_x.1, .int x_x.2])) :: bX6 a1 up kp p_p [])) := hD
  obtain ⟨o5, eo5⟩ : ∃ o, o = f_X10_refused o2 x_x := ⟨_, rfl⟩
  have h := nm_of h o5 eo5
  refine cl_i (wc := ([(a0, .inr (7, [.ref a1, g8, g9, g10, g11, g12, .ref a2, g13, .int x_x.1, .int x_x.2]))])) (wr := (bX0 a2 ud kd d_d (bX6 a1 up kp p_p []))) (va_runV (As := [.int o2]) (rest := []) ⟨hx, hb, hml, hown, hts⟩ (kfX10_refused l dC dI a0 o2 x_x (.ref a1) (g8) (g9) (g10) (g11) (g12) (.ref a2) (g13) H.size o5 eo5.symm) (cwV 1 hts gfX10_ask_1 rfl rfl rfl (by decide +kernel) ⟨(Nat.le_of_ble_eq_true rfl), (Nat.le_of_ble_eq_true rfl)⟩) (PV (hP.sub (ws' := ([(a0, .inr (7, [.ref a1, g8, g9, g10, g11, g12, .ref a2, g13, .int x_x.1, .int x_x.2]))])) [2] rfl) (hK.sub (tys' := ([])) [] rfl) (hD.sub (ws' := ([(a0, .inr (7, [.ref a1, g8, g9, g10, g11, g12, .ref a2, g13, .int x_x.1, .int x_x.2]))])) [2] (by decide) rfl) hN 0 rfl rfl) rfl rfl hl.1 rfl (lv_room (Nat.le_of_ble_eq_true rfl)) dX10_ask_5 ⟨(Nat.le_of_ble_eq_true rfl), (Nat.le_of_ble_eq_true rfl)⟩) hP hD hK hS hA [2] [0, 1, 3, 4, 5, 6, 7, 8, 9, 10, 11, 12] rfl rfl (by decide) (by decide) (fun r5 _ H locs hw hP hD _ hS => ?_)
  obtain ⟨hw, br5⟩ := hw
  obtain rfl := hw
  have hP : va_P (dC, dI) vwCl (bX0 a2 ud kd d_d (bX6 a1 up kp p_p ([(a0, .inr (7, [.ref a1, g8, g9, g10, g11, g12, .ref a2, g13, .int o5.2.1, .int o5.2.2]))]))) H := hP
  have hD : va_D A (bX0 a2 ud kd d_d (bX6 a1 up kp p_p ([(a0, .inr (7, [.ref a1, g8, g9, g10, g11, g12, .ref a2, g13, .int o5.2.1, .int o5.2.2]))]))) := hD
  refine lv_if_eq (tgt := 13) hx hb dX10_ask_8 (by decide) (fun c8 => ?_) (fun c8 => ?_)
  · have h := (if_pos c8).symm.trans h
    refine lv_aload_n hx hb dX10_ask_13 rfl (lv_at hl 0 rfl) ?_
    refine va_get (D := (dC, dI)) (ci := 7) (v := .ref a2) (C := RX10) (T := TX10) (N := 10) hx hb hts ifX10_ask_X10 hown hK hP 12 rfl rfl 6 (by decide) (hts (.fieldLink RX10 50 "HookPier" "dark" "LHookPier$Dark;") (List.mem_of_getElem? (i := 8) rfl)) (fun _ h9 => h9) rfl dX10_ask_14 ?_
    refine lv_aload_n hx hb dX10_ask_17 rfl (lv_at hl 0 rfl) ?_
    refine va_get (D := (dC, dI)) (ci := 7) (v := .ref a1) (C := RX10) (T := TX10) (N := 10) hx hb hts ifX10_ask_X10 hown hK hP 12 rfl rfl 0 (by decide) (hts (.fieldLink RX10 10 "HookPier" "plan" "LHookPier$Plan;") (List.mem_of_getElem? (i := 9) rfl)) (fun _ h9 => h9) rfl dX10_ask_18 ?_
    obtain ⟨o21, eo21, h⟩ := bd_of h
    refine cl_v (wc := (bX0 a2 ud kd d_d (bX6 a1 up kp p_p []))) (wr := ([(a0, .inr (7, [.ref a1, g8, g9, g10, g11, g12, .ref a2, g13, .int o5.2.1, .int o5.2.2]))])) (va_runV (As := [.ref a1]) (rest := []) ⟨hx, hb, hml, hown, hts⟩ (kfX0_find l dC dI a2 a1 ud kd up kp d_d p_p H.size o21 eo21) (cwV 1 hts gfX10_ask_2 rfl rfl rfl (by decide +kernel) ⟨(Nat.le_of_ble_eq_true rfl), (Nat.le_of_ble_eq_true rfl)⟩) (PV (hP.sub (ws' := (bX0 a2 ud kd d_d (bX6 a1 up kp p_p []))) [0, 1, 2, 3, 4, 5, 6, 7, 8, 9, 10, 11] rfl) (hK.sub (tys' := (tX0 kd (tX6 kp ([])))) [9, 0, 1, 2, 3, 4, 5, 6, 7, 8] rfl) (hD.sub (ws' := (bX0 a2 ud kd d_d (bX6 a1 up kp p_p []))) [0, 1, 2, 3, 4, 5, 6, 7, 8, 9, 10, 11] (by decide) rfl) hN 0 rfl rfl) rfl rfl hl.1 rfl (lv_room (Nat.le_of_ble_eq_true rfl)) dX10_ask_21 ⟨(Nat.le_of_ble_eq_true rfl), (Nat.le_of_ble_eq_true rfl)⟩) hP hD hK hS hA [0, 1, 2, 3, 4, 5, 6, 7, 8, 9, 10, 11] [12] rfl rfl (by decide) (by decide) (fun _ H locs hw hP hD _ hS => ?_)
    have hP : va_P (dC, dI) vwCl ((a0, .inr (7, [.ref a1, g8, g9, g10, g11, g12, .ref a2, g13, .int o5.2.1, .int o5.2.2])) :: bX0 a2 ud kd o21 (bX6 a1 up kp p_p [])) H := hP
    have hD : va_D A ((a0, .inr (7, [.ref a1, g8, g9, g10, g11, g12, .ref a2, g13, .int o5.2.1, .int o5.2.2])) :: bX0 a2 ud kd o21 (bX6 a1 up kp p_p [])) := hD
    refine lv_aload_n hx hb dX10_ask_24 rfl (lv_at hl 0 rfl) ?_
    refine va_get (D := (dC, dI)) (ci := 7) (v := .ref a2) (C := RX10) (T := TX10) (N := 10) hx hb hts ifX10_ask_X10 hown hK hP 0 rfl rfl 6 (by decide) (hts (.fieldLink RX10 50 "HookPier" "dark" "LHookPier$Dark;") (List.mem_of_getElem? (i := 8) rfl)) (fun _ h9 => h9) rfl dX10_ask_25 ?_
    refine lv_aload_n hx hb dX10_ask_28 rfl (lv_at hl 0 rfl) ?_
    refine va_get (D := (dC, dI)) (ci := 7) (v := .ref a1) (C := RX10) (T := TX10) (N := 10) hx hb hts ifX10_ask_X10 hown hK hP 0 rfl rfl 0 (by decide) (hts (.fieldLink RX10 10 "HookPier" "plan" "LHookPier$Plan;") (List.mem_of_getElem? (i := 9) rfl)) (fun _ h9 => h9) rfl dX10_ask_29 ?_
    obtain ⟨o32, eo32, h⟩ := bd_of h
    refine cl_i (wc := (bX0 a2 ud kd o21 (bX6 a1 up kp p_p []))) (wr := ([(a0, .inr (7, [.ref a1, g8, g9, g10, g11, g12, .ref a2, g13, .int o5.2.1, .int o5.2.2]))])) (va_runV (As := [.ref a1]) (rest := []) ⟨hx, hb, hml, hown, hts⟩ (kfX0_tellingQuestion l dC dI a2 a1 ud kd up kp o21 p_p H.size o32 eo32) (cwV 1 hts gfX10_ask_3 rfl rfl rfl (by decide +kernel) ⟨(Nat.le_of_ble_eq_true rfl), (Nat.le_of_ble_eq_true rfl)⟩) (PV (hP.sub (ws' := (bX0 a2 ud kd o21 (bX6 a1 up kp p_p []))) [1, 2, 3, 4, 5, 6, 7, 8, 9, 10, 11, 12] rfl) (hK.sub (tys' := (tX0 kd (tX6 kp ([])))) [9, 0, 1, 2, 3, 4, 5, 6, 7, 8] rfl) (hD.sub (ws' := (bX0 a2 ud kd o21 (bX6 a1 up kp p_p []))) [1, 2, 3, 4, 5, 6, 7, 8, 9, 10, 11, 12] (by decide) rfl) hN 0 rfl rfl) rfl rfl hl.1 rfl (lv_room (Nat.le_of_ble_eq_true rfl)) dX10_ask_32 ⟨(Nat.le_of_ble_eq_true rfl), (Nat.le_of_ble_eq_true rfl)⟩) hP hD hK hS hA [1, 2, 3, 4, 5, 6, 7, 8, 9, 10, 11, 12] [0] rfl rfl (by decide) (by decide) (fun r32 _ H locs hw hP hD _ hS => ?_)
    obtain rfl := hw.symm
    have hP : va_P (dC, dI) vwCl ((a0, .inr (7, [.ref a1, g8, g9, g10, g11, g12, .ref a2, g13, .int o5.2.1, .int o5.2.2])) :: bX0 a2 ud kd o21 (bX6 a1 up kp p_p [])) H := hP
    have hD : va_D A ((a0, .inr (7, [.ref a1, g8, g9, g10, g11, g12, .ref a2, g13, .int o5.2.1, .int o5.2.2])) :: bX0 a2 ud kd o21 (bX6 a1 up kp p_p [])) := hD
    obtain rfl := Option.some.inj h
    have hP9 := hP.sub (ws' := ((a0, .inr (7, [.ref a1, g8, g9, g10, g11, g12, .ref a2, g13, .int o5.2.1, .int o5.2.2])) :: bX6 a1 up kp p_p (bX0 a2 ud kd o21 []))) [0, 3, 4, 5, 6, 7, 8, 9, 10, 11, 12, 1, 2] rfl
    have hD9 := hD.sub (ws' := ((a0, .inr (7, [.ref a1, g8, g9, g10, g11, g12, .ref a2, g13, .int o5.2.1, .int o5.2.2])) :: bX6 a1 up kp p_p (bX0 a2 ud kd o21 []))) [0, 3, 4, 5, 6, 7, 8, 9, 10, 11, 12, 1, 2] (by decide) rfl
    have hK9 := hK.sub (tys' := []) [] rfl
    rw [hQQ]
    exact W.iret (v := o32) hx hb hr (fun t ht hW => ⟨⟨o32, (), rfl, rfl, by rw [ht]; exact hP9, va_K.moved hW.alike hK9, hD9⟩, hS.F ht⟩) hS.2.2 dX10_ask_35
  · have h := (if_neg c8).symm.trans h
    refine lv_iconst (v := (-1)) hx hb dX10_ask_11 (by decide) ?_
    obtain rfl := Option.some.inj h
    have hP9 := hP.sub (ws' := ((a0, .inr (7, [.ref a1, g8, g9, g10, g11, g12, .ref a2, g13, .int o5.2.1, .int o5.2.2])) :: bX6 a1 up kp p_p (bX0 a2 ud kd d_d []))) [12, 2, 3, 4, 5, 6, 7, 8, 9, 10, 11, 0, 1] rfl
    have hD9 := hD.sub (ws' := ((a0, .inr (7, [.ref a1, g8, g9, g10, g11, g12, .ref a2, g13, .int o5.2.1, .int o5.2.2])) :: bX6 a1 up kp p_p (bX0 a2 ud kd d_d []))) [12, 2, 3, 4, 5, 6, 7, 8, 9, 10, 11, 0, 1] (by decide) rfl
    have hK9 := hK.sub (tys' := []) [] rfl
    rw [hQQ]
    exact W.iret (v := (-1 : Int32)) hx hb hr (fun t ht hW => ⟨⟨(-1 : Int32), (), rfl, rfl, by rw [ht]; exact hP9, va_K.moved hW.alike hK9, hD9⟩, hS.F ht⟩) hS.2.2 dX10_ask_12
