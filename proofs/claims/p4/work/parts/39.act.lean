theorem dX6_hasAnswer_0 : decode cX6_hasAnswer 0 = .ok (.iload_n 1, 1) := by decide +kernel
theorem dX6_hasAnswer_1 : decode cX6_hasAnswer 1 = .ok (.iconst 0, 1) := by decide +kernel
theorem dX6_hasAnswer_11 : decode cX6_hasAnswer 11 = .ok (.ireturn, 1) := by decide +kernel
theorem dX6_hasAnswer_2 : decode cX6_hasAnswer 2 = .ok (.aload_n 0, 1) := by decide +kernel
theorem dX6_hasAnswer_3 : decode cX6_hasAnswer 3 = .ok (.getfield 30, 3) := by decide +kernel
theorem dX6_hasAnswer_6 : decode cX6_hasAnswer 6 = .ok (.iconst 1, 1) := by decide +kernel
theorem dX6_hasAnswer_7 : decode cX6_hasAnswer 7 = .ok (.isub, 1) := by decide +kernel
theorem dX6_hasAnswer_8 : decode cX6_hasAnswer 8 = .ok (.invokestatic 68, 3) := by decide +kernel
def vfX6_hasAnswer : List Cond := List.cons (.code yX6_hasAnswer cX6_hasAnswer 2 (some .boolean)) (apW [.fieldLink RX6 30 "HookPier$Plan" "answers" "I", .initialized RX10, .static yX10_within] (apW wsX60 (vfX10_within)))
theorem ifX6_hasAnswer_X6 : ∀ w ∈ wsX60, w ∈ vfX6_hasAnswer := fun _ h => (List.mem_cons_of_mem _ (List.mem_append_right _ (List.mem_append_left _ h)))
theorem qfX6_hasAnswer : Good vfX6_hasAnswer := gd_cons (by decide +kernel) (gd_app (gd_dec (by decide +kernel) : Good [.fieldLink RX6 30 "HookPier$Plan" "answers" "I", .initialized RX10, .static yX10_within]) (gd_app qsX6 qfX10_within))
theorem gfX6_hasAnswer_0 : GoodIn vfX6_hasAnswer vfX10_within := (goodIn_m (fun _ h => (List.mem_cons_of_mem _ (List.mem_append_right _ (List.mem_append_right _ h)))) qfX10_within)
set_option maxHeartbeats 2000000 in
set_option maxRecDepth 100000 in
theorem kfX6_hasAnswer (l : Launch) (dC : Nat → ClassId) (dI : Nat → Nat → Nat) (a0 : Nat) (k1 : Int32) (up : Nat → Nat) (kp : Nat → ClassId) (p_p : TX6_p) (sz : Nat) (out : Int32) (h : f_X6_hasAnswer k1 p_p = out) : Met l yX6_hasAnswer vfX6_hasAnswer ({ frames := 1, cells := 0, slots := 0, locals := 22 }) (PC (dC, dI) [.ref a0, .int k1] sz (bX6 a0 up kp p_p []) (tX6 kp ([]))) (va_Qi (S := Unit) (fun (r : Int32) _ => r = out ∧ (0 ≤ r.toInt ∧ r.toInt ≤ 1)) (fun _ t => BC (dC, dI) (va_A (bX6 a0 up kp p_p []) sz) (bX6 a0 up kp p_p []) [] t) (va_A (bX6 a0 up kp p_p []) sz)) 0 0 (va_A (bX6 a0 up kp p_p []) sz) := by
  refine Met.ofW (cc := cX6_hasAnswer) (maxL := 2) (ret := (some .boolean)) (by decide) rfl ?_
  intro p e s m args below meth c s₁ B0 hml hv
  obtain ⟨rfl, hsz, hP, hK, hD0, hN⟩ := hv
  have hx := B0.exec
  have hb := B0.bytes
  have hr := B0.returns
  have hts := atoms_spec (ws := vfX6_hasAnswer) B0.pre
  have hown : s.vm.findClass RX6 = some m.cls := findClass_of_methodNamed B0.named
  have hlocks := B0.notSynchronized
  subst hsz
  have hD := hD0.self (sz := s.heap.size)
  generalize hAe : va_A (bX6 a0 up kp p_p []) s.heap.size = A at hD ⊢
  have hA : ∀ q : Nat, s.heap.size ≤ q → A q := fun q h => by rw [← hAe]; exact Or.inr h
  have hS : va_S A s.heap s.heap [] := va_S.rf
  have hP : va_P (dC, dI) vwCl (bX6 a0 up kp p_p []) s.heap := hP
  have hl := lv_entry ([.ref a0, .int k1]) (n := 2) (Nat.le_of_ble_eq_true rfl)
  rw [lg_entry_eq]
  generalize (lg_sl ([.ref a0, .int k1]) ++ List.replicate (2 - (lg_sl ([.ref a0, .int k1])).length) Slot.unset).toArray = ls at hl ⊢
  have hl : lv_has ls 2 [(0, .ref a0), (1, .int k1)] := hl
  refine W_q (fun QQ hQQ => ?_)
  rw [f_X6_hasAnswer] at h
  refine lv_iload_n hx hb dX6_hasAnswer_0 rfl (lv_at hl 1 rfl) ?_
  refine lv_iconst (v := 0) hx hb dX6_hasAnswer_1 (by decide) ?_
  refine lv_aload_n hx hb dX6_hasAnswer_2 rfl (lv_at hl 0 rfl) ?_
  refine va_get (D := (dC, dI)) (ci := 4) (v := .int p_p.2.2.2.2.2.2.1) (C := RX6) (T := TX6) (N := 18) hx hb hts ifX6_hasAnswer_X6 hown hK hP 0 rfl rfl 6 (by decide) (hts (.fieldLink RX6 30 "HookPier$Plan" "answers" "I") (List.mem_of_getElem? (i := 1) rfl)) (fun _ h9 => h9) rfl dX6_hasAnswer_3 ?_
  refine lv_iconst (v := 1) hx hb dX6_hasAnswer_6 (by decide) ?_
  refine lv_isub hx hb dX6_hasAnswer_7 ?_
  obtain ⟨o8, eo8⟩ : ∃ o, o = f_X10_within k1 (0 : Int32) (p_p.2.2.2.2.2.2.1 - (1 : Int32)) := ⟨_, rfl⟩
  have h := nm_of h o8 eo8
  refine cl_i (wc := []) (wr := (bX6 a0 up kp p_p [])) (va_runSN (As := [.int k1, .int 0, .int (p_p.2.2.2.2.2.2.1 - (1 : Int32))]) (rest := []) ⟨hx, hb, hml, hown, hts⟩ (kfX10_within l dC dI k1 (0 : Int32) (p_p.2.2.2.2.2.2.1 - (1 : Int32)) s.heap.size o8 eo8.symm) ⟨va_cnB 3 hts gfX6_hasAnswer_0 rfl rfl rfl (hN.1 (.methodLinkNest RX6 68 yX10_within "HookPier") (List.mem_of_getElem? (i := 10) rfl)) (hts (.initialized RX10) (List.mem_of_getElem? (i := 2) rfl)) (by decide +kernel) ⟨(Nat.le_of_ble_eq_true rfl), (Nat.le_of_ble_eq_true rfl)⟩, (hts (.static yX10_within) (List.mem_of_getElem? (i := 3) rfl)), trivial⟩ (PS (hP.sub (ws' := []) [] rfl) (hK.sub (tys' := ([])) [] rfl) (hD.sub (ws' := []) [] (by decide) rfl) hN) rfl rfl hl.1 rfl (lv_room (Nat.le_of_ble_eq_true rfl)) dX6_hasAnswer_8 ⟨(Nat.le_of_ble_eq_true rfl), (Nat.le_of_ble_eq_true rfl)⟩) hP hD hK hS hA [] [0, 1, 2, 3, 4, 5, 6, 7, 8, 9] rfl rfl (by decide) (by decide) (fun r8 _ H locs hw hP hD _ hS => ?_)
  obtain ⟨hw, br8⟩ := hw
  obtain rfl := hw.symm
  have hP : va_P (dC, dI) vwCl (bX6 a0 up kp p_p []) H := hP
  have hD : va_D A (bX6 a0 up kp p_p []) := hD
  obtain rfl := h
  have hP9 := hP.sub (ws' := (bX6 a0 up kp p_p [])) [0, 1, 2, 3, 4, 5, 6, 7, 8, 9] rfl
  have hD9 := hD.sub (ws' := (bX6 a0 up kp p_p [])) [0, 1, 2, 3, 4, 5, 6, 7, 8, 9] (by decide) rfl
  have hK9 := hK.sub (tys' := []) [] rfl
  rw [hQQ]
  exact W.zret (v := o8) hx hb hr (narz br8) (fun t ht hW => ⟨⟨o8, (), rfl, ⟨rfl, br8⟩, by rw [ht]; exact hP9, va_K.moved hW.alike hK9, hD9⟩, hS.F ht⟩) hS.2.2 dX6_hasAnswer_11
theorem dX10_answerTrouble_0 : decode cX10_answerTrouble 0 = .ok (.aload_n 0, 1) := by decide +kernel
theorem dX10_answerTrouble_1 : decode cX10_answerTrouble 1 = .ok (.getfield 10, 3) := by decide +kernel
theorem dX10_answerTrouble_11 : decode cX10_answerTrouble 11 = .ok (.iconst 0, 1) := by decide +kernel
theorem dX10_answerTrouble_12 : decode cX10_answerTrouble 12 = .ok (.goto 4, 3) := by decide +kernel
theorem dX10_answerTrouble_15 : decode cX10_answerTrouble 15 = .ok (.iconst 1, 1) := by decide +kernel
theorem dX10_answerTrouble_16 : decode cX10_answerTrouble 16 = .ok (.ireturn, 1) := by decide +kernel
theorem dX10_answerTrouble_4 : decode cX10_answerTrouble 4 = .ok (.iload_n 1, 1) := by decide +kernel
theorem dX10_answerTrouble_5 : decode cX10_answerTrouble 5 = .ok (.invokevirtual 381, 3) := by decide +kernel
theorem dX10_answerTrouble_8 : decode cX10_answerTrouble 8 = .ok (.ifCond .eq 7, 3) := by decide +kernel
def vfX10_answerTrouble : List Cond := List.cons (.code yX10_answerTrouble cX10_answerTrouble 2 (some .int)) (apW [.fieldLink RX10 10 "HookPier" "plan" "LHookPier$Plan;", .methodLink RX10 381 yX6_hasAnswer, .instanceMethod yX6_hasAnswer, .selects RX6 yX6_hasAnswer yX6_hasAnswer, .initialized RX6] (apW wsX100 (vfX6_hasAnswer)))
theorem ifX10_answerTrouble_X10 : ∀ w ∈ wsX100, w ∈ vfX10_answerTrouble := fun _ h => (List.mem_cons_of_mem _ (List.mem_append_right _ (List.mem_append_left _ h)))
theorem qfX10_answerTrouble : Good vfX10_answerTrouble := gd_cons (by decide +kernel) (gd_app (gd_dec (by decide +kernel) : Good [.fieldLink RX10 10 "HookPier" "plan" "LHookPier$Plan;", .methodLink RX10 381 yX6_hasAnswer, .instanceMethod yX6_hasAnswer, .selects RX6 yX6_hasAnswer yX6_hasAnswer, .initialized RX6]) (gd_app qsX10 qfX6_hasAnswer))
theorem gfX10_answerTrouble_0 : GoodIn vfX10_answerTrouble (wsV RX10 381 RX6 yX6_hasAnswer vfX6_hasAnswer) := goodIn_app (goodIn_r [.methodLink RX10 381 yX6_hasAnswer, .instanceMethod yX6_hasAnswer, .selects RX6 yX6_hasAnswer yX6_hasAnswer, .initialized RX6] [2, 3, 4, 5] rfl (by decide +kernel)) (goodIn_m (fun _ h => (List.mem_cons_of_mem _ (List.mem_append_right _ (List.mem_append_right _ h)))) qfX6_hasAnswer)
set_option maxHeartbeats 2000000 in
set_option maxRecDepth 100000 in
theorem kfX10_answerTrouble (l : Launch) (dC : Nat → ClassId) (dI : Nat → Nat → Nat) (a0 : Nat) (k1 : Int32) (a2 : Nat) (up : Nat → Nat) (kp : Nat → ClassId) (g5 : Value) (g6 : Value) (g7 : Value) (g8 : Value) (g9 : Value) (g10 : Value) (g11 : Value) (g12 : Value) (g13 : Value) (p_p : TX6_p) (sz : Nat) (out : Int32) (h : f_X10_answerTrouble k1 p_p = out) : Met l yX10_answerTrouble vfX10_answerTrouble ({ frames := 2, cells := 0, slots := 0, locals := 43 }) (PC (dC, dI) [.ref a0, .int k1] sz ((a0, .inr (7, [.ref a2, g5, g6, g7, g8, g9, g10, g11, g12, g13])) :: bX6 a2 up kp p_p []) (tX6 kp ([]))) (va_Qi (S := Unit) (fun (r : Int32) _ => r = out) (fun _ t => BC (dC, dI) (va_A ((a0, .inr (7, [.ref a2, g5, g6, g7, g8, g9, g10, g11, g12, g13])) :: bX6 a2 up kp p_p []) sz) ((a0, .inr (7, [.ref a2, g5, g6, g7, g8, g9, g10, g11, g12, g13])) :: bX6 a2 up kp p_p []) [] t) (va_A ((a0, .inr (7, [.ref a2, g5, g6, g7, g8, g9, g10, g11, g12, g13])) :: bX6 a2 up kp p_p []) sz)) 0 0 (va_A ((a0, .inr (7, [.ref a2, g5, g6, g7, g8, g9, g10, g11, g12, g13])) :: bX6 a2 up kp p_p []) sz) := by
  refine Met.ofW (cc := cX10_answerTrouble) (maxL := 2) (ret := (some .int)) (by decide) rfl ?_
  intro p e s m args below meth c s₁ B0 hml hv
  obtain ⟨rfl, hsz, hP, hK, hD0, hN⟩ := hv
  have hx := B0.exec
  have hb := B0.bytes
  have hr := B0.returns
  have hts := atoms_spec (ws := vfX10_answerTrouble) B0.pre
  have hown : s.vm.findClass RX10 = some m.cls := findClass_of_methodNamed B0.named
  have hlocks := B0.notSynchronized
  subst hsz
  have hD := hD0.self (sz := s.heap.size)
  generalize hAe : va_A ((a0, .inr (7, [.ref a2, g5, g6, g7, g8, g9, g10, g11, g12, g13])) :: bX6 a2 up kp p_p []) s.heap.size = A at hD ⊢
  have hA : ∀ q : Nat, s.heap.size ≤ q → A q := fun q h => by rw [← hAe]; exact Or.inr h
  have hS : va_S A s.heap s.heap [] := va_S.rf
  have hP : va_P (dC, dI) vwCl ((a0, .inr (7, [.ref a2, g5, g6, g7, g8, g9, g10, g11, g12, g13])) :: bX6 a2 up kp p_p []) s.heap := hP
  have hl := lv_entry ([.ref a0, .int k1]) (n := 2) (Nat.le_of_ble_eq_true rfl)
  rw [lg_entry_eq]
  generalize (lg_sl ([.ref a0, .int k1]) ++ List.replicate (2 - (lg_sl ([.ref a0, .int k1])).length) Slot.unset).toArray = ls at hl ⊢
  have hl : lv_has ls 2 [(0, .ref a0), (1, .int k1)] := hl
  refine W_q (fun QQ hQQ => ?_)
  rw [f_X10_answerTrouble] at h
  refine lv_aload_n hx hb dX10_answerTrouble_0 rfl (lv_at hl 0 rfl) ?_
  refine va_get (D := (dC, dI)) (ci := 7) (v := .ref a2) (C := RX10) (T := TX10) (N := 10) hx hb hts ifX10_answerTrouble_X10 hown hK hP 0 rfl rfl 0 (by decide) (hts (.fieldLink RX10 10 "HookPier" "plan" "LHookPier$Plan;") (List.mem_of_getElem? (i := 1) rfl)) (fun _ h9 => h9) rfl dX10_answerTrouble_1 ?_
  refine lv_iload_n hx hb dX10_answerTrouble_4 rfl (lv_at hl 1 rfl) ?_
  obtain ⟨o5, eo5⟩ : ∃ o, o = f_X6_hasAnswer k1 p_p := ⟨_, rfl⟩
  have h := nm_of h o5 eo5
  refine cl_i (wc := (bX6 a2 up kp p_p [])) (wr := ([(a0, .inr (7, [.ref a2, g5, g6, g7, g8, g9, g10, g11, g12, g13]))])) (va_runV (As := [.int k1]) (rest := []) ⟨hx, hb, hml, hown, hts⟩ (kfX6_hasAnswer l dC dI a2 k1 up kp p_p s.heap.size o5 eo5.symm) (cwV 1 hts gfX10_answerTrouble_0 rfl rfl rfl (by decide +kernel) ⟨(Nat.le_of_ble_eq_true rfl), (Nat.le_of_ble_eq_true rfl)⟩) (PV (hP.sub (ws' := (bX6 a2 up kp p_p [])) [1, 2, 3, 4, 5, 6, 7, 8, 9, 10] rfl) (hK.sub (tys' := (tX6 kp ([]))) [0, 1, 2, 3, 4, 5, 6, 7, 8] rfl) (hD.sub (ws' := (bX6 a2 up kp p_p [])) [1, 2, 3, 4, 5, 6, 7, 8, 9, 10] (by decide) rfl) hN 0 rfl rfl) rfl rfl hl.1 rfl (lv_room (Nat.le_of_ble_eq_true rfl)) dX10_answerTrouble_5 ⟨(Nat.le_of_ble_eq_true rfl), (Nat.le_of_ble_eq_true rfl)⟩) hP hD hK hS hA [1, 2, 3, 4, 5, 6, 7, 8, 9, 10] [0] rfl rfl (by decide) (by decide) (fun r5 _ H locs hw hP hD _ hS => ?_)
  obtain ⟨hw, br5⟩ := hw
  obtain rfl := hw.symm
  have hP : va_P (dC, dI) vwCl ((a0, .inr (7, [.ref a2, g5, g6, g7, g8, g9, g10, g11, g12, g13])) :: bX6 a2 up kp p_p []) H := hP
  have hD : va_D A ((a0, .inr (7, [.ref a2, g5, g6, g7, g8, g9, g10, g11, g12, g13])) :: bX6 a2 up kp p_p []) := hD
  refine lv_if_eq (tgt := 15) hx hb dX10_answerTrouble_8 (by decide) (fun c8 => ?_) (fun c8 => ?_)
  · have h := (if_pos c8).symm.trans h
    refine lv_iconst (v := 1) hx hb dX10_answerTrouble_15 (by decide) ?_
    obtain rfl := h
    have hP9 := hP.sub (ws' := ((a0, .inr (7, [.ref a2, g5, g6, g7, g8, g9, g10, g11, g12, g13])) :: bX6 a2 up kp p_p [])) [0, 1, 2, 3, 4, 5, 6, 7, 8, 9, 10] rfl
    have hD9 := hD.sub (ws' := ((a0, .inr (7, [.ref a2, g5, g6, g7, g8, g9, g10, g11, g12, g13])) :: bX6 a2 up kp p_p [])) [0, 1, 2, 3, 4, 5, 6, 7, 8, 9, 10] (by decide) rfl
    have hK9 := hK.sub (tys' := []) [] rfl
    rw [hQQ]
    exact W.iret (v := (1 : Int32)) hx hb hr (fun t ht hW => ⟨⟨(1 : Int32), (), rfl, rfl, by rw [ht]; exact hP9, va_K.moved hW.alike hK9, hD9⟩, hS.F ht⟩) hS.2.2 dX10_answerTrouble_16
  · have h := (if_neg c8).symm.trans h
    refine lv_iconst (v := 0) hx hb dX10_answerTrouble_11 (by decide) ?_
    refine lv_goto (tgt := 16) hx hb dX10_answerTrouble_12 (by decide) ?_
    obtain rfl := h
    have hP9 := hP.sub (ws' := ((a0, .inr (7, [.ref a2, g5, g6, g7, g8, g9, g10, g11, g12, g13])) :: bX6 a2 up kp p_p [])) [0, 1, 2, 3, 4, 5, 6, 7, 8, 9, 10] rfl
    have hD9 := hD.sub (ws' := ((a0, .inr (7, [.ref a2, g5, g6, g7, g8, g9, g10, g11, g12, g13])) :: bX6 a2 up kp p_p [])) [0, 1, 2, 3, 4, 5, 6, 7, 8, 9, 10] (by decide) rfl
    have hK9 := hK.sub (tys' := []) [] rfl
    rw [hQQ]
    exact W.iret (v := (0 : Int32)) hx hb hr (fun t ht hW => ⟨⟨(0 : Int32), (), rfl, rfl, by rw [ht]; exact hP9, va_K.moved hW.alike hK9, hD9⟩, hS.F ht⟩) hS.2.2 dX10_answerTrouble_16
theorem dX6_worthAfter_0 : decode cX6_worthAfter 0 = .ok (.aload_n 0, 1) := by decide +kernel
theorem dX6_worthAfter_1 : decode cX6_worthAfter 1 = .ok (.getfield 43, 3) := by decide +kernel
theorem dX6_worthAfter_10 : decode cX6_worthAfter 10 = .ok (.aload_n 0, 1) := by decide +kernel
theorem dX6_worthAfter_11 : decode cX6_worthAfter 11 = .ok (.getfield 58, 3) := by decide +kernel
theorem dX6_worthAfter_14 : decode cX6_worthAfter 14 = .ok (.iload_n 1, 1) := by decide +kernel
theorem dX6_worthAfter_15 : decode cX6_worthAfter 15 = .ok (.iaload, 1) := by decide +kernel
theorem dX6_worthAfter_16 : decode cX6_worthAfter 16 = .ok (.ireturn, 1) := by decide +kernel
theorem dX6_worthAfter_17 : decode cX6_worthAfter 17 = .ok (.aload_n 0, 1) := by decide +kernel
theorem dX6_worthAfter_18 : decode cX6_worthAfter 18 = .ok (.getfield 43, 3) := by decide +kernel
theorem dX6_worthAfter_21 : decode cX6_worthAfter 21 = .ok (.iload_n 1, 1) := by decide +kernel
theorem dX6_worthAfter_22 : decode cX6_worthAfter 22 = .ok (.iaload, 1) := by decide +kernel
theorem dX6_worthAfter_23 : decode cX6_worthAfter 23 = .ok (.iconst 3, 1) := by decide +kernel
theorem dX6_worthAfter_24 : decode cX6_worthAfter 24 = .ok (.if_icmp .ne 17, 3) := by decide +kernel
theorem dX6_worthAfter_27 : decode cX6_worthAfter 27 = .ok (.bipush 99, 2) := by decide +kernel
theorem dX6_worthAfter_29 : decode cX6_worthAfter 29 = .ok (.aload_n 0, 1) := by decide +kernel
theorem dX6_worthAfter_30 : decode cX6_worthAfter 30 = .ok (.getfield 58, 3) := by decide +kernel
theorem dX6_worthAfter_33 : decode cX6_worthAfter 33 = .ok (.iload_n 1, 1) := by decide +kernel
theorem dX6_worthAfter_34 : decode cX6_worthAfter 34 = .ok (.iaload, 1) := by decide +kernel
theorem dX6_worthAfter_35 : decode cX6_worthAfter 35 = .ok (.iload_n 2, 1) := by decide +kernel
theorem dX6_worthAfter_36 : decode cX6_worthAfter 36 = .ok (.iadd, 1) := by decide +kernel
theorem dX6_worthAfter_37 : decode cX6_worthAfter 37 = .ok (.invokestatic 98, 3) := by decide +kernel
theorem dX6_worthAfter_4 : decode cX6_worthAfter 4 = .ok (.iload_n 1, 1) := by decide +kernel
theorem dX6_worthAfter_40 : decode cX6_worthAfter 40 = .ok (.ireturn, 1) := by decide +kernel
theorem dX6_worthAfter_41 : decode cX6_worthAfter 41 = .ok (.iconst 0, 1) := by decide +kernel
theorem dX6_worthAfter_42 : decode cX6_worthAfter 42 = .ok (.aload_n 0, 1) := by decide +kernel
theorem dX6_worthAfter_43 : decode cX6_worthAfter 43 = .ok (.getfield 58, 3) := by decide +kernel
theorem dX6_worthAfter_46 : decode cX6_worthAfter 46 = .ok (.iload_n 1, 1) := by decide +kernel
theorem dX6_worthAfter_47 : decode cX6_worthAfter 47 = .ok (.iaload, 1) := by decide +kernel
theorem dX6_worthAfter_48 : decode cX6_worthAfter 48 = .ok (.iconst 5, 1) := by decide +kernel
theorem dX6_worthAfter_49 : decode cX6_worthAfter 49 = .ok (.iload_n 2, 1) := by decide +kernel
theorem dX6_worthAfter_5 : decode cX6_worthAfter 5 = .ok (.iaload, 1) := by decide +kernel
theorem dX6_worthAfter_50 : decode cX6_worthAfter 50 = .ok (.imul, 1) := by decide +kernel
theorem dX6_worthAfter_51 : decode cX6_worthAfter 51 = .ok (.isub, 1) := by decide +kernel
theorem dX6_worthAfter_52 : decode cX6_worthAfter 52 = .ok (.invokestatic 102, 3) := by decide +kernel
theorem dX6_worthAfter_55 : decode cX6_worthAfter 55 = .ok (.ireturn, 1) := by decide +kernel
theorem dX6_worthAfter_6 : decode cX6_worthAfter 6 = .ok (.iconst 1, 1) := by decide +kernel
theorem dX6_worthAfter_7 : decode cX6_worthAfter 7 = .ok (.if_icmp .ne 10, 3) := by decide +kernel
def vfX6_worthAfter : List Cond := List.cons (.code yX6_worthAfter cX6_worthAfter 3 (some .int)) (apW [.fieldLink RX6 43 "HookPier$Plan" "kind" "[I", .fieldLink RX6 58 "HookPier$Plan" "told" "[I", .methodLink RX6 102 Lib.Math.max.name, .static Lib.Math.max.name, .initialized "java/lang/Math", .code Lib.Math.max.name Lib.Math.max.code 2 (some .int), .methodLink RX6 98 Lib.Math.min.name, .static Lib.Math.min.name, .code Lib.Math.min.name Lib.Math.min.code 2 (some .int)] (wsX60))
theorem ifX6_worthAfter_X6 : ∀ w ∈ wsX60, w ∈ vfX6_worthAfter := fun _ h => (List.mem_cons_of_mem _ (List.mem_append_right _ h))
theorem qfX6_worthAfter : Good vfX6_worthAfter := gd_cons (by decide +kernel) (gd_app (gd_dec (by decide +kernel) : Good [.fieldLink RX6 43 "HookPier$Plan" "kind" "[I", .fieldLink RX6 58 "HookPier$Plan" "told" "[I", .methodLink RX6 102 Lib.Math.max.name, .static Lib.Math.max.name, .initialized "java/lang/Math", .code Lib.Math.max.name Lib.Math.max.code 2 (some .int), .methodLink RX6 98 Lib.Math.min.name, .static Lib.Math.min.name, .code Lib.Math.min.name Lib.Math.min.code 2 (some .int)]) qsX6)
set_option maxHeartbeats 2000000 in
set_option maxRecDepth 100000 in
theorem kfX6_worthAfter (l : Launch) (dC : Nat → ClassId) (dI : Nat → Nat → Nat) (a0 : Nat) (k1 : Int32) (k2 : Int32) (up : Nat → Nat) (kp : Nat → ClassId) (p_p : TX6_p) (sz : Nat) (out : Int32) (h : f_X6_worthAfter k1 k2 p_p = some out) : Met l yX6_worthAfter vfX6_worthAfter ({ frames := 1, cells := 0, slots := 0, locals := 21 }) (PC (dC, dI) [.ref a0, .int k1, .int k2] sz (bX6 a0 up kp p_p []) (tX6 kp ([]))) (va_Qi (S := Unit) (fun (r : Int32) _ => r = out) (fun _ t => BC (dC, dI) (va_A (bX6 a0 up kp p_p []) sz) (bX6 a0 up kp p_p []) [] t) (va_A (bX6 a0 up kp p_p []) sz)) 0 0 (va_A (bX6 a0 up kp p_p []) sz) := by
  refine Met.ofW (cc := cX6_worthAfter) (maxL := 3) (ret := (some .int)) (by decide) rfl ?_
  intro p e s m args below meth c s₁ B0 hml hv
  obtain ⟨rfl, hsz, hP, hK, hD0, hN⟩ := hv
  have hx := B0.exec
  have hb := B0.bytes
  have hr := B0.returns
  have hts := atoms_spec (ws := vfX6_worthAfter) B0.pre
  have hown : s.vm.findClass RX6 = some m.cls := findClass_of_methodNamed B0.named
  have hlocks := B0.notSynchronized
  subst hsz
  have hD := hD0.self (sz := s.heap.size)
  generalize hAe : va_A (bX6 a0 up kp p_p []) s.heap.size = A at hD ⊢
  have hA : ∀ q : Nat, s.heap.size ≤ q → A q := fun q h => by rw [← hAe]; exact Or.inr h
  have hS : va_S A s.heap s.heap [] := va_S.rf
  have hP : va_P (dC, dI) vwCl (bX6 a0 up kp p_p []) s.heap := hP
  have hl := lv_entry ([.ref a0, .int k1, .int k2]) (n := 3) (Nat.le_of_ble_eq_true rfl)
  rw [lg_entry_eq]
  generalize (lg_sl ([.ref a0, .int k1, .int k2]) ++ List.replicate (3 - (lg_sl ([.ref a0, .int k1, .int k2])).length) Slot.unset).toArray = ls at hl ⊢
  have hl : lv_has ls 3 [(0, .ref a0), (1, .int k1), (2, .int k2)] := hl
  refine W_q (fun QQ hQQ => ?_)
  rw [f_X6_worthAfter] at h
  refine lv_aload_n hx hb dX6_worthAfter_0 rfl (lv_at hl 0 rfl) ?_
  refine va_get (D := (dC, dI)) (ci := 4) (v := .ref (up 1)) (C := RX6) (T := TX6) (N := 18) hx hb hts ifX6_worthAfter_X6 hown hK hP 0 rfl rfl 10 (by decide) (hts (.fieldLink RX6 43 "HookPier$Plan" "kind" "[I") (List.mem_of_getElem? (i := 1) rfl)) (fun _ h9 => h9) rfl dX6_worthAfter_1 ?_
  refine lv_iload_n hx hb dX6_worthAfter_4 rfl (lv_at hl 1 rfl) ?_
  obtain ⟨hg5, h⟩ := gA_of h
  refine va_iald hx hb hK hP 2 1 rfl rfl hg5 dX6_worthAfter_5 ?_
  refine lv_iconst (v := 1) hx hb dX6_worthAfter_6 (by decide) ?_
  refine lv_icmp_ne (tgt := 17) hx hb dX6_worthAfter_7 (by decide) (fun c7 => ?_) (fun c7 => ?_)
  · have h := (if_neg c7).symm.trans h
    refine lv_aload_n hx hb dX6_worthAfter_17 rfl (lv_at hl 0 rfl) ?_
    refine va_get (D := (dC, dI)) (ci := 4) (v := .ref (up 1)) (C := RX6) (T := TX6) (N := 18) hx hb hts ifX6_worthAfter_X6 hown hK hP 0 rfl rfl 10 (by decide) (hts (.fieldLink RX6 43 "HookPier$Plan" "kind" "[I") (List.mem_of_getElem? (i := 1) rfl)) (fun _ h9 => h9) rfl dX6_worthAfter_18 ?_
    refine lv_iload_n hx hb dX6_worthAfter_21 rfl (lv_at hl 1 rfl) ?_
    obtain ⟨hg22, h⟩ := gA_of h
    refine va_iald hx hb hK hP 2 1 rfl rfl hg22 dX6_worthAfter_22 ?_
    refine lv_iconst (v := 3) hx hb dX6_worthAfter_23 (by decide) ?_
    refine lv_icmp_ne (tgt := 41) hx hb dX6_worthAfter_24 (by decide) (fun c24 => ?_) (fun c24 => ?_)
    · have h := (if_neg c24).symm.trans h
      refine lv_iconst (v := 0) hx hb dX6_worthAfter_41 (by decide) ?_
      refine lv_aload_n hx hb dX6_worthAfter_42 rfl (lv_at hl 0 rfl) ?_
      refine va_get (D := (dC, dI)) (ci := 4) (v := .ref (up 6)) (C := RX6) (T := TX6) (N := 18) hx hb hts ifX6_worthAfter_X6 hown hK hP 0 rfl rfl 15 (by decide) (hts (.fieldLink RX6 58 "HookPier$Plan" "told" "[I") (List.mem_of_getElem? (i := 2) rfl)) (fun _ h9 => h9) rfl dX6_worthAfter_43 ?_
      refine lv_iload_n hx hb dX6_worthAfter_46 rfl (lv_at hl 1 rfl) ?_
      obtain ⟨hg47, h⟩ := gA_of h
      refine va_iald hx hb hK hP 7 6 rfl rfl hg47 dX6_worthAfter_47 ?_
      refine lv_iconst (v := 5) hx hb dX6_worthAfter_48 (by decide) ?_
      refine lv_iload_n hx hb dX6_worthAfter_49 rfl (lv_at hl 2 rfl) ?_
      refine lv_imul hx hb dX6_worthAfter_50 ?_
      refine lv_isub hx hb dX6_worthAfter_51 ?_
      refine lv_topi (fun z51 ez51 => ?_)
      have h := nm_of h z51 ez51
      refine va_mmax hx hb (by rw [hml]; exact hl.1.symm) hown (hts (.methodLink RX6 102 Lib.Math.max.name) (List.mem_of_getElem? (i := 3) rfl)) (hts (.static Lib.Math.max.name) (List.mem_of_getElem? (i := 4) rfl)) (hts (.initialized "java/lang/Math") (List.mem_of_getElem? (i := 5) rfl)) (hts (.code Lib.Math.max.name Lib.Math.max.code 2 (some .int)) (List.mem_of_getElem? (i := 6) rfl)) (Nat.le_of_ble_eq_true rfl) (Nat.le_of_ble_eq_true rfl) (Nat.le_of_ble_eq_true rfl) (Nat.le_of_ble_eq_true rfl) dX6_worthAfter_52 ?_
      refine lv_topi (fun z52 ez52 => ?_)
      have h := nm_of h z52 ez52
      obtain rfl := Option.some.inj h
      have hP9 := hP.sub (ws' := (bX6 a0 up kp p_p [])) [0, 1, 2, 3, 4, 5, 6, 7, 8, 9] rfl
      have hD9 := hD.sub (ws' := (bX6 a0 up kp p_p [])) [0, 1, 2, 3, 4, 5, 6, 7, 8, 9] (by decide) rfl
      have hK9 := hK.sub (tys' := []) [] rfl
      rw [hQQ]
      exact W.iret (v := z52) hx hb hr (fun t ht hW => ⟨⟨z52, (), rfl, rfl, by rw [ht]; exact hP9, va_K.moved hW.alike hK9, hD9⟩, hS.F ht⟩) hS.2.2 dX6_worthAfter_55
    · have h := (if_pos c24).symm.trans h
      refine lv_bipush (v := 99) hx hb dX6_worthAfter_27 (by decide) ?_
      refine lv_aload_n hx hb dX6_worthAfter_29 rfl (lv_at hl 0 rfl) ?_
      refine va_get (D := (dC, dI)) (ci := 4) (v := .ref (up 6)) (C := RX6) (T := TX6) (N := 18) hx hb hts ifX6_worthAfter_X6 hown hK hP 0 rfl rfl 15 (by decide) (hts (.fieldLink RX6 58 "HookPier$Plan" "told" "[I") (List.mem_of_getElem? (i := 2) rfl)) (fun _ h9 => h9) rfl dX6_worthAfter_30 ?_
      refine lv_iload_n hx hb dX6_worthAfter_33 rfl (lv_at hl 1 rfl) ?_
      obtain ⟨hg34, h⟩ := gA_of h
      refine va_iald hx hb hK hP 7 6 rfl rfl hg34 dX6_worthAfter_34 ?_
      refine lv_iload_n hx hb dX6_worthAfter_35 rfl (lv_at hl 2 rfl) ?_
      refine lv_iadd hx hb dX6_worthAfter_36 ?_
      refine lv_topi (fun z36 ez36 => ?_)
      have h := nm_of h z36 ez36
      refine va_mmin hx hb (by rw [hml]; exact hl.1.symm) hown (hts (.methodLink RX6 98 Lib.Math.min.name) (List.mem_of_getElem? (i := 7) rfl)) (hts (.static Lib.Math.min.name) (List.mem_of_getElem? (i := 8) rfl)) (hts (.initialized "java/lang/Math") (List.mem_of_getElem? (i := 5) rfl)) (hts (.code Lib.Math.min.name Lib.Math.min.code 2 (some .int)) (List.mem_of_getElem? (i := 9) rfl)) (Nat.le_of_ble_eq_true rfl) (Nat.le_of_ble_eq_true rfl) (Nat.le_of_ble_eq_true rfl) (Nat.le_of_ble_eq_true rfl) dX6_worthAfter_37 ?_
      refine lv_topi (fun z37 ez37 => ?_)
      have h := nm_of h z37 ez37
      obtain rfl := Option.some.inj h
      have hP9 := hP.sub (ws' := (bX6 a0 up kp p_p [])) [0, 1, 2, 3, 4, 5, 6, 7, 8, 9] rfl
      have hD9 := hD.sub (ws' := (bX6 a0 up kp p_p [])) [0, 1, 2, 3, 4, 5, 6, 7, 8, 9] (by decide) rfl
      have hK9 := hK.sub (tys' := []) [] rfl
      rw [hQQ]
      exact W.iret (v := z37) hx hb hr (fun t ht hW => ⟨⟨z37, (), rfl, rfl, by rw [ht]; exact hP9, va_K.moved hW.alike hK9, hD9⟩, hS.F ht⟩) hS.2.2 dX6_worthAfter_40
  · have h := (if_pos c7).symm.trans h
    refine lv_aload_n hx hb dX6_worthAfter_10 rfl (lv_at hl 0 rfl) ?_
    refine va_get (D := (dC, dI)) (ci := 4) (v := .ref (up 6)) (C := RX6) (T := TX6) (N := 18) hx hb hts ifX6_worthAfter_X6 hown hK hP 0 rfl rfl 15 (by decide) (hts (.fieldLink RX6 58 "HookPier$Plan" "told" "[I") (List.mem_of_getElem? (i := 2) rfl)) (fun _ h9 => h9) rfl dX6_worthAfter_11 ?_
    refine lv_iload_n hx hb dX6_worthAfter_14 rfl (lv_at hl 1 rfl) ?_
    obtain ⟨hg15, h⟩ := gA_of h
    refine va_iald hx hb hK hP 7 6 rfl rfl hg15 dX6_worthAfter_15 ?_
    obtain rfl := Option.some.inj h
    have hP9 := hP.sub (ws' := (bX6 a0 up kp p_p [])) [0, 1, 2, 3, 4, 5, 6, 7, 8, 9] rfl
    have hD9 := hD.sub (ws' := (bX6 a0 up kp p_p [])) [0, 1, 2, 3, 4, 5, 6, 7, 8, 9] (by decide) rfl
    have hK9 := hK.sub (tys' := []) [] rfl
    rw [hQQ]
    exact W.iret (v := (p_p.2.2.2.2.2.2.2.2.2.2.2.2.2.2.2.1 (k1).toNatClampNeg)) hx hb hr (fun t ht hW => ⟨⟨(p_p.2.2.2.2.2.2.2.2.2.2.2.2.2.2.2.1 (k1).toNatClampNeg), (), rfl, rfl, by rw [ht]; exact hP9, va_K.moved hW.alike hK9, hD9⟩, hS.F ht⟩) hS.2.2 dX6_worthAfter_16
theorem dX3_worthOn_0 : decode cX3_worthOn 0 = .ok (.aload_n 0, 1) := by decide +kernel
theorem dX3_worthOn_1 : decode cX3_worthOn 1 = .ok (.iload_n 2, 1) := by decide +kernel
theorem dX3_worthOn_10 : decode cX3_worthOn 10 = .ok (.invokevirtual 15, 3) := by decide +kernel
theorem dX3_worthOn_13 : decode cX3_worthOn 13 = .ok (.ireturn, 1) := by decide +kernel
theorem dX3_worthOn_2 : decode cX3_worthOn 2 = .ok (.iload_n 3, 1) := by decide +kernel
theorem dX3_worthOn_3 : decode cX3_worthOn 3 = .ok (.aload_n 1, 1) := by decide +kernel
theorem dX3_worthOn_4 : decode cX3_worthOn 4 = .ok (.getfield 9, 3) := by decide +kernel
theorem dX3_worthOn_7 : decode cX3_worthOn 7 = .ok (.iload_n 2, 1) := by decide +kernel
theorem dX3_worthOn_8 : decode cX3_worthOn 8 = .ok (.iaload, 1) := by decide +kernel
theorem dX3_worthOn_9 : decode cX3_worthOn 9 = .ok (.isub, 1) := by decide +kernel
def vfX3_worthOn : List Cond := List.cons (.code yX3_worthOn cX3_worthOn 4 (some .int)) (apW [.fieldLink RX3 9 "HookPier$Now" "landedOn" "[I", .methodLink RX3 15 yX6_worthAfter, .instanceMethod yX6_worthAfter, .selects RX6 yX6_worthAfter yX6_worthAfter, .initialized RX6] (apW wsX40 (vfX6_worthAfter)))
theorem ifX3_worthOn_X4 : ∀ w ∈ wsX40, w ∈ vfX3_worthOn := fun _ h => (List.mem_cons_of_mem _ (List.mem_append_right _ (List.mem_append_left _ h)))
theorem qfX3_worthOn : Good vfX3_worthOn := gd_cons (by decide +kernel) (gd_app (gd_dec (by decide +kernel) : Good [.fieldLink RX3 9 "HookPier$Now" "landedOn" "[I", .methodLink RX3 15 yX6_worthAfter, .instanceMethod yX6_worthAfter, .selects RX6 yX6_worthAfter yX6_worthAfter, .initialized RX6]) (gd_app qsX4 qfX6_worthAfter))
theorem gfX3_worthOn_0 : GoodIn vfX3_worthOn (wsV RX3 15 RX6 yX6_worthAfter vfX6_worthAfter) := goodIn_app (goodIn_r [.methodLink RX3 15 yX6_worthAfter, .instanceMethod yX6_worthAfter, .selects RX6 yX6_worthAfter yX6_worthAfter, .initialized RX6] [2, 3, 4, 5] rfl (by decide +kernel)) (goodIn_m (fun _ h => (List.mem_cons_of_mem _ (List.mem_append_right _ (List.mem_append_right _ h)))) qfX6_worthAfter)
set_option maxHeartbeats 2000000 in
set_option maxRecDepth 100000 in
theorem kfX3_worthOn (l : Launch) (dC : Nat → ClassId) (dI : Nat → Nat → Nat) (a0 : Nat) (a1 : Nat) (k2 : Int32) (k3 : Int32) (up : Nat → Nat) (kp : Nat → ClassId) (un : Nat → Nat) (kn : Nat → ClassId) (p_p : TX6_p) (n_n : TX4_n) (sz : Nat) (out : Int32) (h : f_X3_worthOn k2 k3 p_p n_n = some out) : Met l yX3_worthOn vfX3_worthOn ({ frames := 2, cells := 0, slots := 0, locals := 43 }) (PC (dC, dI) [.ref a0, .ref a1, .int k2, .int k3] sz (bX6 a0 up kp p_p (bX4 a1 un kn n_n [])) (tX6 kp (tX4 kn ([])))) (va_Qi (S := Unit) (fun (r : Int32) _ => r = out) (fun _ t => BC (dC, dI) (va_A (bX6 a0 up kp p_p (bX4 a1 un kn n_n [])) sz) (bX6 a0 up kp p_p (bX4 a1 un kn n_n [])) [] t) (va_A (bX6 a0 up kp p_p (bX4 a1 un kn n_n [])) sz)) 0 0 (va_A (bX6 a0 up kp p_p (bX4 a1 un kn n_n [])) sz) := by
  refine Met.ofW (cc := cX3_worthOn) (maxL := 4) (ret := (some .int)) (by decide) rfl ?_
  intro p e s m args below meth c s₁ B0 hml hv
  obtain ⟨rfl, hsz, hP, hK, hD0, hN⟩ := hv
  have hx := B0.exec
  have hb := B0.bytes
  have hr := B0.returns
  have hts := atoms_spec (ws := vfX3_worthOn) B0.pre
  have hown : s.vm.findClass RX3 = some m.cls := findClass_of_methodNamed B0.named
  have hlocks := B0.notSynchronized
  subst hsz
  have hD := hD0.self (sz := s.heap.size)
  generalize hAe : va_A (bX6 a0 up kp p_p (bX4 a1 un kn n_n [])) s.heap.size = A at hD ⊢
  have hA : ∀ q : Nat, s.heap.size ≤ q → A q := fun q h => by rw [← hAe]; exact Or.inr h
  have hS : va_S A s.heap s.heap [] := va_S.rf
  have hP : va_P (dC, dI) vwCl (bX6 a0 up kp p_p (bX4 a1 un kn n_n [])) s.heap := hP
  have hl := lv_entry ([.ref a0, .ref a1, .int k2, .int k3]) (n := 4) (Nat.le_of_ble_eq_true rfl)
  rw [lg_entry_eq]
  generalize (lg_sl ([.ref a0, .ref a1, .int k2, .int k3]) ++ List.replicate (4 - (lg_sl ([.ref a0, .ref a1, .int k2, .int k3])).length) Slot.unset).toArray = ls at hl ⊢
  have hl : lv_has ls 4 [(0, .ref a0), (1, .ref a1), (2, .int k2), (3, .int k3)] := hl
  refine W_q (fun QQ hQQ => ?_)
  rw [f_X3_worthOn] at h
  refine lv_aload_n hx hb dX3_worthOn_0 rfl (lv_at hl 0 rfl) ?_
  refine lv_iload_n hx hb dX3_worthOn_1 rfl (lv_at hl 2 rfl) ?_
  refine lv_iload_n hx hb dX3_worthOn_2 rfl (lv_at hl 3 rfl) ?_
  refine lv_aload_n hx hb dX3_worthOn_3 rfl (lv_at hl 1 rfl) ?_
  refine va_get (D := (dC, dI)) (ci := 3) (v := .ref (un 1)) (C := RX4) (T := TX4) (N := 7) hx hb hts ifX3_worthOn_X4 hown hK hP 10 rfl rfl 4 (by decide) (hts (.fieldLink RX3 9 "HookPier$Now" "landedOn" "[I") (List.mem_of_getElem? (i := 1) rfl)) (fun _ h9 => h9) rfl dX3_worthOn_4 ?_
  refine lv_iload_n hx hb dX3_worthOn_7 rfl (lv_at hl 2 rfl) ?_
  obtain ⟨hg8, h⟩ := gA_of h
  refine va_iald hx hb hK hP 12 10 rfl rfl hg8 dX3_worthOn_8 ?_
  refine lv_isub hx hb dX3_worthOn_9 ?_
  obtain ⟨o10, eo10, h⟩ := bd_of h
  refine cl_i (wc := (bX6 a0 up kp p_p [])) (wr := (bX4 a1 un kn n_n [])) (va_runV (As := [.int k2, .int (k3 - (n_n.2.2.2.2.1 (k2).toNatClampNeg))]) (rest := []) ⟨hx, hb, hml, hown, hts⟩ (kfX6_worthAfter l dC dI a0 k2 (k3 - (n_n.2.2.2.2.1 (k2).toNatClampNeg)) up kp p_p s.heap.size o10 eo10) (cwV 2 hts gfX3_worthOn_0 rfl rfl rfl (by decide +kernel) ⟨(Nat.le_of_ble_eq_true rfl), (Nat.le_of_ble_eq_true rfl)⟩) (PV (hP.sub (ws' := (bX6 a0 up kp p_p [])) [0, 1, 2, 3, 4, 5, 6, 7, 8, 9] rfl) (hK.sub (tys' := (tX6 kp ([]))) [0, 1, 2, 3, 4, 5, 6, 7, 8] rfl) (hD.sub (ws' := (bX6 a0 up kp p_p [])) [0, 1, 2, 3, 4, 5, 6, 7, 8, 9] (by decide) rfl) hN 0 rfl rfl) rfl rfl hl.1 rfl (lv_room (Nat.le_of_ble_eq_true rfl)) dX3_worthOn_10 ⟨(Nat.le_of_ble_eq_true rfl), (Nat.le_of_ble_eq_true rfl)⟩) hP hD hK hS hA [0, 1, 2, 3, 4, 5, 6, 7, 8, 9] [10, 11, 12, 13, 14] rfl rfl (by decide) (by decide) (fun r10 _ H locs hw hP hD _ hS => ?_)
  obtain rfl := hw.symm
  have hP : va_P (dC, dI) vwCl (bX4 a1 un kn n_n (bX6 a0 up kp p_p [])) H := hP
  have hD : va_D A (bX4 a1 un kn n_n (bX6 a0 up kp p_p [])) := hD
  obtain rfl := Option.some.inj h
  have hP9 := hP.sub (ws' := (bX6 a0 up kp p_p (bX4 a1 un kn n_n []))) [5, 6, 7, 8, 9, 10, 11, 12, 13, 14, 0, 1, 2, 3, 4] rfl
  have hD9 := hD.sub (ws' := (bX6 a0 up kp p_p (bX4 a1 un kn n_n []))) [5, 6, 7, 8, 9, 10, 11, 12, 13, 14, 0, 1, 2, 3, 4] (by decide) rfl
  have hK9 := hK.sub (tys' := []) [] rfl
  rw [hQQ]
  exact W.iret (v := o10) hx hb hr (fun t ht hW => ⟨⟨o10, (), rfl, rfl, by rw [ht]; exact hP9, va_K.moved hW.alike hK9, hD9⟩, hS.F ht⟩) hS.2.2 dX3_worthOn_13
theorem dX10_sell_0 : decode cX10_sell 0 = .ok (.aload_n 0, 1) := by decide +kernel
theorem dX10_sell_1 : decode cX10_sell 1 = .ok (.iload_n 1, 1) := by decide +kernel
theorem dX10_sell_11 : decode cX10_sell 11 = .ok (.aload_n 0, 1) := by decide +kernel
theorem dX10_sell_12 : decode cX10_sell 12 = .ok (.getfield 29, 3) := by decide +kernel
theorem dX10_sell_15 : decode cX10_sell 15 = .ok (.getfield 125, 3) := by decide +kernel
theorem dX10_sell_18 : decode cX10_sell 18 = .ok (.iload_n 1, 1) := by decide +kernel
theorem dX10_sell_19 : decode cX10_sell 19 = .ok (.iaload, 1) := by decide +kernel
theorem dX10_sell_2 : decode cX10_sell 2 = .ok (.invokevirtual 102, 3) := by decide +kernel
theorem dX10_sell_20 : decode cX10_sell 20 = .ok (.iconst 1, 1) := by decide +kernel
theorem dX10_sell_21 : decode cX10_sell 21 = .ok (.if_icmp .eq 7, 3) := by decide +kernel
theorem dX10_sell_24 : decode cX10_sell 24 = .ok (.iconst 5, 1) := by decide +kernel
theorem dX10_sell_25 : decode cX10_sell 25 = .ok (.goto 4, 3) := by decide +kernel
theorem dX10_sell_28 : decode cX10_sell 28 = .ok (.iload_n 2, 1) := by decide +kernel
theorem dX10_sell_29 : decode cX10_sell 29 = .ok (.invokevirtual 79, 3) := by decide +kernel
theorem dX10_sell_32 : decode cX10_sell 32 = .ok (.ifCond .eq 5, 3) := by decide +kernel
theorem dX10_sell_35 : decode cX10_sell 35 = .ok (.iconst (-1), 1) := by decide +kernel
theorem dX10_sell_36 : decode cX10_sell 36 = .ok (.ireturn, 1) := by decide +kernel
theorem dX10_sell_37 : decode cX10_sell 37 = .ok (.aload_n 0, 1) := by decide +kernel
theorem dX10_sell_38 : decode cX10_sell 38 = .ok (.getfield 36, 3) := by decide +kernel
theorem dX10_sell_41 : decode cX10_sell 41 = .ok (.aload_n 0, 1) := by decide +kernel
theorem dX10_sell_42 : decode cX10_sell 42 = .ok (.getfield 29, 3) := by decide +kernel
theorem dX10_sell_45 : decode cX10_sell 45 = .ok (.invokevirtual 340, 3) := by decide +kernel
theorem dX10_sell_48 : decode cX10_sell 48 = .ok (.aload_n 0, 1) := by decide +kernel
theorem dX10_sell_49 : decode cX10_sell 49 = .ok (.getfield 10, 3) := by decide +kernel
theorem dX10_sell_5 : decode cX10_sell 5 = .ok (.istore_n 2, 1) := by decide +kernel
theorem dX10_sell_52 : decode cX10_sell 52 = .ok (.aload_n 0, 1) := by decide +kernel
theorem dX10_sell_53 : decode cX10_sell 53 = .ok (.getfield 29, 3) := by decide +kernel
theorem dX10_sell_56 : decode cX10_sell 56 = .ok (.iload_n 1, 1) := by decide +kernel
theorem dX10_sell_57 : decode cX10_sell 57 = .ok (.aload_n 0, 1) := by decide +kernel
theorem dX10_sell_58 : decode cX10_sell 58 = .ok (.getfield 29, 3) := by decide +kernel
theorem dX10_sell_6 : decode cX10_sell 6 = .ok (.aload_n 0, 1) := by decide +kernel
theorem dX10_sell_61 : decode cX10_sell 61 = .ok (.getfield 134, 3) := by decide +kernel
theorem dX10_sell_64 : decode cX10_sell 64 = .ok (.invokestatic 137, 3) := by decide +kernel
theorem dX10_sell_67 : decode cX10_sell 67 = .ok (.istore_n 3, 1) := by decide +kernel
theorem dX10_sell_68 : decode cX10_sell 68 = .ok (.aload_n 0, 1) := by decide +kernel
theorem dX10_sell_69 : decode cX10_sell 69 = .ok (.getfield 29, 3) := by decide +kernel
theorem dX10_sell_7 : decode cX10_sell 7 = .ok (.iload_n 2, 1) := by decide +kernel
theorem dX10_sell_72 : decode cX10_sell 72 = .ok (.getfield 125, 3) := by decide +kernel
theorem dX10_sell_75 : decode cX10_sell 75 = .ok (.iload_n 1, 1) := by decide +kernel
theorem dX10_sell_76 : decode cX10_sell 76 = .ok (.iconst 2, 1) := by decide +kernel
theorem dX10_sell_77 : decode cX10_sell 77 = .ok (.iastore, 1) := by decide +kernel
theorem dX10_sell_78 : decode cX10_sell 78 = .ok (.aload_n 0, 1) := by decide +kernel
theorem dX10_sell_79 : decode cX10_sell 79 = .ok (.getfield 29, 3) := by decide +kernel
theorem dX10_sell_8 : decode cX10_sell 8 = .ok (.ifCond .ne 20, 3) := by decide +kernel
theorem dX10_sell_82 : decode cX10_sell 82 = .ok (.dup, 1) := by decide +kernel
theorem dX10_sell_83 : decode cX10_sell 83 = .ok (.getfield 344, 3) := by decide +kernel
theorem dX10_sell_86 : decode cX10_sell 86 = .ok (.iload_n 3, 1) := by decide +kernel
theorem dX10_sell_87 : decode cX10_sell 87 = .ok (.iadd, 1) := by decide +kernel
theorem dX10_sell_88 : decode cX10_sell 88 = .ok (.putfield 344, 3) := by decide +kernel
theorem dX10_sell_91 : decode cX10_sell 91 = .ok (.iload_n 3, 1) := by decide +kernel
theorem dX10_sell_92 : decode cX10_sell 92 = .ok (.ireturn, 1) := by decide +kernel
def vfX10_sell : List Cond := List.cons (.code yX10_sell cX10_sell 4 (some .int)) (apW [.methodLink RX10 102 yX10_answerTrouble, .instanceMethod yX10_answerTrouble, .selects RX10 yX10_answerTrouble yX10_answerTrouble, .initialized RX10, .methodLink RX10 79 yX10_refused, .instanceMethod yX10_refused, .selects RX10 yX10_refused yX10_refused, .fieldLink RX10 36 "HookPier" "history" "LHookPier$History;", .fieldLink RX10 29 "HookPier" "now" "LHookPier$Now;", .methodLink RX10 340 yX2_keep, .instanceMethod yX2_keep, .selects RX2 yX2_keep yX2_keep, .initialized RX2, .fieldLink RX10 10 "HookPier" "plan" "LHookPier$Plan;", .fieldLink RX10 134 "HookPier$Now" "today" "I", .methodLink RX10 137 yX3_worthOn, .static yX3_worthOn, .initialized RX3, .fieldLink RX10 125 "HookPier$Now" "stage" "[I", .fieldLink RX10 344 "HookPier$Now" "soldFor" "I"] (apW wsX100 (apW wsX40 (apW vfX10_answerTrouble (apW vfX10_refused (apW vfX2_keep (vfX3_worthOn)))))))
theorem ifX10_sell_X10 : ∀ w ∈ wsX100, w ∈ vfX10_sell := fun _ h => (List.mem_cons_of_mem _ (List.mem_append_right _ (List.mem_append_left _ h)))
theorem ifX10_sell_X4 : ∀ w ∈ wsX40, w ∈ vfX10_sell := fun _ h => (List.mem_cons_of_mem _ (List.mem_append_right _ (List.mem_append_right _ (List.mem_append_left _ h))))
theorem qfX10_sell : Good vfX10_sell := gd_cons (by decide +kernel) (gd_app (gd_dec (by decide +kernel) : Good [.methodLink RX10 102 yX10_answerTrouble, .instanceMethod yX10_answerTrouble, .selects RX10 yX10_answerTrouble yX10_answerTrouble, .initialized RX10, .methodLink RX10 79 yX10_refused, .instanceMethod yX10_refused, .selects RX10 yX10_refused yX10_refused, .fieldLink RX10 36 "HookPier" "history" "LHookPier$History;", .fieldLink RX10 29 "HookPier" "now" "LHookPier$Now;", .methodLink RX10 340 yX2_keep, .instanceMethod yX2_keep, .selects RX2 yX2_keep yX2_keep, .initialized RX2, .fieldLink RX10 10 "HookPier" "plan" "LHookPier$Plan;", .fieldLink RX10 134 "HookPier$Now" "today" "I", .methodLink RX10 137 yX3_worthOn, .static yX3_worthOn, .initialized RX3, .fieldLink RX10 125 "HookPier$Now" "stage" "[I", .fieldLink RX10 344 "HookPier$Now" "soldFor" "I"]) (gd_app qsX10 (gd_app qsX4 (gd_app qfX10_answerTrouble (gd_app qfX10_refused (gd_app qfX2_keep qfX3_worthOn))))))
theorem gfX10_sell_0 : GoodIn vfX10_sell (wsV RX10 102 RX10 yX10_answerTrouble vfX10_answerTrouble) := goodIn_app (goodIn_r [.methodLink RX10 102 yX10_answerTrouble, .instanceMethod yX10_answerTrouble, .selects RX10 yX10_answerTrouble yX10_answerTrouble, .initialized RX10] [1, 2, 3, 4] rfl (by decide +kernel)) (goodIn_m (fun _ h => (List.mem_cons_of_mem _ (List.mem_append_right _ (List.mem_append_right _ (List.mem_append_right _ (List.mem_append_left _ h)))))) qfX10_answerTrouble)
theorem gfX10_sell_1 : GoodIn vfX10_sell (wsV RX10 79 RX10 yX10_refused vfX10_refused) := goodIn_app (goodIn_r [.methodLink RX10 79 yX10_refused, .instanceMethod yX10_refused, .selects RX10 yX10_refused yX10_refused, .initialized RX10] [5, 6, 7, 4] rfl (by decide +kernel)) (goodIn_m (fun _ h => (List.mem_cons_of_mem _ (List.mem_append_right _ (List.mem_append_right _ (List.mem_append_right _ (List.mem_append_right _ (List.mem_append_left _ h))))))) qfX10_refused)
theorem gfX10_sell_2 : GoodIn vfX10_sell (wsV RX10 340 RX2 yX2_keep vfX2_keep) := goodIn_app (goodIn_r [.methodLink RX10 340 yX2_keep, .instanceMethod yX2_keep, .selects RX2 yX2_keep yX2_keep, .initialized RX2] [10, 11, 12, 13] rfl (by decide +kernel)) (goodIn_m (fun _ h => (List.mem_cons_of_mem _ (List.mem_append_right _ (List.mem_append_right _ (List.mem_append_right _ (List.mem_append_right _ (List.mem_append_right _ (List.mem_append_left _ h)))))))) qfX2_keep)
theorem gfX10_sell_3 : GoodIn vfX10_sell (va_wsS RX10 137 yX3_worthOn vfX3_worthOn) := goodIn_app (goodIn_r [.methodLink RX10 137 yX3_worthOn, .static yX3_worthOn, .initialized RX3] [16, 17, 18] rfl (by decide +kernel)) (goodIn_m (fun _ h => (List.mem_cons_of_mem _ (List.mem_append_right _ (List.mem_append_right _ (List.mem_append_right _ (List.mem_append_right _ (List.mem_append_right _ (List.mem_append_right _ h)))))))) qfX3_worthOn)
set_option maxHeartbeats 2000000 in
set_option maxRecDepth 100000 in
theorem kfX10_sell (l : Launch) (dC : Nat → ClassId) (dI : Nat → Nat → Nat) (a0 : Nat) (k1 : Int32) (a2 : Nat) (a3 : Nat) (a4 : Nat) (a5 : Nat) (a6 : Nat) (un : Nat → Nat) (kn : Nat → ClassId) (up : Nat → Nat) (kp : Nat → ClassId) (un2 : Nat → Nat) (kn2 : Nat → ClassId) (x_x : TX10_x) (g14 : Value) (g15 : Value) (g16 : Value) (g17 : Value) (g18 : Value) (n_n : TX4_n) (p_p : TX6_p) (n2_n : TX4_n) (h_h : TX2_h) (g23 : Value) (cB24 : ClassId) (kf25 : Nat → Option Nat) (sz : Nat) (hk : kf25 (((h_h.1 + h_h.2.1) - (h_h.1 + h_h.2.1) / (16 : Int32) * (16 : Int32))).toNatClampNeg = some a2) (out : (Int32 × TX10_x × TX4_n × TX4_n × TX2_h)) (h : f_X10_sell k1 x_x n_n p_p n2_n h_h = some out) : Met l yX10_sell vfX10_sell ({ frames := 4, cells := 0, slots := 0, locals := 103 }) (PC (dC, dI) [.ref a0, .int k1] sz ((a0, .inr (7, [.ref a3, g14, g15, .ref a4, .ref a5, g16, g17, g18, .int x_x.1, .int x_x.2])) :: bX4 a2 un kn n_n (bX6 a3 up kp p_p (bX4 a4 un2 kn2 n2_n ([(a5, .inr (2, [.ref a6, g23, .int h_h.1, .int h_h.2.1, .int h_h.2.2])), (a6, .inl (cB24, 16, .inr (.inr (.inr (.inr kf25)))))])))) (tX4 kn (tX6 kp (tX4 kn2 ((cB24, .object RX4) :: []))))) (va_Qi (S := Unit) (fun (r : Int32) _ => r = out.1) (fun _ t => BC (dC, dI) (va_A ((a0, .inr (7, [.ref a3, g14, g15, .ref a4, .ref a5, g16, g17, g18, .int x_x.1, .int x_x.2])) :: bX4 a2 un kn n_n (bX6 a3 up kp p_p (bX4 a4 un2 kn2 n2_n ([(a5, .inr (2, [.ref a6, g23, .int h_h.1, .int h_h.2.1, .int h_h.2.2])), (a6, .inl (cB24, 16, .inr (.inr (.inr (.inr kf25)))))])))) sz) ((a0, .inr (7, [.ref a3, g14, g15, .ref a4, .ref a5, g16, g17, g18, .int out.2.1.1, .int out.2.1.2])) :: bX4 a2 un kn out.2.2.1 (bX6 a3 up kp p_p (bX4 a4 un2 kn2 out.2.2.2.1 ([(a5, .inr (2, [.ref a6, g23, .int out.2.2.2.2.1, .int out.2.2.2.2.2.1, .int out.2.2.2.2.2.2])), (a6, .inl (cB24, 16, .inr (.inr (.inr (.inr kf25)))))])))) [] t) (va_A ((a0, .inr (7, [.ref a3, g14, g15, .ref a4, .ref a5, g16, g17, g18, .int x_x.1, .int x_x.2])) :: bX4 a2 un kn n_n (bX6 a3 up kp p_p (bX4 a4 un2 kn2 n2_n ([(a5, .inr (2, [.ref a6, g23, .int h_h.1, .int h_h.2.1, .int h_h.2.2])), (a6, .inl (cB24, 16, .inr (.inr (.inr (.inr kf25)))))])))) sz)) 0 0 (va_A ((a0, .inr (7, [.ref a3, g14, g15, .ref a4, .ref a5, g16, g17, g18, .int x_x.1, .int x_x.2])) :: bX4 a2 un kn n_n (bX6 a3 up kp p_p (bX4 a4 un2 kn2 n2_n ([(a5, .inr (2, [.ref a6, g23, .int h_h.1, .int h_h.2.1, .int h_h.2.2])), (a6, .inl (cB24, 16, .inr (.inr (.inr (.inr kf25)))))])))) sz) := by
  refine Met.ofW (cc := cX10_sell) (maxL := 4) (ret := (some .int)) (by decide) rfl ?_
  intro p e s m args below meth c s₁ B0 hml hv
  obtain ⟨rfl, hsz, hP, hK, hD0, hN⟩ := hv
  have hx := B0.exec
  have hb := B0.bytes
  have hr := B0.returns
  have hts := atoms_spec (ws := vfX10_sell) B0.pre
  have hown : s.vm.findClass RX10 = some m.cls := findClass_of_methodNamed B0.named
  have hlocks := B0.notSynchronized
  subst hsz
  have hD := hD0.self (sz := s.heap.size)
  generalize hAe : va_A ((a0, .inr (7, [.ref a3, g14, g15, .ref a4, .ref a5, g16, g17, g18, .int x_x.1, .int x_x.2])) :: bX4 a2 un kn n_n (bX6 a3 up kp p_p (bX4 a4 un2 kn2 n2_n ([(a5, .inr (2, [.ref a6, g23, .int h_h.1, .int h_h.2.1, .int h_h.2.2])), (a6, .inl (cB24, 16, .inr (.inr (.inr (.inr kf25)))))])))) s.heap.size = A at hD ⊢
  have hA : ∀ q : Nat, s.heap.size ≤ q → A q := fun q h => by rw [← hAe]; exact Or.inr h
  have hS : va_S A s.heap s.heap [] := va_S.rf
  have hP : va_P (dC, dI) vwCl ((a0, .inr (7, [.ref a3, g14, g15, .ref a4, .ref a5, g16, g17, g18, .int x_x.1, .int x_x.2])) :: bX4 a2 un kn n_n (bX6 a3 up kp p_p (bX4 a4 un2 kn2 n2_n ([(a5, .inr (2, [.ref a6, g23, .int h_h.1, .int h_h.2.1, .int h_h.2.2])), (a6, .inl (cB24, 16, .inr (.inr (.inr (.inr kf25)))))])))) s.heap := hP
  have hl := lv_entry ([.ref a0, .int k1]) (n := 4) (Nat.le_of_ble_eq_true rfl)
  rw [lg_entry_eq]
  generalize (lg_sl ([.ref a0, .int k1]) ++ List.replicate (4 - (lg_sl ([.ref a0, .int k1])).length) Slot.unset).toArray = ls at hl ⊢
  have hl : lv_has ls 4 [(0, .ref a0), (1, .int k1)] := hl
  refine W_q (fun QQ hQQ => ?_)
  rw [f_X10_sell] at h
  refine lv_aload_n hx hb dX10_sell_0 rfl (lv_at hl 0 rfl) ?_
  refine lv_iload_n hx hb dX10_sell_1 rfl (lv_at hl 1 rfl) ?_
  obtain ⟨o2, eo2⟩ : ∃ o, o = f_X10_answerTrouble k1 p_p := ⟨_, rfl⟩
  have h := nm_of h o2 eo2
  refine cl_i (wc := ((a0, .inr (7, [.ref a3, g14, g15, .ref a4, .ref a5, g16, g17, g18, .int x_x.1, .int x_x.2])) :: bX6 a3 up kp p_p [])) (wr := (bX4 a2 un kn n_n (bX4 a4 un2 kn2 n2_n ([(a5, .inr (2, [.ref a6, g23, .int h_h.1, .int h_h.2.1, .int h_h.2.2])), (a6, .inl (cB24, 16, .inr (.inr (.inr (.inr kf25)))))])))) (va_runV (As := [.int k1]) (rest := []) ⟨hx, hb, hml, hown, hts⟩ (kfX10_answerTrouble l dC dI a0 k1 a3 up kp (g14) (g15) (.ref a4) (.ref a5) (g16) (g17) (g18) (.int x_x.1) (.int x_x.2) p_p s.heap.size o2 eo2.symm) (cwV 1 hts gfX10_sell_0 rfl rfl rfl (by decide +kernel) ⟨(Nat.le_of_ble_eq_true rfl), (Nat.le_of_ble_eq_true rfl)⟩) (PV (hP.sub (ws' := ((a0, .inr (7, [.ref a3, g14, g15, .ref a4, .ref a5, g16, g17, g18, .int x_x.1, .int x_x.2])) :: bX6 a3 up kp p_p [])) [0, 6, 7, 8, 9, 10, 11, 12, 13, 14, 15] rfl) (hK.sub (tys' := (tX6 kp ([]))) [4, 5, 6, 7, 8, 9, 10, 11, 12] rfl) (hD.sub (ws' := ((a0, .inr (7, [.ref a3, g14, g15, .ref a4, .ref a5, g16, g17, g18, .int x_x.1, .int x_x.2])) :: bX6 a3 up kp p_p [])) [0, 6, 7, 8, 9, 10, 11, 12, 13, 14, 15] (by decide) rfl) hN 0 rfl rfl) rfl rfl hl.1 rfl (lv_room (Nat.le_of_ble_eq_true rfl)) dX10_sell_2 ⟨(Nat.le_of_ble_eq_true rfl), (Nat.le_of_ble_eq_true rfl)⟩) hP hD hK hS hA [0, 6, 7, 8, 9, 10, 11, 12, 13, 14, 15] [1, 2, 3, 4, 5, 16, 17, 18, 19, 20, 21, 22] rfl rfl (by decide) (by decide) (fun r2 _ H locs hw hP hD _ hS => ?_)
  obtain rfl := hw.symm
  have hP : va_P (dC, dI) vwCl (bX4 a2 un kn n_n (bX4 a4 un2 kn2 n2_n ((a5, .inr (2, [.ref a6, g23, .int h_h.1, .int h_h.2.1, .int h_h.2.2])) :: (a6, .inl (cB24, 16, .inr (.inr (.inr (.inr kf25))))) :: (a0, .inr (7, [.ref a3, g14, g15, .ref a4, .ref a5, g16, g17, g18, .int x_x.1, .int x_x.2])) :: bX6 a3 up kp p_p []))) H := hP
  have hD : va_D A (bX4 a2 un kn n_n (bX4 a4 un2 kn2 n2_n ((a5, .inr (2, [.ref a6, g23, .int h_h.1, .int h_h.2.1, .int h_h.2.2])) :: (a6, .inl (cB24, 16, .inr (.inr (.inr (.inr kf25))))) :: (a0, .inr (7, [.ref a3, g14, g15, .ref a4, .ref a5, g16, g17, g18, .int x_x.1, .int x_x.2])) :: bX6 a3 up kp p_p []))) := hD
  refine lv_istore_n (lv' := [(2, .int o2), (0, .ref a0), (1, .int k1)]) hx hb dX10_sell_5 rfl hl (by decide) rfl (fun ls hl => ?_)
  refine lv_aload_n hx hb dX10_sell_6 rfl (lv_at hl 1 rfl) ?_
  refine lv_iload_n hx hb dX10_sell_7 rfl (lv_at hl 0 rfl) ?_
  have J29 : ∀ (v29_t1 : Int32) (H : Heap) (locs : List Loc) (ls : Array Slot), f_X10_sell_J29 k1 x_x n_n p_p n2_n h_h v29_t1 = some out → va_P (dC, dI) vwCl (bX4 a2 un kn n_n (bX4 a4 un2 kn2 n2_n ((a5, .inr (2, [.ref a6, g23, .int h_h.1, .int h_h.2.1, .int h_h.2.2])) :: (a6, .inl (cB24, 16, .inr (.inr (.inr (.inr kf25))))) :: (a0, .inr (7, [.ref a3, g14, g15, .ref a4, .ref a5, g16, g17, g18, .int x_x.1, .int x_x.2])) :: bX6 a3 up kp p_p []))) H → va_D A (bX4 a2 un kn n_n (bX4 a4 un2 kn2 n2_n ((a5, .inr (2, [.ref a6, g23, .int h_h.1, .int h_h.2.1, .int h_h.2.2])) :: (a6, .inl (cB24, 16, .inr (.inr (.inr (.inr kf25))))) :: (a0, .inr (7, [.ref a3, g14, g15, .ref a4, .ref a5, g16, g17, g18, .int x_x.1, .int x_x.2])) :: bX6 a3 up kp p_p []))) → va_S A s.heap H locs → lv_has ls 4 [(0, .ref a0), (1, .int k1)] → W p l e (headSpec vfX10_sell { frames := 4, cells := 0, slots := 0, locals := 103 }).room s m ([.ref a0, .int k1]).toArray below meth c H locs 0 0 QQ (F0 m 29 ls [.int v29_t1, .ref a0]) := by
    intro v29_t1 H locs ls h  hP hD hS hl
    rw [f_X10_sell_J29] at h
    obtain ⟨o29, eo29⟩ : ∃ o, o = f_X10_refused v29_t1 x_x := ⟨_, rfl⟩
    have h := nm_of h o29 eo29
    refine cl_i (wc := ([(a0, .inr (7, [.ref a3, g14, g15, .ref a4, .ref a5, g16, g17, g18, .int x_x.1, .int x_x.2]))])) (wr := (bX4 a2 un kn n_n (bX4 a4 un2 kn2 n2_n ((a5, .inr (2, [.ref a6, g23, .int h_h.1, .int h_h.2.1, .int h_h.2.2])) :: (a6, .inl (cB24, 16, .inr (.inr (.inr (.inr kf25))))) :: bX6 a3 up kp p_p [])))) (va_runV (As := [.int v29_t1]) (rest := []) ⟨hx, hb, hml, hown, hts⟩ (kfX10_refused l dC dI a0 v29_t1 x_x (.ref a3) (g14) (g15) (.ref a4) (.ref a5) (g16) (g17) (g18) H.size o29 eo29.symm) (cwV 1 hts gfX10_sell_1 rfl rfl rfl (by decide +kernel) ⟨(Nat.le_of_ble_eq_true rfl), (Nat.le_of_ble_eq_true rfl)⟩) (PV (hP.sub (ws' := ([(a0, .inr (7, [.ref a3, g14, g15, .ref a4, .ref a5, g16, g17, g18, .int x_x.1, .int x_x.2]))])) [12] rfl) (hK.sub (tys' := ([])) [] rfl) (hD.sub (ws' := ([(a0, .inr (7, [.ref a3, g14, g15, .ref a4, .ref a5, g16, g17, g18, .int x_x.1, .int x_x.2]))])) [12] (by decide) rfl) hN 0 rfl rfl) rfl rfl hl.1 rfl (lv_room (Nat.le_of_ble_eq_true rfl)) dX10_sell_29 ⟨(Nat.le_of_ble_eq_true rfl), (Nat.le_of_ble_eq_true rfl)⟩) hP hD hK hS hA [12] [0, 1, 2, 3, 4, 5, 6, 7, 8, 9, 10, 11, 13, 14, 15, 16, 17, 18, 19, 20, 21, 22] rfl rfl (by decide) (by decide) (fun r29 _ H locs hw hP hD _ hS => ?_)
    obtain ⟨hw, br29⟩ := hw
    obtain rfl := hw
    have hP : va_P (dC, dI) vwCl (bX4 a2 un kn n_n (bX4 a4 un2 kn2 n2_n ((a5, .inr (2, [.ref a6, g23, .int h_h.1, .int h_h.2.1, .int h_h.2.2])) :: (a6, .inl (cB24, 16, .inr (.inr (.inr (.inr kf25))))) :: bX6 a3 up kp p_p ([(a0, .inr (7, [.ref a3, g14, g15, .ref a4, .ref a5, g16, g17, g18, .int o29.2.1, .int o29.2.2]))])))) H := hP
    have hD : va_D A (bX4 a2 un kn n_n (bX4 a4 un2 kn2 n2_n ((a5, .inr (2, [.ref a6, g23, .int h_h.1, .int h_h.2.1, .int h_h.2.2])) :: (a6, .inl (cB24, 16, .inr (.inr (.inr (.inr kf25))))) :: bX6 a3 up kp p_p ([(a0, .inr (7, [.ref a3, g14, g15, .ref a4, .ref a5, g16, g17, g18, .int o29.2.1, .int o29.2.2]))])))) := hD
    refine lv_if_eq (tgt := 37) hx hb dX10_sell_32 (by decide) (fun c32 => ?_) (fun c32 => ?_)
    · have h := (if_pos c32).symm.trans h
      refine lv_aload_n hx hb dX10_sell_37 rfl (lv_at hl 0 rfl) ?_
      refine va_get (D := (dC, dI)) (ci := 7) (v := .ref a5) (C := RX10) (T := TX10) (N := 10) hx hb hts ifX10_sell_X10 hown hK hP 22 rfl rfl 4 (by decide) (hts (.fieldLink RX10 36 "HookPier" "history" "LHookPier$History;") (List.mem_of_getElem? (i := 8) rfl)) (fun _ h9 => h9) rfl dX10_sell_38 ?_
      refine lv_aload_n hx hb dX10_sell_41 rfl (lv_at hl 0 rfl) ?_
      refine va_get (D := (dC, dI)) (ci := 7) (v := .ref a4) (C := RX10) (T := TX10) (N := 10) hx hb hts ifX10_sell_X10 hown hK hP 22 rfl rfl 3 (by decide) (hts (.fieldLink RX10 29 "HookPier" "now" "LHookPier$Now;") (List.mem_of_getElem? (i := 9) rfl)) (fun _ h9 => h9) rfl dX10_sell_42 ?_
      obtain ⟨o45, eo45, h⟩ := bd_of h
      refine cl_v (wc := ((a5, .inr (2, [.ref a6, g23, .int h_h.1, .int h_h.2.1, .int h_h.2.2])) :: bX4 a4 un2 kn2 n2_n (bX4 a2 un kn n_n ([(a6, .inl (cB24, 16, .inr (.inr (.inr (.inr kf25)))))])))) (wr := (bX6 a3 up kp p_p ([(a0, .inr (7, [.ref a3, g14, g15, .ref a4, .ref a5, g16, g17, g18, .int o29.2.1, .int o29.2.2]))]))) (va_runV (As := [.ref a4]) (rest := []) ⟨hx, hb, hml, hown, hts⟩ (kfX2_keep l dC dI a5 a4 a2 a6 un2 kn2 un kn h_h (g23) n2_n n_n cB24 kf25 H.size hk o45 eo45) (cwV 1 hts gfX10_sell_2 rfl rfl rfl (by decide +kernel) ⟨(Nat.le_of_ble_eq_true rfl), (Nat.le_of_ble_eq_true rfl)⟩) (PV (hP.sub (ws' := ((a5, .inr (2, [.ref a6, g23, .int h_h.1, .int h_h.2.1, .int h_h.2.2])) :: bX4 a4 un2 kn2 n2_n (bX4 a2 un kn n_n ([(a6, .inl (cB24, 16, .inr (.inr (.inr (.inr kf25)))))])))) [10, 5, 6, 7, 8, 9, 0, 1, 2, 3, 4, 11] rfl) (hK.sub (tys' := (tX4 kn2 (tX4 kn ((cB24, .object RX4) :: [])))) [13, 14, 15, 16, 0, 1, 2, 3, 17] rfl) (hD.sub (ws' := ((a5, .inr (2, [.ref a6, g23, .int h_h.1, .int h_h.2.1, .int h_h.2.2])) :: bX4 a4 un2 kn2 n2_n (bX4 a2 un kn n_n ([(a6, .inl (cB24, 16, .inr (.inr (.inr (.inr kf25)))))])))) [10, 5, 6, 7, 8, 9, 0, 1, 2, 3, 4, 11] (by decide) rfl) hN 0 rfl rfl) rfl rfl hl.1 rfl (lv_room (Nat.le_of_ble_eq_true rfl)) dX10_sell_45 ⟨(Nat.le_of_ble_eq_true rfl), (Nat.le_of_ble_eq_true rfl)⟩) hP hD hK hS hA [10, 5, 6, 7, 8, 9, 0, 1, 2, 3, 4, 11] [12, 13, 14, 15, 16, 17, 18, 19, 20, 21, 22] rfl rfl (by decide) (by decide) (fun _ H locs hw hP hD _ hS => ?_)
      have hP : va_P (dC, dI) vwCl (bX6 a3 up kp p_p ((a0, .inr (7, [.ref a3, g14, g15, .ref a4, .ref a5, g16, g17, g18, .int o29.2.1, .int o29.2.2])) :: (a5, .inr (2, [.ref a6, g23, .int o45.1.1, .int o45.1.2.1, .int o45.1.2.2])) :: bX4 a4 un2 kn2 n2_n (bX4 a2 un kn o45.2 ([(a6, .inl (cB24, 16, .inr (.inr (.inr (.inr kf25)))))])))) H := hP
      have hD : va_D A (bX6 a3 up kp p_p ((a0, .inr (7, [.ref a3, g14, g15, .ref a4, .ref a5, g16, g17, g18, .int o29.2.1, .int o29.2.2])) :: (a5, .inr (2, [.ref a6, g23, .int o45.1.1, .int o45.1.2.1, .int o45.1.2.2])) :: bX4 a4 un2 kn2 n2_n (bX4 a2 un kn o45.2 ([(a6, .inl (cB24, 16, .inr (.inr (.inr (.inr kf25)))))])))) := hD
      refine lv_aload_n hx hb dX10_sell_48 rfl (lv_at hl 0 rfl) ?_
      refine va_get (D := (dC, dI)) (ci := 7) (v := .ref a3) (C := RX10) (T := TX10) (N := 10) hx hb hts ifX10_sell_X10 hown hK hP 10 rfl rfl 0 (by decide) (hts (.fieldLink RX10 10 "HookPier" "plan" "LHookPier$Plan;") (List.mem_of_getElem? (i := 14) rfl)) (fun _ h9 => h9) rfl dX10_sell_49 ?_
      refine lv_aload_n hx hb dX10_sell_52 rfl (lv_at hl 0 rfl) ?_
      refine va_get (D := (dC, dI)) (ci := 7) (v := .ref a4) (C := RX10) (T := TX10) (N := 10) hx hb hts ifX10_sell_X10 hown hK hP 10 rfl rfl 3 (by decide) (hts (.fieldLink RX10 29 "HookPier" "now" "LHookPier$Now;") (List.mem_of_getElem? (i := 9) rfl)) (fun _ h9 => h9) rfl dX10_sell_53 ?_
      refine lv_iload_n hx hb dX10_sell_56 rfl (lv_at hl 1 rfl) ?_
      refine lv_aload_n hx hb dX10_sell_57 rfl (lv_at hl 0 rfl) ?_
      refine va_get (D := (dC, dI)) (ci := 7) (v := .ref a4) (C := RX10) (T := TX10) (N := 10) hx hb hts ifX10_sell_X10 hown hK hP 10 rfl rfl 3 (by decide) (hts (.fieldLink RX10 29 "HookPier" "now" "LHookPier$Now;") (List.mem_of_getElem? (i := 9) rfl)) (fun _ h9 => h9) rfl dX10_sell_58 ?_
      refine va_get (D := (dC, dI)) (ci := 3) (v := .int n2_n.1) (C := RX4) (T := TX4) (N := 7) hx hb hts ifX10_sell_X4 hown hK hP 12 rfl rfl 0 (by decide) (hts (.fieldLink RX10 134 "HookPier$Now" "today" "I") (List.mem_of_getElem? (i := 15) rfl)) (fun _ h9 => h9) rfl dX10_sell_61 ?_
      obtain ⟨o64, eo64, h⟩ := bd_of h
      refine cl_i (wc := (bX6 a3 up kp p_p (bX4 a4 un2 kn2 n2_n []))) (wr := ((a0, .inr (7, [.ref a3, g14, g15, .ref a4, .ref a5, g16, g17, g18, .int o29.2.1, .int o29.2.2])) :: (a5, .inr (2, [.ref a6, g23, .int o45.1.1, .int o45.1.2.1, .int o45.1.2.2])) :: bX4 a2 un kn o45.2 ([(a6, .inl (cB24, 16, .inr (.inr (.inr (.inr kf25)))))]))) (va_runS (As := [.ref a3, .ref a4, .int k1, .int n2_n.1]) (rest := []) ⟨hx, hb, hml, hown, hts⟩ (kfX3_worthOn l dC dI a3 a4 k1 n2_n.1 up kp un2 kn2 p_p n2_n H.size o64 eo64) (va_cwS 4 hts gfX10_sell_3 rfl rfl rfl (by decide +kernel) ⟨(Nat.le_of_ble_eq_true rfl), (Nat.le_of_ble_eq_true rfl)⟩) (PS (hP.sub (ws' := (bX6 a3 up kp p_p (bX4 a4 un2 kn2 n2_n []))) [0, 1, 2, 3, 4, 5, 6, 7, 8, 9, 12, 13, 14, 15, 16] rfl) (hK.sub (tys' := (tX6 kp (tX4 kn2 ([])))) [4, 5, 6, 7, 8, 9, 10, 11, 12, 13, 14, 15, 16] rfl) (hD.sub (ws' := (bX6 a3 up kp p_p (bX4 a4 un2 kn2 n2_n []))) [0, 1, 2, 3, 4, 5, 6, 7, 8, 9, 12, 13, 14, 15, 16] (by decide) rfl) hN) rfl rfl hl.1 rfl (lv_room (Nat.le_of_ble_eq_true rfl)) dX10_sell_64 ⟨(Nat.le_of_ble_eq_true rfl), (Nat.le_of_ble_eq_true rfl)⟩) hP hD hK hS hA [0, 1, 2, 3, 4, 5, 6, 7, 8, 9, 12, 13, 14, 15, 16] [10, 11, 17, 18, 19, 20, 21, 22] rfl rfl (by decide) (by decide) (fun r64 _ H locs hw hP hD _ hS => ?_)
      obtain rfl := hw.symm
      have hP : va_P (dC, dI) vwCl ((a0, .inr (7, [.ref a3, g14, g15, .ref a4, .ref a5, g16, g17, g18, .int o29.2.1, .int o29.2.2])) :: (a5, .inr (2, [.ref a6, g23, .int o45.1.1, .int o45.1.2.1, .int o45.1.2.2])) :: bX4 a2 un kn o45.2 ((a6, .inl (cB24, 16, .inr (.inr (.inr (.inr kf25))))) :: bX6 a3 up kp p_p (bX4 a4 un2 kn2 n2_n []))) H := hP
      have hD : va_D A ((a0, .inr (7, [.ref a3, g14, g15, .ref a4, .ref a5, g16, g17, g18, .int o29.2.1, .int o29.2.2])) :: (a5, .inr (2, [.ref a6, g23, .int o45.1.1, .int o45.1.2.1, .int o45.1.2.2])) :: bX4 a2 un kn o45.2 ((a6, .inl (cB24, 16, .inr (.inr (.inr (.inr kf25))))) :: bX6 a3 up kp p_p (bX4 a4 un2 kn2 n2_n []))) := hD
      refine lv_istore_n (lv' := [(3, .int o64), (0, .ref a0), (1, .int k1)]) hx hb dX10_sell_67 rfl hl (by decide) rfl (fun ls hl => ?_)
      refine lv_aload_n hx hb dX10_sell_68 rfl (lv_at hl 1 rfl) ?_
      refine va_get (D := (dC, dI)) (ci := 7) (v := .ref a4) (C := RX10) (T := TX10) (N := 10) hx hb hts ifX10_sell_X10 hown hK hP 0 rfl rfl 3 (by decide) (hts (.fieldLink RX10 29 "HookPier" "now" "LHookPier$Now;") (List.mem_of_getElem? (i := 9) rfl)) (fun _ h9 => h9) rfl dX10_sell_69 ?_
      refine va_get (D := (dC, dI)) (ci := 3) (v := .ref (un2 0)) (C := RX4) (T := TX4) (N := 7) hx hb hts ifX10_sell_X4 hown hK hP 18 rfl rfl 3 (by decide) (hts (.fieldLink RX10 125 "HookPier$Now" "stage" "[I") (List.mem_of_getElem? (i := 19) rfl)) (fun _ h9 => h9) rfl dX10_sell_72 ?_
      refine lv_iload_n hx hb dX10_sell_75 rfl (lv_at hl 2 rfl) ?_
      refine lv_iconst (v := 2) hx hb dX10_sell_76 (by decide) ?_
      obtain ⟨hg77, h⟩ := gA_of h
      refine va_iast hx hb hK hP hD hS 19 13 rfl rfl hg77 dX10_sell_77 (fun H locs hP hD hS => ?_)
      have hP : va_P (dC, dI) vwCl ((a0, .inr (7, [.ref a3, g14, g15, .ref a4, .ref a5, g16, g17, g18, .int o29.2.1, .int o29.2.2])) :: (a5, .inr (2, [.ref a6, g23, .int o45.1.1, .int o45.1.2.1, .int o45.1.2.2])) :: bX4 a2 un kn o45.2 ((a6, .inl (cB24, 16, .inr (.inr (.inr (.inr kf25))))) :: bX6 a3 up kp p_p (bX4 a4 un2 kn2 (n2_n.1, n2_n.2.1, n2_n.2.2.1, (upd n2_n.2.2.2.1 (k1).toNatClampNeg (2 : Int32)), n2_n.2.2.2.2) []))) H := hP
      have hD : va_D A ((a0, .inr (7, [.ref a3, g14, g15, .ref a4, .ref a5, g16, g17, g18, .int o29.2.1, .int o29.2.2])) :: (a5, .inr (2, [.ref a6, g23, .int o45.1.1, .int o45.1.2.1, .int o45.1.2.2])) :: bX4 a2 un kn o45.2 ((a6, .inl (cB24, 16, .inr (.inr (.inr (.inr kf25))))) :: bX6 a3 up kp p_p (bX4 a4 un2 kn2 (n2_n.1, n2_n.2.1, n2_n.2.2.1, (upd n2_n.2.2.2.1 (k1).toNatClampNeg (2 : Int32)), n2_n.2.2.2.2) []))) := hD
      refine lv_aload_n hx hb dX10_sell_78 rfl (lv_at hl 1 rfl) ?_
      refine va_get (D := (dC, dI)) (ci := 7) (v := .ref a4) (C := RX10) (T := TX10) (N := 10) hx hb hts ifX10_sell_X10 hown hK hP 0 rfl rfl 3 (by decide) (hts (.fieldLink RX10 29 "HookPier" "now" "LHookPier$Now;") (List.mem_of_getElem? (i := 9) rfl)) (fun _ h9 => h9) rfl dX10_sell_79 ?_
      refine lv_dup hx hb dX10_sell_82 rfl ?_
      refine va_get (D := (dC, dI)) (ci := 3) (v := .int n2_n.2.2.1) (C := RX4) (T := TX4) (N := 7) hx hb hts ifX10_sell_X4 hown hK hP 18 rfl rfl 2 (by decide) (hts (.fieldLink RX10 344 "HookPier$Now" "soldFor" "I") (List.mem_of_getElem? (i := 20) rfl)) (fun _ h9 => h9) rfl dX10_sell_83 ?_
      refine lv_iload_n hx hb dX10_sell_86 rfl (lv_at hl 0 rfl) ?_
      refine lv_iadd hx hb dX10_sell_87 ?_
      refine va_put (D := (dC, dI)) (ci := 3) (v := .int (n2_n.2.2.1 + o64)) (ty := .int) (C := RX4) (T := TX4) (N := 7) hx hb hts ifX10_sell_X4 tyX4 tyX4_ok nmX4 hown hK hP hD hS 18 rfl rfl 2 (by decide) (hts (.fieldLink RX10 344 "HookPier$Now" "soldFor" "I") (List.mem_of_getElem? (i := 20) rfl)) (fun _ h9 => h9) rfl (by decide +kernel) rfl rfl (Nat.le_of_ble_eq_true rfl) dX10_sell_88 (fun H locs hP hD hS => ?_)
      have hP : va_P (dC, dI) vwCl ((a0, .inr (7, [.ref a3, g14, g15, .ref a4, .ref a5, g16, g17, g18, .int o29.2.1, .int o29.2.2])) :: (a5, .inr (2, [.ref a6, g23, .int o45.1.1, .int o45.1.2.1, .int o45.1.2.2])) :: bX4 a2 un kn o45.2 ((a6, .inl (cB24, 16, .inr (.inr (.inr (.inr kf25))))) :: bX6 a3 up kp p_p (bX4 a4 un2 kn2 (n2_n.1, n2_n.2.1, (n2_n.2.2.1 + o64), (upd n2_n.2.2.2.1 (k1).toNatClampNeg (2 : Int32)), n2_n.2.2.2.2) []))) H := hP
      have hD : va_D A ((a0, .inr (7, [.ref a3, g14, g15, .ref a4, .ref a5, g16, g17, g18, .int o29.2.1, .int o29.2.2])) :: (a5, .inr (2, [.ref a6, g23, .int o45.1.1, .int o45.1.2.1, .int o45.1.2.2])) :: bX4 a2 un kn o45.2 ((a6, .inl (cB24, 16, .inr (.inr (.inr (.inr kf25))))) :: bX6 a3 up kp p_p (bX4 a4 un2 kn2 (n2_n.1, n2_n.2.1, (n2_n.2.2.1 + o64), (upd n2_n.2.2.2.1 (k1).toNatClampNeg (2 : Int32)), n2_n.2.2.2.2) []))) := hD
      refine lv_iload_n hx hb dX10_sell_91 rfl (lv_at hl 0 rfl) ?_
      obtain rfl := Option.some.inj h
      have hP9 := hP.sub (ws' := ((a0, .inr (7, [.ref a3, g14, g15, .ref a4, .ref a5, g16, g17, g18, .int o29.2.1, .int o29.2.2])) :: bX4 a2 un kn o45.2 (bX6 a3 up kp p_p (bX4 a4 un2 kn2 (n2_n.1, n2_n.2.1, (n2_n.2.2.1 + o64), (upd n2_n.2.2.2.1 (k1).toNatClampNeg (2 : Int32)), n2_n.2.2.2.2) ([(a5, .inr (2, [.ref a6, g23, .int o45.1.1, .int o45.1.2.1, .int o45.1.2.2])), (a6, .inl (cB24, 16, .inr (.inr (.inr (.inr kf25)))))]))))) [0, 2, 3, 4, 5, 6, 8, 9, 10, 11, 12, 13, 14, 15, 16, 17, 18, 19, 20, 21, 22, 1, 7] rfl
      have hD9 := hD.sub (ws' := ((a0, .inr (7, [.ref a3, g14, g15, .ref a4, .ref a5, g16, g17, g18, .int o29.2.1, .int o29.2.2])) :: bX4 a2 un kn o45.2 (bX6 a3 up kp p_p (bX4 a4 un2 kn2 (n2_n.1, n2_n.2.1, (n2_n.2.2.1 + o64), (upd n2_n.2.2.2.1 (k1).toNatClampNeg (2 : Int32)), n2_n.2.2.2.2) ([(a5, .inr (2, [.ref a6, g23, .int o45.1.1, .int o45.1.2.1, .int o45.1.2.2])), (a6, .inl (cB24, 16, .inr (.inr (.inr (.inr kf25)))))]))))) [0, 2, 3, 4, 5, 6, 8, 9, 10, 11, 12, 13, 14, 15, 16, 17, 18, 19, 20, 21, 22, 1, 7] (by decide) rfl
      have hK9 := hK.sub (tys' := []) [] rfl
      rw [hQQ]
      exact W.iret (v := o64) hx hb hr (fun t ht hW => ⟨⟨o64, (), rfl, rfl, by rw [ht]; exact hP9, va_K.moved hW.alike hK9, hD9⟩, hS.F ht⟩) hS.2.2 dX10_sell_92
    · have h := (if_neg c32).symm.trans h
      refine lv_iconst (v := (-1)) hx hb dX10_sell_35 (by decide) ?_
      obtain rfl := Option.some.inj h
      have hP9 := hP.sub (ws' := ((a0, .inr (7, [.ref a3, g14, g15, .ref a4, .ref a5, g16, g17, g18, .int o29.2.1, .int o29.2.2])) :: bX4 a2 un kn n_n (bX6 a3 up kp p_p (bX4 a4 un2 kn2 n2_n ([(a5, .inr (2, [.ref a6, g23, .int h_h.1, .int h_h.2.1, .int h_h.2.2])), (a6, .inl (cB24, 16, .inr (.inr (.inr (.inr kf25)))))]))))) [22, 0, 1, 2, 3, 4, 12, 13, 14, 15, 16, 17, 18, 19, 20, 21, 5, 6, 7, 8, 9, 10, 11] rfl
      have hD9 := hD.sub (ws' := ((a0, .inr (7, [.ref a3, g14, g15, .ref a4, .ref a5, g16, g17, g18, .int o29.2.1, .int o29.2.2])) :: bX4 a2 un kn n_n (bX6 a3 up kp p_p (bX4 a4 un2 kn2 n2_n ([(a5, .inr (2, [.ref a6, g23, .int h_h.1, .int h_h.2.1, .int h_h.2.2])), (a6, .inl (cB24, 16, .inr (.inr (.inr (.inr kf25)))))]))))) [22, 0, 1, 2, 3, 4, 12, 13, 14, 15, 16, 17, 18, 19, 20, 21, 5, 6, 7, 8, 9, 10, 11] (by decide) rfl
      have hK9 := hK.sub (tys' := []) [] rfl
      rw [hQQ]
      exact W.iret (v := (-1 : Int32)) hx hb hr (fun t ht hW => ⟨⟨(-1 : Int32), (), rfl, rfl, by rw [ht]; exact hP9, va_K.moved hW.alike hK9, hD9⟩, hS.F ht⟩) hS.2.2 dX10_sell_36
  have J28 : ∀ (H : Heap) (locs : List Loc) (ls : Array Slot), f_X10_sell_J28 k1 x_x n_n p_p n2_n h_h o2 = some out → va_P (dC, dI) vwCl (bX4 a2 un kn n_n (bX4 a4 un2 kn2 n2_n ((a5, .inr (2, [.ref a6, g23, .int h_h.1, .int h_h.2.1, .int h_h.2.2])) :: (a6, .inl (cB24, 16, .inr (.inr (.inr (.inr kf25))))) :: (a0, .inr (7, [.ref a3, g14, g15, .ref a4, .ref a5, g16, g17, g18, .int x_x.1, .int x_x.2])) :: bX6 a3 up kp p_p []))) H → va_D A (bX4 a2 un kn n_n (bX4 a4 un2 kn2 n2_n ((a5, .inr (2, [.ref a6, g23, .int h_h.1, .int h_h.2.1, .int h_h.2.2])) :: (a6, .inl (cB24, 16, .inr (.inr (.inr (.inr kf25))))) :: (a0, .inr (7, [.ref a3, g14, g15, .ref a4, .ref a5, g16, g17, g18, .int x_x.1, .int x_x.2])) :: bX6 a3 up kp p_p []))) → va_S A s.heap H locs → lv_has ls 4 [(2, .int o2), (0, .ref a0), (1, .int k1)] → W p l e (headSpec vfX10_sell { frames := 4, cells := 0, slots := 0, locals := 103 }).room s m ([.ref a0, .int k1]).toArray below meth c H locs 0 0 QQ (F0 m 28 ls [.ref a0]) := by
    intro  H locs ls h  hP hD hS hl
    rw [f_X10_sell_J28] at h
    refine lv_iload_n hx hb dX10_sell_28 rfl (lv_at hl 0 rfl) ?_
    exact J29 o2 H _ ls h  hP hD hS (lv_sub hl [1, 2] rfl)
  refine lv_if_ne (tgt := 28) hx hb dX10_sell_8 (by decide) (fun c8 => ?_) (fun c8 => ?_)
  · have h := (if_neg c8).symm.trans h
    exact J28  H _ ls h  hP hD hS (lv_sub hl [0, 1, 2] rfl)
  · have h := (if_pos c8).symm.trans h
    refine lv_aload_n hx hb dX10_sell_11 rfl (lv_at hl 1 rfl) ?_
    refine va_get (D := (dC, dI)) (ci := 7) (v := .ref a4) (C := RX10) (T := TX10) (N := 10) hx hb hts ifX10_sell_X10 hown hK hP 12 rfl rfl 3 (by decide) (hts (.fieldLink RX10 29 "HookPier" "now" "LHookPier$Now;") (List.mem_of_getElem? (i := 9) rfl)) (fun _ h9 => h9) rfl dX10_sell_12 ?_
    refine va_get (D := (dC, dI)) (ci := 3) (v := .ref (un2 0)) (C := RX4) (T := TX4) (N := 7) hx hb hts ifX10_sell_X4 hown hK hP 5 rfl rfl 3 (by decide) (hts (.fieldLink RX10 125 "HookPier$Now" "stage" "[I") (List.mem_of_getElem? (i := 19) rfl)) (fun _ h9 => h9) rfl dX10_sell_15 ?_
    refine lv_iload_n hx hb dX10_sell_18 rfl (lv_at hl 2 rfl) ?_
    obtain ⟨hg19, h⟩ := gA_of h
    refine va_iald hx hb hK hP 6 13 rfl rfl hg19 dX10_sell_19 ?_
    refine lv_iconst (v := 1) hx hb dX10_sell_20 (by decide) ?_
    refine lv_icmp_eq (tgt := 28) hx hb dX10_sell_21 (by decide) (fun c21 => ?_) (fun c21 => ?_)
    · have h := (if_pos c21).symm.trans h
      exact J28  H _ ls h  hP hD hS (lv_sub hl [0, 1, 2] rfl)
    · have h := (if_neg c21).symm.trans h
      refine lv_iconst (v := 5) hx hb dX10_sell_24 (by decide) ?_
      refine lv_goto (tgt := 29) hx hb dX10_sell_25 (by decide) ?_
      exact J29 (5 : Int32) H _ ls h  hP hD hS (lv_sub hl [1, 2] rfl)
theorem dX10_pierTrouble_0 : decode cX10_pierTrouble 0 = .ok (.aload_n 0, 1) := by decide +kernel
theorem dX10_pierTrouble_1 : decode cX10_pierTrouble 1 = .ok (.getfield 10, 3) := by decide +kernel
theorem dX10_pierTrouble_10 : decode cX10_pierTrouble 10 = .ok (.iconst 1, 1) := by decide +kernel
theorem dX10_pierTrouble_11 : decode cX10_pierTrouble 11 = .ok (.goto 4, 3) := by decide +kernel
theorem dX10_pierTrouble_14 : decode cX10_pierTrouble 14 = .ok (.iconst 0, 1) := by decide +kernel
theorem dX10_pierTrouble_15 : decode cX10_pierTrouble 15 = .ok (.ireturn, 1) := by decide +kernel
theorem dX10_pierTrouble_4 : decode cX10_pierTrouble 4 = .ok (.getfield 233, 3) := by decide +kernel
theorem dX10_pierTrouble_7 : decode cX10_pierTrouble 7 = .ok (.ifCond .ne 7, 3) := by decide +kernel
def vfX10_pierTrouble : List Cond := List.cons (.code yX10_pierTrouble cX10_pierTrouble 1 (some .int)) (apW [.fieldLink RX10 10 "HookPier" "plan" "LHookPier$Plan;", .fieldLink RX10 233 "HookPier$Plan" "spots" "I"] (apW wsX100 (wsX60)))
theorem ifX10_pierTrouble_X10 : ∀ w ∈ wsX100, w ∈ vfX10_pierTrouble := fun _ h => (List.mem_cons_of_mem _ (List.mem_append_right _ (List.mem_append_left _ h)))
theorem ifX10_pierTrouble_X6 : ∀ w ∈ wsX60, w ∈ vfX10_pierTrouble := fun _ h => (List.mem_cons_of_mem _ (List.mem_append_right _ (List.mem_append_right _ h)))
theorem qfX10_pierTrouble : Good vfX10_pierTrouble := gd_cons (by decide +kernel) (gd_app (gd_dec (by decide +kernel) : Good [.fieldLink RX10 10 "HookPier" "plan" "LHookPier$Plan;", .fieldLink RX10 233 "HookPier$Plan" "spots" "I"]) (gd_app qsX10 qsX6))
set_option maxHeartbeats 2000000 in
set_option maxRecDepth 100000 in
theorem kfX10_pierTrouble (l : Launch) (dC : Nat → ClassId) (dI : Nat → Nat → Nat) (a0 : Nat) (a1 : Nat) (up : Nat → Nat) (kp : Nat → ClassId) (g4 : Value) (g5 : Value) (g6 : Value) (g7 : Value) (g8 : Value) (g9 : Value) (g10 : Value) (g11 : Value) (g12 : Value) (p_p : TX6_p) (sz : Nat) (out : Int32) (h : f_X10_pierTrouble p_p = out) : Met l yX10_pierTrouble vfX10_pierTrouble ({ frames := 0, cells := 0, slots := 0, locals := 0 }) (PC (dC, dI) [.ref a0] sz ((a0, .inr (7, [.ref a1, g4, g5, g6, g7, g8, g9, g10, g11, g12])) :: bX6 a1 up kp p_p []) (tX6 kp ([]))) (va_Qi (S := Unit) (fun (r : Int32) _ => r = out) (fun _ t => BC (dC, dI) (va_A ((a0, .inr (7, [.ref a1, g4, g5, g6, g7, g8, g9, g10, g11, g12])) :: bX6 a1 up kp p_p []) sz) ((a0, .inr (7, [.ref a1, g4, g5, g6, g7, g8, g9, g10, g11, g12])) :: bX6 a1 up kp p_p []) [] t) (va_A ((a0, .inr (7, [.ref a1, g4, g5, g6, g7, g8, g9, g10, g11, g12])) :: bX6 a1 up kp p_p []) sz)) 0 0 (va_A ((a0, .inr (7, [.ref a1, g4, g5, g6, g7, g8, g9, g10, g11, g12])) :: bX6 a1 up kp p_p []) sz) := by
  refine Met.ofW (cc := cX10_pierTrouble) (maxL := 1) (ret := (some .int)) (by decide) rfl ?_
  intro p e s m args below meth c s₁ B0 hml hv
  obtain ⟨rfl, hsz, hP, hK, hD0, hN⟩ := hv
  have hx := B0.exec
  have hb := B0.bytes
  have hr := B0.returns
  have hts := atoms_spec (ws := vfX10_pierTrouble) B0.pre
  have hown : s.vm.findClass RX10 = some m.cls := findClass_of_methodNamed B0.named
  have hlocks := B0.notSynchronized
  subst hsz
  have hD := hD0.self (sz := s.heap.size)
  generalize hAe : va_A ((a0, .inr (7, [.ref a1, g4, g5, g6, g7, g8, g9, g10, g11, g12])) :: bX6 a1 up kp p_p []) s.heap.size = A at hD ⊢
  have hA : ∀ q : Nat, s.heap.size ≤ q → A q := fun q h => by rw [← hAe]; exact Or.inr h
  have hS : va_S A s.heap s.heap [] := va_S.rf
  have hP : va_P (dC, dI) vwCl ((a0, .inr (7, [.ref a1, g4, g5, g6, g7, g8, g9, g10, g11, g12])) :: bX6 a1 up kp p_p []) s.heap := hP
  have hl := lv_entry ([.ref a0]) (n := 1) (Nat.le_of_ble_eq_true rfl)
  rw [lg_entry_eq]
  generalize (lg_sl ([.ref a0]) ++ List.replicate (1 - (lg_sl ([.ref a0])).length) Slot.unset).toArray = ls at hl ⊢
  have hl : lv_has ls 1 [(0, .ref a0)] := hl
  refine W_q (fun QQ hQQ => ?_)
  rw [f_X10_pierTrouble] at h
  refine lv_aload_n hx hb dX10_pierTrouble_0 rfl (lv_at hl 0 rfl) ?_
  refine va_get (D := (dC, dI)) (ci := 7) (v := .ref a1) (C := RX10) (T := TX10) (N := 10) hx hb hts ifX10_pierTrouble_X10 hown hK hP 0 rfl rfl 0 (by decide) (hts (.fieldLink RX10 10 "HookPier" "plan" "LHookPier$Plan;") (List.mem_of_getElem? (i := 1) rfl)) (fun _ h9 => h9) rfl dX10_pierTrouble_1 ?_
  refine va_get (D := (dC, dI)) (ci := 4) (v := .int p_p.1) (C := RX6) (T := TX6) (N := 18) hx hb hts ifX10_pierTrouble_X6 hown hK hP 1 rfl rfl 0 (by decide) (hts (.fieldLink RX10 233 "HookPier$Plan" "spots" "I") (List.mem_of_getElem? (i := 2) rfl)) (fun _ h9 => h9) rfl dX10_pierTrouble_4 ?_
  refine lv_if_ne (tgt := 14) hx hb dX10_pierTrouble_7 (by decide) (fun c7 => ?_) (fun c7 => ?_)
  · have h := (if_neg c7).symm.trans h
    refine lv_iconst (v := 0) hx hb dX10_pierTrouble_14 (by decide) ?_
    obtain rfl := h
    have hP9 := hP.sub (ws' := ((a0, .inr (7, [.ref a1, g4, g5, g6, g7, g8, g9, g10, g11, g12])) :: bX6 a1 up kp p_p [])) [0, 1, 2, 3, 4, 5, 6, 7, 8, 9, 10] rfl
    have hD9 := hD.sub (ws' := ((a0, .inr (7, [.ref a1, g4, g5, g6, g7, g8, g9, g10, g11, g12])) :: bX6 a1 up kp p_p [])) [0, 1, 2, 3, 4, 5, 6, 7, 8, 9, 10] (by decide) rfl
    have hK9 := hK.sub (tys' := []) [] rfl
    rw [hQQ]
    exact W.iret (v := (0 : Int32)) hx hb hr (fun t ht hW => ⟨⟨(0 : Int32), (), rfl, rfl, by rw [ht]; exact hP9, va_K.moved hW.alike hK9, hD9⟩, hS.F ht⟩) hS.2.2 dX10_pierTrouble_15
  · have h := (if_pos c7).symm.trans h
    refine lv_iconst (v := 1) hx hb dX10_pierTrouble_10 (by decide) ?_
    refine lv_goto (tgt := 15) hx hb dX10_pierTrouble_11 (by decide) ?_
    obtain rfl := h
    have hP9 := hP.sub (ws' := ((a0, .inr (7, [.ref a1, g4, g5, g6, g7, g8, g9, g10, g11, g12])) :: bX6 a1 up kp p_p [])) [0, 1, 2, 3, 4, 5, 6, 7, 8, 9, 10] rfl
    have hD9 := hD.sub (ws' := ((a0, .inr (7, [.ref a1, g4, g5, g6, g7, g8, g9, g10, g11, g12])) :: bX6 a1 up kp p_p [])) [0, 1, 2, 3, 4, 5, 6, 7, 8, 9, 10] (by decide) rfl
    have hK9 := hK.sub (tys' := []) [] rfl
    rw [hQQ]
    exact W.iret (v := (1 : Int32)) hx hb hr (fun t ht hW => ⟨⟨(1 : Int32), (), rfl, rfl, by rw [ht]; exact hP9, va_K.moved hW.alike hK9, hD9⟩, hS.F ht⟩) hS.2.2 dX10_pierTrouble_15
theorem dX10_spotOf_0 : decode cX10_spotOf 0 = .ok (.iload_n 0, 1) := by decide +kernel
theorem dX10_spotOf_1 : decode cX10_spotOf 1 = .ok (.bipush 100, 2) := by decide +kernel
theorem dX10_spotOf_3 : decode cX10_spotOf 3 = .ok (.idiv, 1) := by decide +kernel
theorem dX10_spotOf_4 : decode cX10_spotOf 4 = .ok (.ireturn, 1) := by decide +kernel
def vfX10_spotOf : List Cond := .code yX10_spotOf cX10_spotOf 1 (some .int) :: ([])
theorem qfX10_spotOf : Good vfX10_spotOf := gd_cons (by decide +kernel) (gd_dec (by decide +kernel) : Good [])
set_option maxHeartbeats 2000000 in
set_option maxRecDepth 100000 in
theorem kfX10_spotOf (l : Launch) (dC : Nat → ClassId) (dI : Nat → Nat → Nat) (k0 : Int32) (sz : Nat) (out : Int32) (h : f_X10_spotOf k0 = out) : Met l yX10_spotOf vfX10_spotOf ({ frames := 0, cells := 0, slots := 0, locals := 0 }) (PC (dC, dI) [.int k0] sz [] ([])) (va_Qi (S := Unit) (fun (r : Int32) _ => r = out) (fun _ t => BC (dC, dI) (va_A [] sz) [] [] t) (va_A [] sz)) 0 0 (va_A [] sz) := by
  refine Met.ofW (cc := cX10_spotOf) (maxL := 1) (ret := (some .int)) (by decide) rfl ?_
  intro p e s m args below meth c s₁ B0 hml hv
  obtain ⟨rfl, hsz, hP, hK, hD0, hN⟩ := hv
  have hx := B0.exec
  have hb := B0.bytes
  have hr := B0.returns
  have hts := atoms_spec (ws := vfX10_spotOf) B0.pre
  have hown : s.vm.findClass RX10 = some m.cls := findClass_of_methodNamed B0.named
  have hlocks := B0.notSynchronized
  subst hsz
  have hD := hD0.self (sz := s.heap.size)
  generalize hAe : va_A [] s.heap.size = A at hD ⊢
  have hA : ∀ q : Nat, s.heap.size ≤ q → A q := fun q h => by rw [← hAe]; exact Or.inr h
  have hS : va_S A s.heap s.heap [] := va_S.rf
  have hP : va_P (dC, dI) vwCl [] s.heap := hP
  have hl := lv_entry ([.int k0]) (n := 1) (Nat.le_of_ble_eq_true rfl)
  rw [lg_entry_eq]
  generalize (lg_sl ([.int k0]) ++ List.replicate (1 - (lg_sl ([.int k0])).length) Slot.unset).toArray = ls at hl ⊢
  have hl : lv_has ls 1 [(0, .int k0)] := hl
  refine W_q (fun QQ hQQ => ?_)
  rw [f_X10_spotOf] at h
  refine lv_iload_n hx hb dX10_spotOf_0 rfl (lv_at hl 0 rfl) ?_
  refine lv_bipush (v := 100) hx hb dX10_spotOf_1 (by decide) ?_
  refine lv_idiv hx hb dX10_spotOf_3 (by decide) ?_
  obtain rfl := h
  have hP9 := hP.sub (ws' := []) [] rfl
  have hD9 := hD.sub (ws' := []) [] (by decide) rfl
  have hK9 := hK.sub (tys' := []) [] rfl
  rw [hQQ]
  exact W.iret (v := (k0 / (100 : Int32))) hx hb hr (fun t ht hW => ⟨⟨(k0 / (100 : Int32)), (), rfl, rfl, by rw [ht]; exact hP9, va_K.moved hW.alike hK9, hD9⟩, hS.F ht⟩) hS.2.2 dX10_spotOf_4
theorem dX6_isTangle_0 : decode cX6_isTangle 0 = .ok (.iload_n 2, 1) := by decide +kernel
theorem dX6_isTangle_1 : decode cX6_isTangle 1 = .ok (.iload 4, 2) := by decide +kernel
theorem dX6_isTangle_11 : decode cX6_isTangle 11 = .ok (.iload_n 1, 1) := by decide +kernel
theorem dX6_isTangle_12 : decode cX6_isTangle 12 = .ok (.iaload, 1) := by decide +kernel
theorem dX6_isTangle_13 : decode cX6_isTangle 13 = .ok (.aload_n 0, 1) := by decide +kernel
theorem dX6_isTangle_14 : decode cX6_isTangle 14 = .ok (.getfield 39, 3) := by decide +kernel
theorem dX6_isTangle_17 : decode cX6_isTangle 17 = .ok (.iload_n 3, 1) := by decide +kernel
theorem dX6_isTangle_18 : decode cX6_isTangle 18 = .ok (.iaload, 1) := by decide +kernel
theorem dX6_isTangle_19 : decode cX6_isTangle 19 = .ok (.iadd, 1) := by decide +kernel
theorem dX6_isTangle_20 : decode cX6_isTangle 20 = .ok (.if_icmp .gt 7, 3) := by decide +kernel
theorem dX6_isTangle_23 : decode cX6_isTangle 23 = .ok (.iconst 1, 1) := by decide +kernel
theorem dX6_isTangle_24 : decode cX6_isTangle 24 = .ok (.goto 4, 3) := by decide +kernel
theorem dX6_isTangle_27 : decode cX6_isTangle 27 = .ok (.iconst 0, 1) := by decide +kernel
theorem dX6_isTangle_28 : decode cX6_isTangle 28 = .ok (.ireturn, 1) := by decide +kernel
theorem dX6_isTangle_3 : decode cX6_isTangle 3 = .ok (.isub, 1) := by decide +kernel
theorem dX6_isTangle_4 : decode cX6_isTangle 4 = .ok (.invokestatic 89, 3) := by decide +kernel
theorem dX6_isTangle_7 : decode cX6_isTangle 7 = .ok (.aload_n 0, 1) := by decide +kernel
theorem dX6_isTangle_8 : decode cX6_isTangle 8 = .ok (.getfield 39, 3) := by decide +kernel
def vfX6_isTangle : List Cond := List.cons (.code yX6_isTangle cX6_isTangle 5 (some .boolean)) (apW [.methodLink RX6 89 Lib.Math.abs.name, .static Lib.Math.abs.name, .initialized "java/lang/Math", .code Lib.Math.abs.name Lib.Math.abs.code 1 (some .int), .fieldLink RX6 39 "HookPier$Plan" "reach" "[I"] (wsX60))
theorem ifX6_isTangle_X6 : ∀ w ∈ wsX60, w ∈ vfX6_isTangle := fun _ h => (List.mem_cons_of_mem _ (List.mem_append_right _ h))
theorem qfX6_isTangle : Good vfX6_isTangle := gd_cons (by decide +kernel) (gd_app (gd_dec (by decide +kernel) : Good [.methodLink RX6 89 Lib.Math.abs.name, .static Lib.Math.abs.name, .initialized "java/lang/Math", .code Lib.Math.abs.name Lib.Math.abs.code 1 (some .int), .fieldLink RX6 39 "HookPier$Plan" "reach" "[I"]) qsX6)
set_option maxHeartbeats 2000000 in
set_option maxRecDepth 100000 in
theorem kfX6_isTangle (l : Launch) (dC : Nat → ClassId) (dI : Nat → Nat → Nat) (a0 : Nat) (k1 : Int32) (k2 : Int32) (k3 : Int32) (k4 : Int32) (up : Nat → Nat) (kp : Nat → ClassId) (p_p : TX6_p) (sz : Nat) (out : Int32) (h : f_X6_isTangle k1 k2 k3 k4 p_p = some out) : Met l yX6_isTangle vfX6_isTangle ({ frames := 1, cells := 0, slots := 0, locals := 21 }) (PC (dC, dI) [.ref a0, .int k1, .int k2, .int k3, .int k4] sz (bX6 a0 up kp p_p []) (tX6 kp ([]))) (va_Qi (S := Unit) (fun (r : Int32) _ => r = out ∧ (0 ≤ r.toInt ∧ r.toInt ≤ 1)) (fun _ t => BC (dC, dI) (va_A (bX6 a0 up kp p_p []) sz) (bX6 a0 up kp p_p []) [] t) (va_A (bX6 a0 up kp p_p []) sz)) 0 0 (va_A (bX6 a0 up kp p_p []) sz) := by
  refine Met.ofW (cc := cX6_isTangle) (maxL := 5) (ret := (some .boolean)) (by decide) rfl ?_
  intro p e s m args below meth c s₁ B0 hml hv
  obtain ⟨rfl, hsz, hP, hK, hD0, hN⟩ := hv
  have hx := B0.exec
  have hb := B0.bytes
  have hr := B0.returns
  have hts := atoms_spec (ws := vfX6_isTangle) B0.pre
  have hown : s.vm.findClass RX6 = some m.cls := findClass_of_methodNamed B0.named
  have hlocks := B0.notSynchronized
  subst hsz
  have hD := hD0.self (sz := s.heap.size)
  generalize hAe : va_A (bX6 a0 up kp p_p []) s.heap.size = A at hD ⊢
  have hA : ∀ q : Nat, s.heap.size ≤ q → A q := fun q h => by rw [← hAe]; exact Or.inr h
  have hS : va_S A s.heap s.heap [] := va_S.rf
  have hP : va_P (dC, dI) vwCl (bX6 a0 up kp p_p []) s.heap := hP
  have hl := lv_entry ([.ref a0, .int k1, .int k2, .int k3, .int k4]) (n := 5) (Nat.le_of_ble_eq_true rfl)
  rw [lg_entry_eq]
  generalize (lg_sl ([.ref a0, .int k1, .int k2, .int k3, .int k4]) ++ List.replicate (5 - (lg_sl ([.ref a0, .int k1, .int k2, .int k3, .int k4])).length) Slot.unset).toArray = ls at hl ⊢
  have hl : lv_has ls 5 [(0, .ref a0), (1, .int k1), (2, .int k2), (3, .int k3), (4, .int k4)] := hl
  refine W_q (fun QQ hQQ => ?_)
  rw [f_X6_isTangle] at h
  refine lv_iload_n hx hb dX6_isTangle_0 rfl (lv_at hl 2 rfl) ?_
  refine lv_iload hx hb dX6_isTangle_1 (lv_at hl 4 rfl) ?_
  refine lv_isub hx hb dX6_isTangle_3 ?_
  refine va_mabs hx hb (by rw [hml]; exact hl.1.symm) hown (hts (.methodLink RX6 89 Lib.Math.abs.name) (List.mem_of_getElem? (i := 1) rfl)) (hts (.static Lib.Math.abs.name) (List.mem_of_getElem? (i := 2) rfl)) (hts (.initialized "java/lang/Math") (List.mem_of_getElem? (i := 3) rfl)) (hts (.code Lib.Math.abs.name Lib.Math.abs.code 1 (some .int)) (List.mem_of_getElem? (i := 4) rfl)) (Nat.le_of_ble_eq_true rfl) (Nat.le_of_ble_eq_true rfl) (Nat.le_of_ble_eq_true rfl) (Nat.le_of_ble_eq_true rfl) dX6_isTangle_4 ?_
  refine lv_topi (fun z4 ez4 => ?_)
  have h := nm_of h z4 ez4
  refine lv_aload_n hx hb dX6_isTangle_7 rfl (lv_at hl 0 rfl) ?_
  refine va_get (D := (dC, dI)) (ci := 4) (v := .ref (up 0)) (C := RX6) (T := TX6) (N := 18) hx hb hts ifX6_isTangle_X6 hown hK hP 0 rfl rfl 9 (by decide) (hts (.fieldLink RX6 39 "HookPier$Plan" "reach" "[I") (List.mem_of_getElem? (i := 5) rfl)) (fun _ h9 => h9) rfl dX6_isTangle_8 ?_
  refine lv_iload_n hx hb dX6_isTangle_11 rfl (lv_at hl 1 rfl) ?_
  obtain ⟨hg12, h⟩ := gA_of h
  refine va_iald hx hb hK hP 1 0 rfl rfl hg12 dX6_isTangle_12 ?_
  refine lv_aload_n hx hb dX6_isTangle_13 rfl (lv_at hl 0 rfl) ?_
  refine va_get (D := (dC, dI)) (ci := 4) (v := .ref (up 0)) (C := RX6) (T := TX6) (N := 18) hx hb hts ifX6_isTangle_X6 hown hK hP 0 rfl rfl 9 (by decide) (hts (.fieldLink RX6 39 "HookPier$Plan" "reach" "[I") (List.mem_of_getElem? (i := 5) rfl)) (fun _ h9 => h9) rfl dX6_isTangle_14 ?_
  refine lv_iload_n hx hb dX6_isTangle_17 rfl (lv_at hl 3 rfl) ?_
  obtain ⟨hg18, h⟩ := gA_of h
  refine va_iald hx hb hK hP 1 0 rfl rfl hg18 dX6_isTangle_18 ?_
  refine lv_iadd hx hb dX6_isTangle_19 ?_
  refine lv_topi (fun z19 ez19 => ?_)
  have h := nm_of h z19 ez19
  refine lv_icmp_gt (tgt := 27) hx hb dX6_isTangle_20 (by decide) (fun c20 => ?_) (fun c20 => ?_)
  · have h := (if_pos c20).symm.trans h
    refine lv_iconst (v := 0) hx hb dX6_isTangle_27 (by decide) ?_
    obtain rfl := Option.some.inj h
    have hP9 := hP.sub (ws' := (bX6 a0 up kp p_p [])) [0, 1, 2, 3, 4, 5, 6, 7, 8, 9] rfl
    have hD9 := hD.sub (ws' := (bX6 a0 up kp p_p [])) [0, 1, 2, 3, 4, 5, 6, 7, 8, 9] (by decide) rfl
    have hK9 := hK.sub (tys' := []) [] rfl
    rw [hQQ]
    exact W.zret (v := (0 : Int32)) hx hb hr rfl (fun t ht hW => ⟨⟨(0 : Int32), (), rfl, ⟨rfl, (by decide)⟩, by rw [ht]; exact hP9, va_K.moved hW.alike hK9, hD9⟩, hS.F ht⟩) hS.2.2 dX6_isTangle_28
  · have h := (if_neg c20).symm.trans h
    refine lv_iconst (v := 1) hx hb dX6_isTangle_23 (by decide) ?_
    refine lv_goto (tgt := 28) hx hb dX6_isTangle_24 (by decide) ?_
    obtain rfl := Option.some.inj h
    have hP9 := hP.sub (ws' := (bX6 a0 up kp p_p [])) [0, 1, 2, 3, 4, 5, 6, 7, 8, 9] rfl
    have hD9 := hD.sub (ws' := (bX6 a0 up kp p_p [])) [0, 1, 2, 3, 4, 5, 6, 7, 8, 9] (by decide) rfl
    have hK9 := hK.sub (tys' := []) [] rfl
    rw [hQQ]
    exact W.zret (v := (1 : Int32)) hx hb hr rfl (fun t ht hW => ⟨⟨(1 : Int32), (), rfl, ⟨rfl, (by decide)⟩, by rw [ht]; exact hP9, va_K.moved hW.alike hK9, hD9⟩, hS.F ht⟩) hS.2.2 dX6_isTangle_28
theorem dX4_isTangled_0 : decode cX4_isTangled 0 = .ok (.iconst 0, 1) := by decide +kernel
theorem dX4_isTangled_1 : decode cX4_isTangled 1 = .ok (.istore 4, 2) := by decide +kernel
theorem dX4_isTangled_12 : decode cX4_isTangled 12 = .ok (.iload 4, 2) := by decide +kernel
theorem dX4_isTangled_14 : decode cX4_isTangled 14 = .ok (.iload_n 2, 1) := by decide +kernel
theorem dX4_isTangled_15 : decode cX4_isTangled 15 = .ok (.if_icmp .eq 37, 3) := by decide +kernel
theorem dX4_isTangled_18 : decode cX4_isTangled 18 = .ok (.aload_n 0, 1) := by decide +kernel
theorem dX4_isTangled_19 : decode cX4_isTangled 19 = .ok (.getfield 31, 3) := by decide +kernel
theorem dX4_isTangled_22 : decode cX4_isTangled 22 = .ok (.iload 4, 2) := by decide +kernel
theorem dX4_isTangled_24 : decode cX4_isTangled 24 = .ok (.iaload, 1) := by decide +kernel
theorem dX4_isTangled_25 : decode cX4_isTangled 25 = .ok (.iconst (-1), 1) := by decide +kernel
theorem dX4_isTangled_26 : decode cX4_isTangled 26 = .ok (.if_icmp .eq 26, 3) := by decide +kernel
theorem dX4_isTangled_29 : decode cX4_isTangled 29 = .ok (.aload_n 1, 1) := by decide +kernel
theorem dX4_isTangled_3 : decode cX4_isTangled 3 = .ok (.iload 4, 2) := by decide +kernel
theorem dX4_isTangled_30 : decode cX4_isTangled 30 = .ok (.iload_n 2, 1) := by decide +kernel
theorem dX4_isTangled_31 : decode cX4_isTangled 31 = .ok (.iload_n 3, 1) := by decide +kernel
theorem dX4_isTangled_32 : decode cX4_isTangled 32 = .ok (.iload 4, 2) := by decide +kernel
theorem dX4_isTangled_34 : decode cX4_isTangled 34 = .ok (.aload_n 0, 1) := by decide +kernel
theorem dX4_isTangled_35 : decode cX4_isTangled 35 = .ok (.getfield 31, 3) := by decide +kernel
theorem dX4_isTangled_38 : decode cX4_isTangled 38 = .ok (.iload 4, 2) := by decide +kernel
theorem dX4_isTangled_40 : decode cX4_isTangled 40 = .ok (.iaload, 1) := by decide +kernel
theorem dX4_isTangled_41 : decode cX4_isTangled 41 = .ok (.invokestatic 49, 3) := by decide +kernel
theorem dX4_isTangled_44 : decode cX4_isTangled 44 = .ok (.invokevirtual 53, 3) := by decide +kernel
theorem dX4_isTangled_47 : decode cX4_isTangled 47 = .ok (.ifCond .eq 5, 3) := by decide +kernel
theorem dX4_isTangled_5 : decode cX4_isTangled 5 = .ok (.aload_n 1, 1) := by decide +kernel
theorem dX4_isTangled_50 : decode cX4_isTangled 50 = .ok (.iconst 1, 1) := by decide +kernel
theorem dX4_isTangled_51 : decode cX4_isTangled 51 = .ok (.ireturn, 1) := by decide +kernel
theorem dX4_isTangled_52 : decode cX4_isTangled 52 = .ok (.iinc 4 1, 3) := by decide +kernel
theorem dX4_isTangled_55 : decode cX4_isTangled 55 = .ok (.goto (-52), 3) := by decide +kernel
theorem dX4_isTangled_58 : decode cX4_isTangled 58 = .ok (.iconst 0, 1) := by decide +kernel
theorem dX4_isTangled_59 : decode cX4_isTangled 59 = .ok (.ireturn, 1) := by decide +kernel
theorem dX4_isTangled_6 : decode cX4_isTangled 6 = .ok (.getfield 44, 3) := by decide +kernel
theorem dX4_isTangled_9 : decode cX4_isTangled 9 = .ok (.if_icmp .ge 49, 3) := by decide +kernel
def vfX4_isTangled : List Cond := List.cons (.code yX4_isTangled cX4_isTangled 5 (some .boolean)) (apW [.fieldLink RX4 44 "HookPier$Plan" "askers" "I", .fieldLink RX4 31 "HookPier$Now" "line" "[I", .initialized RX10, .static yX10_spotOf, .methodLink RX4 53 yX6_isTangle, .instanceMethod yX6_isTangle, .selects RX6 yX6_isTangle yX6_isTangle, .initialized RX6] (apW wsX60 (apW wsX40 (apW vfX10_spotOf (vfX6_isTangle)))))
theorem ifX4_isTangled_X6 : ∀ w ∈ wsX60, w ∈ vfX4_isTangled := fun _ h => (List.mem_cons_of_mem _ (List.mem_append_right _ (List.mem_append_left _ h)))
theorem ifX4_isTangled_X4 : ∀ w ∈ wsX40, w ∈ vfX4_isTangled := fun _ h => (List.mem_cons_of_mem _ (List.mem_append_right _ (List.mem_append_right _ (List.mem_append_left _ h))))
theorem qfX4_isTangled : Good vfX4_isTangled := gd_cons (by decide +kernel) (gd_app (gd_dec (by decide +kernel) : Good [.fieldLink RX4 44 "HookPier$Plan" "askers" "I", .fieldLink RX4 31 "HookPier$Now" "line" "[I", .initialized RX10, .static yX10_spotOf, .methodLink RX4 53 yX6_isTangle, .instanceMethod yX6_isTangle, .selects RX6 yX6_isTangle yX6_isTangle, .initialized RX6]) (gd_app qsX6 (gd_app qsX4 (gd_app qfX10_spotOf qfX6_isTangle))))
theorem gfX4_isTangled_0 : GoodIn vfX4_isTangled vfX10_spotOf := (goodIn_m (fun _ h => (List.mem_cons_of_mem _ (List.mem_append_right _ (List.mem_append_right _ (List.mem_append_right _ (List.mem_append_left _ h)))))) qfX10_spotOf)
theorem gfX4_isTangled_1 : GoodIn vfX4_isTangled (wsV RX4 53 RX6 yX6_isTangle vfX6_isTangle) := goodIn_app (goodIn_r [.methodLink RX4 53 yX6_isTangle, .instanceMethod yX6_isTangle, .selects RX6 yX6_isTangle yX6_isTangle, .initialized RX6] [5, 6, 7, 8] rfl (by decide +kernel)) (goodIn_m (fun _ h => (List.mem_cons_of_mem _ (List.mem_append_right _ (List.mem_append_right _ (List.mem_append_right _ (List.mem_append_right _ h)))))) qfX6_isTangle)
set_option maxHeartbeats 2000000 in
set_option maxRecDepth 100000 in
theorem kfX4_isTangled (l : Launch) (dC : Nat → ClassId) (dI : Nat → Nat → Nat) (a0 : Nat) (a1 : Nat) (k2 : Int32) (k3 : Int32) (un : Nat → Nat) (kn : Nat → ClassId) (up : Nat → Nat) (kp : Nat → ClassId) (n_n : TX4_n) (p_p : TX6_p) (sz : Nat) (out : Int32) (h : f_X4_isTangled k2 k3 n_n p_p = some out) : Met l yX4_isTangled vfX4_isTangled ({ frames := 2, cells := 0, slots := 0, locals := 45 }) (PC (dC, dI) [.ref a0, .ref a1, .int k2, .int k3] sz (bX4 a0 un kn n_n (bX6 a1 up kp p_p [])) (tX4 kn (tX6 kp ([])))) (va_Qi (S := Unit) (fun (r : Int32) _ => r = out ∧ (0 ≤ r.toInt ∧ r.toInt ≤ 1)) (fun _ t => BC (dC, dI) (va_A (bX4 a0 un kn n_n (bX6 a1 up kp p_p [])) sz) (bX4 a0 un kn n_n (bX6 a1 up kp p_p [])) [] t) (va_A (bX4 a0 un kn n_n (bX6 a1 up kp p_p [])) sz)) 0 0 (va_A (bX4 a0 un kn n_n (bX6 a1 up kp p_p [])) sz) := by
  refine Met.ofW (cc := cX4_isTangled) (maxL := 5) (ret := (some .boolean)) (by decide) rfl ?_
  intro p e s m args below meth c s₁ B0 hml hv
  obtain ⟨rfl, hsz, hP, hK, hD0, hN⟩ := hv
  have hx := B0.exec
  have hb := B0.bytes
  have hr := B0.returns
  have hts := atoms_spec (ws := vfX4_isTangled) B0.pre
  have hown : s.vm.findClass RX4 = some m.cls := findClass_of_methodNamed B0.named
  have hlocks := B0.notSynchronized
  subst hsz
  have hD := hD0.self (sz := s.heap.size)
  generalize hAe : va_A (bX4 a0 un kn n_n (bX6 a1 up kp p_p [])) s.heap.size = A at hD ⊢
  have hA : ∀ q : Nat, s.heap.size ≤ q → A q := fun q h => by rw [← hAe]; exact Or.inr h
  have hS : va_S A s.heap s.heap [] := va_S.rf
  have hP : va_P (dC, dI) vwCl (bX4 a0 un kn n_n (bX6 a1 up kp p_p [])) s.heap := hP
  have hl := lv_entry ([.ref a0, .ref a1, .int k2, .int k3]) (n := 5) (Nat.le_of_ble_eq_true rfl)
  rw [lg_entry_eq]
  generalize (lg_sl ([.ref a0, .ref a1, .int k2, .int k3]) ++ List.replicate (5 - (lg_sl ([.ref a0, .ref a1, .int k2, .int k3])).length) Slot.unset).toArray = ls at hl ⊢
  have hl : lv_has ls 5 [(0, .ref a0), (1, .ref a1), (2, .int k2), (3, .int k3)] := hl
  refine W_q (fun QQ hQQ => ?_)
  rw [f_X4_isTangled] at h
  refine lv_iconst (v := 0) hx hb dX4_isTangled_0 (by decide) ?_
  refine lv_istore (lv' := [(4, .int 0), (0, .ref a0), (1, .ref a1), (2, .int k2), (3, .int k3)]) hx hb dX4_isTangled_1 hl (by decide) rfl (fun ls hl => ?_)
  have L3 : ∀ (n3 : Nat) (v3_l4 : Int32) (H : Heap) (locs : List Loc) (ls : Array Slot), f_X4_isTangled_L3 k2 k3 n_n p_p n3 v3_l4 = some out → va_P (dC, dI) vwCl (bX4 a0 un kn n_n (bX6 a1 up kp p_p [])) H → va_D A (bX4 a0 un kn n_n (bX6 a1 up kp p_p [])) → va_S A s.heap H locs → lv_has ls 5 [(4, .int v3_l4), (0, .ref a0), (1, .ref a1), (2, .int k2), (3, .int k3)] → W p l e (headSpec vfX4_isTangled { frames := 2, cells := 0, slots := 0, locals := 45 }).room s m ([.ref a0, .ref a1, .int k2, .int k3]).toArray below meth c H locs 0 0 QQ (F0 m 3 ls []) := by
    intro n3
    induction n3 with
    | zero =>
      intro v3_l4 H locs ls h  _ _ _ _
      rw [f_X4_isTangled_L3] at h
      cases h
    | succ n3 ih3 =>
      intro v3_l4 H locs ls h  hP hD hS hl
      rw [f_X4_isTangled_L3] at h
      refine lv_iload hx hb dX4_isTangled_3 (lv_at hl 0 rfl) ?_
      refine lv_aload_n hx hb dX4_isTangled_5 rfl (lv_at hl 2 rfl) ?_
      refine va_get (D := (dC, dI)) (ci := 4) (v := .int p_p.2.2.2.2.2.1) (C := RX6) (T := TX6) (N := 18) hx hb hts ifX4_isTangled_X6 hown hK hP 5 rfl rfl 5 (by decide) (hts (.fieldLink RX4 44 "HookPier$Plan" "askers" "I") (List.mem_of_getElem? (i := 1) rfl)) (fun _ h9 => h9) rfl dX4_isTangled_6 ?_
      refine lv_icmp_ge (tgt := 58) hx hb dX4_isTangled_9 (by decide) (fun c9 => ?_) (fun c9 => ?_)
      · have h := (if_pos c9).symm.trans h
        refine lv_iconst (v := 0) hx hb dX4_isTangled_58 (by decide) ?_
        obtain rfl := Option.some.inj h
        have hP9 := hP.sub (ws' := (bX4 a0 un kn n_n (bX6 a1 up kp p_p []))) [0, 1, 2, 3, 4, 5, 6, 7, 8, 9, 10, 11, 12, 13, 14] rfl
        have hD9 := hD.sub (ws' := (bX4 a0 un kn n_n (bX6 a1 up kp p_p []))) [0, 1, 2, 3, 4, 5, 6, 7, 8, 9, 10, 11, 12, 13, 14] (by decide) rfl
        have hK9 := hK.sub (tys' := []) [] rfl
        rw [hQQ]
        exact W.zret (v := (0 : Int32)) hx hb hr rfl (fun t ht hW => ⟨⟨(0 : Int32), (), rfl, ⟨rfl, (by decide)⟩, by rw [ht]; exact hP9, va_K.moved hW.alike hK9, hD9⟩, hS.F ht⟩) hS.2.2 dX4_isTangled_59
      · have h := (if_neg c9).symm.trans h
        refine lv_iload hx hb dX4_isTangled_12 (lv_at hl 0 rfl) ?_
        refine lv_iload_n hx hb dX4_isTangled_14 rfl (lv_at hl 3 rfl) ?_
        have J52 : ∀ (H : Heap) (locs : List Loc) (ls : Array Slot), f_X4_isTangled_J52 (f_X4_isTangled_L3 k2 k3 n_n p_p n3) v3_l4 = some out → va_P (dC, dI) vwCl (bX4 a0 un kn n_n (bX6 a1 up kp p_p [])) H → va_D A (bX4 a0 un kn n_n (bX6 a1 up kp p_p [])) → va_S A s.heap H locs → lv_has ls 5 [(4, .int v3_l4), (0, .ref a0), (1, .ref a1), (2, .int k2), (3, .int k3)] → W p l e (headSpec vfX4_isTangled { frames := 2, cells := 0, slots := 0, locals := 45 }).room s m ([.ref a0, .ref a1, .int k2, .int k3]).toArray below meth c H locs 0 0 QQ (F0 m 52 ls []) := by
          intro  H locs ls h  hP hD hS hl
          rw [f_X4_isTangled_J52] at h
          refine lv_iinc (v := (v3_l4 + (1 : Int32))) (lv' := [(4, .int (v3_l4 + (1 : Int32))), (0, .ref a0), (1, .ref a1), (2, .int k2), (3, .int k3)]) hx hb dX4_isTangled_52 hl (k := 0) rfl rfl (by decide) rfl (fun ls hl => ?_)
          refine lv_goto (tgt := 3) hx hb dX4_isTangled_55 (by decide) ?_
          exact ih3 (v3_l4 + (1 : Int32)) H _ ls h  hP hD hS (lv_sub hl [0, 1, 2, 3, 4] rfl)
        refine lv_icmp_eq (tgt := 52) hx hb dX4_isTangled_15 (by decide) (fun c15 => ?_) (fun c15 => ?_)
        · have h := (if_pos c15).symm.trans h
          exact J52  H _ ls h  hP hD hS (lv_sub hl [0, 1, 2, 3, 4] rfl)
        · have h := (if_neg c15).symm.trans h
          refine lv_aload_n hx hb dX4_isTangled_18 rfl (lv_at hl 1 rfl) ?_
          refine va_get (D := (dC, dI)) (ci := 3) (v := .ref (un 3)) (C := RX4) (T := TX4) (N := 7) hx hb hts ifX4_isTangled_X4 hown hK hP 0 rfl rfl 6 (by decide) (hts (.fieldLink RX4 31 "HookPier$Now" "line" "[I") (List.mem_of_getElem? (i := 2) rfl)) (fun _ h9 => h9) rfl dX4_isTangled_19 ?_
          refine lv_iload hx hb dX4_isTangled_22 (lv_at hl 0 rfl) ?_
          obtain ⟨hg24, h⟩ := gA_of h
          refine va_iald hx hb hK hP 4 3 rfl rfl hg24 dX4_isTangled_24 ?_
          refine lv_iconst (v := (-1)) hx hb dX4_isTangled_25 (by decide) ?_
          refine lv_icmp_eq (tgt := 52) hx hb dX4_isTangled_26 (by decide) (fun c26 => ?_) (fun c26 => ?_)
          · have h := (if_pos c26).symm.trans h
            exact J52  H _ ls h  hP hD hS (lv_sub hl [0, 1, 2, 3, 4] rfl)
          · have h := (if_neg c26).symm.trans h
            refine lv_aload_n hx hb dX4_isTangled_29 rfl (lv_at hl 2 rfl) ?_
            refine lv_iload_n hx hb dX4_isTangled_30 rfl (lv_at hl 3 rfl) ?_
            refine lv_iload_n hx hb dX4_isTangled_31 rfl (lv_at hl 4 rfl) ?_
            refine lv_iload hx hb dX4_isTangled_32 (lv_at hl 0 rfl) ?_
            refine lv_aload_n hx hb dX4_isTangled_34 rfl (lv_at hl 1 rfl) ?_
            refine va_get (D := (dC, dI)) (ci := 3) (v := .ref (un 3)) (C := RX4) (T := TX4) (N := 7) hx hb hts ifX4_isTangled_X4 hown hK hP 0 rfl rfl 6 (by decide) (hts (.fieldLink RX4 31 "HookPier$Now" "line" "[I") (List.mem_of_getElem? (i := 2) rfl)) (fun _ h9 => h9) rfl dX4_isTangled_35 ?_
            refine lv_iload hx hb dX4_isTangled_38 (lv_at hl 0 rfl) ?_
            obtain ⟨hg40, h⟩ := gA_of h
            refine va_iald hx hb hK hP 4 3 rfl rfl hg40 dX4_isTangled_40 ?_
            obtain ⟨o41, eo41⟩ : ∃ o, o = f_X10_spotOf (n_n.2.2.2.2.2.2 (v3_l4).toNatClampNeg) := ⟨_, rfl⟩
            have h := nm_of h o41 eo41
            refine cl_i (wc := []) (wr := (bX4 a0 un kn n_n (bX6 a1 up kp p_p []))) (va_runSN (As := [.int (n_n.2.2.2.2.2.2 (v3_l4).toNatClampNeg)]) (rest := [.int v3_l4, .int k3, .int k2, .ref a1]) ⟨hx, hb, hml, hown, hts⟩ (kfX10_spotOf l dC dI (n_n.2.2.2.2.2.2 (v3_l4).toNatClampNeg) H.size o41 eo41.symm) ⟨va_cnB 1 hts gfX4_isTangled_0 rfl rfl rfl (hN.1 (.methodLinkNest RX4 49 yX10_spotOf "HookPier") (List.mem_of_getElem? (i := 11) rfl)) (hts (.initialized RX10) (List.mem_of_getElem? (i := 3) rfl)) (by decide +kernel) ⟨(Nat.le_of_ble_eq_true rfl), (Nat.le_of_ble_eq_true rfl)⟩, (hts (.static yX10_spotOf) (List.mem_of_getElem? (i := 4) rfl)), trivial⟩ (PS (hP.sub (ws' := []) [] rfl) (hK.sub (tys' := ([])) [] rfl) (hD.sub (ws' := []) [] (by decide) rfl) hN) rfl rfl hl.1 rfl (lv_room (Nat.le_of_ble_eq_true rfl)) dX4_isTangled_41 ⟨(Nat.le_of_ble_eq_true rfl), (Nat.le_of_ble_eq_true rfl)⟩) hP hD hK hS hA [] [0, 1, 2, 3, 4, 5, 6, 7, 8, 9, 10, 11, 12, 13, 14] rfl rfl (by decide) (by decide) (fun r41 _ H locs hw hP hD _ hS => ?_)
            obtain rfl := hw.symm
            have hP : va_P (dC, dI) vwCl (bX4 a0 un kn n_n (bX6 a1 up kp p_p [])) H := hP
            have hD : va_D A (bX4 a0 un kn n_n (bX6 a1 up kp p_p [])) := hD
            obtain ⟨o44, eo44, h⟩ := bd_of h
            refine cl_i (wc := (bX6 a1 up kp p_p [])) (wr := (bX4 a0 un kn n_n [])) (va_runV (As := [.int k2, .int k3, .int v3_l4, .int o41]) (rest := []) ⟨hx, hb, hml, hown, hts⟩ (kfX6_isTangle l dC dI a1 k2 k3 v3_l4 o41 up kp p_p H.size o44 eo44) (cwV 4 hts gfX4_isTangled_1 rfl rfl rfl (by decide +kernel) ⟨(Nat.le_of_ble_eq_true rfl), (Nat.le_of_ble_eq_true rfl)⟩) (PV (hP.sub (ws' := (bX6 a1 up kp p_p [])) [5, 6, 7, 8, 9, 10, 11, 12, 13, 14] rfl) (hK.sub (tys' := (tX6 kp ([]))) [4, 5, 6, 7, 8, 9, 10, 11, 12] rfl) (hD.sub (ws' := (bX6 a1 up kp p_p [])) [5, 6, 7, 8, 9, 10, 11, 12, 13, 14] (by decide) rfl) hN 0 rfl rfl) rfl rfl hl.1 rfl (lv_room (Nat.le_of_ble_eq_true rfl)) dX4_isTangled_44 ⟨(Nat.le_of_ble_eq_true rfl), (Nat.le_of_ble_eq_true rfl)⟩) hP hD hK hS hA [5, 6, 7, 8, 9, 10, 11, 12, 13, 14] [0, 1, 2, 3, 4] rfl rfl (by decide) (by decide) (fun r44 _ H locs hw hP hD _ hS => ?_)
            obtain ⟨hw, br44⟩ := hw
            obtain rfl := hw.symm
            have hP : va_P (dC, dI) vwCl (bX4 a0 un kn n_n (bX6 a1 up kp p_p [])) H := hP
            have hD : va_D A (bX4 a0 un kn n_n (bX6 a1 up kp p_p [])) := hD
            refine lv_if_eq (tgt := 52) hx hb dX4_isTangled_47 (by decide) (fun c47 => ?_) (fun c47 => ?_)
            · have h := (if_pos c47).symm.trans h
              exact J52  H _ ls h  hP hD hS (lv_sub hl [0, 1, 2, 3, 4] rfl)
            · have h := (if_neg c47).symm.trans h
              refine lv_iconst (v := 1) hx hb dX4_isTangled_50 (by decide) ?_
              obtain rfl := Option.some.inj h
              have hP9 := hP.sub (ws' := (bX4 a0 un kn n_n (bX6 a1 up kp p_p []))) [0, 1, 2, 3, 4, 5, 6, 7, 8, 9, 10, 11, 12, 13, 14] rfl
              have hD9 := hD.sub (ws' := (bX4 a0 un kn n_n (bX6 a1 up kp p_p []))) [0, 1, 2, 3, 4, 5, 6, 7, 8, 9, 10, 11, 12, 13, 14] (by decide) rfl
              have hK9 := hK.sub (tys' := []) [] rfl
              rw [hQQ]
              exact W.zret (v := (1 : Int32)) hx hb hr rfl (fun t ht hW => ⟨⟨(1 : Int32), (), rfl, ⟨rfl, (by decide)⟩, by rw [ht]; exact hP9, va_K.moved hW.alike hK9, hD9⟩, hS.F ht⟩) hS.2.2 dX4_isTangled_51
  exact L3 FU (0 : Int32) s.heap _ ls h  hP hD hS (lv_sub hl [0, 1, 2, 3, 4] rfl)
theorem dX1_untangled_0 : decode cX1_untangled 0 = .ok (.iconst 0, 1) := by decide +kernel
theorem dX1_untangled_1 : decode cX1_untangled 1 = .ok (.istore_n 2, 1) := by decide +kernel
theorem dX1_untangled_12 : decode cX1_untangled 12 = .ok (.aload_n 1, 1) := by decide +kernel
theorem dX1_untangled_13 : decode cX1_untangled 13 = .ok (.getfield 68, 3) := by decide +kernel
theorem dX1_untangled_16 : decode cX1_untangled 16 = .ok (.iload_n 3, 1) := by decide +kernel
theorem dX1_untangled_17 : decode cX1_untangled 17 = .ok (.iaload, 1) := by decide +kernel
theorem dX1_untangled_18 : decode cX1_untangled 18 = .ok (.iconst (-1), 1) := by decide +kernel
theorem dX1_untangled_19 : decode cX1_untangled 19 = .ok (.if_icmp .eq 27, 3) := by decide +kernel
theorem dX1_untangled_2 : decode cX1_untangled 2 = .ok (.iconst 0, 1) := by decide +kernel
theorem dX1_untangled_22 : decode cX1_untangled 22 = .ok (.aload_n 1, 1) := by decide +kernel
theorem dX1_untangled_23 : decode cX1_untangled 23 = .ok (.aload_n 0, 1) := by decide +kernel
theorem dX1_untangled_24 : decode cX1_untangled 24 = .ok (.iload_n 3, 1) := by decide +kernel
theorem dX1_untangled_25 : decode cX1_untangled 25 = .ok (.aload_n 1, 1) := by decide +kernel
theorem dX1_untangled_26 : decode cX1_untangled 26 = .ok (.getfield 68, 3) := by decide +kernel
theorem dX1_untangled_29 : decode cX1_untangled 29 = .ok (.iload_n 3, 1) := by decide +kernel
theorem dX1_untangled_3 : decode cX1_untangled 3 = .ok (.istore_n 3, 1) := by decide +kernel
theorem dX1_untangled_30 : decode cX1_untangled 30 = .ok (.iaload, 1) := by decide +kernel
theorem dX1_untangled_31 : decode cX1_untangled 31 = .ok (.invokestatic 79, 3) := by decide +kernel
theorem dX1_untangled_34 : decode cX1_untangled 34 = .ok (.invokevirtual 82, 3) := by decide +kernel
theorem dX1_untangled_37 : decode cX1_untangled 37 = .ok (.ifCond .ne 9, 3) := by decide +kernel
theorem dX1_untangled_4 : decode cX1_untangled 4 = .ok (.iload_n 3, 1) := by decide +kernel
theorem dX1_untangled_40 : decode cX1_untangled 40 = .ok (.iload_n 2, 1) := by decide +kernel
theorem dX1_untangled_41 : decode cX1_untangled 41 = .ok (.iconst 1, 1) := by decide +kernel
theorem dX1_untangled_42 : decode cX1_untangled 42 = .ok (.iload_n 3, 1) := by decide +kernel
theorem dX1_untangled_43 : decode cX1_untangled 43 = .ok (.ishl, 1) := by decide +kernel
theorem dX1_untangled_44 : decode cX1_untangled 44 = .ok (.ior, 1) := by decide +kernel
theorem dX1_untangled_45 : decode cX1_untangled 45 = .ok (.istore_n 2, 1) := by decide +kernel
theorem dX1_untangled_46 : decode cX1_untangled 46 = .ok (.iinc 3 1, 3) := by decide +kernel
theorem dX1_untangled_49 : decode cX1_untangled 49 = .ok (.goto (-45), 3) := by decide +kernel
theorem dX1_untangled_5 : decode cX1_untangled 5 = .ok (.aload_n 0, 1) := by decide +kernel
theorem dX1_untangled_52 : decode cX1_untangled 52 = .ok (.iload_n 2, 1) := by decide +kernel
theorem dX1_untangled_53 : decode cX1_untangled 53 = .ok (.ireturn, 1) := by decide +kernel
theorem dX1_untangled_6 : decode cX1_untangled 6 = .ok (.getfield 65, 3) := by decide +kernel
theorem dX1_untangled_9 : decode cX1_untangled 9 = .ok (.if_icmp .ge 43, 3) := by decide +kernel
def vfX1_untangled : List Cond := List.cons (.code yX1_untangled cX1_untangled 4 (some .int)) (apW [.fieldLink RX1 65 "HookPier$Plan" "askers" "I", .fieldLink RX1 68 "HookPier$Now" "line" "[I", .initialized RX10, .static yX10_spotOf, .methodLink RX1 82 yX4_isTangled, .instanceMethod yX4_isTangled, .selects RX4 yX4_isTangled yX4_isTangled, .initialized RX4] (apW wsX60 (apW wsX40 (apW vfX10_spotOf (vfX4_isTangled)))))
theorem ifX1_untangled_X6 : ∀ w ∈ wsX60, w ∈ vfX1_untangled := fun _ h => (List.mem_cons_of_mem _ (List.mem_append_right _ (List.mem_append_left _ h)))
theorem ifX1_untangled_X4 : ∀ w ∈ wsX40, w ∈ vfX1_untangled := fun _ h => (List.mem_cons_of_mem _ (List.mem_append_right _ (List.mem_append_right _ (List.mem_append_left _ h))))
theorem qfX1_untangled : Good vfX1_untangled := gd_cons (by decide +kernel) (gd_app (gd_dec (by decide +kernel) : Good [.fieldLink RX1 65 "HookPier$Plan" "askers" "I", .fieldLink RX1 68 "HookPier$Now" "line" "[I", .initialized RX10, .static yX10_spotOf, .methodLink RX1 82 yX4_isTangled, .instanceMethod yX4_isTangled, .selects RX4 yX4_isTangled yX4_isTangled, .initialized RX4]) (gd_app qsX6 (gd_app qsX4 (gd_app qfX10_spotOf qfX4_isTangled))))
theorem gfX1_untangled_0 : GoodIn vfX1_untangled vfX10_spotOf := (goodIn_m (fun _ h => (List.mem_cons_of_mem _ (List.mem_append_right _ (List.mem_append_right _ (List.mem_append_right _ (List.mem_append_left _ h)))))) qfX10_spotOf)
theorem gfX1_untangled_1 : GoodIn vfX1_untangled (wsV RX1 82 RX4 yX4_isTangled vfX4_isTangled) := goodIn_app (goodIn_r [.methodLink RX1 82 yX4_isTangled, .instanceMethod yX4_isTangled, .selects RX4 yX4_isTangled yX4_isTangled, .initialized RX4] [5, 6, 7, 8] rfl (by decide +kernel)) (goodIn_m (fun _ h => (List.mem_cons_of_mem _ (List.mem_append_right _ (List.mem_append_right _ (List.mem_append_right _ (List.mem_append_right _ h)))))) qfX4_isTangled)
set_option maxHeartbeats 2000000 in
set_option maxRecDepth 100000 in
theorem kfX1_untangled (l : Launch) (dC : Nat → ClassId) (dI : Nat → Nat → Nat) (a0 : Nat) (a1 : Nat) (up : Nat → Nat) (kp : Nat → ClassId) (un : Nat → Nat) (kn : Nat → ClassId) (p_p : TX6_p) (n_n : TX4_n) (sz : Nat) (out : Int32) (h : f_X1_untangled p_p n_n = some out) : Met l yX1_untangled vfX1_untangled ({ frames := 3, cells := 0, slots := 0, locals := 69 }) (PC (dC, dI) [.ref a0, .ref a1] sz (bX6 a0 up kp p_p (bX4 a1 un kn n_n [])) (tX6 kp (tX4 kn ([])))) (va_Qi (S := Unit) (fun (r : Int32) _ => r = out) (fun _ t => BC (dC, dI) (va_A (bX6 a0 up kp p_p (bX4 a1 un kn n_n [])) sz) (bX6 a0 up kp p_p (bX4 a1 un kn n_n [])) [] t) (va_A (bX6 a0 up kp p_p (bX4 a1 un kn n_n [])) sz)) 0 0 (va_A (bX6 a0 up kp p_p (bX4 a1 un kn n_n [])) sz) := by
  refine Met.ofW (cc := cX1_untangled) (maxL := 4) (ret := (some .int)) (by decide) rfl ?_
  intro p e s m args below meth c s₁ B0 hml hv
  obtain ⟨rfl, hsz, hP, hK, hD0, hN⟩ := hv
  have hx := B0.exec
  have hb := B0.bytes
  have hr := B0.returns
  have hts := atoms_spec (ws := vfX1_untangled) B0.pre
  have hown : s.vm.findClass RX1 = some m.cls := findClass_of_methodNamed B0.named
  have hlocks := B0.notSynchronized
  subst hsz
  have hD := hD0.self (sz := s.heap.size)
  generalize hAe : va_A (bX6 a0 up kp p_p (bX4 a1 un kn n_n [])) s.heap.size = A at hD ⊢
  have hA : ∀ q : Nat, s.heap.size ≤ q → A q := fun q h => by rw [← hAe]; exact Or.inr h
  have hS : va_S A s.heap s.heap [] := va_S.rf
  have hP : va_P (dC, dI) vwCl (bX6 a0 up kp p_p (bX4 a1 un kn n_n [])) s.heap := hP
  have hl := lv_entry ([.ref a0, .ref a1]) (n := 4) (Nat.le_of_ble_eq_true rfl)
  rw [lg_entry_eq]
  generalize (lg_sl ([.ref a0, .ref a1]) ++ List.replicate (4 - (lg_sl ([.ref a0, .ref a1])).length) Slot.unset).toArray = ls at hl ⊢
  have hl : lv_has ls 4 [(0, .ref a0), (1, .ref a1)] := hl
  refine W_q (fun QQ hQQ => ?_)
  rw [f_X1_untangled] at h
  refine lv_iconst (v := 0) hx hb dX1_untangled_0 (by decide) ?_
  refine lv_istore_n (lv' := [(2, .int 0), (0, .ref a0), (1, .ref a1)]) hx hb dX1_untangled_1 rfl hl (by decide) rfl (fun ls hl => ?_)
  refine lv_iconst (v := 0) hx hb dX1_untangled_2 (by decide) ?_
  refine lv_istore_n (lv' := [(3, .int 0), (2, .int 0), (0, .ref a0), (1, .ref a1)]) hx hb dX1_untangled_3 rfl hl (by decide) rfl (fun ls hl => ?_)
  have L4 : ∀ (n4 : Nat) (v4_l3 : Int32) (v4_l2 : Int32) (H : Heap) (locs : List Loc) (ls : Array Slot), f_X1_untangled_L4 p_p n_n n4 v4_l3 v4_l2 = some out → va_P (dC, dI) vwCl (bX6 a0 up kp p_p (bX4 a1 un kn n_n [])) H → va_D A (bX6 a0 up kp p_p (bX4 a1 un kn n_n [])) → va_S A s.heap H locs → lv_has ls 4 [(3, .int v4_l3), (2, .int v4_l2), (0, .ref a0), (1, .ref a1)] → W p l e (headSpec vfX1_untangled { frames := 3, cells := 0, slots := 0, locals := 69 }).room s m ([.ref a0, .ref a1]).toArray below meth c H locs 0 0 QQ (F0 m 4 ls []) := by
    intro n4
    induction n4 with
    | zero =>
      intro v4_l3 v4_l2 H locs ls h  _ _ _ _
      rw [f_X1_untangled_L4] at h
      cases h
    | succ n4 ih4 =>
      intro v4_l3 v4_l2 H locs ls h  hP hD hS hl
      rw [f_X1_untangled_L4] at h
      refine lv_iload_n hx hb dX1_untangled_4 rfl (lv_at hl 0 rfl) ?_
      refine lv_aload_n hx hb dX1_untangled_5 rfl (lv_at hl 2 rfl) ?_
      refine va_get (D := (dC, dI)) (ci := 4) (v := .int p_p.2.2.2.2.2.1) (C := RX6) (T := TX6) (N := 18) hx hb hts ifX1_untangled_X6 hown hK hP 0 rfl rfl 5 (by decide) (hts (.fieldLink RX1 65 "HookPier$Plan" "askers" "I") (List.mem_of_getElem? (i := 1) rfl)) (fun _ h9 => h9) rfl dX1_untangled_6 ?_
      refine lv_icmp_ge (tgt := 52) hx hb dX1_untangled_9 (by decide) (fun c9 => ?_) (fun c9 => ?_)
      · have h := (if_pos c9).symm.trans h
        refine lv_iload_n hx hb dX1_untangled_52 rfl (lv_at hl 1 rfl) ?_
        obtain rfl := Option.some.inj h
        have hP9 := hP.sub (ws' := (bX6 a0 up kp p_p (bX4 a1 un kn n_n []))) [0, 1, 2, 3, 4, 5, 6, 7, 8, 9, 10, 11, 12, 13, 14] rfl
        have hD9 := hD.sub (ws' := (bX6 a0 up kp p_p (bX4 a1 un kn n_n []))) [0, 1, 2, 3, 4, 5, 6, 7, 8, 9, 10, 11, 12, 13, 14] (by decide) rfl
        have hK9 := hK.sub (tys' := []) [] rfl
        rw [hQQ]
        exact W.iret (v := v4_l2) hx hb hr (fun t ht hW => ⟨⟨v4_l2, (), rfl, rfl, by rw [ht]; exact hP9, va_K.moved hW.alike hK9, hD9⟩, hS.F ht⟩) hS.2.2 dX1_untangled_53
      · have h := (if_neg c9).symm.trans h
        refine lv_aload_n hx hb dX1_untangled_12 rfl (lv_at hl 3 rfl) ?_
        refine va_get (D := (dC, dI)) (ci := 3) (v := .ref (un 3)) (C := RX4) (T := TX4) (N := 7) hx hb hts ifX1_untangled_X4 hown hK hP 10 rfl rfl 6 (by decide) (hts (.fieldLink RX1 68 "HookPier$Now" "line" "[I") (List.mem_of_getElem? (i := 2) rfl)) (fun _ h9 => h9) rfl dX1_untangled_13 ?_
        refine lv_iload_n hx hb dX1_untangled_16 rfl (lv_at hl 0 rfl) ?_
        obtain ⟨hg17, h⟩ := gA_of h
        refine va_iald hx hb hK hP 14 12 rfl rfl hg17 dX1_untangled_17 ?_
        refine lv_iconst (v := (-1)) hx hb dX1_untangled_18 (by decide) ?_
        have J46 : ∀ (v46_l2 : Int32) (H : Heap) (locs : List Loc) (ls : Array Slot), f_X1_untangled_J46 (f_X1_untangled_L4 p_p n_n n4) v4_l3 v46_l2 = some out → va_P (dC, dI) vwCl (bX6 a0 up kp p_p (bX4 a1 un kn n_n [])) H → va_D A (bX6 a0 up kp p_p (bX4 a1 un kn n_n [])) → va_S A s.heap H locs → lv_has ls 4 [(3, .int v4_l3), (2, .int v46_l2), (0, .ref a0), (1, .ref a1)] → W p l e (headSpec vfX1_untangled { frames := 3, cells := 0, slots := 0, locals := 69 }).room s m ([.ref a0, .ref a1]).toArray below meth c H locs 0 0 QQ (F0 m 46 ls []) := by
          intro v46_l2 H locs ls h  hP hD hS hl
          rw [f_X1_untangled_J46] at h
          refine lv_iinc (v := (v4_l3 + (1 : Int32))) (lv' := [(3, .int (v4_l3 + (1 : Int32))), (2, .int v46_l2), (0, .ref a0), (1, .ref a1)]) hx hb dX1_untangled_46 hl (k := 0) rfl rfl (by decide) rfl (fun ls hl => ?_)
          refine lv_goto (tgt := 4) hx hb dX1_untangled_49 (by decide) ?_
          exact ih4 (v4_l3 + (1 : Int32)) v46_l2 H _ ls h  hP hD hS (lv_sub hl [0, 1, 2, 3] rfl)
        refine lv_icmp_eq (tgt := 46) hx hb dX1_untangled_19 (by decide) (fun c19 => ?_) (fun c19 => ?_)
        · have h := (if_pos c19).symm.trans h
          exact J46 v4_l2 H _ ls h  hP hD hS (lv_sub hl [0, 1, 2, 3] rfl)
        · have h := (if_neg c19).symm.trans h
          refine lv_aload_n hx hb dX1_untangled_22 rfl (lv_at hl 3 rfl) ?_
          refine lv_aload_n hx hb dX1_untangled_23 rfl (lv_at hl 2 rfl) ?_
          refine lv_iload_n hx hb dX1_untangled_24 rfl (lv_at hl 0 rfl) ?_
          refine lv_aload_n hx hb dX1_untangled_25 rfl (lv_at hl 3 rfl) ?_
          refine va_get (D := (dC, dI)) (ci := 3) (v := .ref (un 3)) (C := RX4) (T := TX4) (N := 7) hx hb hts ifX1_untangled_X4 hown hK hP 10 rfl rfl 6 (by decide) (hts (.fieldLink RX1 68 "HookPier$Now" "line" "[I") (List.mem_of_getElem? (i := 2) rfl)) (fun _ h9 => h9) rfl dX1_untangled_26 ?_
          refine lv_iload_n hx hb dX1_untangled_29 rfl (lv_at hl 0 rfl) ?_
          obtain ⟨hg30, h⟩ := gA_of h
          refine va_iald hx hb hK hP 14 12 rfl rfl hg30 dX1_untangled_30 ?_
          obtain ⟨o31, eo31⟩ : ∃ o, o = f_X10_spotOf (n_n.2.2.2.2.2.2 (v4_l3).toNatClampNeg) := ⟨_, rfl⟩
          have h := nm_of h o31 eo31
          refine cl_i (wc := []) (wr := (bX6 a0 up kp p_p (bX4 a1 un kn n_n []))) (va_runSN (As := [.int (n_n.2.2.2.2.2.2 (v4_l3).toNatClampNeg)]) (rest := [.int v4_l3, .ref a0, .ref a1]) ⟨hx, hb, hml, hown, hts⟩ (kfX10_spotOf l dC dI (n_n.2.2.2.2.2.2 (v4_l3).toNatClampNeg) H.size o31 eo31.symm) ⟨va_cnB 1 hts gfX1_untangled_0 rfl rfl rfl (hN.1 (.methodLinkNest RX1 79 yX10_spotOf "HookPier") (List.mem_of_getElem? (i := 18) rfl)) (hts (.initialized RX10) (List.mem_of_getElem? (i := 3) rfl)) (by decide +kernel) ⟨(Nat.le_of_ble_eq_true rfl), (Nat.le_of_ble_eq_true rfl)⟩, (hts (.static yX10_spotOf) (List.mem_of_getElem? (i := 4) rfl)), trivial⟩ (PS (hP.sub (ws' := []) [] rfl) (hK.sub (tys' := ([])) [] rfl) (hD.sub (ws' := []) [] (by decide) rfl) hN) rfl rfl hl.1 rfl (lv_room (Nat.le_of_ble_eq_true rfl)) dX1_untangled_31 ⟨(Nat.le_of_ble_eq_true rfl), (Nat.le_of_ble_eq_true rfl)⟩) hP hD hK hS hA [] [0, 1, 2, 3, 4, 5, 6, 7, 8, 9, 10, 11, 12, 13, 14] rfl rfl (by decide) (by decide) (fun r31 _ H locs hw hP hD _ hS => ?_)
          obtain rfl := hw.symm
          have hP : va_P (dC, dI) vwCl (bX6 a0 up kp p_p (bX4 a1 un kn n_n [])) H := hP
          have hD : va_D A (bX6 a0 up kp p_p (bX4 a1 un kn n_n [])) := hD
          obtain ⟨o34, eo34, h⟩ := bd_of h
          refine cl_i (wc := (bX4 a1 un kn n_n (bX6 a0 up kp p_p []))) (wr := []) (va_runV (As := [.ref a0, .int v4_l3, .int o31]) (rest := []) ⟨hx, hb, hml, hown, hts⟩ (kfX4_isTangled l dC dI a1 a0 v4_l3 o31 un kn up kp n_n p_p H.size o34 eo34) (cwV 3 hts gfX1_untangled_1 rfl rfl rfl (by decide +kernel) ⟨(Nat.le_of_ble_eq_true rfl), (Nat.le_of_ble_eq_true rfl)⟩) (PV (hP.sub (ws' := (bX4 a1 un kn n_n (bX6 a0 up kp p_p []))) [10, 11, 12, 13, 14, 0, 1, 2, 3, 4, 5, 6, 7, 8, 9] rfl) (hK.sub (tys' := (tX4 kn (tX6 kp ([])))) [9, 10, 11, 12, 0, 1, 2, 3, 4, 5, 6, 7, 8] rfl) (hD.sub (ws' := (bX4 a1 un kn n_n (bX6 a0 up kp p_p []))) [10, 11, 12, 13, 14, 0, 1, 2, 3, 4, 5, 6, 7, 8, 9] (by decide) rfl) hN 0 rfl rfl) rfl rfl hl.1 rfl (lv_room (Nat.le_of_ble_eq_true rfl)) dX1_untangled_34 ⟨(Nat.le_of_ble_eq_true rfl), (Nat.le_of_ble_eq_true rfl)⟩) hP hD hK hS hA [10, 11, 12, 13, 14, 0, 1, 2, 3, 4, 5, 6, 7, 8, 9] [] rfl rfl (by decide) (by decide) (fun r34 _ H locs hw hP hD _ hS => ?_)
          obtain ⟨hw, br34⟩ := hw
          obtain rfl := hw.symm
          have hP : va_P (dC, dI) vwCl (bX4 a1 un kn n_n (bX6 a0 up kp p_p [])) H := hP
          have hD : va_D A (bX4 a1 un kn n_n (bX6 a0 up kp p_p [])) := hD
          refine lv_if_ne (tgt := 46) hx hb dX1_untangled_37 (by decide) (fun c37 => ?_) (fun c37 => ?_)
          · have h := (if_neg c37).symm.trans h
            exact J46 v4_l2 H _ ls h  (hP.sub (ws' := (bX6 a0 up kp p_p (bX4 a1 un kn n_n []))) [5, 6, 7, 8, 9, 10, 11, 12, 13, 14, 0, 1, 2, 3, 4] rfl) (hD.sub (ws' := (bX6 a0 up kp p_p (bX4 a1 un kn n_n []))) [5, 6, 7, 8, 9, 10, 11, 12, 13, 14, 0, 1, 2, 3, 4] (by decide) rfl) hS (lv_sub hl [0, 1, 2, 3] rfl)
          · have h := (if_pos c37).symm.trans h
            refine lv_iload_n hx hb dX1_untangled_40 rfl (lv_at hl 1 rfl) ?_
            refine lv_iconst (v := 1) hx hb dX1_untangled_41 (by decide) ?_
            refine lv_iload_n hx hb dX1_untangled_42 rfl (lv_at hl 0 rfl) ?_
            refine lv_ishl hx hb dX1_untangled_43 ?_
            refine lv_ior hx hb dX1_untangled_44 ?_
            refine lv_istore_n (lv' := [(2, .int (v4_l2 ||| ((1 : Int32) <<< (v4_l3 &&& 31)))), (3, .int v4_l3), (0, .ref a0), (1, .ref a1)]) hx hb dX1_untangled_45 rfl hl (by decide) rfl (fun ls hl => ?_)
            exact J46 (v4_l2 ||| ((1 : Int32) <<< (v4_l3 &&& 31))) H _ ls h  (hP.sub (ws' := (bX6 a0 up kp p_p (bX4 a1 un kn n_n []))) [5, 6, 7, 8, 9, 10, 11, 12, 13, 14, 0, 1, 2, 3, 4] rfl) (hD.sub (ws' := (bX6 a0 up kp p_p (bX4 a1 un kn n_n []))) [5, 6, 7, 8, 9, 10, 11, 12, 13, 14, 0, 1, 2, 3, 4] (by decide) rfl) hS (lv_sub hl [1, 0, 2, 3] rfl)
  exact L4 FU (0 : Int32) (0 : Int32) s.heap _ ls h  hP hD hS (lv_sub hl [0, 1, 2, 3] rfl)
theorem dX10_baitOf_0 : decode cX10_baitOf 0 = .ok (.iload_n 0, 1) := by decide +kernel
theorem dX10_baitOf_1 : decode cX10_baitOf 1 = .ok (.bipush 10, 2) := by decide +kernel
theorem dX10_baitOf_3 : decode cX10_baitOf 3 = .ok (.irem, 1) := by decide +kernel
theorem dX10_baitOf_4 : decode cX10_baitOf 4 = .ok (.ireturn, 1) := by decide +kernel
def vfX10_baitOf : List Cond := .code yX10_baitOf cX10_baitOf 1 (some .int) :: ([])
theorem qfX10_baitOf : Good vfX10_baitOf := gd_cons (by decide +kernel) (gd_dec (by decide +kernel) : Good [])
set_option maxHeartbeats 2000000 in
set_option maxRecDepth 100000 in
theorem kfX10_baitOf (l : Launch) (dC : Nat → ClassId) (dI : Nat → Nat → Nat) (k0 : Int32) (sz : Nat) (out : Int32) (h : f_X10_baitOf k0 = out) : Met l yX10_baitOf vfX10_baitOf ({ frames := 0, cells := 0, slots := 0, locals := 0 }) (PC (dC, dI) [.int k0] sz [] ([])) (va_Qi (S := Unit) (fun (r : Int32) _ => r = out) (fun _ t => BC (dC, dI) (va_A [] sz) [] [] t) (va_A [] sz)) 0 0 (va_A [] sz) := by
  refine Met.ofW (cc := cX10_baitOf) (maxL := 1) (ret := (some .int)) (by decide) rfl ?_
  intro p e s m args below meth c s₁ B0 hml hv
  obtain ⟨rfl, hsz, hP, hK, hD0, hN⟩ := hv
  have hx := B0.exec
  have hb := B0.bytes
  have hr := B0.returns
  have hts := atoms_spec (ws := vfX10_baitOf) B0.pre
  have hown : s.vm.findClass RX10 = some m.cls := findClass_of_methodNamed B0.named
  have hlocks := B0.notSynchronized
  subst hsz
  have hD := hD0.self (sz := s.heap.size)
  generalize hAe : va_A [] s.heap.size = A at hD ⊢
  have hA : ∀ q : Nat, s.heap.size ≤ q → A q := fun q h => by rw [← hAe]; exact Or.inr h
  have hS : va_S A s.heap s.heap [] := va_S.rf
  have hP : va_P (dC, dI) vwCl [] s.heap := hP
  have hl := lv_entry ([.int k0]) (n := 1) (Nat.le_of_ble_eq_true rfl)
  rw [lg_entry_eq]
  generalize (lg_sl ([.int k0]) ++ List.replicate (1 - (lg_sl ([.int k0])).length) Slot.unset).toArray = ls at hl ⊢
  have hl : lv_has ls 1 [(0, .int k0)] := hl
  refine W_q (fun QQ hQQ => ?_)
  rw [f_X10_baitOf] at h
  refine lv_iload_n hx hb dX10_baitOf_0 rfl (lv_at hl 0 rfl) ?_
  refine lv_bipush (v := 10) hx hb dX10_baitOf_1 (by decide) ?_
  refine lv_irem hx hb dX10_baitOf_3 (by decide) ?_
  obtain rfl := h
  have hP9 := hP.sub (ws' := []) [] rfl
  have hD9 := hD.sub (ws' := []) [] (by decide) rfl
  have hK9 := hK.sub (tys' := []) [] rfl
  rw [hQQ]
  exact W.iret (v := (k0 - k0 / (10 : Int32) * (10 : Int32))) hx hb hr (fun t ht hW => ⟨⟨(k0 - k0 / (10 : Int32) * (10 : Int32)), (), rfl, rfl, by rw [ht]; exact hP9, va_K.moved hW.alike hK9, hD9⟩, hS.F ht⟩) hS.2.2 dX10_baitOf_4
theorem dX10_fathomsOf_0 : decode cX10_fathomsOf 0 = .ok (.iload_n 0, 1) := by decide +kernel
theorem dX10_fathomsOf_1 : decode cX10_fathomsOf 1 = .ok (.bipush 10, 2) := by decide +kernel
theorem dX10_fathomsOf_3 : decode cX10_fathomsOf 3 = .ok (.idiv, 1) := by decide +kernel
theorem dX10_fathomsOf_4 : decode cX10_fathomsOf 4 = .ok (.bipush 10, 2) := by decide +kernel
theorem dX10_fathomsOf_6 : decode cX10_fathomsOf 6 = .ok (.irem, 1) := by decide +kernel
theorem dX10_fathomsOf_7 : decode cX10_fathomsOf 7 = .ok (.ireturn, 1) := by decide +kernel
def vfX10_fathomsOf : List Cond := .code yX10_fathomsOf cX10_fathomsOf 1 (some .int) :: ([])
theorem qfX10_fathomsOf : Good vfX10_fathomsOf := gd_cons (by decide +kernel) (gd_dec (by decide +kernel) : Good [])
set_option maxHeartbeats 2000000 in
set_option maxRecDepth 100000 in
theorem kfX10_fathomsOf (l : Launch) (dC : Nat → ClassId) (dI : Nat → Nat → Nat) (k0 : Int32) (sz : Nat) (out : Int32) (h : f_X10_fathomsOf k0 = out) : Met l yX10_fathomsOf vfX10_fathomsOf ({ frames := 0, cells := 0, slots := 0, locals := 0 }) (PC (dC, dI) [.int k0] sz [] ([])) (va_Qi (S := Unit) (fun (r : Int32) _ => r = out) (fun _ t => BC (dC, dI) (va_A [] sz) [] [] t) (va_A [] sz)) 0 0 (va_A [] sz) := by
  refine Met.ofW (cc := cX10_fathomsOf) (maxL := 1) (ret := (some .int)) (by decide) rfl ?_
  intro p e s m args below meth c s₁ B0 hml hv
  obtain ⟨rfl, hsz, hP, hK, hD0, hN⟩ := hv
  have hx := B0.exec
  have hb := B0.bytes
  have hr := B0.returns
  have hts := atoms_spec (ws := vfX10_fathomsOf) B0.pre
  have hown : s.vm.findClass RX10 = some m.cls := findClass_of_methodNamed B0.named
  have hlocks := B0.notSynchronized
  subst hsz
  have hD := hD0.self (sz := s.heap.size)
  generalize hAe : va_A [] s.heap.size = A at hD ⊢
  have hA : ∀ q : Nat, s.heap.size ≤ q → A q := fun q h => by rw [← hAe]; exact Or.inr h
  have hS : va_S A s.heap s.heap [] := va_S.rf
  have hP : va_P (dC, dI) vwCl [] s.heap := hP
  have hl := lv_entry ([.int k0]) (n := 1) (Nat.le_of_ble_eq_true rfl)
  rw [lg_entry_eq]
  generalize (lg_sl ([.int k0]) ++ List.replicate (1 - (lg_sl ([.int k0])).length) Slot.unset).toArray = ls at hl ⊢
  have hl : lv_has ls 1 [(0, .int k0)] := hl
  refine W_q (fun QQ hQQ => ?_)
  rw [f_X10_fathomsOf] at h
  refine lv_iload_n hx hb dX10_fathomsOf_0 rfl (lv_at hl 0 rfl) ?_
  refine lv_bipush (v := 10) hx hb dX10_fathomsOf_1 (by decide) ?_
  refine lv_idiv hx hb dX10_fathomsOf_3 (by decide) ?_
  refine lv_bipush (v := 10) hx hb dX10_fathomsOf_4 (by decide) ?_
  refine lv_irem hx hb dX10_fathomsOf_6 (by decide) ?_
  refine lv_topi (fun z6 ez6 => ?_)
  have h := nm_of h z6 ez6
  obtain rfl := h
  have hP9 := hP.sub (ws' := []) [] rfl
  have hD9 := hD.sub (ws' := []) [] (by decide) rfl
  have hK9 := hK.sub (tys' := []) [] rfl
  rw [hQQ]
  exact W.iret (v := z6) hx hb hr (fun t ht hW => ⟨⟨z6, (), rfl, rfl, by rw [ht]; exact hP9, va_K.moved hW.alike hK9, hD9⟩, hS.F ht⟩) hS.2.2 dX10_fathomsOf_7
theorem dX6_wishBy_0 : decode cX6_wishBy 0 = .ok (.iload_n 2, 1) := by decide +kernel
theorem dX6_wishBy_1 : decode cX6_wishBy 1 = .ok (.bipush 10, 2) := by decide +kernel
theorem dX6_wishBy_11 : decode cX6_wishBy 11 = .ok (.iload_n 1, 1) := by decide +kernel
theorem dX6_wishBy_12 : decode cX6_wishBy 12 = .ok (.iaload, 1) := by decide +kernel
theorem dX6_wishBy_13 : decode cX6_wishBy 13 = .ok (.isub, 1) := by decide +kernel
theorem dX6_wishBy_14 : decode cX6_wishBy 14 = .ok (.invokestatic 89, 3) := by decide +kernel
theorem dX6_wishBy_17 : decode cX6_wishBy 17 = .ok (.imul, 1) := by decide +kernel
theorem dX6_wishBy_18 : decode cX6_wishBy 18 = .ok (.isub, 1) := by decide +kernel
theorem dX6_wishBy_19 : decode cX6_wishBy 19 = .ok (.istore 4, 2) := by decide +kernel
theorem dX6_wishBy_21 : decode cX6_wishBy 21 = .ok (.aload_n 0, 1) := by decide +kernel
theorem dX6_wishBy_22 : decode cX6_wishBy 22 = .ok (.getfield 43, 3) := by decide +kernel
theorem dX6_wishBy_25 : decode cX6_wishBy 25 = .ok (.iload_n 1, 1) := by decide +kernel
theorem dX6_wishBy_26 : decode cX6_wishBy 26 = .ok (.iaload, 1) := by decide +kernel
theorem dX6_wishBy_27 : decode cX6_wishBy 27 = .ok (.iconst 3, 1) := by decide +kernel
theorem dX6_wishBy_28 : decode cX6_wishBy 28 = .ok (.if_icmp .ne 9, 3) := by decide +kernel
theorem dX6_wishBy_3 : decode cX6_wishBy 3 = .ok (.iload_n 3, 1) := by decide +kernel
theorem dX6_wishBy_31 : decode cX6_wishBy 31 = .ok (.iinc 4 (-20), 3) := by decide +kernel
theorem dX6_wishBy_34 : decode cX6_wishBy 34 = .ok (.goto 19, 3) := by decide +kernel
theorem dX6_wishBy_37 : decode cX6_wishBy 37 = .ok (.aload_n 0, 1) := by decide +kernel
theorem dX6_wishBy_38 : decode cX6_wishBy 38 = .ok (.getfield 55, 3) := by decide +kernel
theorem dX6_wishBy_4 : decode cX6_wishBy 4 = .ok (.invokestatic 72, 3) := by decide +kernel
theorem dX6_wishBy_41 : decode cX6_wishBy 41 = .ok (.iload_n 1, 1) := by decide +kernel
theorem dX6_wishBy_42 : decode cX6_wishBy 42 = .ok (.iaload, 1) := by decide +kernel
theorem dX6_wishBy_43 : decode cX6_wishBy 43 = .ok (.iload_n 3, 1) := by decide +kernel
theorem dX6_wishBy_44 : decode cX6_wishBy 44 = .ok (.invokestatic 83, 3) := by decide +kernel
theorem dX6_wishBy_47 : decode cX6_wishBy 47 = .ok (.if_icmp .ne 6, 3) := by decide +kernel
theorem dX6_wishBy_50 : decode cX6_wishBy 50 = .ok (.iinc 4 20, 3) := by decide +kernel
theorem dX6_wishBy_53 : decode cX6_wishBy 53 = .ok (.aload_n 0, 1) := by decide +kernel
theorem dX6_wishBy_54 : decode cX6_wishBy 54 = .ok (.getfield 43, 3) := by decide +kernel
theorem dX6_wishBy_57 : decode cX6_wishBy 57 = .ok (.iload_n 1, 1) := by decide +kernel
theorem dX6_wishBy_58 : decode cX6_wishBy 58 = .ok (.iaload, 1) := by decide +kernel
theorem dX6_wishBy_59 : decode cX6_wishBy 59 = .ok (.iconst 2, 1) := by decide +kernel
theorem dX6_wishBy_60 : decode cX6_wishBy 60 = .ok (.if_icmp .eq 25, 3) := by decide +kernel
theorem dX6_wishBy_63 : decode cX6_wishBy 63 = .ok (.iload 4, 2) := by decide +kernel
theorem dX6_wishBy_65 : decode cX6_wishBy 65 = .ok (.bipush 8, 2) := by decide +kernel
theorem dX6_wishBy_67 : decode cX6_wishBy 67 = .ok (.iload_n 3, 1) := by decide +kernel
theorem dX6_wishBy_68 : decode cX6_wishBy 68 = .ok (.invokestatic 80, 3) := by decide +kernel
theorem dX6_wishBy_7 : decode cX6_wishBy 7 = .ok (.aload_n 0, 1) := by decide +kernel
theorem dX6_wishBy_71 : decode cX6_wishBy 71 = .ok (.aload_n 0, 1) := by decide +kernel
theorem dX6_wishBy_72 : decode cX6_wishBy 72 = .ok (.getfield 49, 3) := by decide +kernel
theorem dX6_wishBy_75 : decode cX6_wishBy 75 = .ok (.iload_n 1, 1) := by decide +kernel
theorem dX6_wishBy_76 : decode cX6_wishBy 76 = .ok (.iaload, 1) := by decide +kernel
theorem dX6_wishBy_77 : decode cX6_wishBy 77 = .ok (.isub, 1) := by decide +kernel
theorem dX6_wishBy_78 : decode cX6_wishBy 78 = .ok (.invokestatic 89, 3) := by decide +kernel
theorem dX6_wishBy_8 : decode cX6_wishBy 8 = .ok (.getfield 46, 3) := by decide +kernel
theorem dX6_wishBy_81 : decode cX6_wishBy 81 = .ok (.imul, 1) := by decide +kernel
theorem dX6_wishBy_82 : decode cX6_wishBy 82 = .ok (.isub, 1) := by decide +kernel
theorem dX6_wishBy_83 : decode cX6_wishBy 83 = .ok (.istore 4, 2) := by decide +kernel
theorem dX6_wishBy_85 : decode cX6_wishBy 85 = .ok (.iconst 0, 1) := by decide +kernel
theorem dX6_wishBy_86 : decode cX6_wishBy 86 = .ok (.bipush 100, 2) := by decide +kernel
theorem dX6_wishBy_88 : decode cX6_wishBy 88 = .ok (.iload 4, 2) := by decide +kernel
theorem dX6_wishBy_90 : decode cX6_wishBy 90 = .ok (.invokestatic 98, 3) := by decide +kernel
theorem dX6_wishBy_93 : decode cX6_wishBy 93 = .ok (.invokestatic 102, 3) := by decide +kernel
theorem dX6_wishBy_96 : decode cX6_wishBy 96 = .ok (.ireturn, 1) := by decide +kernel
def vfX6_wishBy : List Cond := List.cons (.code yX6_wishBy cX6_wishBy 5 (some .int)) (apW [.initialized RX10, .static yX10_spotOf, .fieldLink RX6 46 "HookPier$Plan" "at" "[I", .methodLink RX6 89 Lib.Math.abs.name, .static Lib.Math.abs.name, .initialized "java/lang/Math", .code Lib.Math.abs.name Lib.Math.abs.code 1 (some .int), .fieldLink RX6 43 "HookPier$Plan" "kind" "[I", .methodLink RX6 98 Lib.Math.min.name, .static Lib.Math.min.name, .code Lib.Math.min.name Lib.Math.min.code 2 (some .int), .methodLink RX6 102 Lib.Math.max.name, .static Lib.Math.max.name, .code Lib.Math.max.name Lib.Math.max.code 2 (some .int), .static yX10_fathomsOf, .fieldLink RX6 49 "HookPier$Plan" "depth" "[I", .fieldLink RX6 55 "HookPier$Plan" "likes" "[I", .static yX10_baitOf] (apW wsX60 (apW vfX10_spotOf (apW vfX10_fathomsOf (vfX10_baitOf)))))
theorem ifX6_wishBy_X6 : ∀ w ∈ wsX60, w ∈ vfX6_wishBy := fun _ h => (List.mem_cons_of_mem _ (List.mem_append_right _ (List.mem_append_left _ h)))
theorem qfX6_wishBy : Good vfX6_wishBy := gd_cons (by decide +kernel) (gd_app (gd_dec (by decide +kernel) : Good [.initialized RX10, .static yX10_spotOf, .fieldLink RX6 46 "HookPier$Plan" "at" "[I", .methodLink RX6 89 Lib.Math.abs.name, .static Lib.Math.abs.name, .initialized "java/lang/Math", .code Lib.Math.abs.name Lib.Math.abs.code 1 (some .int), .fieldLink RX6 43 "HookPier$Plan" "kind" "[I", .methodLink RX6 98 Lib.Math.min.name, .static Lib.Math.min.name, .code Lib.Math.min.name Lib.Math.min.code 2 (some .int), .methodLink RX6 102 Lib.Math.max.name, .static Lib.Math.max.name, .code Lib.Math.max.name Lib.Math.max.code 2 (some .int), .static yX10_fathomsOf, .fieldLink RX6 49 "HookPier$Plan" "depth" "[I", .fieldLink RX6 55 "HookPier$Plan" "likes" "[I", .static yX10_baitOf]) (gd_app qsX6 (gd_app qfX10_spotOf (gd_app qfX10_fathomsOf qfX10_baitOf))))
theorem gfX6_wishBy_0 : GoodIn vfX6_wishBy vfX10_spotOf := (goodIn_m (fun _ h => (List.mem_cons_of_mem _ (List.mem_append_right _ (List.mem_append_right _ (List.mem_append_left _ h))))) qfX10_spotOf)
theorem gfX6_wishBy_1 : GoodIn vfX6_wishBy vfX10_fathomsOf := (goodIn_m (fun _ h => (List.mem_cons_of_mem _ (List.mem_append_right _ (List.mem_append_right _ (List.mem_append_right _ (List.mem_append_left _ h)))))) qfX10_fathomsOf)
theorem gfX6_wishBy_2 : GoodIn vfX6_wishBy vfX10_baitOf := (goodIn_m (fun _ h => (List.mem_cons_of_mem _ (List.mem_append_right _ (List.mem_append_right _ (List.mem_append_right _ (List.mem_append_right _ h)))))) qfX10_baitOf)
set_option maxHeartbeats 2000000 in
set_option maxRecDepth 100000 in
theorem kfX6_wishBy (l : Launch) (dC : Nat → ClassId) (dI : Nat → Nat → Nat) (a0 : Nat) (k1 : Int32) (k2 : Int32) (k3 : Int32) (up : Nat → Nat) (kp : Nat → ClassId) (p_p : TX6_p) (sz : Nat) (out : Int32) (h : f_X6_wishBy k1 k2 k3 p_p = some out) : Met l yX6_wishBy vfX6_wishBy ({ frames := 1, cells := 0, slots := 0, locals := 21 }) (PC (dC, dI) [.ref a0, .int k1, .int k2, .int k3] sz (bX6 a0 up kp p_p []) (tX6 kp ([]))) (va_Qi (S := Unit) (fun (r : Int32) _ => r = out) (fun _ t => BC (dC, dI) (va_A (bX6 a0 up kp p_p []) sz) (bX6 a0 up kp p_p []) [] t) (va_A (bX6 a0 up kp p_p []) sz)) 0 0 (va_A (bX6 a0 up kp p_p []) sz) := by
  refine Met.ofW (cc := cX6_wishBy) (maxL := 5) (ret := (some .int)) (by decide) rfl ?_
  intro p e s m args below meth c s₁ B0 hml hv
  obtain ⟨rfl, hsz, hP, hK, hD0, hN⟩ := hv
  have hx := B0.exec
  have hb := B0.bytes
  have hr := B0.returns
  have hts := atoms_spec (ws := vfX6_wishBy) B0.pre
  have hown : s.vm.findClass RX6 = some m.cls := findClass_of_methodNamed B0.named
  have hlocks := B0.notSynchronized
  subst hsz
  have hD := hD0.self (sz := s.heap.size)
  generalize hAe : va_A (bX6 a0 up kp p_p []) s.heap.size = A at hD ⊢
  have hA : ∀ q : Nat, s.heap.size ≤ q → A q := fun q h => by rw [← hAe]; exact Or.inr h
  have hS : va_S A s.heap s.heap [] := va_S.rf
  have hP : va_P (dC, dI) vwCl (bX6 a0 up kp p_p []) s.heap := hP
  have hl := lv_entry ([.ref a0, .int k1, .int k2, .int k3]) (n := 5) (Nat.le_of_ble_eq_true rfl)
  rw [lg_entry_eq]
  generalize (lg_sl ([.ref a0, .int k1, .int k2, .int k3]) ++ List.replicate (5 - (lg_sl ([.ref a0, .int k1, .int k2, .int k3])).length) Slot.unset).toArray = ls at hl ⊢
  have hl : lv_has ls 5 [(0, .ref a0), (1, .int k1), (2, .int k2), (3, .int k3)] := hl
  refine W_q (fun QQ hQQ => ?_)
  rw [f_X6_wishBy] at h
  refine lv_iload_n hx hb dX6_wishBy_0 rfl (lv_at hl 2 rfl) ?_
  refine lv_bipush (v := 10) hx hb dX6_wishBy_1 (by decide) ?_
  refine lv_iload_n hx hb dX6_wishBy_3 rfl (lv_at hl 3 rfl) ?_
  obtain ⟨o4, eo4⟩ : ∃ o, o = f_X10_spotOf k3 := ⟨_, rfl⟩
  have h := nm_of h o4 eo4
  refine cl_i (wc := []) (wr := (bX6 a0 up kp p_p [])) (va_runSN (As := [.int k3]) (rest := [.int 10, .int k2]) ⟨hx, hb, hml, hown, hts⟩ (kfX10_spotOf l dC dI k3 s.heap.size o4 eo4.symm) ⟨va_cnB 1 hts gfX6_wishBy_0 rfl rfl rfl (hN.1 (.methodLinkNest RX6 72 yX10_spotOf "HookPier") (List.mem_of_getElem? (i := 12) rfl)) (hts (.initialized RX10) (List.mem_of_getElem? (i := 1) rfl)) (by decide +kernel) ⟨(Nat.le_of_ble_eq_true rfl), (Nat.le_of_ble_eq_true rfl)⟩, (hts (.static yX10_spotOf) (List.mem_of_getElem? (i := 2) rfl)), trivial⟩ (PS (hP.sub (ws' := []) [] rfl) (hK.sub (tys' := ([])) [] rfl) (hD.sub (ws' := []) [] (by decide) rfl) hN) rfl rfl hl.1 rfl (lv_room (Nat.le_of_ble_eq_true rfl)) dX6_wishBy_4 ⟨(Nat.le_of_ble_eq_true rfl), (Nat.le_of_ble_eq_true rfl)⟩) hP hD hK hS hA [] [0, 1, 2, 3, 4, 5, 6, 7, 8, 9] rfl rfl (by decide) (by decide) (fun r4 _ H locs hw hP hD _ hS => ?_)
  obtain rfl := hw.symm
  have hP : va_P (dC, dI) vwCl (bX6 a0 up kp p_p []) H := hP
  have hD : va_D A (bX6 a0 up kp p_p []) := hD
  refine lv_aload_n hx hb dX6_wishBy_7 rfl (lv_at hl 0 rfl) ?_
  refine va_get (D := (dC, dI)) (ci := 4) (v := .ref (up 2)) (C := RX6) (T := TX6) (N := 18) hx hb hts ifX6_wishBy_X6 hown hK hP 0 rfl rfl 11 (by decide) (hts (.fieldLink RX6 46 "HookPier$Plan" "at" "[I") (List.mem_of_getElem? (i := 3) rfl)) (fun _ h9 => h9) rfl dX6_wishBy_8 ?_
  refine lv_iload_n hx hb dX6_wishBy_11 rfl (lv_at hl 1 rfl) ?_
  obtain ⟨hg12, h⟩ := gA_of h
  refine va_iald hx hb hK hP 3 2 rfl rfl hg12 dX6_wishBy_12 ?_
  refine lv_isub hx hb dX6_wishBy_13 ?_
  refine va_mabs hx hb (by rw [hml]; exact hl.1.symm) hown (hts (.methodLink RX6 89 Lib.Math.abs.name) (List.mem_of_getElem? (i := 4) rfl)) (hts (.static Lib.Math.abs.name) (List.mem_of_getElem? (i := 5) rfl)) (hts (.initialized "java/lang/Math") (List.mem_of_getElem? (i := 6) rfl)) (hts (.code Lib.Math.abs.name Lib.Math.abs.code 1 (some .int)) (List.mem_of_getElem? (i := 7) rfl)) (Nat.le_of_ble_eq_true rfl) (Nat.le_of_ble_eq_true rfl) (Nat.le_of_ble_eq_true rfl) (Nat.le_of_ble_eq_true rfl) dX6_wishBy_14 ?_
  refine lv_topi (fun z14 ez14 => ?_)
  have h := nm_of h z14 ez14
  refine lv_imul hx hb dX6_wishBy_17 ?_
  refine lv_isub hx hb dX6_wishBy_18 ?_
  refine lv_istore (lv' := [(4, .int (k2 - ((10 : Int32) * z14))), (0, .ref a0), (1, .int k1), (2, .int k2), (3, .int k3)]) hx hb dX6_wishBy_19 hl (by decide) rfl (fun ls hl => ?_)
  refine lv_aload_n hx hb dX6_wishBy_21 rfl (lv_at hl 1 rfl) ?_
  refine va_get (D := (dC, dI)) (ci := 4) (v := .ref (up 1)) (C := RX6) (T := TX6) (N := 18) hx hb hts ifX6_wishBy_X6 hown hK hP 0 rfl rfl 10 (by decide) (hts (.fieldLink RX6 43 "HookPier$Plan" "kind" "[I") (List.mem_of_getElem? (i := 8) rfl)) (fun _ h9 => h9) rfl dX6_wishBy_22 ?_
  refine lv_iload_n hx hb dX6_wishBy_25 rfl (lv_at hl 2 rfl) ?_
  obtain ⟨hg26, h⟩ := gA_of h
  refine va_iald hx hb hK hP 2 1 rfl rfl hg26 dX6_wishBy_26 ?_
  refine lv_iconst (v := 3) hx hb dX6_wishBy_27 (by decide) ?_
  have J53 : ∀ (v53_l4 : Int32) (H : Heap) (locs : List Loc) (ls : Array Slot), f_X6_wishBy_J53 k1 k3 p_p v53_l4 = some out → va_P (dC, dI) vwCl (bX6 a0 up kp p_p []) H → va_D A (bX6 a0 up kp p_p []) → va_S A s.heap H locs → lv_has ls 5 [(4, .int v53_l4), (0, .ref a0), (1, .int k1), (3, .int k3)] → W p l e (headSpec vfX6_wishBy { frames := 1, cells := 0, slots := 0, locals := 21 }).room s m ([.ref a0, .int k1, .int k2, .int k3]).toArray below meth c H locs 0 0 QQ (F0 m 53 ls []) := by
    intro v53_l4 H locs ls h  hP hD hS hl
    rw [f_X6_wishBy_J53] at h
    refine lv_aload_n hx hb dX6_wishBy_53 rfl (lv_at hl 1 rfl) ?_
    refine va_get (D := (dC, dI)) (ci := 4) (v := .ref (up 1)) (C := RX6) (T := TX6) (N := 18) hx hb hts ifX6_wishBy_X6 hown hK hP 0 rfl rfl 10 (by decide) (hts (.fieldLink RX6 43 "HookPier$Plan" "kind" "[I") (List.mem_of_getElem? (i := 8) rfl)) (fun _ h9 => h9) rfl dX6_wishBy_54 ?_
    refine lv_iload_n hx hb dX6_wishBy_57 rfl (lv_at hl 2 rfl) ?_
    obtain ⟨hg58, h⟩ := gA_of h
    refine va_iald hx hb hK hP 2 1 rfl rfl hg58 dX6_wishBy_58 ?_
    refine lv_iconst (v := 2) hx hb dX6_wishBy_59 (by decide) ?_
    have J85 : ∀ (v85_l4 : Int32) (H : Heap) (locs : List Loc) (ls : Array Slot), f_X6_wishBy_J85 v85_l4 = some out → va_P (dC, dI) vwCl (bX6 a0 up kp p_p []) H → va_D A (bX6 a0 up kp p_p []) → va_S A s.heap H locs → lv_has ls 5 [(4, .int v85_l4)] → W p l e (headSpec vfX6_wishBy { frames := 1, cells := 0, slots := 0, locals := 21 }).room s m ([.ref a0, .int k1, .int k2, .int k3]).toArray below meth c H locs 0 0 QQ (F0 m 85 ls []) := by
      intro v85_l4 H locs ls h  hP hD hS hl
      rw [f_X6_wishBy_J85] at h
      refine lv_iconst (v := 0) hx hb dX6_wishBy_85 (by decide) ?_
      refine lv_bipush (v := 100) hx hb dX6_wishBy_86 (by decide) ?_
      refine lv_iload hx hb dX6_wishBy_88 (lv_at hl 0 rfl) ?_
      refine va_mmin hx hb (by rw [hml]; exact hl.1.symm) hown (hts (.methodLink RX6 98 Lib.Math.min.name) (List.mem_of_getElem? (i := 9) rfl)) (hts (.static Lib.Math.min.name) (List.mem_of_getElem? (i := 10) rfl)) (hts (.initialized "java/lang/Math") (List.mem_of_getElem? (i := 6) rfl)) (hts (.code Lib.Math.min.name Lib.Math.min.code 2 (some .int)) (List.mem_of_getElem? (i := 11) rfl)) (Nat.le_of_ble_eq_true rfl) (Nat.le_of_ble_eq_true rfl) (Nat.le_of_ble_eq_true rfl) (Nat.le_of_ble_eq_true rfl) dX6_wishBy_90 ?_
      refine lv_topi (fun z90 ez90 => ?_)
      have h := nm_of h z90 ez90
      refine va_mmax hx hb (by rw [hml]; exact hl.1.symm) hown (hts (.methodLink RX6 102 Lib.Math.max.name) (List.mem_of_getElem? (i := 12) rfl)) (hts (.static Lib.Math.max.name) (List.mem_of_getElem? (i := 13) rfl)) (hts (.initialized "java/lang/Math") (List.mem_of_getElem? (i := 6) rfl)) (hts (.code Lib.Math.max.name Lib.Math.max.code 2 (some .int)) (List.mem_of_getElem? (i := 14) rfl)) (Nat.le_of_ble_eq_true rfl) (Nat.le_of_ble_eq_true rfl) (Nat.le_of_ble_eq_true rfl) (Nat.le_of_ble_eq_true rfl) dX6_wishBy_93 ?_
      refine lv_topi (fun z93 ez93 => ?_)
      have h := nm_of h z93 ez93
      obtain rfl := Option.some.inj h
      have hP9 := hP.sub (ws' := (bX6 a0 up kp p_p [])) [0, 1, 2, 3, 4, 5, 6, 7, 8, 9] rfl
      have hD9 := hD.sub (ws' := (bX6 a0 up kp p_p [])) [0, 1, 2, 3, 4, 5, 6, 7, 8, 9] (by decide) rfl
      have hK9 := hK.sub (tys' := []) [] rfl
      rw [hQQ]
      exact W.iret (v := z93) hx hb hr (fun t ht hW => ⟨⟨z93, (), rfl, rfl, by rw [ht]; exact hP9, va_K.moved hW.alike hK9, hD9⟩, hS.F ht⟩) hS.2.2 dX6_wishBy_96
    refine lv_icmp_eq (tgt := 85) hx hb dX6_wishBy_60 (by decide) (fun c60 => ?_) (fun c60 => ?_)
    · have h := (if_pos c60).symm.trans h
      exact J85 v53_l4 H _ ls h  hP hD hS (lv_sub hl [0] rfl)
    · have h := (if_neg c60).symm.trans h
      refine lv_iload hx hb dX6_wishBy_63 (lv_at hl 0 rfl) ?_
      refine lv_bipush (v := 8) hx hb dX6_wishBy_65 (by decide) ?_
      refine lv_iload_n hx hb dX6_wishBy_67 rfl (lv_at hl 3 rfl) ?_
      obtain ⟨o68, eo68⟩ : ∃ o, o = f_X10_fathomsOf k3 := ⟨_, rfl⟩
      have h := nm_of h o68 eo68
      refine cl_i (wc := []) (wr := (bX6 a0 up kp p_p [])) (va_runSN (As := [.int k3]) (rest := [.int 8, .int v53_l4]) ⟨hx, hb, hml, hown, hts⟩ (kfX10_fathomsOf l dC dI k3 H.size o68 eo68.symm) ⟨va_cnB 1 hts gfX6_wishBy_1 rfl rfl rfl (hN.1 (.methodLinkNest RX6 80 yX10_fathomsOf "HookPier") (List.mem_of_getElem? (i := 14) rfl)) (hts (.initialized RX10) (List.mem_of_getElem? (i := 1) rfl)) (by decide +kernel) ⟨(Nat.le_of_ble_eq_true rfl), (Nat.le_of_ble_eq_true rfl)⟩, (hts (.static yX10_fathomsOf) (List.mem_of_getElem? (i := 15) rfl)), trivial⟩ (PS (hP.sub (ws' := []) [] rfl) (hK.sub (tys' := ([])) [] rfl) (hD.sub (ws' := []) [] (by decide) rfl) hN) rfl rfl hl.1 rfl (lv_room (Nat.le_of_ble_eq_true rfl)) dX6_wishBy_68 ⟨(Nat.le_of_ble_eq_true rfl), (Nat.le_of_ble_eq_true rfl)⟩) hP hD hK hS hA [] [0, 1, 2, 3, 4, 5, 6, 7, 8, 9] rfl rfl (by decide) (by decide) (fun r68 _ H locs hw hP hD _ hS => ?_)
      obtain rfl := hw.symm
      have hP : va_P (dC, dI) vwCl (bX6 a0 up kp p_p []) H := hP
      have hD : va_D A (bX6 a0 up kp p_p []) := hD
      refine lv_aload_n hx hb dX6_wishBy_71 rfl (lv_at hl 1 rfl) ?_
      refine va_get (D := (dC, dI)) (ci := 4) (v := .ref (up 3)) (C := RX6) (T := TX6) (N := 18) hx hb hts ifX6_wishBy_X6 hown hK hP 0 rfl rfl 12 (by decide) (hts (.fieldLink RX6 49 "HookPier$Plan" "depth" "[I") (List.mem_of_getElem? (i := 16) rfl)) (fun _ h9 => h9) rfl dX6_wishBy_72 ?_
      refine lv_iload_n hx hb dX6_wishBy_75 rfl (lv_at hl 2 rfl) ?_
      obtain ⟨hg76, h⟩ := gA_of h
      refine va_iald hx hb hK hP 4 3 rfl rfl hg76 dX6_wishBy_76 ?_
      refine lv_isub hx hb dX6_wishBy_77 ?_
      refine va_mabs hx hb (by rw [hml]; exact hl.1.symm) hown (hts (.methodLink RX6 89 Lib.Math.abs.name) (List.mem_of_getElem? (i := 4) rfl)) (hts (.static Lib.Math.abs.name) (List.mem_of_getElem? (i := 5) rfl)) (hts (.initialized "java/lang/Math") (List.mem_of_getElem? (i := 6) rfl)) (hts (.code Lib.Math.abs.name Lib.Math.abs.code 1 (some .int)) (List.mem_of_getElem? (i := 7) rfl)) (Nat.le_of_ble_eq_true rfl) (Nat.le_of_ble_eq_true rfl) (Nat.le_of_ble_eq_true rfl) (Nat.le_of_ble_eq_true rfl) dX6_wishBy_78 ?_
      refine lv_topi (fun z78 ez78 => ?_)
      have h := nm_of h z78 ez78
      refine lv_imul hx hb dX6_wishBy_81 ?_
      refine lv_isub hx hb dX6_wishBy_82 ?_
      refine lv_istore (lv' := [(4, .int (v53_l4 - ((8 : Int32) * z78))), (0, .ref a0), (1, .int k1), (3, .int k3)]) hx hb dX6_wishBy_83 hl (by decide) rfl (fun ls hl => ?_)
      exact J85 (v53_l4 - ((8 : Int32) * z78)) H _ ls h  hP hD hS (lv_sub hl [0] rfl)
  refine lv_icmp_ne (tgt := 37) hx hb dX6_wishBy_28 (by decide) (fun c28 => ?_) (fun c28 => ?_)
  · have h := (if_neg c28).symm.trans h
    refine lv_aload_n hx hb dX6_wishBy_37 rfl (lv_at hl 1 rfl) ?_
    refine va_get (D := (dC, dI)) (ci := 4) (v := .ref (up 5)) (C := RX6) (T := TX6) (N := 18) hx hb hts ifX6_wishBy_X6 hown hK hP 0 rfl rfl 14 (by decide) (hts (.fieldLink RX6 55 "HookPier$Plan" "likes" "[I") (List.mem_of_getElem? (i := 17) rfl)) (fun _ h9 => h9) rfl dX6_wishBy_38 ?_
    refine lv_iload_n hx hb dX6_wishBy_41 rfl (lv_at hl 2 rfl) ?_
    obtain ⟨hg42, h⟩ := gA_of h
    refine va_iald hx hb hK hP 6 5 rfl rfl hg42 dX6_wishBy_42 ?_
    refine lv_iload_n hx hb dX6_wishBy_43 rfl (lv_at hl 4 rfl) ?_
    obtain ⟨o44, eo44⟩ : ∃ o, o = f_X10_baitOf k3 := ⟨_, rfl⟩
    have h := nm_of h o44 eo44
    refine cl_i (wc := []) (wr := (bX6 a0 up kp p_p [])) (va_runSN (As := [.int k3]) (rest := [.int (p_p.2.2.2.2.2.2.2.2.2.2.2.2.2.2.1 (k1).toNatClampNeg)]) ⟨hx, hb, hml, hown, hts⟩ (kfX10_baitOf l dC dI k3 H.size o44 eo44.symm) ⟨va_cnB 1 hts gfX6_wishBy_2 rfl rfl rfl (hN.1 (.methodLinkNest RX6 83 yX10_baitOf "HookPier") (List.mem_of_getElem? (i := 13) rfl)) (hts (.initialized RX10) (List.mem_of_getElem? (i := 1) rfl)) (by decide +kernel) ⟨(Nat.le_of_ble_eq_true rfl), (Nat.le_of_ble_eq_true rfl)⟩, (hts (.static yX10_baitOf) (List.mem_of_getElem? (i := 18) rfl)), trivial⟩ (PS (hP.sub (ws' := []) [] rfl) (hK.sub (tys' := ([])) [] rfl) (hD.sub (ws' := []) [] (by decide) rfl) hN) rfl rfl hl.1 rfl (lv_room (Nat.le_of_ble_eq_true rfl)) dX6_wishBy_44 ⟨(Nat.le_of_ble_eq_true rfl), (Nat.le_of_ble_eq_true rfl)⟩) hP hD hK hS hA [] [0, 1, 2, 3, 4, 5, 6, 7, 8, 9] rfl rfl (by decide) (by decide) (fun r44 _ H locs hw hP hD _ hS => ?_)
    obtain rfl := hw.symm
    have hP : va_P (dC, dI) vwCl (bX6 a0 up kp p_p []) H := hP
    have hD : va_D A (bX6 a0 up kp p_p []) := hD
    refine lv_icmp_ne (tgt := 53) hx hb dX6_wishBy_47 (by decide) (fun c47 => ?_) (fun c47 => ?_)
    · have h := (if_neg c47).symm.trans h
      exact J53 (k2 - ((10 : Int32) * z14)) H _ ls h  hP hD hS (lv_sub hl [0, 1, 2, 4] rfl)
    · have h := (if_pos c47).symm.trans h
      refine lv_iinc (v := ((k2 - ((10 : Int32) * z14)) + (20 : Int32))) (lv' := [(4, .int ((k2 - ((10 : Int32) * z14)) + (20 : Int32))), (0, .ref a0), (1, .int k1), (2, .int k2), (3, .int k3)]) hx hb dX6_wishBy_50 hl (k := 0) rfl rfl (by decide) rfl (fun ls hl => ?_)
      exact J53 ((k2 - ((10 : Int32) * z14)) + (20 : Int32)) H _ ls h  hP hD hS (lv_sub hl [0, 1, 2, 4] rfl)
  · have h := (if_pos c28).symm.trans h
    refine lv_iinc (v := ((k2 - ((10 : Int32) * z14)) + (-20 : Int32))) (lv' := [(4, .int ((k2 - ((10 : Int32) * z14)) + (-20 : Int32))), (0, .ref a0), (1, .int k1), (2, .int k2), (3, .int k3)]) hx hb dX6_wishBy_31 hl (k := 0) rfl rfl (by decide) rfl (fun ls hl => ?_)
    refine lv_goto (tgt := 53) hx hb dX6_wishBy_34 (by decide) ?_
    exact J53 ((k2 - ((10 : Int32) * z14)) + (-20 : Int32)) H _ ls h  hP hD hS (lv_sub hl [0, 1, 2, 4] rfl)
theorem dX6_wishFor_0 : decode cX6_wishFor 0 = .ok (.aload_n 0, 1) := by decide +kernel
theorem dX6_wishFor_1 : decode cX6_wishFor 1 = .ok (.iload_n 1, 1) := by decide +kernel
theorem dX6_wishFor_12 : decode cX6_wishFor 12 = .ok (.ireturn, 1) := by decide +kernel
theorem dX6_wishFor_2 : decode cX6_wishFor 2 = .ok (.aload_n 0, 1) := by decide +kernel
theorem dX6_wishFor_3 : decode cX6_wishFor 3 = .ok (.getfield 52, 3) := by decide +kernel
theorem dX6_wishFor_6 : decode cX6_wishFor 6 = .ok (.iload_n 1, 1) := by decide +kernel
theorem dX6_wishFor_7 : decode cX6_wishFor 7 = .ok (.iaload, 1) := by decide +kernel
theorem dX6_wishFor_8 : decode cX6_wishFor 8 = .ok (.iload_n 2, 1) := by decide +kernel
theorem dX6_wishFor_9 : decode cX6_wishFor 9 = .ok (.invokevirtual 94, 3) := by decide +kernel
def vfX6_wishFor : List Cond := List.cons (.code yX6_wishFor cX6_wishFor 3 (some .int)) (apW [.fieldLink RX6 52 "HookPier$Plan" "hunger" "[I", .methodLink RX6 94 yX6_wishBy, .instanceMethod yX6_wishBy, .selects RX6 yX6_wishBy yX6_wishBy, .initialized RX6] (apW wsX60 (vfX6_wishBy)))
theorem ifX6_wishFor_X6 : ∀ w ∈ wsX60, w ∈ vfX6_wishFor := fun _ h => (List.mem_cons_of_mem _ (List.mem_append_right _ (List.mem_append_left _ h)))
theorem qfX6_wishFor : Good vfX6_wishFor := gd_cons (by decide +kernel) (gd_app (gd_dec (by decide +kernel) : Good [.fieldLink RX6 52 "HookPier$Plan" "hunger" "[I", .methodLink RX6 94 yX6_wishBy, .instanceMethod yX6_wishBy, .selects RX6 yX6_wishBy yX6_wishBy, .initialized RX6]) (gd_app qsX6 qfX6_wishBy))
theorem gfX6_wishFor_0 : GoodIn vfX6_wishFor (wsV RX6 94 RX6 yX6_wishBy vfX6_wishBy) := goodIn_app (goodIn_r [.methodLink RX6 94 yX6_wishBy, .instanceMethod yX6_wishBy, .selects RX6 yX6_wishBy yX6_wishBy, .initialized RX6] [2, 3, 4, 5] rfl (by decide +kernel)) (goodIn_m (fun _ h => (List.mem_cons_of_mem _ (List.mem_append_right _ (List.mem_append_right _ h)))) qfX6_wishBy)
set_option maxHeartbeats 2000000 in
set_option maxRecDepth 100000 in
theorem kfX6_wishFor (l : Launch) (dC : Nat → ClassId) (dI : Nat → Nat → Nat) (a0 : Nat) (k1 : Int32) (k2 : Int32) (up : Nat → Nat) (kp : Nat → ClassId) (p_p : TX6_p) (sz : Nat) (out : Int32) (h : f_X6_wishFor k1 k2 p_p = some out) : Met l yX6_wishFor vfX6_wishFor ({ frames := 2, cells := 0, slots := 0, locals := 45 }) (PC (dC, dI) [.ref a0, .int k1, .int k2] sz (bX6 a0 up kp p_p []) (tX6 kp ([]))) (va_Qi (S := Unit) (fun (r : Int32) _ => r = out) (fun _ t => BC (dC, dI) (va_A (bX6 a0 up kp p_p []) sz) (bX6 a0 up kp p_p []) [] t) (va_A (bX6 a0 up kp p_p []) sz)) 0 0 (va_A (bX6 a0 up kp p_p []) sz) := by
  refine Met.ofW (cc := cX6_wishFor) (maxL := 3) (ret := (some .int)) (by decide) rfl ?_
  intro p e s m args below meth c s₁ B0 hml hv
  obtain ⟨rfl, hsz, hP, hK, hD0, hN⟩ := hv
  have hx := B0.exec
  have hb := B0.bytes
  have hr := B0.returns
  have hts := atoms_spec (ws := vfX6_wishFor) B0.pre
  have hown : s.vm.findClass RX6 = some m.cls := findClass_of_methodNamed B0.named
  have hlocks := B0.notSynchronized
  subst hsz
  have hD := hD0.self (sz := s.heap.size)
  generalize hAe : va_A (bX6 a0 up kp p_p []) s.heap.size = A at hD ⊢
  have hA : ∀ q : Nat, s.heap.size ≤ q → A q := fun q h => by rw [← hAe]; exact Or.inr h
  have hS : va_S A s.heap s.heap [] := va_S.rf
  have hP : va_P (dC, dI) vwCl (bX6 a0 up kp p_p []) s.heap := hP
  have hl := lv_entry ([.ref a0, .int k1, .int k2]) (n := 3) (Nat.le_of_ble_eq_true rfl)
  rw [lg_entry_eq]
  generalize (lg_sl ([.ref a0, .int k1, .int k2]) ++ List.replicate (3 - (lg_sl ([.ref a0, .int k1, .int k2])).length) Slot.unset).toArray = ls at hl ⊢
  have hl : lv_has ls 3 [(0, .ref a0), (1, .int k1), (2, .int k2)] := hl
  refine W_q (fun QQ hQQ => ?_)
  rw [f_X6_wishFor] at h
  refine lv_aload_n hx hb dX6_wishFor_0 rfl (lv_at hl 0 rfl) ?_
  refine lv_iload_n hx hb dX6_wishFor_1 rfl (lv_at hl 1 rfl) ?_
  refine lv_aload_n hx hb dX6_wishFor_2 rfl (lv_at hl 0 rfl) ?_
  refine va_get (D := (dC, dI)) (ci := 4) (v := .ref (up 4)) (C := RX6) (T := TX6) (N := 18) hx hb hts ifX6_wishFor_X6 hown hK hP 0 rfl rfl 13 (by decide) (hts (.fieldLink RX6 52 "HookPier$Plan" "hunger" "[I") (List.mem_of_getElem? (i := 1) rfl)) (fun _ h9 => h9) rfl dX6_wishFor_3 ?_
  refine lv_iload_n hx hb dX6_wishFor_6 rfl (lv_at hl 1 rfl) ?_
  obtain ⟨hg7, h⟩ := gA_of h
  refine va_iald hx hb hK hP 5 4 rfl rfl hg7 dX6_wishFor_7 ?_
  refine lv_iload_n hx hb dX6_wishFor_8 rfl (lv_at hl 2 rfl) ?_
  obtain ⟨o9, eo9, h⟩ := bd_of h
  refine cl_i (wc := (bX6 a0 up kp p_p [])) (wr := []) (va_runV (As := [.int k1, .int (p_p.2.2.2.2.2.2.2.2.2.2.2.2.2.1 (k1).toNatClampNeg), .int k2]) (rest := []) ⟨hx, hb, hml, hown, hts⟩ (kfX6_wishBy l dC dI a0 k1 (p_p.2.2.2.2.2.2.2.2.2.2.2.2.2.1 (k1).toNatClampNeg) k2 up kp p_p s.heap.size o9 eo9) (cwV 3 hts gfX6_wishFor_0 rfl rfl rfl (by decide +kernel) ⟨(Nat.le_of_ble_eq_true rfl), (Nat.le_of_ble_eq_true rfl)⟩) (PV (hP.sub (ws' := (bX6 a0 up kp p_p [])) [0, 1, 2, 3, 4, 5, 6, 7, 8, 9] rfl) (hK.sub (tys' := (tX6 kp ([]))) [0, 1, 2, 3, 4, 5, 6, 7, 8] rfl) (hD.sub (ws' := (bX6 a0 up kp p_p [])) [0, 1, 2, 3, 4, 5, 6, 7, 8, 9] (by decide) rfl) hN 0 rfl rfl) rfl rfl hl.1 rfl (lv_room (Nat.le_of_ble_eq_true rfl)) dX6_wishFor_9 ⟨(Nat.le_of_ble_eq_true rfl), (Nat.le_of_ble_eq_true rfl)⟩) hP hD hK hS hA [0, 1, 2, 3, 4, 5, 6, 7, 8, 9] [] rfl rfl (by decide) (by decide) (fun r9 _ H locs hw hP hD _ hS => ?_)
  obtain rfl := hw.symm
  have hP : va_P (dC, dI) vwCl (bX6 a0 up kp p_p []) H := hP
  have hD : va_D A (bX6 a0 up kp p_p []) := hD
  obtain rfl := Option.some.inj h
  have hP9 := hP.sub (ws' := (bX6 a0 up kp p_p [])) [0, 1, 2, 3, 4, 5, 6, 7, 8, 9] rfl
  have hD9 := hD.sub (ws' := (bX6 a0 up kp p_p [])) [0, 1, 2, 3, 4, 5, 6, 7, 8, 9] (by decide) rfl
  have hK9 := hK.sub (tys' := []) [] rfl
  rw [hQQ]
  exact W.iret (v := o9) hx hb hr (fun t ht hW => ⟨⟨o9, (), rfl, rfl, by rw [ht]; exact hP9, va_K.moved hW.alike hK9, hD9⟩, hS.F ht⟩) hS.2.2 dX6_wishFor_12
theorem dX1_taker_0 : decode cX1_taker 0 = .ok (.iconst 0, 1) := by decide +kernel
theorem dX1_taker_1 : decode cX1_taker 1 = .ok (.istore_n 3, 1) := by decide +kernel
theorem dX1_taker_10 : decode cX1_taker 10 = .ok (.aload_n 1, 1) := by decide +kernel
theorem dX1_taker_11 : decode cX1_taker 11 = .ok (.getfield 95, 3) := by decide +kernel
theorem dX1_taker_14 : decode cX1_taker 14 = .ok (.iload_n 3, 1) := by decide +kernel
theorem dX1_taker_15 : decode cX1_taker 15 = .ok (.iaload, 1) := by decide +kernel
theorem dX1_taker_16 : decode cX1_taker 16 = .ok (.ifCond .ne 18, 3) := by decide +kernel
theorem dX1_taker_19 : decode cX1_taker 19 = .ok (.aload_n 1, 1) := by decide +kernel
theorem dX1_taker_2 : decode cX1_taker 2 = .ok (.iload_n 3, 1) := by decide +kernel
theorem dX1_taker_20 : decode cX1_taker 20 = .ok (.invokevirtual 98, 3) := by decide +kernel
theorem dX1_taker_23 : decode cX1_taker 23 = .ok (.aload_n 0, 1) := by decide +kernel
theorem dX1_taker_24 : decode cX1_taker 24 = .ok (.iload_n 3, 1) := by decide +kernel
theorem dX1_taker_25 : decode cX1_taker 25 = .ok (.iload_n 2, 1) := by decide +kernel
theorem dX1_taker_26 : decode cX1_taker 26 = .ok (.invokevirtual 102, 3) := by decide +kernel
theorem dX1_taker_29 : decode cX1_taker 29 = .ok (.if_icmp .ge 5, 3) := by decide +kernel
theorem dX1_taker_3 : decode cX1_taker 3 = .ok (.aload_n 0, 1) := by decide +kernel
theorem dX1_taker_32 : decode cX1_taker 32 = .ok (.iload_n 3, 1) := by decide +kernel
theorem dX1_taker_33 : decode cX1_taker 33 = .ok (.ireturn, 1) := by decide +kernel
theorem dX1_taker_34 : decode cX1_taker 34 = .ok (.iinc 3 1, 3) := by decide +kernel
theorem dX1_taker_37 : decode cX1_taker 37 = .ok (.goto (-35), 3) := by decide +kernel
theorem dX1_taker_4 : decode cX1_taker 4 = .ok (.getfield 92, 3) := by decide +kernel
theorem dX1_taker_40 : decode cX1_taker 40 = .ok (.iconst (-1), 1) := by decide +kernel
theorem dX1_taker_41 : decode cX1_taker 41 = .ok (.ireturn, 1) := by decide +kernel
theorem dX1_taker_7 : decode cX1_taker 7 = .ok (.if_icmp .ge 33, 3) := by decide +kernel
def vfX1_taker : List Cond := List.cons (.code yX1_taker cX1_taker 4 (some .int)) (apW [.fieldLink RX1 92 "HookPier$Plan" "answers" "I", .fieldLink RX1 95 "HookPier$Now" "stage" "[I", .methodLink RX1 98 yX4_draw, .instanceMethod yX4_draw, .selects RX4 yX4_draw yX4_draw, .initialized RX4, .methodLink RX1 102 yX6_wishFor, .instanceMethod yX6_wishFor, .selects RX6 yX6_wishFor yX6_wishFor, .initialized RX6] (apW wsX60 (apW wsX40 (apW vfX4_draw (vfX6_wishFor)))))
theorem ifX1_taker_X6 : ∀ w ∈ wsX60, w ∈ vfX1_taker := fun _ h => (List.mem_cons_of_mem _ (List.mem_append_right _ (List.mem_append_left _ h)))
theorem ifX1_taker_X4 : ∀ w ∈ wsX40, w ∈ vfX1_taker := fun _ h => (List.mem_cons_of_mem _ (List.mem_append_right _ (List.mem_append_right _ (List.mem_append_left _ h))))
theorem qfX1_taker : Good vfX1_taker := gd_cons (by decide +kernel) (gd_app (gd_dec (by decide +kernel) : Good [.fieldLink RX1 92 "HookPier$Plan" "answers" "I", .fieldLink RX1 95 "HookPier$Now" "stage" "[I", .methodLink RX1 98 yX4_draw, .instanceMethod yX4_draw, .selects RX4 yX4_draw yX4_draw, .initialized RX4, .methodLink RX1 102 yX6_wishFor, .instanceMethod yX6_wishFor, .selects RX6 yX6_wishFor yX6_wishFor, .initialized RX6]) (gd_app qsX6 (gd_app qsX4 (gd_app qfX4_draw qfX6_wishFor))))
theorem gfX1_taker_0 : GoodIn vfX1_taker (wsV RX1 98 RX4 yX4_draw vfX4_draw) := goodIn_app (goodIn_r [.methodLink RX1 98 yX4_draw, .instanceMethod yX4_draw, .selects RX4 yX4_draw yX4_draw, .initialized RX4] [3, 4, 5, 6] rfl (by decide +kernel)) (goodIn_m (fun _ h => (List.mem_cons_of_mem _ (List.mem_append_right _ (List.mem_append_right _ (List.mem_append_right _ (List.mem_append_left _ h)))))) qfX4_draw)
theorem gfX1_taker_1 : GoodIn vfX1_taker (wsV RX1 102 RX6 yX6_wishFor vfX6_wishFor) := goodIn_app (goodIn_r [.methodLink RX1 102 yX6_wishFor, .instanceMethod yX6_wishFor, .selects RX6 yX6_wishFor yX6_wishFor, .initialized RX6] [7, 8, 9, 10] rfl (by decide +kernel)) (goodIn_m (fun _ h => (List.mem_cons_of_mem _ (List.mem_append_right _ (List.mem_append_right _ (List.mem_append_right _ (List.mem_append_right _ h)))))) qfX6_wishFor)
set_option maxHeartbeats 2000000 in
set_option maxRecDepth 100000 in
theorem kfX1_taker (l : Launch) (dC : Nat → ClassId) (dI : Nat → Nat → Nat) (a0 : Nat) (a1 : Nat) (k2 : Int32) (up : Nat → Nat) (kp : Nat → ClassId) (un : Nat → Nat) (kn : Nat → ClassId) (p_p : TX6_p) (n_n : TX4_n) (sz : Nat) (out : (Int32 × TX4_n)) (h : f_X1_taker k2 p_p n_n = some out) : Met l yX1_taker vfX1_taker ({ frames := 3, cells := 0, slots := 0, locals := 67 }) (PC (dC, dI) [.ref a0, .ref a1, .int k2] sz (bX6 a0 up kp p_p (bX4 a1 un kn n_n [])) (tX6 kp (tX4 kn ([])))) (va_Qi (S := Unit) (fun (r : Int32) _ => r = out.1) (fun _ t => BC (dC, dI) (va_A (bX6 a0 up kp p_p (bX4 a1 un kn n_n [])) sz) (bX6 a0 up kp p_p (bX4 a1 un kn out.2 [])) [] t) (va_A (bX6 a0 up kp p_p (bX4 a1 un kn n_n [])) sz)) 0 0 (va_A (bX6 a0 up kp p_p (bX4 a1 un kn n_n [])) sz) := by
  refine Met.ofW (cc := cX1_taker) (maxL := 4) (ret := (some .int)) (by decide) rfl ?_
  intro p e s m args below meth c s₁ B0 hml hv
  obtain ⟨rfl, hsz, hP, hK, hD0, hN⟩ := hv
  have hx := B0.exec
  have hb := B0.bytes
  have hr := B0.returns
  have hts := atoms_spec (ws := vfX1_taker) B0.pre
  have hown : s.vm.findClass RX1 = some m.cls := findClass_of_methodNamed B0.named
  have hlocks := B0.notSynchronized
  subst hsz
  have hD := hD0.self (sz := s.heap.size)
  generalize hAe : va_A (bX6 a0 up kp p_p (bX4 a1 un kn n_n [])) s.heap.size = A at hD ⊢
  have hA : ∀ q : Nat, s.heap.size ≤ q → A q := fun q h => by rw [← hAe]; exact Or.inr h
  have hS : va_S A s.heap s.heap [] := va_S.rf
  have hP : va_P (dC, dI) vwCl (bX6 a0 up kp p_p (bX4 a1 un kn n_n [])) s.heap := hP
  have hl := lv_entry ([.ref a0, .ref a1, .int k2]) (n := 4) (Nat.le_of_ble_eq_true rfl)
  rw [lg_entry_eq]
  generalize (lg_sl ([.ref a0, .ref a1, .int k2]) ++ List.replicate (4 - (lg_sl ([.ref a0, .ref a1, .int k2])).length) Slot.unset).toArray = ls at hl ⊢
  have hl : lv_has ls 4 [(0, .ref a0), (1, .ref a1), (2, .int k2)] := hl
  refine W_q (fun QQ hQQ => ?_)
  rw [f_X1_taker] at h
  refine lv_iconst (v := 0) hx hb dX1_taker_0 (by decide) ?_
  refine lv_istore_n (lv' := [(3, .int 0), (0, .ref a0), (1, .ref a1), (2, .int k2)]) hx hb dX1_taker_1 rfl hl (by decide) rfl (fun ls hl => ?_)
  have L2 : ∀ (n2 : Nat) (v2_l3 : Int32) (v2_n_n : TX4_n) (H : Heap) (locs : List Loc) (ls : Array Slot), f_X1_taker_L2 k2 p_p n2 v2_l3 v2_n_n = some out → va_P (dC, dI) vwCl (bX6 a0 up kp p_p (bX4 a1 un kn v2_n_n [])) H → va_D A (bX6 a0 up kp p_p (bX4 a1 un kn v2_n_n [])) → va_S A s.heap H locs → lv_has ls 4 [(3, .int v2_l3), (0, .ref a0), (1, .ref a1), (2, .int k2)] → W p l e (headSpec vfX1_taker { frames := 3, cells := 0, slots := 0, locals := 67 }).room s m ([.ref a0, .ref a1, .int k2]).toArray below meth c H locs 0 0 QQ (F0 m 2 ls []) := by
    intro n2
    induction n2 with
    | zero =>
      intro v2_l3 v2_n_n H locs ls h  _ _ _ _
      rw [f_X1_taker_L2] at h
      cases h
    | succ n2 ih2 =>
      intro v2_l3 v2_n_n H locs ls h  hP hD hS hl
      rw [f_X1_taker_L2] at h
      refine lv_iload_n hx hb dX1_taker_2 rfl (lv_at hl 0 rfl) ?_
      refine lv_aload_n hx hb dX1_taker_3 rfl (lv_at hl 1 rfl) ?_
      refine va_get (D := (dC, dI)) (ci := 4) (v := .int p_p.2.2.2.2.2.2.1) (C := RX6) (T := TX6) (N := 18) hx hb hts ifX1_taker_X6 hown hK hP 0 rfl rfl 6 (by decide) (hts (.fieldLink RX1 92 "HookPier$Plan" "answers" "I") (List.mem_of_getElem? (i := 1) rfl)) (fun _ h9 => h9) rfl dX1_taker_4 ?_
      refine lv_icmp_ge (tgt := 40) hx hb dX1_taker_7 (by decide) (fun c7 => ?_) (fun c7 => ?_)
      · have h := (if_pos c7).symm.trans h
        refine lv_iconst (v := (-1)) hx hb dX1_taker_40 (by decide) ?_
        obtain rfl := Option.some.inj h
        have hP9 := hP.sub (ws' := (bX6 a0 up kp p_p (bX4 a1 un kn v2_n_n []))) [0, 1, 2, 3, 4, 5, 6, 7, 8, 9, 10, 11, 12, 13, 14] rfl
        have hD9 := hD.sub (ws' := (bX6 a0 up kp p_p (bX4 a1 un kn v2_n_n []))) [0, 1, 2, 3, 4, 5, 6, 7, 8, 9, 10, 11, 12, 13, 14] (by decide) rfl
        have hK9 := hK.sub (tys' := []) [] rfl
        rw [hQQ]
        exact W.iret (v := (-1 : Int32)) hx hb hr (fun t ht hW => ⟨⟨(-1 : Int32), (), rfl, rfl, by rw [ht]; exact hP9, va_K.moved hW.alike hK9, hD9⟩, hS.F ht⟩) hS.2.2 dX1_taker_41
      · have h := (if_neg c7).symm.trans h
        refine lv_aload_n hx hb dX1_taker_10 rfl (lv_at hl 2 rfl) ?_
        refine va_get (D := (dC, dI)) (ci := 3) (v := .ref (un 0)) (C := RX4) (T := TX4) (N := 7) hx hb hts ifX1_taker_X4 hown hK hP 10 rfl rfl 3 (by decide) (hts (.fieldLink RX1 95 "HookPier$Now" "stage" "[I") (List.mem_of_getElem? (i := 2) rfl)) (fun _ h9 => h9) rfl dX1_taker_11 ?_
        refine lv_iload_n hx hb dX1_taker_14 rfl (lv_at hl 0 rfl) ?_
        obtain ⟨hg15, h⟩ := gA_of h
        refine va_iald hx hb hK hP 11 9 rfl rfl hg15 dX1_taker_15 ?_
        have J34 : ∀ (v34_n_n : TX4_n) (H : Heap) (locs : List Loc) (ls : Array Slot), f_X1_taker_J34 (f_X1_taker_L2 k2 p_p n2) v2_l3 v34_n_n = some out → va_P (dC, dI) vwCl (bX6 a0 up kp p_p (bX4 a1 un kn v34_n_n [])) H → va_D A (bX6 a0 up kp p_p (bX4 a1 un kn v34_n_n [])) → va_S A s.heap H locs → lv_has ls 4 [(3, .int v2_l3), (0, .ref a0), (1, .ref a1), (2, .int k2)] → W p l e (headSpec vfX1_taker { frames := 3, cells := 0, slots := 0, locals := 67 }).room s m ([.ref a0, .ref a1, .int k2]).toArray below meth c H locs 0 0 QQ (F0 m 34 ls []) := by
          intro v34_n_n H locs ls h  hP hD hS hl
          rw [f_X1_taker_J34] at h
          refine lv_iinc (v := (v2_l3 + (1 : Int32))) (lv' := [(3, .int (v2_l3 + (1 : Int32))), (0, .ref a0), (1, .ref a1), (2, .int k2)]) hx hb dX1_taker_34 hl (k := 0) rfl rfl (by decide) rfl (fun ls hl => ?_)
          refine lv_goto (tgt := 2) hx hb dX1_taker_37 (by decide) ?_
          exact ih2 (v2_l3 + (1 : Int32)) v34_n_n H _ ls h  hP hD hS (lv_sub hl [0, 1, 2, 3] rfl)
        refine lv_if_ne (tgt := 34) hx hb dX1_taker_16 (by decide) (fun c16 => ?_) (fun c16 => ?_)
        · have h := (if_neg c16).symm.trans h
          exact J34 v2_n_n H _ ls h  hP hD hS (lv_sub hl [0, 1, 2, 3] rfl)
        · have h := (if_pos c16).symm.trans h
          refine lv_aload_n hx hb dX1_taker_19 rfl (lv_at hl 2 rfl) ?_
          obtain ⟨o20, eo20⟩ : ∃ o, o = f_X4_draw v2_n_n := ⟨_, rfl⟩
          have h := nm_of h o20 eo20
          refine cl_i (wc := (bX4 a1 un kn v2_n_n [])) (wr := (bX6 a0 up kp p_p [])) (va_runV (As := []) (rest := []) ⟨hx, hb, hml, hown, hts⟩ (kfX4_draw l dC dI a1 un kn v2_n_n H.size o20 eo20.symm) (cwV 0 hts gfX1_taker_0 rfl rfl rfl (by decide +kernel) ⟨(Nat.le_of_ble_eq_true rfl), (Nat.le_of_ble_eq_true rfl)⟩) (PV (hP.sub (ws' := (bX4 a1 un kn v2_n_n [])) [10, 11, 12, 13, 14] rfl) (hK.sub (tys' := (tX4 kn ([]))) [9, 10, 11, 12] rfl) (hD.sub (ws' := (bX4 a1 un kn v2_n_n [])) [10, 11, 12, 13, 14] (by decide) rfl) hN 0 rfl rfl) rfl rfl hl.1 rfl (lv_room (Nat.le_of_ble_eq_true rfl)) dX1_taker_20 ⟨(Nat.le_of_ble_eq_true rfl), (Nat.le_of_ble_eq_true rfl)⟩) hP hD hK hS hA [10, 11, 12, 13, 14] [0, 1, 2, 3, 4, 5, 6, 7, 8, 9] rfl rfl (by decide) (by decide) (fun r20 _ H locs hw hP hD _ hS => ?_)
          obtain rfl := hw
          have hP : va_P (dC, dI) vwCl (bX6 a0 up kp p_p (bX4 a1 un kn o20.2 [])) H := hP
          have hD : va_D A (bX6 a0 up kp p_p (bX4 a1 un kn o20.2 [])) := hD
          refine lv_aload_n hx hb dX1_taker_23 rfl (lv_at hl 1 rfl) ?_
          refine lv_iload_n hx hb dX1_taker_24 rfl (lv_at hl 0 rfl) ?_
          refine lv_iload_n hx hb dX1_taker_25 rfl (lv_at hl 3 rfl) ?_
          obtain ⟨o26, eo26, h⟩ := bd_of h
          refine cl_i (wc := (bX6 a0 up kp p_p [])) (wr := (bX4 a1 un kn o20.2 [])) (va_runV (As := [.int v2_l3, .int k2]) (rest := [.int o20.1]) ⟨hx, hb, hml, hown, hts⟩ (kfX6_wishFor l dC dI a0 v2_l3 k2 up kp p_p H.size o26 eo26) (cwV 2 hts gfX1_taker_1 rfl rfl rfl (by decide +kernel) ⟨(Nat.le_of_ble_eq_true rfl), (Nat.le_of_ble_eq_true rfl)⟩) (PV (hP.sub (ws' := (bX6 a0 up kp p_p [])) [0, 1, 2, 3, 4, 5, 6, 7, 8, 9] rfl) (hK.sub (tys' := (tX6 kp ([]))) [0, 1, 2, 3, 4, 5, 6, 7, 8] rfl) (hD.sub (ws' := (bX6 a0 up kp p_p [])) [0, 1, 2, 3, 4, 5, 6, 7, 8, 9] (by decide) rfl) hN 0 rfl rfl) rfl rfl hl.1 rfl (lv_room (Nat.le_of_ble_eq_true rfl)) dX1_taker_26 ⟨(Nat.le_of_ble_eq_true rfl), (Nat.le_of_ble_eq_true rfl)⟩) hP hD hK hS hA [0, 1, 2, 3, 4, 5, 6, 7, 8, 9] [10, 11, 12, 13, 14] rfl rfl (by decide) (by decide) (fun r26 _ H locs hw hP hD _ hS => ?_)
          obtain rfl := hw.symm
          have hP : va_P (dC, dI) vwCl (bX4 a1 un kn o20.2 (bX6 a0 up kp p_p [])) H := hP
          have hD : va_D A (bX4 a1 un kn o20.2 (bX6 a0 up kp p_p [])) := hD
          refine lv_icmp_ge (tgt := 34) hx hb dX1_taker_29 (by decide) (fun c29 => ?_) (fun c29 => ?_)
          · have h := (if_pos c29).symm.trans h
            exact J34 o20.2 H _ ls h  (hP.sub (ws' := (bX6 a0 up kp p_p (bX4 a1 un kn o20.2 []))) [5, 6, 7, 8, 9, 10, 11, 12, 13, 14, 0, 1, 2, 3, 4] rfl) (hD.sub (ws' := (bX6 a0 up kp p_p (bX4 a1 un kn o20.2 []))) [5, 6, 7, 8, 9, 10, 11, 12, 13, 14, 0, 1, 2, 3, 4] (by decide) rfl) hS (lv_sub hl [0, 1, 2, 3] rfl)
          · have h := (if_neg c29).symm.trans h
            refine lv_iload_n hx hb dX1_taker_32 rfl (lv_at hl 0 rfl) ?_
            obtain rfl := Option.some.inj h
            have hP9 := hP.sub (ws' := (bX6 a0 up kp p_p (bX4 a1 un kn o20.2 []))) [5, 6, 7, 8, 9, 10, 11, 12, 13, 14, 0, 1, 2, 3, 4] rfl
            have hD9 := hD.sub (ws' := (bX6 a0 up kp p_p (bX4 a1 un kn o20.2 []))) [5, 6, 7, 8, 9, 10, 11, 12, 13, 14, 0, 1, 2, 3, 4] (by decide) rfl
            have hK9 := hK.sub (tys' := []) [] rfl
            rw [hQQ]
            exact W.iret (v := v2_l3) hx hb hr (fun t ht hW => ⟨⟨v2_l3, (), rfl, rfl, by rw [ht]; exact hP9, va_K.moved hW.alike hK9, hD9⟩, hS.F ht⟩) hS.2.2 dX1_taker_33
  exact L2 FU (0 : Int32) n_n s.heap _ ls h  hP hD hS (lv_sub hl [0, 1, 2, 3] rfl)
theorem dX4_land_0 : decode cX4_land 0 = .ok (.aload_n 0, 1) := by decide +kernel
theorem dX4_land_1 : decode cX4_land 1 = .ok (.getfield 21, 3) := by decide +kernel
theorem dX4_land_11 : decode cX4_land 11 = .ok (.iload_n 1, 1) := by decide +kernel
theorem dX4_land_12 : decode cX4_land 12 = .ok (.aload_n 0, 1) := by decide +kernel
theorem dX4_land_13 : decode cX4_land 13 = .ok (.getfield 9, 3) := by decide +kernel
theorem dX4_land_16 : decode cX4_land 16 = .ok (.iastore, 1) := by decide +kernel
theorem dX4_land_17 : decode cX4_land 17 = .ok (.aload_n 0, 1) := by decide +kernel
theorem dX4_land_18 : decode cX4_land 18 = .ok (.getfield 28, 3) := by decide +kernel
theorem dX4_land_21 : decode cX4_land 21 = .ok (.iload_n 1, 1) := by decide +kernel
theorem dX4_land_22 : decode cX4_land 22 = .ok (.iload_n 2, 1) := by decide +kernel
theorem dX4_land_23 : decode cX4_land 23 = .ok (.iastore, 1) := by decide +kernel
theorem dX4_land_24 : decode cX4_land 24 = .ok (.return_, 1) := by decide +kernel
theorem dX4_land_4 : decode cX4_land 4 = .ok (.iload_n 1, 1) := by decide +kernel
theorem dX4_land_5 : decode cX4_land 5 = .ok (.iconst 1, 1) := by decide +kernel
theorem dX4_land_6 : decode cX4_land 6 = .ok (.iastore, 1) := by decide +kernel
theorem dX4_land_7 : decode cX4_land 7 = .ok (.aload_n 0, 1) := by decide +kernel
theorem dX4_land_8 : decode cX4_land 8 = .ok (.getfield 25, 3) := by decide +kernel
def vfX4_land : List Cond := List.cons (.code yX4_land cX4_land 3 none) (apW [.fieldLink RX4 21 "HookPier$Now" "stage" "[I", .fieldLink RX4 25 "HookPier$Now" "landedOn" "[I", .fieldLink RX4 9 "HookPier$Now" "today" "I", .fieldLink RX4 28 "HookPier$Now" "landedBy" "[I"] (wsX40))
theorem ifX4_land_X4 : ∀ w ∈ wsX40, w ∈ vfX4_land := fun _ h => (List.mem_cons_of_mem _ (List.mem_append_right _ h))
theorem qfX4_land : Good vfX4_land := gd_cons (by decide +kernel) (gd_app (gd_dec (by decide +kernel) : Good [.fieldLink RX4 21 "HookPier$Now" "stage" "[I", .fieldLink RX4 25 "HookPier$Now" "landedOn" "[I", .fieldLink RX4 9 "HookPier$Now" "today" "I", .fieldLink RX4 28 "HookPier$Now" "landedBy" "[I"]) qsX4)
set_option maxHeartbeats 2000000 in
set_option maxRecDepth 100000 in
theorem kfX4_land (l : Launch) (dC : Nat → ClassId) (dI : Nat → Nat → Nat) (a0 : Nat) (k1 : Int32) (k2 : Int32) (un : Nat → Nat) (kn : Nat → ClassId) (n_n : TX4_n) (sz : Nat) (out : TX4_n) (h : f_X4_land k1 k2 n_n = some out) : Met l yX4_land vfX4_land ({ frames := 0, cells := 0, slots := 0, locals := 0 }) (PC (dC, dI) [.ref a0, .int k1, .int k2] sz (bX4 a0 un kn n_n []) (tX4 kn ([]))) (va_Qv (S := Unit) (fun _ => True) (fun _ t => BC (dC, dI) (va_A (bX4 a0 un kn n_n []) sz) (bX4 a0 un kn out []) [] t) (va_A (bX4 a0 un kn n_n []) sz)) 0 0 (va_A (bX4 a0 un kn n_n []) sz) := by
  refine Met.ofW (cc := cX4_land) (maxL := 3) (ret := none) (by decide) rfl ?_
  intro p e s m args below meth c s₁ B0 hml hv
  obtain ⟨rfl, hsz, hP, hK, hD0, hN⟩ := hv
  have hx := B0.exec
  have hb := B0.bytes
  have hr := B0.returns
  have hts := atoms_spec (ws := vfX4_land) B0.pre
  have hown : s.vm.findClass RX4 = some m.cls := findClass_of_methodNamed B0.named
  have hlocks := B0.notSynchronized
  subst hsz
  have hD := hD0.self (sz := s.heap.size)
  generalize hAe : va_A (bX4 a0 un kn n_n []) s.heap.size = A at hD ⊢
  have hA : ∀ q : Nat, s.heap.size ≤ q → A q := fun q h => by rw [← hAe]; exact Or.inr h
  have hS : va_S A s.heap s.heap [] := va_S.rf
  have hP : va_P (dC, dI) vwCl (bX4 a0 un kn n_n []) s.heap := hP
  have hl := lv_entry ([.ref a0, .int k1, .int k2]) (n := 3) (Nat.le_of_ble_eq_true rfl)
  rw [lg_entry_eq]
  generalize (lg_sl ([.ref a0, .int k1, .int k2]) ++ List.replicate (3 - (lg_sl ([.ref a0, .int k1, .int k2])).length) Slot.unset).toArray = ls at hl ⊢
  have hl : lv_has ls 3 [(0, .ref a0), (1, .int k1), (2, .int k2)] := hl
  refine W_q (fun QQ hQQ => ?_)
  rw [f_X4_land] at h
  refine lv_aload_n hx hb dX4_land_0 rfl (lv_at hl 0 rfl) ?_
  refine va_get (D := (dC, dI)) (ci := 3) (v := .ref (un 0)) (C := RX4) (T := TX4) (N := 7) hx hb hts ifX4_land_X4 hown hK hP 0 rfl rfl 3 (by decide) (hts (.fieldLink RX4 21 "HookPier$Now" "stage" "[I") (List.mem_of_getElem? (i := 1) rfl)) (fun _ h9 => h9) rfl dX4_land_1 ?_
  refine lv_iload_n hx hb dX4_land_4 rfl (lv_at hl 1 rfl) ?_
  refine lv_iconst (v := 1) hx hb dX4_land_5 (by decide) ?_
  obtain ⟨hg6, h⟩ := gA_of h
  refine va_iast hx hb hK hP hD hS 1 0 rfl rfl hg6 dX4_land_6 (fun H locs hP hD hS => ?_)
  have hP : va_P (dC, dI) vwCl (bX4 a0 un kn (n_n.1, n_n.2.1, n_n.2.2.1, (upd n_n.2.2.2.1 (k1).toNatClampNeg (1 : Int32)), n_n.2.2.2.2) []) H := hP
  have hD : va_D A (bX4 a0 un kn (n_n.1, n_n.2.1, n_n.2.2.1, (upd n_n.2.2.2.1 (k1).toNatClampNeg (1 : Int32)), n_n.2.2.2.2) []) := hD
  refine lv_aload_n hx hb dX4_land_7 rfl (lv_at hl 0 rfl) ?_
  refine va_get (D := (dC, dI)) (ci := 3) (v := .ref (un 1)) (C := RX4) (T := TX4) (N := 7) hx hb hts ifX4_land_X4 hown hK hP 0 rfl rfl 4 (by decide) (hts (.fieldLink RX4 25 "HookPier$Now" "landedOn" "[I") (List.mem_of_getElem? (i := 2) rfl)) (fun _ h9 => h9) rfl dX4_land_8 ?_
  refine lv_iload_n hx hb dX4_land_11 rfl (lv_at hl 1 rfl) ?_
  refine lv_aload_n hx hb dX4_land_12 rfl (lv_at hl 0 rfl) ?_
  refine va_get (D := (dC, dI)) (ci := 3) (v := .int n_n.1) (C := RX4) (T := TX4) (N := 7) hx hb hts ifX4_land_X4 hown hK hP 0 rfl rfl 0 (by decide) (hts (.fieldLink RX4 9 "HookPier$Now" "today" "I") (List.mem_of_getElem? (i := 3) rfl)) (fun _ h9 => h9) rfl dX4_land_13 ?_
  obtain ⟨hg16, h⟩ := gA_of h
  refine va_iast hx hb hK hP hD hS 2 1 rfl rfl hg16 dX4_land_16 (fun H locs hP hD hS => ?_)
  have hP : va_P (dC, dI) vwCl (bX4 a0 un kn (n_n.1, n_n.2.1, n_n.2.2.1, (upd n_n.2.2.2.1 (k1).toNatClampNeg (1 : Int32)), (upd n_n.2.2.2.2.1 (k1).toNatClampNeg n_n.1), n_n.2.2.2.2.2) []) H := hP
  have hD : va_D A (bX4 a0 un kn (n_n.1, n_n.2.1, n_n.2.2.1, (upd n_n.2.2.2.1 (k1).toNatClampNeg (1 : Int32)), (upd n_n.2.2.2.2.1 (k1).toNatClampNeg n_n.1), n_n.2.2.2.2.2) []) := hD
  refine lv_aload_n hx hb dX4_land_17 rfl (lv_at hl 0 rfl) ?_
  refine va_get (D := (dC, dI)) (ci := 3) (v := .ref (un 2)) (C := RX4) (T := TX4) (N := 7) hx hb hts ifX4_land_X4 hown hK hP 0 rfl rfl 5 (by decide) (hts (.fieldLink RX4 28 "HookPier$Now" "landedBy" "[I") (List.mem_of_getElem? (i := 4) rfl)) (fun _ h9 => h9) rfl dX4_land_18 ?_
  refine lv_iload_n hx hb dX4_land_21 rfl (lv_at hl 1 rfl) ?_
  refine lv_iload_n hx hb dX4_land_22 rfl (lv_at hl 2 rfl) ?_
  obtain ⟨hg23, h⟩ := gA_of h
  refine va_iast hx hb hK hP hD hS 3 2 rfl rfl hg23 dX4_land_23 (fun H locs hP hD hS => ?_)
  have hP : va_P (dC, dI) vwCl (bX4 a0 un kn (n_n.1, n_n.2.1, n_n.2.2.1, (upd n_n.2.2.2.1 (k1).toNatClampNeg (1 : Int32)), (upd n_n.2.2.2.2.1 (k1).toNatClampNeg n_n.1), (upd n_n.2.2.2.2.2.1 (k1).toNatClampNeg k2), n_n.2.2.2.2.2.2) []) H := hP
  have hD : va_D A (bX4 a0 un kn (n_n.1, n_n.2.1, n_n.2.2.1, (upd n_n.2.2.2.1 (k1).toNatClampNeg (1 : Int32)), (upd n_n.2.2.2.2.1 (k1).toNatClampNeg n_n.1), (upd n_n.2.2.2.2.2.1 (k1).toNatClampNeg k2), n_n.2.2.2.2.2.2) []) := hD
  obtain rfl := Option.some.inj h
  have hP9 := hP.sub (ws' := (bX4 a0 un kn (n_n.1, n_n.2.1, n_n.2.2.1, (upd n_n.2.2.2.1 (k1).toNatClampNeg (1 : Int32)), (upd n_n.2.2.2.2.1 (k1).toNatClampNeg n_n.1), (upd n_n.2.2.2.2.2.1 (k1).toNatClampNeg k2), n_n.2.2.2.2.2.2) [])) [0, 1, 2, 3, 4] rfl
  have hD9 := hD.sub (ws' := (bX4 a0 un kn (n_n.1, n_n.2.1, n_n.2.2.1, (upd n_n.2.2.2.1 (k1).toNatClampNeg (1 : Int32)), (upd n_n.2.2.2.2.1 (k1).toNatClampNeg n_n.1), (upd n_n.2.2.2.2.2.1 (k1).toNatClampNeg k2), n_n.2.2.2.2.2.2) [])) [0, 1, 2, 3, 4] (by decide) rfl
  have hK9 := hK.sub (tys' := []) [] rfl
  rw [hQQ]
  exact W.vret hx hb hr (fun t ht hW => ⟨⟨(), rfl, trivial, by rw [ht]; exact hP9, va_K.moved hW.alike hK9, hD9⟩, hS.F ht⟩) hS.2.2 dX4_land_24
theorem dX1_taken_0 : decode cX1_taken 0 = .ok (.aload_n 2, 1) := by decide +kernel
theorem dX1_taken_1 : decode cX1_taken 1 = .ok (.getfield 68, 3) := by decide +kernel
theorem dX1_taken_11 : decode cX1_taken 11 = .ok (.iload 4, 2) := by decide +kernel
theorem dX1_taken_13 : decode cX1_taken 13 = .ok (.iaload, 1) := by decide +kernel
theorem dX1_taken_14 : decode cX1_taken 14 = .ok (.iconst 2, 1) := by decide +kernel
theorem dX1_taken_15 : decode cX1_taken 15 = .ok (.if_icmp .ne 15, 3) := by decide +kernel
theorem dX1_taken_18 : decode cX1_taken 18 = .ok (.aload_n 0, 1) := by decide +kernel
theorem dX1_taken_19 : decode cX1_taken 19 = .ok (.dup, 1) := by decide +kernel
theorem dX1_taken_20 : decode cX1_taken 20 = .ok (.getfield 22, 3) := by decide +kernel
theorem dX1_taken_23 : decode cX1_taken 23 = .ok (.iconst 1, 1) := by decide +kernel
theorem dX1_taken_24 : decode cX1_taken 24 = .ok (.iadd, 1) := by decide +kernel
theorem dX1_taken_25 : decode cX1_taken 25 = .ok (.putfield 22, 3) := by decide +kernel
theorem dX1_taken_28 : decode cX1_taken 28 = .ok (.iconst 0, 1) := by decide +kernel
theorem dX1_taken_29 : decode cX1_taken 29 = .ok (.ireturn, 1) := by decide +kernel
theorem dX1_taken_30 : decode cX1_taken 30 = .ok (.aload_n 2, 1) := by decide +kernel
theorem dX1_taken_31 : decode cX1_taken 31 = .ok (.iload 4, 2) := by decide +kernel
theorem dX1_taken_33 : decode cX1_taken 33 = .ok (.iload_n 3, 1) := by decide +kernel
theorem dX1_taken_34 : decode cX1_taken 34 = .ok (.invokevirtual 89, 3) := by decide +kernel
theorem dX1_taken_37 : decode cX1_taken 37 = .ok (.iconst 1, 1) := by decide +kernel
theorem dX1_taken_38 : decode cX1_taken 38 = .ok (.iload 4, 2) := by decide +kernel
theorem dX1_taken_4 : decode cX1_taken 4 = .ok (.iload_n 3, 1) := by decide +kernel
theorem dX1_taken_40 : decode cX1_taken 40 = .ok (.ishl, 1) := by decide +kernel
theorem dX1_taken_41 : decode cX1_taken 41 = .ok (.ireturn, 1) := by decide +kernel
theorem dX1_taken_5 : decode cX1_taken 5 = .ok (.iconst (-1), 1) := by decide +kernel
theorem dX1_taken_6 : decode cX1_taken 6 = .ok (.iastore, 1) := by decide +kernel
theorem dX1_taken_7 : decode cX1_taken 7 = .ok (.aload_n 1, 1) := by decide +kernel
theorem dX1_taken_8 : decode cX1_taken 8 = .ok (.getfield 86, 3) := by decide +kernel
def vfX1_taken : List Cond := List.cons (.code yX1_taken cX1_taken 5 (some .int)) (apW [.fieldLink RX1 68 "HookPier$Now" "line" "[I", .fieldLink RX1 86 "HookPier$Plan" "kind" "[I", .methodLink RX1 89 yX4_land, .instanceMethod yX4_land, .selects RX4 yX4_land yX4_land, .initialized RX4, .fieldLink RX1 22 "HookPier$Days" "crabTakes" "I"] (apW wsX40 (apW wsX60 (apW wsX10 (vfX4_land)))))
theorem ifX1_taken_X4 : ∀ w ∈ wsX40, w ∈ vfX1_taken := fun _ h => (List.mem_cons_of_mem _ (List.mem_append_right _ (List.mem_append_left _ h)))
theorem ifX1_taken_X6 : ∀ w ∈ wsX60, w ∈ vfX1_taken := fun _ h => (List.mem_cons_of_mem _ (List.mem_append_right _ (List.mem_append_right _ (List.mem_append_left _ h))))
theorem ifX1_taken_X1 : ∀ w ∈ wsX10, w ∈ vfX1_taken := fun _ h => (List.mem_cons_of_mem _ (List.mem_append_right _ (List.mem_append_right _ (List.mem_append_right _ (List.mem_append_left _ h)))))
theorem qfX1_taken : Good vfX1_taken := gd_cons (by decide +kernel) (gd_app (gd_dec (by decide +kernel) : Good [.fieldLink RX1 68 "HookPier$Now" "line" "[I", .fieldLink RX1 86 "HookPier$Plan" "kind" "[I", .methodLink RX1 89 yX4_land, .instanceMethod yX4_land, .selects RX4 yX4_land yX4_land, .initialized RX4, .fieldLink RX1 22 "HookPier$Days" "crabTakes" "I"]) (gd_app qsX4 (gd_app qsX6 (gd_app qsX1 qfX4_land))))
theorem gfX1_taken_0 : GoodIn vfX1_taken (wsV RX1 89 RX4 yX4_land vfX4_land) := goodIn_app (goodIn_r [.methodLink RX1 89 yX4_land, .instanceMethod yX4_land, .selects RX4 yX4_land yX4_land, .initialized RX4] [3, 4, 5, 6] rfl (by decide +kernel)) (goodIn_m (fun _ h => (List.mem_cons_of_mem _ (List.mem_append_right _ (List.mem_append_right _ (List.mem_append_right _ (List.mem_append_right _ h)))))) qfX4_land)
set_option maxHeartbeats 2000000 in
set_option maxRecDepth 100000 in
theorem kfX1_taken (l : Launch) (dC : Nat → ClassId) (dI : Nat → Nat → Nat) (a0 : Nat) (a1 : Nat) (a2 : Nat) (k3 : Int32) (k4 : Int32) (a5 : Nat) (up : Nat → Nat) (kp : Nat → ClassId) (un : Nat → Nat) (kn : Nat → ClassId) (y_y : TX1_y) (g11 : Value) (p_p : TX6_p) (n_n : TX4_n) (cB14 : ClassId) (sz : Nat) (out : (Int32 × TX1_y × TX4_n)) (h : f_X1_taken k3 k4 y_y p_p n_n = some out) : Met l yX1_taken vfX1_taken ({ frames := 1, cells := 0, slots := 0, locals := 22 }) (PC (dC, dI) [.ref a0, .ref a1, .ref a2, .int k3, .int k4] sz ((a0, .inr (1, [g11, .int y_y.1, .int y_y.2.1, .ref a5])) :: bX6 a1 up kp p_p (bX4 a2 un kn n_n ([(a5, .inl (cB14, 6, .inl y_y.2.2))]))) (tX6 kp (tX4 kn ((cB14, .int) :: [])))) (va_Qi (S := Unit) (fun (r : Int32) _ => r = out.1) (fun _ t => BC (dC, dI) (va_A ((a0, .inr (1, [g11, .int y_y.1, .int y_y.2.1, .ref a5])) :: bX6 a1 up kp p_p (bX4 a2 un kn n_n ([(a5, .inl (cB14, 6, .inl y_y.2.2))]))) sz) ((a0, .inr (1, [g11, .int out.2.1.1, .int out.2.1.2.1, .ref a5])) :: bX6 a1 up kp p_p (bX4 a2 un kn out.2.2 ([(a5, .inl (cB14, 6, .inl out.2.1.2.2))]))) [] t) (va_A ((a0, .inr (1, [g11, .int y_y.1, .int y_y.2.1, .ref a5])) :: bX6 a1 up kp p_p (bX4 a2 un kn n_n ([(a5, .inl (cB14, 6, .inl y_y.2.2))]))) sz)) 0 0 (va_A ((a0, .inr (1, [g11, .int y_y.1, .int y_y.2.1, .ref a5])) :: bX6 a1 up kp p_p (bX4 a2 un kn n_n ([(a5, .inl (cB14, 6, .inl y_y.2.2))]))) sz) := by
  refine Met.ofW (cc := cX1_taken) (maxL := 5) (ret := (some .int)) (by decide) rfl ?_
  intro p e s m args below meth c s₁ B0 hml hv
  obtain ⟨rfl, hsz, hP, hK, hD0, hN⟩ := hv
  have hx := B0.exec
  have hb := B0.bytes
  have hr := B0.returns
  have hts := atoms_spec (ws := vfX1_taken) B0.pre
  have hown : s.vm.findClass RX1 = some m.cls := findClass_of_methodNamed B0.named
  have hlocks := B0.notSynchronized
  subst hsz
  have hD := hD0.self (sz := s.heap.size)
  generalize hAe : va_A ((a0, .inr (1, [g11, .int y_y.1, .int y_y.2.1, .ref a5])) :: bX6 a1 up kp p_p (bX4 a2 un kn n_n ([(a5, .inl (cB14, 6, .inl y_y.2.2))]))) s.heap.size = A at hD ⊢
  have hA : ∀ q : Nat, s.heap.size ≤ q → A q := fun q h => by rw [← hAe]; exact Or.inr h
  have hS : va_S A s.heap s.heap [] := va_S.rf
  have hP : va_P (dC, dI) vwCl ((a0, .inr (1, [g11, .int y_y.1, .int y_y.2.1, .ref a5])) :: bX6 a1 up kp p_p (bX4 a2 un kn n_n ([(a5, .inl (cB14, 6, .inl y_y.2.2))]))) s.heap := hP
  have hl := lv_entry ([.ref a0, .ref a1, .ref a2, .int k3, .int k4]) (n := 5) (Nat.le_of_ble_eq_true rfl)
  rw [lg_entry_eq]
  generalize (lg_sl ([.ref a0, .ref a1, .ref a2, .int k3, .int k4]) ++ List.replicate (5 - (lg_sl ([.ref a0, .ref a1, .ref a2, .int k3, .int k4])).length) Slot.unset).toArray = ls at hl ⊢
  have hl : lv_has ls 5 [(0, .ref a0), (1, .ref a1), (2, .ref a2), (3, .int k3), (4, .int k4)] := hl
  refine W_q (fun QQ hQQ => ?_)
  rw [f_X1_taken] at h
  refine lv_aload_n hx hb dX1_taken_0 rfl (lv_at hl 2 rfl) ?_
  refine va_get (D := (dC, dI)) (ci := 3) (v := .ref (un 3)) (C := RX4) (T := TX4) (N := 7) hx hb hts ifX1_taken_X4 hown hK hP 11 rfl rfl 6 (by decide) (hts (.fieldLink RX1 68 "HookPier$Now" "line" "[I") (List.mem_of_getElem? (i := 1) rfl)) (fun _ h9 => h9) rfl dX1_taken_1 ?_
  refine lv_iload_n hx hb dX1_taken_4 rfl (lv_at hl 3 rfl) ?_
  refine lv_iconst (v := (-1)) hx hb dX1_taken_5 (by decide) ?_
  obtain ⟨hg6, h⟩ := gA_of h
  refine va_iast hx hb hK hP hD hS 15 12 rfl rfl hg6 dX1_taken_6 (fun H locs hP hD hS => ?_)
  have hP : va_P (dC, dI) vwCl ((a0, .inr (1, [g11, .int y_y.1, .int y_y.2.1, .ref a5])) :: bX6 a1 up kp p_p (bX4 a2 un kn (n_n.1, n_n.2.1, n_n.2.2.1, n_n.2.2.2.1, n_n.2.2.2.2.1, n_n.2.2.2.2.2.1, (upd n_n.2.2.2.2.2.2 (k3).toNatClampNeg (-1 : Int32))) ([(a5, .inl (cB14, 6, .inl y_y.2.2))]))) H := hP
  have hD : va_D A ((a0, .inr (1, [g11, .int y_y.1, .int y_y.2.1, .ref a5])) :: bX6 a1 up kp p_p (bX4 a2 un kn (n_n.1, n_n.2.1, n_n.2.2.1, n_n.2.2.2.1, n_n.2.2.2.2.1, n_n.2.2.2.2.2.1, (upd n_n.2.2.2.2.2.2 (k3).toNatClampNeg (-1 : Int32))) ([(a5, .inl (cB14, 6, .inl y_y.2.2))]))) := hD
  refine lv_aload_n hx hb dX1_taken_7 rfl (lv_at hl 1 rfl) ?_
  refine va_get (D := (dC, dI)) (ci := 4) (v := .ref (up 1)) (C := RX6) (T := TX6) (N := 18) hx hb hts ifX1_taken_X6 hown hK hP 1 rfl rfl 10 (by decide) (hts (.fieldLink RX1 86 "HookPier$Plan" "kind" "[I") (List.mem_of_getElem? (i := 2) rfl)) (fun _ h9 => h9) rfl dX1_taken_8 ?_
  refine lv_iload hx hb dX1_taken_11 (lv_at hl 4 rfl) ?_
  obtain ⟨hg13, h⟩ := gA_of h
  refine va_iald hx hb hK hP 3 1 rfl rfl hg13 dX1_taken_13 ?_
  refine lv_iconst (v := 2) hx hb dX1_taken_14 (by decide) ?_
  refine lv_icmp_ne (tgt := 30) hx hb dX1_taken_15 (by decide) (fun c15 => ?_) (fun c15 => ?_)
  · have h := (if_neg c15).symm.trans h
    refine lv_aload_n hx hb dX1_taken_30 rfl (lv_at hl 2 rfl) ?_
    refine lv_iload hx hb dX1_taken_31 (lv_at hl 4 rfl) ?_
    refine lv_iload_n hx hb dX1_taken_33 rfl (lv_at hl 3 rfl) ?_
    obtain ⟨o34, eo34, h⟩ := bd_of h
    refine cl_v (wc := (bX4 a2 un kn (n_n.1, n_n.2.1, n_n.2.2.1, n_n.2.2.2.1, n_n.2.2.2.2.1, n_n.2.2.2.2.2.1, (upd n_n.2.2.2.2.2.2 (k3).toNatClampNeg (-1 : Int32))) [])) (wr := ((a0, .inr (1, [g11, .int y_y.1, .int y_y.2.1, .ref a5])) :: bX6 a1 up kp p_p ([(a5, .inl (cB14, 6, .inl y_y.2.2))]))) (va_runV (As := [.int k4, .int k3]) (rest := []) ⟨hx, hb, hml, hown, hts⟩ (kfX4_land l dC dI a2 k4 k3 un kn (n_n.1, n_n.2.1, n_n.2.2.1, n_n.2.2.2.1, n_n.2.2.2.2.1, n_n.2.2.2.2.2.1, (upd n_n.2.2.2.2.2.2 (k3).toNatClampNeg (-1 : Int32))) H.size o34 eo34) (cwV 2 hts gfX1_taken_0 rfl rfl rfl (by decide +kernel) ⟨(Nat.le_of_ble_eq_true rfl), (Nat.le_of_ble_eq_true rfl)⟩) (PV (hP.sub (ws' := (bX4 a2 un kn (n_n.1, n_n.2.1, n_n.2.2.1, n_n.2.2.2.1, n_n.2.2.2.2.1, n_n.2.2.2.2.2.1, (upd n_n.2.2.2.2.2.2 (k3).toNatClampNeg (-1 : Int32))) [])) [11, 12, 13, 14, 15] rfl) (hK.sub (tys' := (tX4 kn ([]))) [9, 10, 11, 12] rfl) (hD.sub (ws' := (bX4 a2 un kn (n_n.1, n_n.2.1, n_n.2.2.1, n_n.2.2.2.1, n_n.2.2.2.2.1, n_n.2.2.2.2.2.1, (upd n_n.2.2.2.2.2.2 (k3).toNatClampNeg (-1 : Int32))) [])) [11, 12, 13, 14, 15] (by decide) rfl) hN 0 rfl rfl) rfl rfl hl.1 rfl (lv_room (Nat.le_of_ble_eq_true rfl)) dX1_taken_34 ⟨(Nat.le_of_ble_eq_true rfl), (Nat.le_of_ble_eq_true rfl)⟩) hP hD hK hS hA [11, 12, 13, 14, 15] [0, 1, 2, 3, 4, 5, 6, 7, 8, 9, 10, 16] rfl rfl (by decide) (by decide) (fun _ H locs hw hP hD _ hS => ?_)
    have hP : va_P (dC, dI) vwCl ((a0, .inr (1, [g11, .int y_y.1, .int y_y.2.1, .ref a5])) :: bX6 a1 up kp p_p ((a5, .inl (cB14, 6, .inl y_y.2.2)) :: bX4 a2 un kn o34 [])) H := hP
    have hD : va_D A ((a0, .inr (1, [g11, .int y_y.1, .int y_y.2.1, .ref a5])) :: bX6 a1 up kp p_p ((a5, .inl (cB14, 6, .inl y_y.2.2)) :: bX4 a2 un kn o34 [])) := hD
    refine lv_iconst (v := 1) hx hb dX1_taken_37 (by decide) ?_
    refine lv_iload hx hb dX1_taken_38 (lv_at hl 4 rfl) ?_
    refine lv_ishl hx hb dX1_taken_40 ?_
    obtain rfl := Option.some.inj h
    have hP9 := hP.sub (ws' := ((a0, .inr (1, [g11, .int y_y.1, .int y_y.2.1, .ref a5])) :: bX6 a1 up kp p_p (bX4 a2 un kn o34 ([(a5, .inl (cB14, 6, .inl y_y.2.2))])))) [0, 1, 2, 3, 4, 5, 6, 7, 8, 9, 10, 12, 13, 14, 15, 16, 11] rfl
    have hD9 := hD.sub (ws' := ((a0, .inr (1, [g11, .int y_y.1, .int y_y.2.1, .ref a5])) :: bX6 a1 up kp p_p (bX4 a2 un kn o34 ([(a5, .inl (cB14, 6, .inl y_y.2.2))])))) [0, 1, 2, 3, 4, 5, 6, 7, 8, 9, 10, 12, 13, 14, 15, 16, 11] (by decide) rfl
    have hK9 := hK.sub (tys' := []) [] rfl
    rw [hQQ]
    exact W.iret (v := ((1 : Int32) <<< (k4 &&& 31))) hx hb hr (fun t ht hW => ⟨⟨((1 : Int32) <<< (k4 &&& 31)), (), rfl, rfl, by rw [ht]; exact hP9, va_K.moved hW.alike hK9, hD9⟩, hS.F ht⟩) hS.2.2 dX1_taken_41
  · have h := (if_pos c15).symm.trans h
    refine lv_aload_n hx hb dX1_taken_18 rfl (lv_at hl 0 rfl) ?_
    refine lv_dup hx hb dX1_taken_19 rfl ?_
    refine va_get (D := (dC, dI)) (ci := 1) (v := .int y_y.2.1) (C := RX1) (T := TX1) (N := 4) hx hb hts ifX1_taken_X1 hown hK hP 0 rfl rfl 2 (by decide) (hts (.fieldLink RX1 22 "HookPier$Days" "crabTakes" "I") (List.mem_of_getElem? (i := 7) rfl)) (fun _ h9 => h9) rfl dX1_taken_20 ?_
    refine lv_iconst (v := 1) hx hb dX1_taken_23 (by decide) ?_
    refine lv_iadd hx hb dX1_taken_24 ?_
    refine va_put (D := (dC, dI)) (ci := 1) (v := .int (y_y.2.1 + (1 : Int32))) (ty := .int) (C := RX1) (T := TX1) (N := 4) hx hb hts ifX1_taken_X1 tyX1 tyX1_ok nmX1 hown hK hP hD hS 0 rfl rfl 2 (by decide) (hts (.fieldLink RX1 22 "HookPier$Days" "crabTakes" "I") (List.mem_of_getElem? (i := 7) rfl)) (fun _ h9 => h9) rfl (by decide +kernel) rfl rfl (Nat.le_of_ble_eq_true rfl) dX1_taken_25 (fun H locs hP hD hS => ?_)
    have hP : va_P (dC, dI) vwCl ((a0, .inr (1, [g11, .int y_y.1, .int (y_y.2.1 + (1 : Int32)), .ref a5])) :: bX6 a1 up kp p_p (bX4 a2 un kn (n_n.1, n_n.2.1, n_n.2.2.1, n_n.2.2.2.1, n_n.2.2.2.2.1, n_n.2.2.2.2.2.1, (upd n_n.2.2.2.2.2.2 (k3).toNatClampNeg (-1 : Int32))) ([(a5, .inl (cB14, 6, .inl y_y.2.2))]))) H := hP
    have hD : va_D A ((a0, .inr (1, [g11, .int y_y.1, .int (y_y.2.1 + (1 : Int32)), .ref a5])) :: bX6 a1 up kp p_p (bX4 a2 un kn (n_n.1, n_n.2.1, n_n.2.2.1, n_n.2.2.2.1, n_n.2.2.2.2.1, n_n.2.2.2.2.2.1, (upd n_n.2.2.2.2.2.2 (k3).toNatClampNeg (-1 : Int32))) ([(a5, .inl (cB14, 6, .inl y_y.2.2))]))) := hD
    refine lv_iconst (v := 0) hx hb dX1_taken_28 (by decide) ?_
    obtain rfl := Option.some.inj h
    have hP9 := hP.sub (ws' := ((a0, .inr (1, [g11, .int y_y.1, .int (y_y.2.1 + (1 : Int32)), .ref a5])) :: bX6 a1 up kp p_p (bX4 a2 un kn (n_n.1, n_n.2.1, n_n.2.2.1, n_n.2.2.2.1, n_n.2.2.2.2.1, n_n.2.2.2.2.2.1, (upd n_n.2.2.2.2.2.2 (k3).toNatClampNeg (-1 : Int32))) ([(a5, .inl (cB14, 6, .inl y_y.2.2))])))) [0, 1, 2, 3, 4, 5, 6, 7, 8, 9, 10, 11, 12, 13, 14, 15, 16] rfl
    have hD9 := hD.sub (ws' := ((a0, .inr (1, [g11, .int y_y.1, .int (y_y.2.1 + (1 : Int32)), .ref a5])) :: bX6 a1 up kp p_p (bX4 a2 un kn (n_n.1, n_n.2.1, n_n.2.2.1, n_n.2.2.2.1, n_n.2.2.2.2.1, n_n.2.2.2.2.2.1, (upd n_n.2.2.2.2.2.2 (k3).toNatClampNeg (-1 : Int32))) ([(a5, .inl (cB14, 6, .inl y_y.2.2))])))) [0, 1, 2, 3, 4, 5, 6, 7, 8, 9, 10, 11, 12, 13, 14, 15, 16] (by decide) rfl
    have hK9 := hK.sub (tys' := []) [] rfl
    rw [hQQ]
    exact W.iret (v := (0 : Int32)) hx hb hr (fun t ht hW => ⟨⟨(0 : Int32), (), rfl, rfl, by rw [ht]; exact hP9, va_K.moved hW.alike hK9, hD9⟩, hS.F ht⟩) hS.2.2 dX1_taken_29
theorem dX1_pass_0 : decode cX1_pass 0 = .ok (.iconst 0, 1) := by decide +kernel
theorem dX1_pass_1 : decode cX1_pass 1 = .ok (.istore_n 3, 1) := by decide +kernel
theorem dX1_pass_10 : decode cX1_pass 10 = .ok (.ifCond .ne 76, 3) := by decide +kernel
theorem dX1_pass_13 : decode cX1_pass 13 = .ok (.aload_n 1, 1) := by decide +kernel
theorem dX1_pass_14 : decode cX1_pass 14 = .ok (.aload_n 2, 1) := by decide +kernel
theorem dX1_pass_15 : decode cX1_pass 15 = .ok (.invokestatic 62, 3) := by decide +kernel
theorem dX1_pass_18 : decode cX1_pass 18 = .ok (.istore 4, 2) := by decide +kernel
theorem dX1_pass_2 : decode cX1_pass 2 = .ok (.aload_n 1, 1) := by decide +kernel
theorem dX1_pass_20 : decode cX1_pass 20 = .ok (.iconst 0, 1) := by decide +kernel
theorem dX1_pass_21 : decode cX1_pass 21 = .ok (.istore 5, 2) := by decide +kernel
theorem dX1_pass_23 : decode cX1_pass 23 = .ok (.iload 5, 2) := by decide +kernel
theorem dX1_pass_25 : decode cX1_pass 25 = .ok (.aload_n 1, 1) := by decide +kernel
theorem dX1_pass_26 : decode cX1_pass 26 = .ok (.getfield 65, 3) := by decide +kernel
theorem dX1_pass_29 : decode cX1_pass 29 = .ok (.if_icmp .ge 57, 3) := by decide +kernel
theorem dX1_pass_3 : decode cX1_pass 3 = .ok (.aload_n 2, 1) := by decide +kernel
theorem dX1_pass_32 : decode cX1_pass 32 = .ok (.iload 4, 2) := by decide +kernel
theorem dX1_pass_34 : decode cX1_pass 34 = .ok (.iload 5, 2) := by decide +kernel
theorem dX1_pass_36 : decode cX1_pass 36 = .ok (.ishr, 1) := by decide +kernel
theorem dX1_pass_37 : decode cX1_pass 37 = .ok (.iconst 1, 1) := by decide +kernel
theorem dX1_pass_38 : decode cX1_pass 38 = .ok (.iand, 1) := by decide +kernel
theorem dX1_pass_39 : decode cX1_pass 39 = .ok (.iconst 1, 1) := by decide +kernel
theorem dX1_pass_4 : decode cX1_pass 4 = .ok (.getfield 53, 3) := by decide +kernel
theorem dX1_pass_40 : decode cX1_pass 40 = .ok (.if_icmp .ne 18, 3) := by decide +kernel
theorem dX1_pass_43 : decode cX1_pass 43 = .ok (.aload_n 1, 1) := by decide +kernel
theorem dX1_pass_44 : decode cX1_pass 44 = .ok (.aload_n 2, 1) := by decide +kernel
theorem dX1_pass_45 : decode cX1_pass 45 = .ok (.aload_n 2, 1) := by decide +kernel
theorem dX1_pass_46 : decode cX1_pass 46 = .ok (.getfield 68, 3) := by decide +kernel
theorem dX1_pass_49 : decode cX1_pass 49 = .ok (.iload 5, 2) := by decide +kernel
theorem dX1_pass_51 : decode cX1_pass 51 = .ok (.iaload, 1) := by decide +kernel
theorem dX1_pass_52 : decode cX1_pass 52 = .ok (.invokestatic 71, 3) := by decide +kernel
theorem dX1_pass_55 : decode cX1_pass 55 = .ok (.goto 4, 3) := by decide +kernel
theorem dX1_pass_58 : decode cX1_pass 58 = .ok (.iconst (-1), 1) := by decide +kernel
theorem dX1_pass_59 : decode cX1_pass 59 = .ok (.istore 6, 2) := by decide +kernel
theorem dX1_pass_61 : decode cX1_pass 61 = .ok (.iload 6, 2) := by decide +kernel
theorem dX1_pass_63 : decode cX1_pass 63 = .ok (.iconst (-1), 1) := by decide +kernel
theorem dX1_pass_64 : decode cX1_pass 64 = .ok (.if_icmp .eq 16, 3) := by decide +kernel
theorem dX1_pass_67 : decode cX1_pass 67 = .ok (.iload_n 3, 1) := by decide +kernel
theorem dX1_pass_68 : decode cX1_pass 68 = .ok (.aload_n 0, 1) := by decide +kernel
theorem dX1_pass_69 : decode cX1_pass 69 = .ok (.aload_n 1, 1) := by decide +kernel
theorem dX1_pass_7 : decode cX1_pass 7 = .ok (.invokevirtual 56, 3) := by decide +kernel
theorem dX1_pass_70 : decode cX1_pass 70 = .ok (.aload_n 2, 1) := by decide +kernel
theorem dX1_pass_71 : decode cX1_pass 71 = .ok (.iload 5, 2) := by decide +kernel
theorem dX1_pass_73 : decode cX1_pass 73 = .ok (.iload 6, 2) := by decide +kernel
theorem dX1_pass_75 : decode cX1_pass 75 = .ok (.invokevirtual 75, 3) := by decide +kernel
theorem dX1_pass_78 : decode cX1_pass 78 = .ok (.ior, 1) := by decide +kernel
theorem dX1_pass_79 : decode cX1_pass 79 = .ok (.istore_n 3, 1) := by decide +kernel
theorem dX1_pass_80 : decode cX1_pass 80 = .ok (.iinc 5 1, 3) := by decide +kernel
theorem dX1_pass_83 : decode cX1_pass 83 = .ok (.goto (-60), 3) := by decide +kernel
theorem dX1_pass_86 : decode cX1_pass 86 = .ok (.aload_n 2, 1) := by decide +kernel
theorem dX1_pass_87 : decode cX1_pass 87 = .ok (.dup, 1) := by decide +kernel
theorem dX1_pass_88 : decode cX1_pass 88 = .ok (.getfield 53, 3) := by decide +kernel
theorem dX1_pass_91 : decode cX1_pass 91 = .ok (.iconst 1, 1) := by decide +kernel
theorem dX1_pass_92 : decode cX1_pass 92 = .ok (.iadd, 1) := by decide +kernel
theorem dX1_pass_93 : decode cX1_pass 93 = .ok (.putfield 53, 3) := by decide +kernel
theorem dX1_pass_96 : decode cX1_pass 96 = .ok (.iload_n 3, 1) := by decide +kernel
theorem dX1_pass_97 : decode cX1_pass 97 = .ok (.ireturn, 1) := by decide +kernel
def vfX1_pass : List Cond := List.cons (.code yX1_pass cX1_pass 7 (some .int)) (apW [.fieldLink RX1 53 "HookPier$Now" "today" "I", .methodLink RX1 56 yX6_isClose, .instanceMethod yX6_isClose, .selects RX6 yX6_isClose yX6_isClose, .initialized RX6, .methodLink RX1 62 yX1_untangled, .static yX1_untangled, .initialized RX1, .fieldLink RX1 65 "HookPier$Plan" "askers" "I", .methodLink RX1 75 yX1_taken, .instanceMethod yX1_taken, .selects RX1 yX1_taken yX1_taken, .fieldLink RX1 68 "HookPier$Now" "line" "[I", .methodLink RX1 71 yX1_taker, .static yX1_taker] (apW wsX40 (apW wsX60 (apW vfX6_isClose (apW vfX1_untangled (apW vfX1_taken (vfX1_taker)))))))
theorem ifX1_pass_X4 : ∀ w ∈ wsX40, w ∈ vfX1_pass := fun _ h => (List.mem_cons_of_mem _ (List.mem_append_right _ (List.mem_append_left _ h)))
theorem ifX1_pass_X6 : ∀ w ∈ wsX60, w ∈ vfX1_pass := fun _ h => (List.mem_cons_of_mem _ (List.mem_append_right _ (List.mem_append_right _ (List.mem_append_left _ h))))
theorem qfX1_pass : Good vfX1_pass := gd_cons (by decide +kernel) (gd_app (gd_dec (by decide +kernel) : Good [.fieldLink RX1 53 "HookPier$Now" "today" "I", .methodLink RX1 56 yX6_isClose, .instanceMethod yX6_isClose, .selects RX6 yX6_isClose yX6_isClose, .initialized RX6, .methodLink RX1 62 yX1_untangled, .static yX1_untangled, .initialized RX1, .fieldLink RX1 65 "HookPier$Plan" "askers" "I", .methodLink RX1 75 yX1_taken, .instanceMethod yX1_taken, .selects RX1 yX1_taken yX1_taken, .fieldLink RX1 68 "HookPier$Now" "line" "[I", .methodLink RX1 71 yX1_taker, .static yX1_taker]) (gd_app qsX4 (gd_app qsX6 (gd_app qfX6_isClose (gd_app qfX1_untangled (gd_app qfX1_taken qfX1_taker))))))
theorem gfX1_pass_0 : GoodIn vfX1_pass (wsV RX1 56 RX6 yX6_isClose vfX6_isClose) := goodIn_app (goodIn_r [.methodLink RX1 56 yX6_isClose, .instanceMethod yX6_isClose, .selects RX6 yX6_isClose yX6_isClose, .initialized RX6] [2, 3, 4, 5] rfl (by decide +kernel)) (goodIn_m (fun _ h => (List.mem_cons_of_mem _ (List.mem_append_right _ (List.mem_append_right _ (List.mem_append_right _ (List.mem_append_left _ h)))))) qfX6_isClose)
theorem gfX1_pass_1 : GoodIn vfX1_pass (va_wsS RX1 62 yX1_untangled vfX1_untangled) := goodIn_app (goodIn_r [.methodLink RX1 62 yX1_untangled, .static yX1_untangled, .initialized RX1] [6, 7, 8] rfl (by decide +kernel)) (goodIn_m (fun _ h => (List.mem_cons_of_mem _ (List.mem_append_right _ (List.mem_append_right _ (List.mem_append_right _ (List.mem_append_right _ (List.mem_append_left _ h))))))) qfX1_untangled)
theorem gfX1_pass_2 : GoodIn vfX1_pass (wsV RX1 75 RX1 yX1_taken vfX1_taken) := goodIn_app (goodIn_r [.methodLink RX1 75 yX1_taken, .instanceMethod yX1_taken, .selects RX1 yX1_taken yX1_taken, .initialized RX1] [10, 11, 12, 8] rfl (by decide +kernel)) (goodIn_m (fun _ h => (List.mem_cons_of_mem _ (List.mem_append_right _ (List.mem_append_right _ (List.mem_append_right _ (List.mem_append_right _ (List.mem_append_right _ (List.mem_append_left _ h)))))))) qfX1_taken)
theorem gfX1_pass_3 : GoodIn vfX1_pass (va_wsS RX1 71 yX1_taker vfX1_taker) := goodIn_app (goodIn_r [.methodLink RX1 71 yX1_taker, .static yX1_taker, .initialized RX1] [14, 15, 8] rfl (by decide +kernel)) (goodIn_m (fun _ h => (List.mem_cons_of_mem _ (List.mem_append_right _ (List.mem_append_right _ (List.mem_append_right _ (List.mem_append_right _ (List.mem_append_right _ (List.mem_append_right _ h)))))))) qfX1_taker)
set_option maxHeartbeats 2000000 in
set_option maxRecDepth 100000 in
theorem kfX1_pass (l : Launch) (dC : Nat → ClassId) (dI : Nat → Nat → Nat) (a0 : Nat) (a1 : Nat) (a2 : Nat) (a3 : Nat) (up : Nat → Nat) (kp : Nat → ClassId) (un : Nat → Nat) (kn : Nat → ClassId) (y_y : TX1_y) (g9 : Value) (p_p : TX6_p) (n_n : TX4_n) (cB12 : ClassId) (sz : Nat) (out : (Int32 × TX1_y × TX4_n)) (h : f_X1_pass y_y p_p n_n = some out) : Met l yX1_pass vfX1_pass ({ frames := 4, cells := 0, slots := 0, locals := 92 }) (PC (dC, dI) [.ref a0, .ref a1, .ref a2] sz ((a0, .inr (1, [g9, .int y_y.1, .int y_y.2.1, .ref a3])) :: bX6 a1 up kp p_p (bX4 a2 un kn n_n ([(a3, .inl (cB12, 6, .inl y_y.2.2))]))) (tX6 kp (tX4 kn ((cB12, .int) :: [])))) (va_Qi (S := Unit) (fun (r : Int32) _ => r = out.1) (fun _ t => BC (dC, dI) (va_A ((a0, .inr (1, [g9, .int y_y.1, .int y_y.2.1, .ref a3])) :: bX6 a1 up kp p_p (bX4 a2 un kn n_n ([(a3, .inl (cB12, 6, .inl y_y.2.2))]))) sz) ((a0, .inr (1, [g9, .int out.2.1.1, .int out.2.1.2.1, .ref a3])) :: bX6 a1 up kp p_p (bX4 a2 un kn out.2.2 ([(a3, .inl (cB12, 6, .inl out.2.1.2.2))]))) [] t) (va_A ((a0, .inr (1, [g9, .int y_y.1, .int y_y.2.1, .ref a3])) :: bX6 a1 up kp p_p (bX4 a2 un kn n_n ([(a3, .inl (cB12, 6, .inl y_y.2.2))]))) sz)) 0 0 (va_A ((a0, .inr (1, [g9, .int y_y.1, .int y_y.2.1, .ref a3])) :: bX6 a1 up kp p_p (bX4 a2 un kn n_n ([(a3, .inl (cB12, 6, .inl y_y.2.2))]))) sz) := by
  refine Met.ofW (cc := cX1_pass) (maxL := 7) (ret := (some .int)) (by decide) rfl ?_
  intro p e s m args below meth c s₁ B0 hml hv
  obtain ⟨rfl, hsz, hP, hK, hD0, hN⟩ := hv
  have hx := B0.exec
  have hb := B0.bytes
  have hr := B0.returns
  have hts := atoms_spec (ws := vfX1_pass) B0.pre
  have hown : s.vm.findClass RX1 = some m.cls := findClass_of_methodNamed B0.named
  have hlocks := B0.notSynchronized
  subst hsz
  have hD := hD0.self (sz := s.heap.size)
  generalize hAe : va_A ((a0, .inr (1, [g9, .int y_y.1, .int y_y.2.1, .ref a3])) :: bX6 a1 up kp p_p (bX4 a2 un kn n_n ([(a3, .inl (cB12, 6, .inl y_y.2.2))]))) s.heap.size = A at hD ⊢
  have hA : ∀ q : Nat, s.heap.size ≤ q → A q := fun q h => by rw [← hAe]; exact Or.inr h
  have hS : va_S A s.heap s.heap [] := va_S.rf
  have hP : va_P (dC, dI) vwCl ((a0, .inr (1, [g9, .int y_y.1, .int y_y.2.1, .ref a3])) :: bX6 a1 up kp p_p (bX4 a2 un kn n_n ([(a3, .inl (cB12, 6, .inl y_y.2.2))]))) s.heap := hP
  have hl := lv_entry ([.ref a0, .ref a1, .ref a2]) (n := 7) (Nat.le_of_ble_eq_true rfl)
  rw [lg_entry_eq]
  generalize (lg_sl ([.ref a0, .ref a1, .ref a2]) ++ List.replicate (7 - (lg_sl ([.ref a0, .ref a1, .ref a2])).length) Slot.unset).toArray = ls at hl ⊢
  have hl : lv_has ls 7 [(0, .ref a0), (1, .ref a1), (2, .ref a2)] := hl
  refine W_q (fun QQ hQQ => ?_)
  rw [f_X1_pass] at h
  refine lv_iconst (v := 0) hx hb dX1_pass_0 (by decide) ?_
  refine lv_istore_n (lv' := [(3, .int 0), (0, .ref a0), (1, .ref a1), (2, .ref a2)]) hx hb dX1_pass_1 rfl hl (by decide) rfl (fun ls hl => ?_)
  refine lv_aload_n hx hb dX1_pass_2 rfl (lv_at hl 2 rfl) ?_
  refine lv_aload_n hx hb dX1_pass_3 rfl (lv_at hl 3 rfl) ?_
  refine va_get (D := (dC, dI)) (ci := 3) (v := .int n_n.1) (C := RX4) (T := TX4) (N := 7) hx hb hts ifX1_pass_X4 hown hK hP 11 rfl rfl 0 (by decide) (hts (.fieldLink RX1 53 "HookPier$Now" "today" "I") (List.mem_of_getElem? (i := 1) rfl)) (fun _ h9 => h9) rfl dX1_pass_4 ?_
  obtain ⟨o7, eo7⟩ : ∃ o, o = f_X6_isClose n_n.1 p_p := ⟨_, rfl⟩
  have h := nm_of h o7 eo7
  refine cl_i (wc := (bX6 a1 up kp p_p [])) (wr := ((a0, .inr (1, [g9, .int y_y.1, .int y_y.2.1, .ref a3])) :: bX4 a2 un kn n_n ([(a3, .inl (cB12, 6, .inl y_y.2.2))]))) (va_runV (As := [.int n_n.1]) (rest := []) ⟨hx, hb, hml, hown, hts⟩ (kfX6_isClose l dC dI a1 n_n.1 up kp p_p s.heap.size o7 eo7.symm) (cwV 1 hts gfX1_pass_0 rfl rfl rfl (by decide +kernel) ⟨(Nat.le_of_ble_eq_true rfl), (Nat.le_of_ble_eq_true rfl)⟩) (PV (hP.sub (ws' := (bX6 a1 up kp p_p [])) [1, 2, 3, 4, 5, 6, 7, 8, 9, 10] rfl) (hK.sub (tys' := (tX6 kp ([]))) [0, 1, 2, 3, 4, 5, 6, 7, 8] rfl) (hD.sub (ws' := (bX6 a1 up kp p_p [])) [1, 2, 3, 4, 5, 6, 7, 8, 9, 10] (by decide) rfl) hN 0 rfl rfl) rfl rfl hl.1 rfl (lv_room (Nat.le_of_ble_eq_true rfl)) dX1_pass_7 ⟨(Nat.le_of_ble_eq_true rfl), (Nat.le_of_ble_eq_true rfl)⟩) hP hD hK hS hA [1, 2, 3, 4, 5, 6, 7, 8, 9, 10] [0, 11, 12, 13, 14, 15, 16] rfl rfl (by decide) (by decide) (fun r7 _ H locs hw hP hD _ hS => ?_)
  obtain ⟨hw, br7⟩ := hw
  obtain rfl := hw.symm
  have hP : va_P (dC, dI) vwCl ((a0, .inr (1, [g9, .int y_y.1, .int y_y.2.1, .ref a3])) :: bX4 a2 un kn n_n ((a3, .inl (cB12, 6, .inl y_y.2.2)) :: bX6 a1 up kp p_p [])) H := hP
  have hD : va_D A ((a0, .inr (1, [g9, .int y_y.1, .int y_y.2.1, .ref a3])) :: bX4 a2 un kn n_n ((a3, .inl (cB12, 6, .inl y_y.2.2)) :: bX6 a1 up kp p_p [])) := hD
  have J86 : ∀ (v86_l3 : Int32) (v86_y_y : TX1_y) (v86_n_n : TX4_n) (H : Heap) (locs : List Loc) (ls : Array Slot), f_X1_pass_J86 v86_l3 v86_y_y v86_n_n = some out → va_P (dC, dI) vwCl ((a0, .inr (1, [g9, .int v86_y_y.1, .int v86_y_y.2.1, .ref a3])) :: bX4 a2 un kn v86_n_n ((a3, .inl (cB12, 6, .inl v86_y_y.2.2)) :: bX6 a1 up kp p_p [])) H → va_D A ((a0, .inr (1, [g9, .int v86_y_y.1, .int v86_y_y.2.1, .ref a3])) :: bX4 a2 un kn v86_n_n ((a3, .inl (cB12, 6, .inl v86_y_y.2.2)) :: bX6 a1 up kp p_p [])) → va_S A s.heap H locs → lv_has ls 7 [(3, .int v86_l3), (2, .ref a2)] → W p l e (headSpec vfX1_pass { frames := 4, cells := 0, slots := 0, locals := 92 }).room s m ([.ref a0, .ref a1, .ref a2]).toArray below meth c H locs 0 0 QQ (F0 m 86 ls []) := by
    intro v86_l3 v86_y_y v86_n_n H locs ls h  hP hD hS hl
    rw [f_X1_pass_J86] at h
    refine lv_aload_n hx hb dX1_pass_86 rfl (lv_at hl 1 rfl) ?_
    refine lv_dup hx hb dX1_pass_87 rfl ?_
    refine va_get (D := (dC, dI)) (ci := 3) (v := .int v86_n_n.1) (C := RX4) (T := TX4) (N := 7) hx hb hts ifX1_pass_X4 hown hK hP 1 rfl rfl 0 (by decide) (hts (.fieldLink RX1 53 "HookPier$Now" "today" "I") (List.mem_of_getElem? (i := 1) rfl)) (fun _ h9 => h9) rfl dX1_pass_88 ?_
    refine lv_iconst (v := 1) hx hb dX1_pass_91 (by decide) ?_
    refine lv_iadd hx hb dX1_pass_92 ?_
    refine va_put (D := (dC, dI)) (ci := 3) (v := .int (v86_n_n.1 + (1 : Int32))) (ty := .int) (C := RX4) (T := TX4) (N := 7) hx hb hts ifX1_pass_X4 tyX4 tyX4_ok nmX4 hown hK hP hD hS 1 rfl rfl 0 (by decide) (hts (.fieldLink RX1 53 "HookPier$Now" "today" "I") (List.mem_of_getElem? (i := 1) rfl)) (fun _ h9 => h9) rfl (by decide +kernel) rfl rfl (Nat.le_of_ble_eq_true rfl) dX1_pass_93 (fun H locs hP hD hS => ?_)
    have hP : va_P (dC, dI) vwCl ((a0, .inr (1, [g9, .int v86_y_y.1, .int v86_y_y.2.1, .ref a3])) :: bX4 a2 un kn ((v86_n_n.1 + (1 : Int32)), v86_n_n.2) ((a3, .inl (cB12, 6, .inl v86_y_y.2.2)) :: bX6 a1 up kp p_p [])) H := hP
    have hD : va_D A ((a0, .inr (1, [g9, .int v86_y_y.1, .int v86_y_y.2.1, .ref a3])) :: bX4 a2 un kn ((v86_n_n.1 + (1 : Int32)), v86_n_n.2) ((a3, .inl (cB12, 6, .inl v86_y_y.2.2)) :: bX6 a1 up kp p_p [])) := hD
    refine lv_iload_n hx hb dX1_pass_96 rfl (lv_at hl 0 rfl) ?_
    obtain rfl := Option.some.inj h
    have hP9 := hP.sub (ws' := ((a0, .inr (1, [g9, .int v86_y_y.1, .int v86_y_y.2.1, .ref a3])) :: bX6 a1 up kp p_p (bX4 a2 un kn ((v86_n_n.1 + (1 : Int32)), v86_n_n.2) ([(a3, .inl (cB12, 6, .inl v86_y_y.2.2))])))) [0, 7, 8, 9, 10, 11, 12, 13, 14, 15, 16, 1, 2, 3, 4, 5, 6] rfl
    have hD9 := hD.sub (ws' := ((a0, .inr (1, [g9, .int v86_y_y.1, .int v86_y_y.2.1, .ref a3])) :: bX6 a1 up kp p_p (bX4 a2 un kn ((v86_n_n.1 + (1 : Int32)), v86_n_n.2) ([(a3, .inl (cB12, 6, .inl v86_y_y.2.2))])))) [0, 7, 8, 9, 10, 11, 12, 13, 14, 15, 16, 1, 2, 3, 4, 5, 6] (by decide) rfl
    have hK9 := hK.sub (tys' := []) [] rfl
    rw [hQQ]
    exact W.iret (v := v86_l3) hx hb hr (fun t ht hW => ⟨⟨v86_l3, (), rfl, rfl, by rw [ht]; exact hP9, va_K.moved hW.alike hK9, hD9⟩, hS.F ht⟩) hS.2.2 dX1_pass_97
  refine lv_if_ne (tgt := 86) hx hb dX1_pass_10 (by decide) (fun c10 => ?_) (fun c10 => ?_)
  · have h := (if_neg c10).symm.trans h
    exact J86 (0 : Int32) y_y n_n H _ ls h  hP hD hS (lv_sub hl [0, 3] rfl)
  · have h := (if_pos c10).symm.trans h
    refine lv_aload_n hx hb dX1_pass_13 rfl (lv_at hl 2 rfl) ?_
    refine lv_aload_n hx hb dX1_pass_14 rfl (lv_at hl 3 rfl) ?_
    obtain ⟨o15, eo15, h⟩ := bd_of h
    refine cl_i (wc := (bX6 a1 up kp p_p (bX4 a2 un kn n_n []))) (wr := ([(a0, .inr (1, [g9, .int y_y.1, .int y_y.2.1, .ref a3])), (a3, .inl (cB12, 6, .inl y_y.2.2))])) (va_runS (As := [.ref a1, .ref a2]) (rest := []) ⟨hx, hb, hml, hown, hts⟩ (kfX1_untangled l dC dI a1 a2 up kp un kn p_p n_n H.size o15 eo15) (va_cwS 2 hts gfX1_pass_1 rfl rfl rfl (by decide +kernel) ⟨(Nat.le_of_ble_eq_true rfl), (Nat.le_of_ble_eq_true rfl)⟩) (PS (hP.sub (ws' := (bX6 a1 up kp p_p (bX4 a2 un kn n_n []))) [7, 8, 9, 10, 11, 12, 13, 14, 15, 16, 1, 2, 3, 4, 5] rfl) (hK.sub (tys' := (tX6 kp (tX4 kn ([])))) [0, 1, 2, 3, 4, 5, 6, 7, 8, 9, 10, 11, 12] rfl) (hD.sub (ws' := (bX6 a1 up kp p_p (bX4 a2 un kn n_n []))) [7, 8, 9, 10, 11, 12, 13, 14, 15, 16, 1, 2, 3, 4, 5] (by decide) rfl) hN) rfl rfl hl.1 rfl (lv_room (Nat.le_of_ble_eq_true rfl)) dX1_pass_15 ⟨(Nat.le_of_ble_eq_true rfl), (Nat.le_of_ble_eq_true rfl)⟩) hP hD hK hS hA [7, 8, 9, 10, 11, 12, 13, 14, 15, 16, 1, 2, 3, 4, 5] [0, 6] rfl rfl (by decide) (by decide) (fun r15 _ H locs hw hP hD _ hS => ?_)
    obtain rfl := hw.symm
    have hP : va_P (dC, dI) vwCl ((a0, .inr (1, [g9, .int y_y.1, .int y_y.2.1, .ref a3])) :: (a3, .inl (cB12, 6, .inl y_y.2.2)) :: bX6 a1 up kp p_p (bX4 a2 un kn n_n [])) H := hP
    have hD : va_D A ((a0, .inr (1, [g9, .int y_y.1, .int y_y.2.1, .ref a3])) :: (a3, .inl (cB12, 6, .inl y_y.2.2)) :: bX6 a1 up kp p_p (bX4 a2 un kn n_n [])) := hD
    refine lv_istore (lv' := [(4, .int o15), (3, .int 0), (0, .ref a0), (1, .ref a1), (2, .ref a2)]) hx hb dX1_pass_18 hl (by decide) rfl (fun ls hl => ?_)
    refine lv_iconst (v := 0) hx hb dX1_pass_20 (by decide) ?_
    refine lv_istore (lv' := [(5, .int 0), (4, .int o15), (3, .int 0), (0, .ref a0), (1, .ref a1), (2, .ref a2)]) hx hb dX1_pass_21 hl (by decide) rfl (fun ls hl => ?_)
    have L23 : ∀ (n23 : Nat) (v23_l5 : Int32) (v23_l3 : Int32) (v23_y_y : TX1_y) (v23_n_n : TX4_n) (H : Heap) (locs : List Loc) (ls : Array Slot), f_X1_pass_L23 p_p o15 n23 v23_l5 v23_l3 v23_y_y v23_n_n = some out → va_P (dC, dI) vwCl ((a0, .inr (1, [g9, .int v23_y_y.1, .int v23_y_y.2.1, .ref a3])) :: (a3, .inl (cB12, 6, .inl v23_y_y.2.2)) :: bX6 a1 up kp p_p (bX4 a2 un kn v23_n_n [])) H → va_D A ((a0, .inr (1, [g9, .int v23_y_y.1, .int v23_y_y.2.1, .ref a3])) :: (a3, .inl (cB12, 6, .inl v23_y_y.2.2)) :: bX6 a1 up kp p_p (bX4 a2 un kn v23_n_n [])) → va_S A s.heap H locs → lv_has ls 7 [(5, .int v23_l5), (4, .int o15), (3, .int v23_l3), (0, .ref a0), (1, .ref a1), (2, .ref a2)] → W p l e (headSpec vfX1_pass { frames := 4, cells := 0, slots := 0, locals := 92 }).room s m ([.ref a0, .ref a1, .ref a2]).toArray below meth c H locs 0 0 QQ (F0 m 23 ls []) := by
      intro n23
      induction n23 with
      | zero =>
        intro v23_l5 v23_l3 v23_y_y v23_n_n H locs ls h  _ _ _ _
        rw [f_X1_pass_L23] at h
        cases h
      | succ n23 ih23 =>
        intro v23_l5 v23_l3 v23_y_y v23_n_n H locs ls h  hP hD hS hl
        rw [f_X1_pass_L23] at h
        refine lv_iload hx hb dX1_pass_23 (lv_at hl 0 rfl) ?_
        refine lv_aload_n hx hb dX1_pass_25 rfl (lv_at hl 4 rfl) ?_
        refine va_get (D := (dC, dI)) (ci := 4) (v := .int p_p.2.2.2.2.2.1) (C := RX6) (T := TX6) (N := 18) hx hb hts ifX1_pass_X6 hown hK hP 2 rfl rfl 5 (by decide) (hts (.fieldLink RX1 65 "HookPier$Plan" "askers" "I") (List.mem_of_getElem? (i := 9) rfl)) (fun _ h9 => h9) rfl dX1_pass_26 ?_
        refine lv_icmp_ge (tgt := 86) hx hb dX1_pass_29 (by decide) (fun c29 => ?_) (fun c29 => ?_)
        · have h := (if_pos c29).symm.trans h
          exact J86 v23_l3 v23_y_y v23_n_n H _ ls h  (hP.sub (ws' := ((a0, .inr (1, [g9, .int v23_y_y.1, .int v23_y_y.2.1, .ref a3])) :: bX4 a2 un kn v23_n_n ((a3, .inl (cB12, 6, .inl v23_y_y.2.2)) :: bX6 a1 up kp p_p []))) [0, 12, 13, 14, 15, 16, 1, 2, 3, 4, 5, 6, 7, 8, 9, 10, 11] rfl) (hD.sub (ws' := ((a0, .inr (1, [g9, .int v23_y_y.1, .int v23_y_y.2.1, .ref a3])) :: bX4 a2 un kn v23_n_n ((a3, .inl (cB12, 6, .inl v23_y_y.2.2)) :: bX6 a1 up kp p_p []))) [0, 12, 13, 14, 15, 16, 1, 2, 3, 4, 5, 6, 7, 8, 9, 10, 11] (by decide) rfl) hS (lv_sub hl [2, 5] rfl)
        · have h := (if_neg c29).symm.trans h
          refine lv_iload hx hb dX1_pass_32 (lv_at hl 1 rfl) ?_
          refine lv_iload hx hb dX1_pass_34 (lv_at hl 0 rfl) ?_
          refine lv_ishr hx hb dX1_pass_36 ?_
          refine lv_iconst (v := 1) hx hb dX1_pass_37 (by decide) ?_
          refine lv_iand hx hb dX1_pass_38 ?_
          refine lv_iconst (v := 1) hx hb dX1_pass_39 (by decide) ?_
          have J59 : ∀ (v59_t0 : Int32) (v59_n_n : TX4_n) (H : Heap) (locs : List Loc) (ls : Array Slot), f_X1_pass_J59 p_p (f_X1_pass_L23 p_p o15 n23) v23_l3 v23_l5 v23_y_y v59_t0 v59_n_n = some out → va_P (dC, dI) vwCl ((a0, .inr (1, [g9, .int v23_y_y.1, .int v23_y_y.2.1, .ref a3])) :: (a3, .inl (cB12, 6, .inl v23_y_y.2.2)) :: bX6 a1 up kp p_p (bX4 a2 un kn v59_n_n [])) H → va_D A ((a0, .inr (1, [g9, .int v23_y_y.1, .int v23_y_y.2.1, .ref a3])) :: (a3, .inl (cB12, 6, .inl v23_y_y.2.2)) :: bX6 a1 up kp p_p (bX4 a2 un kn v59_n_n [])) → va_S A s.heap H locs → lv_has ls 7 [(5, .int v23_l5), (4, .int o15), (3, .int v23_l3), (0, .ref a0), (1, .ref a1), (2, .ref a2)] → W p l e (headSpec vfX1_pass { frames := 4, cells := 0, slots := 0, locals := 92 }).room s m ([.ref a0, .ref a1, .ref a2]).toArray below meth c H locs 0 0 QQ (F0 m 59 ls [.int v59_t0]) := by
            intro v59_t0 v59_n_n H locs ls h  hP hD hS hl
            rw [f_X1_pass_J59] at h
            refine lv_istore (lv' := [(6, .int v59_t0), (5, .int v23_l5), (4, .int o15), (3, .int v23_l3), (0, .ref a0), (1, .ref a1), (2, .ref a2)]) hx hb dX1_pass_59 hl (by decide) rfl (fun ls hl => ?_)
            refine lv_iload hx hb dX1_pass_61 (lv_at hl 0 rfl) ?_
            refine lv_iconst (v := (-1)) hx hb dX1_pass_63 (by decide) ?_
            have J80 : ∀ (v80_l3 : Int32) (v80_y_y : TX1_y) (v80_n_n : TX4_n) (H : Heap) (locs : List Loc) (ls : Array Slot), f_X1_pass_J80 (f_X1_pass_L23 p_p o15 n23) v23_l5 v80_l3 v80_y_y v80_n_n = some out → va_P (dC, dI) vwCl ((a0, .inr (1, [g9, .int v80_y_y.1, .int v80_y_y.2.1, .ref a3])) :: (a3, .inl (cB12, 6, .inl v80_y_y.2.2)) :: bX6 a1 up kp p_p (bX4 a2 un kn v80_n_n [])) H → va_D A ((a0, .inr (1, [g9, .int v80_y_y.1, .int v80_y_y.2.1, .ref a3])) :: (a3, .inl (cB12, 6, .inl v80_y_y.2.2)) :: bX6 a1 up kp p_p (bX4 a2 un kn v80_n_n [])) → va_S A s.heap H locs → lv_has ls 7 [(5, .int v23_l5), (4, .int o15), (3, .int v80_l3), (0, .ref a0), (1, .ref a1), (2, .ref a2)] → W p l e (headSpec vfX1_pass { frames := 4, cells := 0, slots := 0, locals := 92 }).room s m ([.ref a0, .ref a1, .ref a2]).toArray below meth c H locs 0 0 QQ (F0 m 80 ls []) := by
              intro v80_l3 v80_y_y v80_n_n H locs ls h  hP hD hS hl
              rw [f_X1_pass_J80] at h
              refine lv_iinc (v := (v23_l5 + (1 : Int32))) (lv' := [(5, .int (v23_l5 + (1 : Int32))), (4, .int o15), (3, .int v80_l3), (0, .ref a0), (1, .ref a1), (2, .ref a2)]) hx hb dX1_pass_80 hl (k := 0) rfl rfl (by decide) rfl (fun ls hl => ?_)
              refine lv_goto (tgt := 23) hx hb dX1_pass_83 (by decide) ?_
              exact ih23 (v23_l5 + (1 : Int32)) v80_l3 v80_y_y v80_n_n H _ ls h  hP hD hS (lv_sub hl [0, 1, 2, 3, 4, 5] rfl)
            refine lv_icmp_eq (tgt := 80) hx hb dX1_pass_64 (by decide) (fun c64 => ?_) (fun c64 => ?_)
            · have h := (if_pos c64).symm.trans h
              exact J80 v23_l3 v23_y_y v59_n_n H _ ls h  hP hD hS (lv_sub hl [1, 2, 3, 4, 5, 6] rfl)
            · have h := (if_neg c64).symm.trans h
              refine lv_iload_n hx hb dX1_pass_67 rfl (lv_at hl 3 rfl) ?_
              refine lv_aload_n hx hb dX1_pass_68 rfl (lv_at hl 4 rfl) ?_
              refine lv_aload_n hx hb dX1_pass_69 rfl (lv_at hl 5 rfl) ?_
              refine lv_aload_n hx hb dX1_pass_70 rfl (lv_at hl 6 rfl) ?_
              refine lv_iload hx hb dX1_pass_71 (lv_at hl 1 rfl) ?_
              refine lv_iload hx hb dX1_pass_73 (lv_at hl 0 rfl) ?_
              obtain ⟨o75, eo75, h⟩ := bd_of h
              refine cl_i (wc := ((a0, .inr (1, [g9, .int v23_y_y.1, .int v23_y_y.2.1, .ref a3])) :: bX6 a1 up kp p_p (bX4 a2 un kn v59_n_n ([(a3, .inl (cB12, 6, .inl v23_y_y.2.2))])))) (wr := []) (va_runV (As := [.ref a1, .ref a2, .int v23_l5, .int v59_t0]) (rest := [.int v23_l3]) ⟨hx, hb, hml, hown, hts⟩ (kfX1_taken l dC dI a0 a1 a2 v23_l5 v59_t0 a3 up kp un kn v23_y_y (g9) p_p v59_n_n cB12 H.size o75 eo75) (cwV 4 hts gfX1_pass_2 rfl rfl rfl (by decide +kernel) ⟨(Nat.le_of_ble_eq_true rfl), (Nat.le_of_ble_eq_true rfl)⟩) (PV (hP.sub (ws' := ((a0, .inr (1, [g9, .int v23_y_y.1, .int v23_y_y.2.1, .ref a3])) :: bX6 a1 up kp p_p (bX4 a2 un kn v59_n_n ([(a3, .inl (cB12, 6, .inl v23_y_y.2.2))])))) [0, 2, 3, 4, 5, 6, 7, 8, 9, 10, 11, 12, 13, 14, 15, 16, 1] rfl) (hK.sub (tys' := (tX6 kp (tX4 kn ((cB12, .int) :: [])))) [0, 1, 2, 3, 4, 5, 6, 7, 8, 9, 10, 11, 12, 13] rfl) (hD.sub (ws' := ((a0, .inr (1, [g9, .int v23_y_y.1, .int v23_y_y.2.1, .ref a3])) :: bX6 a1 up kp p_p (bX4 a2 un kn v59_n_n ([(a3, .inl (cB12, 6, .inl v23_y_y.2.2))])))) [0, 2, 3, 4, 5, 6, 7, 8, 9, 10, 11, 12, 13, 14, 15, 16, 1] (by decide) rfl) hN 0 rfl rfl) rfl rfl hl.1 rfl (lv_room (Nat.le_of_ble_eq_true rfl)) dX1_pass_75 ⟨(Nat.le_of_ble_eq_true rfl), (Nat.le_of_ble_eq_true rfl)⟩) hP hD hK hS hA [0, 2, 3, 4, 5, 6, 7, 8, 9, 10, 11, 12, 13, 14, 15, 16, 1] [] rfl rfl (by decide) (by decide) (fun r75 _ H locs hw hP hD _ hS => ?_)
              obtain rfl := hw
              have hP : va_P (dC, dI) vwCl ((a0, .inr (1, [g9, .int o75.2.1.1, .int o75.2.1.2.1, .ref a3])) :: bX6 a1 up kp p_p (bX4 a2 un kn o75.2.2 ([(a3, .inl (cB12, 6, .inl o75.2.1.2.2))]))) H := hP
              have hD : va_D A ((a0, .inr (1, [g9, .int o75.2.1.1, .int o75.2.1.2.1, .ref a3])) :: bX6 a1 up kp p_p (bX4 a2 un kn o75.2.2 ([(a3, .inl (cB12, 6, .inl o75.2.1.2.2))]))) := hD
              refine lv_ior hx hb dX1_pass_78 ?_
              refine lv_istore_n (lv' := [(3, .int (v23_l3 ||| o75.1)), (6, .int v59_t0), (5, .int v23_l5), (4, .int o15), (0, .ref a0), (1, .ref a1), (2, .ref a2)]) hx hb dX1_pass_79 rfl hl (by decide) rfl (fun ls hl => ?_)
              exact J80 (v23_l3 ||| o75.1) o75.2.1 o75.2.2 H _ ls h  (hP.sub (ws' := ((a0, .inr (1, [g9, .int o75.2.1.1, .int o75.2.1.2.1, .ref a3])) :: (a3, .inl (cB12, 6, .inl o75.2.1.2.2)) :: bX6 a1 up kp p_p (bX4 a2 un kn o75.2.2 []))) [0, 16, 1, 2, 3, 4, 5, 6, 7, 8, 9, 10, 11, 12, 13, 14, 15] rfl) (hD.sub (ws' := ((a0, .inr (1, [g9, .int o75.2.1.1, .int o75.2.1.2.1, .ref a3])) :: (a3, .inl (cB12, 6, .inl o75.2.1.2.2)) :: bX6 a1 up kp p_p (bX4 a2 un kn o75.2.2 []))) [0, 16, 1, 2, 3, 4, 5, 6, 7, 8, 9, 10, 11, 12, 13, 14, 15] (by decide) rfl) hS (lv_sub hl [2, 3, 0, 4, 5, 6] rfl)
          refine lv_icmp_ne (tgt := 58) hx hb dX1_pass_40 (by decide) (fun c40 => ?_) (fun c40 => ?_)
          · have h := (if_neg c40).symm.trans h
            refine lv_iconst (v := (-1)) hx hb dX1_pass_58 (by decide) ?_
            exact J59 (-1 : Int32) v23_n_n H _ ls h  hP hD hS (lv_sub hl [0, 1, 2, 3, 4, 5] rfl)
          · have h := (if_pos c40).symm.trans h
            refine lv_aload_n hx hb dX1_pass_43 rfl (lv_at hl 4 rfl) ?_
            refine lv_aload_n hx hb dX1_pass_44 rfl (lv_at hl 5 rfl) ?_
            refine lv_aload_n hx hb dX1_pass_45 rfl (lv_at hl 5 rfl) ?_
            refine va_get (D := (dC, dI)) (ci := 3) (v := .ref (un 3)) (C := RX4) (T := TX4) (N := 7) hx hb hts ifX1_pass_X4 hown hK hP 12 rfl rfl 6 (by decide) (hts (.fieldLink RX1 68 "HookPier$Now" "line" "[I") (List.mem_of_getElem? (i := 13) rfl)) (fun _ h9 => h9) rfl dX1_pass_46 ?_
            refine lv_iload hx hb dX1_pass_49 (lv_at hl 0 rfl) ?_
            obtain ⟨hg51, h⟩ := gA_of h
            refine va_iald hx hb hK hP 16 12 rfl rfl hg51 dX1_pass_51 ?_
            obtain ⟨o52, eo52, h⟩ := bd_of h
            refine cl_i (wc := (bX6 a1 up kp p_p (bX4 a2 un kn v23_n_n []))) (wr := ([(a0, .inr (1, [g9, .int v23_y_y.1, .int v23_y_y.2.1, .ref a3])), (a3, .inl (cB12, 6, .inl v23_y_y.2.2))])) (va_runS (As := [.ref a1, .ref a2, .int (v23_n_n.2.2.2.2.2.2 (v23_l5).toNatClampNeg)]) (rest := []) ⟨hx, hb, hml, hown, hts⟩ (kfX1_taker l dC dI a1 a2 (v23_n_n.2.2.2.2.2.2 (v23_l5).toNatClampNeg) up kp un kn p_p v23_n_n H.size o52 eo52) (va_cwS 3 hts gfX1_pass_3 rfl rfl rfl (by decide +kernel) ⟨(Nat.le_of_ble_eq_true rfl), (Nat.le_of_ble_eq_true rfl)⟩) (PS (hP.sub (ws' := (bX6 a1 up kp p_p (bX4 a2 un kn v23_n_n []))) [2, 3, 4, 5, 6, 7, 8, 9, 10, 11, 12, 13, 14, 15, 16] rfl) (hK.sub (tys' := (tX6 kp (tX4 kn ([])))) [0, 1, 2, 3, 4, 5, 6, 7, 8, 9, 10, 11, 12] rfl) (hD.sub (ws' := (bX6 a1 up kp p_p (bX4 a2 un kn v23_n_n []))) [2, 3, 4, 5, 6, 7, 8, 9, 10, 11, 12, 13, 14, 15, 16] (by decide) rfl) hN) rfl rfl hl.1 rfl (lv_room (Nat.le_of_ble_eq_true rfl)) dX1_pass_52 ⟨(Nat.le_of_ble_eq_true rfl), (Nat.le_of_ble_eq_true rfl)⟩) hP hD hK hS hA [2, 3, 4, 5, 6, 7, 8, 9, 10, 11, 12, 13, 14, 15, 16] [0, 1] rfl rfl (by decide) (by decide) (fun r52 _ H locs hw hP hD _ hS => ?_)
            obtain rfl := hw
            have hP : va_P (dC, dI) vwCl ((a0, .inr (1, [g9, .int v23_y_y.1, .int v23_y_y.2.1, .ref a3])) :: (a3, .inl (cB12, 6, .inl v23_y_y.2.2)) :: bX6 a1 up kp p_p (bX4 a2 un kn o52.2 [])) H := hP
            have hD : va_D A ((a0, .inr (1, [g9, .int v23_y_y.1, .int v23_y_y.2.1, .ref a3])) :: (a3, .inl (cB12, 6, .inl v23_y_y.2.2)) :: bX6 a1 up kp p_p (bX4 a2 un kn o52.2 [])) := hD
            refine lv_goto (tgt := 59) hx hb dX1_pass_55 (by decide) ?_
            exact J59 o52.1 o52.2 H _ ls h  hP hD hS (lv_sub hl [0, 1, 2, 3, 4, 5] rfl)
    exact L23 FU (0 : Int32) (0 : Int32) y_y n_n H _ ls h  hP hD hS (lv_sub hl [0, 1, 2, 3, 4, 5] rfl)
