noncomputable def zrX6_hasAnswer_0 : List ZR := zc 0 true (.iload_n 1) 1 (zc 1 true (.iconst 0) 1 (zc 2 true (.aload_n 0) 1 (zc 3 true (.getfield 30) 3 (zc 6 true (.iconst 1) 1 (zc 7 true (.isub) 1 (zc 8 true (.invokestatic 68) 3 (zc 11 true (.ireturn) 1 ([]))))))))
theorem zrX6_hasAnswer_0_ok : zck 0 ((zby cX6_hasAnswer).drop 0) zrX6_hasAnswer_0 = true := by decide +kernel
def vfX6_hasAnswer : List Cond := List.cons (.code yX6_hasAnswer cX6_hasAnswer 2 (some .boolean)) (apW [.fieldLink RX6 30 "HookPier$Plan" "answers" "I", .initialized RX10, .static yX10_within] (apW wsX60 (vfX10_within)))
theorem ifX6_hasAnswer_X6 : ∀ w ∈ wsX60, w ∈ vfX6_hasAnswer := fun _ h => (List.mem_cons_of_mem _ (List.mem_append_right _ (List.mem_append_left _ h)))
theorem qfX6_hasAnswer : Good vfX6_hasAnswer := gd_cons (by decide +kernel) (gd_app (gd_dec (by decide +kernel) : Good [.fieldLink RX6 30 "HookPier$Plan" "answers" "I", .initialized RX10, .static yX10_within]) (gd_app qsX6 qfX10_within))
theorem gfX6_hasAnswer_0 : GoodIn vfX6_hasAnswer vfX10_within := (goodIn_m (fun _ h => (List.mem_cons_of_mem _ (List.mem_append_right _ (List.mem_append_right _ h)))) qfX10_within)
set_option maxHeartbeats 2000000 in
set_option maxRecDepth 100000 in
theorem kfX6_hasAnswer (l : Launch) (dC : Nat → ClassId) (dI : Nat → Nat → Nat) (a0 : Nat) (k1 : Int32) (up : Nat → Nat) (kp : Nat → ClassId) (p_p : TX6_p) (sz : Nat) (out : Int32) (h : f_X6_hasAnswer k1 p_p = out) : KDi l yX6_hasAnswer vfX6_hasAnswer ({ frames := 1, cells := 0, slots := 0, locals := 22 }) (dC, dI) [.ref a0, .int k1] sz (bX6 a0 up kp p_p []) (tX6 kp ([])) (fun (r : Int32) _ => r = out ∧ (0 ≤ r.toInt ∧ r.toInt ≤ 1)) 0 0 := by
  refine Met.ofW (cc := cX6_hasAnswer) (maxL := 2) (ret := (some .boolean)) (by decide) rfl ?_
  intro p e s m args below meth c s₁ B0 hml hv
  obtain ⟨rfl, hsz, hP, hK, hD0, hN⟩ := hv
  have hx := B0.exec
  have hb := B0.bytes
  have hr := B0.returns
  have hts := atoms_spec (ws := vfX6_hasAnswer) B0.pre
  have hown : s.vm.findClass RX6 = some m.cls := findClass_of_methodNamed B0.named
  have hlocks := B0.notSynchronized
  subst hsz
  have hD := hD0.self (sz := s.heap.size)
  generalize hAe : va_A (bX6 a0 up kp p_p []) s.heap.size = A at hD ⊢
  have hA : ∀ q : Nat, s.heap.size ≤ q → A q := fun q h => by rw [← hAe]; exact Or.inr h
  have hS : va_S A s.heap s.heap [] := va_S.rf
  have hP : va_P (dC, dI) vwCl (bX6 a0 up kp p_p []) s.heap := hP
  have hl := lv_entry ([.ref a0, .int k1]) (n := 2) (Nat.le_of_ble_eq_true rfl)
  rw [lg_entry_eq]
  generalize (lg_sl ([.ref a0, .int k1]) ++ List.replicate (2 - (lg_sl ([.ref a0, .int k1])).length) Slot.unset).toArray = ls at hl ⊢
  have hl : lv_has ls 2 [(0, .ref a0), (1, .int k1)] := hl
  refine W_q (fun QQ hQQ => ?_)
  rw [f_X6_hasAnswer] at h
  refine lv_iload_n hx hb (zat zrX6_hasAnswer_0_ok 0 rfl) rfl (lv_at hl 1 rfl) ?_
  refine lv_iconst (v := 0) hx hb (zat zrX6_hasAnswer_0_ok 1 rfl) (by decide) ?_
  refine lv_aload_n hx hb (zat zrX6_hasAnswer_0_ok 2 rfl) rfl (lv_at hl 0 rfl) ?_
  refine va_get (D := (dC, dI)) (ci := 4) (v := .int p_p.2.2.2.2.2.2.1) (C := RX6) (T := TX6) (N := 18) hx hb hts ifX6_hasAnswer_X6 hown hK hP 0 rfl rfl 6 (by decide) (hts (.fieldLink RX6 30 "HookPier$Plan" "answers" "I") (List.mem_of_getElem? (i := 1) rfl)) (fun _ h9 => h9) rfl (zat zrX6_hasAnswer_0_ok 3 rfl) ?_
  refine lv_iconst (v := 1) hx hb (zat zrX6_hasAnswer_0_ok 4 rfl) (by decide) ?_
  refine lv_isub hx hb (zat zrX6_hasAnswer_0_ok 5 rfl) ?_
  obtain ⟨o8, eo8⟩ : ∃ o, o = f_X10_within k1 (0 : Int32) (p_p.2.2.2.2.2.2.1 - (1 : Int32)) := ⟨_, rfl⟩
  have h := nm_of h o8 eo8
  refine ck_i (wc := []) (wr := (bX6 a0 up kp p_p [])) hP hD hK hS hA [] [0, 1, 2, 3, 4, 5, 6, 7, 8, 9] rfl rfl (by decide) (by decide) (by decide) (fun hPc hDc => (va_runSN (As := [.int k1, .int 0, .int (p_p.2.2.2.2.2.2.1 - (1 : Int32))]) (rest := []) ⟨hx, hb, hml, hown, hts⟩ (kfX10_within l dC dI k1 (0 : Int32) (p_p.2.2.2.2.2.2.1 - (1 : Int32)) s.heap.size o8 eo8.symm) ⟨va_cnB 3 hts gfX6_hasAnswer_0 rfl rfl rfl (hN.1 (.methodLinkNest RX6 68 yX10_within "HookPier") (List.mem_of_getElem? (i := 10) rfl)) (hts (.initialized RX10) (List.mem_of_getElem? (i := 2) rfl)) (by decide +kernel) ⟨(Nat.le_of_ble_eq_true rfl), (Nat.le_of_ble_eq_true rfl)⟩, (hts (.static yX10_within) (List.mem_of_getElem? (i := 3) rfl)), trivial⟩ (PS hPc (hK.sub (tys' := ([])) [] rfl) hDc hN) rfl rfl hl.1 rfl (lv_room (Nat.le_of_ble_eq_true rfl)) (zat zrX6_hasAnswer_0_ok 6 rfl) ⟨(Nat.le_of_ble_eq_true rfl), (Nat.le_of_ble_eq_true rfl)⟩)) (fun r8 _ H locs hw hP hD _ hS => ?_)
  obtain ⟨hw, br8⟩ := hw
  obtain rfl := hw.symm
  obtain ⟨hP, hD⟩ := pd_mk (bX6 a0 up kp p_p []) hP hD
  obtain rfl := h
  obtain ⟨hP9, hD9⟩ := pd_sub (bX6 a0 up kp p_p []) [0, 1, 2, 3, 4, 5, 6, 7, 8, 9] hP hD (by decide) rfl
  have hK9 := hK.sub (tys' := []) [] rfl
  rw [hQQ]
  exact W.zret (v := o8) hx hb hr (narz br8) (fun t ht hW => ⟨⟨o8, (), rfl, ⟨rfl, br8⟩, by rw [ht]; exact hP9, va_K.moved hW.alike hK9, hD9⟩, hS.F ht⟩) hS.2.2 (zat zrX6_hasAnswer_0_ok 7 rfl)
noncomputable def zrX10_answerTrouble_0 : List ZR := zc 0 true (.aload_n 0) 1 (zc 1 true (.getfield 10) 3 (zc 4 true (.iload_n 1) 1 (zc 5 true (.invokevirtual 381) 3 (zc 8 true (.ifCond .eq 7) 3 (zc 11 true (.iconst 0) 1 (zc 12 true (.goto 4) 3 (zc 15 true (.iconst 1) 1 (zc 16 true (.ireturn) 1 ([])))))))))
theorem zrX10_answerTrouble_0_ok : zck 0 ((zby cX10_answerTrouble).drop 0) zrX10_answerTrouble_0 = true := by decide +kernel
def vfX10_answerTrouble : List Cond := List.cons (.code yX10_answerTrouble cX10_answerTrouble 2 (some .int)) (apW [.fieldLink RX10 10 "HookPier" "plan" "LHookPier$Plan;", .methodLink RX10 381 yX6_hasAnswer, .instanceMethod yX6_hasAnswer, .selects RX6 yX6_hasAnswer yX6_hasAnswer, .initialized RX6] (apW wsX100 (vfX6_hasAnswer)))
theorem ifX10_answerTrouble_X10 : ∀ w ∈ wsX100, w ∈ vfX10_answerTrouble := fun _ h => (List.mem_cons_of_mem _ (List.mem_append_right _ (List.mem_append_left _ h)))
theorem qfX10_answerTrouble : Good vfX10_answerTrouble := gd_cons (by decide +kernel) (gd_app (gd_dec (by decide +kernel) : Good [.fieldLink RX10 10 "HookPier" "plan" "LHookPier$Plan;", .methodLink RX10 381 yX6_hasAnswer, .instanceMethod yX6_hasAnswer, .selects RX6 yX6_hasAnswer yX6_hasAnswer, .initialized RX6]) (gd_app qsX10 qfX6_hasAnswer))
theorem gfX10_answerTrouble_0 : GoodIn vfX10_answerTrouble (wsV RX10 381 RX6 yX6_hasAnswer vfX6_hasAnswer) := goodIn_app (goodIn_r [.methodLink RX10 381 yX6_hasAnswer, .instanceMethod yX6_hasAnswer, .selects RX6 yX6_hasAnswer yX6_hasAnswer, .initialized RX6] [2, 3, 4, 5] rfl (by decide +kernel)) (goodIn_m (fun _ h => (List.mem_cons_of_mem _ (List.mem_append_right _ (List.mem_append_right _ h)))) qfX6_hasAnswer)
set_option maxHeartbeats 2000000 in
set_option maxRecDepth 100000 in
theorem kfX10_answerTrouble (l : Launch) (dC : Nat → ClassId) (dI : Nat → Nat → Nat) (a0 : Nat) (k1 : Int32) (a2 : Nat) (up : Nat → Nat) (kp : Nat → ClassId) (g5 : Value) (g6 : Value) (g7 : Value) (g8 : Value) (g9 : Value) (g10 : Value) (g11 : Value) (g12 : Value) (g13 : Value) (p_p : TX6_p) (sz : Nat) (out : Int32) (h : f_X10_answerTrouble k1 p_p = out) : KDi l yX10_answerTrouble vfX10_answerTrouble ({ frames := 2, cells := 0, slots := 0, locals := 43 }) (dC, dI) [.ref a0, .int k1] sz ((a0, .inr (7, [.ref a2, g5, g6, g7, g8, g9, g10, g11, g12, g13])) :: bX6 a2 up kp p_p []) (tX6 kp ([])) (fun (r : Int32) _ => r = out) 0 0 := by
  refine Met.ofW (cc := cX10_answerTrouble) (maxL := 2) (ret := (some .int)) (by decide) rfl ?_
  intro p e s m args below meth c s₁ B0 hml hv
  obtain ⟨rfl, hsz, hP, hK, hD0, hN⟩ := hv
  have hx := B0.exec
  have hb := B0.bytes
  have hr := B0.returns
  have hts := atoms_spec (ws := vfX10_answerTrouble) B0.pre
  have hown : s.vm.findClass RX10 = some m.cls := findClass_of_methodNamed B0.named
  have hlocks := B0.notSynchronized
  subst hsz
  have hD := hD0.self (sz := s.heap.size)
  generalize hAe : va_A ((a0, .inr (7, [.ref a2, g5, g6, g7, g8, g9, g10, g11, g12, g13])) :: bX6 a2 up kp p_p []) s.heap.size = A at hD ⊢
  have hA : ∀ q : Nat, s.heap.size ≤ q → A q := fun q h => by rw [← hAe]; exact Or.inr h
  have hS : va_S A s.heap s.heap [] := va_S.rf
  have hP : va_P (dC, dI) vwCl ((a0, .inr (7, [.ref a2, g5, g6, g7, g8, g9, g10, g11, g12, g13])) :: bX6 a2 up kp p_p []) s.heap := hP
  have hl := lv_entry ([.ref a0, .int k1]) (n := 2) (Nat.le_of_ble_eq_true rfl)
  rw [lg_entry_eq]
  generalize (lg_sl ([.ref a0, .int k1]) ++ List.replicate (2 - (lg_sl ([.ref a0, .int k1])).length) Slot.unset).toArray = ls at hl ⊢
  have hl : lv_has ls 2 [(0, .ref a0), (1, .int k1)] := hl
  refine W_q (fun QQ hQQ => ?_)
  rw [f_X10_answerTrouble] at h
  refine lv_aload_n hx hb (zat zrX10_answerTrouble_0_ok 0 rfl) rfl (lv_at hl 0 rfl) ?_
  refine va_get (D := (dC, dI)) (ci := 7) (v := .ref a2) (C := RX10) (T := TX10) (N := 10) hx hb hts ifX10_answerTrouble_X10 hown hK hP 0 rfl rfl 0 (by decide) (hts (.fieldLink RX10 10 "HookPier" "plan" "LHookPier$Plan;") (List.mem_of_getElem? (i := 1) rfl)) (fun _ h9 => h9) rfl (zat zrX10_answerTrouble_0_ok 1 rfl) ?_
  refine lv_iload_n hx hb (zat zrX10_answerTrouble_0_ok 2 rfl) rfl (lv_at hl 1 rfl) ?_
  obtain ⟨o5, eo5⟩ : ∃ o, o = f_X6_hasAnswer k1 p_p := ⟨_, rfl⟩
  have h := nm_of h o5 eo5
  refine ck_i (wc := (bX6 a2 up kp p_p [])) (wr := ([(a0, .inr (7, [.ref a2, g5, g6, g7, g8, g9, g10, g11, g12, g13]))])) hP hD hK hS hA [1, 2, 3, 4, 5, 6, 7, 8, 9, 10] [0] rfl rfl (by decide) (by decide) (by decide) (fun hPc hDc => (va_runV (As := [.int k1]) (rest := []) ⟨hx, hb, hml, hown, hts⟩ (kfX6_hasAnswer l dC dI a2 k1 up kp p_p s.heap.size o5 eo5.symm) (cwV 1 hts gfX10_answerTrouble_0 rfl rfl rfl (by decide +kernel) ⟨(Nat.le_of_ble_eq_true rfl), (Nat.le_of_ble_eq_true rfl)⟩) (PV hPc (hK.sub (tys' := (tX6 kp ([]))) [0, 1, 2, 3, 4, 5, 6, 7, 8] rfl) hDc hN 0 rfl rfl) rfl rfl hl.1 rfl (lv_room (Nat.le_of_ble_eq_true rfl)) (zat zrX10_answerTrouble_0_ok 3 rfl) ⟨(Nat.le_of_ble_eq_true rfl), (Nat.le_of_ble_eq_true rfl)⟩)) (fun r5 _ H locs hw hP hD _ hS => ?_)
  obtain ⟨hw, br5⟩ := hw
  obtain rfl := hw.symm
  obtain ⟨hP, hD⟩ := pd_mk ((a0, .inr (7, [.ref a2, g5, g6, g7, g8, g9, g10, g11, g12, g13])) :: bX6 a2 up kp p_p []) hP hD
  refine lv_if_eq (tgt := 15) hx hb (zat zrX10_answerTrouble_0_ok 4 rfl) (by decide) (fun c8 => ?_) (fun c8 => ?_)
  · have h := (if_pos c8).symm.trans h
    refine lv_iconst (v := 1) hx hb (zat zrX10_answerTrouble_0_ok 7 rfl) (by decide) ?_
    obtain rfl := h
    obtain ⟨hP9, hD9⟩ := pd_sub ((a0, .inr (7, [.ref a2, g5, g6, g7, g8, g9, g10, g11, g12, g13])) :: bX6 a2 up kp p_p []) [0, 1, 2, 3, 4, 5, 6, 7, 8, 9, 10] hP hD (by decide) rfl
    have hK9 := hK.sub (tys' := []) [] rfl
    rw [hQQ]
    exact W.iret (v := (1 : Int32)) hx hb hr (fun t ht hW => ⟨⟨(1 : Int32), (), rfl, rfl, by rw [ht]; exact hP9, va_K.moved hW.alike hK9, hD9⟩, hS.F ht⟩) hS.2.2 (zat zrX10_answerTrouble_0_ok 8 rfl)
  · have h := (if_neg c8).symm.trans h
    refine lv_iconst (v := 0) hx hb (zat zrX10_answerTrouble_0_ok 5 rfl) (by decide) ?_
    refine lv_goto (tgt := 16) hx hb (zat zrX10_answerTrouble_0_ok 6 rfl) (by decide) ?_
    obtain rfl := h
    obtain ⟨hP9, hD9⟩ := pd_sub ((a0, .inr (7, [.ref a2, g5, g6, g7, g8, g9, g10, g11, g12, g13])) :: bX6 a2 up kp p_p []) [0, 1, 2, 3, 4, 5, 6, 7, 8, 9, 10] hP hD (by decide) rfl
    have hK9 := hK.sub (tys' := []) [] rfl
    rw [hQQ]
    exact W.iret (v := (0 : Int32)) hx hb hr (fun t ht hW => ⟨⟨(0 : Int32), (), rfl, rfl, by rw [ht]; exact hP9, va_K.moved hW.alike hK9, hD9⟩, hS.F ht⟩) hS.2.2 (zat zrX10_answerTrouble_0_ok 8 rfl)
noncomputable def zrX6_worthAfter_0 : List ZR := zc 0 true (.aload_n 0) 1 (zc 1 true (.getfield 43) 3 (zc 4 true (.iload_n 1) 1 (zc 5 true (.iaload) 1 (zc 6 true (.iconst 1) 1 (zc 7 true (.if_icmp .ne 10) 3 (zc 10 true (.aload_n 0) 1 (zc 11 true (.getfield 58) 3 (zc 14 true (.iload_n 1) 1 (zc 15 true (.iaload) 1 (zc 16 true (.ireturn) 1 (zc 17 true (.aload_n 0) 1 (zc 18 true (.getfield 43) 3 (zc 21 true (.iload_n 1) 1 (zc 22 true (.iaload) 1 (zc 23 true (.iconst 3) 1 (zc 24 true (.if_icmp .ne 17) 3 (zc 27 true (.bipush 99) 2 (zc 29 true (.aload_n 0) 1 (zc 30 true (.getfield 58) 3 (zc 33 true (.iload_n 1) 1 (zc 34 true (.iaload) 1 (zc 35 true (.iload_n 2) 1 (zc 36 true (.iadd) 1 (zc 37 true (.invokestatic 98) 3 (zc 40 true (.ireturn) 1 (zc 41 true (.iconst 0) 1 (zc 42 true (.aload_n 0) 1 (zc 43 true (.getfield 58) 3 (zc 46 true (.iload_n 1) 1 (zc 47 true (.iaload) 1 (zc 48 true (.iconst 5) 1 (zc 49 true (.iload_n 2) 1 (zc 50 true (.imul) 1 (zc 51 true (.isub) 1 (zc 52 true (.invokestatic 102) 3 (zc 55 true (.ireturn) 1 ([])))))))))))))))))))))))))))))))))))))
theorem zrX6_worthAfter_0_ok : zck 0 ((zby cX6_worthAfter).drop 0) zrX6_worthAfter_0 = true := by decide +kernel
def vfX6_worthAfter : List Cond := List.cons (.code yX6_worthAfter cX6_worthAfter 3 (some .int)) (apW [.fieldLink RX6 43 "HookPier$Plan" "kind" "[I", .fieldLink RX6 58 "HookPier$Plan" "told" "[I", .methodLink RX6 102 Lib.Math.max.name, .static Lib.Math.max.name, .initialized "java/lang/Math", .code Lib.Math.max.name Lib.Math.max.code 2 (some .int), .methodLink RX6 98 Lib.Math.min.name, .static Lib.Math.min.name, .code Lib.Math.min.name Lib.Math.min.code 2 (some .int)] (wsX60))
theorem ifX6_worthAfter_X6 : ∀ w ∈ wsX60, w ∈ vfX6_worthAfter := fun _ h => (List.mem_cons_of_mem _ (List.mem_append_right _ h))
theorem qfX6_worthAfter : Good vfX6_worthAfter := gd_cons (by decide +kernel) (gd_app (gd_dec (by decide +kernel) : Good [.fieldLink RX6 43 "HookPier$Plan" "kind" "[I", .fieldLink RX6 58 "HookPier$Plan" "told" "[I", .methodLink RX6 102 Lib.Math.max.name, .static Lib.Math.max.name, .initialized "java/lang/Math", .code Lib.Math.max.name Lib.Math.max.code 2 (some .int), .methodLink RX6 98 Lib.Math.min.name, .static Lib.Math.min.name, .code Lib.Math.min.name Lib.Math.min.code 2 (some .int)]) qsX6)
set_option maxHeartbeats 2000000 in
set_option maxRecDepth 100000 in
theorem kfX6_worthAfter (l : Launch) (dC : Nat → ClassId) (dI : Nat → Nat → Nat) (a0 : Nat) (k1 : Int32) (k2 : Int32) (up : Nat → Nat) (kp : Nat → ClassId) (p_p : TX6_p) (sz : Nat) (out : Int32) (h : f_X6_worthAfter k1 k2 p_p = some out) : KDi l yX6_worthAfter vfX6_worthAfter ({ frames := 1, cells := 0, slots := 0, locals := 21 }) (dC, dI) [.ref a0, .int k1, .int k2] sz (bX6 a0 up kp p_p []) (tX6 kp ([])) (fun (r : Int32) _ => r = out) 0 0 := by
  refine Met.ofW (cc := cX6_worthAfter) (maxL := 3) (ret := (some .int)) (by decide) rfl ?_
  intro p e s m args below meth c s₁ B0 hml hv
  obtain ⟨rfl, hsz, hP, hK, hD0, hN⟩ := hv
  have hx := B0.exec
  have hb := B0.bytes
  have hr := B0.returns
  have hts := atoms_spec (ws := vfX6_worthAfter) B0.pre
  have hown : s.vm.findClass RX6 = some m.cls := findClass_of_methodNamed B0.named
  have hlocks := B0.notSynchronized
  subst hsz
  have hD := hD0.self (sz := s.heap.size)
  generalize hAe : va_A (bX6 a0 up kp p_p []) s.heap.size = A at hD ⊢
  have hA : ∀ q : Nat, s.heap.size ≤ q → A q := fun q h => by rw [← hAe]; exact Or.inr h
  have hS : va_S A s.heap s.heap [] := va_S.rf
  have hP : va_P (dC, dI) vwCl (bX6 a0 up kp p_p []) s.heap := hP
  have hl := lv_entry ([.ref a0, .int k1, .int k2]) (n := 3) (Nat.le_of_ble_eq_true rfl)
  rw [lg_entry_eq]
  generalize (lg_sl ([.ref a0, .int k1, .int k2]) ++ List.replicate (3 - (lg_sl ([.ref a0, .int k1, .int k2])).length) Slot.unset).toArray = ls at hl ⊢
  have hl : lv_has ls 3 [(0, .ref a0), (1, .int k1), (2, .int k2)] := hl
  refine W_q (fun QQ hQQ => ?_)
  rw [f_X6_worthAfter] at h
  refine lv_aload_n hx hb (zat zrX6_worthAfter_0_ok 0 rfl) rfl (lv_at hl 0 rfl) ?_
  refine va_get (D := (dC, dI)) (ci := 4) (v := .ref (up 1)) (C := RX6) (T := TX6) (N := 18) hx hb hts ifX6_worthAfter_X6 hown hK hP 0 rfl rfl 10 (by decide) (hts (.fieldLink RX6 43 "HookPier$Plan" "kind" "[I") (List.mem_of_getElem? (i := 1) rfl)) (fun _ h9 => h9) rfl (zat zrX6_worthAfter_0_ok 1 rfl) ?_
  refine lv_iload_n hx hb (zat zrX6_worthAfter_0_ok 2 rfl) rfl (lv_at hl 1 rfl) ?_
  obtain ⟨hg5, h⟩ := gA_of h
  refine va_iald hx hb hK hP 2 1 rfl rfl hg5 (zat zrX6_worthAfter_0_ok 3 rfl) ?_
  refine lv_iconst (v := 1) hx hb (zat zrX6_worthAfter_0_ok 4 rfl) (by decide) ?_
  refine lv_icmp_ne (tgt := 17) hx hb (zat zrX6_worthAfter_0_ok 5 rfl) (by decide) (fun c7 => ?_) (fun c7 => ?_)
  · have h := (if_neg c7).symm.trans h
    refine lv_aload_n hx hb (zat zrX6_worthAfter_0_ok 11 rfl) rfl (lv_at hl 0 rfl) ?_
    refine va_get (D := (dC, dI)) (ci := 4) (v := .ref (up 1)) (C := RX6) (T := TX6) (N := 18) hx hb hts ifX6_worthAfter_X6 hown hK hP 0 rfl rfl 10 (by decide) (hts (.fieldLink RX6 43 "HookPier$Plan" "kind" "[I") (List.mem_of_getElem? (i := 1) rfl)) (fun _ h9 => h9) rfl (zat zrX6_worthAfter_0_ok 12 rfl) ?_
    refine lv_iload_n hx hb (zat zrX6_worthAfter_0_ok 13 rfl) rfl (lv_at hl 1 rfl) ?_
    obtain ⟨hg22, h⟩ := gA_of h
    refine va_iald hx hb hK hP 2 1 rfl rfl hg22 (zat zrX6_worthAfter_0_ok 14 rfl) ?_
    refine lv_iconst (v := 3) hx hb (zat zrX6_worthAfter_0_ok 15 rfl) (by decide) ?_
    refine lv_icmp_ne (tgt := 41) hx hb (zat zrX6_worthAfter_0_ok 16 rfl) (by decide) (fun c24 => ?_) (fun c24 => ?_)
    · have h := (if_neg c24).symm.trans h
      refine lv_iconst (v := 0) hx hb (zat zrX6_worthAfter_0_ok 26 rfl) (by decide) ?_
      refine lv_aload_n hx hb (zat zrX6_worthAfter_0_ok 27 rfl) rfl (lv_at hl 0 rfl) ?_
      refine va_get (D := (dC, dI)) (ci := 4) (v := .ref (up 6)) (C := RX6) (T := TX6) (N := 18) hx hb hts ifX6_worthAfter_X6 hown hK hP 0 rfl rfl 15 (by decide) (hts (.fieldLink RX6 58 "HookPier$Plan" "told" "[I") (List.mem_of_getElem? (i := 2) rfl)) (fun _ h9 => h9) rfl (zat zrX6_worthAfter_0_ok 28 rfl) ?_
      refine lv_iload_n hx hb (zat zrX6_worthAfter_0_ok 29 rfl) rfl (lv_at hl 1 rfl) ?_
      obtain ⟨hg47, h⟩ := gA_of h
      refine va_iald hx hb hK hP 7 6 rfl rfl hg47 (zat zrX6_worthAfter_0_ok 30 rfl) ?_
      refine lv_iconst (v := 5) hx hb (zat zrX6_worthAfter_0_ok 31 rfl) (by decide) ?_
      refine lv_iload_n hx hb (zat zrX6_worthAfter_0_ok 32 rfl) rfl (lv_at hl 2 rfl) ?_
      refine lv_imul hx hb (zat zrX6_worthAfter_0_ok 33 rfl) ?_
      refine lv_isub hx hb (zat zrX6_worthAfter_0_ok 34 rfl) ?_
      refine lv_topi (fun z51 ez51 => ?_)
      have h := nm_of h z51 ez51
      refine va_mmax hx hb (by rw [hml]; exact hl.1.symm) hown (hts (.methodLink RX6 102 Lib.Math.max.name) (List.mem_of_getElem? (i := 3) rfl)) (hts (.static Lib.Math.max.name) (List.mem_of_getElem? (i := 4) rfl)) (hts (.initialized "java/lang/Math") (List.mem_of_getElem? (i := 5) rfl)) (hts (.code Lib.Math.max.name Lib.Math.max.code 2 (some .int)) (List.mem_of_getElem? (i := 6) rfl)) (Nat.le_of_ble_eq_true rfl) (Nat.le_of_ble_eq_true rfl) (Nat.le_of_ble_eq_true rfl) (Nat.le_of_ble_eq_true rfl) (zat zrX6_worthAfter_0_ok 35 rfl) ?_
      refine lv_topi (fun z52 ez52 => ?_)
      have h := nm_of h z52 ez52
      obtain rfl := Option.some.inj h
      obtain ⟨hP9, hD9⟩ := pd_sub (bX6 a0 up kp p_p []) [0, 1, 2, 3, 4, 5, 6, 7, 8, 9] hP hD (by decide) rfl
      have hK9 := hK.sub (tys' := []) [] rfl
      rw [hQQ]
      exact W.iret (v := z52) hx hb hr (fun t ht hW => ⟨⟨z52, (), rfl, rfl, by rw [ht]; exact hP9, va_K.moved hW.alike hK9, hD9⟩, hS.F ht⟩) hS.2.2 (zat zrX6_worthAfter_0_ok 36 rfl)
    · have h := (if_pos c24).symm.trans h
      refine lv_bipush (v := 99) hx hb (zat zrX6_worthAfter_0_ok 17 rfl) (by decide) ?_
      refine lv_aload_n hx hb (zat zrX6_worthAfter_0_ok 18 rfl) rfl (lv_at hl 0 rfl) ?_
      refine va_get (D := (dC, dI)) (ci := 4) (v := .ref (up 6)) (C := RX6) (T := TX6) (N := 18) hx hb hts ifX6_worthAfter_X6 hown hK hP 0 rfl rfl 15 (by decide) (hts (.fieldLink RX6 58 "HookPier$Plan" "told" "[I") (List.mem_of_getElem? (i := 2) rfl)) (fun _ h9 => h9) rfl (zat zrX6_worthAfter_0_ok 19 rfl) ?_
      refine lv_iload_n hx hb (zat zrX6_worthAfter_0_ok 20 rfl) rfl (lv_at hl 1 rfl) ?_
      obtain ⟨hg34, h⟩ := gA_of h
      refine va_iald hx hb hK hP 7 6 rfl rfl hg34 (zat zrX6_worthAfter_0_ok 21 rfl) ?_
      refine lv_iload_n hx hb (zat zrX6_worthAfter_0_ok 22 rfl) rfl (lv_at hl 2 rfl) ?_
      refine lv_iadd hx hb (zat zrX6_worthAfter_0_ok 23 rfl) ?_
      refine lv_topi (fun z36 ez36 => ?_)
      have h := nm_of h z36 ez36
      refine va_mmin hx hb (by rw [hml]; exact hl.1.symm) hown (hts (.methodLink RX6 98 Lib.Math.min.name) (List.mem_of_getElem? (i := 7) rfl)) (hts (.static Lib.Math.min.name) (List.mem_of_getElem? (i := 8) rfl)) (hts (.initialized "java/lang/Math") (List.mem_of_getElem? (i := 5) rfl)) (hts (.code Lib.Math.min.name Lib.Math.min.code 2 (some .int)) (List.mem_of_getElem? (i := 9) rfl)) (Nat.le_of_ble_eq_true rfl) (Nat.le_of_ble_eq_true rfl) (Nat.le_of_ble_eq_true rfl) (Nat.le_of_ble_eq_true rfl) (zat zrX6_worthAfter_0_ok 24 rfl) ?_
      refine lv_topi (fun z37 ez37 => ?_)
      have h := nm_of h z37 ez37
      obtain rfl := Option.some.inj h
      obtain ⟨hP9, hD9⟩ := pd_sub (bX6 a0 up kp p_p []) [0, 1, 2, 3, 4, 5, 6, 7, 8, 9] hP hD (by decide) rfl
      have hK9 := hK.sub (tys' := []) [] rfl
      rw [hQQ]
      exact W.iret (v := z37) hx hb hr (fun t ht hW => ⟨⟨z37, (), rfl, rfl, by rw [ht]; exact hP9, va_K.moved hW.alike hK9, hD9⟩, hS.F ht⟩) hS.2.2 (zat zrX6_worthAfter_0_ok 25 rfl)
  · have h := (if_pos c7).symm.trans h
    refine lv_aload_n hx hb (zat zrX6_worthAfter_0_ok 6 rfl) rfl (lv_at hl 0 rfl) ?_
    refine va_get (D := (dC, dI)) (ci := 4) (v := .ref (up 6)) (C := RX6) (T := TX6) (N := 18) hx hb hts ifX6_worthAfter_X6 hown hK hP 0 rfl rfl 15 (by decide) (hts (.fieldLink RX6 58 "HookPier$Plan" "told" "[I") (List.mem_of_getElem? (i := 2) rfl)) (fun _ h9 => h9) rfl (zat zrX6_worthAfter_0_ok 7 rfl) ?_
    refine lv_iload_n hx hb (zat zrX6_worthAfter_0_ok 8 rfl) rfl (lv_at hl 1 rfl) ?_
    obtain ⟨hg15, h⟩ := gA_of h
    refine va_iald hx hb hK hP 7 6 rfl rfl hg15 (zat zrX6_worthAfter_0_ok 9 rfl) ?_
    obtain rfl := Option.some.inj h
    obtain ⟨hP9, hD9⟩ := pd_sub (bX6 a0 up kp p_p []) [0, 1, 2, 3, 4, 5, 6, 7, 8, 9] hP hD (by decide) rfl
    have hK9 := hK.sub (tys' := []) [] rfl
    rw [hQQ]
    exact W.iret (v := (p_p.2.2.2.2.2.2.2.2.2.2.2.2.2.2.2.1 (k1).toNatClampNeg)) hx hb hr (fun t ht hW => ⟨⟨(p_p.2.2.2.2.2.2.2.2.2.2.2.2.2.2.2.1 (k1).toNatClampNeg), (), rfl, rfl, by rw [ht]; exact hP9, va_K.moved hW.alike hK9, hD9⟩, hS.F ht⟩) hS.2.2 (zat zrX6_worthAfter_0_ok 10 rfl)
noncomputable def zrX3_worthOn_0 : List ZR := zc 0 true (.aload_n 0) 1 (zc 1 true (.iload_n 2) 1 (zc 2 true (.iload_n 3) 1 (zc 3 true (.aload_n 1) 1 (zc 4 true (.getfield 9) 3 (zc 7 true (.iload_n 2) 1 (zc 8 true (.iaload) 1 (zc 9 true (.isub) 1 (zc 10 true (.invokevirtual 15) 3 (zc 13 true (.ireturn) 1 ([]))))))))))
theorem zrX3_worthOn_0_ok : zck 0 ((zby cX3_worthOn).drop 0) zrX3_worthOn_0 = true := by decide +kernel
def vfX3_worthOn : List Cond := List.cons (.code yX3_worthOn cX3_worthOn 4 (some .int)) (apW [.fieldLink RX3 9 "HookPier$Now" "landedOn" "[I", .methodLink RX3 15 yX6_worthAfter, .instanceMethod yX6_worthAfter, .selects RX6 yX6_worthAfter yX6_worthAfter, .initialized RX6] (apW wsX40 (vfX6_worthAfter)))
theorem ifX3_worthOn_X4 : ∀ w ∈ wsX40, w ∈ vfX3_worthOn := fun _ h => (List.mem_cons_of_mem _ (List.mem_append_right _ (List.mem_append_left _ h)))
theorem qfX3_worthOn : Good vfX3_worthOn := gd_cons (by decide +kernel) (gd_app (gd_dec (by decide +kernel) : Good [.fieldLink RX3 9 "HookPier$Now" "landedOn" "[I", .methodLink RX3 15 yX6_worthAfter, .instanceMethod yX6_worthAfter, .selects RX6 yX6_worthAfter yX6_worthAfter, .initialized RX6]) (gd_app qsX4 qfX6_worthAfter))
theorem gfX3_worthOn_0 : GoodIn vfX3_worthOn (wsV RX3 15 RX6 yX6_worthAfter vfX6_worthAfter) := goodIn_app (goodIn_r [.methodLink RX3 15 yX6_worthAfter, .instanceMethod yX6_worthAfter, .selects RX6 yX6_worthAfter yX6_worthAfter, .initialized RX6] [2, 3, 4, 5] rfl (by decide +kernel)) (goodIn_m (fun _ h => (List.mem_cons_of_mem _ (List.mem_append_right _ (List.mem_append_right _ h)))) qfX6_worthAfter)
set_option maxHeartbeats 2000000 in
set_option maxRecDepth 100000 in
theorem kfX3_worthOn (l : Launch) (dC : Nat → ClassId) (dI : Nat → Nat → Nat) (a0 : Nat) (a1 : Nat) (k2 : Int32) (k3 : Int32) (up : Nat → Nat) (kp : Nat → ClassId) (un : Nat → Nat) (kn : Nat → ClassId) (p_p : TX6_p) (n_n : TX4_n) (sz : Nat) (out : Int32) (h : f_X3_worthOn k2 k3 p_p n_n = some out) : KDi l yX3_worthOn vfX3_worthOn ({ frames := 2, cells := 0, slots := 0, locals := 43 }) (dC, dI) [.ref a0, .ref a1, .int k2, .int k3] sz (bX6 a0 up kp p_p (bX4 a1 un kn n_n [])) (tX6 kp (tX4 kn ([]))) (fun (r : Int32) _ => r = out) 0 0 := by
  refine Met.ofW (cc := cX3_worthOn) (maxL := 4) (ret := (some .int)) (by decide) rfl ?_
  intro p e s m args below meth c s₁ B0 hml hv
  obtain ⟨rfl, hsz, hP, hK, hD0, hN⟩ := hv
  have hx := B0.exec
  have hb := B0.bytes
  have hr := B0.returns
  have hts := atoms_spec (ws := vfX3_worthOn) B0.pre
  have hown : s.vm.findClass RX3 = some m.cls := findClass_of_methodNamed B0.named
  have hlocks := B0.notSynchronized
  subst hsz
  have hD := hD0.self (sz := s.heap.size)
  generalize hAe : va_A (bX6 a0 up kp p_p (bX4 a1 un kn n_n [])) s.heap.size = A at hD ⊢
  have hA : ∀ q : Nat, s.heap.size ≤ q → A q := fun q h => by rw [← hAe]; exact Or.inr h
  have hS : va_S A s.heap s.heap [] := va_S.rf
  have hP : va_P (dC, dI) vwCl (bX6 a0 up kp p_p (bX4 a1 un kn n_n [])) s.heap := hP
  have hl := lv_entry ([.ref a0, .ref a1, .int k2, .int k3]) (n := 4) (Nat.le_of_ble_eq_true rfl)
  rw [lg_entry_eq]
  generalize (lg_sl ([.ref a0, .ref a1, .int k2, .int k3]) ++ List.replicate (4 - (lg_sl ([.ref a0, .ref a1, .int k2, .int k3])).length) Slot.unset).toArray = ls at hl ⊢
  have hl : lv_has ls 4 [(0, .ref a0), (1, .ref a1), (2, .int k2), (3, .int k3)] := hl
  refine W_q (fun QQ hQQ => ?_)
  rw [f_X3_worthOn] at h
  refine lv_aload_n hx hb (zat zrX3_worthOn_0_ok 0 rfl) rfl (lv_at hl 0 rfl) ?_
  refine lv_iload_n hx hb (zat zrX3_worthOn_0_ok 1 rfl) rfl (lv_at hl 2 rfl) ?_
  refine lv_iload_n hx hb (zat zrX3_worthOn_0_ok 2 rfl) rfl (lv_at hl 3 rfl) ?_
  refine lv_aload_n hx hb (zat zrX3_worthOn_0_ok 3 rfl) rfl (lv_at hl 1 rfl) ?_
  refine va_get (D := (dC, dI)) (ci := 3) (v := .ref (un 1)) (C := RX4) (T := TX4) (N := 7) hx hb hts ifX3_worthOn_X4 hown hK hP 10 rfl rfl 4 (by decide) (hts (.fieldLink RX3 9 "HookPier$Now" "landedOn" "[I") (List.mem_of_getElem? (i := 1) rfl)) (fun _ h9 => h9) rfl (zat zrX3_worthOn_0_ok 4 rfl) ?_
  refine lv_iload_n hx hb (zat zrX3_worthOn_0_ok 5 rfl) rfl (lv_at hl 2 rfl) ?_
  obtain ⟨hg8, h⟩ := gA_of h
  refine va_iald hx hb hK hP 12 10 rfl rfl hg8 (zat zrX3_worthOn_0_ok 6 rfl) ?_
  refine lv_isub hx hb (zat zrX3_worthOn_0_ok 7 rfl) ?_
  obtain ⟨o10, eo10, h⟩ := bd_of h
  refine ck_i (wc := (bX6 a0 up kp p_p [])) (wr := (bX4 a1 un kn n_n [])) hP hD hK hS hA [0, 1, 2, 3, 4, 5, 6, 7, 8, 9] [10, 11, 12, 13, 14] rfl rfl (by decide) (by decide) (by decide) (fun hPc hDc => (va_runV (As := [.int k2, .int (k3 - (n_n.2.2.2.2.1 (k2).toNatClampNeg))]) (rest := []) ⟨hx, hb, hml, hown, hts⟩ (kfX6_worthAfter l dC dI a0 k2 (k3 - (n_n.2.2.2.2.1 (k2).toNatClampNeg)) up kp p_p s.heap.size o10 eo10) (cwV 2 hts gfX3_worthOn_0 rfl rfl rfl (by decide +kernel) ⟨(Nat.le_of_ble_eq_true rfl), (Nat.le_of_ble_eq_true rfl)⟩) (PV hPc (hK.sub (tys' := (tX6 kp ([]))) [0, 1, 2, 3, 4, 5, 6, 7, 8] rfl) hDc hN 0 rfl rfl) rfl rfl hl.1 rfl (lv_room (Nat.le_of_ble_eq_true rfl)) (zat zrX3_worthOn_0_ok 8 rfl) ⟨(Nat.le_of_ble_eq_true rfl), (Nat.le_of_ble_eq_true rfl)⟩)) (fun r10 _ H locs hw hP hD _ hS => ?_)
  obtain rfl := hw.symm
  obtain ⟨hP, hD⟩ := pd_mk (bX4 a1 un kn n_n (bX6 a0 up kp p_p [])) hP hD
  obtain rfl := Option.some.inj h
  obtain ⟨hP9, hD9⟩ := pd_sub (bX6 a0 up kp p_p (bX4 a1 un kn n_n [])) [5, 6, 7, 8, 9, 10, 11, 12, 13, 14, 0, 1, 2, 3, 4] hP hD (by decide) rfl
  have hK9 := hK.sub (tys' := []) [] rfl
  rw [hQQ]
  exact W.iret (v := o10) hx hb hr (fun t ht hW => ⟨⟨o10, (), rfl, rfl, by rw [ht]; exact hP9, va_K.moved hW.alike hK9, hD9⟩, hS.F ht⟩) hS.2.2 (zat zrX3_worthOn_0_ok 9 rfl)
noncomputable def zrX10_sell_0 : List ZR := zc 0 true (.aload_n 0) 1 (zc 1 true (.iload_n 1) 1 (zc 2 true (.invokevirtual 102) 3 (zc 5 true (.istore_n 2) 1 (zc 6 true (.aload_n 0) 1 (zc 7 true (.iload_n 2) 1 (zc 8 true (.ifCond .ne 20) 3 (zc 11 true (.aload_n 0) 1 (zc 12 true (.getfield 29) 3 (zc 15 true (.getfield 125) 3 (zc 18 true (.iload_n 1) 1 (zc 19 true (.iaload) 1 (zc 20 true (.iconst 1) 1 (zc 21 true (.if_icmp .eq 7) 3 (zc 24 true (.iconst 5) 1 (zc 25 true (.goto 4) 3 (zc 28 true (.iload_n 2) 1 (zc 29 true (.invokevirtual 79) 3 (zc 32 true (.ifCond .eq 5) 3 (zc 35 true (.iconst (-1)) 1 (zc 36 true (.ireturn) 1 (zc 37 true (.aload_n 0) 1 (zc 38 true (.getfield 36) 3 (zc 41 true (.aload_n 0) 1 (zc 42 true (.getfield 29) 3 (zc 45 true (.invokevirtual 340) 3 (zc 48 true (.aload_n 0) 1 (zc 49 true (.getfield 10) 3 (zc 52 true (.aload_n 0) 1 (zc 53 true (.getfield 29) 3 (zc 56 true (.iload_n 1) 1 (zc 57 true (.aload_n 0) 1 (zc 58 true (.getfield 29) 3 (zc 61 true (.getfield 134) 3 (zc 64 true (.invokestatic 137) 3 (zc 67 true (.istore_n 3) 1 (zc 68 true (.aload_n 0) 1 (zc 69 true (.getfield 29) 3 (zc 72 true (.getfield 125) 3 (zc 75 true (.iload_n 1) 1 (zc 76 true (.iconst 2) 1 (zc 77 true (.iastore) 1 (zc 78 true (.aload_n 0) 1 (zc 79 true (.getfield 29) 3 (zc 82 true (.dup) 1 (zc 83 true (.getfield 344) 3 (zc 86 true (.iload_n 3) 1 (zc 87 true (.iadd) 1 (zc 88 true (.putfield 344) 3 (zc 91 true (.iload_n 3) 1 (zc 92 true (.ireturn) 1 ([])))))))))))))))))))))))))))))))))))))))))))))))))))
theorem zrX10_sell_0_ok : zck 0 ((zby cX10_sell).drop 0) zrX10_sell_0 = true := by decide +kernel
def vfX10_sell : List Cond := List.cons (.code yX10_sell cX10_sell 4 (some .int)) (apW [.methodLink RX10 102 yX10_answerTrouble, .instanceMethod yX10_answerTrouble, .selects RX10 yX10_answerTrouble yX10_answerTrouble, .initialized RX10, .methodLink RX10 79 yX10_refused, .instanceMethod yX10_refused, .selects RX10 yX10_refused yX10_refused, .fieldLink RX10 36 "HookPier" "history" "LHookPier$History;", .fieldLink RX10 29 "HookPier" "now" "LHookPier$Now;", .methodLink RX10 340 yX2_keep, .instanceMethod yX2_keep, .selects RX2 yX2_keep yX2_keep, .initialized RX2, .fieldLink RX10 10 "HookPier" "plan" "LHookPier$Plan;", .fieldLink RX10 134 "HookPier$Now" "today" "I", .methodLink RX10 137 yX3_worthOn, .static yX3_worthOn, .initialized RX3, .fieldLink RX10 125 "HookPier$Now" "stage" "[I", .fieldLink RX10 344 "HookPier$Now" "soldFor" "I"] (apW wsX100 (apW wsX40 (apW vfX10_answerTrouble (apW vfX10_refused (apW vfX2_keep (vfX3_worthOn)))))))
theorem ifX10_sell_X10 : ∀ w ∈ wsX100, w ∈ vfX10_sell := fun _ h => (List.mem_cons_of_mem _ (List.mem_append_right _ (List.mem_append_left _ h)))
theorem ifX10_sell_X4 : ∀ w ∈ wsX40, w ∈ vfX10_sell := fun _ h => (List.mem_cons_of_mem _ (List.mem_append_right _ (List.mem_append_right _ (List.mem_append_left _ h))))
theorem qfX10_sell : Good vfX10_sell := gd_cons (by decide +kernel) (gd_app (gd_dec (by decide +kernel) : Good [.methodLink RX10 102 yX10_answerTrouble, .instanceMethod yX10_answerTrouble, .selects RX10 yX10_answerTrouble yX10_answerTrouble, .initialized RX10, .methodLink RX10 79 yX10_refused, .instanceMethod yX10_refused, .selects RX10 yX10_refused yX10_refused, .fieldLink RX10 36 "HookPier" "history" "LHookPier$History;", .fieldLink RX10 29 "HookPier" "now" "LHookPier$Now;", .methodLink RX10 340 yX2_keep, .instanceMethod yX2_keep, .selects RX2 yX2_keep yX2_keep, .initialized RX2, .fieldLink RX10 10 "HookPier" "plan" "LHookPier$Plan;", .fieldLink RX10 134 "HookPier$Now" "today" "I", .methodLink RX10 137 yX3_worthOn, .static yX3_worthOn, .initialized RX3, .fieldLink RX10 125 "HookPier$Now" "stage" "[I", .fieldLink RX10 344 "HookPier$Now" "soldFor" "I"]) (gd_app qsX10 (gd_app qsX4 (gd_app qfX10_answerTrouble (gd_app qfX10_refused (gd_app qfX2_keep qfX3_worthOn))))))
theorem gfX10_sell_0 : GoodIn vfX10_sell (wsV RX10 102 RX10 yX10_answerTrouble vfX10_answerTrouble) := goodIn_app (goodIn_r [.methodLink RX10 102 yX10_answerTrouble, .instanceMethod yX10_answerTrouble, .selects RX10 yX10_answerTrouble yX10_answerTrouble, .initialized RX10] [1, 2, 3, 4] rfl (by decide +kernel)) (goodIn_m (fun _ h => (List.mem_cons_of_mem _ (List.mem_append_right _ (List.mem_append_right _ (List.mem_append_right _ (List.mem_append_left _ h)))))) qfX10_answerTrouble)
theorem gfX10_sell_1 : GoodIn vfX10_sell (wsV RX10 79 RX10 yX10_refused vfX10_refused) := goodIn_app (goodIn_r [.methodLink RX10 79 yX10_refused, .instanceMethod yX10_refused, .selects RX10 yX10_refused yX10_refused, .initialized RX10] [5, 6, 7, 4] rfl (by decide +kernel)) (goodIn_m (fun _ h => (List.mem_cons_of_mem _ (List.mem_append_right _ (List.mem_append_right _ (List.mem_append_right _ (List.mem_append_right _ (List.mem_append_left _ h))))))) qfX10_refused)
theorem gfX10_sell_2 : GoodIn vfX10_sell (wsV RX10 340 RX2 yX2_keep vfX2_keep) := goodIn_app (goodIn_r [.methodLink RX10 340 yX2_keep, .instanceMethod yX2_keep, .selects RX2 yX2_keep yX2_keep, .initialized RX2] [10, 11, 12, 13] rfl (by decide +kernel)) (goodIn_m (fun _ h => (List.mem_cons_of_mem _ (List.mem_append_right _ (List.mem_append_right _ (List.mem_append_right _ (List.mem_append_right _ (List.mem_append_right _ (List.mem_append_left _ h)))))))) qfX2_keep)
theorem gfX10_sell_3 : GoodIn vfX10_sell (va_wsS RX10 137 yX3_worthOn vfX3_worthOn) := goodIn_app (goodIn_r [.methodLink RX10 137 yX3_worthOn, .static yX3_worthOn, .initialized RX3] [16, 17, 18] rfl (by decide +kernel)) (goodIn_m (fun _ h => (List.mem_cons_of_mem _ (List.mem_append_right _ (List.mem_append_right _ (List.mem_append_right _ (List.mem_append_right _ (List.mem_append_right _ (List.mem_append_right _ h)))))))) qfX3_worthOn)
set_option maxHeartbeats 2000000 in
set_option maxRecDepth 100000 in
theorem kfX10_sell (l : Launch) (dC : Nat → ClassId) (dI : Nat → Nat → Nat) (a0 : Nat) (k1 : Int32) (a2 : Nat) (a3 : Nat) (a4 : Nat) (a5 : Nat) (a6 : Nat) (un : Nat → Nat) (kn : Nat → ClassId) (up : Nat → Nat) (kp : Nat → ClassId) (un2 : Nat → Nat) (kn2 : Nat → ClassId) (x_x : TX10_x) (g14 : Value) (g15 : Value) (g16 : Value) (g17 : Value) (g18 : Value) (n_n : TX4_n) (p_p : TX6_p) (n2_n : TX4_n) (h_h : TX2_h) (g23 : Value) (cB24 : ClassId) (kf25 : Nat → Option Nat) (sz : Nat) (hk : kf25 (((h_h.1 + h_h.2.1) - (h_h.1 + h_h.2.1) / (16 : Int32) * (16 : Int32))).toNatClampNeg = some a2) (out : (Int32 × TX10_x × TX4_n × TX4_n × TX2_h)) (h : f_X10_sell k1 x_x n_n p_p n2_n h_h = some out) : KCi l yX10_sell vfX10_sell ({ frames := 4, cells := 0, slots := 0, locals := 103 }) (dC, dI) [.ref a0, .int k1] sz ((a0, .inr (7, [.ref a3, g14, g15, .ref a4, .ref a5, g16, g17, g18, .int x_x.1, .int x_x.2])) :: bX4 a2 un kn n_n (bX6 a3 up kp p_p (bX4 a4 un2 kn2 n2_n ([(a5, .inr (2, [.ref a6, g23, .int h_h.1, .int h_h.2.1, .int h_h.2.2])), (a6, .inl (cB24, 16, .inr (.inr (.inr (.inr kf25)))))])))) (tX4 kn (tX6 kp (tX4 kn2 ((cB24, .object RX4) :: [])))) (fun (r : Int32) _ => r = out.1) ((a0, .inr (7, [.ref a3, g14, g15, .ref a4, .ref a5, g16, g17, g18, .int out.2.1.1, .int out.2.1.2])) :: bX4 a2 un kn out.2.2.1 (bX6 a3 up kp p_p (bX4 a4 un2 kn2 out.2.2.2.1 ([(a5, .inr (2, [.ref a6, g23, .int out.2.2.2.2.1, .int out.2.2.2.2.2.1, .int out.2.2.2.2.2.2])), (a6, .inl (cB24, 16, .inr (.inr (.inr (.inr kf25)))))])))) 0 0 := by
  refine Met.ofW (cc := cX10_sell) (maxL := 4) (ret := (some .int)) (by decide) rfl ?_
  intro p e s m args below meth c s₁ B0 hml hv
  obtain ⟨rfl, hsz, hP, hK, hD0, hN⟩ := hv
  have hx := B0.exec
  have hb := B0.bytes
  have hr := B0.returns
  have hts := atoms_spec (ws := vfX10_sell) B0.pre
  have hown : s.vm.findClass RX10 = some m.cls := findClass_of_methodNamed B0.named
  have hlocks := B0.notSynchronized
  subst hsz
  have hD := hD0.self (sz := s.heap.size)
  generalize hAe : va_A ((a0, .inr (7, [.ref a3, g14, g15, .ref a4, .ref a5, g16, g17, g18, .int x_x.1, .int x_x.2])) :: bX4 a2 un kn n_n (bX6 a3 up kp p_p (bX4 a4 un2 kn2 n2_n ([(a5, .inr (2, [.ref a6, g23, .int h_h.1, .int h_h.2.1, .int h_h.2.2])), (a6, .inl (cB24, 16, .inr (.inr (.inr (.inr kf25)))))])))) s.heap.size = A at hD ⊢
  have hA : ∀ q : Nat, s.heap.size ≤ q → A q := fun q h => by rw [← hAe]; exact Or.inr h
  have hS : va_S A s.heap s.heap [] := va_S.rf
  have hP : va_P (dC, dI) vwCl ((a0, .inr (7, [.ref a3, g14, g15, .ref a4, .ref a5, g16, g17, g18, .int x_x.1, .int x_x.2])) :: bX4 a2 un kn n_n (bX6 a3 up kp p_p (bX4 a4 un2 kn2 n2_n ([(a5, .inr (2, [.ref a6, g23, .int h_h.1, .int h_h.2.1, .int h_h.2.2])), (a6, .inl (cB24, 16, .inr (.inr (.inr (.inr kf25)))))])))) s.heap := hP
  have hl := lv_entry ([.ref a0, .int k1]) (n := 4) (Nat.le_of_ble_eq_true rfl)
  rw [lg_entry_eq]
  generalize (lg_sl ([.ref a0, .int k1]) ++ List.replicate (4 - (lg_sl ([.ref a0, .int k1])).length) Slot.unset).toArray = ls at hl ⊢
  have hl : lv_has ls 4 [(0, .ref a0), (1, .int k1)] := hl
  refine W_q (fun QQ hQQ => ?_)
  rw [f_X10_sell] at h
  refine lv_aload_n hx hb (zat zrX10_sell_0_ok 0 rfl) rfl (lv_at hl 0 rfl) ?_
  refine lv_iload_n hx hb (zat zrX10_sell_0_ok 1 rfl) rfl (lv_at hl 1 rfl) ?_
  obtain ⟨o2, eo2⟩ : ∃ o, o = f_X10_answerTrouble k1 p_p := ⟨_, rfl⟩
  have h := nm_of h o2 eo2
  refine ck_i (wc := ((a0, .inr (7, [.ref a3, g14, g15, .ref a4, .ref a5, g16, g17, g18, .int x_x.1, .int x_x.2])) :: bX6 a3 up kp p_p [])) (wr := (bX4 a2 un kn n_n (bX4 a4 un2 kn2 n2_n ([(a5, .inr (2, [.ref a6, g23, .int h_h.1, .int h_h.2.1, .int h_h.2.2])), (a6, .inl (cB24, 16, .inr (.inr (.inr (.inr kf25)))))])))) hP hD hK hS hA [0, 6, 7, 8, 9, 10, 11, 12, 13, 14, 15] [1, 2, 3, 4, 5, 16, 17, 18, 19, 20, 21, 22] rfl rfl (by decide) (by decide) (by decide) (fun hPc hDc => (va_runV (As := [.int k1]) (rest := []) ⟨hx, hb, hml, hown, hts⟩ (kfX10_answerTrouble l dC dI a0 k1 a3 up kp (g14) (g15) (.ref a4) (.ref a5) (g16) (g17) (g18) (.int x_x.1) (.int x_x.2) p_p s.heap.size o2 eo2.symm) (cwV 1 hts gfX10_sell_0 rfl rfl rfl (by decide +kernel) ⟨(Nat.le_of_ble_eq_true rfl), (Nat.le_of_ble_eq_true rfl)⟩) (PV hPc (hK.sub (tys' := (tX6 kp ([]))) [4, 5, 6, 7, 8, 9, 10, 11, 12] rfl) hDc hN 0 rfl rfl) rfl rfl hl.1 rfl (lv_room (Nat.le_of_ble_eq_true rfl)) (zat zrX10_sell_0_ok 2 rfl) ⟨(Nat.le_of_ble_eq_true rfl), (Nat.le_of_ble_eq_true rfl)⟩)) (fun r2 _ H locs hw hP hD _ hS => ?_)
  obtain rfl := hw.symm
  obtain ⟨hP, hD⟩ := pd_mk (bX4 a2 un kn n_n (bX4 a4 un2 kn2 n2_n ((a5, .inr (2, [.ref a6, g23, .int h_h.1, .int h_h.2.1, .int h_h.2.2])) :: (a6, .inl (cB24, 16, .inr (.inr (.inr (.inr kf25))))) :: (a0, .inr (7, [.ref a3, g14, g15, .ref a4, .ref a5, g16, g17, g18, .int x_x.1, .int x_x.2])) :: bX6 a3 up kp p_p []))) hP hD
  refine lv_istore_n (lv' := [(2, .int o2), (0, .ref a0), (1, .int k1)]) hx hb (zat zrX10_sell_0_ok 3 rfl) rfl hl (by decide) rfl (fun ls hl => ?_)
  refine lv_aload_n hx hb (zat zrX10_sell_0_ok 4 rfl) rfl (lv_at hl 1 rfl) ?_
  refine lv_iload_n hx hb (zat zrX10_sell_0_ok 5 rfl) rfl (lv_at hl 0 rfl) ?_
  have J29 : ∀ (v29_t1 : Int32) (H : Heap) (locs : List Loc) (ls : Array Slot), f_X10_sell_J29 k1 x_x n_n p_p n2_n h_h v29_t1 = some out → va_P (dC, dI) vwCl (bX4 a2 un kn n_n (bX4 a4 un2 kn2 n2_n ((a5, .inr (2, [.ref a6, g23, .int h_h.1, .int h_h.2.1, .int h_h.2.2])) :: (a6, .inl (cB24, 16, .inr (.inr (.inr (.inr kf25))))) :: (a0, .inr (7, [.ref a3, g14, g15, .ref a4, .ref a5, g16, g17, g18, .int x_x.1, .int x_x.2])) :: bX6 a3 up kp p_p []))) H → va_D A (bX4 a2 un kn n_n (bX4 a4 un2 kn2 n2_n ((a5, .inr (2, [.ref a6, g23, .int h_h.1, .int h_h.2.1, .int h_h.2.2])) :: (a6, .inl (cB24, 16, .inr (.inr (.inr (.inr kf25))))) :: (a0, .inr (7, [.ref a3, g14, g15, .ref a4, .ref a5, g16, g17, g18, .int x_x.1, .int x_x.2])) :: bX6 a3 up kp p_p []))) → va_S A s.heap H locs → lv_has ls 4 [(0, .ref a0), (1, .int k1)] → W p l e (headSpec vfX10_sell { frames := 4, cells := 0, slots := 0, locals := 103 }).room s m ([.ref a0, .int k1]).toArray below meth c H locs 0 0 QQ (F0 m 29 ls [.int v29_t1, .ref a0]) := by
    intro v29_t1 H locs ls h  hP hD hS hl
    rw [f_X10_sell_J29] at h
    obtain ⟨o29, eo29⟩ : ∃ o, o = f_X10_refused v29_t1 x_x := ⟨_, rfl⟩
    have h := nm_of h o29 eo29
    refine ck_i (wc := ([(a0, .inr (7, [.ref a3, g14, g15, .ref a4, .ref a5, g16, g17, g18, .int x_x.1, .int x_x.2]))])) (wr := (bX4 a2 un kn n_n (bX4 a4 un2 kn2 n2_n ((a5, .inr (2, [.ref a6, g23, .int h_h.1, .int h_h.2.1, .int h_h.2.2])) :: (a6, .inl (cB24, 16, .inr (.inr (.inr (.inr kf25))))) :: bX6 a3 up kp p_p [])))) hP hD hK hS hA [12] [0, 1, 2, 3, 4, 5, 6, 7, 8, 9, 10, 11, 13, 14, 15, 16, 17, 18, 19, 20, 21, 22] rfl rfl (by decide) (by decide) (by decide) (fun hPc hDc => (va_runV (As := [.int v29_t1]) (rest := []) ⟨hx, hb, hml, hown, hts⟩ (kfX10_refused l dC dI a0 v29_t1 x_x (.ref a3) (g14) (g15) (.ref a4) (.ref a5) (g16) (g17) (g18) H.size o29 eo29.symm) (cwV 1 hts gfX10_sell_1 rfl rfl rfl (by decide +kernel) ⟨(Nat.le_of_ble_eq_true rfl), (Nat.le_of_ble_eq_true rfl)⟩) (PV hPc (hK.sub (tys' := ([])) [] rfl) hDc hN 0 rfl rfl) rfl rfl hl.1 rfl (lv_room (Nat.le_of_ble_eq_true rfl)) (zat zrX10_sell_0_ok 17 rfl) ⟨(Nat.le_of_ble_eq_true rfl), (Nat.le_of_ble_eq_true rfl)⟩)) (fun r29 _ H locs hw hP hD _ hS => ?_)
    obtain ⟨hw, br29⟩ := hw
    obtain rfl := hw
    obtain ⟨hP, hD⟩ := pd_mk (bX4 a2 un kn n_n (bX4 a4 un2 kn2 n2_n ((a5, .inr (2, [.ref a6, g23, .int h_h.1, .int h_h.2.1, .int h_h.2.2])) :: (a6, .inl (cB24, 16, .inr (.inr (.inr (.inr kf25))))) :: bX6 a3 up kp p_p ([(a0, .inr (7, [.ref a3, g14, g15, .ref a4, .ref a5, g16, g17, g18, .int o29.2.1, .int o29.2.2]))])))) hP hD
    refine lv_if_eq (tgt := 37) hx hb (zat zrX10_sell_0_ok 18 rfl) (by decide) (fun c32 => ?_) (fun c32 => ?_)
    · have h := (if_pos c32).symm.trans h
      refine lv_aload_n hx hb (zat zrX10_sell_0_ok 21 rfl) rfl (lv_at hl 0 rfl) ?_
      refine va_get (D := (dC, dI)) (ci := 7) (v := .ref a5) (C := RX10) (T := TX10) (N := 10) hx hb hts ifX10_sell_X10 hown hK hP 22 rfl rfl 4 (by decide) (hts (.fieldLink RX10 36 "HookPier" "history" "LHookPier$History;") (List.mem_of_getElem? (i := 8) rfl)) (fun _ h9 => h9) rfl (zat zrX10_sell_0_ok 22 rfl) ?_
      refine lv_aload_n hx hb (zat zrX10_sell_0_ok 23 rfl) rfl (lv_at hl 0 rfl) ?_
      refine va_get (D := (dC, dI)) (ci := 7) (v := .ref a4) (C := RX10) (T := TX10) (N := 10) hx hb hts ifX10_sell_X10 hown hK hP 22 rfl rfl 3 (by decide) (hts (.fieldLink RX10 29 "HookPier" "now" "LHookPier$Now;") (List.mem_of_getElem? (i := 9) rfl)) (fun _ h9 => h9) rfl (zat zrX10_sell_0_ok 24 rfl) ?_
      obtain ⟨o45, eo45, h⟩ := bd_of h
      refine ck_v (wc := ((a5, .inr (2, [.ref a6, g23, .int h_h.1, .int h_h.2.1, .int h_h.2.2])) :: bX4 a4 un2 kn2 n2_n (bX4 a2 un kn n_n ([(a6, .inl (cB24, 16, .inr (.inr (.inr (.inr kf25)))))])))) (wr := (bX6 a3 up kp p_p ([(a0, .inr (7, [.ref a3, g14, g15, .ref a4, .ref a5, g16, g17, g18, .int o29.2.1, .int o29.2.2]))]))) hP hD hK hS hA [10, 5, 6, 7, 8, 9, 0, 1, 2, 3, 4, 11] [12, 13, 14, 15, 16, 17, 18, 19, 20, 21, 22] rfl rfl (by decide) (by decide) (by decide) (fun hPc hDc => (va_runV (As := [.ref a4]) (rest := []) ⟨hx, hb, hml, hown, hts⟩ (kfX2_keep l dC dI a5 a4 a2 a6 un2 kn2 un kn h_h (g23) n2_n n_n cB24 kf25 H.size hk o45 eo45) (cwV 1 hts gfX10_sell_2 rfl rfl rfl (by decide +kernel) ⟨(Nat.le_of_ble_eq_true rfl), (Nat.le_of_ble_eq_true rfl)⟩) (PV hPc (hK.sub (tys' := (tX4 kn2 (tX4 kn ((cB24, .object RX4) :: [])))) [13, 14, 15, 16, 0, 1, 2, 3, 17] rfl) hDc hN 0 rfl rfl) rfl rfl hl.1 rfl (lv_room (Nat.le_of_ble_eq_true rfl)) (zat zrX10_sell_0_ok 25 rfl) ⟨(Nat.le_of_ble_eq_true rfl), (Nat.le_of_ble_eq_true rfl)⟩)) (fun _ H locs hw hP hD _ hS => ?_)
      obtain ⟨hP, hD⟩ := pd_mk (bX6 a3 up kp p_p ((a0, .inr (7, [.ref a3, g14, g15, .ref a4, .ref a5, g16, g17, g18, .int o29.2.1, .int o29.2.2])) :: (a5, .inr (2, [.ref a6, g23, .int o45.1.1, .int o45.1.2.1, .int o45.1.2.2])) :: bX4 a4 un2 kn2 n2_n (bX4 a2 un kn o45.2 ([(a6, .inl (cB24, 16, .inr (.inr (.inr (.inr kf25)))))])))) hP hD
      refine lv_aload_n hx hb (zat zrX10_sell_0_ok 26 rfl) rfl (lv_at hl 0 rfl) ?_
      refine va_get (D := (dC, dI)) (ci := 7) (v := .ref a3) (C := RX10) (T := TX10) (N := 10) hx hb hts ifX10_sell_X10 hown hK hP 10 rfl rfl 0 (by decide) (hts (.fieldLink RX10 10 "HookPier" "plan" "LHookPier$Plan;") (List.mem_of_getElem? (i := 14) rfl)) (fun _ h9 => h9) rfl (zat zrX10_sell_0_ok 27 rfl) ?_
      refine lv_aload_n hx hb (zat zrX10_sell_0_ok 28 rfl) rfl (lv_at hl 0 rfl) ?_
      refine va_get (D := (dC, dI)) (ci := 7) (v := .ref a4) (C := RX10) (T := TX10) (N := 10) hx hb hts ifX10_sell_X10 hown hK hP 10 rfl rfl 3 (by decide) (hts (.fieldLink RX10 29 "HookPier" "now" "LHookPier$Now;") (List.mem_of_getElem? (i := 9) rfl)) (fun _ h9 => h9) rfl (zat zrX10_sell_0_ok 29 rfl) ?_
      refine lv_iload_n hx hb (zat zrX10_sell_0_ok 30 rfl) rfl (lv_at hl 1 rfl) ?_
      refine lv_aload_n hx hb (zat zrX10_sell_0_ok 31 rfl) rfl (lv_at hl 0 rfl) ?_
      refine va_get (D := (dC, dI)) (ci := 7) (v := .ref a4) (C := RX10) (T := TX10) (N := 10) hx hb hts ifX10_sell_X10 hown hK hP 10 rfl rfl 3 (by decide) (hts (.fieldLink RX10 29 "HookPier" "now" "LHookPier$Now;") (List.mem_of_getElem? (i := 9) rfl)) (fun _ h9 => h9) rfl (zat zrX10_sell_0_ok 32 rfl) ?_
      refine va_get (D := (dC, dI)) (ci := 3) (v := .int n2_n.1) (C := RX4) (T := TX4) (N := 7) hx hb hts ifX10_sell_X4 hown hK hP 12 rfl rfl 0 (by decide) (hts (.fieldLink RX10 134 "HookPier$Now" "today" "I") (List.mem_of_getElem? (i := 15) rfl)) (fun _ h9 => h9) rfl (zat zrX10_sell_0_ok 33 rfl) ?_
      obtain ⟨o64, eo64, h⟩ := bd_of h
      refine ck_i (wc := (bX6 a3 up kp p_p (bX4 a4 un2 kn2 n2_n []))) (wr := ((a0, .inr (7, [.ref a3, g14, g15, .ref a4, .ref a5, g16, g17, g18, .int o29.2.1, .int o29.2.2])) :: (a5, .inr (2, [.ref a6, g23, .int o45.1.1, .int o45.1.2.1, .int o45.1.2.2])) :: bX4 a2 un kn o45.2 ([(a6, .inl (cB24, 16, .inr (.inr (.inr (.inr kf25)))))]))) hP hD hK hS hA [0, 1, 2, 3, 4, 5, 6, 7, 8, 9, 12, 13, 14, 15, 16] [10, 11, 17, 18, 19, 20, 21, 22] rfl rfl (by decide) (by decide) (by decide) (fun hPc hDc => (va_runS (As := [.ref a3, .ref a4, .int k1, .int n2_n.1]) (rest := []) ⟨hx, hb, hml, hown, hts⟩ (kfX3_worthOn l dC dI a3 a4 k1 n2_n.1 up kp un2 kn2 p_p n2_n H.size o64 eo64) (va_cwS 4 hts gfX10_sell_3 rfl rfl rfl (by decide +kernel) ⟨(Nat.le_of_ble_eq_true rfl), (Nat.le_of_ble_eq_true rfl)⟩) (PS hPc (hK.sub (tys' := (tX6 kp (tX4 kn2 ([])))) [4, 5, 6, 7, 8, 9, 10, 11, 12, 13, 14, 15, 16] rfl) hDc hN) rfl rfl hl.1 rfl (lv_room (Nat.le_of_ble_eq_true rfl)) (zat zrX10_sell_0_ok 34 rfl) ⟨(Nat.le_of_ble_eq_true rfl), (Nat.le_of_ble_eq_true rfl)⟩)) (fun r64 _ H locs hw hP hD _ hS => ?_)
      obtain rfl := hw.symm
      obtain ⟨hP, hD⟩ := pd_mk ((a0, .inr (7, [.ref a3, g14, g15, .ref a4, .ref a5, g16, g17, g18, .int o29.2.1, .int o29.2.2])) :: (a5, .inr (2, [.ref a6, g23, .int o45.1.1, .int o45.1.2.1, .int o45.1.2.2])) :: bX4 a2 un kn o45.2 ((a6, .inl (cB24, 16, .inr (.inr (.inr (.inr kf25))))) :: bX6 a3 up kp p_p (bX4 a4 un2 kn2 n2_n []))) hP hD
      refine lv_istore_n (lv' := [(3, .int o64), (0, .ref a0), (1, .int k1)]) hx hb (zat zrX10_sell_0_ok 35 rfl) rfl hl (by decide) rfl (fun ls hl => ?_)
      refine lv_aload_n hx hb (zat zrX10_sell_0_ok 36 rfl) rfl (lv_at hl 1 rfl) ?_
      refine va_get (D := (dC, dI)) (ci := 7) (v := .ref a4) (C := RX10) (T := TX10) (N := 10) hx hb hts ifX10_sell_X10 hown hK hP 0 rfl rfl 3 (by decide) (hts (.fieldLink RX10 29 "HookPier" "now" "LHookPier$Now;") (List.mem_of_getElem? (i := 9) rfl)) (fun _ h9 => h9) rfl (zat zrX10_sell_0_ok 37 rfl) ?_
      refine va_get (D := (dC, dI)) (ci := 3) (v := .ref (un2 0)) (C := RX4) (T := TX4) (N := 7) hx hb hts ifX10_sell_X4 hown hK hP 18 rfl rfl 3 (by decide) (hts (.fieldLink RX10 125 "HookPier$Now" "stage" "[I") (List.mem_of_getElem? (i := 19) rfl)) (fun _ h9 => h9) rfl (zat zrX10_sell_0_ok 38 rfl) ?_
      refine lv_iload_n hx hb (zat zrX10_sell_0_ok 39 rfl) rfl (lv_at hl 2 rfl) ?_
      refine lv_iconst (v := 2) hx hb (zat zrX10_sell_0_ok 40 rfl) (by decide) ?_
      obtain ⟨hg77, h⟩ := gA_of h
      refine va_iast hx hb hK hP hD hS 19 13 rfl rfl hg77 (zat zrX10_sell_0_ok 41 rfl) (fun H locs hP hD hS => ?_)
      obtain ⟨hP, hD⟩ := pd_mk ((a0, .inr (7, [.ref a3, g14, g15, .ref a4, .ref a5, g16, g17, g18, .int o29.2.1, .int o29.2.2])) :: (a5, .inr (2, [.ref a6, g23, .int o45.1.1, .int o45.1.2.1, .int o45.1.2.2])) :: bX4 a2 un kn o45.2 ((a6, .inl (cB24, 16, .inr (.inr (.inr (.inr kf25))))) :: bX6 a3 up kp p_p (bX4 a4 un2 kn2 (n2_n.1, n2_n.2.1, n2_n.2.2.1, (upd n2_n.2.2.2.1 (k1).toNatClampNeg (2 : Int32)), n2_n.2.2.2.2) []))) hP hD
      refine lv_aload_n hx hb (zat zrX10_sell_0_ok 42 rfl) rfl (lv_at hl 1 rfl) ?_
      refine va_get (D := (dC, dI)) (ci := 7) (v := .ref a4) (C := RX10) (T := TX10) (N := 10) hx hb hts ifX10_sell_X10 hown hK hP 0 rfl rfl 3 (by decide) (hts (.fieldLink RX10 29 "HookPier" "now" "LHookPier$Now;") (List.mem_of_getElem? (i := 9) rfl)) (fun _ h9 => h9) rfl (zat zrX10_sell_0_ok 43 rfl) ?_
      refine lv_dup hx hb (zat zrX10_sell_0_ok 44 rfl) rfl ?_
      refine va_get (D := (dC, dI)) (ci := 3) (v := .int n2_n.2.2.1) (C := RX4) (T := TX4) (N := 7) hx hb hts ifX10_sell_X4 hown hK hP 18 rfl rfl 2 (by decide) (hts (.fieldLink RX10 344 "HookPier$Now" "soldFor" "I") (List.mem_of_getElem? (i := 20) rfl)) (fun _ h9 => h9) rfl (zat zrX10_sell_0_ok 45 rfl) ?_
      refine lv_iload_n hx hb (zat zrX10_sell_0_ok 46 rfl) rfl (lv_at hl 0 rfl) ?_
      refine lv_iadd hx hb (zat zrX10_sell_0_ok 47 rfl) ?_
      refine va_put (D := (dC, dI)) (ci := 3) (v := .int (n2_n.2.2.1 + o64)) (ty := .int) (C := RX4) (T := TX4) (N := 7) hx hb hts ifX10_sell_X4 tyX4 tyX4_ok nmX4 hown hK hP hD hS 18 rfl rfl 2 (by decide) (hts (.fieldLink RX10 344 "HookPier$Now" "soldFor" "I") (List.mem_of_getElem? (i := 20) rfl)) (fun _ h9 => h9) rfl (by decide +kernel) rfl rfl (Nat.le_of_ble_eq_true rfl) (zat zrX10_sell_0_ok 48 rfl) (fun H locs hP hD hS => ?_)
      obtain ⟨hP, hD⟩ := pd_mk ((a0, .inr (7, [.ref a3, g14, g15, .ref a4, .ref a5, g16, g17, g18, .int o29.2.1, .int o29.2.2])) :: (a5, .inr (2, [.ref a6, g23, .int o45.1.1, .int o45.1.2.1, .int o45.1.2.2])) :: bX4 a2 un kn o45.2 ((a6, .inl (cB24, 16, .inr (.inr (.inr (.inr kf25))))) :: bX6 a3 up kp p_p (bX4 a4 un2 kn2 (n2_n.1, n2_n.2.1, (n2_n.2.2.1 + o64), (upd n2_n.2.2.2.1 (k1).toNatClampNeg (2 : Int32)), n2_n.2.2.2.2) []))) hP hD
      refine lv_iload_n hx hb (zat zrX10_sell_0_ok 49 rfl) rfl (lv_at hl 0 rfl) ?_
      obtain rfl := Option.some.inj h
      obtain ⟨hP9, hD9⟩ := pd_sub ((a0, .inr (7, [.ref a3, g14, g15, .ref a4, .ref a5, g16, g17, g18, .int o29.2.1, .int o29.2.2])) :: bX4 a2 un kn o45.2 (bX6 a3 up kp p_p (bX4 a4 un2 kn2 (n2_n.1, n2_n.2.1, (n2_n.2.2.1 + o64), (upd n2_n.2.2.2.1 (k1).toNatClampNeg (2 : Int32)), n2_n.2.2.2.2) ([(a5, .inr (2, [.ref a6, g23, .int o45.1.1, .int o45.1.2.1, .int o45.1.2.2])), (a6, .inl (cB24, 16, .inr (.inr (.inr (.inr kf25)))))])))) [0, 2, 3, 4, 5, 6, 8, 9, 10, 11, 12, 13, 14, 15, 16, 17, 18, 19, 20, 21, 22, 1, 7] hP hD (by decide) rfl
      have hK9 := hK.sub (tys' := []) [] rfl
      rw [hQQ]
      exact W.iret (v := o64) hx hb hr (fun t ht hW => ⟨⟨o64, (), rfl, rfl, by rw [ht]; exact hP9, va_K.moved hW.alike hK9, hD9⟩, hS.F ht⟩) hS.2.2 (zat zrX10_sell_0_ok 50 rfl)
    · have h := (if_neg c32).symm.trans h
      refine lv_iconst (v := (-1)) hx hb (zat zrX10_sell_0_ok 19 rfl) (by decide) ?_
      obtain rfl := Option.some.inj h
      obtain ⟨hP9, hD9⟩ := pd_sub ((a0, .inr (7, [.ref a3, g14, g15, .ref a4, .ref a5, g16, g17, g18, .int o29.2.1, .int o29.2.2])) :: bX4 a2 un kn n_n (bX6 a3 up kp p_p (bX4 a4 un2 kn2 n2_n ([(a5, .inr (2, [.ref a6, g23, .int h_h.1, .int h_h.2.1, .int h_h.2.2])), (a6, .inl (cB24, 16, .inr (.inr (.inr (.inr kf25)))))])))) [22, 0, 1, 2, 3, 4, 12, 13, 14, 15, 16, 17, 18, 19, 20, 21, 5, 6, 7, 8, 9, 10, 11] hP hD (by decide) rfl
      have hK9 := hK.sub (tys' := []) [] rfl
      rw [hQQ]
      exact W.iret (v := (-1 : Int32)) hx hb hr (fun t ht hW => ⟨⟨(-1 : Int32), (), rfl, rfl, by rw [ht]; exact hP9, va_K.moved hW.alike hK9, hD9⟩, hS.F ht⟩) hS.2.2 (zat zrX10_sell_0_ok 20 rfl)
  have J28 : ∀ (H : Heap) (locs : List Loc) (ls : Array Slot), f_X10_sell_J28 k1 x_x n_n p_p n2_n h_h o2 = some out → va_P (dC, dI) vwCl (bX4 a2 un kn n_n (bX4 a4 un2 kn2 n2_n ((a5, .inr (2, [.ref a6, g23, .int h_h.1, .int h_h.2.1, .int h_h.2.2])) :: (a6, .inl (cB24, 16, .inr (.inr (.inr (.inr kf25))))) :: (a0, .inr (7, [.ref a3, g14, g15, .ref a4, .ref a5, g16, g17, g18, .int x_x.1, .int x_x.2])) :: bX6 a3 up kp p_p []))) H → va_D A (bX4 a2 un kn n_n (bX4 a4 un2 kn2 n2_n ((a5, .inr (2, [.ref a6, g23, .int h_h.1, .int h_h.2.1, .int h_h.2.2])) :: (a6, .inl (cB24, 16, .inr (.inr (.inr (.inr kf25))))) :: (a0, .inr (7, [.ref a3, g14, g15, .ref a4, .ref a5, g16, g17, g18, .int x_x.1, .int x_x.2])) :: bX6 a3 up kp p_p []))) → va_S A s.heap H locs → lv_has ls 4 [(2, .int o2), (0, .ref a0), (1, .int k1)] → W p l e (headSpec vfX10_sell { frames := 4, cells := 0, slots := 0, locals := 103 }).room s m ([.ref a0, .int k1]).toArray below meth c H locs 0 0 QQ (F0 m 28 ls [.ref a0]) := by
    intro  H locs ls h  hP hD hS hl
    rw [f_X10_sell_J28] at h
    refine lv_iload_n hx hb (zat zrX10_sell_0_ok 16 rfl) rfl (lv_at hl 0 rfl) ?_
    exact J29 o2 H _ ls h  hP hD hS (lv_sub hl [1, 2] rfl)
  refine lv_if_ne (tgt := 28) hx hb (zat zrX10_sell_0_ok 6 rfl) (by decide) (fun c8 => ?_) (fun c8 => ?_)
  · have h := (if_neg c8).symm.trans h
    exact J28  H _ ls h  hP hD hS (lv_sub hl [0, 1, 2] rfl)
  · have h := (if_pos c8).symm.trans h
    refine lv_aload_n hx hb (zat zrX10_sell_0_ok 7 rfl) rfl (lv_at hl 1 rfl) ?_
    refine va_get (D := (dC, dI)) (ci := 7) (v := .ref a4) (C := RX10) (T := TX10) (N := 10) hx hb hts ifX10_sell_X10 hown hK hP 12 rfl rfl 3 (by decide) (hts (.fieldLink RX10 29 "HookPier" "now" "LHookPier$Now;") (List.mem_of_getElem? (i := 9) rfl)) (fun _ h9 => h9) rfl (zat zrX10_sell_0_ok 8 rfl) ?_
    refine va_get (D := (dC, dI)) (ci := 3) (v := .ref (un2 0)) (C := RX4) (T := TX4) (N := 7) hx hb hts ifX10_sell_X4 hown hK hP 5 rfl rfl 3 (by decide) (hts (.fieldLink RX10 125 "HookPier$Now" "stage" "[I") (List.mem_of_getElem? (i := 19) rfl)) (fun _ h9 => h9) rfl (zat zrX10_sell_0_ok 9 rfl) ?_
    refine lv_iload_n hx hb (zat zrX10_sell_0_ok 10 rfl) rfl (lv_at hl 2 rfl) ?_
    obtain ⟨hg19, h⟩ := gA_of h
    refine va_iald hx hb hK hP 6 13 rfl rfl hg19 (zat zrX10_sell_0_ok 11 rfl) ?_
    refine lv_iconst (v := 1) hx hb (zat zrX10_sell_0_ok 12 rfl) (by decide) ?_
    refine lv_icmp_eq (tgt := 28) hx hb (zat zrX10_sell_0_ok 13 rfl) (by decide) (fun c21 => ?_) (fun c21 => ?_)
    · have h := (if_pos c21).symm.trans h
      exact J28  H _ ls h  hP hD hS (lv_sub hl [0, 1, 2] rfl)
    · have h := (if_neg c21).symm.trans h
      refine lv_iconst (v := 5) hx hb (zat zrX10_sell_0_ok 14 rfl) (by decide) ?_
      refine lv_goto (tgt := 29) hx hb (zat zrX10_sell_0_ok 15 rfl) (by decide) ?_
      exact J29 (5 : Int32) H _ ls h  hP hD hS (lv_sub hl [1, 2] rfl)
noncomputable def zrX10_pierTrouble_0 : List ZR := zc 0 true (.aload_n 0) 1 (zc 1 true (.getfield 10) 3 (zc 4 true (.getfield 233) 3 (zc 7 true (.ifCond .ne 7) 3 (zc 10 true (.iconst 1) 1 (zc 11 true (.goto 4) 3 (zc 14 true (.iconst 0) 1 (zc 15 true (.ireturn) 1 ([]))))))))
theorem zrX10_pierTrouble_0_ok : zck 0 ((zby cX10_pierTrouble).drop 0) zrX10_pierTrouble_0 = true := by decide +kernel
def vfX10_pierTrouble : List Cond := List.cons (.code yX10_pierTrouble cX10_pierTrouble 1 (some .int)) (apW [.fieldLink RX10 10 "HookPier" "plan" "LHookPier$Plan;", .fieldLink RX10 233 "HookPier$Plan" "spots" "I"] (apW wsX100 (wsX60)))
theorem ifX10_pierTrouble_X10 : ∀ w ∈ wsX100, w ∈ vfX10_pierTrouble := fun _ h => (List.mem_cons_of_mem _ (List.mem_append_right _ (List.mem_append_left _ h)))
theorem ifX10_pierTrouble_X6 : ∀ w ∈ wsX60, w ∈ vfX10_pierTrouble := fun _ h => (List.mem_cons_of_mem _ (List.mem_append_right _ (List.mem_append_right _ h)))
theorem qfX10_pierTrouble : Good vfX10_pierTrouble := gd_cons (by decide +kernel) (gd_app (gd_dec (by decide +kernel) : Good [.fieldLink RX10 10 "HookPier" "plan" "LHookPier$Plan;", .fieldLink RX10 233 "HookPier$Plan" "spots" "I"]) (gd_app qsX10 qsX6))
set_option maxHeartbeats 2000000 in
set_option maxRecDepth 100000 in
theorem kfX10_pierTrouble (l : Launch) (dC : Nat → ClassId) (dI : Nat → Nat → Nat) (a0 : Nat) (a1 : Nat) (up : Nat → Nat) (kp : Nat → ClassId) (g4 : Value) (g5 : Value) (g6 : Value) (g7 : Value) (g8 : Value) (g9 : Value) (g10 : Value) (g11 : Value) (g12 : Value) (p_p : TX6_p) (sz : Nat) (out : Int32) (h : f_X10_pierTrouble p_p = out) : KDi l yX10_pierTrouble vfX10_pierTrouble ({ frames := 0, cells := 0, slots := 0, locals := 0 }) (dC, dI) [.ref a0] sz ((a0, .inr (7, [.ref a1, g4, g5, g6, g7, g8, g9, g10, g11, g12])) :: bX6 a1 up kp p_p []) (tX6 kp ([])) (fun (r : Int32) _ => r = out) 0 0 := by
  refine Met.ofW (cc := cX10_pierTrouble) (maxL := 1) (ret := (some .int)) (by decide) rfl ?_
  intro p e s m args below meth c s₁ B0 hml hv
  obtain ⟨rfl, hsz, hP, hK, hD0, hN⟩ := hv
  have hx := B0.exec
  have hb := B0.bytes
  have hr := B0.returns
  have hts := atoms_spec (ws := vfX10_pierTrouble) B0.pre
  have hown : s.vm.findClass RX10 = some m.cls := findClass_of_methodNamed B0.named
  have hlocks := B0.notSynchronized
  subst hsz
  have hD := hD0.self (sz := s.heap.size)
  generalize hAe : va_A ((a0, .inr (7, [.ref a1, g4, g5, g6, g7, g8, g9, g10, g11, g12])) :: bX6 a1 up kp p_p []) s.heap.size = A at hD ⊢
  have hA : ∀ q : Nat, s.heap.size ≤ q → A q := fun q h => by rw [← hAe]; exact Or.inr h
  have hS : va_S A s.heap s.heap [] := va_S.rf
  have hP : va_P (dC, dI) vwCl ((a0, .inr (7, [.ref a1, g4, g5, g6, g7, g8, g9, g10, g11, g12])) :: bX6 a1 up kp p_p []) s.heap := hP
  have hl := lv_entry ([.ref a0]) (n := 1) (Nat.le_of_ble_eq_true rfl)
  rw [lg_entry_eq]
  generalize (lg_sl ([.ref a0]) ++ List.replicate (1 - (lg_sl ([.ref a0])).length) Slot.unset).toArray = ls at hl ⊢
  have hl : lv_has ls 1 [(0, .ref a0)] := hl
  refine W_q (fun QQ hQQ => ?_)
  rw [f_X10_pierTrouble] at h
  refine lv_aload_n hx hb (zat zrX10_pierTrouble_0_ok 0 rfl) rfl (lv_at hl 0 rfl) ?_
  refine va_get (D := (dC, dI)) (ci := 7) (v := .ref a1) (C := RX10) (T := TX10) (N := 10) hx hb hts ifX10_pierTrouble_X10 hown hK hP 0 rfl rfl 0 (by decide) (hts (.fieldLink RX10 10 "HookPier" "plan" "LHookPier$Plan;") (List.mem_of_getElem? (i := 1) rfl)) (fun _ h9 => h9) rfl (zat zrX10_pierTrouble_0_ok 1 rfl) ?_
  refine va_get (D := (dC, dI)) (ci := 4) (v := .int p_p.1) (C := RX6) (T := TX6) (N := 18) hx hb hts ifX10_pierTrouble_X6 hown hK hP 1 rfl rfl 0 (by decide) (hts (.fieldLink RX10 233 "HookPier$Plan" "spots" "I") (List.mem_of_getElem? (i := 2) rfl)) (fun _ h9 => h9) rfl (zat zrX10_pierTrouble_0_ok 2 rfl) ?_
  refine lv_if_ne (tgt := 14) hx hb (zat zrX10_pierTrouble_0_ok 3 rfl) (by decide) (fun c7 => ?_) (fun c7 => ?_)
  · have h := (if_neg c7).symm.trans h
    refine lv_iconst (v := 0) hx hb (zat zrX10_pierTrouble_0_ok 6 rfl) (by decide) ?_
    obtain rfl := h
    obtain ⟨hP9, hD9⟩ := pd_sub ((a0, .inr (7, [.ref a1, g4, g5, g6, g7, g8, g9, g10, g11, g12])) :: bX6 a1 up kp p_p []) [0, 1, 2, 3, 4, 5, 6, 7, 8, 9, 10] hP hD (by decide) rfl
    have hK9 := hK.sub (tys' := []) [] rfl
    rw [hQQ]
    exact W.iret (v := (0 : Int32)) hx hb hr (fun t ht hW => ⟨⟨(0 : Int32), (), rfl, rfl, by rw [ht]; exact hP9, va_K.moved hW.alike hK9, hD9⟩, hS.F ht⟩) hS.2.2 (zat zrX10_pierTrouble_0_ok 7 rfl)
  · have h := (if_pos c7).symm.trans h
    refine lv_iconst (v := 1) hx hb (zat zrX10_pierTrouble_0_ok 4 rfl) (by decide) ?_
    refine lv_goto (tgt := 15) hx hb (zat zrX10_pierTrouble_0_ok 5 rfl) (by decide) ?_
    obtain rfl := h
    obtain ⟨hP9, hD9⟩ := pd_sub ((a0, .inr (7, [.ref a1, g4, g5, g6, g7, g8, g9, g10, g11, g12])) :: bX6 a1 up kp p_p []) [0, 1, 2, 3, 4, 5, 6, 7, 8, 9, 10] hP hD (by decide) rfl
    have hK9 := hK.sub (tys' := []) [] rfl
    rw [hQQ]
    exact W.iret (v := (1 : Int32)) hx hb hr (fun t ht hW => ⟨⟨(1 : Int32), (), rfl, rfl, by rw [ht]; exact hP9, va_K.moved hW.alike hK9, hD9⟩, hS.F ht⟩) hS.2.2 (zat zrX10_pierTrouble_0_ok 7 rfl)
noncomputable def zrX10_spotOf_0 : List ZR := zc 0 true (.iload_n 0) 1 (zc 1 true (.bipush 100) 2 (zc 3 true (.idiv) 1 (zc 4 true (.ireturn) 1 ([]))))
theorem zrX10_spotOf_0_ok : zck 0 ((zby cX10_spotOf).drop 0) zrX10_spotOf_0 = true := by decide +kernel
def vfX10_spotOf : List Cond := .code yX10_spotOf cX10_spotOf 1 (some .int) :: ([])
theorem qfX10_spotOf : Good vfX10_spotOf := gd_cons (by decide +kernel) (gd_dec (by decide +kernel) : Good [])
set_option maxHeartbeats 2000000 in
set_option maxRecDepth 100000 in
theorem kfX10_spotOf (l : Launch) (dC : Nat → ClassId) (dI : Nat → Nat → Nat) (k0 : Int32) (sz : Nat) (out : Int32) (h : f_X10_spotOf k0 = out) : KDi l yX10_spotOf vfX10_spotOf ({ frames := 0, cells := 0, slots := 0, locals := 0 }) (dC, dI) [.int k0] sz [] ([]) (fun (r : Int32) _ => r = out) 0 0 := by
  refine Met.ofW (cc := cX10_spotOf) (maxL := 1) (ret := (some .int)) (by decide) rfl ?_
  intro p e s m args below meth c s₁ B0 hml hv
  obtain ⟨rfl, hsz, hP, hK, hD0, hN⟩ := hv
  have hx := B0.exec
  have hb := B0.bytes
  have hr := B0.returns
  have hts := atoms_spec (ws := vfX10_spotOf) B0.pre
  have hown : s.vm.findClass RX10 = some m.cls := findClass_of_methodNamed B0.named
  have hlocks := B0.notSynchronized
  subst hsz
  have hD := hD0.self (sz := s.heap.size)
  generalize hAe : va_A [] s.heap.size = A at hD ⊢
  have hA : ∀ q : Nat, s.heap.size ≤ q → A q := fun q h => by rw [← hAe]; exact Or.inr h
  have hS : va_S A s.heap s.heap [] := va_S.rf
  have hP : va_P (dC, dI) vwCl [] s.heap := hP
  have hl := lv_entry ([.int k0]) (n := 1) (Nat.le_of_ble_eq_true rfl)
  rw [lg_entry_eq]
  generalize (lg_sl ([.int k0]) ++ List.replicate (1 - (lg_sl ([.int k0])).length) Slot.unset).toArray = ls at hl ⊢
  have hl : lv_has ls 1 [(0, .int k0)] := hl
  refine W_q (fun QQ hQQ => ?_)
  rw [f_X10_spotOf] at h
  refine lv_iload_n hx hb (zat zrX10_spotOf_0_ok 0 rfl) rfl (lv_at hl 0 rfl) ?_
  refine lv_bipush (v := 100) hx hb (zat zrX10_spotOf_0_ok 1 rfl) (by decide) ?_
  refine lv_idiv hx hb (zat zrX10_spotOf_0_ok 2 rfl) (by decide) ?_
  obtain rfl := h
  obtain ⟨hP9, hD9⟩ := pd_sub [] [] hP hD (by decide) rfl
  have hK9 := hK.sub (tys' := []) [] rfl
  rw [hQQ]
  exact W.iret (v := (k0 / (100 : Int32))) hx hb hr (fun t ht hW => ⟨⟨(k0 / (100 : Int32)), (), rfl, rfl, by rw [ht]; exact hP9, va_K.moved hW.alike hK9, hD9⟩, hS.F ht⟩) hS.2.2 (zat zrX10_spotOf_0_ok 3 rfl)
noncomputable def zrX6_isTangle_0 : List ZR := zc 0 true (.iload_n 2) 1 (zc 1 true (.iload 4) 2 (zc 3 true (.isub) 1 (zc 4 true (.invokestatic 89) 3 (zc 7 true (.aload_n 0) 1 (zc 8 true (.getfield 39) 3 (zc 11 true (.iload_n 1) 1 (zc 12 true (.iaload) 1 (zc 13 true (.aload_n 0) 1 (zc 14 true (.getfield 39) 3 (zc 17 true (.iload_n 3) 1 (zc 18 true (.iaload) 1 (zc 19 true (.iadd) 1 (zc 20 true (.if_icmp .gt 7) 3 (zc 23 true (.iconst 1) 1 (zc 24 true (.goto 4) 3 (zc 27 true (.iconst 0) 1 (zc 28 true (.ireturn) 1 ([]))))))))))))))))))
theorem zrX6_isTangle_0_ok : zck 0 ((zby cX6_isTangle).drop 0) zrX6_isTangle_0 = true := by decide +kernel
def vfX6_isTangle : List Cond := List.cons (.code yX6_isTangle cX6_isTangle 5 (some .boolean)) (apW [.methodLink RX6 89 Lib.Math.abs.name, .static Lib.Math.abs.name, .initialized "java/lang/Math", .code Lib.Math.abs.name Lib.Math.abs.code 1 (some .int), .fieldLink RX6 39 "HookPier$Plan" "reach" "[I"] (wsX60))
theorem ifX6_isTangle_X6 : ∀ w ∈ wsX60, w ∈ vfX6_isTangle := fun _ h => (List.mem_cons_of_mem _ (List.mem_append_right _ h))
theorem qfX6_isTangle : Good vfX6_isTangle := gd_cons (by decide +kernel) (gd_app (gd_dec (by decide +kernel) : Good [.methodLink RX6 89 Lib.Math.abs.name, .static Lib.Math.abs.name, .initialized "java/lang/Math", .code Lib.Math.abs.name Lib.Math.abs.code 1 (some .int), .fieldLink RX6 39 "HookPier$Plan" "reach" "[I"]) qsX6)
set_option maxHeartbeats 2000000 in
set_option maxRecDepth 100000 in
theorem kfX6_isTangle (l : Launch) (dC : Nat → ClassId) (dI : Nat → Nat → Nat) (a0 : Nat) (k1 : Int32) (k2 : Int32) (k3 : Int32) (k4 : Int32) (up : Nat → Nat) (kp : Nat → ClassId) (p_p : TX6_p) (sz : Nat) (out : Int32) (h : f_X6_isTangle k1 k2 k3 k4 p_p = some out) : KDi l yX6_isTangle vfX6_isTangle ({ frames := 1, cells := 0, slots := 0, locals := 21 }) (dC, dI) [.ref a0, .int k1, .int k2, .int k3, .int k4] sz (bX6 a0 up kp p_p []) (tX6 kp ([])) (fun (r : Int32) _ => r = out ∧ (0 ≤ r.toInt ∧ r.toInt ≤ 1)) 0 0 := by
  refine Met.ofW (cc := cX6_isTangle) (maxL := 5) (ret := (some .boolean)) (by decide) rfl ?_
  intro p e s m args below meth c s₁ B0 hml hv
  obtain ⟨rfl, hsz, hP, hK, hD0, hN⟩ := hv
  have hx := B0.exec
  have hb := B0.bytes
  have hr := B0.returns
  have hts := atoms_spec (ws := vfX6_isTangle) B0.pre
  have hown : s.vm.findClass RX6 = some m.cls := findClass_of_methodNamed B0.named
  have hlocks := B0.notSynchronized
  subst hsz
  have hD := hD0.self (sz := s.heap.size)
  generalize hAe : va_A (bX6 a0 up kp p_p []) s.heap.size = A at hD ⊢
  have hA : ∀ q : Nat, s.heap.size ≤ q → A q := fun q h => by rw [← hAe]; exact Or.inr h
  have hS : va_S A s.heap s.heap [] := va_S.rf
  have hP : va_P (dC, dI) vwCl (bX6 a0 up kp p_p []) s.heap := hP
  have hl := lv_entry ([.ref a0, .int k1, .int k2, .int k3, .int k4]) (n := 5) (Nat.le_of_ble_eq_true rfl)
  rw [lg_entry_eq]
  generalize (lg_sl ([.ref a0, .int k1, .int k2, .int k3, .int k4]) ++ List.replicate (5 - (lg_sl ([.ref a0, .int k1, .int k2, .int k3, .int k4])).length) Slot.unset).toArray = ls at hl ⊢
  have hl : lv_has ls 5 [(0, .ref a0), (1, .int k1), (2, .int k2), (3, .int k3), (4, .int k4)] := hl
  refine W_q (fun QQ hQQ => ?_)
  rw [f_X6_isTangle] at h
  refine lv_iload_n hx hb (zat zrX6_isTangle_0_ok 0 rfl) rfl (lv_at hl 2 rfl) ?_
  refine lv_iload hx hb (zat zrX6_isTangle_0_ok 1 rfl) (lv_at hl 4 rfl) ?_
  refine lv_isub hx hb (zat zrX6_isTangle_0_ok 2 rfl) ?_
  refine va_mabs hx hb (by rw [hml]; exact hl.1.symm) hown (hts (.methodLink RX6 89 Lib.Math.abs.name) (List.mem_of_getElem? (i := 1) rfl)) (hts (.static Lib.Math.abs.name) (List.mem_of_getElem? (i := 2) rfl)) (hts (.initialized "java/lang/Math") (List.mem_of_getElem? (i := 3) rfl)) (hts (.code Lib.Math.abs.name Lib.Math.abs.code 1 (some .int)) (List.mem_of_getElem? (i := 4) rfl)) (Nat.le_of_ble_eq_true rfl) (Nat.le_of_ble_eq_true rfl) (Nat.le_of_ble_eq_true rfl) (Nat.le_of_ble_eq_true rfl) (zat zrX6_isTangle_0_ok 3 rfl) ?_
  refine lv_topi (fun z4 ez4 => ?_)
  have h := nm_of h z4 ez4
  refine lv_aload_n hx hb (zat zrX6_isTangle_0_ok 4 rfl) rfl (lv_at hl 0 rfl) ?_
  refine va_get (D := (dC, dI)) (ci := 4) (v := .ref (up 0)) (C := RX6) (T := TX6) (N := 18) hx hb hts ifX6_isTangle_X6 hown hK hP 0 rfl rfl 9 (by decide) (hts (.fieldLink RX6 39 "HookPier$Plan" "reach" "[I") (List.mem_of_getElem? (i := 5) rfl)) (fun _ h9 => h9) rfl (zat zrX6_isTangle_0_ok 5 rfl) ?_
  refine lv_iload_n hx hb (zat zrX6_isTangle_0_ok 6 rfl) rfl (lv_at hl 1 rfl) ?_
  obtain ⟨hg12, h⟩ := gA_of h
  refine va_iald hx hb hK hP 1 0 rfl rfl hg12 (zat zrX6_isTangle_0_ok 7 rfl) ?_
  refine lv_aload_n hx hb (zat zrX6_isTangle_0_ok 8 rfl) rfl (lv_at hl 0 rfl) ?_
  refine va_get (D := (dC, dI)) (ci := 4) (v := .ref (up 0)) (C := RX6) (T := TX6) (N := 18) hx hb hts ifX6_isTangle_X6 hown hK hP 0 rfl rfl 9 (by decide) (hts (.fieldLink RX6 39 "HookPier$Plan" "reach" "[I") (List.mem_of_getElem? (i := 5) rfl)) (fun _ h9 => h9) rfl (zat zrX6_isTangle_0_ok 9 rfl) ?_
  refine lv_iload_n hx hb (zat zrX6_isTangle_0_ok 10 rfl) rfl (lv_at hl 3 rfl) ?_
  obtain ⟨hg18, h⟩ := gA_of h
  refine va_iald hx hb hK hP 1 0 rfl rfl hg18 (zat zrX6_isTangle_0_ok 11 rfl) ?_
  refine lv_iadd hx hb (zat zrX6_isTangle_0_ok 12 rfl) ?_
  refine lv_topi (fun z19 ez19 => ?_)
  have h := nm_of h z19 ez19
  refine lv_icmp_gt (tgt := 27) hx hb (zat zrX6_isTangle_0_ok 13 rfl) (by decide) (fun c20 => ?_) (fun c20 => ?_)
  · have h := (if_pos c20).symm.trans h
    refine lv_iconst (v := 0) hx hb (zat zrX6_isTangle_0_ok 16 rfl) (by decide) ?_
    obtain rfl := Option.some.inj h
    obtain ⟨hP9, hD9⟩ := pd_sub (bX6 a0 up kp p_p []) [0, 1, 2, 3, 4, 5, 6, 7, 8, 9] hP hD (by decide) rfl
    have hK9 := hK.sub (tys' := []) [] rfl
    rw [hQQ]
    exact W.zret (v := (0 : Int32)) hx hb hr rfl (fun t ht hW => ⟨⟨(0 : Int32), (), rfl, ⟨rfl, (by decide)⟩, by rw [ht]; exact hP9, va_K.moved hW.alike hK9, hD9⟩, hS.F ht⟩) hS.2.2 (zat zrX6_isTangle_0_ok 17 rfl)
  · have h := (if_neg c20).symm.trans h
    refine lv_iconst (v := 1) hx hb (zat zrX6_isTangle_0_ok 14 rfl) (by decide) ?_
    refine lv_goto (tgt := 28) hx hb (zat zrX6_isTangle_0_ok 15 rfl) (by decide) ?_
    obtain rfl := Option.some.inj h
    obtain ⟨hP9, hD9⟩ := pd_sub (bX6 a0 up kp p_p []) [0, 1, 2, 3, 4, 5, 6, 7, 8, 9] hP hD (by decide) rfl
    have hK9 := hK.sub (tys' := []) [] rfl
    rw [hQQ]
    exact W.zret (v := (1 : Int32)) hx hb hr rfl (fun t ht hW => ⟨⟨(1 : Int32), (), rfl, ⟨rfl, (by decide)⟩, by rw [ht]; exact hP9, va_K.moved hW.alike hK9, hD9⟩, hS.F ht⟩) hS.2.2 (zat zrX6_isTangle_0_ok 17 rfl)
noncomputable def zrX4_isTangled_0 : List ZR := zc 0 true (.iconst 0) 1 (zc 1 true (.istore 4) 2 (zc 3 true (.iload 4) 2 (zc 5 true (.aload_n 1) 1 (zc 6 true (.getfield 44) 3 (zc 9 true (.if_icmp .ge 49) 3 (zc 12 true (.iload 4) 2 (zc 14 true (.iload_n 2) 1 (zc 15 true (.if_icmp .eq 37) 3 (zc 18 true (.aload_n 0) 1 (zc 19 true (.getfield 31) 3 (zc 22 true (.iload 4) 2 (zc 24 true (.iaload) 1 (zc 25 true (.iconst (-1)) 1 (zc 26 true (.if_icmp .eq 26) 3 (zc 29 true (.aload_n 1) 1 (zc 30 true (.iload_n 2) 1 (zc 31 true (.iload_n 3) 1 (zc 32 true (.iload 4) 2 (zc 34 true (.aload_n 0) 1 (zc 35 true (.getfield 31) 3 (zc 38 true (.iload 4) 2 (zc 40 true (.iaload) 1 (zc 41 true (.invokestatic 49) 3 (zc 44 true (.invokevirtual 53) 3 (zc 47 true (.ifCond .eq 5) 3 (zc 50 true (.iconst 1) 1 (zc 51 true (.ireturn) 1 (zc 52 true (.iinc 4 1) 3 (zc 55 true (.goto (-52)) 3 (zc 58 true (.iconst 0) 1 (zc 59 true (.ireturn) 1 ([]))))))))))))))))))))))))))))))))
theorem zrX4_isTangled_0_ok : zck 0 ((zby cX4_isTangled).drop 0) zrX4_isTangled_0 = true := by decide +kernel
def vfX4_isTangled : List Cond := List.cons (.code yX4_isTangled cX4_isTangled 5 (some .boolean)) (apW [.fieldLink RX4 44 "HookPier$Plan" "askers" "I", .fieldLink RX4 31 "HookPier$Now" "line" "[I", .initialized RX10, .static yX10_spotOf, .methodLink RX4 53 yX6_isTangle, .instanceMethod yX6_isTangle, .selects RX6 yX6_isTangle yX6_isTangle, .initialized RX6] (apW wsX60 (apW wsX40 (apW vfX10_spotOf (vfX6_isTangle)))))
theorem ifX4_isTangled_X6 : ∀ w ∈ wsX60, w ∈ vfX4_isTangled := fun _ h => (List.mem_cons_of_mem _ (List.mem_append_right _ (List.mem_append_left _ h)))
theorem ifX4_isTangled_X4 : ∀ w ∈ wsX40, w ∈ vfX4_isTangled := fun _ h => (List.mem_cons_of_mem _ (List.mem_append_right _ (List.mem_append_right _ (List.mem_append_left _ h))))
theorem qfX4_isTangled : Good vfX4_isTangled := gd_cons (by decide +kernel) (gd_app (gd_dec (by decide +kernel) : Good [.fieldLink RX4 44 "HookPier$Plan" "askers" "I", .fieldLink RX4 31 "HookPier$Now" "line" "[I", .initialized RX10, .static yX10_spotOf, .methodLink RX4 53 yX6_isTangle, .instanceMethod yX6_isTangle, .selects RX6 yX6_isTangle yX6_isTangle, .initialized RX6]) (gd_app qsX6 (gd_app qsX4 (gd_app qfX10_spotOf qfX6_isTangle))))
theorem gfX4_isTangled_0 : GoodIn vfX4_isTangled vfX10_spotOf := (goodIn_m (fun _ h => (List.mem_cons_of_mem _ (List.mem_append_right _ (List.mem_append_right _ (List.mem_append_right _ (List.mem_append_left _ h)))))) qfX10_spotOf)
theorem gfX4_isTangled_1 : GoodIn vfX4_isTangled (wsV RX4 53 RX6 yX6_isTangle vfX6_isTangle) := goodIn_app (goodIn_r [.methodLink RX4 53 yX6_isTangle, .instanceMethod yX6_isTangle, .selects RX6 yX6_isTangle yX6_isTangle, .initialized RX6] [5, 6, 7, 8] rfl (by decide +kernel)) (goodIn_m (fun _ h => (List.mem_cons_of_mem _ (List.mem_append_right _ (List.mem_append_right _ (List.mem_append_right _ (List.mem_append_right _ h)))))) qfX6_isTangle)
set_option maxHeartbeats 2000000 in
set_option maxRecDepth 100000 in
theorem kfX4_isTangled (l : Launch) (dC : Nat → ClassId) (dI : Nat → Nat → Nat) (a0 : Nat) (a1 : Nat) (k2 : Int32) (k3 : Int32) (un : Nat → Nat) (kn : Nat → ClassId) (up : Nat → Nat) (kp : Nat → ClassId) (n_n : TX4_n) (p_p : TX6_p) (sz : Nat) (out : Int32) (h : f_X4_isTangled k2 k3 n_n p_p = some out) : KDi l yX4_isTangled vfX4_isTangled ({ frames := 2, cells := 0, slots := 0, locals := 45 }) (dC, dI) [.ref a0, .ref a1, .int k2, .int k3] sz (bX4 a0 un kn n_n (bX6 a1 up kp p_p [])) (tX4 kn (tX6 kp ([]))) (fun (r : Int32) _ => r = out ∧ (0 ≤ r.toInt ∧ r.toInt ≤ 1)) 0 0 := by
  refine Met.ofW (cc := cX4_isTangled) (maxL := 5) (ret := (some .boolean)) (by decide) rfl ?_
  intro p e s m args below meth c s₁ B0 hml hv
  obtain ⟨rfl, hsz, hP, hK, hD0, hN⟩ := hv
  have hx := B0.exec
  have hb := B0.bytes
  have hr := B0.returns
  have hts := atoms_spec (ws := vfX4_isTangled) B0.pre
  have hown : s.vm.findClass RX4 = some m.cls := findClass_of_methodNamed B0.named
  have hlocks := B0.notSynchronized
  subst hsz
  have hD := hD0.self (sz := s.heap.size)
  generalize hAe : va_A (bX4 a0 un kn n_n (bX6 a1 up kp p_p [])) s.heap.size = A at hD ⊢
  have hA : ∀ q : Nat, s.heap.size ≤ q → A q := fun q h => by rw [← hAe]; exact Or.inr h
  have hS : va_S A s.heap s.heap [] := va_S.rf
  have hP : va_P (dC, dI) vwCl (bX4 a0 un kn n_n (bX6 a1 up kp p_p [])) s.heap := hP
  have hl := lv_entry ([.ref a0, .ref a1, .int k2, .int k3]) (n := 5) (Nat.le_of_ble_eq_true rfl)
  rw [lg_entry_eq]
  generalize (lg_sl ([.ref a0, .ref a1, .int k2, .int k3]) ++ List.replicate (5 - (lg_sl ([.ref a0, .ref a1, .int k2, .int k3])).length) Slot.unset).toArray = ls at hl ⊢
  have hl : lv_has ls 5 [(0, .ref a0), (1, .ref a1), (2, .int k2), (3, .int k3)] := hl
  refine W_q (fun QQ hQQ => ?_)
  rw [f_X4_isTangled] at h
  refine lv_iconst (v := 0) hx hb (zat zrX4_isTangled_0_ok 0 rfl) (by decide) ?_
  refine lv_istore (lv' := [(4, .int 0), (0, .ref a0), (1, .ref a1), (2, .int k2), (3, .int k3)]) hx hb (zat zrX4_isTangled_0_ok 1 rfl) hl (by decide) rfl (fun ls hl => ?_)
  have L3 : ∀ (n3 : Nat) (v3_l4 : Int32) (H : Heap) (locs : List Loc) (ls : Array Slot), f_X4_isTangled_L3 k2 k3 n_n p_p n3 v3_l4 = some out → va_P (dC, dI) vwCl (bX4 a0 un kn n_n (bX6 a1 up kp p_p [])) H → va_D A (bX4 a0 un kn n_n (bX6 a1 up kp p_p [])) → va_S A s.heap H locs → lv_has ls 5 [(4, .int v3_l4), (0, .ref a0), (1, .ref a1), (2, .int k2), (3, .int k3)] → W p l e (headSpec vfX4_isTangled { frames := 2, cells := 0, slots := 0, locals := 45 }).room s m ([.ref a0, .ref a1, .int k2, .int k3]).toArray below meth c H locs 0 0 QQ (F0 m 3 ls []) := by
    intro n3
    induction n3 with
    | zero =>
      intro v3_l4 H locs ls h  _ _ _ _
      rw [f_X4_isTangled_L3] at h
      cases h
    | succ n3 ih3 =>
      intro v3_l4 H locs ls h  hP hD hS hl
      rw [f_X4_isTangled_L3] at h
      refine lv_iload hx hb (zat zrX4_isTangled_0_ok 2 rfl) (lv_at hl 0 rfl) ?_
      refine lv_aload_n hx hb (zat zrX4_isTangled_0_ok 3 rfl) rfl (lv_at hl 2 rfl) ?_
      refine va_get (D := (dC, dI)) (ci := 4) (v := .int p_p.2.2.2.2.2.1) (C := RX6) (T := TX6) (N := 18) hx hb hts ifX4_isTangled_X6 hown hK hP 5 rfl rfl 5 (by decide) (hts (.fieldLink RX4 44 "HookPier$Plan" "askers" "I") (List.mem_of_getElem? (i := 1) rfl)) (fun _ h9 => h9) rfl (zat zrX4_isTangled_0_ok 4 rfl) ?_
      refine lv_icmp_ge (tgt := 58) hx hb (zat zrX4_isTangled_0_ok 5 rfl) (by decide) (fun c9 => ?_) (fun c9 => ?_)
      · have h := (if_pos c9).symm.trans h
        refine lv_iconst (v := 0) hx hb (zat zrX4_isTangled_0_ok 30 rfl) (by decide) ?_
        obtain rfl := Option.some.inj h
        obtain ⟨hP9, hD9⟩ := pd_sub (bX4 a0 un kn n_n (bX6 a1 up kp p_p [])) [0, 1, 2, 3, 4, 5, 6, 7, 8, 9, 10, 11, 12, 13, 14] hP hD (by decide) rfl
        have hK9 := hK.sub (tys' := []) [] rfl
        rw [hQQ]
        exact W.zret (v := (0 : Int32)) hx hb hr rfl (fun t ht hW => ⟨⟨(0 : Int32), (), rfl, ⟨rfl, (by decide)⟩, by rw [ht]; exact hP9, va_K.moved hW.alike hK9, hD9⟩, hS.F ht⟩) hS.2.2 (zat zrX4_isTangled_0_ok 31 rfl)
      · have h := (if_neg c9).symm.trans h
        refine lv_iload hx hb (zat zrX4_isTangled_0_ok 6 rfl) (lv_at hl 0 rfl) ?_
        refine lv_iload_n hx hb (zat zrX4_isTangled_0_ok 7 rfl) rfl (lv_at hl 3 rfl) ?_
        have J52 : ∀ (H : Heap) (locs : List Loc) (ls : Array Slot), f_X4_isTangled_J52 (f_X4_isTangled_L3 k2 k3 n_n p_p n3) v3_l4 = some out → va_P (dC, dI) vwCl (bX4 a0 un kn n_n (bX6 a1 up kp p_p [])) H → va_D A (bX4 a0 un kn n_n (bX6 a1 up kp p_p [])) → va_S A s.heap H locs → lv_has ls 5 [(4, .int v3_l4), (0, .ref a0), (1, .ref a1), (2, .int k2), (3, .int k3)] → W p l e (headSpec vfX4_isTangled { frames := 2, cells := 0, slots := 0, locals := 45 }).room s m ([.ref a0, .ref a1, .int k2, .int k3]).toArray below meth c H locs 0 0 QQ (F0 m 52 ls []) := by
          intro  H locs ls h  hP hD hS hl
          rw [f_X4_isTangled_J52] at h
          refine lv_iinc (v := (v3_l4 + (1 : Int32))) (lv' := [(4, .int (v3_l4 + (1 : Int32))), (0, .ref a0), (1, .ref a1), (2, .int k2), (3, .int k3)]) hx hb (zat zrX4_isTangled_0_ok 28 rfl) hl (k := 0) rfl rfl (by decide) rfl (fun ls hl => ?_)
          refine lv_goto (tgt := 3) hx hb (zat zrX4_isTangled_0_ok 29 rfl) (by decide) ?_
          exact ih3 (v3_l4 + (1 : Int32)) H _ ls h  hP hD hS (lv_sub hl [0, 1, 2, 3, 4] rfl)
        refine lv_icmp_eq (tgt := 52) hx hb (zat zrX4_isTangled_0_ok 8 rfl) (by decide) (fun c15 => ?_) (fun c15 => ?_)
        · have h := (if_pos c15).symm.trans h
          exact J52  H _ ls h  hP hD hS (lv_sub hl [0, 1, 2, 3, 4] rfl)
        · have h := (if_neg c15).symm.trans h
          refine lv_aload_n hx hb (zat zrX4_isTangled_0_ok 9 rfl) rfl (lv_at hl 1 rfl) ?_
          refine va_get (D := (dC, dI)) (ci := 3) (v := .ref (un 3)) (C := RX4) (T := TX4) (N := 7) hx hb hts ifX4_isTangled_X4 hown hK hP 0 rfl rfl 6 (by decide) (hts (.fieldLink RX4 31 "HookPier$Now" "line" "[I") (List.mem_of_getElem? (i := 2) rfl)) (fun _ h9 => h9) rfl (zat zrX4_isTangled_0_ok 10 rfl) ?_
          refine lv_iload hx hb (zat zrX4_isTangled_0_ok 11 rfl) (lv_at hl 0 rfl) ?_
          obtain ⟨hg24, h⟩ := gA_of h
          refine va_iald hx hb hK hP 4 3 rfl rfl hg24 (zat zrX4_isTangled_0_ok 12 rfl) ?_
          refine lv_iconst (v := (-1)) hx hb (zat zrX4_isTangled_0_ok 13 rfl) (by decide) ?_
          refine lv_icmp_eq (tgt := 52) hx hb (zat zrX4_isTangled_0_ok 14 rfl) (by decide) (fun c26 => ?_) (fun c26 => ?_)
          · have h := (if_pos c26).symm.trans h
            exact J52  H _ ls h  hP hD hS (lv_sub hl [0, 1, 2, 3, 4] rfl)
          · have h := (if_neg c26).symm.trans h
            refine lv_aload_n hx hb (zat zrX4_isTangled_0_ok 15 rfl) rfl (lv_at hl 2 rfl) ?_
            refine lv_iload_n hx hb (zat zrX4_isTangled_0_ok 16 rfl) rfl (lv_at hl 3 rfl) ?_
            refine lv_iload_n hx hb (zat zrX4_isTangled_0_ok 17 rfl) rfl (lv_at hl 4 rfl) ?_
            refine lv_iload hx hb (zat zrX4_isTangled_0_ok 18 rfl) (lv_at hl 0 rfl) ?_
            refine lv_aload_n hx hb (zat zrX4_isTangled_0_ok 19 rfl) rfl (lv_at hl 1 rfl) ?_
            refine va_get (D := (dC, dI)) (ci := 3) (v := .ref (un 3)) (C := RX4) (T := TX4) (N := 7) hx hb hts ifX4_isTangled_X4 hown hK hP 0 rfl rfl 6 (by decide) (hts (.fieldLink RX4 31 "HookPier$Now" "line" "[I") (List.mem_of_getElem? (i := 2) rfl)) (fun _ h9 => h9) rfl (zat zrX4_isTangled_0_ok 20 rfl) ?_
            refine lv_iload hx hb (zat zrX4_isTangled_0_ok 21 rfl) (lv_at hl 0 rfl) ?_
            obtain ⟨hg40, h⟩ := gA_of h
            refine va_iald hx hb hK hP 4 3 rfl rfl hg40 (zat zrX4_isTangled_0_ok 22 rfl) ?_
            obtain ⟨o41, eo41⟩ : ∃ o, o = f_X10_spotOf (n_n.2.2.2.2.2.2 (v3_l4).toNatClampNeg) := ⟨_, rfl⟩
            have h := nm_of h o41 eo41
            refine ck_i (wc := []) (wr := (bX4 a0 un kn n_n (bX6 a1 up kp p_p []))) hP hD hK hS hA [] [0, 1, 2, 3, 4, 5, 6, 7, 8, 9, 10, 11, 12, 13, 14] rfl rfl (by decide) (by decide) (by decide) (fun hPc hDc => (va_runSN (As := [.int (n_n.2.2.2.2.2.2 (v3_l4).toNatClampNeg)]) (rest := [.int v3_l4, .int k3, .int k2, .ref a1]) ⟨hx, hb, hml, hown, hts⟩ (kfX10_spotOf l dC dI (n_n.2.2.2.2.2.2 (v3_l4).toNatClampNeg) H.size o41 eo41.symm) ⟨va_cnB 1 hts gfX4_isTangled_0 rfl rfl rfl (hN.1 (.methodLinkNest RX4 49 yX10_spotOf "HookPier") (List.mem_of_getElem? (i := 11) rfl)) (hts (.initialized RX10) (List.mem_of_getElem? (i := 3) rfl)) (by decide +kernel) ⟨(Nat.le_of_ble_eq_true rfl), (Nat.le_of_ble_eq_true rfl)⟩, (hts (.static yX10_spotOf) (List.mem_of_getElem? (i := 4) rfl)), trivial⟩ (PS hPc (hK.sub (tys' := ([])) [] rfl) hDc hN) rfl rfl hl.1 rfl (lv_room (Nat.le_of_ble_eq_true rfl)) (zat zrX4_isTangled_0_ok 23 rfl) ⟨(Nat.le_of_ble_eq_true rfl), (Nat.le_of_ble_eq_true rfl)⟩)) (fun r41 _ H locs hw hP hD _ hS => ?_)
            obtain rfl := hw.symm
            obtain ⟨hP, hD⟩ := pd_mk (bX4 a0 un kn n_n (bX6 a1 up kp p_p [])) hP hD
            obtain ⟨o44, eo44, h⟩ := bd_of h
            refine ck_i (wc := (bX6 a1 up kp p_p [])) (wr := (bX4 a0 un kn n_n [])) hP hD hK hS hA [5, 6, 7, 8, 9, 10, 11, 12, 13, 14] [0, 1, 2, 3, 4] rfl rfl (by decide) (by decide) (by decide) (fun hPc hDc => (va_runV (As := [.int k2, .int k3, .int v3_l4, .int o41]) (rest := []) ⟨hx, hb, hml, hown, hts⟩ (kfX6_isTangle l dC dI a1 k2 k3 v3_l4 o41 up kp p_p H.size o44 eo44) (cwV 4 hts gfX4_isTangled_1 rfl rfl rfl (by decide +kernel) ⟨(Nat.le_of_ble_eq_true rfl), (Nat.le_of_ble_eq_true rfl)⟩) (PV hPc (hK.sub (tys' := (tX6 kp ([]))) [4, 5, 6, 7, 8, 9, 10, 11, 12] rfl) hDc hN 0 rfl rfl) rfl rfl hl.1 rfl (lv_room (Nat.le_of_ble_eq_true rfl)) (zat zrX4_isTangled_0_ok 24 rfl) ⟨(Nat.le_of_ble_eq_true rfl), (Nat.le_of_ble_eq_true rfl)⟩)) (fun r44 _ H locs hw hP hD _ hS => ?_)
            obtain ⟨hw, br44⟩ := hw
            obtain rfl := hw.symm
            obtain ⟨hP, hD⟩ := pd_mk (bX4 a0 un kn n_n (bX6 a1 up kp p_p [])) hP hD
            refine lv_if_eq (tgt := 52) hx hb (zat zrX4_isTangled_0_ok 25 rfl) (by decide) (fun c47 => ?_) (fun c47 => ?_)
            · have h := (if_pos c47).symm.trans h
              exact J52  H _ ls h  hP hD hS (lv_sub hl [0, 1, 2, 3, 4] rfl)
            · have h := (if_neg c47).symm.trans h
              refine lv_iconst (v := 1) hx hb (zat zrX4_isTangled_0_ok 26 rfl) (by decide) ?_
              obtain rfl := Option.some.inj h
              obtain ⟨hP9, hD9⟩ := pd_sub (bX4 a0 un kn n_n (bX6 a1 up kp p_p [])) [0, 1, 2, 3, 4, 5, 6, 7, 8, 9, 10, 11, 12, 13, 14] hP hD (by decide) rfl
              have hK9 := hK.sub (tys' := []) [] rfl
              rw [hQQ]
              exact W.zret (v := (1 : Int32)) hx hb hr rfl (fun t ht hW => ⟨⟨(1 : Int32), (), rfl, ⟨rfl, (by decide)⟩, by rw [ht]; exact hP9, va_K.moved hW.alike hK9, hD9⟩, hS.F ht⟩) hS.2.2 (zat zrX4_isTangled_0_ok 27 rfl)
  exact L3 FU (0 : Int32) s.heap _ ls h  hP hD hS (lv_sub hl [0, 1, 2, 3, 4] rfl)
noncomputable def zrX1_untangled_0 : List ZR := zc 0 true (.iconst 0) 1 (zc 1 true (.istore_n 2) 1 (zc 2 true (.iconst 0) 1 (zc 3 true (.istore_n 3) 1 (zc 4 true (.iload_n 3) 1 (zc 5 true (.aload_n 0) 1 (zc 6 true (.getfield 65) 3 (zc 9 true (.if_icmp .ge 43) 3 (zc 12 true (.aload_n 1) 1 (zc 13 true (.getfield 68) 3 (zc 16 true (.iload_n 3) 1 (zc 17 true (.iaload) 1 (zc 18 true (.iconst (-1)) 1 (zc 19 true (.if_icmp .eq 27) 3 (zc 22 true (.aload_n 1) 1 (zc 23 true (.aload_n 0) 1 (zc 24 true (.iload_n 3) 1 (zc 25 true (.aload_n 1) 1 (zc 26 true (.getfield 68) 3 (zc 29 true (.iload_n 3) 1 (zc 30 true (.iaload) 1 (zc 31 true (.invokestatic 79) 3 (zc 34 true (.invokevirtual 82) 3 (zc 37 true (.ifCond .ne 9) 3 (zc 40 true (.iload_n 2) 1 (zc 41 true (.iconst 1) 1 (zc 42 true (.iload_n 3) 1 (zc 43 true (.ishl) 1 (zc 44 true (.ior) 1 (zc 45 true (.istore_n 2) 1 (zc 46 true (.iinc 3 1) 3 (zc 49 true (.goto (-45)) 3 (zc 52 true (.iload_n 2) 1 (zc 53 true (.ireturn) 1 ([]))))))))))))))))))))))))))))))))))
theorem zrX1_untangled_0_ok : zck 0 ((zby cX1_untangled).drop 0) zrX1_untangled_0 = true := by decide +kernel
def vfX1_untangled : List Cond := List.cons (.code yX1_untangled cX1_untangled 4 (some .int)) (apW [.fieldLink RX1 65 "HookPier$Plan" "askers" "I", .fieldLink RX1 68 "HookPier$Now" "line" "[I", .initialized RX10, .static yX10_spotOf, .methodLink RX1 82 yX4_isTangled, .instanceMethod yX4_isTangled, .selects RX4 yX4_isTangled yX4_isTangled, .initialized RX4] (apW wsX60 (apW wsX40 (apW vfX10_spotOf (vfX4_isTangled)))))
theorem ifX1_untangled_X6 : ∀ w ∈ wsX60, w ∈ vfX1_untangled := fun _ h => (List.mem_cons_of_mem _ (List.mem_append_right _ (List.mem_append_left _ h)))
theorem ifX1_untangled_X4 : ∀ w ∈ wsX40, w ∈ vfX1_untangled := fun _ h => (List.mem_cons_of_mem _ (List.mem_append_right _ (List.mem_append_right _ (List.mem_append_left _ h))))
theorem qfX1_untangled : Good vfX1_untangled := gd_cons (by decide +kernel) (gd_app (gd_dec (by decide +kernel) : Good [.fieldLink RX1 65 "HookPier$Plan" "askers" "I", .fieldLink RX1 68 "HookPier$Now" "line" "[I", .initialized RX10, .static yX10_spotOf, .methodLink RX1 82 yX4_isTangled, .instanceMethod yX4_isTangled, .selects RX4 yX4_isTangled yX4_isTangled, .initialized RX4]) (gd_app qsX6 (gd_app qsX4 (gd_app qfX10_spotOf qfX4_isTangled))))
theorem gfX1_untangled_0 : GoodIn vfX1_untangled vfX10_spotOf := (goodIn_m (fun _ h => (List.mem_cons_of_mem _ (List.mem_append_right _ (List.mem_append_right _ (List.mem_append_right _ (List.mem_append_left _ h)))))) qfX10_spotOf)
theorem gfX1_untangled_1 : GoodIn vfX1_untangled (wsV RX1 82 RX4 yX4_isTangled vfX4_isTangled) := goodIn_app (goodIn_r [.methodLink RX1 82 yX4_isTangled, .instanceMethod yX4_isTangled, .selects RX4 yX4_isTangled yX4_isTangled, .initialized RX4] [5, 6, 7, 8] rfl (by decide +kernel)) (goodIn_m (fun _ h => (List.mem_cons_of_mem _ (List.mem_append_right _ (List.mem_append_right _ (List.mem_append_right _ (List.mem_append_right _ h)))))) qfX4_isTangled)
set_option maxHeartbeats 2000000 in
set_option maxRecDepth 100000 in
theorem kfX1_untangled (l : Launch) (dC : Nat → ClassId) (dI : Nat → Nat → Nat) (a0 : Nat) (a1 : Nat) (up : Nat → Nat) (kp : Nat → ClassId) (un : Nat → Nat) (kn : Nat → ClassId) (p_p : TX6_p) (n_n : TX4_n) (sz : Nat) (out : Int32) (h : f_X1_untangled p_p n_n = some out) : KDi l yX1_untangled vfX1_untangled ({ frames := 3, cells := 0, slots := 0, locals := 69 }) (dC, dI) [.ref a0, .ref a1] sz (bX6 a0 up kp p_p (bX4 a1 un kn n_n [])) (tX6 kp (tX4 kn ([]))) (fun (r : Int32) _ => r = out) 0 0 := by
  refine Met.ofW (cc := cX1_untangled) (maxL := 4) (ret := (some .int)) (by decide) rfl ?_
  intro p e s m args below meth c s₁ B0 hml hv
  obtain ⟨rfl, hsz, hP, hK, hD0, hN⟩ := hv
  have hx := B0.exec
  have hb := B0.bytes
  have hr := B0.returns
  have hts := atoms_spec (ws := vfX1_untangled) B0.pre
  have hown : s.vm.findClass RX1 = some m.cls := findClass_of_methodNamed B0.named
  have hlocks := B0.notSynchronized
  subst hsz
  have hD := hD0.self (sz := s.heap.size)
  generalize hAe : va_A (bX6 a0 up kp p_p (bX4 a1 un kn n_n [])) s.heap.size = A at hD ⊢
  have hA : ∀ q : Nat, s.heap.size ≤ q → A q := fun q h => by rw [← hAe]; exact Or.inr h
  have hS : va_S A s.heap s.heap [] := va_S.rf
  have hP : va_P (dC, dI) vwCl (bX6 a0 up kp p_p (bX4 a1 un kn n_n [])) s.heap := hP
  have hl := lv_entry ([.ref a0, .ref a1]) (n := 4) (Nat.le_of_ble_eq_true rfl)
  rw [lg_entry_eq]
  generalize (lg_sl ([.ref a0, .ref a1]) ++ List.replicate (4 - (lg_sl ([.ref a0, .ref a1])).length) Slot.unset).toArray = ls at hl ⊢
  have hl : lv_has ls 4 [(0, .ref a0), (1, .ref a1)] := hl
  refine W_q (fun QQ hQQ => ?_)
  rw [f_X1_untangled] at h
  refine lv_iconst (v := 0) hx hb (zat zrX1_untangled_0_ok 0 rfl) (by decide) ?_
  refine lv_istore_n (lv' := [(2, .int 0), (0, .ref a0), (1, .ref a1)]) hx hb (zat zrX1_untangled_0_ok 1 rfl) rfl hl (by decide) rfl (fun ls hl => ?_)
  refine lv_iconst (v := 0) hx hb (zat zrX1_untangled_0_ok 2 rfl) (by decide) ?_
  refine lv_istore_n (lv' := [(3, .int 0), (2, .int 0), (0, .ref a0), (1, .ref a1)]) hx hb (zat zrX1_untangled_0_ok 3 rfl) rfl hl (by decide) rfl (fun ls hl => ?_)
  have L4 : ∀ (n4 : Nat) (v4_l3 : Int32) (v4_l2 : Int32) (H : Heap) (locs : List Loc) (ls : Array Slot), f_X1_untangled_L4 p_p n_n n4 v4_l3 v4_l2 = some out → va_P (dC, dI) vwCl (bX6 a0 up kp p_p (bX4 a1 un kn n_n [])) H → va_D A (bX6 a0 up kp p_p (bX4 a1 un kn n_n [])) → va_S A s.heap H locs → lv_has ls 4 [(3, .int v4_l3), (2, .int v4_l2), (0, .ref a0), (1, .ref a1)] → W p l e (headSpec vfX1_untangled { frames := 3, cells := 0, slots := 0, locals := 69 }).room s m ([.ref a0, .ref a1]).toArray below meth c H locs 0 0 QQ (F0 m 4 ls []) := by
    intro n4
    induction n4 with
    | zero =>
      intro v4_l3 v4_l2 H locs ls h  _ _ _ _
      rw [f_X1_untangled_L4] at h
      cases h
    | succ n4 ih4 =>
      intro v4_l3 v4_l2 H locs ls h  hP hD hS hl
      rw [f_X1_untangled_L4] at h
      refine lv_iload_n hx hb (zat zrX1_untangled_0_ok 4 rfl) rfl (lv_at hl 0 rfl) ?_
      refine lv_aload_n hx hb (zat zrX1_untangled_0_ok 5 rfl) rfl (lv_at hl 2 rfl) ?_
      refine va_get (D := (dC, dI)) (ci := 4) (v := .int p_p.2.2.2.2.2.1) (C := RX6) (T := TX6) (N := 18) hx hb hts ifX1_untangled_X6 hown hK hP 0 rfl rfl 5 (by decide) (hts (.fieldLink RX1 65 "HookPier$Plan" "askers" "I") (List.mem_of_getElem? (i := 1) rfl)) (fun _ h9 => h9) rfl (zat zrX1_untangled_0_ok 6 rfl) ?_
      refine lv_icmp_ge (tgt := 52) hx hb (zat zrX1_untangled_0_ok 7 rfl) (by decide) (fun c9 => ?_) (fun c9 => ?_)
      · have h := (if_pos c9).symm.trans h
        refine lv_iload_n hx hb (zat zrX1_untangled_0_ok 32 rfl) rfl (lv_at hl 1 rfl) ?_
        obtain rfl := Option.some.inj h
        obtain ⟨hP9, hD9⟩ := pd_sub (bX6 a0 up kp p_p (bX4 a1 un kn n_n [])) [0, 1, 2, 3, 4, 5, 6, 7, 8, 9, 10, 11, 12, 13, 14] hP hD (by decide) rfl
        have hK9 := hK.sub (tys' := []) [] rfl
        rw [hQQ]
        exact W.iret (v := v4_l2) hx hb hr (fun t ht hW => ⟨⟨v4_l2, (), rfl, rfl, by rw [ht]; exact hP9, va_K.moved hW.alike hK9, hD9⟩, hS.F ht⟩) hS.2.2 (zat zrX1_untangled_0_ok 33 rfl)
      · have h := (if_neg c9).symm.trans h
        refine lv_aload_n hx hb (zat zrX1_untangled_0_ok 8 rfl) rfl (lv_at hl 3 rfl) ?_
        refine va_get (D := (dC, dI)) (ci := 3) (v := .ref (un 3)) (C := RX4) (T := TX4) (N := 7) hx hb hts ifX1_untangled_X4 hown hK hP 10 rfl rfl 6 (by decide) (hts (.fieldLink RX1 68 "HookPier$Now" "line" "[I") (List.mem_of_getElem? (i := 2) rfl)) (fun _ h9 => h9) rfl (zat zrX1_untangled_0_ok 9 rfl) ?_
        refine lv_iload_n hx hb (zat zrX1_untangled_0_ok 10 rfl) rfl (lv_at hl 0 rfl) ?_
        obtain ⟨hg17, h⟩ := gA_of h
        refine va_iald hx hb hK hP 14 12 rfl rfl hg17 (zat zrX1_untangled_0_ok 11 rfl) ?_
        refine lv_iconst (v := (-1)) hx hb (zat zrX1_untangled_0_ok 12 rfl) (by decide) ?_
        have J46 : ∀ (v46_l2 : Int32) (H : Heap) (locs : List Loc) (ls : Array Slot), f_X1_untangled_J46 (f_X1_untangled_L4 p_p n_n n4) v4_l3 v46_l2 = some out → va_P (dC, dI) vwCl (bX6 a0 up kp p_p (bX4 a1 un kn n_n [])) H → va_D A (bX6 a0 up kp p_p (bX4 a1 un kn n_n [])) → va_S A s.heap H locs → lv_has ls 4 [(3, .int v4_l3), (2, .int v46_l2), (0, .ref a0), (1, .ref a1)] → W p l e (headSpec vfX1_untangled { frames := 3, cells := 0, slots := 0, locals := 69 }).room s m ([.ref a0, .ref a1]).toArray below meth c H locs 0 0 QQ (F0 m 46 ls []) := by
          intro v46_l2 H locs ls h  hP hD hS hl
          rw [f_X1_untangled_J46] at h
          refine lv_iinc (v := (v4_l3 + (1 : Int32))) (lv' := [(3, .int (v4_l3 + (1 : Int32))), (2, .int v46_l2), (0, .ref a0), (1, .ref a1)]) hx hb (zat zrX1_untangled_0_ok 30 rfl) hl (k := 0) rfl rfl (by decide) rfl (fun ls hl => ?_)
          refine lv_goto (tgt := 4) hx hb (zat zrX1_untangled_0_ok 31 rfl) (by decide) ?_
          exact ih4 (v4_l3 + (1 : Int32)) v46_l2 H _ ls h  hP hD hS (lv_sub hl [0, 1, 2, 3] rfl)
        refine lv_icmp_eq (tgt := 46) hx hb (zat zrX1_untangled_0_ok 13 rfl) (by decide) (fun c19 => ?_) (fun c19 => ?_)
        · have h := (if_pos c19).symm.trans h
          exact J46 v4_l2 H _ ls h  hP hD hS (lv_sub hl [0, 1, 2, 3] rfl)
        · have h := (if_neg c19).symm.trans h
          refine lv_aload_n hx hb (zat zrX1_untangled_0_ok 14 rfl) rfl (lv_at hl 3 rfl) ?_
          refine lv_aload_n hx hb (zat zrX1_untangled_0_ok 15 rfl) rfl (lv_at hl 2 rfl) ?_
          refine lv_iload_n hx hb (zat zrX1_untangled_0_ok 16 rfl) rfl (lv_at hl 0 rfl) ?_
          refine lv_aload_n hx hb (zat zrX1_untangled_0_ok 17 rfl) rfl (lv_at hl 3 rfl) ?_
          refine va_get (D := (dC, dI)) (ci := 3) (v := .ref (un 3)) (C := RX4) (T := TX4) (N := 7) hx hb hts ifX1_untangled_X4 hown hK hP 10 rfl rfl 6 (by decide) (hts (.fieldLink RX1 68 "HookPier$Now" "line" "[I") (List.mem_of_getElem? (i := 2) rfl)) (fun _ h9 => h9) rfl (zat zrX1_untangled_0_ok 18 rfl) ?_
          refine lv_iload_n hx hb (zat zrX1_untangled_0_ok 19 rfl) rfl (lv_at hl 0 rfl) ?_
          obtain ⟨hg30, h⟩ := gA_of h
          refine va_iald hx hb hK hP 14 12 rfl rfl hg30 (zat zrX1_untangled_0_ok 20 rfl) ?_
          obtain ⟨o31, eo31⟩ : ∃ o, o = f_X10_spotOf (n_n.2.2.2.2.2.2 (v4_l3).toNatClampNeg) := ⟨_, rfl⟩
          have h := nm_of h o31 eo31
          refine ck_i (wc := []) (wr := (bX6 a0 up kp p_p (bX4 a1 un kn n_n []))) hP hD hK hS hA [] [0, 1, 2, 3, 4, 5, 6, 7, 8, 9, 10, 11, 12, 13, 14] rfl rfl (by decide) (by decide) (by decide) (fun hPc hDc => (va_runSN (As := [.int (n_n.2.2.2.2.2.2 (v4_l3).toNatClampNeg)]) (rest := [.int v4_l3, .ref a0, .ref a1]) ⟨hx, hb, hml, hown, hts⟩ (kfX10_spotOf l dC dI (n_n.2.2.2.2.2.2 (v4_l3).toNatClampNeg) H.size o31 eo31.symm) ⟨va_cnB 1 hts gfX1_untangled_0 rfl rfl rfl (hN.1 (.methodLinkNest RX1 79 yX10_spotOf "HookPier") (List.mem_of_getElem? (i := 18) rfl)) (hts (.initialized RX10) (List.mem_of_getElem? (i := 3) rfl)) (by decide +kernel) ⟨(Nat.le_of_ble_eq_true rfl), (Nat.le_of_ble_eq_true rfl)⟩, (hts (.static yX10_spotOf) (List.mem_of_getElem? (i := 4) rfl)), trivial⟩ (PS hPc (hK.sub (tys' := ([])) [] rfl) hDc hN) rfl rfl hl.1 rfl (lv_room (Nat.le_of_ble_eq_true rfl)) (zat zrX1_untangled_0_ok 21 rfl) ⟨(Nat.le_of_ble_eq_true rfl), (Nat.le_of_ble_eq_true rfl)⟩)) (fun r31 _ H locs hw hP hD _ hS => ?_)
          obtain rfl := hw.symm
          obtain ⟨hP, hD⟩ := pd_mk (bX6 a0 up kp p_p (bX4 a1 un kn n_n [])) hP hD
          obtain ⟨o34, eo34, h⟩ := bd_of h
          refine ck_i (wc := (bX4 a1 un kn n_n (bX6 a0 up kp p_p []))) (wr := []) hP hD hK hS hA [10, 11, 12, 13, 14, 0, 1, 2, 3, 4, 5, 6, 7, 8, 9] [] rfl rfl (by decide) (by decide) (by decide) (fun hPc hDc => (va_runV (As := [.ref a0, .int v4_l3, .int o31]) (rest := []) ⟨hx, hb, hml, hown, hts⟩ (kfX4_isTangled l dC dI a1 a0 v4_l3 o31 un kn up kp n_n p_p H.size o34 eo34) (cwV 3 hts gfX1_untangled_1 rfl rfl rfl (by decide +kernel) ⟨(Nat.le_of_ble_eq_true rfl), (Nat.le_of_ble_eq_true rfl)⟩) (PV hPc (hK.sub (tys' := (tX4 kn (tX6 kp ([])))) [9, 10, 11, 12, 0, 1, 2, 3, 4, 5, 6, 7, 8] rfl) hDc hN 0 rfl rfl) rfl rfl hl.1 rfl (lv_room (Nat.le_of_ble_eq_true rfl)) (zat zrX1_untangled_0_ok 22 rfl) ⟨(Nat.le_of_ble_eq_true rfl), (Nat.le_of_ble_eq_true rfl)⟩)) (fun r34 _ H locs hw hP hD _ hS => ?_)
          obtain ⟨hw, br34⟩ := hw
          obtain rfl := hw.symm
          obtain ⟨hP, hD⟩ := pd_mk (bX4 a1 un kn n_n (bX6 a0 up kp p_p [])) hP hD
          refine lv_if_ne (tgt := 46) hx hb (zat zrX1_untangled_0_ok 23 rfl) (by decide) (fun c37 => ?_) (fun c37 => ?_)
          · have h := (if_neg c37).symm.trans h
            exact J46 v4_l2 H _ ls h  (hP.sub (ws' := (bX6 a0 up kp p_p (bX4 a1 un kn n_n []))) [5, 6, 7, 8, 9, 10, 11, 12, 13, 14, 0, 1, 2, 3, 4] rfl) (hD.sub (ws' := (bX6 a0 up kp p_p (bX4 a1 un kn n_n []))) [5, 6, 7, 8, 9, 10, 11, 12, 13, 14, 0, 1, 2, 3, 4] (by decide) rfl) hS (lv_sub hl [0, 1, 2, 3] rfl)
          · have h := (if_pos c37).symm.trans h
            refine lv_iload_n hx hb (zat zrX1_untangled_0_ok 24 rfl) rfl (lv_at hl 1 rfl) ?_
            refine lv_iconst (v := 1) hx hb (zat zrX1_untangled_0_ok 25 rfl) (by decide) ?_
            refine lv_iload_n hx hb (zat zrX1_untangled_0_ok 26 rfl) rfl (lv_at hl 0 rfl) ?_
            refine lv_ishl hx hb (zat zrX1_untangled_0_ok 27 rfl) ?_
            refine lv_ior hx hb (zat zrX1_untangled_0_ok 28 rfl) ?_
            refine lv_istore_n (lv' := [(2, .int (v4_l2 ||| ((1 : Int32) <<< (v4_l3 &&& 31)))), (3, .int v4_l3), (0, .ref a0), (1, .ref a1)]) hx hb (zat zrX1_untangled_0_ok 29 rfl) rfl hl (by decide) rfl (fun ls hl => ?_)
            exact J46 (v4_l2 ||| ((1 : Int32) <<< (v4_l3 &&& 31))) H _ ls h  (hP.sub (ws' := (bX6 a0 up kp p_p (bX4 a1 un kn n_n []))) [5, 6, 7, 8, 9, 10, 11, 12, 13, 14, 0, 1, 2, 3, 4] rfl) (hD.sub (ws' := (bX6 a0 up kp p_p (bX4 a1 un kn n_n []))) [5, 6, 7, 8, 9, 10, 11, 12, 13, 14, 0, 1, 2, 3, 4] (by decide) rfl) hS (lv_sub hl [1, 0, 2, 3] rfl)
  exact L4 FU (0 : Int32) (0 : Int32) s.heap _ ls h  hP hD hS (lv_sub hl [0, 1, 2, 3] rfl)
noncomputable def zrX10_baitOf_0 : List ZR := zc 0 true (.iload_n 0) 1 (zc 1 true (.bipush 10) 2 (zc 3 true (.irem) 1 (zc 4 true (.ireturn) 1 ([]))))
theorem zrX10_baitOf_0_ok : zck 0 ((zby cX10_baitOf).drop 0) zrX10_baitOf_0 = true := by decide +kernel
def vfX10_baitOf : List Cond := .code yX10_baitOf cX10_baitOf 1 (some .int) :: ([])
theorem qfX10_baitOf : Good vfX10_baitOf := gd_cons (by decide +kernel) (gd_dec (by decide +kernel) : Good [])
set_option maxHeartbeats 2000000 in
set_option maxRecDepth 100000 in
theorem kfX10_baitOf (l : Launch) (dC : Nat → ClassId) (dI : Nat → Nat → Nat) (k0 : Int32) (sz : Nat) (out : Int32) (h : f_X10_baitOf k0 = out) : KDi l yX10_baitOf vfX10_baitOf ({ frames := 0, cells := 0, slots := 0, locals := 0 }) (dC, dI) [.int k0] sz [] ([]) (fun (r : Int32) _ => r = out) 0 0 := by
  refine Met.ofW (cc := cX10_baitOf) (maxL := 1) (ret := (some .int)) (by decide) rfl ?_
  intro p e s m args below meth c s₁ B0 hml hv
  obtain ⟨rfl, hsz, hP, hK, hD0, hN⟩ := hv
  have hx := B0.exec
  have hb := B0.bytes
  have hr := B0.returns
  have hts := atoms_spec (ws := vfX10_baitOf) B0.pre
  have hown : s.vm.findClass RX10 = some m.cls := findClass_of_methodNamed B0.named
  have hlocks := B0.notSynchronized
  subst hsz
  have hD := hD0.self (sz := s.heap.size)
  generalize hAe : va_A [] s.heap.size = A at hD ⊢
  have hA : ∀ q : Nat, s.heap.size ≤ q → A q := fun q h => by rw [← hAe]; exact Or.inr h
  have hS : va_S A s.heap s.heap [] := va_S.rf
  have hP : va_P (dC, dI) vwCl [] s.heap := hP
  have hl := lv_entry ([.int k0]) (n := 1) (Nat.le_of_ble_eq_true rfl)
  rw [lg_entry_eq]
  generalize (lg_sl ([.int k0]) ++ List.replicate (1 - (lg_sl ([.int k0])).length) Slot.unset).toArray = ls at hl ⊢
  have hl : lv_has ls 1 [(0, .int k0)] := hl
  refine W_q (fun QQ hQQ => ?_)
  rw [f_X10_baitOf] at h
  refine lv_iload_n hx hb (zat zrX10_baitOf_0_ok 0 rfl) rfl (lv_at hl 0 rfl) ?_
  refine lv_bipush (v := 10) hx hb (zat zrX10_baitOf_0_ok 1 rfl) (by decide) ?_
  refine lv_irem hx hb (zat zrX10_baitOf_0_ok 2 rfl) (by decide) ?_
  obtain rfl := h
  obtain ⟨hP9, hD9⟩ := pd_sub [] [] hP hD (by decide) rfl
  have hK9 := hK.sub (tys' := []) [] rfl
  rw [hQQ]
  exact W.iret (v := (k0 - k0 / (10 : Int32) * (10 : Int32))) hx hb hr (fun t ht hW => ⟨⟨(k0 - k0 / (10 : Int32) * (10 : Int32)), (), rfl, rfl, by rw [ht]; exact hP9, va_K.moved hW.alike hK9, hD9⟩, hS.F ht⟩) hS.2.2 (zat zrX10_baitOf_0_ok 3 rfl)
noncomputable def zrX10_fathomsOf_0 : List ZR := zc 0 true (.iload_n 0) 1 (zc 1 true (.bipush 10) 2 (zc 3 true (.idiv) 1 (zc 4 true (.bipush 10) 2 (zc 6 true (.irem) 1 (zc 7 true (.ireturn) 1 ([]))))))
theorem zrX10_fathomsOf_0_ok : zck 0 ((zby cX10_fathomsOf).drop 0) zrX10_fathomsOf_0 = true := by decide +kernel
def vfX10_fathomsOf : List Cond := .code yX10_fathomsOf cX10_fathomsOf 1 (some .int) :: ([])
theorem qfX10_fathomsOf : Good vfX10_fathomsOf := gd_cons (by decide +kernel) (gd_dec (by decide +kernel) : Good [])
set_option maxHeartbeats 2000000 in
set_option maxRecDepth 100000 in
theorem kfX10_fathomsOf (l : Launch) (dC : Nat → ClassId) (dI : Nat → Nat → Nat) (k0 : Int32) (sz : Nat) (out : Int32) (h : f_X10_fathomsOf k0 = out) : KDi l yX10_fathomsOf vfX10_fathomsOf ({ frames := 0, cells := 0, slots := 0, locals := 0 }) (dC, dI) [.int k0] sz [] ([]) (fun (r : Int32) _ => r = out) 0 0 := by
  refine Met.ofW (cc := cX10_fathomsOf) (maxL := 1) (ret := (some .int)) (by decide) rfl ?_
  intro p e s m args below meth c s₁ B0 hml hv
  obtain ⟨rfl, hsz, hP, hK, hD0, hN⟩ := hv
  have hx := B0.exec
  have hb := B0.bytes
  have hr := B0.returns
  have hts := atoms_spec (ws := vfX10_fathomsOf) B0.pre
  have hown : s.vm.findClass RX10 = some m.cls := findClass_of_methodNamed B0.named
  have hlocks := B0.notSynchronized
  subst hsz
  have hD := hD0.self (sz := s.heap.size)
  generalize hAe : va_A [] s.heap.size = A at hD ⊢
  have hA : ∀ q : Nat, s.heap.size ≤ q → A q := fun q h => by rw [← hAe]; exact Or.inr h
  have hS : va_S A s.heap s.heap [] := va_S.rf
  have hP : va_P (dC, dI) vwCl [] s.heap := hP
  have hl := lv_entry ([.int k0]) (n := 1) (Nat.le_of_ble_eq_true rfl)
  rw [lg_entry_eq]
  generalize (lg_sl ([.int k0]) ++ List.replicate (1 - (lg_sl ([.int k0])).length) Slot.unset).toArray = ls at hl ⊢
  have hl : lv_has ls 1 [(0, .int k0)] := hl
  refine W_q (fun QQ hQQ => ?_)
  rw [f_X10_fathomsOf] at h
  refine lv_iload_n hx hb (zat zrX10_fathomsOf_0_ok 0 rfl) rfl (lv_at hl 0 rfl) ?_
  refine lv_bipush (v := 10) hx hb (zat zrX10_fathomsOf_0_ok 1 rfl) (by decide) ?_
  refine lv_idiv hx hb (zat zrX10_fathomsOf_0_ok 2 rfl) (by decide) ?_
  refine lv_bipush (v := 10) hx hb (zat zrX10_fathomsOf_0_ok 3 rfl) (by decide) ?_
  refine lv_irem hx hb (zat zrX10_fathomsOf_0_ok 4 rfl) (by decide) ?_
  refine lv_topi (fun z6 ez6 => ?_)
  have h := nm_of h z6 ez6
  obtain rfl := h
  obtain ⟨hP9, hD9⟩ := pd_sub [] [] hP hD (by decide) rfl
  have hK9 := hK.sub (tys' := []) [] rfl
  rw [hQQ]
  exact W.iret (v := z6) hx hb hr (fun t ht hW => ⟨⟨z6, (), rfl, rfl, by rw [ht]; exact hP9, va_K.moved hW.alike hK9, hD9⟩, hS.F ht⟩) hS.2.2 (zat zrX10_fathomsOf_0_ok 5 rfl)
noncomputable def zrX6_wishBy_0 : List ZR := zc 0 true (.iload_n 2) 1 (zc 1 true (.bipush 10) 2 (zc 3 true (.iload_n 3) 1 (zc 4 true (.invokestatic 72) 3 (zc 7 true (.aload_n 0) 1 (zc 8 true (.getfield 46) 3 (zc 11 true (.iload_n 1) 1 (zc 12 true (.iaload) 1 (zc 13 true (.isub) 1 (zc 14 true (.invokestatic 89) 3 (zc 17 true (.imul) 1 (zc 18 true (.isub) 1 (zc 19 true (.istore 4) 2 (zc 21 true (.aload_n 0) 1 (zc 22 true (.getfield 43) 3 (zc 25 true (.iload_n 1) 1 (zc 26 true (.iaload) 1 (zc 27 true (.iconst 3) 1 (zc 28 true (.if_icmp .ne 9) 3 (zc 31 true (.iinc 4 (-20)) 3 (zc 34 true (.goto 19) 3 (zc 37 true (.aload_n 0) 1 (zc 38 true (.getfield 55) 3 (zc 41 true (.iload_n 1) 1 (zc 42 true (.iaload) 1 (zc 43 true (.iload_n 3) 1 (zc 44 true (.invokestatic 83) 3 (zc 47 true (.if_icmp .ne 6) 3 (zc 50 true (.iinc 4 20) 3 (zc 53 true (.aload_n 0) 1 (zc 54 true (.getfield 43) 3 (zc 57 true (.iload_n 1) 1 (zc 58 true (.iaload) 1 (zc 59 true (.iconst 2) 1 (zc 60 true (.if_icmp .eq 25) 3 (zc 63 true (.iload 4) 2 (zc 65 true (.bipush 8) 2 (zc 67 true (.iload_n 3) 1 (zc 68 true (.invokestatic 80) 3 (zc 71 true (.aload_n 0) 1 (zc 72 true (.getfield 49) 3 (zc 75 true (.iload_n 1) 1 (zc 76 true (.iaload) 1 (zc 77 true (.isub) 1 (zc 78 true (.invokestatic 89) 3 (zc 81 true (.imul) 1 (zc 82 true (.isub) 1 (zc 83 true (.istore 4) 2 (zc 85 true (.iconst 0) 1 (zc 86 true (.bipush 100) 2 (zc 88 true (.iload 4) 2 (zc 90 true (.invokestatic 98) 3 (zc 93 true (.invokestatic 102) 3 (zc 96 true (.ireturn) 1 ([]))))))))))))))))))))))))))))))))))))))))))))))))))))))
theorem zrX6_wishBy_0_ok : zck 0 ((zby cX6_wishBy).drop 0) zrX6_wishBy_0 = true := by decide +kernel
def vfX6_wishBy : List Cond := List.cons (.code yX6_wishBy cX6_wishBy 5 (some .int)) (apW [.initialized RX10, .static yX10_spotOf, .fieldLink RX6 46 "HookPier$Plan" "at" "[I", .methodLink RX6 89 Lib.Math.abs.name, .static Lib.Math.abs.name, .initialized "java/lang/Math", .code Lib.Math.abs.name Lib.Math.abs.code 1 (some .int), .fieldLink RX6 43 "HookPier$Plan" "kind" "[I", .methodLink RX6 98 Lib.Math.min.name, .static Lib.Math.min.name, .code Lib.Math.min.name Lib.Math.min.code 2 (some .int), .methodLink RX6 102 Lib.Math.max.name, .static Lib.Math.max.name, .code Lib.Math.max.name Lib.Math.max.code 2 (some .int), .static yX10_fathomsOf, .fieldLink RX6 49 "HookPier$Plan" "depth" "[I", .fieldLink RX6 55 "HookPier$Plan" "likes" "[I", .static yX10_baitOf] (apW wsX60 (apW vfX10_spotOf (apW vfX10_fathomsOf (vfX10_baitOf)))))
theorem ifX6_wishBy_X6 : ∀ w ∈ wsX60, w ∈ vfX6_wishBy := fun _ h => (List.mem_cons_of_mem _ (List.mem_append_right _ (List.mem_append_left _ h)))
theorem qfX6_wishBy : Good vfX6_wishBy := gd_cons (by decide +kernel) (gd_app (gd_dec (by decide +kernel) : Good [.initialized RX10, .static yX10_spotOf, .fieldLink RX6 46 "HookPier$Plan" "at" "[I", .methodLink RX6 89 Lib.Math.abs.name, .static Lib.Math.abs.name, .initialized "java/lang/Math", .code Lib.Math.abs.name Lib.Math.abs.code 1 (some .int), .fieldLink RX6 43 "HookPier$Plan" "kind" "[I", .methodLink RX6 98 Lib.Math.min.name, .static Lib.Math.min.name, .code Lib.Math.min.name Lib.Math.min.code 2 (some .int), .methodLink RX6 102 Lib.Math.max.name, .static Lib.Math.max.name, .code Lib.Math.max.name Lib.Math.max.code 2 (some .int), .static yX10_fathomsOf, .fieldLink RX6 49 "HookPier$Plan" "depth" "[I", .fieldLink RX6 55 "HookPier$Plan" "likes" "[I", .static yX10_baitOf]) (gd_app qsX6 (gd_app qfX10_spotOf (gd_app qfX10_fathomsOf qfX10_baitOf))))
theorem gfX6_wishBy_0 : GoodIn vfX6_wishBy vfX10_spotOf := (goodIn_m (fun _ h => (List.mem_cons_of_mem _ (List.mem_append_right _ (List.mem_append_right _ (List.mem_append_left _ h))))) qfX10_spotOf)
theorem gfX6_wishBy_1 : GoodIn vfX6_wishBy vfX10_fathomsOf := (goodIn_m (fun _ h => (List.mem_cons_of_mem _ (List.mem_append_right _ (List.mem_append_right _ (List.mem_append_right _ (List.mem_append_left _ h)))))) qfX10_fathomsOf)
theorem gfX6_wishBy_2 : GoodIn vfX6_wishBy vfX10_baitOf := (goodIn_m (fun _ h => (List.mem_cons_of_mem _ (List.mem_append_right _ (List.mem_append_right _ (List.mem_append_right _ (List.mem_append_right _ h)))))) qfX10_baitOf)
set_option maxHeartbeats 2000000 in
set_option maxRecDepth 100000 in
theorem kfX6_wishBy (l : Launch) (dC : Nat → ClassId) (dI : Nat → Nat → Nat) (a0 : Nat) (k1 : Int32) (k2 : Int32) (k3 : Int32) (up : Nat → Nat) (kp : Nat → ClassId) (p_p : TX6_p) (sz : Nat) (out : Int32) (h : f_X6_wishBy k1 k2 k3 p_p = some out) : KDi l yX6_wishBy vfX6_wishBy ({ frames := 1, cells := 0, slots := 0, locals := 21 }) (dC, dI) [.ref a0, .int k1, .int k2, .int k3] sz (bX6 a0 up kp p_p []) (tX6 kp ([])) (fun (r : Int32) _ => r = out) 0 0 := by
  refine Met.ofW (cc := cX6_wishBy) (maxL := 5) (ret := (some .int)) (by decide) rfl ?_
  intro p e s m args below meth c s₁ B0 hml hv
  obtain ⟨rfl, hsz, hP, hK, hD0, hN⟩ := hv
  have hx := B0.exec
  have hb := B0.bytes
  have hr := B0.returns
  have hts := atoms_spec (ws := vfX6_wishBy) B0.pre
  have hown : s.vm.findClass RX6 = some m.cls := findClass_of_methodNamed B0.named
  have hlocks := B0.notSynchronized
  subst hsz
  have hD := hD0.self (sz := s.heap.size)
  generalize hAe : va_A (bX6 a0 up kp p_p []) s.heap.size = A at hD ⊢
  have hA : ∀ q : Nat, s.heap.size ≤ q → A q := fun q h => by rw [← hAe]; exact Or.inr h
  have hS : va_S A s.heap s.heap [] := va_S.rf
  have hP : va_P (dC, dI) vwCl (bX6 a0 up kp p_p []) s.heap := hP
  have hl := lv_entry ([.ref a0, .int k1, .int k2, .int k3]) (n := 5) (Nat.le_of_ble_eq_true rfl)
  rw [lg_entry_eq]
  generalize (lg_sl ([.ref a0, .int k1, .int k2, .int k3]) ++ List.replicate (5 - (lg_sl ([.ref a0, .int k1, .int k2, .int k3])).length) Slot.unset).toArray = ls at hl ⊢
  have hl : lv_has ls 5 [(0, .ref a0), (1, .int k1), (2, .int k2), (3, .int k3)] := hl
  refine W_q (fun QQ hQQ => ?_)
  rw [f_X6_wishBy] at h
  refine lv_iload_n hx hb (zat zrX6_wishBy_0_ok 0 rfl) rfl (lv_at hl 2 rfl) ?_
  refine lv_bipush (v := 10) hx hb (zat zrX6_wishBy_0_ok 1 rfl) (by decide) ?_
  refine lv_iload_n hx hb (zat zrX6_wishBy_0_ok 2 rfl) rfl (lv_at hl 3 rfl) ?_
  obtain ⟨o4, eo4⟩ : ∃ o, o = f_X10_spotOf k3 := ⟨_, rfl⟩
  have h := nm_of h o4 eo4
  refine ck_i (wc := []) (wr := (bX6 a0 up kp p_p [])) hP hD hK hS hA [] [0, 1, 2, 3, 4, 5, 6, 7, 8, 9] rfl rfl (by decide) (by decide) (by decide) (fun hPc hDc => (va_runSN (As := [.int k3]) (rest := [.int 10, .int k2]) ⟨hx, hb, hml, hown, hts⟩ (kfX10_spotOf l dC dI k3 s.heap.size o4 eo4.symm) ⟨va_cnB 1 hts gfX6_wishBy_0 rfl rfl rfl (hN.1 (.methodLinkNest RX6 72 yX10_spotOf "HookPier") (List.mem_of_getElem? (i := 12) rfl)) (hts (.initialized RX10) (List.mem_of_getElem? (i := 1) rfl)) (by decide +kernel) ⟨(Nat.le_of_ble_eq_true rfl), (Nat.le_of_ble_eq_true rfl)⟩, (hts (.static yX10_spotOf) (List.mem_of_getElem? (i := 2) rfl)), trivial⟩ (PS hPc (hK.sub (tys' := ([])) [] rfl) hDc hN) rfl rfl hl.1 rfl (lv_room (Nat.le_of_ble_eq_true rfl)) (zat zrX6_wishBy_0_ok 3 rfl) ⟨(Nat.le_of_ble_eq_true rfl), (Nat.le_of_ble_eq_true rfl)⟩)) (fun r4 _ H locs hw hP hD _ hS => ?_)
  obtain rfl := hw.symm
  obtain ⟨hP, hD⟩ := pd_mk (bX6 a0 up kp p_p []) hP hD
  refine lv_aload_n hx hb (zat zrX6_wishBy_0_ok 4 rfl) rfl (lv_at hl 0 rfl) ?_
  refine va_get (D := (dC, dI)) (ci := 4) (v := .ref (up 2)) (C := RX6) (T := TX6) (N := 18) hx hb hts ifX6_wishBy_X6 hown hK hP 0 rfl rfl 11 (by decide) (hts (.fieldLink RX6 46 "HookPier$Plan" "at" "[I") (List.mem_of_getElem? (i := 3) rfl)) (fun _ h9 => h9) rfl (zat zrX6_wishBy_0_ok 5 rfl) ?_
  refine lv_iload_n hx hb (zat zrX6_wishBy_0_ok 6 rfl) rfl (lv_at hl 1 rfl) ?_
  obtain ⟨hg12, h⟩ := gA_of h
  refine va_iald hx hb hK hP 3 2 rfl rfl hg12 (zat zrX6_wishBy_0_ok 7 rfl) ?_
  refine lv_isub hx hb (zat zrX6_wishBy_0_ok 8 rfl) ?_
  refine va_mabs hx hb (by rw [hml]; exact hl.1.symm) hown (hts (.methodLink RX6 89 Lib.Math.abs.name) (List.mem_of_getElem? (i := 4) rfl)) (hts (.static Lib.Math.abs.name) (List.mem_of_getElem? (i := 5) rfl)) (hts (.initialized "java/lang/Math") (List.mem_of_getElem? (i := 6) rfl)) (hts (.code Lib.Math.abs.name Lib.Math.abs.code 1 (some .int)) (List.mem_of_getElem? (i := 7) rfl)) (Nat.le_of_ble_eq_true rfl) (Nat.le_of_ble_eq_true rfl) (Nat.le_of_ble_eq_true rfl) (Nat.le_of_ble_eq_true rfl) (zat zrX6_wishBy_0_ok 9 rfl) ?_
  refine lv_topi (fun z14 ez14 => ?_)
  have h := nm_of h z14 ez14
  refine lv_imul hx hb (zat zrX6_wishBy_0_ok 10 rfl) ?_
  refine lv_isub hx hb (zat zrX6_wishBy_0_ok 11 rfl) ?_
  refine lv_istore (lv' := [(4, .int (k2 - ((10 : Int32) * z14))), (0, .ref a0), (1, .int k1), (2, .int k2), (3, .int k3)]) hx hb (zat zrX6_wishBy_0_ok 12 rfl) hl (by decide) rfl (fun ls hl => ?_)
  refine lv_aload_n hx hb (zat zrX6_wishBy_0_ok 13 rfl) rfl (lv_at hl 1 rfl) ?_
  refine va_get (D := (dC, dI)) (ci := 4) (v := .ref (up 1)) (C := RX6) (T := TX6) (N := 18) hx hb hts ifX6_wishBy_X6 hown hK hP 0 rfl rfl 10 (by decide) (hts (.fieldLink RX6 43 "HookPier$Plan" "kind" "[I") (List.mem_of_getElem? (i := 8) rfl)) (fun _ h9 => h9) rfl (zat zrX6_wishBy_0_ok 14 rfl) ?_
  refine lv_iload_n hx hb (zat zrX6_wishBy_0_ok 15 rfl) rfl (lv_at hl 2 rfl) ?_
  obtain ⟨hg26, h⟩ := gA_of h
  refine va_iald hx hb hK hP 2 1 rfl rfl hg26 (zat zrX6_wishBy_0_ok 16 rfl) ?_
  refine lv_iconst (v := 3) hx hb (zat zrX6_wishBy_0_ok 17 rfl) (by decide) ?_
  have J53 : ∀ (v53_l4 : Int32) (H : Heap) (locs : List Loc) (ls : Array Slot), f_X6_wishBy_J53 k1 k3 p_p v53_l4 = some out → va_P (dC, dI) vwCl (bX6 a0 up kp p_p []) H → va_D A (bX6 a0 up kp p_p []) → va_S A s.heap H locs → lv_has ls 5 [(4, .int v53_l4), (0, .ref a0), (1, .int k1), (3, .int k3)] → W p l e (headSpec vfX6_wishBy { frames := 1, cells := 0, slots := 0, locals := 21 }).room s m ([.ref a0, .int k1, .int k2, .int k3]).toArray below meth c H locs 0 0 QQ (F0 m 53 ls []) := by
    intro v53_l4 H locs ls h  hP hD hS hl
    rw [f_X6_wishBy_J53] at h
    refine lv_aload_n hx hb (zat zrX6_wishBy_0_ok 29 rfl) rfl (lv_at hl 1 rfl) ?_
    refine va_get (D := (dC, dI)) (ci := 4) (v := .ref (up 1)) (C := RX6) (T := TX6) (N := 18) hx hb hts ifX6_wishBy_X6 hown hK hP 0 rfl rfl 10 (by decide) (hts (.fieldLink RX6 43 "HookPier$Plan" "kind" "[I") (List.mem_of_getElem? (i := 8) rfl)) (fun _ h9 => h9) rfl (zat zrX6_wishBy_0_ok 30 rfl) ?_
    refine lv_iload_n hx hb (zat zrX6_wishBy_0_ok 31 rfl) rfl (lv_at hl 2 rfl) ?_
    obtain ⟨hg58, h⟩ := gA_of h
    refine va_iald hx hb hK hP 2 1 rfl rfl hg58 (zat zrX6_wishBy_0_ok 32 rfl) ?_
    refine lv_iconst (v := 2) hx hb (zat zrX6_wishBy_0_ok 33 rfl) (by decide) ?_
    have J85 : ∀ (v85_l4 : Int32) (H : Heap) (locs : List Loc) (ls : Array Slot), f_X6_wishBy_J85 v85_l4 = some out → va_P (dC, dI) vwCl (bX6 a0 up kp p_p []) H → va_D A (bX6 a0 up kp p_p []) → va_S A s.heap H locs → lv_has ls 5 [(4, .int v85_l4)] → W p l e (headSpec vfX6_wishBy { frames := 1, cells := 0, slots := 0, locals := 21 }).room s m ([.ref a0, .int k1, .int k2, .int k3]).toArray below meth c H locs 0 0 QQ (F0 m 85 ls []) := by
      intro v85_l4 H locs ls h  hP hD hS hl
      rw [f_X6_wishBy_J85] at h
      refine lv_iconst (v := 0) hx hb (zat zrX6_wishBy_0_ok 48 rfl) (by decide) ?_
      refine lv_bipush (v := 100) hx hb (zat zrX6_wishBy_0_ok 49 rfl) (by decide) ?_
      refine lv_iload hx hb (zat zrX6_wishBy_0_ok 50 rfl) (lv_at hl 0 rfl) ?_
      refine va_mmin hx hb (by rw [hml]; exact hl.1.symm) hown (hts (.methodLink RX6 98 Lib.Math.min.name) (List.mem_of_getElem? (i := 9) rfl)) (hts (.static Lib.Math.min.name) (List.mem_of_getElem? (i := 10) rfl)) (hts (.initialized "java/lang/Math") (List.mem_of_getElem? (i := 6) rfl)) (hts (.code Lib.Math.min.name Lib.Math.min.code 2 (some .int)) (List.mem_of_getElem? (i := 11) rfl)) (Nat.le_of_ble_eq_true rfl) (Nat.le_of_ble_eq_true rfl) (Nat.le_of_ble_eq_true rfl) (Nat.le_of_ble_eq_true rfl) (zat zrX6_wishBy_0_ok 51 rfl) ?_
      refine lv_topi (fun z90 ez90 => ?_)
      have h := nm_of h z90 ez90
      refine va_mmax hx hb (by rw [hml]; exact hl.1.symm) hown (hts (.methodLink RX6 102 Lib.Math.max.name) (List.mem_of_getElem? (i := 12) rfl)) (hts (.static Lib.Math.max.name) (List.mem_of_getElem? (i := 13) rfl)) (hts (.initialized "java/lang/Math") (List.mem_of_getElem? (i := 6) rfl)) (hts (.code Lib.Math.max.name Lib.Math.max.code 2 (some .int)) (List.mem_of_getElem? (i := 14) rfl)) (Nat.le_of_ble_eq_true rfl) (Nat.le_of_ble_eq_true rfl) (Nat.le_of_ble_eq_true rfl) (Nat.le_of_ble_eq_true rfl) (zat zrX6_wishBy_0_ok 52 rfl) ?_
      refine lv_topi (fun z93 ez93 => ?_)
      have h := nm_of h z93 ez93
      obtain rfl := Option.some.inj h
      obtain ⟨hP9, hD9⟩ := pd_sub (bX6 a0 up kp p_p []) [0, 1, 2, 3, 4, 5, 6, 7, 8, 9] hP hD (by decide) rfl
      have hK9 := hK.sub (tys' := []) [] rfl
      rw [hQQ]
      exact W.iret (v := z93) hx hb hr (fun t ht hW => ⟨⟨z93, (), rfl, rfl, by rw [ht]; exact hP9, va_K.moved hW.alike hK9, hD9⟩, hS.F ht⟩) hS.2.2 (zat zrX6_wishBy_0_ok 53 rfl)
    refine lv_icmp_eq (tgt := 85) hx hb (zat zrX6_wishBy_0_ok 34 rfl) (by decide) (fun c60 => ?_) (fun c60 => ?_)
    · have h := (if_pos c60).symm.trans h
      exact J85 v53_l4 H _ ls h  hP hD hS (lv_sub hl [0] rfl)
    · have h := (if_neg c60).symm.trans h
      refine lv_iload hx hb (zat zrX6_wishBy_0_ok 35 rfl) (lv_at hl 0 rfl) ?_
      refine lv_bipush (v := 8) hx hb (zat zrX6_wishBy_0_ok 36 rfl) (by decide) ?_
      refine lv_iload_n hx hb (zat zrX6_wishBy_0_ok 37 rfl) rfl (lv_at hl 3 rfl) ?_
      obtain ⟨o68, eo68⟩ : ∃ o, o = f_X10_fathomsOf k3 := ⟨_, rfl⟩
      have h := nm_of h o68 eo68
      refine ck_i (wc := []) (wr := (bX6 a0 up kp p_p [])) hP hD hK hS hA [] [0, 1, 2, 3, 4, 5, 6, 7, 8, 9] rfl rfl (by decide) (by decide) (by decide) (fun hPc hDc => (va_runSN (As := [.int k3]) (rest := [.int 8, .int v53_l4]) ⟨hx, hb, hml, hown, hts⟩ (kfX10_fathomsOf l dC dI k3 H.size o68 eo68.symm) ⟨va_cnB 1 hts gfX6_wishBy_1 rfl rfl rfl (hN.1 (.methodLinkNest RX6 80 yX10_fathomsOf "HookPier") (List.mem_of_getElem? (i := 14) rfl)) (hts (.initialized RX10) (List.mem_of_getElem? (i := 1) rfl)) (by decide +kernel) ⟨(Nat.le_of_ble_eq_true rfl), (Nat.le_of_ble_eq_true rfl)⟩, (hts (.static yX10_fathomsOf) (List.mem_of_getElem? (i := 15) rfl)), trivial⟩ (PS hPc (hK.sub (tys' := ([])) [] rfl) hDc hN) rfl rfl hl.1 rfl (lv_room (Nat.le_of_ble_eq_true rfl)) (zat zrX6_wishBy_0_ok 38 rfl) ⟨(Nat.le_of_ble_eq_true rfl), (Nat.le_of_ble_eq_true rfl)⟩)) (fun r68 _ H locs hw hP hD _ hS => ?_)
      obtain rfl := hw.symm
      obtain ⟨hP, hD⟩ := pd_mk (bX6 a0 up kp p_p []) hP hD
      refine lv_aload_n hx hb (zat zrX6_wishBy_0_ok 39 rfl) rfl (lv_at hl 1 rfl) ?_
      refine va_get (D := (dC, dI)) (ci := 4) (v := .ref (up 3)) (C := RX6) (T := TX6) (N := 18) hx hb hts ifX6_wishBy_X6 hown hK hP 0 rfl rfl 12 (by decide) (hts (.fieldLink RX6 49 "HookPier$Plan" "depth" "[I") (List.mem_of_getElem? (i := 16) rfl)) (fun _ h9 => h9) rfl (zat zrX6_wishBy_0_ok 40 rfl) ?_
      refine lv_iload_n hx hb (zat zrX6_wishBy_0_ok 41 rfl) rfl (lv_at hl 2 rfl) ?_
      obtain ⟨hg76, h⟩ := gA_of h
      refine va_iald hx hb hK hP 4 3 rfl rfl hg76 (zat zrX6_wishBy_0_ok 42 rfl) ?_
      refine lv_isub hx hb (zat zrX6_wishBy_0_ok 43 rfl) ?_
      refine va_mabs hx hb (by rw [hml]; exact hl.1.symm) hown (hts (.methodLink RX6 89 Lib.Math.abs.name) (List.mem_of_getElem? (i := 4) rfl)) (hts (.static Lib.Math.abs.name) (List.mem_of_getElem? (i := 5) rfl)) (hts (.initialized "java/lang/Math") (List.mem_of_getElem? (i := 6) rfl)) (hts (.code Lib.Math.abs.name Lib.Math.abs.code 1 (some .int)) (List.mem_of_getElem? (i := 7) rfl)) (Nat.le_of_ble_eq_true rfl) (Nat.le_of_ble_eq_true rfl) (Nat.le_of_ble_eq_true rfl) (Nat.le_of_ble_eq_true rfl) (zat zrX6_wishBy_0_ok 44 rfl) ?_
      refine lv_topi (fun z78 ez78 => ?_)
      have h := nm_of h z78 ez78
      refine lv_imul hx hb (zat zrX6_wishBy_0_ok 45 rfl) ?_
      refine lv_isub hx hb (zat zrX6_wishBy_0_ok 46 rfl) ?_
      refine lv_istore (lv' := [(4, .int (v53_l4 - ((8 : Int32) * z78))), (0, .ref a0), (1, .int k1), (3, .int k3)]) hx hb (zat zrX6_wishBy_0_ok 47 rfl) hl (by decide) rfl (fun ls hl => ?_)
      exact J85 (v53_l4 - ((8 : Int32) * z78)) H _ ls h  hP hD hS (lv_sub hl [0] rfl)
  refine lv_icmp_ne (tgt := 37) hx hb (zat zrX6_wishBy_0_ok 18 rfl) (by decide) (fun c28 => ?_) (fun c28 => ?_)
  · have h := (if_neg c28).symm.trans h
    refine lv_aload_n hx hb (zat zrX6_wishBy_0_ok 21 rfl) rfl (lv_at hl 1 rfl) ?_
    refine va_get (D := (dC, dI)) (ci := 4) (v := .ref (up 5)) (C := RX6) (T := TX6) (N := 18) hx hb hts ifX6_wishBy_X6 hown hK hP 0 rfl rfl 14 (by decide) (hts (.fieldLink RX6 55 "HookPier$Plan" "likes" "[I") (List.mem_of_getElem? (i := 17) rfl)) (fun _ h9 => h9) rfl (zat zrX6_wishBy_0_ok 22 rfl) ?_
    refine lv_iload_n hx hb (zat zrX6_wishBy_0_ok 23 rfl) rfl (lv_at hl 2 rfl) ?_
    obtain ⟨hg42, h⟩ := gA_of h
    refine va_iald hx hb hK hP 6 5 rfl rfl hg42 (zat zrX6_wishBy_0_ok 24 rfl) ?_
    refine lv_iload_n hx hb (zat zrX6_wishBy_0_ok 25 rfl) rfl (lv_at hl 4 rfl) ?_
    obtain ⟨o44, eo44⟩ : ∃ o, o = f_X10_baitOf k3 := ⟨_, rfl⟩
    have h := nm_of h o44 eo44
    refine ck_i (wc := []) (wr := (bX6 a0 up kp p_p [])) hP hD hK hS hA [] [0, 1, 2, 3, 4, 5, 6, 7, 8, 9] rfl rfl (by decide) (by decide) (by decide) (fun hPc hDc => (va_runSN (As := [.int k3]) (rest := [.int (p_p.2.2.2.2.2.2.2.2.2.2.2.2.2.2.1 (k1).toNatClampNeg)]) ⟨hx, hb, hml, hown, hts⟩ (kfX10_baitOf l dC dI k3 H.size o44 eo44.symm) ⟨va_cnB 1 hts gfX6_wishBy_2 rfl rfl rfl (hN.1 (.methodLinkNest RX6 83 yX10_baitOf "HookPier") (List.mem_of_getElem? (i := 13) rfl)) (hts (.initialized RX10) (List.mem_of_getElem? (i := 1) rfl)) (by decide +kernel) ⟨(Nat.le_of_ble_eq_true rfl), (Nat.le_of_ble_eq_true rfl)⟩, (hts (.static yX10_baitOf) (List.mem_of_getElem? (i := 18) rfl)), trivial⟩ (PS hPc (hK.sub (tys' := ([])) [] rfl) hDc hN) rfl rfl hl.1 rfl (lv_room (Nat.le_of_ble_eq_true rfl)) (zat zrX6_wishBy_0_ok 26 rfl) ⟨(Nat.le_of_ble_eq_true rfl), (Nat.le_of_ble_eq_true rfl)⟩)) (fun r44 _ H locs hw hP hD _ hS => ?_)
    obtain rfl := hw.symm
    obtain ⟨hP, hD⟩ := pd_mk (bX6 a0 up kp p_p []) hP hD
    refine lv_icmp_ne (tgt := 53) hx hb (zat zrX6_wishBy_0_ok 27 rfl) (by decide) (fun c47 => ?_) (fun c47 => ?_)
    · have h := (if_neg c47).symm.trans h
      exact J53 (k2 - ((10 : Int32) * z14)) H _ ls h  hP hD hS (lv_sub hl [0, 1, 2, 4] rfl)
    · have h := (if_pos c47).symm.trans h
      refine lv_iinc (v := ((k2 - ((10 : Int32) * z14)) + (20 : Int32))) (lv' := [(4, .int ((k2 - ((10 : Int32) * z14)) + (20 : Int32))), (0, .ref a0), (1, .int k1), (2, .int k2), (3, .int k3)]) hx hb (zat zrX6_wishBy_0_ok 28 rfl) hl (k := 0) rfl rfl (by decide) rfl (fun ls hl => ?_)
      exact J53 ((k2 - ((10 : Int32) * z14)) + (20 : Int32)) H _ ls h  hP hD hS (lv_sub hl [0, 1, 2, 4] rfl)
  · have h := (if_pos c28).symm.trans h
    refine lv_iinc (v := ((k2 - ((10 : Int32) * z14)) + (-20 : Int32))) (lv' := [(4, .int ((k2 - ((10 : Int32) * z14)) + (-20 : Int32))), (0, .ref a0), (1, .int k1), (2, .int k2), (3, .int k3)]) hx hb (zat zrX6_wishBy_0_ok 19 rfl) hl (k := 0) rfl rfl (by decide) rfl (fun ls hl => ?_)
    refine lv_goto (tgt := 53) hx hb (zat zrX6_wishBy_0_ok 20 rfl) (by decide) ?_
    exact J53 ((k2 - ((10 : Int32) * z14)) + (-20 : Int32)) H _ ls h  hP hD hS (lv_sub hl [0, 1, 2, 4] rfl)
noncomputable def zrX6_wishFor_0 : List ZR := zc 0 true (.aload_n 0) 1 (zc 1 true (.iload_n 1) 1 (zc 2 true (.aload_n 0) 1 (zc 3 true (.getfield 52) 3 (zc 6 true (.iload_n 1) 1 (zc 7 true (.iaload) 1 (zc 8 true (.iload_n 2) 1 (zc 9 true (.invokevirtual 94) 3 (zc 12 true (.ireturn) 1 ([])))))))))
theorem zrX6_wishFor_0_ok : zck 0 ((zby cX6_wishFor).drop 0) zrX6_wishFor_0 = true := by decide +kernel
def vfX6_wishFor : List Cond := List.cons (.code yX6_wishFor cX6_wishFor 3 (some .int)) (apW [.fieldLink RX6 52 "HookPier$Plan" "hunger" "[I", .methodLink RX6 94 yX6_wishBy, .instanceMethod yX6_wishBy, .selects RX6 yX6_wishBy yX6_wishBy, .initialized RX6] (apW wsX60 (vfX6_wishBy)))
theorem ifX6_wishFor_X6 : ∀ w ∈ wsX60, w ∈ vfX6_wishFor := fun _ h => (List.mem_cons_of_mem _ (List.mem_append_right _ (List.mem_append_left _ h)))
theorem qfX6_wishFor : Good vfX6_wishFor := gd_cons (by decide +kernel) (gd_app (gd_dec (by decide +kernel) : Good [.fieldLink RX6 52 "HookPier$Plan" "hunger" "[I", .methodLink RX6 94 yX6_wishBy, .instanceMethod yX6_wishBy, .selects RX6 yX6_wishBy yX6_wishBy, .initialized RX6]) (gd_app qsX6 qfX6_wishBy))
theorem gfX6_wishFor_0 : GoodIn vfX6_wishFor (wsV RX6 94 RX6 yX6_wishBy vfX6_wishBy) := goodIn_app (goodIn_r [.methodLink RX6 94 yX6_wishBy, .instanceMethod yX6_wishBy, .selects RX6 yX6_wishBy yX6_wishBy, .initialized RX6] [2, 3, 4, 5] rfl (by decide +kernel)) (goodIn_m (fun _ h => (List.mem_cons_of_mem _ (List.mem_append_right _ (List.mem_append_right _ h)))) qfX6_wishBy)
set_option maxHeartbeats 2000000 in
set_option maxRecDepth 100000 in
theorem kfX6_wishFor (l : Launch) (dC : Nat → ClassId) (dI : Nat → Nat → Nat) (a0 : Nat) (k1 : Int32) (k2 : Int32) (up : Nat → Nat) (kp : Nat → ClassId) (p_p : TX6_p) (sz : Nat) (out : Int32) (h : f_X6_wishFor k1 k2 p_p = some out) : KDi l yX6_wishFor vfX6_wishFor ({ frames := 2, cells := 0, slots := 0, locals := 45 }) (dC, dI) [.ref a0, .int k1, .int k2] sz (bX6 a0 up kp p_p []) (tX6 kp ([])) (fun (r : Int32) _ => r = out) 0 0 := by
  refine Met.ofW (cc := cX6_wishFor) (maxL := 3) (ret := (some .int)) (by decide) rfl ?_
  intro p e s m args below meth c s₁ B0 hml hv
  obtain ⟨rfl, hsz, hP, hK, hD0, hN⟩ := hv
  have hx := B0.exec
  have hb := B0.bytes
  have hr := B0.returns
  have hts := atoms_spec (ws := vfX6_wishFor) B0.pre
  have hown : s.vm.findClass RX6 = some m.cls := findClass_of_methodNamed B0.named
  have hlocks := B0.notSynchronized
  subst hsz
  have hD := hD0.self (sz := s.heap.size)
  generalize hAe : va_A (bX6 a0 up kp p_p []) s.heap.size = A at hD ⊢
  have hA : ∀ q : Nat, s.heap.size ≤ q → A q := fun q h => by rw [← hAe]; exact Or.inr h
  have hS : va_S A s.heap s.heap [] := va_S.rf
  have hP : va_P (dC, dI) vwCl (bX6 a0 up kp p_p []) s.heap := hP
  have hl := lv_entry ([.ref a0, .int k1, .int k2]) (n := 3) (Nat.le_of_ble_eq_true rfl)
  rw [lg_entry_eq]
  generalize (lg_sl ([.ref a0, .int k1, .int k2]) ++ List.replicate (3 - (lg_sl ([.ref a0, .int k1, .int k2])).length) Slot.unset).toArray = ls at hl ⊢
  have hl : lv_has ls 3 [(0, .ref a0), (1, .int k1), (2, .int k2)] := hl
  refine W_q (fun QQ hQQ => ?_)
  rw [f_X6_wishFor] at h
  refine lv_aload_n hx hb (zat zrX6_wishFor_0_ok 0 rfl) rfl (lv_at hl 0 rfl) ?_
  refine lv_iload_n hx hb (zat zrX6_wishFor_0_ok 1 rfl) rfl (lv_at hl 1 rfl) ?_
  refine lv_aload_n hx hb (zat zrX6_wishFor_0_ok 2 rfl) rfl (lv_at hl 0 rfl) ?_
  refine va_get (D := (dC, dI)) (ci := 4) (v := .ref (up 4)) (C := RX6) (T := TX6) (N := 18) hx hb hts ifX6_wishFor_X6 hown hK hP 0 rfl rfl 13 (by decide) (hts (.fieldLink RX6 52 "HookPier$Plan" "hunger" "[I") (List.mem_of_getElem? (i := 1) rfl)) (fun _ h9 => h9) rfl (zat zrX6_wishFor_0_ok 3 rfl) ?_
  refine lv_iload_n hx hb (zat zrX6_wishFor_0_ok 4 rfl) rfl (lv_at hl 1 rfl) ?_
  obtain ⟨hg7, h⟩ := gA_of h
  refine va_iald hx hb hK hP 5 4 rfl rfl hg7 (zat zrX6_wishFor_0_ok 5 rfl) ?_
  refine lv_iload_n hx hb (zat zrX6_wishFor_0_ok 6 rfl) rfl (lv_at hl 2 rfl) ?_
  obtain ⟨o9, eo9, h⟩ := bd_of h
  refine ck_i (wc := (bX6 a0 up kp p_p [])) (wr := []) hP hD hK hS hA [0, 1, 2, 3, 4, 5, 6, 7, 8, 9] [] rfl rfl (by decide) (by decide) (by decide) (fun hPc hDc => (va_runV (As := [.int k1, .int (p_p.2.2.2.2.2.2.2.2.2.2.2.2.2.1 (k1).toNatClampNeg), .int k2]) (rest := []) ⟨hx, hb, hml, hown, hts⟩ (kfX6_wishBy l dC dI a0 k1 (p_p.2.2.2.2.2.2.2.2.2.2.2.2.2.1 (k1).toNatClampNeg) k2 up kp p_p s.heap.size o9 eo9) (cwV 3 hts gfX6_wishFor_0 rfl rfl rfl (by decide +kernel) ⟨(Nat.le_of_ble_eq_true rfl), (Nat.le_of_ble_eq_true rfl)⟩) (PV hPc (hK.sub (tys' := (tX6 kp ([]))) [0, 1, 2, 3, 4, 5, 6, 7, 8] rfl) hDc hN 0 rfl rfl) rfl rfl hl.1 rfl (lv_room (Nat.le_of_ble_eq_true rfl)) (zat zrX6_wishFor_0_ok 7 rfl) ⟨(Nat.le_of_ble_eq_true rfl), (Nat.le_of_ble_eq_true rfl)⟩)) (fun r9 _ H locs hw hP hD _ hS => ?_)
  obtain rfl := hw.symm
  obtain ⟨hP, hD⟩ := pd_mk (bX6 a0 up kp p_p []) hP hD
  obtain rfl := Option.some.inj h
  obtain ⟨hP9, hD9⟩ := pd_sub (bX6 a0 up kp p_p []) [0, 1, 2, 3, 4, 5, 6, 7, 8, 9] hP hD (by decide) rfl
  have hK9 := hK.sub (tys' := []) [] rfl
  rw [hQQ]
  exact W.iret (v := o9) hx hb hr (fun t ht hW => ⟨⟨o9, (), rfl, rfl, by rw [ht]; exact hP9, va_K.moved hW.alike hK9, hD9⟩, hS.F ht⟩) hS.2.2 (zat zrX6_wishFor_0_ok 8 rfl)
noncomputable def zrX1_taker_0 : List ZR := zc 0 true (.iconst 0) 1 (zc 1 true (.istore_n 3) 1 (zc 2 true (.iload_n 3) 1 (zc 3 true (.aload_n 0) 1 (zc 4 true (.getfield 92) 3 (zc 7 true (.if_icmp .ge 33) 3 (zc 10 true (.aload_n 1) 1 (zc 11 true (.getfield 95) 3 (zc 14 true (.iload_n 3) 1 (zc 15 true (.iaload) 1 (zc 16 true (.ifCond .ne 18) 3 (zc 19 true (.aload_n 1) 1 (zc 20 true (.invokevirtual 98) 3 (zc 23 true (.aload_n 0) 1 (zc 24 true (.iload_n 3) 1 (zc 25 true (.iload_n 2) 1 (zc 26 true (.invokevirtual 102) 3 (zc 29 true (.if_icmp .ge 5) 3 (zc 32 true (.iload_n 3) 1 (zc 33 true (.ireturn) 1 (zc 34 true (.iinc 3 1) 3 (zc 37 true (.goto (-35)) 3 (zc 40 true (.iconst (-1)) 1 (zc 41 true (.ireturn) 1 ([]))))))))))))))))))))))))
theorem zrX1_taker_0_ok : zck 0 ((zby cX1_taker).drop 0) zrX1_taker_0 = true := by decide +kernel
def vfX1_taker : List Cond := List.cons (.code yX1_taker cX1_taker 4 (some .int)) (apW [.fieldLink RX1 92 "HookPier$Plan" "answers" "I", .fieldLink RX1 95 "HookPier$Now" "stage" "[I", .methodLink RX1 98 yX4_draw, .instanceMethod yX4_draw, .selects RX4 yX4_draw yX4_draw, .initialized RX4, .methodLink RX1 102 yX6_wishFor, .instanceMethod yX6_wishFor, .selects RX6 yX6_wishFor yX6_wishFor, .initialized RX6] (apW wsX60 (apW wsX40 (apW vfX4_draw (vfX6_wishFor)))))
theorem ifX1_taker_X6 : ∀ w ∈ wsX60, w ∈ vfX1_taker := fun _ h => (List.mem_cons_of_mem _ (List.mem_append_right _ (List.mem_append_left _ h)))
theorem ifX1_taker_X4 : ∀ w ∈ wsX40, w ∈ vfX1_taker := fun _ h => (List.mem_cons_of_mem _ (List.mem_append_right _ (List.mem_append_right _ (List.mem_append_left _ h))))
theorem qfX1_taker : Good vfX1_taker := gd_cons (by decide +kernel) (gd_app (gd_dec (by decide +kernel) : Good [.fieldLink RX1 92 "HookPier$Plan" "answers" "I", .fieldLink RX1 95 "HookPier$Now" "stage" "[I", .methodLink RX1 98 yX4_draw, .instanceMethod yX4_draw, .selects RX4 yX4_draw yX4_draw, .initialized RX4, .methodLink RX1 102 yX6_wishFor, .instanceMethod yX6_wishFor, .selects RX6 yX6_wishFor yX6_wishFor, .initialized RX6]) (gd_app qsX6 (gd_app qsX4 (gd_app qfX4_draw qfX6_wishFor))))
theorem gfX1_taker_0 : GoodIn vfX1_taker (wsV RX1 98 RX4 yX4_draw vfX4_draw) := goodIn_app (goodIn_r [.methodLink RX1 98 yX4_draw, .instanceMethod yX4_draw, .selects RX4 yX4_draw yX4_draw, .initialized RX4] [3, 4, 5, 6] rfl (by decide +kernel)) (goodIn_m (fun _ h => (List.mem_cons_of_mem _ (List.mem_append_right _ (List.mem_append_right _ (List.mem_append_right _ (List.mem_append_left _ h)))))) qfX4_draw)
theorem gfX1_taker_1 : GoodIn vfX1_taker (wsV RX1 102 RX6 yX6_wishFor vfX6_wishFor) := goodIn_app (goodIn_r [.methodLink RX1 102 yX6_wishFor, .instanceMethod yX6_wishFor, .selects RX6 yX6_wishFor yX6_wishFor, .initialized RX6] [7, 8, 9, 10] rfl (by decide +kernel)) (goodIn_m (fun _ h => (List.mem_cons_of_mem _ (List.mem_append_right _ (List.mem_append_right _ (List.mem_append_right _ (List.mem_append_right _ h)))))) qfX6_wishFor)
set_option maxHeartbeats 2000000 in
set_option maxRecDepth 100000 in
theorem kfX1_taker (l : Launch) (dC : Nat → ClassId) (dI : Nat → Nat → Nat) (a0 : Nat) (a1 : Nat) (k2 : Int32) (up : Nat → Nat) (kp : Nat → ClassId) (un : Nat → Nat) (kn : Nat → ClassId) (p_p : TX6_p) (n_n : TX4_n) (sz : Nat) (out : (Int32 × TX4_n)) (h : f_X1_taker k2 p_p n_n = some out) : KCi l yX1_taker vfX1_taker ({ frames := 3, cells := 0, slots := 0, locals := 67 }) (dC, dI) [.ref a0, .ref a1, .int k2] sz (bX6 a0 up kp p_p (bX4 a1 un kn n_n [])) (tX6 kp (tX4 kn ([]))) (fun (r : Int32) _ => r = out.1) (bX6 a0 up kp p_p (bX4 a1 un kn out.2 [])) 0 0 := by
  refine Met.ofW (cc := cX1_taker) (maxL := 4) (ret := (some .int)) (by decide) rfl ?_
  intro p e s m args below meth c s₁ B0 hml hv
  obtain ⟨rfl, hsz, hP, hK, hD0, hN⟩ := hv
  have hx := B0.exec
  have hb := B0.bytes
  have hr := B0.returns
  have hts := atoms_spec (ws := vfX1_taker) B0.pre
  have hown : s.vm.findClass RX1 = some m.cls := findClass_of_methodNamed B0.named
  have hlocks := B0.notSynchronized
  subst hsz
  have hD := hD0.self (sz := s.heap.size)
  generalize hAe : va_A (bX6 a0 up kp p_p (bX4 a1 un kn n_n [])) s.heap.size = A at hD ⊢
  have hA : ∀ q : Nat, s.heap.size ≤ q → A q := fun q h => by rw [← hAe]; exact Or.inr h
  have hS : va_S A s.heap s.heap [] := va_S.rf
  have hP : va_P (dC, dI) vwCl (bX6 a0 up kp p_p (bX4 a1 un kn n_n [])) s.heap := hP
  have hl := lv_entry ([.ref a0, .ref a1, .int k2]) (n := 4) (Nat.le_of_ble_eq_true rfl)
  rw [lg_entry_eq]
  generalize (lg_sl ([.ref a0, .ref a1, .int k2]) ++ List.replicate (4 - (lg_sl ([.ref a0, .ref a1, .int k2])).length) Slot.unset).toArray = ls at hl ⊢
  have hl : lv_has ls 4 [(0, .ref a0), (1, .ref a1), (2, .int k2)] := hl
  refine W_q (fun QQ hQQ => ?_)
  rw [f_X1_taker] at h
  refine lv_iconst (v := 0) hx hb (zat zrX1_taker_0_ok 0 rfl) (by decide) ?_
  refine lv_istore_n (lv' := [(3, .int 0), (0, .ref a0), (1, .ref a1), (2, .int k2)]) hx hb (zat zrX1_taker_0_ok 1 rfl) rfl hl (by decide) rfl (fun ls hl => ?_)
  have L2 : ∀ (n2 : Nat) (v2_l3 : Int32) (v2_n_n : TX4_n) (H : Heap) (locs : List Loc) (ls : Array Slot), f_X1_taker_L2 k2 p_p n2 v2_l3 v2_n_n = some out → va_P (dC, dI) vwCl (bX6 a0 up kp p_p (bX4 a1 un kn v2_n_n [])) H → va_D A (bX6 a0 up kp p_p (bX4 a1 un kn v2_n_n [])) → va_S A s.heap H locs → lv_has ls 4 [(3, .int v2_l3), (0, .ref a0), (1, .ref a1), (2, .int k2)] → W p l e (headSpec vfX1_taker { frames := 3, cells := 0, slots := 0, locals := 67 }).room s m ([.ref a0, .ref a1, .int k2]).toArray below meth c H locs 0 0 QQ (F0 m 2 ls []) := by
    intro n2
    induction n2 with
    | zero =>
      intro v2_l3 v2_n_n H locs ls h  _ _ _ _
      rw [f_X1_taker_L2] at h
      cases h
    | succ n2 ih2 =>
      intro v2_l3 v2_n_n H locs ls h  hP hD hS hl
      rw [f_X1_taker_L2] at h
      refine lv_iload_n hx hb (zat zrX1_taker_0_ok 2 rfl) rfl (lv_at hl 0 rfl) ?_
      refine lv_aload_n hx hb (zat zrX1_taker_0_ok 3 rfl) rfl (lv_at hl 1 rfl) ?_
      refine va_get (D := (dC, dI)) (ci := 4) (v := .int p_p.2.2.2.2.2.2.1) (C := RX6) (T := TX6) (N := 18) hx hb hts ifX1_taker_X6 hown hK hP 0 rfl rfl 6 (by decide) (hts (.fieldLink RX1 92 "HookPier$Plan" "answers" "I") (List.mem_of_getElem? (i := 1) rfl)) (fun _ h9 => h9) rfl (zat zrX1_taker_0_ok 4 rfl) ?_
      refine lv_icmp_ge (tgt := 40) hx hb (zat zrX1_taker_0_ok 5 rfl) (by decide) (fun c7 => ?_) (fun c7 => ?_)
      · have h := (if_pos c7).symm.trans h
        refine lv_iconst (v := (-1)) hx hb (zat zrX1_taker_0_ok 22 rfl) (by decide) ?_
        obtain rfl := Option.some.inj h
        obtain ⟨hP9, hD9⟩ := pd_sub (bX6 a0 up kp p_p (bX4 a1 un kn v2_n_n [])) [0, 1, 2, 3, 4, 5, 6, 7, 8, 9, 10, 11, 12, 13, 14] hP hD (by decide) rfl
        have hK9 := hK.sub (tys' := []) [] rfl
        rw [hQQ]
        exact W.iret (v := (-1 : Int32)) hx hb hr (fun t ht hW => ⟨⟨(-1 : Int32), (), rfl, rfl, by rw [ht]; exact hP9, va_K.moved hW.alike hK9, hD9⟩, hS.F ht⟩) hS.2.2 (zat zrX1_taker_0_ok 23 rfl)
      · have h := (if_neg c7).symm.trans h
        refine lv_aload_n hx hb (zat zrX1_taker_0_ok 6 rfl) rfl (lv_at hl 2 rfl) ?_
        refine va_get (D := (dC, dI)) (ci := 3) (v := .ref (un 0)) (C := RX4) (T := TX4) (N := 7) hx hb hts ifX1_taker_X4 hown hK hP 10 rfl rfl 3 (by decide) (hts (.fieldLink RX1 95 "HookPier$Now" "stage" "[I") (List.mem_of_getElem? (i := 2) rfl)) (fun _ h9 => h9) rfl (zat zrX1_taker_0_ok 7 rfl) ?_
        refine lv_iload_n hx hb (zat zrX1_taker_0_ok 8 rfl) rfl (lv_at hl 0 rfl) ?_
        obtain ⟨hg15, h⟩ := gA_of h
        refine va_iald hx hb hK hP 11 9 rfl rfl hg15 (zat zrX1_taker_0_ok 9 rfl) ?_
        have J34 : ∀ (v34_n_n : TX4_n) (H : Heap) (locs : List Loc) (ls : Array Slot), f_X1_taker_J34 (f_X1_taker_L2 k2 p_p n2) v2_l3 v34_n_n = some out → va_P (dC, dI) vwCl (bX6 a0 up kp p_p (bX4 a1 un kn v34_n_n [])) H → va_D A (bX6 a0 up kp p_p (bX4 a1 un kn v34_n_n [])) → va_S A s.heap H locs → lv_has ls 4 [(3, .int v2_l3), (0, .ref a0), (1, .ref a1), (2, .int k2)] → W p l e (headSpec vfX1_taker { frames := 3, cells := 0, slots := 0, locals := 67 }).room s m ([.ref a0, .ref a1, .int k2]).toArray below meth c H locs 0 0 QQ (F0 m 34 ls []) := by
          intro v34_n_n H locs ls h  hP hD hS hl
          rw [f_X1_taker_J34] at h
          refine lv_iinc (v := (v2_l3 + (1 : Int32))) (lv' := [(3, .int (v2_l3 + (1 : Int32))), (0, .ref a0), (1, .ref a1), (2, .int k2)]) hx hb (zat zrX1_taker_0_ok 20 rfl) hl (k := 0) rfl rfl (by decide) rfl (fun ls hl => ?_)
          refine lv_goto (tgt := 2) hx hb (zat zrX1_taker_0_ok 21 rfl) (by decide) ?_
          exact ih2 (v2_l3 + (1 : Int32)) v34_n_n H _ ls h  hP hD hS (lv_sub hl [0, 1, 2, 3] rfl)
        refine lv_if_ne (tgt := 34) hx hb (zat zrX1_taker_0_ok 10 rfl) (by decide) (fun c16 => ?_) (fun c16 => ?_)
        · have h := (if_neg c16).symm.trans h
          exact J34 v2_n_n H _ ls h  hP hD hS (lv_sub hl [0, 1, 2, 3] rfl)
        · have h := (if_pos c16).symm.trans h
          refine lv_aload_n hx hb (zat zrX1_taker_0_ok 11 rfl) rfl (lv_at hl 2 rfl) ?_
          obtain ⟨o20, eo20⟩ : ∃ o, o = f_X4_draw v2_n_n := ⟨_, rfl⟩
          have h := nm_of h o20 eo20
          refine ck_i (wc := (bX4 a1 un kn v2_n_n [])) (wr := (bX6 a0 up kp p_p [])) hP hD hK hS hA [10, 11, 12, 13, 14] [0, 1, 2, 3, 4, 5, 6, 7, 8, 9] rfl rfl (by decide) (by decide) (by decide) (fun hPc hDc => (va_runV (As := []) (rest := []) ⟨hx, hb, hml, hown, hts⟩ (kfX4_draw l dC dI a1 un kn v2_n_n H.size o20 eo20.symm) (cwV 0 hts gfX1_taker_0 rfl rfl rfl (by decide +kernel) ⟨(Nat.le_of_ble_eq_true rfl), (Nat.le_of_ble_eq_true rfl)⟩) (PV hPc (hK.sub (tys' := (tX4 kn ([]))) [9, 10, 11, 12] rfl) hDc hN 0 rfl rfl) rfl rfl hl.1 rfl (lv_room (Nat.le_of_ble_eq_true rfl)) (zat zrX1_taker_0_ok 12 rfl) ⟨(Nat.le_of_ble_eq_true rfl), (Nat.le_of_ble_eq_true rfl)⟩)) (fun r20 _ H locs hw hP hD _ hS => ?_)
          obtain rfl := hw
          obtain ⟨hP, hD⟩ := pd_mk (bX6 a0 up kp p_p (bX4 a1 un kn o20.2 [])) hP hD
          refine lv_aload_n hx hb (zat zrX1_taker_0_ok 13 rfl) rfl (lv_at hl 1 rfl) ?_
          refine lv_iload_n hx hb (zat zrX1_taker_0_ok 14 rfl) rfl (lv_at hl 0 rfl) ?_
          refine lv_iload_n hx hb (zat zrX1_taker_0_ok 15 rfl) rfl (lv_at hl 3 rfl) ?_
          obtain ⟨o26, eo26, h⟩ := bd_of h
          refine ck_i (wc := (bX6 a0 up kp p_p [])) (wr := (bX4 a1 un kn o20.2 [])) hP hD hK hS hA [0, 1, 2, 3, 4, 5, 6, 7, 8, 9] [10, 11, 12, 13, 14] rfl rfl (by decide) (by decide) (by decide) (fun hPc hDc => (va_runV (As := [.int v2_l3, .int k2]) (rest := [.int o20.1]) ⟨hx, hb, hml, hown, hts⟩ (kfX6_wishFor l dC dI a0 v2_l3 k2 up kp p_p H.size o26 eo26) (cwV 2 hts gfX1_taker_1 rfl rfl rfl (by decide +kernel) ⟨(Nat.le_of_ble_eq_true rfl), (Nat.le_of_ble_eq_true rfl)⟩) (PV hPc (hK.sub (tys' := (tX6 kp ([]))) [0, 1, 2, 3, 4, 5, 6, 7, 8] rfl) hDc hN 0 rfl rfl) rfl rfl hl.1 rfl (lv_room (Nat.le_of_ble_eq_true rfl)) (zat zrX1_taker_0_ok 16 rfl) ⟨(Nat.le_of_ble_eq_true rfl), (Nat.le_of_ble_eq_true rfl)⟩)) (fun r26 _ H locs hw hP hD _ hS => ?_)
          obtain rfl := hw.symm
          obtain ⟨hP, hD⟩ := pd_mk (bX4 a1 un kn o20.2 (bX6 a0 up kp p_p [])) hP hD
          refine lv_icmp_ge (tgt := 34) hx hb (zat zrX1_taker_0_ok 17 rfl) (by decide) (fun c29 => ?_) (fun c29 => ?_)
          · have h := (if_pos c29).symm.trans h
            exact J34 o20.2 H _ ls h  (hP.sub (ws' := (bX6 a0 up kp p_p (bX4 a1 un kn o20.2 []))) [5, 6, 7, 8, 9, 10, 11, 12, 13, 14, 0, 1, 2, 3, 4] rfl) (hD.sub (ws' := (bX6 a0 up kp p_p (bX4 a1 un kn o20.2 []))) [5, 6, 7, 8, 9, 10, 11, 12, 13, 14, 0, 1, 2, 3, 4] (by decide) rfl) hS (lv_sub hl [0, 1, 2, 3] rfl)
          · have h := (if_neg c29).symm.trans h
            refine lv_iload_n hx hb (zat zrX1_taker_0_ok 18 rfl) rfl (lv_at hl 0 rfl) ?_
            obtain rfl := Option.some.inj h
            obtain ⟨hP9, hD9⟩ := pd_sub (bX6 a0 up kp p_p (bX4 a1 un kn o20.2 [])) [5, 6, 7, 8, 9, 10, 11, 12, 13, 14, 0, 1, 2, 3, 4] hP hD (by decide) rfl
            have hK9 := hK.sub (tys' := []) [] rfl
            rw [hQQ]
            exact W.iret (v := v2_l3) hx hb hr (fun t ht hW => ⟨⟨v2_l3, (), rfl, rfl, by rw [ht]; exact hP9, va_K.moved hW.alike hK9, hD9⟩, hS.F ht⟩) hS.2.2 (zat zrX1_taker_0_ok 19 rfl)
  exact L2 FU (0 : Int32) n_n s.heap _ ls h  hP hD hS (lv_sub hl [0, 1, 2, 3] rfl)
noncomputable def zrX4_land_0 : List ZR := zc 0 true (.aload_n 0) 1 (zc 1 true (.getfield 21) 3 (zc 4 true (.iload_n 1) 1 (zc 5 true (.iconst 1) 1 (zc 6 true (.iastore) 1 (zc 7 true (.aload_n 0) 1 (zc 8 true (.getfield 25) 3 (zc 11 true (.iload_n 1) 1 (zc 12 true (.aload_n 0) 1 (zc 13 true (.getfield 9) 3 (zc 16 true (.iastore) 1 (zc 17 true (.aload_n 0) 1 (zc 18 true (.getfield 28) 3 (zc 21 true (.iload_n 1) 1 (zc 22 true (.iload_n 2) 1 (zc 23 true (.iastore) 1 (zc 24 true (.return_) 1 ([])))))))))))))))))
theorem zrX4_land_0_ok : zck 0 ((zby cX4_land).drop 0) zrX4_land_0 = true := by decide +kernel
def vfX4_land : List Cond := List.cons (.code yX4_land cX4_land 3 none) (apW [.fieldLink RX4 21 "HookPier$Now" "stage" "[I", .fieldLink RX4 25 "HookPier$Now" "landedOn" "[I", .fieldLink RX4 9 "HookPier$Now" "today" "I", .fieldLink RX4 28 "HookPier$Now" "landedBy" "[I"] (wsX40))
theorem ifX4_land_X4 : ∀ w ∈ wsX40, w ∈ vfX4_land := fun _ h => (List.mem_cons_of_mem _ (List.mem_append_right _ h))
theorem qfX4_land : Good vfX4_land := gd_cons (by decide +kernel) (gd_app (gd_dec (by decide +kernel) : Good [.fieldLink RX4 21 "HookPier$Now" "stage" "[I", .fieldLink RX4 25 "HookPier$Now" "landedOn" "[I", .fieldLink RX4 9 "HookPier$Now" "today" "I", .fieldLink RX4 28 "HookPier$Now" "landedBy" "[I"]) qsX4)
set_option maxHeartbeats 2000000 in
set_option maxRecDepth 100000 in
theorem kfX4_land (l : Launch) (dC : Nat → ClassId) (dI : Nat → Nat → Nat) (a0 : Nat) (k1 : Int32) (k2 : Int32) (un : Nat → Nat) (kn : Nat → ClassId) (n_n : TX4_n) (sz : Nat) (out : TX4_n) (h : f_X4_land k1 k2 n_n = some out) : KCv l yX4_land vfX4_land ({ frames := 0, cells := 0, slots := 0, locals := 0 }) (dC, dI) [.ref a0, .int k1, .int k2] sz (bX4 a0 un kn n_n []) (tX4 kn ([])) (fun _ => True) (bX4 a0 un kn out []) 0 0 := by
  refine Met.ofW (cc := cX4_land) (maxL := 3) (ret := none) (by decide) rfl ?_
  intro p e s m args below meth c s₁ B0 hml hv
  obtain ⟨rfl, hsz, hP, hK, hD0, hN⟩ := hv
  have hx := B0.exec
  have hb := B0.bytes
  have hr := B0.returns
  have hts := atoms_spec (ws := vfX4_land) B0.pre
  have hown : s.vm.findClass RX4 = some m.cls := findClass_of_methodNamed B0.named
  have hlocks := B0.notSynchronized
  subst hsz
  have hD := hD0.self (sz := s.heap.size)
  generalize hAe : va_A (bX4 a0 un kn n_n []) s.heap.size = A at hD ⊢
  have hA : ∀ q : Nat, s.heap.size ≤ q → A q := fun q h => by rw [← hAe]; exact Or.inr h
  have hS : va_S A s.heap s.heap [] := va_S.rf
  have hP : va_P (dC, dI) vwCl (bX4 a0 un kn n_n []) s.heap := hP
  have hl := lv_entry ([.ref a0, .int k1, .int k2]) (n := 3) (Nat.le_of_ble_eq_true rfl)
  rw [lg_entry_eq]
  generalize (lg_sl ([.ref a0, .int k1, .int k2]) ++ List.replicate (3 - (lg_sl ([.ref a0, .int k1, .int k2])).length) Slot.unset).toArray = ls at hl ⊢
  have hl : lv_has ls 3 [(0, .ref a0), (1, .int k1), (2, .int k2)] := hl
  refine W_q (fun QQ hQQ => ?_)
  rw [f_X4_land] at h
  refine lv_aload_n hx hb (zat zrX4_land_0_ok 0 rfl) rfl (lv_at hl 0 rfl) ?_
  refine va_get (D := (dC, dI)) (ci := 3) (v := .ref (un 0)) (C := RX4) (T := TX4) (N := 7) hx hb hts ifX4_land_X4 hown hK hP 0 rfl rfl 3 (by decide) (hts (.fieldLink RX4 21 "HookPier$Now" "stage" "[I") (List.mem_of_getElem? (i := 1) rfl)) (fun _ h9 => h9) rfl (zat zrX4_land_0_ok 1 rfl) ?_
  refine lv_iload_n hx hb (zat zrX4_land_0_ok 2 rfl) rfl (lv_at hl 1 rfl) ?_
  refine lv_iconst (v := 1) hx hb (zat zrX4_land_0_ok 3 rfl) (by decide) ?_
  obtain ⟨hg6, h⟩ := gA_of h
  refine va_iast hx hb hK hP hD hS 1 0 rfl rfl hg6 (zat zrX4_land_0_ok 4 rfl) (fun H locs hP hD hS => ?_)
  obtain ⟨hP, hD⟩ := pd_mk (bX4 a0 un kn (n_n.1, n_n.2.1, n_n.2.2.1, (upd n_n.2.2.2.1 (k1).toNatClampNeg (1 : Int32)), n_n.2.2.2.2) []) hP hD
  refine lv_aload_n hx hb (zat zrX4_land_0_ok 5 rfl) rfl (lv_at hl 0 rfl) ?_
  refine va_get (D := (dC, dI)) (ci := 3) (v := .ref (un 1)) (C := RX4) (T := TX4) (N := 7) hx hb hts ifX4_land_X4 hown hK hP 0 rfl rfl 4 (by decide) (hts (.fieldLink RX4 25 "HookPier$Now" "landedOn" "[I") (List.mem_of_getElem? (i := 2) rfl)) (fun _ h9 => h9) rfl (zat zrX4_land_0_ok 6 rfl) ?_
  refine lv_iload_n hx hb (zat zrX4_land_0_ok 7 rfl) rfl (lv_at hl 1 rfl) ?_
  refine lv_aload_n hx hb (zat zrX4_land_0_ok 8 rfl) rfl (lv_at hl 0 rfl) ?_
  refine va_get (D := (dC, dI)) (ci := 3) (v := .int n_n.1) (C := RX4) (T := TX4) (N := 7) hx hb hts ifX4_land_X4 hown hK hP 0 rfl rfl 0 (by decide) (hts (.fieldLink RX4 9 "HookPier$Now" "today" "I") (List.mem_of_getElem? (i := 3) rfl)) (fun _ h9 => h9) rfl (zat zrX4_land_0_ok 9 rfl) ?_
  obtain ⟨hg16, h⟩ := gA_of h
  refine va_iast hx hb hK hP hD hS 2 1 rfl rfl hg16 (zat zrX4_land_0_ok 10 rfl) (fun H locs hP hD hS => ?_)
  obtain ⟨hP, hD⟩ := pd_mk (bX4 a0 un kn (n_n.1, n_n.2.1, n_n.2.2.1, (upd n_n.2.2.2.1 (k1).toNatClampNeg (1 : Int32)), (upd n_n.2.2.2.2.1 (k1).toNatClampNeg n_n.1), n_n.2.2.2.2.2) []) hP hD
  refine lv_aload_n hx hb (zat zrX4_land_0_ok 11 rfl) rfl (lv_at hl 0 rfl) ?_
  refine va_get (D := (dC, dI)) (ci := 3) (v := .ref (un 2)) (C := RX4) (T := TX4) (N := 7) hx hb hts ifX4_land_X4 hown hK hP 0 rfl rfl 5 (by decide) (hts (.fieldLink RX4 28 "HookPier$Now" "landedBy" "[I") (List.mem_of_getElem? (i := 4) rfl)) (fun _ h9 => h9) rfl (zat zrX4_land_0_ok 12 rfl) ?_
  refine lv_iload_n hx hb (zat zrX4_land_0_ok 13 rfl) rfl (lv_at hl 1 rfl) ?_
  refine lv_iload_n hx hb (zat zrX4_land_0_ok 14 rfl) rfl (lv_at hl 2 rfl) ?_
  obtain ⟨hg23, h⟩ := gA_of h
  refine va_iast hx hb hK hP hD hS 3 2 rfl rfl hg23 (zat zrX4_land_0_ok 15 rfl) (fun H locs hP hD hS => ?_)
  obtain ⟨hP, hD⟩ := pd_mk (bX4 a0 un kn (n_n.1, n_n.2.1, n_n.2.2.1, (upd n_n.2.2.2.1 (k1).toNatClampNeg (1 : Int32)), (upd n_n.2.2.2.2.1 (k1).toNatClampNeg n_n.1), (upd n_n.2.2.2.2.2.1 (k1).toNatClampNeg k2), n_n.2.2.2.2.2.2) []) hP hD
  obtain rfl := Option.some.inj h
  obtain ⟨hP9, hD9⟩ := pd_sub (bX4 a0 un kn (n_n.1, n_n.2.1, n_n.2.2.1, (upd n_n.2.2.2.1 (k1).toNatClampNeg (1 : Int32)), (upd n_n.2.2.2.2.1 (k1).toNatClampNeg n_n.1), (upd n_n.2.2.2.2.2.1 (k1).toNatClampNeg k2), n_n.2.2.2.2.2.2) []) [0, 1, 2, 3, 4] hP hD (by decide) rfl
  have hK9 := hK.sub (tys' := []) [] rfl
  rw [hQQ]
  exact W.vret hx hb hr (fun t ht hW => ⟨⟨(), rfl, trivial, by rw [ht]; exact hP9, va_K.moved hW.alike hK9, hD9⟩, hS.F ht⟩) hS.2.2 (zat zrX4_land_0_ok 16 rfl)
noncomputable def zrX1_taken_0 : List ZR := zc 0 true (.aload_n 2) 1 (zc 1 true (.getfield 68) 3 (zc 4 true (.iload_n 3) 1 (zc 5 true (.iconst (-1)) 1 (zc 6 true (.iastore) 1 (zc 7 true (.aload_n 1) 1 (zc 8 true (.getfield 86) 3 (zc 11 true (.iload 4) 2 (zc 13 true (.iaload) 1 (zc 14 true (.iconst 2) 1 (zc 15 true (.if_icmp .ne 15) 3 (zc 18 true (.aload_n 0) 1 (zc 19 true (.dup) 1 (zc 20 true (.getfield 22) 3 (zc 23 true (.iconst 1) 1 (zc 24 true (.iadd) 1 (zc 25 true (.putfield 22) 3 (zc 28 true (.iconst 0) 1 (zc 29 true (.ireturn) 1 (zc 30 true (.aload_n 2) 1 (zc 31 true (.iload 4) 2 (zc 33 true (.iload_n 3) 1 (zc 34 true (.invokevirtual 89) 3 (zc 37 true (.iconst 1) 1 (zc 38 true (.iload 4) 2 (zc 40 true (.ishl) 1 (zc 41 true (.ireturn) 1 ([])))))))))))))))))))))))))))
theorem zrX1_taken_0_ok : zck 0 ((zby cX1_taken).drop 0) zrX1_taken_0 = true := by decide +kernel
def vfX1_taken : List Cond := List.cons (.code yX1_taken cX1_taken 5 (some .int)) (apW [.fieldLink RX1 68 "HookPier$Now" "line" "[I", .fieldLink RX1 86 "HookPier$Plan" "kind" "[I", .methodLink RX1 89 yX4_land, .instanceMethod yX4_land, .selects RX4 yX4_land yX4_land, .initialized RX4, .fieldLink RX1 22 "HookPier$Days" "crabTakes" "I"] (apW wsX40 (apW wsX60 (apW wsX10 (vfX4_land)))))
theorem ifX1_taken_X4 : ∀ w ∈ wsX40, w ∈ vfX1_taken := fun _ h => (List.mem_cons_of_mem _ (List.mem_append_right _ (List.mem_append_left _ h)))
theorem ifX1_taken_X6 : ∀ w ∈ wsX60, w ∈ vfX1_taken := fun _ h => (List.mem_cons_of_mem _ (List.mem_append_right _ (List.mem_append_right _ (List.mem_append_left _ h))))
theorem ifX1_taken_X1 : ∀ w ∈ wsX10, w ∈ vfX1_taken := fun _ h => (List.mem_cons_of_mem _ (List.mem_append_right _ (List.mem_append_right _ (List.mem_append_right _ (List.mem_append_left _ h)))))
theorem qfX1_taken : Good vfX1_taken := gd_cons (by decide +kernel) (gd_app (gd_dec (by decide +kernel) : Good [.fieldLink RX1 68 "HookPier$Now" "line" "[I", .fieldLink RX1 86 "HookPier$Plan" "kind" "[I", .methodLink RX1 89 yX4_land, .instanceMethod yX4_land, .selects RX4 yX4_land yX4_land, .initialized RX4, .fieldLink RX1 22 "HookPier$Days" "crabTakes" "I"]) (gd_app qsX4 (gd_app qsX6 (gd_app qsX1 qfX4_land))))
theorem gfX1_taken_0 : GoodIn vfX1_taken (wsV RX1 89 RX4 yX4_land vfX4_land) := goodIn_app (goodIn_r [.methodLink RX1 89 yX4_land, .instanceMethod yX4_land, .selects RX4 yX4_land yX4_land, .initialized RX4] [3, 4, 5, 6] rfl (by decide +kernel)) (goodIn_m (fun _ h => (List.mem_cons_of_mem _ (List.mem_append_right _ (List.mem_append_right _ (List.mem_append_right _ (List.mem_append_right _ h)))))) qfX4_land)
set_option maxHeartbeats 2000000 in
set_option maxRecDepth 100000 in
theorem kfX1_taken (l : Launch) (dC : Nat → ClassId) (dI : Nat → Nat → Nat) (a0 : Nat) (a1 : Nat) (a2 : Nat) (k3 : Int32) (k4 : Int32) (a5 : Nat) (up : Nat → Nat) (kp : Nat → ClassId) (un : Nat → Nat) (kn : Nat → ClassId) (y_y : TX1_y) (g11 : Value) (p_p : TX6_p) (n_n : TX4_n) (cB14 : ClassId) (sz : Nat) (out : (Int32 × TX1_y × TX4_n)) (h : f_X1_taken k3 k4 y_y p_p n_n = some out) : KCi l yX1_taken vfX1_taken ({ frames := 1, cells := 0, slots := 0, locals := 22 }) (dC, dI) [.ref a0, .ref a1, .ref a2, .int k3, .int k4] sz ((a0, .inr (1, [g11, .int y_y.1, .int y_y.2.1, .ref a5])) :: bX6 a1 up kp p_p (bX4 a2 un kn n_n ([(a5, .inl (cB14, 6, .inl y_y.2.2))]))) (tX6 kp (tX4 kn ((cB14, .int) :: []))) (fun (r : Int32) _ => r = out.1) ((a0, .inr (1, [g11, .int out.2.1.1, .int out.2.1.2.1, .ref a5])) :: bX6 a1 up kp p_p (bX4 a2 un kn out.2.2 ([(a5, .inl (cB14, 6, .inl out.2.1.2.2))]))) 0 0 := by
  refine Met.ofW (cc := cX1_taken) (maxL := 5) (ret := (some .int)) (by decide) rfl ?_
  intro p e s m args below meth c s₁ B0 hml hv
  obtain ⟨rfl, hsz, hP, hK, hD0, hN⟩ := hv
  have hx := B0.exec
  have hb := B0.bytes
  have hr := B0.returns
  have hts := atoms_spec (ws := vfX1_taken) B0.pre
  have hown : s.vm.findClass RX1 = some m.cls := findClass_of_methodNamed B0.named
  have hlocks := B0.notSynchronized
  subst hsz
  have hD := hD0.self (sz := s.heap.size)
  generalize hAe : va_A ((a0, .inr (1, [g11, .int y_y.1, .int y_y.2.1, .ref a5])) :: bX6 a1 up kp p_p (bX4 a2 un kn n_n ([(a5, .inl (cB14, 6, .inl y_y.2.2))]))) s.heap.size = A at hD ⊢
  have hA : ∀ q : Nat, s.heap.size ≤ q → A q := fun q h => by rw [← hAe]; exact Or.inr h
  have hS : va_S A s.heap s.heap [] := va_S.rf
  have hP : va_P (dC, dI) vwCl ((a0, .inr (1, [g11, .int y_y.1, .int y_y.2.1, .ref a5])) :: bX6 a1 up kp p_p (bX4 a2 un kn n_n ([(a5, .inl (cB14, 6, .inl y_y.2.2))]))) s.heap := hP
  have hl := lv_entry ([.ref a0, .ref a1, .ref a2, .int k3, .int k4]) (n := 5) (Nat.le_of_ble_eq_true rfl)
  rw [lg_entry_eq]
  generalize (lg_sl ([.ref a0, .ref a1, .ref a2, .int k3, .int k4]) ++ List.replicate (5 - (lg_sl ([.ref a0, .ref a1, .ref a2, .int k3, .int k4])).length) Slot.unset).toArray = ls at hl ⊢
  have hl : lv_has ls 5 [(0, .ref a0), (1, .ref a1), (2, .ref a2), (3, .int k3), (4, .int k4)] := hl
  refine W_q (fun QQ hQQ => ?_)
  rw [f_X1_taken] at h
  refine lv_aload_n hx hb (zat zrX1_taken_0_ok 0 rfl) rfl (lv_at hl 2 rfl) ?_
  refine va_get (D := (dC, dI)) (ci := 3) (v := .ref (un 3)) (C := RX4) (T := TX4) (N := 7) hx hb hts ifX1_taken_X4 hown hK hP 11 rfl rfl 6 (by decide) (hts (.fieldLink RX1 68 "HookPier$Now" "line" "[I") (List.mem_of_getElem? (i := 1) rfl)) (fun _ h9 => h9) rfl (zat zrX1_taken_0_ok 1 rfl) ?_
  refine lv_iload_n hx hb (zat zrX1_taken_0_ok 2 rfl) rfl (lv_at hl 3 rfl) ?_
  refine lv_iconst (v := (-1)) hx hb (zat zrX1_taken_0_ok 3 rfl) (by decide) ?_
  obtain ⟨hg6, h⟩ := gA_of h
  refine va_iast hx hb hK hP hD hS 15 12 rfl rfl hg6 (zat zrX1_taken_0_ok 4 rfl) (fun H locs hP hD hS => ?_)
  obtain ⟨hP, hD⟩ := pd_mk ((a0, .inr (1, [g11, .int y_y.1, .int y_y.2.1, .ref a5])) :: bX6 a1 up kp p_p (bX4 a2 un kn (n_n.1, n_n.2.1, n_n.2.2.1, n_n.2.2.2.1, n_n.2.2.2.2.1, n_n.2.2.2.2.2.1, (upd n_n.2.2.2.2.2.2 (k3).toNatClampNeg (-1 : Int32))) ([(a5, .inl (cB14, 6, .inl y_y.2.2))]))) hP hD
  refine lv_aload_n hx hb (zat zrX1_taken_0_ok 5 rfl) rfl (lv_at hl 1 rfl) ?_
  refine va_get (D := (dC, dI)) (ci := 4) (v := .ref (up 1)) (C := RX6) (T := TX6) (N := 18) hx hb hts ifX1_taken_X6 hown hK hP 1 rfl rfl 10 (by decide) (hts (.fieldLink RX1 86 "HookPier$Plan" "kind" "[I") (List.mem_of_getElem? (i := 2) rfl)) (fun _ h9 => h9) rfl (zat zrX1_taken_0_ok 6 rfl) ?_
  refine lv_iload hx hb (zat zrX1_taken_0_ok 7 rfl) (lv_at hl 4 rfl) ?_
  obtain ⟨hg13, h⟩ := gA_of h
  refine va_iald hx hb hK hP 3 1 rfl rfl hg13 (zat zrX1_taken_0_ok 8 rfl) ?_
  refine lv_iconst (v := 2) hx hb (zat zrX1_taken_0_ok 9 rfl) (by decide) ?_
  refine lv_icmp_ne (tgt := 30) hx hb (zat zrX1_taken_0_ok 10 rfl) (by decide) (fun c15 => ?_) (fun c15 => ?_)
  · have h := (if_neg c15).symm.trans h
    refine lv_aload_n hx hb (zat zrX1_taken_0_ok 19 rfl) rfl (lv_at hl 2 rfl) ?_
    refine lv_iload hx hb (zat zrX1_taken_0_ok 20 rfl) (lv_at hl 4 rfl) ?_
    refine lv_iload_n hx hb (zat zrX1_taken_0_ok 21 rfl) rfl (lv_at hl 3 rfl) ?_
    obtain ⟨o34, eo34, h⟩ := bd_of h
    refine ck_v (wc := (bX4 a2 un kn (n_n.1, n_n.2.1, n_n.2.2.1, n_n.2.2.2.1, n_n.2.2.2.2.1, n_n.2.2.2.2.2.1, (upd n_n.2.2.2.2.2.2 (k3).toNatClampNeg (-1 : Int32))) [])) (wr := ((a0, .inr (1, [g11, .int y_y.1, .int y_y.2.1, .ref a5])) :: bX6 a1 up kp p_p ([(a5, .inl (cB14, 6, .inl y_y.2.2))]))) hP hD hK hS hA [11, 12, 13, 14, 15] [0, 1, 2, 3, 4, 5, 6, 7, 8, 9, 10, 16] rfl rfl (by decide) (by decide) (by decide) (fun hPc hDc => (va_runV (As := [.int k4, .int k3]) (rest := []) ⟨hx, hb, hml, hown, hts⟩ (kfX4_land l dC dI a2 k4 k3 un kn (n_n.1, n_n.2.1, n_n.2.2.1, n_n.2.2.2.1, n_n.2.2.2.2.1, n_n.2.2.2.2.2.1, (upd n_n.2.2.2.2.2.2 (k3).toNatClampNeg (-1 : Int32))) H.size o34 eo34) (cwV 2 hts gfX1_taken_0 rfl rfl rfl (by decide +kernel) ⟨(Nat.le_of_ble_eq_true rfl), (Nat.le_of_ble_eq_true rfl)⟩) (PV hPc (hK.sub (tys' := (tX4 kn ([]))) [9, 10, 11, 12] rfl) hDc hN 0 rfl rfl) rfl rfl hl.1 rfl (lv_room (Nat.le_of_ble_eq_true rfl)) (zat zrX1_taken_0_ok 22 rfl) ⟨(Nat.le_of_ble_eq_true rfl), (Nat.le_of_ble_eq_true rfl)⟩)) (fun _ H locs hw hP hD _ hS => ?_)
    obtain ⟨hP, hD⟩ := pd_mk ((a0, .inr (1, [g11, .int y_y.1, .int y_y.2.1, .ref a5])) :: bX6 a1 up kp p_p ((a5, .inl (cB14, 6, .inl y_y.2.2)) :: bX4 a2 un kn o34 [])) hP hD
    refine lv_iconst (v := 1) hx hb (zat zrX1_taken_0_ok 23 rfl) (by decide) ?_
    refine lv_iload hx hb (zat zrX1_taken_0_ok 24 rfl) (lv_at hl 4 rfl) ?_
    refine lv_ishl hx hb (zat zrX1_taken_0_ok 25 rfl) ?_
    obtain rfl := Option.some.inj h
    obtain ⟨hP9, hD9⟩ := pd_sub ((a0, .inr (1, [g11, .int y_y.1, .int y_y.2.1, .ref a5])) :: bX6 a1 up kp p_p (bX4 a2 un kn o34 ([(a5, .inl (cB14, 6, .inl y_y.2.2))]))) [0, 1, 2, 3, 4, 5, 6, 7, 8, 9, 10, 12, 13, 14, 15, 16, 11] hP hD (by decide) rfl
    have hK9 := hK.sub (tys' := []) [] rfl
    rw [hQQ]
    exact W.iret (v := ((1 : Int32) <<< (k4 &&& 31))) hx hb hr (fun t ht hW => ⟨⟨((1 : Int32) <<< (k4 &&& 31)), (), rfl, rfl, by rw [ht]; exact hP9, va_K.moved hW.alike hK9, hD9⟩, hS.F ht⟩) hS.2.2 (zat zrX1_taken_0_ok 26 rfl)
  · have h := (if_pos c15).symm.trans h
    refine lv_aload_n hx hb (zat zrX1_taken_0_ok 11 rfl) rfl (lv_at hl 0 rfl) ?_
    refine lv_dup hx hb (zat zrX1_taken_0_ok 12 rfl) rfl ?_
    refine va_get (D := (dC, dI)) (ci := 1) (v := .int y_y.2.1) (C := RX1) (T := TX1) (N := 4) hx hb hts ifX1_taken_X1 hown hK hP 0 rfl rfl 2 (by decide) (hts (.fieldLink RX1 22 "HookPier$Days" "crabTakes" "I") (List.mem_of_getElem? (i := 7) rfl)) (fun _ h9 => h9) rfl (zat zrX1_taken_0_ok 13 rfl) ?_
    refine lv_iconst (v := 1) hx hb (zat zrX1_taken_0_ok 14 rfl) (by decide) ?_
    refine lv_iadd hx hb (zat zrX1_taken_0_ok 15 rfl) ?_
    refine va_put (D := (dC, dI)) (ci := 1) (v := .int (y_y.2.1 + (1 : Int32))) (ty := .int) (C := RX1) (T := TX1) (N := 4) hx hb hts ifX1_taken_X1 tyX1 tyX1_ok nmX1 hown hK hP hD hS 0 rfl rfl 2 (by decide) (hts (.fieldLink RX1 22 "HookPier$Days" "crabTakes" "I") (List.mem_of_getElem? (i := 7) rfl)) (fun _ h9 => h9) rfl (by decide +kernel) rfl rfl (Nat.le_of_ble_eq_true rfl) (zat zrX1_taken_0_ok 16 rfl) (fun H locs hP hD hS => ?_)
    obtain ⟨hP, hD⟩ := pd_mk ((a0, .inr (1, [g11, .int y_y.1, .int (y_y.2.1 + (1 : Int32)), .ref a5])) :: bX6 a1 up kp p_p (bX4 a2 un kn (n_n.1, n_n.2.1, n_n.2.2.1, n_n.2.2.2.1, n_n.2.2.2.2.1, n_n.2.2.2.2.2.1, (upd n_n.2.2.2.2.2.2 (k3).toNatClampNeg (-1 : Int32))) ([(a5, .inl (cB14, 6, .inl y_y.2.2))]))) hP hD
    refine lv_iconst (v := 0) hx hb (zat zrX1_taken_0_ok 17 rfl) (by decide) ?_
    obtain rfl := Option.some.inj h
    obtain ⟨hP9, hD9⟩ := pd_sub ((a0, .inr (1, [g11, .int y_y.1, .int (y_y.2.1 + (1 : Int32)), .ref a5])) :: bX6 a1 up kp p_p (bX4 a2 un kn (n_n.1, n_n.2.1, n_n.2.2.1, n_n.2.2.2.1, n_n.2.2.2.2.1, n_n.2.2.2.2.2.1, (upd n_n.2.2.2.2.2.2 (k3).toNatClampNeg (-1 : Int32))) ([(a5, .inl (cB14, 6, .inl y_y.2.2))]))) [0, 1, 2, 3, 4, 5, 6, 7, 8, 9, 10, 11, 12, 13, 14, 15, 16] hP hD (by decide) rfl
    have hK9 := hK.sub (tys' := []) [] rfl
    rw [hQQ]
    exact W.iret (v := (0 : Int32)) hx hb hr (fun t ht hW => ⟨⟨(0 : Int32), (), rfl, rfl, by rw [ht]; exact hP9, va_K.moved hW.alike hK9, hD9⟩, hS.F ht⟩) hS.2.2 (zat zrX1_taken_0_ok 18 rfl)
noncomputable def zrX1_pass_0 : List ZR := zc 0 true (.iconst 0) 1 (zc 1 true (.istore_n 3) 1 (zc 2 true (.aload_n 1) 1 (zc 3 true (.aload_n 2) 1 (zc 4 true (.getfield 53) 3 (zc 7 true (.invokevirtual 56) 3 (zc 10 true (.ifCond .ne 76) 3 (zc 13 true (.aload_n 1) 1 (zc 14 true (.aload_n 2) 1 (zc 15 true (.invokestatic 62) 3 (zc 18 true (.istore 4) 2 (zc 20 true (.iconst 0) 1 (zc 21 true (.istore 5) 2 (zc 23 true (.iload 5) 2 (zc 25 true (.aload_n 1) 1 (zc 26 true (.getfield 65) 3 (zc 29 true (.if_icmp .ge 57) 3 (zc 32 true (.iload 4) 2 (zc 34 true (.iload 5) 2 (zc 36 true (.ishr) 1 (zc 37 true (.iconst 1) 1 (zc 38 true (.iand) 1 (zc 39 true (.iconst 1) 1 (zc 40 true (.if_icmp .ne 18) 3 (zc 43 true (.aload_n 1) 1 (zc 44 true (.aload_n 2) 1 (zc 45 true (.aload_n 2) 1 (zc 46 true (.getfield 68) 3 (zc 49 true (.iload 5) 2 (zc 51 true (.iaload) 1 (zc 52 true (.invokestatic 71) 3 (zc 55 true (.goto 4) 3 (zc 58 true (.iconst (-1)) 1 (zc 59 true (.istore 6) 2 (zc 61 true (.iload 6) 2 (zc 63 true (.iconst (-1)) 1 (zc 64 true (.if_icmp .eq 16) 3 (zc 67 true (.iload_n 3) 1 (zc 68 true (.aload_n 0) 1 (zc 69 true (.aload_n 1) 1 (zc 70 true (.aload_n 2) 1 (zc 71 true (.iload 5) 2 (zc 73 true (.iload 6) 2 (zc 75 true (.invokevirtual 75) 3 (zc 78 true (.ior) 1 (zc 79 true (.istore_n 3) 1 (zc 80 true (.iinc 5 1) 3 (zc 83 true (.goto (-60)) 3 (zc 86 true (.aload_n 2) 1 (zc 87 true (.dup) 1 (zc 88 true (.getfield 53) 3 (zc 91 true (.iconst 1) 1 (zc 92 true (.iadd) 1 (zc 93 true (.putfield 53) 3 (zc 96 true (.iload_n 3) 1 (zc 97 true (.ireturn) 1 ([]))))))))))))))))))))))))))))))))))))))))))))))))))))))))
theorem zrX1_pass_0_ok : zck 0 ((zby cX1_pass).drop 0) zrX1_pass_0 = true := by decide +kernel
def vfX1_pass : List Cond := List.cons (.code yX1_pass cX1_pass 7 (some .int)) (apW [.fieldLink RX1 53 "HookPier$Now" "today" "I", .methodLink RX1 56 yX6_isClose, .instanceMethod yX6_isClose, .selects RX6 yX6_isClose yX6_isClose, .initialized RX6, .methodLink RX1 62 yX1_untangled, .static yX1_untangled, .initialized RX1, .fieldLink RX1 65 "HookPier$Plan" "askers" "I", .methodLink RX1 75 yX1_taken, .instanceMethod yX1_taken, .selects RX1 yX1_taken yX1_taken, .fieldLink RX1 68 "HookPier$Now" "line" "[I", .methodLink RX1 71 yX1_taker, .static yX1_taker] (apW wsX40 (apW wsX60 (apW vfX6_isClose (apW vfX1_untangled (apW vfX1_taken (vfX1_taker)))))))
theorem ifX1_pass_X4 : ∀ w ∈ wsX40, w ∈ vfX1_pass := fun _ h => (List.mem_cons_of_mem _ (List.mem_append_right _ (List.mem_append_left _ h)))
theorem ifX1_pass_X6 : ∀ w ∈ wsX60, w ∈ vfX1_pass := fun _ h => (List.mem_cons_of_mem _ (List.mem_append_right _ (List.mem_append_right _ (List.mem_append_left _ h))))
theorem qfX1_pass : Good vfX1_pass := gd_cons (by decide +kernel) (gd_app (gd_dec (by decide +kernel) : Good [.fieldLink RX1 53 "HookPier$Now" "today" "I", .methodLink RX1 56 yX6_isClose, .instanceMethod yX6_isClose, .selects RX6 yX6_isClose yX6_isClose, .initialized RX6, .methodLink RX1 62 yX1_untangled, .static yX1_untangled, .initialized RX1, .fieldLink RX1 65 "HookPier$Plan" "askers" "I", .methodLink RX1 75 yX1_taken, .instanceMethod yX1_taken, .selects RX1 yX1_taken yX1_taken, .fieldLink RX1 68 "HookPier$Now" "line" "[I", .methodLink RX1 71 yX1_taker, .static yX1_taker]) (gd_app qsX4 (gd_app qsX6 (gd_app qfX6_isClose (gd_app qfX1_untangled (gd_app qfX1_taken qfX1_taker))))))
theorem gfX1_pass_0 : GoodIn vfX1_pass (wsV RX1 56 RX6 yX6_isClose vfX6_isClose) := goodIn_app (goodIn_r [.methodLink RX1 56 yX6_isClose, .instanceMethod yX6_isClose, .selects RX6 yX6_isClose yX6_isClose, .initialized RX6] [2, 3, 4, 5] rfl (by decide +kernel)) (goodIn_m (fun _ h => (List.mem_cons_of_mem _ (List.mem_append_right _ (List.mem_append_right _ (List.mem_append_right _ (List.mem_append_left _ h)))))) qfX6_isClose)
theorem gfX1_pass_1 : GoodIn vfX1_pass (va_wsS RX1 62 yX1_untangled vfX1_untangled) := goodIn_app (goodIn_r [.methodLink RX1 62 yX1_untangled, .static yX1_untangled, .initialized RX1] [6, 7, 8] rfl (by decide +kernel)) (goodIn_m (fun _ h => (List.mem_cons_of_mem _ (List.mem_append_right _ (List.mem_append_right _ (List.mem_append_right _ (List.mem_append_right _ (List.mem_append_left _ h))))))) qfX1_untangled)
theorem gfX1_pass_2 : GoodIn vfX1_pass (wsV RX1 75 RX1 yX1_taken vfX1_taken) := goodIn_app (goodIn_r [.methodLink RX1 75 yX1_taken, .instanceMethod yX1_taken, .selects RX1 yX1_taken yX1_taken, .initialized RX1] [10, 11, 12, 8] rfl (by decide +kernel)) (goodIn_m (fun _ h => (List.mem_cons_of_mem _ (List.mem_append_right _ (List.mem_append_right _ (List.mem_append_right _ (List.mem_append_right _ (List.mem_append_right _ (List.mem_append_left _ h)))))))) qfX1_taken)
theorem gfX1_pass_3 : GoodIn vfX1_pass (va_wsS RX1 71 yX1_taker vfX1_taker) := goodIn_app (goodIn_r [.methodLink RX1 71 yX1_taker, .static yX1_taker, .initialized RX1] [14, 15, 8] rfl (by decide +kernel)) (goodIn_m (fun _ h => (List.mem_cons_of_mem _ (List.mem_append_right _ (List.mem_append_right _ (List.mem_append_right _ (List.mem_append_right _ (List.mem_append_right _ (List.mem_append_right _ h)))))))) qfX1_taker)
set_option maxHeartbeats 2000000 in
set_option maxRecDepth 100000 in
theorem kfX1_pass (l : Launch) (dC : Nat → ClassId) (dI : Nat → Nat → Nat) (a0 : Nat) (a1 : Nat) (a2 : Nat) (a3 : Nat) (up : Nat → Nat) (kp : Nat → ClassId) (un : Nat → Nat) (kn : Nat → ClassId) (y_y : TX1_y) (g9 : Value) (p_p : TX6_p) (n_n : TX4_n) (cB12 : ClassId) (sz : Nat) (out : (Int32 × TX1_y × TX4_n)) (h : f_X1_pass y_y p_p n_n = some out) : KCi l yX1_pass vfX1_pass ({ frames := 4, cells := 0, slots := 0, locals := 92 }) (dC, dI) [.ref a0, .ref a1, .ref a2] sz ((a0, .inr (1, [g9, .int y_y.1, .int y_y.2.1, .ref a3])) :: bX6 a1 up kp p_p (bX4 a2 un kn n_n ([(a3, .inl (cB12, 6, .inl y_y.2.2))]))) (tX6 kp (tX4 kn ((cB12, .int) :: []))) (fun (r : Int32) _ => r = out.1) ((a0, .inr (1, [g9, .int out.2.1.1, .int out.2.1.2.1, .ref a3])) :: bX6 a1 up kp p_p (bX4 a2 un kn out.2.2 ([(a3, .inl (cB12, 6, .inl out.2.1.2.2))]))) 0 0 := by
  refine Met.ofW (cc := cX1_pass) (maxL := 7) (ret := (some .int)) (by decide) rfl ?_
  intro p e s m args below meth c s₁ B0 hml hv
  obtain ⟨rfl, hsz, hP, hK, hD0, hN⟩ := hv
  have hx := B0.exec
  have hb := B0.bytes
  have hr := B0.returns
  have hts := atoms_spec (ws := vfX1_pass) B0.pre
  have hown : s.vm.findClass RX1 = some m.cls := findClass_of_methodNamed B0.named
  have hlocks := B0.notSynchronized
  subst hsz
  have hD := hD0.self (sz := s.heap.size)
  generalize hAe : va_A ((a0, .inr (1, [g9, .int y_y.1, .int y_y.2.1, .ref a3])) :: bX6 a1 up kp p_p (bX4 a2 un kn n_n ([(a3, .inl (cB12, 6, .inl y_y.2.2))]))) s.heap.size = A at hD ⊢
  have hA : ∀ q : Nat, s.heap.size ≤ q → A q := fun q h => by rw [← hAe]; exact Or.inr h
  have hS : va_S A s.heap s.heap [] := va_S.rf
  have hP : va_P (dC, dI) vwCl ((a0, .inr (1, [g9, .int y_y.1, .int y_y.2.1, .ref a3])) :: bX6 a1 up kp p_p (bX4 a2 un kn n_n ([(a3, .inl (cB12, 6, .inl y_y.2.2))]))) s.heap := hP
  have hl := lv_entry ([.ref a0, .ref a1, .ref a2]) (n := 7) (Nat.le_of_ble_eq_true rfl)
  rw [lg_entry_eq]
  generalize (lg_sl ([.ref a0, .ref a1, .ref a2]) ++ List.replicate (7 - (lg_sl ([.ref a0, .ref a1, .ref a2])).length) Slot.unset).toArray = ls at hl ⊢
  have hl : lv_has ls 7 [(0, .ref a0), (1, .ref a1), (2, .ref a2)] := hl
  refine W_q (fun QQ hQQ => ?_)
  rw [f_X1_pass] at h
  refine lv_iconst (v := 0) hx hb (zat zrX1_pass_0_ok 0 rfl) (by decide) ?_
  refine lv_istore_n (lv' := [(3, .int 0), (0, .ref a0), (1, .ref a1), (2, .ref a2)]) hx hb (zat zrX1_pass_0_ok 1 rfl) rfl hl (by decide) rfl (fun ls hl => ?_)
  refine lv_aload_n hx hb (zat zrX1_pass_0_ok 2 rfl) rfl (lv_at hl 2 rfl) ?_
  refine lv_aload_n hx hb (zat zrX1_pass_0_ok 3 rfl) rfl (lv_at hl 3 rfl) ?_
  refine va_get (D := (dC, dI)) (ci := 3) (v := .int n_n.1) (C := RX4) (T := TX4) (N := 7) hx hb hts ifX1_pass_X4 hown hK hP 11 rfl rfl 0 (by decide) (hts (.fieldLink RX1 53 "HookPier$Now" "today" "I") (List.mem_of_getElem? (i := 1) rfl)) (fun _ h9 => h9) rfl (zat zrX1_pass_0_ok 4 rfl) ?_
  obtain ⟨o7, eo7⟩ : ∃ o, o = f_X6_isClose n_n.1 p_p := ⟨_, rfl⟩
  have h := nm_of h o7 eo7
  refine ck_i (wc := (bX6 a1 up kp p_p [])) (wr := ((a0, .inr (1, [g9, .int y_y.1, .int y_y.2.1, .ref a3])) :: bX4 a2 un kn n_n ([(a3, .inl (cB12, 6, .inl y_y.2.2))]))) hP hD hK hS hA [1, 2, 3, 4, 5, 6, 7, 8, 9, 10] [0, 11, 12, 13, 14, 15, 16] rfl rfl (by decide) (by decide) (by decide) (fun hPc hDc => (va_runV (As := [.int n_n.1]) (rest := []) ⟨hx, hb, hml, hown, hts⟩ (kfX6_isClose l dC dI a1 n_n.1 up kp p_p s.heap.size o7 eo7.symm) (cwV 1 hts gfX1_pass_0 rfl rfl rfl (by decide +kernel) ⟨(Nat.le_of_ble_eq_true rfl), (Nat.le_of_ble_eq_true rfl)⟩) (PV hPc (hK.sub (tys' := (tX6 kp ([]))) [0, 1, 2, 3, 4, 5, 6, 7, 8] rfl) hDc hN 0 rfl rfl) rfl rfl hl.1 rfl (lv_room (Nat.le_of_ble_eq_true rfl)) (zat zrX1_pass_0_ok 5 rfl) ⟨(Nat.le_of_ble_eq_true rfl), (Nat.le_of_ble_eq_true rfl)⟩)) (fun r7 _ H locs hw hP hD _ hS => ?_)
  obtain ⟨hw, br7⟩ := hw
  obtain rfl := hw.symm
  obtain ⟨hP, hD⟩ := pd_mk ((a0, .inr (1, [g9, .int y_y.1, .int y_y.2.1, .ref a3])) :: bX4 a2 un kn n_n ((a3, .inl (cB12, 6, .inl y_y.2.2)) :: bX6 a1 up kp p_p [])) hP hD
  have J86 : ∀ (v86_l3 : Int32) (v86_y_y : TX1_y) (v86_n_n : TX4_n) (H : Heap) (locs : List Loc) (ls : Array Slot), f_X1_pass_J86 v86_l3 v86_y_y v86_n_n = some out → va_P (dC, dI) vwCl ((a0, .inr (1, [g9, .int v86_y_y.1, .int v86_y_y.2.1, .ref a3])) :: bX4 a2 un kn v86_n_n ((a3, .inl (cB12, 6, .inl v86_y_y.2.2)) :: bX6 a1 up kp p_p [])) H → va_D A ((a0, .inr (1, [g9, .int v86_y_y.1, .int v86_y_y.2.1, .ref a3])) :: bX4 a2 un kn v86_n_n ((a3, .inl (cB12, 6, .inl v86_y_y.2.2)) :: bX6 a1 up kp p_p [])) → va_S A s.heap H locs → lv_has ls 7 [(3, .int v86_l3), (2, .ref a2)] → W p l e (headSpec vfX1_pass { frames := 4, cells := 0, slots := 0, locals := 92 }).room s m ([.ref a0, .ref a1, .ref a2]).toArray below meth c H locs 0 0 QQ (F0 m 86 ls []) := by
    intro v86_l3 v86_y_y v86_n_n H locs ls h  hP hD hS hl
    rw [f_X1_pass_J86] at h
    refine lv_aload_n hx hb (zat zrX1_pass_0_ok 48 rfl) rfl (lv_at hl 1 rfl) ?_
    refine lv_dup hx hb (zat zrX1_pass_0_ok 49 rfl) rfl ?_
    refine va_get (D := (dC, dI)) (ci := 3) (v := .int v86_n_n.1) (C := RX4) (T := TX4) (N := 7) hx hb hts ifX1_pass_X4 hown hK hP 1 rfl rfl 0 (by decide) (hts (.fieldLink RX1 53 "HookPier$Now" "today" "I") (List.mem_of_getElem? (i := 1) rfl)) (fun _ h9 => h9) rfl (zat zrX1_pass_0_ok 50 rfl) ?_
    refine lv_iconst (v := 1) hx hb (zat zrX1_pass_0_ok 51 rfl) (by decide) ?_
    refine lv_iadd hx hb (zat zrX1_pass_0_ok 52 rfl) ?_
    refine va_put (D := (dC, dI)) (ci := 3) (v := .int (v86_n_n.1 + (1 : Int32))) (ty := .int) (C := RX4) (T := TX4) (N := 7) hx hb hts ifX1_pass_X4 tyX4 tyX4_ok nmX4 hown hK hP hD hS 1 rfl rfl 0 (by decide) (hts (.fieldLink RX1 53 "HookPier$Now" "today" "I") (List.mem_of_getElem? (i := 1) rfl)) (fun _ h9 => h9) rfl (by decide +kernel) rfl rfl (Nat.le_of_ble_eq_true rfl) (zat zrX1_pass_0_ok 53 rfl) (fun H locs hP hD hS => ?_)
    obtain ⟨hP, hD⟩ := pd_mk ((a0, .inr (1, [g9, .int v86_y_y.1, .int v86_y_y.2.1, .ref a3])) :: bX4 a2 un kn ((v86_n_n.1 + (1 : Int32)), v86_n_n.2) ((a3, .inl (cB12, 6, .inl v86_y_y.2.2)) :: bX6 a1 up kp p_p [])) hP hD
    refine lv_iload_n hx hb (zat zrX1_pass_0_ok 54 rfl) rfl (lv_at hl 0 rfl) ?_
    obtain rfl := Option.some.inj h
    obtain ⟨hP9, hD9⟩ := pd_sub ((a0, .inr (1, [g9, .int v86_y_y.1, .int v86_y_y.2.1, .ref a3])) :: bX6 a1 up kp p_p (bX4 a2 un kn ((v86_n_n.1 + (1 : Int32)), v86_n_n.2) ([(a3, .inl (cB12, 6, .inl v86_y_y.2.2))]))) [0, 7, 8, 9, 10, 11, 12, 13, 14, 15, 16, 1, 2, 3, 4, 5, 6] hP hD (by decide) rfl
    have hK9 := hK.sub (tys' := []) [] rfl
    rw [hQQ]
    exact W.iret (v := v86_l3) hx hb hr (fun t ht hW => ⟨⟨v86_l3, (), rfl, rfl, by rw [ht]; exact hP9, va_K.moved hW.alike hK9, hD9⟩, hS.F ht⟩) hS.2.2 (zat zrX1_pass_0_ok 55 rfl)
  refine lv_if_ne (tgt := 86) hx hb (zat zrX1_pass_0_ok 6 rfl) (by decide) (fun c10 => ?_) (fun c10 => ?_)
  · have h := (if_neg c10).symm.trans h
    exact J86 (0 : Int32) y_y n_n H _ ls h  hP hD hS (lv_sub hl [0, 3] rfl)
  · have h := (if_pos c10).symm.trans h
    refine lv_aload_n hx hb (zat zrX1_pass_0_ok 7 rfl) rfl (lv_at hl 2 rfl) ?_
    refine lv_aload_n hx hb (zat zrX1_pass_0_ok 8 rfl) rfl (lv_at hl 3 rfl) ?_
    obtain ⟨o15, eo15, h⟩ := bd_of h
    refine ck_i (wc := (bX6 a1 up kp p_p (bX4 a2 un kn n_n []))) (wr := ([(a0, .inr (1, [g9, .int y_y.1, .int y_y.2.1, .ref a3])), (a3, .inl (cB12, 6, .inl y_y.2.2))])) hP hD hK hS hA [7, 8, 9, 10, 11, 12, 13, 14, 15, 16, 1, 2, 3, 4, 5] [0, 6] rfl rfl (by decide) (by decide) (by decide) (fun hPc hDc => (va_runS (As := [.ref a1, .ref a2]) (rest := []) ⟨hx, hb, hml, hown, hts⟩ (kfX1_untangled l dC dI a1 a2 up kp un kn p_p n_n H.size o15 eo15) (va_cwS 2 hts gfX1_pass_1 rfl rfl rfl (by decide +kernel) ⟨(Nat.le_of_ble_eq_true rfl), (Nat.le_of_ble_eq_true rfl)⟩) (PS hPc (hK.sub (tys' := (tX6 kp (tX4 kn ([])))) [0, 1, 2, 3, 4, 5, 6, 7, 8, 9, 10, 11, 12] rfl) hDc hN) rfl rfl hl.1 rfl (lv_room (Nat.le_of_ble_eq_true rfl)) (zat zrX1_pass_0_ok 9 rfl) ⟨(Nat.le_of_ble_eq_true rfl), (Nat.le_of_ble_eq_true rfl)⟩)) (fun r15 _ H locs hw hP hD _ hS => ?_)
    obtain rfl := hw.symm
    obtain ⟨hP, hD⟩ := pd_mk ((a0, .inr (1, [g9, .int y_y.1, .int y_y.2.1, .ref a3])) :: (a3, .inl (cB12, 6, .inl y_y.2.2)) :: bX6 a1 up kp p_p (bX4 a2 un kn n_n [])) hP hD
    refine lv_istore (lv' := [(4, .int o15), (3, .int 0), (0, .ref a0), (1, .ref a1), (2, .ref a2)]) hx hb (zat zrX1_pass_0_ok 10 rfl) hl (by decide) rfl (fun ls hl => ?_)
    refine lv_iconst (v := 0) hx hb (zat zrX1_pass_0_ok 11 rfl) (by decide) ?_
    refine lv_istore (lv' := [(5, .int 0), (4, .int o15), (3, .int 0), (0, .ref a0), (1, .ref a1), (2, .ref a2)]) hx hb (zat zrX1_pass_0_ok 12 rfl) hl (by decide) rfl (fun ls hl => ?_)
    have L23 : ∀ (n23 : Nat) (v23_l5 : Int32) (v23_l3 : Int32) (v23_y_y : TX1_y) (v23_n_n : TX4_n) (H : Heap) (locs : List Loc) (ls : Array Slot), f_X1_pass_L23 p_p o15 n23 v23_l5 v23_l3 v23_y_y v23_n_n = some out → va_P (dC, dI) vwCl ((a0, .inr (1, [g9, .int v23_y_y.1, .int v23_y_y.2.1, .ref a3])) :: (a3, .inl (cB12, 6, .inl v23_y_y.2.2)) :: bX6 a1 up kp p_p (bX4 a2 un kn v23_n_n [])) H → va_D A ((a0, .inr (1, [g9, .int v23_y_y.1, .int v23_y_y.2.1, .ref a3])) :: (a3, .inl (cB12, 6, .inl v23_y_y.2.2)) :: bX6 a1 up kp p_p (bX4 a2 un kn v23_n_n [])) → va_S A s.heap H locs → lv_has ls 7 [(5, .int v23_l5), (4, .int o15), (3, .int v23_l3), (0, .ref a0), (1, .ref a1), (2, .ref a2)] → W p l e (headSpec vfX1_pass { frames := 4, cells := 0, slots := 0, locals := 92 }).room s m ([.ref a0, .ref a1, .ref a2]).toArray below meth c H locs 0 0 QQ (F0 m 23 ls []) := by
      intro n23
      induction n23 with
      | zero =>
        intro v23_l5 v23_l3 v23_y_y v23_n_n H locs ls h  _ _ _ _
        rw [f_X1_pass_L23] at h
        cases h
      | succ n23 ih23 =>
        intro v23_l5 v23_l3 v23_y_y v23_n_n H locs ls h  hP hD hS hl
        rw [f_X1_pass_L23] at h
        refine lv_iload hx hb (zat zrX1_pass_0_ok 13 rfl) (lv_at hl 0 rfl) ?_
        refine lv_aload_n hx hb (zat zrX1_pass_0_ok 14 rfl) rfl (lv_at hl 4 rfl) ?_
        refine va_get (D := (dC, dI)) (ci := 4) (v := .int p_p.2.2.2.2.2.1) (C := RX6) (T := TX6) (N := 18) hx hb hts ifX1_pass_X6 hown hK hP 2 rfl rfl 5 (by decide) (hts (.fieldLink RX1 65 "HookPier$Plan" "askers" "I") (List.mem_of_getElem? (i := 9) rfl)) (fun _ h9 => h9) rfl (zat zrX1_pass_0_ok 15 rfl) ?_
        refine lv_icmp_ge (tgt := 86) hx hb (zat zrX1_pass_0_ok 16 rfl) (by decide) (fun c29 => ?_) (fun c29 => ?_)
        · have h := (if_pos c29).symm.trans h
          exact J86 v23_l3 v23_y_y v23_n_n H _ ls h  (hP.sub (ws' := ((a0, .inr (1, [g9, .int v23_y_y.1, .int v23_y_y.2.1, .ref a3])) :: bX4 a2 un kn v23_n_n ((a3, .inl (cB12, 6, .inl v23_y_y.2.2)) :: bX6 a1 up kp p_p []))) [0, 12, 13, 14, 15, 16, 1, 2, 3, 4, 5, 6, 7, 8, 9, 10, 11] rfl) (hD.sub (ws' := ((a0, .inr (1, [g9, .int v23_y_y.1, .int v23_y_y.2.1, .ref a3])) :: bX4 a2 un kn v23_n_n ((a3, .inl (cB12, 6, .inl v23_y_y.2.2)) :: bX6 a1 up kp p_p []))) [0, 12, 13, 14, 15, 16, 1, 2, 3, 4, 5, 6, 7, 8, 9, 10, 11] (by decide) rfl) hS (lv_sub hl [2, 5] rfl)
        · have h := (if_neg c29).symm.trans h
          refine lv_iload hx hb (zat zrX1_pass_0_ok 17 rfl) (lv_at hl 1 rfl) ?_
          refine lv_iload hx hb (zat zrX1_pass_0_ok 18 rfl) (lv_at hl 0 rfl) ?_
          refine lv_ishr hx hb (zat zrX1_pass_0_ok 19 rfl) ?_
          refine lv_iconst (v := 1) hx hb (zat zrX1_pass_0_ok 20 rfl) (by decide) ?_
          refine lv_iand hx hb (zat zrX1_pass_0_ok 21 rfl) ?_
          refine lv_iconst (v := 1) hx hb (zat zrX1_pass_0_ok 22 rfl) (by decide) ?_
          have J59 : ∀ (v59_t0 : Int32) (v59_n_n : TX4_n) (H : Heap) (locs : List Loc) (ls : Array Slot), f_X1_pass_J59 p_p (f_X1_pass_L23 p_p o15 n23) v23_l3 v23_l5 v23_y_y v59_t0 v59_n_n = some out → va_P (dC, dI) vwCl ((a0, .inr (1, [g9, .int v23_y_y.1, .int v23_y_y.2.1, .ref a3])) :: (a3, .inl (cB12, 6, .inl v23_y_y.2.2)) :: bX6 a1 up kp p_p (bX4 a2 un kn v59_n_n [])) H → va_D A ((a0, .inr (1, [g9, .int v23_y_y.1, .int v23_y_y.2.1, .ref a3])) :: (a3, .inl (cB12, 6, .inl v23_y_y.2.2)) :: bX6 a1 up kp p_p (bX4 a2 un kn v59_n_n [])) → va_S A s.heap H locs → lv_has ls 7 [(5, .int v23_l5), (4, .int o15), (3, .int v23_l3), (0, .ref a0), (1, .ref a1), (2, .ref a2)] → W p l e (headSpec vfX1_pass { frames := 4, cells := 0, slots := 0, locals := 92 }).room s m ([.ref a0, .ref a1, .ref a2]).toArray below meth c H locs 0 0 QQ (F0 m 59 ls [.int v59_t0]) := by
            intro v59_t0 v59_n_n H locs ls h  hP hD hS hl
            rw [f_X1_pass_J59] at h
            refine lv_istore (lv' := [(6, .int v59_t0), (5, .int v23_l5), (4, .int o15), (3, .int v23_l3), (0, .ref a0), (1, .ref a1), (2, .ref a2)]) hx hb (zat zrX1_pass_0_ok 33 rfl) hl (by decide) rfl (fun ls hl => ?_)
            refine lv_iload hx hb (zat zrX1_pass_0_ok 34 rfl) (lv_at hl 0 rfl) ?_
            refine lv_iconst (v := (-1)) hx hb (zat zrX1_pass_0_ok 35 rfl) (by decide) ?_
            have J80 : ∀ (v80_l3 : Int32) (v80_y_y : TX1_y) (v80_n_n : TX4_n) (H : Heap) (locs : List Loc) (ls : Array Slot), f_X1_pass_J80 (f_X1_pass_L23 p_p o15 n23) v23_l5 v80_l3 v80_y_y v80_n_n = some out → va_P (dC, dI) vwCl ((a0, .inr (1, [g9, .int v80_y_y.1, .int v80_y_y.2.1, .ref a3])) :: (a3, .inl (cB12, 6, .inl v80_y_y.2.2)) :: bX6 a1 up kp p_p (bX4 a2 un kn v80_n_n [])) H → va_D A ((a0, .inr (1, [g9, .int v80_y_y.1, .int v80_y_y.2.1, .ref a3])) :: (a3, .inl (cB12, 6, .inl v80_y_y.2.2)) :: bX6 a1 up kp p_p (bX4 a2 un kn v80_n_n [])) → va_S A s.heap H locs → lv_has ls 7 [(5, .int v23_l5), (4, .int o15), (3, .int v80_l3), (0, .ref a0), (1, .ref a1), (2, .ref a2)] → W p l e (headSpec vfX1_pass { frames := 4, cells := 0, slots := 0, locals := 92 }).room s m ([.ref a0, .ref a1, .ref a2]).toArray below meth c H locs 0 0 QQ (F0 m 80 ls []) := by
              intro v80_l3 v80_y_y v80_n_n H locs ls h  hP hD hS hl
              rw [f_X1_pass_J80] at h
              refine lv_iinc (v := (v23_l5 + (1 : Int32))) (lv' := [(5, .int (v23_l5 + (1 : Int32))), (4, .int o15), (3, .int v80_l3), (0, .ref a0), (1, .ref a1), (2, .ref a2)]) hx hb (zat zrX1_pass_0_ok 46 rfl) hl (k := 0) rfl rfl (by decide) rfl (fun ls hl => ?_)
              refine lv_goto (tgt := 23) hx hb (zat zrX1_pass_0_ok 47 rfl) (by decide) ?_
              exact ih23 (v23_l5 + (1 : Int32)) v80_l3 v80_y_y v80_n_n H _ ls h  hP hD hS (lv_sub hl [0, 1, 2, 3, 4, 5] rfl)
            refine lv_icmp_eq (tgt := 80) hx hb (zat zrX1_pass_0_ok 36 rfl) (by decide) (fun c64 => ?_) (fun c64 => ?_)
            · have h := (if_pos c64).symm.trans h
              exact J80 v23_l3 v23_y_y v59_n_n H _ ls h  hP hD hS (lv_sub hl [1, 2, 3, 4, 5, 6] rfl)
            · have h := (if_neg c64).symm.trans h
              refine lv_iload_n hx hb (zat zrX1_pass_0_ok 37 rfl) rfl (lv_at hl 3 rfl) ?_
              refine lv_aload_n hx hb (zat zrX1_pass_0_ok 38 rfl) rfl (lv_at hl 4 rfl) ?_
              refine lv_aload_n hx hb (zat zrX1_pass_0_ok 39 rfl) rfl (lv_at hl 5 rfl) ?_
              refine lv_aload_n hx hb (zat zrX1_pass_0_ok 40 rfl) rfl (lv_at hl 6 rfl) ?_
              refine lv_iload hx hb (zat zrX1_pass_0_ok 41 rfl) (lv_at hl 1 rfl) ?_
              refine lv_iload hx hb (zat zrX1_pass_0_ok 42 rfl) (lv_at hl 0 rfl) ?_
              obtain ⟨o75, eo75, h⟩ := bd_of h
              refine ck_i (wc := ((a0, .inr (1, [g9, .int v23_y_y.1, .int v23_y_y.2.1, .ref a3])) :: bX6 a1 up kp p_p (bX4 a2 un kn v59_n_n ([(a3, .inl (cB12, 6, .inl v23_y_y.2.2))])))) (wr := []) hP hD hK hS hA [0, 2, 3, 4, 5, 6, 7, 8, 9, 10, 11, 12, 13, 14, 15, 16, 1] [] rfl rfl (by decide) (by decide) (by decide) (fun hPc hDc => (va_runV (As := [.ref a1, .ref a2, .int v23_l5, .int v59_t0]) (rest := [.int v23_l3]) ⟨hx, hb, hml, hown, hts⟩ (kfX1_taken l dC dI a0 a1 a2 v23_l5 v59_t0 a3 up kp un kn v23_y_y (g9) p_p v59_n_n cB12 H.size o75 eo75) (cwV 4 hts gfX1_pass_2 rfl rfl rfl (by decide +kernel) ⟨(Nat.le_of_ble_eq_true rfl), (Nat.le_of_ble_eq_true rfl)⟩) (PV hPc (hK.sub (tys' := (tX6 kp (tX4 kn ((cB12, .int) :: [])))) [0, 1, 2, 3, 4, 5, 6, 7, 8, 9, 10, 11, 12, 13] rfl) hDc hN 0 rfl rfl) rfl rfl hl.1 rfl (lv_room (Nat.le_of_ble_eq_true rfl)) (zat zrX1_pass_0_ok 43 rfl) ⟨(Nat.le_of_ble_eq_true rfl), (Nat.le_of_ble_eq_true rfl)⟩)) (fun r75 _ H locs hw hP hD _ hS => ?_)
              obtain rfl := hw
              obtain ⟨hP, hD⟩ := pd_mk ((a0, .inr (1, [g9, .int o75.2.1.1, .int o75.2.1.2.1, .ref a3])) :: bX6 a1 up kp p_p (bX4 a2 un kn o75.2.2 ([(a3, .inl (cB12, 6, .inl o75.2.1.2.2))]))) hP hD
              refine lv_ior hx hb (zat zrX1_pass_0_ok 44 rfl) ?_
              refine lv_istore_n (lv' := [(3, .int (v23_l3 ||| o75.1)), (6, .int v59_t0), (5, .int v23_l5), (4, .int o15), (0, .ref a0), (1, .ref a1), (2, .ref a2)]) hx hb (zat zrX1_pass_0_ok 45 rfl) rfl hl (by decide) rfl (fun ls hl => ?_)
              exact J80 (v23_l3 ||| o75.1) o75.2.1 o75.2.2 H _ ls h  (hP.sub (ws' := ((a0, .inr (1, [g9, .int o75.2.1.1, .int o75.2.1.2.1, .ref a3])) :: (a3, .inl (cB12, 6, .inl o75.2.1.2.2)) :: bX6 a1 up kp p_p (bX4 a2 un kn o75.2.2 []))) [0, 16, 1, 2, 3, 4, 5, 6, 7, 8, 9, 10, 11, 12, 13, 14, 15] rfl) (hD.sub (ws' := ((a0, .inr (1, [g9, .int o75.2.1.1, .int o75.2.1.2.1, .ref a3])) :: (a3, .inl (cB12, 6, .inl o75.2.1.2.2)) :: bX6 a1 up kp p_p (bX4 a2 un kn o75.2.2 []))) [0, 16, 1, 2, 3, 4, 5, 6, 7, 8, 9, 10, 11, 12, 13, 14, 15] (by decide) rfl) hS (lv_sub hl [2, 3, 0, 4, 5, 6] rfl)
          refine lv_icmp_ne (tgt := 58) hx hb (zat zrX1_pass_0_ok 23 rfl) (by decide) (fun c40 => ?_) (fun c40 => ?_)
          · have h := (if_neg c40).symm.trans h
            refine lv_iconst (v := (-1)) hx hb (zat zrX1_pass_0_ok 32 rfl) (by decide) ?_
            exact J59 (-1 : Int32) v23_n_n H _ ls h  hP hD hS (lv_sub hl [0, 1, 2, 3, 4, 5] rfl)
          · have h := (if_pos c40).symm.trans h
            refine lv_aload_n hx hb (zat zrX1_pass_0_ok 24 rfl) rfl (lv_at hl 4 rfl) ?_
            refine lv_aload_n hx hb (zat zrX1_pass_0_ok 25 rfl) rfl (lv_at hl 5 rfl) ?_
            refine lv_aload_n hx hb (zat zrX1_pass_0_ok 26 rfl) rfl (lv_at hl 5 rfl) ?_
            refine va_get (D := (dC, dI)) (ci := 3) (v := .ref (un 3)) (C := RX4) (T := TX4) (N := 7) hx hb hts ifX1_pass_X4 hown hK hP 12 rfl rfl 6 (by decide) (hts (.fieldLink RX1 68 "HookPier$Now" "line" "[I") (List.mem_of_getElem? (i := 13) rfl)) (fun _ h9 => h9) rfl (zat zrX1_pass_0_ok 27 rfl) ?_
            refine lv_iload hx hb (zat zrX1_pass_0_ok 28 rfl) (lv_at hl 0 rfl) ?_
            obtain ⟨hg51, h⟩ := gA_of h
            refine va_iald hx hb hK hP 16 12 rfl rfl hg51 (zat zrX1_pass_0_ok 29 rfl) ?_
            obtain ⟨o52, eo52, h⟩ := bd_of h
            refine ck_i (wc := (bX6 a1 up kp p_p (bX4 a2 un kn v23_n_n []))) (wr := ([(a0, .inr (1, [g9, .int v23_y_y.1, .int v23_y_y.2.1, .ref a3])), (a3, .inl (cB12, 6, .inl v23_y_y.2.2))])) hP hD hK hS hA [2, 3, 4, 5, 6, 7, 8, 9, 10, 11, 12, 13, 14, 15, 16] [0, 1] rfl rfl (by decide) (by decide) (by decide) (fun hPc hDc => (va_runS (As := [.ref a1, .ref a2, .int (v23_n_n.2.2.2.2.2.2 (v23_l5).toNatClampNeg)]) (rest := []) ⟨hx, hb, hml, hown, hts⟩ (kfX1_taker l dC dI a1 a2 (v23_n_n.2.2.2.2.2.2 (v23_l5).toNatClampNeg) up kp un kn p_p v23_n_n H.size o52 eo52) (va_cwS 3 hts gfX1_pass_3 rfl rfl rfl (by decide +kernel) ⟨(Nat.le_of_ble_eq_true rfl), (Nat.le_of_ble_eq_true rfl)⟩) (PS hPc (hK.sub (tys' := (tX6 kp (tX4 kn ([])))) [0, 1, 2, 3, 4, 5, 6, 7, 8, 9, 10, 11, 12] rfl) hDc hN) rfl rfl hl.1 rfl (lv_room (Nat.le_of_ble_eq_true rfl)) (zat zrX1_pass_0_ok 30 rfl) ⟨(Nat.le_of_ble_eq_true rfl), (Nat.le_of_ble_eq_true rfl)⟩)) (fun r52 _ H locs hw hP hD _ hS => ?_)
            obtain rfl := hw
            obtain ⟨hP, hD⟩ := pd_mk ((a0, .inr (1, [g9, .int v23_y_y.1, .int v23_y_y.2.1, .ref a3])) :: (a3, .inl (cB12, 6, .inl v23_y_y.2.2)) :: bX6 a1 up kp p_p (bX4 a2 un kn o52.2 [])) hP hD
            refine lv_goto (tgt := 59) hx hb (zat zrX1_pass_0_ok 31 rfl) (by decide) ?_
            exact J59 o52.1 o52.2 H _ ls h  hP hD hS (lv_sub hl [0, 1, 2, 3, 4, 5] rfl)
    exact L23 FU (0 : Int32) (0 : Int32) y_y n_n H _ ls h  hP hD hS (lv_sub hl [0, 1, 2, 3, 4, 5] rfl)
