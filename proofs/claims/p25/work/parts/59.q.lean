noncomputable def zrX12_bestBait_0b : List ZR := zc 0 false (.nop) 12 (zc 12 true (.aload_n 0) 1 (zc 13 true (.iconst 1) 1 (zc 14 true (.invokevirtual 42) 3 (zc 17 true (.ireturn) 1 ([])))))
theorem zrX12_bestBait_0b_ok : zck 0 ((zby cX12_bestBait).drop 0) zrX12_bestBait_0b = true := by decide +kernel
def vfX12_bestBait_nul : List Cond := List.cons (.code yX12_bestBait cX12_bestBait 6 (some .int)) (apW [.fieldLink RX12 36 "HookPierModel" "thrown" "I", .fieldLink RX12 299 "HookPierModel" "pier" "LHookPierModel$Pier;", .methodLink RX12 42 yX12_refused, .instanceMethod yX12_refused, .selects RX12 yX12_refused yX12_refused, .initialized RX12] (apW wsX120 (vfX12_refused_nul)))
theorem ifX12_bestBait_nul_X12 : ∀ w ∈ wsX120, w ∈ vfX12_bestBait_nul := fun _ h => (List.mem_cons_of_mem _ (List.mem_append_right _ (List.mem_append_left _ h)))
theorem qfX12_bestBait_nul : Good vfX12_bestBait_nul := gd_cons (by decide +kernel) (gd_app (gd_dec (by decide +kernel) : Good [.fieldLink RX12 36 "HookPierModel" "thrown" "I", .fieldLink RX12 299 "HookPierModel" "pier" "LHookPierModel$Pier;", .methodLink RX12 42 yX12_refused, .instanceMethod yX12_refused, .selects RX12 yX12_refused yX12_refused, .initialized RX12]) (gd_app qsX12 qfX12_refused_nul))
theorem gfX12_bestBait_nul_0 : GoodIn vfX12_bestBait_nul (wsV RX12 42 RX12 yX12_refused vfX12_refused_nul) := goodIn_app (goodIn_r [.methodLink RX12 42 yX12_refused, .instanceMethod yX12_refused, .selects RX12 yX12_refused yX12_refused, .initialized RX12] [3, 4, 5, 6] rfl (by decide +kernel)) (goodIn_m (fun _ h => (List.mem_cons_of_mem _ (List.mem_append_right _ (List.mem_append_right _ h)))) qfX12_refused_nul)
set_option maxHeartbeats 2000000 in
set_option maxRecDepth 100000 in
theorem kfX12_bestBait_nul (l : Launch) (dC : Nat → ClassId) (dI : Nat → Nat → Nat) (a0 : Nat) (m_t : TX12_t) (g2 : Value) (g3 : Value) (g4 : Value) (g5 : Value) (g6 : Value) (g7 : Value) (g8 : Value) (g9 : Value) (g10 : Value) (g11 : Value) (g12 : Value) (g13 : Value) (g14 : Value) (g15 : Value) (g16 : Value) (g17 : Value) (g18 : Value) (g19 : Value) (g20 : Value) (g21 : Value) (g22 : Value) (g23 : Value) (g24 : Value) (g25 : Value) (g26 : Value) (g27 : Value) (sz : Nat) (out : TX12_t) (h : f_X12_bestBait_nul m_t = out) : KCi l yX12_bestBait vfX12_bestBait_nul ({ frames := 1, cells := 0, slots := 0, locals := 21 }) (dC, dI) [.ref a0] sz ([(a0, .inr (9, [.int m_t.1, .int m_t.2.1, .int m_t.2.2, .null, g2, g3, g4, g5, g6, g7, g8, g9, g10, g11, g12, g13, g14, g15, g16, g17, g18, g19, g20, g21, g22, g23, g24, g25, g26, g27]))]) ([]) (fun (r : Int32) _ => r = (-1)) ([(a0, .inr (9, [.int out.1, .int out.2.1, .int out.2.2, .null, g2, g3, g4, g5, g6, g7, g8, g9, g10, g11, g12, g13, g14, g15, g16, g17, g18, g19, g20, g21, g22, g23, g24, g25, g26, g27]))]) 0 0 := by
  refine Met.ofW (cc := cX12_bestBait) (maxL := 6) (ret := (some .int)) (by decide) rfl ?_
  intro p e s m args below meth c s₁ B0 hml hv
  obtain ⟨rfl, hsz, hP, hK, hD0, hN⟩ := hv
  have hx := B0.exec
  have hb := B0.bytes
  have hr := B0.returns
  have hts := atoms_spec (ws := vfX12_bestBait_nul) B0.pre
  have hown : s.vm.findClass RX12 = some m.cls := findClass_of_methodNamed B0.named
  have hlocks := B0.notSynchronized
  subst hsz
  have hD := hD0.self (sz := s.heap.size)
  generalize hAe : va_A ([(a0, .inr (9, [.int m_t.1, .int m_t.2.1, .int m_t.2.2, .null, g2, g3, g4, g5, g6, g7, g8, g9, g10, g11, g12, g13, g14, g15, g16, g17, g18, g19, g20, g21, g22, g23, g24, g25, g26, g27]))]) s.heap.size = A at hD ⊢
  have hA : ∀ q : Nat, s.heap.size ≤ q → A q := fun q h => by rw [← hAe]; exact Or.inr h
  have hS : va_S A s.heap s.heap [] := va_S.rf
  have hP : va_P (dC, dI) vwCl ([(a0, .inr (9, [.int m_t.1, .int m_t.2.1, .int m_t.2.2, .null, g2, g3, g4, g5, g6, g7, g8, g9, g10, g11, g12, g13, g14, g15, g16, g17, g18, g19, g20, g21, g22, g23, g24, g25, g26, g27]))]) s.heap := hP
  have hl := lv_entry ([.ref a0]) (n := 6) (Nat.le_of_ble_eq_true rfl)
  rw [lg_entry_eq]
  generalize (lg_sl ([.ref a0]) ++ List.replicate (6 - (lg_sl ([.ref a0])).length) Slot.unset).toArray = ls at hl ⊢
  have hl : lv_has ls 6 [(0, .ref a0)] := hl
  refine W_q (fun QQ hQQ => ?_)
  rw [f_X12_bestBait_nul] at h
  refine lv_aload_n hx hb (zat zrX12_bestBait_0_ok 0 rfl) rfl (lv_at hl 0 rfl) ?_
  refine lv_iconst (v := 0) hx hb (zat zrX12_bestBait_0_ok 1 rfl) (by decide) ?_
  refine va_put (D := (dC, dI)) (ci := 9) (v := .int 0) (ty := .int) (C := RX12) (T := TX12) (N := 30) hx hb hts ifX12_bestBait_nul_X12 tyX12 tyX12_ok nmX12 hown hK hP hD hS 0 rfl rfl 0 (by decide) (hts (.fieldLink RX12 36 "HookPierModel" "thrown" "I") (List.mem_of_getElem? (i := 1) rfl)) (fun _ h9 => h9) rfl (by decide +kernel) rfl rfl (Nat.le_of_ble_eq_true rfl) (zat zrX12_bestBait_0_ok 2 rfl) (fun H locs hP hD hS => ?_)
  obtain ⟨hP, hD⟩ := pd_mk ([(a0, .inr (9, [.int 0, .int m_t.2.1, .int m_t.2.2, .null, g2, g3, g4, g5, g6, g7, g8, g9, g10, g11, g12, g13, g14, g15, g16, g17, g18, g19, g20, g21, g22, g23, g24, g25, g26, g27]))]) hP hD
  refine lv_aload_n hx hb (zat zrX12_bestBait_0_ok 3 rfl) rfl (lv_at hl 0 rfl) ?_
  refine va_get (D := (dC, dI)) (ci := 9) (v := .null) (C := RX12) (T := TX12) (N := 30) hx hb hts ifX12_bestBait_nul_X12 hown hK hP 0 rfl rfl 3 (by decide) (hts (.fieldLink RX12 299 "HookPierModel" "pier" "LHookPierModel$Pier;") (List.mem_of_getElem? (i := 2) rfl)) (fun _ h9 => h9) rfl (zat zrX12_bestBait_0_ok 4 rfl) ?_
  refine lv_ifnonnullN hx hb (zat zrX12_bestBait_0_ok 5 rfl) ?_
  refine lv_aload_n hx hb (zat zrX12_bestBait_0b_ok 1 rfl) rfl (lv_at hl 0 rfl) ?_
  refine lv_iconst (v := 1) hx hb (zat zrX12_bestBait_0b_ok 2 rfl) (by decide) ?_
  obtain ⟨o14, eo14⟩ : ∃ o, o = f_X12_refused_nul (1 : Int32) ((0 : Int32), m_t.2) := ⟨_, rfl⟩
  have h := nm_of h o14 eo14
  refine ck_i (wc := ([(a0, .inr (9, [.int 0, .int m_t.2.1, .int m_t.2.2, .null, g2, g3, g4, g5, g6, g7, g8, g9, g10, g11, g12, g13, g14, g15, g16, g17, g18, g19, g20, g21, g22, g23, g24, g25, g26, g27]))])) (wr := []) hP hD hK hS hA [0] [] rfl rfl (by decide) (by decide) (by decide) (fun hPc hDc => (va_runV (As := [.int 1]) (rest := []) ⟨hx, hb, hml, hown, hts⟩ (kfX12_refused_nul l dC dI a0 (1 : Int32) ((0 : Int32), m_t.2) (.null) (g2) (g3) (g4) (g5) (g6) (g7) (g8) (g9) (g10) (g11) (g12) (g13) (g14) (g15) (g16) (g17) (g18) (g19) (g20) (g21) (g22) (g23) (g24) (g25) (g26) (g27) H.size o14 eo14.symm) (cwV 1 hts gfX12_bestBait_nul_0 rfl rfl rfl (by decide +kernel) ⟨(Nat.le_of_ble_eq_true rfl), (Nat.le_of_ble_eq_true rfl)⟩) (PV hPc (hK.sub (tys' := ([])) [] rfl) hDc hN 0 rfl rfl) rfl rfl hl.1 rfl (lv_room (Nat.le_of_ble_eq_true rfl)) (zat zrX12_bestBait_0b_ok 3 rfl) ⟨(Nat.le_of_ble_eq_true rfl), (Nat.le_of_ble_eq_true rfl)⟩)) (fun r14 _ H locs hw hP hD _ hS => ?_)
  obtain rfl := hw
  obtain ⟨hP, hD⟩ := pd_mk ([(a0, .inr (9, [.int o14.1, .int o14.2.1, .int o14.2.2, .null, g2, g3, g4, g5, g6, g7, g8, g9, g10, g11, g12, g13, g14, g15, g16, g17, g18, g19, g20, g21, g22, g23, g24, g25, g26, g27]))]) hP hD
  obtain rfl := h
  obtain ⟨hP9, hD9⟩ := pd_sub ([(a0, .inr (9, [.int o14.1, .int o14.2.1, .int o14.2.2, .null, g2, g3, g4, g5, g6, g7, g8, g9, g10, g11, g12, g13, g14, g15, g16, g17, g18, g19, g20, g21, g22, g23, g24, g25, g26, g27]))]) [0] hP hD (by decide) rfl
  have hK9 := hK.sub (tys' := []) [] rfl
  rw [hQQ]
  exact W.iret (v := (-1 : Int32)) hx hb hr (fun t ht hW => ⟨⟨(-1 : Int32), (), rfl, rfl, by rw [ht]; exact hP9, va_K.moved hW.alike hK9, hD9⟩, hS.F ht⟩) hS.2.2 (zat zrX12_bestBait_0b_ok 4 rfl)
def vfX12_hungerFor_nul : List Cond := List.cons (.code yX12_hungerFor cX12_hungerFor 7 (some .int)) (apW [.fieldLink RX12 36 "HookPierModel" "thrown" "I", .methodLink RX12 320 yX12_isAnswer, .instanceMethod yX12_isAnswer, .selects RX12 yX12_isAnswer yX12_isAnswer, .initialized RX12, .methodLink RX12 353 yX12_refusesQuestion, .instanceMethod yX12_refusesQuestion, .selects RX12 yX12_refusesQuestion yX12_refusesQuestion, .methodLink RX12 42 yX12_refused, .instanceMethod yX12_refused, .selects RX12 yX12_refused yX12_refused] (apW wsX120 (apW vfX12_isAnswer_nul (apW vfX12_refusesQuestion_nul_s0 (vfX12_refused_nul)))))
theorem ifX12_hungerFor_nul_X12 : ∀ w ∈ wsX120, w ∈ vfX12_hungerFor_nul := fun _ h => (List.mem_cons_of_mem _ (List.mem_append_right _ (List.mem_append_left _ h)))
theorem qfX12_hungerFor_nul : Good vfX12_hungerFor_nul := gd_cons (by decide +kernel) (gd_app (gd_dec (by decide +kernel) : Good [.fieldLink RX12 36 "HookPierModel" "thrown" "I", .methodLink RX12 320 yX12_isAnswer, .instanceMethod yX12_isAnswer, .selects RX12 yX12_isAnswer yX12_isAnswer, .initialized RX12, .methodLink RX12 353 yX12_refusesQuestion, .instanceMethod yX12_refusesQuestion, .selects RX12 yX12_refusesQuestion yX12_refusesQuestion, .methodLink RX12 42 yX12_refused, .instanceMethod yX12_refused, .selects RX12 yX12_refused yX12_refused]) (gd_app qsX12 (gd_app qfX12_isAnswer_nul (gd_app qfX12_refusesQuestion_nul_s0 qfX12_refused_nul))))
theorem gfX12_hungerFor_nul_0 : GoodIn vfX12_hungerFor_nul (wsV RX12 320 RX12 yX12_isAnswer vfX12_isAnswer_nul) := goodIn_app (goodIn_r [.methodLink RX12 320 yX12_isAnswer, .instanceMethod yX12_isAnswer, .selects RX12 yX12_isAnswer yX12_isAnswer, .initialized RX12] [2, 3, 4, 5] rfl (by decide +kernel)) (goodIn_m (fun _ h => (List.mem_cons_of_mem _ (List.mem_append_right _ (List.mem_append_right _ (List.mem_append_left _ h))))) qfX12_isAnswer_nul)
theorem gfX12_hungerFor_nul_1 : GoodIn vfX12_hungerFor_nul (wsV RX12 353 RX12 yX12_refusesQuestion vfX12_refusesQuestion_nul_s0) := goodIn_app (goodIn_r [.methodLink RX12 353 yX12_refusesQuestion, .instanceMethod yX12_refusesQuestion, .selects RX12 yX12_refusesQuestion yX12_refusesQuestion, .initialized RX12] [6, 7, 8, 5] rfl (by decide +kernel)) (goodIn_m (fun _ h => (List.mem_cons_of_mem _ (List.mem_append_right _ (List.mem_append_right _ (List.mem_append_right _ (List.mem_append_left _ h)))))) qfX12_refusesQuestion_nul_s0)
theorem gfX12_hungerFor_nul_2 : GoodIn vfX12_hungerFor_nul (wsV RX12 42 RX12 yX12_refused vfX12_refused_nul) := goodIn_app (goodIn_r [.methodLink RX12 42 yX12_refused, .instanceMethod yX12_refused, .selects RX12 yX12_refused yX12_refused, .initialized RX12] [9, 10, 11, 5] rfl (by decide +kernel)) (goodIn_m (fun _ h => (List.mem_cons_of_mem _ (List.mem_append_right _ (List.mem_append_right _ (List.mem_append_right _ (List.mem_append_right _ h)))))) qfX12_refused_nul)
set_option maxHeartbeats 2000000 in
set_option maxRecDepth 100000 in
theorem kfX12_hungerFor_nul (l : Launch) (dC : Nat → ClassId) (dI : Nat → Nat → Nat) (a0 : Nat) (k1 : Int32) (k2 : Int32) (k3 : Int32) (k4 : Int32) (m_t : TX12_t) (g6 : Value) (g7 : Value) (g8 : Value) (g9 : Value) (g10 : Value) (g11 : Value) (g12 : Value) (g13 : Value) (g14 : Value) (g15 : Value) (g16 : Value) (g17 : Value) (g18 : Value) (g19 : Value) (g20 : Value) (g21 : Value) (g22 : Value) (g23 : Value) (g24 : Value) (g25 : Value) (g26 : Value) (g27 : Value) (g28 : Value) (g29 : Value) (g30 : Value) (g31 : Value) (sz : Nat) (out : TX12_t) (h : f_X12_hungerFor_nul k1 k2 k3 k4 m_t = out) : KCi l yX12_hungerFor vfX12_hungerFor_nul ({ frames := 1, cells := 0, slots := 0, locals := 24 }) (dC, dI) [.ref a0, .int k1, .int k2, .int k3, .int k4] sz ([(a0, .inr (9, [.int m_t.1, .int m_t.2.1, .int m_t.2.2, .null, g6, g7, g8, g9, g10, g11, g12, g13, g14, g15, g16, g17, g18, g19, g20, g21, g22, g23, g24, g25, g26, g27, g28, g29, g30, g31]))]) ([]) (fun (r : Int32) _ => r = (-1)) ([(a0, .inr (9, [.int out.1, .int out.2.1, .int out.2.2, .null, g6, g7, g8, g9, g10, g11, g12, g13, g14, g15, g16, g17, g18, g19, g20, g21, g22, g23, g24, g25, g26, g27, g28, g29, g30, g31]))]) 0 0 := by
  refine Met.ofW (cc := cX12_hungerFor) (maxL := 7) (ret := (some .int)) (by decide) rfl ?_
  intro p e s m args below meth c s₁ B0 hml hv
  obtain ⟨rfl, hsz, hP, hK, hD0, hN⟩ := hv
  have hx := B0.exec
  have hb := B0.bytes
  have hr := B0.returns
  have hts := atoms_spec (ws := vfX12_hungerFor_nul) B0.pre
  have hown : s.vm.findClass RX12 = some m.cls := findClass_of_methodNamed B0.named
  have hlocks := B0.notSynchronized
  subst hsz
  have hD := hD0.self (sz := s.heap.size)
  generalize hAe : va_A ([(a0, .inr (9, [.int m_t.1, .int m_t.2.1, .int m_t.2.2, .null, g6, g7, g8, g9, g10, g11, g12, g13, g14, g15, g16, g17, g18, g19, g20, g21, g22, g23, g24, g25, g26, g27, g28, g29, g30, g31]))]) s.heap.size = A at hD ⊢
  have hA : ∀ q : Nat, s.heap.size ≤ q → A q := fun q h => by rw [← hAe]; exact Or.inr h
  have hS : va_S A s.heap s.heap [] := va_S.rf
  have hP : va_P (dC, dI) vwCl ([(a0, .inr (9, [.int m_t.1, .int m_t.2.1, .int m_t.2.2, .null, g6, g7, g8, g9, g10, g11, g12, g13, g14, g15, g16, g17, g18, g19, g20, g21, g22, g23, g24, g25, g26, g27, g28, g29, g30, g31]))]) s.heap := hP
  have hl := lv_entry ([.ref a0, .int k1, .int k2, .int k3, .int k4]) (n := 7) (Nat.le_of_ble_eq_true rfl)
  rw [lg_entry_eq]
  generalize (lg_sl ([.ref a0, .int k1, .int k2, .int k3, .int k4]) ++ List.replicate (7 - (lg_sl ([.ref a0, .int k1, .int k2, .int k3, .int k4])).length) Slot.unset).toArray = ls at hl ⊢
  have hl : lv_has ls 7 [(0, .ref a0), (1, .int k1), (2, .int k2), (3, .int k3), (4, .int k4)] := hl
  refine W_q (fun QQ hQQ => ?_)
  rw [f_X12_hungerFor_nul] at h
  refine lv_aload_n hx hb (zat zrX12_hungerFor_0_ok 0 rfl) rfl (lv_at hl 0 rfl) ?_
  refine lv_iconst (v := 0) hx hb (zat zrX12_hungerFor_0_ok 1 rfl) (by decide) ?_
  refine va_put (D := (dC, dI)) (ci := 9) (v := .int 0) (ty := .int) (C := RX12) (T := TX12) (N := 30) hx hb hts ifX12_hungerFor_nul_X12 tyX12 tyX12_ok nmX12 hown hK hP hD hS 0 rfl rfl 0 (by decide) (hts (.fieldLink RX12 36 "HookPierModel" "thrown" "I") (List.mem_of_getElem? (i := 1) rfl)) (fun _ h9 => h9) rfl (by decide +kernel) rfl rfl (Nat.le_of_ble_eq_true rfl) (zat zrX12_hungerFor_0_ok 2 rfl) (fun H locs hP hD hS => ?_)
  obtain ⟨hP, hD⟩ := pd_mk ([(a0, .inr (9, [.int 0, .int m_t.2.1, .int m_t.2.2, .null, g6, g7, g8, g9, g10, g11, g12, g13, g14, g15, g16, g17, g18, g19, g20, g21, g22, g23, g24, g25, g26, g27, g28, g29, g30, g31]))]) hP hD
  refine lv_aload_n hx hb (zat zrX12_hungerFor_0_ok 3 rfl) rfl (lv_at hl 0 rfl) ?_
  refine lv_aload_n hx hb (zat zrX12_hungerFor_0_ok 4 rfl) rfl (lv_at hl 0 rfl) ?_
  refine lv_iload_n hx hb (zat zrX12_hungerFor_0_ok 5 rfl) rfl (lv_at hl 1 rfl) ?_
  refine ck_i (wc := ([(a0, .inr (9, [.int 0, .int m_t.2.1, .int m_t.2.2, .null, g6, g7, g8, g9, g10, g11, g12, g13, g14, g15, g16, g17, g18, g19, g20, g21, g22, g23, g24, g25, g26, g27, g28, g29, g30, g31]))])) (wr := []) hP hD hK hS hA [0] [] rfl rfl (by decide) (by decide) (by decide) (fun hPc hDc => (va_runV (As := [.int k1]) (rest := [.ref a0]) ⟨hx, hb, hml, hown, hts⟩ (kfX12_isAnswer_nul l dC dI a0 k1 (.int 0) (.int m_t.2.1) (.int m_t.2.2) (g6) (g7) (g8) (g9) (g10) (g11) (g12) (g13) (g14) (g15) (g16) (g17) (g18) (g19) (g20) (g21) (g22) (g23) (g24) (g25) (g26) (g27) (g28) (g29) (g30) (g31) H.size () rfl) (cwV 1 hts gfX12_hungerFor_nul_0 rfl rfl rfl (by decide +kernel) ⟨(Nat.le_of_ble_eq_true rfl), (Nat.le_of_ble_eq_true rfl)⟩) (PV hPc (hK.sub (tys' := ([])) [] rfl) hDc hN 0 rfl rfl) rfl rfl hl.1 rfl (lv_room (Nat.le_of_ble_eq_true rfl)) (zat zrX12_hungerFor_0_ok 6 rfl) ⟨(Nat.le_of_ble_eq_true rfl), (Nat.le_of_ble_eq_true rfl)⟩)) (fun r8 _ H locs hw hP hD _ hS => ?_)
  obtain ⟨hw, br8⟩ := hw
  obtain rfl := hw
  obtain ⟨hP, hD⟩ := pd_mk ([(a0, .inr (9, [.int 0, .int m_t.2.1, .int m_t.2.2, .null, g6, g7, g8, g9, g10, g11, g12, g13, g14, g15, g16, g17, g18, g19, g20, g21, g22, g23, g24, g25, g26, g27, g28, g29, g30, g31]))]) hP hD
  refine lv_iload_n hx hb (zat zrX12_hungerFor_0_ok 7 rfl) rfl (lv_at hl 2 rfl) ?_
  refine lv_iload_n hx hb (zat zrX12_hungerFor_0_ok 8 rfl) rfl (lv_at hl 3 rfl) ?_
  refine lv_iload hx hb (zat zrX12_hungerFor_0_ok 9 rfl) (lv_at hl 4 rfl) ?_
  refine ck_i (wc := ([(a0, .inr (9, [.int 0, .int m_t.2.1, .int m_t.2.2, .null, g6, g7, g8, g9, g10, g11, g12, g13, g14, g15, g16, g17, g18, g19, g20, g21, g22, g23, g24, g25, g26, g27, g28, g29, g30, g31]))])) (wr := []) hP hD hK hS hA [0] [] rfl rfl (by decide) (by decide) (by decide) (fun hPc hDc => (va_runV (As := [.int 0, .int k2, .int k3, .int k4]) (rest := []) ⟨hx, hb, hml, hown, hts⟩ (kfX12_refusesQuestion_nul_s0 l dC dI a0 k2 k3 k4 (.int 0) (.int m_t.2.1) (.int m_t.2.2) (.null) (g6) (g7) (g8) (g9) (g10) (g11) (g12) (g13) (g14) (g15) (g16) (g17) (g18) (g19) (g20) (g21) (g22) (g23) (g24) (g25) (g26) (g27) (g28) (g29) (g30) (g31) H.size () rfl) (cwV 4 hts gfX12_hungerFor_nul_1 rfl rfl rfl (by decide +kernel) ⟨(Nat.le_of_ble_eq_true rfl), (Nat.le_of_ble_eq_true rfl)⟩) (PV hPc (hK.sub (tys' := ([])) [] rfl) hDc hN 0 rfl rfl) rfl rfl hl.1 rfl (lv_room (Nat.le_of_ble_eq_true rfl)) (zat zrX12_hungerFor_0_ok 10 rfl) ⟨(Nat.le_of_ble_eq_true rfl), (Nat.le_of_ble_eq_true rfl)⟩)) (fun r15 _ H locs hw hP hD _ hS => ?_)
  obtain rfl := hw
  obtain ⟨hP, hD⟩ := pd_mk ([(a0, .inr (9, [.int 0, .int m_t.2.1, .int m_t.2.2, .null, g6, g7, g8, g9, g10, g11, g12, g13, g14, g15, g16, g17, g18, g19, g20, g21, g22, g23, g24, g25, g26, g27, g28, g29, g30, g31]))]) hP hD
  refine lv_istore (lv' := [(5, .int 1), (0, .ref a0), (1, .int k1), (2, .int k2), (3, .int k3), (4, .int k4)]) hx hb (zat zrX12_hungerFor_0_ok 11 rfl) hl (by decide) rfl (fun ls hl => ?_)
  refine lv_iload hx hb (zat zrX12_hungerFor_0_ok 12 rfl) (lv_at hl 0 rfl) ?_
  refine lv_if_le (tgt := 32) hx hb (zat zrX12_hungerFor_0_ok 13 rfl) (by decide) (fun c22 => absurd c22 (by decide)) (fun _ => ?_)
  refine lv_aload_n hx hb (zat zrX12_hungerFor_0_ok 14 rfl) rfl (lv_at hl 1 rfl) ?_
  refine lv_iload hx hb (zat zrX12_hungerFor_0_ok 15 rfl) (lv_at hl 0 rfl) ?_
  obtain ⟨o28, eo28⟩ : ∃ o, o = f_X12_refused_nul (1 : Int32) ((0 : Int32), m_t.2) := ⟨_, rfl⟩
  have h := nm_of h o28 eo28
  refine ck_i (wc := ([(a0, .inr (9, [.int 0, .int m_t.2.1, .int m_t.2.2, .null, g6, g7, g8, g9, g10, g11, g12, g13, g14, g15, g16, g17, g18, g19, g20, g21, g22, g23, g24, g25, g26, g27, g28, g29, g30, g31]))])) (wr := []) hP hD hK hS hA [0] [] rfl rfl (by decide) (by decide) (by decide) (fun hPc hDc => (va_runV (As := [.int 1]) (rest := []) ⟨hx, hb, hml, hown, hts⟩ (kfX12_refused_nul l dC dI a0 (1 : Int32) ((0 : Int32), m_t.2) (.null) (g6) (g7) (g8) (g9) (g10) (g11) (g12) (g13) (g14) (g15) (g16) (g17) (g18) (g19) (g20) (g21) (g22) (g23) (g24) (g25) (g26) (g27) (g28) (g29) (g30) (g31) H.size o28 eo28.symm) (cwV 1 hts gfX12_hungerFor_nul_2 rfl rfl rfl (by decide +kernel) ⟨(Nat.le_of_ble_eq_true rfl), (Nat.le_of_ble_eq_true rfl)⟩) (PV hPc (hK.sub (tys' := ([])) [] rfl) hDc hN 0 rfl rfl) rfl rfl hl.1 rfl (lv_room (Nat.le_of_ble_eq_true rfl)) (zat zrX12_hungerFor_0_ok 16 rfl) ⟨(Nat.le_of_ble_eq_true rfl), (Nat.le_of_ble_eq_true rfl)⟩)) (fun r28 _ H locs hw hP hD _ hS => ?_)
  obtain rfl := hw
  obtain ⟨hP, hD⟩ := pd_mk ([(a0, .inr (9, [.int o28.1, .int o28.2.1, .int o28.2.2, .null, g6, g7, g8, g9, g10, g11, g12, g13, g14, g15, g16, g17, g18, g19, g20, g21, g22, g23, g24, g25, g26, g27, g28, g29, g30, g31]))]) hP hD
  obtain rfl := h
  obtain ⟨hP9, hD9⟩ := pd_sub ([(a0, .inr (9, [.int o28.1, .int o28.2.1, .int o28.2.2, .null, g6, g7, g8, g9, g10, g11, g12, g13, g14, g15, g16, g17, g18, g19, g20, g21, g22, g23, g24, g25, g26, g27, g28, g29, g30, g31]))]) [0] hP hD (by decide) rfl
  have hK9 := hK.sub (tys' := []) [] rfl
  rw [hQQ]
  exact W.iret (v := (-1 : Int32)) hx hb hr (fun t ht hW => ⟨⟨(-1 : Int32), (), rfl, rfl, by rw [ht]; exact hP9, va_K.moved hW.alike hK9, hD9⟩, hS.F ht⟩) hS.2.2 (zat zrX12_hungerFor_0_ok 17 rfl)
def vfX12_freeSpots_nul : List Cond := List.cons (.code yX12_freeSpots cX12_freeSpots 6 (some .int)) (apW [.fieldLink RX12 36 "HookPierModel" "thrown" "I", .methodLink RX12 334 yX12_isAsker, .instanceMethod yX12_isAsker, .selects RX12 yX12_isAsker yX12_isAsker, .initialized RX12, .methodLink RX12 42 yX12_refused, .instanceMethod yX12_refused, .selects RX12 yX12_refused yX12_refused] (apW wsX120 (apW vfX12_isAsker_nul (vfX12_refused_nul))))
theorem ifX12_freeSpots_nul_X12 : ∀ w ∈ wsX120, w ∈ vfX12_freeSpots_nul := fun _ h => (List.mem_cons_of_mem _ (List.mem_append_right _ (List.mem_append_left _ h)))
theorem qfX12_freeSpots_nul : Good vfX12_freeSpots_nul := gd_cons (by decide +kernel) (gd_app (gd_dec (by decide +kernel) : Good [.fieldLink RX12 36 "HookPierModel" "thrown" "I", .methodLink RX12 334 yX12_isAsker, .instanceMethod yX12_isAsker, .selects RX12 yX12_isAsker yX12_isAsker, .initialized RX12, .methodLink RX12 42 yX12_refused, .instanceMethod yX12_refused, .selects RX12 yX12_refused yX12_refused]) (gd_app qsX12 (gd_app qfX12_isAsker_nul qfX12_refused_nul)))
theorem gfX12_freeSpots_nul_0 : GoodIn vfX12_freeSpots_nul (wsV RX12 334 RX12 yX12_isAsker vfX12_isAsker_nul) := goodIn_app (goodIn_r [.methodLink RX12 334 yX12_isAsker, .instanceMethod yX12_isAsker, .selects RX12 yX12_isAsker yX12_isAsker, .initialized RX12] [2, 3, 4, 5] rfl (by decide +kernel)) (goodIn_m (fun _ h => (List.mem_cons_of_mem _ (List.mem_append_right _ (List.mem_append_right _ (List.mem_append_left _ h))))) qfX12_isAsker_nul)
theorem gfX12_freeSpots_nul_1 : GoodIn vfX12_freeSpots_nul (wsV RX12 42 RX12 yX12_refused vfX12_refused_nul) := goodIn_app (goodIn_r [.methodLink RX12 42 yX12_refused, .instanceMethod yX12_refused, .selects RX12 yX12_refused yX12_refused, .initialized RX12] [6, 7, 8, 5] rfl (by decide +kernel)) (goodIn_m (fun _ h => (List.mem_cons_of_mem _ (List.mem_append_right _ (List.mem_append_right _ (List.mem_append_right _ h))))) qfX12_refused_nul)
set_option maxHeartbeats 2000000 in
set_option maxRecDepth 100000 in
theorem kfX12_freeSpots_nul (l : Launch) (dC : Nat → ClassId) (dI : Nat → Nat → Nat) (a0 : Nat) (k1 : Int32) (m_t : TX12_t) (g3 : Value) (g4 : Value) (g5 : Value) (g6 : Value) (g7 : Value) (g8 : Value) (g9 : Value) (g10 : Value) (g11 : Value) (g12 : Value) (g13 : Value) (g14 : Value) (g15 : Value) (g16 : Value) (g17 : Value) (g18 : Value) (g19 : Value) (g20 : Value) (g21 : Value) (g22 : Value) (g23 : Value) (g24 : Value) (g25 : Value) (g26 : Value) (g27 : Value) (g28 : Value) (sz : Nat) (out : TX12_t) (h : f_X12_freeSpots_nul k1 m_t = out) : KCi l yX12_freeSpots vfX12_freeSpots_nul ({ frames := 1, cells := 0, slots := 0, locals := 21 }) (dC, dI) [.ref a0, .int k1] sz ([(a0, .inr (9, [.int m_t.1, .int m_t.2.1, .int m_t.2.2, .null, g3, g4, g5, g6, g7, g8, g9, g10, g11, g12, g13, g14, g15, g16, g17, g18, g19, g20, g21, g22, g23, g24, g25, g26, g27, g28]))]) ([]) (fun (r : Int32) _ => r = (-1)) ([(a0, .inr (9, [.int out.1, .int out.2.1, .int out.2.2, .null, g3, g4, g5, g6, g7, g8, g9, g10, g11, g12, g13, g14, g15, g16, g17, g18, g19, g20, g21, g22, g23, g24, g25, g26, g27, g28]))]) 0 0 := by
  refine Met.ofW (cc := cX12_freeSpots) (maxL := 6) (ret := (some .int)) (by decide) rfl ?_
  intro p e s m args below meth c s₁ B0 hml hv
  obtain ⟨rfl, hsz, hP, hK, hD0, hN⟩ := hv
  have hx := B0.exec
  have hb := B0.bytes
  have hr := B0.returns
  have hts := atoms_spec (ws := vfX12_freeSpots_nul) B0.pre
  have hown : s.vm.findClass RX12 = some m.cls := findClass_of_methodNamed B0.named
  have hlocks := B0.notSynchronized
  subst hsz
  have hD := hD0.self (sz := s.heap.size)
  generalize hAe : va_A ([(a0, .inr (9, [.int m_t.1, .int m_t.2.1, .int m_t.2.2, .null, g3, g4, g5, g6, g7, g8, g9, g10, g11, g12, g13, g14, g15, g16, g17, g18, g19, g20, g21, g22, g23, g24, g25, g26, g27, g28]))]) s.heap.size = A at hD ⊢
  have hA : ∀ q : Nat, s.heap.size ≤ q → A q := fun q h => by rw [← hAe]; exact Or.inr h
  have hS : va_S A s.heap s.heap [] := va_S.rf
  have hP : va_P (dC, dI) vwCl ([(a0, .inr (9, [.int m_t.1, .int m_t.2.1, .int m_t.2.2, .null, g3, g4, g5, g6, g7, g8, g9, g10, g11, g12, g13, g14, g15, g16, g17, g18, g19, g20, g21, g22, g23, g24, g25, g26, g27, g28]))]) s.heap := hP
  have hl := lv_entry ([.ref a0, .int k1]) (n := 6) (Nat.le_of_ble_eq_true rfl)
  rw [lg_entry_eq]
  generalize (lg_sl ([.ref a0, .int k1]) ++ List.replicate (6 - (lg_sl ([.ref a0, .int k1])).length) Slot.unset).toArray = ls at hl ⊢
  have hl : lv_has ls 6 [(0, .ref a0), (1, .int k1)] := hl
  refine W_q (fun QQ hQQ => ?_)
  rw [f_X12_freeSpots_nul] at h
  refine lv_aload_n hx hb (zat zrX12_freeSpots_0_ok 0 rfl) rfl (lv_at hl 0 rfl) ?_
  refine lv_iconst (v := 0) hx hb (zat zrX12_freeSpots_0_ok 1 rfl) (by decide) ?_
  refine va_put (D := (dC, dI)) (ci := 9) (v := .int 0) (ty := .int) (C := RX12) (T := TX12) (N := 30) hx hb hts ifX12_freeSpots_nul_X12 tyX12 tyX12_ok nmX12 hown hK hP hD hS 0 rfl rfl 0 (by decide) (hts (.fieldLink RX12 36 "HookPierModel" "thrown" "I") (List.mem_of_getElem? (i := 1) rfl)) (fun _ h9 => h9) rfl (by decide +kernel) rfl rfl (Nat.le_of_ble_eq_true rfl) (zat zrX12_freeSpots_0_ok 2 rfl) (fun H locs hP hD hS => ?_)
  obtain ⟨hP, hD⟩ := pd_mk ([(a0, .inr (9, [.int 0, .int m_t.2.1, .int m_t.2.2, .null, g3, g4, g5, g6, g7, g8, g9, g10, g11, g12, g13, g14, g15, g16, g17, g18, g19, g20, g21, g22, g23, g24, g25, g26, g27, g28]))]) hP hD
  refine lv_aload_n hx hb (zat zrX12_freeSpots_0_ok 3 rfl) rfl (lv_at hl 0 rfl) ?_
  refine lv_iload_n hx hb (zat zrX12_freeSpots_0_ok 4 rfl) rfl (lv_at hl 1 rfl) ?_
  refine ck_i (wc := ([(a0, .inr (9, [.int 0, .int m_t.2.1, .int m_t.2.2, .null, g3, g4, g5, g6, g7, g8, g9, g10, g11, g12, g13, g14, g15, g16, g17, g18, g19, g20, g21, g22, g23, g24, g25, g26, g27, g28]))])) (wr := []) hP hD hK hS hA [0] [] rfl rfl (by decide) (by decide) (by decide) (fun hPc hDc => (va_runV (As := [.int k1]) (rest := []) ⟨hx, hb, hml, hown, hts⟩ (kfX12_isAsker_nul l dC dI a0 k1 (.int 0) (.int m_t.2.1) (.int m_t.2.2) (g3) (g4) (g5) (g6) (g7) (g8) (g9) (g10) (g11) (g12) (g13) (g14) (g15) (g16) (g17) (g18) (g19) (g20) (g21) (g22) (g23) (g24) (g25) (g26) (g27) (g28) H.size () rfl) (cwV 1 hts gfX12_freeSpots_nul_0 rfl rfl rfl (by decide +kernel) ⟨(Nat.le_of_ble_eq_true rfl), (Nat.le_of_ble_eq_true rfl)⟩) (PV hPc (hK.sub (tys' := ([])) [] rfl) hDc hN 0 rfl rfl) rfl rfl hl.1 rfl (lv_room (Nat.le_of_ble_eq_true rfl)) (zat zrX12_freeSpots_0_ok 5 rfl) ⟨(Nat.le_of_ble_eq_true rfl), (Nat.le_of_ble_eq_true rfl)⟩)) (fun r7 _ H locs hw hP hD _ hS => ?_)
  obtain ⟨hw, br7⟩ := hw
  obtain rfl := hw
  obtain ⟨hP, hD⟩ := pd_mk ([(a0, .inr (9, [.int 0, .int m_t.2.1, .int m_t.2.2, .null, g3, g4, g5, g6, g7, g8, g9, g10, g11, g12, g13, g14, g15, g16, g17, g18, g19, g20, g21, g22, g23, g24, g25, g26, g27, g28]))]) hP hD
  refine lv_if_ne (tgt := 19) hx hb (zat zrX12_freeSpots_0_ok 6 rfl) (by decide) (fun c10 => absurd c10 (by decide)) (fun _ => ?_)
  refine lv_aload_n hx hb (zat zrX12_freeSpots_0_ok 7 rfl) rfl (lv_at hl 0 rfl) ?_
  refine lv_iconst (v := 1) hx hb (zat zrX12_freeSpots_0_ok 8 rfl) (by decide) ?_
  obtain ⟨o15, eo15⟩ : ∃ o, o = f_X12_refused_nul (1 : Int32) ((0 : Int32), m_t.2) := ⟨_, rfl⟩
  have h := nm_of h o15 eo15
  refine ck_i (wc := ([(a0, .inr (9, [.int 0, .int m_t.2.1, .int m_t.2.2, .null, g3, g4, g5, g6, g7, g8, g9, g10, g11, g12, g13, g14, g15, g16, g17, g18, g19, g20, g21, g22, g23, g24, g25, g26, g27, g28]))])) (wr := []) hP hD hK hS hA [0] [] rfl rfl (by decide) (by decide) (by decide) (fun hPc hDc => (va_runV (As := [.int 1]) (rest := []) ⟨hx, hb, hml, hown, hts⟩ (kfX12_refused_nul l dC dI a0 (1 : Int32) ((0 : Int32), m_t.2) (.null) (g3) (g4) (g5) (g6) (g7) (g8) (g9) (g10) (g11) (g12) (g13) (g14) (g15) (g16) (g17) (g18) (g19) (g20) (g21) (g22) (g23) (g24) (g25) (g26) (g27) (g28) H.size o15 eo15.symm) (cwV 1 hts gfX12_freeSpots_nul_1 rfl rfl rfl (by decide +kernel) ⟨(Nat.le_of_ble_eq_true rfl), (Nat.le_of_ble_eq_true rfl)⟩) (PV hPc (hK.sub (tys' := ([])) [] rfl) hDc hN 0 rfl rfl) rfl rfl hl.1 rfl (lv_room (Nat.le_of_ble_eq_true rfl)) (zat zrX12_freeSpots_0_ok 9 rfl) ⟨(Nat.le_of_ble_eq_true rfl), (Nat.le_of_ble_eq_true rfl)⟩)) (fun r15 _ H locs hw hP hD _ hS => ?_)
  obtain rfl := hw
  obtain ⟨hP, hD⟩ := pd_mk ([(a0, .inr (9, [.int o15.1, .int o15.2.1, .int o15.2.2, .null, g3, g4, g5, g6, g7, g8, g9, g10, g11, g12, g13, g14, g15, g16, g17, g18, g19, g20, g21, g22, g23, g24, g25, g26, g27, g28]))]) hP hD
  obtain rfl := h
  obtain ⟨hP9, hD9⟩ := pd_sub ([(a0, .inr (9, [.int o15.1, .int o15.2.1, .int o15.2.2, .null, g3, g4, g5, g6, g7, g8, g9, g10, g11, g12, g13, g14, g15, g16, g17, g18, g19, g20, g21, g22, g23, g24, g25, g26, g27, g28]))]) [0] hP hD (by decide) rfl
  have hK9 := hK.sub (tys' := []) [] rfl
  rw [hQQ]
  exact W.iret (v := (-1 : Int32)) hx hb hr (fun t ht hW => ⟨⟨(-1 : Int32), (), rfl, rfl, by rw [ht]; exact hP9, va_K.moved hW.alike hK9, hD9⟩, hS.F ht⟩) hS.2.2 (zat zrX12_freeSpots_0_ok 10 rfl)
def vfX12_tangles_nul : List Cond := List.cons (.code yX12_tangles cX12_tangles 5 (some .int)) (apW [.fieldLink RX12 36 "HookPierModel" "thrown" "I", .methodLink RX12 334 yX12_isAsker, .instanceMethod yX12_isAsker, .selects RX12 yX12_isAsker yX12_isAsker, .initialized RX12, .methodLink RX12 42 yX12_refused, .instanceMethod yX12_refused, .selects RX12 yX12_refused yX12_refused] (apW wsX120 (apW vfX12_isAsker_nul (vfX12_refused_nul))))
theorem ifX12_tangles_nul_X12 : ∀ w ∈ wsX120, w ∈ vfX12_tangles_nul := fun _ h => (List.mem_cons_of_mem _ (List.mem_append_right _ (List.mem_append_left _ h)))
theorem qfX12_tangles_nul : Good vfX12_tangles_nul := gd_cons (by decide +kernel) (gd_app (gd_dec (by decide +kernel) : Good [.fieldLink RX12 36 "HookPierModel" "thrown" "I", .methodLink RX12 334 yX12_isAsker, .instanceMethod yX12_isAsker, .selects RX12 yX12_isAsker yX12_isAsker, .initialized RX12, .methodLink RX12 42 yX12_refused, .instanceMethod yX12_refused, .selects RX12 yX12_refused yX12_refused]) (gd_app qsX12 (gd_app qfX12_isAsker_nul qfX12_refused_nul)))
theorem gfX12_tangles_nul_0 : GoodIn vfX12_tangles_nul (wsV RX12 334 RX12 yX12_isAsker vfX12_isAsker_nul) := goodIn_app (goodIn_r [.methodLink RX12 334 yX12_isAsker, .instanceMethod yX12_isAsker, .selects RX12 yX12_isAsker yX12_isAsker, .initialized RX12] [2, 3, 4, 5] rfl (by decide +kernel)) (goodIn_m (fun _ h => (List.mem_cons_of_mem _ (List.mem_append_right _ (List.mem_append_right _ (List.mem_append_left _ h))))) qfX12_isAsker_nul)
theorem gfX12_tangles_nul_1 : GoodIn vfX12_tangles_nul (wsV RX12 42 RX12 yX12_refused vfX12_refused_nul) := goodIn_app (goodIn_r [.methodLink RX12 42 yX12_refused, .instanceMethod yX12_refused, .selects RX12 yX12_refused yX12_refused, .initialized RX12] [6, 7, 8, 5] rfl (by decide +kernel)) (goodIn_m (fun _ h => (List.mem_cons_of_mem _ (List.mem_append_right _ (List.mem_append_right _ (List.mem_append_right _ h))))) qfX12_refused_nul)
set_option maxHeartbeats 2000000 in
set_option maxRecDepth 100000 in
theorem kfX12_tangles_nul (l : Launch) (dC : Nat → ClassId) (dI : Nat → Nat → Nat) (a0 : Nat) (k1 : Int32) (k2 : Int32) (k3 : Int32) (k4 : Int32) (m_t : TX12_t) (g6 : Value) (g7 : Value) (g8 : Value) (g9 : Value) (g10 : Value) (g11 : Value) (g12 : Value) (g13 : Value) (g14 : Value) (g15 : Value) (g16 : Value) (g17 : Value) (g18 : Value) (g19 : Value) (g20 : Value) (g21 : Value) (g22 : Value) (g23 : Value) (g24 : Value) (g25 : Value) (g26 : Value) (g27 : Value) (g28 : Value) (g29 : Value) (g30 : Value) (g31 : Value) (sz : Nat) (out : TX12_t) (h : f_X12_tangles_nul k1 k2 k3 k4 m_t = out) : KCi l yX12_tangles vfX12_tangles_nul ({ frames := 1, cells := 0, slots := 0, locals := 21 }) (dC, dI) [.ref a0, .int k1, .int k2, .int k3, .int k4] sz ([(a0, .inr (9, [.int m_t.1, .int m_t.2.1, .int m_t.2.2, .null, g6, g7, g8, g9, g10, g11, g12, g13, g14, g15, g16, g17, g18, g19, g20, g21, g22, g23, g24, g25, g26, g27, g28, g29, g30, g31]))]) ([]) (fun (r : Int32) _ => r = (-1)) ([(a0, .inr (9, [.int out.1, .int out.2.1, .int out.2.2, .null, g6, g7, g8, g9, g10, g11, g12, g13, g14, g15, g16, g17, g18, g19, g20, g21, g22, g23, g24, g25, g26, g27, g28, g29, g30, g31]))]) 0 0 := by
  refine Met.ofW (cc := cX12_tangles) (maxL := 5) (ret := (some .int)) (by decide) rfl ?_
  intro p e s m args below meth c s₁ B0 hml hv
  obtain ⟨rfl, hsz, hP, hK, hD0, hN⟩ := hv
  have hx := B0.exec
  have hb := B0.bytes
  have hr := B0.returns
  have hts := atoms_spec (ws := vfX12_tangles_nul) B0.pre
  have hown : s.vm.findClass RX12 = some m.cls := findClass_of_methodNamed B0.named
  have hlocks := B0.notSynchronized
  subst hsz
  have hD := hD0.self (sz := s.heap.size)
  generalize hAe : va_A ([(a0, .inr (9, [.int m_t.1, .int m_t.2.1, .int m_t.2.2, .null, g6, g7, g8, g9, g10, g11, g12, g13, g14, g15, g16, g17, g18, g19, g20, g21, g22, g23, g24, g25, g26, g27, g28, g29, g30, g31]))]) s.heap.size = A at hD ⊢
  have hA : ∀ q : Nat, s.heap.size ≤ q → A q := fun q h => by rw [← hAe]; exact Or.inr h
  have hS : va_S A s.heap s.heap [] := va_S.rf
  have hP : va_P (dC, dI) vwCl ([(a0, .inr (9, [.int m_t.1, .int m_t.2.1, .int m_t.2.2, .null, g6, g7, g8, g9, g10, g11, g12, g13, g14, g15, g16, g17, g18, g19, g20, g21, g22, g23, g24, g25, g26, g27, g28, g29, g30, g31]))]) s.heap := hP
  have hl := lv_entry ([.ref a0, .int k1, .int k2, .int k3, .int k4]) (n := 5) (Nat.le_of_ble_eq_true rfl)
  rw [lg_entry_eq]
  generalize (lg_sl ([.ref a0, .int k1, .int k2, .int k3, .int k4]) ++ List.replicate (5 - (lg_sl ([.ref a0, .int k1, .int k2, .int k3, .int k4])).length) Slot.unset).toArray = ls at hl ⊢
  have hl : lv_has ls 5 [(0, .ref a0), (1, .int k1), (2, .int k2), (3, .int k3), (4, .int k4)] := hl
  refine W_q (fun QQ hQQ => ?_)
  rw [f_X12_tangles_nul] at h
  refine lv_aload_n hx hb (zat zrX12_tangles_0_ok 0 rfl) rfl (lv_at hl 0 rfl) ?_
  refine lv_iconst (v := 0) hx hb (zat zrX12_tangles_0_ok 1 rfl) (by decide) ?_
  refine va_put (D := (dC, dI)) (ci := 9) (v := .int 0) (ty := .int) (C := RX12) (T := TX12) (N := 30) hx hb hts ifX12_tangles_nul_X12 tyX12 tyX12_ok nmX12 hown hK hP hD hS 0 rfl rfl 0 (by decide) (hts (.fieldLink RX12 36 "HookPierModel" "thrown" "I") (List.mem_of_getElem? (i := 1) rfl)) (fun _ h9 => h9) rfl (by decide +kernel) rfl rfl (Nat.le_of_ble_eq_true rfl) (zat zrX12_tangles_0_ok 2 rfl) (fun H locs hP hD hS => ?_)
  obtain ⟨hP, hD⟩ := pd_mk ([(a0, .inr (9, [.int 0, .int m_t.2.1, .int m_t.2.2, .null, g6, g7, g8, g9, g10, g11, g12, g13, g14, g15, g16, g17, g18, g19, g20, g21, g22, g23, g24, g25, g26, g27, g28, g29, g30, g31]))]) hP hD
  refine lv_aload_n hx hb (zat zrX12_tangles_0_ok 3 rfl) rfl (lv_at hl 0 rfl) ?_
  refine lv_iload_n hx hb (zat zrX12_tangles_0_ok 4 rfl) rfl (lv_at hl 1 rfl) ?_
  refine ck_i (wc := ([(a0, .inr (9, [.int 0, .int m_t.2.1, .int m_t.2.2, .null, g6, g7, g8, g9, g10, g11, g12, g13, g14, g15, g16, g17, g18, g19, g20, g21, g22, g23, g24, g25, g26, g27, g28, g29, g30, g31]))])) (wr := []) hP hD hK hS hA [0] [] rfl rfl (by decide) (by decide) (by decide) (fun hPc hDc => (va_runV (As := [.int k1]) (rest := []) ⟨hx, hb, hml, hown, hts⟩ (kfX12_isAsker_nul l dC dI a0 k1 (.int 0) (.int m_t.2.1) (.int m_t.2.2) (g6) (g7) (g8) (g9) (g10) (g11) (g12) (g13) (g14) (g15) (g16) (g17) (g18) (g19) (g20) (g21) (g22) (g23) (g24) (g25) (g26) (g27) (g28) (g29) (g30) (g31) H.size () rfl) (cwV 1 hts gfX12_tangles_nul_0 rfl rfl rfl (by decide +kernel) ⟨(Nat.le_of_ble_eq_true rfl), (Nat.le_of_ble_eq_true rfl)⟩) (PV hPc (hK.sub (tys' := ([])) [] rfl) hDc hN 0 rfl rfl) rfl rfl hl.1 rfl (lv_room (Nat.le_of_ble_eq_true rfl)) (zat zrX12_tangles_0_ok 5 rfl) ⟨(Nat.le_of_ble_eq_true rfl), (Nat.le_of_ble_eq_true rfl)⟩)) (fun r7 _ H locs hw hP hD _ hS => ?_)
  obtain ⟨hw, br7⟩ := hw
  obtain rfl := hw
  obtain ⟨hP, hD⟩ := pd_mk ([(a0, .inr (9, [.int 0, .int m_t.2.1, .int m_t.2.2, .null, g6, g7, g8, g9, g10, g11, g12, g13, g14, g15, g16, g17, g18, g19, g20, g21, g22, g23, g24, g25, g26, g27, g28, g29, g30, g31]))]) hP hD
  refine lv_if_eq (tgt := 61) hx hb (zat zrX12_tangles_0_ok 6 rfl) (by decide) (fun _ => ?_) (fun c10 => absurd c10 (by decide))
  refine lv_aload_n hx hb (zat zrX12_tangles_0_ok 32 rfl) rfl (lv_at hl 0 rfl) ?_
  refine lv_iconst (v := 1) hx hb (zat zrX12_tangles_0_ok 33 rfl) (by decide) ?_
  obtain ⟨o63, eo63⟩ : ∃ o, o = f_X12_refused_nul (1 : Int32) ((0 : Int32), m_t.2) := ⟨_, rfl⟩
  have h := nm_of h o63 eo63
  refine ck_i (wc := ([(a0, .inr (9, [.int 0, .int m_t.2.1, .int m_t.2.2, .null, g6, g7, g8, g9, g10, g11, g12, g13, g14, g15, g16, g17, g18, g19, g20, g21, g22, g23, g24, g25, g26, g27, g28, g29, g30, g31]))])) (wr := []) hP hD hK hS hA [0] [] rfl rfl (by decide) (by decide) (by decide) (fun hPc hDc => (va_runV (As := [.int 1]) (rest := []) ⟨hx, hb, hml, hown, hts⟩ (kfX12_refused_nul l dC dI a0 (1 : Int32) ((0 : Int32), m_t.2) (.null) (g6) (g7) (g8) (g9) (g10) (g11) (g12) (g13) (g14) (g15) (g16) (g17) (g18) (g19) (g20) (g21) (g22) (g23) (g24) (g25) (g26) (g27) (g28) (g29) (g30) (g31) H.size o63 eo63.symm) (cwV 1 hts gfX12_tangles_nul_1 rfl rfl rfl (by decide +kernel) ⟨(Nat.le_of_ble_eq_true rfl), (Nat.le_of_ble_eq_true rfl)⟩) (PV hPc (hK.sub (tys' := ([])) [] rfl) hDc hN 0 rfl rfl) rfl rfl hl.1 rfl (lv_room (Nat.le_of_ble_eq_true rfl)) (zat zrX12_tangles_0_ok 34 rfl) ⟨(Nat.le_of_ble_eq_true rfl), (Nat.le_of_ble_eq_true rfl)⟩)) (fun r63 _ H locs hw hP hD _ hS => ?_)
  obtain rfl := hw
  obtain ⟨hP, hD⟩ := pd_mk ([(a0, .inr (9, [.int o63.1, .int o63.2.1, .int o63.2.2, .null, g6, g7, g8, g9, g10, g11, g12, g13, g14, g15, g16, g17, g18, g19, g20, g21, g22, g23, g24, g25, g26, g27, g28, g29, g30, g31]))]) hP hD
  obtain rfl := h
  obtain ⟨hP9, hD9⟩ := pd_sub ([(a0, .inr (9, [.int o63.1, .int o63.2.1, .int o63.2.2, .null, g6, g7, g8, g9, g10, g11, g12, g13, g14, g15, g16, g17, g18, g19, g20, g21, g22, g23, g24, g25, g26, g27, g28, g29, g30, g31]))]) [0] hP hD (by decide) rfl
  have hK9 := hK.sub (tys' := []) [] rfl
  rw [hQQ]
  exact W.iret (v := (-1 : Int32)) hx hb hr (fun t ht hW => ⟨⟨(-1 : Int32), (), rfl, rfl, by rw [ht]; exact hP9, va_K.moved hW.alike hK9, hD9⟩, hS.F ht⟩) hS.2.2 (zat zrX12_tangles_0_ok 35 rfl)
noncomputable def zrX12_seatings_0b : List ZR := zc 0 false (.nop) 12 (zc 12 true (.aload_n 0) 1 (zc 13 true (.iconst 1) 1 (zc 14 true (.invokevirtual 42) 3 (zc 17 true (.ireturn) 1 ([])))))
theorem zrX12_seatings_0b_ok : zck 0 ((zby cX12_seatings).drop 0) zrX12_seatings_0b = true := by decide +kernel
def vfX12_seatings_nul : List Cond := List.cons (.code yX12_seatings cX12_seatings 1 (some .int)) (apW [.fieldLink RX12 36 "HookPierModel" "thrown" "I", .fieldLink RX12 299 "HookPierModel" "pier" "LHookPierModel$Pier;", .methodLink RX12 42 yX12_refused, .instanceMethod yX12_refused, .selects RX12 yX12_refused yX12_refused, .initialized RX12] (apW wsX120 (vfX12_refused_nul)))
theorem ifX12_seatings_nul_X12 : ∀ w ∈ wsX120, w ∈ vfX12_seatings_nul := fun _ h => (List.mem_cons_of_mem _ (List.mem_append_right _ (List.mem_append_left _ h)))
theorem qfX12_seatings_nul : Good vfX12_seatings_nul := gd_cons (by decide +kernel) (gd_app (gd_dec (by decide +kernel) : Good [.fieldLink RX12 36 "HookPierModel" "thrown" "I", .fieldLink RX12 299 "HookPierModel" "pier" "LHookPierModel$Pier;", .methodLink RX12 42 yX12_refused, .instanceMethod yX12_refused, .selects RX12 yX12_refused yX12_refused, .initialized RX12]) (gd_app qsX12 qfX12_refused_nul))
theorem gfX12_seatings_nul_0 : GoodIn vfX12_seatings_nul (wsV RX12 42 RX12 yX12_refused vfX12_refused_nul) := goodIn_app (goodIn_r [.methodLink RX12 42 yX12_refused, .instanceMethod yX12_refused, .selects RX12 yX12_refused yX12_refused, .initialized RX12] [3, 4, 5, 6] rfl (by decide +kernel)) (goodIn_m (fun _ h => (List.mem_cons_of_mem _ (List.mem_append_right _ (List.mem_append_right _ h)))) qfX12_refused_nul)
set_option maxHeartbeats 2000000 in
set_option maxRecDepth 100000 in
theorem kfX12_seatings_nul (l : Launch) (dC : Nat → ClassId) (dI : Nat → Nat → Nat) (a0 : Nat) (m_t : TX12_t) (g2 : Value) (g3 : Value) (g4 : Value) (g5 : Value) (g6 : Value) (g7 : Value) (g8 : Value) (g9 : Value) (g10 : Value) (g11 : Value) (g12 : Value) (g13 : Value) (g14 : Value) (g15 : Value) (g16 : Value) (g17 : Value) (g18 : Value) (g19 : Value) (g20 : Value) (g21 : Value) (g22 : Value) (g23 : Value) (g24 : Value) (g25 : Value) (g26 : Value) (g27 : Value) (sz : Nat) (out : TX12_t) (h : f_X12_seatings_nul m_t = out) : KCi l yX12_seatings vfX12_seatings_nul ({ frames := 1, cells := 0, slots := 0, locals := 21 }) (dC, dI) [.ref a0] sz ([(a0, .inr (9, [.int m_t.1, .int m_t.2.1, .int m_t.2.2, .null, g2, g3, g4, g5, g6, g7, g8, g9, g10, g11, g12, g13, g14, g15, g16, g17, g18, g19, g20, g21, g22, g23, g24, g25, g26, g27]))]) ([]) (fun (r : Int32) _ => r = (-1)) ([(a0, .inr (9, [.int out.1, .int out.2.1, .int out.2.2, .null, g2, g3, g4, g5, g6, g7, g8, g9, g10, g11, g12, g13, g14, g15, g16, g17, g18, g19, g20, g21, g22, g23, g24, g25, g26, g27]))]) 0 0 := by
  refine Met.ofW (cc := cX12_seatings) (maxL := 1) (ret := (some .int)) (by decide) rfl ?_
  intro p e s m args below meth c s₁ B0 hml hv
  obtain ⟨rfl, hsz, hP, hK, hD0, hN⟩ := hv
  have hx := B0.exec
  have hb := B0.bytes
  have hr := B0.returns
  have hts := atoms_spec (ws := vfX12_seatings_nul) B0.pre
  have hown : s.vm.findClass RX12 = some m.cls := findClass_of_methodNamed B0.named
  have hlocks := B0.notSynchronized
  subst hsz
  have hD := hD0.self (sz := s.heap.size)
  generalize hAe : va_A ([(a0, .inr (9, [.int m_t.1, .int m_t.2.1, .int m_t.2.2, .null, g2, g3, g4, g5, g6, g7, g8, g9, g10, g11, g12, g13, g14, g15, g16, g17, g18, g19, g20, g21, g22, g23, g24, g25, g26, g27]))]) s.heap.size = A at hD ⊢
  have hA : ∀ q : Nat, s.heap.size ≤ q → A q := fun q h => by rw [← hAe]; exact Or.inr h
  have hS : va_S A s.heap s.heap [] := va_S.rf
  have hP : va_P (dC, dI) vwCl ([(a0, .inr (9, [.int m_t.1, .int m_t.2.1, .int m_t.2.2, .null, g2, g3, g4, g5, g6, g7, g8, g9, g10, g11, g12, g13, g14, g15, g16, g17, g18, g19, g20, g21, g22, g23, g24, g25, g26, g27]))]) s.heap := hP
  have hl := lv_entry ([.ref a0]) (n := 1) (Nat.le_of_ble_eq_true rfl)
  rw [lg_entry_eq]
  generalize (lg_sl ([.ref a0]) ++ List.replicate (1 - (lg_sl ([.ref a0])).length) Slot.unset).toArray = ls at hl ⊢
  have hl : lv_has ls 1 [(0, .ref a0)] := hl
  refine W_q (fun QQ hQQ => ?_)
  rw [f_X12_seatings_nul] at h
  refine lv_aload_n hx hb (zat zrX12_seatings_0_ok 0 rfl) rfl (lv_at hl 0 rfl) ?_
  refine lv_iconst (v := 0) hx hb (zat zrX12_seatings_0_ok 1 rfl) (by decide) ?_
  refine va_put (D := (dC, dI)) (ci := 9) (v := .int 0) (ty := .int) (C := RX12) (T := TX12) (N := 30) hx hb hts ifX12_seatings_nul_X12 tyX12 tyX12_ok nmX12 hown hK hP hD hS 0 rfl rfl 0 (by decide) (hts (.fieldLink RX12 36 "HookPierModel" "thrown" "I") (List.mem_of_getElem? (i := 1) rfl)) (fun _ h9 => h9) rfl (by decide +kernel) rfl rfl (Nat.le_of_ble_eq_true rfl) (zat zrX12_seatings_0_ok 2 rfl) (fun H locs hP hD hS => ?_)
  obtain ⟨hP, hD⟩ := pd_mk ([(a0, .inr (9, [.int 0, .int m_t.2.1, .int m_t.2.2, .null, g2, g3, g4, g5, g6, g7, g8, g9, g10, g11, g12, g13, g14, g15, g16, g17, g18, g19, g20, g21, g22, g23, g24, g25, g26, g27]))]) hP hD
  refine lv_aload_n hx hb (zat zrX12_seatings_0_ok 3 rfl) rfl (lv_at hl 0 rfl) ?_
  refine va_get (D := (dC, dI)) (ci := 9) (v := .null) (C := RX12) (T := TX12) (N := 30) hx hb hts ifX12_seatings_nul_X12 hown hK hP 0 rfl rfl 3 (by decide) (hts (.fieldLink RX12 299 "HookPierModel" "pier" "LHookPierModel$Pier;") (List.mem_of_getElem? (i := 2) rfl)) (fun _ h9 => h9) rfl (zat zrX12_seatings_0_ok 4 rfl) ?_
  refine lv_ifnonnullN hx hb (zat zrX12_seatings_0_ok 5 rfl) ?_
  refine lv_aload_n hx hb (zat zrX12_seatings_0b_ok 1 rfl) rfl (lv_at hl 0 rfl) ?_
  refine lv_iconst (v := 1) hx hb (zat zrX12_seatings_0b_ok 2 rfl) (by decide) ?_
  obtain ⟨o14, eo14⟩ : ∃ o, o = f_X12_refused_nul (1 : Int32) ((0 : Int32), m_t.2) := ⟨_, rfl⟩
  have h := nm_of h o14 eo14
  refine ck_i (wc := ([(a0, .inr (9, [.int 0, .int m_t.2.1, .int m_t.2.2, .null, g2, g3, g4, g5, g6, g7, g8, g9, g10, g11, g12, g13, g14, g15, g16, g17, g18, g19, g20, g21, g22, g23, g24, g25, g26, g27]))])) (wr := []) hP hD hK hS hA [0] [] rfl rfl (by decide) (by decide) (by decide) (fun hPc hDc => (va_runV (As := [.int 1]) (rest := []) ⟨hx, hb, hml, hown, hts⟩ (kfX12_refused_nul l dC dI a0 (1 : Int32) ((0 : Int32), m_t.2) (.null) (g2) (g3) (g4) (g5) (g6) (g7) (g8) (g9) (g10) (g11) (g12) (g13) (g14) (g15) (g16) (g17) (g18) (g19) (g20) (g21) (g22) (g23) (g24) (g25) (g26) (g27) H.size o14 eo14.symm) (cwV 1 hts gfX12_seatings_nul_0 rfl rfl rfl (by decide +kernel) ⟨(Nat.le_of_ble_eq_true rfl), (Nat.le_of_ble_eq_true rfl)⟩) (PV hPc (hK.sub (tys' := ([])) [] rfl) hDc hN 0 rfl rfl) rfl rfl hl.1 rfl (lv_room (Nat.le_of_ble_eq_true rfl)) (zat zrX12_seatings_0b_ok 3 rfl) ⟨(Nat.le_of_ble_eq_true rfl), (Nat.le_of_ble_eq_true rfl)⟩)) (fun r14 _ H locs hw hP hD _ hS => ?_)
  obtain rfl := hw
  obtain ⟨hP, hD⟩ := pd_mk ([(a0, .inr (9, [.int o14.1, .int o14.2.1, .int o14.2.2, .null, g2, g3, g4, g5, g6, g7, g8, g9, g10, g11, g12, g13, g14, g15, g16, g17, g18, g19, g20, g21, g22, g23, g24, g25, g26, g27]))]) hP hD
  obtain rfl := h
  obtain ⟨hP9, hD9⟩ := pd_sub ([(a0, .inr (9, [.int o14.1, .int o14.2.1, .int o14.2.2, .null, g2, g3, g4, g5, g6, g7, g8, g9, g10, g11, g12, g13, g14, g15, g16, g17, g18, g19, g20, g21, g22, g23, g24, g25, g26, g27]))]) [0] hP hD (by decide) rfl
  have hK9 := hK.sub (tys' := []) [] rfl
  rw [hQQ]
  exact W.iret (v := (-1 : Int32)) hx hb hr (fun t ht hW => ⟨⟨(-1 : Int32), (), rfl, rfl, by rw [ht]; exact hP9, va_K.moved hW.alike hK9, hD9⟩, hS.F ht⟩) hS.2.2 (zat zrX12_seatings_0b_ok 4 rfl)
def vfX12_seat_nul : List Cond := List.cons (.code yX12_seat cX12_seat 2 (some .int)) (apW [.fieldLink RX12 36 "HookPierModel" "thrown" "I", .methodLink RX12 334 yX12_isAsker, .instanceMethod yX12_isAsker, .selects RX12 yX12_isAsker yX12_isAsker, .initialized RX12, .methodLink RX12 42 yX12_refused, .instanceMethod yX12_refused, .selects RX12 yX12_refused yX12_refused] (apW wsX120 (apW vfX12_isAsker_nul (vfX12_refused_nul))))
theorem ifX12_seat_nul_X12 : ∀ w ∈ wsX120, w ∈ vfX12_seat_nul := fun _ h => (List.mem_cons_of_mem _ (List.mem_append_right _ (List.mem_append_left _ h)))
theorem qfX12_seat_nul : Good vfX12_seat_nul := gd_cons (by decide +kernel) (gd_app (gd_dec (by decide +kernel) : Good [.fieldLink RX12 36 "HookPierModel" "thrown" "I", .methodLink RX12 334 yX12_isAsker, .instanceMethod yX12_isAsker, .selects RX12 yX12_isAsker yX12_isAsker, .initialized RX12, .methodLink RX12 42 yX12_refused, .instanceMethod yX12_refused, .selects RX12 yX12_refused yX12_refused]) (gd_app qsX12 (gd_app qfX12_isAsker_nul qfX12_refused_nul)))
theorem gfX12_seat_nul_0 : GoodIn vfX12_seat_nul (wsV RX12 334 RX12 yX12_isAsker vfX12_isAsker_nul) := goodIn_app (goodIn_r [.methodLink RX12 334 yX12_isAsker, .instanceMethod yX12_isAsker, .selects RX12 yX12_isAsker yX12_isAsker, .initialized RX12] [2, 3, 4, 5] rfl (by decide +kernel)) (goodIn_m (fun _ h => (List.mem_cons_of_mem _ (List.mem_append_right _ (List.mem_append_right _ (List.mem_append_left _ h))))) qfX12_isAsker_nul)
theorem gfX12_seat_nul_1 : GoodIn vfX12_seat_nul (wsV RX12 42 RX12 yX12_refused vfX12_refused_nul) := goodIn_app (goodIn_r [.methodLink RX12 42 yX12_refused, .instanceMethod yX12_refused, .selects RX12 yX12_refused yX12_refused, .initialized RX12] [6, 7, 8, 5] rfl (by decide +kernel)) (goodIn_m (fun _ h => (List.mem_cons_of_mem _ (List.mem_append_right _ (List.mem_append_right _ (List.mem_append_right _ h))))) qfX12_refused_nul)
set_option maxHeartbeats 2000000 in
set_option maxRecDepth 100000 in
theorem kfX12_seat_nul (l : Launch) (dC : Nat → ClassId) (dI : Nat → Nat → Nat) (a0 : Nat) (k1 : Int32) (m_t : TX12_t) (g3 : Value) (g4 : Value) (g5 : Value) (g6 : Value) (g7 : Value) (g8 : Value) (g9 : Value) (g10 : Value) (g11 : Value) (g12 : Value) (g13 : Value) (g14 : Value) (g15 : Value) (g16 : Value) (g17 : Value) (g18 : Value) (g19 : Value) (g20 : Value) (g21 : Value) (g22 : Value) (g23 : Value) (g24 : Value) (g25 : Value) (g26 : Value) (g27 : Value) (g28 : Value) (sz : Nat) (out : TX12_t) (h : f_X12_seat_nul k1 m_t = out) : KCi l yX12_seat vfX12_seat_nul ({ frames := 1, cells := 0, slots := 0, locals := 21 }) (dC, dI) [.ref a0, .int k1] sz ([(a0, .inr (9, [.int m_t.1, .int m_t.2.1, .int m_t.2.2, .null, g3, g4, g5, g6, g7, g8, g9, g10, g11, g12, g13, g14, g15, g16, g17, g18, g19, g20, g21, g22, g23, g24, g25, g26, g27, g28]))]) ([]) (fun (r : Int32) _ => r = (-1)) ([(a0, .inr (9, [.int out.1, .int out.2.1, .int out.2.2, .null, g3, g4, g5, g6, g7, g8, g9, g10, g11, g12, g13, g14, g15, g16, g17, g18, g19, g20, g21, g22, g23, g24, g25, g26, g27, g28]))]) 0 0 := by
  refine Met.ofW (cc := cX12_seat) (maxL := 2) (ret := (some .int)) (by decide) rfl ?_
  intro p e s m args below meth c s₁ B0 hml hv
  obtain ⟨rfl, hsz, hP, hK, hD0, hN⟩ := hv
  have hx := B0.exec
  have hb := B0.bytes
  have hr := B0.returns
  have hts := atoms_spec (ws := vfX12_seat_nul) B0.pre
  have hown : s.vm.findClass RX12 = some m.cls := findClass_of_methodNamed B0.named
  have hlocks := B0.notSynchronized
  subst hsz
  have hD := hD0.self (sz := s.heap.size)
  generalize hAe : va_A ([(a0, .inr (9, [.int m_t.1, .int m_t.2.1, .int m_t.2.2, .null, g3, g4, g5, g6, g7, g8, g9, g10, g11, g12, g13, g14, g15, g16, g17, g18, g19, g20, g21, g22, g23, g24, g25, g26, g27, g28]))]) s.heap.size = A at hD ⊢
  have hA : ∀ q : Nat, s.heap.size ≤ q → A q := fun q h => by rw [← hAe]; exact Or.inr h
  have hS : va_S A s.heap s.heap [] := va_S.rf
  have hP : va_P (dC, dI) vwCl ([(a0, .inr (9, [.int m_t.1, .int m_t.2.1, .int m_t.2.2, .null, g3, g4, g5, g6, g7, g8, g9, g10, g11, g12, g13, g14, g15, g16, g17, g18, g19, g20, g21, g22, g23, g24, g25, g26, g27, g28]))]) s.heap := hP
  have hl := lv_entry ([.ref a0, .int k1]) (n := 2) (Nat.le_of_ble_eq_true rfl)
  rw [lg_entry_eq]
  generalize (lg_sl ([.ref a0, .int k1]) ++ List.replicate (2 - (lg_sl ([.ref a0, .int k1])).length) Slot.unset).toArray = ls at hl ⊢
  have hl : lv_has ls 2 [(0, .ref a0), (1, .int k1)] := hl
  refine W_q (fun QQ hQQ => ?_)
  rw [f_X12_seat_nul] at h
  refine lv_aload_n hx hb (zat zrX12_seat_0_ok 0 rfl) rfl (lv_at hl 0 rfl) ?_
  refine lv_iconst (v := 0) hx hb (zat zrX12_seat_0_ok 1 rfl) (by decide) ?_
  refine va_put (D := (dC, dI)) (ci := 9) (v := .int 0) (ty := .int) (C := RX12) (T := TX12) (N := 30) hx hb hts ifX12_seat_nul_X12 tyX12 tyX12_ok nmX12 hown hK hP hD hS 0 rfl rfl 0 (by decide) (hts (.fieldLink RX12 36 "HookPierModel" "thrown" "I") (List.mem_of_getElem? (i := 1) rfl)) (fun _ h9 => h9) rfl (by decide +kernel) rfl rfl (Nat.le_of_ble_eq_true rfl) (zat zrX12_seat_0_ok 2 rfl) (fun H locs hP hD hS => ?_)
  obtain ⟨hP, hD⟩ := pd_mk ([(a0, .inr (9, [.int 0, .int m_t.2.1, .int m_t.2.2, .null, g3, g4, g5, g6, g7, g8, g9, g10, g11, g12, g13, g14, g15, g16, g17, g18, g19, g20, g21, g22, g23, g24, g25, g26, g27, g28]))]) hP hD
  refine lv_aload_n hx hb (zat zrX12_seat_0_ok 3 rfl) rfl (lv_at hl 0 rfl) ?_
  refine lv_iload_n hx hb (zat zrX12_seat_0_ok 4 rfl) rfl (lv_at hl 1 rfl) ?_
  refine ck_i (wc := ([(a0, .inr (9, [.int 0, .int m_t.2.1, .int m_t.2.2, .null, g3, g4, g5, g6, g7, g8, g9, g10, g11, g12, g13, g14, g15, g16, g17, g18, g19, g20, g21, g22, g23, g24, g25, g26, g27, g28]))])) (wr := []) hP hD hK hS hA [0] [] rfl rfl (by decide) (by decide) (by decide) (fun hPc hDc => (va_runV (As := [.int k1]) (rest := []) ⟨hx, hb, hml, hown, hts⟩ (kfX12_isAsker_nul l dC dI a0 k1 (.int 0) (.int m_t.2.1) (.int m_t.2.2) (g3) (g4) (g5) (g6) (g7) (g8) (g9) (g10) (g11) (g12) (g13) (g14) (g15) (g16) (g17) (g18) (g19) (g20) (g21) (g22) (g23) (g24) (g25) (g26) (g27) (g28) H.size () rfl) (cwV 1 hts gfX12_seat_nul_0 rfl rfl rfl (by decide +kernel) ⟨(Nat.le_of_ble_eq_true rfl), (Nat.le_of_ble_eq_true rfl)⟩) (PV hPc (hK.sub (tys' := ([])) [] rfl) hDc hN 0 rfl rfl) rfl rfl hl.1 rfl (lv_room (Nat.le_of_ble_eq_true rfl)) (zat zrX12_seat_0_ok 5 rfl) ⟨(Nat.le_of_ble_eq_true rfl), (Nat.le_of_ble_eq_true rfl)⟩)) (fun r7 _ H locs hw hP hD _ hS => ?_)
  obtain ⟨hw, br7⟩ := hw
  obtain rfl := hw
  obtain ⟨hP, hD⟩ := pd_mk ([(a0, .inr (9, [.int 0, .int m_t.2.1, .int m_t.2.2, .null, g3, g4, g5, g6, g7, g8, g9, g10, g11, g12, g13, g14, g15, g16, g17, g18, g19, g20, g21, g22, g23, g24, g25, g26, g27, g28]))]) hP hD
  refine lv_if_ne (tgt := 19) hx hb (zat zrX12_seat_0_ok 6 rfl) (by decide) (fun c10 => absurd c10 (by decide)) (fun _ => ?_)
  refine lv_aload_n hx hb (zat zrX12_seat_0_ok 7 rfl) rfl (lv_at hl 0 rfl) ?_
  refine lv_iconst (v := 1) hx hb (zat zrX12_seat_0_ok 8 rfl) (by decide) ?_
  obtain ⟨o15, eo15⟩ : ∃ o, o = f_X12_refused_nul (1 : Int32) ((0 : Int32), m_t.2) := ⟨_, rfl⟩
  have h := nm_of h o15 eo15
  refine ck_i (wc := ([(a0, .inr (9, [.int 0, .int m_t.2.1, .int m_t.2.2, .null, g3, g4, g5, g6, g7, g8, g9, g10, g11, g12, g13, g14, g15, g16, g17, g18, g19, g20, g21, g22, g23, g24, g25, g26, g27, g28]))])) (wr := []) hP hD hK hS hA [0] [] rfl rfl (by decide) (by decide) (by decide) (fun hPc hDc => (va_runV (As := [.int 1]) (rest := []) ⟨hx, hb, hml, hown, hts⟩ (kfX12_refused_nul l dC dI a0 (1 : Int32) ((0 : Int32), m_t.2) (.null) (g3) (g4) (g5) (g6) (g7) (g8) (g9) (g10) (g11) (g12) (g13) (g14) (g15) (g16) (g17) (g18) (g19) (g20) (g21) (g22) (g23) (g24) (g25) (g26) (g27) (g28) H.size o15 eo15.symm) (cwV 1 hts gfX12_seat_nul_1 rfl rfl rfl (by decide +kernel) ⟨(Nat.le_of_ble_eq_true rfl), (Nat.le_of_ble_eq_true rfl)⟩) (PV hPc (hK.sub (tys' := ([])) [] rfl) hDc hN 0 rfl rfl) rfl rfl hl.1 rfl (lv_room (Nat.le_of_ble_eq_true rfl)) (zat zrX12_seat_0_ok 9 rfl) ⟨(Nat.le_of_ble_eq_true rfl), (Nat.le_of_ble_eq_true rfl)⟩)) (fun r15 _ H locs hw hP hD _ hS => ?_)
  obtain rfl := hw
  obtain ⟨hP, hD⟩ := pd_mk ([(a0, .inr (9, [.int o15.1, .int o15.2.1, .int o15.2.2, .null, g3, g4, g5, g6, g7, g8, g9, g10, g11, g12, g13, g14, g15, g16, g17, g18, g19, g20, g21, g22, g23, g24, g25, g26, g27, g28]))]) hP hD
  obtain rfl := h
  obtain ⟨hP9, hD9⟩ := pd_sub ([(a0, .inr (9, [.int o15.1, .int o15.2.1, .int o15.2.2, .null, g3, g4, g5, g6, g7, g8, g9, g10, g11, g12, g13, g14, g15, g16, g17, g18, g19, g20, g21, g22, g23, g24, g25, g26, g27, g28]))]) [0] hP hD (by decide) rfl
  have hK9 := hK.sub (tys' := []) [] rfl
  rw [hQQ]
  exact W.iret (v := (-1 : Int32)) hx hb hr (fun t ht hW => ⟨⟨(-1 : Int32), (), rfl, rfl, by rw [ht]; exact hP9, va_K.moved hW.alike hK9, hD9⟩, hS.F ht⟩) hS.2.2 (zat zrX12_seat_0_ok 10 rfl)
noncomputable def zrX12_mostSeated_0b : List ZR := zc 0 false (.nop) 12 (zc 12 true (.aload_n 0) 1 (zc 13 true (.iconst 1) 1 (zc 14 true (.invokevirtual 42) 3 (zc 17 true (.ireturn) 1 ([])))))
theorem zrX12_mostSeated_0b_ok : zck 0 ((zby cX12_mostSeated).drop 0) zrX12_mostSeated_0b = true := by decide +kernel
def vfX12_mostSeated_nul : List Cond := List.cons (.code yX12_mostSeated cX12_mostSeated 3 (some .int)) (apW [.fieldLink RX12 36 "HookPierModel" "thrown" "I", .fieldLink RX12 299 "HookPierModel" "pier" "LHookPierModel$Pier;", .methodLink RX12 42 yX12_refused, .instanceMethod yX12_refused, .selects RX12 yX12_refused yX12_refused, .initialized RX12] (apW wsX120 (vfX12_refused_nul)))
theorem ifX12_mostSeated_nul_X12 : ∀ w ∈ wsX120, w ∈ vfX12_mostSeated_nul := fun _ h => (List.mem_cons_of_mem _ (List.mem_append_right _ (List.mem_append_left _ h)))
theorem qfX12_mostSeated_nul : Good vfX12_mostSeated_nul := gd_cons (by decide +kernel) (gd_app (gd_dec (by decide +kernel) : Good [.fieldLink RX12 36 "HookPierModel" "thrown" "I", .fieldLink RX12 299 "HookPierModel" "pier" "LHookPierModel$Pier;", .methodLink RX12 42 yX12_refused, .instanceMethod yX12_refused, .selects RX12 yX12_refused yX12_refused, .initialized RX12]) (gd_app qsX12 qfX12_refused_nul))
theorem gfX12_mostSeated_nul_0 : GoodIn vfX12_mostSeated_nul (wsV RX12 42 RX12 yX12_refused vfX12_refused_nul) := goodIn_app (goodIn_r [.methodLink RX12 42 yX12_refused, .instanceMethod yX12_refused, .selects RX12 yX12_refused yX12_refused, .initialized RX12] [3, 4, 5, 6] rfl (by decide +kernel)) (goodIn_m (fun _ h => (List.mem_cons_of_mem _ (List.mem_append_right _ (List.mem_append_right _ h)))) qfX12_refused_nul)
set_option maxHeartbeats 2000000 in
set_option maxRecDepth 100000 in
theorem kfX12_mostSeated_nul (l : Launch) (dC : Nat → ClassId) (dI : Nat → Nat → Nat) (a0 : Nat) (m_t : TX12_t) (g2 : Value) (g3 : Value) (g4 : Value) (g5 : Value) (g6 : Value) (g7 : Value) (g8 : Value) (g9 : Value) (g10 : Value) (g11 : Value) (g12 : Value) (g13 : Value) (g14 : Value) (g15 : Value) (g16 : Value) (g17 : Value) (g18 : Value) (g19 : Value) (g20 : Value) (g21 : Value) (g22 : Value) (g23 : Value) (g24 : Value) (g25 : Value) (g26 : Value) (g27 : Value) (sz : Nat) (out : TX12_t) (h : f_X12_mostSeated_nul m_t = out) : KCi l yX12_mostSeated vfX12_mostSeated_nul ({ frames := 1, cells := 0, slots := 0, locals := 21 }) (dC, dI) [.ref a0] sz ([(a0, .inr (9, [.int m_t.1, .int m_t.2.1, .int m_t.2.2, .null, g2, g3, g4, g5, g6, g7, g8, g9, g10, g11, g12, g13, g14, g15, g16, g17, g18, g19, g20, g21, g22, g23, g24, g25, g26, g27]))]) ([]) (fun (r : Int32) _ => r = (-1)) ([(a0, .inr (9, [.int out.1, .int out.2.1, .int out.2.2, .null, g2, g3, g4, g5, g6, g7, g8, g9, g10, g11, g12, g13, g14, g15, g16, g17, g18, g19, g20, g21, g22, g23, g24, g25, g26, g27]))]) 0 0 := by
  refine Met.ofW (cc := cX12_mostSeated) (maxL := 3) (ret := (some .int)) (by decide) rfl ?_
  intro p e s m args below meth c s₁ B0 hml hv
  obtain ⟨rfl, hsz, hP, hK, hD0, hN⟩ := hv
  have hx := B0.exec
  have hb := B0.bytes
  have hr := B0.returns
  have hts := atoms_spec (ws := vfX12_mostSeated_nul) B0.pre
  have hown : s.vm.findClass RX12 = some m.cls := findClass_of_methodNamed B0.named
  have hlocks := B0.notSynchronized
  subst hsz
  have hD := hD0.self (sz := s.heap.size)
  generalize hAe : va_A ([(a0, .inr (9, [.int m_t.1, .int m_t.2.1, .int m_t.2.2, .null, g2, g3, g4, g5, g6, g7, g8, g9, g10, g11, g12, g13, g14, g15, g16, g17, g18, g19, g20, g21, g22, g23, g24, g25, g26, g27]))]) s.heap.size = A at hD ⊢
  have hA : ∀ q : Nat, s.heap.size ≤ q → A q := fun q h => by rw [← hAe]; exact Or.inr h
  have hS : va_S A s.heap s.heap [] := va_S.rf
  have hP : va_P (dC, dI) vwCl ([(a0, .inr (9, [.int m_t.1, .int m_t.2.1, .int m_t.2.2, .null, g2, g3, g4, g5, g6, g7, g8, g9, g10, g11, g12, g13, g14, g15, g16, g17, g18, g19, g20, g21, g22, g23, g24, g25, g26, g27]))]) s.heap := hP
  have hl := lv_entry ([.ref a0]) (n := 3) (Nat.le_of_ble_eq_true rfl)
  rw [lg_entry_eq]
  generalize (lg_sl ([.ref a0]) ++ List.replicate (3 - (lg_sl ([.ref a0])).length) Slot.unset).toArray = ls at hl ⊢
  have hl : lv_has ls 3 [(0, .ref a0)] := hl
  refine W_q (fun QQ hQQ => ?_)
  rw [f_X12_mostSeated_nul] at h
  refine lv_aload_n hx hb (zat zrX12_mostSeated_0_ok 0 rfl) rfl (lv_at hl 0 rfl) ?_
  refine lv_iconst (v := 0) hx hb (zat zrX12_mostSeated_0_ok 1 rfl) (by decide) ?_
  refine va_put (D := (dC, dI)) (ci := 9) (v := .int 0) (ty := .int) (C := RX12) (T := TX12) (N := 30) hx hb hts ifX12_mostSeated_nul_X12 tyX12 tyX12_ok nmX12 hown hK hP hD hS 0 rfl rfl 0 (by decide) (hts (.fieldLink RX12 36 "HookPierModel" "thrown" "I") (List.mem_of_getElem? (i := 1) rfl)) (fun _ h9 => h9) rfl (by decide +kernel) rfl rfl (Nat.le_of_ble_eq_true rfl) (zat zrX12_mostSeated_0_ok 2 rfl) (fun H locs hP hD hS => ?_)
  obtain ⟨hP, hD⟩ := pd_mk ([(a0, .inr (9, [.int 0, .int m_t.2.1, .int m_t.2.2, .null, g2, g3, g4, g5, g6, g7, g8, g9, g10, g11, g12, g13, g14, g15, g16, g17, g18, g19, g20, g21, g22, g23, g24, g25, g26, g27]))]) hP hD
  refine lv_aload_n hx hb (zat zrX12_mostSeated_0_ok 3 rfl) rfl (lv_at hl 0 rfl) ?_
  refine va_get (D := (dC, dI)) (ci := 9) (v := .null) (C := RX12) (T := TX12) (N := 30) hx hb hts ifX12_mostSeated_nul_X12 hown hK hP 0 rfl rfl 3 (by decide) (hts (.fieldLink RX12 299 "HookPierModel" "pier" "LHookPierModel$Pier;") (List.mem_of_getElem? (i := 2) rfl)) (fun _ h9 => h9) rfl (zat zrX12_mostSeated_0_ok 4 rfl) ?_
  refine lv_ifnonnullN hx hb (zat zrX12_mostSeated_0_ok 5 rfl) ?_
  refine lv_aload_n hx hb (zat zrX12_mostSeated_0b_ok 1 rfl) rfl (lv_at hl 0 rfl) ?_
  refine lv_iconst (v := 1) hx hb (zat zrX12_mostSeated_0b_ok 2 rfl) (by decide) ?_
  obtain ⟨o14, eo14⟩ : ∃ o, o = f_X12_refused_nul (1 : Int32) ((0 : Int32), m_t.2) := ⟨_, rfl⟩
  have h := nm_of h o14 eo14
  refine ck_i (wc := ([(a0, .inr (9, [.int 0, .int m_t.2.1, .int m_t.2.2, .null, g2, g3, g4, g5, g6, g7, g8, g9, g10, g11, g12, g13, g14, g15, g16, g17, g18, g19, g20, g21, g22, g23, g24, g25, g26, g27]))])) (wr := []) hP hD hK hS hA [0] [] rfl rfl (by decide) (by decide) (by decide) (fun hPc hDc => (va_runV (As := [.int 1]) (rest := []) ⟨hx, hb, hml, hown, hts⟩ (kfX12_refused_nul l dC dI a0 (1 : Int32) ((0 : Int32), m_t.2) (.null) (g2) (g3) (g4) (g5) (g6) (g7) (g8) (g9) (g10) (g11) (g12) (g13) (g14) (g15) (g16) (g17) (g18) (g19) (g20) (g21) (g22) (g23) (g24) (g25) (g26) (g27) H.size o14 eo14.symm) (cwV 1 hts gfX12_mostSeated_nul_0 rfl rfl rfl (by decide +kernel) ⟨(Nat.le_of_ble_eq_true rfl), (Nat.le_of_ble_eq_true rfl)⟩) (PV hPc (hK.sub (tys' := ([])) [] rfl) hDc hN 0 rfl rfl) rfl rfl hl.1 rfl (lv_room (Nat.le_of_ble_eq_true rfl)) (zat zrX12_mostSeated_0b_ok 3 rfl) ⟨(Nat.le_of_ble_eq_true rfl), (Nat.le_of_ble_eq_true rfl)⟩)) (fun r14 _ H locs hw hP hD _ hS => ?_)
  obtain rfl := hw
  obtain ⟨hP, hD⟩ := pd_mk ([(a0, .inr (9, [.int o14.1, .int o14.2.1, .int o14.2.2, .null, g2, g3, g4, g5, g6, g7, g8, g9, g10, g11, g12, g13, g14, g15, g16, g17, g18, g19, g20, g21, g22, g23, g24, g25, g26, g27]))]) hP hD
  obtain rfl := h
  obtain ⟨hP9, hD9⟩ := pd_sub ([(a0, .inr (9, [.int o14.1, .int o14.2.1, .int o14.2.2, .null, g2, g3, g4, g5, g6, g7, g8, g9, g10, g11, g12, g13, g14, g15, g16, g17, g18, g19, g20, g21, g22, g23, g24, g25, g26, g27]))]) [0] hP hD (by decide) rfl
  have hK9 := hK.sub (tys' := []) [] rfl
  rw [hQQ]
  exact W.iret (v := (-1 : Int32)) hx hb hr (fun t ht hW => ⟨⟨(-1 : Int32), (), rfl, rfl, by rw [ht]; exact hP9, va_K.moved hW.alike hK9, hD9⟩, hS.F ht⟩) hS.2.2 (zat zrX12_mostSeated_0b_ok 4 rfl)
noncomputable def zrX12_refusesDark_0b : List ZR := zc 0 false (.nop) 7 (zc 7 true (.iconst 1) 1 (zc 8 true (.goto 20) 3 ([])))
theorem zrX12_refusesDark_0b_ok : zck 0 ((zby cX12_refusesDark).drop 0) zrX12_refusesDark_0b = true := by decide +kernel
def vfX12_refusesDark_nul : List Cond := List.cons (.code yX12_refusesDark cX12_refusesDark 1 (some .int)) (apW [.fieldLink RX12 299 "HookPierModel" "pier" "LHookPierModel$Pier;"] (wsX120))
theorem ifX12_refusesDark_nul_X12 : ∀ w ∈ wsX120, w ∈ vfX12_refusesDark_nul := fun _ h => (List.mem_cons_of_mem _ (List.mem_append_right _ h))
theorem qfX12_refusesDark_nul : Good vfX12_refusesDark_nul := gd_cons (by decide +kernel) (gd_app (gd_dec (by decide +kernel) : Good [.fieldLink RX12 299 "HookPierModel" "pier" "LHookPierModel$Pier;"]) qsX12)
set_option maxHeartbeats 2000000 in
set_option maxRecDepth 100000 in
theorem kfX12_refusesDark_nul (l : Launch) (dC : Nat → ClassId) (dI : Nat → Nat → Nat) (a0 : Nat) (g1 : Value) (g2 : Value) (g3 : Value) (g4 : Value) (g5 : Value) (g6 : Value) (g7 : Value) (g8 : Value) (g9 : Value) (g10 : Value) (g11 : Value) (g12 : Value) (g13 : Value) (g14 : Value) (g15 : Value) (g16 : Value) (g17 : Value) (g18 : Value) (g19 : Value) (g20 : Value) (g21 : Value) (g22 : Value) (g23 : Value) (g24 : Value) (g25 : Value) (g26 : Value) (g27 : Value) (g28 : Value) (g29 : Value) (sz : Nat) (out : Unit) (h : f_X12_refusesDark_nul = out) : KDi l yX12_refusesDark vfX12_refusesDark_nul ({ frames := 0, cells := 0, slots := 0, locals := 0 }) (dC, dI) [.ref a0] sz ([(a0, .inr (9, [g1, g2, g3, .null, g4, g5, g6, g7, g8, g9, g10, g11, g12, g13, g14, g15, g16, g17, g18, g19, g20, g21, g22, g23, g24, g25, g26, g27, g28, g29]))]) ([]) (fun (r : Int32) _ => r = 1) 0 0 := by
  refine Met.ofW (cc := cX12_refusesDark) (maxL := 1) (ret := (some .int)) (by decide) rfl ?_
  intro p e s m args below meth c s₁ B0 hml hv
  obtain ⟨rfl, hsz, hP, hK, hD0, hN⟩ := hv
  have hx := B0.exec
  have hb := B0.bytes
  have hr := B0.returns
  have hts := atoms_spec (ws := vfX12_refusesDark_nul) B0.pre
  have hown : s.vm.findClass RX12 = some m.cls := findClass_of_methodNamed B0.named
  have hlocks := B0.notSynchronized
  subst hsz
  have hD := hD0.self (sz := s.heap.size)
  generalize hAe : va_A ([(a0, .inr (9, [g1, g2, g3, .null, g4, g5, g6, g7, g8, g9, g10, g11, g12, g13, g14, g15, g16, g17, g18, g19, g20, g21, g22, g23, g24, g25, g26, g27, g28, g29]))]) s.heap.size = A at hD ⊢
  have hA : ∀ q : Nat, s.heap.size ≤ q → A q := fun q h => by rw [← hAe]; exact Or.inr h
  have hS : va_S A s.heap s.heap [] := va_S.rf
  have hP : va_P (dC, dI) vwCl ([(a0, .inr (9, [g1, g2, g3, .null, g4, g5, g6, g7, g8, g9, g10, g11, g12, g13, g14, g15, g16, g17, g18, g19, g20, g21, g22, g23, g24, g25, g26, g27, g28, g29]))]) s.heap := hP
  have hl := lv_entry ([.ref a0]) (n := 1) (Nat.le_of_ble_eq_true rfl)
  rw [lg_entry_eq]
  generalize (lg_sl ([.ref a0]) ++ List.replicate (1 - (lg_sl ([.ref a0])).length) Slot.unset).toArray = ls at hl ⊢
  have hl : lv_has ls 1 [(0, .ref a0)] := hl
  refine W_q (fun QQ hQQ => ?_)
  rw [f_X12_refusesDark_nul] at h
  refine lv_aload_n hx hb (zat zrX12_refusesDark_0_ok 0 rfl) rfl (lv_at hl 0 rfl) ?_
  refine va_get (D := (dC, dI)) (ci := 9) (v := .null) (C := RX12) (T := TX12) (N := 30) hx hb hts ifX12_refusesDark_nul_X12 hown hK hP 0 rfl rfl 3 (by decide) (hts (.fieldLink RX12 299 "HookPierModel" "pier" "LHookPierModel$Pier;") (List.mem_of_getElem? (i := 1) rfl)) (fun _ h9 => h9) rfl (zat zrX12_refusesDark_0_ok 1 rfl) ?_
  refine lv_ifnonnullN hx hb (zat zrX12_refusesDark_0_ok 2 rfl) ?_
  refine lv_iconst (v := 1) hx hb (zat zrX12_refusesDark_0b_ok 1 rfl) (by decide) ?_
  refine lv_goto (tgt := 28) hx hb (zat zrX12_refusesDark_0b_ok 2 rfl) (by decide) ?_
  obtain ⟨hP9, hD9⟩ := pd_sub ([(a0, .inr (9, [g1, g2, g3, .null, g4, g5, g6, g7, g8, g9, g10, g11, g12, g13, g14, g15, g16, g17, g18, g19, g20, g21, g22, g23, g24, g25, g26, g27, g28, g29]))]) [0] hP hD (by decide) rfl
  have hK9 := hK.sub (tys' := []) [] rfl
  rw [hQQ]
  exact W.iret (v := (1 : Int32)) hx hb hr (fun t ht hW => ⟨⟨(1 : Int32), (), rfl, rfl, by rw [ht]; exact hP9, va_K.moved hW.alike hK9, hD9⟩, hS.F ht⟩) hS.2.2 (zat zrX12_refusesDark_0_ok 12 rfl)
def vfX12_darks_nul : List Cond := List.cons (.code yX12_darks cX12_darks 4 (some .int)) (apW [.fieldLink RX12 36 "HookPierModel" "thrown" "I", .methodLink RX12 417 yX12_refusesDark, .instanceMethod yX12_refusesDark, .selects RX12 yX12_refusesDark yX12_refusesDark, .initialized RX12, .methodLink RX12 42 yX12_refused, .instanceMethod yX12_refused, .selects RX12 yX12_refused yX12_refused] (apW wsX120 (apW vfX12_refusesDark_nul (vfX12_refused_nul))))
theorem ifX12_darks_nul_X12 : ∀ w ∈ wsX120, w ∈ vfX12_darks_nul := fun _ h => (List.mem_cons_of_mem _ (List.mem_append_right _ (List.mem_append_left _ h)))
theorem qfX12_darks_nul : Good vfX12_darks_nul := gd_cons (by decide +kernel) (gd_app (gd_dec (by decide +kernel) : Good [.fieldLink RX12 36 "HookPierModel" "thrown" "I", .methodLink RX12 417 yX12_refusesDark, .instanceMethod yX12_refusesDark, .selects RX12 yX12_refusesDark yX12_refusesDark, .initialized RX12, .methodLink RX12 42 yX12_refused, .instanceMethod yX12_refused, .selects RX12 yX12_refused yX12_refused]) (gd_app qsX12 (gd_app qfX12_refusesDark_nul qfX12_refused_nul)))
theorem gfX12_darks_nul_0 : GoodIn vfX12_darks_nul (wsV RX12 417 RX12 yX12_refusesDark vfX12_refusesDark_nul) := goodIn_app (goodIn_r [.methodLink RX12 417 yX12_refusesDark, .instanceMethod yX12_refusesDark, .selects RX12 yX12_refusesDark yX12_refusesDark, .initialized RX12] [2, 3, 4, 5] rfl (by decide +kernel)) (goodIn_m (fun _ h => (List.mem_cons_of_mem _ (List.mem_append_right _ (List.mem_append_right _ (List.mem_append_left _ h))))) qfX12_refusesDark_nul)
theorem gfX12_darks_nul_1 : GoodIn vfX12_darks_nul (wsV RX12 42 RX12 yX12_refused vfX12_refused_nul) := goodIn_app (goodIn_r [.methodLink RX12 42 yX12_refused, .instanceMethod yX12_refused, .selects RX12 yX12_refused yX12_refused, .initialized RX12] [6, 7, 8, 5] rfl (by decide +kernel)) (goodIn_m (fun _ h => (List.mem_cons_of_mem _ (List.mem_append_right _ (List.mem_append_right _ (List.mem_append_right _ h))))) qfX12_refused_nul)
set_option maxHeartbeats 2000000 in
set_option maxRecDepth 100000 in
theorem kfX12_darks_nul (l : Launch) (dC : Nat → ClassId) (dI : Nat → Nat → Nat) (a0 : Nat) (m_t : TX12_t) (g2 : Value) (g3 : Value) (g4 : Value) (g5 : Value) (g6 : Value) (g7 : Value) (g8 : Value) (g9 : Value) (g10 : Value) (g11 : Value) (g12 : Value) (g13 : Value) (g14 : Value) (g15 : Value) (g16 : Value) (g17 : Value) (g18 : Value) (g19 : Value) (g20 : Value) (g21 : Value) (g22 : Value) (g23 : Value) (g24 : Value) (g25 : Value) (g26 : Value) (g27 : Value) (sz : Nat) (out : TX12_t) (h : f_X12_darks_nul m_t = out) : KCi l yX12_darks vfX12_darks_nul ({ frames := 1, cells := 0, slots := 0, locals := 21 }) (dC, dI) [.ref a0] sz ([(a0, .inr (9, [.int m_t.1, .int m_t.2.1, .int m_t.2.2, .null, g2, g3, g4, g5, g6, g7, g8, g9, g10, g11, g12, g13, g14, g15, g16, g17, g18, g19, g20, g21, g22, g23, g24, g25, g26, g27]))]) ([]) (fun (r : Int32) _ => r = (-1)) ([(a0, .inr (9, [.int out.1, .int out.2.1, .int out.2.2, .null, g2, g3, g4, g5, g6, g7, g8, g9, g10, g11, g12, g13, g14, g15, g16, g17, g18, g19, g20, g21, g22, g23, g24, g25, g26, g27]))]) 0 0 := by
  refine Met.ofW (cc := cX12_darks) (maxL := 4) (ret := (some .int)) (by decide) rfl ?_
  intro p e s m args below meth c s₁ B0 hml hv
  obtain ⟨rfl, hsz, hP, hK, hD0, hN⟩ := hv
  have hx := B0.exec
  have hb := B0.bytes
  have hr := B0.returns
  have hts := atoms_spec (ws := vfX12_darks_nul) B0.pre
  have hown : s.vm.findClass RX12 = some m.cls := findClass_of_methodNamed B0.named
  have hlocks := B0.notSynchronized
  subst hsz
  have hD := hD0.self (sz := s.heap.size)
  generalize hAe : va_A ([(a0, .inr (9, [.int m_t.1, .int m_t.2.1, .int m_t.2.2, .null, g2, g3, g4, g5, g6, g7, g8, g9, g10, g11, g12, g13, g14, g15, g16, g17, g18, g19, g20, g21, g22, g23, g24, g25, g26, g27]))]) s.heap.size = A at hD ⊢
  have hA : ∀ q : Nat, s.heap.size ≤ q → A q := fun q h => by rw [← hAe]; exact Or.inr h
  have hS : va_S A s.heap s.heap [] := va_S.rf
  have hP : va_P (dC, dI) vwCl ([(a0, .inr (9, [.int m_t.1, .int m_t.2.1, .int m_t.2.2, .null, g2, g3, g4, g5, g6, g7, g8, g9, g10, g11, g12, g13, g14, g15, g16, g17, g18, g19, g20, g21, g22, g23, g24, g25, g26, g27]))]) s.heap := hP
  have hl := lv_entry ([.ref a0]) (n := 4) (Nat.le_of_ble_eq_true rfl)
  rw [lg_entry_eq]
  generalize (lg_sl ([.ref a0]) ++ List.replicate (4 - (lg_sl ([.ref a0])).length) Slot.unset).toArray = ls at hl ⊢
  have hl : lv_has ls 4 [(0, .ref a0)] := hl
  refine W_q (fun QQ hQQ => ?_)
  rw [f_X12_darks_nul] at h
  refine lv_aload_n hx hb (zat zrX12_darks_0_ok 0 rfl) rfl (lv_at hl 0 rfl) ?_
  refine lv_iconst (v := 0) hx hb (zat zrX12_darks_0_ok 1 rfl) (by decide) ?_
  refine va_put (D := (dC, dI)) (ci := 9) (v := .int 0) (ty := .int) (C := RX12) (T := TX12) (N := 30) hx hb hts ifX12_darks_nul_X12 tyX12 tyX12_ok nmX12 hown hK hP hD hS 0 rfl rfl 0 (by decide) (hts (.fieldLink RX12 36 "HookPierModel" "thrown" "I") (List.mem_of_getElem? (i := 1) rfl)) (fun _ h9 => h9) rfl (by decide +kernel) rfl rfl (Nat.le_of_ble_eq_true rfl) (zat zrX12_darks_0_ok 2 rfl) (fun H locs hP hD hS => ?_)
  obtain ⟨hP, hD⟩ := pd_mk ([(a0, .inr (9, [.int 0, .int m_t.2.1, .int m_t.2.2, .null, g2, g3, g4, g5, g6, g7, g8, g9, g10, g11, g12, g13, g14, g15, g16, g17, g18, g19, g20, g21, g22, g23, g24, g25, g26, g27]))]) hP hD
  refine lv_aload_n hx hb (zat zrX12_darks_0_ok 3 rfl) rfl (lv_at hl 0 rfl) ?_
  refine ck_i (wc := ([(a0, .inr (9, [.int 0, .int m_t.2.1, .int m_t.2.2, .null, g2, g3, g4, g5, g6, g7, g8, g9, g10, g11, g12, g13, g14, g15, g16, g17, g18, g19, g20, g21, g22, g23, g24, g25, g26, g27]))])) (wr := []) hP hD hK hS hA [0] [] rfl rfl (by decide) (by decide) (by decide) (fun hPc hDc => (va_runV (As := []) (rest := []) ⟨hx, hb, hml, hown, hts⟩ (kfX12_refusesDark_nul l dC dI a0 (.int 0) (.int m_t.2.1) (.int m_t.2.2) (g2) (g3) (g4) (g5) (g6) (g7) (g8) (g9) (g10) (g11) (g12) (g13) (g14) (g15) (g16) (g17) (g18) (g19) (g20) (g21) (g22) (g23) (g24) (g25) (g26) (g27) H.size () rfl) (cwV 0 hts gfX12_darks_nul_0 rfl rfl rfl (by decide +kernel) ⟨(Nat.le_of_ble_eq_true rfl), (Nat.le_of_ble_eq_true rfl)⟩) (PV hPc (hK.sub (tys' := ([])) [] rfl) hDc hN 0 rfl rfl) rfl rfl hl.1 rfl (lv_room (Nat.le_of_ble_eq_true rfl)) (zat zrX12_darks_0_ok 4 rfl) ⟨(Nat.le_of_ble_eq_true rfl), (Nat.le_of_ble_eq_true rfl)⟩)) (fun r6 _ H locs hw hP hD _ hS => ?_)
  obtain rfl := hw
  obtain ⟨hP, hD⟩ := pd_mk ([(a0, .inr (9, [.int 0, .int m_t.2.1, .int m_t.2.2, .null, g2, g3, g4, g5, g6, g7, g8, g9, g10, g11, g12, g13, g14, g15, g16, g17, g18, g19, g20, g21, g22, g23, g24, g25, g26, g27]))]) hP hD
  refine lv_istore_n (lv' := [(1, .int 1), (0, .ref a0)]) hx hb (zat zrX12_darks_0_ok 5 rfl) rfl hl (by decide) rfl (fun ls hl => ?_)
  refine lv_iload_n hx hb (zat zrX12_darks_0_ok 6 rfl) rfl (lv_at hl 0 rfl) ?_
  refine lv_if_le (tgt := 20) hx hb (zat zrX12_darks_0_ok 7 rfl) (by decide) (fun c11 => absurd c11 (by decide)) (fun _ => ?_)
  refine lv_aload_n hx hb (zat zrX12_darks_0_ok 8 rfl) rfl (lv_at hl 1 rfl) ?_
  refine lv_iload_n hx hb (zat zrX12_darks_0_ok 9 rfl) rfl (lv_at hl 0 rfl) ?_
  obtain ⟨o16, eo16⟩ : ∃ o, o = f_X12_refused_nul (1 : Int32) ((0 : Int32), m_t.2) := ⟨_, rfl⟩
  have h := nm_of h o16 eo16
  refine ck_i (wc := ([(a0, .inr (9, [.int 0, .int m_t.2.1, .int m_t.2.2, .null, g2, g3, g4, g5, g6, g7, g8, g9, g10, g11, g12, g13, g14, g15, g16, g17, g18, g19, g20, g21, g22, g23, g24, g25, g26, g27]))])) (wr := []) hP hD hK hS hA [0] [] rfl rfl (by decide) (by decide) (by decide) (fun hPc hDc => (va_runV (As := [.int 1]) (rest := []) ⟨hx, hb, hml, hown, hts⟩ (kfX12_refused_nul l dC dI a0 (1 : Int32) ((0 : Int32), m_t.2) (.null) (g2) (g3) (g4) (g5) (g6) (g7) (g8) (g9) (g10) (g11) (g12) (g13) (g14) (g15) (g16) (g17) (g18) (g19) (g20) (g21) (g22) (g23) (g24) (g25) (g26) (g27) H.size o16 eo16.symm) (cwV 1 hts gfX12_darks_nul_1 rfl rfl rfl (by decide +kernel) ⟨(Nat.le_of_ble_eq_true rfl), (Nat.le_of_ble_eq_true rfl)⟩) (PV hPc (hK.sub (tys' := ([])) [] rfl) hDc hN 0 rfl rfl) rfl rfl hl.1 rfl (lv_room (Nat.le_of_ble_eq_true rfl)) (zat zrX12_darks_0_ok 10 rfl) ⟨(Nat.le_of_ble_eq_true rfl), (Nat.le_of_ble_eq_true rfl)⟩)) (fun r16 _ H locs hw hP hD _ hS => ?_)
  obtain rfl := hw
  obtain ⟨hP, hD⟩ := pd_mk ([(a0, .inr (9, [.int o16.1, .int o16.2.1, .int o16.2.2, .null, g2, g3, g4, g5, g6, g7, g8, g9, g10, g11, g12, g13, g14, g15, g16, g17, g18, g19, g20, g21, g22, g23, g24, g25, g26, g27]))]) hP hD
  obtain rfl := h
  obtain ⟨hP9, hD9⟩ := pd_sub ([(a0, .inr (9, [.int o16.1, .int o16.2.1, .int o16.2.2, .null, g2, g3, g4, g5, g6, g7, g8, g9, g10, g11, g12, g13, g14, g15, g16, g17, g18, g19, g20, g21, g22, g23, g24, g25, g26, g27]))]) [0] hP hD (by decide) rfl
  have hK9 := hK.sub (tys' := []) [] rfl
  rw [hQQ]
  exact W.iret (v := (-1 : Int32)) hx hb hr (fun t ht hW => ⟨⟨(-1 : Int32), (), rfl, rfl, by rw [ht]; exact hP9, va_K.moved hW.alike hK9, hD9⟩, hS.F ht⟩) hS.2.2 (zat zrX12_darks_0_ok 11 rfl)
def vfX12_darkAt_nul : List Cond := List.cons (.code yX12_darkAt cX12_darkAt 5 (some .int)) (apW [.fieldLink RX12 36 "HookPierModel" "thrown" "I", .methodLink RX12 417 yX12_refusesDark, .instanceMethod yX12_refusesDark, .selects RX12 yX12_refusesDark yX12_refusesDark, .initialized RX12, .methodLink RX12 42 yX12_refused, .instanceMethod yX12_refused, .selects RX12 yX12_refused yX12_refused] (apW wsX120 (apW vfX12_refusesDark_nul (vfX12_refused_nul))))
theorem ifX12_darkAt_nul_X12 : ∀ w ∈ wsX120, w ∈ vfX12_darkAt_nul := fun _ h => (List.mem_cons_of_mem _ (List.mem_append_right _ (List.mem_append_left _ h)))
theorem qfX12_darkAt_nul : Good vfX12_darkAt_nul := gd_cons (by decide +kernel) (gd_app (gd_dec (by decide +kernel) : Good [.fieldLink RX12 36 "HookPierModel" "thrown" "I", .methodLink RX12 417 yX12_refusesDark, .instanceMethod yX12_refusesDark, .selects RX12 yX12_refusesDark yX12_refusesDark, .initialized RX12, .methodLink RX12 42 yX12_refused, .instanceMethod yX12_refused, .selects RX12 yX12_refused yX12_refused]) (gd_app qsX12 (gd_app qfX12_refusesDark_nul qfX12_refused_nul)))
theorem gfX12_darkAt_nul_0 : GoodIn vfX12_darkAt_nul (wsV RX12 417 RX12 yX12_refusesDark vfX12_refusesDark_nul) := goodIn_app (goodIn_r [.methodLink RX12 417 yX12_refusesDark, .instanceMethod yX12_refusesDark, .selects RX12 yX12_refusesDark yX12_refusesDark, .initialized RX12] [2, 3, 4, 5] rfl (by decide +kernel)) (goodIn_m (fun _ h => (List.mem_cons_of_mem _ (List.mem_append_right _ (List.mem_append_right _ (List.mem_append_left _ h))))) qfX12_refusesDark_nul)
theorem gfX12_darkAt_nul_1 : GoodIn vfX12_darkAt_nul (wsV RX12 42 RX12 yX12_refused vfX12_refused_nul) := goodIn_app (goodIn_r [.methodLink RX12 42 yX12_refused, .instanceMethod yX12_refused, .selects RX12 yX12_refused yX12_refused, .initialized RX12] [6, 7, 8, 5] rfl (by decide +kernel)) (goodIn_m (fun _ h => (List.mem_cons_of_mem _ (List.mem_append_right _ (List.mem_append_right _ (List.mem_append_right _ h))))) qfX12_refused_nul)
set_option maxHeartbeats 2000000 in
set_option maxRecDepth 100000 in
theorem kfX12_darkAt_nul (l : Launch) (dC : Nat → ClassId) (dI : Nat → Nat → Nat) (a0 : Nat) (k1 : Int32) (m_t : TX12_t) (g3 : Value) (g4 : Value) (g5 : Value) (g6 : Value) (g7 : Value) (g8 : Value) (g9 : Value) (g10 : Value) (g11 : Value) (g12 : Value) (g13 : Value) (g14 : Value) (g15 : Value) (g16 : Value) (g17 : Value) (g18 : Value) (g19 : Value) (g20 : Value) (g21 : Value) (g22 : Value) (g23 : Value) (g24 : Value) (g25 : Value) (g26 : Value) (g27 : Value) (g28 : Value) (sz : Nat) (out : TX12_t) (h : f_X12_darkAt_nul k1 m_t = out) : KCi l yX12_darkAt vfX12_darkAt_nul ({ frames := 1, cells := 0, slots := 0, locals := 21 }) (dC, dI) [.ref a0, .int k1] sz ([(a0, .inr (9, [.int m_t.1, .int m_t.2.1, .int m_t.2.2, .null, g3, g4, g5, g6, g7, g8, g9, g10, g11, g12, g13, g14, g15, g16, g17, g18, g19, g20, g21, g22, g23, g24, g25, g26, g27, g28]))]) ([]) (fun (r : Int32) _ => r = (-1)) ([(a0, .inr (9, [.int out.1, .int out.2.1, .int out.2.2, .null, g3, g4, g5, g6, g7, g8, g9, g10, g11, g12, g13, g14, g15, g16, g17, g18, g19, g20, g21, g22, g23, g24, g25, g26, g27, g28]))]) 0 0 := by
  refine Met.ofW (cc := cX12_darkAt) (maxL := 5) (ret := (some .int)) (by decide) rfl ?_
  intro p e s m args below meth c s₁ B0 hml hv
  obtain ⟨rfl, hsz, hP, hK, hD0, hN⟩ := hv
  have hx := B0.exec
  have hb := B0.bytes
  have hr := B0.returns
  have hts := atoms_spec (ws := vfX12_darkAt_nul) B0.pre
  have hown : s.vm.findClass RX12 = some m.cls := findClass_of_methodNamed B0.named
  have hlocks := B0.notSynchronized
  subst hsz
  have hD := hD0.self (sz := s.heap.size)
  generalize hAe : va_A ([(a0, .inr (9, [.int m_t.1, .int m_t.2.1, .int m_t.2.2, .null, g3, g4, g5, g6, g7, g8, g9, g10, g11, g12, g13, g14, g15, g16, g17, g18, g19, g20, g21, g22, g23, g24, g25, g26, g27, g28]))]) s.heap.size = A at hD ⊢
  have hA : ∀ q : Nat, s.heap.size ≤ q → A q := fun q h => by rw [← hAe]; exact Or.inr h
  have hS : va_S A s.heap s.heap [] := va_S.rf
  have hP : va_P (dC, dI) vwCl ([(a0, .inr (9, [.int m_t.1, .int m_t.2.1, .int m_t.2.2, .null, g3, g4, g5, g6, g7, g8, g9, g10, g11, g12, g13, g14, g15, g16, g17, g18, g19, g20, g21, g22, g23, g24, g25, g26, g27, g28]))]) s.heap := hP
  have hl := lv_entry ([.ref a0, .int k1]) (n := 5) (Nat.le_of_ble_eq_true rfl)
  rw [lg_entry_eq]
  generalize (lg_sl ([.ref a0, .int k1]) ++ List.replicate (5 - (lg_sl ([.ref a0, .int k1])).length) Slot.unset).toArray = ls at hl ⊢
  have hl : lv_has ls 5 [(0, .ref a0), (1, .int k1)] := hl
  refine W_q (fun QQ hQQ => ?_)
  rw [f_X12_darkAt_nul] at h
  refine lv_aload_n hx hb (zat zrX12_darkAt_0_ok 0 rfl) rfl (lv_at hl 0 rfl) ?_
  refine lv_iconst (v := 0) hx hb (zat zrX12_darkAt_0_ok 1 rfl) (by decide) ?_
  refine va_put (D := (dC, dI)) (ci := 9) (v := .int 0) (ty := .int) (C := RX12) (T := TX12) (N := 30) hx hb hts ifX12_darkAt_nul_X12 tyX12 tyX12_ok nmX12 hown hK hP hD hS 0 rfl rfl 0 (by decide) (hts (.fieldLink RX12 36 "HookPierModel" "thrown" "I") (List.mem_of_getElem? (i := 1) rfl)) (fun _ h9 => h9) rfl (by decide +kernel) rfl rfl (Nat.le_of_ble_eq_true rfl) (zat zrX12_darkAt_0_ok 2 rfl) (fun H locs hP hD hS => ?_)
  obtain ⟨hP, hD⟩ := pd_mk ([(a0, .inr (9, [.int 0, .int m_t.2.1, .int m_t.2.2, .null, g3, g4, g5, g6, g7, g8, g9, g10, g11, g12, g13, g14, g15, g16, g17, g18, g19, g20, g21, g22, g23, g24, g25, g26, g27, g28]))]) hP hD
  refine lv_aload_n hx hb (zat zrX12_darkAt_0_ok 3 rfl) rfl (lv_at hl 0 rfl) ?_
  refine ck_i (wc := ([(a0, .inr (9, [.int 0, .int m_t.2.1, .int m_t.2.2, .null, g3, g4, g5, g6, g7, g8, g9, g10, g11, g12, g13, g14, g15, g16, g17, g18, g19, g20, g21, g22, g23, g24, g25, g26, g27, g28]))])) (wr := []) hP hD hK hS hA [0] [] rfl rfl (by decide) (by decide) (by decide) (fun hPc hDc => (va_runV (As := []) (rest := []) ⟨hx, hb, hml, hown, hts⟩ (kfX12_refusesDark_nul l dC dI a0 (.int 0) (.int m_t.2.1) (.int m_t.2.2) (g3) (g4) (g5) (g6) (g7) (g8) (g9) (g10) (g11) (g12) (g13) (g14) (g15) (g16) (g17) (g18) (g19) (g20) (g21) (g22) (g23) (g24) (g25) (g26) (g27) (g28) H.size () rfl) (cwV 0 hts gfX12_darkAt_nul_0 rfl rfl rfl (by decide +kernel) ⟨(Nat.le_of_ble_eq_true rfl), (Nat.le_of_ble_eq_true rfl)⟩) (PV hPc (hK.sub (tys' := ([])) [] rfl) hDc hN 0 rfl rfl) rfl rfl hl.1 rfl (lv_room (Nat.le_of_ble_eq_true rfl)) (zat zrX12_darkAt_0_ok 4 rfl) ⟨(Nat.le_of_ble_eq_true rfl), (Nat.le_of_ble_eq_true rfl)⟩)) (fun r6 _ H locs hw hP hD _ hS => ?_)
  obtain rfl := hw
  obtain ⟨hP, hD⟩ := pd_mk ([(a0, .inr (9, [.int 0, .int m_t.2.1, .int m_t.2.2, .null, g3, g4, g5, g6, g7, g8, g9, g10, g11, g12, g13, g14, g15, g16, g17, g18, g19, g20, g21, g22, g23, g24, g25, g26, g27, g28]))]) hP hD
  refine lv_istore_n (lv' := [(2, .int 1), (0, .ref a0), (1, .int k1)]) hx hb (zat zrX12_darkAt_0_ok 5 rfl) rfl hl (by decide) rfl (fun ls hl => ?_)
  refine lv_iload_n hx hb (zat zrX12_darkAt_0_ok 6 rfl) rfl (lv_at hl 0 rfl) ?_
  refine lv_if_le (tgt := 20) hx hb (zat zrX12_darkAt_0_ok 7 rfl) (by decide) (fun c11 => absurd c11 (by decide)) (fun _ => ?_)
  refine lv_aload_n hx hb (zat zrX12_darkAt_0_ok 8 rfl) rfl (lv_at hl 1 rfl) ?_
  refine lv_iload_n hx hb (zat zrX12_darkAt_0_ok 9 rfl) rfl (lv_at hl 0 rfl) ?_
  obtain ⟨o16, eo16⟩ : ∃ o, o = f_X12_refused_nul (1 : Int32) ((0 : Int32), m_t.2) := ⟨_, rfl⟩
  have h := nm_of h o16 eo16
  refine ck_i (wc := ([(a0, .inr (9, [.int 0, .int m_t.2.1, .int m_t.2.2, .null, g3, g4, g5, g6, g7, g8, g9, g10, g11, g12, g13, g14, g15, g16, g17, g18, g19, g20, g21, g22, g23, g24, g25, g26, g27, g28]))])) (wr := []) hP hD hK hS hA [0] [] rfl rfl (by decide) (by decide) (by decide) (fun hPc hDc => (va_runV (As := [.int 1]) (rest := []) ⟨hx, hb, hml, hown, hts⟩ (kfX12_refused_nul l dC dI a0 (1 : Int32) ((0 : Int32), m_t.2) (.null) (g3) (g4) (g5) (g6) (g7) (g8) (g9) (g10) (g11) (g12) (g13) (g14) (g15) (g16) (g17) (g18) (g19) (g20) (g21) (g22) (g23) (g24) (g25) (g26) (g27) (g28) H.size o16 eo16.symm) (cwV 1 hts gfX12_darkAt_nul_1 rfl rfl rfl (by decide +kernel) ⟨(Nat.le_of_ble_eq_true rfl), (Nat.le_of_ble_eq_true rfl)⟩) (PV hPc (hK.sub (tys' := ([])) [] rfl) hDc hN 0 rfl rfl) rfl rfl hl.1 rfl (lv_room (Nat.le_of_ble_eq_true rfl)) (zat zrX12_darkAt_0_ok 10 rfl) ⟨(Nat.le_of_ble_eq_true rfl), (Nat.le_of_ble_eq_true rfl)⟩)) (fun r16 _ H locs hw hP hD _ hS => ?_)
  obtain rfl := hw
  obtain ⟨hP, hD⟩ := pd_mk ([(a0, .inr (9, [.int o16.1, .int o16.2.1, .int o16.2.2, .null, g3, g4, g5, g6, g7, g8, g9, g10, g11, g12, g13, g14, g15, g16, g17, g18, g19, g20, g21, g22, g23, g24, g25, g26, g27, g28]))]) hP hD
  obtain rfl := h
  obtain ⟨hP9, hD9⟩ := pd_sub ([(a0, .inr (9, [.int o16.1, .int o16.2.1, .int o16.2.2, .null, g3, g4, g5, g6, g7, g8, g9, g10, g11, g12, g13, g14, g15, g16, g17, g18, g19, g20, g21, g22, g23, g24, g25, g26, g27, g28]))]) [0] hP hD (by decide) rfl
  have hK9 := hK.sub (tys' := []) [] rfl
  rw [hQQ]
  exact W.iret (v := (-1 : Int32)) hx hb hr (fun t ht hW => ⟨⟨(-1 : Int32), (), rfl, rfl, by rw [ht]; exact hP9, va_K.moved hW.alike hK9, hD9⟩, hS.F ht⟩) hS.2.2 (zat zrX12_darkAt_0_ok 11 rfl)
def vfX12_darkSpots_nul : List Cond := List.cons (.code yX12_darkSpots cX12_darkSpots 4 (some .int)) (apW [.fieldLink RX12 36 "HookPierModel" "thrown" "I", .methodLink RX12 417 yX12_refusesDark, .instanceMethod yX12_refusesDark, .selects RX12 yX12_refusesDark yX12_refusesDark, .initialized RX12, .methodLink RX12 42 yX12_refused, .instanceMethod yX12_refused, .selects RX12 yX12_refused yX12_refused] (apW wsX120 (apW vfX12_refusesDark_nul (vfX12_refused_nul))))
theorem ifX12_darkSpots_nul_X12 : ∀ w ∈ wsX120, w ∈ vfX12_darkSpots_nul := fun _ h => (List.mem_cons_of_mem _ (List.mem_append_right _ (List.mem_append_left _ h)))
theorem qfX12_darkSpots_nul : Good vfX12_darkSpots_nul := gd_cons (by decide +kernel) (gd_app (gd_dec (by decide +kernel) : Good [.fieldLink RX12 36 "HookPierModel" "thrown" "I", .methodLink RX12 417 yX12_refusesDark, .instanceMethod yX12_refusesDark, .selects RX12 yX12_refusesDark yX12_refusesDark, .initialized RX12, .methodLink RX12 42 yX12_refused, .instanceMethod yX12_refused, .selects RX12 yX12_refused yX12_refused]) (gd_app qsX12 (gd_app qfX12_refusesDark_nul qfX12_refused_nul)))
theorem gfX12_darkSpots_nul_0 : GoodIn vfX12_darkSpots_nul (wsV RX12 417 RX12 yX12_refusesDark vfX12_refusesDark_nul) := goodIn_app (goodIn_r [.methodLink RX12 417 yX12_refusesDark, .instanceMethod yX12_refusesDark, .selects RX12 yX12_refusesDark yX12_refusesDark, .initialized RX12] [2, 3, 4, 5] rfl (by decide +kernel)) (goodIn_m (fun _ h => (List.mem_cons_of_mem _ (List.mem_append_right _ (List.mem_append_right _ (List.mem_append_left _ h))))) qfX12_refusesDark_nul)
theorem gfX12_darkSpots_nul_1 : GoodIn vfX12_darkSpots_nul (wsV RX12 42 RX12 yX12_refused vfX12_refused_nul) := goodIn_app (goodIn_r [.methodLink RX12 42 yX12_refused, .instanceMethod yX12_refused, .selects RX12 yX12_refused yX12_refused, .initialized RX12] [6, 7, 8, 5] rfl (by decide +kernel)) (goodIn_m (fun _ h => (List.mem_cons_of_mem _ (List.mem_append_right _ (List.mem_append_right _ (List.mem_append_right _ h))))) qfX12_refused_nul)
set_option maxHeartbeats 2000000 in
set_option maxRecDepth 100000 in
theorem kfX12_darkSpots_nul (l : Launch) (dC : Nat → ClassId) (dI : Nat → Nat → Nat) (a0 : Nat) (m_t : TX12_t) (g2 : Value) (g3 : Value) (g4 : Value) (g5 : Value) (g6 : Value) (g7 : Value) (g8 : Value) (g9 : Value) (g10 : Value) (g11 : Value) (g12 : Value) (g13 : Value) (g14 : Value) (g15 : Value) (g16 : Value) (g17 : Value) (g18 : Value) (g19 : Value) (g20 : Value) (g21 : Value) (g22 : Value) (g23 : Value) (g24 : Value) (g25 : Value) (g26 : Value) (g27 : Value) (sz : Nat) (out : TX12_t) (h : f_X12_darkSpots_nul m_t = out) : KCi l yX12_darkSpots vfX12_darkSpots_nul ({ frames := 1, cells := 0, slots := 0, locals := 21 }) (dC, dI) [.ref a0] sz ([(a0, .inr (9, [.int m_t.1, .int m_t.2.1, .int m_t.2.2, .null, g2, g3, g4, g5, g6, g7, g8, g9, g10, g11, g12, g13, g14, g15, g16, g17, g18, g19, g20, g21, g22, g23, g24, g25, g26, g27]))]) ([]) (fun (r : Int32) _ => r = (-1)) ([(a0, .inr (9, [.int out.1, .int out.2.1, .int out.2.2, .null, g2, g3, g4, g5, g6, g7, g8, g9, g10, g11, g12, g13, g14, g15, g16, g17, g18, g19, g20, g21, g22, g23, g24, g25, g26, g27]))]) 0 0 := by
  refine Met.ofW (cc := cX12_darkSpots) (maxL := 4) (ret := (some .int)) (by decide) rfl ?_
  intro p e s m args below meth c s₁ B0 hml hv
  obtain ⟨rfl, hsz, hP, hK, hD0, hN⟩ := hv
  have hx := B0.exec
  have hb := B0.bytes
  have hr := B0.returns
  have hts := atoms_spec (ws := vfX12_darkSpots_nul) B0.pre
  have hown : s.vm.findClass RX12 = some m.cls := findClass_of_methodNamed B0.named
  have hlocks := B0.notSynchronized
  subst hsz
  have hD := hD0.self (sz := s.heap.size)
  generalize hAe : va_A ([(a0, .inr (9, [.int m_t.1, .int m_t.2.1, .int m_t.2.2, .null, g2, g3, g4, g5, g6, g7, g8, g9, g10, g11, g12, g13, g14, g15, g16, g17, g18, g19, g20, g21, g22, g23, g24, g25, g26, g27]))]) s.heap.size = A at hD ⊢
  have hA : ∀ q : Nat, s.heap.size ≤ q → A q := fun q h => by rw [← hAe]; exact Or.inr h
  have hS : va_S A s.heap s.heap [] := va_S.rf
  have hP : va_P (dC, dI) vwCl ([(a0, .inr (9, [.int m_t.1, .int m_t.2.1, .int m_t.2.2, .null, g2, g3, g4, g5, g6, g7, g8, g9, g10, g11, g12, g13, g14, g15, g16, g17, g18, g19, g20, g21, g22, g23, g24, g25, g26, g27]))]) s.heap := hP
  have hl := lv_entry ([.ref a0]) (n := 4) (Nat.le_of_ble_eq_true rfl)
  rw [lg_entry_eq]
  generalize (lg_sl ([.ref a0]) ++ List.replicate (4 - (lg_sl ([.ref a0])).length) Slot.unset).toArray = ls at hl ⊢
  have hl : lv_has ls 4 [(0, .ref a0)] := hl
  refine W_q (fun QQ hQQ => ?_)
  rw [f_X12_darkSpots_nul] at h
  refine lv_aload_n hx hb (zat zrX12_darkSpots_0_ok 0 rfl) rfl (lv_at hl 0 rfl) ?_
  refine lv_iconst (v := 0) hx hb (zat zrX12_darkSpots_0_ok 1 rfl) (by decide) ?_
  refine va_put (D := (dC, dI)) (ci := 9) (v := .int 0) (ty := .int) (C := RX12) (T := TX12) (N := 30) hx hb hts ifX12_darkSpots_nul_X12 tyX12 tyX12_ok nmX12 hown hK hP hD hS 0 rfl rfl 0 (by decide) (hts (.fieldLink RX12 36 "HookPierModel" "thrown" "I") (List.mem_of_getElem? (i := 1) rfl)) (fun _ h9 => h9) rfl (by decide +kernel) rfl rfl (Nat.le_of_ble_eq_true rfl) (zat zrX12_darkSpots_0_ok 2 rfl) (fun H locs hP hD hS => ?_)
  obtain ⟨hP, hD⟩ := pd_mk ([(a0, .inr (9, [.int 0, .int m_t.2.1, .int m_t.2.2, .null, g2, g3, g4, g5, g6, g7, g8, g9, g10, g11, g12, g13, g14, g15, g16, g17, g18, g19, g20, g21, g22, g23, g24, g25, g26, g27]))]) hP hD
  refine lv_aload_n hx hb (zat zrX12_darkSpots_0_ok 3 rfl) rfl (lv_at hl 0 rfl) ?_
  refine ck_i (wc := ([(a0, .inr (9, [.int 0, .int m_t.2.1, .int m_t.2.2, .null, g2, g3, g4, g5, g6, g7, g8, g9, g10, g11, g12, g13, g14, g15, g16, g17, g18, g19, g20, g21, g22, g23, g24, g25, g26, g27]))])) (wr := []) hP hD hK hS hA [0] [] rfl rfl (by decide) (by decide) (by decide) (fun hPc hDc => (va_runV (As := []) (rest := []) ⟨hx, hb, hml, hown, hts⟩ (kfX12_refusesDark_nul l dC dI a0 (.int 0) (.int m_t.2.1) (.int m_t.2.2) (g2) (g3) (g4) (g5) (g6) (g7) (g8) (g9) (g10) (g11) (g12) (g13) (g14) (g15) (g16) (g17) (g18) (g19) (g20) (g21) (g22) (g23) (g24) (g25) (g26) (g27) H.size () rfl) (cwV 0 hts gfX12_darkSpots_nul_0 rfl rfl rfl (by decide +kernel) ⟨(Nat.le_of_ble_eq_true rfl), (Nat.le_of_ble_eq_true rfl)⟩) (PV hPc (hK.sub (tys' := ([])) [] rfl) hDc hN 0 rfl rfl) rfl rfl hl.1 rfl (lv_room (Nat.le_of_ble_eq_true rfl)) (zat zrX12_darkSpots_0_ok 4 rfl) ⟨(Nat.le_of_ble_eq_true rfl), (Nat.le_of_ble_eq_true rfl)⟩)) (fun r6 _ H locs hw hP hD _ hS => ?_)
  obtain rfl := hw
  obtain ⟨hP, hD⟩ := pd_mk ([(a0, .inr (9, [.int 0, .int m_t.2.1, .int m_t.2.2, .null, g2, g3, g4, g5, g6, g7, g8, g9, g10, g11, g12, g13, g14, g15, g16, g17, g18, g19, g20, g21, g22, g23, g24, g25, g26, g27]))]) hP hD
  refine lv_istore_n (lv' := [(1, .int 1), (0, .ref a0)]) hx hb (zat zrX12_darkSpots_0_ok 5 rfl) rfl hl (by decide) rfl (fun ls hl => ?_)
  refine lv_iload_n hx hb (zat zrX12_darkSpots_0_ok 6 rfl) rfl (lv_at hl 0 rfl) ?_
  refine lv_if_le (tgt := 20) hx hb (zat zrX12_darkSpots_0_ok 7 rfl) (by decide) (fun c11 => absurd c11 (by decide)) (fun _ => ?_)
  refine lv_aload_n hx hb (zat zrX12_darkSpots_0_ok 8 rfl) rfl (lv_at hl 1 rfl) ?_
  refine lv_iload_n hx hb (zat zrX12_darkSpots_0_ok 9 rfl) rfl (lv_at hl 0 rfl) ?_
  obtain ⟨o16, eo16⟩ : ∃ o, o = f_X12_refused_nul (1 : Int32) ((0 : Int32), m_t.2) := ⟨_, rfl⟩
  have h := nm_of h o16 eo16
  refine ck_i (wc := ([(a0, .inr (9, [.int 0, .int m_t.2.1, .int m_t.2.2, .null, g2, g3, g4, g5, g6, g7, g8, g9, g10, g11, g12, g13, g14, g15, g16, g17, g18, g19, g20, g21, g22, g23, g24, g25, g26, g27]))])) (wr := []) hP hD hK hS hA [0] [] rfl rfl (by decide) (by decide) (by decide) (fun hPc hDc => (va_runV (As := [.int 1]) (rest := []) ⟨hx, hb, hml, hown, hts⟩ (kfX12_refused_nul l dC dI a0 (1 : Int32) ((0 : Int32), m_t.2) (.null) (g2) (g3) (g4) (g5) (g6) (g7) (g8) (g9) (g10) (g11) (g12) (g13) (g14) (g15) (g16) (g17) (g18) (g19) (g20) (g21) (g22) (g23) (g24) (g25) (g26) (g27) H.size o16 eo16.symm) (cwV 1 hts gfX12_darkSpots_nul_1 rfl rfl rfl (by decide +kernel) ⟨(Nat.le_of_ble_eq_true rfl), (Nat.le_of_ble_eq_true rfl)⟩) (PV hPc (hK.sub (tys' := ([])) [] rfl) hDc hN 0 rfl rfl) rfl rfl hl.1 rfl (lv_room (Nat.le_of_ble_eq_true rfl)) (zat zrX12_darkSpots_0_ok 10 rfl) ⟨(Nat.le_of_ble_eq_true rfl), (Nat.le_of_ble_eq_true rfl)⟩)) (fun r16 _ H locs hw hP hD _ hS => ?_)
  obtain rfl := hw
  obtain ⟨hP, hD⟩ := pd_mk ([(a0, .inr (9, [.int o16.1, .int o16.2.1, .int o16.2.2, .null, g2, g3, g4, g5, g6, g7, g8, g9, g10, g11, g12, g13, g14, g15, g16, g17, g18, g19, g20, g21, g22, g23, g24, g25, g26, g27]))]) hP hD
  obtain rfl := h
  obtain ⟨hP9, hD9⟩ := pd_sub ([(a0, .inr (9, [.int o16.1, .int o16.2.1, .int o16.2.2, .null, g2, g3, g4, g5, g6, g7, g8, g9, g10, g11, g12, g13, g14, g15, g16, g17, g18, g19, g20, g21, g22, g23, g24, g25, g26, g27]))]) [0] hP hD (by decide) rfl
  have hK9 := hK.sub (tys' := []) [] rfl
  rw [hQQ]
  exact W.iret (v := (-1 : Int32)) hx hb hr (fun t ht hW => ⟨⟨(-1 : Int32), (), rfl, rfl, by rw [ht]; exact hP9, va_K.moved hW.alike hK9, hD9⟩, hS.F ht⟩) hS.2.2 (zat zrX12_darkSpots_0_ok 11 rfl)
def vfX12_ask_nul : List Cond := List.cons (.code yX12_ask cX12_ask 3 (some .int)) (apW [.fieldLink RX12 36 "HookPierModel" "thrown" "I", .methodLink RX12 417 yX12_refusesDark, .instanceMethod yX12_refusesDark, .selects RX12 yX12_refusesDark yX12_refusesDark, .initialized RX12, .methodLink RX12 42 yX12_refused, .instanceMethod yX12_refused, .selects RX12 yX12_refused yX12_refused] (apW wsX120 (apW vfX12_refusesDark_nul (vfX12_refused_nul))))
theorem ifX12_ask_nul_X12 : ∀ w ∈ wsX120, w ∈ vfX12_ask_nul := fun _ h => (List.mem_cons_of_mem _ (List.mem_append_right _ (List.mem_append_left _ h)))
theorem qfX12_ask_nul : Good vfX12_ask_nul := gd_cons (by decide +kernel) (gd_app (gd_dec (by decide +kernel) : Good [.fieldLink RX12 36 "HookPierModel" "thrown" "I", .methodLink RX12 417 yX12_refusesDark, .instanceMethod yX12_refusesDark, .selects RX12 yX12_refusesDark yX12_refusesDark, .initialized RX12, .methodLink RX12 42 yX12_refused, .instanceMethod yX12_refused, .selects RX12 yX12_refused yX12_refused]) (gd_app qsX12 (gd_app qfX12_refusesDark_nul qfX12_refused_nul)))
theorem gfX12_ask_nul_0 : GoodIn vfX12_ask_nul (wsV RX12 417 RX12 yX12_refusesDark vfX12_refusesDark_nul) := goodIn_app (goodIn_r [.methodLink RX12 417 yX12_refusesDark, .instanceMethod yX12_refusesDark, .selects RX12 yX12_refusesDark yX12_refusesDark, .initialized RX12] [2, 3, 4, 5] rfl (by decide +kernel)) (goodIn_m (fun _ h => (List.mem_cons_of_mem _ (List.mem_append_right _ (List.mem_append_right _ (List.mem_append_left _ h))))) qfX12_refusesDark_nul)
theorem gfX12_ask_nul_1 : GoodIn vfX12_ask_nul (wsV RX12 42 RX12 yX12_refused vfX12_refused_nul) := goodIn_app (goodIn_r [.methodLink RX12 42 yX12_refused, .instanceMethod yX12_refused, .selects RX12 yX12_refused yX12_refused, .initialized RX12] [6, 7, 8, 5] rfl (by decide +kernel)) (goodIn_m (fun _ h => (List.mem_cons_of_mem _ (List.mem_append_right _ (List.mem_append_right _ (List.mem_append_right _ h))))) qfX12_refused_nul)
set_option maxHeartbeats 2000000 in
set_option maxRecDepth 100000 in
theorem kfX12_ask_nul (l : Launch) (dC : Nat → ClassId) (dI : Nat → Nat → Nat) (a0 : Nat) (m_t : TX12_t) (g2 : Value) (g3 : Value) (g4 : Value) (g5 : Value) (g6 : Value) (g7 : Value) (g8 : Value) (g9 : Value) (g10 : Value) (g11 : Value) (g12 : Value) (g13 : Value) (g14 : Value) (g15 : Value) (g16 : Value) (g17 : Value) (g18 : Value) (g19 : Value) (g20 : Value) (g21 : Value) (g22 : Value) (g23 : Value) (g24 : Value) (g25 : Value) (g26 : Value) (g27 : Value) (sz : Nat) (out : TX12_t) (h : f_X12_ask_nul m_t = out) : KCi l yX12_ask vfX12_ask_nul ({ frames := 1, cells := 0, slots := 0, locals := 21 }) (dC, dI) [.ref a0] sz ([(a0, .inr (9, [.int m_t.1, .int m_t.2.1, .int m_t.2.2, .null, g2, g3, g4, g5, g6, g7, g8, g9, g10, g11, g12, g13, g14, g15, g16, g17, g18, g19, g20, g21, g22, g23, g24, g25, g26, g27]))]) ([]) (fun (r : Int32) _ => r = (-1)) ([(a0, .inr (9, [.int out.1, .int out.2.1, .int out.2.2, .null, g2, g3, g4, g5, g6, g7, g8, g9, g10, g11, g12, g13, g14, g15, g16, g17, g18, g19, g20, g21, g22, g23, g24, g25, g26, g27]))]) 0 0 := by
  refine Met.ofW (cc := cX12_ask) (maxL := 3) (ret := (some .int)) (by decide) rfl ?_
  intro p e s m args below meth c s₁ B0 hml hv
  obtain ⟨rfl, hsz, hP, hK, hD0, hN⟩ := hv
  have hx := B0.exec
  have hb := B0.bytes
  have hr := B0.returns
  have hts := atoms_spec (ws := vfX12_ask_nul) B0.pre
  have hown : s.vm.findClass RX12 = some m.cls := findClass_of_methodNamed B0.named
  have hlocks := B0.notSynchronized
  subst hsz
  have hD := hD0.self (sz := s.heap.size)
  generalize hAe : va_A ([(a0, .inr (9, [.int m_t.1, .int m_t.2.1, .int m_t.2.2, .null, g2, g3, g4, g5, g6, g7, g8, g9, g10, g11, g12, g13, g14, g15, g16, g17, g18, g19, g20, g21, g22, g23, g24, g25, g26, g27]))]) s.heap.size = A at hD ⊢
  have hA : ∀ q : Nat, s.heap.size ≤ q → A q := fun q h => by rw [← hAe]; exact Or.inr h
  have hS : va_S A s.heap s.heap [] := va_S.rf
  have hP : va_P (dC, dI) vwCl ([(a0, .inr (9, [.int m_t.1, .int m_t.2.1, .int m_t.2.2, .null, g2, g3, g4, g5, g6, g7, g8, g9, g10, g11, g12, g13, g14, g15, g16, g17, g18, g19, g20, g21, g22, g23, g24, g25, g26, g27]))]) s.heap := hP
  have hl := lv_entry ([.ref a0]) (n := 3) (Nat.le_of_ble_eq_true rfl)
  rw [lg_entry_eq]
  generalize (lg_sl ([.ref a0]) ++ List.replicate (3 - (lg_sl ([.ref a0])).length) Slot.unset).toArray = ls at hl ⊢
  have hl : lv_has ls 3 [(0, .ref a0)] := hl
  refine W_q (fun QQ hQQ => ?_)
  rw [f_X12_ask_nul] at h
  refine lv_aload_n hx hb (zat zrX12_ask_0_ok 0 rfl) rfl (lv_at hl 0 rfl) ?_
  refine lv_iconst (v := 0) hx hb (zat zrX12_ask_0_ok 1 rfl) (by decide) ?_
  refine va_put (D := (dC, dI)) (ci := 9) (v := .int 0) (ty := .int) (C := RX12) (T := TX12) (N := 30) hx hb hts ifX12_ask_nul_X12 tyX12 tyX12_ok nmX12 hown hK hP hD hS 0 rfl rfl 0 (by decide) (hts (.fieldLink RX12 36 "HookPierModel" "thrown" "I") (List.mem_of_getElem? (i := 1) rfl)) (fun _ h9 => h9) rfl (by decide +kernel) rfl rfl (Nat.le_of_ble_eq_true rfl) (zat zrX12_ask_0_ok 2 rfl) (fun H locs hP hD hS => ?_)
  obtain ⟨hP, hD⟩ := pd_mk ([(a0, .inr (9, [.int 0, .int m_t.2.1, .int m_t.2.2, .null, g2, g3, g4, g5, g6, g7, g8, g9, g10, g11, g12, g13, g14, g15, g16, g17, g18, g19, g20, g21, g22, g23, g24, g25, g26, g27]))]) hP hD
  refine lv_aload_n hx hb (zat zrX12_ask_0_ok 3 rfl) rfl (lv_at hl 0 rfl) ?_
  refine ck_i (wc := ([(a0, .inr (9, [.int 0, .int m_t.2.1, .int m_t.2.2, .null, g2, g3, g4, g5, g6, g7, g8, g9, g10, g11, g12, g13, g14, g15, g16, g17, g18, g19, g20, g21, g22, g23, g24, g25, g26, g27]))])) (wr := []) hP hD hK hS hA [0] [] rfl rfl (by decide) (by decide) (by decide) (fun hPc hDc => (va_runV (As := []) (rest := []) ⟨hx, hb, hml, hown, hts⟩ (kfX12_refusesDark_nul l dC dI a0 (.int 0) (.int m_t.2.1) (.int m_t.2.2) (g2) (g3) (g4) (g5) (g6) (g7) (g8) (g9) (g10) (g11) (g12) (g13) (g14) (g15) (g16) (g17) (g18) (g19) (g20) (g21) (g22) (g23) (g24) (g25) (g26) (g27) H.size () rfl) (cwV 0 hts gfX12_ask_nul_0 rfl rfl rfl (by decide +kernel) ⟨(Nat.le_of_ble_eq_true rfl), (Nat.le_of_ble_eq_true rfl)⟩) (PV hPc (hK.sub (tys' := ([])) [] rfl) hDc hN 0 rfl rfl) rfl rfl hl.1 rfl (lv_room (Nat.le_of_ble_eq_true rfl)) (zat zrX12_ask_0_ok 4 rfl) ⟨(Nat.le_of_ble_eq_true rfl), (Nat.le_of_ble_eq_true rfl)⟩)) (fun r6 _ H locs hw hP hD _ hS => ?_)
  obtain rfl := hw
  obtain ⟨hP, hD⟩ := pd_mk ([(a0, .inr (9, [.int 0, .int m_t.2.1, .int m_t.2.2, .null, g2, g3, g4, g5, g6, g7, g8, g9, g10, g11, g12, g13, g14, g15, g16, g17, g18, g19, g20, g21, g22, g23, g24, g25, g26, g27]))]) hP hD
  refine lv_istore_n (lv' := [(1, .int 1), (0, .ref a0)]) hx hb (zat zrX12_ask_0_ok 5 rfl) rfl hl (by decide) rfl (fun ls hl => ?_)
  refine lv_iload_n hx hb (zat zrX12_ask_0_ok 6 rfl) rfl (lv_at hl 0 rfl) ?_
  refine lv_if_le (tgt := 20) hx hb (zat zrX12_ask_0_ok 7 rfl) (by decide) (fun c11 => absurd c11 (by decide)) (fun _ => ?_)
  refine lv_aload_n hx hb (zat zrX12_ask_0_ok 8 rfl) rfl (lv_at hl 1 rfl) ?_
  refine lv_iload_n hx hb (zat zrX12_ask_0_ok 9 rfl) rfl (lv_at hl 0 rfl) ?_
  obtain ⟨o16, eo16⟩ : ∃ o, o = f_X12_refused_nul (1 : Int32) ((0 : Int32), m_t.2) := ⟨_, rfl⟩
  have h := nm_of h o16 eo16
  refine ck_i (wc := ([(a0, .inr (9, [.int 0, .int m_t.2.1, .int m_t.2.2, .null, g2, g3, g4, g5, g6, g7, g8, g9, g10, g11, g12, g13, g14, g15, g16, g17, g18, g19, g20, g21, g22, g23, g24, g25, g26, g27]))])) (wr := []) hP hD hK hS hA [0] [] rfl rfl (by decide) (by decide) (by decide) (fun hPc hDc => (va_runV (As := [.int 1]) (rest := []) ⟨hx, hb, hml, hown, hts⟩ (kfX12_refused_nul l dC dI a0 (1 : Int32) ((0 : Int32), m_t.2) (.null) (g2) (g3) (g4) (g5) (g6) (g7) (g8) (g9) (g10) (g11) (g12) (g13) (g14) (g15) (g16) (g17) (g18) (g19) (g20) (g21) (g22) (g23) (g24) (g25) (g26) (g27) H.size o16 eo16.symm) (cwV 1 hts gfX12_ask_nul_1 rfl rfl rfl (by decide +kernel) ⟨(Nat.le_of_ble_eq_true rfl), (Nat.le_of_ble_eq_true rfl)⟩) (PV hPc (hK.sub (tys' := ([])) [] rfl) hDc hN 0 rfl rfl) rfl rfl hl.1 rfl (lv_room (Nat.le_of_ble_eq_true rfl)) (zat zrX12_ask_0_ok 10 rfl) ⟨(Nat.le_of_ble_eq_true rfl), (Nat.le_of_ble_eq_true rfl)⟩)) (fun r16 _ H locs hw hP hD _ hS => ?_)
  obtain rfl := hw
  obtain ⟨hP, hD⟩ := pd_mk ([(a0, .inr (9, [.int o16.1, .int o16.2.1, .int o16.2.2, .null, g2, g3, g4, g5, g6, g7, g8, g9, g10, g11, g12, g13, g14, g15, g16, g17, g18, g19, g20, g21, g22, g23, g24, g25, g26, g27]))]) hP hD
  obtain rfl := h
  obtain ⟨hP9, hD9⟩ := pd_sub ([(a0, .inr (9, [.int o16.1, .int o16.2.1, .int o16.2.2, .null, g2, g3, g4, g5, g6, g7, g8, g9, g10, g11, g12, g13, g14, g15, g16, g17, g18, g19, g20, g21, g22, g23, g24, g25, g26, g27]))]) [0] hP hD (by decide) rfl
  have hK9 := hK.sub (tys' := []) [] rfl
  rw [hQQ]
  exact W.iret (v := (-1 : Int32)) hx hb hr (fun t ht hW => ⟨⟨(-1 : Int32), (), rfl, rfl, by rw [ht]; exact hP9, va_K.moved hW.alike hK9, hD9⟩, hS.F ht⟩) hS.2.2 (zat zrX12_ask_0_ok 11 rfl)
def vfX12_askLeaves_nul : List Cond := List.cons (.code yX12_askLeaves cX12_askLeaves 2 (some .int)) (apW [.fieldLink RX12 36 "HookPierModel" "thrown" "I", .methodLink RX12 417 yX12_refusesDark, .instanceMethod yX12_refusesDark, .selects RX12 yX12_refusesDark yX12_refusesDark, .initialized RX12, .methodLink RX12 42 yX12_refused, .instanceMethod yX12_refused, .selects RX12 yX12_refused yX12_refused] (apW wsX120 (apW vfX12_refusesDark_nul (vfX12_refused_nul))))
theorem ifX12_askLeaves_nul_X12 : ∀ w ∈ wsX120, w ∈ vfX12_askLeaves_nul := fun _ h => (List.mem_cons_of_mem _ (List.mem_append_right _ (List.mem_append_left _ h)))
theorem qfX12_askLeaves_nul : Good vfX12_askLeaves_nul := gd_cons (by decide +kernel) (gd_app (gd_dec (by decide +kernel) : Good [.fieldLink RX12 36 "HookPierModel" "thrown" "I", .methodLink RX12 417 yX12_refusesDark, .instanceMethod yX12_refusesDark, .selects RX12 yX12_refusesDark yX12_refusesDark, .initialized RX12, .methodLink RX12 42 yX12_refused, .instanceMethod yX12_refused, .selects RX12 yX12_refused yX12_refused]) (gd_app qsX12 (gd_app qfX12_refusesDark_nul qfX12_refused_nul)))
theorem gfX12_askLeaves_nul_0 : GoodIn vfX12_askLeaves_nul (wsV RX12 417 RX12 yX12_refusesDark vfX12_refusesDark_nul) := goodIn_app (goodIn_r [.methodLink RX12 417 yX12_refusesDark, .instanceMethod yX12_refusesDark, .selects RX12 yX12_refusesDark yX12_refusesDark, .initialized RX12] [2, 3, 4, 5] rfl (by decide +kernel)) (goodIn_m (fun _ h => (List.mem_cons_of_mem _ (List.mem_append_right _ (List.mem_append_right _ (List.mem_append_left _ h))))) qfX12_refusesDark_nul)
theorem gfX12_askLeaves_nul_1 : GoodIn vfX12_askLeaves_nul (wsV RX12 42 RX12 yX12_refused vfX12_refused_nul) := goodIn_app (goodIn_r [.methodLink RX12 42 yX12_refused, .instanceMethod yX12_refused, .selects RX12 yX12_refused yX12_refused, .initialized RX12] [6, 7, 8, 5] rfl (by decide +kernel)) (goodIn_m (fun _ h => (List.mem_cons_of_mem _ (List.mem_append_right _ (List.mem_append_right _ (List.mem_append_right _ h))))) qfX12_refused_nul)
set_option maxHeartbeats 2000000 in
set_option maxRecDepth 100000 in
theorem kfX12_askLeaves_nul (l : Launch) (dC : Nat → ClassId) (dI : Nat → Nat → Nat) (a0 : Nat) (m_t : TX12_t) (g2 : Value) (g3 : Value) (g4 : Value) (g5 : Value) (g6 : Value) (g7 : Value) (g8 : Value) (g9 : Value) (g10 : Value) (g11 : Value) (g12 : Value) (g13 : Value) (g14 : Value) (g15 : Value) (g16 : Value) (g17 : Value) (g18 : Value) (g19 : Value) (g20 : Value) (g21 : Value) (g22 : Value) (g23 : Value) (g24 : Value) (g25 : Value) (g26 : Value) (g27 : Value) (sz : Nat) (out : TX12_t) (h : f_X12_askLeaves_nul m_t = out) : KCi l yX12_askLeaves vfX12_askLeaves_nul ({ frames := 1, cells := 0, slots := 0, locals := 21 }) (dC, dI) [.ref a0] sz ([(a0, .inr (9, [.int m_t.1, .int m_t.2.1, .int m_t.2.2, .null, g2, g3, g4, g5, g6, g7, g8, g9, g10, g11, g12, g13, g14, g15, g16, g17, g18, g19, g20, g21, g22, g23, g24, g25, g26, g27]))]) ([]) (fun (r : Int32) _ => r = (-1)) ([(a0, .inr (9, [.int out.1, .int out.2.1, .int out.2.2, .null, g2, g3, g4, g5, g6, g7, g8, g9, g10, g11, g12, g13, g14, g15, g16, g17, g18, g19, g20, g21, g22, g23, g24, g25, g26, g27]))]) 0 0 := by
  refine Met.ofW (cc := cX12_askLeaves) (maxL := 2) (ret := (some .int)) (by decide) rfl ?_
  intro p e s m args below meth c s₁ B0 hml hv
  obtain ⟨rfl, hsz, hP, hK, hD0, hN⟩ := hv
  have hx := B0.exec
  have hb := B0.bytes
  have hr := B0.returns
  have hts := atoms_spec (ws := vfX12_askLeaves_nul) B0.pre
  have hown : s.vm.findClass RX12 = some m.cls := findClass_of_methodNamed B0.named
  have hlocks := B0.notSynchronized
  subst hsz
  have hD := hD0.self (sz := s.heap.size)
  generalize hAe : va_A ([(a0, .inr (9, [.int m_t.1, .int m_t.2.1, .int m_t.2.2, .null, g2, g3, g4, g5, g6, g7, g8, g9, g10, g11, g12, g13, g14, g15, g16, g17, g18, g19, g20, g21, g22, g23, g24, g25, g26, g27]))]) s.heap.size = A at hD ⊢
  have hA : ∀ q : Nat, s.heap.size ≤ q → A q := fun q h => by rw [← hAe]; exact Or.inr h
  have hS : va_S A s.heap s.heap [] := va_S.rf
  have hP : va_P (dC, dI) vwCl ([(a0, .inr (9, [.int m_t.1, .int m_t.2.1, .int m_t.2.2, .null, g2, g3, g4, g5, g6, g7, g8, g9, g10, g11, g12, g13, g14, g15, g16, g17, g18, g19, g20, g21, g22, g23, g24, g25, g26, g27]))]) s.heap := hP
  have hl := lv_entry ([.ref a0]) (n := 2) (Nat.le_of_ble_eq_true rfl)
  rw [lg_entry_eq]
  generalize (lg_sl ([.ref a0]) ++ List.replicate (2 - (lg_sl ([.ref a0])).length) Slot.unset).toArray = ls at hl ⊢
  have hl : lv_has ls 2 [(0, .ref a0)] := hl
  refine W_q (fun QQ hQQ => ?_)
  rw [f_X12_askLeaves_nul] at h
  refine lv_aload_n hx hb (zat zrX12_askLeaves_0_ok 0 rfl) rfl (lv_at hl 0 rfl) ?_
  refine lv_iconst (v := 0) hx hb (zat zrX12_askLeaves_0_ok 1 rfl) (by decide) ?_
  refine va_put (D := (dC, dI)) (ci := 9) (v := .int 0) (ty := .int) (C := RX12) (T := TX12) (N := 30) hx hb hts ifX12_askLeaves_nul_X12 tyX12 tyX12_ok nmX12 hown hK hP hD hS 0 rfl rfl 0 (by decide) (hts (.fieldLink RX12 36 "HookPierModel" "thrown" "I") (List.mem_of_getElem? (i := 1) rfl)) (fun _ h9 => h9) rfl (by decide +kernel) rfl rfl (Nat.le_of_ble_eq_true rfl) (zat zrX12_askLeaves_0_ok 2 rfl) (fun H locs hP hD hS => ?_)
  obtain ⟨hP, hD⟩ := pd_mk ([(a0, .inr (9, [.int 0, .int m_t.2.1, .int m_t.2.2, .null, g2, g3, g4, g5, g6, g7, g8, g9, g10, g11, g12, g13, g14, g15, g16, g17, g18, g19, g20, g21, g22, g23, g24, g25, g26, g27]))]) hP hD
  refine lv_aload_n hx hb (zat zrX12_askLeaves_0_ok 3 rfl) rfl (lv_at hl 0 rfl) ?_
  refine ck_i (wc := ([(a0, .inr (9, [.int 0, .int m_t.2.1, .int m_t.2.2, .null, g2, g3, g4, g5, g6, g7, g8, g9, g10, g11, g12, g13, g14, g15, g16, g17, g18, g19, g20, g21, g22, g23, g24, g25, g26, g27]))])) (wr := []) hP hD hK hS hA [0] [] rfl rfl (by decide) (by decide) (by decide) (fun hPc hDc => (va_runV (As := []) (rest := []) ⟨hx, hb, hml, hown, hts⟩ (kfX12_refusesDark_nul l dC dI a0 (.int 0) (.int m_t.2.1) (.int m_t.2.2) (g2) (g3) (g4) (g5) (g6) (g7) (g8) (g9) (g10) (g11) (g12) (g13) (g14) (g15) (g16) (g17) (g18) (g19) (g20) (g21) (g22) (g23) (g24) (g25) (g26) (g27) H.size () rfl) (cwV 0 hts gfX12_askLeaves_nul_0 rfl rfl rfl (by decide +kernel) ⟨(Nat.le_of_ble_eq_true rfl), (Nat.le_of_ble_eq_true rfl)⟩) (PV hPc (hK.sub (tys' := ([])) [] rfl) hDc hN 0 rfl rfl) rfl rfl hl.1 rfl (lv_room (Nat.le_of_ble_eq_true rfl)) (zat zrX12_askLeaves_0_ok 4 rfl) ⟨(Nat.le_of_ble_eq_true rfl), (Nat.le_of_ble_eq_true rfl)⟩)) (fun r6 _ H locs hw hP hD _ hS => ?_)
  obtain rfl := hw
  obtain ⟨hP, hD⟩ := pd_mk ([(a0, .inr (9, [.int 0, .int m_t.2.1, .int m_t.2.2, .null, g2, g3, g4, g5, g6, g7, g8, g9, g10, g11, g12, g13, g14, g15, g16, g17, g18, g19, g20, g21, g22, g23, g24, g25, g26, g27]))]) hP hD
  refine lv_istore_n (lv' := [(1, .int 1), (0, .ref a0)]) hx hb (zat zrX12_askLeaves_0_ok 5 rfl) rfl hl (by decide) rfl (fun ls hl => ?_)
  refine lv_iload_n hx hb (zat zrX12_askLeaves_0_ok 6 rfl) rfl (lv_at hl 0 rfl) ?_
  refine lv_if_le (tgt := 20) hx hb (zat zrX12_askLeaves_0_ok 7 rfl) (by decide) (fun c11 => absurd c11 (by decide)) (fun _ => ?_)
  refine lv_aload_n hx hb (zat zrX12_askLeaves_0_ok 8 rfl) rfl (lv_at hl 1 rfl) ?_
  refine lv_iload_n hx hb (zat zrX12_askLeaves_0_ok 9 rfl) rfl (lv_at hl 0 rfl) ?_
  obtain ⟨o16, eo16⟩ : ∃ o, o = f_X12_refused_nul (1 : Int32) ((0 : Int32), m_t.2) := ⟨_, rfl⟩
  have h := nm_of h o16 eo16
  refine ck_i (wc := ([(a0, .inr (9, [.int 0, .int m_t.2.1, .int m_t.2.2, .null, g2, g3, g4, g5, g6, g7, g8, g9, g10, g11, g12, g13, g14, g15, g16, g17, g18, g19, g20, g21, g22, g23, g24, g25, g26, g27]))])) (wr := []) hP hD hK hS hA [0] [] rfl rfl (by decide) (by decide) (by decide) (fun hPc hDc => (va_runV (As := [.int 1]) (rest := []) ⟨hx, hb, hml, hown, hts⟩ (kfX12_refused_nul l dC dI a0 (1 : Int32) ((0 : Int32), m_t.2) (.null) (g2) (g3) (g4) (g5) (g6) (g7) (g8) (g9) (g10) (g11) (g12) (g13) (g14) (g15) (g16) (g17) (g18) (g19) (g20) (g21) (g22) (g23) (g24) (g25) (g26) (g27) H.size o16 eo16.symm) (cwV 1 hts gfX12_askLeaves_nul_1 rfl rfl rfl (by decide +kernel) ⟨(Nat.le_of_ble_eq_true rfl), (Nat.le_of_ble_eq_true rfl)⟩) (PV hPc (hK.sub (tys' := ([])) [] rfl) hDc hN 0 rfl rfl) rfl rfl hl.1 rfl (lv_room (Nat.le_of_ble_eq_true rfl)) (zat zrX12_askLeaves_0_ok 10 rfl) ⟨(Nat.le_of_ble_eq_true rfl), (Nat.le_of_ble_eq_true rfl)⟩)) (fun r16 _ H locs hw hP hD _ hS => ?_)
  obtain rfl := hw
  obtain ⟨hP, hD⟩ := pd_mk ([(a0, .inr (9, [.int o16.1, .int o16.2.1, .int o16.2.2, .null, g2, g3, g4, g5, g6, g7, g8, g9, g10, g11, g12, g13, g14, g15, g16, g17, g18, g19, g20, g21, g22, g23, g24, g25, g26, g27]))]) hP hD
  obtain rfl := h
  obtain ⟨hP9, hD9⟩ := pd_sub ([(a0, .inr (9, [.int o16.1, .int o16.2.1, .int o16.2.2, .null, g2, g3, g4, g5, g6, g7, g8, g9, g10, g11, g12, g13, g14, g15, g16, g17, g18, g19, g20, g21, g22, g23, g24, g25, g26, g27]))]) [0] hP hD (by decide) rfl
  have hK9 := hK.sub (tys' := []) [] rfl
  rw [hQQ]
  exact W.iret (v := (-1 : Int32)) hx hb hr (fun t ht hW => ⟨⟨(-1 : Int32), (), rfl, rfl, by rw [ht]; exact hP9, va_K.moved hW.alike hK9, hD9⟩, hS.F ht⟩) hS.2.2 (zat zrX12_askLeaves_0_ok 11 rfl)
def vfX12_judge_nul : List Cond := List.cons (.code yX12_judge cX12_judge 2 (some .int)) (apW [.fieldLink RX12 36 "HookPierModel" "thrown" "I", .methodLink RX12 320 yX12_isAnswer, .instanceMethod yX12_isAnswer, .selects RX12 yX12_isAnswer yX12_isAnswer, .initialized RX12, .methodLink RX12 42 yX12_refused, .instanceMethod yX12_refused, .selects RX12 yX12_refused yX12_refused] (apW wsX120 (apW vfX12_isAnswer_nul (vfX12_refused_nul))))
theorem ifX12_judge_nul_X12 : ∀ w ∈ wsX120, w ∈ vfX12_judge_nul := fun _ h => (List.mem_cons_of_mem _ (List.mem_append_right _ (List.mem_append_left _ h)))
theorem qfX12_judge_nul : Good vfX12_judge_nul := gd_cons (by decide +kernel) (gd_app (gd_dec (by decide +kernel) : Good [.fieldLink RX12 36 "HookPierModel" "thrown" "I", .methodLink RX12 320 yX12_isAnswer, .instanceMethod yX12_isAnswer, .selects RX12 yX12_isAnswer yX12_isAnswer, .initialized RX12, .methodLink RX12 42 yX12_refused, .instanceMethod yX12_refused, .selects RX12 yX12_refused yX12_refused]) (gd_app qsX12 (gd_app qfX12_isAnswer_nul qfX12_refused_nul)))
theorem gfX12_judge_nul_0 : GoodIn vfX12_judge_nul (wsV RX12 320 RX12 yX12_isAnswer vfX12_isAnswer_nul) := goodIn_app (goodIn_r [.methodLink RX12 320 yX12_isAnswer, .instanceMethod yX12_isAnswer, .selects RX12 yX12_isAnswer yX12_isAnswer, .initialized RX12] [2, 3, 4, 5] rfl (by decide +kernel)) (goodIn_m (fun _ h => (List.mem_cons_of_mem _ (List.mem_append_right _ (List.mem_append_right _ (List.mem_append_left _ h))))) qfX12_isAnswer_nul)
theorem gfX12_judge_nul_1 : GoodIn vfX12_judge_nul (wsV RX12 42 RX12 yX12_refused vfX12_refused_nul) := goodIn_app (goodIn_r [.methodLink RX12 42 yX12_refused, .instanceMethod yX12_refused, .selects RX12 yX12_refused yX12_refused, .initialized RX12] [6, 7, 8, 5] rfl (by decide +kernel)) (goodIn_m (fun _ h => (List.mem_cons_of_mem _ (List.mem_append_right _ (List.mem_append_right _ (List.mem_append_right _ h))))) qfX12_refused_nul)
set_option maxHeartbeats 2000000 in
set_option maxRecDepth 100000 in
theorem kfX12_judge_nul (l : Launch) (dC : Nat → ClassId) (dI : Nat → Nat → Nat) (a0 : Nat) (k1 : Int32) (m_t : TX12_t) (g3 : Value) (g4 : Value) (g5 : Value) (g6 : Value) (g7 : Value) (g8 : Value) (g9 : Value) (g10 : Value) (g11 : Value) (g12 : Value) (g13 : Value) (g14 : Value) (g15 : Value) (g16 : Value) (g17 : Value) (g18 : Value) (g19 : Value) (g20 : Value) (g21 : Value) (g22 : Value) (g23 : Value) (g24 : Value) (g25 : Value) (g26 : Value) (g27 : Value) (g28 : Value) (sz : Nat) (out : TX12_t) (h : f_X12_judge_nul k1 m_t = out) : KCi l yX12_judge vfX12_judge_nul ({ frames := 1, cells := 0, slots := 0, locals := 21 }) (dC, dI) [.ref a0, .int k1] sz ([(a0, .inr (9, [.int m_t.1, .int m_t.2.1, .int m_t.2.2, .null, g3, g4, g5, g6, g7, g8, g9, g10, g11, g12, g13, g14, g15, g16, g17, g18, g19, g20, g21, g22, g23, g24, g25, g26, g27, g28]))]) ([]) (fun (r : Int32) _ => r = (-1)) ([(a0, .inr (9, [.int out.1, .int out.2.1, .int out.2.2, .null, g3, g4, g5, g6, g7, g8, g9, g10, g11, g12, g13, g14, g15, g16, g17, g18, g19, g20, g21, g22, g23, g24, g25, g26, g27, g28]))]) 0 0 := by
  refine Met.ofW (cc := cX12_judge) (maxL := 2) (ret := (some .int)) (by decide) rfl ?_
  intro p e s m args below meth c s₁ B0 hml hv
  obtain ⟨rfl, hsz, hP, hK, hD0, hN⟩ := hv
  have hx := B0.exec
  have hb := B0.bytes
  have hr := B0.returns
  have hts := atoms_spec (ws := vfX12_judge_nul) B0.pre
  have hown : s.vm.findClass RX12 = some m.cls := findClass_of_methodNamed B0.named
  have hlocks := B0.notSynchronized
  subst hsz
  have hD := hD0.self (sz := s.heap.size)
  generalize hAe : va_A ([(a0, .inr (9, [.int m_t.1, .int m_t.2.1, .int m_t.2.2, .null, g3, g4, g5, g6, g7, g8, g9, g10, g11, g12, g13, g14, g15, g16, g17, g18, g19, g20, g21, g22, g23, g24, g25, g26, g27, g28]))]) s.heap.size = A at hD ⊢
  have hA : ∀ q : Nat, s.heap.size ≤ q → A q := fun q h => by rw [← hAe]; exact Or.inr h
  have hS : va_S A s.heap s.heap [] := va_S.rf
  have hP : va_P (dC, dI) vwCl ([(a0, .inr (9, [.int m_t.1, .int m_t.2.1, .int m_t.2.2, .null, g3, g4, g5, g6, g7, g8, g9, g10, g11, g12, g13, g14, g15, g16, g17, g18, g19, g20, g21, g22, g23, g24, g25, g26, g27, g28]))]) s.heap := hP
  have hl := lv_entry ([.ref a0, .int k1]) (n := 2) (Nat.le_of_ble_eq_true rfl)
  rw [lg_entry_eq]
  generalize (lg_sl ([.ref a0, .int k1]) ++ List.replicate (2 - (lg_sl ([.ref a0, .int k1])).length) Slot.unset).toArray = ls at hl ⊢
  have hl : lv_has ls 2 [(0, .ref a0), (1, .int k1)] := hl
  refine W_q (fun QQ hQQ => ?_)
  rw [f_X12_judge_nul] at h
  refine lv_aload_n hx hb (zat zrX12_judge_0_ok 0 rfl) rfl (lv_at hl 0 rfl) ?_
  refine lv_iconst (v := 0) hx hb (zat zrX12_judge_0_ok 1 rfl) (by decide) ?_
  refine va_put (D := (dC, dI)) (ci := 9) (v := .int 0) (ty := .int) (C := RX12) (T := TX12) (N := 30) hx hb hts ifX12_judge_nul_X12 tyX12 tyX12_ok nmX12 hown hK hP hD hS 0 rfl rfl 0 (by decide) (hts (.fieldLink RX12 36 "HookPierModel" "thrown" "I") (List.mem_of_getElem? (i := 1) rfl)) (fun _ h9 => h9) rfl (by decide +kernel) rfl rfl (Nat.le_of_ble_eq_true rfl) (zat zrX12_judge_0_ok 2 rfl) (fun H locs hP hD hS => ?_)
  obtain ⟨hP, hD⟩ := pd_mk ([(a0, .inr (9, [.int 0, .int m_t.2.1, .int m_t.2.2, .null, g3, g4, g5, g6, g7, g8, g9, g10, g11, g12, g13, g14, g15, g16, g17, g18, g19, g20, g21, g22, g23, g24, g25, g26, g27, g28]))]) hP hD
  refine lv_aload_n hx hb (zat zrX12_judge_0_ok 3 rfl) rfl (lv_at hl 0 rfl) ?_
  refine lv_iload_n hx hb (zat zrX12_judge_0_ok 4 rfl) rfl (lv_at hl 1 rfl) ?_
  refine ck_i (wc := ([(a0, .inr (9, [.int 0, .int m_t.2.1, .int m_t.2.2, .null, g3, g4, g5, g6, g7, g8, g9, g10, g11, g12, g13, g14, g15, g16, g17, g18, g19, g20, g21, g22, g23, g24, g25, g26, g27, g28]))])) (wr := []) hP hD hK hS hA [0] [] rfl rfl (by decide) (by decide) (by decide) (fun hPc hDc => (va_runV (As := [.int k1]) (rest := []) ⟨hx, hb, hml, hown, hts⟩ (kfX12_isAnswer_nul l dC dI a0 k1 (.int 0) (.int m_t.2.1) (.int m_t.2.2) (g3) (g4) (g5) (g6) (g7) (g8) (g9) (g10) (g11) (g12) (g13) (g14) (g15) (g16) (g17) (g18) (g19) (g20) (g21) (g22) (g23) (g24) (g25) (g26) (g27) (g28) H.size () rfl) (cwV 1 hts gfX12_judge_nul_0 rfl rfl rfl (by decide +kernel) ⟨(Nat.le_of_ble_eq_true rfl), (Nat.le_of_ble_eq_true rfl)⟩) (PV hPc (hK.sub (tys' := ([])) [] rfl) hDc hN 0 rfl rfl) rfl rfl hl.1 rfl (lv_room (Nat.le_of_ble_eq_true rfl)) (zat zrX12_judge_0_ok 5 rfl) ⟨(Nat.le_of_ble_eq_true rfl), (Nat.le_of_ble_eq_true rfl)⟩)) (fun r7 _ H locs hw hP hD _ hS => ?_)
  obtain ⟨hw, br7⟩ := hw
  obtain rfl := hw
  obtain ⟨hP, hD⟩ := pd_mk ([(a0, .inr (9, [.int 0, .int m_t.2.1, .int m_t.2.2, .null, g3, g4, g5, g6, g7, g8, g9, g10, g11, g12, g13, g14, g15, g16, g17, g18, g19, g20, g21, g22, g23, g24, g25, g26, g27, g28]))]) hP hD
  refine lv_if_ne (tgt := 19) hx hb (zat zrX12_judge_0_ok 6 rfl) (by decide) (fun c10 => absurd c10 (by decide)) (fun _ => ?_)
  refine lv_aload_n hx hb (zat zrX12_judge_0_ok 7 rfl) rfl (lv_at hl 0 rfl) ?_
  refine lv_iconst (v := 1) hx hb (zat zrX12_judge_0_ok 8 rfl) (by decide) ?_
  obtain ⟨o15, eo15⟩ : ∃ o, o = f_X12_refused_nul (1 : Int32) ((0 : Int32), m_t.2) := ⟨_, rfl⟩
  have h := nm_of h o15 eo15
  refine ck_i (wc := ([(a0, .inr (9, [.int 0, .int m_t.2.1, .int m_t.2.2, .null, g3, g4, g5, g6, g7, g8, g9, g10, g11, g12, g13, g14, g15, g16, g17, g18, g19, g20, g21, g22, g23, g24, g25, g26, g27, g28]))])) (wr := []) hP hD hK hS hA [0] [] rfl rfl (by decide) (by decide) (by decide) (fun hPc hDc => (va_runV (As := [.int 1]) (rest := []) ⟨hx, hb, hml, hown, hts⟩ (kfX12_refused_nul l dC dI a0 (1 : Int32) ((0 : Int32), m_t.2) (.null) (g3) (g4) (g5) (g6) (g7) (g8) (g9) (g10) (g11) (g12) (g13) (g14) (g15) (g16) (g17) (g18) (g19) (g20) (g21) (g22) (g23) (g24) (g25) (g26) (g27) (g28) H.size o15 eo15.symm) (cwV 1 hts gfX12_judge_nul_1 rfl rfl rfl (by decide +kernel) ⟨(Nat.le_of_ble_eq_true rfl), (Nat.le_of_ble_eq_true rfl)⟩) (PV hPc (hK.sub (tys' := ([])) [] rfl) hDc hN 0 rfl rfl) rfl rfl hl.1 rfl (lv_room (Nat.le_of_ble_eq_true rfl)) (zat zrX12_judge_0_ok 9 rfl) ⟨(Nat.le_of_ble_eq_true rfl), (Nat.le_of_ble_eq_true rfl)⟩)) (fun r15 _ H locs hw hP hD _ hS => ?_)
  obtain rfl := hw
  obtain ⟨hP, hD⟩ := pd_mk ([(a0, .inr (9, [.int o15.1, .int o15.2.1, .int o15.2.2, .null, g3, g4, g5, g6, g7, g8, g9, g10, g11, g12, g13, g14, g15, g16, g17, g18, g19, g20, g21, g22, g23, g24, g25, g26, g27, g28]))]) hP hD
  obtain rfl := h
  obtain ⟨hP9, hD9⟩ := pd_sub ([(a0, .inr (9, [.int o15.1, .int o15.2.1, .int o15.2.2, .null, g3, g4, g5, g6, g7, g8, g9, g10, g11, g12, g13, g14, g15, g16, g17, g18, g19, g20, g21, g22, g23, g24, g25, g26, g27, g28]))]) [0] hP hD (by decide) rfl
  have hK9 := hK.sub (tys' := []) [] rfl
  rw [hQQ]
  exact W.iret (v := (-1 : Int32)) hx hb hr (fun t ht hW => ⟨⟨(-1 : Int32), (), rfl, rfl, by rw [ht]; exact hP9, va_K.moved hW.alike hK9, hD9⟩, hS.F ht⟩) hS.2.2 (zat zrX12_judge_0_ok 10 rfl)
def vfX12_worth_nul : List Cond := List.cons (.code yX12_worth cX12_worth 4 (some .int)) (apW [.fieldLink RX12 36 "HookPierModel" "thrown" "I", .methodLink RX12 320 yX12_isAnswer, .instanceMethod yX12_isAnswer, .selects RX12 yX12_isAnswer yX12_isAnswer, .initialized RX12, .methodLink RX12 42 yX12_refused, .instanceMethod yX12_refused, .selects RX12 yX12_refused yX12_refused] (apW wsX120 (apW vfX12_isAnswer_nul (vfX12_refused_nul))))
theorem ifX12_worth_nul_X12 : ∀ w ∈ wsX120, w ∈ vfX12_worth_nul := fun _ h => (List.mem_cons_of_mem _ (List.mem_append_right _ (List.mem_append_left _ h)))
theorem qfX12_worth_nul : Good vfX12_worth_nul := gd_cons (by decide +kernel) (gd_app (gd_dec (by decide +kernel) : Good [.fieldLink RX12 36 "HookPierModel" "thrown" "I", .methodLink RX12 320 yX12_isAnswer, .instanceMethod yX12_isAnswer, .selects RX12 yX12_isAnswer yX12_isAnswer, .initialized RX12, .methodLink RX12 42 yX12_refused, .instanceMethod yX12_refused, .selects RX12 yX12_refused yX12_refused]) (gd_app qsX12 (gd_app qfX12_isAnswer_nul qfX12_refused_nul)))
theorem gfX12_worth_nul_0 : GoodIn vfX12_worth_nul (wsV RX12 320 RX12 yX12_isAnswer vfX12_isAnswer_nul) := goodIn_app (goodIn_r [.methodLink RX12 320 yX12_isAnswer, .instanceMethod yX12_isAnswer, .selects RX12 yX12_isAnswer yX12_isAnswer, .initialized RX12] [2, 3, 4, 5] rfl (by decide +kernel)) (goodIn_m (fun _ h => (List.mem_cons_of_mem _ (List.mem_append_right _ (List.mem_append_right _ (List.mem_append_left _ h))))) qfX12_isAnswer_nul)
theorem gfX12_worth_nul_1 : GoodIn vfX12_worth_nul (wsV RX12 42 RX12 yX12_refused vfX12_refused_nul) := goodIn_app (goodIn_r [.methodLink RX12 42 yX12_refused, .instanceMethod yX12_refused, .selects RX12 yX12_refused yX12_refused, .initialized RX12] [6, 7, 8, 5] rfl (by decide +kernel)) (goodIn_m (fun _ h => (List.mem_cons_of_mem _ (List.mem_append_right _ (List.mem_append_right _ (List.mem_append_right _ h))))) qfX12_refused_nul)
set_option maxHeartbeats 2000000 in
set_option maxRecDepth 100000 in
theorem kfX12_worth_nul (l : Launch) (dC : Nat → ClassId) (dI : Nat → Nat → Nat) (a0 : Nat) (k1 : Int32) (k2 : Int32) (k3 : Int32) (m_t : TX12_t) (g5 : Value) (g6 : Value) (g7 : Value) (g8 : Value) (g9 : Value) (g10 : Value) (g11 : Value) (g12 : Value) (g13 : Value) (g14 : Value) (g15 : Value) (g16 : Value) (g17 : Value) (g18 : Value) (g19 : Value) (g20 : Value) (g21 : Value) (g22 : Value) (g23 : Value) (g24 : Value) (g25 : Value) (g26 : Value) (g27 : Value) (g28 : Value) (g29 : Value) (g30 : Value) (sz : Nat) (out : TX12_t) (h : f_X12_worth_nul k1 k2 k3 m_t = out) : KCi l yX12_worth vfX12_worth_nul ({ frames := 1, cells := 0, slots := 0, locals := 21 }) (dC, dI) [.ref a0, .int k1, .int k2, .int k3] sz ([(a0, .inr (9, [.int m_t.1, .int m_t.2.1, .int m_t.2.2, .null, g5, g6, g7, g8, g9, g10, g11, g12, g13, g14, g15, g16, g17, g18, g19, g20, g21, g22, g23, g24, g25, g26, g27, g28, g29, g30]))]) ([]) (fun (r : Int32) _ => r = (-1)) ([(a0, .inr (9, [.int out.1, .int out.2.1, .int out.2.2, .null, g5, g6, g7, g8, g9, g10, g11, g12, g13, g14, g15, g16, g17, g18, g19, g20, g21, g22, g23, g24, g25, g26, g27, g28, g29, g30]))]) 0 0 := by
  refine Met.ofW (cc := cX12_worth) (maxL := 4) (ret := (some .int)) (by decide) rfl ?_
  intro p e s m args below meth c s₁ B0 hml hv
  obtain ⟨rfl, hsz, hP, hK, hD0, hN⟩ := hv
  have hx := B0.exec
  have hb := B0.bytes
  have hr := B0.returns
  have hts := atoms_spec (ws := vfX12_worth_nul) B0.pre
  have hown : s.vm.findClass RX12 = some m.cls := findClass_of_methodNamed B0.named
  have hlocks := B0.notSynchronized
  subst hsz
  have hD := hD0.self (sz := s.heap.size)
  generalize hAe : va_A ([(a0, .inr (9, [.int m_t.1, .int m_t.2.1, .int m_t.2.2, .null, g5, g6, g7, g8, g9, g10, g11, g12, g13, g14, g15, g16, g17, g18, g19, g20, g21, g22, g23, g24, g25, g26, g27, g28, g29, g30]))]) s.heap.size = A at hD ⊢
  have hA : ∀ q : Nat, s.heap.size ≤ q → A q := fun q h => by rw [← hAe]; exact Or.inr h
  have hS : va_S A s.heap s.heap [] := va_S.rf
  have hP : va_P (dC, dI) vwCl ([(a0, .inr (9, [.int m_t.1, .int m_t.2.1, .int m_t.2.2, .null, g5, g6, g7, g8, g9, g10, g11, g12, g13, g14, g15, g16, g17, g18, g19, g20, g21, g22, g23, g24, g25, g26, g27, g28, g29, g30]))]) s.heap := hP
  have hl := lv_entry ([.ref a0, .int k1, .int k2, .int k3]) (n := 4) (Nat.le_of_ble_eq_true rfl)
  rw [lg_entry_eq]
  generalize (lg_sl ([.ref a0, .int k1, .int k2, .int k3]) ++ List.replicate (4 - (lg_sl ([.ref a0, .int k1, .int k2, .int k3])).length) Slot.unset).toArray = ls at hl ⊢
  have hl : lv_has ls 4 [(0, .ref a0), (1, .int k1), (2, .int k2), (3, .int k3)] := hl
  refine W_q (fun QQ hQQ => ?_)
  rw [f_X12_worth_nul] at h
  refine lv_aload_n hx hb (zat zrX12_worth_0_ok 0 rfl) rfl (lv_at hl 0 rfl) ?_
  refine lv_iconst (v := 0) hx hb (zat zrX12_worth_0_ok 1 rfl) (by decide) ?_
  refine va_put (D := (dC, dI)) (ci := 9) (v := .int 0) (ty := .int) (C := RX12) (T := TX12) (N := 30) hx hb hts ifX12_worth_nul_X12 tyX12 tyX12_ok nmX12 hown hK hP hD hS 0 rfl rfl 0 (by decide) (hts (.fieldLink RX12 36 "HookPierModel" "thrown" "I") (List.mem_of_getElem? (i := 1) rfl)) (fun _ h9 => h9) rfl (by decide +kernel) rfl rfl (Nat.le_of_ble_eq_true rfl) (zat zrX12_worth_0_ok 2 rfl) (fun H locs hP hD hS => ?_)
  obtain ⟨hP, hD⟩ := pd_mk ([(a0, .inr (9, [.int 0, .int m_t.2.1, .int m_t.2.2, .null, g5, g6, g7, g8, g9, g10, g11, g12, g13, g14, g15, g16, g17, g18, g19, g20, g21, g22, g23, g24, g25, g26, g27, g28, g29, g30]))]) hP hD
  refine lv_aload_n hx hb (zat zrX12_worth_0_ok 3 rfl) rfl (lv_at hl 0 rfl) ?_
  refine lv_iload_n hx hb (zat zrX12_worth_0_ok 4 rfl) rfl (lv_at hl 1 rfl) ?_
  refine ck_i (wc := ([(a0, .inr (9, [.int 0, .int m_t.2.1, .int m_t.2.2, .null, g5, g6, g7, g8, g9, g10, g11, g12, g13, g14, g15, g16, g17, g18, g19, g20, g21, g22, g23, g24, g25, g26, g27, g28, g29, g30]))])) (wr := []) hP hD hK hS hA [0] [] rfl rfl (by decide) (by decide) (by decide) (fun hPc hDc => (va_runV (As := [.int k1]) (rest := []) ⟨hx, hb, hml, hown, hts⟩ (kfX12_isAnswer_nul l dC dI a0 k1 (.int 0) (.int m_t.2.1) (.int m_t.2.2) (g5) (g6) (g7) (g8) (g9) (g10) (g11) (g12) (g13) (g14) (g15) (g16) (g17) (g18) (g19) (g20) (g21) (g22) (g23) (g24) (g25) (g26) (g27) (g28) (g29) (g30) H.size () rfl) (cwV 1 hts gfX12_worth_nul_0 rfl rfl rfl (by decide +kernel) ⟨(Nat.le_of_ble_eq_true rfl), (Nat.le_of_ble_eq_true rfl)⟩) (PV hPc (hK.sub (tys' := ([])) [] rfl) hDc hN 0 rfl rfl) rfl rfl hl.1 rfl (lv_room (Nat.le_of_ble_eq_true rfl)) (zat zrX12_worth_0_ok 5 rfl) ⟨(Nat.le_of_ble_eq_true rfl), (Nat.le_of_ble_eq_true rfl)⟩)) (fun r7 _ H locs hw hP hD _ hS => ?_)
  obtain ⟨hw, br7⟩ := hw
  obtain rfl := hw
  obtain ⟨hP, hD⟩ := pd_mk ([(a0, .inr (9, [.int 0, .int m_t.2.1, .int m_t.2.2, .null, g5, g6, g7, g8, g9, g10, g11, g12, g13, g14, g15, g16, g17, g18, g19, g20, g21, g22, g23, g24, g25, g26, g27, g28, g29, g30]))]) hP hD
  refine lv_if_ne (tgt := 19) hx hb (zat zrX12_worth_0_ok 6 rfl) (by decide) (fun c10 => absurd c10 (by decide)) (fun _ => ?_)
  refine lv_aload_n hx hb (zat zrX12_worth_0_ok 7 rfl) rfl (lv_at hl 0 rfl) ?_
  refine lv_iconst (v := 1) hx hb (zat zrX12_worth_0_ok 8 rfl) (by decide) ?_
  obtain ⟨o15, eo15⟩ : ∃ o, o = f_X12_refused_nul (1 : Int32) ((0 : Int32), m_t.2) := ⟨_, rfl⟩
  have h := nm_of h o15 eo15
  refine ck_i (wc := ([(a0, .inr (9, [.int 0, .int m_t.2.1, .int m_t.2.2, .null, g5, g6, g7, g8, g9, g10, g11, g12, g13, g14, g15, g16, g17, g18, g19, g20, g21, g22, g23, g24, g25, g26, g27, g28, g29, g30]))])) (wr := []) hP hD hK hS hA [0] [] rfl rfl (by decide) (by decide) (by decide) (fun hPc hDc => (va_runV (As := [.int 1]) (rest := []) ⟨hx, hb, hml, hown, hts⟩ (kfX12_refused_nul l dC dI a0 (1 : Int32) ((0 : Int32), m_t.2) (.null) (g5) (g6) (g7) (g8) (g9) (g10) (g11) (g12) (g13) (g14) (g15) (g16) (g17) (g18) (g19) (g20) (g21) (g22) (g23) (g24) (g25) (g26) (g27) (g28) (g29) (g30) H.size o15 eo15.symm) (cwV 1 hts gfX12_worth_nul_1 rfl rfl rfl (by decide +kernel) ⟨(Nat.le_of_ble_eq_true rfl), (Nat.le_of_ble_eq_true rfl)⟩) (PV hPc (hK.sub (tys' := ([])) [] rfl) hDc hN 0 rfl rfl) rfl rfl hl.1 rfl (lv_room (Nat.le_of_ble_eq_true rfl)) (zat zrX12_worth_0_ok 9 rfl) ⟨(Nat.le_of_ble_eq_true rfl), (Nat.le_of_ble_eq_true rfl)⟩)) (fun r15 _ H locs hw hP hD _ hS => ?_)
  obtain rfl := hw
  obtain ⟨hP, hD⟩ := pd_mk ([(a0, .inr (9, [.int o15.1, .int o15.2.1, .int o15.2.2, .null, g5, g6, g7, g8, g9, g10, g11, g12, g13, g14, g15, g16, g17, g18, g19, g20, g21, g22, g23, g24, g25, g26, g27, g28, g29, g30]))]) hP hD
  obtain rfl := h
  obtain ⟨hP9, hD9⟩ := pd_sub ([(a0, .inr (9, [.int o15.1, .int o15.2.1, .int o15.2.2, .null, g5, g6, g7, g8, g9, g10, g11, g12, g13, g14, g15, g16, g17, g18, g19, g20, g21, g22, g23, g24, g25, g26, g27, g28, g29, g30]))]) [0] hP hD (by decide) rfl
  have hK9 := hK.sub (tys' := []) [] rfl
  rw [hQQ]
  exact W.iret (v := (-1 : Int32)) hx hb hr (fun t ht hW => ⟨⟨(-1 : Int32), (), rfl, rfl, by rw [ht]; exact hP9, va_K.moved hW.alike hK9, hD9⟩, hS.F ht⟩) hS.2.2 (zat zrX12_worth_0_ok 10 rfl)
noncomputable def zrX12_refusesLoad_0b : List ZR := zc 0 false (.nop) 7 (zc 7 true (.iconst 1) 1 (zc 8 true (.goto 18) 3 ([])))
theorem zrX12_refusesLoad_0b_ok : zck 0 ((zby cX12_refusesLoad).drop 0) zrX12_refusesLoad_0b = true := by decide +kernel
def vfX12_refusesLoad_nul : List Cond := List.cons (.code yX12_refusesLoad cX12_refusesLoad 2 (some .int)) (apW [.fieldLink RX12 299 "HookPierModel" "pier" "LHookPierModel$Pier;"] (wsX120))
theorem ifX12_refusesLoad_nul_X12 : ∀ w ∈ wsX120, w ∈ vfX12_refusesLoad_nul := fun _ h => (List.mem_cons_of_mem _ (List.mem_append_right _ h))
theorem qfX12_refusesLoad_nul : Good vfX12_refusesLoad_nul := gd_cons (by decide +kernel) (gd_app (gd_dec (by decide +kernel) : Good [.fieldLink RX12 299 "HookPierModel" "pier" "LHookPierModel$Pier;"]) qsX12)
set_option maxHeartbeats 2000000 in
set_option maxRecDepth 100000 in
theorem kfX12_refusesLoad_nul (l : Launch) (dC : Nat → ClassId) (dI : Nat → Nat → Nat) (a0 : Nat) (k1 : Int32) (g2 : Value) (g3 : Value) (g4 : Value) (g5 : Value) (g6 : Value) (g7 : Value) (g8 : Value) (g9 : Value) (g10 : Value) (g11 : Value) (g12 : Value) (g13 : Value) (g14 : Value) (g15 : Value) (g16 : Value) (g17 : Value) (g18 : Value) (g19 : Value) (g20 : Value) (g21 : Value) (g22 : Value) (g23 : Value) (g24 : Value) (g25 : Value) (g26 : Value) (g27 : Value) (g28 : Value) (g29 : Value) (g30 : Value) (sz : Nat) (out : Unit) (h : f_X12_refusesLoad_nul k1 = out) : KDi l yX12_refusesLoad vfX12_refusesLoad_nul ({ frames := 0, cells := 0, slots := 0, locals := 0 }) (dC, dI) [.ref a0, .int k1] sz ([(a0, .inr (9, [g2, g3, g4, .null, g5, g6, g7, g8, g9, g10, g11, g12, g13, g14, g15, g16, g17, g18, g19, g20, g21, g22, g23, g24, g25, g26, g27, g28, g29, g30]))]) ([]) (fun (r : Int32) _ => r = 1) 0 0 := by
  refine Met.ofW (cc := cX12_refusesLoad) (maxL := 2) (ret := (some .int)) (by decide) rfl ?_
  intro p e s m args below meth c s₁ B0 hml hv
  obtain ⟨rfl, hsz, hP, hK, hD0, hN⟩ := hv
  have hx := B0.exec
  have hb := B0.bytes
  have hr := B0.returns
  have hts := atoms_spec (ws := vfX12_refusesLoad_nul) B0.pre
  have hown : s.vm.findClass RX12 = some m.cls := findClass_of_methodNamed B0.named
  have hlocks := B0.notSynchronized
  subst hsz
  have hD := hD0.self (sz := s.heap.size)
  generalize hAe : va_A ([(a0, .inr (9, [g2, g3, g4, .null, g5, g6, g7, g8, g9, g10, g11, g12, g13, g14, g15, g16, g17, g18, g19, g20, g21, g22, g23, g24, g25, g26, g27, g28, g29, g30]))]) s.heap.size = A at hD ⊢
  have hA : ∀ q : Nat, s.heap.size ≤ q → A q := fun q h => by rw [← hAe]; exact Or.inr h
  have hS : va_S A s.heap s.heap [] := va_S.rf
  have hP : va_P (dC, dI) vwCl ([(a0, .inr (9, [g2, g3, g4, .null, g5, g6, g7, g8, g9, g10, g11, g12, g13, g14, g15, g16, g17, g18, g19, g20, g21, g22, g23, g24, g25, g26, g27, g28, g29, g30]))]) s.heap := hP
  have hl := lv_entry ([.ref a0, .int k1]) (n := 2) (Nat.le_of_ble_eq_true rfl)
  rw [lg_entry_eq]
  generalize (lg_sl ([.ref a0, .int k1]) ++ List.replicate (2 - (lg_sl ([.ref a0, .int k1])).length) Slot.unset).toArray = ls at hl ⊢
  have hl : lv_has ls 2 [(0, .ref a0), (1, .int k1)] := hl
  refine W_q (fun QQ hQQ => ?_)
  rw [f_X12_refusesLoad_nul] at h
  refine lv_aload_n hx hb (zat zrX12_refusesLoad_0_ok 0 rfl) rfl (lv_at hl 0 rfl) ?_
  refine va_get (D := (dC, dI)) (ci := 9) (v := .null) (C := RX12) (T := TX12) (N := 30) hx hb hts ifX12_refusesLoad_nul_X12 hown hK hP 0 rfl rfl 3 (by decide) (hts (.fieldLink RX12 299 "HookPierModel" "pier" "LHookPierModel$Pier;") (List.mem_of_getElem? (i := 1) rfl)) (fun _ h9 => h9) rfl (zat zrX12_refusesLoad_0_ok 1 rfl) ?_
  refine lv_ifnonnullN hx hb (zat zrX12_refusesLoad_0_ok 2 rfl) ?_
  refine lv_iconst (v := 1) hx hb (zat zrX12_refusesLoad_0b_ok 1 rfl) (by decide) ?_
  refine lv_goto (tgt := 26) hx hb (zat zrX12_refusesLoad_0b_ok 2 rfl) (by decide) ?_
  obtain ⟨hP9, hD9⟩ := pd_sub ([(a0, .inr (9, [g2, g3, g4, .null, g5, g6, g7, g8, g9, g10, g11, g12, g13, g14, g15, g16, g17, g18, g19, g20, g21, g22, g23, g24, g25, g26, g27, g28, g29, g30]))]) [0] hP hD (by decide) rfl
  have hK9 := hK.sub (tys' := []) [] rfl
  rw [hQQ]
  exact W.iret (v := (1 : Int32)) hx hb hr (fun t ht hW => ⟨⟨(1 : Int32), (), rfl, rfl, by rw [ht]; exact hP9, va_K.moved hW.alike hK9, hD9⟩, hS.F ht⟩) hS.2.2 (zat zrX12_refusesLoad_0_ok 12 rfl)
def vfX12_load_nul : List Cond := List.cons (.code yX12_load cX12_load 3 (some .int)) (apW [.fieldLink RX12 36 "HookPierModel" "thrown" "I", .methodLink RX12 445 yX12_refusesLoad, .instanceMethod yX12_refusesLoad, .selects RX12 yX12_refusesLoad yX12_refusesLoad, .initialized RX12, .methodLink RX12 42 yX12_refused, .instanceMethod yX12_refused, .selects RX12 yX12_refused yX12_refused] (apW wsX120 (apW vfX12_refusesLoad_nul (vfX12_refused_nul))))
theorem ifX12_load_nul_X12 : ∀ w ∈ wsX120, w ∈ vfX12_load_nul := fun _ h => (List.mem_cons_of_mem _ (List.mem_append_right _ (List.mem_append_left _ h)))
theorem qfX12_load_nul : Good vfX12_load_nul := gd_cons (by decide +kernel) (gd_app (gd_dec (by decide +kernel) : Good [.fieldLink RX12 36 "HookPierModel" "thrown" "I", .methodLink RX12 445 yX12_refusesLoad, .instanceMethod yX12_refusesLoad, .selects RX12 yX12_refusesLoad yX12_refusesLoad, .initialized RX12, .methodLink RX12 42 yX12_refused, .instanceMethod yX12_refused, .selects RX12 yX12_refused yX12_refused]) (gd_app qsX12 (gd_app qfX12_refusesLoad_nul qfX12_refused_nul)))
theorem gfX12_load_nul_0 : GoodIn vfX12_load_nul (wsV RX12 445 RX12 yX12_refusesLoad vfX12_refusesLoad_nul) := goodIn_app (goodIn_r [.methodLink RX12 445 yX12_refusesLoad, .instanceMethod yX12_refusesLoad, .selects RX12 yX12_refusesLoad yX12_refusesLoad, .initialized RX12] [2, 3, 4, 5] rfl (by decide +kernel)) (goodIn_m (fun _ h => (List.mem_cons_of_mem _ (List.mem_append_right _ (List.mem_append_right _ (List.mem_append_left _ h))))) qfX12_refusesLoad_nul)
theorem gfX12_load_nul_1 : GoodIn vfX12_load_nul (wsV RX12 42 RX12 yX12_refused vfX12_refused_nul) := goodIn_app (goodIn_r [.methodLink RX12 42 yX12_refused, .instanceMethod yX12_refused, .selects RX12 yX12_refused yX12_refused, .initialized RX12] [6, 7, 8, 5] rfl (by decide +kernel)) (goodIn_m (fun _ h => (List.mem_cons_of_mem _ (List.mem_append_right _ (List.mem_append_right _ (List.mem_append_right _ h))))) qfX12_refused_nul)
set_option maxHeartbeats 2000000 in
set_option maxRecDepth 100000 in
theorem kfX12_load_nul (l : Launch) (dC : Nat → ClassId) (dI : Nat → Nat → Nat) (a0 : Nat) (k1 : Int32) (m_t : TX12_t) (g3 : Value) (g4 : Value) (g5 : Value) (g6 : Value) (g7 : Value) (g8 : Value) (g9 : Value) (g10 : Value) (g11 : Value) (g12 : Value) (g13 : Value) (g14 : Value) (g15 : Value) (g16 : Value) (g17 : Value) (g18 : Value) (g19 : Value) (g20 : Value) (g21 : Value) (g22 : Value) (g23 : Value) (g24 : Value) (g25 : Value) (g26 : Value) (g27 : Value) (g28 : Value) (sz : Nat) (out : TX12_t) (h : f_X12_load_nul k1 m_t = out) : KCi l yX12_load vfX12_load_nul ({ frames := 1, cells := 0, slots := 0, locals := 21 }) (dC, dI) [.ref a0, .int k1] sz ([(a0, .inr (9, [.int m_t.1, .int m_t.2.1, .int m_t.2.2, .null, g3, g4, g5, g6, g7, g8, g9, g10, g11, g12, g13, g14, g15, g16, g17, g18, g19, g20, g21, g22, g23, g24, g25, g26, g27, g28]))]) ([]) (fun (r : Int32) _ => r = (-1)) ([(a0, .inr (9, [.int out.1, .int out.2.1, .int out.2.2, .null, g3, g4, g5, g6, g7, g8, g9, g10, g11, g12, g13, g14, g15, g16, g17, g18, g19, g20, g21, g22, g23, g24, g25, g26, g27, g28]))]) 0 0 := by
  refine Met.ofW (cc := cX12_load) (maxL := 3) (ret := (some .int)) (by decide) rfl ?_
  intro p e s m args below meth c s₁ B0 hml hv
  obtain ⟨rfl, hsz, hP, hK, hD0, hN⟩ := hv
  have hx := B0.exec
  have hb := B0.bytes
  have hr := B0.returns
  have hts := atoms_spec (ws := vfX12_load_nul) B0.pre
  have hown : s.vm.findClass RX12 = some m.cls := findClass_of_methodNamed B0.named
  have hlocks := B0.notSynchronized
  subst hsz
  have hD := hD0.self (sz := s.heap.size)
  generalize hAe : va_A ([(a0, .inr (9, [.int m_t.1, .int m_t.2.1, .int m_t.2.2, .null, g3, g4, g5, g6, g7, g8, g9, g10, g11, g12, g13, g14, g15, g16, g17, g18, g19, g20, g21, g22, g23, g24, g25, g26, g27, g28]))]) s.heap.size = A at hD ⊢
  have hA : ∀ q : Nat, s.heap.size ≤ q → A q := fun q h => by rw [← hAe]; exact Or.inr h
  have hS : va_S A s.heap s.heap [] := va_S.rf
  have hP : va_P (dC, dI) vwCl ([(a0, .inr (9, [.int m_t.1, .int m_t.2.1, .int m_t.2.2, .null, g3, g4, g5, g6, g7, g8, g9, g10, g11, g12, g13, g14, g15, g16, g17, g18, g19, g20, g21, g22, g23, g24, g25, g26, g27, g28]))]) s.heap := hP
  have hl := lv_entry ([.ref a0, .int k1]) (n := 3) (Nat.le_of_ble_eq_true rfl)
  rw [lg_entry_eq]
  generalize (lg_sl ([.ref a0, .int k1]) ++ List.replicate (3 - (lg_sl ([.ref a0, .int k1])).length) Slot.unset).toArray = ls at hl ⊢
  have hl : lv_has ls 3 [(0, .ref a0), (1, .int k1)] := hl
  refine W_q (fun QQ hQQ => ?_)
  rw [f_X12_load_nul] at h
  refine lv_aload_n hx hb (zat zrX12_load_0_ok 0 rfl) rfl (lv_at hl 0 rfl) ?_
  refine lv_iconst (v := 0) hx hb (zat zrX12_load_0_ok 1 rfl) (by decide) ?_
  refine va_put (D := (dC, dI)) (ci := 9) (v := .int 0) (ty := .int) (C := RX12) (T := TX12) (N := 30) hx hb hts ifX12_load_nul_X12 tyX12 tyX12_ok nmX12 hown hK hP hD hS 0 rfl rfl 0 (by decide) (hts (.fieldLink RX12 36 "HookPierModel" "thrown" "I") (List.mem_of_getElem? (i := 1) rfl)) (fun _ h9 => h9) rfl (by decide +kernel) rfl rfl (Nat.le_of_ble_eq_true rfl) (zat zrX12_load_0_ok 2 rfl) (fun H locs hP hD hS => ?_)
  obtain ⟨hP, hD⟩ := pd_mk ([(a0, .inr (9, [.int 0, .int m_t.2.1, .int m_t.2.2, .null, g3, g4, g5, g6, g7, g8, g9, g10, g11, g12, g13, g14, g15, g16, g17, g18, g19, g20, g21, g22, g23, g24, g25, g26, g27, g28]))]) hP hD
  refine lv_aload_n hx hb (zat zrX12_load_0_ok 3 rfl) rfl (lv_at hl 0 rfl) ?_
  refine lv_iload_n hx hb (zat zrX12_load_0_ok 4 rfl) rfl (lv_at hl 1 rfl) ?_
  refine ck_i (wc := ([(a0, .inr (9, [.int 0, .int m_t.2.1, .int m_t.2.2, .null, g3, g4, g5, g6, g7, g8, g9, g10, g11, g12, g13, g14, g15, g16, g17, g18, g19, g20, g21, g22, g23, g24, g25, g26, g27, g28]))])) (wr := []) hP hD hK hS hA [0] [] rfl rfl (by decide) (by decide) (by decide) (fun hPc hDc => (va_runV (As := [.int k1]) (rest := []) ⟨hx, hb, hml, hown, hts⟩ (kfX12_refusesLoad_nul l dC dI a0 k1 (.int 0) (.int m_t.2.1) (.int m_t.2.2) (g3) (g4) (g5) (g6) (g7) (g8) (g9) (g10) (g11) (g12) (g13) (g14) (g15) (g16) (g17) (g18) (g19) (g20) (g21) (g22) (g23) (g24) (g25) (g26) (g27) (g28) H.size () rfl) (cwV 1 hts gfX12_load_nul_0 rfl rfl rfl (by decide +kernel) ⟨(Nat.le_of_ble_eq_true rfl), (Nat.le_of_ble_eq_true rfl)⟩) (PV hPc (hK.sub (tys' := ([])) [] rfl) hDc hN 0 rfl rfl) rfl rfl hl.1 rfl (lv_room (Nat.le_of_ble_eq_true rfl)) (zat zrX12_load_0_ok 5 rfl) ⟨(Nat.le_of_ble_eq_true rfl), (Nat.le_of_ble_eq_true rfl)⟩)) (fun r7 _ H locs hw hP hD _ hS => ?_)
  obtain rfl := hw
  obtain ⟨hP, hD⟩ := pd_mk ([(a0, .inr (9, [.int 0, .int m_t.2.1, .int m_t.2.2, .null, g3, g4, g5, g6, g7, g8, g9, g10, g11, g12, g13, g14, g15, g16, g17, g18, g19, g20, g21, g22, g23, g24, g25, g26, g27, g28]))]) hP hD
  refine lv_istore_n (lv' := [(2, .int 1), (0, .ref a0), (1, .int k1)]) hx hb (zat zrX12_load_0_ok 6 rfl) rfl hl (by decide) rfl (fun ls hl => ?_)
  refine lv_iload_n hx hb (zat zrX12_load_0_ok 7 rfl) rfl (lv_at hl 0 rfl) ?_
  refine lv_if_le (tgt := 21) hx hb (zat zrX12_load_0_ok 8 rfl) (by decide) (fun c12 => absurd c12 (by decide)) (fun _ => ?_)
  refine lv_aload_n hx hb (zat zrX12_load_0_ok 9 rfl) rfl (lv_at hl 1 rfl) ?_
  refine lv_iload_n hx hb (zat zrX12_load_0_ok 10 rfl) rfl (lv_at hl 0 rfl) ?_
  obtain ⟨o17, eo17⟩ : ∃ o, o = f_X12_refused_nul (1 : Int32) ((0 : Int32), m_t.2) := ⟨_, rfl⟩
  have h := nm_of h o17 eo17
  refine ck_i (wc := ([(a0, .inr (9, [.int 0, .int m_t.2.1, .int m_t.2.2, .null, g3, g4, g5, g6, g7, g8, g9, g10, g11, g12, g13, g14, g15, g16, g17, g18, g19, g20, g21, g22, g23, g24, g25, g26, g27, g28]))])) (wr := []) hP hD hK hS hA [0] [] rfl rfl (by decide) (by decide) (by decide) (fun hPc hDc => (va_runV (As := [.int 1]) (rest := []) ⟨hx, hb, hml, hown, hts⟩ (kfX12_refused_nul l dC dI a0 (1 : Int32) ((0 : Int32), m_t.2) (.null) (g3) (g4) (g5) (g6) (g7) (g8) (g9) (g10) (g11) (g12) (g13) (g14) (g15) (g16) (g17) (g18) (g19) (g20) (g21) (g22) (g23) (g24) (g25) (g26) (g27) (g28) H.size o17 eo17.symm) (cwV 1 hts gfX12_load_nul_1 rfl rfl rfl (by decide +kernel) ⟨(Nat.le_of_ble_eq_true rfl), (Nat.le_of_ble_eq_true rfl)⟩) (PV hPc (hK.sub (tys' := ([])) [] rfl) hDc hN 0 rfl rfl) rfl rfl hl.1 rfl (lv_room (Nat.le_of_ble_eq_true rfl)) (zat zrX12_load_0_ok 11 rfl) ⟨(Nat.le_of_ble_eq_true rfl), (Nat.le_of_ble_eq_true rfl)⟩)) (fun r17 _ H locs hw hP hD _ hS => ?_)
  obtain rfl := hw
  obtain ⟨hP, hD⟩ := pd_mk ([(a0, .inr (9, [.int o17.1, .int o17.2.1, .int o17.2.2, .null, g3, g4, g5, g6, g7, g8, g9, g10, g11, g12, g13, g14, g15, g16, g17, g18, g19, g20, g21, g22, g23, g24, g25, g26, g27, g28]))]) hP hD
  obtain rfl := h
  obtain ⟨hP9, hD9⟩ := pd_sub ([(a0, .inr (9, [.int o17.1, .int o17.2.1, .int o17.2.2, .null, g3, g4, g5, g6, g7, g8, g9, g10, g11, g12, g13, g14, g15, g16, g17, g18, g19, g20, g21, g22, g23, g24, g25, g26, g27, g28]))]) [0] hP hD (by decide) rfl
  have hK9 := hK.sub (tys' := []) [] rfl
  rw [hQQ]
  exact W.iret (v := (-1 : Int32)) hx hb hr (fun t ht hW => ⟨⟨(-1 : Int32), (), rfl, rfl, by rw [ht]; exact hP9, va_K.moved hW.alike hK9, hD9⟩, hS.F ht⟩) hS.2.2 (zat zrX12_load_0_ok 12 rfl)
def vfX12_loadWorth_nul : List Cond := List.cons (.code yX12_loadWorth cX12_loadWorth 3 (some .int)) (apW [.fieldLink RX12 36 "HookPierModel" "thrown" "I", .methodLink RX12 445 yX12_refusesLoad, .instanceMethod yX12_refusesLoad, .selects RX12 yX12_refusesLoad yX12_refusesLoad, .initialized RX12, .methodLink RX12 42 yX12_refused, .instanceMethod yX12_refused, .selects RX12 yX12_refused yX12_refused] (apW wsX120 (apW vfX12_refusesLoad_nul (vfX12_refused_nul))))
theorem ifX12_loadWorth_nul_X12 : ∀ w ∈ wsX120, w ∈ vfX12_loadWorth_nul := fun _ h => (List.mem_cons_of_mem _ (List.mem_append_right _ (List.mem_append_left _ h)))
theorem qfX12_loadWorth_nul : Good vfX12_loadWorth_nul := gd_cons (by decide +kernel) (gd_app (gd_dec (by decide +kernel) : Good [.fieldLink RX12 36 "HookPierModel" "thrown" "I", .methodLink RX12 445 yX12_refusesLoad, .instanceMethod yX12_refusesLoad, .selects RX12 yX12_refusesLoad yX12_refusesLoad, .initialized RX12, .methodLink RX12 42 yX12_refused, .instanceMethod yX12_refused, .selects RX12 yX12_refused yX12_refused]) (gd_app qsX12 (gd_app qfX12_refusesLoad_nul qfX12_refused_nul)))
theorem gfX12_loadWorth_nul_0 : GoodIn vfX12_loadWorth_nul (wsV RX12 445 RX12 yX12_refusesLoad vfX12_refusesLoad_nul) := goodIn_app (goodIn_r [.methodLink RX12 445 yX12_refusesLoad, .instanceMethod yX12_refusesLoad, .selects RX12 yX12_refusesLoad yX12_refusesLoad, .initialized RX12] [2, 3, 4, 5] rfl (by decide +kernel)) (goodIn_m (fun _ h => (List.mem_cons_of_mem _ (List.mem_append_right _ (List.mem_append_right _ (List.mem_append_left _ h))))) qfX12_refusesLoad_nul)
theorem gfX12_loadWorth_nul_1 : GoodIn vfX12_loadWorth_nul (wsV RX12 42 RX12 yX12_refused vfX12_refused_nul) := goodIn_app (goodIn_r [.methodLink RX12 42 yX12_refused, .instanceMethod yX12_refused, .selects RX12 yX12_refused yX12_refused, .initialized RX12] [6, 7, 8, 5] rfl (by decide +kernel)) (goodIn_m (fun _ h => (List.mem_cons_of_mem _ (List.mem_append_right _ (List.mem_append_right _ (List.mem_append_right _ h))))) qfX12_refused_nul)
set_option maxHeartbeats 2000000 in
set_option maxRecDepth 100000 in
theorem kfX12_loadWorth_nul (l : Launch) (dC : Nat → ClassId) (dI : Nat → Nat → Nat) (a0 : Nat) (k1 : Int32) (m_t : TX12_t) (g3 : Value) (g4 : Value) (g5 : Value) (g6 : Value) (g7 : Value) (g8 : Value) (g9 : Value) (g10 : Value) (g11 : Value) (g12 : Value) (g13 : Value) (g14 : Value) (g15 : Value) (g16 : Value) (g17 : Value) (g18 : Value) (g19 : Value) (g20 : Value) (g21 : Value) (g22 : Value) (g23 : Value) (g24 : Value) (g25 : Value) (g26 : Value) (g27 : Value) (g28 : Value) (sz : Nat) (out : TX12_t) (h : f_X12_loadWorth_nul k1 m_t = out) : KCi l yX12_loadWorth vfX12_loadWorth_nul ({ frames := 1, cells := 0, slots := 0, locals := 21 }) (dC, dI) [.ref a0, .int k1] sz ([(a0, .inr (9, [.int m_t.1, .int m_t.2.1, .int m_t.2.2, .null, g3, g4, g5, g6, g7, g8, g9, g10, g11, g12, g13, g14, g15, g16, g17, g18, g19, g20, g21, g22, g23, g24, g25, g26, g27, g28]))]) ([]) (fun (r : Int32) _ => r = (-1)) ([(a0, .inr (9, [.int out.1, .int out.2.1, .int out.2.2, .null, g3, g4, g5, g6, g7, g8, g9, g10, g11, g12, g13, g14, g15, g16, g17, g18, g19, g20, g21, g22, g23, g24, g25, g26, g27, g28]))]) 0 0 := by
  refine Met.ofW (cc := cX12_loadWorth) (maxL := 3) (ret := (some .int)) (by decide) rfl ?_
  intro p e s m args below meth c s₁ B0 hml hv
  obtain ⟨rfl, hsz, hP, hK, hD0, hN⟩ := hv
  have hx := B0.exec
  have hb := B0.bytes
  have hr := B0.returns
  have hts := atoms_spec (ws := vfX12_loadWorth_nul) B0.pre
  have hown : s.vm.findClass RX12 = some m.cls := findClass_of_methodNamed B0.named
  have hlocks := B0.notSynchronized
  subst hsz
  have hD := hD0.self (sz := s.heap.size)
  generalize hAe : va_A ([(a0, .inr (9, [.int m_t.1, .int m_t.2.1, .int m_t.2.2, .null, g3, g4, g5, g6, g7, g8, g9, g10, g11, g12, g13, g14, g15, g16, g17, g18, g19, g20, g21, g22, g23, g24, g25, g26, g27, g28]))]) s.heap.size = A at hD ⊢
  have hA : ∀ q : Nat, s.heap.size ≤ q → A q := fun q h => by rw [← hAe]; exact Or.inr h
  have hS : va_S A s.heap s.heap [] := va_S.rf
  have hP : va_P (dC, dI) vwCl ([(a0, .inr (9, [.int m_t.1, .int m_t.2.1, .int m_t.2.2, .null, g3, g4, g5, g6, g7, g8, g9, g10, g11, g12, g13, g14, g15, g16, g17, g18, g19, g20, g21, g22, g23, g24, g25, g26, g27, g28]))]) s.heap := hP
  have hl := lv_entry ([.ref a0, .int k1]) (n := 3) (Nat.le_of_ble_eq_true rfl)
  rw [lg_entry_eq]
  generalize (lg_sl ([.ref a0, .int k1]) ++ List.replicate (3 - (lg_sl ([.ref a0, .int k1])).length) Slot.unset).toArray = ls at hl ⊢
  have hl : lv_has ls 3 [(0, .ref a0), (1, .int k1)] := hl
  refine W_q (fun QQ hQQ => ?_)
  rw [f_X12_loadWorth_nul] at h
  refine lv_aload_n hx hb (zat zrX12_loadWorth_0_ok 0 rfl) rfl (lv_at hl 0 rfl) ?_
  refine lv_iconst (v := 0) hx hb (zat zrX12_loadWorth_0_ok 1 rfl) (by decide) ?_
  refine va_put (D := (dC, dI)) (ci := 9) (v := .int 0) (ty := .int) (C := RX12) (T := TX12) (N := 30) hx hb hts ifX12_loadWorth_nul_X12 tyX12 tyX12_ok nmX12 hown hK hP hD hS 0 rfl rfl 0 (by decide) (hts (.fieldLink RX12 36 "HookPierModel" "thrown" "I") (List.mem_of_getElem? (i := 1) rfl)) (fun _ h9 => h9) rfl (by decide +kernel) rfl rfl (Nat.le_of_ble_eq_true rfl) (zat zrX12_loadWorth_0_ok 2 rfl) (fun H locs hP hD hS => ?_)
  obtain ⟨hP, hD⟩ := pd_mk ([(a0, .inr (9, [.int 0, .int m_t.2.1, .int m_t.2.2, .null, g3, g4, g5, g6, g7, g8, g9, g10, g11, g12, g13, g14, g15, g16, g17, g18, g19, g20, g21, g22, g23, g24, g25, g26, g27, g28]))]) hP hD
  refine lv_aload_n hx hb (zat zrX12_loadWorth_0_ok 3 rfl) rfl (lv_at hl 0 rfl) ?_
  refine lv_iload_n hx hb (zat zrX12_loadWorth_0_ok 4 rfl) rfl (lv_at hl 1 rfl) ?_
  refine ck_i (wc := ([(a0, .inr (9, [.int 0, .int m_t.2.1, .int m_t.2.2, .null, g3, g4, g5, g6, g7, g8, g9, g10, g11, g12, g13, g14, g15, g16, g17, g18, g19, g20, g21, g22, g23, g24, g25, g26, g27, g28]))])) (wr := []) hP hD hK hS hA [0] [] rfl rfl (by decide) (by decide) (by decide) (fun hPc hDc => (va_runV (As := [.int k1]) (rest := []) ⟨hx, hb, hml, hown, hts⟩ (kfX12_refusesLoad_nul l dC dI a0 k1 (.int 0) (.int m_t.2.1) (.int m_t.2.2) (g3) (g4) (g5) (g6) (g7) (g8) (g9) (g10) (g11) (g12) (g13) (g14) (g15) (g16) (g17) (g18) (g19) (g20) (g21) (g22) (g23) (g24) (g25) (g26) (g27) (g28) H.size () rfl) (cwV 1 hts gfX12_loadWorth_nul_0 rfl rfl rfl (by decide +kernel) ⟨(Nat.le_of_ble_eq_true rfl), (Nat.le_of_ble_eq_true rfl)⟩) (PV hPc (hK.sub (tys' := ([])) [] rfl) hDc hN 0 rfl rfl) rfl rfl hl.1 rfl (lv_room (Nat.le_of_ble_eq_true rfl)) (zat zrX12_loadWorth_0_ok 5 rfl) ⟨(Nat.le_of_ble_eq_true rfl), (Nat.le_of_ble_eq_true rfl)⟩)) (fun r7 _ H locs hw hP hD _ hS => ?_)
  obtain rfl := hw
  obtain ⟨hP, hD⟩ := pd_mk ([(a0, .inr (9, [.int 0, .int m_t.2.1, .int m_t.2.2, .null, g3, g4, g5, g6, g7, g8, g9, g10, g11, g12, g13, g14, g15, g16, g17, g18, g19, g20, g21, g22, g23, g24, g25, g26, g27, g28]))]) hP hD
  refine lv_istore_n (lv' := [(2, .int 1), (0, .ref a0), (1, .int k1)]) hx hb (zat zrX12_loadWorth_0_ok 6 rfl) rfl hl (by decide) rfl (fun ls hl => ?_)
  refine lv_iload_n hx hb (zat zrX12_loadWorth_0_ok 7 rfl) rfl (lv_at hl 0 rfl) ?_
  refine lv_if_le (tgt := 21) hx hb (zat zrX12_loadWorth_0_ok 8 rfl) (by decide) (fun c12 => absurd c12 (by decide)) (fun _ => ?_)
  refine lv_aload_n hx hb (zat zrX12_loadWorth_0_ok 9 rfl) rfl (lv_at hl 1 rfl) ?_
  refine lv_iload_n hx hb (zat zrX12_loadWorth_0_ok 10 rfl) rfl (lv_at hl 0 rfl) ?_
  obtain ⟨o17, eo17⟩ : ∃ o, o = f_X12_refused_nul (1 : Int32) ((0 : Int32), m_t.2) := ⟨_, rfl⟩
  have h := nm_of h o17 eo17
  refine ck_i (wc := ([(a0, .inr (9, [.int 0, .int m_t.2.1, .int m_t.2.2, .null, g3, g4, g5, g6, g7, g8, g9, g10, g11, g12, g13, g14, g15, g16, g17, g18, g19, g20, g21, g22, g23, g24, g25, g26, g27, g28]))])) (wr := []) hP hD hK hS hA [0] [] rfl rfl (by decide) (by decide) (by decide) (fun hPc hDc => (va_runV (As := [.int 1]) (rest := []) ⟨hx, hb, hml, hown, hts⟩ (kfX12_refused_nul l dC dI a0 (1 : Int32) ((0 : Int32), m_t.2) (.null) (g3) (g4) (g5) (g6) (g7) (g8) (g9) (g10) (g11) (g12) (g13) (g14) (g15) (g16) (g17) (g18) (g19) (g20) (g21) (g22) (g23) (g24) (g25) (g26) (g27) (g28) H.size o17 eo17.symm) (cwV 1 hts gfX12_loadWorth_nul_1 rfl rfl rfl (by decide +kernel) ⟨(Nat.le_of_ble_eq_true rfl), (Nat.le_of_ble_eq_true rfl)⟩) (PV hPc (hK.sub (tys' := ([])) [] rfl) hDc hN 0 rfl rfl) rfl rfl hl.1 rfl (lv_room (Nat.le_of_ble_eq_true rfl)) (zat zrX12_loadWorth_0_ok 11 rfl) ⟨(Nat.le_of_ble_eq_true rfl), (Nat.le_of_ble_eq_true rfl)⟩)) (fun r17 _ H locs hw hP hD _ hS => ?_)
  obtain rfl := hw
  obtain ⟨hP, hD⟩ := pd_mk ([(a0, .inr (9, [.int o17.1, .int o17.2.1, .int o17.2.2, .null, g3, g4, g5, g6, g7, g8, g9, g10, g11, g12, g13, g14, g15, g16, g17, g18, g19, g20, g21, g22, g23, g24, g25, g26, g27, g28]))]) hP hD
  obtain rfl := h
  obtain ⟨hP9, hD9⟩ := pd_sub ([(a0, .inr (9, [.int o17.1, .int o17.2.1, .int o17.2.2, .null, g3, g4, g5, g6, g7, g8, g9, g10, g11, g12, g13, g14, g15, g16, g17, g18, g19, g20, g21, g22, g23, g24, g25, g26, g27, g28]))]) [0] hP hD (by decide) rfl
  have hK9 := hK.sub (tys' := []) [] rfl
  rw [hQQ]
  exact W.iret (v := (-1 : Int32)) hx hb hr (fun t ht hW => ⟨⟨(-1 : Int32), (), rfl, rfl, by rw [ht]; exact hP9, va_K.moved hW.alike hK9, hD9⟩, hS.F ht⟩) hS.2.2 (zat zrX12_loadWorth_0_ok 12 rfl)
noncomputable def zrX12_bestDay_0b : List ZR := zc 0 false (.nop) 12 (zc 12 true (.aload_n 0) 1 (zc 13 true (.iconst 1) 1 (zc 14 true (.invokevirtual 42) 3 (zc 17 true (.ireturn) 1 ([])))))
theorem zrX12_bestDay_0b_ok : zck 0 ((zby cX12_bestDay).drop 0) zrX12_bestDay_0b = true := by decide +kernel
def vfX12_bestDay_nul : List Cond := List.cons (.code yX12_bestDay cX12_bestDay 6 (some .int)) (apW [.fieldLink RX12 36 "HookPierModel" "thrown" "I", .fieldLink RX12 299 "HookPierModel" "pier" "LHookPierModel$Pier;", .methodLink RX12 42 yX12_refused, .instanceMethod yX12_refused, .selects RX12 yX12_refused yX12_refused, .initialized RX12] (apW wsX120 (vfX12_refused_nul)))
theorem ifX12_bestDay_nul_X12 : ∀ w ∈ wsX120, w ∈ vfX12_bestDay_nul := fun _ h => (List.mem_cons_of_mem _ (List.mem_append_right _ (List.mem_append_left _ h)))
theorem qfX12_bestDay_nul : Good vfX12_bestDay_nul := gd_cons (by decide +kernel) (gd_app (gd_dec (by decide +kernel) : Good [.fieldLink RX12 36 "HookPierModel" "thrown" "I", .fieldLink RX12 299 "HookPierModel" "pier" "LHookPierModel$Pier;", .methodLink RX12 42 yX12_refused, .instanceMethod yX12_refused, .selects RX12 yX12_refused yX12_refused, .initialized RX12]) (gd_app qsX12 qfX12_refused_nul))
theorem gfX12_bestDay_nul_0 : GoodIn vfX12_bestDay_nul (wsV RX12 42 RX12 yX12_refused vfX12_refused_nul) := goodIn_app (goodIn_r [.methodLink RX12 42 yX12_refused, .instanceMethod yX12_refused, .selects RX12 yX12_refused yX12_refused, .initialized RX12] [3, 4, 5, 6] rfl (by decide +kernel)) (goodIn_m (fun _ h => (List.mem_cons_of_mem _ (List.mem_append_right _ (List.mem_append_right _ h)))) qfX12_refused_nul)
set_option maxHeartbeats 2000000 in
set_option maxRecDepth 100000 in
theorem kfX12_bestDay_nul (l : Launch) (dC : Nat → ClassId) (dI : Nat → Nat → Nat) (a0 : Nat) (m_t : TX12_t) (g2 : Value) (g3 : Value) (g4 : Value) (g5 : Value) (g6 : Value) (g7 : Value) (g8 : Value) (g9 : Value) (g10 : Value) (g11 : Value) (g12 : Value) (g13 : Value) (g14 : Value) (g15 : Value) (g16 : Value) (g17 : Value) (g18 : Value) (g19 : Value) (g20 : Value) (g21 : Value) (g22 : Value) (g23 : Value) (g24 : Value) (g25 : Value) (g26 : Value) (g27 : Value) (sz : Nat) (out : TX12_t) (h : f_X12_bestDay_nul m_t = out) : KCi l yX12_bestDay vfX12_bestDay_nul ({ frames := 1, cells := 0, slots := 0, locals := 21 }) (dC, dI) [.ref a0] sz ([(a0, .inr (9, [.int m_t.1, .int m_t.2.1, .int m_t.2.2, .null, g2, g3, g4, g5, g6, g7, g8, g9, g10, g11, g12, g13, g14, g15, g16, g17, g18, g19, g20, g21, g22, g23, g24, g25, g26, g27]))]) ([]) (fun (r : Int32) _ => r = (-1)) ([(a0, .inr (9, [.int out.1, .int out.2.1, .int out.2.2, .null, g2, g3, g4, g5, g6, g7, g8, g9, g10, g11, g12, g13, g14, g15, g16, g17, g18, g19, g20, g21, g22, g23, g24, g25, g26, g27]))]) 0 0 := by
  refine Met.ofW (cc := cX12_bestDay) (maxL := 6) (ret := (some .int)) (by decide) rfl ?_
  intro p e s m args below meth c s₁ B0 hml hv
  obtain ⟨rfl, hsz, hP, hK, hD0, hN⟩ := hv
  have hx := B0.exec
  have hb := B0.bytes
  have hr := B0.returns
  have hts := atoms_spec (ws := vfX12_bestDay_nul) B0.pre
  have hown : s.vm.findClass RX12 = some m.cls := findClass_of_methodNamed B0.named
  have hlocks := B0.notSynchronized
  subst hsz
  have hD := hD0.self (sz := s.heap.size)
  generalize hAe : va_A ([(a0, .inr (9, [.int m_t.1, .int m_t.2.1, .int m_t.2.2, .null, g2, g3, g4, g5, g6, g7, g8, g9, g10, g11, g12, g13, g14, g15, g16, g17, g18, g19, g20, g21, g22, g23, g24, g25, g26, g27]))]) s.heap.size = A at hD ⊢
  have hA : ∀ q : Nat, s.heap.size ≤ q → A q := fun q h => by rw [← hAe]; exact Or.inr h
  have hS : va_S A s.heap s.heap [] := va_S.rf
  have hP : va_P (dC, dI) vwCl ([(a0, .inr (9, [.int m_t.1, .int m_t.2.1, .int m_t.2.2, .null, g2, g3, g4, g5, g6, g7, g8, g9, g10, g11, g12, g13, g14, g15, g16, g17, g18, g19, g20, g21, g22, g23, g24, g25, g26, g27]))]) s.heap := hP
  have hl := lv_entry ([.ref a0]) (n := 6) (Nat.le_of_ble_eq_true rfl)
  rw [lg_entry_eq]
  generalize (lg_sl ([.ref a0]) ++ List.replicate (6 - (lg_sl ([.ref a0])).length) Slot.unset).toArray = ls at hl ⊢
  have hl : lv_has ls 6 [(0, .ref a0)] := hl
  refine W_q (fun QQ hQQ => ?_)
  rw [f_X12_bestDay_nul] at h
  refine lv_aload_n hx hb (zat zrX12_bestDay_0_ok 0 rfl) rfl (lv_at hl 0 rfl) ?_
  refine lv_iconst (v := 0) hx hb (zat zrX12_bestDay_0_ok 1 rfl) (by decide) ?_
  refine va_put (D := (dC, dI)) (ci := 9) (v := .int 0) (ty := .int) (C := RX12) (T := TX12) (N := 30) hx hb hts ifX12_bestDay_nul_X12 tyX12 tyX12_ok nmX12 hown hK hP hD hS 0 rfl rfl 0 (by decide) (hts (.fieldLink RX12 36 "HookPierModel" "thrown" "I") (List.mem_of_getElem? (i := 1) rfl)) (fun _ h9 => h9) rfl (by decide +kernel) rfl rfl (Nat.le_of_ble_eq_true rfl) (zat zrX12_bestDay_0_ok 2 rfl) (fun H locs hP hD hS => ?_)
  obtain ⟨hP, hD⟩ := pd_mk ([(a0, .inr (9, [.int 0, .int m_t.2.1, .int m_t.2.2, .null, g2, g3, g4, g5, g6, g7, g8, g9, g10, g11, g12, g13, g14, g15, g16, g17, g18, g19, g20, g21, g22, g23, g24, g25, g26, g27]))]) hP hD
  refine lv_aload_n hx hb (zat zrX12_bestDay_0_ok 3 rfl) rfl (lv_at hl 0 rfl) ?_
  refine va_get (D := (dC, dI)) (ci := 9) (v := .null) (C := RX12) (T := TX12) (N := 30) hx hb hts ifX12_bestDay_nul_X12 hown hK hP 0 rfl rfl 3 (by decide) (hts (.fieldLink RX12 299 "HookPierModel" "pier" "LHookPierModel$Pier;") (List.mem_of_getElem? (i := 2) rfl)) (fun _ h9 => h9) rfl (zat zrX12_bestDay_0_ok 4 rfl) ?_
  refine lv_ifnonnullN hx hb (zat zrX12_bestDay_0_ok 5 rfl) ?_
  refine lv_aload_n hx hb (zat zrX12_bestDay_0b_ok 1 rfl) rfl (lv_at hl 0 rfl) ?_
  refine lv_iconst (v := 1) hx hb (zat zrX12_bestDay_0b_ok 2 rfl) (by decide) ?_
  obtain ⟨o14, eo14⟩ : ∃ o, o = f_X12_refused_nul (1 : Int32) ((0 : Int32), m_t.2) := ⟨_, rfl⟩
  have h := nm_of h o14 eo14
  refine ck_i (wc := ([(a0, .inr (9, [.int 0, .int m_t.2.1, .int m_t.2.2, .null, g2, g3, g4, g5, g6, g7, g8, g9, g10, g11, g12, g13, g14, g15, g16, g17, g18, g19, g20, g21, g22, g23, g24, g25, g26, g27]))])) (wr := []) hP hD hK hS hA [0] [] rfl rfl (by decide) (by decide) (by decide) (fun hPc hDc => (va_runV (As := [.int 1]) (rest := []) ⟨hx, hb, hml, hown, hts⟩ (kfX12_refused_nul l dC dI a0 (1 : Int32) ((0 : Int32), m_t.2) (.null) (g2) (g3) (g4) (g5) (g6) (g7) (g8) (g9) (g10) (g11) (g12) (g13) (g14) (g15) (g16) (g17) (g18) (g19) (g20) (g21) (g22) (g23) (g24) (g25) (g26) (g27) H.size o14 eo14.symm) (cwV 1 hts gfX12_bestDay_nul_0 rfl rfl rfl (by decide +kernel) ⟨(Nat.le_of_ble_eq_true rfl), (Nat.le_of_ble_eq_true rfl)⟩) (PV hPc (hK.sub (tys' := ([])) [] rfl) hDc hN 0 rfl rfl) rfl rfl hl.1 rfl (lv_room (Nat.le_of_ble_eq_true rfl)) (zat zrX12_bestDay_0b_ok 3 rfl) ⟨(Nat.le_of_ble_eq_true rfl), (Nat.le_of_ble_eq_true rfl)⟩)) (fun r14 _ H locs hw hP hD _ hS => ?_)
  obtain rfl := hw
  obtain ⟨hP, hD⟩ := pd_mk ([(a0, .inr (9, [.int o14.1, .int o14.2.1, .int o14.2.2, .null, g2, g3, g4, g5, g6, g7, g8, g9, g10, g11, g12, g13, g14, g15, g16, g17, g18, g19, g20, g21, g22, g23, g24, g25, g26, g27]))]) hP hD
  obtain rfl := h
  obtain ⟨hP9, hD9⟩ := pd_sub ([(a0, .inr (9, [.int o14.1, .int o14.2.1, .int o14.2.2, .null, g2, g3, g4, g5, g6, g7, g8, g9, g10, g11, g12, g13, g14, g15, g16, g17, g18, g19, g20, g21, g22, g23, g24, g25, g26, g27]))]) [0] hP hD (by decide) rfl
  have hK9 := hK.sub (tys' := []) [] rfl
  rw [hQQ]
  exact W.iret (v := (-1 : Int32)) hx hb hr (fun t ht hW => ⟨⟨(-1 : Int32), (), rfl, rfl, by rw [ht]; exact hP9, va_K.moved hW.alike hK9, hD9⟩, hS.F ht⟩) hS.2.2 (zat zrX12_bestDay_0b_ok 4 rfl)
def vfX12_hooks_nul : List Cond := List.cons (.code yX12_hooks cX12_hooks 11 (some .int)) (apW [.fieldLink RX12 36 "HookPierModel" "thrown" "I", .methodLink RX12 320 yX12_isAnswer, .instanceMethod yX12_isAnswer, .selects RX12 yX12_isAnswer yX12_isAnswer, .initialized RX12, .methodLink RX12 42 yX12_refused, .instanceMethod yX12_refused, .selects RX12 yX12_refused yX12_refused] (apW wsX120 (apW vfX12_isAnswer_nul (vfX12_refused_nul))))
theorem ifX12_hooks_nul_X12 : ∀ w ∈ wsX120, w ∈ vfX12_hooks_nul := fun _ h => (List.mem_cons_of_mem _ (List.mem_append_right _ (List.mem_append_left _ h)))
theorem qfX12_hooks_nul : Good vfX12_hooks_nul := gd_cons (by decide +kernel) (gd_app (gd_dec (by decide +kernel) : Good [.fieldLink RX12 36 "HookPierModel" "thrown" "I", .methodLink RX12 320 yX12_isAnswer, .instanceMethod yX12_isAnswer, .selects RX12 yX12_isAnswer yX12_isAnswer, .initialized RX12, .methodLink RX12 42 yX12_refused, .instanceMethod yX12_refused, .selects RX12 yX12_refused yX12_refused]) (gd_app qsX12 (gd_app qfX12_isAnswer_nul qfX12_refused_nul)))
theorem gfX12_hooks_nul_0 : GoodIn vfX12_hooks_nul (wsV RX12 320 RX12 yX12_isAnswer vfX12_isAnswer_nul) := goodIn_app (goodIn_r [.methodLink RX12 320 yX12_isAnswer, .instanceMethod yX12_isAnswer, .selects RX12 yX12_isAnswer yX12_isAnswer, .initialized RX12] [2, 3, 4, 5] rfl (by decide +kernel)) (goodIn_m (fun _ h => (List.mem_cons_of_mem _ (List.mem_append_right _ (List.mem_append_right _ (List.mem_append_left _ h))))) qfX12_isAnswer_nul)
theorem gfX12_hooks_nul_1 : GoodIn vfX12_hooks_nul (wsV RX12 42 RX12 yX12_refused vfX12_refused_nul) := goodIn_app (goodIn_r [.methodLink RX12 42 yX12_refused, .instanceMethod yX12_refused, .selects RX12 yX12_refused yX12_refused, .initialized RX12] [6, 7, 8, 5] rfl (by decide +kernel)) (goodIn_m (fun _ h => (List.mem_cons_of_mem _ (List.mem_append_right _ (List.mem_append_right _ (List.mem_append_right _ h))))) qfX12_refused_nul)
set_option maxHeartbeats 2000000 in
set_option maxRecDepth 100000 in
theorem kfX12_hooks_nul (l : Launch) (dC : Nat → ClassId) (dI : Nat → Nat → Nat) (a0 : Nat) (k1 : Int32) (k2 : Int32) (k3 : Int32) (k4 : Int32) (k5 : Int32) (m_t : TX12_t) (g7 : Value) (g8 : Value) (g9 : Value) (g10 : Value) (g11 : Value) (g12 : Value) (g13 : Value) (g14 : Value) (g15 : Value) (g16 : Value) (g17 : Value) (g18 : Value) (g19 : Value) (g20 : Value) (g21 : Value) (g22 : Value) (g23 : Value) (g24 : Value) (g25 : Value) (g26 : Value) (g27 : Value) (g28 : Value) (g29 : Value) (g30 : Value) (g31 : Value) (g32 : Value) (sz : Nat) (out : TX12_t) (h : f_X12_hooks_nul k1 k2 k3 k4 k5 m_t = out) : KCi l yX12_hooks vfX12_hooks_nul ({ frames := 1, cells := 0, slots := 0, locals := 21 }) (dC, dI) [.ref a0, .int k1, .int k2, .int k3, .int k4, .int k5] sz ([(a0, .inr (9, [.int m_t.1, .int m_t.2.1, .int m_t.2.2, .null, g7, g8, g9, g10, g11, g12, g13, g14, g15, g16, g17, g18, g19, g20, g21, g22, g23, g24, g25, g26, g27, g28, g29, g30, g31, g32]))]) ([]) (fun (r : Int32) _ => r = (-1)) ([(a0, .inr (9, [.int out.1, .int out.2.1, .int out.2.2, .null, g7, g8, g9, g10, g11, g12, g13, g14, g15, g16, g17, g18, g19, g20, g21, g22, g23, g24, g25, g26, g27, g28, g29, g30, g31, g32]))]) 0 0 := by
  refine Met.ofW (cc := cX12_hooks) (maxL := 11) (ret := (some .int)) (by decide) rfl ?_
  intro p e s m args below meth c s₁ B0 hml hv
  obtain ⟨rfl, hsz, hP, hK, hD0, hN⟩ := hv
  have hx := B0.exec
  have hb := B0.bytes
  have hr := B0.returns
  have hts := atoms_spec (ws := vfX12_hooks_nul) B0.pre
  have hown : s.vm.findClass RX12 = some m.cls := findClass_of_methodNamed B0.named
  have hlocks := B0.notSynchronized
  subst hsz
  have hD := hD0.self (sz := s.heap.size)
  generalize hAe : va_A ([(a0, .inr (9, [.int m_t.1, .int m_t.2.1, .int m_t.2.2, .null, g7, g8, g9, g10, g11, g12, g13, g14, g15, g16, g17, g18, g19, g20, g21, g22, g23, g24, g25, g26, g27, g28, g29, g30, g31, g32]))]) s.heap.size = A at hD ⊢
  have hA : ∀ q : Nat, s.heap.size ≤ q → A q := fun q h => by rw [← hAe]; exact Or.inr h
  have hS : va_S A s.heap s.heap [] := va_S.rf
  have hP : va_P (dC, dI) vwCl ([(a0, .inr (9, [.int m_t.1, .int m_t.2.1, .int m_t.2.2, .null, g7, g8, g9, g10, g11, g12, g13, g14, g15, g16, g17, g18, g19, g20, g21, g22, g23, g24, g25, g26, g27, g28, g29, g30, g31, g32]))]) s.heap := hP
  have hl := lv_entry ([.ref a0, .int k1, .int k2, .int k3, .int k4, .int k5]) (n := 11) (Nat.le_of_ble_eq_true rfl)
  rw [lg_entry_eq]
  generalize (lg_sl ([.ref a0, .int k1, .int k2, .int k3, .int k4, .int k5]) ++ List.replicate (11 - (lg_sl ([.ref a0, .int k1, .int k2, .int k3, .int k4, .int k5])).length) Slot.unset).toArray = ls at hl ⊢
  have hl : lv_has ls 11 [(0, .ref a0), (1, .int k1), (2, .int k2), (3, .int k3), (4, .int k4), (5, .int k5)] := hl
  refine W_q (fun QQ hQQ => ?_)
  rw [f_X12_hooks_nul] at h
  refine lv_aload_n hx hb (zat zrX12_hooks_0_ok 0 rfl) rfl (lv_at hl 0 rfl) ?_
  refine lv_iconst (v := 0) hx hb (zat zrX12_hooks_0_ok 1 rfl) (by decide) ?_
  refine va_put (D := (dC, dI)) (ci := 9) (v := .int 0) (ty := .int) (C := RX12) (T := TX12) (N := 30) hx hb hts ifX12_hooks_nul_X12 tyX12 tyX12_ok nmX12 hown hK hP hD hS 0 rfl rfl 0 (by decide) (hts (.fieldLink RX12 36 "HookPierModel" "thrown" "I") (List.mem_of_getElem? (i := 1) rfl)) (fun _ h9 => h9) rfl (by decide +kernel) rfl rfl (Nat.le_of_ble_eq_true rfl) (zat zrX12_hooks_0_ok 2 rfl) (fun H locs hP hD hS => ?_)
  obtain ⟨hP, hD⟩ := pd_mk ([(a0, .inr (9, [.int 0, .int m_t.2.1, .int m_t.2.2, .null, g7, g8, g9, g10, g11, g12, g13, g14, g15, g16, g17, g18, g19, g20, g21, g22, g23, g24, g25, g26, g27, g28, g29, g30, g31, g32]))]) hP hD
  refine lv_aload_n hx hb (zat zrX12_hooks_0_ok 3 rfl) rfl (lv_at hl 0 rfl) ?_
  refine lv_iload_n hx hb (zat zrX12_hooks_0_ok 4 rfl) rfl (lv_at hl 1 rfl) ?_
  refine ck_i (wc := ([(a0, .inr (9, [.int 0, .int m_t.2.1, .int m_t.2.2, .null, g7, g8, g9, g10, g11, g12, g13, g14, g15, g16, g17, g18, g19, g20, g21, g22, g23, g24, g25, g26, g27, g28, g29, g30, g31, g32]))])) (wr := []) hP hD hK hS hA [0] [] rfl rfl (by decide) (by decide) (by decide) (fun hPc hDc => (va_runV (As := [.int k1]) (rest := []) ⟨hx, hb, hml, hown, hts⟩ (kfX12_isAnswer_nul l dC dI a0 k1 (.int 0) (.int m_t.2.1) (.int m_t.2.2) (g7) (g8) (g9) (g10) (g11) (g12) (g13) (g14) (g15) (g16) (g17) (g18) (g19) (g20) (g21) (g22) (g23) (g24) (g25) (g26) (g27) (g28) (g29) (g30) (g31) (g32) H.size () rfl) (cwV 1 hts gfX12_hooks_nul_0 rfl rfl rfl (by decide +kernel) ⟨(Nat.le_of_ble_eq_true rfl), (Nat.le_of_ble_eq_true rfl)⟩) (PV hPc (hK.sub (tys' := ([])) [] rfl) hDc hN 0 rfl rfl) rfl rfl hl.1 rfl (lv_room (Nat.le_of_ble_eq_true rfl)) (zat zrX12_hooks_0_ok 5 rfl) ⟨(Nat.le_of_ble_eq_true rfl), (Nat.le_of_ble_eq_true rfl)⟩)) (fun r7 _ H locs hw hP hD _ hS => ?_)
  obtain ⟨hw, br7⟩ := hw
  obtain rfl := hw
  obtain ⟨hP, hD⟩ := pd_mk ([(a0, .inr (9, [.int 0, .int m_t.2.1, .int m_t.2.2, .null, g7, g8, g9, g10, g11, g12, g13, g14, g15, g16, g17, g18, g19, g20, g21, g22, g23, g24, g25, g26, g27, g28, g29, g30, g31, g32]))]) hP hD
  refine lv_if_eq (tgt := 34) hx hb (zat zrX12_hooks_0_ok 6 rfl) (by decide) (fun _ => ?_) (fun c10 => absurd c10 (by decide))
  refine lv_aload_n hx hb (zat zrX12_hooks_0_ok 18 rfl) rfl (lv_at hl 0 rfl) ?_
  refine lv_iconst (v := 1) hx hb (zat zrX12_hooks_0_ok 19 rfl) (by decide) ?_
  obtain ⟨o36, eo36⟩ : ∃ o, o = f_X12_refused_nul (1 : Int32) ((0 : Int32), m_t.2) := ⟨_, rfl⟩
  have h := nm_of h o36 eo36
  refine ck_i (wc := ([(a0, .inr (9, [.int 0, .int m_t.2.1, .int m_t.2.2, .null, g7, g8, g9, g10, g11, g12, g13, g14, g15, g16, g17, g18, g19, g20, g21, g22, g23, g24, g25, g26, g27, g28, g29, g30, g31, g32]))])) (wr := []) hP hD hK hS hA [0] [] rfl rfl (by decide) (by decide) (by decide) (fun hPc hDc => (va_runV (As := [.int 1]) (rest := []) ⟨hx, hb, hml, hown, hts⟩ (kfX12_refused_nul l dC dI a0 (1 : Int32) ((0 : Int32), m_t.2) (.null) (g7) (g8) (g9) (g10) (g11) (g12) (g13) (g14) (g15) (g16) (g17) (g18) (g19) (g20) (g21) (g22) (g23) (g24) (g25) (g26) (g27) (g28) (g29) (g30) (g31) (g32) H.size o36 eo36.symm) (cwV 1 hts gfX12_hooks_nul_1 rfl rfl rfl (by decide +kernel) ⟨(Nat.le_of_ble_eq_true rfl), (Nat.le_of_ble_eq_true rfl)⟩) (PV hPc (hK.sub (tys' := ([])) [] rfl) hDc hN 0 rfl rfl) rfl rfl hl.1 rfl (lv_room (Nat.le_of_ble_eq_true rfl)) (zat zrX12_hooks_0_ok 20 rfl) ⟨(Nat.le_of_ble_eq_true rfl), (Nat.le_of_ble_eq_true rfl)⟩)) (fun r36 _ H locs hw hP hD _ hS => ?_)
  obtain rfl := hw
  obtain ⟨hP, hD⟩ := pd_mk ([(a0, .inr (9, [.int o36.1, .int o36.2.1, .int o36.2.2, .null, g7, g8, g9, g10, g11, g12, g13, g14, g15, g16, g17, g18, g19, g20, g21, g22, g23, g24, g25, g26, g27, g28, g29, g30, g31, g32]))]) hP hD
  obtain rfl := h
  obtain ⟨hP9, hD9⟩ := pd_sub ([(a0, .inr (9, [.int o36.1, .int o36.2.1, .int o36.2.2, .null, g7, g8, g9, g10, g11, g12, g13, g14, g15, g16, g17, g18, g19, g20, g21, g22, g23, g24, g25, g26, g27, g28, g29, g30, g31, g32]))]) [0] hP hD (by decide) rfl
  have hK9 := hK.sub (tys' := []) [] rfl
  rw [hQQ]
  exact W.iret (v := (-1 : Int32)) hx hb hr (fun t ht hW => ⟨⟨(-1 : Int32), (), rfl, rfl, by rw [ht]; exact hP9, va_K.moved hW.alike hK9, hD9⟩, hS.F ht⟩) hS.2.2 (zat zrX12_hooks_0_ok 21 rfl)
def vfX12_lost_nul : List Cond := List.cons (.code yX12_lost cX12_lost 2 (some .int)) (apW [.methodLink RX12 42 yX12_refused, .instanceMethod yX12_refused, .selects RX12 yX12_refused yX12_refused, .initialized RX12] (vfX12_refused))
theorem qfX12_lost_nul : Good vfX12_lost_nul := gd_cons (by decide +kernel) (gd_app (gd_dec (by decide +kernel) : Good [.methodLink RX12 42 yX12_refused, .instanceMethod yX12_refused, .selects RX12 yX12_refused yX12_refused, .initialized RX12]) qfX12_refused)
theorem gfX12_lost_nul_0 : GoodIn vfX12_lost_nul (wsV RX12 42 RX12 yX12_refused vfX12_refused) := goodIn_app (goodIn_r [.methodLink RX12 42 yX12_refused, .instanceMethod yX12_refused, .selects RX12 yX12_refused yX12_refused, .initialized RX12] [1, 2, 3, 4] rfl (by decide +kernel)) (goodIn_m (fun _ h => (List.mem_cons_of_mem _ (List.mem_append_right _ h))) qfX12_refused)
set_option maxHeartbeats 2000000 in
set_option maxRecDepth 100000 in
theorem kfX12_lost_nul (l : Launch) (dC : Nat → ClassId) (dI : Nat → Nat → Nat) (a0 : Nat) (k1 : Int32) (m_t : TX12_t) (g3 : Value) (g4 : Value) (g5 : Value) (g6 : Value) (g7 : Value) (g8 : Value) (g9 : Value) (g10 : Value) (g11 : Value) (g12 : Value) (g13 : Value) (g14 : Value) (g15 : Value) (g16 : Value) (g17 : Value) (g18 : Value) (g19 : Value) (g20 : Value) (g21 : Value) (g22 : Value) (g23 : Value) (g24 : Value) (g25 : Value) (g26 : Value) (g27 : Value) (g28 : Value) (g29 : Value) (sz : Nat) (out : TX12_t) (h : f_X12_lost_nul k1 m_t = out) : KCi l yX12_lost vfX12_lost_nul ({ frames := 1, cells := 0, slots := 0, locals := 21 }) (dC, dI) [.ref a0, .int k1] sz ([(a0, .inr (9, [.int m_t.1, .int m_t.2.1, .int m_t.2.2, g3, g4, g5, g6, g7, g8, g9, g10, g11, g12, g13, g14, g15, g16, g17, g18, g19, g20, g21, g22, g23, g24, g25, g26, g27, g28, g29]))]) ([]) (fun (r : Int32) _ => r = (-100)) ([(a0, .inr (9, [.int out.1, .int out.2.1, .int out.2.2, g3, g4, g5, g6, g7, g8, g9, g10, g11, g12, g13, g14, g15, g16, g17, g18, g19, g20, g21, g22, g23, g24, g25, g26, g27, g28, g29]))]) 0 0 := by
  refine Met.ofW (cc := cX12_lost) (maxL := 2) (ret := (some .int)) (by decide) rfl ?_
  intro p e s m args below meth c s₁ B0 hml hv
  obtain ⟨rfl, hsz, hP, hK, hD0, hN⟩ := hv
  have hx := B0.exec
  have hb := B0.bytes
  have hr := B0.returns
  have hts := atoms_spec (ws := vfX12_lost_nul) B0.pre
  have hown : s.vm.findClass RX12 = some m.cls := findClass_of_methodNamed B0.named
  have hlocks := B0.notSynchronized
  subst hsz
  have hD := hD0.self (sz := s.heap.size)
  generalize hAe : va_A ([(a0, .inr (9, [.int m_t.1, .int m_t.2.1, .int m_t.2.2, g3, g4, g5, g6, g7, g8, g9, g10, g11, g12, g13, g14, g15, g16, g17, g18, g19, g20, g21, g22, g23, g24, g25, g26, g27, g28, g29]))]) s.heap.size = A at hD ⊢
  have hA : ∀ q : Nat, s.heap.size ≤ q → A q := fun q h => by rw [← hAe]; exact Or.inr h
  have hS : va_S A s.heap s.heap [] := va_S.rf
  have hP : va_P (dC, dI) vwCl ([(a0, .inr (9, [.int m_t.1, .int m_t.2.1, .int m_t.2.2, g3, g4, g5, g6, g7, g8, g9, g10, g11, g12, g13, g14, g15, g16, g17, g18, g19, g20, g21, g22, g23, g24, g25, g26, g27, g28, g29]))]) s.heap := hP
  have hl := lv_entry ([.ref a0, .int k1]) (n := 2) (Nat.le_of_ble_eq_true rfl)
  rw [lg_entry_eq]
  generalize (lg_sl ([.ref a0, .int k1]) ++ List.replicate (2 - (lg_sl ([.ref a0, .int k1])).length) Slot.unset).toArray = ls at hl ⊢
  have hl : lv_has ls 2 [(0, .ref a0), (1, .int k1)] := hl
  refine W_q (fun QQ hQQ => ?_)
  rw [f_X12_lost_nul] at h
  refine lv_aload_n hx hb (zat zrX12_lost_0_ok 0 rfl) rfl (lv_at hl 0 rfl) ?_
  refine lv_iload_n hx hb (zat zrX12_lost_0_ok 1 rfl) rfl (lv_at hl 1 rfl) ?_
  obtain ⟨o2, eo2⟩ : ∃ o, o = f_X12_refused k1 m_t := ⟨_, rfl⟩
  have h := nm_of h o2 eo2
  refine ck_i (wc := ([(a0, .inr (9, [.int m_t.1, .int m_t.2.1, .int m_t.2.2, g3, g4, g5, g6, g7, g8, g9, g10, g11, g12, g13, g14, g15, g16, g17, g18, g19, g20, g21, g22, g23, g24, g25, g26, g27, g28, g29]))])) (wr := []) hP hD hK hS hA [0] [] rfl rfl (by decide) (by decide) (by decide) (fun hPc hDc => (va_runV (As := [.int k1]) (rest := []) ⟨hx, hb, hml, hown, hts⟩ (kfX12_refused l dC dI a0 k1 m_t (g3) (g4) (g5) (g6) (g7) (g8) (g9) (g10) (g11) (g12) (g13) (g14) (g15) (g16) (g17) (g18) (g19) (g20) (g21) (g22) (g23) (g24) (g25) (g26) (g27) (g28) (g29) s.heap.size o2 eo2.symm) (cwV 1 hts gfX12_lost_nul_0 rfl rfl rfl (by decide +kernel) ⟨(Nat.le_of_ble_eq_true rfl), (Nat.le_of_ble_eq_true rfl)⟩) (PV hPc (hK.sub (tys' := ([])) [] rfl) hDc hN 0 rfl rfl) rfl rfl hl.1 rfl (lv_room (Nat.le_of_ble_eq_true rfl)) (zat zrX12_lost_0_ok 2 rfl) ⟨(Nat.le_of_ble_eq_true rfl), (Nat.le_of_ble_eq_true rfl)⟩)) (fun r2 _ H locs hw hP hD _ hS => ?_)
  obtain rfl := hw
  obtain ⟨hP, hD⟩ := pd_mk ([(a0, .inr (9, [.int o2.1, .int o2.2.1, .int o2.2.2, g3, g4, g5, g6, g7, g8, g9, g10, g11, g12, g13, g14, g15, g16, g17, g18, g19, g20, g21, g22, g23, g24, g25, g26, g27, g28, g29]))]) hP hD
  refine lv_pop hx hb (zat zrX12_lost_0_ok 3 rfl) rfl ?_
  refine lv_bipush (v := (-100)) hx hb (zat zrX12_lost_0_ok 4 rfl) (by decide) ?_
  obtain rfl := h
  obtain ⟨hP9, hD9⟩ := pd_sub ([(a0, .inr (9, [.int o2.1, .int o2.2.1, .int o2.2.2, g3, g4, g5, g6, g7, g8, g9, g10, g11, g12, g13, g14, g15, g16, g17, g18, g19, g20, g21, g22, g23, g24, g25, g26, g27, g28, g29]))]) [0] hP hD (by decide) rfl
  have hK9 := hK.sub (tys' := []) [] rfl
  rw [hQQ]
  exact W.iret (v := (-100 : Int32)) hx hb hr (fun t ht hW => ⟨⟨(-100 : Int32), (), rfl, rfl, by rw [ht]; exact hP9, va_K.moved hW.alike hK9, hD9⟩, hS.F ht⟩) hS.2.2 (zat zrX12_lost_0_ok 5 rfl)
noncomputable def zrX12_lines_0b : List ZR := zc 0 false (.nop) 12 (zc 12 true (.aload_n 0) 1 (zc 13 true (.iconst 1) 1 (zc 14 true (.invokevirtual 451) 3 (zc 17 true (.ireturn) 1 ([])))))
theorem zrX12_lines_0b_ok : zck 0 ((zby cX12_lines).drop 0) zrX12_lines_0b = true := by decide +kernel
def vfX12_lines_nul : List Cond := List.cons (.code yX12_lines cX12_lines 5 (some .int)) (apW [.fieldLink RX12 36 "HookPierModel" "thrown" "I", .fieldLink RX12 299 "HookPierModel" "pier" "LHookPierModel$Pier;", .methodLink RX12 451 yX12_lost, .instanceMethod yX12_lost, .selects RX12 yX12_lost yX12_lost, .initialized RX12] (apW wsX120 (vfX12_lost_nul)))
theorem ifX12_lines_nul_X12 : ∀ w ∈ wsX120, w ∈ vfX12_lines_nul := fun _ h => (List.mem_cons_of_mem _ (List.mem_append_right _ (List.mem_append_left _ h)))
theorem qfX12_lines_nul : Good vfX12_lines_nul := gd_cons (by decide +kernel) (gd_app (gd_dec (by decide +kernel) : Good [.fieldLink RX12 36 "HookPierModel" "thrown" "I", .fieldLink RX12 299 "HookPierModel" "pier" "LHookPierModel$Pier;", .methodLink RX12 451 yX12_lost, .instanceMethod yX12_lost, .selects RX12 yX12_lost yX12_lost, .initialized RX12]) (gd_app qsX12 qfX12_lost_nul))
theorem gfX12_lines_nul_0 : GoodIn vfX12_lines_nul (wsV RX12 451 RX12 yX12_lost vfX12_lost_nul) := goodIn_app (goodIn_r [.methodLink RX12 451 yX12_lost, .instanceMethod yX12_lost, .selects RX12 yX12_lost yX12_lost, .initialized RX12] [3, 4, 5, 6] rfl (by decide +kernel)) (goodIn_m (fun _ h => (List.mem_cons_of_mem _ (List.mem_append_right _ (List.mem_append_right _ h)))) qfX12_lost_nul)
set_option maxHeartbeats 2000000 in
set_option maxRecDepth 100000 in
theorem kfX12_lines_nul (l : Launch) (dC : Nat → ClassId) (dI : Nat → Nat → Nat) (a0 : Nat) (k1 : Int32) (k2 : Int32) (k3 : Int32) (k4 : Int32) (m_t : TX12_t) (g6 : Value) (g7 : Value) (g8 : Value) (g9 : Value) (g10 : Value) (g11 : Value) (g12 : Value) (g13 : Value) (g14 : Value) (g15 : Value) (g16 : Value) (g17 : Value) (g18 : Value) (g19 : Value) (g20 : Value) (g21 : Value) (g22 : Value) (g23 : Value) (g24 : Value) (g25 : Value) (g26 : Value) (g27 : Value) (g28 : Value) (g29 : Value) (g30 : Value) (g31 : Value) (sz : Nat) (out : TX12_t) (h : f_X12_lines_nul k1 k2 k3 k4 m_t = out) : KCi l yX12_lines vfX12_lines_nul ({ frames := 2, cells := 0, slots := 0, locals := 42 }) (dC, dI) [.ref a0, .int k1, .int k2, .int k3, .int k4] sz ([(a0, .inr (9, [.int m_t.1, .int m_t.2.1, .int m_t.2.2, .null, g6, g7, g8, g9, g10, g11, g12, g13, g14, g15, g16, g17, g18, g19, g20, g21, g22, g23, g24, g25, g26, g27, g28, g29, g30, g31]))]) ([]) (fun (r : Int32) _ => r = (-100)) ([(a0, .inr (9, [.int out.1, .int out.2.1, .int out.2.2, .null, g6, g7, g8, g9, g10, g11, g12, g13, g14, g15, g16, g17, g18, g19, g20, g21, g22, g23, g24, g25, g26, g27, g28, g29, g30, g31]))]) 0 0 := by
  refine Met.ofW (cc := cX12_lines) (maxL := 5) (ret := (some .int)) (by decide) rfl ?_
  intro p e s m args below meth c s₁ B0 hml hv
  obtain ⟨rfl, hsz, hP, hK, hD0, hN⟩ := hv
  have hx := B0.exec
  have hb := B0.bytes
  have hr := B0.returns
  have hts := atoms_spec (ws := vfX12_lines_nul) B0.pre
  have hown : s.vm.findClass RX12 = some m.cls := findClass_of_methodNamed B0.named
  have hlocks := B0.notSynchronized
  subst hsz
  have hD := hD0.self (sz := s.heap.size)
  generalize hAe : va_A ([(a0, .inr (9, [.int m_t.1, .int m_t.2.1, .int m_t.2.2, .null, g6, g7, g8, g9, g10, g11, g12, g13, g14, g15, g16, g17, g18, g19, g20, g21, g22, g23, g24, g25, g26, g27, g28, g29, g30, g31]))]) s.heap.size = A at hD ⊢
  have hA : ∀ q : Nat, s.heap.size ≤ q → A q := fun q h => by rw [← hAe]; exact Or.inr h
  have hS : va_S A s.heap s.heap [] := va_S.rf
  have hP : va_P (dC, dI) vwCl ([(a0, .inr (9, [.int m_t.1, .int m_t.2.1, .int m_t.2.2, .null, g6, g7, g8, g9, g10, g11, g12, g13, g14, g15, g16, g17, g18, g19, g20, g21, g22, g23, g24, g25, g26, g27, g28, g29, g30, g31]))]) s.heap := hP
  have hl := lv_entry ([.ref a0, .int k1, .int k2, .int k3, .int k4]) (n := 5) (Nat.le_of_ble_eq_true rfl)
  rw [lg_entry_eq]
  generalize (lg_sl ([.ref a0, .int k1, .int k2, .int k3, .int k4]) ++ List.replicate (5 - (lg_sl ([.ref a0, .int k1, .int k2, .int k3, .int k4])).length) Slot.unset).toArray = ls at hl ⊢
  have hl : lv_has ls 5 [(0, .ref a0), (1, .int k1), (2, .int k2), (3, .int k3), (4, .int k4)] := hl
  refine W_q (fun QQ hQQ => ?_)
  rw [f_X12_lines_nul] at h
  refine lv_aload_n hx hb (zat zrX12_lines_0_ok 0 rfl) rfl (lv_at hl 0 rfl) ?_
  refine lv_iconst (v := 0) hx hb (zat zrX12_lines_0_ok 1 rfl) (by decide) ?_
  refine va_put (D := (dC, dI)) (ci := 9) (v := .int 0) (ty := .int) (C := RX12) (T := TX12) (N := 30) hx hb hts ifX12_lines_nul_X12 tyX12 tyX12_ok nmX12 hown hK hP hD hS 0 rfl rfl 0 (by decide) (hts (.fieldLink RX12 36 "HookPierModel" "thrown" "I") (List.mem_of_getElem? (i := 1) rfl)) (fun _ h9 => h9) rfl (by decide +kernel) rfl rfl (Nat.le_of_ble_eq_true rfl) (zat zrX12_lines_0_ok 2 rfl) (fun H locs hP hD hS => ?_)
  obtain ⟨hP, hD⟩ := pd_mk ([(a0, .inr (9, [.int 0, .int m_t.2.1, .int m_t.2.2, .null, g6, g7, g8, g9, g10, g11, g12, g13, g14, g15, g16, g17, g18, g19, g20, g21, g22, g23, g24, g25, g26, g27, g28, g29, g30, g31]))]) hP hD
  refine lv_aload_n hx hb (zat zrX12_lines_0_ok 3 rfl) rfl (lv_at hl 0 rfl) ?_
  refine va_get (D := (dC, dI)) (ci := 9) (v := .null) (C := RX12) (T := TX12) (N := 30) hx hb hts ifX12_lines_nul_X12 hown hK hP 0 rfl rfl 3 (by decide) (hts (.fieldLink RX12 299 "HookPierModel" "pier" "LHookPierModel$Pier;") (List.mem_of_getElem? (i := 2) rfl)) (fun _ h9 => h9) rfl (zat zrX12_lines_0_ok 4 rfl) ?_
  refine lv_ifnonnullN hx hb (zat zrX12_lines_0_ok 5 rfl) ?_
  refine lv_aload_n hx hb (zat zrX12_lines_0b_ok 1 rfl) rfl (lv_at hl 0 rfl) ?_
  refine lv_iconst (v := 1) hx hb (zat zrX12_lines_0b_ok 2 rfl) (by decide) ?_
  obtain ⟨o14, eo14⟩ : ∃ o, o = f_X12_lost_nul (1 : Int32) ((0 : Int32), m_t.2) := ⟨_, rfl⟩
  have h := nm_of h o14 eo14
  refine ck_i (wc := ([(a0, .inr (9, [.int 0, .int m_t.2.1, .int m_t.2.2, .null, g6, g7, g8, g9, g10, g11, g12, g13, g14, g15, g16, g17, g18, g19, g20, g21, g22, g23, g24, g25, g26, g27, g28, g29, g30, g31]))])) (wr := []) hP hD hK hS hA [0] [] rfl rfl (by decide) (by decide) (by decide) (fun hPc hDc => (va_runV (As := [.int 1]) (rest := []) ⟨hx, hb, hml, hown, hts⟩ (kfX12_lost_nul l dC dI a0 (1 : Int32) ((0 : Int32), m_t.2) (.null) (g6) (g7) (g8) (g9) (g10) (g11) (g12) (g13) (g14) (g15) (g16) (g17) (g18) (g19) (g20) (g21) (g22) (g23) (g24) (g25) (g26) (g27) (g28) (g29) (g30) (g31) H.size o14 eo14.symm) (cwV 1 hts gfX12_lines_nul_0 rfl rfl rfl (by decide +kernel) ⟨(Nat.le_of_ble_eq_true rfl), (Nat.le_of_ble_eq_true rfl)⟩) (PV hPc (hK.sub (tys' := ([])) [] rfl) hDc hN 0 rfl rfl) rfl rfl hl.1 rfl (lv_room (Nat.le_of_ble_eq_true rfl)) (zat zrX12_lines_0b_ok 3 rfl) ⟨(Nat.le_of_ble_eq_true rfl), (Nat.le_of_ble_eq_true rfl)⟩)) (fun r14 _ H locs hw hP hD _ hS => ?_)
  obtain rfl := hw
  obtain ⟨hP, hD⟩ := pd_mk ([(a0, .inr (9, [.int o14.1, .int o14.2.1, .int o14.2.2, .null, g6, g7, g8, g9, g10, g11, g12, g13, g14, g15, g16, g17, g18, g19, g20, g21, g22, g23, g24, g25, g26, g27, g28, g29, g30, g31]))]) hP hD
  obtain rfl := h
  obtain ⟨hP9, hD9⟩ := pd_sub ([(a0, .inr (9, [.int o14.1, .int o14.2.1, .int o14.2.2, .null, g6, g7, g8, g9, g10, g11, g12, g13, g14, g15, g16, g17, g18, g19, g20, g21, g22, g23, g24, g25, g26, g27, g28, g29, g30, g31]))]) [0] hP hD (by decide) rfl
  have hK9 := hK.sub (tys' := []) [] rfl
  rw [hQQ]
  exact W.iret (v := (-100 : Int32)) hx hb hr (fun t ht hW => ⟨⟨(-100 : Int32), (), rfl, rfl, by rw [ht]; exact hP9, va_K.moved hW.alike hK9, hD9⟩, hS.F ht⟩) hS.2.2 (zat zrX12_lines_0b_ok 4 rfl)
noncomputable def zrX12_refusesStock_0b : List ZR := zc 0 false (.nop) 7 (zc 7 true (.iconst 1) 1 (zc 8 true (.goto 18) 3 ([])))
theorem zrX12_refusesStock_0b_ok : zck 0 ((zby cX12_refusesStock).drop 0) zrX12_refusesStock_0b = true := by decide +kernel
def vfX12_refusesStock_nul : List Cond := List.cons (.code yX12_refusesStock cX12_refusesStock 2 (some .int)) (apW [.fieldLink RX12 299 "HookPierModel" "pier" "LHookPierModel$Pier;"] (wsX120))
theorem ifX12_refusesStock_nul_X12 : ∀ w ∈ wsX120, w ∈ vfX12_refusesStock_nul := fun _ h => (List.mem_cons_of_mem _ (List.mem_append_right _ h))
theorem qfX12_refusesStock_nul : Good vfX12_refusesStock_nul := gd_cons (by decide +kernel) (gd_app (gd_dec (by decide +kernel) : Good [.fieldLink RX12 299 "HookPierModel" "pier" "LHookPierModel$Pier;"]) qsX12)
set_option maxHeartbeats 2000000 in
set_option maxRecDepth 100000 in
theorem kfX12_refusesStock_nul (l : Launch) (dC : Nat → ClassId) (dI : Nat → Nat → Nat) (a0 : Nat) (k1 : Int32) (g2 : Value) (g3 : Value) (g4 : Value) (g5 : Value) (g6 : Value) (g7 : Value) (g8 : Value) (g9 : Value) (g10 : Value) (g11 : Value) (g12 : Value) (g13 : Value) (g14 : Value) (g15 : Value) (g16 : Value) (g17 : Value) (g18 : Value) (g19 : Value) (g20 : Value) (g21 : Value) (g22 : Value) (g23 : Value) (g24 : Value) (g25 : Value) (g26 : Value) (g27 : Value) (g28 : Value) (g29 : Value) (g30 : Value) (sz : Nat) (out : Unit) (h : f_X12_refusesStock_nul k1 = out) : KDi l yX12_refusesStock vfX12_refusesStock_nul ({ frames := 0, cells := 0, slots := 0, locals := 0 }) (dC, dI) [.ref a0, .int k1] sz ([(a0, .inr (9, [g2, g3, g4, .null, g5, g6, g7, g8, g9, g10, g11, g12, g13, g14, g15, g16, g17, g18, g19, g20, g21, g22, g23, g24, g25, g26, g27, g28, g29, g30]))]) ([]) (fun (r : Int32) _ => r = 1) 0 0 := by
  refine Met.ofW (cc := cX12_refusesStock) (maxL := 2) (ret := (some .int)) (by decide) rfl ?_
  intro p e s m args below meth c s₁ B0 hml hv
  obtain ⟨rfl, hsz, hP, hK, hD0, hN⟩ := hv
  have hx := B0.exec
  have hb := B0.bytes
  have hr := B0.returns
  have hts := atoms_spec (ws := vfX12_refusesStock_nul) B0.pre
  have hown : s.vm.findClass RX12 = some m.cls := findClass_of_methodNamed B0.named
  have hlocks := B0.notSynchronized
  subst hsz
  have hD := hD0.self (sz := s.heap.size)
  generalize hAe : va_A ([(a0, .inr (9, [g2, g3, g4, .null, g5, g6, g7, g8, g9, g10, g11, g12, g13, g14, g15, g16, g17, g18, g19, g20, g21, g22, g23, g24, g25, g26, g27, g28, g29, g30]))]) s.heap.size = A at hD ⊢
  have hA : ∀ q : Nat, s.heap.size ≤ q → A q := fun q h => by rw [← hAe]; exact Or.inr h
  have hS : va_S A s.heap s.heap [] := va_S.rf
  have hP : va_P (dC, dI) vwCl ([(a0, .inr (9, [g2, g3, g4, .null, g5, g6, g7, g8, g9, g10, g11, g12, g13, g14, g15, g16, g17, g18, g19, g20, g21, g22, g23, g24, g25, g26, g27, g28, g29, g30]))]) s.heap := hP
  have hl := lv_entry ([.ref a0, .int k1]) (n := 2) (Nat.le_of_ble_eq_true rfl)
  rw [lg_entry_eq]
  generalize (lg_sl ([.ref a0, .int k1]) ++ List.replicate (2 - (lg_sl ([.ref a0, .int k1])).length) Slot.unset).toArray = ls at hl ⊢
  have hl : lv_has ls 2 [(0, .ref a0), (1, .int k1)] := hl
  refine W_q (fun QQ hQQ => ?_)
  rw [f_X12_refusesStock_nul] at h
  refine lv_aload_n hx hb (zat zrX12_refusesStock_0_ok 0 rfl) rfl (lv_at hl 0 rfl) ?_
  refine va_get (D := (dC, dI)) (ci := 9) (v := .null) (C := RX12) (T := TX12) (N := 30) hx hb hts ifX12_refusesStock_nul_X12 hown hK hP 0 rfl rfl 3 (by decide) (hts (.fieldLink RX12 299 "HookPierModel" "pier" "LHookPierModel$Pier;") (List.mem_of_getElem? (i := 1) rfl)) (fun _ h9 => h9) rfl (zat zrX12_refusesStock_0_ok 1 rfl) ?_
  refine lv_ifnonnullN hx hb (zat zrX12_refusesStock_0_ok 2 rfl) ?_
  refine lv_iconst (v := 1) hx hb (zat zrX12_refusesStock_0b_ok 1 rfl) (by decide) ?_
  refine lv_goto (tgt := 26) hx hb (zat zrX12_refusesStock_0b_ok 2 rfl) (by decide) ?_
  obtain ⟨hP9, hD9⟩ := pd_sub ([(a0, .inr (9, [g2, g3, g4, .null, g5, g6, g7, g8, g9, g10, g11, g12, g13, g14, g15, g16, g17, g18, g19, g20, g21, g22, g23, g24, g25, g26, g27, g28, g29, g30]))]) [0] hP hD (by decide) rfl
  have hK9 := hK.sub (tys' := []) [] rfl
  rw [hQQ]
  exact W.iret (v := (1 : Int32)) hx hb hr (fun t ht hW => ⟨⟨(1 : Int32), (), rfl, rfl, by rw [ht]; exact hP9, va_K.moved hW.alike hK9, hD9⟩, hS.F ht⟩) hS.2.2 (zat zrX12_refusesStock_0_ok 12 rfl)
def vfX12_rests_nul : List Cond := List.cons (.code yX12_rests cX12_rests 5 (some .int)) (apW [.fieldLink RX12 36 "HookPierModel" "thrown" "I", .methodLink RX12 457 yX12_refusesStock, .instanceMethod yX12_refusesStock, .selects RX12 yX12_refusesStock yX12_refusesStock, .initialized RX12, .methodLink RX12 42 yX12_refused, .instanceMethod yX12_refused, .selects RX12 yX12_refused yX12_refused] (apW wsX120 (apW vfX12_refusesStock_nul (vfX12_refused_nul))))
theorem ifX12_rests_nul_X12 : ∀ w ∈ wsX120, w ∈ vfX12_rests_nul := fun _ h => (List.mem_cons_of_mem _ (List.mem_append_right _ (List.mem_append_left _ h)))
theorem qfX12_rests_nul : Good vfX12_rests_nul := gd_cons (by decide +kernel) (gd_app (gd_dec (by decide +kernel) : Good [.fieldLink RX12 36 "HookPierModel" "thrown" "I", .methodLink RX12 457 yX12_refusesStock, .instanceMethod yX12_refusesStock, .selects RX12 yX12_refusesStock yX12_refusesStock, .initialized RX12, .methodLink RX12 42 yX12_refused, .instanceMethod yX12_refused, .selects RX12 yX12_refused yX12_refused]) (gd_app qsX12 (gd_app qfX12_refusesStock_nul qfX12_refused_nul)))
theorem gfX12_rests_nul_0 : GoodIn vfX12_rests_nul (wsV RX12 457 RX12 yX12_refusesStock vfX12_refusesStock_nul) := goodIn_app (goodIn_r [.methodLink RX12 457 yX12_refusesStock, .instanceMethod yX12_refusesStock, .selects RX12 yX12_refusesStock yX12_refusesStock, .initialized RX12] [2, 3, 4, 5] rfl (by decide +kernel)) (goodIn_m (fun _ h => (List.mem_cons_of_mem _ (List.mem_append_right _ (List.mem_append_right _ (List.mem_append_left _ h))))) qfX12_refusesStock_nul)
theorem gfX12_rests_nul_1 : GoodIn vfX12_rests_nul (wsV RX12 42 RX12 yX12_refused vfX12_refused_nul) := goodIn_app (goodIn_r [.methodLink RX12 42 yX12_refused, .instanceMethod yX12_refused, .selects RX12 yX12_refused yX12_refused, .initialized RX12] [6, 7, 8, 5] rfl (by decide +kernel)) (goodIn_m (fun _ h => (List.mem_cons_of_mem _ (List.mem_append_right _ (List.mem_append_right _ (List.mem_append_right _ h))))) qfX12_refused_nul)
set_option maxHeartbeats 2000000 in
set_option maxRecDepth 100000 in
theorem kfX12_rests_nul (l : Launch) (dC : Nat → ClassId) (dI : Nat → Nat → Nat) (a0 : Nat) (k1 : Int32) (m_t : TX12_t) (g3 : Value) (g4 : Value) (g5 : Value) (g6 : Value) (g7 : Value) (g8 : Value) (g9 : Value) (g10 : Value) (g11 : Value) (g12 : Value) (g13 : Value) (g14 : Value) (g15 : Value) (g16 : Value) (g17 : Value) (g18 : Value) (g19 : Value) (g20 : Value) (g21 : Value) (g22 : Value) (g23 : Value) (g24 : Value) (g25 : Value) (g26 : Value) (g27 : Value) (g28 : Value) (sz : Nat) (out : TX12_t) (h : f_X12_rests_nul k1 m_t = out) : KCi l yX12_rests vfX12_rests_nul ({ frames := 1, cells := 0, slots := 0, locals := 21 }) (dC, dI) [.ref a0, .int k1] sz ([(a0, .inr (9, [.int m_t.1, .int m_t.2.1, .int m_t.2.2, .null, g3, g4, g5, g6, g7, g8, g9, g10, g11, g12, g13, g14, g15, g16, g17, g18, g19, g20, g21, g22, g23, g24, g25, g26, g27, g28]))]) ([]) (fun (r : Int32) _ => r = (-1)) ([(a0, .inr (9, [.int out.1, .int out.2.1, .int out.2.2, .null, g3, g4, g5, g6, g7, g8, g9, g10, g11, g12, g13, g14, g15, g16, g17, g18, g19, g20, g21, g22, g23, g24, g25, g26, g27, g28]))]) 0 0 := by
  refine Met.ofW (cc := cX12_rests) (maxL := 5) (ret := (some .int)) (by decide) rfl ?_
  intro p e s m args below meth c s₁ B0 hml hv
  obtain ⟨rfl, hsz, hP, hK, hD0, hN⟩ := hv
  have hx := B0.exec
  have hb := B0.bytes
  have hr := B0.returns
  have hts := atoms_spec (ws := vfX12_rests_nul) B0.pre
  have hown : s.vm.findClass RX12 = some m.cls := findClass_of_methodNamed B0.named
  have hlocks := B0.notSynchronized
  subst hsz
  have hD := hD0.self (sz := s.heap.size)
  generalize hAe : va_A ([(a0, .inr (9, [.int m_t.1, .int m_t.2.1, .int m_t.2.2, .null, g3, g4, g5, g6, g7, g8, g9, g10, g11, g12, g13, g14, g15, g16, g17, g18, g19, g20, g21, g22, g23, g24, g25, g26, g27, g28]))]) s.heap.size = A at hD ⊢
  have hA : ∀ q : Nat, s.heap.size ≤ q → A q := fun q h => by rw [← hAe]; exact Or.inr h
  have hS : va_S A s.heap s.heap [] := va_S.rf
  have hP : va_P (dC, dI) vwCl ([(a0, .inr (9, [.int m_t.1, .int m_t.2.1, .int m_t.2.2, .null, g3, g4, g5, g6, g7, g8, g9, g10, g11, g12, g13, g14, g15, g16, g17, g18, g19, g20, g21, g22, g23, g24, g25, g26, g27, g28]))]) s.heap := hP
  have hl := lv_entry ([.ref a0, .int k1]) (n := 5) (Nat.le_of_ble_eq_true rfl)
  rw [lg_entry_eq]
  generalize (lg_sl ([.ref a0, .int k1]) ++ List.replicate (5 - (lg_sl ([.ref a0, .int k1])).length) Slot.unset).toArray = ls at hl ⊢
  have hl : lv_has ls 5 [(0, .ref a0), (1, .int k1)] := hl
  refine W_q (fun QQ hQQ => ?_)
  rw [f_X12_rests_nul] at h
  refine lv_aload_n hx hb (zat zrX12_rests_0_ok 0 rfl) rfl (lv_at hl 0 rfl) ?_
  refine lv_iconst (v := 0) hx hb (zat zrX12_rests_0_ok 1 rfl) (by decide) ?_
  refine va_put (D := (dC, dI)) (ci := 9) (v := .int 0) (ty := .int) (C := RX12) (T := TX12) (N := 30) hx hb hts ifX12_rests_nul_X12 tyX12 tyX12_ok nmX12 hown hK hP hD hS 0 rfl rfl 0 (by decide) (hts (.fieldLink RX12 36 "HookPierModel" "thrown" "I") (List.mem_of_getElem? (i := 1) rfl)) (fun _ h9 => h9) rfl (by decide +kernel) rfl rfl (Nat.le_of_ble_eq_true rfl) (zat zrX12_rests_0_ok 2 rfl) (fun H locs hP hD hS => ?_)
  obtain ⟨hP, hD⟩ := pd_mk ([(a0, .inr (9, [.int 0, .int m_t.2.1, .int m_t.2.2, .null, g3, g4, g5, g6, g7, g8, g9, g10, g11, g12, g13, g14, g15, g16, g17, g18, g19, g20, g21, g22, g23, g24, g25, g26, g27, g28]))]) hP hD
  refine lv_aload_n hx hb (zat zrX12_rests_0_ok 3 rfl) rfl (lv_at hl 0 rfl) ?_
  refine lv_iload_n hx hb (zat zrX12_rests_0_ok 4 rfl) rfl (lv_at hl 1 rfl) ?_
  refine ck_i (wc := ([(a0, .inr (9, [.int 0, .int m_t.2.1, .int m_t.2.2, .null, g3, g4, g5, g6, g7, g8, g9, g10, g11, g12, g13, g14, g15, g16, g17, g18, g19, g20, g21, g22, g23, g24, g25, g26, g27, g28]))])) (wr := []) hP hD hK hS hA [0] [] rfl rfl (by decide) (by decide) (by decide) (fun hPc hDc => (va_runV (As := [.int k1]) (rest := []) ⟨hx, hb, hml, hown, hts⟩ (kfX12_refusesStock_nul l dC dI a0 k1 (.int 0) (.int m_t.2.1) (.int m_t.2.2) (g3) (g4) (g5) (g6) (g7) (g8) (g9) (g10) (g11) (g12) (g13) (g14) (g15) (g16) (g17) (g18) (g19) (g20) (g21) (g22) (g23) (g24) (g25) (g26) (g27) (g28) H.size () rfl) (cwV 1 hts gfX12_rests_nul_0 rfl rfl rfl (by decide +kernel) ⟨(Nat.le_of_ble_eq_true rfl), (Nat.le_of_ble_eq_true rfl)⟩) (PV hPc (hK.sub (tys' := ([])) [] rfl) hDc hN 0 rfl rfl) rfl rfl hl.1 rfl (lv_room (Nat.le_of_ble_eq_true rfl)) (zat zrX12_rests_0_ok 5 rfl) ⟨(Nat.le_of_ble_eq_true rfl), (Nat.le_of_ble_eq_true rfl)⟩)) (fun r7 _ H locs hw hP hD _ hS => ?_)
  obtain rfl := hw
  obtain ⟨hP, hD⟩ := pd_mk ([(a0, .inr (9, [.int 0, .int m_t.2.1, .int m_t.2.2, .null, g3, g4, g5, g6, g7, g8, g9, g10, g11, g12, g13, g14, g15, g16, g17, g18, g19, g20, g21, g22, g23, g24, g25, g26, g27, g28]))]) hP hD
  refine lv_istore_n (lv' := [(2, .int 1), (0, .ref a0), (1, .int k1)]) hx hb (zat zrX12_rests_0_ok 6 rfl) rfl hl (by decide) rfl (fun ls hl => ?_)
  refine lv_iload_n hx hb (zat zrX12_rests_0_ok 7 rfl) rfl (lv_at hl 0 rfl) ?_
  refine lv_if_le (tgt := 21) hx hb (zat zrX12_rests_0_ok 8 rfl) (by decide) (fun c12 => absurd c12 (by decide)) (fun _ => ?_)
  refine lv_aload_n hx hb (zat zrX12_rests_0_ok 9 rfl) rfl (lv_at hl 1 rfl) ?_
  refine lv_iload_n hx hb (zat zrX12_rests_0_ok 10 rfl) rfl (lv_at hl 0 rfl) ?_
  obtain ⟨o17, eo17⟩ : ∃ o, o = f_X12_refused_nul (1 : Int32) ((0 : Int32), m_t.2) := ⟨_, rfl⟩
  have h := nm_of h o17 eo17
  refine ck_i (wc := ([(a0, .inr (9, [.int 0, .int m_t.2.1, .int m_t.2.2, .null, g3, g4, g5, g6, g7, g8, g9, g10, g11, g12, g13, g14, g15, g16, g17, g18, g19, g20, g21, g22, g23, g24, g25, g26, g27, g28]))])) (wr := []) hP hD hK hS hA [0] [] rfl rfl (by decide) (by decide) (by decide) (fun hPc hDc => (va_runV (As := [.int 1]) (rest := []) ⟨hx, hb, hml, hown, hts⟩ (kfX12_refused_nul l dC dI a0 (1 : Int32) ((0 : Int32), m_t.2) (.null) (g3) (g4) (g5) (g6) (g7) (g8) (g9) (g10) (g11) (g12) (g13) (g14) (g15) (g16) (g17) (g18) (g19) (g20) (g21) (g22) (g23) (g24) (g25) (g26) (g27) (g28) H.size o17 eo17.symm) (cwV 1 hts gfX12_rests_nul_1 rfl rfl rfl (by decide +kernel) ⟨(Nat.le_of_ble_eq_true rfl), (Nat.le_of_ble_eq_true rfl)⟩) (PV hPc (hK.sub (tys' := ([])) [] rfl) hDc hN 0 rfl rfl) rfl rfl hl.1 rfl (lv_room (Nat.le_of_ble_eq_true rfl)) (zat zrX12_rests_0_ok 11 rfl) ⟨(Nat.le_of_ble_eq_true rfl), (Nat.le_of_ble_eq_true rfl)⟩)) (fun r17 _ H locs hw hP hD _ hS => ?_)
  obtain rfl := hw
  obtain ⟨hP, hD⟩ := pd_mk ([(a0, .inr (9, [.int o17.1, .int o17.2.1, .int o17.2.2, .null, g3, g4, g5, g6, g7, g8, g9, g10, g11, g12, g13, g14, g15, g16, g17, g18, g19, g20, g21, g22, g23, g24, g25, g26, g27, g28]))]) hP hD
  obtain rfl := h
  obtain ⟨hP9, hD9⟩ := pd_sub ([(a0, .inr (9, [.int o17.1, .int o17.2.1, .int o17.2.2, .null, g3, g4, g5, g6, g7, g8, g9, g10, g11, g12, g13, g14, g15, g16, g17, g18, g19, g20, g21, g22, g23, g24, g25, g26, g27, g28]))]) [0] hP hD (by decide) rfl
  have hK9 := hK.sub (tys' := []) [] rfl
  rw [hQQ]
  exact W.iret (v := (-1 : Int32)) hx hb hr (fun t ht hW => ⟨⟨(-1 : Int32), (), rfl, rfl, by rw [ht]; exact hP9, va_K.moved hW.alike hK9, hD9⟩, hS.F ht⟩) hS.2.2 (zat zrX12_rests_0_ok 12 rfl)
