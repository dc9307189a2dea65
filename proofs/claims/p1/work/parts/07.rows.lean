theorem dX12_seat_0 : decode cX12_seat 0 = .ok (.aload_n 0, 1) := by decide +kernel
theorem dX12_seat_1 : decode cX12_seat 1 = .ok (.iconst 0, 1) := by decide +kernel
theorem dX12_seat_10 : decode cX12_seat 10 = .ok (.ifCond .ne 9, 3) := by decide +kernel
theorem dX12_seat_13 : decode cX12_seat 13 = .ok (.aload_n 0, 1) := by decide +kernel
theorem dX12_seat_14 : decode cX12_seat 14 = .ok (.iconst 1, 1) := by decide +kernel
theorem dX12_seat_15 : decode cX12_seat 15 = .ok (.invokevirtual 42, 3) := by decide +kernel
theorem dX12_seat_18 : decode cX12_seat 18 = .ok (.ireturn, 1) := by decide +kernel
theorem dX12_seat_2 : decode cX12_seat 2 = .ok (.putfield 36, 3) := by decide +kernel
theorem dX12_seat_5 : decode cX12_seat 5 = .ok (.aload_n 0, 1) := by decide +kernel
theorem dX12_seat_6 : decode cX12_seat 6 = .ok (.iload_n 1, 1) := by decide +kernel
theorem dX12_seat_7 : decode cX12_seat 7 = .ok (.invokevirtual 334, 3) := by decide +kernel
def vX12_seat : List Cond := .code yX12_seat cX12_seat 2 (some .int) :: ([.fieldLink RX12 36 "HookPierModel" "thrown" "I", .methodLink RX12 334 yX12_isAsker, .instanceMethod yX12_isAsker, .selects RX12 yX12_isAsker yX12_isAsker, .initialized RX12, .code yX12_isAsker cX12_isAsker 2 (some .boolean), .fieldLink RX12 299 "HookPierModel" "pier" "LHookPierModel$Pier;", .methodLink RX12 42 yX12_refused, .instanceMethod yX12_refused, .selects RX12 yX12_refused yX12_refused, .code yX12_refused cX12_refused 2 (some .int), .fieldLink RX12 39 "HookPierModel" "trouble" "I", .fieldLink RX12 9 "HookPierModel" "where" "I"] ++ wsX120)
theorem iX12_seat_X12 : ∀ w ∈ wsX120, w ∈ vX12_seat := fun _ h => List.mem_cons_of_mem _ (List.mem_append_right _ h)
set_option maxRecDepth 20000 in
theorem gX12_seat_0 : GoodIn vX12_seat (wsV RX12 334 RX12 yX12_isAsker vX12_isAsker) := goodIn_app (goodIn_r [.methodLink RX12 334 yX12_isAsker, .instanceMethod yX12_isAsker, .selects RX12 yX12_isAsker yX12_isAsker, .initialized RX12] [2, 3, 4, 5] (by decide +kernel) (by decide +kernel)) (goodIn_ca (goodIn_r (.code yX12_isAsker cX12_isAsker 2 (some .boolean) :: [.fieldLink RX12 299 "HookPierModel" "pier" "LHookPierModel$Pier;"]) [6, 7] (by decide +kernel) (by decide +kernel) : GoodIn vX12_seat (.code yX12_isAsker cX12_isAsker 2 (some .boolean) :: [.fieldLink RX12 299 "HookPierModel" "pier" "LHookPierModel$Pier;"])) (goodIn_sub iX12_seat_X12 (by decide +kernel)))
set_option maxRecDepth 20000 in
theorem gX12_seat_1 : GoodIn vX12_seat (wsV RX12 42 RX12 yX12_refused vX12_refused_1) := goodIn_app (goodIn_r [.methodLink RX12 42 yX12_refused, .instanceMethod yX12_refused, .selects RX12 yX12_refused yX12_refused, .initialized RX12] [8, 9, 10, 5] (by decide +kernel) (by decide +kernel)) (goodIn_ca (goodIn_r (.code yX12_refused cX12_refused 2 (some .int) :: [.fieldLink RX12 39 "HookPierModel" "trouble" "I", .fieldLink RX12 9 "HookPierModel" "where" "I"]) [11, 12, 13] (by decide +kernel) (by decide +kernel) : GoodIn vX12_seat (.code yX12_refused cX12_refused 2 (some .int) :: [.fieldLink RX12 39 "HookPierModel" "trouble" "I", .fieldLink RX12 9 "HookPierModel" "where" "I"])) (goodIn_sub iX12_seat_X12 (by decide +kernel)))
set_option maxHeartbeats 1000000 in
set_option maxRecDepth 100000 in
theorem kX12_seat (l : Launch) (dC : Nat → ClassId) (dI : Nat → Nat → Nat) (a0 : Nat) (k1 : Int32) (g2 : Value) (g3 : Value) (g4 : Value) (g5 : Value) (g6 : Value) (g7 : Value) (g8 : Value) (g9 : Value) (g10 : Value) (g11 : Value) (g12 : Value) (g13 : Value) (g14 : Value) (g15 : Value) (g16 : Value) (g17 : Value) (g18 : Value) (g19 : Value) (g20 : Value) (g21 : Value) (g22 : Value) (g23 : Value) (g24 : Value) (g25 : Value) (g26 : Value) (g27 : Value) (g28 : Value) (g29 : Value) (g30 : Value) (sz : Nat) : Met l yX12_seat vX12_seat ({ frames := 1, cells := 0, slots := 0, locals := 21 }) (PC (dC, dI) [.ref a0, .int k1] sz [(a0, .inr (9, [g2, g3, g4, .null, g5, g6, g7, g8, g9, g10, g11, g12, g13, g14, g15, g16, g17, g18, g19, g20, g21, g22, g23, g24, g25, g26, g27, g28, g29, g30]))] []) (va_Qi (S := Unit) (fun (r : Int32) _ => r = (-1)) (fun _ t => BC (dC, dI) (va_A [(a0, .inr (9, [g2, g3, g4, .null, g5, g6, g7, g8, g9, g10, g11, g12, g13, g14, g15, g16, g17, g18, g19, g20, g21, g22, g23, g24, g25, g26, g27, g28, g29, g30]))] sz) [] [] t) (va_A [(a0, .inr (9, [g2, g3, g4, .null, g5, g6, g7, g8, g9, g10, g11, g12, g13, g14, g15, g16, g17, g18, g19, g20, g21, g22, g23, g24, g25, g26, g27, g28, g29, g30]))] sz)) 0 0 (va_A [(a0, .inr (9, [g2, g3, g4, .null, g5, g6, g7, g8, g9, g10, g11, g12, g13, g14, g15, g16, g17, g18, g19, g20, g21, g22, g23, g24, g25, g26, g27, g28, g29, g30]))] sz) := by
  refine Met.ofW (cc := cX12_seat) (maxL := 2) (ret := (some .int)) (by decide) rfl ?_
  intro p e s m args below meth c s₁ B hml hv
  obtain ⟨rfl, hsz, hP, hK, hD0, hN⟩ := hv
  have hx := B.exec
  have hb := B.bytes
  have hr := B.returns
  have hts := atoms_spec (ws := vX12_seat) B.pre
  have hown : s.vm.findClass RX12 = some m.cls := findClass_of_methodNamed B.named
  have hlocks := B.notSynchronized
  subst hsz
  have hD := hD0.self (sz := s.heap.size)
  generalize hAe : va_A [(a0, .inr (9, [g2, g3, g4, .null, g5, g6, g7, g8, g9, g10, g11, g12, g13, g14, g15, g16, g17, g18, g19, g20, g21, g22, g23, g24, g25, g26, g27, g28, g29, g30]))] s.heap.size = A at hD ⊢
  have hA : ∀ q : Nat, s.heap.size ≤ q → A q := fun q h => by rw [← hAe]; exact Or.inr h
  have hS : va_S A s.heap s.heap [] := va_S.rf
  have hP : va_P (dC, dI) vwCl [(a0, .inr (9, [g2, g3, g4, .null, g5, g6, g7, g8, g9, g10, g11, g12, g13, g14, g15, g16, g17, g18, g19, g20, g21, g22, g23, g24, g25, g26, g27, g28, g29, g30]))] s.heap := hP
  have hl := lv_entry ([.ref a0, .int k1]) (n := 2) (Nat.le_of_ble_eq_true rfl)
  rw [lg_entry_eq]
  generalize (lg_sl ([.ref a0, .int k1]) ++ List.replicate (2 - (lg_sl ([.ref a0, .int k1])).length) Slot.unset).toArray = ls at hl ⊢
  have hl : lv_has ls 2 [(0, .ref a0), (1, .int k1)] := hl
  refine lv_aload_n hx hb dX12_seat_0 rfl (lv_at hl 0 rfl) ?_
  refine lv_iconst (v := 0) hx hb dX12_seat_1 (by decide) ?_
  refine va_put (D := (dC, dI)) (ci := 9) (v := .int 0) (ty := .int) (C := RX12) (T := TX12) (N := 30) hx hb hts iX12_seat_X12 tyX12 tyX12_ok nmX12 hown hK hP hD hS 0 rfl rfl 0 (by decide) (hts (.fieldLink RX12 36 "HookPierModel" "thrown" "I") (List.mem_of_getElem? (i := 1) rfl)) (fun _ h9 => h9) rfl (by decide +kernel) rfl rfl (Nat.le_of_ble_eq_true rfl) dX12_seat_2 (fun H locs hP hD hS => ?_)
  have hP : va_P (dC, dI) vwCl [(a0, .inr (9, [.int 0, g3, g4, .null, g5, g6, g7, g8, g9, g10, g11, g12, g13, g14, g15, g16, g17, g18, g19, g20, g21, g22, g23, g24, g25, g26, g27, g28, g29, g30]))] H := hP
  have hD : va_D A [(a0, .inr (9, [.int 0, g3, g4, .null, g5, g6, g7, g8, g9, g10, g11, g12, g13, g14, g15, g16, g17, g18, g19, g20, g21, g22, g23, g24, g25, g26, g27, g28, g29, g30]))] := hD
  refine lv_aload_n hx hb dX12_seat_5 rfl (lv_at hl 0 rfl) ?_
  refine lv_iload_n hx hb dX12_seat_6 rfl (lv_at hl 1 rfl) ?_
  refine cl_i (wc := [(a0, .inr (9, [.int 0, g3, g4, .null, g5, g6, g7, g8, g9, g10, g11, g12, g13, g14, g15, g16, g17, g18, g19, g20, g21, g22, g23, g24, g25, g26, g27, g28, g29, g30]))]) (wr := []) (va_runV (As := [.int k1]) (rest := []) ⟨hx, hb, hml, hown, hts⟩ (kX12_isAsker l dC dI a0 k1 (.int 0) (g3) (g4) (g5) (g6) (g7) (g8) (g9) (g10) (g11) (g12) (g13) (g14) (g15) (g16) (g17) (g18) (g19) (g20) (g21) (g22) (g23) (g24) (g25) (g26) (g27) (g28) (g29) (g30) H.size) (cwV 1 hts gX12_seat_0 rfl rfl rfl (by decide +kernel) ⟨Nat.le_of_ble_eq_true rfl, Nat.le_of_ble_eq_true rfl⟩) (PV (hP.sub (ws' := [(a0, .inr (9, [.int 0, g3, g4, .null, g5, g6, g7, g8, g9, g10, g11, g12, g13, g14, g15, g16, g17, g18, g19, g20, g21, g22, g23, g24, g25, g26, g27, g28, g29, g30]))]) [0] rfl) (hK.sub (tys' := []) [] rfl) (hD.sub (ws' := [(a0, .inr (9, [.int 0, g3, g4, .null, g5, g6, g7, g8, g9, g10, g11, g12, g13, g14, g15, g16, g17, g18, g19, g20, g21, g22, g23, g24, g25, g26, g27, g28, g29, g30]))]) [0] (by decide) rfl) hN 0 rfl rfl) rfl rfl hl.1 rfl (lv_room (Nat.le_of_ble_eq_true rfl)) dX12_seat_7 ⟨Nat.le_of_ble_eq_true rfl, Nat.le_of_ble_eq_true rfl⟩) hP hD hK hS hA [0] [] rfl rfl (by decide) (by decide) (fun z1 _u H locs hw hP hD hK hS => ?_)
  have hP : va_P (dC, dI) vwCl [(a0, .inr (9, [.int 0, g3, g4, .null, g5, g6, g7, g8, g9, g10, g11, g12, g13, g14, g15, g16, g17, g18, g19, g20, g21, g22, g23, g24, g25, g26, g27, g28, g29, g30]))] H := hP
  have hD : va_D A [(a0, .inr (9, [.int 0, g3, g4, .null, g5, g6, g7, g8, g9, g10, g11, g12, g13, g14, g15, g16, g17, g18, g19, g20, g21, g22, g23, g24, g25, g26, g27, g28, g29, g30]))] := hD
  have hK : va_K (dC, dI) vwCl [] s := hK
  obtain rfl : z1 = 0 := hw
  refine lv_if_ne (tgt := 19) hx hb dX12_seat_10 (by decide) (fun c2 => absurd c2 (by decide)) (fun _ => ?_)
  refine lv_aload_n hx hb dX12_seat_13 rfl (lv_at hl 0 rfl) ?_
  refine lv_iconst (v := 1) hx hb dX12_seat_14 (by decide) ?_
  refine cl_i (wc := [(a0, .inr (9, [.int 0, g3, g4, .null, g5, g6, g7, g8, g9, g10, g11, g12, g13, g14, g15, g16, g17, g18, g19, g20, g21, g22, g23, g24, g25, g26, g27, g28, g29, g30]))]) (wr := []) (va_runV (As := [.int 1]) (rest := []) ⟨hx, hb, hml, hown, hts⟩ (kX12_refused_1 l dC dI a0 (.int 0) (g3) (g4) (.null) (g5) (g6) (g7) (g8) (g9) (g10) (g11) (g12) (g13) (g14) (g15) (g16) (g17) (g18) (g19) (g20) (g21) (g22) (g23) (g24) (g25) (g26) (g27) (g28) (g29) (g30) H.size) (cwV 1 hts gX12_seat_1 rfl rfl rfl (by decide +kernel) ⟨Nat.le_of_ble_eq_true rfl, Nat.le_of_ble_eq_true rfl⟩) (PV (hP.sub (ws' := [(a0, .inr (9, [.int 0, g3, g4, .null, g5, g6, g7, g8, g9, g10, g11, g12, g13, g14, g15, g16, g17, g18, g19, g20, g21, g22, g23, g24, g25, g26, g27, g28, g29, g30]))]) [0] rfl) (hK.sub (tys' := []) [] rfl) (hD.sub (ws' := [(a0, .inr (9, [.int 0, g3, g4, .null, g5, g6, g7, g8, g9, g10, g11, g12, g13, g14, g15, g16, g17, g18, g19, g20, g21, g22, g23, g24, g25, g26, g27, g28, g29, g30]))]) [0] (by decide) rfl) hN 0 rfl rfl) rfl rfl hl.1 rfl (lv_room (Nat.le_of_ble_eq_true rfl)) dX12_seat_15 ⟨Nat.le_of_ble_eq_true rfl, Nat.le_of_ble_eq_true rfl⟩) hP hD hK hS hA [0] [] rfl rfl (by decide) (by decide) (fun z3 _u H locs hw hP hD hK hS => ?_)
  have hP : va_P (dC, dI) vwCl [(a0, .inr (9, [.int 0, .int 1, .int (-1), .null, g5, g6, g7, g8, g9, g10, g11, g12, g13, g14, g15, g16, g17, g18, g19, g20, g21, g22, g23, g24, g25, g26, g27, g28, g29, g30]))] H := hP
  have hD : va_D A [(a0, .inr (9, [.int 0, .int 1, .int (-1), .null, g5, g6, g7, g8, g9, g10, g11, g12, g13, g14, g15, g16, g17, g18, g19, g20, g21, g22, g23, g24, g25, g26, g27, g28, g29, g30]))] := hD
  have hK : va_K (dC, dI) vwCl [] s := hK
  obtain rfl : z3 = (-1) := hw
  have hP9 := hP.sub (ws' := []) [] rfl
  have hD9 := hD.sub (ws' := []) [] (by decide) rfl
  have hK9 := hK.sub (tys' := []) [] rfl
  exact W.iret (v := (-1)) hx hb hr (fun t ht hW => ⟨⟨(-1), (), rfl, rfl, by rw [ht]; exact hP9, va_K.moved hW.alike hK9, hD9⟩, hS.F ht⟩) hS.2.2 dX12_seat_18
theorem dX10_mostSeated_0 : decode cX10_mostSeated 0 = .ok (.aload_n 0, 1) := by decide +kernel
theorem dX10_mostSeated_1 : decode cX10_mostSeated 1 = .ok (.aload_n 0, 1) := by decide +kernel
theorem dX10_mostSeated_11 : decode cX10_mostSeated 11 = .ok (.iconst (-1), 1) := by decide +kernel
theorem dX10_mostSeated_12 : decode cX10_mostSeated 12 = .ok (.ireturn, 1) := by decide +kernel
theorem dX10_mostSeated_2 : decode cX10_mostSeated 2 = .ok (.invokevirtual 216, 3) := by decide +kernel
theorem dX10_mostSeated_5 : decode cX10_mostSeated 5 = .ok (.invokevirtual 79, 3) := by decide +kernel
theorem dX10_mostSeated_8 : decode cX10_mostSeated 8 = .ok (.ifCond .eq 5, 3) := by decide +kernel
def vX10_mostSeated : List Cond := .code yX10_mostSeated cX10_mostSeated 3 (some .int) :: ([.methodLink RX10 216 yX10_pierTrouble, .instanceMethod yX10_pierTrouble, .selects RX10 yX10_pierTrouble yX10_pierTrouble, .initialized RX10, .code yX10_pierTrouble cX10_pierTrouble 1 (some .int), .fieldLink RX10 10 "HookPier" "plan" "LHookPier$Plan;", .fieldLink RX10 233 "HookPier$Plan" "spots" "I", .methodLink RX10 79 yX10_refused, .instanceMethod yX10_refused, .selects RX10 yX10_refused yX10_refused, .code yX10_refused cX10_refused 2 (some .boolean), .fieldLink RX10 61 "HookPier" "troubleNow" "I"] ++ wsX100 ++ wsX60)
theorem iX10_mostSeated_X10 : ∀ w ∈ wsX100, w ∈ vX10_mostSeated := fun _ h => List.mem_cons_of_mem _ (List.mem_append_left _ (List.mem_append_right _ h))
theorem iX10_mostSeated_X6 : ∀ w ∈ wsX60, w ∈ vX10_mostSeated := fun _ h => List.mem_cons_of_mem _ (List.mem_append_right _ h)
set_option maxRecDepth 20000 in
theorem gX10_mostSeated_0 : GoodIn vX10_mostSeated (wsV RX10 216 RX10 yX10_pierTrouble vX10_pierTrouble) := goodIn_app (goodIn_r [.methodLink RX10 216 yX10_pierTrouble, .instanceMethod yX10_pierTrouble, .selects RX10 yX10_pierTrouble yX10_pierTrouble, .initialized RX10] [1, 2, 3, 4] (by decide +kernel) (by decide +kernel)) (goodIn_ca (goodIn_ca (goodIn_r (.code yX10_pierTrouble cX10_pierTrouble 1 (some .int) :: [.fieldLink RX10 10 "HookPier" "plan" "LHookPier$Plan;", .fieldLink RX10 233 "HookPier$Plan" "spots" "I"]) [5, 6, 7] (by decide +kernel) (by decide +kernel) : GoodIn vX10_mostSeated (.code yX10_pierTrouble cX10_pierTrouble 1 (some .int) :: [.fieldLink RX10 10 "HookPier" "plan" "LHookPier$Plan;", .fieldLink RX10 233 "HookPier$Plan" "spots" "I"])) (goodIn_sub iX10_mostSeated_X10 (by decide +kernel))) (goodIn_sub iX10_mostSeated_X6 (by decide +kernel)))
set_option maxRecDepth 20000 in
theorem gX10_mostSeated_1 : GoodIn vX10_mostSeated (wsV RX10 79 RX10 yX10_refused vX10_refused_3) := goodIn_app (goodIn_r [.methodLink RX10 79 yX10_refused, .instanceMethod yX10_refused, .selects RX10 yX10_refused yX10_refused, .initialized RX10] [8, 9, 10, 4] (by decide +kernel) (by decide +kernel)) (goodIn_ca (goodIn_r (.code yX10_refused cX10_refused 2 (some .boolean) :: [.fieldLink RX10 61 "HookPier" "troubleNow" "I"]) [11, 12] (by decide +kernel) (by decide +kernel) : GoodIn vX10_mostSeated (.code yX10_refused cX10_refused 2 (some .boolean) :: [.fieldLink RX10 61 "HookPier" "troubleNow" "I"])) (goodIn_sub iX10_mostSeated_X10 (by decide +kernel)))
set_option maxHeartbeats 1000000 in
set_option maxRecDepth 100000 in
theorem kX10_mostSeated (l : Launch) (dC : Nat → ClassId) (dI : Nat → Nat → Nat) (a0 : Nat) (a1 : Nat) (g2 : Value) (g3 : Value) (g4 : Value) (g5 : Value) (g6 : Value) (g7 : Value) (g8 : Value) (g9 : Value) (g10 : Value) (g11 : Value) (g12 : Value) (g13 : Value) (g14 : Value) (g15 : Value) (g16 : Value) (g17 : Value) (g18 : Value) (g19 : Value) (g20 : Value) (g21 : Value) (g22 : Value) (g23 : Value) (g24 : Value) (g25 : Value) (g26 : Value) (g27 : Value) (sz : Nat) : Met l yX10_mostSeated vX10_mostSeated ({ frames := 1, cells := 0, slots := 0, locals := 21 }) (PC (dC, dI) [.ref a0] sz [(a0, .inr (7, [.ref a1, g2, g3, g4, g5, g6, g7, g8, g9, g10])), (a1, .inr (4, [.int 0, g11, g12, g13, g14, g15, g16, g17, g18, g19, g20, g21, g22, g23, g24, g25, g26, g27]))] []) (va_Qi (S := Unit) (fun (r : Int32) _ => r = (-1)) (fun _ t => BC (dC, dI) (va_A [(a0, .inr (7, [.ref a1, g2, g3, g4, g5, g6, g7, g8, g9, g10])), (a1, .inr (4, [.int 0, g11, g12, g13, g14, g15, g16, g17, g18, g19, g20, g21, g22, g23, g24, g25, g26, g27]))] sz) [] [] t) (va_A [(a0, .inr (7, [.ref a1, g2, g3, g4, g5, g6, g7, g8, g9, g10])), (a1, .inr (4, [.int 0, g11, g12, g13, g14, g15, g16, g17, g18, g19, g20, g21, g22, g23, g24, g25, g26, g27]))] sz)) 0 0 (va_A [(a0, .inr (7, [.ref a1, g2, g3, g4, g5, g6, g7, g8, g9, g10])), (a1, .inr (4, [.int 0, g11, g12, g13, g14, g15, g16, g17, g18, g19, g20, g21, g22, g23, g24, g25, g26, g27]))] sz) := by
  refine Met.ofW (cc := cX10_mostSeated) (maxL := 3) (ret := (some .int)) (by decide) rfl ?_
  intro p e s m args below meth c s₁ B hml hv
  obtain ⟨rfl, hsz, hP, hK, hD0, hN⟩ := hv
  have hx := B.exec
  have hb := B.bytes
  have hr := B.returns
  have hts := atoms_spec (ws := vX10_mostSeated) B.pre
  have hown : s.vm.findClass RX10 = some m.cls := findClass_of_methodNamed B.named
  have hlocks := B.notSynchronized
  subst hsz
  have hD := hD0.self (sz := s.heap.size)
  generalize hAe : va_A [(a0, .inr (7, [.ref a1, g2, g3, g4, g5, g6, g7, g8, g9, g10])), (a1, .inr (4, [.int 0, g11, g12, g13, g14, g15, g16, g17, g18, g19, g20, g21, g22, g23, g24, g25, g26, g27]))] s.heap.size = A at hD ⊢
  have hA : ∀ q : Nat, s.heap.size ≤ q → A q := fun q h => by rw [← hAe]; exact Or.inr h
  have hS : va_S A s.heap s.heap [] := va_S.rf
  have hP : va_P (dC, dI) vwCl [(a0, .inr (7, [.ref a1, g2, g3, g4, g5, g6, g7, g8, g9, g10])), (a1, .inr (4, [.int 0, g11, g12, g13, g14, g15, g16, g17, g18, g19, g20, g21, g22, g23, g24, g25, g26, g27]))] s.heap := hP
  have hl := lv_entry ([.ref a0]) (n := 3) (Nat.le_of_ble_eq_true rfl)
  rw [lg_entry_eq]
  generalize (lg_sl ([.ref a0]) ++ List.replicate (3 - (lg_sl ([.ref a0])).length) Slot.unset).toArray = ls at hl ⊢
  have hl : lv_has ls 3 [(0, .ref a0)] := hl
  refine lv_aload_n hx hb dX10_mostSeated_0 rfl (lv_at hl 0 rfl) ?_
  refine lv_aload_n hx hb dX10_mostSeated_1 rfl (lv_at hl 0 rfl) ?_
  refine cl_i (wc := [(a0, .inr (7, [.ref a1, g2, g3, g4, g5, g6, g7, g8, g9, g10])), (a1, .inr (4, [.int 0, g11, g12, g13, g14, g15, g16, g17, g18, g19, g20, g21, g22, g23, g24, g25, g26, g27]))]) (wr := []) (va_runV (As := []) (rest := [.ref a0]) ⟨hx, hb, hml, hown, hts⟩ (kX10_pierTrouble l dC dI a0 a1 (g2) (g3) (g4) (g5) (g6) (g7) (g8) (g9) (g10) (g11) (g12) (g13) (g14) (g15) (g16) (g17) (g18) (g19) (g20) (g21) (g22) (g23) (g24) (g25) (g26) (g27) s.heap.size) (cwV 0 hts gX10_mostSeated_0 rfl rfl rfl (by decide +kernel) ⟨Nat.le_of_ble_eq_true rfl, Nat.le_of_ble_eq_true rfl⟩) (PV (hP.sub (ws' := [(a0, .inr (7, [.ref a1, g2, g3, g4, g5, g6, g7, g8, g9, g10])), (a1, .inr (4, [.int 0, g11, g12, g13, g14, g15, g16, g17, g18, g19, g20, g21, g22, g23, g24, g25, g26, g27]))]) [0, 1] rfl) (hK.sub (tys' := []) [] rfl) (hD.sub (ws' := [(a0, .inr (7, [.ref a1, g2, g3, g4, g5, g6, g7, g8, g9, g10])), (a1, .inr (4, [.int 0, g11, g12, g13, g14, g15, g16, g17, g18, g19, g20, g21, g22, g23, g24, g25, g26, g27]))]) [0, 1] (by decide) rfl) hN 0 rfl rfl) rfl rfl hl.1 rfl (lv_room (Nat.le_of_ble_eq_true rfl)) dX10_mostSeated_2 ⟨Nat.le_of_ble_eq_true rfl, Nat.le_of_ble_eq_true rfl⟩) hP hD hK hS hA [0, 1] [] rfl rfl (by decide) (by decide) (fun z1 _u H locs hw hP hD hK hS => ?_)
  have hP : va_P (dC, dI) vwCl [(a0, .inr (7, [.ref a1, g2, g3, g4, g5, g6, g7, g8, g9, g10])), (a1, .inr (4, [.int 0, g11, g12, g13, g14, g15, g16, g17, g18, g19, g20, g21, g22, g23, g24, g25, g26, g27]))] H := hP
  have hD : va_D A [(a0, .inr (7, [.ref a1, g2, g3, g4, g5, g6, g7, g8, g9, g10])), (a1, .inr (4, [.int 0, g11, g12, g13, g14, g15, g16, g17, g18, g19, g20, g21, g22, g23, g24, g25, g26, g27]))] := hD
  have hK : va_K (dC, dI) vwCl [] s := hK
  obtain rfl : z1 = 1 := hw
  refine cl_i (wc := [(a0, .inr (7, [.ref a1, g2, g3, g4, g5, g6, g7, g8, g9, g10]))]) (wr := [(a1, .inr (4, [.int 0, g11, g12, g13, g14, g15, g16, g17, g18, g19, g20, g21, g22, g23, g24, g25, g26, g27]))]) (va_runV (As := [.int 1]) (rest := []) ⟨hx, hb, hml, hown, hts⟩ (kX10_refused_3 l dC dI a0 (.ref a1) (g2) (g3) (g4) (g5) (g6) (g7) (g8) (g9) (g10) H.size) (cwV 1 hts gX10_mostSeated_1 rfl rfl rfl (by decide +kernel) ⟨Nat.le_of_ble_eq_true rfl, Nat.le_of_ble_eq_true rfl⟩) (PV (hP.sub (ws' := [(a0, .inr (7, [.ref a1, g2, g3, g4, g5, g6, g7, g8, g9, g10]))]) [0] rfl) (hK.sub (tys' := []) [] rfl) (hD.sub (ws' := [(a0, .inr (7, [.ref a1, g2, g3, g4, g5, g6, g7, g8, g9, g10]))]) [0] (by decide) rfl) hN 0 rfl rfl) rfl rfl hl.1 rfl (lv_room (Nat.le_of_ble_eq_true rfl)) dX10_mostSeated_5 ⟨Nat.le_of_ble_eq_true rfl, Nat.le_of_ble_eq_true rfl⟩) hP hD hK hS hA [0] [1] rfl rfl (by decide) (by decide) (fun z2 _u H locs hw hP hD hK hS => ?_)
  have hP : va_P (dC, dI) vwCl [(a1, .inr (4, [.int 0, g11, g12, g13, g14, g15, g16, g17, g18, g19, g20, g21, g22, g23, g24, g25, g26, g27])), (a0, .inr (7, [.ref a1, g2, g3, g4, g5, g6, g7, g8, .int 1, g10]))] H := hP
  have hD : va_D A [(a1, .inr (4, [.int 0, g11, g12, g13, g14, g15, g16, g17, g18, g19, g20, g21, g22, g23, g24, g25, g26, g27])), (a0, .inr (7, [.ref a1, g2, g3, g4, g5, g6, g7, g8, .int 1, g10]))] := hD
  have hK : va_K (dC, dI) vwCl [] s := hK
  obtain rfl : z2 = 1 := hw
  refine lv_if_eq (tgt := 13) hx hb dX10_mostSeated_8 (by decide) (fun c3 => absurd c3 (by decide)) (fun _ => ?_)
  refine lv_iconst (v := (-1)) hx hb dX10_mostSeated_11 (by decide) ?_
  have hP9 := hP.sub (ws' := []) [] rfl
  have hD9 := hD.sub (ws' := []) [] (by decide) rfl
  have hK9 := hK.sub (tys' := []) [] rfl
  exact W.iret (v := (-1)) hx hb hr (fun t ht hW => ⟨⟨(-1), (), rfl, rfl, by rw [ht]; exact hP9, va_K.moved hW.alike hK9, hD9⟩, hS.F ht⟩) hS.2.2 dX10_mostSeated_12
theorem dX12_mostSeated_0 : decode cX12_mostSeated 0 = .ok (.aload_n 0, 1) := by decide +kernel
theorem dX12_mostSeated_1 : decode cX12_mostSeated 1 = .ok (.iconst 0, 1) := by decide +kernel
theorem dX12_mostSeated_12 : decode cX12_mostSeated 12 = .ok (.aload_n 0, 1) := by decide +kernel
theorem dX12_mostSeated_13 : decode cX12_mostSeated 13 = .ok (.iconst 1, 1) := by decide +kernel
theorem dX12_mostSeated_14 : decode cX12_mostSeated 14 = .ok (.invokevirtual 42, 3) := by decide +kernel
theorem dX12_mostSeated_17 : decode cX12_mostSeated 17 = .ok (.ireturn, 1) := by decide +kernel
theorem dX12_mostSeated_2 : decode cX12_mostSeated 2 = .ok (.putfield 36, 3) := by decide +kernel
theorem dX12_mostSeated_5 : decode cX12_mostSeated 5 = .ok (.aload_n 0, 1) := by decide +kernel
theorem dX12_mostSeated_6 : decode cX12_mostSeated 6 = .ok (.getfield 299, 3) := by decide +kernel
theorem dX12_mostSeated_9 : decode cX12_mostSeated 9 = .ok (.ifnonnull 9, 3) := by decide +kernel
def vX12_mostSeated : List Cond := .code yX12_mostSeated cX12_mostSeated 3 (some .int) :: ([.fieldLink RX12 36 "HookPierModel" "thrown" "I", .fieldLink RX12 299 "HookPierModel" "pier" "LHookPierModel$Pier;", .methodLink RX12 42 yX12_refused, .instanceMethod yX12_refused, .selects RX12 yX12_refused yX12_refused, .initialized RX12, .code yX12_refused cX12_refused 2 (some .int), .fieldLink RX12 39 "HookPierModel" "trouble" "I", .fieldLink RX12 9 "HookPierModel" "where" "I"] ++ wsX120)
theorem iX12_mostSeated_X12 : ∀ w ∈ wsX120, w ∈ vX12_mostSeated := fun _ h => List.mem_cons_of_mem _ (List.mem_append_right _ h)
set_option maxRecDepth 20000 in
theorem gX12_mostSeated_0 : GoodIn vX12_mostSeated (wsV RX12 42 RX12 yX12_refused vX12_refused_1) := goodIn_app (goodIn_r [.methodLink RX12 42 yX12_refused, .instanceMethod yX12_refused, .selects RX12 yX12_refused yX12_refused, .initialized RX12] [3, 4, 5, 6] (by decide +kernel) (by decide +kernel)) (goodIn_ca (goodIn_r (.code yX12_refused cX12_refused 2 (some .int) :: [.fieldLink RX12 39 "HookPierModel" "trouble" "I", .fieldLink RX12 9 "HookPierModel" "where" "I"]) [7, 8, 9] (by decide +kernel) (by decide +kernel) : GoodIn vX12_mostSeated (.code yX12_refused cX12_refused 2 (some .int) :: [.fieldLink RX12 39 "HookPierModel" "trouble" "I", .fieldLink RX12 9 "HookPierModel" "where" "I"])) (goodIn_sub iX12_mostSeated_X12 (by decide +kernel)))
set_option maxHeartbeats 1000000 in
set_option maxRecDepth 100000 in
theorem kX12_mostSeated (l : Launch) (dC : Nat → ClassId) (dI : Nat → Nat → Nat) (a0 : Nat) (g1 : Value) (g2 : Value) (g3 : Value) (g4 : Value) (g5 : Value) (g6 : Value) (g7 : Value) (g8 : Value) (g9 : Value) (g10 : Value) (g11 : Value) (g12 : Value) (g13 : Value) (g14 : Value) (g15 : Value) (g16 : Value) (g17 : Value) (g18 : Value) (g19 : Value) (g20 : Value) (g21 : Value) (g22 : Value) (g23 : Value) (g24 : Value) (g25 : Value) (g26 : Value) (g27 : Value) (g28 : Value) (g29 : Value) (sz : Nat) : Met l yX12_mostSeated vX12_mostSeated ({ frames := 1, cells := 0, slots := 0, locals := 21 }) (PC (dC, dI) [.ref a0] sz [(a0, .inr (9, [g1, g2, g3, .null, g4, g5, g6, g7, g8, g9, g10, g11, g12, g13, g14, g15, g16, g17, g18, g19, g20, g21, g22, g23, g24, g25, g26, g27, g28, g29]))] []) (va_Qi (S := Unit) (fun (r : Int32) _ => r = (-1)) (fun _ t => BC (dC, dI) (va_A [(a0, .inr (9, [g1, g2, g3, .null, g4, g5, g6, g7, g8, g9, g10, g11, g12, g13, g14, g15, g16, g17, g18, g19, g20, g21, g22, g23, g24, g25, g26, g27, g28, g29]))] sz) [] [] t) (va_A [(a0, .inr (9, [g1, g2, g3, .null, g4, g5, g6, g7, g8, g9, g10, g11, g12, g13, g14, g15, g16, g17, g18, g19, g20, g21, g22, g23, g24, g25, g26, g27, g28, g29]))] sz)) 0 0 (va_A [(a0, .inr (9, [g1, g2, g3, .null, g4, g5, g6, g7, g8, g9, g10, g11, g12, g13, g14, g15, g16, g17, g18, g19, g20, g21, g22, g23, g24, g25, g26, g27, g28, g29]))] sz) := by
  refine Met.ofW (cc := cX12_mostSeated) (maxL := 3) (ret := (some .int)) (by decide) rfl ?_
  intro p e s m args below meth c s₁ B hml hv
  obtain ⟨rfl, hsz, hP, hK, hD0, hN⟩ := hv
  have hx := B.exec
  have hb := B.bytes
  have hr := B.returns
  have hts := atoms_spec (ws := vX12_mostSeated) B.pre
  have hown : s.vm.findClass RX12 = some m.cls := findClass_of_methodNamed B.named
  have hlocks := B.notSynchronized
  subst hsz
  have hD := hD0.self (sz := s.heap.size)
  generalize hAe : va_A [(a0, .inr (9, [g1, g2, g3, .null, g4, g5, g6, g7, g8, g9, g10, g11, g12, g13, g14, g15, g16, g17, g18, g19, g20, g21, g22, g23, g24, g25, g26, g27, g28, g29]))] s.heap.size = A at hD ⊢
  have hA : ∀ q : Nat, s.heap.size ≤ q → A q := fun q h => by rw [← hAe]; exact Or.inr h
  have hS : va_S A s.heap s.heap [] := va_S.rf
  have hP : va_P (dC, dI) vwCl [(a0, .inr (9, [g1, g2, g3, .null, g4, g5, g6, g7, g8, g9, g10, g11, g12, g13, g14, g15, g16, g17, g18, g19, g20, g21, g22, g23, g24, g25, g26, g27, g28, g29]))] s.heap := hP
  have hl := lv_entry ([.ref a0]) (n := 3) (Nat.le_of_ble_eq_true rfl)
  rw [lg_entry_eq]
  generalize (lg_sl ([.ref a0]) ++ List.replicate (3 - (lg_sl ([.ref a0])).length) Slot.unset).toArray = ls at hl ⊢
  have hl : lv_has ls 3 [(0, .ref a0)] := hl
  refine lv_aload_n hx hb dX12_mostSeated_0 rfl (lv_at hl 0 rfl) ?_
  refine lv_iconst (v := 0) hx hb dX12_mostSeated_1 (by decide) ?_
  refine va_put (D := (dC, dI)) (ci := 9) (v := .int 0) (ty := .int) (C := RX12) (T := TX12) (N := 30) hx hb hts iX12_mostSeated_X12 tyX12 tyX12_ok nmX12 hown hK hP hD hS 0 rfl rfl 0 (by decide) (hts (.fieldLink RX12 36 "HookPierModel" "thrown" "I") (List.mem_of_getElem? (i := 1) rfl)) (fun _ h9 => h9) rfl (by decide +kernel) rfl rfl (Nat.le_of_ble_eq_true rfl) dX12_mostSeated_2 (fun H locs hP hD hS => ?_)
  have hP : va_P (dC, dI) vwCl [(a0, .inr (9, [.int 0, g2, g3, .null, g4, g5, g6, g7, g8, g9, g10, g11, g12, g13, g14, g15, g16, g17, g18, g19, g20, g21, g22, g23, g24, g25, g26, g27, g28, g29]))] H := hP
  have hD : va_D A [(a0, .inr (9, [.int 0, g2, g3, .null, g4, g5, g6, g7, g8, g9, g10, g11, g12, g13, g14, g15, g16, g17, g18, g19, g20, g21, g22, g23, g24, g25, g26, g27, g28, g29]))] := hD
  refine lv_aload_n hx hb dX12_mostSeated_5 rfl (lv_at hl 0 rfl) ?_
  refine va_get (D := (dC, dI)) (ci := 9) (v := .null) (C := RX12) (T := TX12) (N := 30) hx hb hts iX12_mostSeated_X12 hown hK hP 0 rfl rfl 3 (by decide) (hts (.fieldLink RX12 299 "HookPierModel" "pier" "LHookPierModel$Pier;") (List.mem_of_getElem? (i := 2) rfl)) (fun _ h9 => h9) rfl dX12_mostSeated_6 ?_
  refine lv_ifnonnullN hx hb dX12_mostSeated_9 ?_
  refine lv_aload_n hx hb dX12_mostSeated_12 rfl (lv_at hl 0 rfl) ?_
  refine lv_iconst (v := 1) hx hb dX12_mostSeated_13 (by decide) ?_
  refine cl_i (wc := [(a0, .inr (9, [.int 0, g2, g3, .null, g4, g5, g6, g7, g8, g9, g10, g11, g12, g13, g14, g15, g16, g17, g18, g19, g20, g21, g22, g23, g24, g25, g26, g27, g28, g29]))]) (wr := []) (va_runV (As := [.int 1]) (rest := []) ⟨hx, hb, hml, hown, hts⟩ (kX12_refused_1 l dC dI a0 (.int 0) (g2) (g3) (.null) (g4) (g5) (g6) (g7) (g8) (g9) (g10) (g11) (g12) (g13) (g14) (g15) (g16) (g17) (g18) (g19) (g20) (g21) (g22) (g23) (g24) (g25) (g26) (g27) (g28) (g29) H.size) (cwV 1 hts gX12_mostSeated_0 rfl rfl rfl (by decide +kernel) ⟨Nat.le_of_ble_eq_true rfl, Nat.le_of_ble_eq_true rfl⟩) (PV (hP.sub (ws' := [(a0, .inr (9, [.int 0, g2, g3, .null, g4, g5, g6, g7, g8, g9, g10, g11, g12, g13, g14, g15, g16, g17, g18, g19, g20, g21, g22, g23, g24, g25, g26, g27, g28, g29]))]) [0] rfl) (hK.sub (tys' := []) [] rfl) (hD.sub (ws' := [(a0, .inr (9, [.int 0, g2, g3, .null, g4, g5, g6, g7, g8, g9, g10, g11, g12, g13, g14, g15, g16, g17, g18, g19, g20, g21, g22, g23, g24, g25, g26, g27, g28, g29]))]) [0] (by decide) rfl) hN 0 rfl rfl) rfl rfl hl.1 rfl (lv_room (Nat.le_of_ble_eq_true rfl)) dX12_mostSeated_14 ⟨Nat.le_of_ble_eq_true rfl, Nat.le_of_ble_eq_true rfl⟩) hP hD hK hS hA [0] [] rfl rfl (by decide) (by decide) (fun z1 _u H locs hw hP hD hK hS => ?_)
  have hP : va_P (dC, dI) vwCl [(a0, .inr (9, [.int 0, .int 1, .int (-1), .null, g4, g5, g6, g7, g8, g9, g10, g11, g12, g13, g14, g15, g16, g17, g18, g19, g20, g21, g22, g23, g24, g25, g26, g27, g28, g29]))] H := hP
  have hD : va_D A [(a0, .inr (9, [.int 0, .int 1, .int (-1), .null, g4, g5, g6, g7, g8, g9, g10, g11, g12, g13, g14, g15, g16, g17, g18, g19, g20, g21, g22, g23, g24, g25, g26, g27, g28, g29]))] := hD
  have hK : va_K (dC, dI) vwCl [] s := hK
  obtain rfl : z1 = (-1) := hw
  have hP9 := hP.sub (ws' := []) [] rfl
  have hD9 := hD.sub (ws' := []) [] (by decide) rfl
  have hK9 := hK.sub (tys' := []) [] rfl
  exact W.iret (v := (-1)) hx hb hr (fun t ht hW => ⟨⟨(-1), (), rfl, rfl, by rw [ht]; exact hP9, va_K.moved hW.alike hK9, hD9⟩, hS.F ht⟩) hS.2.2 dX12_mostSeated_17
theorem dX10_darkTrouble_0 : decode cX10_darkTrouble 0 = .ok (.aload_n 0, 1) := by decide +kernel
theorem dX10_darkTrouble_1 : decode cX10_darkTrouble 1 = .ok (.invokevirtual 216, 3) := by decide +kernel
theorem dX10_darkTrouble_25 : decode cX10_darkTrouble 25 = .ok (.iload_n 1, 1) := by decide +kernel
theorem dX10_darkTrouble_26 : decode cX10_darkTrouble 26 = .ok (.ireturn, 1) := by decide +kernel
theorem dX10_darkTrouble_4 : decode cX10_darkTrouble 4 = .ok (.istore_n 1, 1) := by decide +kernel
theorem dX10_darkTrouble_5 : decode cX10_darkTrouble 5 = .ok (.iload_n 1, 1) := by decide +kernel
theorem dX10_darkTrouble_6 : decode cX10_darkTrouble 6 = .ok (.ifCond .ne 19, 3) := by decide +kernel
def vX10_darkTrouble : List Cond := .code yX10_darkTrouble cX10_darkTrouble 2 (some .int) :: ([.methodLink RX10 216 yX10_pierTrouble, .instanceMethod yX10_pierTrouble, .selects RX10 yX10_pierTrouble yX10_pierTrouble, .initialized RX10, .code yX10_pierTrouble cX10_pierTrouble 1 (some .int), .fieldLink RX10 10 "HookPier" "plan" "LHookPier$Plan;", .fieldLink RX10 233 "HookPier$Plan" "spots" "I"] ++ wsX100 ++ wsX60)
theorem iX10_darkTrouble_X10 : ∀ w ∈ wsX100, w ∈ vX10_darkTrouble := fun _ h => List.mem_cons_of_mem _ (List.mem_append_left _ (List.mem_append_right _ h))
theorem iX10_darkTrouble_X6 : ∀ w ∈ wsX60, w ∈ vX10_darkTrouble := fun _ h => List.mem_cons_of_mem _ (List.mem_append_right _ h)
set_option maxRecDepth 20000 in
theorem gX10_darkTrouble_0 : GoodIn vX10_darkTrouble (wsV RX10 216 RX10 yX10_pierTrouble vX10_pierTrouble) := goodIn_app (goodIn_r [.methodLink RX10 216 yX10_pierTrouble, .instanceMethod yX10_pierTrouble, .selects RX10 yX10_pierTrouble yX10_pierTrouble, .initialized RX10] [1, 2, 3, 4] (by decide +kernel) (by decide +kernel)) (goodIn_ca (goodIn_ca (goodIn_r (.code yX10_pierTrouble cX10_pierTrouble 1 (some .int) :: [.fieldLink RX10 10 "HookPier" "plan" "LHookPier$Plan;", .fieldLink RX10 233 "HookPier$Plan" "spots" "I"]) [5, 6, 7] (by decide +kernel) (by decide +kernel) : GoodIn vX10_darkTrouble (.code yX10_pierTrouble cX10_pierTrouble 1 (some .int) :: [.fieldLink RX10 10 "HookPier" "plan" "LHookPier$Plan;", .fieldLink RX10 233 "HookPier$Plan" "spots" "I"])) (goodIn_sub iX10_darkTrouble_X10 (by decide +kernel))) (goodIn_sub iX10_darkTrouble_X6 (by decide +kernel)))
set_option maxHeartbeats 1000000 in
set_option maxRecDepth 100000 in
theorem kX10_darkTrouble (l : Launch) (dC : Nat → ClassId) (dI : Nat → Nat → Nat) (a0 : Nat) (a1 : Nat) (g2 : Value) (g3 : Value) (g4 : Value) (g5 : Value) (g6 : Value) (g7 : Value) (g8 : Value) (g9 : Value) (g10 : Value) (g11 : Value) (g12 : Value) (g13 : Value) (g14 : Value) (g15 : Value) (g16 : Value) (g17 : Value) (g18 : Value) (g19 : Value) (g20 : Value) (g21 : Value) (g22 : Value) (g23 : Value) (g24 : Value) (g25 : Value) (g26 : Value) (g27 : Value) (sz : Nat) : Met l yX10_darkTrouble vX10_darkTrouble ({ frames := 1, cells := 0, slots := 0, locals := 20 }) (PC (dC, dI) [.ref a0] sz [(a0, .inr (7, [.ref a1, g2, g3, g4, g5, g6, g7, g8, g9, g10])), (a1, .inr (4, [.int 0, g11, g12, g13, g14, g15, g16, g17, g18, g19, g20, g21, g22, g23, g24, g25, g26, g27]))] []) (va_Qi (S := Unit) (fun (r : Int32) _ => r = 1) (fun _ t => BC (dC, dI) (va_A [(a0, .inr (7, [.ref a1, g2, g3, g4, g5, g6, g7, g8, g9, g10])), (a1, .inr (4, [.int 0, g11, g12, g13, g14, g15, g16, g17, g18, g19, g20, g21, g22, g23, g24, g25, g26, g27]))] sz) [(a0, .inr (7, [.ref a1, g2, g3, g4, g5, g6, g7, g8, g9, g10])), (a1, .inr (4, [.int 0, g11, g12, g13, g14, g15, g16, g17, g18, g19, g20, g21, g22, g23, g24, g25, g26, g27]))] [] t) (va_A [(a0, .inr (7, [.ref a1, g2, g3, g4, g5, g6, g7, g8, g9, g10])), (a1, .inr (4, [.int 0, g11, g12, g13, g14, g15, g16, g17, g18, g19, g20, g21, g22, g23, g24, g25, g26, g27]))] sz)) 0 0 (va_A [(a0, .inr (7, [.ref a1, g2, g3, g4, g5, g6, g7, g8, g9, g10])), (a1, .inr (4, [.int 0, g11, g12, g13, g14, g15, g16, g17, g18, g19, g20, g21, g22, g23, g24, g25, g26, g27]))] sz) := by
  refine Met.ofW (cc := cX10_darkTrouble) (maxL := 2) (ret := (some .int)) (by decide) rfl ?_
  intro p e s m args below meth c s₁ B hml hv
  obtain ⟨rfl, hsz, hP, hK, hD0, hN⟩ := hv
  have hx := B.exec
  have hb := B.bytes
  have hr := B.returns
  have hts := atoms_spec (ws := vX10_darkTrouble) B.pre
  have hown : s.vm.findClass RX10 = some m.cls := findClass_of_methodNamed B.named
  have hlocks := B.notSynchronized
  subst hsz
  have hD := hD0.self (sz := s.heap.size)
  generalize hAe : va_A [(a0, .inr (7, [.ref a1, g2, g3, g4, g5, g6, g7, g8, g9, g10])), (a1, .inr (4, [.int 0, g11, g12, g13, g14, g15, g16, g17, g18, g19, g20, g21, g22, g23, g24, g25, g26, g27]))] s.heap.size = A at hD ⊢
  have hA : ∀ q : Nat, s.heap.size ≤ q → A q := fun q h => by rw [← hAe]; exact Or.inr h
  have hS : va_S A s.heap s.heap [] := va_S.rf
  have hP : va_P (dC, dI) vwCl [(a0, .inr (7, [.ref a1, g2, g3, g4, g5, g6, g7, g8, g9, g10])), (a1, .inr (4, [.int 0, g11, g12, g13, g14, g15, g16, g17, g18, g19, g20, g21, g22, g23, g24, g25, g26, g27]))] s.heap := hP
  have hl := lv_entry ([.ref a0]) (n := 2) (Nat.le_of_ble_eq_true rfl)
  rw [lg_entry_eq]
  generalize (lg_sl ([.ref a0]) ++ List.replicate (2 - (lg_sl ([.ref a0])).length) Slot.unset).toArray = ls at hl ⊢
  have hl : lv_has ls 2 [(0, .ref a0)] := hl
  refine lv_aload_n hx hb dX10_darkTrouble_0 rfl (lv_at hl 0 rfl) ?_
  refine cl_i (wc := [(a0, .inr (7, [.ref a1, g2, g3, g4, g5, g6, g7, g8, g9, g10])), (a1, .inr (4, [.int 0, g11, g12, g13, g14, g15, g16, g17, g18, g19, g20, g21, g22, g23, g24, g25, g26, g27]))]) (wr := []) (va_runV (As := []) (rest := []) ⟨hx, hb, hml, hown, hts⟩ (kX10_pierTrouble l dC dI a0 a1 (g2) (g3) (g4) (g5) (g6) (g7) (g8) (g9) (g10) (g11) (g12) (g13) (g14) (g15) (g16) (g17) (g18) (g19) (g20) (g21) (g22) (g23) (g24) (g25) (g26) (g27) s.heap.size) (cwV 0 hts gX10_darkTrouble_0 rfl rfl rfl (by decide +kernel) ⟨Nat.le_of_ble_eq_true rfl, Nat.le_of_ble_eq_true rfl⟩) (PV (hP.sub (ws' := [(a0, .inr (7, [.ref a1, g2, g3, g4, g5, g6, g7, g8, g9, g10])), (a1, .inr (4, [.int 0, g11, g12, g13, g14, g15, g16, g17, g18, g19, g20, g21, g22, g23, g24, g25, g26, g27]))]) [0, 1] rfl) (hK.sub (tys' := []) [] rfl) (hD.sub (ws' := [(a0, .inr (7, [.ref a1, g2, g3, g4, g5, g6, g7, g8, g9, g10])), (a1, .inr (4, [.int 0, g11, g12, g13, g14, g15, g16, g17, g18, g19, g20, g21, g22, g23, g24, g25, g26, g27]))]) [0, 1] (by decide) rfl) hN 0 rfl rfl) rfl rfl hl.1 rfl (lv_room (Nat.le_of_ble_eq_true rfl)) dX10_darkTrouble_1 ⟨Nat.le_of_ble_eq_true rfl, Nat.le_of_ble_eq_true rfl⟩) hP hD hK hS hA [0, 1] [] rfl rfl (by decide) (by decide) (fun z1 _u H locs hw hP hD hK hS => ?_)
  have hP : va_P (dC, dI) vwCl [(a0, .inr (7, [.ref a1, g2, g3, g4, g5, g6, g7, g8, g9, g10])), (a1, .inr (4, [.int 0, g11, g12, g13, g14, g15, g16, g17, g18, g19, g20, g21, g22, g23, g24, g25, g26, g27]))] H := hP
  have hD : va_D A [(a0, .inr (7, [.ref a1, g2, g3, g4, g5, g6, g7, g8, g9, g10])), (a1, .inr (4, [.int 0, g11, g12, g13, g14, g15, g16, g17, g18, g19, g20, g21, g22, g23, g24, g25, g26, g27]))] := hD
  have hK : va_K (dC, dI) vwCl [] s := hK
  obtain rfl : z1 = 1 := hw
  refine lv_istore_n (lv' := [(1, .int 1), (0, .ref a0)]) hx hb dX10_darkTrouble_4 rfl hl (by decide) rfl (fun ls hl => ?_)
  refine lv_iload_n hx hb dX10_darkTrouble_5 rfl (lv_at hl 0 rfl) ?_
  refine lv_if_ne (tgt := 25) hx hb dX10_darkTrouble_6 (by decide) (fun _ => ?_) (fun c2 => absurd c2 (by decide))
  refine lv_iload_n hx hb dX10_darkTrouble_25 rfl (lv_at hl 0 rfl) ?_
  have hP9 := hP.sub (ws' := [(a0, .inr (7, [.ref a1, g2, g3, g4, g5, g6, g7, g8, g9, g10])), (a1, .inr (4, [.int 0, g11, g12, g13, g14, g15, g16, g17, g18, g19, g20, g21, g22, g23, g24, g25, g26, g27]))]) [0, 1] rfl
  have hD9 := hD.sub (ws' := [(a0, .inr (7, [.ref a1, g2, g3, g4, g5, g6, g7, g8, g9, g10])), (a1, .inr (4, [.int 0, g11, g12, g13, g14, g15, g16, g17, g18, g19, g20, g21, g22, g23, g24, g25, g26, g27]))]) [0, 1] (by decide) rfl
  have hK9 := hK.sub (tys' := []) [] rfl
  exact W.iret (v := 1) hx hb hr (fun t ht hW => ⟨⟨1, (), rfl, rfl, by rw [ht]; exact hP9, va_K.moved hW.alike hK9, hD9⟩, hS.F ht⟩) hS.2.2 dX10_darkTrouble_26
theorem dX10_darks_0 : decode cX10_darks 0 = .ok (.aload_n 0, 1) := by decide +kernel
theorem dX10_darks_1 : decode cX10_darks 1 = .ok (.aload_n 0, 1) := by decide +kernel
theorem dX10_darks_11 : decode cX10_darks 11 = .ok (.iconst (-1), 1) := by decide +kernel
theorem dX10_darks_12 : decode cX10_darks 12 = .ok (.ireturn, 1) := by decide +kernel
theorem dX10_darks_2 : decode cX10_darks 2 = .ok (.invokevirtual 264, 3) := by decide +kernel
theorem dX10_darks_5 : decode cX10_darks 5 = .ok (.invokevirtual 79, 3) := by decide +kernel
theorem dX10_darks_8 : decode cX10_darks 8 = .ok (.ifCond .eq 5, 3) := by decide +kernel
def vX10_darks : List Cond := .code yX10_darks cX10_darks 1 (some .int) :: ([.methodLink RX10 264 yX10_darkTrouble, .instanceMethod yX10_darkTrouble, .selects RX10 yX10_darkTrouble yX10_darkTrouble, .initialized RX10, .code yX10_darkTrouble cX10_darkTrouble 2 (some .int), .methodLink RX10 216 yX10_pierTrouble, .instanceMethod yX10_pierTrouble, .selects RX10 yX10_pierTrouble yX10_pierTrouble, .code yX10_pierTrouble cX10_pierTrouble 1 (some .int), .fieldLink RX10 10 "HookPier" "plan" "LHookPier$Plan;", .fieldLink RX10 233 "HookPier$Plan" "spots" "I", .methodLink RX10 79 yX10_refused, .instanceMethod yX10_refused, .selects RX10 yX10_refused yX10_refused, .code yX10_refused cX10_refused 2 (some .boolean), .fieldLink RX10 61 "HookPier" "troubleNow" "I"] ++ wsX100 ++ wsX60)
theorem iX10_darks_X10 : ∀ w ∈ wsX100, w ∈ vX10_darks := fun _ h => List.mem_cons_of_mem _ (List.mem_append_left _ (List.mem_append_right _ h))
theorem iX10_darks_X6 : ∀ w ∈ wsX60, w ∈ vX10_darks := fun _ h => List.mem_cons_of_mem _ (List.mem_append_right _ h)
set_option maxRecDepth 20000 in
theorem gX10_darks_0 : GoodIn vX10_darks (wsV RX10 264 RX10 yX10_darkTrouble vX10_darkTrouble) := goodIn_app (goodIn_r [.methodLink RX10 264 yX10_darkTrouble, .instanceMethod yX10_darkTrouble, .selects RX10 yX10_darkTrouble yX10_darkTrouble, .initialized RX10] [1, 2, 3, 4] (by decide +kernel) (by decide +kernel)) (goodIn_ca (goodIn_ca (goodIn_r (.code yX10_darkTrouble cX10_darkTrouble 2 (some .int) :: [.methodLink RX10 216 yX10_pierTrouble, .instanceMethod yX10_pierTrouble, .selects RX10 yX10_pierTrouble yX10_pierTrouble, .initialized RX10, .code yX10_pierTrouble cX10_pierTrouble 1 (some .int), .fieldLink RX10 10 "HookPier" "plan" "LHookPier$Plan;", .fieldLink RX10 233 "HookPier$Plan" "spots" "I"]) [5, 6, 7, 8, 4, 9, 10, 11] (by decide +kernel) (by decide +kernel) : GoodIn vX10_darks (.code yX10_darkTrouble cX10_darkTrouble 2 (some .int) :: [.methodLink RX10 216 yX10_pierTrouble, .instanceMethod yX10_pierTrouble, .selects RX10 yX10_pierTrouble yX10_pierTrouble, .initialized RX10, .code yX10_pierTrouble cX10_pierTrouble 1 (some .int), .fieldLink RX10 10 "HookPier" "plan" "LHookPier$Plan;", .fieldLink RX10 233 "HookPier$Plan" "spots" "I"])) (goodIn_sub iX10_darks_X10 (by decide +kernel))) (goodIn_sub iX10_darks_X6 (by decide +kernel)))
set_option maxRecDepth 20000 in
theorem gX10_darks_1 : GoodIn vX10_darks (wsV RX10 79 RX10 yX10_refused vX10_refused_3) := goodIn_app (goodIn_r [.methodLink RX10 79 yX10_refused, .instanceMethod yX10_refused, .selects RX10 yX10_refused yX10_refused, .initialized RX10] [12, 13, 14, 4] (by decide +kernel) (by decide +kernel)) (goodIn_ca (goodIn_r (.code yX10_refused cX10_refused 2 (some .boolean) :: [.fieldLink RX10 61 "HookPier" "troubleNow" "I"]) [15, 16] (by decide +kernel) (by decide +kernel) : GoodIn vX10_darks (.code yX10_refused cX10_refused 2 (some .boolean) :: [.fieldLink RX10 61 "HookPier" "troubleNow" "I"])) (goodIn_sub iX10_darks_X10 (by decide +kernel)))
set_option maxHeartbeats 1000000 in
set_option maxRecDepth 100000 in
theorem kX10_darks (l : Launch) (dC : Nat → ClassId) (dI : Nat → Nat → Nat) (a0 : Nat) (a1 : Nat) (g2 : Value) (g3 : Value) (g4 : Value) (g5 : Value) (g6 : Value) (g7 : Value) (g8 : Value) (g9 : Value) (g10 : Value) (g11 : Value) (g12 : Value) (g13 : Value) (g14 : Value) (g15 : Value) (g16 : Value) (g17 : Value) (g18 : Value) (g19 : Value) (g20 : Value) (g21 : Value) (g22 : Value) (g23 : Value) (g24 : Value) (g25 : Value) (g26 : Value) (g27 : Value) (sz : Nat) : Met l yX10_darks vX10_darks ({ frames := 2, cells := 0, slots := 0, locals := 41 }) (PC (dC, dI) [.ref a0] sz [(a0, .inr (7, [.ref a1, g2, g3, g4, g5, g6, g7, g8, g9, g10])), (a1, .inr (4, [.int 0, g11, g12, g13, g14, g15, g16, g17, g18, g19, g20, g21, g22, g23, g24, g25, g26, g27]))] []) (va_Qi (S := Unit) (fun (r : Int32) _ => r = (-1)) (fun _ t => BC (dC, dI) (va_A [(a0, .inr (7, [.ref a1, g2, g3, g4, g5, g6, g7, g8, g9, g10])), (a1, .inr (4, [.int 0, g11, g12, g13, g14, g15, g16, g17, g18, g19, g20, g21, g22, g23, g24, g25, g26, g27]))] sz) [] [] t) (va_A [(a0, .inr (7, [.ref a1, g2, g3, g4, g5, g6, g7, g8, g9, g10])), (a1, .inr (4, [.int 0, g11, g12, g13, g14, g15, g16, g17, g18, g19, g20, g21, g22, g23, g24, g25, g26, g27]))] sz)) 0 0 (va_A [(a0, .inr (7, [.ref a1, g2, g3, g4, g5, g6, g7, g8, g9, g10])), (a1, .inr (4, [.int 0, g11, g12, g13, g14, g15, g16, g17, g18, g19, g20, g21, g22, g23, g24, g25, g26, g27]))] sz) := by
  refine Met.ofW (cc := cX10_darks) (maxL := 1) (ret := (some .int)) (by decide) rfl ?_
  intro p e s m args below meth c s₁ B hml hv
  obtain ⟨rfl, hsz, hP, hK, hD0, hN⟩ := hv
  have hx := B.exec
  have hb := B.bytes
  have hr := B.returns
  have hts := atoms_spec (ws := vX10_darks) B.pre
  have hown : s.vm.findClass RX10 = some m.cls := findClass_of_methodNamed B.named
  have hlocks := B.notSynchronized
  subst hsz
  have hD := hD0.self (sz := s.heap.size)
  generalize hAe : va_A [(a0, .inr (7, [.ref a1, g2, g3, g4, g5, g6, g7, g8, g9, g10])), (a1, .inr (4, [.int 0, g11, g12, g13, g14, g15, g16, g17, g18, g19, g20, g21, g22, g23, g24, g25, g26, g27]))] s.heap.size = A at hD ⊢
  have hA : ∀ q : Nat, s.heap.size ≤ q → A q := fun q h => by rw [← hAe]; exact Or.inr h
  have hS : va_S A s.heap s.heap [] := va_S.rf
  have hP : va_P (dC, dI) vwCl [(a0, .inr (7, [.ref a1, g2, g3, g4, g5, g6, g7, g8, g9, g10])), (a1, .inr (4, [.int 0, g11, g12, g13, g14, g15, g16, g17, g18, g19, g20, g21, g22, g23, g24, g25, g26, g27]))] s.heap := hP
  have hl := lv_entry ([.ref a0]) (n := 1) (Nat.le_of_ble_eq_true rfl)
  rw [lg_entry_eq]
  generalize (lg_sl ([.ref a0]) ++ List.replicate (1 - (lg_sl ([.ref a0])).length) Slot.unset).toArray = ls at hl ⊢
  have hl : lv_has ls 1 [(0, .ref a0)] := hl
  refine lv_aload_n hx hb dX10_darks_0 rfl (lv_at hl 0 rfl) ?_
  refine lv_aload_n hx hb dX10_darks_1 rfl (lv_at hl 0 rfl) ?_
  refine cl_i (wc := [(a0, .inr (7, [.ref a1, g2, g3, g4, g5, g6, g7, g8, g9, g10])), (a1, .inr (4, [.int 0, g11, g12, g13, g14, g15, g16, g17, g18, g19, g20, g21, g22, g23, g24, g25, g26, g27]))]) (wr := []) (va_runV (As := []) (rest := [.ref a0]) ⟨hx, hb, hml, hown, hts⟩ (kX10_darkTrouble l dC dI a0 a1 (g2) (g3) (g4) (g5) (g6) (g7) (g8) (g9) (g10) (g11) (g12) (g13) (g14) (g15) (g16) (g17) (g18) (g19) (g20) (g21) (g22) (g23) (g24) (g25) (g26) (g27) s.heap.size) (cwV 0 hts gX10_darks_0 rfl rfl rfl (by decide +kernel) ⟨Nat.le_of_ble_eq_true rfl, Nat.le_of_ble_eq_true rfl⟩) (PV (hP.sub (ws' := [(a0, .inr (7, [.ref a1, g2, g3, g4, g5, g6, g7, g8, g9, g10])), (a1, .inr (4, [.int 0, g11, g12, g13, g14, g15, g16, g17, g18, g19, g20, g21, g22, g23, g24, g25, g26, g27]))]) [0, 1] rfl) (hK.sub (tys' := []) [] rfl) (hD.sub (ws' := [(a0, .inr (7, [.ref a1, g2, g3, g4, g5, g6, g7, g8, g9, g10])), (a1, .inr (4, [.int 0, g11, g12, g13, g14, g15, g16, g17, g18, g19, g20, g21, g22, g23, g24, g25, g26, g27]))]) [0, 1] (by decide) rfl) hN 0 rfl rfl) rfl rfl hl.1 rfl (lv_room (Nat.le_of_ble_eq_true rfl)) dX10_darks_2 ⟨Nat.le_of_ble_eq_true rfl, Nat.le_of_ble_eq_true rfl⟩) hP hD hK hS hA [0, 1] [] rfl rfl (by decide) (by decide) (fun z1 _u H locs hw hP hD hK hS => ?_)
  have hP : va_P (dC, dI) vwCl [(a0, .inr (7, [.ref a1, g2, g3, g4, g5, g6, g7, g8, g9, g10])), (a1, .inr (4, [.int 0, g11, g12, g13, g14, g15, g16, g17, g18, g19, g20, g21, g22, g23, g24, g25, g26, g27]))] H := hP
  have hD : va_D A [(a0, .inr (7, [.ref a1, g2, g3, g4, g5, g6, g7, g8, g9, g10])), (a1, .inr (4, [.int 0, g11, g12, g13, g14, g15, g16, g17, g18, g19, g20, g21, g22, g23, g24, g25, g26, g27]))] := hD
  have hK : va_K (dC, dI) vwCl [] s := hK
  obtain rfl : z1 = 1 := hw
  refine cl_i (wc := [(a0, .inr (7, [.ref a1, g2, g3, g4, g5, g6, g7, g8, g9, g10]))]) (wr := [(a1, .inr (4, [.int 0, g11, g12, g13, g14, g15, g16, g17, g18, g19, g20, g21, g22, g23, g24, g25, g26, g27]))]) (va_runV (As := [.int 1]) (rest := []) ⟨hx, hb, hml, hown, hts⟩ (kX10_refused_3 l dC dI a0 (.ref a1) (g2) (g3) (g4) (g5) (g6) (g7) (g8) (g9) (g10) H.size) (cwV 1 hts gX10_darks_1 rfl rfl rfl (by decide +kernel) ⟨Nat.le_of_ble_eq_true rfl, Nat.le_of_ble_eq_true rfl⟩) (PV (hP.sub (ws' := [(a0, .inr (7, [.ref a1, g2, g3, g4, g5, g6, g7, g8, g9, g10]))]) [0] rfl) (hK.sub (tys' := []) [] rfl) (hD.sub (ws' := [(a0, .inr (7, [.ref a1, g2, g3, g4, g5, g6, g7, g8, g9, g10]))]) [0] (by decide) rfl) hN 0 rfl rfl) rfl rfl hl.1 rfl (lv_room (Nat.le_of_ble_eq_true rfl)) dX10_darks_5 ⟨Nat.le_of_ble_eq_true rfl, Nat.le_of_ble_eq_true rfl⟩) hP hD hK hS hA [0] [1] rfl rfl (by decide) (by decide) (fun z2 _u H locs hw hP hD hK hS => ?_)
  have hP : va_P (dC, dI) vwCl [(a1, .inr (4, [.int 0, g11, g12, g13, g14, g15, g16, g17, g18, g19, g20, g21, g22, g23, g24, g25, g26, g27])), (a0, .inr (7, [.ref a1, g2, g3, g4, g5, g6, g7, g8, .int 1, g10]))] H := hP
  have hD : va_D A [(a1, .inr (4, [.int 0, g11, g12, g13, g14, g15, g16, g17, g18, g19, g20, g21, g22, g23, g24, g25, g26, g27])), (a0, .inr (7, [.ref a1, g2, g3, g4, g5, g6, g7, g8, .int 1, g10]))] := hD
  have hK : va_K (dC, dI) vwCl [] s := hK
  obtain rfl : z2 = 1 := hw
  refine lv_if_eq (tgt := 13) hx hb dX10_darks_8 (by decide) (fun c3 => absurd c3 (by decide)) (fun _ => ?_)
  refine lv_iconst (v := (-1)) hx hb dX10_darks_11 (by decide) ?_
  have hP9 := hP.sub (ws' := []) [] rfl
  have hD9 := hD.sub (ws' := []) [] (by decide) rfl
  have hK9 := hK.sub (tys' := []) [] rfl
  exact W.iret (v := (-1)) hx hb hr (fun t ht hW => ⟨⟨(-1), (), rfl, rfl, by rw [ht]; exact hP9, va_K.moved hW.alike hK9, hD9⟩, hS.F ht⟩) hS.2.2 dX10_darks_12
theorem dX12_refusesDark_0 : decode cX12_refusesDark 0 = .ok (.aload_n 0, 1) := by decide +kernel
theorem dX12_refusesDark_1 : decode cX12_refusesDark 1 = .ok (.getfield 299, 3) := by decide +kernel
theorem dX12_refusesDark_28 : decode cX12_refusesDark 28 = .ok (.ireturn, 1) := by decide +kernel
theorem dX12_refusesDark_4 : decode cX12_refusesDark 4 = .ok (.ifnonnull 7, 3) := by decide +kernel
theorem dX12_refusesDark_7 : decode cX12_refusesDark 7 = .ok (.iconst 1, 1) := by decide +kernel
theorem dX12_refusesDark_8 : decode cX12_refusesDark 8 = .ok (.goto 20, 3) := by decide +kernel
def vX12_refusesDark : List Cond := .code yX12_refusesDark cX12_refusesDark 1 (some .int) :: ([.fieldLink RX12 299 "HookPierModel" "pier" "LHookPierModel$Pier;"] ++ wsX120)
theorem iX12_refusesDark_X12 : ∀ w ∈ wsX120, w ∈ vX12_refusesDark := fun _ h => List.mem_cons_of_mem _ (List.mem_append_right _ h)
set_option maxHeartbeats 1000000 in
set_option maxRecDepth 100000 in
theorem kX12_refusesDark (l : Launch) (dC : Nat → ClassId) (dI : Nat → Nat → Nat) (a0 : Nat) (g1 : Value) (g2 : Value) (g3 : Value) (g4 : Value) (g5 : Value) (g6 : Value) (g7 : Value) (g8 : Value) (g9 : Value) (g10 : Value) (g11 : Value) (g12 : Value) (g13 : Value) (g14 : Value) (g15 : Value) (g16 : Value) (g17 : Value) (g18 : Value) (g19 : Value) (g20 : Value) (g21 : Value) (g22 : Value) (g23 : Value) (g24 : Value) (g25 : Value) (g26 : Value) (g27 : Value) (g28 : Value) (g29 : Value) (sz : Nat) : Met l yX12_refusesDark vX12_refusesDark ({ frames := 0, cells := 0, slots := 0, locals := 0 }) (PC (dC, dI) [.ref a0] sz [(a0, .inr (9, [g1, g2, g3, .null, g4, g5, g6, g7, g8, g9, g10, g11, g12, g13, g14, g15, g16, g17, g18, g19, g20, g21, g22, g23, g24, g25, g26, g27, g28, g29]))] []) (va_Qi (S := Unit) (fun (r : Int32) _ => r = 1) (fun _ t => BC (dC, dI) (va_A [(a0, .inr (9, [g1, g2, g3, .null, g4, g5, g6, g7, g8, g9, g10, g11, g12, g13, g14, g15, g16, g17, g18, g19, g20, g21, g22, g23, g24, g25, g26, g27, g28, g29]))] sz) [(a0, .inr (9, [g1, g2, g3, .null, g4, g5, g6, g7, g8, g9, g10, g11, g12, g13, g14, g15, g16, g17, g18, g19, g20, g21, g22, g23, g24, g25, g26, g27, g28, g29]))] [] t) (va_A [(a0, .inr (9, [g1, g2, g3, .null, g4, g5, g6, g7, g8, g9, g10, g11, g12, g13, g14, g15, g16, g17, g18, g19, g20, g21, g22, g23, g24, g25, g26, g27, g28, g29]))] sz)) 0 0 (va_A [(a0, .inr (9, [g1, g2, g3, .null, g4, g5, g6, g7, g8, g9, g10, g11, g12, g13, g14, g15, g16, g17, g18, g19, g20, g21, g22, g23, g24, g25, g26, g27, g28, g29]))] sz) := by
  refine Met.ofW (cc := cX12_refusesDark) (maxL := 1) (ret := (some .int)) (by decide) rfl ?_
  intro p e s m args below meth c s₁ B hml hv
  obtain ⟨rfl, hsz, hP, hK, hD0, hN⟩ := hv
  have hx := B.exec
  have hb := B.bytes
  have hr := B.returns
  have hts := atoms_spec (ws := vX12_refusesDark) B.pre
  have hown : s.vm.findClass RX12 = some m.cls := findClass_of_methodNamed B.named
  have hlocks := B.notSynchronized
  subst hsz
  have hD := hD0.self (sz := s.heap.size)
  generalize hAe : va_A [(a0, .inr (9, [g1, g2, g3, .null, g4, g5, g6, g7, g8, g9, g10, g11, g12, g13, g14, g15, g16, g17, g18, g19, g20, g21, g22, g23, g24, g25, g26, g27, g28, g29]))] s.heap.size = A at hD ⊢
  have hA : ∀ q : Nat, s.heap.size ≤ q → A q := fun q h => by rw [← hAe]; exact Or.inr h
  have hS : va_S A s.heap s.heap [] := va_S.rf
  have hP : va_P (dC, dI) vwCl [(a0, .inr (9, [g1, g2, g3, .null, g4, g5, g6, g7, g8, g9, g10, g11, g12, g13, g14, g15, g16, g17, g18, g19, g20, g21, g22, g23, g24, g25, g26, g27, g28, g29]))] s.heap := hP
  have hl := lv_entry ([.ref a0]) (n := 1) (Nat.le_of_ble_eq_true rfl)
  rw [lg_entry_eq]
  generalize (lg_sl ([.ref a0]) ++ List.replicate (1 - (lg_sl ([.ref a0])).length) Slot.unset).toArray = ls at hl ⊢
  have hl : lv_has ls 1 [(0, .ref a0)] := hl
  refine lv_aload_n hx hb dX12_refusesDark_0 rfl (lv_at hl 0 rfl) ?_
  refine va_get (D := (dC, dI)) (ci := 9) (v := .null) (C := RX12) (T := TX12) (N := 30) hx hb hts iX12_refusesDark_X12 hown hK hP 0 rfl rfl 3 (by decide) (hts (.fieldLink RX12 299 "HookPierModel" "pier" "LHookPierModel$Pier;") (List.mem_of_getElem? (i := 1) rfl)) (fun _ h9 => h9) rfl dX12_refusesDark_1 ?_
  refine lv_ifnonnullN hx hb dX12_refusesDark_4 ?_
  refine lv_iconst (v := 1) hx hb dX12_refusesDark_7 (by decide) ?_
  refine lv_goto (tgt := 28) hx hb dX12_refusesDark_8 (by decide) ?_
  have hP9 := hP.sub (ws' := [(a0, .inr (9, [g1, g2, g3, .null, g4, g5, g6, g7, g8, g9, g10, g11, g12, g13, g14, g15, g16, g17, g18, g19, g20, g21, g22, g23, g24, g25, g26, g27, g28, g29]))]) [0] rfl
  have hD9 := hD.sub (ws' := [(a0, .inr (9, [g1, g2, g3, .null, g4, g5, g6, g7, g8, g9, g10, g11, g12, g13, g14, g15, g16, g17, g18, g19, g20, g21, g22, g23, g24, g25, g26, g27, g28, g29]))]) [0] (by decide) rfl
  have hK9 := hK.sub (tys' := []) [] rfl
  exact W.iret (v := 1) hx hb hr (fun t ht hW => ⟨⟨1, (), rfl, rfl, by rw [ht]; exact hP9, va_K.moved hW.alike hK9, hD9⟩, hS.F ht⟩) hS.2.2 dX12_refusesDark_28
theorem dX12_darks_0 : decode cX12_darks 0 = .ok (.aload_n 0, 1) := by decide +kernel
theorem dX12_darks_1 : decode cX12_darks 1 = .ok (.iconst 0, 1) := by decide +kernel
theorem dX12_darks_10 : decode cX12_darks 10 = .ok (.iload_n 1, 1) := by decide +kernel
theorem dX12_darks_11 : decode cX12_darks 11 = .ok (.ifCond .le 9, 3) := by decide +kernel
theorem dX12_darks_14 : decode cX12_darks 14 = .ok (.aload_n 0, 1) := by decide +kernel
theorem dX12_darks_15 : decode cX12_darks 15 = .ok (.iload_n 1, 1) := by decide +kernel
theorem dX12_darks_16 : decode cX12_darks 16 = .ok (.invokevirtual 42, 3) := by decide +kernel
theorem dX12_darks_19 : decode cX12_darks 19 = .ok (.ireturn, 1) := by decide +kernel
theorem dX12_darks_2 : decode cX12_darks 2 = .ok (.putfield 36, 3) := by decide +kernel
theorem dX12_darks_5 : decode cX12_darks 5 = .ok (.aload_n 0, 1) := by decide +kernel
theorem dX12_darks_6 : decode cX12_darks 6 = .ok (.invokevirtual 417, 3) := by decide +kernel
theorem dX12_darks_9 : decode cX12_darks 9 = .ok (.istore_n 1, 1) := by decide +kernel
def vX12_darks : List Cond := .code yX12_darks cX12_darks 4 (some .int) :: ([.fieldLink RX12 36 "HookPierModel" "thrown" "I", .methodLink RX12 417 yX12_refusesDark, .instanceMethod yX12_refusesDark, .selects RX12 yX12_refusesDark yX12_refusesDark, .initialized RX12, .code yX12_refusesDark cX12_refusesDark 1 (some .int), .fieldLink RX12 299 "HookPierModel" "pier" "LHookPierModel$Pier;", .methodLink RX12 42 yX12_refused, .instanceMethod yX12_refused, .selects RX12 yX12_refused yX12_refused, .code yX12_refused cX12_refused 2 (some .int), .fieldLink RX12 39 "HookPierModel" "trouble" "I", .fieldLink RX12 9 "HookPierModel" "where" "I"] ++ wsX120)
theorem iX12_darks_X12 : ∀ w ∈ wsX120, w ∈ vX12_darks := fun _ h => List.mem_cons_of_mem _ (List.mem_append_right _ h)
set_option maxRecDepth 20000 in
theorem gX12_darks_0 : GoodIn vX12_darks (wsV RX12 417 RX12 yX12_refusesDark vX12_refusesDark) := goodIn_app (goodIn_r [.methodLink RX12 417 yX12_refusesDark, .instanceMethod yX12_refusesDark, .selects RX12 yX12_refusesDark yX12_refusesDark, .initialized RX12] [2, 3, 4, 5] (by decide +kernel) (by decide +kernel)) (goodIn_ca (goodIn_r (.code yX12_refusesDark cX12_refusesDark 1 (some .int) :: [.fieldLink RX12 299 "HookPierModel" "pier" "LHookPierModel$Pier;"]) [6, 7] (by decide +kernel) (by decide +kernel) : GoodIn vX12_darks (.code yX12_refusesDark cX12_refusesDark 1 (some .int) :: [.fieldLink RX12 299 "HookPierModel" "pier" "LHookPierModel$Pier;"])) (goodIn_sub iX12_darks_X12 (by decide +kernel)))
set_option maxRecDepth 20000 in
theorem gX12_darks_1 : GoodIn vX12_darks (wsV RX12 42 RX12 yX12_refused vX12_refused_1) := goodIn_app (goodIn_r [.methodLink RX12 42 yX12_refused, .instanceMethod yX12_refused, .selects RX12 yX12_refused yX12_refused, .initialized RX12] [8, 9, 10, 5] (by decide +kernel) (by decide +kernel)) (goodIn_ca (goodIn_r (.code yX12_refused cX12_refused 2 (some .int) :: [.fieldLink RX12 39 "HookPierModel" "trouble" "I", .fieldLink RX12 9 "HookPierModel" "where" "I"]) [11, 12, 13] (by decide +kernel) (by decide +kernel) : GoodIn vX12_darks (.code yX12_refused cX12_refused 2 (some .int) :: [.fieldLink RX12 39 "HookPierModel" "trouble" "I", .fieldLink RX12 9 "HookPierModel" "where" "I"])) (goodIn_sub iX12_darks_X12 (by decide +kernel)))
set_option maxHeartbeats 1000000 in
set_option maxRecDepth 100000 in
theorem kX12_darks (l : Launch) (dC : Nat → ClassId) (dI : Nat → Nat → Nat) (a0 : Nat) (g1 : Value) (g2 : Value) (g3 : Value) (g4 : Value) (g5 : Value) (g6 : Value) (g7 : Value) (g8 : Value) (g9 : Value) (g10 : Value) (g11 : Value) (g12 : Value) (g13 : Value) (g14 : Value) (g15 : Value) (g16 : Value) (g17 : Value) (g18 : Value) (g19 : Value) (g20 : Value) (g21 : Value) (g22 : Value) (g23 : Value) (g24 : Value) (g25 : Value) (g26 : Value) (g27 : Value) (g28 : Value) (g29 : Value) (sz : Nat) : Met l yX12_darks vX12_darks ({ frames := 1, cells := 0, slots := 0, locals := 21 }) (PC (dC, dI) [.ref a0] sz [(a0, .inr (9, [g1, g2, g3, .null, g4, g5, g6, g7, g8, g9, g10, g11, g12, g13, g14, g15, g16, g17, g18, g19, g20, g21, g22, g23, g24, g25, g26, g27, g28, g29]))] []) (va_Qi (S := Unit) (fun (r : Int32) _ => r = (-1)) (fun _ t => BC (dC, dI) (va_A [(a0, .inr (9, [g1, g2, g3, .null, g4, g5, g6, g7, g8, g9, g10, g11, g12, g13, g14, g15, g16, g17, g18, g19, g20, g21, g22, g23, g24, g25, g26, g27, g28, g29]))] sz) [] [] t) (va_A [(a0, .inr (9, [g1, g2, g3, .null, g4, g5, g6, g7, g8, g9, g10, g11, g12, g13, g14, g15, g16, g17, g18, g19, g20, g21, g22, g23, g24, g25, g26, g27, g28, g29]))] sz)) 0 0 (va_A [(a0, .inr (9, [g1, g2, g3, .null, g4, g5, g6, g7, g8, g9, g10, g11, g12, g13, g14, g15, g16, g17, g18, g19, g20, g21, g22, g23, g24, g25, g26, g27, g28, g29]))] sz) := by
  refine Met.ofW (cc := cX12_darks) (maxL := 4) (ret := (some .int)) (by decide) rfl ?_
  intro p e s m args below meth c s₁ B hml hv
  obtain ⟨rfl, hsz, hP, hK, hD0, hN⟩ := hv
  have hx := B.exec
  have hb := B.bytes
  have hr := B.returns
  have hts := atoms_spec (ws := vX12_darks) B.pre
  have hown : s.vm.findClass RX12 = some m.cls := findClass_of_methodNamed B.named
  have hlocks := B.notSynchronized
  subst hsz
  have hD := hD0.self (sz := s.heap.size)
  generalize hAe : va_A [(a0, .inr (9, [g1, g2, g3, .null, g4, g5, g6, g7, g8, g9, g10, g11, g12, g13, g14, g15, g16, g17, g18, g19, g20, g21, g22, g23, g24, g25, g26, g27, g28, g29]))] s.heap.size = A at hD ⊢
  have hA : ∀ q : Nat, s.heap.size ≤ q → A q := fun q h => by rw [← hAe]; exact Or.inr h
  have hS : va_S A s.heap s.heap [] := va_S.rf
  have hP : va_P (dC, dI) vwCl [(a0, .inr (9, [g1, g2, g3, .null, g4, g5, g6, g7, g8, g9, g10, g11, g12, g13, g14, g15, g16, g17, g18, g19, g20, g21, g22, g23, g24, g25, g26, g27, g28, g29]))] s.heap := hP
  have hl := lv_entry ([.ref a0]) (n := 4) (Nat.le_of_ble_eq_true rfl)
  rw [lg_entry_eq]
  generalize (lg_sl ([.ref a0]) ++ List.replicate (4 - (lg_sl ([.ref a0])).length) Slot.unset).toArray = ls at hl ⊢
  have hl : lv_has ls 4 [(0, .ref a0)] := hl
  refine lv_aload_n hx hb dX12_darks_0 rfl (lv_at hl 0 rfl) ?_
  refine lv_iconst (v := 0) hx hb dX12_darks_1 (by decide) ?_
  refine va_put (D := (dC, dI)) (ci := 9) (v := .int 0) (ty := .int) (C := RX12) (T := TX12) (N := 30) hx hb hts iX12_darks_X12 tyX12 tyX12_ok nmX12 hown hK hP hD hS 0 rfl rfl 0 (by decide) (hts (.fieldLink RX12 36 "HookPierModel" "thrown" "I") (List.mem_of_getElem? (i := 1) rfl)) (fun _ h9 => h9) rfl (by decide +kernel) rfl rfl (Nat.le_of_ble_eq_true rfl) dX12_darks_2 (fun H locs hP hD hS => ?_)
  have hP : va_P (dC, dI) vwCl [(a0, .inr (9, [.int 0, g2, g3, .null, g4, g5, g6, g7, g8, g9, g10, g11, g12, g13, g14, g15, g16, g17, g18, g19, g20, g21, g22, g23, g24, g25, g26, g27, g28, g29]))] H := hP
  have hD : va_D A [(a0, .inr (9, [.int 0, g2, g3, .null, g4, g5, g6, g7, g8, g9, g10, g11, g12, g13, g14, g15, g16, g17, g18, g19, g20, g21, g22, g23, g24, g25, g26, g27, g28, g29]))] := hD
  refine lv_aload_n hx hb dX12_darks_5 rfl (lv_at hl 0 rfl) ?_
  refine cl_i (wc := [(a0, .inr (9, [.int 0, g2, g3, .null, g4, g5, g6, g7, g8, g9, g10, g11, g12, g13, g14, g15, g16, g17, g18, g19, g20, g21, g22, g23, g24, g25, g26, g27, g28, g29]))]) (wr := []) (va_runV (As := []) (rest := []) ⟨hx, hb, hml, hown, hts⟩ (kX12_refusesDark l dC dI a0 (.int 0) (g2) (g3) (g4) (g5) (g6) (g7) (g8) (g9) (g10) (g11) (g12) (g13) (g14) (g15) (g16) (g17) (g18) (g19) (g20) (g21) (g22) (g23) (g24) (g25) (g26) (g27) (g28) (g29) H.size) (cwV 0 hts gX12_darks_0 rfl rfl rfl (by decide +kernel) ⟨Nat.le_of_ble_eq_true rfl, Nat.le_of_ble_eq_true rfl⟩) (PV (hP.sub (ws' := [(a0, .inr (9, [.int 0, g2, g3, .null, g4, g5, g6, g7, g8, g9, g10, g11, g12, g13, g14, g15, g16, g17, g18, g19, g20, g21, g22, g23, g24, g25, g26, g27, g28, g29]))]) [0] rfl) (hK.sub (tys' := []) [] rfl) (hD.sub (ws' := [(a0, .inr (9, [.int 0, g2, g3, .null, g4, g5, g6, g7, g8, g9, g10, g11, g12, g13, g14, g15, g16, g17, g18, g19, g20, g21, g22, g23, g24, g25, g26, g27, g28, g29]))]) [0] (by decide) rfl) hN 0 rfl rfl) rfl rfl hl.1 rfl (lv_room (Nat.le_of_ble_eq_true rfl)) dX12_darks_6 ⟨Nat.le_of_ble_eq_true rfl, Nat.le_of_ble_eq_true rfl⟩) hP hD hK hS hA [0] [] rfl rfl (by decide) (by decide) (fun z1 _u H locs hw hP hD hK hS => ?_)
  have hP : va_P (dC, dI) vwCl [(a0, .inr (9, [.int 0, g2, g3, .null, g4, g5, g6, g7, g8, g9, g10, g11, g12, g13, g14, g15, g16, g17, g18, g19, g20, g21, g22, g23, g24, g25, g26, g27, g28, g29]))] H := hP
  have hD : va_D A [(a0, .inr (9, [.int 0, g2, g3, .null, g4, g5, g6, g7, g8, g9, g10, g11, g12, g13, g14, g15, g16, g17, g18, g19, g20, g21, g22, g23, g24, g25, g26, g27, g28, g29]))] := hD
  have hK : va_K (dC, dI) vwCl [] s := hK
  obtain rfl : z1 = 1 := hw
  refine lv_istore_n (lv' := [(1, .int 1), (0, .ref a0)]) hx hb dX12_darks_9 rfl hl (by decide) rfl (fun ls hl => ?_)
  refine lv_iload_n hx hb dX12_darks_10 rfl (lv_at hl 0 rfl) ?_
  refine lv_if_le (tgt := 20) hx hb dX12_darks_11 (by decide) (fun c2 => absurd c2 (by decide)) (fun _ => ?_)
  refine lv_aload_n hx hb dX12_darks_14 rfl (lv_at hl 1 rfl) ?_
  refine lv_iload_n hx hb dX12_darks_15 rfl (lv_at hl 0 rfl) ?_
  refine cl_i (wc := [(a0, .inr (9, [.int 0, g2, g3, .null, g4, g5, g6, g7, g8, g9, g10, g11, g12, g13, g14, g15, g16, g17, g18, g19, g20, g21, g22, g23, g24, g25, g26, g27, g28, g29]))]) (wr := []) (va_runV (As := [.int 1]) (rest := []) ⟨hx, hb, hml, hown, hts⟩ (kX12_refused_1 l dC dI a0 (.int 0) (g2) (g3) (.null) (g4) (g5) (g6) (g7) (g8) (g9) (g10) (g11) (g12) (g13) (g14) (g15) (g16) (g17) (g18) (g19) (g20) (g21) (g22) (g23) (g24) (g25) (g26) (g27) (g28) (g29) H.size) (cwV 1 hts gX12_darks_1 rfl rfl rfl (by decide +kernel) ⟨Nat.le_of_ble_eq_true rfl, Nat.le_of_ble_eq_true rfl⟩) (PV (hP.sub (ws' := [(a0, .inr (9, [.int 0, g2, g3, .null, g4, g5, g6, g7, g8, g9, g10, g11, g12, g13, g14, g15, g16, g17, g18, g19, g20, g21, g22, g23, g24, g25, g26, g27, g28, g29]))]) [0] rfl) (hK.sub (tys' := []) [] rfl) (hD.sub (ws' := [(a0, .inr (9, [.int 0, g2, g3, .null, g4, g5, g6, g7, g8, g9, g10, g11, g12, g13, g14, g15, g16, g17, g18, g19, g20, g21, g22, g23, g24, g25, g26, g27, g28, g29]))]) [0] (by decide) rfl) hN 0 rfl rfl) rfl rfl hl.1 rfl (lv_room (Nat.le_of_ble_eq_true rfl)) dX12_darks_16 ⟨Nat.le_of_ble_eq_true rfl, Nat.le_of_ble_eq_true rfl⟩) hP hD hK hS hA [0] [] rfl rfl (by decide) (by decide) (fun z3 _u H locs hw hP hD hK hS => ?_)
  have hP : va_P (dC, dI) vwCl [(a0, .inr (9, [.int 0, .int 1, .int (-1), .null, g4, g5, g6, g7, g8, g9, g10, g11, g12, g13, g14, g15, g16, g17, g18, g19, g20, g21, g22, g23, g24, g25, g26, g27, g28, g29]))] H := hP
  have hD : va_D A [(a0, .inr (9, [.int 0, .int 1, .int (-1), .null, g4, g5, g6, g7, g8, g9, g10, g11, g12, g13, g14, g15, g16, g17, g18, g19, g20, g21, g22, g23, g24, g25, g26, g27, g28, g29]))] := hD
  have hK : va_K (dC, dI) vwCl [] s := hK
  obtain rfl : z3 = (-1) := hw
  have hP9 := hP.sub (ws' := []) [] rfl
  have hD9 := hD.sub (ws' := []) [] (by decide) rfl
  have hK9 := hK.sub (tys' := []) [] rfl
  exact W.iret (v := (-1)) hx hb hr (fun t ht hW => ⟨⟨(-1), (), rfl, rfl, by rw [ht]; exact hP9, va_K.moved hW.alike hK9, hD9⟩, hS.F ht⟩) hS.2.2 dX12_darks_19
theorem dX10_darkAt_0 : decode cX10_darkAt 0 = .ok (.aload_n 0, 1) := by decide +kernel
theorem dX10_darkAt_1 : decode cX10_darkAt 1 = .ok (.aload_n 0, 1) := by decide +kernel
theorem dX10_darkAt_11 : decode cX10_darkAt 11 = .ok (.iconst (-1), 1) := by decide +kernel
theorem dX10_darkAt_12 : decode cX10_darkAt 12 = .ok (.ireturn, 1) := by decide +kernel
theorem dX10_darkAt_2 : decode cX10_darkAt 2 = .ok (.invokevirtual 264, 3) := by decide +kernel
theorem dX10_darkAt_5 : decode cX10_darkAt 5 = .ok (.invokevirtual 79, 3) := by decide +kernel
theorem dX10_darkAt_8 : decode cX10_darkAt 8 = .ok (.ifCond .eq 5, 3) := by decide +kernel
def vX10_darkAt : List Cond := .code yX10_darkAt cX10_darkAt 2 (some .int) :: ([.methodLink RX10 264 yX10_darkTrouble, .instanceMethod yX10_darkTrouble, .selects RX10 yX10_darkTrouble yX10_darkTrouble, .initialized RX10, .code yX10_darkTrouble cX10_darkTrouble 2 (some .int), .methodLink RX10 216 yX10_pierTrouble, .instanceMethod yX10_pierTrouble, .selects RX10 yX10_pierTrouble yX10_pierTrouble, .code yX10_pierTrouble cX10_pierTrouble 1 (some .int), .fieldLink RX10 10 "HookPier" "plan" "LHookPier$Plan;", .fieldLink RX10 233 "HookPier$Plan" "spots" "I", .methodLink RX10 79 yX10_refused, .instanceMethod yX10_refused, .selects RX10 yX10_refused yX10_refused, .code yX10_refused cX10_refused 2 (some .boolean), .fieldLink RX10 61 "HookPier" "troubleNow" "I"] ++ wsX100 ++ wsX60)
theorem iX10_darkAt_X10 : ∀ w ∈ wsX100, w ∈ vX10_darkAt := fun _ h => List.mem_cons_of_mem _ (List.mem_append_left _ (List.mem_append_right _ h))
theorem iX10_darkAt_X6 : ∀ w ∈ wsX60, w ∈ vX10_darkAt := fun _ h => List.mem_cons_of_mem _ (List.mem_append_right _ h)
set_option maxRecDepth 20000 in
theorem gX10_darkAt_0 : GoodIn vX10_darkAt (wsV RX10 264 RX10 yX10_darkTrouble vX10_darkTrouble) := goodIn_app (goodIn_r [.methodLink RX10 264 yX10_darkTrouble, .instanceMethod yX10_darkTrouble, .selects RX10 yX10_darkTrouble yX10_darkTrouble, .initialized RX10] [1, 2, 3, 4] (by decide +kernel) (by decide +kernel)) (goodIn_ca (goodIn_ca (goodIn_r (.code yX10_darkTrouble cX10_darkTrouble 2 (some .int) :: [.methodLink RX10 216 yX10_pierTrouble, .instanceMethod yX10_pierTrouble, .selects RX10 yX10_pierTrouble yX10_pierTrouble, .initialized RX10, .code yX10_pierTrouble cX10_pierTrouble 1 (some .int), .fieldLink RX10 10 "HookPier" "plan" "LHookPier$Plan;", .fieldLink RX10 233 "HookPier$Plan" "spots" "I"]) [5, 6, 7, 8, 4, 9, 10, 11] (by decide +kernel) (by decide +kernel) : GoodIn vX10_darkAt (.code yX10_darkTrouble cX10_darkTrouble 2 (some .int) :: [.methodLink RX10 216 yX10_pierTrouble, .instanceMethod yX10_pierTrouble, .selects RX10 yX10_pierTrouble yX10_pierTrouble, .initialized RX10, .code yX10_pierTrouble cX10_pierTrouble 1 (some .int), .fieldLink RX10 10 "HookPier" "plan" "LHookPier$Plan;", .fieldLink RX10 233 "HookPier$Plan" "spots" "I"])) (goodIn_sub iX10_darkAt_X10 (by decide +kernel))) (goodIn_sub iX10_darkAt_X6 (by decide +kernel)))
set_option maxRecDepth 20000 in
theorem gX10_darkAt_1 : GoodIn vX10_darkAt (wsV RX10 79 RX10 yX10_refused vX10_refused_3) := goodIn_app (goodIn_r [.methodLink RX10 79 yX10_refused, .instanceMethod yX10_refused, .selects RX10 yX10_refused yX10_refused, .initialized RX10] [12, 13, 14, 4] (by decide +kernel) (by decide +kernel)) (goodIn_ca (goodIn_r (.code yX10_refused cX10_refused 2 (some .boolean) :: [.fieldLink RX10 61 "HookPier" "troubleNow" "I"]) [15, 16] (by decide +kernel) (by decide +kernel) : GoodIn vX10_darkAt (.code yX10_refused cX10_refused 2 (some .boolean) :: [.fieldLink RX10 61 "HookPier" "troubleNow" "I"])) (goodIn_sub iX10_darkAt_X10 (by decide +kernel)))
set_option maxHeartbeats 1000000 in
set_option maxRecDepth 100000 in
theorem kX10_darkAt (l : Launch) (dC : Nat → ClassId) (dI : Nat → Nat → Nat) (a0 : Nat) (k1 : Int32) (a2 : Nat) (g3 : Value) (g4 : Value) (g5 : Value) (g6 : Value) (g7 : Value) (g8 : Value) (g9 : Value) (g10 : Value) (g11 : Value) (g12 : Value) (g13 : Value) (g14 : Value) (g15 : Value) (g16 : Value) (g17 : Value) (g18 : Value) (g19 : Value) (g20 : Value) (g21 : Value) (g22 : Value) (g23 : Value) (g24 : Value) (g25 : Value) (g26 : Value) (g27 : Value) (g28 : Value) (sz : Nat) : Met l yX10_darkAt vX10_darkAt ({ frames := 2, cells := 0, slots := 0, locals := 41 }) (PC (dC, dI) [.ref a0, .int k1] sz [(a0, .inr (7, [.ref a2, g3, g4, g5, g6, g7, g8, g9, g10, g11])), (a2, .inr (4, [.int 0, g12, g13, g14, g15, g16, g17, g18, g19, g20, g21, g22, g23, g24, g25, g26, g27, g28]))] []) (va_Qi (S := Unit) (fun (r : Int32) _ => r = (-1)) (fun _ t => BC (dC, dI) (va_A [(a0, .inr (7, [.ref a2, g3, g4, g5, g6, g7, g8, g9, g10, g11])), (a2, .inr (4, [.int 0, g12, g13, g14, g15, g16, g17, g18, g19, g20, g21, g22, g23, g24, g25, g26, g27, g28]))] sz) [] [] t) (va_A [(a0, .inr (7, [.ref a2, g3, g4, g5, g6, g7, g8, g9, g10, g11])), (a2, .inr (4, [.int 0, g12, g13, g14, g15, g16, g17, g18, g19, g20, g21, g22, g23, g24, g25, g26, g27, g28]))] sz)) 0 0 (va_A [(a0, .inr (7, [.ref a2, g3, g4, g5, g6, g7, g8, g9, g10, g11])), (a2, .inr (4, [.int 0, g12, g13, g14, g15, g16, g17, g18, g19, g20, g21, g22, g23, g24, g25, g26, g27, g28]))] sz) := by
  refine Met.ofW (cc := cX10_darkAt) (maxL := 2) (ret := (some .int)) (by decide) rfl ?_
  intro p e s m args below meth c s₁ B hml hv
  obtain ⟨rfl, hsz, hP, hK, hD0, hN⟩ := hv
  have hx := B.exec
  have hb := B.bytes
  have hr := B.returns
  have hts := atoms_spec (ws := vX10_darkAt) B.pre
  have hown : s.vm.findClass RX10 = some m.cls := findClass_of_methodNamed B.named
  have hlocks := B.notSynchronized
  subst hsz
  have hD := hD0.self (sz := s.heap.size)
  generalize hAe : va_A [(a0, .inr (7, [.ref a2, g3, g4, g5, g6, g7, g8, g9, g10, g11])), (a2, .inr (4, [.int 0, g12, g13, g14, g15, g16, g17, g18, g19, g20, g21, g22, g23, g24, g25, g26, g27, g28]))] s.heap.size = A at hD ⊢
  have hA : ∀ q : Nat, s.heap.size ≤ q → A q := fun q h => by rw [← hAe]; exact Or.inr h
  have hS : va_S A s.heap s.heap [] := va_S.rf
  have hP : va_P (dC, dI) vwCl [(a0, .inr (7, [.ref a2, g3, g4, g5, g6, g7, g8, g9, g10, g11])), (a2, .inr (4, [.int 0, g12, g13, g14, g15, g16, g17, g18, g19, g20, g21, g22, g23, g24, g25, g26, g27, g28]))] s.heap := hP
  have hl := lv_entry ([.ref a0, .int k1]) (n := 2) (Nat.le_of_ble_eq_true rfl)
  rw [lg_entry_eq]
  generalize (lg_sl ([.ref a0, .int k1]) ++ List.replicate (2 - (lg_sl ([.ref a0, .int k1])).length) Slot.unset).toArray = ls at hl ⊢
  have hl : lv_has ls 2 [(0, .ref a0), (1, .int k1)] := hl
  refine lv_aload_n hx hb dX10_darkAt_0 rfl (lv_at hl 0 rfl) ?_
  refine lv_aload_n hx hb dX10_darkAt_1 rfl (lv_at hl 0 rfl) ?_
  refine cl_i (wc := [(a0, .inr (7, [.ref a2, g3, g4, g5, g6, g7, g8, g9, g10, g11])), (a2, .inr (4, [.int 0, g12, g13, g14, g15, g16, g17, g18, g19, g20, g21, g22, g23, g24, g25, g26, g27, g28]))]) (wr := []) (va_runV (As := []) (rest := [.ref a0]) ⟨hx, hb, hml, hown, hts⟩ (kX10_darkTrouble l dC dI a0 a2 (g3) (g4) (g5) (g6) (g7) (g8) (g9) (g10) (g11) (g12) (g13) (g14) (g15) (g16) (g17) (g18) (g19) (g20) (g21) (g22) (g23) (g24) (g25) (g26) (g27) (g28) s.heap.size) (cwV 0 hts gX10_darkAt_0 rfl rfl rfl (by decide +kernel) ⟨Nat.le_of_ble_eq_true rfl, Nat.le_of_ble_eq_true rfl⟩) (PV (hP.sub (ws' := [(a0, .inr (7, [.ref a2, g3, g4, g5, g6, g7, g8, g9, g10, g11])), (a2, .inr (4, [.int 0, g12, g13, g14, g15, g16, g17, g18, g19, g20, g21, g22, g23, g24, g25, g26, g27, g28]))]) [0, 1] rfl) (hK.sub (tys' := []) [] rfl) (hD.sub (ws' := [(a0, .inr (7, [.ref a2, g3, g4, g5, g6, g7, g8, g9, g10, g11])), (a2, .inr (4, [.int 0, g12, g13, g14, g15, g16, g17, g18, g19, g20, g21, g22, g23, g24, g25, g26, g27, g28]))]) [0, 1] (by decide) rfl) hN 0 rfl rfl) rfl rfl hl.1 rfl (lv_room (Nat.le_of_ble_eq_true rfl)) dX10_darkAt_2 ⟨Nat.le_of_ble_eq_true rfl, Nat.le_of_ble_eq_true rfl⟩) hP hD hK hS hA [0, 1] [] rfl rfl (by decide) (by decide) (fun z1 _u H locs hw hP hD hK hS => ?_)
  have hP : va_P (dC, dI) vwCl [(a0, .inr (7, [.ref a2, g3, g4, g5, g6, g7, g8, g9, g10, g11])), (a2, .inr (4, [.int 0, g12, g13, g14, g15, g16, g17, g18, g19, g20, g21, g22, g23, g24, g25, g26, g27, g28]))] H := hP
  have hD : va_D A [(a0, .inr (7, [.ref a2, g3, g4, g5, g6, g7, g8, g9, g10, g11])), (a2, .inr (4, [.int 0, g12, g13, g14, g15, g16, g17, g18, g19, g20, g21, g22, g23, g24, g25, g26, g27, g28]))] := hD
  have hK : va_K (dC, dI) vwCl [] s := hK
  obtain rfl : z1 = 1 := hw
  refine cl_i (wc := [(a0, .inr (7, [.ref a2, g3, g4, g5, g6, g7, g8, g9, g10, g11]))]) (wr := [(a2, .inr (4, [.int 0, g12, g13, g14, g15, g16, g17, g18, g19, g20, g21, g22, g23, g24, g25, g26, g27, g28]))]) (va_runV (As := [.int 1]) (rest := []) ⟨hx, hb, hml, hown, hts⟩ (kX10_refused_3 l dC dI a0 (.ref a2) (g3) (g4) (g5) (g6) (g7) (g8) (g9) (g10) (g11) H.size) (cwV 1 hts gX10_darkAt_1 rfl rfl rfl (by decide +kernel) ⟨Nat.le_of_ble_eq_true rfl, Nat.le_of_ble_eq_true rfl⟩) (PV (hP.sub (ws' := [(a0, .inr (7, [.ref a2, g3, g4, g5, g6, g7, g8, g9, g10, g11]))]) [0] rfl) (hK.sub (tys' := []) [] rfl) (hD.sub (ws' := [(a0, .inr (7, [.ref a2, g3, g4, g5, g6, g7, g8, g9, g10, g11]))]) [0] (by decide) rfl) hN 0 rfl rfl) rfl rfl hl.1 rfl (lv_room (Nat.le_of_ble_eq_true rfl)) dX10_darkAt_5 ⟨Nat.le_of_ble_eq_true rfl, Nat.le_of_ble_eq_true rfl⟩) hP hD hK hS hA [0] [1] rfl rfl (by decide) (by decide) (fun z2 _u H locs hw hP hD hK hS => ?_)
  have hP : va_P (dC, dI) vwCl [(a2, .inr (4, [.int 0, g12, g13, g14, g15, g16, g17, g18, g19, g20, g21, g22, g23, g24, g25, g26, g27, g28])), (a0, .inr (7, [.ref a2, g3, g4, g5, g6, g7, g8, g9, .int 1, g11]))] H := hP
  have hD : va_D A [(a2, .inr (4, [.int 0, g12, g13, g14, g15, g16, g17, g18, g19, g20, g21, g22, g23, g24, g25, g26, g27, g28])), (a0, .inr (7, [.ref a2, g3, g4, g5, g6, g7, g8, g9, .int 1, g11]))] := hD
  have hK : va_K (dC, dI) vwCl [] s := hK
  obtain rfl : z2 = 1 := hw
  refine lv_if_eq (tgt := 13) hx hb dX10_darkAt_8 (by decide) (fun c3 => absurd c3 (by decide)) (fun _ => ?_)
  refine lv_iconst (v := (-1)) hx hb dX10_darkAt_11 (by decide) ?_
  have hP9 := hP.sub (ws' := []) [] rfl
  have hD9 := hD.sub (ws' := []) [] (by decide) rfl
  have hK9 := hK.sub (tys' := []) [] rfl
  exact W.iret (v := (-1)) hx hb hr (fun t ht hW => ⟨⟨(-1), (), rfl, rfl, by rw [ht]; exact hP9, va_K.moved hW.alike hK9, hD9⟩, hS.F ht⟩) hS.2.2 dX10_darkAt_12
theorem dX12_darkAt_0 : decode cX12_darkAt 0 = .ok (.aload_n 0, 1) := by decide +kernel
theorem dX12_darkAt_1 : decode cX12_darkAt 1 = .ok (.iconst 0, 1) := by decide +kernel
theorem dX12_darkAt_10 : decode cX12_darkAt 10 = .ok (.iload_n 2, 1) := by decide +kernel
theorem dX12_darkAt_11 : decode cX12_darkAt 11 = .ok (.ifCond .le 9, 3) := by decide +kernel
theorem dX12_darkAt_14 : decode cX12_darkAt 14 = .ok (.aload_n 0, 1) := by decide +kernel
theorem dX12_darkAt_15 : decode cX12_darkAt 15 = .ok (.iload_n 2, 1) := by decide +kernel
theorem dX12_darkAt_16 : decode cX12_darkAt 16 = .ok (.invokevirtual 42, 3) := by decide +kernel
theorem dX12_darkAt_19 : decode cX12_darkAt 19 = .ok (.ireturn, 1) := by decide +kernel
theorem dX12_darkAt_2 : decode cX12_darkAt 2 = .ok (.putfield 36, 3) := by decide +kernel
theorem dX12_darkAt_5 : decode cX12_darkAt 5 = .ok (.aload_n 0, 1) := by decide +kernel
theorem dX12_darkAt_6 : decode cX12_darkAt 6 = .ok (.invokevirtual 417, 3) := by decide +kernel
theorem dX12_darkAt_9 : decode cX12_darkAt 9 = .ok (.istore_n 2, 1) := by decide +kernel
def vX12_darkAt : List Cond := .code yX12_darkAt cX12_darkAt 5 (some .int) :: ([.fieldLink RX12 36 "HookPierModel" "thrown" "I", .methodLink RX12 417 yX12_refusesDark, .instanceMethod yX12_refusesDark, .selects RX12 yX12_refusesDark yX12_refusesDark, .initialized RX12, .code yX12_refusesDark cX12_refusesDark 1 (some .int), .fieldLink RX12 299 "HookPierModel" "pier" "LHookPierModel$Pier;", .methodLink RX12 42 yX12_refused, .instanceMethod yX12_refused, .selects RX12 yX12_refused yX12_refused, .code yX12_refused cX12_refused 2 (some .int), .fieldLink RX12 39 "HookPierModel" "trouble" "I", .fieldLink RX12 9 "HookPierModel" "where" "I"] ++ wsX120)
theorem iX12_darkAt_X12 : ∀ w ∈ wsX120, w ∈ vX12_darkAt := fun _ h => List.mem_cons_of_mem _ (List.mem_append_right _ h)
set_option maxRecDepth 20000 in
theorem gX12_darkAt_0 : GoodIn vX12_darkAt (wsV RX12 417 RX12 yX12_refusesDark vX12_refusesDark) := goodIn_app (goodIn_r [.methodLink RX12 417 yX12_refusesDark, .instanceMethod yX12_refusesDark, .selects RX12 yX12_refusesDark yX12_refusesDark, .initialized RX12] [2, 3, 4, 5] (by decide +kernel) (by decide +kernel)) (goodIn_ca (goodIn_r (.code yX12_refusesDark cX12_refusesDark 1 (some .int) :: [.fieldLink RX12 299 "HookPierModel" "pier" "LHookPierModel$Pier;"]) [6, 7] (by decide +kernel) (by decide +kernel) : GoodIn vX12_darkAt (.code yX12_refusesDark cX12_refusesDark 1 (some .int) :: [.fieldLink RX12 299 "HookPierModel" "pier" "LHookPierModel$Pier;"])) (goodIn_sub iX12_darkAt_X12 (by decide +kernel)))
set_option maxRecDepth 20000 in
theorem gX12_darkAt_1 : GoodIn vX12_darkAt (wsV RX12 42 RX12 yX12_refused vX12_refused_1) := goodIn_app (goodIn_r [.methodLink RX12 42 yX12_refused, .instanceMethod yX12_refused, .selects RX12 yX12_refused yX12_refused, .initialized RX12] [8, 9, 10, 5] (by decide +kernel) (by decide +kernel)) (goodIn_ca (goodIn_r (.code yX12_refused cX12_refused 2 (some .int) :: [.fieldLink RX12 39 "HookPierModel" "trouble" "I", .fieldLink RX12 9 "HookPierModel" "where" "I"]) [11, 12, 13] (by decide +kernel) (by decide +kernel) : GoodIn vX12_darkAt (.code yX12_refused cX12_refused 2 (some .int) :: [.fieldLink RX12 39 "HookPierModel" "trouble" "I", .fieldLink RX12 9 "HookPierModel" "where" "I"])) (goodIn_sub iX12_darkAt_X12 (by decide +kernel)))
set_option maxHeartbeats 1000000 in
set_option maxRecDepth 100000 in
theorem kX12_darkAt (l : Launch) (dC : Nat → ClassId) (dI : Nat → Nat → Nat) (a0 : Nat) (k1 : Int32) (g2 : Value) (g3 : Value) (g4 : Value) (g5 : Value) (g6 : Value) (g7 : Value) (g8 : Value) (g9 : Value) (g10 : Value) (g11 : Value) (g12 : Value) (g13 : Value) (g14 : Value) (g15 : Value) (g16 : Value) (g17 : Value) (g18 : Value) (g19 : Value) (g20 : Value) (g21 : Value) (g22 : Value) (g23 : Value) (g24 : Value) (g25 : Value) (g26 : Value) (g27 : Value) (g28 : Value) (g29 : Value) (g30 : Value) (sz : Nat) : Met l yX12_darkAt vX12_darkAt ({ frames := 1, cells := 0, slots := 0, locals := 21 }) (PC (dC, dI) [.ref a0, .int k1] sz [(a0, .inr (9, [g2, g3, g4, .null, g5, g6, g7, g8, g9, g10, g11, g12, g13, g14, g15, g16, g17, g18, g19, g20, g21, g22, g23, g24, g25, g26, g27, g28, g29, g30]))] []) (va_Qi (S := Unit) (fun (r : Int32) _ => r = (-1)) (fun _ t => BC (dC, dI) (va_A [(a0, .inr (9, [g2, g3, g4, .null, g5, g6, g7, g8, g9, g10, g11, g12, g13, g14, g15, g16, g17, g18, g19, g20, g21, g22, g23, g24, g25, g26, g27, g28, g29, g30]))] sz) [] [] t) (va_A [(a0, .inr (9, [g2, g3, g4, .null, g5, g6, g7, g8, g9, g10, g11, g12, g13, g14, g15, g16, g17, g18, g19, g20, g21, g22, g23, g24, g25, g26, g27, g28, g29, g30]))] sz)) 0 0 (va_A [(a0, .inr (9, [g2, g3, g4, .null, g5, g6, g7, g8, g9, g10, g11, g12, g13, g14, g15, g16, g17, g18, g19, g20, g21, g22, g23, g24, g25, g26, g27, g28, g29, g30]))] sz) := by
  refine Met.ofW (cc := cX12_darkAt) (maxL := 5) (ret := (some .int)) (by decide) rfl ?_
  intro p e s m args below meth c s₁ B hml hv
  obtain ⟨rfl, hsz, hP, hK, hD0, hN⟩ := hv
  have hx := B.exec
  have hb := B.bytes
  have hr := B.returns
  have hts := atoms_spec (ws := vX12_darkAt) B.pre
  have hown : s.vm.findClass RX12 = some m.cls := findClass_of_methodNamed B.named
  have hlocks := B.notSynchronized
  subst hsz
  have hD := hD0.self (sz := s.heap.size)
  generalize hAe : va_A [(a0, .inr (9, [g2, g3, g4, .null, g5, g6, g7, g8, g9, g10, g11, g12, g13, g14, g15, g16, g17, g18, g19, g20, g21, g22, g23, g24, g25, g26, g27, g28, g29, g30]))] s.heap.size = A at hD ⊢
  have hA : ∀ q : Nat, s.heap.size ≤ q → A q := fun q h => by rw [← hAe]; exact Or.inr h
  have hS : va_S A s.heap s.heap [] := va_S.rf
  have hP : va_P (dC, dI) vwCl [(a0, .inr (9, [g2, g3, g4, .null, g5, g6, g7, g8, g9, g10, g11, g12, g13, g14, g15, g16, g17, g18, g19, g20, g21, g22, g23, g24, g25, g26, g27, g28, g29, g30]))] s.heap := hP
  have hl := lv_entry ([.ref a0, .int k1]) (n := 5) (Nat.le_of_ble_eq_true rfl)
  rw [lg_entry_eq]
  generalize (lg_sl ([.ref a0, .int k1]) ++ List.replicate (5 - (lg_sl ([.ref a0, .int k1])).length) Slot.unset).toArray = ls at hl ⊢
  have hl : lv_has ls 5 [(0, .ref a0), (1, .int k1)] := hl
  refine lv_aload_n hx hb dX12_darkAt_0 rfl (lv_at hl 0 rfl) ?_
  refine lv_iconst (v := 0) hx hb dX12_darkAt_1 (by decide) ?_
  refine va_put (D := (dC, dI)) (ci := 9) (v := .int 0) (ty := .int) (C := RX12) (T := TX12) (N := 30) hx hb hts iX12_darkAt_X12 tyX12 tyX12_ok nmX12 hown hK hP hD hS 0 rfl rfl 0 (by decide) (hts (.fieldLink RX12 36 "HookPierModel" "thrown" "I") (List.mem_of_getElem? (i := 1) rfl)) (fun _ h9 => h9) rfl (by decide +kernel) rfl rfl (Nat.le_of_ble_eq_true rfl) dX12_darkAt_2 (fun H locs hP hD hS => ?_)
  have hP : va_P (dC, dI) vwCl [(a0, .inr (9, [.int 0, g3, g4, .null, g5, g6, g7, g8, g9, g10, g11, g12, g13, g14, g15, g16, g17, g18, g19, g20, g21, g22, g23, g24, g25, g26, g27, g28, g29, g30]))] H := hP
  have hD : va_D A [(a0, .inr (9, [.int 0, g3, g4, .null, g5, g6, g7, g8, g9, g10, g11, g12, g13, g14, g15, g16, g17, g18, g19, g20, g21, g22, g23, g24, g25, g26, g27, g28, g29, g30]))] := hD
  refine lv_aload_n hx hb dX12_darkAt_5 rfl (lv_at hl 0 rfl) ?_
  refine cl_i (wc := [(a0, .inr (9, [.int 0, g3, g4, .null, g5, g6, g7, g8, g9, g10, g11, g12, g13, g14, g15, g16, g17, g18, g19, g20, g21, g22, g23, g24, g25, g26, g27, g28, g29, g30]))]) (wr := []) (va_runV (As := []) (rest := []) ⟨hx, hb, hml, hown, hts⟩ (kX12_refusesDark l dC dI a0 (.int 0) (g3) (g4) (g5) (g6) (g7) (g8) (g9) (g10) (g11) (g12) (g13) (g14) (g15) (g16) (g17) (g18) (g19) (g20) (g21) (g22) (g23) (g24) (g25) (g26) (g27) (g28) (g29) (g30) H.size) (cwV 0 hts gX12_darkAt_0 rfl rfl rfl (by decide +kernel) ⟨Nat.le_of_ble_eq_true rfl, Nat.le_of_ble_eq_true rfl⟩) (PV (hP.sub (ws' := [(a0, .inr (9, [.int 0, g3, g4, .null, g5, g6, g7, g8, g9, g10, g11, g12, g13, g14, g15, g16, g17, g18, g19, g20, g21, g22, g23, g24, g25, g26, g27, g28, g29, g30]))]) [0] rfl) (hK.sub (tys' := []) [] rfl) (hD.sub (ws' := [(a0, .inr (9, [.int 0, g3, g4, .null, g5, g6, g7, g8, g9, g10, g11, g12, g13, g14, g15, g16, g17, g18, g19, g20, g21, g22, g23, g24, g25, g26, g27, g28, g29, g30]))]) [0] (by decide) rfl) hN 0 rfl rfl) rfl rfl hl.1 rfl (lv_room (Nat.le_of_ble_eq_true rfl)) dX12_darkAt_6 ⟨Nat.le_of_ble_eq_true rfl, Nat.le_of_ble_eq_true rfl⟩) hP hD hK hS hA [0] [] rfl rfl (by decide) (by decide) (fun z1 _u H locs hw hP hD hK hS => ?_)
  have hP : va_P (dC, dI) vwCl [(a0, .inr (9, [.int 0, g3, g4, .null, g5, g6, g7, g8, g9, g10, g11, g12, g13, g14, g15, g16, g17, g18, g19, g20, g21, g22, g23, g24, g25, g26, g27, g28, g29, g30]))] H := hP
  have hD : va_D A [(a0, .inr (9, [.int 0, g3, g4, .null, g5, g6, g7, g8, g9, g10, g11, g12, g13, g14, g15, g16, g17, g18, g19, g20, g21, g22, g23, g24, g25, g26, g27, g28, g29, g30]))] := hD
  have hK : va_K (dC, dI) vwCl [] s := hK
  obtain rfl : z1 = 1 := hw
  refine lv_istore_n (lv' := [(2, .int 1), (0, .ref a0), (1, .int k1)]) hx hb dX12_darkAt_9 rfl hl (by decide) rfl (fun ls hl => ?_)
  refine lv_iload_n hx hb dX12_darkAt_10 rfl (lv_at hl 0 rfl) ?_
  refine lv_if_le (tgt := 20) hx hb dX12_darkAt_11 (by decide) (fun c2 => absurd c2 (by decide)) (fun _ => ?_)
  refine lv_aload_n hx hb dX12_darkAt_14 rfl (lv_at hl 1 rfl) ?_
  refine lv_iload_n hx hb dX12_darkAt_15 rfl (lv_at hl 0 rfl) ?_
  refine cl_i (wc := [(a0, .inr (9, [.int 0, g3, g4, .null, g5, g6, g7, g8, g9, g10, g11, g12, g13, g14, g15, g16, g17, g18, g19, g20, g21, g22, g23, g24, g25, g26, g27, g28, g29, g30]))]) (wr := []) (va_runV (As := [.int 1]) (rest := []) ⟨hx, hb, hml, hown, hts⟩ (kX12_refused_1 l dC dI a0 (.int 0) (g3) (g4) (.null) (g5) (g6) (g7) (g8) (g9) (g10) (g11) (g12) (g13) (g14) (g15) (g16) (g17) (g18) (g19) (g20) (g21) (g22) (g23) (g24) (g25) (g26) (g27) (g28) (g29) (g30) H.size) (cwV 1 hts gX12_darkAt_1 rfl rfl rfl (by decide +kernel) ⟨Nat.le_of_ble_eq_true rfl, Nat.le_of_ble_eq_true rfl⟩) (PV (hP.sub (ws' := [(a0, .inr (9, [.int 0, g3, g4, .null, g5, g6, g7, g8, g9, g10, g11, g12, g13, g14, g15, g16, g17, g18, g19, g20, g21, g22, g23, g24, g25, g26, g27, g28, g29, g30]))]) [0] rfl) (hK.sub (tys' := []) [] rfl) (hD.sub (ws' := [(a0, .inr (9, [.int 0, g3, g4, .null, g5, g6, g7, g8, g9, g10, g11, g12, g13, g14, g15, g16, g17, g18, g19, g20, g21, g22, g23, g24, g25, g26, g27, g28, g29, g30]))]) [0] (by decide) rfl) hN 0 rfl rfl) rfl rfl hl.1 rfl (lv_room (Nat.le_of_ble_eq_true rfl)) dX12_darkAt_16 ⟨Nat.le_of_ble_eq_true rfl, Nat.le_of_ble_eq_true rfl⟩) hP hD hK hS hA [0] [] rfl rfl (by decide) (by decide) (fun z3 _u H locs hw hP hD hK hS => ?_)
  have hP : va_P (dC, dI) vwCl [(a0, .inr (9, [.int 0, .int 1, .int (-1), .null, g5, g6, g7, g8, g9, g10, g11, g12, g13, g14, g15, g16, g17, g18, g19, g20, g21, g22, g23, g24, g25, g26, g27, g28, g29, g30]))] H := hP
  have hD : va_D A [(a0, .inr (9, [.int 0, .int 1, .int (-1), .null, g5, g6, g7, g8, g9, g10, g11, g12, g13, g14, g15, g16, g17, g18, g19, g20, g21, g22, g23, g24, g25, g26, g27, g28, g29, g30]))] := hD
  have hK : va_K (dC, dI) vwCl [] s := hK
  obtain rfl : z3 = (-1) := hw
  have hP9 := hP.sub (ws' := []) [] rfl
  have hD9 := hD.sub (ws' := []) [] (by decide) rfl
  have hK9 := hK.sub (tys' := []) [] rfl
  exact W.iret (v := (-1)) hx hb hr (fun t ht hW => ⟨⟨(-1), (), rfl, rfl, by rw [ht]; exact hP9, va_K.moved hW.alike hK9, hD9⟩, hS.F ht⟩) hS.2.2 dX12_darkAt_19
theorem dX10_darkSpots_0 : decode cX10_darkSpots 0 = .ok (.aload_n 0, 1) := by decide +kernel
theorem dX10_darkSpots_1 : decode cX10_darkSpots 1 = .ok (.aload_n 0, 1) := by decide +kernel
theorem dX10_darkSpots_11 : decode cX10_darkSpots 11 = .ok (.iconst (-1), 1) := by decide +kernel
theorem dX10_darkSpots_12 : decode cX10_darkSpots 12 = .ok (.ireturn, 1) := by decide +kernel
theorem dX10_darkSpots_2 : decode cX10_darkSpots 2 = .ok (.invokevirtual 264, 3) := by decide +kernel
theorem dX10_darkSpots_5 : decode cX10_darkSpots 5 = .ok (.invokevirtual 79, 3) := by decide +kernel
theorem dX10_darkSpots_8 : decode cX10_darkSpots 8 = .ok (.ifCond .eq 5, 3) := by decide +kernel
def vX10_darkSpots : List Cond := .code yX10_darkSpots cX10_darkSpots 3 (some .int) :: ([.methodLink RX10 264 yX10_darkTrouble, .instanceMethod yX10_darkTrouble, .selects RX10 yX10_darkTrouble yX10_darkTrouble, .initialized RX10, .code yX10_darkTrouble cX10_darkTrouble 2 (some .int), .methodLink RX10 216 yX10_pierTrouble, .instanceMethod yX10_pierTrouble, .selects RX10 yX10_pierTrouble yX10_pierTrouble, .code yX10_pierTrouble cX10_pierTrouble 1 (some .int), .fieldLink RX10 10 "HookPier" "plan" "LHookPier$Plan;", .fieldLink RX10 233 "HookPier$Plan" "spots" "I", .methodLink RX10 79 yX10_refused, .instanceMethod yX10_refused, .selects RX10 yX10_refused yX10_refused, .code yX10_refused cX10_refused 2 (some .boolean), .fieldLink RX10 61 "HookPier" "troubleNow" "I"] ++ wsX100 ++ wsX60)
theorem iX10_darkSpots_X10 : ∀ w ∈ wsX100, w ∈ vX10_darkSpots := fun _ h => List.mem_cons_of_mem _ (List.mem_append_left _ (List.mem_append_right _ h))
theorem iX10_darkSpots_X6 : ∀ w ∈ wsX60, w ∈ vX10_darkSpots := fun _ h => List.mem_cons_of_mem _ (List.mem_append_right _ h)
set_option maxRecDepth 20000 in
theorem gX10_darkSpots_0 : GoodIn vX10_darkSpots (wsV RX10 264 RX10 yX10_darkTrouble vX10_darkTrouble) := goodIn_app (goodIn_r [.methodLink RX10 264 yX10_darkTrouble, .instanceMethod yX10_darkTrouble, .selects RX10 yX10_darkTrouble yX10_darkTrouble, .initialized RX10] [1, 2, 3, 4] (by decide +kernel) (by decide +kernel)) (goodIn_ca (goodIn_ca (goodIn_r (.code yX10_darkTrouble cX10_darkTrouble 2 (some .int) :: [.methodLink RX10 216 yX10_pierTrouble, .instanceMethod yX10_pierTrouble, .selects RX10 yX10_pierTrouble yX10_pierTrouble, .initialized RX10, .code yX10_pierTrouble cX10_pierTrouble 1 (some .int), .fieldLink RX10 10 "HookPier" "plan" "LHookPier$Plan;", .fieldLink RX10 233 "HookPier$Plan" "spots" "I"]) [5, 6, 7, 8, 4, 9, 10, 11] (by decide +kernel) (by decide +kernel) : GoodIn vX10_darkSpots (.code yX10_darkTrouble cX10_darkTrouble 2 (some .int) :: [.methodLink RX10 216 yX10_pierTrouble, .instanceMethod yX10_pierTrouble, .selects RX10 yX10_pierTrouble yX10_pierTrouble, .initialized RX10, .code yX10_pierTrouble cX10_pierTrouble 1 (some .int), .fieldLink RX10 10 "HookPier" "plan" "LHookPier$Plan;", .fieldLink RX10 233 "HookPier$Plan" "spots" "I"])) (goodIn_sub iX10_darkSpots_X10 (by decide +kernel))) (goodIn_sub iX10_darkSpots_X6 (by decide +kernel)))
set_option maxRecDepth 20000 in
theorem gX10_darkSpots_1 : GoodIn vX10_darkSpots (wsV RX10 79 RX10 yX10_refused vX10_refused_3) := goodIn_app (goodIn_r [.methodLink RX10 79 yX10_refused, .instanceMethod yX10_refused, .selects RX10 yX10_refused yX10_refused, .initialized RX10] [12, 13, 14, 4] (by decide +kernel) (by decide +kernel)) (goodIn_ca (goodIn_r (.code yX10_refused cX10_refused 2 (some .boolean) :: [.fieldLink RX10 61 "HookPier" "troubleNow" "I"]) [15, 16] (by decide +kernel) (by decide +kernel) : GoodIn vX10_darkSpots (.code yX10_refused cX10_refused 2 (some .boolean) :: [.fieldLink RX10 61 "HookPier" "troubleNow" "I"])) (goodIn_sub iX10_darkSpots_X10 (by decide +kernel)))
set_option maxHeartbeats 1000000 in
set_option maxRecDepth 100000 in
theorem kX10_darkSpots (l : Launch) (dC : Nat → ClassId) (dI : Nat → Nat → Nat) (a0 : Nat) (a1 : Nat) (g2 : Value) (g3 : Value) (g4 : Value) (g5 : Value) (g6 : Value) (g7 : Value) (g8 : Value) (g9 : Value) (g10 : Value) (g11 : Value) (g12 : Value) (g13 : Value) (g14 : Value) (g15 : Value) (g16 : Value) (g17 : Value) (g18 : Value) (g19 : Value) (g20 : Value) (g21 : Value) (g22 : Value) (g23 : Value) (g24 : Value) (g25 : Value) (g26 : Value) (g27 : Value) (sz : Nat) : Met l yX10_darkSpots vX10_darkSpots ({ frames := 2, cells := 0, slots := 0, locals := 41 }) (PC (dC, dI) [.ref a0] sz [(a0, .inr (7, [.ref a1, g2, g3, g4, g5, g6, g7, g8, g9, g10])), (a1, .inr (4, [.int 0, g11, g12, g13, g14, g15, g16, g17, g18, g19, g20, g21, g22, g23, g24, g25, g26, g27]))] []) (va_Qi (S := Unit) (fun (r : Int32) _ => r = (-1)) (fun _ t => BC (dC, dI) (va_A [(a0, .inr (7, [.ref a1, g2, g3, g4, g5, g6, g7, g8, g9, g10])), (a1, .inr (4, [.int 0, g11, g12, g13, g14, g15, g16, g17, g18, g19, g20, g21, g22, g23, g24, g25, g26, g27]))] sz) [] [] t) (va_A [(a0, .inr (7, [.ref a1, g2, g3, g4, g5, g6, g7, g8, g9, g10])), (a1, .inr (4, [.int 0, g11, g12, g13, g14, g15, g16, g17, g18, g19, g20, g21, g22, g23, g24, g25, g26, g27]))] sz)) 0 0 (va_A [(a0, .inr (7, [.ref a1, g2, g3, g4, g5, g6, g7, g8, g9, g10])), (a1, .inr (4, [.int 0, g11, g12, g13, g14, g15, g16, g17, g18, g19, g20, g21, g22, g23, g24, g25, g26, g27]))] sz) := by
  refine Met.ofW (cc := cX10_darkSpots) (maxL := 3) (ret := (some .int)) (by decide) rfl ?_
  intro p e s m args below meth c s₁ B hml hv
  obtain ⟨rfl, hsz, hP, hK, hD0, hN⟩ := hv
  have hx := B.exec
  have hb := B.bytes
  have hr := B.returns
  have hts := atoms_spec (ws := vX10_darkSpots) B.pre
  have hown : s.vm.findClass RX10 = some m.cls := findClass_of_methodNamed B.named
  have hlocks := B.notSynchronized
  subst hsz
  have hD := hD0.self (sz := s.heap.size)
  generalize hAe : va_A [(a0, .inr (7, [.ref a1, g2, g3, g4, g5, g6, g7, g8, g9, g10])), (a1, .inr (4, [.int 0, g11, g12, g13, g14, g15, g16, g17, g18, g19, g20, g21, g22, g23, g24, g25, g26, g27]))] s.heap.size = A at hD ⊢
  have hA : ∀ q : Nat, s.heap.size ≤ q → A q := fun q h => by rw [← hAe]; exact Or.inr h
  have hS : va_S A s.heap s.heap [] := va_S.rf
  have hP : va_P (dC, dI) vwCl [(a0, .inr (7, [.ref a1, g2, g3, g4, g5, g6, g7, g8, g9, g10])), (a1, .inr (4, [.int 0, g11, g12, g13, g14, g15, g16, g17, g18, g19, g20, g21, g22, g23, g24, g25, g26, g27]))] s.heap := hP
  have hl := lv_entry ([.ref a0]) (n := 3) (Nat.le_of_ble_eq_true rfl)
  rw [lg_entry_eq]
  generalize (lg_sl ([.ref a0]) ++ List.replicate (3 - (lg_sl ([.ref a0])).length) Slot.unset).toArray = ls at hl ⊢
  have hl : lv_has ls 3 [(0, .ref a0)] := hl
  refine lv_aload_n hx hb dX10_darkSpots_0 rfl (lv_at hl 0 rfl) ?_
  refine lv_aload_n hx hb dX10_darkSpots_1 rfl (lv_at hl 0 rfl) ?_
  refine cl_i (wc := [(a0, .inr (7, [.ref a1, g2, g3, g4, g5, g6, g7, g8, g9, g10])), (a1, .inr (4, [.int 0, g11, g12, g13, g14, g15, g16, g17, g18, g19, g20, g21, g22, g23, g24, g25, g26, g27]))]) (wr := []) (va_runV (As := []) (rest := [.ref a0]) ⟨hx, hb, hml, hown, hts⟩ (kX10_darkTrouble l dC dI a0 a1 (g2) (g3) (g4) (g5) (g6) (g7) (g8) (g9) (g10) (g11) (g12) (g13) (g14) (g15) (g16) (g17) (g18) (g19) (g20) (g21) (g22) (g23) (g24) (g25) (g26) (g27) s.heap.size) (cwV 0 hts gX10_darkSpots_0 rfl rfl rfl (by decide +kernel) ⟨Nat.le_of_ble_eq_true rfl, Nat.le_of_ble_eq_true rfl⟩) (PV (hP.sub (ws' := [(a0, .inr (7, [.ref a1, g2, g3, g4, g5, g6, g7, g8, g9, g10])), (a1, .inr (4, [.int 0, g11, g12, g13, g14, g15, g16, g17, g18, g19, g20, g21, g22, g23, g24, g25, g26, g27]))]) [0, 1] rfl) (hK.sub (tys' := []) [] rfl) (hD.sub (ws' := [(a0, .inr (7, [.ref a1, g2, g3, g4, g5, g6, g7, g8, g9, g10])), (a1, .inr (4, [.int 0, g11, g12, g13, g14, g15, g16, g17, g18, g19, g20, g21, g22, g23, g24, g25, g26, g27]))]) [0, 1] (by decide) rfl) hN 0 rfl rfl) rfl rfl hl.1 rfl (lv_room (Nat.le_of_ble_eq_true rfl)) dX10_darkSpots_2 ⟨Nat.le_of_ble_eq_true rfl, Nat.le_of_ble_eq_true rfl⟩) hP hD hK hS hA [0, 1] [] rfl rfl (by decide) (by decide) (fun z1 _u H locs hw hP hD hK hS => ?_)
  have hP : va_P (dC, dI) vwCl [(a0, .inr (7, [.ref a1, g2, g3, g4, g5, g6, g7, g8, g9, g10])), (a1, .inr (4, [.int 0, g11, g12, g13, g14, g15, g16, g17, g18, g19, g20, g21, g22, g23, g24, g25, g26, g27]))] H := hP
  have hD : va_D A [(a0, .inr (7, [.ref a1, g2, g3, g4, g5, g6, g7, g8, g9, g10])), (a1, .inr (4, [.int 0, g11, g12, g13, g14, g15, g16, g17, g18, g19, g20, g21, g22, g23, g24, g25, g26, g27]))] := hD
  have hK : va_K (dC, dI) vwCl [] s := hK
  obtain rfl : z1 = 1 := hw
  refine cl_i (wc := [(a0, .inr (7, [.ref a1, g2, g3, g4, g5, g6, g7, g8, g9, g10]))]) (wr := [(a1, .inr (4, [.int 0, g11, g12, g13, g14, g15, g16, g17, g18, g19, g20, g21, g22, g23, g24, g25, g26, g27]))]) (va_runV (As := [.int 1]) (rest := []) ⟨hx, hb, hml, hown, hts⟩ (kX10_refused_3 l dC dI a0 (.ref a1) (g2) (g3) (g4) (g5) (g6) (g7) (g8) (g9) (g10) H.size) (cwV 1 hts gX10_darkSpots_1 rfl rfl rfl (by decide +kernel) ⟨Nat.le_of_ble_eq_true rfl, Nat.le_of_ble_eq_true rfl⟩) (PV (hP.sub (ws' := [(a0, .inr (7, [.ref a1, g2, g3, g4, g5, g6, g7, g8, g9, g10]))]) [0] rfl) (hK.sub (tys' := []) [] rfl) (hD.sub (ws' := [(a0, .inr (7, [.ref a1, g2, g3, g4, g5, g6, g7, g8, g9, g10]))]) [0] (by decide) rfl) hN 0 rfl rfl) rfl rfl hl.1 rfl (lv_room (Nat.le_of_ble_eq_true rfl)) dX10_darkSpots_5 ⟨Nat.le_of_ble_eq_true rfl, Nat.le_of_ble_eq_true rfl⟩) hP hD hK hS hA [0] [1] rfl rfl (by decide) (by decide) (fun z2 _u H locs hw hP hD hK hS => ?_)
  have hP : va_P (dC, dI) vwCl [(a1, .inr (4, [.int 0, g11, g12, g13, g14, g15, g16, g17, g18, g19, g20, g21, g22, g23, g24, g25, g26, g27])), (a0, .inr (7, [.ref a1, g2, g3, g4, g5, g6, g7, g8, .int 1, g10]))] H := hP
  have hD : va_D A [(a1, .inr (4, [.int 0, g11, g12, g13, g14, g15, g16, g17, g18, g19, g20, g21, g22, g23, g24, g25, g26, g27])), (a0, .inr (7, [.ref a1, g2, g3, g4, g5, g6, g7, g8, .int 1, g10]))] := hD
  have hK : va_K (dC, dI) vwCl [] s := hK
  obtain rfl : z2 = 1 := hw
  refine lv_if_eq (tgt := 13) hx hb dX10_darkSpots_8 (by decide) (fun c3 => absurd c3 (by decide)) (fun _ => ?_)
  refine lv_iconst (v := (-1)) hx hb dX10_darkSpots_11 (by decide) ?_
  have hP9 := hP.sub (ws' := []) [] rfl
  have hD9 := hD.sub (ws' := []) [] (by decide) rfl
  have hK9 := hK.sub (tys' := []) [] rfl
  exact W.iret (v := (-1)) hx hb hr (fun t ht hW => ⟨⟨(-1), (), rfl, rfl, by rw [ht]; exact hP9, va_K.moved hW.alike hK9, hD9⟩, hS.F ht⟩) hS.2.2 dX10_darkSpots_12
theorem dX12_darkSpots_0 : decode cX12_darkSpots 0 = .ok (.aload_n 0, 1) := by decide +kernel
theorem dX12_darkSpots_1 : decode cX12_darkSpots 1 = .ok (.iconst 0, 1) := by decide +kernel
theorem dX12_darkSpots_10 : decode cX12_darkSpots 10 = .ok (.iload_n 1, 1) := by decide +kernel
theorem dX12_darkSpots_11 : decode cX12_darkSpots 11 = .ok (.ifCond .le 9, 3) := by decide +kernel
theorem dX12_darkSpots_14 : decode cX12_darkSpots 14 = .ok (.aload_n 0, 1) := by decide +kernel
theorem dX12_darkSpots_15 : decode cX12_darkSpots 15 = .ok (.iload_n 1, 1) := by decide +kernel
theorem dX12_darkSpots_16 : decode cX12_darkSpots 16 = .ok (.invokevirtual 42, 3) := by decide +kernel
theorem dX12_darkSpots_19 : decode cX12_darkSpots 19 = .ok (.ireturn, 1) := by decide +kernel
theorem dX12_darkSpots_2 : decode cX12_darkSpots 2 = .ok (.putfield 36, 3) := by decide +kernel
theorem dX12_darkSpots_5 : decode cX12_darkSpots 5 = .ok (.aload_n 0, 1) := by decide +kernel
theorem dX12_darkSpots_6 : decode cX12_darkSpots 6 = .ok (.invokevirtual 417, 3) := by decide +kernel
theorem dX12_darkSpots_9 : decode cX12_darkSpots 9 = .ok (.istore_n 1, 1) := by decide +kernel
def vX12_darkSpots : List Cond := .code yX12_darkSpots cX12_darkSpots 4 (some .int) :: ([.fieldLink RX12 36 "HookPierModel" "thrown" "I", .methodLink RX12 417 yX12_refusesDark, .instanceMethod yX12_refusesDark, .selects RX12 yX12_refusesDark yX12_refusesDark, .initialized RX12, .code yX12_refusesDark cX12_refusesDark 1 (some .int), .fieldLink RX12 299 "HookPierModel" "pier" "LHookPierModel$Pier;", .methodLink RX12 42 yX12_refused, .instanceMethod yX12_refused, .selects RX12 yX12_refused yX12_refused, .code yX12_refused cX12_refused 2 (some .int), .fieldLink RX12 39 "HookPierModel" "trouble" "I", .fieldLink RX12 9 "HookPierModel" "where" "I"] ++ wsX120)
theorem iX12_darkSpots_X12 : ∀ w ∈ wsX120, w ∈ vX12_darkSpots := fun _ h => List.mem_cons_of_mem _ (List.mem_append_right _ h)
set_option maxRecDepth 20000 in
theorem gX12_darkSpots_0 : GoodIn vX12_darkSpots (wsV RX12 417 RX12 yX12_refusesDark vX12_refusesDark) := goodIn_app (goodIn_r [.methodLink RX12 417 yX12_refusesDark, .instanceMethod yX12_refusesDark, .selects RX12 yX12_refusesDark yX12_refusesDark, .initialized RX12] [2, 3, 4, 5] (by decide +kernel) (by decide +kernel)) (goodIn_ca (goodIn_r (.code yX12_refusesDark cX12_refusesDark 1 (some .int) :: [.fieldLink RX12 299 "HookPierModel" "pier" "LHookPierModel$Pier;"]) [6, 7] (by decide +kernel) (by decide +kernel) : GoodIn vX12_darkSpots (.code yX12_refusesDark cX12_refusesDark 1 (some .int) :: [.fieldLink RX12 299 "HookPierModel" "pier" "LHookPierModel$Pier;"])) (goodIn_sub iX12_darkSpots_X12 (by decide +kernel)))
set_option maxRecDepth 20000 in
theorem gX12_darkSpots_1 : GoodIn vX12_darkSpots (wsV RX12 42 RX12 yX12_refused vX12_refused_1) := goodIn_app (goodIn_r [.methodLink RX12 42 yX12_refused, .instanceMethod yX12_refused, .selects RX12 yX12_refused yX12_refused, .initialized RX12] [8, 9, 10, 5] (by decide +kernel) (by decide +kernel)) (goodIn_ca (goodIn_r (.code yX12_refused cX12_refused 2 (some .int) :: [.fieldLink RX12 39 "HookPierModel" "trouble" "I", .fieldLink RX12 9 "HookPierModel" "where" "I"]) [11, 12, 13] (by decide +kernel) (by decide +kernel) : GoodIn vX12_darkSpots (.code yX12_refused cX12_refused 2 (some .int) :: [.fieldLink RX12 39 "HookPierModel" "trouble" "I", .fieldLink RX12 9 "HookPierModel" "where" "I"])) (goodIn_sub iX12_darkSpots_X12 (by decide +kernel)))
set_option maxHeartbeats 1000000 in
set_option maxRecDepth 100000 in
theorem kX12_darkSpots (l : Launch) (dC : Nat → ClassId) (dI : Nat → Nat → Nat) (a0 : Nat) (g1 : Value) (g2 : Value) (g3 : Value) (g4 : Value) (g5 : Value) (g6 : Value) (g7 : Value) (g8 : Value) (g9 : Value) (g10 : Value) (g11 : Value) (g12 : Value) (g13 : Value) (g14 : Value) (g15 : Value) (g16 : Value) (g17 : Value) (g18 : Value) (g19 : Value) (g20 : Value) (g21 : Value) (g22 : Value) (g23 : Value) (g24 : Value) (g25 : Value) (g26 : Value) (g27 : Value) (g28 : Value) (g29 : Value) (sz : Nat) : Met l yX12_darkSpots vX12_darkSpots ({ frames := 1, cells := 0, slots := 0, locals := 21 }) (PC (dC, dI) [.ref a0] sz [(a0, .inr (9, [g1, g2, g3, .null, g4, g5, g6, g7, g8, g9, g10, g11, g12, g13, g14, g15, g16, g17, g18, g19, g20, g21, g22, g23, g24, g25, g26, g27, g28, g29]))] []) (va_Qi (S := Unit) (fun (r : Int32) _ => r = (-1)) (fun _ t => BC (dC, dI) (va_A [(a0, .inr (9, [g1, g2, g3, .null, g4, g5, g6, g7, g8, g9, g10, g11, g12, g13, g14, g15, g16, g17, g18, g19, g20, g21, g22, g23, g24, g25, g26, g27, g28, g29]))] sz) [] [] t) (va_A [(a0, .inr (9, [g1, g2, g3, .null, g4, g5, g6, g7, g8, g9, g10, g11, g12, g13, g14, g15, g16, g17, g18, g19, g20, g21, g22, g23, g24, g25, g26, g27, g28, g29]))] sz)) 0 0 (va_A [(a0, .inr (9, [g1, g2, g3, .null, g4, g5, g6, g7, g8, g9, g10, g11, g12, g13, g14, g15, g16, g17, g18, g19, g20, g21, g22, g23, g24, g25, g26, g27, g28, g29]))] sz) := by
  refine Met.ofW (cc := cX12_darkSpots) (maxL := 4) (ret := (some .int)) (by decide) rfl ?_
  intro p e s m args below meth c s₁ B hml hv
  obtain ⟨rfl, hsz, hP, hK, hD0, hN⟩ := hv
  have hx := B.exec
  have hb := B.bytes
  have hr := B.returns
  have hts := atoms_spec (ws := vX12_darkSpots) B.pre
  have hown : s.vm.findClass RX12 = some m.cls := findClass_of_methodNamed B.named
  have hlocks := B.notSynchronized
  subst hsz
  have hD := hD0.self (sz := s.heap.size)
  generalize hAe : va_A [(a0, .inr (9, [g1, g2, g3, .null, g4, g5, g6, g7, g8, g9, g10, g11, g12, g13, g14, g15, g16, g17, g18, g19, g20, g21, g22, g23, g24, g25, g26, g27, g28, g29]))] s.heap.size = A at hD ⊢
  have hA : ∀ q : Nat, s.heap.size ≤ q → A q := fun q h => by rw [← hAe]; exact Or.inr h
  have hS : va_S A s.heap s.heap [] := va_S.rf
  have hP : va_P (dC, dI) vwCl [(a0, .inr (9, [g1, g2, g3, .null, g4, g5, g6, g7, g8, g9, g10, g11, g12, g13, g14, g15, g16, g17, g18, g19, g20, g21, g22, g23, g24, g25, g26, g27, g28, g29]))] s.heap := hP
  have hl := lv_entry ([.ref a0]) (n := 4) (Nat.le_of_ble_eq_true rfl)
  rw [lg_entry_eq]
  generalize (lg_sl ([.ref a0]) ++ List.replicate (4 - (lg_sl ([.ref a0])).length) Slot.unset).toArray = ls at hl ⊢
  have hl : lv_has ls 4 [(0, .ref a0)] := hl
  refine lv_aload_n hx hb dX12_darkSpots_0 rfl (lv_at hl 0 rfl) ?_
  refine lv_iconst (v := 0) hx hb dX12_darkSpots_1 (by decide) ?_
  refine va_put (D := (dC, dI)) (ci := 9) (v := .int 0) (ty := .int) (C := RX12) (T := TX12) (N := 30) hx hb hts iX12_darkSpots_X12 tyX12 tyX12_ok nmX12 hown hK hP hD hS 0 rfl rfl 0 (by decide) (hts (.fieldLink RX12 36 "HookPierModel" "thrown" "I") (List.mem_of_getElem? (i := 1) rfl)) (fun _ h9 => h9) rfl (by decide +kernel) rfl rfl (Nat.le_of_ble_eq_true rfl) dX12_darkSpots_2 (fun H locs hP hD hS => ?_)
  have hP : va_P (dC, dI) vwCl [(a0, .inr (9, [.int 0, g2, g3, .null, g4, g5, g6, g7, g8, g9, g10, g11, g12, g13, g14, g15, g16, g17, g18, g19, g20, g21, g22, g23, g24, g25, g26, g27, g28, g29]))] H := hP
  have hD : va_D A [(a0, .inr (9, [.int 0, g2, g3, .null, g4, g5, g6, g7, g8, g9, g10, g11, g12, g13, g14, g15, g16, g17, g18, g19, g20, g21, g22, g23, g24, g25, g26, g27, g28, g29]))] := hD
  refine lv_aload_n hx hb dX12_darkSpots_5 rfl (lv_at hl 0 rfl) ?_
  refine cl_i (wc := [(a0, .inr (9, [.int 0, g2, g3, .null, g4, g5, g6, g7, g8, g9, g10, g11, g12, g13, g14, g15, g16, g17, g18, g19, g20, g21, g22, g23, g24, g25, g26, g27, g28, g29]))]) (wr := []) (va_runV (As := []) (rest := []) ⟨hx, hb, hml, hown, hts⟩ (kX12_refusesDark l dC dI a0 (.int 0) (g2) (g3) (g4) (g5) (g6) (g7) (g8) (g9) (g10) (g11) (g12) (g13) (g14) (g15) (g16) (g17) (g18) (g19) (g20) (g21) (g22) (g23) (g24) (g25) (g26) (g27) (g28) (g29) H.size) (cwV 0 hts gX12_darkSpots_0 rfl rfl rfl (by decide +kernel) ⟨Nat.le_of_ble_eq_true rfl, Nat.le_of_ble_eq_true rfl⟩) (PV (hP.sub (ws' := [(a0, .inr (9, [.int 0, g2, g3, .null, g4, g5, g6, g7, g8, g9, g10, g11, g12, g13, g14, g15, g16, g17, g18, g19, g20, g21, g22, g23, g24, g25, g26, g27, g28, g29]))]) [0] rfl) (hK.sub (tys' := []) [] rfl) (hD.sub (ws' := [(a0, .inr (9, [.int 0, g2, g3, .null, g4, g5, g6, g7, g8, g9, g10, g11, g12, g13, g14, g15, g16, g17, g18, g19, g20, g21, g22, g23, g24, g25, g26, g27, g28, g29]))]) [0] (by decide) rfl) hN 0 rfl rfl) rfl rfl hl.1 rfl (lv_room (Nat.le_of_ble_eq_true rfl)) dX12_darkSpots_6 ⟨Nat.le_of_ble_eq_true rfl, Nat.le_of_ble_eq_true rfl⟩) hP hD hK hS hA [0] [] rfl rfl (by decide) (by decide) (fun z1 _u H locs hw hP hD hK hS => ?_)
  have hP : va_P (dC, dI) vwCl [(a0, .inr (9, [.int 0, g2, g3, .null, g4, g5, g6, g7, g8, g9, g10, g11, g12, g13, g14, g15, g16, g17, g18, g19, g20, g21, g22, g23, g24, g25, g26, g27, g28, g29]))] H := hP
  have hD : va_D A [(a0, .inr (9, [.int 0, g2, g3, .null, g4, g5, g6, g7, g8, g9, g10, g11, g12, g13, g14, g15, g16, g17, g18, g19, g20, g21, g22, g23, g24, g25, g26, g27, g28, g29]))] := hD
  have hK : va_K (dC, dI) vwCl [] s := hK
  obtain rfl : z1 = 1 := hw
  refine lv_istore_n (lv' := [(1, .int 1), (0, .ref a0)]) hx hb dX12_darkSpots_9 rfl hl (by decide) rfl (fun ls hl => ?_)
  refine lv_iload_n hx hb dX12_darkSpots_10 rfl (lv_at hl 0 rfl) ?_
  refine lv_if_le (tgt := 20) hx hb dX12_darkSpots_11 (by decide) (fun c2 => absurd c2 (by decide)) (fun _ => ?_)
  refine lv_aload_n hx hb dX12_darkSpots_14 rfl (lv_at hl 1 rfl) ?_
  refine lv_iload_n hx hb dX12_darkSpots_15 rfl (lv_at hl 0 rfl) ?_
  refine cl_i (wc := [(a0, .inr (9, [.int 0, g2, g3, .null, g4, g5, g6, g7, g8, g9, g10, g11, g12, g13, g14, g15, g16, g17, g18, g19, g20, g21, g22, g23, g24, g25, g26, g27, g28, g29]))]) (wr := []) (va_runV (As := [.int 1]) (rest := []) ⟨hx, hb, hml, hown, hts⟩ (kX12_refused_1 l dC dI a0 (.int 0) (g2) (g3) (.null) (g4) (g5) (g6) (g7) (g8) (g9) (g10) (g11) (g12) (g13) (g14) (g15) (g16) (g17) (g18) (g19) (g20) (g21) (g22) (g23) (g24) (g25) (g26) (g27) (g28) (g29) H.size) (cwV 1 hts gX12_darkSpots_1 rfl rfl rfl (by decide +kernel) ⟨Nat.le_of_ble_eq_true rfl, Nat.le_of_ble_eq_true rfl⟩) (PV (hP.sub (ws' := [(a0, .inr (9, [.int 0, g2, g3, .null, g4, g5, g6, g7, g8, g9, g10, g11, g12, g13, g14, g15, g16, g17, g18, g19, g20, g21, g22, g23, g24, g25, g26, g27, g28, g29]))]) [0] rfl) (hK.sub (tys' := []) [] rfl) (hD.sub (ws' := [(a0, .inr (9, [.int 0, g2, g3, .null, g4, g5, g6, g7, g8, g9, g10, g11, g12, g13, g14, g15, g16, g17, g18, g19, g20, g21, g22, g23, g24, g25, g26, g27, g28, g29]))]) [0] (by decide) rfl) hN 0 rfl rfl) rfl rfl hl.1 rfl (lv_room (Nat.le_of_ble_eq_true rfl)) dX12_darkSpots_16 ⟨Nat.le_of_ble_eq_true rfl, Nat.le_of_ble_eq_true rfl⟩) hP hD hK hS hA [0] [] rfl rfl (by decide) (by decide) (fun z3 _u H locs hw hP hD hK hS => ?_)
  have hP : va_P (dC, dI) vwCl [(a0, .inr (9, [.int 0, .int 1, .int (-1), .null, g4, g5, g6, g7, g8, g9, g10, g11, g12, g13, g14, g15, g16, g17, g18, g19, g20, g21, g22, g23, g24, g25, g26, g27, g28, g29]))] H := hP
  have hD : va_D A [(a0, .inr (9, [.int 0, .int 1, .int (-1), .null, g4, g5, g6, g7, g8, g9, g10, g11, g12, g13, g14, g15, g16, g17, g18, g19, g20, g21, g22, g23, g24, g25, g26, g27, g28, g29]))] := hD
  have hK : va_K (dC, dI) vwCl [] s := hK
  obtain rfl : z3 = (-1) := hw
  have hP9 := hP.sub (ws' := []) [] rfl
  have hD9 := hD.sub (ws' := []) [] (by decide) rfl
  have hK9 := hK.sub (tys' := []) [] rfl
  exact W.iret (v := (-1)) hx hb hr (fun t ht hW => ⟨⟨(-1), (), rfl, rfl, by rw [ht]; exact hP9, va_K.moved hW.alike hK9, hD9⟩, hS.F ht⟩) hS.2.2 dX12_darkSpots_19
theorem dX10_ask_0 : decode cX10_ask 0 = .ok (.aload_n 0, 1) := by decide +kernel
theorem dX10_ask_1 : decode cX10_ask 1 = .ok (.aload_n 0, 1) := by decide +kernel
theorem dX10_ask_11 : decode cX10_ask 11 = .ok (.iconst (-1), 1) := by decide +kernel
theorem dX10_ask_12 : decode cX10_ask 12 = .ok (.ireturn, 1) := by decide +kernel
theorem dX10_ask_2 : decode cX10_ask 2 = .ok (.invokevirtual 264, 3) := by decide +kernel
theorem dX10_ask_5 : decode cX10_ask 5 = .ok (.invokevirtual 79, 3) := by decide +kernel
theorem dX10_ask_8 : decode cX10_ask 8 = .ok (.ifCond .eq 5, 3) := by decide +kernel
def vX10_ask : List Cond := .code yX10_ask cX10_ask 1 (some .int) :: ([.methodLink RX10 264 yX10_darkTrouble, .instanceMethod yX10_darkTrouble, .selects RX10 yX10_darkTrouble yX10_darkTrouble, .initialized RX10, .code yX10_darkTrouble cX10_darkTrouble 2 (some .int), .methodLink RX10 216 yX10_pierTrouble, .instanceMethod yX10_pierTrouble, .selects RX10 yX10_pierTrouble yX10_pierTrouble, .code yX10_pierTrouble cX10_pierTrouble 1 (some .int), .fieldLink RX10 10 "HookPier" "plan" "LHookPier$Plan;", .fieldLink RX10 233 "HookPier$Plan" "spots" "I", .methodLink RX10 79 yX10_refused, .instanceMethod yX10_refused, .selects RX10 yX10_refused yX10_refused, .code yX10_refused cX10_refused 2 (some .boolean), .fieldLink RX10 61 "HookPier" "troubleNow" "I"] ++ wsX100 ++ wsX60)
theorem iX10_ask_X10 : ∀ w ∈ wsX100, w ∈ vX10_ask := fun _ h => List.mem_cons_of_mem _ (List.mem_append_left _ (List.mem_append_right _ h))
theorem iX10_ask_X6 : ∀ w ∈ wsX60, w ∈ vX10_ask := fun _ h => List.mem_cons_of_mem _ (List.mem_append_right _ h)
set_option maxRecDepth 20000 in
theorem gX10_ask_0 : GoodIn vX10_ask (wsV RX10 264 RX10 yX10_darkTrouble vX10_darkTrouble) := goodIn_app (goodIn_r [.methodLink RX10 264 yX10_darkTrouble, .instanceMethod yX10_darkTrouble, .selects RX10 yX10_darkTrouble yX10_darkTrouble, .initialized RX10] [1, 2, 3, 4] (by decide +kernel) (by decide +kernel)) (goodIn_ca (goodIn_ca (goodIn_r (.code yX10_darkTrouble cX10_darkTrouble 2 (some .int) :: [.methodLink RX10 216 yX10_pierTrouble, .instanceMethod yX10_pierTrouble, .selects RX10 yX10_pierTrouble yX10_pierTrouble, .initialized RX10, .code yX10_pierTrouble cX10_pierTrouble 1 (some .int), .fieldLink RX10 10 "HookPier" "plan" "LHookPier$Plan;", .fieldLink RX10 233 "HookPier$Plan" "spots" "I"]) [5, 6, 7, 8, 4, 9, 10, 11] (by decide +kernel) (by decide +kernel) : GoodIn vX10_ask (.code yX10_darkTrouble cX10_darkTrouble 2 (some .int) :: [.methodLink RX10 216 yX10_pierTrouble, .instanceMethod yX10_pierTrouble, .selects RX10 yX10_pierTrouble yX10_pierTrouble, .initialized RX10, .code yX10_pierTrouble cX10_pierTrouble 1 (some .int), .fieldLink RX10 10 "HookPier" "plan" "LHookPier$Plan;", .fieldLink RX10 233 "HookPier$Plan" "spots" "I"])) (goodIn_sub iX10_ask_X10 (by decide +kernel))) (goodIn_sub iX10_ask_X6 (by decide +kernel)))
set_option maxRecDepth 20000 in
theorem gX10_ask_1 : GoodIn vX10_ask (wsV RX10 79 RX10 yX10_refused vX10_refused_3) := goodIn_app (goodIn_r [.methodLink RX10 79 yX10_refused, .instanceMethod yX10_refused, .selects RX10 yX10_refused yX10_refused, .initialized RX10] [12, 13, 14, 4] (by decide +kernel) (by decide +kernel)) (goodIn_ca (goodIn_r (.code yX10_refused cX10_refused 2 (some .boolean) :: [.fieldLink RX10 61 "HookPier" "troubleNow" "I"]) [15, 16] (by decide +kernel) (by decide +kernel) : GoodIn vX10_ask (.code yX10_refused cX10_refused 2 (some .boolean) :: [.fieldLink RX10 61 "HookPier" "troubleNow" "I"])) (goodIn_sub iX10_ask_X10 (by decide +kernel)))
set_option maxHeartbeats 1000000 in
set_option maxRecDepth 100000 in
theorem kX10_ask (l : Launch) (dC : Nat → ClassId) (dI : Nat → Nat → Nat) (a0 : Nat) (a1 : Nat) (g2 : Value) (g3 : Value) (g4 : Value) (g5 : Value) (g6 : Value) (g7 : Value) (g8 : Value) (g9 : Value) (g10 : Value) (g11 : Value) (g12 : Value) (g13 : Value) (g14 : Value) (g15 : Value) (g16 : Value) (g17 : Value) (g18 : Value) (g19 : Value) (g20 : Value) (g21 : Value) (g22 : Value) (g23 : Value) (g24 : Value) (g25 : Value) (g26 : Value) (g27 : Value) (sz : Nat) : Met l yX10_ask vX10_ask ({ frames := 2, cells := 0, slots := 0, locals := 41 }) (PC (dC, dI) [.ref a0] sz [(a0, .inr (7, [.ref a1, g2, g3, g4, g5, g6, g7, g8, g9, g10])), (a1, .inr (4, [.int 0, g11, g12, g13, g14, g15, g16, g17, g18, g19, g20, g21, g22, g23, g24, g25, g26, g27]))] []) (va_Qi (S := Unit) (fun (r : Int32) _ => r = (-1)) (fun _ t => BC (dC, dI) (va_A [(a0, .inr (7, [.ref a1, g2, g3, g4, g5, g6, g7, g8, g9, g10])), (a1, .inr (4, [.int 0, g11, g12, g13, g14, g15, g16, g17, g18, g19, g20, g21, g22, g23, g24, g25, g26, g27]))] sz) [] [] t) (va_A [(a0, .inr (7, [.ref a1, g2, g3, g4, g5, g6, g7, g8, g9, g10])), (a1, .inr (4, [.int 0, g11, g12, g13, g14, g15, g16, g17, g18, g19, g20, g21, g22, g23, g24, g25, g26, g27]))] sz)) 0 0 (va_A [(a0, .inr (7, [.ref a1, g2, g3, g4, g5, g6, g7, g8, g9, g10])), (a1, .inr (4, [.int 0, g11, g12, g13, g14, g15, g16, g17, g18, g19, g20, g21, g22, g23, g24, g25, g26, g27]))] sz) := by
  refine Met.ofW (cc := cX10_ask) (maxL := 1) (ret := (some .int)) (by decide) rfl ?_
  intro p e s m args below meth c s₁ B hml hv
  obtain ⟨rfl, hsz, hP, hK, hD0, hN⟩ := hv
  have hx := B.exec
  have hb := B.bytes
  have hr := B.returns
  have hts := atoms_spec (ws := vX10_ask) B.pre
  have hown : s.vm.findClass RX10 = some m.cls := findClass_of_methodNamed B.named
  have hlocks := B.notSynchronized
  subst hsz
  have hD := hD0.self (sz := s.heap.size)
  generalize hAe : va_A [(a0, .inr (7, [.ref a1, g2, g3, g4, g5, g6, g7, g8, g9, g10])), (a1, .inr (4, [.int 0, g11, g12, g13, g14, g15, g16, g17, g18, g19, g20, g21, g22, g23, g24, g25, g26, g27]))] s.heap.size = A at hD ⊢
  have hA : ∀ q : Nat, s.heap.size ≤ q → A q := fun q h => by rw [← hAe]; exact Or.inr h
  have hS : va_S A s.heap s.heap [] := va_S.rf
  have hP : va_P (dC, dI) vwCl [(a0, .inr (7, [.ref a1, g2, g3, g4, g5, g6, g7, g8, g9, g10])), (a1, .inr (4, [.int 0, g11, g12, g13, g14, g15, g16, g17, g18, g19, g20, g21, g22, g23, g24, g25, g26, g27]))] s.heap := hP
  have hl := lv_entry ([.ref a0]) (n := 1) (Nat.le_of_ble_eq_true rfl)
  rw [lg_entry_eq]
  generalize (lg_sl ([.ref a0]) ++ List.replicate (1 - (lg_sl ([.ref a0])).length) Slot.unset).toArray = ls at hl ⊢
  have hl : lv_has ls 1 [(0, .ref a0)] := hl
  refine lv_aload_n hx hb dX10_ask_0 rfl (lv_at hl 0 rfl) ?_
  refine lv_aload_n hx hb dX10_ask_1 rfl (lv_at hl 0 rfl) ?_
  refine cl_i (wc := [(a0, .inr (7, [.ref a1, g2, g3, g4, g5, g6, g7, g8, g9, g10])), (a1, .inr (4, [.int 0, g11, g12, g13, g14, g15, g16, g17, g18, g19, g20, g21, g22, g23, g24, g25, g26, g27]))]) (wr := []) (va_runV (As := []) (rest := [.ref a0]) ⟨hx, hb, hml, hown, hts⟩ (kX10_darkTrouble l dC dI a0 a1 (g2) (g3) (g4) (g5) (g6) (g7) (g8) (g9) (g10) (g11) (g12) (g13) (g14) (g15) (g16) (g17) (g18) (g19) (g20) (g21) (g22) (g23) (g24) (g25) (g26) (g27) s.heap.size) (cwV 0 hts gX10_ask_0 rfl rfl rfl (by decide +kernel) ⟨Nat.le_of_ble_eq_true rfl, Nat.le_of_ble_eq_true rfl⟩) (PV (hP.sub (ws' := [(a0, .inr (7, [.ref a1, g2, g3, g4, g5, g6, g7, g8, g9, g10])), (a1, .inr (4, [.int 0, g11, g12, g13, g14, g15, g16, g17, g18, g19, g20, g21, g22, g23, g24, g25, g26, g27]))]) [0, 1] rfl) (hK.sub (tys' := []) [] rfl) (hD.sub (ws' := [(a0, .inr (7, [.ref a1, g2, g3, g4, g5, g6, g7, g8, g9, g10])), (a1, .inr (4, [.int 0, g11, g12, g13, g14, g15, g16, g17, g18, g19, g20, g21, g22, g23, g24, g25, g26, g27]))]) [0, 1] (by decide) rfl) hN 0 rfl rfl) rfl rfl hl.1 rfl (lv_room (Nat.le_of_ble_eq_true rfl)) dX10_ask_2 ⟨Nat.le_of_ble_eq_true rfl, Nat.le_of_ble_eq_true rfl⟩) hP hD hK hS hA [0, 1] [] rfl rfl (by decide) (by decide) (fun z1 _u H locs hw hP hD hK hS => ?_)
  have hP : va_P (dC, dI) vwCl [(a0, .inr (7, [.ref a1, g2, g3, g4, g5, g6, g7, g8, g9, g10])), (a1, .inr (4, [.int 0, g11, g12, g13, g14, g15, g16, g17, g18, g19, g20, g21, g22, g23, g24, g25, g26, g27]))] H := hP
  have hD : va_D A [(a0, .inr (7, [.ref a1, g2, g3, g4, g5, g6, g7, g8, g9, g10])), (a1, .inr (4, [.int 0, g11, g12, g13, g14, g15, g16, g17, g18, g19, g20, g21, g22, g23, g24, g25, g26, g27]))] := hD
  have hK : va_K (dC, dI) vwCl [] s := hK
  obtain rfl : z1 = 1 := hw
  refine cl_i (wc := [(a0, .inr (7, [.ref a1, g2, g3, g4, g5, g6, g7, g8, g9, g10]))]) (wr := [(a1, .inr (4, [.int 0, g11, g12, g13, g14, g15, g16, g17, g18, g19, g20, g21, g22, g23, g24, g25, g26, g27]))]) (va_runV (As := [.int 1]) (rest := []) ⟨hx, hb, hml, hown, hts⟩ (kX10_refused_3 l dC dI a0 (.ref a1) (g2) (g3) (g4) (g5) (g6) (g7) (g8) (g9) (g10) H.size) (cwV 1 hts gX10_ask_1 rfl rfl rfl (by decide +kernel) ⟨Nat.le_of_ble_eq_true rfl, Nat.le_of_ble_eq_true rfl⟩) (PV (hP.sub (ws' := [(a0, .inr (7, [.ref a1, g2, g3, g4, g5, g6, g7, g8, g9, g10]))]) [0] rfl) (hK.sub (tys' := []) [] rfl) (hD.sub (ws' := [(a0, .inr (7, [.ref a1, g2, g3, g4, g5, g6, g7, g8, g9, g10]))]) [0] (by decide) rfl) hN 0 rfl rfl) rfl rfl hl.1 rfl (lv_room (Nat.le_of_ble_eq_true rfl)) dX10_ask_5 ⟨Nat.le_of_ble_eq_true rfl, Nat.le_of_ble_eq_true rfl⟩) hP hD hK hS hA [0] [1] rfl rfl (by decide) (by decide) (fun z2 _u H locs hw hP hD hK hS => ?_)
  have hP : va_P (dC, dI) vwCl [(a1, .inr (4, [.int 0, g11, g12, g13, g14, g15, g16, g17, g18, g19, g20, g21, g22, g23, g24, g25, g26, g27])), (a0, .inr (7, [.ref a1, g2, g3, g4, g5, g6, g7, g8, .int 1, g10]))] H := hP
  have hD : va_D A [(a1, .inr (4, [.int 0, g11, g12, g13, g14, g15, g16, g17, g18, g19, g20, g21, g22, g23, g24, g25, g26, g27])), (a0, .inr (7, [.ref a1, g2, g3, g4, g5, g6, g7, g8, .int 1, g10]))] := hD
  have hK : va_K (dC, dI) vwCl [] s := hK
  obtain rfl : z2 = 1 := hw
  refine lv_if_eq (tgt := 13) hx hb dX10_ask_8 (by decide) (fun c3 => absurd c3 (by decide)) (fun _ => ?_)
  refine lv_iconst (v := (-1)) hx hb dX10_ask_11 (by decide) ?_
  have hP9 := hP.sub (ws' := []) [] rfl
  have hD9 := hD.sub (ws' := []) [] (by decide) rfl
  have hK9 := hK.sub (tys' := []) [] rfl
  exact W.iret (v := (-1)) hx hb hr (fun t ht hW => ⟨⟨(-1), (), rfl, rfl, by rw [ht]; exact hP9, va_K.moved hW.alike hK9, hD9⟩, hS.F ht⟩) hS.2.2 dX10_ask_12
theorem dX12_ask_0 : decode cX12_ask 0 = .ok (.aload_n 0, 1) := by decide +kernel
theorem dX12_ask_1 : decode cX12_ask 1 = .ok (.iconst 0, 1) := by decide +kernel
theorem dX12_ask_10 : decode cX12_ask 10 = .ok (.iload_n 1, 1) := by decide +kernel
theorem dX12_ask_11 : decode cX12_ask 11 = .ok (.ifCond .le 9, 3) := by decide +kernel
theorem dX12_ask_14 : decode cX12_ask 14 = .ok (.aload_n 0, 1) := by decide +kernel
theorem dX12_ask_15 : decode cX12_ask 15 = .ok (.iload_n 1, 1) := by decide +kernel
theorem dX12_ask_16 : decode cX12_ask 16 = .ok (.invokevirtual 42, 3) := by decide +kernel
theorem dX12_ask_19 : decode cX12_ask 19 = .ok (.ireturn, 1) := by decide +kernel
theorem dX12_ask_2 : decode cX12_ask 2 = .ok (.putfield 36, 3) := by decide +kernel
theorem dX12_ask_5 : decode cX12_ask 5 = .ok (.aload_n 0, 1) := by decide +kernel
theorem dX12_ask_6 : decode cX12_ask 6 = .ok (.invokevirtual 417, 3) := by decide +kernel
theorem dX12_ask_9 : decode cX12_ask 9 = .ok (.istore_n 1, 1) := by decide +kernel
def vX12_ask : List Cond := .code yX12_ask cX12_ask 3 (some .int) :: ([.fieldLink RX12 36 "HookPierModel" "thrown" "I", .methodLink RX12 417 yX12_refusesDark, .instanceMethod yX12_refusesDark, .selects RX12 yX12_refusesDark yX12_refusesDark, .initialized RX12, .code yX12_refusesDark cX12_refusesDark 1 (some .int), .fieldLink RX12 299 "HookPierModel" "pier" "LHookPierModel$Pier;", .methodLink RX12 42 yX12_refused, .instanceMethod yX12_refused, .selects RX12 yX12_refused yX12_refused, .code yX12_refused cX12_refused 2 (some .int), .fieldLink RX12 39 "HookPierModel" "trouble" "I", .fieldLink RX12 9 "HookPierModel" "where" "I"] ++ wsX120)
theorem iX12_ask_X12 : ∀ w ∈ wsX120, w ∈ vX12_ask := fun _ h => List.mem_cons_of_mem _ (List.mem_append_right _ h)
set_option maxRecDepth 20000 in
theorem gX12_ask_0 : GoodIn vX12_ask (wsV RX12 417 RX12 yX12_refusesDark vX12_refusesDark) := goodIn_app (goodIn_r [.methodLink RX12 417 yX12_refusesDark, .instanceMethod yX12_refusesDark, .selects RX12 yX12_refusesDark yX12_refusesDark, .initialized RX12] [2, 3, 4, 5] (by decide +kernel) (by decide +kernel)) (goodIn_ca (goodIn_r (.code yX12_refusesDark cX12_refusesDark 1 (some .int) :: [.fieldLink RX12 299 "HookPierModel" "pier" "LHookPierModel$Pier;"]) [6, 7] (by decide +kernel) (by decide +kernel) : GoodIn vX12_ask (.code yX12_refusesDark cX12_refusesDark 1 (some .int) :: [.fieldLink RX12 299 "HookPierModel" "pier" "LHookPierModel$Pier;"])) (goodIn_sub iX12_ask_X12 (by decide +kernel)))
set_option maxRecDepth 20000 in
theorem gX12_ask_1 : GoodIn vX12_ask (wsV RX12 42 RX12 yX12_refused vX12_refused_1) := goodIn_app (goodIn_r [.methodLink RX12 42 yX12_refused, .instanceMethod yX12_refused, .selects RX12 yX12_refused yX12_refused, .initialized RX12] [8, 9, 10, 5] (by decide +kernel) (by decide +kernel)) (goodIn_ca (goodIn_r (.code yX12_refused cX12_refused 2 (some .int) :: [.fieldLink RX12 39 "HookPierModel" "trouble" "I", .fieldLink RX12 9 "HookPierModel" "where" "I"]) [11, 12, 13] (by decide +kernel) (by decide +kernel) : GoodIn vX12_ask (.code yX12_refused cX12_refused 2 (some .int) :: [.fieldLink RX12 39 "HookPierModel" "trouble" "I", .fieldLink RX12 9 "HookPierModel" "where" "I"])) (goodIn_sub iX12_ask_X12 (by decide +kernel)))
set_option maxHeartbeats 1000000 in
set_option maxRecDepth 100000 in
theorem kX12_ask (l : Launch) (dC : Nat → ClassId) (dI : Nat → Nat → Nat) (a0 : Nat) (g1 : Value) (g2 : Value) (g3 : Value) (g4 : Value) (g5 : Value) (g6 : Value) (g7 : Value) (g8 : Value) (g9 : Value) (g10 : Value) (g11 : Value) (g12 : Value) (g13 : Value) (g14 : Value) (g15 : Value) (g16 : Value) (g17 : Value) (g18 : Value) (g19 : Value) (g20 : Value) (g21 : Value) (g22 : Value) (g23 : Value) (g24 : Value) (g25 : Value) (g26 : Value) (g27 : Value) (g28 : Value) (g29 : Value) (sz : Nat) : Met l yX12_ask vX12_ask ({ frames := 1, cells := 0, slots := 0, locals := 21 }) (PC (dC, dI) [.ref a0] sz [(a0, .inr (9, [g1, g2, g3, .null, g4, g5, g6, g7, g8, g9, g10, g11, g12, g13, g14, g15, g16, g17, g18, g19, g20, g21, g22, g23, g24, g25, g26, g27, g28, g29]))] []) (va_Qi (S := Unit) (fun (r : Int32) _ => r = (-1)) (fun _ t => BC (dC, dI) (va_A [(a0, .inr (9, [g1, g2, g3, .null, g4, g5, g6, g7, g8, g9, g10, g11, g12, g13, g14, g15, g16, g17, g18, g19, g20, g21, g22, g23, g24, g25, g26, g27, g28, g29]))] sz) [] [] t) (va_A [(a0, .inr (9, [g1, g2, g3, .null, g4, g5, g6, g7, g8, g9, g10, g11, g12, g13, g14, g15, g16, g17, g18, g19, g20, g21, g22, g23, g24, g25, g26, g27, g28, g29]))] sz)) 0 0 (va_A [(a0, .inr (9, [g1, g2, g3, .null, g4, g5, g6, g7, g8, g9, g10, g11, g12, g13, g14, g15, g16, g17, g18, g19, g20, g21, g22, g23, g24, g25, g26, g27, g28, g29]))] sz) := by
  refine Met.ofW (cc := cX12_ask) (maxL := 3) (ret := (some .int)) (by decide) rfl ?_
  intro p e s m args below meth c s₁ B hml hv
  obtain ⟨rfl, hsz, hP, hK, hD0, hN⟩ := hv
  have hx := B.exec
  have hb := B.bytes
  have hr := B.returns
  have hts := atoms_spec (ws := vX12_ask) B.pre
  have hown : s.vm.findClass RX12 = some m.cls := findClass_of_methodNamed B.named
  have hlocks := B.notSynchronized
  subst hsz
  have hD := hD0.self (sz := s.heap.size)
  generalize hAe : va_A [(a0, .inr (9, [g1, g2, g3, .null, g4, g5, g6, g7, g8, g9, g10, g11, g12, g13, g14, g15, g16, g17, g18, g19, g20, g21, g22, g23, g24, g25, g26, g27, g28, g29]))] s.heap.size = A at hD ⊢
  have hA : ∀ q : Nat, s.heap.size ≤ q → A q := fun q h => by rw [← hAe]; exact Or.inr h
  have hS : va_S A s.heap s.heap [] := va_S.rf
  have hP : va_P (dC, dI) vwCl [(a0, .inr (9, [g1, g2, g3, .null, g4, g5, g6, g7, g8, g9, g10, g11, g12, g13, g14, g15, g16, g17, g18, g19, g20, g21, g22, g23, g24, g25, g26, g27, g28, g29]))] s.heap := hP
  have hl := lv_entry ([.ref a0]) (n := 3) (Nat.le_of_ble_eq_true rfl)
  rw [lg_entry_eq]
  generalize (lg_sl ([.ref a0]) ++ List.replicate (3 - (lg_sl ([.ref a0])).length) Slot.unset).toArray = ls at hl ⊢
  have hl : lv_has ls 3 [(0, .ref a0)] := hl
  refine lv_aload_n hx hb dX12_ask_0 rfl (lv_at hl 0 rfl) ?_
  refine lv_iconst (v := 0) hx hb dX12_ask_1 (by decide) ?_
  refine va_put (D := (dC, dI)) (ci := 9) (v := .int 0) (ty := .int) (C := RX12) (T := TX12) (N := 30) hx hb hts iX12_ask_X12 tyX12 tyX12_ok nmX12 hown hK hP hD hS 0 rfl rfl 0 (by decide) (hts (.fieldLink RX12 36 "HookPierModel" "thrown" "I") (List.mem_of_getElem? (i := 1) rfl)) (fun _ h9 => h9) rfl (by decide +kernel) rfl rfl (Nat.le_of_ble_eq_true rfl) dX12_ask_2 (fun H locs hP hD hS => ?_)
  have hP : va_P (dC, dI) vwCl [(a0, .inr (9, [.int 0, g2, g3, .null, g4, g5, g6, g7, g8, g9, g10, g11, g12, g13, g14, g15, g16, g17, g18, g19, g20, g21, g22, g23, g24, g25, g26, g27, g28, g29]))] H := hP
  have hD : va_D A [(a0, .inr (9, [.int 0, g2, g3, .null, g4, g5, g6, g7, g8, g9, g10, g11, g12, g13, g14, g15, g16, g17, g18, g19, g20, g21, g22, g23, g24, g25, g26, g27, g28, g29]))] := hD
  refine lv_aload_n hx hb dX12_ask_5 rfl (lv_at hl 0 rfl) ?_
  refine cl_i (wc := [(a0, .inr (9, [.int 0, g2, g3, .null, g4, g5, g6, g7, g8, g9, g10, g11, g12, g13, g14, g15, g16, g17, g18, g19, g20, g21, g22, g23, g24, g25, g26, g27, g28, g29]))]) (wr := []) (va_runV (As := []) (rest := []) ⟨hx, hb, hml, hown, hts⟩ (kX12_refusesDark l dC dI a0 (.int 0) (g2) (g3) (g4) (g5) (g6) (g7) (g8) (g9) (g10) (g11) (g12) (g13) (g14) (g15) (g16) (g17) (g18) (g19) (g20) (g21) (g22) (g23) (g24) (g25) (g26) (g27) (g28) (g29) H.size) (cwV 0 hts gX12_ask_0 rfl rfl rfl (by decide +kernel) ⟨Nat.le_of_ble_eq_true rfl, Nat.le_of_ble_eq_true rfl⟩) (PV (hP.sub (ws' := [(a0, .inr (9, [.int 0, g2, g3, .null, g4, g5, g6, g7, g8, g9, g10, g11, g12, g13, g14, g15, g16, g17, g18, g19, g20, g21, g22, g23, g24, g25, g26, g27, g28, g29]))]) [0] rfl) (hK.sub (tys' := []) [] rfl) (hD.sub (ws' := [(a0, .inr (9, [.int 0, g2, g3, .null, g4, g5, g6, g7, g8, g9, g10, g11, g12, g13, g14, g15, g16, g17, g18, g19, g20, g21, g22, g23, g24, g25, g26, g27, g28, g29]))]) [0] (by decide) rfl) hN 0 rfl rfl) rfl rfl hl.1 rfl (lv_room (Nat.le_of_ble_eq_true rfl)) dX12_ask_6 ⟨Nat.le_of_ble_eq_true rfl, Nat.le_of_ble_eq_true rfl⟩) hP hD hK hS hA [0] [] rfl rfl (by decide) (by decide) (fun z1 _u H locs hw hP hD hK hS => ?_)
  have hP : va_P (dC, dI) vwCl [(a0, .inr (9, [.int 0, g2, g3, .null, g4, g5, g6, g7, g8, g9, g10, g11, g12, g13, g14, g15, g16, g17, g18, g19, g20, g21, g22, g23, g24, g25, g26, g27, g28, g29]))] H := hP
  have hD : va_D A [(a0, .inr (9, [.int 0, g2, g3, .null, g4, g5, g6, g7, g8, g9, g10, g11, g12, g13, g14, g15, g16, g17, g18, g19, g20, g21, g22, g23, g24, g25, g26, g27, g28, g29]))] := hD
  have hK : va_K (dC, dI) vwCl [] s := hK
  obtain rfl : z1 = 1 := hw
  refine lv_istore_n (lv' := [(1, .int 1), (0, .ref a0)]) hx hb dX12_ask_9 rfl hl (by decide) rfl (fun ls hl => ?_)
  refine lv_iload_n hx hb dX12_ask_10 rfl (lv_at hl 0 rfl) ?_
  refine lv_if_le (tgt := 20) hx hb dX12_ask_11 (by decide) (fun c2 => absurd c2 (by decide)) (fun _ => ?_)
  refine lv_aload_n hx hb dX12_ask_14 rfl (lv_at hl 1 rfl) ?_
  refine lv_iload_n hx hb dX12_ask_15 rfl (lv_at hl 0 rfl) ?_
  refine cl_i (wc := [(a0, .inr (9, [.int 0, g2, g3, .null, g4, g5, g6, g7, g8, g9, g10, g11, g12, g13, g14, g15, g16, g17, g18, g19, g20, g21, g22, g23, g24, g25, g26, g27, g28, g29]))]) (wr := []) (va_runV (As := [.int 1]) (rest := []) ⟨hx, hb, hml, hown, hts⟩ (kX12_refused_1 l dC dI a0 (.int 0) (g2) (g3) (.null) (g4) (g5) (g6) (g7) (g8) (g9) (g10) (g11) (g12) (g13) (g14) (g15) (g16) (g17) (g18) (g19) (g20) (g21) (g22) (g23) (g24) (g25) (g26) (g27) (g28) (g29) H.size) (cwV 1 hts gX12_ask_1 rfl rfl rfl (by decide +kernel) ⟨Nat.le_of_ble_eq_true rfl, Nat.le_of_ble_eq_true rfl⟩) (PV (hP.sub (ws' := [(a0, .inr (9, [.int 0, g2, g3, .null, g4, g5, g6, g7, g8, g9, g10, g11, g12, g13, g14, g15, g16, g17, g18, g19, g20, g21, g22, g23, g24, g25, g26, g27, g28, g29]))]) [0] rfl) (hK.sub (tys' := []) [] rfl) (hD.sub (ws' := [(a0, .inr (9, [.int 0, g2, g3, .null, g4, g5, g6, g7, g8, g9, g10, g11, g12, g13, g14, g15, g16, g17, g18, g19, g20, g21, g22, g23, g24, g25, g26, g27, g28, g29]))]) [0] (by decide) rfl) hN 0 rfl rfl) rfl rfl hl.1 rfl (lv_room (Nat.le_of_ble_eq_true rfl)) dX12_ask_16 ⟨Nat.le_of_ble_eq_true rfl, Nat.le_of_ble_eq_true rfl⟩) hP hD hK hS hA [0] [] rfl rfl (by decide) (by decide) (fun z3 _u H locs hw hP hD hK hS => ?_)
  have hP : va_P (dC, dI) vwCl [(a0, .inr (9, [.int 0, .int 1, .int (-1), .null, g4, g5, g6, g7, g8, g9, g10, g11, g12, g13, g14, g15, g16, g17, g18, g19, g20, g21, g22, g23, g24, g25, g26, g27, g28, g29]))] H := hP
  have hD : va_D A [(a0, .inr (9, [.int 0, .int 1, .int (-1), .null, g4, g5, g6, g7, g8, g9, g10, g11, g12, g13, g14, g15, g16, g17, g18, g19, g20, g21, g22, g23, g24, g25, g26, g27, g28, g29]))] := hD
  have hK : va_K (dC, dI) vwCl [] s := hK
  obtain rfl : z3 = (-1) := hw
  have hP9 := hP.sub (ws' := []) [] rfl
  have hD9 := hD.sub (ws' := []) [] (by decide) rfl
  have hK9 := hK.sub (tys' := []) [] rfl
  exact W.iret (v := (-1)) hx hb hr (fun t ht hW => ⟨⟨(-1), (), rfl, rfl, by rw [ht]; exact hP9, va_K.moved hW.alike hK9, hD9⟩, hS.F ht⟩) hS.2.2 dX12_ask_19
theorem dX10_askLeaves_0 : decode cX10_askLeaves 0 = .ok (.aload_n 0, 1) := by decide +kernel
theorem dX10_askLeaves_1 : decode cX10_askLeaves 1 = .ok (.aload_n 0, 1) := by decide +kernel
theorem dX10_askLeaves_11 : decode cX10_askLeaves 11 = .ok (.iconst (-1), 1) := by decide +kernel
theorem dX10_askLeaves_12 : decode cX10_askLeaves 12 = .ok (.ireturn, 1) := by decide +kernel
theorem dX10_askLeaves_2 : decode cX10_askLeaves 2 = .ok (.invokevirtual 264, 3) := by decide +kernel
theorem dX10_askLeaves_5 : decode cX10_askLeaves 5 = .ok (.invokevirtual 79, 3) := by decide +kernel
theorem dX10_askLeaves_8 : decode cX10_askLeaves 8 = .ok (.ifCond .eq 5, 3) := by decide +kernel
def vX10_askLeaves : List Cond := .code yX10_askLeaves cX10_askLeaves 2 (some .int) :: ([.methodLink RX10 264 yX10_darkTrouble, .instanceMethod yX10_darkTrouble, .selects RX10 yX10_darkTrouble yX10_darkTrouble, .initialized RX10, .code yX10_darkTrouble cX10_darkTrouble 2 (some .int), .methodLink RX10 216 yX10_pierTrouble, .instanceMethod yX10_pierTrouble, .selects RX10 yX10_pierTrouble yX10_pierTrouble, .code yX10_pierTrouble cX10_pierTrouble 1 (some .int), .fieldLink RX10 10 "HookPier" "plan" "LHookPier$Plan;", .fieldLink RX10 233 "HookPier$Plan" "spots" "I", .methodLink RX10 79 yX10_refused, .instanceMethod yX10_refused, .selects RX10 yX10_refused yX10_refused, .code yX10_refused cX10_refused 2 (some .boolean), .fieldLink RX10 61 "HookPier" "troubleNow" "I"] ++ wsX100 ++ wsX60)
theorem iX10_askLeaves_X10 : ∀ w ∈ wsX100, w ∈ vX10_askLeaves := fun _ h => List.mem_cons_of_mem _ (List.mem_append_left _ (List.mem_append_right _ h))
theorem iX10_askLeaves_X6 : ∀ w ∈ wsX60, w ∈ vX10_askLeaves := fun _ h => List.mem_cons_of_mem _ (List.mem_append_right _ h)
set_option maxRecDepth 20000 in
theorem gX10_askLeaves_0 : GoodIn vX10_askLeaves (wsV RX10 264 RX10 yX10_darkTrouble vX10_darkTrouble) := goodIn_app (goodIn_r [.methodLink RX10 264 yX10_darkTrouble, .instanceMethod yX10_darkTrouble, .selects RX10 yX10_darkTrouble yX10_darkTrouble, .initialized RX10] [1, 2, 3, 4] (by decide +kernel) (by decide +kernel)) (goodIn_ca (goodIn_ca (goodIn_r (.code yX10_darkTrouble cX10_darkTrouble 2 (some .int) :: [.methodLink RX10 216 yX10_pierTrouble, .instanceMethod yX10_pierTrouble, .selects RX10 yX10_pierTrouble yX10_pierTrouble, .initialized RX10, .code yX10_pierTrouble cX10_pierTrouble 1 (some .int), .fieldLink RX10 10 "HookPier" "plan" "LHookPier$Plan;", .fieldLink RX10 233 "HookPier$Plan" "spots" "I"]) [5, 6, 7, 8, 4, 9, 10, 11] (by decide +kernel) (by decide +kernel) : GoodIn vX10_askLeaves (.code yX10_darkTrouble cX10_darkTrouble 2 (some .int) :: [.methodLink RX10 216 yX10_pierTrouble, .instanceMethod yX10_pierTrouble, .selects RX10 yX10_pierTrouble yX10_pierTrouble, .initialized RX10, .code yX10_pierTrouble cX10_pierTrouble 1 (some .int), .fieldLink RX10 10 "HookPier" "plan" "LHookPier$Plan;", .fieldLink RX10 233 "HookPier$Plan" "spots" "I"])) (goodIn_sub iX10_askLeaves_X10 (by decide +kernel))) (goodIn_sub iX10_askLeaves_X6 (by decide +kernel)))
set_option maxRecDepth 20000 in
theorem gX10_askLeaves_1 : GoodIn vX10_askLeaves (wsV RX10 79 RX10 yX10_refused vX10_refused_3) := goodIn_app (goodIn_r [.methodLink RX10 79 yX10_refused, .instanceMethod yX10_refused, .selects RX10 yX10_refused yX10_refused, .initialized RX10] [12, 13, 14, 4] (by decide +kernel) (by decide +kernel)) (goodIn_ca (goodIn_r (.code yX10_refused cX10_refused 2 (some .boolean) :: [.fieldLink RX10 61 "HookPier" "troubleNow" "I"]) [15, 16] (by decide +kernel) (by decide +kernel) : GoodIn vX10_askLeaves (.code yX10_refused cX10_refused 2 (some .boolean) :: [.fieldLink RX10 61 "HookPier" "troubleNow" "I"])) (goodIn_sub iX10_askLeaves_X10 (by decide +kernel)))
set_option maxHeartbeats 1000000 in
set_option maxRecDepth 100000 in
theorem kX10_askLeaves (l : Launch) (dC : Nat → ClassId) (dI : Nat → Nat → Nat) (a0 : Nat) (a1 : Nat) (g2 : Value) (g3 : Value) (g4 : Value) (g5 : Value) (g6 : Value) (g7 : Value) (g8 : Value) (g9 : Value) (g10 : Value) (g11 : Value) (g12 : Value) (g13 : Value) (g14 : Value) (g15 : Value) (g16 : Value) (g17 : Value) (g18 : Value) (g19 : Value) (g20 : Value) (g21 : Value) (g22 : Value) (g23 : Value) (g24 : Value) (g25 : Value) (g26 : Value) (g27 : Value) (sz : Nat) : Met l yX10_askLeaves vX10_askLeaves ({ frames := 2, cells := 0, slots := 0, locals := 41 }) (PC (dC, dI) [.ref a0] sz [(a0, .inr (7, [.ref a1, g2, g3, g4, g5, g6, g7, g8, g9, g10])), (a1, .inr (4, [.int 0, g11, g12, g13, g14, g15, g16, g17, g18, g19, g20, g21, g22, g23, g24, g25, g26, g27]))] []) (va_Qi (S := Unit) (fun (r : Int32) _ => r = (-1)) (fun _ t => BC (dC, dI) (va_A [(a0, .inr (7, [.ref a1, g2, g3, g4, g5, g6, g7, g8, g9, g10])), (a1, .inr (4, [.int 0, g11, g12, g13, g14, g15, g16, g17, g18, g19, g20, g21, g22, g23, g24, g25, g26, g27]))] sz) [] [] t) (va_A [(a0, .inr (7, [.ref a1, g2, g3, g4, g5, g6, g7, g8, g9, g10])), (a1, .inr (4, [.int 0, g11, g12, g13, g14, g15, g16, g17, g18, g19, g20, g21, g22, g23, g24, g25, g26, g27]))] sz)) 0 0 (va_A [(a0, .inr (7, [.ref a1, g2, g3, g4, g5, g6, g7, g8, g9, g10])), (a1, .inr (4, [.int 0, g11, g12, g13, g14, g15, g16, g17, g18, g19, g20, g21, g22, g23, g24, g25, g26, g27]))] sz) := by
  refine Met.ofW (cc := cX10_askLeaves) (maxL := 2) (ret := (some .int)) (by decide) rfl ?_
  intro p e s m args below meth c s₁ B hml hv
  obtain ⟨rfl, hsz, hP, hK, hD0, hN⟩ := hv
  have hx := B.exec
  have hb := B.bytes
  have hr := B.returns
  have hts := atoms_spec (ws := vX10_askLeaves) B.pre
  have hown : s.vm.findClass RX10 = some m.cls := findClass_of_methodNamed B.named
  have hlocks := B.notSynchronized
  subst hsz
  have hD := hD0.self (sz := s.heap.size)
  generalize hAe : va_A [(a0, .inr (7, [.ref a1, g2, g3, g4, g5, g6, g7, g8, g9, g10])), (a1, .inr (4, [.int 0, g11, g12, g13, g14, g15, g16, g17, g18, g19, g20, g21, g22, g23, g24, g25, g26, g27]))] s.heap.size = A at hD ⊢
  have hA : ∀ q : Nat, s.heap.size ≤ q → A q := fun q h => by rw [← hAe]; exact Or.inr h
  have hS : va_S A s.heap s.heap [] := va_S.rf
  have hP : va_P (dC, dI) vwCl [(a0, .inr (7, [.ref a1, g2, g3, g4, g5, g6, g7, g8, g9, g10])), (a1, .inr (4, [.int 0, g11, g12, g13, g14, g15, g16, g17, g18, g19, g20, g21, g22, g23, g24, g25, g26, g27]))] s.heap := hP
  have hl := lv_entry ([.ref a0]) (n := 2) (Nat.le_of_ble_eq_true rfl)
  rw [lg_entry_eq]
  generalize (lg_sl ([.ref a0]) ++ List.replicate (2 - (lg_sl ([.ref a0])).length) Slot.unset).toArray = ls at hl ⊢
  have hl : lv_has ls 2 [(0, .ref a0)] := hl
  refine lv_aload_n hx hb dX10_askLeaves_0 rfl (lv_at hl 0 rfl) ?_
  refine lv_aload_n hx hb dX10_askLeaves_1 rfl (lv_at hl 0 rfl) ?_
  refine cl_i (wc := [(a0, .inr (7, [.ref a1, g2, g3, g4, g5, g6, g7, g8, g9, g10])), (a1, .inr (4, [.int 0, g11, g12, g13, g14, g15, g16, g17, g18, g19, g20, g21, g22, g23, g24, g25, g26, g27]))]) (wr := []) (va_runV (As := []) (rest := [.ref a0]) ⟨hx, hb, hml, hown, hts⟩ (kX10_darkTrouble l dC dI a0 a1 (g2) (g3) (g4) (g5) (g6) (g7) (g8) (g9) (g10) (g11) (g12) (g13) (g14) (g15) (g16) (g17) (g18) (g19) (g20) (g21) (g22) (g23) (g24) (g25) (g26) (g27) s.heap.size) (cwV 0 hts gX10_askLeaves_0 rfl rfl rfl (by decide +kernel) ⟨Nat.le_of_ble_eq_true rfl, Nat.le_of_ble_eq_true rfl⟩) (PV (hP.sub (ws' := [(a0, .inr (7, [.ref a1, g2, g3, g4, g5, g6, g7, g8, g9, g10])), (a1, .inr (4, [.int 0, g11, g12, g13, g14, g15, g16, g17, g18, g19, g20, g21, g22, g23, g24, g25, g26, g27]))]) [0, 1] rfl) (hK.sub (tys' := []) [] rfl) (hD.sub (ws' := [(a0, .inr (7, [.ref a1, g2, g3, g4, g5, g6, g7, g8, g9, g10])), (a1, .inr (4, [.int 0, g11, g12, g13, g14, g15, g16, g17, g18, g19, g20, g21, g22, g23, g24, g25, g26, g27]))]) [0, 1] (by decide) rfl) hN 0 rfl rfl) rfl rfl hl.1 rfl (lv_room (Nat.le_of_ble_eq_true rfl)) dX10_askLeaves_2 ⟨Nat.le_of_ble_eq_true rfl, Nat.le_of_ble_eq_true rfl⟩) hP hD hK hS hA [0, 1] [] rfl rfl (by decide) (by decide) (fun z1 _u H locs hw hP hD hK hS => ?_)
  have hP : va_P (dC, dI) vwCl [(a0, .inr (7, [.ref a1, g2, g3, g4, g5, g6, g7, g8, g9, g10])), (a1, .inr (4, [.int 0, g11, g12, g13, g14, g15, g16, g17, g18, g19, g20, g21, g22, g23, g24, g25, g26, g27]))] H := hP
  have hD : va_D A [(a0, .inr (7, [.ref a1, g2, g3, g4, g5, g6, g7, g8, g9, g10])), (a1, .inr (4, [.int 0, g11, g12, g13, g14, g15, g16, g17, g18, g19, g20, g21, g22, g23, g24, g25, g26, g27]))] := hD
  have hK : va_K (dC, dI) vwCl [] s := hK
  obtain rfl : z1 = 1 := hw
  refine cl_i (wc := [(a0, .inr (7, [.ref a1, g2, g3, g4, g5, g6, g7, g8, g9, g10]))]) (wr := [(a1, .inr (4, [.int 0, g11, g12, g13, g14, g15, g16, g17, g18, g19, g20, g21, g22, g23, g24, g25, g26, g27]))]) (va_runV (As := [.int 1]) (rest := []) ⟨hx, hb, hml, hown, hts⟩ (kX10_refused_3 l dC dI a0 (.ref a1) (g2) (g3) (g4) (g5) (g6) (g7) (g8) (g9) (g10) H.size) (cwV 1 hts gX10_askLeaves_1 rfl rfl rfl (by decide +kernel) ⟨Nat.le_of_ble_eq_true rfl, Nat.le_of_ble_eq_true rfl⟩) (PV (hP.sub (ws' := [(a0, .inr (7, [.ref a1, g2, g3, g4, g5, g6, g7, g8, g9, g10]))]) [0] rfl) (hK.sub (tys' := []) [] rfl) (hD.sub (ws' := [(a0, .inr (7, [.ref a1, g2, g3, g4, g5, g6, g7, g8, g9, g10]))]) [0] (by decide) rfl) hN 0 rfl rfl) rfl rfl hl.1 rfl (lv_room (Nat.le_of_ble_eq_true rfl)) dX10_askLeaves_5 ⟨Nat.le_of_ble_eq_true rfl, Nat.le_of_ble_eq_true rfl⟩) hP hD hK hS hA [0] [1] rfl rfl (by decide) (by decide) (fun z2 _u H locs hw hP hD hK hS => ?_)
  have hP : va_P (dC, dI) vwCl [(a1, .inr (4, [.int 0, g11, g12, g13, g14, g15, g16, g17, g18, g19, g20, g21, g22, g23, g24, g25, g26, g27])), (a0, .inr (7, [.ref a1, g2, g3, g4, g5, g6, g7, g8, .int 1, g10]))] H := hP
  have hD : va_D A [(a1, .inr (4, [.int 0, g11, g12, g13, g14, g15, g16, g17, g18, g19, g20, g21, g22, g23, g24, g25, g26, g27])), (a0, .inr (7, [.ref a1, g2, g3, g4, g5, g6, g7, g8, .int 1, g10]))] := hD
  have hK : va_K (dC, dI) vwCl [] s := hK
  obtain rfl : z2 = 1 := hw
  refine lv_if_eq (tgt := 13) hx hb dX10_askLeaves_8 (by decide) (fun c3 => absurd c3 (by decide)) (fun _ => ?_)
  refine lv_iconst (v := (-1)) hx hb dX10_askLeaves_11 (by decide) ?_
  have hP9 := hP.sub (ws' := []) [] rfl
  have hD9 := hD.sub (ws' := []) [] (by decide) rfl
  have hK9 := hK.sub (tys' := []) [] rfl
  exact W.iret (v := (-1)) hx hb hr (fun t ht hW => ⟨⟨(-1), (), rfl, rfl, by rw [ht]; exact hP9, va_K.moved hW.alike hK9, hD9⟩, hS.F ht⟩) hS.2.2 dX10_askLeaves_12
theorem dX12_askLeaves_0 : decode cX12_askLeaves 0 = .ok (.aload_n 0, 1) := by decide +kernel
theorem dX12_askLeaves_1 : decode cX12_askLeaves 1 = .ok (.iconst 0, 1) := by decide +kernel
theorem dX12_askLeaves_10 : decode cX12_askLeaves 10 = .ok (.iload_n 1, 1) := by decide +kernel
theorem dX12_askLeaves_11 : decode cX12_askLeaves 11 = .ok (.ifCond .le 9, 3) := by decide +kernel
theorem dX12_askLeaves_14 : decode cX12_askLeaves 14 = .ok (.aload_n 0, 1) := by decide +kernel
theorem dX12_askLeaves_15 : decode cX12_askLeaves 15 = .ok (.iload_n 1, 1) := by decide +kernel
theorem dX12_askLeaves_16 : decode cX12_askLeaves 16 = .ok (.invokevirtual 42, 3) := by decide +kernel
theorem dX12_askLeaves_19 : decode cX12_askLeaves 19 = .ok (.ireturn, 1) := by decide +kernel
theorem dX12_askLeaves_2 : decode cX12_askLeaves 2 = .ok (.putfield 36, 3) := by decide +kernel
theorem dX12_askLeaves_5 : decode cX12_askLeaves 5 = .ok (.aload_n 0, 1) := by decide +kernel
theorem dX12_askLeaves_6 : decode cX12_askLeaves 6 = .ok (.invokevirtual 417, 3) := by decide +kernel
theorem dX12_askLeaves_9 : decode cX12_askLeaves 9 = .ok (.istore_n 1, 1) := by decide +kernel
def vX12_askLeaves : List Cond := .code yX12_askLeaves cX12_askLeaves 2 (some .int) :: ([.fieldLink RX12 36 "HookPierModel" "thrown" "I", .methodLink RX12 417 yX12_refusesDark, .instanceMethod yX12_refusesDark, .selects RX12 yX12_refusesDark yX12_refusesDark, .initialized RX12, .code yX12_refusesDark cX12_refusesDark 1 (some .int), .fieldLink RX12 299 "HookPierModel" "pier" "LHookPierModel$Pier;", .methodLink RX12 42 yX12_refused, .instanceMethod yX12_refused, .selects RX12 yX12_refused yX12_refused, .code yX12_refused cX12_refused 2 (some .int), .fieldLink RX12 39 "HookPierModel" "trouble" "I", .fieldLink RX12 9 "HookPierModel" "where" "I"] ++ wsX120)
theorem iX12_askLeaves_X12 : ∀ w ∈ wsX120, w ∈ vX12_askLeaves := fun _ h => List.mem_cons_of_mem _ (List.mem_append_right _ h)
set_option maxRecDepth 20000 in
theorem gX12_askLeaves_0 : GoodIn vX12_askLeaves (wsV RX12 417 RX12 yX12_refusesDark vX12_refusesDark) := goodIn_app (goodIn_r [.methodLink RX12 417 yX12_refusesDark, .instanceMethod yX12_refusesDark, .selects RX12 yX12_refusesDark yX12_refusesDark, .initialized RX12] [2, 3, 4, 5] (by decide +kernel) (by decide +kernel)) (goodIn_ca (goodIn_r (.code yX12_refusesDark cX12_refusesDark 1 (some .int) :: [.fieldLink RX12 299 "HookPierModel" "pier" "LHookPierModel$Pier;"]) [6, 7] (by decide +kernel) (by decide +kernel) : GoodIn vX12_askLeaves (.code yX12_refusesDark cX12_refusesDark 1 (some .int) :: [.fieldLink RX12 299 "HookPierModel" "pier" "LHookPierModel$Pier;"])) (goodIn_sub iX12_askLeaves_X12 (by decide +kernel)))
set_option maxRecDepth 20000 in
theorem gX12_askLeaves_1 : GoodIn vX12_askLeaves (wsV RX12 42 RX12 yX12_refused vX12_refused_1) := goodIn_app (goodIn_r [.methodLink RX12 42 yX12_refused, .instanceMethod yX12_refused, .selects RX12 yX12_refused yX12_refused, .initialized RX12] [8, 9, 10, 5] (by decide +kernel) (by decide +kernel)) (goodIn_ca (goodIn_r (.code yX12_refused cX12_refused 2 (some .int) :: [.fieldLink RX12 39 "HookPierModel" "trouble" "I", .fieldLink RX12 9 "HookPierModel" "where" "I"]) [11, 12, 13] (by decide +kernel) (by decide +kernel) : GoodIn vX12_askLeaves (.code yX12_refused cX12_refused 2 (some .int) :: [.fieldLink RX12 39 "HookPierModel" "trouble" "I", .fieldLink RX12 9 "HookPierModel" "where" "I"])) (goodIn_sub iX12_askLeaves_X12 (by decide +kernel)))
set_option maxHeartbeats 1000000 in
set_option maxRecDepth 100000 in
theorem kX12_askLeaves (l : Launch) (dC : Nat → ClassId) (dI : Nat → Nat → Nat) (a0 : Nat) (g1 : Value) (g2 : Value) (g3 : Value) (g4 : Value) (g5 : Value) (g6 : Value) (g7 : Value) (g8 : Value) (g9 : Value) (g10 : Value) (g11 : Value) (g12 : Value) (g13 : Value) (g14 : Value) (g15 : Value) (g16 : Value) (g17 : Value) (g18 : Value) (g19 : Value) (g20 : Value) (g21 : Value) (g22 : Value) (g23 : Value) (g24 : Value) (g25 : Value) (g26 : Value) (g27 : Value) (g28 : Value) (g29 : Value) (sz : Nat) : Met l yX12_askLeaves vX12_askLeaves ({ frames := 1, cells := 0, slots := 0, locals := 21 }) (PC (dC, dI) [.ref a0] sz [(a0, .inr (9, [g1, g2, g3, .null, g4, g5, g6, g7, g8, g9, g10, g11, g12, g13, g14, g15, g16, g17, g18, g19, g20, g21, g22, g23, g24, g25, g26, g27, g28, g29]))] []) (va_Qi (S := Unit) (fun (r : Int32) _ => r = (-1)) (fun _ t => BC (dC, dI) (va_A [(a0, .inr (9, [g1, g2, g3, .null, g4, g5, g6, g7, g8, g9, g10, g11, g12, g13, g14, g15, g16, g17, g18, g19, g20, g21, g22, g23, g24, g25, g26, g27, g28, g29]))] sz) [] [] t) (va_A [(a0, .inr (9, [g1, g2, g3, .null, g4, g5, g6, g7, g8, g9, g10, g11, g12, g13, g14, g15, g16, g17, g18, g19, g20, g21, g22, g23, g24, g25, g26, g27, g28, g29]))] sz)) 0 0 (va_A [(a0, .inr (9, [g1, g2, g3, .null, g4, g5, g6, g7, g8, g9, g10, g11, g12, g13, g14, g15, g16, g17, g18, g19, g20, g21, g22, g23, g24, g25, g26, g27, g28, g29]))] sz) := by
  refine Met.ofW (cc := cX12_askLeaves) (maxL := 2) (ret := (some .int)) (by decide) rfl ?_
  intro p e s m args below meth c s₁ B hml hv
  obtain ⟨rfl, hsz, hP, hK, hD0, hN⟩ := hv
  have hx := B.exec
  have hb := B.bytes
  have hr := B.returns
  have hts := atoms_spec (ws := vX12_askLeaves) B.pre
  have hown : s.vm.findClass RX12 = some m.cls := findClass_of_methodNamed B.named
  have hlocks := B.notSynchronized
  subst hsz
  have hD := hD0.self (sz := s.heap.size)
  generalize hAe : va_A [(a0, .inr (9, [g1, g2, g3, .null, g4, g5, g6, g7, g8, g9, g10, g11, g12, g13, g14, g15, g16, g17, g18, g19, g20, g21, g22, g23, g24, g25, g26, g27, g28, g29]))] s.heap.size = A at hD ⊢
  have hA : ∀ q : Nat, s.heap.size ≤ q → A q := fun q h => by rw [← hAe]; exact Or.inr h
  have hS : va_S A s.heap s.heap [] := va_S.rf
  have hP : va_P (dC, dI) vwCl [(a0, .inr (9, [g1, g2, g3, .null, g4, g5, g6, g7, g8, g9, g10, g11, g12, g13, g14, g15, g16, g17, g18, g19, g20, g21, g22, g23, g24, g25, g26, g27, g28, g29]))] s.heap := hP
  have hl := lv_entry ([.ref a0]) (n := 2) (Nat.le_of_ble_eq_true rfl)
  rw [lg_entry_eq]
  generalize (lg_sl ([.ref a0]) ++ List.replicate (2 - (lg_sl ([.ref a0])).length) Slot.unset).toArray = ls at hl ⊢
  have hl : lv_has ls 2 [(0, .ref a0)] := hl
  refine lv_aload_n hx hb dX12_askLeaves_0 rfl (lv_at hl 0 rfl) ?_
  refine lv_iconst (v := 0) hx hb dX12_askLeaves_1 (by decide) ?_
  refine va_put (D := (dC, dI)) (ci := 9) (v := .int 0) (ty := .int) (C := RX12) (T := TX12) (N := 30) hx hb hts iX12_askLeaves_X12 tyX12 tyX12_ok nmX12 hown hK hP hD hS 0 rfl rfl 0 (by decide) (hts (.fieldLink RX12 36 "HookPierModel" "thrown" "I") (List.mem_of_getElem? (i := 1) rfl)) (fun _ h9 => h9) rfl (by decide +kernel) rfl rfl (Nat.le_of_ble_eq_true rfl) dX12_askLeaves_2 (fun H locs hP hD hS => ?_)
  have hP : va_P (dC, dI) vwCl [(a0, .inr (9, [.int 0, g2, g3, .null, g4, g5, g6, g7, g8, g9, g10, g11, g12, g13, g14, g15, g16, g17, g18, g19, g20, g21, g22, g23, g24, g25, g26, g27, g28, g29]))] H := hP
  have hD : va_D A [(a0, .inr (9, [.int 0, g2, g3, .null, g4, g5, g6, g7, g8, g9, g10, g11, g12, g13, g14, g15, g16, g17, g18, g19, g20, g21, g22, g23, g24, g25, g26, g27, g28, g29]))] := hD
  refine lv_aload_n hx hb dX12_askLeaves_5 rfl (lv_at hl 0 rfl) ?_
  refine cl_i (wc := [(a0, .inr (9, [.int 0, g2, g3, .null, g4, g5, g6, g7, g8, g9, g10, g11, g12, g13, g14, g15, g16, g17, g18, g19, g20, g21, g22, g23, g24, g25, g26, g27, g28, g29]))]) (wr := []) (va_runV (As := []) (rest := []) ⟨hx, hb, hml, hown, hts⟩ (kX12_refusesDark l dC dI a0 (.int 0) (g2) (g3) (g4) (g5) (g6) (g7) (g8) (g9) (g10) (g11) (g12) (g13) (g14) (g15) (g16) (g17) (g18) (g19) (g20) (g21) (g22) (g23) (g24) (g25) (g26) (g27) (g28) (g29) H.size) (cwV 0 hts gX12_askLeaves_0 rfl rfl rfl (by decide +kernel) ⟨Nat.le_of_ble_eq_true rfl, Nat.le_of_ble_eq_true rfl⟩) (PV (hP.sub (ws' := [(a0, .inr (9, [.int 0, g2, g3, .null, g4, g5, g6, g7, g8, g9, g10, g11, g12, g13, g14, g15, g16, g17, g18, g19, g20, g21, g22, g23, g24, g25, g26, g27, g28, g29]))]) [0] rfl) (hK.sub (tys' := []) [] rfl) (hD.sub (ws' := [(a0, .inr (9, [.int 0, g2, g3, .null, g4, g5, g6, g7, g8, g9, g10, g11, g12, g13, g14, g15, g16, g17, g18, g19, g20, g21, g22, g23, g24, g25, g26, g27, g28, g29]))]) [0] (by decide) rfl) hN 0 rfl rfl) rfl rfl hl.1 rfl (lv_room (Nat.le_of_ble_eq_true rfl)) dX12_askLeaves_6 ⟨Nat.le_of_ble_eq_true rfl, Nat.le_of_ble_eq_true rfl⟩) hP hD hK hS hA [0] [] rfl rfl (by decide) (by decide) (fun z1 _u H locs hw hP hD hK hS => ?_)
  have hP : va_P (dC, dI) vwCl [(a0, .inr (9, [.int 0, g2, g3, .null, g4, g5, g6, g7, g8, g9, g10, g11, g12, g13, g14, g15, g16, g17, g18, g19, g20, g21, g22, g23, g24, g25, g26, g27, g28, g29]))] H := hP
  have hD : va_D A [(a0, .inr (9, [.int 0, g2, g3, .null, g4, g5, g6, g7, g8, g9, g10, g11, g12, g13, g14, g15, g16, g17, g18, g19, g20, g21, g22, g23, g24, g25, g26, g27, g28, g29]))] := hD
  have hK : va_K (dC, dI) vwCl [] s := hK
  obtain rfl : z1 = 1 := hw
  refine lv_istore_n (lv' := [(1, .int 1), (0, .ref a0)]) hx hb dX12_askLeaves_9 rfl hl (by decide) rfl (fun ls hl => ?_)
  refine lv_iload_n hx hb dX12_askLeaves_10 rfl (lv_at hl 0 rfl) ?_
  refine lv_if_le (tgt := 20) hx hb dX12_askLeaves_11 (by decide) (fun c2 => absurd c2 (by decide)) (fun _ => ?_)
  refine lv_aload_n hx hb dX12_askLeaves_14 rfl (lv_at hl 1 rfl) ?_
  refine lv_iload_n hx hb dX12_askLeaves_15 rfl (lv_at hl 0 rfl) ?_
  refine cl_i (wc := [(a0, .inr (9, [.int 0, g2, g3, .null, g4, g5, g6, g7, g8, g9, g10, g11, g12, g13, g14, g15, g16, g17, g18, g19, g20, g21, g22, g23, g24, g25, g26, g27, g28, g29]))]) (wr := []) (va_runV (As := [.int 1]) (rest := []) ⟨hx, hb, hml, hown, hts⟩ (kX12_refused_1 l dC dI a0 (.int 0) (g2) (g3) (.null) (g4) (g5) (g6) (g7) (g8) (g9) (g10) (g11) (g12) (g13) (g14) (g15) (g16) (g17) (g18) (g19) (g20) (g21) (g22) (g23) (g24) (g25) (g26) (g27) (g28) (g29) H.size) (cwV 1 hts gX12_askLeaves_1 rfl rfl rfl (by decide +kernel) ⟨Nat.le_of_ble_eq_true rfl, Nat.le_of_ble_eq_true rfl⟩) (PV (hP.sub (ws' := [(a0, .inr (9, [.int 0, g2, g3, .null, g4, g5, g6, g7, g8, g9, g10, g11, g12, g13, g14, g15, g16, g17, g18, g19, g20, g21, g22, g23, g24, g25, g26, g27, g28, g29]))]) [0] rfl) (hK.sub (tys' := []) [] rfl) (hD.sub (ws' := [(a0, .inr (9, [.int 0, g2, g3, .null, g4, g5, g6, g7, g8, g9, g10, g11, g12, g13, g14, g15, g16, g17, g18, g19, g20, g21, g22, g23, g24, g25, g26, g27, g28, g29]))]) [0] (by decide) rfl) hN 0 rfl rfl) rfl rfl hl.1 rfl (lv_room (Nat.le_of_ble_eq_true rfl)) dX12_askLeaves_16 ⟨Nat.le_of_ble_eq_true rfl, Nat.le_of_ble_eq_true rfl⟩) hP hD hK hS hA [0] [] rfl rfl (by decide) (by decide) (fun z3 _u H locs hw hP hD hK hS => ?_)
  have hP : va_P (dC, dI) vwCl [(a0, .inr (9, [.int 0, .int 1, .int (-1), .null, g4, g5, g6, g7, g8, g9, g10, g11, g12, g13, g14, g15, g16, g17, g18, g19, g20, g21, g22, g23, g24, g25, g26, g27, g28, g29]))] H := hP
  have hD : va_D A [(a0, .inr (9, [.int 0, .int 1, .int (-1), .null, g4, g5, g6, g7, g8, g9, g10, g11, g12, g13, g14, g15, g16, g17, g18, g19, g20, g21, g22, g23, g24, g25, g26, g27, g28, g29]))] := hD
  have hK : va_K (dC, dI) vwCl [] s := hK
  obtain rfl : z3 = (-1) := hw
  have hP9 := hP.sub (ws' := []) [] rfl
  have hD9 := hD.sub (ws' := []) [] (by decide) rfl
  have hK9 := hK.sub (tys' := []) [] rfl
  exact W.iret (v := (-1)) hx hb hr (fun t ht hW => ⟨⟨(-1), (), rfl, rfl, by rw [ht]; exact hP9, va_K.moved hW.alike hK9, hD9⟩, hS.F ht⟩) hS.2.2 dX12_askLeaves_19
theorem dX10_judge_0 : decode cX10_judge 0 = .ok (.aload_n 0, 1) := by decide +kernel
theorem dX10_judge_1 : decode cX10_judge 1 = .ok (.iload_n 1, 1) := by decide +kernel
theorem dX10_judge_18 : decode cX10_judge 18 = .ok (.iload_n 2, 1) := by decide +kernel
theorem dX10_judge_19 : decode cX10_judge 19 = .ok (.invokevirtual 79, 3) := by decide +kernel
theorem dX10_judge_2 : decode cX10_judge 2 = .ok (.invokevirtual 102, 3) := by decide +kernel
theorem dX10_judge_22 : decode cX10_judge 22 = .ok (.ifCond .eq 5, 3) := by decide +kernel
theorem dX10_judge_25 : decode cX10_judge 25 = .ok (.iconst (-1), 1) := by decide +kernel
theorem dX10_judge_26 : decode cX10_judge 26 = .ok (.ireturn, 1) := by decide +kernel
theorem dX10_judge_5 : decode cX10_judge 5 = .ok (.istore_n 2, 1) := by decide +kernel
theorem dX10_judge_6 : decode cX10_judge 6 = .ok (.aload_n 0, 1) := by decide +kernel
theorem dX10_judge_7 : decode cX10_judge 7 = .ok (.iload_n 2, 1) := by decide +kernel
theorem dX10_judge_8 : decode cX10_judge 8 = .ok (.ifCond .ne 10, 3) := by decide +kernel
def vX10_judge : List Cond := .code yX10_judge cX10_judge 5 (some .int) :: ([.methodLink RX10 102 yX10_answerTrouble, .instanceMethod yX10_answerTrouble, .selects RX10 yX10_answerTrouble yX10_answerTrouble, .initialized RX10, .code yX10_answerTrouble cX10_answerTrouble 2 (some .int), .fieldLink RX10 10 "HookPier" "plan" "LHookPier$Plan;", .methodLink RX10 381 yX6_hasAnswer, .instanceMethod yX6_hasAnswer, .selects RX6 yX6_hasAnswer yX6_hasAnswer, .initialized RX6, .code yX6_hasAnswer cX6_hasAnswer 2 (some .boolean), .fieldLink RX6 30 "HookPier$Plan" "answers" "I", .code yX10_within cX10_within 3 (some .boolean), .static yX10_within, .methodLink RX10 79 yX10_refused, .instanceMethod yX10_refused, .selects RX10 yX10_refused yX10_refused, .code yX10_refused cX10_refused 2 (some .boolean), .fieldLink RX10 61 "HookPier" "troubleNow" "I"] ++ wsX100 ++ wsX60)
theorem iX10_judge_X10 : ∀ w ∈ wsX100, w ∈ vX10_judge := fun _ h => List.mem_cons_of_mem _ (List.mem_append_left _ (List.mem_append_right _ h))
theorem iX10_judge_X6 : ∀ w ∈ wsX60, w ∈ vX10_judge := fun _ h => List.mem_cons_of_mem _ (List.mem_append_right _ h)
set_option maxRecDepth 20000 in
theorem gX10_judge_0 : GoodIn vX10_judge (wsV RX10 102 RX10 yX10_answerTrouble vX10_answerTrouble) := goodIn_app (goodIn_r [.methodLink RX10 102 yX10_answerTrouble, .instanceMethod yX10_answerTrouble, .selects RX10 yX10_answerTrouble yX10_answerTrouble, .initialized RX10] [1, 2, 3, 4] (by decide +kernel) (by decide +kernel)) (goodIn_ca (goodIn_ca (goodIn_r (.code yX10_answerTrouble cX10_answerTrouble 2 (some .int) :: [.fieldLink RX10 10 "HookPier" "plan" "LHookPier$Plan;", .methodLink RX10 381 yX6_hasAnswer, .instanceMethod yX6_hasAnswer, .selects RX6 yX6_hasAnswer yX6_hasAnswer, .initialized RX6, .code yX6_hasAnswer cX6_hasAnswer 2 (some .boolean), .fieldLink RX6 30 "HookPier$Plan" "answers" "I", .code yX10_within cX10_within 3 (some .boolean), .initialized RX10, .static yX10_within]) [5, 6, 7, 8, 9, 10, 11, 12, 13, 4, 14] (by decide +kernel) (by decide +kernel) : GoodIn vX10_judge (.code yX10_answerTrouble cX10_answerTrouble 2 (some .int) :: [.fieldLink RX10 10 "HookPier" "plan" "LHookPier$Plan;", .methodLink RX10 381 yX6_hasAnswer, .instanceMethod yX6_hasAnswer, .selects RX6 yX6_hasAnswer yX6_hasAnswer, .initialized RX6, .code yX6_hasAnswer cX6_hasAnswer 2 (some .boolean), .fieldLink RX6 30 "HookPier$Plan" "answers" "I", .code yX10_within cX10_within 3 (some .boolean), .initialized RX10, .static yX10_within])) (goodIn_sub iX10_judge_X10 (by decide +kernel))) (goodIn_sub iX10_judge_X6 (by decide +kernel)))
set_option maxRecDepth 20000 in
theorem gX10_judge_1 : GoodIn vX10_judge (wsV RX10 79 RX10 yX10_refused vX10_refused_3) := goodIn_app (goodIn_r [.methodLink RX10 79 yX10_refused, .instanceMethod yX10_refused, .selects RX10 yX10_refused yX10_refused, .initialized RX10] [15, 16, 17, 4] (by decide +kernel) (by decide +kernel)) (goodIn_ca (goodIn_r (.code yX10_refused cX10_refused 2 (some .boolean) :: [.fieldLink RX10 61 "HookPier" "troubleNow" "I"]) [18, 19] (by decide +kernel) (by decide +kernel) : GoodIn vX10_judge (.code yX10_refused cX10_refused 2 (some .boolean) :: [.fieldLink RX10 61 "HookPier" "troubleNow" "I"])) (goodIn_sub iX10_judge_X10 (by decide +kernel)))
set_option maxHeartbeats 1000000 in
set_option maxRecDepth 100000 in
theorem kX10_judge (l : Launch) (dC : Nat → ClassId) (dI : Nat → Nat → Nat) (a0 : Nat) (k1 : Int32) (a2 : Nat) (g3 : Value) (g4 : Value) (g5 : Value) (g6 : Value) (g7 : Value) (g8 : Value) (g9 : Value) (g10 : Value) (g11 : Value) (g12 : Value) (g13 : Value) (g14 : Value) (g15 : Value) (g16 : Value) (g17 : Value) (g18 : Value) (g19 : Value) (g20 : Value) (g21 : Value) (g22 : Value) (g23 : Value) (g24 : Value) (g25 : Value) (g26 : Value) (g27 : Value) (g28 : Value) (sz : Nat) : Met l yX10_judge vX10_judge ({ frames := 3, cells := 0, slots := 0, locals := 64 }) (PC (dC, dI) [.ref a0, .int k1] sz [(a0, .inr (7, [.ref a2, g3, g4, g5, g6, g7, g8, g9, g10, g11])), (a2, .inr (4, [g12, g13, g14, g15, g16, g17, .int 0, g18, g19, g20, g21, g22, g23, g24, g25, g26, g27, g28]))] []) (va_Qi (S := Unit) (fun (r : Int32) _ => r = (-1)) (fun _ t => BC (dC, dI) (va_A [(a0, .inr (7, [.ref a2, g3, g4, g5, g6, g7, g8, g9, g10, g11])), (a2, .inr (4, [g12, g13, g14, g15, g16, g17, .int 0, g18, g19, g20, g21, g22, g23, g24, g25, g26, g27, g28]))] sz) [] [] t) (va_A [(a0, .inr (7, [.ref a2, g3, g4, g5, g6, g7, g8, g9, g10, g11])), (a2, .inr (4, [g12, g13, g14, g15, g16, g17, .int 0, g18, g19, g20, g21, g22, g23, g24, g25, g26, g27, g28]))] sz)) 0 0 (va_A [(a0, .inr (7, [.ref a2, g3, g4, g5, g6, g7, g8, g9, g10, g11])), (a2, .inr (4, [g12, g13, g14, g15, g16, g17, .int 0, g18, g19, g20, g21, g22, g23, g24, g25, g26, g27, g28]))] sz) := by
  refine Met.ofW (cc := cX10_judge) (maxL := 5) (ret := (some .int)) (by decide) rfl ?_
  intro p e s m args below meth c s₁ B hml hv
  obtain ⟨rfl, hsz, hP, hK, hD0, hN⟩ := hv
  have hx := B.exec
  have hb := B.bytes
  have hr := B.returns
  have hts := atoms_spec (ws := vX10_judge) B.pre
  have hown : s.vm.findClass RX10 = some m.cls := findClass_of_methodNamed B.named
  have hlocks := B.notSynchronized
  subst hsz
  have hD := hD0.self (sz := s.heap.size)
  generalize hAe : va_A [(a0, .inr (7, [.ref a2, g3, g4, g5, g6, g7, g8, g9, g10, g11])), (a2, .inr (4, [g12, g13, g14, g15, g16, g17, .int 0, g18, g19, g20, g21, g22, g23, g24, g25, g26, g27, g28]))] s.heap.size = A at hD ⊢
  have hA : ∀ q : Nat, s.heap.size ≤ q → A q := fun q h => by rw [← hAe]; exact Or.inr h
  have hS : va_S A s.heap s.heap [] := va_S.rf
  have hP : va_P (dC, dI) vwCl [(a0, .inr (7, [.ref a2, g3, g4, g5, g6, g7, g8, g9, g10, g11])), (a2, .inr (4, [g12, g13, g14, g15, g16, g17, .int 0, g18, g19, g20, g21, g22, g23, g24, g25, g26, g27, g28]))] s.heap := hP
  have hl := lv_entry ([.ref a0, .int k1]) (n := 5) (Nat.le_of_ble_eq_true rfl)
  rw [lg_entry_eq]
  generalize (lg_sl ([.ref a0, .int k1]) ++ List.replicate (5 - (lg_sl ([.ref a0, .int k1])).length) Slot.unset).toArray = ls at hl ⊢
  have hl : lv_has ls 5 [(0, .ref a0), (1, .int k1)] := hl
  refine lv_aload_n hx hb dX10_judge_0 rfl (lv_at hl 0 rfl) ?_
  refine lv_iload_n hx hb dX10_judge_1 rfl (lv_at hl 1 rfl) ?_
  refine cl_i (wc := [(a0, .inr (7, [.ref a2, g3, g4, g5, g6, g7, g8, g9, g10, g11])), (a2, .inr (4, [g12, g13, g14, g15, g16, g17, .int 0, g18, g19, g20, g21, g22, g23, g24, g25, g26, g27, g28]))]) (wr := []) (va_runV (As := [.int k1]) (rest := []) ⟨hx, hb, hml, hown, hts⟩ (kX10_answerTrouble l dC dI a0 k1 a2 (g3) (g4) (g5) (g6) (g7) (g8) (g9) (g10) (g11) (g12) (g13) (g14) (g15) (g16) (g17) (g18) (g19) (g20) (g21) (g22) (g23) (g24) (g25) (g26) (g27) (g28) s.heap.size) (cwV 1 hts gX10_judge_0 rfl rfl rfl (by decide +kernel) ⟨Nat.le_of_ble_eq_true rfl, Nat.le_of_ble_eq_true rfl⟩) (PV (hP.sub (ws' := [(a0, .inr (7, [.ref a2, g3, g4, g5, g6, g7, g8, g9, g10, g11])), (a2, .inr (4, [g12, g13, g14, g15, g16, g17, .int 0, g18, g19, g20, g21, g22, g23, g24, g25, g26, g27, g28]))]) [0, 1] rfl) (hK.sub (tys' := []) [] rfl) (hD.sub (ws' := [(a0, .inr (7, [.ref a2, g3, g4, g5, g6, g7, g8, g9, g10, g11])), (a2, .inr (4, [g12, g13, g14, g15, g16, g17, .int 0, g18, g19, g20, g21, g22, g23, g24, g25, g26, g27, g28]))]) [0, 1] (by decide) rfl) hN 0 rfl rfl) rfl rfl hl.1 rfl (lv_room (Nat.le_of_ble_eq_true rfl)) dX10_judge_2 ⟨Nat.le_of_ble_eq_true rfl, Nat.le_of_ble_eq_true rfl⟩) hP hD hK hS hA [0, 1] [] rfl rfl (by decide) (by decide) (fun z1 _u H locs hw hP hD hK hS => ?_)
  have hP : va_P (dC, dI) vwCl [(a0, .inr (7, [.ref a2, g3, g4, g5, g6, g7, g8, g9, g10, g11])), (a2, .inr (4, [g12, g13, g14, g15, g16, g17, .int 0, g18, g19, g20, g21, g22, g23, g24, g25, g26, g27, g28]))] H := hP
  have hD : va_D A [(a0, .inr (7, [.ref a2, g3, g4, g5, g6, g7, g8, g9, g10, g11])), (a2, .inr (4, [g12, g13, g14, g15, g16, g17, .int 0, g18, g19, g20, g21, g22, g23, g24, g25, g26, g27, g28]))] := hD
  have hK : va_K (dC, dI) vwCl [] s := hK
  obtain rfl : z1 = 1 := hw
  refine lv_istore_n (lv' := [(2, .int 1), (0, .ref a0), (1, .int k1)]) hx hb dX10_judge_5 rfl hl (by decide) rfl (fun ls hl => ?_)
  refine lv_aload_n hx hb dX10_judge_6 rfl (lv_at hl 1 rfl) ?_
  refine lv_iload_n hx hb dX10_judge_7 rfl (lv_at hl 0 rfl) ?_
  refine lv_if_ne (tgt := 18) hx hb dX10_judge_8 (by decide) (fun _ => ?_) (fun c2 => absurd c2 (by decide))
  refine lv_iload_n hx hb dX10_judge_18 rfl (lv_at hl 0 rfl) ?_
  refine cl_i (wc := [(a0, .inr (7, [.ref a2, g3, g4, g5, g6, g7, g8, g9, g10, g11]))]) (wr := [(a2, .inr (4, [g12, g13, g14, g15, g16, g17, .int 0, g18, g19, g20, g21, g22, g23, g24, g25, g26, g27, g28]))]) (va_runV (As := [.int 1]) (rest := []) ⟨hx, hb, hml, hown, hts⟩ (kX10_refused_3 l dC dI a0 (.ref a2) (g3) (g4) (g5) (g6) (g7) (g8) (g9) (g10) (g11) H.size) (cwV 1 hts gX10_judge_1 rfl rfl rfl (by decide +kernel) ⟨Nat.le_of_ble_eq_true rfl, Nat.le_of_ble_eq_true rfl⟩) (PV (hP.sub (ws' := [(a0, .inr (7, [.ref a2, g3, g4, g5, g6, g7, g8, g9, g10, g11]))]) [0] rfl) (hK.sub (tys' := []) [] rfl) (hD.sub (ws' := [(a0, .inr (7, [.ref a2, g3, g4, g5, g6, g7, g8, g9, g10, g11]))]) [0] (by decide) rfl) hN 0 rfl rfl) rfl rfl hl.1 rfl (lv_room (Nat.le_of_ble_eq_true rfl)) dX10_judge_19 ⟨Nat.le_of_ble_eq_true rfl, Nat.le_of_ble_eq_true rfl⟩) hP hD hK hS hA [0] [1] rfl rfl (by decide) (by decide) (fun z3 _u H locs hw hP hD hK hS => ?_)
  have hP : va_P (dC, dI) vwCl [(a2, .inr (4, [g12, g13, g14, g15, g16, g17, .int 0, g18, g19, g20, g21, g22, g23, g24, g25, g26, g27, g28])), (a0, .inr (7, [.ref a2, g3, g4, g5, g6, g7, g8, g9, .int 1, g11]))] H := hP
  have hD : va_D A [(a2, .inr (4, [g12, g13, g14, g15, g16, g17, .int 0, g18, g19, g20, g21, g22, g23, g24, g25, g26, g27, g28])), (a0, .inr (7, [.ref a2, g3, g4, g5, g6, g7, g8, g9, .int 1, g11]))] := hD
  have hK : va_K (dC, dI) vwCl [] s := hK
  obtain rfl : z3 = 1 := hw
  refine lv_if_eq (tgt := 27) hx hb dX10_judge_22 (by decide) (fun c4 => absurd c4 (by decide)) (fun _ => ?_)
  refine lv_iconst (v := (-1)) hx hb dX10_judge_25 (by decide) ?_
  have hP9 := hP.sub (ws' := []) [] rfl
  have hD9 := hD.sub (ws' := []) [] (by decide) rfl
  have hK9 := hK.sub (tys' := []) [] rfl
  exact W.iret (v := (-1)) hx hb hr (fun t ht hW => ⟨⟨(-1), (), rfl, rfl, by rw [ht]; exact hP9, va_K.moved hW.alike hK9, hD9⟩, hS.F ht⟩) hS.2.2 dX10_judge_26
theorem dX12_judge_0 : decode cX12_judge 0 = .ok (.aload_n 0, 1) := by decide +kernel
theorem dX12_judge_1 : decode cX12_judge 1 = .ok (.iconst 0, 1) := by decide +kernel
theorem dX12_judge_10 : decode cX12_judge 10 = .ok (.ifCond .ne 9, 3) := by decide +kernel
theorem dX12_judge_13 : decode cX12_judge 13 = .ok (.aload_n 0, 1) := by decide +kernel
theorem dX12_judge_14 : decode cX12_judge 14 = .ok (.iconst 1, 1) := by decide +kernel
theorem dX12_judge_15 : decode cX12_judge 15 = .ok (.invokevirtual 42, 3) := by decide +kernel
theorem dX12_judge_18 : decode cX12_judge 18 = .ok (.ireturn, 1) := by decide +kernel
theorem dX12_judge_2 : decode cX12_judge 2 = .ok (.putfield 36, 3) := by decide +kernel
theorem dX12_judge_5 : decode cX12_judge 5 = .ok (.aload_n 0, 1) := by decide +kernel
theorem dX12_judge_6 : decode cX12_judge 6 = .ok (.iload_n 1, 1) := by decide +kernel
theorem dX12_judge_7 : decode cX12_judge 7 = .ok (.invokevirtual 320, 3) := by decide +kernel
def vX12_judge : List Cond := .code yX12_judge cX12_judge 2 (some .int) :: ([.fieldLink RX12 36 "HookPierModel" "thrown" "I", .methodLink RX12 320 yX12_isAnswer, .instanceMethod yX12_isAnswer, .selects RX12 yX12_isAnswer yX12_isAnswer, .initialized RX12, .code yX12_isAnswer cX12_isAnswer 2 (some .boolean), .fieldLink RX12 299 "HookPierModel" "pier" "LHookPierModel$Pier;", .methodLink RX12 42 yX12_refused, .instanceMethod yX12_refused, .selects RX12 yX12_refused yX12_refused, .code yX12_refused cX12_refused 2 (some .int), .fieldLink RX12 39 "HookPierModel" "trouble" "I", .fieldLink RX12 9 "HookPierModel" "where" "I"] ++ wsX120)
theorem iX12_judge_X12 : ∀ w ∈ wsX120, w ∈ vX12_judge := fun _ h => List.mem_cons_of_mem _ (List.mem_append_right _ h)
set_option maxRecDepth 20000 in
theorem gX12_judge_0 : GoodIn vX12_judge (wsV RX12 320 RX12 yX12_isAnswer vX12_isAnswer) := goodIn_app (goodIn_r [.methodLink RX12 320 yX12_isAnswer, .instanceMethod yX12_isAnswer, .selects RX12 yX12_isAnswer yX12_isAnswer, .initialized RX12] [2, 3, 4, 5] (by decide +kernel) (by decide +kernel)) (goodIn_ca (goodIn_r (.code yX12_isAnswer cX12_isAnswer 2 (some .boolean) :: [.fieldLink RX12 299 "HookPierModel" "pier" "LHookPierModel$Pier;"]) [6, 7] (by decide +kernel) (by decide +kernel) : GoodIn vX12_judge (.code yX12_isAnswer cX12_isAnswer 2 (some .boolean) :: [.fieldLink RX12 299 "HookPierModel" "pier" "LHookPierModel$Pier;"])) (goodIn_sub iX12_judge_X12 (by decide +kernel)))
set_option maxRecDepth 20000 in
theorem gX12_judge_1 : GoodIn vX12_judge (wsV RX12 42 RX12 yX12_refused vX12_refused_1) := goodIn_app (goodIn_r [.methodLink RX12 42 yX12_refused, .instanceMethod yX12_refused, .selects RX12 yX12_refused yX12_refused, .initialized RX12] [8, 9, 10, 5] (by decide +kernel) (by decide +kernel)) (goodIn_ca (goodIn_r (.code yX12_refused cX12_refused 2 (some .int) :: [.fieldLink RX12 39 "HookPierModel" "trouble" "I", .fieldLink RX12 9 "HookPierModel" "where" "I"]) [11, 12, 13] (by decide +kernel) (by decide +kernel) : GoodIn vX12_judge (.code yX12_refused cX12_refused 2 (some .int) :: [.fieldLink RX12 39 "HookPierModel" "trouble" "I", .fieldLink RX12 9 "HookPierModel" "where" "I"])) (goodIn_sub iX12_judge_X12 (by decide +kernel)))
set_option maxHeartbeats 1000000 in
set_option maxRecDepth 100000 in
theorem kX12_judge (l : Launch) (dC : Nat → ClassId) (dI : Nat → Nat → Nat) (a0 : Nat) (k1 : Int32) (g2 : Value) (g3 : Value) (g4 : Value) (g5 : Value) (g6 : Value) (g7 : Value) (g8 : Value) (g9 : Value) (g10 : Value) (g11 : Value) (g12 : Value) (g13 : Value) (g14 : Value) (g15 : Value) (g16 : Value) (g17 : Value) (g18 : Value) (g19 : Value) (g20 : Value) (g21 : Value) (g22 : Value) (g23 : Value) (g24 : Value) (g25 : Value) (g26 : Value) (g27 : Value) (g28 : Value) (g29 : Value) (g30 : Value) (sz : Nat) : Met l yX12_judge vX12_judge ({ frames := 1, cells := 0, slots := 0, locals := 21 }) (PC (dC, dI) [.ref a0, .int k1] sz [(a0, .inr (9, [g2, g3, g4, .null, g5, g6, g7, g8, g9, g10, g11, g12, g13, g14, g15, g16, g17, g18, g19, g20, g21, g22, g23, g24, g25, g26, g27, g28, g29, g30]))] []) (va_Qi (S := Unit) (fun (r : Int32) _ => r = (-1)) (fun _ t => BC (dC, dI) (va_A [(a0, .inr (9, [g2, g3, g4, .null, g5, g6, g7, g8, g9, g10, g11, g12, g13, g14, g15, g16, g17, g18, g19, g20, g21, g22, g23, g24, g25, g26, g27, g28, g29, g30]))] sz) [] [] t) (va_A [(a0, .inr (9, [g2, g3, g4, .null, g5, g6, g7, g8, g9, g10, g11, g12, g13, g14, g15, g16, g17, g18, g19, g20, g21, g22, g23, g24, g25, g26, g27, g28, g29, g30]))] sz)) 0 0 (va_A [(a0, .inr (9, [g2, g3, g4, .null, g5, g6, g7, g8, g9, g10, g11, g12, g13, g14, g15, g16, g17, g18, g19, g20, g21, g22, g23, g24, g25, g26, g27, g28, g29, g30]))] sz) := by
  refine Met.ofW (cc := cX12_judge) (maxL := 2) (ret := (some .int)) (by decide) rfl ?_
  intro p e s m args below meth c s₁ B hml hv
  obtain ⟨rfl, hsz, hP, hK, hD0, hN⟩ := hv
  have hx := B.exec
  have hb := B.bytes
  have hr := B.returns
  have hts := atoms_spec (ws := vX12_judge) B.pre
  have hown : s.vm.findClass RX12 = some m.cls := findClass_of_methodNamed B.named
  have hlocks := B.notSynchronized
  subst hsz
  have hD := hD0.self (sz := s.heap.size)
  generalize hAe : va_A [(a0, .inr (9, [g2, g3, g4, .null, g5, g6, g7, g8, g9, g10, g11, g12, g13, g14, g15, g16, g17, g18, g19, g20, g21, g22, g23, g24, g25, g26, g27, g28, g29, g30]))] s.heap.size = A at hD ⊢
  have hA : ∀ q : Nat, s.heap.size ≤ q → A q := fun q h => by rw [← hAe]; exact Or.inr h
  have hS : va_S A s.heap s.heap [] := va_S.rf
  have hP : va_P (dC, dI) vwCl [(a0, .inr (9, [g2, g3, g4, .null, g5, g6, g7, g8, g9, g10, g11, g12, g13, g14, g15, g16, g17, g18, g19, g20, g21, g22, g23, g24, g25, g26, g27, g28, g29, g30]))] s.heap := hP
  have hl := lv_entry ([.ref a0, .int k1]) (n := 2) (Nat.le_of_ble_eq_true rfl)
  rw [lg_entry_eq]
  generalize (lg_sl ([.ref a0, .int k1]) ++ List.replicate (2 - (lg_sl ([.ref a0, .int k1])).length) Slot.unset).toArray = ls at hl ⊢
  have hl : lv_has ls 2 [(0, .ref a0), (1, .int k1)] := hl
  refine lv_aload_n hx hb dX12_judge_0 rfl (lv_at hl 0 rfl) ?_
  refine lv_iconst (v := 0) hx hb dX12_judge_1 (by decide) ?_
  refine va_put (D := (dC, dI)) (ci := 9) (v := .int 0) (ty := .int) (C := RX12) (T := TX12) (N := 30) hx hb hts iX12_judge_X12 tyX12 tyX12_ok nmX12 hown hK hP hD hS 0 rfl rfl 0 (by decide) (hts (.fieldLink RX12 36 "HookPierModel" "thrown" "I") (List.mem_of_getElem? (i := 1) rfl)) (fun _ h9 => h9) rfl (by decide +kernel) rfl rfl (Nat.le_of_ble_eq_true rfl) dX12_judge_2 (fun H locs hP hD hS => ?_)
  have hP : va_P (dC, dI) vwCl [(a0, .inr (9, [.int 0, g3, g4, .null, g5, g6, g7, g8, g9, g10, g11, g12, g13, g14, g15, g16, g17, g18, g19, g20, g21, g22, g23, g24, g25, g26, g27, g28, g29, g30]))] H := hP
  have hD : va_D A [(a0, .inr (9, [.int 0, g3, g4, .null, g5, g6, g7, g8, g9, g10, g11, g12, g13, g14, g15, g16, g17, g18, g19, g20, g21, g22, g23, g24, g25, g26, g27, g28, g29, g30]))] := hD
  refine lv_aload_n hx hb dX12_judge_5 rfl (lv_at hl 0 rfl) ?_
  refine lv_iload_n hx hb dX12_judge_6 rfl (lv_at hl 1 rfl) ?_
  refine cl_i (wc := [(a0, .inr (9, [.int 0, g3, g4, .null, g5, g6, g7, g8, g9, g10, g11, g12, g13, g14, g15, g16, g17, g18, g19, g20, g21, g22, g23, g24, g25, g26, g27, g28, g29, g30]))]) (wr := []) (va_runV (As := [.int k1]) (rest := []) ⟨hx, hb, hml, hown, hts⟩ (kX12_isAnswer l dC dI a0 k1 (.int 0) (g3) (g4) (g5) (g6) (g7) (g8) (g9) (g10) (g11) (g12) (g13) (g14) (g15) (g16) (g17) (g18) (g19) (g20) (g21) (g22) (g23) (g24) (g25) (g26) (g27) (g28) (g29) (g30) H.size) (cwV 1 hts gX12_judge_0 rfl rfl rfl (by decide +kernel) ⟨Nat.le_of_ble_eq_true rfl, Nat.le_of_ble_eq_true rfl⟩) (PV (hP.sub (ws' := [(a0, .inr (9, [.int 0, g3, g4, .null, g5, g6, g7, g8, g9, g10, g11, g12, g13, g14, g15, g16, g17, g18, g19, g20, g21, g22, g23, g24, g25, g26, g27, g28, g29, g30]))]) [0] rfl) (hK.sub (tys' := []) [] rfl) (hD.sub (ws' := [(a0, .inr (9, [.int 0, g3, g4, .null, g5, g6, g7, g8, g9, g10, g11, g12, g13, g14, g15, g16, g17, g18, g19, g20, g21, g22, g23, g24, g25, g26, g27, g28, g29, g30]))]) [0] (by decide) rfl) hN 0 rfl rfl) rfl rfl hl.1 rfl (lv_room (Nat.le_of_ble_eq_true rfl)) dX12_judge_7 ⟨Nat.le_of_ble_eq_true rfl, Nat.le_of_ble_eq_true rfl⟩) hP hD hK hS hA [0] [] rfl rfl (by decide) (by decide) (fun z1 _u H locs hw hP hD hK hS => ?_)
  have hP : va_P (dC, dI) vwCl [(a0, .inr (9, [.int 0, g3, g4, .null, g5, g6, g7, g8, g9, g10, g11, g12, g13, g14, g15, g16, g17, g18, g19, g20, g21, g22, g23, g24, g25, g26, g27, g28, g29, g30]))] H := hP
  have hD : va_D A [(a0, .inr (9, [.int 0, g3, g4, .null, g5, g6, g7, g8, g9, g10, g11, g12, g13, g14, g15, g16, g17, g18, g19, g20, g21, g22, g23, g24, g25, g26, g27, g28, g29, g30]))] := hD
  have hK : va_K (dC, dI) vwCl [] s := hK
  obtain rfl : z1 = 0 := hw
  refine lv_if_ne (tgt := 19) hx hb dX12_judge_10 (by decide) (fun c2 => absurd c2 (by decide)) (fun _ => ?_)
  refine lv_aload_n hx hb dX12_judge_13 rfl (lv_at hl 0 rfl) ?_
  refine lv_iconst (v := 1) hx hb dX12_judge_14 (by decide) ?_
  refine cl_i (wc := [(a0, .inr (9, [.int 0, g3, g4, .null, g5, g6, g7, g8, g9, g10, g11, g12, g13, g14, g15, g16, g17, g18, g19, g20, g21, g22, g23, g24, g25, g26, g27, g28, g29, g30]))]) (wr := []) (va_runV (As := [.int 1]) (rest := []) ⟨hx, hb, hml, hown, hts⟩ (kX12_refused_1 l dC dI a0 (.int 0) (g3) (g4) (.null) (g5) (g6) (g7) (g8) (g9) (g10) (g11) (g12) (g13) (g14) (g15) (g16) (g17) (g18) (g19) (g20) (g21) (g22) (g23) (g24) (g25) (g26) (g27) (g28) (g29) (g30) H.size) (cwV 1 hts gX12_judge_1 rfl rfl rfl (by decide +kernel) ⟨Nat.le_of_ble_eq_true rfl, Nat.le_of_ble_eq_true rfl⟩) (PV (hP.sub (ws' := [(a0, .inr (9, [.int 0, g3, g4, .null, g5, g6, g7, g8, g9, g10, g11, g12, g13, g14, g15, g16, g17, g18, g19, g20, g21, g22, g23, g24, g25, g26, g27, g28, g29, g30]))]) [0] rfl) (hK.sub (tys' := []) [] rfl) (hD.sub (ws' := [(a0, .inr (9, [.int 0, g3, g4, .null, g5, g6, g7, g8, g9, g10, g11, g12, g13, g14, g15, g16, g17, g18, g19, g20, g21, g22, g23, g24, g25, g26, g27, g28, g29, g30]))]) [0] (by decide) rfl) hN 0 rfl rfl) rfl rfl hl.1 rfl (lv_room (Nat.le_of_ble_eq_true rfl)) dX12_judge_15 ⟨Nat.le_of_ble_eq_true rfl, Nat.le_of_ble_eq_true rfl⟩) hP hD hK hS hA [0] [] rfl rfl (by decide) (by decide) (fun z3 _u H locs hw hP hD hK hS => ?_)
  have hP : va_P (dC, dI) vwCl [(a0, .inr (9, [.int 0, .int 1, .int (-1), .null, g5, g6, g7, g8, g9, g10, g11, g12, g13, g14, g15, g16, g17, g18, g19, g20, g21, g22, g23, g24, g25, g26, g27, g28, g29, g30]))] H := hP
  have hD : va_D A [(a0, .inr (9, [.int 0, .int 1, .int (-1), .null, g5, g6, g7, g8, g9, g10, g11, g12, g13, g14, g15, g16, g17, g18, g19, g20, g21, g22, g23, g24, g25, g26, g27, g28, g29, g30]))] := hD
  have hK : va_K (dC, dI) vwCl [] s := hK
  obtain rfl : z3 = (-1) := hw
  have hP9 := hP.sub (ws' := []) [] rfl
  have hD9 := hD.sub (ws' := []) [] (by decide) rfl
  have hK9 := hK.sub (tys' := []) [] rfl
  exact W.iret (v := (-1)) hx hb hr (fun t ht hW => ⟨⟨(-1), (), rfl, rfl, by rw [ht]; exact hP9, va_K.moved hW.alike hK9, hD9⟩, hS.F ht⟩) hS.2.2 dX12_judge_18
def vX10_within_5 : List Cond := .code yX10_within cX10_within 3 (some .boolean) :: ([])
set_option maxHeartbeats 1000000 in
set_option maxRecDepth 100000 in
theorem kX10_within_5 (l : Launch) (dC : Nat → ClassId) (dI : Nat → Nat → Nat) (k0 : Int32) (k1 : Int32) (sz : Nat) : Met l yX10_within vX10_within_5 ({ frames := 0, cells := 0, slots := 0, locals := 0 }) (PC (dC, dI) [.int k0, .int k1, .int 999] sz [] []) (va_Qi (S := Unit) (fun (r : Int32) _ => True) (fun _ t => BC (dC, dI) (va_A [] sz) [] [] t) (va_A [] sz)) 0 0 (va_A [] sz) := by
  refine Met.ofW (cc := cX10_within) (maxL := 3) (ret := (some .boolean)) (by decide) rfl ?_
  intro p e s m args below meth c s₁ B hml hv
  obtain ⟨rfl, hsz, hP, hK, hD0, hN⟩ := hv
  have hx := B.exec
  have hb := B.bytes
  have hr := B.returns
  have hts := atoms_spec (ws := vX10_within_5) B.pre
  have hown : s.vm.findClass RX10 = some m.cls := findClass_of_methodNamed B.named
  have hlocks := B.notSynchronized
  subst hsz
  have hD := hD0.self (sz := s.heap.size)
  generalize hAe : va_A [] s.heap.size = A at hD ⊢
  have hA : ∀ q : Nat, s.heap.size ≤ q → A q := fun q h => by rw [← hAe]; exact Or.inr h
  have hS : va_S A s.heap s.heap [] := va_S.rf
  have hP : va_P (dC, dI) vwCl [] s.heap := hP
  have hl := lv_entry ([.int k0, .int k1, .int 999]) (n := 3) (Nat.le_of_ble_eq_true rfl)
  rw [lg_entry_eq]
  generalize (lg_sl ([.int k0, .int k1, .int 999]) ++ List.replicate (3 - (lg_sl ([.int k0, .int k1, .int 999])).length) Slot.unset).toArray = ls at hl ⊢
  have hl : lv_has ls 3 [(0, .int k0), (1, .int k1), (2, .int 999)] := hl
  refine lv_iload_n hx hb dX10_within_0 rfl (lv_at hl 0 rfl) ?_
  refine lv_iload_n hx hb dX10_within_1 rfl (lv_at hl 1 rfl) ?_
  refine lv_icmp_lt (tgt := 14) hx hb dX10_within_2 (by decide) (fun c1 => ?_) (fun c1 => ?_)
  · refine lv_iconst (v := 0) hx hb dX10_within_14 (by decide) ?_
    have hP9 := hP.sub (ws' := []) [] rfl
    have hD9 := hD.sub (ws' := []) [] (by decide) rfl
    have hK9 := hK.sub (tys' := []) [] rfl
    exact W.zret (v := 0) hx hb hr rfl (fun t ht hW => ⟨⟨0, (), rfl, trivial, by rw [ht]; exact hP9, va_K.moved hW.alike hK9, hD9⟩, hS.F ht⟩) hS.2.2 dX10_within_15
  · refine lv_iload_n hx hb dX10_within_5 rfl (lv_at hl 0 rfl) ?_
    refine lv_iload_n hx hb dX10_within_6 rfl (lv_at hl 2 rfl) ?_
    refine lv_icmp_gt (tgt := 14) hx hb dX10_within_7 (by decide) (fun c2 => ?_) (fun c2 => ?_)
    · refine lv_iconst (v := 0) hx hb dX10_within_14 (by decide) ?_
      have hP9 := hP.sub (ws' := []) [] rfl
      have hD9 := hD.sub (ws' := []) [] (by decide) rfl
      have hK9 := hK.sub (tys' := []) [] rfl
      exact W.zret (v := 0) hx hb hr rfl (fun t ht hW => ⟨⟨0, (), rfl, trivial, by rw [ht]; exact hP9, va_K.moved hW.alike hK9, hD9⟩, hS.F ht⟩) hS.2.2 dX10_within_15
    · refine lv_iconst (v := 1) hx hb dX10_within_10 (by decide) ?_
      refine lv_goto (tgt := 15) hx hb dX10_within_11 (by decide) ?_
      have hP9 := hP.sub (ws' := []) [] rfl
      have hD9 := hD.sub (ws' := []) [] (by decide) rfl
      have hK9 := hK.sub (tys' := []) [] rfl
      exact W.zret (v := 1) hx hb hr rfl (fun t ht hW => ⟨⟨1, (), rfl, trivial, by rw [ht]; exact hP9, va_K.moved hW.alike hK9, hD9⟩, hS.F ht⟩) hS.2.2 dX10_within_15
theorem dX10_worth_0 : decode cX10_worth 0 = .ok (.aload_n 0, 1) := by decide +kernel
theorem dX10_worth_1 : decode cX10_worth 1 = .ok (.iload_n 1, 1) := by decide +kernel
theorem dX10_worth_12 : decode cX10_worth 12 = .ok (.invokestatic 75, 3) := by decide +kernel
theorem dX10_worth_15 : decode cX10_worth 15 = .ok (.ifCond .eq 18, 3) := by decide +kernel
theorem dX10_worth_18 : decode cX10_worth 18 = .ok (.iload_n 3, 1) := by decide +kernel
theorem dX10_worth_19 : decode cX10_worth 19 = .ok (.iload_n 2, 1) := by decide +kernel
theorem dX10_worth_2 : decode cX10_worth 2 = .ok (.invokevirtual 102, 3) := by decide +kernel
theorem dX10_worth_20 : decode cX10_worth 20 = .ok (.sipush 999, 3) := by decide +kernel
theorem dX10_worth_23 : decode cX10_worth 23 = .ok (.invokestatic 75, 3) := by decide +kernel
theorem dX10_worth_26 : decode cX10_worth 26 = .ok (.ifCond .eq 7, 3) := by decide +kernel
theorem dX10_worth_29 : decode cX10_worth 29 = .ok (.iconst 1, 1) := by decide +kernel
theorem dX10_worth_30 : decode cX10_worth 30 = .ok (.goto 4, 3) := by decide +kernel
theorem dX10_worth_33 : decode cX10_worth 33 = .ok (.iconst 0, 1) := by decide +kernel
theorem dX10_worth_34 : decode cX10_worth 34 = .ok (.istore 5, 2) := by decide +kernel
theorem dX10_worth_36 : decode cX10_worth 36 = .ok (.aload_n 0, 1) := by decide +kernel
theorem dX10_worth_37 : decode cX10_worth 37 = .ok (.iload 4, 2) := by decide +kernel
theorem dX10_worth_39 : decode cX10_worth 39 = .ok (.ifCond .ne 12, 3) := by decide +kernel
theorem dX10_worth_5 : decode cX10_worth 5 = .ok (.istore 4, 2) := by decide +kernel
theorem dX10_worth_51 : decode cX10_worth 51 = .ok (.iload 4, 2) := by decide +kernel
theorem dX10_worth_53 : decode cX10_worth 53 = .ok (.invokevirtual 79, 3) := by decide +kernel
theorem dX10_worth_56 : decode cX10_worth 56 = .ok (.ifCond .eq 5, 3) := by decide +kernel
theorem dX10_worth_59 : decode cX10_worth 59 = .ok (.iconst (-1), 1) := by decide +kernel
theorem dX10_worth_60 : decode cX10_worth 60 = .ok (.ireturn, 1) := by decide +kernel
theorem dX10_worth_7 : decode cX10_worth 7 = .ok (.iload_n 2, 1) := by decide +kernel
theorem dX10_worth_8 : decode cX10_worth 8 = .ok (.iconst 0, 1) := by decide +kernel
theorem dX10_worth_9 : decode cX10_worth 9 = .ok (.sipush 999, 3) := by decide +kernel
def vX10_worth : List Cond := .code yX10_worth cX10_worth 6 (some .int) :: ([.methodLink RX10 102 yX10_answerTrouble, .instanceMethod yX10_answerTrouble, .selects RX10 yX10_answerTrouble yX10_answerTrouble, .initialized RX10, .code yX10_answerTrouble cX10_answerTrouble 2 (some .int), .fieldLink RX10 10 "HookPier" "plan" "LHookPier$Plan;", .methodLink RX10 381 yX6_hasAnswer, .instanceMethod yX6_hasAnswer, .selects RX6 yX6_hasAnswer yX6_hasAnswer, .initialized RX6, .code yX6_hasAnswer cX6_hasAnswer 2 (some .boolean), .fieldLink RX6 30 "HookPier$Plan" "answers" "I", .code yX10_within cX10_within 3 (some .boolean), .static yX10_within, .methodLink RX10 75 yX10_within, .methodLink RX10 79 yX10_refused, .instanceMethod yX10_refused, .selects RX10 yX10_refused yX10_refused, .code yX10_refused cX10_refused 2 (some .boolean), .fieldLink RX10 61 "HookPier" "troubleNow" "I"] ++ wsX100 ++ wsX60)
theorem iX10_worth_X10 : ∀ w ∈ wsX100, w ∈ vX10_worth := fun _ h => List.mem_cons_of_mem _ (List.mem_append_left _ (List.mem_append_right _ h))
theorem iX10_worth_X6 : ∀ w ∈ wsX60, w ∈ vX10_worth := fun _ h => List.mem_cons_of_mem _ (List.mem_append_right _ h)
set_option maxRecDepth 20000 in
theorem gX10_worth_0 : GoodIn vX10_worth (wsV RX10 102 RX10 yX10_answerTrouble vX10_answerTrouble) := goodIn_app (goodIn_r [.methodLink RX10 102 yX10_answerTrouble, .instanceMethod yX10_answerTrouble, .selects RX10 yX10_answerTrouble yX10_answerTrouble, .initialized RX10] [1, 2, 3, 4] (by decide +kernel) (by decide +kernel)) (goodIn_ca (goodIn_ca (goodIn_r (.code yX10_answerTrouble cX10_answerTrouble 2 (some .int) :: [.fieldLink RX10 10 "HookPier" "plan" "LHookPier$Plan;", .methodLink RX10 381 yX6_hasAnswer, .instanceMethod yX6_hasAnswer, .selects RX6 yX6_hasAnswer yX6_hasAnswer, .initialized RX6, .code yX6_hasAnswer cX6_hasAnswer 2 (some .boolean), .fieldLink RX6 30 "HookPier$Plan" "answers" "I", .code yX10_within cX10_within 3 (some .boolean), .initialized RX10, .static yX10_within]) [5, 6, 7, 8, 9, 10, 11, 12, 13, 4, 14] (by decide +kernel) (by decide +kernel) : GoodIn vX10_worth (.code yX10_answerTrouble cX10_answerTrouble 2 (some .int) :: [.fieldLink RX10 10 "HookPier" "plan" "LHookPier$Plan;", .methodLink RX10 381 yX6_hasAnswer, .instanceMethod yX6_hasAnswer, .selects RX6 yX6_hasAnswer yX6_hasAnswer, .initialized RX6, .code yX6_hasAnswer cX6_hasAnswer 2 (some .boolean), .fieldLink RX6 30 "HookPier$Plan" "answers" "I", .code yX10_within cX10_within 3 (some .boolean), .initialized RX10, .static yX10_within])) (goodIn_sub iX10_worth_X10 (by decide +kernel))) (goodIn_sub iX10_worth_X6 (by decide +kernel)))
set_option maxRecDepth 20000 in
theorem gX10_worth_1 : GoodIn vX10_worth (va_wsS RX10 75 yX10_within vX10_within_4) := goodIn_app (goodIn_r [.methodLink RX10 75 yX10_within, .static yX10_within, .initialized RX10] [15, 14, 4] (by decide +kernel) (by decide +kernel)) (goodIn_r (.code yX10_within cX10_within 3 (some .boolean) :: []) [13] (by decide +kernel) (by decide +kernel) : GoodIn vX10_worth (.code yX10_within cX10_within 3 (some .boolean) :: []))
set_option maxRecDepth 20000 in
theorem gX10_worth_2 : GoodIn vX10_worth (wsV RX10 79 RX10 yX10_refused vX10_refused_3) := goodIn_app (goodIn_r [.methodLink RX10 79 yX10_refused, .instanceMethod yX10_refused, .selects RX10 yX10_refused yX10_refused, .initialized RX10] [16, 17, 18, 4] (by decide +kernel) (by decide +kernel)) (goodIn_ca (goodIn_r (.code yX10_refused cX10_refused 2 (some .boolean) :: [.fieldLink RX10 61 "HookPier" "troubleNow" "I"]) [19, 20] (by decide +kernel) (by decide +kernel) : GoodIn vX10_worth (.code yX10_refused cX10_refused 2 (some .boolean) :: [.fieldLink RX10 61 "HookPier" "troubleNow" "I"])) (goodIn_sub iX10_worth_X10 (by decide +kernel)))
set_option maxRecDepth 20000 in
theorem gX10_worth_3 : GoodIn vX10_worth (va_wsS RX10 75 yX10_within vX10_within_5) := goodIn_app (goodIn_r [.methodLink RX10 75 yX10_within, .static yX10_within, .initialized RX10] [15, 14, 4] (by decide +kernel) (by decide +kernel)) (goodIn_r (.code yX10_within cX10_within 3 (some .boolean) :: []) [13] (by decide +kernel) (by decide +kernel) : GoodIn vX10_worth (.code yX10_within cX10_within 3 (some .boolean) :: []))
set_option maxHeartbeats 1000000 in
set_option maxRecDepth 100000 in
theorem kX10_worth (l : Launch) (dC : Nat → ClassId) (dI : Nat → Nat → Nat) (a0 : Nat) (k1 : Int32) (k2 : Int32) (k3 : Int32) (a4 : Nat) (g5 : Value) (g6 : Value) (g7 : Value) (g8 : Value) (g9 : Value) (g10 : Value) (g11 : Value) (g12 : Value) (g13 : Value) (g14 : Value) (g15 : Value) (g16 : Value) (g17 : Value) (g18 : Value) (g19 : Value) (g20 : Value) (g21 : Value) (g22 : Value) (g23 : Value) (g24 : Value) (g25 : Value) (g26 : Value) (g27 : Value) (g28 : Value) (g29 : Value) (g30 : Value) (sz : Nat) : Met l yX10_worth vX10_worth ({ frames := 3, cells := 0, slots := 0, locals := 64 }) (PC (dC, dI) [.ref a0, .int k1, .int k2, .int k3] sz [(a0, .inr (7, [.ref a4, g5, g6, g7, g8, g9, g10, g11, g12, g13])), (a4, .inr (4, [g14, g15, g16, g17, g18, g19, .int 0, g20, g21, g22, g23, g24, g25, g26, g27, g28, g29, g30]))] []) (va_Qi (S := Unit) (fun (r : Int32) _ => r = (-1)) (fun _ t => BC (dC, dI) (va_A [(a0, .inr (7, [.ref a4, g5, g6, g7, g8, g9, g10, g11, g12, g13])), (a4, .inr (4, [g14, g15, g16, g17, g18, g19, .int 0, g20, g21, g22, g23, g24, g25, g26, g27, g28, g29, g30]))] sz) [] [] t) (va_A [(a0, .inr (7, [.ref a4, g5, g6, g7, g8, g9, g10, g11, g12, g13])), (a4, .inr (4, [g14, g15, g16, g17, g18, g19, .int 0, g20, g21, g22, g23, g24, g25, g26, g27, g28, g29, g30]))] sz)) 0 0 (va_A [(a0, .inr (7, [.ref a4, g5, g6, g7, g8, g9, g10, g11, g12, g13])), (a4, .inr (4, [g14, g15, g16, g17, g18, g19, .int 0, g20, g21, g22, g23, g24, g25, g26, g27, g28, g29, g30]))] sz) := by
  refine Met.ofW (cc := cX10_worth) (maxL := 6) (ret := (some .int)) (by decide) rfl ?_
  intro p e s m args below meth c s₁ B hml hv
  obtain ⟨rfl, hsz, hP, hK, hD0, hN⟩ := hv
  have hx := B.exec
  have hb := B.bytes
  have hr := B.returns
  have hts := atoms_spec (ws := vX10_worth) B.pre
  have hown : s.vm.findClass RX10 = some m.cls := findClass_of_methodNamed B.named
  have hlocks := B.notSynchronized
  subst hsz
  have hD := hD0.self (sz := s.heap.size)
  generalize hAe : va_A [(a0, .inr (7, [.ref a4, g5, g6, g7, g8, g9, g10, g11, g12, g13])), (a4, .inr (4, [g14, g15, g16, g17, g18, g19, .int 0, g20, g21, g22, g23, g24, g25, g26, g27, g28, g29, g30]))] s.heap.size = A at hD ⊢
  have hA : ∀ q : Nat, s.heap.size ≤ q → A q := fun q h => by rw [← hAe]; exact Or.inr h
  have hS : va_S A s.heap s.heap [] := va_S.rf
  have hP : va_P (dC, dI) vwCl [(a0, .inr (7, [.ref a4, g5, g6, g7, g8, g9, g10, g11, g12, g13])), (a4, .inr (4, [g14, g15, g16, g17, g18, g19, .int 0, g20, g21, g22, g23, g24, g25, g26, g27, g28, g29, g30]))] s.heap := hP
  have hl := lv_entry ([.ref a0, .int k1, .int k2, .int k3]) (n := 6) (Nat.le_of_ble_eq_true rfl)
  rw [lg_entry_eq]
  generalize (lg_sl ([.ref a0, .int k1, .int k2, .int k3]) ++ List.replicate (6 - (lg_sl ([.ref a0, .int k1, .int k2, .int k3])).length) Slot.unset).toArray = ls at hl ⊢
  have hl : lv_has ls 6 [(0, .ref a0), (1, .int k1), (2, .int k2), (3, .int k3)] := hl
  refine lv_aload_n hx hb dX10_worth_0 rfl (lv_at hl 0 rfl) ?_
  refine lv_iload_n hx hb dX10_worth_1 rfl (lv_at hl 1 rfl) ?_
  refine cl_i (wc := [(a0, .inr (7, [.ref a4, g5, g6, g7, g8, g9, g10, g11, g12, g13])), (a4, .inr (4, [g14, g15, g16, g17, g18, g19, .int 0, g20, g21, g22, g23, g24, g25, g26, g27, g28, g29, g30]))]) (wr := []) (va_runV (As := [.int k1]) (rest := []) ⟨hx, hb, hml, hown, hts⟩ (kX10_answerTrouble l dC dI a0 k1 a4 (g5) (g6) (g7) (g8) (g9) (g10) (g11) (g12) (g13) (g14) (g15) (g16) (g17) (g18) (g19) (g20) (g21) (g22) (g23) (g24) (g25) (g26) (g27) (g28) (g29) (g30) s.heap.size) (cwV 1 hts gX10_worth_0 rfl rfl rfl (by decide +kernel) ⟨Nat.le_of_ble_eq_true rfl, Nat.le_of_ble_eq_true rfl⟩) (PV (hP.sub (ws' := [(a0, .inr (7, [.ref a4, g5, g6, g7, g8, g9, g10, g11, g12, g13])), (a4, .inr (4, [g14, g15, g16, g17, g18, g19, .int 0, g20, g21, g22, g23, g24, g25, g26, g27, g28, g29, g30]))]) [0, 1] rfl) (hK.sub (tys' := []) [] rfl) (hD.sub (ws' := [(a0, .inr (7, [.ref a4, g5, g6, g7, g8, g9, g10, g11, g12, g13])), (a4, .inr (4, [g14, g15, g16, g17, g18, g19, .int 0, g20, g21, g22, g23, g24, g25, g26, g27, g28, g29, g30]))]) [0, 1] (by decide) rfl) hN 0 rfl rfl) rfl rfl hl.1 rfl (lv_room (Nat.le_of_ble_eq_true rfl)) dX10_worth_2 ⟨Nat.le_of_ble_eq_true rfl, Nat.le_of_ble_eq_true rfl⟩) hP hD hK hS hA [0, 1] [] rfl rfl (by decide) (by decide) (fun z1 _u H locs hw hP hD hK hS => ?_)
  have hP : va_P (dC, dI) vwCl [(a0, .inr (7, [.ref a4, g5, g6, g7, g8, g9, g10, g11, g12, g13])), (a4, .inr (4, [g14, g15, g16, g17, g18, g19, .int 0, g20, g21, g22, g23, g24, g25, g26, g27, g28, g29, g30]))] H := hP
  have hD : va_D A [(a0, .inr (7, [.ref a4, g5, g6, g7, g8, g9, g10, g11, g12, g13])), (a4, .inr (4, [g14, g15, g16, g17, g18, g19, .int 0, g20, g21, g22, g23, g24, g25, g26, g27, g28, g29, g30]))] := hD
  have hK : va_K (dC, dI) vwCl [] s := hK
  obtain rfl : z1 = 1 := hw
  refine lv_istore (lv' := [(4, .int 1), (0, .ref a0), (1, .int k1), (2, .int k2), (3, .int k3)]) hx hb dX10_worth_5 hl (by decide) rfl (fun ls hl => ?_)
  refine lv_iload_n hx hb dX10_worth_7 rfl (lv_at hl 3 rfl) ?_
  refine lv_iconst (v := 0) hx hb dX10_worth_8 (by decide) ?_
  refine lv_sipush (v := 999) hx hb dX10_worth_9 (by decide) ?_
  refine cl_i (wc := []) (wr := [(a0, .inr (7, [.ref a4, g5, g6, g7, g8, g9, g10, g11, g12, g13])), (a4, .inr (4, [g14, g15, g16, g17, g18, g19, .int 0, g20, g21, g22, g23, g24, g25, g26, g27, g28, g29, g30]))]) (va_runS (As := [.int k2, .int 0, .int 999]) (rest := []) ⟨hx, hb, hml, hown, hts⟩ (kX10_within_4 l dC dI k2 H.size) (va_cwS 3 hts gX10_worth_1 rfl rfl rfl (by decide +kernel) ⟨Nat.le_of_ble_eq_true rfl, Nat.le_of_ble_eq_true rfl⟩) (PS (hP.sub (ws' := []) [] rfl) (hK.sub (tys' := []) [] rfl) (hD.sub (ws' := []) [] (by decide) rfl) hN) rfl rfl hl.1 rfl (lv_room (Nat.le_of_ble_eq_true rfl)) dX10_worth_12 ⟨Nat.le_of_ble_eq_true rfl, Nat.le_of_ble_eq_true rfl⟩) hP hD hK hS hA [] [0, 1] rfl rfl (by decide) (by decide) (fun z2 _u H locs hw hP hD hK hS => ?_)
  have hP : va_P (dC, dI) vwCl [(a0, .inr (7, [.ref a4, g5, g6, g7, g8, g9, g10, g11, g12, g13])), (a4, .inr (4, [g14, g15, g16, g17, g18, g19, .int 0, g20, g21, g22, g23, g24, g25, g26, g27, g28, g29, g30]))] H := hP
  have hD : va_D A [(a0, .inr (7, [.ref a4, g5, g6, g7, g8, g9, g10, g11, g12, g13])), (a4, .inr (4, [g14, g15, g16, g17, g18, g19, .int 0, g20, g21, g22, g23, g24, g25, g26, g27, g28, g29, g30]))] := hD
  have hK : va_K (dC, dI) vwCl [] s := hK
  refine lv_if_eq (tgt := 33) hx hb dX10_worth_15 (by decide) (fun c3 => ?_) (fun c3 => ?_)
  · obtain rfl : z2 = 0 := (by simp only [fa_lt, fa_le, fa_eq, ltv_0] at c3 ⊢; omega)
    refine lv_iconst (v := 0) hx hb dX10_worth_33 (by decide) ?_
    refine lv_istore (lv' := [(5, .int 0), (4, .int 1), (0, .ref a0), (1, .int k1), (2, .int k2), (3, .int k3)]) hx hb dX10_worth_34 hl (by decide) rfl (fun ls hl => ?_)
    refine lv_aload_n hx hb dX10_worth_36 rfl (lv_at hl 2 rfl) ?_
    refine lv_iload hx hb dX10_worth_37 (lv_at hl 1 rfl) ?_
    refine lv_if_ne (tgt := 51) hx hb dX10_worth_39 (by decide) (fun _ => ?_) (fun c4 => absurd c4 (by decide))
    refine lv_iload hx hb dX10_worth_51 (lv_at hl 1 rfl) ?_
    refine cl_i (wc := [(a0, .inr (7, [.ref a4, g5, g6, g7, g8, g9, g10, g11, g12, g13]))]) (wr := [(a4, .inr (4, [g14, g15, g16, g17, g18, g19, .int 0, g20, g21, g22, g23, g24, g25, g26, g27, g28, g29, g30]))]) (va_runV (As := [.int 1]) (rest := []) ⟨hx, hb, hml, hown, hts⟩ (kX10_refused_3 l dC dI a0 (.ref a4) (g5) (g6) (g7) (g8) (g9) (g10) (g11) (g12) (g13) H.size) (cwV 1 hts gX10_worth_2 rfl rfl rfl (by decide +kernel) ⟨Nat.le_of_ble_eq_true rfl, Nat.le_of_ble_eq_true rfl⟩) (PV (hP.sub (ws' := [(a0, .inr (7, [.ref a4, g5, g6, g7, g8, g9, g10, g11, g12, g13]))]) [0] rfl) (hK.sub (tys' := []) [] rfl) (hD.sub (ws' := [(a0, .inr (7, [.ref a4, g5, g6, g7, g8, g9, g10, g11, g12, g13]))]) [0] (by decide) rfl) hN 0 rfl rfl) rfl rfl hl.1 rfl (lv_room (Nat.le_of_ble_eq_true rfl)) dX10_worth_53 ⟨Nat.le_of_ble_eq_true rfl, Nat.le_of_ble_eq_true rfl⟩) hP hD hK hS hA [0] [1] rfl rfl (by decide) (by decide) (fun z5 _u H locs hw hP hD hK hS => ?_)
    have hP : va_P (dC, dI) vwCl [(a4, .inr (4, [g14, g15, g16, g17, g18, g19, .int 0, g20, g21, g22, g23, g24, g25, g26, g27, g28, g29, g30])), (a0, .inr (7, [.ref a4, g5, g6, g7, g8, g9, g10, g11, .int 1, g13]))] H := hP
    have hD : va_D A [(a4, .inr (4, [g14, g15, g16, g17, g18, g19, .int 0, g20, g21, g22, g23, g24, g25, g26, g27, g28, g29, g30])), (a0, .inr (7, [.ref a4, g5, g6, g7, g8, g9, g10, g11, .int 1, g13]))] := hD
    have hK : va_K (dC, dI) vwCl [] s := hK
    obtain rfl : z5 = 1 := hw
    refine lv_if_eq (tgt := 61) hx hb dX10_worth_56 (by decide) (fun c6 => absurd c6 (by decide)) (fun _ => ?_)
    refine lv_iconst (v := (-1)) hx hb dX10_worth_59 (by decide) ?_
    have hP9 := hP.sub (ws' := []) [] rfl
    have hD9 := hD.sub (ws' := []) [] (by decide) rfl
    have hK9 := hK.sub (tys' := []) [] rfl
    exact W.iret (v := (-1)) hx hb hr (fun t ht hW => ⟨⟨(-1), (), rfl, rfl, by rw [ht]; exact hP9, va_K.moved hW.alike hK9, hD9⟩, hS.F ht⟩) hS.2.2 dX10_worth_60
  · refine lv_iload_n hx hb dX10_worth_18 rfl (lv_at hl 4 rfl) ?_
    refine lv_iload_n hx hb dX10_worth_19 rfl (lv_at hl 3 rfl) ?_
    refine lv_sipush (v := 999) hx hb dX10_worth_20 (by decide) ?_
    refine cl_i (wc := []) (wr := [(a0, .inr (7, [.ref a4, g5, g6, g7, g8, g9, g10, g11, g12, g13])), (a4, .inr (4, [g14, g15, g16, g17, g18, g19, .int 0, g20, g21, g22, g23, g24, g25, g26, g27, g28, g29, g30]))]) (va_runS (As := [.int k3, .int k2, .int 999]) (rest := []) ⟨hx, hb, hml, hown, hts⟩ (kX10_within_5 l dC dI k3 k2 H.size) (va_cwS 3 hts gX10_worth_3 rfl rfl rfl (by decide +kernel) ⟨Nat.le_of_ble_eq_true rfl, Nat.le_of_ble_eq_true rfl⟩) (PS (hP.sub (ws' := []) [] rfl) (hK.sub (tys' := []) [] rfl) (hD.sub (ws' := []) [] (by decide) rfl) hN) rfl rfl hl.1 rfl (lv_room (Nat.le_of_ble_eq_true rfl)) dX10_worth_23 ⟨Nat.le_of_ble_eq_true rfl, Nat.le_of_ble_eq_true rfl⟩) hP hD hK hS hA [] [0, 1] rfl rfl (by decide) (by decide) (fun z7 _u H locs hw hP hD hK hS => ?_)
    have hP : va_P (dC, dI) vwCl [(a0, .inr (7, [.ref a4, g5, g6, g7, g8, g9, g10, g11, g12, g13])), (a4, .inr (4, [g14, g15, g16, g17, g18, g19, .int 0, g20, g21, g22, g23, g24, g25, g26, g27, g28, g29, g30]))] H := hP
    have hD : va_D A [(a0, .inr (7, [.ref a4, g5, g6, g7, g8, g9, g10, g11, g12, g13])), (a4, .inr (4, [g14, g15, g16, g17, g18, g19, .int 0, g20, g21, g22, g23, g24, g25, g26, g27, g28, g29, g30]))] := hD
    have hK : va_K (dC, dI) vwCl [] s := hK
    refine lv_if_eq (tgt := 33) hx hb dX10_worth_26 (by decide) (fun c8 => ?_) (fun c8 => ?_)
    · obtain rfl : z7 = 0 := (by simp only [fa_lt, fa_le, fa_eq, ltv_0] at c8 ⊢; omega)
      refine lv_iconst (v := 0) hx hb dX10_worth_33 (by decide) ?_
      refine lv_istore (lv' := [(5, .int 0), (4, .int 1), (0, .ref a0), (1, .int k1), (2, .int k2), (3, .int k3)]) hx hb dX10_worth_34 hl (by decide) rfl (fun ls hl => ?_)
      refine lv_aload_n hx hb dX10_worth_36 rfl (lv_at hl 2 rfl) ?_
      refine lv_iload hx hb dX10_worth_37 (lv_at hl 1 rfl) ?_
      refine lv_if_ne (tgt := 51) hx hb dX10_worth_39 (by decide) (fun _ => ?_) (fun c9 => absurd c9 (by decide))
      refine lv_iload hx hb dX10_worth_51 (lv_at hl 1 rfl) ?_
      refine cl_i (wc := [(a0, .inr (7, [.ref a4, g5, g6, g7, g8, g9, g10, g11, g12, g13]))]) (wr := [(a4, .inr (4, [g14, g15, g16, g17, g18, g19, .int 0, g20, g21, g22, g23, g24, g25, g26, g27, g28, g29, g30]))]) (va_runV (As := [.int 1]) (rest := []) ⟨hx, hb, hml, hown, hts⟩ (kX10_refused_3 l dC dI a0 (.ref a4) (g5) (g6) (g7) (g8) (g9) (g10) (g11) (g12) (g13) H.size) (cwV 1 hts gX10_worth_2 rfl rfl rfl (by decide +kernel) ⟨Nat.le_of_ble_eq_true rfl, Nat.le_of_ble_eq_true rfl⟩) (PV (hP.sub (ws' := [(a0, .inr (7, [.ref a4, g5, g6, g7, g8, g9, g10, g11, g12, g13]))]) [0] rfl) (hK.sub (tys' := []) [] rfl) (hD.sub (ws' := [(a0, .inr (7, [.ref a4, g5, g6, g7, g8, g9, g10, g11, g12, g13]))]) [0] (by decide) rfl) hN 0 rfl rfl) rfl rfl hl.1 rfl (lv_room (Nat.le_of_ble_eq_true rfl)) dX10_worth_53 ⟨Nat.le_of_ble_eq_true rfl, Nat.le_of_ble_eq_true rfl⟩) hP hD hK hS hA [0] [1] rfl rfl (by decide) (by decide) (fun z10 _u H locs hw hP hD hK hS => ?_)
      have hP : va_P (dC, dI) vwCl [(a4, .inr (4, [g14, g15, g16, g17, g18, g19, .int 0, g20, g21, g22, g23, g24, g25, g26, g27, g28, g29, g30])), (a0, .inr (7, [.ref a4, g5, g6, g7, g8, g9, g10, g11, .int 1, g13]))] H := hP
      have hD : va_D A [(a4, .inr (4, [g14, g15, g16, g17, g18, g19, .int 0, g20, g21, g22, g23, g24, g25, g26, g27, g28, g29, g30])), (a0, .inr (7, [.ref a4, g5, g6, g7, g8, g9, g10, g11, .int 1, g13]))] := hD
      have hK : va_K (dC, dI) vwCl [] s := hK
      obtain rfl : z10 = 1 := hw
      refine lv_if_eq (tgt := 61) hx hb dX10_worth_56 (by decide) (fun c11 => absurd c11 (by decide)) (fun _ => ?_)
      refine lv_iconst (v := (-1)) hx hb dX10_worth_59 (by decide) ?_
      have hP9 := hP.sub (ws' := []) [] rfl
      have hD9 := hD.sub (ws' := []) [] (by decide) rfl
      have hK9 := hK.sub (tys' := []) [] rfl
      exact W.iret (v := (-1)) hx hb hr (fun t ht hW => ⟨⟨(-1), (), rfl, rfl, by rw [ht]; exact hP9, va_K.moved hW.alike hK9, hD9⟩, hS.F ht⟩) hS.2.2 dX10_worth_60
    · refine lv_iconst (v := 1) hx hb dX10_worth_29 (by decide) ?_
      refine lv_goto (tgt := 34) hx hb dX10_worth_30 (by decide) ?_
      refine lv_istore (lv' := [(5, .int 1), (4, .int 1), (0, .ref a0), (1, .int k1), (2, .int k2), (3, .int k3)]) hx hb dX10_worth_34 hl (by decide) rfl (fun ls hl => ?_)
      refine lv_aload_n hx hb dX10_worth_36 rfl (lv_at hl 2 rfl) ?_
      refine lv_iload hx hb dX10_worth_37 (lv_at hl 1 rfl) ?_
      refine lv_if_ne (tgt := 51) hx hb dX10_worth_39 (by decide) (fun _ => ?_) (fun c12 => absurd c12 (by decide))
      refine lv_iload hx hb dX10_worth_51 (lv_at hl 1 rfl) ?_
      refine cl_i (wc := [(a0, .inr (7, [.ref a4, g5, g6, g7, g8, g9, g10, g11, g12, g13]))]) (wr := [(a4, .inr (4, [g14, g15, g16, g17, g18, g19, .int 0, g20, g21, g22, g23, g24, g25, g26, g27, g28, g29, g30]))]) (va_runV (As := [.int 1]) (rest := []) ⟨hx, hb, hml, hown, hts⟩ (kX10_refused_3 l dC dI a0 (.ref a4) (g5) (g6) (g7) (g8) (g9) (g10) (g11) (g12) (g13) H.size) (cwV 1 hts gX10_worth_2 rfl rfl rfl (by decide +kernel) ⟨Nat.le_of_ble_eq_true rfl, Nat.le_of_ble_eq_true rfl⟩) (PV (hP.sub (ws' := [(a0, .inr (7, [.ref a4, g5, g6, g7, g8, g9, g10, g11, g12, g13]))]) [0] rfl) (hK.sub (tys' := []) [] rfl) (hD.sub (ws' := [(a0, .inr (7, [.ref a4, g5, g6, g7, g8, g9, g10, g11, g12, g13]))]) [0] (by decide) rfl) hN 0 rfl rfl) rfl rfl hl.1 rfl (lv_room (Nat.le_of_ble_eq_true rfl)) dX10_worth_53 ⟨Nat.le_of_ble_eq_true rfl, Nat.le_of_ble_eq_true rfl⟩) hP hD hK hS hA [0] [1] rfl rfl (by decide) (by decide) (fun z13 _u H locs hw hP hD hK hS => ?_)
      have hP : va_P (dC, dI) vwCl [(a4, .inr (4, [g14, g15, g16, g17, g18, g19, .int 0, g20, g21, g22, g23, g24, g25, g26, g27, g28, g29, g30])), (a0, .inr (7, [.ref a4, g5, g6, g7, g8, g9, g10, g11, .int 1, g13]))] H := hP
      have hD : va_D A [(a4, .inr (4, [g14, g15, g16, g17, g18, g19, .int 0, g20, g21, g22, g23, g24, g25, g26, g27, g28, g29, g30])), (a0, .inr (7, [.ref a4, g5, g6, g7, g8, g9, g10, g11, .int 1, g13]))] := hD
      have hK : va_K (dC, dI) vwCl [] s := hK
      obtain rfl : z13 = 1 := hw
      refine lv_if_eq (tgt := 61) hx hb dX10_worth_56 (by decide) (fun c14 => absurd c14 (by decide)) (fun _ => ?_)
      refine lv_iconst (v := (-1)) hx hb dX10_worth_59 (by decide) ?_
      have hP9 := hP.sub (ws' := []) [] rfl
      have hD9 := hD.sub (ws' := []) [] (by decide) rfl
      have hK9 := hK.sub (tys' := []) [] rfl
      exact W.iret (v := (-1)) hx hb hr (fun t ht hW => ⟨⟨(-1), (), rfl, rfl, by rw [ht]; exact hP9, va_K.moved hW.alike hK9, hD9⟩, hS.F ht⟩) hS.2.2 dX10_worth_60
theorem dX12_worth_0 : decode cX12_worth 0 = .ok (.aload_n 0, 1) := by decide +kernel
theorem dX12_worth_1 : decode cX12_worth 1 = .ok (.iconst 0, 1) := by decide +kernel
theorem dX12_worth_10 : decode cX12_worth 10 = .ok (.ifCond .ne 9, 3) := by decide +kernel
theorem dX12_worth_13 : decode cX12_worth 13 = .ok (.aload_n 0, 1) := by decide +kernel
theorem dX12_worth_14 : decode cX12_worth 14 = .ok (.iconst 1, 1) := by decide +kernel
theorem dX12_worth_15 : decode cX12_worth 15 = .ok (.invokevirtual 42, 3) := by decide +kernel
theorem dX12_worth_18 : decode cX12_worth 18 = .ok (.ireturn, 1) := by decide +kernel
theorem dX12_worth_2 : decode cX12_worth 2 = .ok (.putfield 36, 3) := by decide +kernel
theorem dX12_worth_5 : decode cX12_worth 5 = .ok (.aload_n 0, 1) := by decide +kernel
theorem dX12_worth_6 : decode cX12_worth 6 = .ok (.iload_n 1, 1) := by decide +kernel
theorem dX12_worth_7 : decode cX12_worth 7 = .ok (.invokevirtual 320, 3) := by decide +kernel
def vX12_worth : List Cond := .code yX12_worth cX12_worth 4 (some .int) :: ([.fieldLink RX12 36 "HookPierModel" "thrown" "I", .methodLink RX12 320 yX12_isAnswer, .instanceMethod yX12_isAnswer, .selects RX12 yX12_isAnswer yX12_isAnswer, .initialized RX12, .code yX12_isAnswer cX12_isAnswer 2 (some .boolean), .fieldLink RX12 299 "HookPierModel" "pier" "LHookPierModel$Pier;", .methodLink RX12 42 yX12_refused, .instanceMethod yX12_refused, .selects RX12 yX12_refused yX12_refused, .code yX12_refused cX12_refused 2 (some .int), .fieldLink RX12 39 "HookPierModel" "trouble" "I", .fieldLink RX12 9 "HookPierModel" "where" "I"] ++ wsX120)
theorem iX12_worth_X12 : ∀ w ∈ wsX120, w ∈ vX12_worth := fun _ h => List.mem_cons_of_mem _ (List.mem_append_right _ h)
set_option maxRecDepth 20000 in
theorem gX12_worth_0 : GoodIn vX12_worth (wsV RX12 320 RX12 yX12_isAnswer vX12_isAnswer) := goodIn_app (goodIn_r [.methodLink RX12 320 yX12_isAnswer, .instanceMethod yX12_isAnswer, .selects RX12 yX12_isAnswer yX12_isAnswer, .initialized RX12] [2, 3, 4, 5] (by decide +kernel) (by decide +kernel)) (goodIn_ca (goodIn_r (.code yX12_isAnswer cX12_isAnswer 2 (some .boolean) :: [.fieldLink RX12 299 "HookPierModel" "pier" "LHookPierModel$Pier;"]) [6, 7] (by decide +kernel) (by decide +kernel) : GoodIn vX12_worth (.code yX12_isAnswer cX12_isAnswer 2 (some .boolean) :: [.fieldLink RX12 299 "HookPierModel" "pier" "LHookPierModel$Pier;"])) (goodIn_sub iX12_worth_X12 (by decide +kernel)))
set_option maxRecDepth 20000 in
theorem gX12_worth_1 : GoodIn vX12_worth (wsV RX12 42 RX12 yX12_refused vX12_refused_1) := goodIn_app (goodIn_r [.methodLink RX12 42 yX12_refused, .instanceMethod yX12_refused, .selects RX12 yX12_refused yX12_refused, .initialized RX12] [8, 9, 10, 5] (by decide +kernel) (by decide +kernel)) (goodIn_ca (goodIn_r (.code yX12_refused cX12_refused 2 (some .int) :: [.fieldLink RX12 39 "HookPierModel" "trouble" "I", .fieldLink RX12 9 "HookPierModel" "where" "I"]) [11, 12, 13] (by decide +kernel) (by decide +kernel) : GoodIn vX12_worth (.code yX12_refused cX12_refused 2 (some .int) :: [.fieldLink RX12 39 "HookPierModel" "trouble" "I", .fieldLink RX12 9 "HookPierModel" "where" "I"])) (goodIn_sub iX12_worth_X12 (by decide +kernel)))
set_option maxHeartbeats 1000000 in
set_option maxRecDepth 100000 in
theorem kX12_worth (l : Launch) (dC : Nat → ClassId) (dI : Nat → Nat → Nat) (a0 : Nat) (k1 : Int32) (k2 : Int32) (k3 : Int32) (g4 : Value) (g5 : Value) (g6 : Value) (g7 : Value) (g8 : Value) (g9 : Value) (g10 : Value) (g11 : Value) (g12 : Value) (g13 : Value) (g14 : Value) (g15 : Value) (g16 : Value) (g17 : Value) (g18 : Value) (g19 : Value) (g20 : Value) (g21 : Value) (g22 : Value) (g23 : Value) (g24 : Value) (g25 : Value) (g26 : Value) (g27 : Value) (g28 : Value) (g29 : Value) (g30 : Value) (g31 : Value) (g32 : Value) (sz : Nat) : Met l yX12_worth vX12_worth ({ frames := 1, cells := 0, slots := 0, locals := 21 }) (PC (dC, dI) [.ref a0, .int k1, .int k2, .int k3] sz [(a0, .inr (9, [g4, g5, g6, .null, g7, g8, g9, g10, g11, g12, g13, g14, g15, g16, g17, g18, g19, g20, g21, g22, g23, g24, g25, g26, g27, g28, g29, g30, g31, g32]))] []) (va_Qi (S := Unit) (fun (r : Int32) _ => r = (-1)) (fun _ t => BC (dC, dI) (va_A [(a0, .inr (9, [g4, g5, g6, .null, g7, g8, g9, g10, g11, g12, g13, g14, g15, g16, g17, g18, g19, g20, g21, g22, g23, g24, g25, g26, g27, g28, g29, g30, g31, g32]))] sz) [] [] t) (va_A [(a0, .inr (9, [g4, g5, g6, .null, g7, g8, g9, g10, g11, g12, g13, g14, g15, g16, g17, g18, g19, g20, g21, g22, g23, g24, g25, g26, g27, g28, g29, g30, g31, g32]))] sz)) 0 0 (va_A [(a0, .inr (9, [g4, g5, g6, .null, g7, g8, g9, g10, g11, g12, g13, g14, g15, g16, g17, g18, g19, g20, g21, g22, g23, g24, g25, g26, g27, g28, g29, g30, g31, g32]))] sz) := by
  refine Met.ofW (cc := cX12_worth) (maxL := 4) (ret := (some .int)) (by decide) rfl ?_
  intro p e s m args below meth c s₁ B hml hv
  obtain ⟨rfl, hsz, hP, hK, hD0, hN⟩ := hv
  have hx := B.exec
  have hb := B.bytes
  have hr := B.returns
  have hts := atoms_spec (ws := vX12_worth) B.pre
  have hown : s.vm.findClass RX12 = some m.cls := findClass_of_methodNamed B.named
  have hlocks := B.notSynchronized
  subst hsz
  have hD := hD0.self (sz := s.heap.size)
  generalize hAe : va_A [(a0, .inr (9, [g4, g5, g6, .null, g7, g8, g9, g10, g11, g12, g13, g14, g15, g16, g17, g18, g19, g20, g21, g22, g23, g24, g25, g26, g27, g28, g29, g30, g31, g32]))] s.heap.size = A at hD ⊢
  have hA : ∀ q : Nat, s.heap.size ≤ q → A q := fun q h => by rw [← hAe]; exact Or.inr h
  have hS : va_S A s.heap s.heap [] := va_S.rf
  have hP : va_P (dC, dI) vwCl [(a0, .inr (9, [g4, g5, g6, .null, g7, g8, g9, g10, g11, g12, g13, g14, g15, g16, g17, g18, g19, g20, g21, g22, g23, g24, g25, g26, g27, g28, g29, g30, g31, g32]))] s.heap := hP
  have hl := lv_entry ([.ref a0, .int k1, .int k2, .int k3]) (n := 4) (Nat.le_of_ble_eq_true rfl)
  rw [lg_entry_eq]
  generalize (lg_sl ([.ref a0, .int k1, .int k2, .int k3]) ++ List.replicate (4 - (lg_sl ([.ref a0, .int k1, .int k2, .int k3])).length) Slot.unset).toArray = ls at hl ⊢
  have hl : lv_has ls 4 [(0, .ref a0), (1, .int k1), (2, .int k2), (3, .int k3)] := hl
  refine lv_aload_n hx hb dX12_worth_0 rfl (lv_at hl 0 rfl) ?_
  refine lv_iconst (v := 0) hx hb dX12_worth_1 (by decide) ?_
  refine va_put (D := (dC, dI)) (ci := 9) (v := .int 0) (ty := .int) (C := RX12) (T := TX12) (N := 30) hx hb hts iX12_worth_X12 tyX12 tyX12_ok nmX12 hown hK hP hD hS 0 rfl rfl 0 (by decide) (hts (.fieldLink RX12 36 "HookPierModel" "thrown" "I") (List.mem_of_getElem? (i := 1) rfl)) (fun _ h9 => h9) rfl (by decide +kernel) rfl rfl (Nat.le_of_ble_eq_true rfl) dX12_worth_2 (fun H locs hP hD hS => ?_)
  have hP : va_P (dC, dI) vwCl [(a0, .inr (9, [.int 0, g5, g6, .null, g7, g8, g9, g10, g11, g12, g13, g14, g15, g16, g17, g18, g19, g20, g21, g22, g23, g24, g25, g26, g27, g28, g29, g30, g31, g32]))] H := hP
  have hD : va_D A [(a0, .inr (9, [.int 0, g5, g6, .null, g7, g8, g9, g10, g11, g12, g13, g14, g15, g16, g17, g18, g19, g20, g21, g22, g23, g24, g25, g26, g27, g28, g29, g30, g31, g32]))] := hD
  refine lv_aload_n hx hb dX12_worth_5 rfl (lv_at hl 0 rfl) ?_
  refine lv_iload_n hx hb dX12_worth_6 rfl (lv_at hl 1 rfl) ?_
  refine cl_i (wc := [(a0, .inr (9, [.int 0, g5, g6, .null, g7, g8, g9, g10, g11, g12, g13, g14, g15, g16, g17, g18, g19, g20, g21, g22, g23, g24, g25, g26, g27, g28, g29, g30, g31, g32]))]) (wr := []) (va_runV (As := [.int k1]) (rest := []) ⟨hx, hb, hml, hown, hts⟩ (kX12_isAnswer l dC dI a0 k1 (.int 0) (g5) (g6) (g7) (g8) (g9) (g10) (g11) (g12) (g13) (g14) (g15) (g16) (g17) (g18) (g19) (g20) (g21) (g22) (g23) (g24) (g25) (g26) (g27) (g28) (g29) (g30) (g31) (g32) H.size) (cwV 1 hts gX12_worth_0 rfl rfl rfl (by decide +kernel) ⟨Nat.le_of_ble_eq_true rfl, Nat.le_of_ble_eq_true rfl⟩) (PV (hP.sub (ws' := [(a0, .inr (9, [.int 0, g5, g6, .null, g7, g8, g9, g10, g11, g12, g13, g14, g15, g16, g17, g18, g19, g20, g21, g22, g23, g24, g25, g26, g27, g28, g29, g30, g31, g32]))]) [0] rfl) (hK.sub (tys' := []) [] rfl) (hD.sub (ws' := [(a0, .inr (9, [.int 0, g5, g6, .null, g7, g8, g9, g10, g11, g12, g13, g14, g15, g16, g17, g18, g19, g20, g21, g22, g23, g24, g25, g26, g27, g28, g29, g30, g31, g32]))]) [0] (by decide) rfl) hN 0 rfl rfl) rfl rfl hl.1 rfl (lv_room (Nat.le_of_ble_eq_true rfl)) dX12_worth_7 ⟨Nat.le_of_ble_eq_true rfl, Nat.le_of_ble_eq_true rfl⟩) hP hD hK hS hA [0] [] rfl rfl (by decide) (by decide) (fun z1 _u H locs hw hP hD hK hS => ?_)
  have hP : va_P (dC, dI) vwCl [(a0, .inr (9, [.int 0, g5, g6, .null, g7, g8, g9, g10, g11, g12, g13, g14, g15, g16, g17, g18, g19, g20, g21, g22, g23, g24, g25, g26, g27, g28, g29, g30, g31, g32]))] H := hP
  have hD : va_D A [(a0, .inr (9, [.int 0, g5, g6, .null, g7, g8, g9, g10, g11, g12, g13, g14, g15, g16, g17, g18, g19, g20, g21, g22, g23, g24, g25, g26, g27, g28, g29, g30, g31, g32]))] := hD
  have hK : va_K (dC, dI) vwCl [] s := hK
  obtain rfl : z1 = 0 := hw
  refine lv_if_ne (tgt := 19) hx hb dX12_worth_10 (by decide) (fun c2 => absurd c2 (by decide)) (fun _ => ?_)
  refine lv_aload_n hx hb dX12_worth_13 rfl (lv_at hl 0 rfl) ?_
  refine lv_iconst (v := 1) hx hb dX12_worth_14 (by decide) ?_
  refine cl_i (wc := [(a0, .inr (9, [.int 0, g5, g6, .null, g7, g8, g9, g10, g11, g12, g13, g14, g15, g16, g17, g18, g19, g20, g21, g22, g23, g24, g25, g26, g27, g28, g29, g30, g31, g32]))]) (wr := []) (va_runV (As := [.int 1]) (rest := []) ⟨hx, hb, hml, hown, hts⟩ (kX12_refused_1 l dC dI a0 (.int 0) (g5) (g6) (.null) (g7) (g8) (g9) (g10) (g11) (g12) (g13) (g14) (g15) (g16) (g17) (g18) (g19) (g20) (g21) (g22) (g23) (g24) (g25) (g26) (g27) (g28) (g29) (g30) (g31) (g32) H.size) (cwV 1 hts gX12_worth_1 rfl rfl rfl (by decide +kernel) ⟨Nat.le_of_ble_eq_true rfl, Nat.le_of_ble_eq_true rfl⟩) (PV (hP.sub (ws' := [(a0, .inr (9, [.int 0, g5, g6, .null, g7, g8, g9, g10, g11, g12, g13, g14, g15, g16, g17, g18, g19, g20, g21, g22, g23, g24, g25, g26, g27, g28, g29, g30, g31, g32]))]) [0] rfl) (hK.sub (tys' := []) [] rfl) (hD.sub (ws' := [(a0, .inr (9, [.int 0, g5, g6, .null, g7, g8, g9, g10, g11, g12, g13, g14, g15, g16, g17, g18, g19, g20, g21, g22, g23, g24, g25, g26, g27, g28, g29, g30, g31, g32]))]) [0] (by decide) rfl) hN 0 rfl rfl) rfl rfl hl.1 rfl (lv_room (Nat.le_of_ble_eq_true rfl)) dX12_worth_15 ⟨Nat.le_of_ble_eq_true rfl, Nat.le_of_ble_eq_true rfl⟩) hP hD hK hS hA [0] [] rfl rfl (by decide) (by decide) (fun z3 _u H locs hw hP hD hK hS => ?_)
  have hP : va_P (dC, dI) vwCl [(a0, .inr (9, [.int 0, .int 1, .int (-1), .null, g7, g8, g9, g10, g11, g12, g13, g14, g15, g16, g17, g18, g19, g20, g21, g22, g23, g24, g25, g26, g27, g28, g29, g30, g31, g32]))] H := hP
  have hD : va_D A [(a0, .inr (9, [.int 0, .int 1, .int (-1), .null, g7, g8, g9, g10, g11, g12, g13, g14, g15, g16, g17, g18, g19, g20, g21, g22, g23, g24, g25, g26, g27, g28, g29, g30, g31, g32]))] := hD
  have hK : va_K (dC, dI) vwCl [] s := hK
  obtain rfl : z3 = (-1) := hw
  have hP9 := hP.sub (ws' := []) [] rfl
  have hD9 := hD.sub (ws' := []) [] (by decide) rfl
  have hK9 := hK.sub (tys' := []) [] rfl
  exact W.iret (v := (-1)) hx hb hr (fun t ht hW => ⟨⟨(-1), (), rfl, rfl, by rw [ht]; exact hP9, va_K.moved hW.alike hK9, hD9⟩, hS.F ht⟩) hS.2.2 dX12_worth_18
def vX10_within_6 : List Cond := .code yX10_within cX10_within 3 (some .boolean) :: ([])
set_option maxHeartbeats 1000000 in
set_option maxRecDepth 100000 in
theorem kX10_within_6 (l : Launch) (dC : Nat → ClassId) (dI : Nat → Nat → Nat) (k0 : Int32) (sz : Nat) : Met l yX10_within vX10_within_6 ({ frames := 0, cells := 0, slots := 0, locals := 0 }) (PC (dC, dI) [.int k0, .int 0, .int 6] sz [] []) (va_Qi (S := Unit) (fun (r : Int32) _ => True) (fun _ t => BC (dC, dI) (va_A [] sz) [] [] t) (va_A [] sz)) 0 0 (va_A [] sz) := by
  refine Met.ofW (cc := cX10_within) (maxL := 3) (ret := (some .boolean)) (by decide) rfl ?_
  intro p e s m args below meth c s₁ B hml hv
  obtain ⟨rfl, hsz, hP, hK, hD0, hN⟩ := hv
  have hx := B.exec
  have hb := B.bytes
  have hr := B.returns
  have hts := atoms_spec (ws := vX10_within_6) B.pre
  have hown : s.vm.findClass RX10 = some m.cls := findClass_of_methodNamed B.named
  have hlocks := B.notSynchronized
  subst hsz
  have hD := hD0.self (sz := s.heap.size)
  generalize hAe : va_A [] s.heap.size = A at hD ⊢
  have hA : ∀ q : Nat, s.heap.size ≤ q → A q := fun q h => by rw [← hAe]; exact Or.inr h
  have hS : va_S A s.heap s.heap [] := va_S.rf
  have hP : va_P (dC, dI) vwCl [] s.heap := hP
  have hl := lv_entry ([.int k0, .int 0, .int 6]) (n := 3) (Nat.le_of_ble_eq_true rfl)
  rw [lg_entry_eq]
  generalize (lg_sl ([.int k0, .int 0, .int 6]) ++ List.replicate (3 - (lg_sl ([.int k0, .int 0, .int 6])).length) Slot.unset).toArray = ls at hl ⊢
  have hl : lv_has ls 3 [(0, .int k0), (1, .int 0), (2, .int 6)] := hl
  refine lv_iload_n hx hb dX10_within_0 rfl (lv_at hl 0 rfl) ?_
  refine lv_iload_n hx hb dX10_within_1 rfl (lv_at hl 1 rfl) ?_
  refine lv_icmp_lt (tgt := 14) hx hb dX10_within_2 (by decide) (fun c1 => ?_) (fun c1 => ?_)
  · refine lv_iconst (v := 0) hx hb dX10_within_14 (by decide) ?_
    have hP9 := hP.sub (ws' := []) [] rfl
    have hD9 := hD.sub (ws' := []) [] (by decide) rfl
    have hK9 := hK.sub (tys' := []) [] rfl
    exact W.zret (v := 0) hx hb hr rfl (fun t ht hW => ⟨⟨0, (), rfl, trivial, by rw [ht]; exact hP9, va_K.moved hW.alike hK9, hD9⟩, hS.F ht⟩) hS.2.2 dX10_within_15
  · refine lv_iload_n hx hb dX10_within_5 rfl (lv_at hl 0 rfl) ?_
    refine lv_iload_n hx hb dX10_within_6 rfl (lv_at hl 2 rfl) ?_
    refine lv_icmp_gt (tgt := 14) hx hb dX10_within_7 (by decide) (fun c2 => ?_) (fun c2 => ?_)
    · refine lv_iconst (v := 0) hx hb dX10_within_14 (by decide) ?_
      have hP9 := hP.sub (ws' := []) [] rfl
      have hD9 := hD.sub (ws' := []) [] (by decide) rfl
      have hK9 := hK.sub (tys' := []) [] rfl
      exact W.zret (v := 0) hx hb hr rfl (fun t ht hW => ⟨⟨0, (), rfl, trivial, by rw [ht]; exact hP9, va_K.moved hW.alike hK9, hD9⟩, hS.F ht⟩) hS.2.2 dX10_within_15
    · refine lv_iconst (v := 1) hx hb dX10_within_10 (by decide) ?_
      refine lv_goto (tgt := 15) hx hb dX10_within_11 (by decide) ?_
      have hP9 := hP.sub (ws' := []) [] rfl
      have hD9 := hD.sub (ws' := []) [] (by decide) rfl
      have hK9 := hK.sub (tys' := []) [] rfl
      exact W.zret (v := 1) hx hb hr rfl (fun t ht hW => ⟨⟨1, (), rfl, trivial, by rw [ht]; exact hP9, va_K.moved hW.alike hK9, hD9⟩, hS.F ht⟩) hS.2.2 dX10_within_15
theorem dX10_load_0 : decode cX10_load 0 = .ok (.aload_n 0, 1) := by decide +kernel
theorem dX10_load_1 : decode cX10_load 1 = .ok (.aload_n 0, 1) := by decide +kernel
theorem dX10_load_12 : decode cX10_load 12 = .ok (.invokevirtual 79, 3) := by decide +kernel
theorem dX10_load_15 : decode cX10_load 15 = .ok (.ifCond .eq 5, 3) := by decide +kernel
theorem dX10_load_18 : decode cX10_load 18 = .ok (.iconst (-1), 1) := by decide +kernel
theorem dX10_load_19 : decode cX10_load 19 = .ok (.ireturn, 1) := by decide +kernel
theorem dX10_load_2 : decode cX10_load 2 = .ok (.iload_n 1, 1) := by decide +kernel
theorem dX10_load_3 : decode cX10_load 3 = .ok (.iconst 0, 1) := by decide +kernel
theorem dX10_load_4 : decode cX10_load 4 = .ok (.bipush 6, 2) := by decide +kernel
theorem dX10_load_6 : decode cX10_load 6 = .ok (.invokestatic 75, 3) := by decide +kernel
theorem dX10_load_9 : decode cX10_load 9 = .ok (.invokevirtual 169, 3) := by decide +kernel
def vX10_load : List Cond := .code yX10_load cX10_load 2 (some .int) :: ([.methodLink RX10 75 yX10_within, .static yX10_within, .initialized RX10, .code yX10_within cX10_within 3 (some .boolean), .methodLink RX10 169 yX10_numberTrouble, .instanceMethod yX10_numberTrouble, .selects RX10 yX10_numberTrouble yX10_numberTrouble, .code yX10_numberTrouble cX10_numberTrouble 3 (some .int), .methodLink RX10 216 yX10_pierTrouble, .instanceMethod yX10_pierTrouble, .selects RX10 yX10_pierTrouble yX10_pierTrouble, .code yX10_pierTrouble cX10_pierTrouble 1 (some .int), .fieldLink RX10 10 "HookPier" "plan" "LHookPier$Plan;", .fieldLink RX10 233 "HookPier$Plan" "spots" "I", .methodLink RX10 79 yX10_refused, .instanceMethod yX10_refused, .selects RX10 yX10_refused yX10_refused, .code yX10_refused cX10_refused 2 (some .boolean), .fieldLink RX10 61 "HookPier" "troubleNow" "I"] ++ wsX100 ++ wsX60)
theorem iX10_load_X10 : ∀ w ∈ wsX100, w ∈ vX10_load := fun _ h => List.mem_cons_of_mem _ (List.mem_append_left _ (List.mem_append_right _ h))
theorem iX10_load_X6 : ∀ w ∈ wsX60, w ∈ vX10_load := fun _ h => List.mem_cons_of_mem _ (List.mem_append_right _ h)
set_option maxRecDepth 20000 in
theorem gX10_load_0 : GoodIn vX10_load (va_wsS RX10 75 yX10_within vX10_within_6) := goodIn_app (goodIn_r [.methodLink RX10 75 yX10_within, .static yX10_within, .initialized RX10] [1, 2, 3] (by decide +kernel) (by decide +kernel)) (goodIn_r (.code yX10_within cX10_within 3 (some .boolean) :: []) [4] (by decide +kernel) (by decide +kernel) : GoodIn vX10_load (.code yX10_within cX10_within 3 (some .boolean) :: []))
set_option maxRecDepth 20000 in
theorem gX10_load_1 : GoodIn vX10_load (wsV RX10 169 RX10 yX10_numberTrouble vX10_numberTrouble) := goodIn_app (goodIn_r [.methodLink RX10 169 yX10_numberTrouble, .instanceMethod yX10_numberTrouble, .selects RX10 yX10_numberTrouble yX10_numberTrouble, .initialized RX10] [5, 6, 7, 3] (by decide +kernel) (by decide +kernel)) (goodIn_ca (goodIn_ca (goodIn_r (.code yX10_numberTrouble cX10_numberTrouble 3 (some .int) :: [.methodLink RX10 216 yX10_pierTrouble, .instanceMethod yX10_pierTrouble, .selects RX10 yX10_pierTrouble yX10_pierTrouble, .initialized RX10, .code yX10_pierTrouble cX10_pierTrouble 1 (some .int), .fieldLink RX10 10 "HookPier" "plan" "LHookPier$Plan;", .fieldLink RX10 233 "HookPier$Plan" "spots" "I"]) [8, 9, 10, 11, 3, 12, 13, 14] (by decide +kernel) (by decide +kernel) : GoodIn vX10_load (.code yX10_numberTrouble cX10_numberTrouble 3 (some .int) :: [.methodLink RX10 216 yX10_pierTrouble, .instanceMethod yX10_pierTrouble, .selects RX10 yX10_pierTrouble yX10_pierTrouble, .initialized RX10, .code yX10_pierTrouble cX10_pierTrouble 1 (some .int), .fieldLink RX10 10 "HookPier" "plan" "LHookPier$Plan;", .fieldLink RX10 233 "HookPier$Plan" "spots" "I"])) (goodIn_sub iX10_load_X10 (by decide +kernel))) (goodIn_sub iX10_load_X6 (by decide +kernel)))
set_option maxRecDepth 20000 in
theorem gX10_load_2 : GoodIn vX10_load (wsV RX10 79 RX10 yX10_refused vX10_refused_3) := goodIn_app (goodIn_r [.methodLink RX10 79 yX10_refused, .instanceMethod yX10_refused, .selects RX10 yX10_refused yX10_refused, .initialized RX10] [15, 16, 17, 3] (by decide +kernel) (by decide +kernel)) (goodIn_ca (goodIn_r (.code yX10_refused cX10_refused 2 (some .boolean) :: [.fieldLink RX10 61 "HookPier" "troubleNow" "I"]) [18, 19] (by decide +kernel) (by decide +kernel) : GoodIn vX10_load (.code yX10_refused cX10_refused 2 (some .boolean) :: [.fieldLink RX10 61 "HookPier" "troubleNow" "I"])) (goodIn_sub iX10_load_X10 (by decide +kernel)))
set_option maxHeartbeats 1000000 in
set_option maxRecDepth 100000 in
theorem kX10_load (l : Launch) (dC : Nat → ClassId) (dI : Nat → Nat → Nat) (a0 : Nat) (k1 : Int32) (a2 : Nat) (g3 : Value) (g4 : Value) (g5 : Value) (g6 : Value) (g7 : Value) (g8 : Value) (g9 : Value) (g10 : Value) (g11 : Value) (g12 : Value) (g13 : Value) (g14 : Value) (g15 : Value) (g16 : Value) (g17 : Value) (g18 : Value) (g19 : Value) (g20 : Value) (g21 : Value) (g22 : Value) (g23 : Value) (g24 : Value) (g25 : Value) (g26 : Value) (g27 : Value) (g28 : Value) (sz : Nat) : Met l yX10_load vX10_load ({ frames := 2, cells := 0, slots := 0, locals := 42 }) (PC (dC, dI) [.ref a0, .int k1] sz [(a0, .inr (7, [.ref a2, g3, g4, g5, g6, g7, g8, g9, g10, g11])), (a2, .inr (4, [.int 0, g12, g13, g14, g15, g16, g17, g18, g19, g20, g21, g22, g23, g24, g25, g26, g27, g28]))] []) (va_Qi (S := Unit) (fun (r : Int32) _ => r = (-1)) (fun _ t => BC (dC, dI) (va_A [(a0, .inr (7, [.ref a2, g3, g4, g5, g6, g7, g8, g9, g10, g11])), (a2, .inr (4, [.int 0, g12, g13, g14, g15, g16, g17, g18, g19, g20, g21, g22, g23, g24, g25, g26, g27, g28]))] sz) [] [] t) (va_A [(a0, .inr (7, [.ref a2, g3, g4, g5, g6, g7, g8, g9, g10, g11])), (a2, .inr (4, [.int 0, g12, g13, g14, g15, g16, g17, g18, g19, g20, g21, g22, g23, g24, g25, g26, g27, g28]))] sz)) 0 0 (va_A [(a0, .inr (7, [.ref a2, g3, g4, g5, g6, g7, g8, g9, g10, g11])), (a2, .inr (4, [.int 0, g12, g13, g14, g15, g16, g17, g18, g19, g20, g21, g22, g23, g24, g25, g26, g27, g28]))] sz) := by
  refine Met.ofW (cc := cX10_load) (maxL := 2) (ret := (some .int)) (by decide) rfl ?_
  intro p e s m args below meth c s₁ B hml hv
  obtain ⟨rfl, hsz, hP, hK, hD0, hN⟩ := hv
  have hx := B.exec
  have hb := B.bytes
  have hr := B.returns
  have hts := atoms_spec (ws := vX10_load) B.pre
  have hown : s.vm.findClass RX10 = some m.cls := findClass_of_methodNamed B.named
  have hlocks := B.notSynchronized
  subst hsz
  have hD := hD0.self (sz := s.heap.size)
  generalize hAe : va_A [(a0, .inr (7, [.ref a2, g3, g4, g5, g6, g7, g8, g9, g10, g11])), (a2, .inr (4, [.int 0, g12, g13, g14, g15, g16, g17, g18, g19, g20, g21, g22, g23, g24, g25, g26, g27, g28]))] s.heap.size = A at hD ⊢
  have hA : ∀ q : Nat, s.heap.size ≤ q → A q := fun q h => by rw [← hAe]; exact Or.inr h
  have hS : va_S A s.heap s.heap [] := va_S.rf
  have hP : va_P (dC, dI) vwCl [(a0, .inr (7, [.ref a2, g3, g4, g5, g6, g7, g8, g9, g10, g11])), (a2, .inr (4, [.int 0, g12, g13, g14, g15, g16, g17, g18, g19, g20, g21, g22, g23, g24, g25, g26, g27, g28]))] s.heap := hP
  have hl := lv_entry ([.ref a0, .int k1]) (n := 2) (Nat.le_of_ble_eq_true rfl)
  rw [lg_entry_eq]
  generalize (lg_sl ([.ref a0, .int k1]) ++ List.replicate (2 - (lg_sl ([.ref a0, .int k1])).length) Slot.unset).toArray = ls at hl ⊢
  have hl : lv_has ls 2 [(0, .ref a0), (1, .int k1)] := hl
  refine lv_aload_n hx hb dX10_load_0 rfl (lv_at hl 0 rfl) ?_
  refine lv_aload_n hx hb dX10_load_1 rfl (lv_at hl 0 rfl) ?_
  refine lv_iload_n hx hb dX10_load_2 rfl (lv_at hl 1 rfl) ?_
  refine lv_iconst (v := 0) hx hb dX10_load_3 (by decide) ?_
  refine lv_bipush (v := 6) hx hb dX10_load_4 (by decide) ?_
  refine cl_i (wc := []) (wr := [(a0, .inr (7, [.ref a2, g3, g4, g5, g6, g7, g8, g9, g10, g11])), (a2, .inr (4, [.int 0, g12, g13, g14, g15, g16, g17, g18, g19, g20, g21, g22, g23, g24, g25, g26, g27, g28]))]) (va_runS (As := [.int k1, .int 0, .int 6]) (rest := [.ref a0, .ref a0]) ⟨hx, hb, hml, hown, hts⟩ (kX10_within_6 l dC dI k1 s.heap.size) (va_cwS 3 hts gX10_load_0 rfl rfl rfl (by decide +kernel) ⟨Nat.le_of_ble_eq_true rfl, Nat.le_of_ble_eq_true rfl⟩) (PS (hP.sub (ws' := []) [] rfl) (hK.sub (tys' := []) [] rfl) (hD.sub (ws' := []) [] (by decide) rfl) hN) rfl rfl hl.1 rfl (lv_room (Nat.le_of_ble_eq_true rfl)) dX10_load_6 ⟨Nat.le_of_ble_eq_true rfl, Nat.le_of_ble_eq_true rfl⟩) hP hD hK hS hA [] [0, 1] rfl rfl (by decide) (by decide) (fun z1 _u H locs hw hP hD hK hS => ?_)
  have hP : va_P (dC, dI) vwCl [(a0, .inr (7, [.ref a2, g3, g4, g5, g6, g7, g8, g9, g10, g11])), (a2, .inr (4, [.int 0, g12, g13, g14, g15, g16, g17, g18, g19, g20, g21, g22, g23, g24, g25, g26, g27, g28]))] H := hP
  have hD : va_D A [(a0, .inr (7, [.ref a2, g3, g4, g5, g6, g7, g8, g9, g10, g11])), (a2, .inr (4, [.int 0, g12, g13, g14, g15, g16, g17, g18, g19, g20, g21, g22, g23, g24, g25, g26, g27, g28]))] := hD
  have hK : va_K (dC, dI) vwCl [] s := hK
  refine cl_i (wc := [(a0, .inr (7, [.ref a2, g3, g4, g5, g6, g7, g8, g9, g10, g11])), (a2, .inr (4, [.int 0, g12, g13, g14, g15, g16, g17, g18, g19, g20, g21, g22, g23, g24, g25, g26, g27, g28]))]) (wr := []) (va_runV (As := [.int z1]) (rest := [.ref a0]) ⟨hx, hb, hml, hown, hts⟩ (kX10_numberTrouble l dC dI a0 z1 a2 (g3) (g4) (g5) (g6) (g7) (g8) (g9) (g10) (g11) (g12) (g13) (g14) (g15) (g16) (g17) (g18) (g19) (g20) (g21) (g22) (g23) (g24) (g25) (g26) (g27) (g28) H.size) (cwV 1 hts gX10_load_1 rfl rfl rfl (by decide +kernel) ⟨Nat.le_of_ble_eq_true rfl, Nat.le_of_ble_eq_true rfl⟩) (PV (hP.sub (ws' := [(a0, .inr (7, [.ref a2, g3, g4, g5, g6, g7, g8, g9, g10, g11])), (a2, .inr (4, [.int 0, g12, g13, g14, g15, g16, g17, g18, g19, g20, g21, g22, g23, g24, g25, g26, g27, g28]))]) [0, 1] rfl) (hK.sub (tys' := []) [] rfl) (hD.sub (ws' := [(a0, .inr (7, [.ref a2, g3, g4, g5, g6, g7, g8, g9, g10, g11])), (a2, .inr (4, [.int 0, g12, g13, g14, g15, g16, g17, g18, g19, g20, g21, g22, g23, g24, g25, g26, g27, g28]))]) [0, 1] (by decide) rfl) hN 0 rfl rfl) rfl rfl hl.1 rfl (lv_room (Nat.le_of_ble_eq_true rfl)) dX10_load_9 ⟨Nat.le_of_ble_eq_true rfl, Nat.le_of_ble_eq_true rfl⟩) hP hD hK hS hA [0, 1] [] rfl rfl (by decide) (by decide) (fun z2 _u H locs hw hP hD hK hS => ?_)
  have hP : va_P (dC, dI) vwCl [(a0, .inr (7, [.ref a2, g3, g4, g5, g6, g7, g8, g9, g10, g11])), (a2, .inr (4, [.int 0, g12, g13, g14, g15, g16, g17, g18, g19, g20, g21, g22, g23, g24, g25, g26, g27, g28]))] H := hP
  have hD : va_D A [(a0, .inr (7, [.ref a2, g3, g4, g5, g6, g7, g8, g9, g10, g11])), (a2, .inr (4, [.int 0, g12, g13, g14, g15, g16, g17, g18, g19, g20, g21, g22, g23, g24, g25, g26, g27, g28]))] := hD
  have hK : va_K (dC, dI) vwCl [] s := hK
  obtain rfl : z2 = 1 := hw
  refine cl_i (wc := [(a0, .inr (7, [.ref a2, g3, g4, g5, g6, g7, g8, g9, g10, g11]))]) (wr := [(a2, .inr (4, [.int 0, g12, g13, g14, g15, g16, g17, g18, g19, g20, g21, g22, g23, g24, g25, g26, g27, g28]))]) (va_runV (As := [.int 1]) (rest := []) ⟨hx, hb, hml, hown, hts⟩ (kX10_refused_3 l dC dI a0 (.ref a2) (g3) (g4) (g5) (g6) (g7) (g8) (g9) (g10) (g11) H.size) (cwV 1 hts gX10_load_2 rfl rfl rfl (by decide +kernel) ⟨Nat.le_of_ble_eq_true rfl, Nat.le_of_ble_eq_true rfl⟩) (PV (hP.sub (ws' := [(a0, .inr (7, [.ref a2, g3, g4, g5, g6, g7, g8, g9, g10, g11]))]) [0] rfl) (hK.sub (tys' := []) [] rfl) (hD.sub (ws' := [(a0, .inr (7, [.ref a2, g3, g4, g5, g6, g7, g8, g9, g10, g11]))]) [0] (by decide) rfl) hN 0 rfl rfl) rfl rfl hl.1 rfl (lv_room (Nat.le_of_ble_eq_true rfl)) dX10_load_12 ⟨Nat.le_of_ble_eq_true rfl, Nat.le_of_ble_eq_true rfl⟩) hP hD hK hS hA [0] [1] rfl rfl (by decide) (by decide) (fun z3 _u H locs hw hP hD hK hS => ?_)
  have hP : va_P (dC, dI) vwCl [(a2, .inr (4, [.int 0, g12, g13, g14, g15, g16, g17, g18, g19, g20, g21, g22, g23, g24, g25, g26, g27, g28])), (a0, .inr (7, [.ref a2, g3, g4, g5, g6, g7, g8, g9, .int 1, g11]))] H := hP
  have hD : va_D A [(a2, .inr (4, [.int 0, g12, g13, g14, g15, g16, g17, g18, g19, g20, g21, g22, g23, g24, g25, g26, g27, g28])), (a0, .inr (7, [.ref a2, g3, g4, g5, g6, g7, g8, g9, .int 1, g11]))] := hD
  have hK : va_K (dC, dI) vwCl [] s := hK
  obtain rfl : z3 = 1 := hw
  refine lv_if_eq (tgt := 20) hx hb dX10_load_15 (by decide) (fun c4 => absurd c4 (by decide)) (fun _ => ?_)
  refine lv_iconst (v := (-1)) hx hb dX10_load_18 (by decide) ?_
  have hP9 := hP.sub (ws' := []) [] rfl
  have hD9 := hD.sub (ws' := []) [] (by decide) rfl
  have hK9 := hK.sub (tys' := []) [] rfl
  exact W.iret (v := (-1)) hx hb hr (fun t ht hW => ⟨⟨(-1), (), rfl, rfl, by rw [ht]; exact hP9, va_K.moved hW.alike hK9, hD9⟩, hS.F ht⟩) hS.2.2 dX10_load_19
theorem dX12_refusesLoad_0 : decode cX12_refusesLoad 0 = .ok (.aload_n 0, 1) := by decide +kernel
theorem dX12_refusesLoad_1 : decode cX12_refusesLoad 1 = .ok (.getfield 299, 3) := by decide +kernel
theorem dX12_refusesLoad_26 : decode cX12_refusesLoad 26 = .ok (.ireturn, 1) := by decide +kernel
theorem dX12_refusesLoad_4 : decode cX12_refusesLoad 4 = .ok (.ifnonnull 7, 3) := by decide +kernel
theorem dX12_refusesLoad_7 : decode cX12_refusesLoad 7 = .ok (.iconst 1, 1) := by decide +kernel
theorem dX12_refusesLoad_8 : decode cX12_refusesLoad 8 = .ok (.goto 18, 3) := by decide +kernel
def vX12_refusesLoad : List Cond := .code yX12_refusesLoad cX12_refusesLoad 2 (some .int) :: ([.fieldLink RX12 299 "HookPierModel" "pier" "LHookPierModel$Pier;"] ++ wsX120)
theorem iX12_refusesLoad_X12 : ∀ w ∈ wsX120, w ∈ vX12_refusesLoad := fun _ h => List.mem_cons_of_mem _ (List.mem_append_right _ h)
set_option maxHeartbeats 1000000 in
set_option maxRecDepth 100000 in
theorem kX12_refusesLoad (l : Launch) (dC : Nat → ClassId) (dI : Nat → Nat → Nat) (a0 : Nat) (k1 : Int32) (g2 : Value) (g3 : Value) (g4 : Value) (g5 : Value) (g6 : Value) (g7 : Value) (g8 : Value) (g9 : Value) (g10 : Value) (g11 : Value) (g12 : Value) (g13 : Value) (g14 : Value) (g15 : Value) (g16 : Value) (g17 : Value) (g18 : Value) (g19 : Value) (g20 : Value) (g21 : Value) (g22 : Value) (g23 : Value) (g24 : Value) (g25 : Value) (g26 : Value) (g27 : Value) (g28 : Value) (g29 : Value) (g30 : Value) (sz : Nat) : Met l yX12_refusesLoad vX12_refusesLoad ({ frames := 0, cells := 0, slots := 0, locals := 0 }) (PC (dC, dI) [.ref a0, .int k1] sz [(a0, .inr (9, [g2, g3, g4, .null, g5, g6, g7, g8, g9, g10, g11, g12, g13, g14, g15, g16, g17, g18, g19, g20, g21, g22, g23, g24, g25, g26, g27, g28, g29, g30]))] []) (va_Qi (S := Unit) (fun (r : Int32) _ => r = 1) (fun _ t => BC (dC, dI) (va_A [(a0, .inr (9, [g2, g3, g4, .null, g5, g6, g7, g8, g9, g10, g11, g12, g13, g14, g15, g16, g17, g18, g19, g20, g21, g22, g23, g24, g25, g26, g27, g28, g29, g30]))] sz) [(a0, .inr (9, [g2, g3, g4, .null, g5, g6, g7, g8, g9, g10, g11, g12, g13, g14, g15, g16, g17, g18, g19, g20, g21, g22, g23, g24, g25, g26, g27, g28, g29, g30]))] [] t) (va_A [(a0, .inr (9, [g2, g3, g4, .null, g5, g6, g7, g8, g9, g10, g11, g12, g13, g14, g15, g16, g17, g18, g19, g20, g21, g22, g23, g24, g25, g26, g27, g28, g29, g30]))] sz)) 0 0 (va_A [(a0, .inr (9, [g2, g3, g4, .null, g5, g6, g7, g8, g9, g10, g11, g12, g13, g14, g15, g16, g17, g18, g19, g20, g21, g22, g23, g24, g25, g26, g27, g28, g29, g30]))] sz) := by
  refine Met.ofW (cc := cX12_refusesLoad) (maxL := 2) (ret := (some .int)) (by decide) rfl ?_
  intro p e s m args below meth c s₁ B hml hv
  obtain ⟨rfl, hsz, hP, hK, hD0, hN⟩ := hv
  have hx := B.exec
  have hb := B.bytes
  have hr := B.returns
  have hts := atoms_spec (ws := vX12_refusesLoad) B.pre
  have hown : s.vm.findClass RX12 = some m.cls := findClass_of_methodNamed B.named
  have hlocks := B.notSynchronized
  subst hsz
  have hD := hD0.self (sz := s.heap.size)
  generalize hAe : va_A [(a0, .inr (9, [g2, g3, g4, .null, g5, g6, g7, g8, g9, g10, g11, g12, g13, g14, g15, g16, g17, g18, g19, g20, g21, g22, g23, g24, g25, g26, g27, g28, g29, g30]))] s.heap.size = A at hD ⊢
  have hA : ∀ q : Nat, s.heap.size ≤ q → A q := fun q h => by rw [← hAe]; exact Or.inr h
  have hS : va_S A s.heap s.heap [] := va_S.rf
  have hP : va_P (dC, dI) vwCl [(a0, .inr (9, [g2, g3, g4, .null, g5, g6, g7, g8, g9, g10, g11, g12, g13, g14, g15, g16, g17, g18, g19, g20, g21, g22, g23, g24, g25, g26, g27, g28, g29, g30]))] s.heap := hP
  have hl := lv_entry ([.ref a0, .int k1]) (n := 2) (Nat.le_of_ble_eq_true rfl)
  rw [lg_entry_eq]
  generalize (lg_sl ([.ref a0, .int k1]) ++ List.replicate (2 - (lg_sl ([.ref a0, .int k1])).length) Slot.unset).toArray = ls at hl ⊢
  have hl : lv_has ls 2 [(0, .ref a0), (1, .int k1)] := hl
  refine lv_aload_n hx hb dX12_refusesLoad_0 rfl (lv_at hl 0 rfl) ?_
  refine va_get (D := (dC, dI)) (ci := 9) (v := .null) (C := RX12) (T := TX12) (N := 30) hx hb hts iX12_refusesLoad_X12 hown hK hP 0 rfl rfl 3 (by decide) (hts (.fieldLink RX12 299 "HookPierModel" "pier" "LHookPierModel$Pier;") (List.mem_of_getElem? (i := 1) rfl)) (fun _ h9 => h9) rfl dX12_refusesLoad_1 ?_
  refine lv_ifnonnullN hx hb dX12_refusesLoad_4 ?_
  refine lv_iconst (v := 1) hx hb dX12_refusesLoad_7 (by decide) ?_
  refine lv_goto (tgt := 26) hx hb dX12_refusesLoad_8 (by decide) ?_
  have hP9 := hP.sub (ws' := [(a0, .inr (9, [g2, g3, g4, .null, g5, g6, g7, g8, g9, g10, g11, g12, g13, g14, g15, g16, g17, g18, g19, g20, g21, g22, g23, g24, g25, g26, g27, g28, g29, g30]))]) [0] rfl
  have hD9 := hD.sub (ws' := [(a0, .inr (9, [g2, g3, g4, .null, g5, g6, g7, g8, g9, g10, g11, g12, g13, g14, g15, g16, g17, g18, g19, g20, g21, g22, g23, g24, g25, g26, g27, g28, g29, g30]))]) [0] (by decide) rfl
  have hK9 := hK.sub (tys' := []) [] rfl
  exact W.iret (v := 1) hx hb hr (fun t ht hW => ⟨⟨1, (), rfl, rfl, by rw [ht]; exact hP9, va_K.moved hW.alike hK9, hD9⟩, hS.F ht⟩) hS.2.2 dX12_refusesLoad_26
theorem dX12_load_0 : decode cX12_load 0 = .ok (.aload_n 0, 1) := by decide +kernel
theorem dX12_load_1 : decode cX12_load 1 = .ok (.iconst 0, 1) := by decide +kernel
theorem dX12_load_10 : decode cX12_load 10 = .ok (.istore_n 2, 1) := by decide +kernel
theorem dX12_load_11 : decode cX12_load 11 = .ok (.iload_n 2, 1) := by decide +kernel
theorem dX12_load_12 : decode cX12_load 12 = .ok (.ifCond .le 9, 3) := by decide +kernel
theorem dX12_load_15 : decode cX12_load 15 = .ok (.aload_n 0, 1) := by decide +kernel
theorem dX12_load_16 : decode cX12_load 16 = .ok (.iload_n 2, 1) := by decide +kernel
theorem dX12_load_17 : decode cX12_load 17 = .ok (.invokevirtual 42, 3) := by decide +kernel
theorem dX12_load_2 : decode cX12_load 2 = .ok (.putfield 36, 3) := by decide +kernel
theorem dX12_load_20 : decode cX12_load 20 = .ok (.ireturn, 1) := by decide +kernel
theorem dX12_load_5 : decode cX12_load 5 = .ok (.aload_n 0, 1) := by decide +kernel
theorem dX12_load_6 : decode cX12_load 6 = .ok (.iload_n 1, 1) := by decide +kernel
theorem dX12_load_7 : decode cX12_load 7 = .ok (.invokevirtual 445, 3) := by decide +kernel
def vX12_load : List Cond := .code yX12_load cX12_load 3 (some .int) :: ([.fieldLink RX12 36 "HookPierModel" "thrown" "I", .methodLink RX12 445 yX12_refusesLoad, .instanceMethod yX12_refusesLoad, .selects RX12 yX12_refusesLoad yX12_refusesLoad, .initialized RX12, .code yX12_refusesLoad cX12_refusesLoad 2 (some .int), .fieldLink RX12 299 "HookPierModel" "pier" "LHookPierModel$Pier;", .methodLink RX12 42 yX12_refused, .instanceMethod yX12_refused, .selects RX12 yX12_refused yX12_refused, .code yX12_refused cX12_refused 2 (some .int), .fieldLink RX12 39 "HookPierModel" "trouble" "I", .fieldLink RX12 9 "HookPierModel" "where" "I"] ++ wsX120)
theorem iX12_load_X12 : ∀ w ∈ wsX120, w ∈ vX12_load := fun _ h => List.mem_cons_of_mem _ (List.mem_append_right _ h)
set_option maxRecDepth 20000 in
theorem gX12_load_0 : GoodIn vX12_load (wsV RX12 445 RX12 yX12_refusesLoad vX12_refusesLoad) := goodIn_app (goodIn_r [.methodLink RX12 445 yX12_refusesLoad, .instanceMethod yX12_refusesLoad, .selects RX12 yX12_refusesLoad yX12_refusesLoad, .initialized RX12] [2, 3, 4, 5] (by decide +kernel) (by decide +kernel)) (goodIn_ca (goodIn_r (.code yX12_refusesLoad cX12_refusesLoad 2 (some .int) :: [.fieldLink RX12 299 "HookPierModel" "pier" "LHookPierModel$Pier;"]) [6, 7] (by decide +kernel) (by decide +kernel) : GoodIn vX12_load (.code yX12_refusesLoad cX12_refusesLoad 2 (some .int) :: [.fieldLink RX12 299 "HookPierModel" "pier" "LHookPierModel$Pier;"])) (goodIn_sub iX12_load_X12 (by decide +kernel)))
set_option maxRecDepth 20000 in
theorem gX12_load_1 : GoodIn vX12_load (wsV RX12 42 RX12 yX12_refused vX12_refused_1) := goodIn_app (goodIn_r [.methodLink RX12 42 yX12_refused, .instanceMethod yX12_refused, .selects RX12 yX12_refused yX12_refused, .initialized RX12] [8, 9, 10, 5] (by decide +kernel) (by decide +kernel)) (goodIn_ca (goodIn_r (.code yX12_refused cX12_refused 2 (some .int) :: [.fieldLink RX12 39 "HookPierModel" "trouble" "I", .fieldLink RX12 9 "HookPierModel" "where" "I"]) [11, 12, 13] (by decide +kernel) (by decide +kernel) : GoodIn vX12_load (.code yX12_refused cX12_refused 2 (some .int) :: [.fieldLink RX12 39 "HookPierModel" "trouble" "I", .fieldLink RX12 9 "HookPierModel" "where" "I"])) (goodIn_sub iX12_load_X12 (by decide +kernel)))
set_option maxHeartbeats 1000000 in
set_option maxRecDepth 100000 in
theorem kX12_load (l : Launch) (dC : Nat → ClassId) (dI : Nat → Nat → Nat) (a0 : Nat) (k1 : Int32) (g2 : Value) (g3 : Value) (g4 : Value) (g5 : Value) (g6 : Value) (g7 : Value) (g8 : Value) (g9 : Value) (g10 : Value) (g11 : Value) (g12 : Value) (g13 : Value) (g14 : Value) (g15 : Value) (g16 : Value) (g17 : Value) (g18 : Value) (g19 : Value) (g20 : Value) (g21 : Value) (g22 : Value) (g23 : Value) (g24 : Value) (g25 : Value) (g26 : Value) (g27 : Value) (g28 : Value) (g29 : Value) (g30 : Value) (sz : Nat) : Met l yX12_load vX12_load ({ frames := 1, cells := 0, slots := 0, locals := 21 }) (PC (dC, dI) [.ref a0, .int k1] sz [(a0, .inr (9, [g2, g3, g4, .null, g5, g6, g7, g8, g9, g10, g11, g12, g13, g14, g15, g16, g17, g18, g19, g20, g21, g22, g23, g24, g25, g26, g27, g28, g29, g30]))] []) (va_Qi (S := Unit) (fun (r : Int32) _ => r = (-1)) (fun _ t => BC (dC, dI) (va_A [(a0, .inr (9, [g2, g3, g4, .null, g5, g6, g7, g8, g9, g10, g11, g12, g13, g14, g15, g16, g17, g18, g19, g20, g21, g22, g23, g24, g25, g26, g27, g28, g29, g30]))] sz) [] [] t) (va_A [(a0, .inr (9, [g2, g3, g4, .null, g5, g6, g7, g8, g9, g10, g11, g12, g13, g14, g15, g16, g17, g18, g19, g20, g21, g22, g23, g24, g25, g26, g27, g28, g29, g30]))] sz)) 0 0 (va_A [(a0, .inr (9, [g2, g3, g4, .null, g5, g6, g7, g8, g9, g10, g11, g12, g13, g14, g15, g16, g17, g18, g19, g20, g21, g22, g23, g24, g25, g26, g27, g28, g29, g30]))] sz) := by
  refine Met.ofW (cc := cX12_load) (maxL := 3) (ret := (some .int)) (by decide) rfl ?_
  intro p e s m args below meth c s₁ B hml hv
  obtain ⟨rfl, hsz, hP, hK, hD0, hN⟩ := hv
  have hx := B.exec
  have hb := B.bytes
  have hr := B.returns
  have hts := atoms_spec (ws := vX12_load) B.pre
  have hown : s.vm.findClass RX12 = some m.cls := findClass_of_methodNamed B.named
  have hlocks := B.notSynchronized
  subst hsz
  have hD := hD0.self (sz := s.heap.size)
  generalize hAe : va_A [(a0, .inr (9, [g2, g3, g4, .null, g5, g6, g7, g8, g9, g10, g11, g12, g13, g14, g15, g16, g17, g18, g19, g20, g21, g22, g23, g24, g25, g26, g27, g28, g29, g30]))] s.heap.size = A at hD ⊢
  have hA : ∀ q : Nat, s.heap.size ≤ q → A q := fun q h => by rw [← hAe]; exact Or.inr h
  have hS : va_S A s.heap s.heap [] := va_S.rf
  have hP : va_P (dC, dI) vwCl [(a0, .inr (9, [g2, g3, g4, .null, g5, g6, g7, g8, g9, g10, g11, g12, g13, g14, g15, g16, g17, g18, g19, g20, g21, g22, g23, g24, g25, g26, g27, g28, g29, g30]))] s.heap := hP
  have hl := lv_entry ([.ref a0, .int k1]) (n := 3) (Nat.le_of_ble_eq_true rfl)
  rw [lg_entry_eq]
  generalize (lg_sl ([.ref a0, .int k1]) ++ List.replicate (3 - (lg_sl ([.ref a0, .int k1])).length) Slot.unset).toArray = ls at hl ⊢
  have hl : lv_has ls 3 [(0, .ref a0), (1, .int k1)] := hl
  refine lv_aload_n hx hb dX12_load_0 rfl (lv_at hl 0 rfl) ?_
  refine lv_iconst (v := 0) hx hb dX12_load_1 (by decide) ?_
  refine va_put (D := (dC, dI)) (ci := 9) (v := .int 0) (ty := .int) (C := RX12) (T := TX12) (N := 30) hx hb hts iX12_load_X12 tyX12 tyX12_ok nmX12 hown hK hP hD hS 0 rfl rfl 0 (by decide) (hts (.fieldLink RX12 36 "HookPierModel" "thrown" "I") (List.mem_of_getElem? (i := 1) rfl)) (fun _ h9 => h9) rfl (by decide +kernel) rfl rfl (Nat.le_of_ble_eq_true rfl) dX12_load_2 (fun H locs hP hD hS => ?_)
  have hP : va_P (dC, dI) vwCl [(a0, .inr (9, [.int 0, g3, g4, .null, g5, g6, g7, g8, g9, g10, g11, g12, g13, g14, g15, g16, g17, g18, g19, g20, g21, g22, g23, g24, g25, g26, g27, g28, g29, g30]))] H := hP
  have hD : va_D A [(a0, .inr (9, [.int 0, g3, g4, .null, g5, g6, g7, g8, g9, g10, g11, g12, g13, g14, g15, g16, g17, g18, g19, g20, g21, g22, g23, g24, g25, g26, g27, g28, g29, g30]))] := hD
  refine lv_aload_n hx hb dX12_load_5 rfl (lv_at hl 0 rfl) ?_
  refine lv_iload_n hx hb dX12_load_6 rfl (lv_at hl 1 rfl) ?_
  refine cl_i (wc := [(a0, .inr (9, [.int 0, g3, g4, .null, g5, g6, g7, g8, g9, g10, g11, g12, g13, g14, g15, g16, g17, g18, g19, g20, g21, g22, g23, g24, g25, g26, g27, g28, g29, g30]))]) (wr := []) (va_runV (As := [.int k1]) (rest := []) ⟨hx, hb, hml, hown, hts⟩ (kX12_refusesLoad l dC dI a0 k1 (.int 0) (g3) (g4) (g5) (g6) (g7) (g8) (g9) (g10) (g11) (g12) (g13) (g14) (g15) (g16) (g17) (g18) (g19) (g20) (g21) (g22) (g23) (g24) (g25) (g26) (g27) (g28) (g29) (g30) H.size) (cwV 1 hts gX12_load_0 rfl rfl rfl (by decide +kernel) ⟨Nat.le_of_ble_eq_true rfl, Nat.le_of_ble_eq_true rfl⟩) (PV (hP.sub (ws' := [(a0, .inr (9, [.int 0, g3, g4, .null, g5, g6, g7, g8, g9, g10, g11, g12, g13, g14, g15, g16, g17, g18, g19, g20, g21, g22, g23, g24, g25, g26, g27, g28, g29, g30]))]) [0] rfl) (hK.sub (tys' := []) [] rfl) (hD.sub (ws' := [(a0, .inr (9, [.int 0, g3, g4, .null, g5, g6, g7, g8, g9, g10, g11, g12, g13, g14, g15, g16, g17, g18, g19, g20, g21, g22, g23, g24, g25, g26, g27, g28, g29, g30]))]) [0] (by decide) rfl) hN 0 rfl rfl) rfl rfl hl.1 rfl (lv_room (Nat.le_of_ble_eq_true rfl)) dX12_load_7 ⟨Nat.le_of_ble_eq_true rfl, Nat.le_of_ble_eq_true rfl⟩) hP hD hK hS hA [0] [] rfl rfl (by decide) (by decide) (fun z1 _u H locs hw hP hD hK hS => ?_)
  have hP : va_P (dC, dI) vwCl [(a0, .inr (9, [.int 0, g3, g4, .null, g5, g6, g7, g8, g9, g10, g11, g12, g13, g14, g15, g16, g17, g18, g19, g20, g21, g22, g23, g24, g25, g26, g27, g28, g29, g30]))] H := hP
  have hD : va_D A [(a0, .inr (9, [.int 0, g3, g4, .null, g5, g6, g7, g8, g9, g10, g11, g12, g13, g14, g15, g16, g17, g18, g19, g20, g21, g22, g23, g24, g25, g26, g27, g28, g29, g30]))] := hD
  have hK : va_K (dC, dI) vwCl [] s := hK
  obtain rfl : z1 = 1 := hw
  refine lv_istore_n (lv' := [(2, .int 1), (0, .ref a0), (1, .int k1)]) hx hb dX12_load_10 rfl hl (by decide) rfl (fun ls hl => ?_)
  refine lv_iload_n hx hb dX12_load_11 rfl (lv_at hl 0 rfl) ?_
  refine lv_if_le (tgt := 21) hx hb dX12_load_12 (by decide) (fun c2 => absurd c2 (by decide)) (fun _ => ?_)
  refine lv_aload_n hx hb dX12_load_15 rfl (lv_at hl 1 rfl) ?_
  refine lv_iload_n hx hb dX12_load_16 rfl (lv_at hl 0 rfl) ?_
  refine cl_i (wc := [(a0, .inr (9, [.int 0, g3, g4, .null, g5, g6, g7, g8, g9, g10, g11, g12, g13, g14, g15, g16, g17, g18, g19, g20, g21, g22, g23, g24, g25, g26, g27, g28, g29, g30]))]) (wr := []) (va_runV (As := [.int 1]) (rest := []) ⟨hx, hb, hml, hown, hts⟩ (kX12_refused_1 l dC dI a0 (.int 0) (g3) (g4) (.null) (g5) (g6) (g7) (g8) (g9) (g10) (g11) (g12) (g13) (g14) (g15) (g16) (g17) (g18) (g19) (g20) (g21) (g22) (g23) (g24) (g25) (g26) (g27) (g28) (g29) (g30) H.size) (cwV 1 hts gX12_load_1 rfl rfl rfl (by decide +kernel) ⟨Nat.le_of_ble_eq_true rfl, Nat.le_of_ble_eq_true rfl⟩) (PV (hP.sub (ws' := [(a0, .inr (9, [.int 0, g3, g4, .null, g5, g6, g7, g8, g9, g10, g11, g12, g13, g14, g15, g16, g17, g18, g19, g20, g21, g22, g23, g24, g25, g26, g27, g28, g29, g30]))]) [0] rfl) (hK.sub (tys' := []) [] rfl) (hD.sub (ws' := [(a0, .inr (9, [.int 0, g3, g4, .null, g5, g6, g7, g8, g9, g10, g11, g12, g13, g14, g15, g16, g17, g18, g19, g20, g21, g22, g23, g24, g25, g26, g27, g28, g29, g30]))]) [0] (by decide) rfl) hN 0 rfl rfl) rfl rfl hl.1 rfl (lv_room (Nat.le_of_ble_eq_true rfl)) dX12_load_17 ⟨Nat.le_of_ble_eq_true rfl, Nat.le_of_ble_eq_true rfl⟩) hP hD hK hS hA [0] [] rfl rfl (by decide) (by decide) (fun z3 _u H locs hw hP hD hK hS => ?_)
  have hP : va_P (dC, dI) vwCl [(a0, .inr (9, [.int 0, .int 1, .int (-1), .null, g5, g6, g7, g8, g9, g10, g11, g12, g13, g14, g15, g16, g17, g18, g19, g20, g21, g22, g23, g24, g25, g26, g27, g28, g29, g30]))] H := hP
  have hD : va_D A [(a0, .inr (9, [.int 0, .int 1, .int (-1), .null, g5, g6, g7, g8, g9, g10, g11, g12, g13, g14, g15, g16, g17, g18, g19, g20, g21, g22, g23, g24, g25, g26, g27, g28, g29, g30]))] := hD
  have hK : va_K (dC, dI) vwCl [] s := hK
  obtain rfl : z3 = (-1) := hw
  have hP9 := hP.sub (ws' := []) [] rfl
  have hD9 := hD.sub (ws' := []) [] (by decide) rfl
  have hK9 := hK.sub (tys' := []) [] rfl
  exact W.iret (v := (-1)) hx hb hr (fun t ht hW => ⟨⟨(-1), (), rfl, rfl, by rw [ht]; exact hP9, va_K.moved hW.alike hK9, hD9⟩, hS.F ht⟩) hS.2.2 dX12_load_20
theorem dX10_loadWorth_0 : decode cX10_loadWorth 0 = .ok (.aload_n 0, 1) := by decide +kernel
theorem dX10_loadWorth_1 : decode cX10_loadWorth 1 = .ok (.aload_n 0, 1) := by decide +kernel
theorem dX10_loadWorth_12 : decode cX10_loadWorth 12 = .ok (.invokevirtual 79, 3) := by decide +kernel
theorem dX10_loadWorth_15 : decode cX10_loadWorth 15 = .ok (.ifCond .eq 5, 3) := by decide +kernel
theorem dX10_loadWorth_18 : decode cX10_loadWorth 18 = .ok (.iconst (-1), 1) := by decide +kernel
theorem dX10_loadWorth_19 : decode cX10_loadWorth 19 = .ok (.ireturn, 1) := by decide +kernel
theorem dX10_loadWorth_2 : decode cX10_loadWorth 2 = .ok (.iload_n 1, 1) := by decide +kernel
theorem dX10_loadWorth_3 : decode cX10_loadWorth 3 = .ok (.iconst 0, 1) := by decide +kernel
theorem dX10_loadWorth_4 : decode cX10_loadWorth 4 = .ok (.bipush 6, 2) := by decide +kernel
theorem dX10_loadWorth_6 : decode cX10_loadWorth 6 = .ok (.invokestatic 75, 3) := by decide +kernel
theorem dX10_loadWorth_9 : decode cX10_loadWorth 9 = .ok (.invokevirtual 169, 3) := by decide +kernel
def vX10_loadWorth : List Cond := .code yX10_loadWorth cX10_loadWorth 2 (some .int) :: ([.methodLink RX10 75 yX10_within, .static yX10_within, .initialized RX10, .code yX10_within cX10_within 3 (some .boolean), .methodLink RX10 169 yX10_numberTrouble, .instanceMethod yX10_numberTrouble, .selects RX10 yX10_numberTrouble yX10_numberTrouble, .code yX10_numberTrouble cX10_numberTrouble 3 (some .int), .methodLink RX10 216 yX10_pierTrouble, .instanceMethod yX10_pierTrouble, .selects RX10 yX10_pierTrouble yX10_pierTrouble, .code yX10_pierTrouble cX10_pierTrouble 1 (some .int), .fieldLink RX10 10 "HookPier" "plan" "LHookPier$Plan;", .fieldLink RX10 233 "HookPier$Plan" "spots" "I", .methodLink RX10 79 yX10_refused, .instanceMethod yX10_refused, .selects RX10 yX10_refused yX10_refused, .code yX10_refused cX10_refused 2 (some .boolean), .fieldLink RX10 61 "HookPier" "troubleNow" "I"] ++ wsX100 ++ wsX60)
theorem iX10_loadWorth_X10 : ∀ w ∈ wsX100, w ∈ vX10_loadWorth := fun _ h => List.mem_cons_of_mem _ (List.mem_append_left _ (List.mem_append_right _ h))
theorem iX10_loadWorth_X6 : ∀ w ∈ wsX60, w ∈ vX10_loadWorth := fun _ h => List.mem_cons_of_mem _ (List.mem_append_right _ h)
set_option maxRecDepth 20000 in
theorem gX10_loadWorth_0 : GoodIn vX10_loadWorth (va_wsS RX10 75 yX10_within vX10_within_6) := goodIn_app (goodIn_r [.methodLink RX10 75 yX10_within, .static yX10_within, .initialized RX10] [1, 2, 3] (by decide +kernel) (by decide +kernel)) (goodIn_r (.code yX10_within cX10_within 3 (some .boolean) :: []) [4] (by decide +kernel) (by decide +kernel) : GoodIn vX10_loadWorth (.code yX10_within cX10_within 3 (some .boolean) :: []))
set_option maxRecDepth 20000 in
theorem gX10_loadWorth_1 : GoodIn vX10_loadWorth (wsV RX10 169 RX10 yX10_numberTrouble vX10_numberTrouble) := goodIn_app (goodIn_r [.methodLink RX10 169 yX10_numberTrouble, .instanceMethod yX10_numberTrouble, .selects RX10 yX10_numberTrouble yX10_numberTrouble, .initialized RX10] [5, 6, 7, 3] (by decide +kernel) (by decide +kernel)) (goodIn_ca (goodIn_ca (goodIn_r (.code yX10_numberTrouble cX10_numberTrouble 3 (some .int) :: [.methodLink RX10 216 yX10_pierTrouble, .instanceMethod yX10_pierTrouble, .selects RX10 yX10_pierTrouble yX10_pierTrouble, .initialized RX10, .code yX10_pierTrouble cX10_pierTrouble 1 (some .int), .fieldLink RX10 10 "HookPier" "plan" "LHookPier$Plan;", .fieldLink RX10 233 "HookPier$Plan" "spots" "I"]) [8, 9, 10, 11, 3, 12, 13, 14] (by decide +kernel) (by decide +kernel) : GoodIn vX10_loadWorth (.code yX10_numberTrouble cX10_numberTrouble 3 (some .int) :: [.methodLink RX10 216 yX10_pierTrouble, .instanceMethod yX10_pierTrouble, .selects RX10 yX10_pierTrouble yX10_pierTrouble, .initialized RX10, .code yX10_pierTrouble cX10_pierTrouble 1 (some .int), .fieldLink RX10 10 "HookPier" "plan" "LHookPier$Plan;", .fieldLink RX10 233 "HookPier$Plan" "spots" "I"])) (goodIn_sub iX10_loadWorth_X10 (by decide +kernel))) (goodIn_sub iX10_loadWorth_X6 (by decide +kernel)))
set_option maxRecDepth 20000 in
theorem gX10_loadWorth_2 : GoodIn vX10_loadWorth (wsV RX10 79 RX10 yX10_refused vX10_refused_3) := goodIn_app (goodIn_r [.methodLink RX10 79 yX10_refused, .instanceMethod yX10_refused, .selects RX10 yX10_refused yX10_refused, .initialized RX10] [15, 16, 17, 3] (by decide +kernel) (by decide +kernel)) (goodIn_ca (goodIn_r (.code yX10_refused cX10_refused 2 (some .boolean) :: [.fieldLink RX10 61 "HookPier" "troubleNow" "I"]) [18, 19] (by decide +kernel) (by decide +kernel) : GoodIn vX10_loadWorth (.code yX10_refused cX10_refused 2 (some .boolean) :: [.fieldLink RX10 61 "HookPier" "troubleNow" "I"])) (goodIn_sub iX10_loadWorth_X10 (by decide +kernel)))
set_option maxHeartbeats 1000000 in
set_option maxRecDepth 100000 in
theorem kX10_loadWorth (l : Launch) (dC : Nat → ClassId) (dI : Nat → Nat → Nat) (a0 : Nat) (k1 : Int32) (a2 : Nat) (g3 : Value) (g4 : Value) (g5 : Value) (g6 : Value) (g7 : Value) (g8 : Value) (g9 : Value) (g10 : Value) (g11 : Value) (g12 : Value) (g13 : Value) (g14 : Value) (g15 : Value) (g16 : Value) (g17 : Value) (g18 : Value) (g19 : Value) (g20 : Value) (g21 : Value) (g22 : Value) (g23 : Value) (g24 : Value) (g25 : Value) (g26 : Value) (g27 : Value) (g28 : Value) (sz : Nat) : Met l yX10_loadWorth vX10_loadWorth ({ frames := 2, cells := 0, slots := 0, locals := 42 }) (PC (dC, dI) [.ref a0, .int k1] sz [(a0, .inr (7, [.ref a2, g3, g4, g5, g6, g7, g8, g9, g10, g11])), (a2, .inr (4, [.int 0, g12, g13, g14, g15, g16, g17, g18, g19, g20, g21, g22, g23, g24, g25, g26, g27, g28]))] []) (va_Qi (S := Unit) (fun (r : Int32) _ => r = (-1)) (fun _ t => BC (dC, dI) (va_A [(a0, .inr (7, [.ref a2, g3, g4, g5, g6, g7, g8, g9, g10, g11])), (a2, .inr (4, [.int 0, g12, g13, g14, g15, g16, g17, g18, g19, g20, g21, g22, g23, g24, g25, g26, g27, g28]))] sz) [] [] t) (va_A [(a0, .inr (7, [.ref a2, g3, g4, g5, g6, g7, g8, g9, g10, g11])), (a2, .inr (4, [.int 0, g12, g13, g14, g15, g16, g17, g18, g19, g20, g21, g22, g23, g24, g25, g26, g27, g28]))] sz)) 0 0 (va_A [(a0, .inr (7, [.ref a2, g3, g4, g5, g6, g7, g8, g9, g10, g11])), (a2, .inr (4, [.int 0, g12, g13, g14, g15, g16, g17, g18, g19, g20, g21, g22, g23, g24, g25, g26, g27, g28]))] sz) := by
  refine Met.ofW (cc := cX10_loadWorth) (maxL := 2) (ret := (some .int)) (by decide) rfl ?_
  intro p e s m args below meth c s₁ B hml hv
  obtain ⟨rfl, hsz, hP, hK, hD0, hN⟩ := hv
  have hx := B.exec
  have hb := B.bytes
  have hr := B.returns
  have hts := atoms_spec (ws := vX10_loadWorth) B.pre
  have hown : s.vm.findClass RX10 = some m.cls := findClass_of_methodNamed B.named
  have hlocks := B.notSynchronized
  subst hsz
  have hD := hD0.self (sz := s.heap.size)
  generalize hAe : va_A [(a0, .inr (7, [.ref a2, g3, g4, g5, g6, g7, g8, g9, g10, g11])), (a2, .inr (4, [.int 0, g12, g13, g14, g15, g16, g17, g18, g19, g20, g21, g22, g23, g24, g25, g26, g27, g28]))] s.heap.size = A at hD ⊢
  have hA : ∀ q : Nat, s.heap.size ≤ q → A q := fun q h => by rw [← hAe]; exact Or.inr h
  have hS : va_S A s.heap s.heap [] := va_S.rf
  have hP : va_P (dC, dI) vwCl [(a0, .inr (7, [.ref a2, g3, g4, g5, g6, g7, g8, g9, g10, g11])), (a2, .inr (4, [.int 0, g12, g13, g14, g15, g16, g17, g18, g19, g20, g21, g22, g23, g24, g25, g26, g27, g28]))] s.heap := hP
  have hl := lv_entry ([.ref a0, .int k1]) (n := 2) (Nat.le_of_ble_eq_true rfl)
  rw [lg_entry_eq]
  generalize (lg_sl ([.ref a0, .int k1]) ++ List.replicate (2 - (lg_sl ([.ref a0, .int k1])).length) Slot.unset).toArray = ls at hl ⊢
  have hl : lv_has ls 2 [(0, .ref a0), (1, .int k1)] := hl
  refine lv_aload_n hx hb dX10_loadWorth_0 rfl (lv_at hl 0 rfl) ?_
  refine lv_aload_n hx hb dX10_loadWorth_1 rfl (lv_at hl 0 rfl) ?_
  refine lv_iload_n hx hb dX10_loadWorth_2 rfl (lv_at hl 1 rfl) ?_
  refine lv_iconst (v := 0) hx hb dX10_loadWorth_3 (by decide) ?_
  refine lv_bipush (v := 6) hx hb dX10_loadWorth_4 (by decide) ?_
  refine cl_i (wc := []) (wr := [(a0, .inr (7, [.ref a2, g3, g4, g5, g6, g7, g8, g9, g10, g11])), (a2, .inr (4, [.int 0, g12, g13, g14, g15, g16, g17, g18, g19, g20, g21, g22, g23, g24, g25, g26, g27, g28]))]) (va_runS (As := [.int k1, .int 0, .int 6]) (rest := [.ref a0, .ref a0]) ⟨hx, hb, hml, hown, hts⟩ (kX10_within_6 l dC dI k1 s.heap.size) (va_cwS 3 hts gX10_loadWorth_0 rfl rfl rfl (by decide +kernel) ⟨Nat.le_of_ble_eq_true rfl, Nat.le_of_ble_eq_true rfl⟩) (PS (hP.sub (ws' := []) [] rfl) (hK.sub (tys' := []) [] rfl) (hD.sub (ws' := []) [] (by decide) rfl) hN) rfl rfl hl.1 rfl (lv_room (Nat.le_of_ble_eq_true rfl)) dX10_loadWorth_6 ⟨Nat.le_of_ble_eq_true rfl, Nat.le_of_ble_eq_true rfl⟩) hP hD hK hS hA [] [0, 1] rfl rfl (by decide) (by decide) (fun z1 _u H locs hw hP hD hK hS => ?_)
  have hP : va_P (dC, dI) vwCl [(a0, .inr (7, [.ref a2, g3, g4, g5, g6, g7, g8, g9, g10, g11])), (a2, .inr (4, [.int 0, g12, g13, g14, g15, g16, g17, g18, g19, g20, g21, g22, g23, g24, g25, g26, g27, g28]))] H := hP
  have hD : va_D A [(a0, .inr (7, [.ref a2, g3, g4, g5, g6, g7, g8, g9, g10, g11])), (a2, .inr (4, [.int 0, g12, g13, g14, g15, g16, g17, g18, g19, g20, g21, g22, g23, g24, g25, g26, g27, g28]))] := hD
  have hK : va_K (dC, dI) vwCl [] s := hK
  refine cl_i (wc := [(a0, .inr (7, [.ref a2, g3, g4, g5, g6, g7, g8, g9, g10, g11])), (a2, .inr (4, [.int 0, g12, g13, g14, g15, g16, g17, g18, g19, g20, g21, g22, g23, g24, g25, g26, g27, g28]))]) (wr := []) (va_runV (As := [.int z1]) (rest := [.ref a0]) ⟨hx, hb, hml, hown, hts⟩ (kX10_numberTrouble l dC dI a0 z1 a2 (g3) (g4) (g5) (g6) (g7) (g8) (g9) (g10) (g11) (g12) (g13) (g14) (g15) (g16) (g17) (g18) (g19) (g20) (g21) (g22) (g23) (g24) (g25) (g26) (g27) (g28) H.size) (cwV 1 hts gX10_loadWorth_1 rfl rfl rfl (by decide +kernel) ⟨Nat.le_of_ble_eq_true rfl, Nat.le_of_ble_eq_true rfl⟩) (PV (hP.sub (ws' := [(a0, .inr (7, [.ref a2, g3, g4, g5, g6, g7, g8, g9, g10, g11])), (a2, .inr (4, [.int 0, g12, g13, g14, g15, g16, g17, g18, g19, g20, g21, g22, g23, g24, g25, g26, g27, g28]))]) [0, 1] rfl) (hK.sub (tys' := []) [] rfl) (hD.sub (ws' := [(a0, .inr (7, [.ref a2, g3, g4, g5, g6, g7, g8, g9, g10, g11])), (a2, .inr (4, [.int 0, g12, g13, g14, g15, g16, g17, g18, g19, g20, g21, g22, g23, g24, g25, g26, g27, g28]))]) [0, 1] (by decide) rfl) hN 0 rfl rfl) rfl rfl hl.1 rfl (lv_room (Nat.le_of_ble_eq_true rfl)) dX10_loadWorth_9 ⟨Nat.le_of_ble_eq_true rfl, Nat.le_of_ble_eq_true rfl⟩) hP hD hK hS hA [0, 1] [] rfl rfl (by decide) (by decide) (fun z2 _u H locs hw hP hD hK hS => ?_)
  have hP : va_P (dC, dI) vwCl [(a0, .inr (7, [.ref a2, g3, g4, g5, g6, g7, g8, g9, g10, g11])), (a2, .inr (4, [.int 0, g12, g13, g14, g15, g16, g17, g18, g19, g20, g21, g22, g23, g24, g25, g26, g27, g28]))] H := hP
  have hD : va_D A [(a0, .inr (7, [.ref a2, g3, g4, g5, g6, g7, g8, g9, g10, g11])), (a2, .inr (4, [.int 0, g12, g13, g14, g15, g16, g17, g18, g19, g20, g21, g22, g23, g24, g25, g26, g27, g28]))] := hD
  have hK : va_K (dC, dI) vwCl [] s := hK
  obtain rfl : z2 = 1 := hw
  refine cl_i (wc := [(a0, .inr (7, [.ref a2, g3, g4, g5, g6, g7, g8, g9, g10, g11]))]) (wr := [(a2, .inr (4, [.int 0, g12, g13, g14, g15, g16, g17, g18, g19, g20, g21, g22, g23, g24, g25, g26, g27, g28]))]) (va_runV (As := [.int 1]) (rest := []) ⟨hx, hb, hml, hown, hts⟩ (kX10_refused_3 l dC dI a0 (.ref a2) (g3) (g4) (g5) (g6) (g7) (g8) (g9) (g10) (g11) H.size) (cwV 1 hts gX10_loadWorth_2 rfl rfl rfl (by decide +kernel) ⟨Nat.le_of_ble_eq_true rfl, Nat.le_of_ble_eq_true rfl⟩) (PV (hP.sub (ws' := [(a0, .inr (7, [.ref a2, g3, g4, g5, g6, g7, g8, g9, g10, g11]))]) [0] rfl) (hK.sub (tys' := []) [] rfl) (hD.sub (ws' := [(a0, .inr (7, [.ref a2, g3, g4, g5, g6, g7, g8, g9, g10, g11]))]) [0] (by decide) rfl) hN 0 rfl rfl) rfl rfl hl.1 rfl (lv_room (Nat.le_of_ble_eq_true rfl)) dX10_loadWorth_12 ⟨Nat.le_of_ble_eq_true rfl, Nat.le_of_ble_eq_true rfl⟩) hP hD hK hS hA [0] [1] rfl rfl (by decide) (by decide) (fun z3 _u H locs hw hP hD hK hS => ?_)
  have hP : va_P (dC, dI) vwCl [(a2, .inr (4, [.int 0, g12, g13, g14, g15, g16, g17, g18, g19, g20, g21, g22, g23, g24, g25, g26, g27, g28])), (a0, .inr (7, [.ref a2, g3, g4, g5, g6, g7, g8, g9, .int 1, g11]))] H := hP
  have hD : va_D A [(a2, .inr (4, [.int 0, g12, g13, g14, g15, g16, g17, g18, g19, g20, g21, g22, g23, g24, g25, g26, g27, g28])), (a0, .inr (7, [.ref a2, g3, g4, g5, g6, g7, g8, g9, .int 1, g11]))] := hD
  have hK : va_K (dC, dI) vwCl [] s := hK
  obtain rfl : z3 = 1 := hw
  refine lv_if_eq (tgt := 20) hx hb dX10_loadWorth_15 (by decide) (fun c4 => absurd c4 (by decide)) (fun _ => ?_)
  refine lv_iconst (v := (-1)) hx hb dX10_loadWorth_18 (by decide) ?_
  have hP9 := hP.sub (ws' := []) [] rfl
  have hD9 := hD.sub (ws' := []) [] (by decide) rfl
  have hK9 := hK.sub (tys' := []) [] rfl
  exact W.iret (v := (-1)) hx hb hr (fun t ht hW => ⟨⟨(-1), (), rfl, rfl, by rw [ht]; exact hP9, va_K.moved hW.alike hK9, hD9⟩, hS.F ht⟩) hS.2.2 dX10_loadWorth_19
theorem dX12_loadWorth_0 : decode cX12_loadWorth 0 = .ok (.aload_n 0, 1) := by decide +kernel
theorem dX12_loadWorth_1 : decode cX12_loadWorth 1 = .ok (.iconst 0, 1) := by decide +kernel
theorem dX12_loadWorth_10 : decode cX12_loadWorth 10 = .ok (.istore_n 2, 1) := by decide +kernel
theorem dX12_loadWorth_11 : decode cX12_loadWorth 11 = .ok (.iload_n 2, 1) := by decide +kernel
theorem dX12_loadWorth_12 : decode cX12_loadWorth 12 = .ok (.ifCond .le 9, 3) := by decide +kernel
theorem dX12_loadWorth_15 : decode cX12_loadWorth 15 = .ok (.aload_n 0, 1) := by decide +kernel
theorem dX12_loadWorth_16 : decode cX12_loadWorth 16 = .ok (.iload_n 2, 1) := by decide +kernel
theorem dX12_loadWorth_17 : decode cX12_loadWorth 17 = .ok (.invokevirtual 42, 3) := by decide +kernel
theorem dX12_loadWorth_2 : decode cX12_loadWorth 2 = .ok (.putfield 36, 3) := by decide +kernel
theorem dX12_loadWorth_20 : decode cX12_loadWorth 20 = .ok (.ireturn, 1) := by decide +kernel
theorem dX12_loadWorth_5 : decode cX12_loadWorth 5 = .ok (.aload_n 0, 1) := by decide +kernel
theorem dX12_loadWorth_6 : decode cX12_loadWorth 6 = .ok (.iload_n 1, 1) := by decide +kernel
theorem dX12_loadWorth_7 : decode cX12_loadWorth 7 = .ok (.invokevirtual 445, 3) := by decide +kernel
def vX12_loadWorth : List Cond := .code yX12_loadWorth cX12_loadWorth 3 (some .int) :: ([.fieldLink RX12 36 "HookPierModel" "thrown" "I", .methodLink RX12 445 yX12_refusesLoad, .instanceMethod yX12_refusesLoad, .selects RX12 yX12_refusesLoad yX12_refusesLoad, .initialized RX12, .code yX12_refusesLoad cX12_refusesLoad 2 (some .int), .fieldLink RX12 299 "HookPierModel" "pier" "LHookPierModel$Pier;", .methodLink RX12 42 yX12_refused, .instanceMethod yX12_refused, .selects RX12 yX12_refused yX12_refused, .code yX12_refused cX12_refused 2 (some .int), .fieldLink RX12 39 "HookPierModel" "trouble" "I", .fieldLink RX12 9 "HookPierModel" "where" "I"] ++ wsX120)
theorem iX12_loadWorth_X12 : ∀ w ∈ wsX120, w ∈ vX12_loadWorth := fun _ h => List.mem_cons_of_mem _ (List.mem_append_right _ h)
set_option maxRecDepth 20000 in
theorem gX12_loadWorth_0 : GoodIn vX12_loadWorth (wsV RX12 445 RX12 yX12_refusesLoad vX12_refusesLoad) := goodIn_app (goodIn_r [.methodLink RX12 445 yX12_refusesLoad, .instanceMethod yX12_refusesLoad, .selects RX12 yX12_refusesLoad yX12_refusesLoad, .initialized RX12] [2, 3, 4, 5] (by decide +kernel) (by decide +kernel)) (goodIn_ca (goodIn_r (.code yX12_refusesLoad cX12_refusesLoad 2 (some .int) :: [.fieldLink RX12 299 "HookPierModel" "pier" "LHookPierModel$Pier;"]) [6, 7] (by decide +kernel) (by decide +kernel) : GoodIn vX12_loadWorth (.code yX12_refusesLoad cX12_refusesLoad 2 (some .int) :: [.fieldLink RX12 299 "HookPierModel" "pier" "LHookPierModel$Pier;"])) (goodIn_sub iX12_loadWorth_X12 (by decide +kernel)))
set_option maxRecDepth 20000 in
theorem gX12_loadWorth_1 : GoodIn vX12_loadWorth (wsV RX12 42 RX12 yX12_refused vX12_refused_1) := goodIn_app (goodIn_r [.methodLink RX12 42 yX12_refused, .instanceMethod yX12_refused, .selects RX12 yX12_refused yX12_refused, .initialized RX12] [8, 9, 10, 5] (by decide +kernel) (by decide +kernel)) (goodIn_ca (goodIn_r (.code yX12_refused cX12_refused 2 (some .int) :: [.fieldLink RX12 39 "HookPierModel" "trouble" "I", .fieldLink RX12 9 "HookPierModel" "where" "I"]) [11, 12, 13] (by decide +kernel) (by decide +kernel) : GoodIn vX12_loadWorth (.code yX12_refused cX12_refused 2 (some .int) :: [.fieldLink RX12 39 "HookPierModel" "trouble" "I", .fieldLink RX12 9 "HookPierModel" "where" "I"])) (goodIn_sub iX12_loadWorth_X12 (by decide +kernel)))
set_option maxHeartbeats 1000000 in
set_option maxRecDepth 100000 in
theorem kX12_loadWorth (l : Launch) (dC : Nat → ClassId) (dI : Nat → Nat → Nat) (a0 : Nat) (k1 : Int32) (g2 : Value) (g3 : Value) (g4 : Value) (g5 : Value) (g6 : Value) (g7 : Value) (g8 : Value) (g9 : Value) (g10 : Value) (g11 : Value) (g12 : Value) (g13 : Value) (g14 : Value) (g15 : Value) (g16 : Value) (g17 : Value) (g18 : Value) (g19 : Value) (g20 : Value) (g21 : Value) (g22 : Value) (g23 : Value) (g24 : Value) (g25 : Value) (g26 : Value) (g27 : Value) (g28 : Value) (g29 : Value) (g30 : Value) (sz : Nat) : Met l yX12_loadWorth vX12_loadWorth ({ frames := 1, cells := 0, slots := 0, locals := 21 }) (PC (dC, dI) [.ref a0, .int k1] sz [(a0, .inr (9, [g2, g3, g4, .null, g5, g6, g7, g8, g9, g10, g11, g12, g13, g14, g15, g16, g17, g18, g19, g20, g21, g22, g23, g24, g25, g26, g27, g28, g29, g30]))] []) (va_Qi (S := Unit) (fun (r : Int32) _ => r = (-1)) (fun _ t => BC (dC, dI) (va_A [(a0, .inr (9, [g2, g3, g4, .null, g5, g6, g7, g8, g9, g10, g11, g12, g13, g14, g15, g16, g17, g18, g19, g20, g21, g22, g23, g24, g25, g26, g27, g28, g29, g30]))] sz) [] [] t) (va_A [(a0, .inr (9, [g2, g3, g4, .null, g5, g6, g7, g8, g9, g10, g11, g12, g13, g14, g15, g16, g17, g18, g19, g20, g21, g22, g23, g24, g25, g26, g27, g28, g29, g30]))] sz)) 0 0 (va_A [(a0, .inr (9, [g2, g3, g4, .null, g5, g6, g7, g8, g9, g10, g11, g12, g13, g14, g15, g16, g17, g18, g19, g20, g21, g22, g23, g24, g25, g26, g27, g28, g29, g30]))] sz) := by
  refine Met.ofW (cc := cX12_loadWorth) (maxL := 3) (ret := (some .int)) (by decide) rfl ?_
  intro p e s m args below meth c s₁ B hml hv
  obtain ⟨rfl, hsz, hP, hK, hD0, hN⟩ := hv
  have hx := B.exec
  have hb := B.bytes
  have hr := B.returns
  have hts := atoms_spec (ws := vX12_loadWorth) B.pre
  have hown : s.vm.findClass RX12 = some m.cls := findClass_of_methodNamed B.named
  have hlocks := B.notSynchronized
  subst hsz
  have hD := hD0.self (sz := s.heap.size)
  generalize hAe : va_A [(a0, .inr (9, [g2, g3, g4, .null, g5, g6, g7, g8, g9, g10, g11, g12, g13, g14, g15, g16, g17, g18, g19, g20, g21, g22, g23, g24, g25, g26, g27, g28, g29, g30]))] s.heap.size = A at hD ⊢
  have hA : ∀ q : Nat, s.heap.size ≤ q → A q := fun q h => by rw [← hAe]; exact Or.inr h
  have hS : va_S A s.heap s.heap [] := va_S.rf
  have hP : va_P (dC, dI) vwCl [(a0, .inr (9, [g2, g3, g4, .null, g5, g6, g7, g8, g9, g10, g11, g12, g13, g14, g15, g16, g17, g18, g19, g20, g21, g22, g23, g24, g25, g26, g27, g28, g29, g30]))] s.heap := hP
  have hl := lv_entry ([.ref a0, .int k1]) (n := 3) (Nat.le_of_ble_eq_true rfl)
  rw [lg_entry_eq]
  generalize (lg_sl ([.ref a0, .int k1]) ++ List.replicate (3 - (lg_sl ([.ref a0, .int k1])).length) Slot.unset).toArray = ls at hl ⊢
  have hl : lv_has ls 3 [(0, .ref a0), (1, .int k1)] := hl
  refine lv_aload_n hx hb dX12_loadWorth_0 rfl (lv_at hl 0 rfl) ?_
  refine lv_iconst (v := 0) hx hb dX12_loadWorth_1 (by decide) ?_
  refine va_put (D := (dC, dI)) (ci := 9) (v := .int 0) (ty := .int) (C := RX12) (T := TX12) (N := 30) hx hb hts iX12_loadWorth_X12 tyX12 tyX12_ok nmX12 hown hK hP hD hS 0 rfl rfl 0 (by decide) (hts (.fieldLink RX12 36 "HookPierModel" "thrown" "I") (List.mem_of_getElem? (i := 1) rfl)) (fun _ h9 => h9) rfl (by decide +kernel) rfl rfl (Nat.le_of_ble_eq_true rfl) dX12_loadWorth_2 (fun H locs hP hD hS => ?_)
  have hP : va_P (dC, dI) vwCl [(a0, .inr (9, [.int 0, g3, g4, .null, g5, g6, g7, g8, g9, g10, g11, g12, g13, g14, g15, g16, g17, g18, g19, g20, g21, g22, g23, g24, g25, g26, g27, g28, g29, g30]))] H := hP
  have hD : va_D A [(a0, .inr (9, [.int 0, g3, g4, .null, g5, g6, g7, g8, g9, g10, g11, g12, g13, g14, g15, g16, g17, g18, g19, g20, g21, g22, g23, g24, g25, g26, g27, g28, g29, g30]))] := hD
  refine lv_aload_n hx hb dX12_loadWorth_5 rfl (lv_at hl 0 rfl) ?_
  refine lv_iload_n hx hb dX12_loadWorth_6 rfl (lv_at hl 1 rfl) ?_
  refine cl_i (wc := [(a0, .inr (9, [.int 0, g3, g4, .null, g5, g6, g7, g8, g9, g10, g11, g12, g13, g14, g15, g16, g17, g18, g19, g20, g21, g22, g23, g24, g25, g26, g27, g28, g29, g30]))]) (wr := []) (va_runV (As := [.int k1]) (rest := []) ⟨hx, hb, hml, hown, hts⟩ (kX12_refusesLoad l dC dI a0 k1 (.int 0) (g3) (g4) (g5) (g6) (g7) (g8) (g9) (g10) (g11) (g12) (g13) (g14) (g15) (g16) (g17) (g18) (g19) (g20) (g21) (g22) (g23) (g24) (g25) (g26) (g27) (g28) (g29) (g30) H.size) (cwV 1 hts gX12_loadWorth_0 rfl rfl rfl (by decide +kernel) ⟨Nat.le_of_ble_eq_true rfl, Nat.le_of_ble_eq_true rfl⟩) (PV (hP.sub (ws' := [(a0, .inr (9, [.int 0, g3, g4, .null, g5, g6, g7, g8, g9, g10, g11, g12, g13, g14, g15, g16, g17, g18, g19, g20, g21, g22, g23, g24, g25, g26, g27, g28, g29, g30]))]) [0] rfl) (hK.sub (tys' := []) [] rfl) (hD.sub (ws' := [(a0, .inr (9, [.int 0, g3, g4, .null, g5, g6, g7, g8, g9, g10, g11, g12, g13, g14, g15, g16, g17, g18, g19, g20, g21, g22, g23, g24, g25, g26, g27, g28, g29, g30]))]) [0] (by decide) rfl) hN 0 rfl rfl) rfl rfl hl.1 rfl (lv_room (Nat.le_of_ble_eq_true rfl)) dX12_loadWorth_7 ⟨Nat.le_of_ble_eq_true rfl, Nat.le_of_ble_eq_true rfl⟩) hP hD hK hS hA [0] [] rfl rfl (by decide) (by decide) (fun z1 _u H locs hw hP hD hK hS => ?_)
  have hP : va_P (dC, dI) vwCl [(a0, .inr (9, [.int 0, g3, g4, .null, g5, g6, g7, g8, g9, g10, g11, g12, g13, g14, g15, g16, g17, g18, g19, g20, g21, g22, g23, g24, g25, g26, g27, g28, g29, g30]))] H := hP
  have hD : va_D A [(a0, .inr (9, [.int 0, g3, g4, .null, g5, g6, g7, g8, g9, g10, g11, g12, g13, g14, g15, g16, g17, g18, g19, g20, g21, g22, g23, g24, g25, g26, g27, g28, g29, g30]))] := hD
  have hK : va_K (dC, dI) vwCl [] s := hK
  obtain rfl : z1 = 1 := hw
  refine lv_istore_n (lv' := [(2, .int 1), (0, .ref a0), (1, .int k1)]) hx hb dX12_loadWorth_10 rfl hl (by decide) rfl (fun ls hl => ?_)
  refine lv_iload_n hx hb dX12_loadWorth_11 rfl (lv_at hl 0 rfl) ?_
  refine lv_if_le (tgt := 21) hx hb dX12_loadWorth_12 (by decide) (fun c2 => absurd c2 (by decide)) (fun _ => ?_)
  refine lv_aload_n hx hb dX12_loadWorth_15 rfl (lv_at hl 1 rfl) ?_
  refine lv_iload_n hx hb dX12_loadWorth_16 rfl (lv_at hl 0 rfl) ?_
  refine cl_i (wc := [(a0, .inr (9, [.int 0, g3, g4, .null, g5, g6, g7, g8, g9, g10, g11, g12, g13, g14, g15, g16, g17, g18, g19, g20, g21, g22, g23, g24, g25, g26, g27, g28, g29, g30]))]) (wr := []) (va_runV (As := [.int 1]) (rest := []) ⟨hx, hb, hml, hown, hts⟩ (kX12_refused_1 l dC dI a0 (.int 0) (g3) (g4) (.null) (g5) (g6) (g7) (g8) (g9) (g10) (g11) (g12) (g13) (g14) (g15) (g16) (g17) (g18) (g19) (g20) (g21) (g22) (g23) (g24) (g25) (g26) (g27) (g28) (g29) (g30) H.size) (cwV 1 hts gX12_loadWorth_1 rfl rfl rfl (by decide +kernel) ⟨Nat.le_of_ble_eq_true rfl, Nat.le_of_ble_eq_true rfl⟩) (PV (hP.sub (ws' := [(a0, .inr (9, [.int 0, g3, g4, .null, g5, g6, g7, g8, g9, g10, g11, g12, g13, g14, g15, g16, g17, g18, g19, g20, g21, g22, g23, g24, g25, g26, g27, g28, g29, g30]))]) [0] rfl) (hK.sub (tys' := []) [] rfl) (hD.sub (ws' := [(a0, .inr (9, [.int 0, g3, g4, .null, g5, g6, g7, g8, g9, g10, g11, g12, g13, g14, g15, g16, g17, g18, g19, g20, g21, g22, g23, g24, g25, g26, g27, g28, g29, g30]))]) [0] (by decide) rfl) hN 0 rfl rfl) rfl rfl hl.1 rfl (lv_room (Nat.le_of_ble_eq_true rfl)) dX12_loadWorth_17 ⟨Nat.le_of_ble_eq_true rfl, Nat.le_of_ble_eq_true rfl⟩) hP hD hK hS hA [0] [] rfl rfl (by decide) (by decide) (fun z3 _u H locs hw hP hD hK hS => ?_)
  have hP : va_P (dC, dI) vwCl [(a0, .inr (9, [.int 0, .int 1, .int (-1), .null, g5, g6, g7, g8, g9, g10, g11, g12, g13, g14, g15, g16, g17, g18, g19, g20, g21, g22, g23, g24, g25, g26, g27, g28, g29, g30]))] H := hP
  have hD : va_D A [(a0, .inr (9, [.int 0, .int 1, .int (-1), .null, g5, g6, g7, g8, g9, g10, g11, g12, g13, g14, g15, g16, g17, g18, g19, g20, g21, g22, g23, g24, g25, g26, g27, g28, g29, g30]))] := hD
  have hK : va_K (dC, dI) vwCl [] s := hK
  obtain rfl : z3 = (-1) := hw
  have hP9 := hP.sub (ws' := []) [] rfl
  have hD9 := hD.sub (ws' := []) [] (by decide) rfl
  have hK9 := hK.sub (tys' := []) [] rfl
  exact W.iret (v := (-1)) hx hb hr (fun t ht hW => ⟨⟨(-1), (), rfl, rfl, by rw [ht]; exact hP9, va_K.moved hW.alike hK9, hD9⟩, hS.F ht⟩) hS.2.2 dX12_loadWorth_20
theorem dX10_bestDay_0 : decode cX10_bestDay 0 = .ok (.aload_n 0, 1) := by decide +kernel
theorem dX10_bestDay_1 : decode cX10_bestDay 1 = .ok (.aload_n 0, 1) := by decide +kernel
theorem dX10_bestDay_11 : decode cX10_bestDay 11 = .ok (.iconst (-1), 1) := by decide +kernel
theorem dX10_bestDay_12 : decode cX10_bestDay 12 = .ok (.ireturn, 1) := by decide +kernel
theorem dX10_bestDay_2 : decode cX10_bestDay 2 = .ok (.invokevirtual 216, 3) := by decide +kernel
theorem dX10_bestDay_5 : decode cX10_bestDay 5 = .ok (.invokevirtual 79, 3) := by decide +kernel
theorem dX10_bestDay_8 : decode cX10_bestDay 8 = .ok (.ifCond .eq 5, 3) := by decide +kernel
def vX10_bestDay : List Cond := .code yX10_bestDay cX10_bestDay 6 (some .int) :: ([.methodLink RX10 216 yX10_pierTrouble, .instanceMethod yX10_pierTrouble, .selects RX10 yX10_pierTrouble yX10_pierTrouble, .initialized RX10, .code yX10_pierTrouble cX10_pierTrouble 1 (some .int), .fieldLink RX10 10 "HookPier" "plan" "LHookPier$Plan;", .fieldLink RX10 233 "HookPier$Plan" "spots" "I", .methodLink RX10 79 yX10_refused, .instanceMethod yX10_refused, .selects RX10 yX10_refused yX10_refused, .code yX10_refused cX10_refused 2 (some .boolean), .fieldLink RX10 61 "HookPier" "troubleNow" "I"] ++ wsX100 ++ wsX60)
theorem iX10_bestDay_X10 : ∀ w ∈ wsX100, w ∈ vX10_bestDay := fun _ h => List.mem_cons_of_mem _ (List.mem_append_left _ (List.mem_append_right _ h))
theorem iX10_bestDay_X6 : ∀ w ∈ wsX60, w ∈ vX10_bestDay := fun _ h => List.mem_cons_of_mem _ (List.mem_append_right _ h)
set_option maxRecDepth 20000 in
theorem gX10_bestDay_0 : GoodIn vX10_bestDay (wsV RX10 216 RX10 yX10_pierTrouble vX10_pierTrouble) := goodIn_app (goodIn_r [.methodLink RX10 216 yX10_pierTrouble, .instanceMethod yX10_pierTrouble, .selects RX10 yX10_pierTrouble yX10_pierTrouble, .initialized RX10] [1, 2, 3, 4] (by decide +kernel) (by decide +kernel)) (goodIn_ca (goodIn_ca (goodIn_r (.code yX10_pierTrouble cX10_pierTrouble 1 (some .int) :: [.fieldLink RX10 10 "HookPier" "plan" "LHookPier$Plan;", .fieldLink RX10 233 "HookPier$Plan" "spots" "I"]) [5, 6, 7] (by decide +kernel) (by decide +kernel) : GoodIn vX10_bestDay (.code yX10_pierTrouble cX10_pierTrouble 1 (some .int) :: [.fieldLink RX10 10 "HookPier" "plan" "LHookPier$Plan;", .fieldLink RX10 233 "HookPier$Plan" "spots" "I"])) (goodIn_sub iX10_bestDay_X10 (by decide +kernel))) (goodIn_sub iX10_bestDay_X6 (by decide +kernel)))
set_option maxRecDepth 20000 in
theorem gX10_bestDay_1 : GoodIn vX10_bestDay (wsV RX10 79 RX10 yX10_refused vX10_refused_3) := goodIn_app (goodIn_r [.methodLink RX10 79 yX10_refused, .instanceMethod yX10_refused, .selects RX10 yX10_refused yX10_refused, .initialized RX10] [8, 9, 10, 4] (by decide +kernel) (by decide +kernel)) (goodIn_ca (goodIn_r (.code yX10_refused cX10_refused 2 (some .boolean) :: [.fieldLink RX10 61 "HookPier" "troubleNow" "I"]) [11, 12] (by decide +kernel) (by decide +kernel) : GoodIn vX10_bestDay (.code yX10_refused cX10_refused 2 (some .boolean) :: [.fieldLink RX10 61 "HookPier" "troubleNow" "I"])) (goodIn_sub iX10_bestDay_X10 (by decide +kernel)))
set_option maxHeartbeats 1000000 in
set_option maxRecDepth 100000 in
theorem kX10_bestDay (l : Launch) (dC : Nat → ClassId) (dI : Nat → Nat → Nat) (a0 : Nat) (a1 : Nat) (g2 : Value) (g3 : Value) (g4 : Value) (g5 : Value) (g6 : Value) (g7 : Value) (g8 : Value) (g9 : Value) (g10 : Value) (g11 : Value) (g12 : Value) (g13 : Value) (g14 : Value) (g15 : Value) (g16 : Value) (g17 : Value) (g18 : Value) (g19 : Value) (g20 : Value) (g21 : Value) (g22 : Value) (g23 : Value) (g24 : Value) (g25 : Value) (g26 : Value) (g27 : Value) (sz : Nat) : Met l yX10_bestDay vX10_bestDay ({ frames := 1, cells := 0, slots := 0, locals := 21 }) (PC (dC, dI) [.ref a0] sz [(a0, .inr (7, [.ref a1, g2, g3, g4, g5, g6, g7, g8, g9, g10])), (a1, .inr (4, [.int 0, g11, g12, g13, g14, g15, g16, g17, g18, g19, g20, g21, g22, g23, g24, g25, g26, g27]))] []) (va_Qi (S := Unit) (fun (r : Int32) _ => r = (-1)) (fun _ t => BC (dC, dI) (va_A [(a0, .inr (7, [.ref a1, g2, g3, g4, g5, g6, g7, g8, g9, g10])), (a1, .inr (4, [.int 0, g11, g12, g13, g14, g15, g16, g17, g18, g19, g20, g21, g22, g23, g24, g25, g26, g27]))] sz) [] [] t) (va_A [(a0, .inr (7, [.ref a1, g2, g3, g4, g5, g6, g7, g8, g9, g10])), (a1, .inr (4, [.int 0, g11, g12, g13, g14, g15, g16, g17, g18, g19, g20, g21, g22, g23, g24, g25, g26, g27]))] sz)) 0 0 (va_A [(a0, .inr (7, [.ref a1, g2, g3, g4, g5, g6, g7, g8, g9, g10])), (a1, .inr (4, [.int 0, g11, g12, g13, g14, g15, g16, g17, g18, g19, g20, g21, g22, g23, g24, g25, g26, g27]))] sz) := by
  refine Met.ofW (cc := cX10_bestDay) (maxL := 6) (ret := (some .int)) (by decide) rfl ?_
  intro p e s m args below meth c s₁ B hml hv
  obtain ⟨rfl, hsz, hP, hK, hD0, hN⟩ := hv
  have hx := B.exec
  have hb := B.bytes
  have hr := B.returns
  have hts := atoms_spec (ws := vX10_bestDay) B.pre
  have hown : s.vm.findClass RX10 = some m.cls := findClass_of_methodNamed B.named
  have hlocks := B.notSynchronized
  subst hsz
  have hD := hD0.self (sz := s.heap.size)
  generalize hAe : va_A [(a0, .inr (7, [.ref a1, g2, g3, g4, g5, g6, g7, g8, g9, g10])), (a1, .inr (4, [.int 0, g11, g12, g13, g14, g15, g16, g17, g18, g19, g20, g21, g22, g23, g24, g25, g26, g27]))] s.heap.size = A at hD ⊢
  have hA : ∀ q : Nat, s.heap.size ≤ q → A q := fun q h => by rw [← hAe]; exact Or.inr h
  have hS : va_S A s.heap s.heap [] := va_S.rf
  have hP : va_P (dC, dI) vwCl [(a0, .inr (7, [.ref a1, g2, g3, g4, g5, g6, g7, g8, g9, g10])), (a1, .inr (4, [.int 0, g11, g12, g13, g14, g15, g16, g17, g18, g19, g20, g21, g22, g23, g24, g25, g26, g27]))] s.heap := hP
  have hl := lv_entry ([.ref a0]) (n := 6) (Nat.le_of_ble_eq_true rfl)
  rw [lg_entry_eq]
  generalize (lg_sl ([.ref a0]) ++ List.replicate (6 - (lg_sl ([.ref a0])).length) Slot.unset).toArray = ls at hl ⊢
  have hl : lv_has ls 6 [(0, .ref a0)] := hl
  refine lv_aload_n hx hb dX10_bestDay_0 rfl (lv_at hl 0 rfl) ?_
  refine lv_aload_n hx hb dX10_bestDay_1 rfl (lv_at hl 0 rfl) ?_
  refine cl_i (wc := [(a0, .inr (7, [.ref a1, g2, g3, g4, g5, g6, g7, g8, g9, g10])), (a1, .inr (4, [.int 0, g11, g12, g13, g14, g15, g16, g17, g18, g19, g20, g21, g22, g23, g24, g25, g26, g27]))]) (wr := []) (va_runV (As := []) (rest := [.ref a0]) ⟨hx, hb, hml, hown, hts⟩ (kX10_pierTrouble l dC dI a0 a1 (g2) (g3) (g4) (g5) (g6) (g7) (g8) (g9) (g10) (g11) (g12) (g13) (g14) (g15) (g16) (g17) (g18) (g19) (g20) (g21) (g22) (g23) (g24) (g25) (g26) (g27) s.heap.size) (cwV 0 hts gX10_bestDay_0 rfl rfl rfl (by decide +kernel) ⟨Nat.le_of_ble_eq_true rfl, Nat.le_of_ble_eq_true rfl⟩) (PV (hP.sub (ws' := [(a0, .inr (7, [.ref a1, g2, g3, g4, g5, g6, g7, g8, g9, g10])), (a1, .inr (4, [.int 0, g11, g12, g13, g14, g15, g16, g17, g18, g19, g20, g21, g22, g23, g24, g25, g26, g27]))]) [0, 1] rfl) (hK.sub (tys' := []) [] rfl) (hD.sub (ws' := [(a0, .inr (7, [.ref a1, g2, g3, g4, g5, g6, g7, g8, g9, g10])), (a1, .inr (4, [.int 0, g11, g12, g13, g14, g15, g16, g17, g18, g19, g20, g21, g22, g23, g24, g25, g26, g27]))]) [0, 1] (by decide) rfl) hN 0 rfl rfl) rfl rfl hl.1 rfl (lv_room (Nat.le_of_ble_eq_true rfl)) dX10_bestDay_2 ⟨Nat.le_of_ble_eq_true rfl, Nat.le_of_ble_eq_true rfl⟩) hP hD hK hS hA [0, 1] [] rfl rfl (by decide) (by decide) (fun z1 _u H locs hw hP hD hK hS => ?_)
  have hP : va_P (dC, dI) vwCl [(a0, .inr (7, [.ref a1, g2, g3, g4, g5, g6, g7, g8, g9, g10])), (a1, .inr (4, [.int 0, g11, g12, g13, g14, g15, g16, g17, g18, g19, g20, g21, g22, g23, g24, g25, g26, g27]))] H := hP
  have hD : va_D A [(a0, .inr (7, [.ref a1, g2, g3, g4, g5, g6, g7, g8, g9, g10])), (a1, .inr (4, [.int 0, g11, g12, g13, g14, g15, g16, g17, g18, g19, g20, g21, g22, g23, g24, g25, g26, g27]))] := hD
  have hK : va_K (dC, dI) vwCl [] s := hK
  obtain rfl : z1 = 1 := hw
  refine cl_i (wc := [(a0, .inr (7, [.ref a1, g2, g3, g4, g5, g6, g7, g8, g9, g10]))]) (wr := [(a1, .inr (4, [.int 0, g11, g12, g13, g14, g15, g16, g17, g18, g19, g20, g21, g22, g23, g24, g25, g26, g27]))]) (va_runV (As := [.int 1]) (rest := []) ⟨hx, hb, hml, hown, hts⟩ (kX10_refused_3 l dC dI a0 (.ref a1) (g2) (g3) (g4) (g5) (g6) (g7) (g8) (g9) (g10) H.size) (cwV 1 hts gX10_bestDay_1 rfl rfl rfl (by decide +kernel) ⟨Nat.le_of_ble_eq_true rfl, Nat.le_of_ble_eq_true rfl⟩) (PV (hP.sub (ws' := [(a0, .inr (7, [.ref a1, g2, g3, g4, g5, g6, g7, g8, g9, g10]))]) [0] rfl) (hK.sub (tys' := []) [] rfl) (hD.sub (ws' := [(a0, .inr (7, [.ref a1, g2, g3, g4, g5, g6, g7, g8, g9, g10]))]) [0] (by decide) rfl) hN 0 rfl rfl) rfl rfl hl.1 rfl (lv_room (Nat.le_of_ble_eq_true rfl)) dX10_bestDay_5 ⟨Nat.le_of_ble_eq_true rfl, Nat.le_of_ble_eq_true rfl⟩) hP hD hK hS hA [0] [1] rfl rfl (by decide) (by decide) (fun z2 _u H locs hw hP hD hK hS => ?_)
  have hP : va_P (dC, dI) vwCl [(a1, .inr (4, [.int 0, g11, g12, g13, g14, g15, g16, g17, g18, g19, g20, g21, g22, g23, g24, g25, g26, g27])), (a0, .inr (7, [.ref a1, g2, g3, g4, g5, g6, g7, g8, .int 1, g10]))] H := hP
  have hD : va_D A [(a1, .inr (4, [.int 0, g11, g12, g13, g14, g15, g16, g17, g18, g19, g20, g21, g22, g23, g24, g25, g26, g27])), (a0, .inr (7, [.ref a1, g2, g3, g4, g5, g6, g7, g8, .int 1, g10]))] := hD
  have hK : va_K (dC, dI) vwCl [] s := hK
  obtain rfl : z2 = 1 := hw
  refine lv_if_eq (tgt := 13) hx hb dX10_bestDay_8 (by decide) (fun c3 => absurd c3 (by decide)) (fun _ => ?_)
  refine lv_iconst (v := (-1)) hx hb dX10_bestDay_11 (by decide) ?_
  have hP9 := hP.sub (ws' := []) [] rfl
  have hD9 := hD.sub (ws' := []) [] (by decide) rfl
  have hK9 := hK.sub (tys' := []) [] rfl
  exact W.iret (v := (-1)) hx hb hr (fun t ht hW => ⟨⟨(-1), (), rfl, rfl, by rw [ht]; exact hP9, va_K.moved hW.alike hK9, hD9⟩, hS.F ht⟩) hS.2.2 dX10_bestDay_12
theorem dX12_bestDay_0 : decode cX12_bestDay 0 = .ok (.aload_n 0, 1) := by decide +kernel
theorem dX12_bestDay_1 : decode cX12_bestDay 1 = .ok (.iconst 0, 1) := by decide +kernel
theorem dX12_bestDay_12 : decode cX12_bestDay 12 = .ok (.aload_n 0, 1) := by decide +kernel
theorem dX12_bestDay_13 : decode cX12_bestDay 13 = .ok (.iconst 1, 1) := by decide +kernel
theorem dX12_bestDay_14 : decode cX12_bestDay 14 = .ok (.invokevirtual 42, 3) := by decide +kernel
theorem dX12_bestDay_17 : decode cX12_bestDay 17 = .ok (.ireturn, 1) := by decide +kernel
theorem dX12_bestDay_2 : decode cX12_bestDay 2 = .ok (.putfield 36, 3) := by decide +kernel
theorem dX12_bestDay_5 : decode cX12_bestDay 5 = .ok (.aload_n 0, 1) := by decide +kernel
theorem dX12_bestDay_6 : decode cX12_bestDay 6 = .ok (.getfield 299, 3) := by decide +kernel
theorem dX12_bestDay_9 : decode cX12_bestDay 9 = .ok (.ifnonnull 9, 3) := by decide +kernel
def vX12_bestDay : List Cond := .code yX12_bestDay cX12_bestDay 6 (some .int) :: ([.fieldLink RX12 36 "HookPierModel" "thrown" "I", .fieldLink RX12 299 "HookPierModel" "pier" "LHookPierModel$Pier;", .methodLink RX12 42 yX12_refused, .instanceMethod yX12_refused, .selects RX12 yX12_refused yX12_refused, .initialized RX12, .code yX12_refused cX12_refused 2 (some .int), .fieldLink RX12 39 "HookPierModel" "trouble" "I", .fieldLink RX12 9 "HookPierModel" "where" "I"] ++ wsX120)
theorem iX12_bestDay_X12 : ∀ w ∈ wsX120, w ∈ vX12_bestDay := fun _ h => List.mem_cons_of_mem _ (List.mem_append_right _ h)
set_option maxRecDepth 20000 in
theorem gX12_bestDay_0 : GoodIn vX12_bestDay (wsV RX12 42 RX12 yX12_refused vX12_refused_1) := goodIn_app (goodIn_r [.methodLink RX12 42 yX12_refused, .instanceMethod yX12_refused, .selects RX12 yX12_refused yX12_refused, .initialized RX12] [3, 4, 5, 6] (by decide +kernel) (by decide +kernel)) (goodIn_ca (goodIn_r (.code yX12_refused cX12_refused 2 (some .int) :: [.fieldLink RX12 39 "HookPierModel" "trouble" "I", .fieldLink RX12 9 "HookPierModel" "where" "I"]) [7, 8, 9] (by decide +kernel) (by decide +kernel) : GoodIn vX12_bestDay (.code yX12_refused cX12_refused 2 (some .int) :: [.fieldLink RX12 39 "HookPierModel" "trouble" "I", .fieldLink RX12 9 "HookPierModel" "where" "I"])) (goodIn_sub iX12_bestDay_X12 (by decide +kernel)))
set_option maxHeartbeats 1000000 in
set_option maxRecDepth 100000 in
theorem kX12_bestDay (l : Launch) (dC : Nat → ClassId) (dI : Nat → Nat → Nat) (a0 : Nat) (g1 : Value) (g2 : Value) (g3 : Value) (g4 : Value) (g5 : Value) (g6 : Value) (g7 : Value) (g8 : Value) (g9 : Value) (g10 : Value) (g11 : Value) (g12 : Value) (g13 : Value) (g14 : Value) (g15 : Value) (g16 : Value) (g17 : Value) (g18 : Value) (g19 : Value) (g20 : Value) (g21 : Value) (g22 : Value) (g23 : Value) (g24 : Value) (g25 : Value) (g26 : Value) (g27 : Value) (g28 : Value) (g29 : Value) (sz : Nat) : Met l yX12_bestDay vX12_bestDay ({ frames := 1, cells := 0, slots := 0, locals := 21 }) (PC (dC, dI) [.ref a0] sz [(a0, .inr (9, [g1, g2, g3, .null, g4, g5, g6, g7, g8, g9, g10, g11, g12, g13, g14, g15, g16, g17, g18, g19, g20, g21, g22, g23, g24, g25, g26, g27, g28, g29]))] []) (va_Qi (S := Unit) (fun (r : Int32) _ => r = (-1)) (fun _ t => BC (dC, dI) (va_A [(a0, .inr (9, [g1, g2, g3, .null, g4, g5, g6, g7, g8, g9, g10, g11, g12, g13, g14, g15, g16, g17, g18, g19, g20, g21, g22, g23, g24, g25, g26, g27, g28, g29]))] sz) [] [] t) (va_A [(a0, .inr (9, [g1, g2, g3, .null, g4, g5, g6, g7, g8, g9, g10, g11, g12, g13, g14, g15, g16, g17, g18, g19, g20, g21, g22, g23, g24, g25, g26, g27, g28, g29]))] sz)) 0 0 (va_A [(a0, .inr (9, [g1, g2, g3, .null, g4, g5, g6, g7, g8, g9, g10, g11, g12, g13, g14, g15, g16, g17, g18, g19, g20, g21, g22, g23, g24, g25, g26, g27, g28, g29]))] sz) := by
  refine Met.ofW (cc := cX12_bestDay) (maxL := 6) (ret := (some .int)) (by decide) rfl ?_
  intro p e s m args below meth c s₁ B hml hv
  obtain ⟨rfl, hsz, hP, hK, hD0, hN⟩ := hv
  have hx := B.exec
  have hb := B.bytes
  have hr := B.returns
  have hts := atoms_spec (ws := vX12_bestDay) B.pre
  have hown : s.vm.findClass RX12 = some m.cls := findClass_of_methodNamed B.named
  have hlocks := B.notSynchronized
  subst hsz
  have hD := hD0.self (sz := s.heap.size)
  generalize hAe : va_A [(a0, .inr (9, [g1, g2, g3, .null, g4, g5, g6, g7, g8, g9, g10, g11, g12, g13, g14, g15, g16, g17, g18, g19, g20, g21, g22, g23, g24, g25, g26, g27, g28, g29]))] s.heap.size = A at hD ⊢
  have hA : ∀ q : Nat, s.heap.size ≤ q → A q := fun q h => by rw [← hAe]; exact Or.inr h
  have hS : va_S A s.heap s.heap [] := va_S.rf
  have hP : va_P (dC, dI) vwCl [(a0, .inr (9, [g1, g2, g3, .null, g4, g5, g6, g7, g8, g9, g10, g11, g12, g13, g14, g15, g16, g17, g18, g19, g20, g21, g22, g23, g24, g25, g26, g27, g28, g29]))] s.heap := hP
  have hl := lv_entry ([.ref a0]) (n := 6) (Nat.le_of_ble_eq_true rfl)
  rw [lg_entry_eq]
  generalize (lg_sl ([.ref a0]) ++ List.replicate (6 - (lg_sl ([.ref a0])).length) Slot.unset).toArray = ls at hl ⊢
  have hl : lv_has ls 6 [(0, .ref a0)] := hl
  refine lv_aload_n hx hb dX12_bestDay_0 rfl (lv_at hl 0 rfl) ?_
  refine lv_iconst (v := 0) hx hb dX12_bestDay_1 (by decide) ?_
  refine va_put (D := (dC, dI)) (ci := 9) (v := .int 0) (ty := .int) (C := RX12) (T := TX12) (N := 30) hx hb hts iX12_bestDay_X12 tyX12 tyX12_ok nmX12 hown hK hP hD hS 0 rfl rfl 0 (by decide) (hts (.fieldLink RX12 36 "HookPierModel" "thrown" "I") (List.mem_of_getElem? (i := 1) rfl)) (fun _ h9 => h9) rfl (by decide +kernel) rfl rfl (Nat.le_of_ble_eq_true rfl) dX12_bestDay_2 (fun H locs hP hD hS => ?_)
  have hP : va_P (dC, dI) vwCl [(a0, .inr (9, [.int 0, g2, g3, .null, g4, g5, g6, g7, g8, g9, g10, g11, g12, g13, g14, g15, g16, g17, g18, g19, g20, g21, g22, g23, g24, g25, g26, g27, g28, g29]))] H := hP
  have hD : va_D A [(a0, .inr (9, [.int 0, g2, g3, .null, g4, g5, g6, g7, g8, g9, g10, g11, g12, g13, g14, g15, g16, g17, g18, g19, g20, g21, g22, g23, g24, g25, g26, g27, g28, g29]))] := hD
  refine lv_aload_n hx hb dX12_bestDay_5 rfl (lv_at hl 0 rfl) ?_
  refine va_get (D := (dC, dI)) (ci := 9) (v := .null) (C := RX12) (T := TX12) (N := 30) hx hb hts iX12_bestDay_X12 hown hK hP 0 rfl rfl 3 (by decide) (hts (.fieldLink RX12 299 "HookPierModel" "pier" "LHookPierModel$Pier;") (List.mem_of_getElem? (i := 2) rfl)) (fun _ h9 => h9) rfl dX12_bestDay_6 ?_
  refine lv_ifnonnullN hx hb dX12_bestDay_9 ?_
  refine lv_aload_n hx hb dX12_bestDay_12 rfl (lv_at hl 0 rfl) ?_
  refine lv_iconst (v := 1) hx hb dX12_bestDay_13 (by decide) ?_
  refine cl_i (wc := [(a0, .inr (9, [.int 0, g2, g3, .null, g4, g5, g6, g7, g8, g9, g10, g11, g12, g13, g14, g15, g16, g17, g18, g19, g20, g21, g22, g23, g24, g25, g26, g27, g28, g29]))]) (wr := []) (va_runV (As := [.int 1]) (rest := []) ⟨hx, hb, hml, hown, hts⟩ (kX12_refused_1 l dC dI a0 (.int 0) (g2) (g3) (.null) (g4) (g5) (g6) (g7) (g8) (g9) (g10) (g11) (g12) (g13) (g14) (g15) (g16) (g17) (g18) (g19) (g20) (g21) (g22) (g23) (g24) (g25) (g26) (g27) (g28) (g29) H.size) (cwV 1 hts gX12_bestDay_0 rfl rfl rfl (by decide +kernel) ⟨Nat.le_of_ble_eq_true rfl, Nat.le_of_ble_eq_true rfl⟩) (PV (hP.sub (ws' := [(a0, .inr (9, [.int 0, g2, g3, .null, g4, g5, g6, g7, g8, g9, g10, g11, g12, g13, g14, g15, g16, g17, g18, g19, g20, g21, g22, g23, g24, g25, g26, g27, g28, g29]))]) [0] rfl) (hK.sub (tys' := []) [] rfl) (hD.sub (ws' := [(a0, .inr (9, [.int 0, g2, g3, .null, g4, g5, g6, g7, g8, g9, g10, g11, g12, g13, g14, g15, g16, g17, g18, g19, g20, g21, g22, g23, g24, g25, g26, g27, g28, g29]))]) [0] (by decide) rfl) hN 0 rfl rfl) rfl rfl hl.1 rfl (lv_room (Nat.le_of_ble_eq_true rfl)) dX12_bestDay_14 ⟨Nat.le_of_ble_eq_true rfl, Nat.le_of_ble_eq_true rfl⟩) hP hD hK hS hA [0] [] rfl rfl (by decide) (by decide) (fun z1 _u H locs hw hP hD hK hS => ?_)
  have hP : va_P (dC, dI) vwCl [(a0, .inr (9, [.int 0, .int 1, .int (-1), .null, g4, g5, g6, g7, g8, g9, g10, g11, g12, g13, g14, g15, g16, g17, g18, g19, g20, g21, g22, g23, g24, g25, g26, g27, g28, g29]))] H := hP
  have hD : va_D A [(a0, .inr (9, [.int 0, .int 1, .int (-1), .null, g4, g5, g6, g7, g8, g9, g10, g11, g12, g13, g14, g15, g16, g17, g18, g19, g20, g21, g22, g23, g24, g25, g26, g27, g28, g29]))] := hD
  have hK : va_K (dC, dI) vwCl [] s := hK
  obtain rfl : z1 = (-1) := hw
  have hP9 := hP.sub (ws' := []) [] rfl
  have hD9 := hD.sub (ws' := []) [] (by decide) rfl
  have hK9 := hK.sub (tys' := []) [] rfl
  exact W.iret (v := (-1)) hx hb hr (fun t ht hW => ⟨⟨(-1), (), rfl, rfl, by rw [ht]; exact hP9, va_K.moved hW.alike hK9, hD9⟩, hS.F ht⟩) hS.2.2 dX12_bestDay_17
theorem dX10_hooksTrouble_0 : decode cX10_hooksTrouble 0 = .ok (.aload_n 0, 1) := by decide +kernel
theorem dX10_hooksTrouble_1 : decode cX10_hooksTrouble 1 = .ok (.getfield 10, 3) := by decide +kernel
theorem dX10_hooksTrouble_38 : decode cX10_hooksTrouble 38 = .ok (.iconst 1, 1) := by decide +kernel
theorem dX10_hooksTrouble_39 : decode cX10_hooksTrouble 39 = .ok (.ireturn, 1) := by decide +kernel
theorem dX10_hooksTrouble_4 : decode cX10_hooksTrouble 4 = .ok (.iload_n 1, 1) := by decide +kernel
theorem dX10_hooksTrouble_5 : decode cX10_hooksTrouble 5 = .ok (.invokevirtual 381, 3) := by decide +kernel
theorem dX10_hooksTrouble_8 : decode cX10_hooksTrouble 8 = .ok (.ifCond .eq 30, 3) := by decide +kernel
def vX10_hooksTrouble : List Cond := .code yX10_hooksTrouble cX10_hooksTrouble 5 (some .int) :: ([.fieldLink RX10 10 "HookPier" "plan" "LHookPier$Plan;", .methodLink RX10 381 yX6_hasAnswer, .instanceMethod yX6_hasAnswer, .selects RX6 yX6_hasAnswer yX6_hasAnswer, .initialized RX6, .code yX6_hasAnswer cX6_hasAnswer 2 (some .boolean), .fieldLink RX6 30 "HookPier$Plan" "answers" "I", .code yX10_within cX10_within 3 (some .boolean), .initialized RX10, .static yX10_within] ++ wsX100 ++ wsX60)
theorem iX10_hooksTrouble_X10 : ∀ w ∈ wsX100, w ∈ vX10_hooksTrouble := fun _ h => List.mem_cons_of_mem _ (List.mem_append_left _ (List.mem_append_right _ h))
theorem iX10_hooksTrouble_X6 : ∀ w ∈ wsX60, w ∈ vX10_hooksTrouble := fun _ h => List.mem_cons_of_mem _ (List.mem_append_right _ h)
set_option maxRecDepth 20000 in
theorem gX10_hooksTrouble_0 : GoodIn vX10_hooksTrouble (wsV RX10 381 RX6 yX6_hasAnswer vX6_hasAnswer) := goodIn_app (goodIn_r [.methodLink RX10 381 yX6_hasAnswer, .instanceMethod yX6_hasAnswer, .selects RX6 yX6_hasAnswer yX6_hasAnswer, .initialized RX6] [2, 3, 4, 5] (by decide +kernel) (by decide +kernel)) (goodIn_ca (goodIn_r (.code yX6_hasAnswer cX6_hasAnswer 2 (some .boolean) :: [.fieldLink RX6 30 "HookPier$Plan" "answers" "I", .code yX10_within cX10_within 3 (some .boolean), .initialized RX10, .static yX10_within]) [6, 7, 8, 9, 10] (by decide +kernel) (by decide +kernel) : GoodIn vX10_hooksTrouble (.code yX6_hasAnswer cX6_hasAnswer 2 (some .boolean) :: [.fieldLink RX6 30 "HookPier$Plan" "answers" "I", .code yX10_within cX10_within 3 (some .boolean), .initialized RX10, .static yX10_within])) (goodIn_sub iX10_hooksTrouble_X6 (by decide +kernel)))
set_option maxHeartbeats 1000000 in
set_option maxRecDepth 100000 in
theorem kX10_hooksTrouble (l : Launch) (dC : Nat → ClassId) (dI : Nat → Nat → Nat) (a0 : Nat) (k1 : Int32) (k2 : Int32) (k3 : Int32) (k4 : Int32) (a5 : Nat) (g6 : Value) (g7 : Value) (g8 : Value) (g9 : Value) (g10 : Value) (g11 : Value) (g12 : Value) (g13 : Value) (g14 : Value) (g15 : Value) (g16 : Value) (g17 : Value) (g18 : Value) (g19 : Value) (g20 : Value) (g21 : Value) (g22 : Value) (g23 : Value) (g24 : Value) (g25 : Value) (g26 : Value) (g27 : Value) (g28 : Value) (g29 : Value) (g30 : Value) (g31 : Value) (sz : Nat) : Met l yX10_hooksTrouble vX10_hooksTrouble ({ frames := 2, cells := 0, slots := 0, locals := 43 }) (PC (dC, dI) [.ref a0, .int k1, .int k2, .int k3, .int k4] sz [(a0, .inr (7, [.ref a5, g6, g7, g8, g9, g10, g11, g12, g13, g14])), (a5, .inr (4, [g15, g16, g17, g18, g19, g20, .int 0, g21, g22, g23, g24, g25, g26, g27, g28, g29, g30, g31]))] []) (va_Qi (S := Unit) (fun (r : Int32) _ => r = 1) (fun _ t => BC (dC, dI) (va_A [(a0, .inr (7, [.ref a5, g6, g7, g8, g9, g10, g11, g12, g13, g14])), (a5, .inr (4, [g15, g16, g17, g18, g19, g20, .int 0, g21, g22, g23, g24, g25, g26, g27, g28, g29, g30, g31]))] sz) [(a0, .inr (7, [.ref a5, g6, g7, g8, g9, g10, g11, g12, g13, g14])), (a5, .inr (4, [g15, g16, g17, g18, g19, g20, .int 0, g21, g22, g23, g24, g25, g26, g27, g28, g29, g30, g31]))] [] t) (va_A [(a0, .inr (7, [.ref a5, g6, g7, g8, g9, g10, g11, g12, g13, g14])), (a5, .inr (4, [g15, g16, g17, g18, g19, g20, .int 0, g21, g22, g23, g24, g25, g26, g27, g28, g29, g30, g31]))] sz)) 0 0 (va_A [(a0, .inr (7, [.ref a5, g6, g7, g8, g9, g10, g11, g12, g13, g14])), (a5, .inr (4, [g15, g16, g17, g18, g19, g20, .int 0, g21, g22, g23, g24, g25, g26, g27, g28, g29, g30, g31]))] sz) := by
  refine Met.ofW (cc := cX10_hooksTrouble) (maxL := 5) (ret := (some .int)) (by decide) rfl ?_
  intro p e s m args below meth c s₁ B hml hv
  obtain ⟨rfl, hsz, hP, hK, hD0, hN⟩ := hv
  have hx := B.exec
  have hb := B.bytes
  have hr := B.returns
  have hts := atoms_spec (ws := vX10_hooksTrouble) B.pre
  have hown : s.vm.findClass RX10 = some m.cls := findClass_of_methodNamed B.named
  have hlocks := B.notSynchronized
  subst hsz
  have hD := hD0.self (sz := s.heap.size)
  generalize hAe : va_A [(a0, .inr (7, [.ref a5, g6, g7, g8, g9, g10, g11, g12, g13, g14])), (a5, .inr (4, [g15, g16, g17, g18, g19, g20, .int 0, g21, g22, g23, g24, g25, g26, g27, g28, g29, g30, g31]))] s.heap.size = A at hD ⊢
  have hA : ∀ q : Nat, s.heap.size ≤ q → A q := fun q h => by rw [← hAe]; exact Or.inr h
  have hS : va_S A s.heap s.heap [] := va_S.rf
  have hP : va_P (dC, dI) vwCl [(a0, .inr (7, [.ref a5, g6, g7, g8, g9, g10, g11, g12, g13, g14])), (a5, .inr (4, [g15, g16, g17, g18, g19, g20, .int 0, g21, g22, g23, g24, g25, g26, g27, g28, g29, g30, g31]))] s.heap := hP
  have hl := lv_entry ([.ref a0, .int k1, .int k2, .int k3, .int k4]) (n := 5) (Nat.le_of_ble_eq_true rfl)
  rw [lg_entry_eq]
  generalize (lg_sl ([.ref a0, .int k1, .int k2, .int k3, .int k4]) ++ List.replicate (5 - (lg_sl ([.ref a0, .int k1, .int k2, .int k3, .int k4])).length) Slot.unset).toArray = ls at hl ⊢
  have hl : lv_has ls 5 [(0, .ref a0), (1, .int k1), (2, .int k2), (3, .int k3), (4, .int k4)] := hl
  refine lv_aload_n hx hb dX10_hooksTrouble_0 rfl (lv_at hl 0 rfl) ?_
  refine va_get (D := (dC, dI)) (ci := 7) (v := .ref a5) (C := RX10) (T := TX10) (N := 10) hx hb hts iX10_hooksTrouble_X10 hown hK hP 0 rfl rfl 0 (by decide) (hts (.fieldLink RX10 10 "HookPier" "plan" "LHookPier$Plan;") (List.mem_of_getElem? (i := 1) rfl)) (fun _ h9 => h9) rfl dX10_hooksTrouble_1 ?_
  refine lv_iload_n hx hb dX10_hooksTrouble_4 rfl (lv_at hl 1 rfl) ?_
  refine cl_i (wc := [(a5, .inr (4, [g15, g16, g17, g18, g19, g20, .int 0, g21, g22, g23, g24, g25, g26, g27, g28, g29, g30, g31]))]) (wr := [(a0, .inr (7, [.ref a5, g6, g7, g8, g9, g10, g11, g12, g13, g14]))]) (va_runV (As := [.int k1]) (rest := []) ⟨hx, hb, hml, hown, hts⟩ (kX6_hasAnswer l dC dI a5 k1 (g15) (g16) (g17) (g18) (g19) (g20) (g21) (g22) (g23) (g24) (g25) (g26) (g27) (g28) (g29) (g30) (g31) s.heap.size) (cwV 1 hts gX10_hooksTrouble_0 rfl rfl rfl (by decide +kernel) ⟨Nat.le_of_ble_eq_true rfl, Nat.le_of_ble_eq_true rfl⟩) (PV (hP.sub (ws' := [(a5, .inr (4, [g15, g16, g17, g18, g19, g20, .int 0, g21, g22, g23, g24, g25, g26, g27, g28, g29, g30, g31]))]) [1] rfl) (hK.sub (tys' := []) [] rfl) (hD.sub (ws' := [(a5, .inr (4, [g15, g16, g17, g18, g19, g20, .int 0, g21, g22, g23, g24, g25, g26, g27, g28, g29, g30, g31]))]) [1] (by decide) rfl) hN 0 rfl rfl) rfl rfl hl.1 rfl (lv_room (Nat.le_of_ble_eq_true rfl)) dX10_hooksTrouble_5 ⟨Nat.le_of_ble_eq_true rfl, Nat.le_of_ble_eq_true rfl⟩) hP hD hK hS hA [1] [0] rfl rfl (by decide) (by decide) (fun z1 _u H locs hw hP hD hK hS => ?_)
  have hP : va_P (dC, dI) vwCl [(a0, .inr (7, [.ref a5, g6, g7, g8, g9, g10, g11, g12, g13, g14])), (a5, .inr (4, [g15, g16, g17, g18, g19, g20, .int 0, g21, g22, g23, g24, g25, g26, g27, g28, g29, g30, g31]))] H := hP
  have hD : va_D A [(a0, .inr (7, [.ref a5, g6, g7, g8, g9, g10, g11, g12, g13, g14])), (a5, .inr (4, [g15, g16, g17, g18, g19, g20, .int 0, g21, g22, g23, g24, g25, g26, g27, g28, g29, g30, g31]))] := hD
  have hK : va_K (dC, dI) vwCl [] s := hK
  obtain rfl : z1 = 0 := hw
  refine lv_if_eq (tgt := 38) hx hb dX10_hooksTrouble_8 (by decide) (fun _ => ?_) (fun c2 => absurd c2 (by decide))
  refine lv_iconst (v := 1) hx hb dX10_hooksTrouble_38 (by decide) ?_
  have hP9 := hP.sub (ws' := [(a0, .inr (7, [.ref a5, g6, g7, g8, g9, g10, g11, g12, g13, g14])), (a5, .inr (4, [g15, g16, g17, g18, g19, g20, .int 0, g21, g22, g23, g24, g25, g26, g27, g28, g29, g30, g31]))]) [0, 1] rfl
  have hD9 := hD.sub (ws' := [(a0, .inr (7, [.ref a5, g6, g7, g8, g9, g10, g11, g12, g13, g14])), (a5, .inr (4, [g15, g16, g17, g18, g19, g20, .int 0, g21, g22, g23, g24, g25, g26, g27, g28, g29, g30, g31]))]) [0, 1] (by decide) rfl
  have hK9 := hK.sub (tys' := []) [] rfl
  exact W.iret (v := 1) hx hb hr (fun t ht hW => ⟨⟨1, (), rfl, rfl, by rw [ht]; exact hP9, va_K.moved hW.alike hK9, hD9⟩, hS.F ht⟩) hS.2.2 dX10_hooksTrouble_39
theorem dX10_hooks_0 : decode cX10_hooks 0 = .ok (.aload_n 0, 1) := by decide +kernel
theorem dX10_hooks_1 : decode cX10_hooks 1 = .ok (.aload_n 0, 1) := by decide +kernel
theorem dX10_hooks_10 : decode cX10_hooks 10 = .ok (.invokevirtual 79, 3) := by decide +kernel
theorem dX10_hooks_13 : decode cX10_hooks 13 = .ok (.ifCond .eq 5, 3) := by decide +kernel
theorem dX10_hooks_16 : decode cX10_hooks 16 = .ok (.iconst (-1), 1) := by decide +kernel
theorem dX10_hooks_17 : decode cX10_hooks 17 = .ok (.ireturn, 1) := by decide +kernel
theorem dX10_hooks_2 : decode cX10_hooks 2 = .ok (.iload_n 1, 1) := by decide +kernel
theorem dX10_hooks_3 : decode cX10_hooks 3 = .ok (.iload_n 2, 1) := by decide +kernel
theorem dX10_hooks_4 : decode cX10_hooks 4 = .ok (.iload_n 3, 1) := by decide +kernel
theorem dX10_hooks_5 : decode cX10_hooks 5 = .ok (.iload 4, 2) := by decide +kernel
theorem dX10_hooks_7 : decode cX10_hooks 7 = .ok (.invokevirtual 309, 3) := by decide +kernel
def vX10_hooks : List Cond := .code yX10_hooks cX10_hooks 12 (some .int) :: ([.methodLink RX10 309 yX10_hooksTrouble, .instanceMethod yX10_hooksTrouble, .selects RX10 yX10_hooksTrouble yX10_hooksTrouble, .initialized RX10, .code yX10_hooksTrouble cX10_hooksTrouble 5 (some .int), .fieldLink RX10 10 "HookPier" "plan" "LHookPier$Plan;", .methodLink RX10 381 yX6_hasAnswer, .instanceMethod yX6_hasAnswer, .selects RX6 yX6_hasAnswer yX6_hasAnswer, .initialized RX6, .code yX6_hasAnswer cX6_hasAnswer 2 (some .boolean), .fieldLink RX6 30 "HookPier$Plan" "answers" "I", .code yX10_within cX10_within 3 (some .boolean), .static yX10_within, .methodLink RX10 79 yX10_refused, .instanceMethod yX10_refused, .selects RX10 yX10_refused yX10_refused, .code yX10_refused cX10_refused 2 (some .boolean), .fieldLink RX10 61 "HookPier" "troubleNow" "I"] ++ wsX100 ++ wsX60)
theorem iX10_hooks_X10 : ∀ w ∈ wsX100, w ∈ vX10_hooks := fun _ h => List.mem_cons_of_mem _ (List.mem_append_left _ (List.mem_append_right _ h))
theorem iX10_hooks_X6 : ∀ w ∈ wsX60, w ∈ vX10_hooks := fun _ h => List.mem_cons_of_mem _ (List.mem_append_right _ h)
set_option maxRecDepth 20000 in
theorem gX10_hooks_0 : GoodIn vX10_hooks (wsV RX10 309 RX10 yX10_hooksTrouble vX10_hooksTrouble) := goodIn_app (goodIn_r [.methodLink RX10 309 yX10_hooksTrouble, .instanceMethod yX10_hooksTrouble, .selects RX10 yX10_hooksTrouble yX10_hooksTrouble, .initialized RX10] [1, 2, 3, 4] (by decide +kernel) (by decide +kernel)) (goodIn_ca (goodIn_ca (goodIn_r (.code yX10_hooksTrouble cX10_hooksTrouble 5 (some .int) :: [.fieldLink RX10 10 "HookPier" "plan" "LHookPier$Plan;", .methodLink RX10 381 yX6_hasAnswer, .instanceMethod yX6_hasAnswer, .selects RX6 yX6_hasAnswer yX6_hasAnswer, .initialized RX6, .code yX6_hasAnswer cX6_hasAnswer 2 (some .boolean), .fieldLink RX6 30 "HookPier$Plan" "answers" "I", .code yX10_within cX10_within 3 (some .boolean), .initialized RX10, .static yX10_within]) [5, 6, 7, 8, 9, 10, 11, 12, 13, 4, 14] (by decide +kernel) (by decide +kernel) : GoodIn vX10_hooks (.code yX10_hooksTrouble cX10_hooksTrouble 5 (some .int) :: [.fieldLink RX10 10 "HookPier" "plan" "LHookPier$Plan;", .methodLink RX10 381 yX6_hasAnswer, .instanceMethod yX6_hasAnswer, .selects RX6 yX6_hasAnswer yX6_hasAnswer, .initialized RX6, .code yX6_hasAnswer cX6_hasAnswer 2 (some .boolean), .fieldLink RX6 30 "HookPier$Plan" "answers" "I", .code yX10_within cX10_within 3 (some .boolean), .initialized RX10, .static yX10_within])) (goodIn_sub iX10_hooks_X10 (by decide +kernel))) (goodIn_sub iX10_hooks_X6 (by decide +kernel)))
set_option maxRecDepth 20000 in
theorem gX10_hooks_1 : GoodIn vX10_hooks (wsV RX10 79 RX10 yX10_refused vX10_refused_3) := goodIn_app (goodIn_r [.methodLink RX10 79 yX10_refused, .instanceMethod yX10_refused, .selects RX10 yX10_refused yX10_refused, .initialized RX10] [15, 16, 17, 4] (by decide +kernel) (by decide +kernel)) (goodIn_ca (goodIn_r (.code yX10_refused cX10_refused 2 (some .boolean) :: [.fieldLink RX10 61 "HookPier" "troubleNow" "I"]) [18, 19] (by decide +kernel) (by decide +kernel) : GoodIn vX10_hooks (.code yX10_refused cX10_refused 2 (some .boolean) :: [.fieldLink RX10 61 "HookPier" "troubleNow" "I"])) (goodIn_sub iX10_hooks_X10 (by decide +kernel)))
set_option maxHeartbeats 1000000 in
set_option maxRecDepth 100000 in
theorem kX10_hooks (l : Launch) (dC : Nat → ClassId) (dI : Nat → Nat → Nat) (a0 : Nat) (k1 : Int32) (k2 : Int32) (k3 : Int32) (k4 : Int32) (k5 : Int32) (a6 : Nat) (g7 : Value) (g8 : Value) (g9 : Value) (g10 : Value) (g11 : Value) (g12 : Value) (g13 : Value) (g14 : Value) (g15 : Value) (g16 : Value) (g17 : Value) (g18 : Value) (g19 : Value) (g20 : Value) (g21 : Value) (g22 : Value) (g23 : Value) (g24 : Value) (g25 : Value) (g26 : Value) (g27 : Value) (g28 : Value) (g29 : Value) (g30 : Value) (g31 : Value) (g32 : Value) (sz : Nat) : Met l yX10_hooks vX10_hooks ({ frames := 3, cells := 0, slots := 0, locals := 67 }) (PC (dC, dI) [.ref a0, .int k1, .int k2, .int k3, .int k4, .int k5] sz [(a0, .inr (7, [.ref a6, g7, g8, g9, g10, g11, g12, g13, g14, g15])), (a6, .inr (4, [g16, g17, g18, g19, g20, g21, .int 0, g22, g23, g24, g25, g26, g27, g28, g29, g30, g31, g32]))] []) (va_Qi (S := Unit) (fun (r : Int32) _ => r = (-1)) (fun _ t => BC (dC, dI) (va_A [(a0, .inr (7, [.ref a6, g7, g8, g9, g10, g11, g12, g13, g14, g15])), (a6, .inr (4, [g16, g17, g18, g19, g20, g21, .int 0, g22, g23, g24, g25, g26, g27, g28, g29, g30, g31, g32]))] sz) [] [] t) (va_A [(a0, .inr (7, [.ref a6, g7, g8, g9, g10, g11, g12, g13, g14, g15])), (a6, .inr (4, [g16, g17, g18, g19, g20, g21, .int 0, g22, g23, g24, g25, g26, g27, g28, g29, g30, g31, g32]))] sz)) 0 0 (va_A [(a0, .inr (7, [.ref a6, g7, g8, g9, g10, g11, g12, g13, g14, g15])), (a6, .inr (4, [g16, g17, g18, g19, g20, g21, .int 0, g22, g23, g24, g25, g26, g27, g28, g29, g30, g31, g32]))] sz) := by
  refine Met.ofW (cc := cX10_hooks) (maxL := 12) (ret := (some .int)) (by decide) rfl ?_
  intro p e s m args below meth c s₁ B hml hv
  obtain ⟨rfl, hsz, hP, hK, hD0, hN⟩ := hv
  have hx := B.exec
  have hb := B.bytes
  have hr := B.returns
  have hts := atoms_spec (ws := vX10_hooks) B.pre
  have hown : s.vm.findClass RX10 = some m.cls := findClass_of_methodNamed B.named
  have hlocks := B.notSynchronized
  subst hsz
  have hD := hD0.self (sz := s.heap.size)
  generalize hAe : va_A [(a0, .inr (7, [.ref a6, g7, g8, g9, g10, g11, g12, g13, g14, g15])), (a6, .inr (4, [g16, g17, g18, g19, g20, g21, .int 0, g22, g23, g24, g25, g26, g27, g28, g29, g30, g31, g32]))] s.heap.size = A at hD ⊢
  have hA : ∀ q : Nat, s.heap.size ≤ q → A q := fun q h => by rw [← hAe]; exact Or.inr h
  have hS : va_S A s.heap s.heap [] := va_S.rf
  have hP : va_P (dC, dI) vwCl [(a0, .inr (7, [.ref a6, g7, g8, g9, g10, g11, g12, g13, g14, g15])), (a6, .inr (4, [g16, g17, g18, g19, g20, g21, .int 0, g22, g23, g24, g25, g26, g27, g28, g29, g30, g31, g32]))] s.heap := hP
  have hl := lv_entry ([.ref a0, .int k1, .int k2, .int k3, .int k4, .int k5]) (n := 12) (Nat.le_of_ble_eq_true rfl)
  rw [lg_entry_eq]
  generalize (lg_sl ([.ref a0, .int k1, .int k2, .int k3, .int k4, .int k5]) ++ List.replicate (12 - (lg_sl ([.ref a0, .int k1, .int k2, .int k3, .int k4, .int k5])).length) Slot.unset).toArray = ls at hl ⊢
  have hl : lv_has ls 12 [(0, .ref a0), (1, .int k1), (2, .int k2), (3, .int k3), (4, .int k4), (5, .int k5)] := hl
  refine lv_aload_n hx hb dX10_hooks_0 rfl (lv_at hl 0 rfl) ?_
  refine lv_aload_n hx hb dX10_hooks_1 rfl (lv_at hl 0 rfl) ?_
  refine lv_iload_n hx hb dX10_hooks_2 rfl (lv_at hl 1 rfl) ?_
  refine lv_iload_n hx hb dX10_hooks_3 rfl (lv_at hl 2 rfl) ?_
  refine lv_iload_n hx hb dX10_hooks_4 rfl (lv_at hl 3 rfl) ?_
  refine lv_iload hx hb dX10_hooks_5 (lv_at hl 4 rfl) ?_
  refine cl_i (wc := [(a0, .inr (7, [.ref a6, g7, g8, g9, g10, g11, g12, g13, g14, g15])), (a6, .inr (4, [g16, g17, g18, g19, g20, g21, .int 0, g22, g23, g24, g25, g26, g27, g28, g29, g30, g31, g32]))]) (wr := []) (va_runV (As := [.int k1, .int k2, .int k3, .int k4]) (rest := [.ref a0]) ⟨hx, hb, hml, hown, hts⟩ (kX10_hooksTrouble l dC dI a0 k1 k2 k3 k4 a6 (g7) (g8) (g9) (g10) (g11) (g12) (g13) (g14) (g15) (g16) (g17) (g18) (g19) (g20) (g21) (g22) (g23) (g24) (g25) (g26) (g27) (g28) (g29) (g30) (g31) (g32) s.heap.size) (cwV 4 hts gX10_hooks_0 rfl rfl rfl (by decide +kernel) ⟨Nat.le_of_ble_eq_true rfl, Nat.le_of_ble_eq_true rfl⟩) (PV (hP.sub (ws' := [(a0, .inr (7, [.ref a6, g7, g8, g9, g10, g11, g12, g13, g14, g15])), (a6, .inr (4, [g16, g17, g18, g19, g20, g21, .int 0, g22, g23, g24, g25, g26, g27, g28, g29, g30, g31, g32]))]) [0, 1] rfl) (hK.sub (tys' := []) [] rfl) (hD.sub (ws' := [(a0, .inr (7, [.ref a6, g7, g8, g9, g10, g11, g12, g13, g14, g15])), (a6, .inr (4, [g16, g17, g18, g19, g20, g21, .int 0, g22, g23, g24, g25, g26, g27, g28, g29, g30, g31, g32]))]) [0, 1] (by decide) rfl) hN 0 rfl rfl) rfl rfl hl.1 rfl (lv_room (Nat.le_of_ble_eq_true rfl)) dX10_hooks_7 ⟨Nat.le_of_ble_eq_true rfl, Nat.le_of_ble_eq_true rfl⟩) hP hD hK hS hA [0, 1] [] rfl rfl (by decide) (by decide) (fun z1 _u H locs hw hP hD hK hS => ?_)
  have hP : va_P (dC, dI) vwCl [(a0, .inr (7, [.ref a6, g7, g8, g9, g10, g11, g12, g13, g14, g15])), (a6, .inr (4, [g16, g17, g18, g19, g20, g21, .int 0, g22, g23, g24, g25, g26, g27, g28, g29, g30, g31, g32]))] H := hP
  have hD : va_D A [(a0, .inr (7, [.ref a6, g7, g8, g9, g10, g11, g12, g13, g14, g15])), (a6, .inr (4, [g16, g17, g18, g19, g20, g21, .int 0, g22, g23, g24, g25, g26, g27, g28, g29, g30, g31, g32]))] := hD
  have hK : va_K (dC, dI) vwCl [] s := hK
  obtain rfl : z1 = 1 := hw
  refine cl_i (wc := [(a0, .inr (7, [.ref a6, g7, g8, g9, g10, g11, g12, g13, g14, g15]))]) (wr := [(a6, .inr (4, [g16, g17, g18, g19, g20, g21, .int 0, g22, g23, g24, g25, g26, g27, g28, g29, g30, g31, g32]))]) (va_runV (As := [.int 1]) (rest := []) ⟨hx, hb, hml, hown, hts⟩ (kX10_refused_3 l dC dI a0 (.ref a6) (g7) (g8) (g9) (g10) (g11) (g12) (g13) (g14) (g15) H.size) (cwV 1 hts gX10_hooks_1 rfl rfl rfl (by decide +kernel) ⟨Nat.le_of_ble_eq_true rfl, Nat.le_of_ble_eq_true rfl⟩) (PV (hP.sub (ws' := [(a0, .inr (7, [.ref a6, g7, g8, g9, g10, g11, g12, g13, g14, g15]))]) [0] rfl) (hK.sub (tys' := []) [] rfl) (hD.sub (ws' := [(a0, .inr (7, [.ref a6, g7, g8, g9, g10, g11, g12, g13, g14, g15]))]) [0] (by decide) rfl) hN 0 rfl rfl) rfl rfl hl.1 rfl (lv_room (Nat.le_of_ble_eq_true rfl)) dX10_hooks_10 ⟨Nat.le_of_ble_eq_true rfl, Nat.le_of_ble_eq_true rfl⟩) hP hD hK hS hA [0] [1] rfl rfl (by decide) (by decide) (fun z2 _u H locs hw hP hD hK hS => ?_)
  have hP : va_P (dC, dI) vwCl [(a6, .inr (4, [g16, g17, g18, g19, g20, g21, .int 0, g22, g23, g24, g25, g26, g27, g28, g29, g30, g31, g32])), (a0, .inr (7, [.ref a6, g7, g8, g9, g10, g11, g12, g13, .int 1, g15]))] H := hP
  have hD : va_D A [(a6, .inr (4, [g16, g17, g18, g19, g20, g21, .int 0, g22, g23, g24, g25, g26, g27, g28, g29, g30, g31, g32])), (a0, .inr (7, [.ref a6, g7, g8, g9, g10, g11, g12, g13, .int 1, g15]))] := hD
  have hK : va_K (dC, dI) vwCl [] s := hK
  obtain rfl : z2 = 1 := hw
  refine lv_if_eq (tgt := 18) hx hb dX10_hooks_13 (by decide) (fun c3 => absurd c3 (by decide)) (fun _ => ?_)
  refine lv_iconst (v := (-1)) hx hb dX10_hooks_16 (by decide) ?_
  have hP9 := hP.sub (ws' := []) [] rfl
  have hD9 := hD.sub (ws' := []) [] (by decide) rfl
  have hK9 := hK.sub (tys' := []) [] rfl
  exact W.iret (v := (-1)) hx hb hr (fun t ht hW => ⟨⟨(-1), (), rfl, rfl, by rw [ht]; exact hP9, va_K.moved hW.alike hK9, hD9⟩, hS.F ht⟩) hS.2.2 dX10_hooks_17
theorem dX12_hooks_0 : decode cX12_hooks 0 = .ok (.aload_n 0, 1) := by decide +kernel
theorem dX12_hooks_1 : decode cX12_hooks 1 = .ok (.iconst 0, 1) := by decide +kernel
theorem dX12_hooks_10 : decode cX12_hooks 10 = .ok (.ifCond .eq 24, 3) := by decide +kernel
theorem dX12_hooks_2 : decode cX12_hooks 2 = .ok (.putfield 36, 3) := by decide +kernel
theorem dX12_hooks_34 : decode cX12_hooks 34 = .ok (.aload_n 0, 1) := by decide +kernel
theorem dX12_hooks_35 : decode cX12_hooks 35 = .ok (.iconst 1, 1) := by decide +kernel
theorem dX12_hooks_36 : decode cX12_hooks 36 = .ok (.invokevirtual 42, 3) := by decide +kernel
theorem dX12_hooks_39 : decode cX12_hooks 39 = .ok (.ireturn, 1) := by decide +kernel
theorem dX12_hooks_5 : decode cX12_hooks 5 = .ok (.aload_n 0, 1) := by decide +kernel
theorem dX12_hooks_6 : decode cX12_hooks 6 = .ok (.iload_n 1, 1) := by decide +kernel
theorem dX12_hooks_7 : decode cX12_hooks 7 = .ok (.invokevirtual 320, 3) := by decide +kernel
def vX12_hooks : List Cond := .code yX12_hooks cX12_hooks 11 (some .int) :: ([.fieldLink RX12 36 "HookPierModel" "thrown" "I", .methodLink RX12 320 yX12_isAnswer, .instanceMethod yX12_isAnswer, .selects RX12 yX12_isAnswer yX12_isAnswer, .initialized RX12, .code yX12_isAnswer cX12_isAnswer 2 (some .boolean), .fieldLink RX12 299 "HookPierModel" "pier" "LHookPierModel$Pier;", .methodLink RX12 42 yX12_refused, .instanceMethod yX12_refused, .selects RX12 yX12_refused yX12_refused, .code yX12_refused cX12_refused 2 (some .int), .fieldLink RX12 39 "HookPierModel" "trouble" "I", .fieldLink RX12 9 "HookPierModel" "where" "I"] ++ wsX120)
theorem iX12_hooks_X12 : ∀ w ∈ wsX120, w ∈ vX12_hooks := fun _ h => List.mem_cons_of_mem _ (List.mem_append_right _ h)
set_option maxRecDepth 20000 in
theorem gX12_hooks_0 : GoodIn vX12_hooks (wsV RX12 320 RX12 yX12_isAnswer vX12_isAnswer) := goodIn_app (goodIn_r [.methodLink RX12 320 yX12_isAnswer, .instanceMethod yX12_isAnswer, .selects RX12 yX12_isAnswer yX12_isAnswer, .initialized RX12] [2, 3, 4, 5] (by decide +kernel) (by decide +kernel)) (goodIn_ca (goodIn_r (.code yX12_isAnswer cX12_isAnswer 2 (some .boolean) :: [.fieldLink RX12 299 "HookPierModel" "pier" "LHookPierModel$Pier;"]) [6, 7] (by decide +kernel) (by decide +kernel) : GoodIn vX12_hooks (.code yX12_isAnswer cX12_isAnswer 2 (some .boolean) :: [.fieldLink RX12 299 "HookPierModel" "pier" "LHookPierModel$Pier;"])) (goodIn_sub iX12_hooks_X12 (by decide +kernel)))
set_option maxRecDepth 20000 in
theorem gX12_hooks_1 : GoodIn vX12_hooks (wsV RX12 42 RX12 yX12_refused vX12_refused_1) := goodIn_app (goodIn_r [.methodLink RX12 42 yX12_refused, .instanceMethod yX12_refused, .selects RX12 yX12_refused yX12_refused, .initialized RX12] [8, 9, 10, 5] (by decide +kernel) (by decide +kernel)) (goodIn_ca (goodIn_r (.code yX12_refused cX12_refused 2 (some .int) :: [.fieldLink RX12 39 "HookPierModel" "trouble" "I", .fieldLink RX12 9 "HookPierModel" "where" "I"]) [11, 12, 13] (by decide +kernel) (by decide +kernel) : GoodIn vX12_hooks (.code yX12_refused cX12_refused 2 (some .int) :: [.fieldLink RX12 39 "HookPierModel" "trouble" "I", .fieldLink RX12 9 "HookPierModel" "where" "I"])) (goodIn_sub iX12_hooks_X12 (by decide +kernel)))
set_option maxHeartbeats 1000000 in
set_option maxRecDepth 100000 in
theorem kX12_hooks (l : Launch) (dC : Nat → ClassId) (dI : Nat → Nat → Nat) (a0 : Nat) (k1 : Int32) (k2 : Int32) (k3 : Int32) (k4 : Int32) (k5 : Int32) (g6 : Value) (g7 : Value) (g8 : Value) (g9 : Value) (g10 : Value) (g11 : Value) (g12 : Value) (g13 : Value) (g14 : Value) (g15 : Value) (g16 : Value) (g17 : Value) (g18 : Value) (g19 : Value) (g20 : Value) (g21 : Value) (g22 : Value) (g23 : Value) (g24 : Value) (g25 : Value) (g26 : Value) (g27 : Value) (g28 : Value) (g29 : Value) (g30 : Value) (g31 : Value) (g32 : Value) (g33 : Value) (g34 : Value) (sz : Nat) : Met l yX12_hooks vX12_hooks ({ frames := 1, cells := 0, slots := 0, locals := 21 }) (PC (dC, dI) [.ref a0, .int k1, .int k2, .int k3, .int k4, .int k5] sz [(a0, .inr (9, [g6, g7, g8, .null, g9, g10, g11, g12, g13, g14, g15, g16, g17, g18, g19, g20, g21, g22, g23, g24, g25, g26, g27, g28, g29, g30, g31, g32, g33, g34]))] []) (va_Qi (S := Unit) (fun (r : Int32) _ => r = (-1)) (fun _ t => BC (dC, dI) (va_A [(a0, .inr (9, [g6, g7, g8, .null, g9, g10, g11, g12, g13, g14, g15, g16, g17, g18, g19, g20, g21, g22, g23, g24, g25, g26, g27, g28, g29, g30, g31, g32, g33, g34]))] sz) [] [] t) (va_A [(a0, .inr (9, [g6, g7, g8, .null, g9, g10, g11, g12, g13, g14, g15, g16, g17, g18, g19, g20, g21, g22, g23, g24, g25, g26, g27, g28, g29, g30, g31, g32, g33, g34]))] sz)) 0 0 (va_A [(a0, .inr (9, [g6, g7, g8, .null, g9, g10, g11, g12, g13, g14, g15, g16, g17, g18, g19, g20, g21, g22, g23, g24, g25, g26, g27, g28, g29, g30, g31, g32, g33, g34]))] sz) := by
  refine Met.ofW (cc := cX12_hooks) (maxL := 11) (ret := (some .int)) (by decide) rfl ?_
  intro p e s m args below meth c s₁ B hml hv
  obtain ⟨rfl, hsz, hP, hK, hD0, hN⟩ := hv
  have hx := B.exec
  have hb := B.bytes
  have hr := B.returns
  have hts := atoms_spec (ws := vX12_hooks) B.pre
  have hown : s.vm.findClass RX12 = some m.cls := findClass_of_methodNamed B.named
  have hlocks := B.notSynchronized
  subst hsz
  have hD := hD0.self (sz := s.heap.size)
  generalize hAe : va_A [(a0, .inr (9, [g6, g7, g8, .null, g9, g10, g11, g12, g13, g14, g15, g16, g17, g18, g19, g20, g21, g22, g23, g24, g25, g26, g27, g28, g29, g30, g31, g32, g33, g34]))] s.heap.size = A at hD ⊢
  have hA : ∀ q : Nat, s.heap.size ≤ q → A q := fun q h => by rw [← hAe]; exact Or.inr h
  have hS : va_S A s.heap s.heap [] := va_S.rf
  have hP : va_P (dC, dI) vwCl [(a0, .inr (9, [g6, g7, g8, .null, g9, g10, g11, g12, g13, g14, g15, g16, g17, g18, g19, g20, g21, g22, g23, g24, g25, g26, g27, g28, g29, g30, g31, g32, g33, g34]))] s.heap := hP
  have hl := lv_entry ([.ref a0, .int k1, .int k2, .int k3, .int k4, .int k5]) (n := 11) (Nat.le_of_ble_eq_true rfl)
  rw [lg_entry_eq]
  generalize (lg_sl ([.ref a0, .int k1, .int k2, .int k3, .int k4, .int k5]) ++ List.replicate (11 - (lg_sl ([.ref a0, .int k1, .int k2, .int k3, .int k4, .int k5])).length) Slot.unset).toArray = ls at hl ⊢
  have hl : lv_has ls 11 [(0, .ref a0), (1, .int k1), (2, .int k2), (3, .int k3), (4, .int k4), (5, .int k5)] := hl
  refine lv_aload_n hx hb dX12_hooks_0 rfl (lv_at hl 0 rfl) ?_
  refine lv_iconst (v := 0) hx hb dX12_hooks_1 (by decide) ?_
  refine va_put (D := (dC, dI)) (ci := 9) (v := .int 0) (ty := .int) (C := RX12) (T := TX12) (N := 30) hx hb hts iX12_hooks_X12 tyX12 tyX12_ok nmX12 hown hK hP hD hS 0 rfl rfl 0 (by decide) (hts (.fieldLink RX12 36 "HookPierModel" "thrown" "I") (List.mem_of_getElem? (i := 1) rfl)) (fun _ h9 => h9) rfl (by decide +kernel) rfl rfl (Nat.le_of_ble_eq_true rfl) dX12_hooks_2 (fun H locs hP hD hS => ?_)
  have hP : va_P (dC, dI) vwCl [(a0, .inr (9, [.int 0, g7, g8, .null, g9, g10, g11, g12, g13, g14, g15, g16, g17, g18, g19, g20, g21, g22, g23, g24, g25, g26, g27, g28, g29, g30, g31, g32, g33, g34]))] H := hP
  have hD : va_D A [(a0, .inr (9, [.int 0, g7, g8, .null, g9, g10, g11, g12, g13, g14, g15, g16, g17, g18, g19, g20, g21, g22, g23, g24, g25, g26, g27, g28, g29, g30, g31, g32, g33, g34]))] := hD
  refine lv_aload_n hx hb dX12_hooks_5 rfl (lv_at hl 0 rfl) ?_
  refine lv_iload_n hx hb dX12_hooks_6 rfl (lv_at hl 1 rfl) ?_
  refine cl_i (wc := [(a0, .inr (9, [.int 0, g7, g8, .null, g9, g10, g11, g12, g13, g14, g15, g16, g17, g18, g19, g20, g21, g22, g23, g24, g25, g26, g27, g28, g29, g30, g31, g32, g33, g34]))]) (wr := []) (va_runV (As := [.int k1]) (rest := []) ⟨hx, hb, hml, hown, hts⟩ (kX12_isAnswer l dC dI a0 k1 (.int 0) (g7) (g8) (g9) (g10) (g11) (g12) (g13) (g14) (g15) (g16) (g17) (g18) (g19) (g20) (g21) (g22) (g23) (g24) (g25) (g26) (g27) (g28) (g29) (g30) (g31) (g32) (g33) (g34) H.size) (cwV 1 hts gX12_hooks_0 rfl rfl rfl (by decide +kernel) ⟨Nat.le_of_ble_eq_true rfl, Nat.le_of_ble_eq_true rfl⟩) (PV (hP.sub (ws' := [(a0, .inr (9, [.int 0, g7, g8, .null, g9, g10, g11, g12, g13, g14, g15, g16, g17, g18, g19, g20, g21, g22, g23, g24, g25, g26, g27, g28, g29, g30, g31, g32, g33, g34]))]) [0] rfl) (hK.sub (tys' := []) [] rfl) (hD.sub (ws' := [(a0, .inr (9, [.int 0, g7, g8, .null, g9, g10, g11, g12, g13, g14, g15, g16, g17, g18, g19, g20, g21, g22, g23, g24, g25, g26, g27, g28, g29, g30, g31, g32, g33, g34]))]) [0] (by decide) rfl) hN 0 rfl rfl) rfl rfl hl.1 rfl (lv_room (Nat.le_of_ble_eq_true rfl)) dX12_hooks_7 ⟨Nat.le_of_ble_eq_true rfl, Nat.le_of_ble_eq_true rfl⟩) hP hD hK hS hA [0] [] rfl rfl (by decide) (by decide) (fun z1 _u H locs hw hP hD hK hS => ?_)
  have hP : va_P (dC, dI) vwCl [(a0, .inr (9, [.int 0, g7, g8, .null, g9, g10, g11, g12, g13, g14, g15, g16, g17, g18, g19, g20, g21, g22, g23, g24, g25, g26, g27, g28, g29, g30, g31, g32, g33, g34]))] H := hP
  have hD : va_D A [(a0, .inr (9, [.int 0, g7, g8, .null, g9, g10, g11, g12, g13, g14, g15, g16, g17, g18, g19, g20, g21, g22, g23, g24, g25, g26, g27, g28, g29, g30, g31, g32, g33, g34]))] := hD
  have hK : va_K (dC, dI) vwCl [] s := hK
  obtain rfl : z1 = 0 := hw
  refine lv_if_eq (tgt := 34) hx hb dX12_hooks_10 (by decide) (fun _ => ?_) (fun c2 => absurd c2 (by decide))
  refine lv_aload_n hx hb dX12_hooks_34 rfl (lv_at hl 0 rfl) ?_
  refine lv_iconst (v := 1) hx hb dX12_hooks_35 (by decide) ?_
  refine cl_i (wc := [(a0, .inr (9, [.int 0, g7, g8, .null, g9, g10, g11, g12, g13, g14, g15, g16, g17, g18, g19, g20, g21, g22, g23, g24, g25, g26, g27, g28, g29, g30, g31, g32, g33, g34]))]) (wr := []) (va_runV (As := [.int 1]) (rest := []) ⟨hx, hb, hml, hown, hts⟩ (kX12_refused_1 l dC dI a0 (.int 0) (g7) (g8) (.null) (g9) (g10) (g11) (g12) (g13) (g14) (g15) (g16) (g17) (g18) (g19) (g20) (g21) (g22) (g23) (g24) (g25) (g26) (g27) (g28) (g29) (g30) (g31) (g32) (g33) (g34) H.size) (cwV 1 hts gX12_hooks_1 rfl rfl rfl (by decide +kernel) ⟨Nat.le_of_ble_eq_true rfl, Nat.le_of_ble_eq_true rfl⟩) (PV (hP.sub (ws' := [(a0, .inr (9, [.int 0, g7, g8, .null, g9, g10, g11, g12, g13, g14, g15, g16, g17, g18, g19, g20, g21, g22, g23, g24, g25, g26, g27, g28, g29, g30, g31, g32, g33, g34]))]) [0] rfl) (hK.sub (tys' := []) [] rfl) (hD.sub (ws' := [(a0, .inr (9, [.int 0, g7, g8, .null, g9, g10, g11, g12, g13, g14, g15, g16, g17, g18, g19, g20, g21, g22, g23, g24, g25, g26, g27, g28, g29, g30, g31, g32, g33, g34]))]) [0] (by decide) rfl) hN 0 rfl rfl) rfl rfl hl.1 rfl (lv_room (Nat.le_of_ble_eq_true rfl)) dX12_hooks_36 ⟨Nat.le_of_ble_eq_true rfl, Nat.le_of_ble_eq_true rfl⟩) hP hD hK hS hA [0] [] rfl rfl (by decide) (by decide) (fun z3 _u H locs hw hP hD hK hS => ?_)
  have hP : va_P (dC, dI) vwCl [(a0, .inr (9, [.int 0, .int 1, .int (-1), .null, g9, g10, g11, g12, g13, g14, g15, g16, g17, g18, g19, g20, g21, g22, g23, g24, g25, g26, g27, g28, g29, g30, g31, g32, g33, g34]))] H := hP
  have hD : va_D A [(a0, .inr (9, [.int 0, .int 1, .int (-1), .null, g9, g10, g11, g12, g13, g14, g15, g16, g17, g18, g19, g20, g21, g22, g23, g24, g25, g26, g27, g28, g29, g30, g31, g32, g33, g34]))] := hD
  have hK : va_K (dC, dI) vwCl [] s := hK
  obtain rfl : z3 = (-1) := hw
  have hP9 := hP.sub (ws' := []) [] rfl
  have hD9 := hD.sub (ws' := []) [] (by decide) rfl
  have hK9 := hK.sub (tys' := []) [] rfl
  exact W.iret (v := (-1)) hx hb hr (fun t ht hW => ⟨⟨(-1), (), rfl, rfl, by rw [ht]; exact hP9, va_K.moved hW.alike hK9, hD9⟩, hS.F ht⟩) hS.2.2 dX12_hooks_39
def vX10_within_7 : List Cond := .code yX10_within cX10_within 3 (some .boolean) :: ([])
set_option maxHeartbeats 1000000 in
set_option maxRecDepth 100000 in
theorem kX10_within_7 (l : Launch) (dC : Nat → ClassId) (dI : Nat → Nat → Nat) (k0 : Int32) (sz : Nat) : Met l yX10_within vX10_within_7 ({ frames := 0, cells := 0, slots := 0, locals := 0 }) (PC (dC, dI) [.int k0, .int 0, .int 99] sz [] []) (va_Qi (S := Unit) (fun (r : Int32) _ => True) (fun _ t => BC (dC, dI) (va_A [] sz) [] [] t) (va_A [] sz)) 0 0 (va_A [] sz) := by
  refine Met.ofW (cc := cX10_within) (maxL := 3) (ret := (some .boolean)) (by decide) rfl ?_
  intro p e s m args below meth c s₁ B hml hv
  obtain ⟨rfl, hsz, hP, hK, hD0, hN⟩ := hv
  have hx := B.exec
  have hb := B.bytes
  have hr := B.returns
  have hts := atoms_spec (ws := vX10_within_7) B.pre
  have hown : s.vm.findClass RX10 = some m.cls := findClass_of_methodNamed B.named
  have hlocks := B.notSynchronized
  subst hsz
  have hD := hD0.self (sz := s.heap.size)
  generalize hAe : va_A [] s.heap.size = A at hD ⊢
  have hA : ∀ q : Nat, s.heap.size ≤ q → A q := fun q h => by rw [← hAe]; exact Or.inr h
  have hS : va_S A s.heap s.heap [] := va_S.rf
  have hP : va_P (dC, dI) vwCl [] s.heap := hP
  have hl := lv_entry ([.int k0, .int 0, .int 99]) (n := 3) (Nat.le_of_ble_eq_true rfl)
  rw [lg_entry_eq]
  generalize (lg_sl ([.int k0, .int 0, .int 99]) ++ List.replicate (3 - (lg_sl ([.int k0, .int 0, .int 99])).length) Slot.unset).toArray = ls at hl ⊢
  have hl : lv_has ls 3 [(0, .int k0), (1, .int 0), (2, .int 99)] := hl
  refine lv_iload_n hx hb dX10_within_0 rfl (lv_at hl 0 rfl) ?_
  refine lv_iload_n hx hb dX10_within_1 rfl (lv_at hl 1 rfl) ?_
  refine lv_icmp_lt (tgt := 14) hx hb dX10_within_2 (by decide) (fun c1 => ?_) (fun c1 => ?_)
  · refine lv_iconst (v := 0) hx hb dX10_within_14 (by decide) ?_
    have hP9 := hP.sub (ws' := []) [] rfl
    have hD9 := hD.sub (ws' := []) [] (by decide) rfl
    have hK9 := hK.sub (tys' := []) [] rfl
    exact W.zret (v := 0) hx hb hr rfl (fun t ht hW => ⟨⟨0, (), rfl, trivial, by rw [ht]; exact hP9, va_K.moved hW.alike hK9, hD9⟩, hS.F ht⟩) hS.2.2 dX10_within_15
  · refine lv_iload_n hx hb dX10_within_5 rfl (lv_at hl 0 rfl) ?_
    refine lv_iload_n hx hb dX10_within_6 rfl (lv_at hl 2 rfl) ?_
    refine lv_icmp_gt (tgt := 14) hx hb dX10_within_7 (by decide) (fun c2 => ?_) (fun c2 => ?_)
    · refine lv_iconst (v := 0) hx hb dX10_within_14 (by decide) ?_
      have hP9 := hP.sub (ws' := []) [] rfl
      have hD9 := hD.sub (ws' := []) [] (by decide) rfl
      have hK9 := hK.sub (tys' := []) [] rfl
      exact W.zret (v := 0) hx hb hr rfl (fun t ht hW => ⟨⟨0, (), rfl, trivial, by rw [ht]; exact hP9, va_K.moved hW.alike hK9, hD9⟩, hS.F ht⟩) hS.2.2 dX10_within_15
    · refine lv_iconst (v := 1) hx hb dX10_within_10 (by decide) ?_
      refine lv_goto (tgt := 15) hx hb dX10_within_11 (by decide) ?_
      have hP9 := hP.sub (ws' := []) [] rfl
      have hD9 := hD.sub (ws' := []) [] (by decide) rfl
      have hK9 := hK.sub (tys' := []) [] rfl
      exact W.zret (v := 1) hx hb hr rfl (fun t ht hW => ⟨⟨1, (), rfl, trivial, by rw [ht]; exact hP9, va_K.moved hW.alike hK9, hD9⟩, hS.F ht⟩) hS.2.2 dX10_within_15
def vX10_numberTrouble_1 : List Cond := .code yX10_numberTrouble cX10_numberTrouble 3 (some .int) :: ([.methodLink RX10 216 yX10_pierTrouble, .instanceMethod yX10_pierTrouble, .selects RX10 yX10_pierTrouble yX10_pierTrouble, .initialized RX10, .code yX10_pierTrouble cX10_pierTrouble 1 (some .int), .fieldLink RX10 10 "HookPier" "plan" "LHookPier$Plan;", .fieldLink RX10 233 "HookPier$Plan" "spots" "I"] ++ wsX100 ++ wsX60)
theorem iX10_numberTrouble_1_X10 : ∀ w ∈ wsX100, w ∈ vX10_numberTrouble_1 := fun _ h => List.mem_cons_of_mem _ (List.mem_append_left _ (List.mem_append_right _ h))
theorem iX10_numberTrouble_1_X6 : ∀ w ∈ wsX60, w ∈ vX10_numberTrouble_1 := fun _ h => List.mem_cons_of_mem _ (List.mem_append_right _ h)
set_option maxRecDepth 20000 in
theorem gX10_numberTrouble_1_0 : GoodIn vX10_numberTrouble_1 (wsV RX10 216 RX10 yX10_pierTrouble vX10_pierTrouble) := goodIn_app (goodIn_r [.methodLink RX10 216 yX10_pierTrouble, .instanceMethod yX10_pierTrouble, .selects RX10 yX10_pierTrouble yX10_pierTrouble, .initialized RX10] [1, 2, 3, 4] (by decide +kernel) (by decide +kernel)) (goodIn_ca (goodIn_ca (goodIn_r (.code yX10_pierTrouble cX10_pierTrouble 1 (some .int) :: [.fieldLink RX10 10 "HookPier" "plan" "LHookPier$Plan;", .fieldLink RX10 233 "HookPier$Plan" "spots" "I"]) [5, 6, 7] (by decide +kernel) (by decide +kernel) : GoodIn vX10_numberTrouble_1 (.code yX10_pierTrouble cX10_pierTrouble 1 (some .int) :: [.fieldLink RX10 10 "HookPier" "plan" "LHookPier$Plan;", .fieldLink RX10 233 "HookPier$Plan" "spots" "I"])) (goodIn_sub iX10_numberTrouble_1_X10 (by decide +kernel))) (goodIn_sub iX10_numberTrouble_1_X6 (by decide +kernel)))
set_option maxHeartbeats 1000000 in
set_option maxRecDepth 100000 in
theorem kX10_numberTrouble_1 (l : Launch) (dC : Nat → ClassId) (dI : Nat → Nat → Nat) (a0 : Nat) (a1 : Nat) (g2 : Value) (g3 : Value) (g4 : Value) (g5 : Value) (g6 : Value) (g7 : Value) (g8 : Value) (g9 : Value) (g10 : Value) (g11 : Value) (g12 : Value) (g13 : Value) (g14 : Value) (g15 : Value) (g16 : Value) (g17 : Value) (g18 : Value) (g19 : Value) (g20 : Value) (g21 : Value) (g22 : Value) (g23 : Value) (g24 : Value) (g25 : Value) (g26 : Value) (g27 : Value) (sz : Nat) : Met l yX10_numberTrouble vX10_numberTrouble_1 ({ frames := 1, cells := 0, slots := 0, locals := 20 }) (PC (dC, dI) [.ref a0, .int 0] sz [(a0, .inr (7, [.ref a1, g2, g3, g4, g5, g6, g7, g8, g9, g10])), (a1, .inr (4, [.int 0, g11, g12, g13, g14, g15, g16, g17, g18, g19, g20, g21, g22, g23, g24, g25, g26, g27]))] []) (va_Qi (S := Unit) (fun (r : Int32) _ => r = 1) (fun _ t => BC (dC, dI) (va_A [(a0, .inr (7, [.ref a1, g2, g3, g4, g5, g6, g7, g8, g9, g10])), (a1, .inr (4, [.int 0, g11, g12, g13, g14, g15, g16, g17, g18, g19, g20, g21, g22, g23, g24, g25, g26, g27]))] sz) [(a0, .inr (7, [.ref a1, g2, g3, g4, g5, g6, g7, g8, g9, g10])), (a1, .inr (4, [.int 0, g11, g12, g13, g14, g15, g16, g17, g18, g19, g20, g21, g22, g23, g24, g25, g26, g27]))] [] t) (va_A [(a0, .inr (7, [.ref a1, g2, g3, g4, g5, g6, g7, g8, g9, g10])), (a1, .inr (4, [.int 0, g11, g12, g13, g14, g15, g16, g17, g18, g19, g20, g21, g22, g23, g24, g25, g26, g27]))] sz)) 0 0 (va_A [(a0, .inr (7, [.ref a1, g2, g3, g4, g5, g6, g7, g8, g9, g10])), (a1, .inr (4, [.int 0, g11, g12, g13, g14, g15, g16, g17, g18, g19, g20, g21, g22, g23, g24, g25, g26, g27]))] sz) := by
  refine Met.ofW (cc := cX10_numberTrouble) (maxL := 3) (ret := (some .int)) (by decide) rfl ?_
  intro p e s m args below meth c s₁ B hml hv
  obtain ⟨rfl, hsz, hP, hK, hD0, hN⟩ := hv
  have hx := B.exec
  have hb := B.bytes
  have hr := B.returns
  have hts := atoms_spec (ws := vX10_numberTrouble_1) B.pre
  have hown : s.vm.findClass RX10 = some m.cls := findClass_of_methodNamed B.named
  have hlocks := B.notSynchronized
  subst hsz
  have hD := hD0.self (sz := s.heap.size)
  generalize hAe : va_A [(a0, .inr (7, [.ref a1, g2, g3, g4, g5, g6, g7, g8, g9, g10])), (a1, .inr (4, [.int 0, g11, g12, g13, g14, g15, g16, g17, g18, g19, g20, g21, g22, g23, g24, g25, g26, g27]))] s.heap.size = A at hD ⊢
  have hA : ∀ q : Nat, s.heap.size ≤ q → A q := fun q h => by rw [← hAe]; exact Or.inr h
  have hS : va_S A s.heap s.heap [] := va_S.rf
  have hP : va_P (dC, dI) vwCl [(a0, .inr (7, [.ref a1, g2, g3, g4, g5, g6, g7, g8, g9, g10])), (a1, .inr (4, [.int 0, g11, g12, g13, g14, g15, g16, g17, g18, g19, g20, g21, g22, g23, g24, g25, g26, g27]))] s.heap := hP
  have hl := lv_entry ([.ref a0, .int 0]) (n := 3) (Nat.le_of_ble_eq_true rfl)
  rw [lg_entry_eq]
  generalize (lg_sl ([.ref a0, .int 0]) ++ List.replicate (3 - (lg_sl ([.ref a0, .int 0])).length) Slot.unset).toArray = ls at hl ⊢
  have hl : lv_has ls 3 [(0, .ref a0), (1, .int 0)] := hl
  refine lv_aload_n hx hb dX10_numberTrouble_0 rfl (lv_at hl 0 rfl) ?_
  refine cl_i (wc := [(a0, .inr (7, [.ref a1, g2, g3, g4, g5, g6, g7, g8, g9, g10])), (a1, .inr (4, [.int 0, g11, g12, g13, g14, g15, g16, g17, g18, g19, g20, g21, g22, g23, g24, g25, g26, g27]))]) (wr := []) (va_runV (As := []) (rest := []) ⟨hx, hb, hml, hown, hts⟩ (kX10_pierTrouble l dC dI a0 a1 (g2) (g3) (g4) (g5) (g6) (g7) (g8) (g9) (g10) (g11) (g12) (g13) (g14) (g15) (g16) (g17) (g18) (g19) (g20) (g21) (g22) (g23) (g24) (g25) (g26) (g27) s.heap.size) (cwV 0 hts gX10_numberTrouble_1_0 rfl rfl rfl (by decide +kernel) ⟨Nat.le_of_ble_eq_true rfl, Nat.le_of_ble_eq_true rfl⟩) (PV (hP.sub (ws' := [(a0, .inr (7, [.ref a1, g2, g3, g4, g5, g6, g7, g8, g9, g10])), (a1, .inr (4, [.int 0, g11, g12, g13, g14, g15, g16, g17, g18, g19, g20, g21, g22, g23, g24, g25, g26, g27]))]) [0, 1] rfl) (hK.sub (tys' := []) [] rfl) (hD.sub (ws' := [(a0, .inr (7, [.ref a1, g2, g3, g4, g5, g6, g7, g8, g9, g10])), (a1, .inr (4, [.int 0, g11, g12, g13, g14, g15, g16, g17, g18, g19, g20, g21, g22, g23, g24, g25, g26, g27]))]) [0, 1] (by decide) rfl) hN 0 rfl rfl) rfl rfl hl.1 rfl (lv_room (Nat.le_of_ble_eq_true rfl)) dX10_numberTrouble_1 ⟨Nat.le_of_ble_eq_true rfl, Nat.le_of_ble_eq_true rfl⟩) hP hD hK hS hA [0, 1] [] rfl rfl (by decide) (by decide) (fun z1 _u H locs hw hP hD hK hS => ?_)
  have hP : va_P (dC, dI) vwCl [(a0, .inr (7, [.ref a1, g2, g3, g4, g5, g6, g7, g8, g9, g10])), (a1, .inr (4, [.int 0, g11, g12, g13, g14, g15, g16, g17, g18, g19, g20, g21, g22, g23, g24, g25, g26, g27]))] H := hP
  have hD : va_D A [(a0, .inr (7, [.ref a1, g2, g3, g4, g5, g6, g7, g8, g9, g10])), (a1, .inr (4, [.int 0, g11, g12, g13, g14, g15, g16, g17, g18, g19, g20, g21, g22, g23, g24, g25, g26, g27]))] := hD
  have hK : va_K (dC, dI) vwCl [] s := hK
  obtain rfl : z1 = 1 := hw
  refine lv_istore_n (lv' := [(2, .int 1), (0, .ref a0), (1, .int 0)]) hx hb dX10_numberTrouble_4 rfl hl (by decide) rfl (fun ls hl => ?_)
  refine lv_iload_n hx hb dX10_numberTrouble_5 rfl (lv_at hl 0 rfl) ?_
  refine lv_if_ne (tgt := 17) hx hb dX10_numberTrouble_6 (by decide) (fun _ => ?_) (fun c2 => absurd c2 (by decide))
  refine lv_iload_n hx hb dX10_numberTrouble_17 rfl (lv_at hl 0 rfl) ?_
  have hP9 := hP.sub (ws' := [(a0, .inr (7, [.ref a1, g2, g3, g4, g5, g6, g7, g8, g9, g10])), (a1, .inr (4, [.int 0, g11, g12, g13, g14, g15, g16, g17, g18, g19, g20, g21, g22, g23, g24, g25, g26, g27]))]) [0, 1] rfl
  have hD9 := hD.sub (ws' := [(a0, .inr (7, [.ref a1, g2, g3, g4, g5, g6, g7, g8, g9, g10])), (a1, .inr (4, [.int 0, g11, g12, g13, g14, g15, g16, g17, g18, g19, g20, g21, g22, g23, g24, g25, g26, g27]))]) [0, 1] (by decide) rfl
  have hK9 := hK.sub (tys' := []) [] rfl
  exact W.iret (v := 1) hx hb hr (fun t ht hW => ⟨⟨1, (), rfl, rfl, by rw [ht]; exact hP9, va_K.moved hW.alike hK9, hD9⟩, hS.F ht⟩) hS.2.2 dX10_numberTrouble_18
def vX10_numberTrouble_2 : List Cond := .code yX10_numberTrouble cX10_numberTrouble 3 (some .int) :: ([.methodLink RX10 216 yX10_pierTrouble, .instanceMethod yX10_pierTrouble, .selects RX10 yX10_pierTrouble yX10_pierTrouble, .initialized RX10, .code yX10_pierTrouble cX10_pierTrouble 1 (some .int), .fieldLink RX10 10 "HookPier" "plan" "LHookPier$Plan;", .fieldLink RX10 233 "HookPier$Plan" "spots" "I"] ++ wsX100 ++ wsX60)
theorem iX10_numberTrouble_2_X10 : ∀ w ∈ wsX100, w ∈ vX10_numberTrouble_2 := fun _ h => List.mem_cons_of_mem _ (List.mem_append_left _ (List.mem_append_right _ h))
theorem iX10_numberTrouble_2_X6 : ∀ w ∈ wsX60, w ∈ vX10_numberTrouble_2 := fun _ h => List.mem_cons_of_mem _ (List.mem_append_right _ h)
set_option maxRecDepth 20000 in
theorem gX10_numberTrouble_2_0 : GoodIn vX10_numberTrouble_2 (wsV RX10 216 RX10 yX10_pierTrouble vX10_pierTrouble) := goodIn_app (goodIn_r [.methodLink RX10 216 yX10_pierTrouble, .instanceMethod yX10_pierTrouble, .selects RX10 yX10_pierTrouble yX10_pierTrouble, .initialized RX10] [1, 2, 3, 4] (by decide +kernel) (by decide +kernel)) (goodIn_ca (goodIn_ca (goodIn_r (.code yX10_pierTrouble cX10_pierTrouble 1 (some .int) :: [.fieldLink RX10 10 "HookPier" "plan" "LHookPier$Plan;", .fieldLink RX10 233 "HookPier$Plan" "spots" "I"]) [5, 6, 7] (by decide +kernel) (by decide +kernel) : GoodIn vX10_numberTrouble_2 (.code yX10_pierTrouble cX10_pierTrouble 1 (some .int) :: [.fieldLink RX10 10 "HookPier" "plan" "LHookPier$Plan;", .fieldLink RX10 233 "HookPier$Plan" "spots" "I"])) (goodIn_sub iX10_numberTrouble_2_X10 (by decide +kernel))) (goodIn_sub iX10_numberTrouble_2_X6 (by decide +kernel)))
set_option maxHeartbeats 1000000 in
set_option maxRecDepth 100000 in
theorem kX10_numberTrouble_2 (l : Launch) (dC : Nat → ClassId) (dI : Nat → Nat → Nat) (a0 : Nat) (a1 : Nat) (g2 : Value) (g3 : Value) (g4 : Value) (g5 : Value) (g6 : Value) (g7 : Value) (g8 : Value) (g9 : Value) (g10 : Value) (g11 : Value) (g12 : Value) (g13 : Value) (g14 : Value) (g15 : Value) (g16 : Value) (g17 : Value) (g18 : Value) (g19 : Value) (g20 : Value) (g21 : Value) (g22 : Value) (g23 : Value) (g24 : Value) (g25 : Value) (g26 : Value) (g27 : Value) (sz : Nat) : Met l yX10_numberTrouble vX10_numberTrouble_2 ({ frames := 1, cells := 0, slots := 0, locals := 20 }) (PC (dC, dI) [.ref a0, .int 1] sz [(a0, .inr (7, [.ref a1, g2, g3, g4, g5, g6, g7, g8, g9, g10])), (a1, .inr (4, [.int 0, g11, g12, g13, g14, g15, g16, g17, g18, g19, g20, g21, g22, g23, g24, g25, g26, g27]))] []) (va_Qi (S := Unit) (fun (r : Int32) _ => r = 1) (fun _ t => BC (dC, dI) (va_A [(a0, .inr (7, [.ref a1, g2, g3, g4, g5, g6, g7, g8, g9, g10])), (a1, .inr (4, [.int 0, g11, g12, g13, g14, g15, g16, g17, g18, g19, g20, g21, g22, g23, g24, g25, g26, g27]))] sz) [(a0, .inr (7, [.ref a1, g2, g3, g4, g5, g6, g7, g8, g9, g10])), (a1, .inr (4, [.int 0, g11, g12, g13, g14, g15, g16, g17, g18, g19, g20, g21, g22, g23, g24, g25, g26, g27]))] [] t) (va_A [(a0, .inr (7, [.ref a1, g2, g3, g4, g5, g6, g7, g8, g9, g10])), (a1, .inr (4, [.int 0, g11, g12, g13, g14, g15, g16, g17, g18, g19, g20, g21, g22, g23, g24, g25, g26, g27]))] sz)) 0 0 (va_A [(a0, .inr (7, [.ref a1, g2, g3, g4, g5, g6, g7, g8, g9, g10])), (a1, .inr (4, [.int 0, g11, g12, g13, g14, g15, g16, g17, g18, g19, g20, g21, g22, g23, g24, g25, g26, g27]))] sz) := by
  refine Met.ofW (cc := cX10_numberTrouble) (maxL := 3) (ret := (some .int)) (by decide) rfl ?_
  intro p e s m args below meth c s₁ B hml hv
  obtain ⟨rfl, hsz, hP, hK, hD0, hN⟩ := hv
  have hx := B.exec
  have hb := B.bytes
  have hr := B.returns
  have hts := atoms_spec (ws := vX10_numberTrouble_2) B.pre
  have hown : s.vm.findClass RX10 = some m.cls := findClass_of_methodNamed B.named
  have hlocks := B.notSynchronized
  subst hsz
  have hD := hD0.self (sz := s.heap.size)
  generalize hAe : va_A [(a0, .inr (7, [.ref a1, g2, g3, g4, g5, g6, g7, g8, g9, g10])), (a1, .inr (4, [.int 0, g11, g12, g13, g14, g15, g16, g17, g18, g19, g20, g21, g22, g23, g24, g25, g26, g27]))] s.heap.size = A at hD ⊢
  have hA : ∀ q : Nat, s.heap.size ≤ q → A q := fun q h => by rw [← hAe]; exact Or.inr h
  have hS : va_S A s.heap s.heap [] := va_S.rf
  have hP : va_P (dC, dI) vwCl [(a0, .inr (7, [.ref a1, g2, g3, g4, g5, g6, g7, g8, g9, g10])), (a1, .inr (4, [.int 0, g11, g12, g13, g14, g15, g16, g17, g18, g19, g20, g21, g22, g23, g24, g25, g26, g27]))] s.heap := hP
  have hl := lv_entry ([.ref a0, .int 1]) (n := 3) (Nat.le_of_ble_eq_true rfl)
  rw [lg_entry_eq]
  generalize (lg_sl ([.ref a0, .int 1]) ++ List.replicate (3 - (lg_sl ([.ref a0, .int 1])).length) Slot.unset).toArray = ls at hl ⊢
  have hl : lv_has ls 3 [(0, .ref a0), (1, .int 1)] := hl
  refine lv_aload_n hx hb dX10_numberTrouble_0 rfl (lv_at hl 0 rfl) ?_
  refine cl_i (wc := [(a0, .inr (7, [.ref a1, g2, g3, g4, g5, g6, g7, g8, g9, g10])), (a1, .inr (4, [.int 0, g11, g12, g13, g14, g15, g16, g17, g18, g19, g20, g21, g22, g23, g24, g25, g26, g27]))]) (wr := []) (va_runV (As := []) (rest := []) ⟨hx, hb, hml, hown, hts⟩ (kX10_pierTrouble l dC dI a0 a1 (g2) (g3) (g4) (g5) (g6) (g7) (g8) (g9) (g10) (g11) (g12) (g13) (g14) (g15) (g16) (g17) (g18) (g19) (g20) (g21) (g22) (g23) (g24) (g25) (g26) (g27) s.heap.size) (cwV 0 hts gX10_numberTrouble_2_0 rfl rfl rfl (by decide +kernel) ⟨Nat.le_of_ble_eq_true rfl, Nat.le_of_ble_eq_true rfl⟩) (PV (hP.sub (ws' := [(a0, .inr (7, [.ref a1, g2, g3, g4, g5, g6, g7, g8, g9, g10])), (a1, .inr (4, [.int 0, g11, g12, g13, g14, g15, g16, g17, g18, g19, g20, g21, g22, g23, g24, g25, g26, g27]))]) [0, 1] rfl) (hK.sub (tys' := []) [] rfl) (hD.sub (ws' := [(a0, .inr (7, [.ref a1, g2, g3, g4, g5, g6, g7, g8, g9, g10])), (a1, .inr (4, [.int 0, g11, g12, g13, g14, g15, g16, g17, g18, g19, g20, g21, g22, g23, g24, g25, g26, g27]))]) [0, 1] (by decide) rfl) hN 0 rfl rfl) rfl rfl hl.1 rfl (lv_room (Nat.le_of_ble_eq_true rfl)) dX10_numberTrouble_1 ⟨Nat.le_of_ble_eq_true rfl, Nat.le_of_ble_eq_true rfl⟩) hP hD hK hS hA [0, 1] [] rfl rfl (by decide) (by decide) (fun z1 _u H locs hw hP hD hK hS => ?_)
  have hP : va_P (dC, dI) vwCl [(a0, .inr (7, [.ref a1, g2, g3, g4, g5, g6, g7, g8, g9, g10])), (a1, .inr (4, [.int 0, g11, g12, g13, g14, g15, g16, g17, g18, g19, g20, g21, g22, g23, g24, g25, g26, g27]))] H := hP
  have hD : va_D A [(a0, .inr (7, [.ref a1, g2, g3, g4, g5, g6, g7, g8, g9, g10])), (a1, .inr (4, [.int 0, g11, g12, g13, g14, g15, g16, g17, g18, g19, g20, g21, g22, g23, g24, g25, g26, g27]))] := hD
  have hK : va_K (dC, dI) vwCl [] s := hK
  obtain rfl : z1 = 1 := hw
  refine lv_istore_n (lv' := [(2, .int 1), (0, .ref a0), (1, .int 1)]) hx hb dX10_numberTrouble_4 rfl hl (by decide) rfl (fun ls hl => ?_)
  refine lv_iload_n hx hb dX10_numberTrouble_5 rfl (lv_at hl 0 rfl) ?_
  refine lv_if_ne (tgt := 17) hx hb dX10_numberTrouble_6 (by decide) (fun _ => ?_) (fun c2 => absurd c2 (by decide))
  refine lv_iload_n hx hb dX10_numberTrouble_17 rfl (lv_at hl 0 rfl) ?_
  have hP9 := hP.sub (ws' := [(a0, .inr (7, [.ref a1, g2, g3, g4, g5, g6, g7, g8, g9, g10])), (a1, .inr (4, [.int 0, g11, g12, g13, g14, g15, g16, g17, g18, g19, g20, g21, g22, g23, g24, g25, g26, g27]))]) [0, 1] rfl
  have hD9 := hD.sub (ws' := [(a0, .inr (7, [.ref a1, g2, g3, g4, g5, g6, g7, g8, g9, g10])), (a1, .inr (4, [.int 0, g11, g12, g13, g14, g15, g16, g17, g18, g19, g20, g21, g22, g23, g24, g25, g26, g27]))]) [0, 1] (by decide) rfl
  have hK9 := hK.sub (tys' := []) [] rfl
  exact W.iret (v := 1) hx hb hr (fun t ht hW => ⟨⟨1, (), rfl, rfl, by rw [ht]; exact hP9, va_K.moved hW.alike hK9, hD9⟩, hS.F ht⟩) hS.2.2 dX10_numberTrouble_18
theorem dX10_lines_0 : decode cX10_lines 0 = .ok (.iload_n 1, 1) := by decide +kernel
theorem dX10_lines_1 : decode cX10_lines 1 = .ok (.iconst 0, 1) := by decide +kernel
theorem dX10_lines_10 : decode cX10_lines 10 = .ok (.iload_n 2, 1) := by decide +kernel
theorem dX10_lines_11 : decode cX10_lines 11 = .ok (.iconst 0, 1) := by decide +kernel
theorem dX10_lines_12 : decode cX10_lines 12 = .ok (.bipush 6, 2) := by decide +kernel
theorem dX10_lines_14 : decode cX10_lines 14 = .ok (.invokestatic 75, 3) := by decide +kernel
theorem dX10_lines_17 : decode cX10_lines 17 = .ok (.ifCond .eq 17, 3) := by decide +kernel
theorem dX10_lines_2 : decode cX10_lines 2 = .ok (.bipush 99, 2) := by decide +kernel
theorem dX10_lines_20 : decode cX10_lines 20 = .ok (.iload_n 3, 1) := by decide +kernel
theorem dX10_lines_21 : decode cX10_lines 21 = .ok (.iconst 0, 1) := by decide +kernel
theorem dX10_lines_22 : decode cX10_lines 22 = .ok (.bipush 6, 2) := by decide +kernel
theorem dX10_lines_24 : decode cX10_lines 24 = .ok (.invokestatic 75, 3) := by decide +kernel
theorem dX10_lines_27 : decode cX10_lines 27 = .ok (.ifCond .eq 7, 3) := by decide +kernel
theorem dX10_lines_30 : decode cX10_lines 30 = .ok (.iconst 1, 1) := by decide +kernel
theorem dX10_lines_31 : decode cX10_lines 31 = .ok (.goto 4, 3) := by decide +kernel
theorem dX10_lines_34 : decode cX10_lines 34 = .ok (.iconst 0, 1) := by decide +kernel
theorem dX10_lines_35 : decode cX10_lines 35 = .ok (.istore 5, 2) := by decide +kernel
theorem dX10_lines_37 : decode cX10_lines 37 = .ok (.aload_n 0, 1) := by decide +kernel
theorem dX10_lines_38 : decode cX10_lines 38 = .ok (.aload_n 0, 1) := by decide +kernel
theorem dX10_lines_39 : decode cX10_lines 39 = .ok (.iload 5, 2) := by decide +kernel
theorem dX10_lines_4 : decode cX10_lines 4 = .ok (.invokestatic 75, 3) := by decide +kernel
theorem dX10_lines_41 : decode cX10_lines 41 = .ok (.invokevirtual 169, 3) := by decide +kernel
theorem dX10_lines_44 : decode cX10_lines 44 = .ok (.invokevirtual 79, 3) := by decide +kernel
theorem dX10_lines_47 : decode cX10_lines 47 = .ok (.ifCond .eq 6, 3) := by decide +kernel
theorem dX10_lines_50 : decode cX10_lines 50 = .ok (.bipush (-100), 2) := by decide +kernel
theorem dX10_lines_52 : decode cX10_lines 52 = .ok (.ireturn, 1) := by decide +kernel
theorem dX10_lines_7 : decode cX10_lines 7 = .ok (.ifCond .eq 27, 3) := by decide +kernel
def vX10_lines : List Cond := .code yX10_lines cX10_lines 6 (some .int) :: ([.methodLink RX10 75 yX10_within, .static yX10_within, .initialized RX10, .code yX10_within cX10_within 3 (some .boolean), .methodLink RX10 169 yX10_numberTrouble, .instanceMethod yX10_numberTrouble, .selects RX10 yX10_numberTrouble yX10_numberTrouble, .code yX10_numberTrouble cX10_numberTrouble 3 (some .int), .methodLink RX10 216 yX10_pierTrouble, .instanceMethod yX10_pierTrouble, .selects RX10 yX10_pierTrouble yX10_pierTrouble, .code yX10_pierTrouble cX10_pierTrouble 1 (some .int), .fieldLink RX10 10 "HookPier" "plan" "LHookPier$Plan;", .fieldLink RX10 233 "HookPier$Plan" "spots" "I", .methodLink RX10 79 yX10_refused, .instanceMethod yX10_refused, .selects RX10 yX10_refused yX10_refused, .code yX10_refused cX10_refused 2 (some .boolean), .fieldLink RX10 61 "HookPier" "troubleNow" "I"] ++ wsX100 ++ wsX60)
theorem iX10_lines_X10 : ∀ w ∈ wsX100, w ∈ vX10_lines := fun _ h => List.mem_cons_of_mem _ (List.mem_append_left _ (List.mem_append_right _ h))
theorem iX10_lines_X6 : ∀ w ∈ wsX60, w ∈ vX10_lines := fun _ h => List.mem_cons_of_mem _ (List.mem_append_right _ h)
set_option maxRecDepth 20000 in
theorem gX10_lines_0 : GoodIn vX10_lines (va_wsS RX10 75 yX10_within vX10_within_7) := goodIn_app (goodIn_r [.methodLink RX10 75 yX10_within, .static yX10_within, .initialized RX10] [1, 2, 3] (by decide +kernel) (by decide +kernel)) (goodIn_r (.code yX10_within cX10_within 3 (some .boolean) :: []) [4] (by decide +kernel) (by decide +kernel) : GoodIn vX10_lines (.code yX10_within cX10_within 3 (some .boolean) :: []))
set_option maxRecDepth 20000 in
theorem gX10_lines_1 : GoodIn vX10_lines (wsV RX10 169 RX10 yX10_numberTrouble vX10_numberTrouble_1) := goodIn_app (goodIn_r [.methodLink RX10 169 yX10_numberTrouble, .instanceMethod yX10_numberTrouble, .selects RX10 yX10_numberTrouble yX10_numberTrouble, .initialized RX10] [5, 6, 7, 3] (by decide +kernel) (by decide +kernel)) (goodIn_ca (goodIn_ca (goodIn_r (.code yX10_numberTrouble cX10_numberTrouble 3 (some .int) :: [.methodLink RX10 216 yX10_pierTrouble, .instanceMethod yX10_pierTrouble, .selects RX10 yX10_pierTrouble yX10_pierTrouble, .initialized RX10, .code yX10_pierTrouble cX10_pierTrouble 1 (some .int), .fieldLink RX10 10 "HookPier" "plan" "LHookPier$Plan;", .fieldLink RX10 233 "HookPier$Plan" "spots" "I"]) [8, 9, 10, 11, 3, 12, 13, 14] (by decide +kernel) (by decide +kernel) : GoodIn vX10_lines (.code yX10_numberTrouble cX10_numberTrouble 3 (some .int) :: [.methodLink RX10 216 yX10_pierTrouble, .instanceMethod yX10_pierTrouble, .selects RX10 yX10_pierTrouble yX10_pierTrouble, .initialized RX10, .code yX10_pierTrouble cX10_pierTrouble 1 (some .int), .fieldLink RX10 10 "HookPier" "plan" "LHookPier$Plan;", .fieldLink RX10 233 "HookPier$Plan" "spots" "I"])) (goodIn_sub iX10_lines_X10 (by decide +kernel))) (goodIn_sub iX10_lines_X6 (by decide +kernel)))
set_option maxRecDepth 20000 in
theorem gX10_lines_2 : GoodIn vX10_lines (wsV RX10 79 RX10 yX10_refused vX10_refused_3) := goodIn_app (goodIn_r [.methodLink RX10 79 yX10_refused, .instanceMethod yX10_refused, .selects RX10 yX10_refused yX10_refused, .initialized RX10] [15, 16, 17, 3] (by decide +kernel) (by decide +kernel)) (goodIn_ca (goodIn_r (.code yX10_refused cX10_refused 2 (some .boolean) :: [.fieldLink RX10 61 "HookPier" "troubleNow" "I"]) [18, 19] (by decide +kernel) (by decide +kernel) : GoodIn vX10_lines (.code yX10_refused cX10_refused 2 (some .boolean) :: [.fieldLink RX10 61 "HookPier" "troubleNow" "I"])) (goodIn_sub iX10_lines_X10 (by decide +kernel)))
set_option maxRecDepth 20000 in
theorem gX10_lines_3 : GoodIn vX10_lines (va_wsS RX10 75 yX10_within vX10_within_6) := goodIn_app (goodIn_r [.methodLink RX10 75 yX10_within, .static yX10_within, .initialized RX10] [1, 2, 3] (by decide +kernel) (by decide +kernel)) (goodIn_r (.code yX10_within cX10_within 3 (some .boolean) :: []) [4] (by decide +kernel) (by decide +kernel) : GoodIn vX10_lines (.code yX10_within cX10_within 3 (some .boolean) :: []))
set_option maxRecDepth 20000 in
theorem gX10_lines_4 : GoodIn vX10_lines (wsV RX10 169 RX10 yX10_numberTrouble vX10_numberTrouble_2) := goodIn_app (goodIn_r [.methodLink RX10 169 yX10_numberTrouble, .instanceMethod yX10_numberTrouble, .selects RX10 yX10_numberTrouble yX10_numberTrouble, .initialized RX10] [5, 6, 7, 3] (by decide +kernel) (by decide +kernel)) (goodIn_ca (goodIn_ca (goodIn_r (.code yX10_numberTrouble cX10_numberTrouble 3 (some .int) :: [.methodLink RX10 216 yX10_pierTrouble, .instanceMethod yX10_pierTrouble, .selects RX10 yX10_pierTrouble yX10_pierTrouble, .initialized RX10, .code yX10_pierTrouble cX10_pierTrouble 1 (some .int), .fieldLink RX10 10 "HookPier" "plan" "LHookPier$Plan;", .fieldLink RX10 233 "HookPier$Plan" "spots" "I"]) [8, 9, 10, 11, 3, 12, 13, 14] (by decide +kernel) (by decide +kernel) : GoodIn vX10_lines (.code yX10_numberTrouble cX10_numberTrouble 3 (some .int) :: [.methodLink RX10 216 yX10_pierTrouble, .instanceMethod yX10_pierTrouble, .selects RX10 yX10_pierTrouble yX10_pierTrouble, .initialized RX10, .code yX10_pierTrouble cX10_pierTrouble 1 (some .int), .fieldLink RX10 10 "HookPier" "plan" "LHookPier$Plan;", .fieldLink RX10 233 "HookPier$Plan" "spots" "I"])) (goodIn_sub iX10_lines_X10 (by decide +kernel))) (goodIn_sub iX10_lines_X6 (by decide +kernel)))
set_option maxHeartbeats 1000000 in
set_option maxRecDepth 100000 in
theorem kX10_lines (l : Launch) (dC : Nat → ClassId) (dI : Nat → Nat → Nat) (a0 : Nat) (k1 : Int32) (k2 : Int32) (k3 : Int32) (k4 : Int32) (a5 : Nat) (g6 : Value) (g7 : Value) (g8 : Value) (g9 : Value) (g10 : Value) (g11 : Value) (g12 : Value) (g13 : Value) (g14 : Value) (g15 : Value) (g16 : Value) (g17 : Value) (g18 : Value) (g19 : Value) (g20 : Value) (g21 : Value) (g22 : Value) (g23 : Value) (g24 : Value) (g25 : Value) (g26 : Value) (g27 : Value) (g28 : Value) (g29 : Value) (g30 : Value) (g31 : Value) (sz : Nat) : Met l yX10_lines vX10_lines ({ frames := 2, cells := 0, slots := 0, locals := 42 }) (PC (dC, dI) [.ref a0, .int k1, .int k2, .int k3, .int k4] sz [(a0, .inr (7, [.ref a5, g6, g7, g8, g9, g10, g11, g12, g13, g14])), (a5, .inr (4, [.int 0, g15, g16, g17, g18, g19, g20, g21, g22, g23, g24, g25, g26, g27, g28, g29, g30, g31]))] []) (va_Qi (S := Unit) (fun (r : Int32) _ => r = (-100)) (fun _ t => BC (dC, dI) (va_A [(a0, .inr (7, [.ref a5, g6, g7, g8, g9, g10, g11, g12, g13, g14])), (a5, .inr (4, [.int 0, g15, g16, g17, g18, g19, g20, g21, g22, g23, g24, g25, g26, g27, g28, g29, g30, g31]))] sz) [] [] t) (va_A [(a0, .inr (7, [.ref a5, g6, g7, g8, g9, g10, g11, g12, g13, g14])), (a5, .inr (4, [.int 0, g15, g16, g17, g18, g19, g20, g21, g22, g23, g24, g25, g26, g27, g28, g29, g30, g31]))] sz)) 0 0 (va_A [(a0, .inr (7, [.ref a5, g6, g7, g8, g9, g10, g11, g12, g13, g14])), (a5, .inr (4, [.int 0, g15, g16, g17, g18, g19, g20, g21, g22, g23, g24, g25, g26, g27, g28, g29, g30, g31]))] sz) := by
  refine Met.ofW (cc := cX10_lines) (maxL := 6) (ret := (some .int)) (by decide) rfl ?_
  intro p e s m args below meth c s₁ B hml hv
  obtain ⟨rfl, hsz, hP, hK, hD0, hN⟩ := hv
  have hx := B.exec
  have hb := B.bytes
  have hr := B.returns
  have hts := atoms_spec (ws := vX10_lines) B.pre
  have hown : s.vm.findClass RX10 = some m.cls := findClass_of_methodNamed B.named
  have hlocks := B.notSynchronized
  subst hsz
  have hD := hD0.self (sz := s.heap.size)
  generalize hAe : va_A [(a0, .inr (7, [.ref a5, g6, g7, g8, g9, g10, g11, g12, g13, g14])), (a5, .inr (4, [.int 0, g15, g16, g17, g18, g19, g20, g21, g22, g23, g24, g25, g26, g27, g28, g29, g30, g31]))] s.heap.size = A at hD ⊢
  have hA : ∀ q : Nat, s.heap.size ≤ q → A q := fun q h => by rw [← hAe]; exact Or.inr h
  have hS : va_S A s.heap s.heap [] := va_S.rf
  have hP : va_P (dC, dI) vwCl [(a0, .inr (7, [.ref a5, g6, g7, g8, g9, g10, g11, g12, g13, g14])), (a5, .inr (4, [.int 0, g15, g16, g17, g18, g19, g20, g21, g22, g23, g24, g25, g26, g27, g28, g29, g30, g31]))] s.heap := hP
  have hl := lv_entry ([.ref a0, .int k1, .int k2, .int k3, .int k4]) (n := 6) (Nat.le_of_ble_eq_true rfl)
  rw [lg_entry_eq]
  generalize (lg_sl ([.ref a0, .int k1, .int k2, .int k3, .int k4]) ++ List.replicate (6 - (lg_sl ([.ref a0, .int k1, .int k2, .int k3, .int k4])).length) Slot.unset).toArray = ls at hl ⊢
  have hl : lv_has ls 6 [(0, .ref a0), (1, .int k1), (2, .int k2), (3, .int k3), (4, .int k4)] := hl
  refine lv_iload_n hx hb dX10_lines_0 rfl (lv_at hl 1 rfl) ?_
  refine lv_iconst (v := 0) hx hb dX10_lines_1 (by decide) ?_
  refine lv_bipush (v := 99) hx hb dX10_lines_2 (by decide) ?_
  refine cl_i (wc := []) (wr := [(a0, .inr (7, [.ref a5, g6, g7, g8, g9, g10, g11, g12, g13, g14])), (a5, .inr (4, [.int 0, g15, g16, g17, g18, g19, g20, g21, g22, g23, g24, g25, g26, g27, g28, g29, g30, g31]))]) (va_runS (As := [.int k1, .int 0, .int 99]) (rest := []) ⟨hx, hb, hml, hown, hts⟩ (kX10_within_7 l dC dI k1 s.heap.size) (va_cwS 3 hts gX10_lines_0 rfl rfl rfl (by decide +kernel) ⟨Nat.le_of_ble_eq_true rfl, Nat.le_of_ble_eq_true rfl⟩) (PS (hP.sub (ws' := []) [] rfl) (hK.sub (tys' := []) [] rfl) (hD.sub (ws' := []) [] (by decide) rfl) hN) rfl rfl hl.1 rfl (lv_room (Nat.le_of_ble_eq_true rfl)) dX10_lines_4 ⟨Nat.le_of_ble_eq_true rfl, Nat.le_of_ble_eq_true rfl⟩) hP hD hK hS hA [] [0, 1] rfl rfl (by decide) (by decide) (fun z1 _u H locs hw hP hD hK hS => ?_)
  have hP : va_P (dC, dI) vwCl [(a0, .inr (7, [.ref a5, g6, g7, g8, g9, g10, g11, g12, g13, g14])), (a5, .inr (4, [.int 0, g15, g16, g17, g18, g19, g20, g21, g22, g23, g24, g25, g26, g27, g28, g29, g30, g31]))] H := hP
  have hD : va_D A [(a0, .inr (7, [.ref a5, g6, g7, g8, g9, g10, g11, g12, g13, g14])), (a5, .inr (4, [.int 0, g15, g16, g17, g18, g19, g20, g21, g22, g23, g24, g25, g26, g27, g28, g29, g30, g31]))] := hD
  have hK : va_K (dC, dI) vwCl [] s := hK
  refine lv_if_eq (tgt := 34) hx hb dX10_lines_7 (by decide) (fun c2 => ?_) (fun c2 => ?_)
  · obtain rfl : z1 = 0 := (by simp only [fa_lt, fa_le, fa_eq, ltv_0] at c2 ⊢; omega)
    refine lv_iconst (v := 0) hx hb dX10_lines_34 (by decide) ?_
    refine lv_istore (lv' := [(5, .int 0), (0, .ref a0), (1, .int k1), (2, .int k2), (3, .int k3), (4, .int k4)]) hx hb dX10_lines_35 hl (by decide) rfl (fun ls hl => ?_)
    refine lv_aload_n hx hb dX10_lines_37 rfl (lv_at hl 1 rfl) ?_
    refine lv_aload_n hx hb dX10_lines_38 rfl (lv_at hl 1 rfl) ?_
    refine lv_iload hx hb dX10_lines_39 (lv_at hl 0 rfl) ?_
    refine cl_i (wc := [(a0, .inr (7, [.ref a5, g6, g7, g8, g9, g10, g11, g12, g13, g14])), (a5, .inr (4, [.int 0, g15, g16, g17, g18, g19, g20, g21, g22, g23, g24, g25, g26, g27, g28, g29, g30, g31]))]) (wr := []) (va_runV (As := [.int 0]) (rest := [.ref a0]) ⟨hx, hb, hml, hown, hts⟩ (kX10_numberTrouble_1 l dC dI a0 a5 (g6) (g7) (g8) (g9) (g10) (g11) (g12) (g13) (g14) (g15) (g16) (g17) (g18) (g19) (g20) (g21) (g22) (g23) (g24) (g25) (g26) (g27) (g28) (g29) (g30) (g31) H.size) (cwV 1 hts gX10_lines_1 rfl rfl rfl (by decide +kernel) ⟨Nat.le_of_ble_eq_true rfl, Nat.le_of_ble_eq_true rfl⟩) (PV (hP.sub (ws' := [(a0, .inr (7, [.ref a5, g6, g7, g8, g9, g10, g11, g12, g13, g14])), (a5, .inr (4, [.int 0, g15, g16, g17, g18, g19, g20, g21, g22, g23, g24, g25, g26, g27, g28, g29, g30, g31]))]) [0, 1] rfl) (hK.sub (tys' := []) [] rfl) (hD.sub (ws' := [(a0, .inr (7, [.ref a5, g6, g7, g8, g9, g10, g11, g12, g13, g14])), (a5, .inr (4, [.int 0, g15, g16, g17, g18, g19, g20, g21, g22, g23, g24, g25, g26, g27, g28, g29, g30, g31]))]) [0, 1] (by decide) rfl) hN 0 rfl rfl) rfl rfl hl.1 rfl (lv_room (Nat.le_of_ble_eq_true rfl)) dX10_lines_41 ⟨Nat.le_of_ble_eq_true rfl, Nat.le_of_ble_eq_true rfl⟩) hP hD hK hS hA [0, 1] [] rfl rfl (by decide) (by decide) (fun z3 _u H locs hw hP hD hK hS => ?_)
    have hP : va_P (dC, dI) vwCl [(a0, .inr (7, [.ref a5, g6, g7, g8, g9, g10, g11, g12, g13, g14])), (a5, .inr (4, [.int 0, g15, g16, g17, g18, g19, g20, g21, g22, g23, g24, g25, g26, g27, g28, g29, g30, g31]))] H := hP
    have hD : va_D A [(a0, .inr (7, [.ref a5, g6, g7, g8, g9, g10, g11, g12, g13, g14])), (a5, .inr (4, [.int 0, g15, g16, g17, g18, g19, g20, g21, g22, g23, g24, g25, g26, g27, g28, g29, g30, g31]))] := hD
    have hK : va_K (dC, dI) vwCl [] s := hK
    obtain rfl : z3 = 1 := hw
    refine cl_i (wc := [(a0, .inr (7, [.ref a5, g6, g7, g8, g9, g10, g11, g12, g13, g14]))]) (wr := [(a5, .inr (4, [.int 0, g15, g16, g17, g18, g19, g20, g21, g22, g23, g24, g25, g26, g27, g28, g29, g30, g31]))]) (va_runV (As := [.int 1]) (rest := []) ⟨hx, hb, hml, hown, hts⟩ (kX10_refused_3 l dC dI a0 (.ref a5) (g6) (g7) (g8) (g9) (g10) (g11) (g12) (g13) (g14) H.size) (cwV 1 hts gX10_lines_2 rfl rfl rfl (by decide +kernel) ⟨Nat.le_of_ble_eq_true rfl, Nat.le_of_ble_eq_true rfl⟩) (PV (hP.sub (ws' := [(a0, .inr (7, [.ref a5, g6, g7, g8, g9, g10, g11, g12, g13, g14]))]) [0] rfl) (hK.sub (tys' := []) [] rfl) (hD.sub (ws' := [(a0, .inr (7, [.ref a5, g6, g7, g8, g9, g10, g11, g12, g13, g14]))]) [0] (by decide) rfl) hN 0 rfl rfl) rfl rfl hl.1 rfl (lv_room (Nat.le_of_ble_eq_true rfl)) dX10_lines_44 ⟨Nat.le_of_ble_eq_true rfl, Nat.le_of_ble_eq_true rfl⟩) hP hD hK hS hA [0] [1] rfl rfl (by decide) (by decide) (fun z4 _u H locs hw hP hD hK hS => ?_)
    have hP : va_P (dC, dI) vwCl [(a5, .inr (4, [.int 0, g15, g16, g17, g18, g19, g20, g21, g22, g23, g24, g25, g26, g27, g28, g29, g30, g31])), (a0, .inr (7, [.ref a5, g6, g7, g8, g9, g10, g11, g12, .int 1, g14]))] H := hP
    have hD : va_D A [(a5, .inr (4, [.int 0, g15, g16, g17, g18, g19, g20, g21, g22, g23, g24, g25, g26, g27, g28, g29, g30, g31])), (a0, .inr (7, [.ref a5, g6, g7, g8, g9, g10, g11, g12, .int 1, g14]))] := hD
    have hK : va_K (dC, dI) vwCl [] s := hK
    obtain rfl : z4 = 1 := hw
    refine lv_if_eq (tgt := 53) hx hb dX10_lines_47 (by decide) (fun c5 => absurd c5 (by decide)) (fun _ => ?_)
    refine lv_bipush (v := (-100)) hx hb dX10_lines_50 (by decide) ?_
    have hP9 := hP.sub (ws' := []) [] rfl
    have hD9 := hD.sub (ws' := []) [] (by decide) rfl
    have hK9 := hK.sub (tys' := []) [] rfl
    exact W.iret (v := (-100)) hx hb hr (fun t ht hW => ⟨⟨(-100), (), rfl, rfl, by rw [ht]; exact hP9, va_K.moved hW.alike hK9, hD9⟩, hS.F ht⟩) hS.2.2 dX10_lines_52
  · refine lv_iload_n hx hb dX10_lines_10 rfl (lv_at hl 2 rfl) ?_
    refine lv_iconst (v := 0) hx hb dX10_lines_11 (by decide) ?_
    refine lv_bipush (v := 6) hx hb dX10_lines_12 (by decide) ?_
    refine cl_i (wc := []) (wr := [(a0, .inr (7, [.ref a5, g6, g7, g8, g9, g10, g11, g12, g13, g14])), (a5, .inr (4, [.int 0, g15, g16, g17, g18, g19, g20, g21, g22, g23, g24, g25, g26, g27, g28, g29, g30, g31]))]) (va_runS (As := [.int k2, .int 0, .int 6]) (rest := []) ⟨hx, hb, hml, hown, hts⟩ (kX10_within_6 l dC dI k2 H.size) (va_cwS 3 hts gX10_lines_3 rfl rfl rfl (by decide +kernel) ⟨Nat.le_of_ble_eq_true rfl, Nat.le_of_ble_eq_true rfl⟩) (PS (hP.sub (ws' := []) [] rfl) (hK.sub (tys' := []) [] rfl) (hD.sub (ws' := []) [] (by decide) rfl) hN) rfl rfl hl.1 rfl (lv_room (Nat.le_of_ble_eq_true rfl)) dX10_lines_14 ⟨Nat.le_of_ble_eq_true rfl, Nat.le_of_ble_eq_true rfl⟩) hP hD hK hS hA [] [0, 1] rfl rfl (by decide) (by decide) (fun z6 _u H locs hw hP hD hK hS => ?_)
    have hP : va_P (dC, dI) vwCl [(a0, .inr (7, [.ref a5, g6, g7, g8, g9, g10, g11, g12, g13, g14])), (a5, .inr (4, [.int 0, g15, g16, g17, g18, g19, g20, g21, g22, g23, g24, g25, g26, g27, g28, g29, g30, g31]))] H := hP
    have hD : va_D A [(a0, .inr (7, [.ref a5, g6, g7, g8, g9, g10, g11, g12, g13, g14])), (a5, .inr (4, [.int 0, g15, g16, g17, g18, g19, g20, g21, g22, g23, g24, g25, g26, g27, g28, g29, g30, g31]))] := hD
    have hK : va_K (dC, dI) vwCl [] s := hK
    refine lv_if_eq (tgt := 34) hx hb dX10_lines_17 (by decide) (fun c7 => ?_) (fun c7 => ?_)
    · obtain rfl : z6 = 0 := (by simp only [fa_lt, fa_le, fa_eq, ltv_0] at c7 ⊢; omega)
      refine lv_iconst (v := 0) hx hb dX10_lines_34 (by decide) ?_
      refine lv_istore (lv' := [(5, .int 0), (0, .ref a0), (1, .int k1), (2, .int k2), (3, .int k3), (4, .int k4)]) hx hb dX10_lines_35 hl (by decide) rfl (fun ls hl => ?_)
      refine lv_aload_n hx hb dX10_lines_37 rfl (lv_at hl 1 rfl) ?_
      refine lv_aload_n hx hb dX10_lines_38 rfl (lv_at hl 1 rfl) ?_
      refine lv_iload hx hb dX10_lines_39 (lv_at hl 0 rfl) ?_
      refine cl_i (wc := [(a0, .inr (7, [.ref a5, g6, g7, g8, g9, g10, g11, g12, g13, g14])), (a5, .inr (4, [.int 0, g15, g16, g17, g18, g19, g20, g21, g22, g23, g24, g25, g26, g27, g28, g29, g30, g31]))]) (wr := []) (va_runV (As := [.int 0]) (rest := [.ref a0]) ⟨hx, hb, hml, hown, hts⟩ (kX10_numberTrouble_1 l dC dI a0 a5 (g6) (g7) (g8) (g9) (g10) (g11) (g12) (g13) (g14) (g15) (g16) (g17) (g18) (g19) (g20) (g21) (g22) (g23) (g24) (g25) (g26) (g27) (g28) (g29) (g30) (g31) H.size) (cwV 1 hts gX10_lines_1 rfl rfl rfl (by decide +kernel) ⟨Nat.le_of_ble_eq_true rfl, Nat.le_of_ble_eq_true rfl⟩) (PV (hP.sub (ws' := [(a0, .inr (7, [.ref a5, g6, g7, g8, g9, g10, g11, g12, g13, g14])), (a5, .inr (4, [.int 0, g15, g16, g17, g18, g19, g20, g21, g22, g23, g24, g25, g26, g27, g28, g29, g30, g31]))]) [0, 1] rfl) (hK.sub (tys' := []) [] rfl) (hD.sub (ws' := [(a0, .inr (7, [.ref a5, g6, g7, g8, g9, g10, g11, g12, g13, g14])), (a5, .inr (4, [.int 0, g15, g16, g17, g18, g19, g20, g21, g22, g23, g24, g25, g26, g27, g28, g29, g30, g31]))]) [0, 1] (by decide) rfl) hN 0 rfl rfl) rfl rfl hl.1 rfl (lv_room (Nat.le_of_ble_eq_true rfl)) dX10_lines_41 ⟨Nat.le_of_ble_eq_true rfl, Nat.le_of_ble_eq_true rfl⟩) hP hD hK hS hA [0, 1] [] rfl rfl (by decide) (by decide) (fun z8 _u H locs hw hP hD hK hS => ?_)
      have hP : va_P (dC, dI) vwCl [(a0, .inr (7, [.ref a5, g6, g7, g8, g9, g10, g11, g12, g13, g14])), (a5, .inr (4, [.int 0, g15, g16, g17, g18, g19, g20, g21, g22, g23, g24, g25, g26, g27, g28, g29, g30, g31]))] H := hP
      have hD : va_D A [(a0, .inr (7, [.ref a5, g6, g7, g8, g9, g10, g11, g12, g13, g14])), (a5, .inr (4, [.int 0, g15, g16, g17, g18, g19, g20, g21, g22, g23, g24, g25, g26, g27, g28, g29, g30, g31]))] := hD
      have hK : va_K (dC, dI) vwCl [] s := hK
      obtain rfl : z8 = 1 := hw
      refine cl_i (wc := [(a0, .inr (7, [.ref a5, g6, g7, g8, g9, g10, g11, g12, g13, g14]))]) (wr := [(a5, .inr (4, [.int 0, g15, g16, g17, g18, g19, g20, g21, g22, g23, g24, g25, g26, g27, g28, g29, g30, g31]))]) (va_runV (As := [.int 1]) (rest := []) ⟨hx, hb, hml, hown, hts⟩ (kX10_refused_3 l dC dI a0 (.ref a5) (g6) (g7) (g8) (g9) (g10) (g11) (g12) (g13) (g14) H.size) (cwV 1 hts gX10_lines_2 rfl rfl rfl (by decide +kernel) ⟨Nat.le_of_ble_eq_true rfl, Nat.le_of_ble_eq_true rfl⟩) (PV (hP.sub (ws' := [(a0, .inr (7, [.ref a5, g6, g7, g8, g9, g10, g11, g12, g13, g14]))]) [0] rfl) (hK.sub (tys' := []) [] rfl) (hD.sub (ws' := [(a0, .inr (7, [.ref a5, g6, g7, g8, g9, g10, g11, g12, g13, g14]))]) [0] (by decide) rfl) hN 0 rfl rfl) rfl rfl hl.1 rfl (lv_room (Nat.le_of_ble_eq_true rfl)) dX10_lines_44 ⟨Nat.le_of_ble_eq_true rfl, Nat.le_of_ble_eq_true rfl⟩) hP hD hK hS hA [0] [1] rfl rfl (by decide) (by decide) (fun z9 _u H locs hw hP hD hK hS => ?_)
      have hP : va_P (dC, dI) vwCl [(a5, .inr (4, [.int 0, g15, g16, g17, g18, g19, g20, g21, g22, g23, g24, g25, g26, g27, g28, g29, g30, g31])), (a0, .inr (7, [.ref a5, g6, g7, g8, g9, g10, g11, g12, .int 1, g14]))] H := hP
      have hD : va_D A [(a5, .inr (4, [.int 0, g15, g16, g17, g18, g19, g20, g21, g22, g23, g24, g25, g26, g27, g28, g29, g30, g31])), (a0, .inr (7, [.ref a5, g6, g7, g8, g9, g10, g11, g12, .int 1, g14]))] := hD
      have hK : va_K (dC, dI) vwCl [] s := hK
      obtain rfl : z9 = 1 := hw
      refine lv_if_eq (tgt := 53) hx hb dX10_lines_47 (by decide) (fun c10 => absurd c10 (by decide)) (fun _ => ?_)
      refine lv_bipush (v := (-100)) hx hb dX10_lines_50 (by decide) ?_
      have hP9 := hP.sub (ws' := []) [] rfl
      have hD9 := hD.sub (ws' := []) [] (by decide) rfl
      have hK9 := hK.sub (tys' := []) [] rfl
      exact W.iret (v := (-100)) hx hb hr (fun t ht hW => ⟨⟨(-100), (), rfl, rfl, by rw [ht]; exact hP9, va_K.moved hW.alike hK9, hD9⟩, hS.F ht⟩) hS.2.2 dX10_lines_52
    · refine lv_iload_n hx hb dX10_lines_20 rfl (lv_at hl 3 rfl) ?_
      refine lv_iconst (v := 0) hx hb dX10_lines_21 (by decide) ?_
      refine lv_bipush (v := 6) hx hb dX10_lines_22 (by decide) ?_
      refine cl_i (wc := []) (wr := [(a0, .inr (7, [.ref a5, g6, g7, g8, g9, g10, g11, g12, g13, g14])), (a5, .inr (4, [.int 0, g15, g16, g17, g18, g19, g20, g21, g22, g23, g24, g25, g26, g27, g28, g29, g30, g31]))]) (va_runS (As := [.int k3, .int 0, .int 6]) (rest := []) ⟨hx, hb, hml, hown, hts⟩ (kX10_within_6 l dC dI k3 H.size) (va_cwS 3 hts gX10_lines_3 rfl rfl rfl (by decide +kernel) ⟨Nat.le_of_ble_eq_true rfl, Nat.le_of_ble_eq_true rfl⟩) (PS (hP.sub (ws' := []) [] rfl) (hK.sub (tys' := []) [] rfl) (hD.sub (ws' := []) [] (by decide) rfl) hN) rfl rfl hl.1 rfl (lv_room (Nat.le_of_ble_eq_true rfl)) dX10_lines_24 ⟨Nat.le_of_ble_eq_true rfl, Nat.le_of_ble_eq_true rfl⟩) hP hD hK hS hA [] [0, 1] rfl rfl (by decide) (by decide) (fun z11 _u H locs hw hP hD hK hS => ?_)
      have hP : va_P (dC, dI) vwCl [(a0, .inr (7, [.ref a5, g6, g7, g8, g9, g10, g11, g12, g13, g14])), (a5, .inr (4, [.int 0, g15, g16, g17, g18, g19, g20, g21, g22, g23, g24, g25, g26, g27, g28, g29, g30, g31]))] H := hP
      have hD : va_D A [(a0, .inr (7, [.ref a5, g6, g7, g8, g9, g10, g11, g12, g13, g14])), (a5, .inr (4, [.int 0, g15, g16, g17, g18, g19, g20, g21, g22, g23, g24, g25, g26, g27, g28, g29, g30, g31]))] := hD
      have hK : va_K (dC, dI) vwCl [] s := hK
      refine lv_if_eq (tgt := 34) hx hb dX10_lines_27 (by decide) (fun c12 => ?_) (fun c12 => ?_)
      · obtain rfl : z11 = 0 := (by simp only [fa_lt, fa_le, fa_eq, ltv_0] at c12 ⊢; omega)
        refine lv_iconst (v := 0) hx hb dX10_lines_34 (by decide) ?_
        refine lv_istore (lv' := [(5, .int 0), (0, .ref a0), (1, .int k1), (2, .int k2), (3, .int k3), (4, .int k4)]) hx hb dX10_lines_35 hl (by decide) rfl (fun ls hl => ?_)
        refine lv_aload_n hx hb dX10_lines_37 rfl (lv_at hl 1 rfl) ?_
        refine lv_aload_n hx hb dX10_lines_38 rfl (lv_at hl 1 rfl) ?_
        refine lv_iload hx hb dX10_lines_39 (lv_at hl 0 rfl) ?_
        refine cl_i (wc := [(a0, .inr (7, [.ref a5, g6, g7, g8, g9, g10, g11, g12, g13, g14])), (a5, .inr (4, [.int 0, g15, g16, g17, g18, g19, g20, g21, g22, g23, g24, g25, g26, g27, g28, g29, g30, g31]))]) (wr := []) (va_runV (As := [.int 0]) (rest := [.ref a0]) ⟨hx, hb, hml, hown, hts⟩ (kX10_numberTrouble_1 l dC dI a0 a5 (g6) (g7) (g8) (g9) (g10) (g11) (g12) (g13) (g14) (g15) (g16) (g17) (g18) (g19) (g20) (g21) (g22) (g23) (g24) (g25) (g26) (g27) (g28) (g29) (g30) (g31) H.size) (cwV 1 hts gX10_lines_1 rfl rfl rfl (by decide +kernel) ⟨Nat.le_of_ble_eq_true rfl, Nat.le_of_ble_eq_true rfl⟩) (PV (hP.sub (ws' := [(a0, .inr (7, [.ref a5, g6, g7, g8, g9, g10, g11, g12, g13, g14])), (a5, .inr (4, [.int 0, g15, g16, g17, g18, g19, g20, g21, g22, g23, g24, g25, g26, g27, g28, g29, g30, g31]))]) [0, 1] rfl) (hK.sub (tys' := []) [] rfl) (hD.sub (ws' := [(a0, .inr (7, [.ref a5, g6, g7, g8, g9, g10, g11, g12, g13, g14])), (a5, .inr (4, [.int 0, g15, g16, g17, g18, g19, g20, g21, g22, g23, g24, g25, g26, g27, g28, g29, g30, g31]))]) [0, 1] (by decide) rfl) hN 0 rfl rfl) rfl rfl hl.1 rfl (lv_room (Nat.le_of_ble_eq_true rfl)) dX10_lines_41 ⟨Nat.le_of_ble_eq_true rfl, Nat.le_of_ble_eq_true rfl⟩) hP hD hK hS hA [0, 1] [] rfl rfl (by decide) (by decide) (fun z13 _u H locs hw hP hD hK hS => ?_)
        have hP : va_P (dC, dI) vwCl [(a0, .inr (7, [.ref a5, g6, g7, g8, g9, g10, g11, g12, g13, g14])), (a5, .inr (4, [.int 0, g15, g16, g17, g18, g19, g20, g21, g22, g23, g24, g25, g26, g27, g28, g29, g30, g31]))] H := hP
        have hD : va_D A [(a0, .inr (7, [.ref a5, g6, g7, g8, g9, g10, g11, g12, g13, g14])), (a5, .inr (4, [.int 0, g15, g16, g17, g18, g19, g20, g21, g22, g23, g24, g25, g26, g27, g28, g29, g30, g31]))] := hD
        have hK : va_K (dC, dI) vwCl [] s := hK
        obtain rfl : z13 = 1 := hw
        refine cl_i (wc := [(a0, .inr (7, [.ref a5, g6, g7, g8, g9, g10, g11, g12, g13, g14]))]) (wr := [(a5, .inr (4, [.int 0, g15, g16, g17, g18, g19, g20, g21, g22, g23, g24, g25, g26, g27, g28, g29, g30, g31]))]) (va_runV (As := [.int 1]) (rest := []) ⟨hx, hb, hml, hown, hts⟩ (kX10_refused_3 l dC dI a0 (.ref a5) (g6) (g7) (g8) (g9) (g10) (g11) (g12) (g13) (g14) H.size) (cwV 1 hts gX10_lines_2 rfl rfl rfl (by decide +kernel) ⟨Nat.le_of_ble_eq_true rfl, Nat.le_of_ble_eq_true rfl⟩) (PV (hP.sub (ws' := [(a0, .inr (7, [.ref a5, g6, g7, g8, g9, g10, g11, g12, g13, g14]))]) [0] rfl) (hK.sub (tys' := []) [] rfl) (hD.sub (ws' := [(a0, .inr (7, [.ref a5, g6, g7, g8, g9, g10, g11, g12, g13, g14]))]) [0] (by decide) rfl) hN 0 rfl rfl) rfl rfl hl.1 rfl (lv_room (Nat.le_of_ble_eq_true rfl)) dX10_lines_44 ⟨Nat.le_of_ble_eq_true rfl, Nat.le_of_ble_eq_true rfl⟩) hP hD hK hS hA [0] [1] rfl rfl (by decide) (by decide) (fun z14 _u H locs hw hP hD hK hS => ?_)
        have hP : va_P (dC, dI) vwCl [(a5, .inr (4, [.int 0, g15, g16, g17, g18, g19, g20, g21, g22, g23, g24, g25, g26, g27, g28, g29, g30, g31])), (a0, .inr (7, [.ref a5, g6, g7, g8, g9, g10, g11, g12, .int 1, g14]))] H := hP
        have hD : va_D A [(a5, .inr (4, [.int 0, g15, g16, g17, g18, g19, g20, g21, g22, g23, g24, g25, g26, g27, g28, g29, g30, g31])), (a0, .inr (7, [.ref a5, g6, g7, g8, g9, g10, g11, g12, .int 1, g14]))] := hD
        have hK : va_K (dC, dI) vwCl [] s := hK
        obtain rfl : z14 = 1 := hw
        refine lv_if_eq (tgt := 53) hx hb dX10_lines_47 (by decide) (fun c15 => absurd c15 (by decide)) (fun _ => ?_)
        refine lv_bipush (v := (-100)) hx hb dX10_lines_50 (by decide) ?_
        have hP9 := hP.sub (ws' := []) [] rfl
        have hD9 := hD.sub (ws' := []) [] (by decide) rfl
        have hK9 := hK.sub (tys' := []) [] rfl
        exact W.iret (v := (-100)) hx hb hr (fun t ht hW => ⟨⟨(-100), (), rfl, rfl, by rw [ht]; exact hP9, va_K.moved hW.alike hK9, hD9⟩, hS.F ht⟩) hS.2.2 dX10_lines_52
      · refine lv_iconst (v := 1) hx hb dX10_lines_30 (by decide) ?_
        refine lv_goto (tgt := 35) hx hb dX10_lines_31 (by decide) ?_
        refine lv_istore (lv' := [(5, .int 1), (0, .ref a0), (1, .int k1), (2, .int k2), (3, .int k3), (4, .int k4)]) hx hb dX10_lines_35 hl (by decide) rfl (fun ls hl => ?_)
        refine lv_aload_n hx hb dX10_lines_37 rfl (lv_at hl 1 rfl) ?_
        refine lv_aload_n hx hb dX10_lines_38 rfl (lv_at hl 1 rfl) ?_
        refine lv_iload hx hb dX10_lines_39 (lv_at hl 0 rfl) ?_
        refine cl_i (wc := [(a0, .inr (7, [.ref a5, g6, g7, g8, g9, g10, g11, g12, g13, g14])), (a5, .inr (4, [.int 0, g15, g16, g17, g18, g19, g20, g21, g22, g23, g24, g25, g26, g27, g28, g29, g30, g31]))]) (wr := []) (va_runV (As := [.int 1]) (rest := [.ref a0]) ⟨hx, hb, hml, hown, hts⟩ (kX10_numberTrouble_2 l dC dI a0 a5 (g6) (g7) (g8) (g9) (g10) (g11) (g12) (g13) (g14) (g15) (g16) (g17) (g18) (g19) (g20) (g21) (g22) (g23) (g24) (g25) (g26) (g27) (g28) (g29) (g30) (g31) H.size) (cwV 1 hts gX10_lines_4 rfl rfl rfl (by decide +kernel) ⟨Nat.le_of_ble_eq_true rfl, Nat.le_of_ble_eq_true rfl⟩) (PV (hP.sub (ws' := [(a0, .inr (7, [.ref a5, g6, g7, g8, g9, g10, g11, g12, g13, g14])), (a5, .inr (4, [.int 0, g15, g16, g17, g18, g19, g20, g21, g22, g23, g24, g25, g26, g27, g28, g29, g30, g31]))]) [0, 1] rfl) (hK.sub (tys' := []) [] rfl) (hD.sub (ws' := [(a0, .inr (7, [.ref a5, g6, g7, g8, g9, g10, g11, g12, g13, g14])), (a5, .inr (4, [.int 0, g15, g16, g17, g18, g19, g20, g21, g22, g23, g24, g25, g26, g27, g28, g29, g30, g31]))]) [0, 1] (by decide) rfl) hN 0 rfl rfl) rfl rfl hl.1 rfl (lv_room (Nat.le_of_ble_eq_true rfl)) dX10_lines_41 ⟨Nat.le_of_ble_eq_true rfl, Nat.le_of_ble_eq_true rfl⟩) hP hD hK hS hA [0, 1] [] rfl rfl (by decide) (by decide) (fun z16 _u H locs hw hP hD hK hS => ?_)
        have hP : va_P (dC, dI) vwCl [(a0, .inr (7, [.ref a5, g6, g7, g8, g9, g10, g11, g12, g13, g14])), (a5, .inr (4, [.int 0, g15, g16, g17, g18, g19, g20, g21, g22, g23, g24, g25, g26, g27, g28, g29, g30, g31]))] H := hP
        have hD : va_D A [(a0, .inr (7, [.ref a5, g6, g7, g8, g9, g10, g11, g12, g13, g14])), (a5, .inr (4, [.int 0, g15, g16, g17, g18, g19, g20, g21, g22, g23, g24, g25, g26, g27, g28, g29, g30, g31]))] := hD
        have hK : va_K (dC, dI) vwCl [] s := hK
        obtain rfl : z16 = 1 := hw
        refine cl_i (wc := [(a0, .inr (7, [.ref a5, g6, g7, g8, g9, g10, g11, g12, g13, g14]))]) (wr := [(a5, .inr (4, [.int 0, g15, g16, g17, g18, g19, g20, g21, g22, g23, g24, g25, g26, g27, g28, g29, g30, g31]))]) (va_runV (As := [.int 1]) (rest := []) ⟨hx, hb, hml, hown, hts⟩ (kX10_refused_3 l dC dI a0 (.ref a5) (g6) (g7) (g8) (g9) (g10) (g11) (g12) (g13) (g14) H.size) (cwV 1 hts gX10_lines_2 rfl rfl rfl (by decide +kernel) ⟨Nat.le_of_ble_eq_true rfl, Nat.le_of_ble_eq_true rfl⟩) (PV (hP.sub (ws' := [(a0, .inr (7, [.ref a5, g6, g7, g8, g9, g10, g11, g12, g13, g14]))]) [0] rfl) (hK.sub (tys' := []) [] rfl) (hD.sub (ws' := [(a0, .inr (7, [.ref a5, g6, g7, g8, g9, g10, g11, g12, g13, g14]))]) [0] (by decide) rfl) hN 0 rfl rfl) rfl rfl hl.1 rfl (lv_room (Nat.le_of_ble_eq_true rfl)) dX10_lines_44 ⟨Nat.le_of_ble_eq_true rfl, Nat.le_of_ble_eq_true rfl⟩) hP hD hK hS hA [0] [1] rfl rfl (by decide) (by decide) (fun z17 _u H locs hw hP hD hK hS => ?_)
        have hP : va_P (dC, dI) vwCl [(a5, .inr (4, [.int 0, g15, g16, g17, g18, g19, g20, g21, g22, g23, g24, g25, g26, g27, g28, g29, g30, g31])), (a0, .inr (7, [.ref a5, g6, g7, g8, g9, g10, g11, g12, .int 1, g14]))] H := hP
        have hD : va_D A [(a5, .inr (4, [.int 0, g15, g16, g17, g18, g19, g20, g21, g22, g23, g24, g25, g26, g27, g28, g29, g30, g31])), (a0, .inr (7, [.ref a5, g6, g7, g8, g9, g10, g11, g12, .int 1, g14]))] := hD
        have hK : va_K (dC, dI) vwCl [] s := hK
        obtain rfl : z17 = 1 := hw
        refine lv_if_eq (tgt := 53) hx hb dX10_lines_47 (by decide) (fun c18 => absurd c18 (by decide)) (fun _ => ?_)
        refine lv_bipush (v := (-100)) hx hb dX10_lines_50 (by decide) ?_
        have hP9 := hP.sub (ws' := []) [] rfl
        have hD9 := hD.sub (ws' := []) [] (by decide) rfl
        have hK9 := hK.sub (tys' := []) [] rfl
        exact W.iret (v := (-100)) hx hb hr (fun t ht hW => ⟨⟨(-100), (), rfl, rfl, by rw [ht]; exact hP9, va_K.moved hW.alike hK9, hD9⟩, hS.F ht⟩) hS.2.2 dX10_lines_52
theorem dX12_lost_0 : decode cX12_lost 0 = .ok (.aload_n 0, 1) := by decide +kernel
theorem dX12_lost_1 : decode cX12_lost 1 = .ok (.iload_n 1, 1) := by decide +kernel
theorem dX12_lost_2 : decode cX12_lost 2 = .ok (.invokevirtual 42, 3) := by decide +kernel
theorem dX12_lost_5 : decode cX12_lost 5 = .ok (.pop, 1) := by decide +kernel
theorem dX12_lost_6 : decode cX12_lost 6 = .ok (.bipush (-100), 2) := by decide +kernel
theorem dX12_lost_8 : decode cX12_lost 8 = .ok (.ireturn, 1) := by decide +kernel
def vX12_lost : List Cond := .code yX12_lost cX12_lost 2 (some .int) :: ([.methodLink RX12 42 yX12_refused, .instanceMethod yX12_refused, .selects RX12 yX12_refused yX12_refused, .initialized RX12, .code yX12_refused cX12_refused 2 (some .int), .fieldLink RX12 39 "HookPierModel" "trouble" "I", .fieldLink RX12 9 "HookPierModel" "where" "I"] ++ wsX120)
theorem iX12_lost_X12 : ∀ w ∈ wsX120, w ∈ vX12_lost := fun _ h => List.mem_cons_of_mem _ (List.mem_append_right _ h)
set_option maxRecDepth 20000 in
theorem gX12_lost_0 : GoodIn vX12_lost (wsV RX12 42 RX12 yX12_refused vX12_refused_1) := goodIn_app (goodIn_r [.methodLink RX12 42 yX12_refused, .instanceMethod yX12_refused, .selects RX12 yX12_refused yX12_refused, .initialized RX12] [1, 2, 3, 4] (by decide +kernel) (by decide +kernel)) (goodIn_ca (goodIn_r (.code yX12_refused cX12_refused 2 (some .int) :: [.fieldLink RX12 39 "HookPierModel" "trouble" "I", .fieldLink RX12 9 "HookPierModel" "where" "I"]) [5, 6, 7] (by decide +kernel) (by decide +kernel) : GoodIn vX12_lost (.code yX12_refused cX12_refused 2 (some .int) :: [.fieldLink RX12 39 "HookPierModel" "trouble" "I", .fieldLink RX12 9 "HookPierModel" "where" "I"])) (goodIn_sub iX12_lost_X12 (by decide +kernel)))
set_option maxHeartbeats 1000000 in
set_option maxRecDepth 100000 in
theorem kX12_lost (l : Launch) (dC : Nat → ClassId) (dI : Nat → Nat → Nat) (a0 : Nat) (g1 : Value) (g2 : Value) (g3 : Value) (g4 : Value) (g5 : Value) (g6 : Value) (g7 : Value) (g8 : Value) (g9 : Value) (g10 : Value) (g11 : Value) (g12 : Value) (g13 : Value) (g14 : Value) (g15 : Value) (g16 : Value) (g17 : Value) (g18 : Value) (g19 : Value) (g20 : Value) (g21 : Value) (g22 : Value) (g23 : Value) (g24 : Value) (g25 : Value) (g26 : Value) (g27 : Value) (g28 : Value) (g29 : Value) (g30 : Value) (sz : Nat) : Met l yX12_lost vX12_lost ({ frames := 1, cells := 0, slots := 0, locals := 21 }) (PC (dC, dI) [.ref a0, .int 1] sz [(a0, .inr (9, [g1, g2, g3, g4, g5, g6, g7, g8, g9, g10, g11, g12, g13, g14, g15, g16, g17, g18, g19, g20, g21, g22, g23, g24, g25, g26, g27, g28, g29, g30]))] []) (va_Qi (S := Unit) (fun (r : Int32) _ => r = (-100)) (fun _ t => BC (dC, dI) (va_A [(a0, .inr (9, [g1, g2, g3, g4, g5, g6, g7, g8, g9, g10, g11, g12, g13, g14, g15, g16, g17, g18, g19, g20, g21, g22, g23, g24, g25, g26, g27, g28, g29, g30]))] sz) [(a0, .inr (9, [g1, .int 1, .int (-1), g4, g5, g6, g7, g8, g9, g10, g11, g12, g13, g14, g15, g16, g17, g18, g19, g20, g21, g22, g23, g24, g25, g26, g27, g28, g29, g30]))] [] t) (va_A [(a0, .inr (9, [g1, g2, g3, g4, g5, g6, g7, g8, g9, g10, g11, g12, g13, g14, g15, g16, g17, g18, g19, g20, g21, g22, g23, g24, g25, g26, g27, g28, g29, g30]))] sz)) 0 0 (va_A [(a0, .inr (9, [g1, g2, g3, g4, g5, g6, g7, g8, g9, g10, g11, g12, g13, g14, g15, g16, g17, g18, g19, g20, g21, g22, g23, g24, g25, g26, g27, g28, g29, g30]))] sz) := by
  refine Met.ofW (cc := cX12_lost) (maxL := 2) (ret := (some .int)) (by decide) rfl ?_
  intro p e s m args below meth c s₁ B hml hv
  obtain ⟨rfl, hsz, hP, hK, hD0, hN⟩ := hv
  have hx := B.exec
  have hb := B.bytes
  have hr := B.returns
  have hts := atoms_spec (ws := vX12_lost) B.pre
  have hown : s.vm.findClass RX12 = some m.cls := findClass_of_methodNamed B.named
  have hlocks := B.notSynchronized
  subst hsz
  have hD := hD0.self (sz := s.heap.size)
  generalize hAe : va_A [(a0, .inr (9, [g1, g2, g3, g4, g5, g6, g7, g8, g9, g10, g11, g12, g13, g14, g15, g16, g17, g18, g19, g20, g21, g22, g23, g24, g25, g26, g27, g28, g29, g30]))] s.heap.size = A at hD ⊢
  have hA : ∀ q : Nat, s.heap.size ≤ q → A q := fun q h => by rw [← hAe]; exact Or.inr h
  have hS : va_S A s.heap s.heap [] := va_S.rf
  have hP : va_P (dC, dI) vwCl [(a0, .inr (9, [g1, g2, g3, g4, g5, g6, g7, g8, g9, g10, g11, g12, g13, g14, g15, g16, g17, g18, g19, g20, g21, g22, g23, g24, g25, g26, g27, g28, g29, g30]))] s.heap := hP
  have hl := lv_entry ([.ref a0, .int 1]) (n := 2) (Nat.le_of_ble_eq_true rfl)
  rw [lg_entry_eq]
  generalize (lg_sl ([.ref a0, .int 1]) ++ List.replicate (2 - (lg_sl ([.ref a0, .int 1])).length) Slot.unset).toArray = ls at hl ⊢
  have hl : lv_has ls 2 [(0, .ref a0), (1, .int 1)] := hl
  refine lv_aload_n hx hb dX12_lost_0 rfl (lv_at hl 0 rfl) ?_
  refine lv_iload_n hx hb dX12_lost_1 rfl (lv_at hl 1 rfl) ?_
  refine cl_i (wc := [(a0, .inr (9, [g1, g2, g3, g4, g5, g6, g7, g8, g9, g10, g11, g12, g13, g14, g15, g16, g17, g18, g19, g20, g21, g22, g23, g24, g25, g26, g27, g28, g29, g30]))]) (wr := []) (va_runV (As := [.int 1]) (rest := []) ⟨hx, hb, hml, hown, hts⟩ (kX12_refused_1 l dC dI a0 (g1) (g2) (g3) (g4) (g5) (g6) (g7) (g8) (g9) (g10) (g11) (g12) (g13) (g14) (g15) (g16) (g17) (g18) (g19) (g20) (g21) (g22) (g23) (g24) (g25) (g26) (g27) (g28) (g29) (g30) s.heap.size) (cwV 1 hts gX12_lost_0 rfl rfl rfl (by decide +kernel) ⟨Nat.le_of_ble_eq_true rfl, Nat.le_of_ble_eq_true rfl⟩) (PV (hP.sub (ws' := [(a0, .inr (9, [g1, g2, g3, g4, g5, g6, g7, g8, g9, g10, g11, g12, g13, g14, g15, g16, g17, g18, g19, g20, g21, g22, g23, g24, g25, g26, g27, g28, g29, g30]))]) [0] rfl) (hK.sub (tys' := []) [] rfl) (hD.sub (ws' := [(a0, .inr (9, [g1, g2, g3, g4, g5, g6, g7, g8, g9, g10, g11, g12, g13, g14, g15, g16, g17, g18, g19, g20, g21, g22, g23, g24, g25, g26, g27, g28, g29, g30]))]) [0] (by decide) rfl) hN 0 rfl rfl) rfl rfl hl.1 rfl (lv_room (Nat.le_of_ble_eq_true rfl)) dX12_lost_2 ⟨Nat.le_of_ble_eq_true rfl, Nat.le_of_ble_eq_true rfl⟩) hP hD hK hS hA [0] [] rfl rfl (by decide) (by decide) (fun z1 _u H locs hw hP hD hK hS => ?_)
  have hP : va_P (dC, dI) vwCl [(a0, .inr (9, [g1, .int 1, .int (-1), g4, g5, g6, g7, g8, g9, g10, g11, g12, g13, g14, g15, g16, g17, g18, g19, g20, g21, g22, g23, g24, g25, g26, g27, g28, g29, g30]))] H := hP
  have hD : va_D A [(a0, .inr (9, [g1, .int 1, .int (-1), g4, g5, g6, g7, g8, g9, g10, g11, g12, g13, g14, g15, g16, g17, g18, g19, g20, g21, g22, g23, g24, g25, g26, g27, g28, g29, g30]))] := hD
  have hK : va_K (dC, dI) vwCl [] s := hK
  obtain rfl : z1 = (-1) := hw
  refine lv_pop hx hb dX12_lost_5 rfl ?_
  refine lv_bipush (v := (-100)) hx hb dX12_lost_6 (by decide) ?_
  have hP9 := hP.sub (ws' := [(a0, .inr (9, [g1, .int 1, .int (-1), g4, g5, g6, g7, g8, g9, g10, g11, g12, g13, g14, g15, g16, g17, g18, g19, g20, g21, g22, g23, g24, g25, g26, g27, g28, g29, g30]))]) [0] rfl
  have hD9 := hD.sub (ws' := [(a0, .inr (9, [g1, .int 1, .int (-1), g4, g5, g6, g7, g8, g9, g10, g11, g12, g13, g14, g15, g16, g17, g18, g19, g20, g21, g22, g23, g24, g25, g26, g27, g28, g29, g30]))]) [0] (by decide) rfl
  have hK9 := hK.sub (tys' := []) [] rfl
  exact W.iret (v := (-100)) hx hb hr (fun t ht hW => ⟨⟨(-100), (), rfl, rfl, by rw [ht]; exact hP9, va_K.moved hW.alike hK9, hD9⟩, hS.F ht⟩) hS.2.2 dX12_lost_8
theorem dX12_lines_0 : decode cX12_lines 0 = .ok (.aload_n 0, 1) := by decide +kernel
theorem dX12_lines_1 : decode cX12_lines 1 = .ok (.iconst 0, 1) := by decide +kernel
theorem dX12_lines_12 : decode cX12_lines 12 = .ok (.aload_n 0, 1) := by decide +kernel
theorem dX12_lines_13 : decode cX12_lines 13 = .ok (.iconst 1, 1) := by decide +kernel
theorem dX12_lines_14 : decode cX12_lines 14 = .ok (.invokevirtual 451, 3) := by decide +kernel
theorem dX12_lines_17 : decode cX12_lines 17 = .ok (.ireturn, 1) := by decide +kernel
theorem dX12_lines_2 : decode cX12_lines 2 = .ok (.putfield 36, 3) := by decide +kernel
theorem dX12_lines_5 : decode cX12_lines 5 = .ok (.aload_n 0, 1) := by decide +kernel
theorem dX12_lines_6 : decode cX12_lines 6 = .ok (.getfield 299, 3) := by decide +kernel
theorem dX12_lines_9 : decode cX12_lines 9 = .ok (.ifnonnull 9, 3) := by decide +kernel
def vX12_lines : List Cond := .code yX12_lines cX12_lines 5 (some .int) :: ([.fieldLink RX12 36 "HookPierModel" "thrown" "I", .fieldLink RX12 299 "HookPierModel" "pier" "LHookPierModel$Pier;", .methodLink RX12 451 yX12_lost, .instanceMethod yX12_lost, .selects RX12 yX12_lost yX12_lost, .initialized RX12, .code yX12_lost cX12_lost 2 (some .int), .methodLink RX12 42 yX12_refused, .instanceMethod yX12_refused, .selects RX12 yX12_refused yX12_refused, .code yX12_refused cX12_refused 2 (some .int), .fieldLink RX12 39 "HookPierModel" "trouble" "I", .fieldLink RX12 9 "HookPierModel" "where" "I"] ++ wsX120)
theorem iX12_lines_X12 : ∀ w ∈ wsX120, w ∈ vX12_lines := fun _ h => List.mem_cons_of_mem _ (List.mem_append_right _ h)
set_option maxRecDepth 20000 in
theorem gX12_lines_0 : GoodIn vX12_lines (wsV RX12 451 RX12 yX12_lost vX12_lost) := goodIn_app (goodIn_r [.methodLink RX12 451 yX12_lost, .instanceMethod yX12_lost, .selects RX12 yX12_lost yX12_lost, .initialized RX12] [3, 4, 5, 6] (by decide +kernel) (by decide +kernel)) (goodIn_ca (goodIn_r (.code yX12_lost cX12_lost 2 (some .int) :: [.methodLink RX12 42 yX12_refused, .instanceMethod yX12_refused, .selects RX12 yX12_refused yX12_refused, .initialized RX12, .code yX12_refused cX12_refused 2 (some .int), .fieldLink RX12 39 "HookPierModel" "trouble" "I", .fieldLink RX12 9 "HookPierModel" "where" "I"]) [7, 8, 9, 10, 6, 11, 12, 13] (by decide +kernel) (by decide +kernel) : GoodIn vX12_lines (.code yX12_lost cX12_lost 2 (some .int) :: [.methodLink RX12 42 yX12_refused, .instanceMethod yX12_refused, .selects RX12 yX12_refused yX12_refused, .initialized RX12, .code yX12_refused cX12_refused 2 (some .int), .fieldLink RX12 39 "HookPierModel" "trouble" "I", .fieldLink RX12 9 "HookPierModel" "where" "I"])) (goodIn_sub iX12_lines_X12 (by decide +kernel)))
set_option maxHeartbeats 1000000 in
set_option maxRecDepth 100000 in
theorem kX12_lines (l : Launch) (dC : Nat → ClassId) (dI : Nat → Nat → Nat) (a0 : Nat) (k1 : Int32) (k2 : Int32) (k3 : Int32) (k4 : Int32) (g5 : Value) (g6 : Value) (g7 : Value) (g8 : Value) (g9 : Value) (g10 : Value) (g11 : Value) (g12 : Value) (g13 : Value) (g14 : Value) (g15 : Value) (g16 : Value) (g17 : Value) (g18 : Value) (g19 : Value) (g20 : Value) (g21 : Value) (g22 : Value) (g23 : Value) (g24 : Value) (g25 : Value) (g26 : Value) (g27 : Value) (g28 : Value) (g29 : Value) (g30 : Value) (g31 : Value) (g32 : Value) (g33 : Value) (sz : Nat) : Met l yX12_lines vX12_lines ({ frames := 2, cells := 0, slots := 0, locals := 42 }) (PC (dC, dI) [.ref a0, .int k1, .int k2, .int k3, .int k4] sz [(a0, .inr (9, [g5, g6, g7, .null, g8, g9, g10, g11, g12, g13, g14, g15, g16, g17, g18, g19, g20, g21, g22, g23, g24, g25, g26, g27, g28, g29, g30, g31, g32, g33]))] []) (va_Qi (S := Unit) (fun (r : Int32) _ => r = (-100)) (fun _ t => BC (dC, dI) (va_A [(a0, .inr (9, [g5, g6, g7, .null, g8, g9, g10, g11, g12, g13, g14, g15, g16, g17, g18, g19, g20, g21, g22, g23, g24, g25, g26, g27, g28, g29, g30, g31, g32, g33]))] sz) [] [] t) (va_A [(a0, .inr (9, [g5, g6, g7, .null, g8, g9, g10, g11, g12, g13, g14, g15, g16, g17, g18, g19, g20, g21, g22, g23, g24, g25, g26, g27, g28, g29, g30, g31, g32, g33]))] sz)) 0 0 (va_A [(a0, .inr (9, [g5, g6, g7, .null, g8, g9, g10, g11, g12, g13, g14, g15, g16, g17, g18, g19, g20, g21, g22, g23, g24, g25, g26, g27, g28, g29, g30, g31, g32, g33]))] sz) := by
  refine Met.ofW (cc := cX12_lines) (maxL := 5) (ret := (some .int)) (by decide) rfl ?_
  intro p e s m args below meth c s₁ B hml hv
  obtain ⟨rfl, hsz, hP, hK, hD0, hN⟩ := hv
  have hx := B.exec
  have hb := B.bytes
  have hr := B.returns
  have hts := atoms_spec (ws := vX12_lines) B.pre
  have hown : s.vm.findClass RX12 = some m.cls := findClass_of_methodNamed B.named
  have hlocks := B.notSynchronized
  subst hsz
  have hD := hD0.self (sz := s.heap.size)
  generalize hAe : va_A [(a0, .inr (9, [g5, g6, g7, .null, g8, g9, g10, g11, g12, g13, g14, g15, g16, g17, g18, g19, g20, g21, g22, g23, g24, g25, g26, g27, g28, g29, g30, g31, g32, g33]))] s.heap.size = A at hD ⊢
  have hA : ∀ q : Nat, s.heap.size ≤ q → A q := fun q h => by rw [← hAe]; exact Or.inr h
  have hS : va_S A s.heap s.heap [] := va_S.rf
  have hP : va_P (dC, dI) vwCl [(a0, .inr (9, [g5, g6, g7, .null, g8, g9, g10, g11, g12, g13, g14, g15, g16, g17, g18, g19, g20, g21, g22, g23, g24, g25, g26, g27, g28, g29, g30, g31, g32, g33]))] s.heap := hP
  have hl := lv_entry ([.ref a0, .int k1, .int k2, .int k3, .int k4]) (n := 5) (Nat.le_of_ble_eq_true rfl)
  rw [lg_entry_eq]
  generalize (lg_sl ([.ref a0, .int k1, .int k2, .int k3, .int k4]) ++ List.replicate (5 - (lg_sl ([.ref a0, .int k1, .int k2, .int k3, .int k4])).length) Slot.unset).toArray = ls at hl ⊢
  have hl : lv_has ls 5 [(0, .ref a0), (1, .int k1), (2, .int k2), (3, .int k3), (4, .int k4)] := hl
  refine lv_aload_n hx hb dX12_lines_0 rfl (lv_at hl 0 rfl) ?_
  refine lv_iconst (v := 0) hx hb dX12_lines_1 (by decide) ?_
  refine va_put (D := (dC, dI)) (ci := 9) (v := .int 0) (ty := .int) (C := RX12) (T := TX12) (N := 30) hx hb hts iX12_lines_X12 tyX12 tyX12_ok nmX12 hown hK hP hD hS 0 rfl rfl 0 (by decide) (hts (.fieldLink RX12 36 "HookPierModel" "thrown" "I") (List.mem_of_getElem? (i := 1) rfl)) (fun _ h9 => h9) rfl (by decide +kernel) rfl rfl (Nat.le_of_ble_eq_true rfl) dX12_lines_2 (fun H locs hP hD hS => ?_)
  have hP : va_P (dC, dI) vwCl [(a0, .inr (9, [.int 0, g6, g7, .null, g8, g9, g10, g11, g12, g13, g14, g15, g16, g17, g18, g19, g20, g21, g22, g23, g24, g25, g26, g27, g28, g29, g30, g31, g32, g33]))] H := hP
  have hD : va_D A [(a0, .inr (9, [.int 0, g6, g7, .null, g8, g9, g10, g11, g12, g13, g14, g15, g16, g17, g18, g19, g20, g21, g22, g23, g24, g25, g26, g27, g28, g29, g30, g31, g32, g33]))] := hD
  refine lv_aload_n hx hb dX12_lines_5 rfl (lv_at hl 0 rfl) ?_
  refine va_get (D := (dC, dI)) (ci := 9) (v := .null) (C := RX12) (T := TX12) (N := 30) hx hb hts iX12_lines_X12 hown hK hP 0 rfl rfl 3 (by decide) (hts (.fieldLink RX12 299 "HookPierModel" "pier" "LHookPierModel$Pier;") (List.mem_of_getElem? (i := 2) rfl)) (fun _ h9 => h9) rfl dX12_lines_6 ?_
  refine lv_ifnonnullN hx hb dX12_lines_9 ?_
  refine lv_aload_n hx hb dX12_lines_12 rfl (lv_at hl 0 rfl) ?_
  refine lv_iconst (v := 1) hx hb dX12_lines_13 (by decide) ?_
  refine cl_i (wc := [(a0, .inr (9, [.int 0, g6, g7, .null, g8, g9, g10, g11, g12, g13, g14, g15, g16, g17, g18, g19, g20, g21, g22, g23, g24, g25, g26, g27, g28, g29, g30, g31, g32, g33]))]) (wr := []) (va_runV (As := [.int 1]) (rest := []) ⟨hx, hb, hml, hown, hts⟩ (kX12_lost l dC dI a0 (.int 0) (g6) (g7) (.null) (g8) (g9) (g10) (g11) (g12) (g13) (g14) (g15) (g16) (g17) (g18) (g19) (g20) (g21) (g22) (g23) (g24) (g25) (g26) (g27) (g28) (g29) (g30) (g31) (g32) (g33) H.size) (cwV 1 hts gX12_lines_0 rfl rfl rfl (by decide +kernel) ⟨Nat.le_of_ble_eq_true rfl, Nat.le_of_ble_eq_true rfl⟩) (PV (hP.sub (ws' := [(a0, .inr (9, [.int 0, g6, g7, .null, g8, g9, g10, g11, g12, g13, g14, g15, g16, g17, g18, g19, g20, g21, g22, g23, g24, g25, g26, g27, g28, g29, g30, g31, g32, g33]))]) [0] rfl) (hK.sub (tys' := []) [] rfl) (hD.sub (ws' := [(a0, .inr (9, [.int 0, g6, g7, .null, g8, g9, g10, g11, g12, g13, g14, g15, g16, g17, g18, g19, g20, g21, g22, g23, g24, g25, g26, g27, g28, g29, g30, g31, g32, g33]))]) [0] (by decide) rfl) hN 0 rfl rfl) rfl rfl hl.1 rfl (lv_room (Nat.le_of_ble_eq_true rfl)) dX12_lines_14 ⟨Nat.le_of_ble_eq_true rfl, Nat.le_of_ble_eq_true rfl⟩) hP hD hK hS hA [0] [] rfl rfl (by decide) (by decide) (fun z1 _u H locs hw hP hD hK hS => ?_)
  have hP : va_P (dC, dI) vwCl [(a0, .inr (9, [.int 0, .int 1, .int (-1), .null, g8, g9, g10, g11, g12, g13, g14, g15, g16, g17, g18, g19, g20, g21, g22, g23, g24, g25, g26, g27, g28, g29, g30, g31, g32, g33]))] H := hP
  have hD : va_D A [(a0, .inr (9, [.int 0, .int 1, .int (-1), .null, g8, g9, g10, g11, g12, g13, g14, g15, g16, g17, g18, g19, g20, g21, g22, g23, g24, g25, g26, g27, g28, g29, g30, g31, g32, g33]))] := hD
  have hK : va_K (dC, dI) vwCl [] s := hK
  obtain rfl : z1 = (-100) := hw
  have hP9 := hP.sub (ws' := []) [] rfl
  have hD9 := hD.sub (ws' := []) [] (by decide) rfl
  have hK9 := hK.sub (tys' := []) [] rfl
  exact W.iret (v := (-100)) hx hb hr (fun t ht hW => ⟨⟨(-100), (), rfl, rfl, by rw [ht]; exact hP9, va_K.moved hW.alike hK9, hD9⟩, hS.F ht⟩) hS.2.2 dX12_lines_17
theorem dX10_rests_0 : decode cX10_rests 0 = .ok (.aload_n 0, 1) := by decide +kernel
theorem dX10_rests_1 : decode cX10_rests 1 = .ok (.aload_n 0, 1) := by decide +kernel
theorem dX10_rests_12 : decode cX10_rests 12 = .ok (.invokevirtual 79, 3) := by decide +kernel
theorem dX10_rests_15 : decode cX10_rests 15 = .ok (.ifCond .eq 5, 3) := by decide +kernel
theorem dX10_rests_18 : decode cX10_rests 18 = .ok (.iconst (-1), 1) := by decide +kernel
theorem dX10_rests_19 : decode cX10_rests 19 = .ok (.ireturn, 1) := by decide +kernel
theorem dX10_rests_2 : decode cX10_rests 2 = .ok (.iload_n 1, 1) := by decide +kernel
theorem dX10_rests_3 : decode cX10_rests 3 = .ok (.iconst 0, 1) := by decide +kernel
theorem dX10_rests_4 : decode cX10_rests 4 = .ok (.bipush 99, 2) := by decide +kernel
theorem dX10_rests_6 : decode cX10_rests 6 = .ok (.invokestatic 75, 3) := by decide +kernel
theorem dX10_rests_9 : decode cX10_rests 9 = .ok (.invokevirtual 169, 3) := by decide +kernel
def vX10_rests : List Cond := .code yX10_rests cX10_rests 4 (some .int) :: ([.methodLink RX10 75 yX10_within, .static yX10_within, .initialized RX10, .code yX10_within cX10_within 3 (some .boolean), .methodLink RX10 169 yX10_numberTrouble, .instanceMethod yX10_numberTrouble, .selects RX10 yX10_numberTrouble yX10_numberTrouble, .code yX10_numberTrouble cX10_numberTrouble 3 (some .int), .methodLink RX10 216 yX10_pierTrouble, .instanceMethod yX10_pierTrouble, .selects RX10 yX10_pierTrouble yX10_pierTrouble, .code yX10_pierTrouble cX10_pierTrouble 1 (some .int), .fieldLink RX10 10 "HookPier" "plan" "LHookPier$Plan;", .fieldLink RX10 233 "HookPier$Plan" "spots" "I", .methodLink RX10 79 yX10_refused, .instanceMethod yX10_refused, .selects RX10 yX10_refused yX10_refused, .code yX10_refused cX10_refused 2 (some .boolean), .fieldLink RX10 61 "HookPier" "troubleNow" "I"] ++ wsX100 ++ wsX60)
theorem iX10_rests_X10 : ∀ w ∈ wsX100, w ∈ vX10_rests := fun _ h => List.mem_cons_of_mem _ (List.mem_append_left _ (List.mem_append_right _ h))
theorem iX10_rests_X6 : ∀ w ∈ wsX60, w ∈ vX10_rests := fun _ h => List.mem_cons_of_mem _ (List.mem_append_right _ h)
set_option maxRecDepth 20000 in
theorem gX10_rests_0 : GoodIn vX10_rests (va_wsS RX10 75 yX10_within vX10_within_7) := goodIn_app (goodIn_r [.methodLink RX10 75 yX10_within, .static yX10_within, .initialized RX10] [1, 2, 3] (by decide +kernel) (by decide +kernel)) (goodIn_r (.code yX10_within cX10_within 3 (some .boolean) :: []) [4] (by decide +kernel) (by decide +kernel) : GoodIn vX10_rests (.code yX10_within cX10_within 3 (some .boolean) :: []))
set_option maxRecDepth 20000 in
theorem gX10_rests_1 : GoodIn vX10_rests (wsV RX10 169 RX10 yX10_numberTrouble vX10_numberTrouble) := goodIn_app (goodIn_r [.methodLink RX10 169 yX10_numberTrouble, .instanceMethod yX10_numberTrouble, .selects RX10 yX10_numberTrouble yX10_numberTrouble, .initialized RX10] [5, 6, 7, 3] (by decide +kernel) (by decide +kernel)) (goodIn_ca (goodIn_ca (goodIn_r (.code yX10_numberTrouble cX10_numberTrouble 3 (some .int) :: [.methodLink RX10 216 yX10_pierTrouble, .instanceMethod yX10_pierTrouble, .selects RX10 yX10_pierTrouble yX10_pierTrouble, .initialized RX10, .code yX10_pierTrouble cX10_pierTrouble 1 (some .int), .fieldLink RX10 10 "HookPier" "plan" "LHookPier$Plan;", .fieldLink RX10 233 "HookPier$Plan" "spots" "I"]) [8, 9, 10, 11, 3, 12, 13, 14] (by decide +kernel) (by decide +kernel) : GoodIn vX10_rests (.code yX10_numberTrouble cX10_numberTrouble 3 (some .int) :: [.methodLink RX10 216 yX10_pierTrouble, .instanceMethod yX10_pierTrouble, .selects RX10 yX10_pierTrouble yX10_pierTrouble, .initialized RX10, .code yX10_pierTrouble cX10_pierTrouble 1 (some .int), .fieldLink RX10 10 "HookPier" "plan" "LHookPier$Plan;", .fieldLink RX10 233 "HookPier$Plan" "spots" "I"])) (goodIn_sub iX10_rests_X10 (by decide +kernel))) (goodIn_sub iX10_rests_X6 (by decide +kernel)))
set_option maxRecDepth 20000 in
theorem gX10_rests_2 : GoodIn vX10_rests (wsV RX10 79 RX10 yX10_refused vX10_refused_3) := goodIn_app (goodIn_r [.methodLink RX10 79 yX10_refused, .instanceMethod yX10_refused, .selects RX10 yX10_refused yX10_refused, .initialized RX10] [15, 16, 17, 3] (by decide +kernel) (by decide +kernel)) (goodIn_ca (goodIn_r (.code yX10_refused cX10_refused 2 (some .boolean) :: [.fieldLink RX10 61 "HookPier" "troubleNow" "I"]) [18, 19] (by decide +kernel) (by decide +kernel) : GoodIn vX10_rests (.code yX10_refused cX10_refused 2 (some .boolean) :: [.fieldLink RX10 61 "HookPier" "troubleNow" "I"])) (goodIn_sub iX10_rests_X10 (by decide +kernel)))
set_option maxHeartbeats 1000000 in
set_option maxRecDepth 100000 in
theorem kX10_rests (l : Launch) (dC : Nat → ClassId) (dI : Nat → Nat → Nat) (a0 : Nat) (k1 : Int32) (a2 : Nat) (g3 : Value) (g4 : Value) (g5 : Value) (g6 : Value) (g7 : Value) (g8 : Value) (g9 : Value) (g10 : Value) (g11 : Value) (g12 : Value) (g13 : Value) (g14 : Value) (g15 : Value) (g16 : Value) (g17 : Value) (g18 : Value) (g19 : Value) (g20 : Value) (g21 : Value) (g22 : Value) (g23 : Value) (g24 : Value) (g25 : Value) (g26 : Value) (g27 : Value) (g28 : Value) (sz : Nat) : Met l yX10_rests vX10_rests ({ frames := 2, cells := 0, slots := 0, locals := 42 }) (PC (dC, dI) [.ref a0, .int k1] sz [(a0, .inr (7, [.ref a2, g3, g4, g5, g6, g7, g8, g9, g10, g11])), (a2, .inr (4, [.int 0, g12, g13, g14, g15, g16, g17, g18, g19, g20, g21, g22, g23, g24, g25, g26, g27, g28]))] []) (va_Qi (S := Unit) (fun (r : Int32) _ => r = (-1)) (fun _ t => BC (dC, dI) (va_A [(a0, .inr (7, [.ref a2, g3, g4, g5, g6, g7, g8, g9, g10, g11])), (a2, .inr (4, [.int 0, g12, g13, g14, g15, g16, g17, g18, g19, g20, g21, g22, g23, g24, g25, g26, g27, g28]))] sz) [] [] t) (va_A [(a0, .inr (7, [.ref a2, g3, g4, g5, g6, g7, g8, g9, g10, g11])), (a2, .inr (4, [.int 0, g12, g13, g14, g15, g16, g17, g18, g19, g20, g21, g22, g23, g24, g25, g26, g27, g28]))] sz)) 0 0 (va_A [(a0, .inr (7, [.ref a2, g3, g4, g5, g6, g7, g8, g9, g10, g11])), (a2, .inr (4, [.int 0, g12, g13, g14, g15, g16, g17, g18, g19, g20, g21, g22, g23, g24, g25, g26, g27, g28]))] sz) := by
  refine Met.ofW (cc := cX10_rests) (maxL := 4) (ret := (some .int)) (by decide) rfl ?_
  intro p e s m args below meth c s₁ B hml hv
  obtain ⟨rfl, hsz, hP, hK, hD0, hN⟩ := hv
  have hx := B.exec
  have hb := B.bytes
  have hr := B.returns
  have hts := atoms_spec (ws := vX10_rests) B.pre
  have hown : s.vm.findClass RX10 = some m.cls := findClass_of_methodNamed B.named
  have hlocks := B.notSynchronized
  subst hsz
  have hD := hD0.self (sz := s.heap.size)
  generalize hAe : va_A [(a0, .inr (7, [.ref a2, g3, g4, g5, g6, g7, g8, g9, g10, g11])), (a2, .inr (4, [.int 0, g12, g13, g14, g15, g16, g17, g18, g19, g20, g21, g22, g23, g24, g25, g26, g27, g28]))] s.heap.size = A at hD ⊢
  have hA : ∀ q : Nat, s.heap.size ≤ q → A q := fun q h => by rw [← hAe]; exact Or.inr h
  have hS : va_S A s.heap s.heap [] := va_S.rf
  have hP : va_P (dC, dI) vwCl [(a0, .inr (7, [.ref a2, g3, g4, g5, g6, g7, g8, g9, g10, g11])), (a2, .inr (4, [.int 0, g12, g13, g14, g15, g16, g17, g18, g19, g20, g21, g22, g23, g24, g25, g26, g27, g28]))] s.heap := hP
  have hl := lv_entry ([.ref a0, .int k1]) (n := 4) (Nat.le_of_ble_eq_true rfl)
  rw [lg_entry_eq]
  generalize (lg_sl ([.ref a0, .int k1]) ++ List.replicate (4 - (lg_sl ([.ref a0, .int k1])).length) Slot.unset).toArray = ls at hl ⊢
  have hl : lv_has ls 4 [(0, .ref a0), (1, .int k1)] := hl
  refine lv_aload_n hx hb dX10_rests_0 rfl (lv_at hl 0 rfl) ?_
  refine lv_aload_n hx hb dX10_rests_1 rfl (lv_at hl 0 rfl) ?_
  refine lv_iload_n hx hb dX10_rests_2 rfl (lv_at hl 1 rfl) ?_
  refine lv_iconst (v := 0) hx hb dX10_rests_3 (by decide) ?_
  refine lv_bipush (v := 99) hx hb dX10_rests_4 (by decide) ?_
  refine cl_i (wc := []) (wr := [(a0, .inr (7, [.ref a2, g3, g4, g5, g6, g7, g8, g9, g10, g11])), (a2, .inr (4, [.int 0, g12, g13, g14, g15, g16, g17, g18, g19, g20, g21, g22, g23, g24, g25, g26, g27, g28]))]) (va_runS (As := [.int k1, .int 0, .int 99]) (rest := [.ref a0, .ref a0]) ⟨hx, hb, hml, hown, hts⟩ (kX10_within_7 l dC dI k1 s.heap.size) (va_cwS 3 hts gX10_rests_0 rfl rfl rfl (by decide +kernel) ⟨Nat.le_of_ble_eq_true rfl, Nat.le_of_ble_eq_true rfl⟩) (PS (hP.sub (ws' := []) [] rfl) (hK.sub (tys' := []) [] rfl) (hD.sub (ws' := []) [] (by decide) rfl) hN) rfl rfl hl.1 rfl (lv_room (Nat.le_of_ble_eq_true rfl)) dX10_rests_6 ⟨Nat.le_of_ble_eq_true rfl, Nat.le_of_ble_eq_true rfl⟩) hP hD hK hS hA [] [0, 1] rfl rfl (by decide) (by decide) (fun z1 _u H locs hw hP hD hK hS => ?_)
  have hP : va_P (dC, dI) vwCl [(a0, .inr (7, [.ref a2, g3, g4, g5, g6, g7, g8, g9, g10, g11])), (a2, .inr (4, [.int 0, g12, g13, g14, g15, g16, g17, g18, g19, g20, g21, g22, g23, g24, g25, g26, g27, g28]))] H := hP
  have hD : va_D A [(a0, .inr (7, [.ref a2, g3, g4, g5, g6, g7, g8, g9, g10, g11])), (a2, .inr (4, [.int 0, g12, g13, g14, g15, g16, g17, g18, g19, g20, g21, g22, g23, g24, g25, g26, g27, g28]))] := hD
  have hK : va_K (dC, dI) vwCl [] s := hK
  refine cl_i (wc := [(a0, .inr (7, [.ref a2, g3, g4, g5, g6, g7, g8, g9, g10, g11])), (a2, .inr (4, [.int 0, g12, g13, g14, g15, g16, g17, g18, g19, g20, g21, g22, g23, g24, g25, g26, g27, g28]))]) (wr := []) (va_runV (As := [.int z1]) (rest := [.ref a0]) ⟨hx, hb, hml, hown, hts⟩ (kX10_numberTrouble l dC dI a0 z1 a2 (g3) (g4) (g5) (g6) (g7) (g8) (g9) (g10) (g11) (g12) (g13) (g14) (g15) (g16) (g17) (g18) (g19) (g20) (g21) (g22) (g23) (g24) (g25) (g26) (g27) (g28) H.size) (cwV 1 hts gX10_rests_1 rfl rfl rfl (by decide +kernel) ⟨Nat.le_of_ble_eq_true rfl, Nat.le_of_ble_eq_true rfl⟩) (PV (hP.sub (ws' := [(a0, .inr (7, [.ref a2, g3, g4, g5, g6, g7, g8, g9, g10, g11])), (a2, .inr (4, [.int 0, g12, g13, g14, g15, g16, g17, g18, g19, g20, g21, g22, g23, g24, g25, g26, g27, g28]))]) [0, 1] rfl) (hK.sub (tys' := []) [] rfl) (hD.sub (ws' := [(a0, .inr (7, [.ref a2, g3, g4, g5, g6, g7, g8, g9, g10, g11])), (a2, .inr (4, [.int 0, g12, g13, g14, g15, g16, g17, g18, g19, g20, g21, g22, g23, g24, g25, g26, g27, g28]))]) [0, 1] (by decide) rfl) hN 0 rfl rfl) rfl rfl hl.1 rfl (lv_room (Nat.le_of_ble_eq_true rfl)) dX10_rests_9 ⟨Nat.le_of_ble_eq_true rfl, Nat.le_of_ble_eq_true rfl⟩) hP hD hK hS hA [0, 1] [] rfl rfl (by decide) (by decide) (fun z2 _u H locs hw hP hD hK hS => ?_)
  have hP : va_P (dC, dI) vwCl [(a0, .inr (7, [.ref a2, g3, g4, g5, g6, g7, g8, g9, g10, g11])), (a2, .inr (4, [.int 0, g12, g13, g14, g15, g16, g17, g18, g19, g20, g21, g22, g23, g24, g25, g26, g27, g28]))] H := hP
  have hD : va_D A [(a0, .inr (7, [.ref a2, g3, g4, g5, g6, g7, g8, g9, g10, g11])), (a2, .inr (4, [.int 0, g12, g13, g14, g15, g16, g17, g18, g19, g20, g21, g22, g23, g24, g25, g26, g27, g28]))] := hD
  have hK : va_K (dC, dI) vwCl [] s := hK
  obtain rfl : z2 = 1 := hw
  refine cl_i (wc := [(a0, .inr (7, [.ref a2, g3, g4, g5, g6, g7, g8, g9, g10, g11]))]) (wr := [(a2, .inr (4, [.int 0, g12, g13, g14, g15, g16, g17, g18, g19, g20, g21, g22, g23, g24, g25, g26, g27, g28]))]) (va_runV (As := [.int 1]) (rest := []) ⟨hx, hb, hml, hown, hts⟩ (kX10_refused_3 l dC dI a0 (.ref a2) (g3) (g4) (g5) (g6) (g7) (g8) (g9) (g10) (g11) H.size) (cwV 1 hts gX10_rests_2 rfl rfl rfl (by decide +kernel) ⟨Nat.le_of_ble_eq_true rfl, Nat.le_of_ble_eq_true rfl⟩) (PV (hP.sub (ws' := [(a0, .inr (7, [.ref a2, g3, g4, g5, g6, g7, g8, g9, g10, g11]))]) [0] rfl) (hK.sub (tys' := []) [] rfl) (hD.sub (ws' := [(a0, .inr (7, [.ref a2, g3, g4, g5, g6, g7, g8, g9, g10, g11]))]) [0] (by decide) rfl) hN 0 rfl rfl) rfl rfl hl.1 rfl (lv_room (Nat.le_of_ble_eq_true rfl)) dX10_rests_12 ⟨Nat.le_of_ble_eq_true rfl, Nat.le_of_ble_eq_true rfl⟩) hP hD hK hS hA [0] [1] rfl rfl (by decide) (by decide) (fun z3 _u H locs hw hP hD hK hS => ?_)
  have hP : va_P (dC, dI) vwCl [(a2, .inr (4, [.int 0, g12, g13, g14, g15, g16, g17, g18, g19, g20, g21, g22, g23, g24, g25, g26, g27, g28])), (a0, .inr (7, [.ref a2, g3, g4, g5, g6, g7, g8, g9, .int 1, g11]))] H := hP
  have hD : va_D A [(a2, .inr (4, [.int 0, g12, g13, g14, g15, g16, g17, g18, g19, g20, g21, g22, g23, g24, g25, g26, g27, g28])), (a0, .inr (7, [.ref a2, g3, g4, g5, g6, g7, g8, g9, .int 1, g11]))] := hD
  have hK : va_K (dC, dI) vwCl [] s := hK
  obtain rfl : z3 = 1 := hw
  refine lv_if_eq (tgt := 20) hx hb dX10_rests_15 (by decide) (fun c4 => absurd c4 (by decide)) (fun _ => ?_)
  refine lv_iconst (v := (-1)) hx hb dX10_rests_18 (by decide) ?_
  have hP9 := hP.sub (ws' := []) [] rfl
  have hD9 := hD.sub (ws' := []) [] (by decide) rfl
  have hK9 := hK.sub (tys' := []) [] rfl
  exact W.iret (v := (-1)) hx hb hr (fun t ht hW => ⟨⟨(-1), (), rfl, rfl, by rw [ht]; exact hP9, va_K.moved hW.alike hK9, hD9⟩, hS.F ht⟩) hS.2.2 dX10_rests_19
theorem dX12_refusesStock_0 : decode cX12_refusesStock 0 = .ok (.aload_n 0, 1) := by decide +kernel
theorem dX12_refusesStock_1 : decode cX12_refusesStock 1 = .ok (.getfield 299, 3) := by decide +kernel
theorem dX12_refusesStock_26 : decode cX12_refusesStock 26 = .ok (.ireturn, 1) := by decide +kernel
theorem dX12_refusesStock_4 : decode cX12_refusesStock 4 = .ok (.ifnonnull 7, 3) := by decide +kernel
theorem dX12_refusesStock_7 : decode cX12_refusesStock 7 = .ok (.iconst 1, 1) := by decide +kernel
theorem dX12_refusesStock_8 : decode cX12_refusesStock 8 = .ok (.goto 18, 3) := by decide +kernel
def vX12_refusesStock : List Cond := .code yX12_refusesStock cX12_refusesStock 2 (some .int) :: ([.fieldLink RX12 299 "HookPierModel" "pier" "LHookPierModel$Pier;"] ++ wsX120)
theorem iX12_refusesStock_X12 : ∀ w ∈ wsX120, w ∈ vX12_refusesStock := fun _ h => List.mem_cons_of_mem _ (List.mem_append_right _ h)
set_option maxHeartbeats 1000000 in
set_option maxRecDepth 100000 in
theorem kX12_refusesStock (l : Launch) (dC : Nat → ClassId) (dI : Nat → Nat → Nat) (a0 : Nat) (k1 : Int32) (g2 : Value) (g3 : Value) (g4 : Value) (g5 : Value) (g6 : Value) (g7 : Value) (g8 : Value) (g9 : Value) (g10 : Value) (g11 : Value) (g12 : Value) (g13 : Value) (g14 : Value) (g15 : Value) (g16 : Value) (g17 : Value) (g18 : Value) (g19 : Value) (g20 : Value) (g21 : Value) (g22 : Value) (g23 : Value) (g24 : Value) (g25 : Value) (g26 : Value) (g27 : Value) (g28 : Value) (g29 : Value) (g30 : Value) (sz : Nat) : Met l yX12_refusesStock vX12_refusesStock ({ frames := 0, cells := 0, slots := 0, locals := 0 }) (PC (dC, dI) [.ref a0, .int k1] sz [(a0, .inr (9, [g2, g3, g4, .null, g5, g6, g7, g8, g9, g10, g11, g12, g13, g14, g15, g16, g17, g18, g19, g20, g21, g22, g23, g24, g25, g26, g27, g28, g29, g30]))] []) (va_Qi (S := Unit) (fun (r : Int32) _ => r = 1) (fun _ t => BC (dC, dI) (va_A [(a0, .inr (9, [g2, g3, g4, .null, g5, g6, g7, g8, g9, g10, g11, g12, g13, g14, g15, g16, g17, g18, g19, g20, g21, g22, g23, g24, g25, g26, g27, g28, g29, g30]))] sz) [(a0, .inr (9, [g2, g3, g4, .null, g5, g6, g7, g8, g9, g10, g11, g12, g13, g14, g15, g16, g17, g18, g19, g20, g21, g22, g23, g24, g25, g26, g27, g28, g29, g30]))] [] t) (va_A [(a0, .inr (9, [g2, g3, g4, .null, g5, g6, g7, g8, g9, g10, g11, g12, g13, g14, g15, g16, g17, g18, g19, g20, g21, g22, g23, g24, g25, g26, g27, g28, g29, g30]))] sz)) 0 0 (va_A [(a0, .inr (9, [g2, g3, g4, .null, g5, g6, g7, g8, g9, g10, g11, g12, g13, g14, g15, g16, g17, g18, g19, g20, g21, g22, g23, g24, g25, g26, g27, g28, g29, g30]))] sz) := by
  refine Met.ofW (cc := cX12_refusesStock) (maxL := 2) (ret := (some .int)) (by decide) rfl ?_
  intro p e s m args below meth c s₁ B hml hv
  obtain ⟨rfl, hsz, hP, hK, hD0, hN⟩ := hv
  have hx := B.exec
  have hb := B.bytes
  have hr := B.returns
  have hts := atoms_spec (ws := vX12_refusesStock) B.pre
  have hown : s.vm.findClass RX12 = some m.cls := findClass_of_methodNamed B.named
  have hlocks := B.notSynchronized
  subst hsz
  have hD := hD0.self (sz := s.heap.size)
  generalize hAe : va_A [(a0, .inr (9, [g2, g3, g4, .null, g5, g6, g7, g8, g9, g10, g11, g12, g13, g14, g15, g16, g17, g18, g19, g20, g21, g22, g23, g24, g25, g26, g27, g28, g29, g30]))] s.heap.size = A at hD ⊢
  have hA : ∀ q : Nat, s.heap.size ≤ q → A q := fun q h => by rw [← hAe]; exact Or.inr h
  have hS : va_S A s.heap s.heap [] := va_S.rf
  have hP : va_P (dC, dI) vwCl [(a0, .inr (9, [g2, g3, g4, .null, g5, g6, g7, g8, g9, g10, g11, g12, g13, g14, g15, g16, g17, g18, g19, g20, g21, g22, g23, g24, g25, g26, g27, g28, g29, g30]))] s.heap := hP
  have hl := lv_entry ([.ref a0, .int k1]) (n := 2) (Nat.le_of_ble_eq_true rfl)
  rw [lg_entry_eq]
  generalize (lg_sl ([.ref a0, .int k1]) ++ List.replicate (2 - (lg_sl ([.ref a0, .int k1])).length) Slot.unset).toArray = ls at hl ⊢
  have hl : lv_has ls 2 [(0, .ref a0), (1, .int k1)] := hl
  refine lv_aload_n hx hb dX12_refusesStock_0 rfl (lv_at hl 0 rfl) ?_
  refine va_get (D := (dC, dI)) (ci := 9) (v := .null) (C := RX12) (T := TX12) (N := 30) hx hb hts iX12_refusesStock_X12 hown hK hP 0 rfl rfl 3 (by decide) (hts (.fieldLink RX12 299 "HookPierModel" "pier" "LHookPierModel$Pier;") (List.mem_of_getElem? (i := 1) rfl)) (fun _ h9 => h9) rfl dX12_refusesStock_1 ?_
  refine lv_ifnonnullN hx hb dX12_refusesStock_4 ?_
  refine lv_iconst (v := 1) hx hb dX12_refusesStock_7 (by decide) ?_
  refine lv_goto (tgt := 26) hx hb dX12_refusesStock_8 (by decide) ?_
  have hP9 := hP.sub (ws' := [(a0, .inr (9, [g2, g3, g4, .null, g5, g6, g7, g8, g9, g10, g11, g12, g13, g14, g15, g16, g17, g18, g19, g20, g21, g22, g23, g24, g25, g26, g27, g28, g29, g30]))]) [0] rfl
  have hD9 := hD.sub (ws' := [(a0, .inr (9, [g2, g3, g4, .null, g5, g6, g7, g8, g9, g10, g11, g12, g13, g14, g15, g16, g17, g18, g19, g20, g21, g22, g23, g24, g25, g26, g27, g28, g29, g30]))]) [0] (by decide) rfl
  have hK9 := hK.sub (tys' := []) [] rfl
  exact W.iret (v := 1) hx hb hr (fun t ht hW => ⟨⟨1, (), rfl, rfl, by rw [ht]; exact hP9, va_K.moved hW.alike hK9, hD9⟩, hS.F ht⟩) hS.2.2 dX12_refusesStock_26
theorem dX12_rests_0 : decode cX12_rests 0 = .ok (.aload_n 0, 1) := by decide +kernel
theorem dX12_rests_1 : decode cX12_rests 1 = .ok (.iconst 0, 1) := by decide +kernel
theorem dX12_rests_10 : decode cX12_rests 10 = .ok (.istore_n 2, 1) := by decide +kernel
theorem dX12_rests_11 : decode cX12_rests 11 = .ok (.iload_n 2, 1) := by decide +kernel
theorem dX12_rests_12 : decode cX12_rests 12 = .ok (.ifCond .le 9, 3) := by decide +kernel
theorem dX12_rests_15 : decode cX12_rests 15 = .ok (.aload_n 0, 1) := by decide +kernel
theorem dX12_rests_16 : decode cX12_rests 16 = .ok (.iload_n 2, 1) := by decide +kernel
theorem dX12_rests_17 : decode cX12_rests 17 = .ok (.invokevirtual 42, 3) := by decide +kernel
theorem dX12_rests_2 : decode cX12_rests 2 = .ok (.putfield 36, 3) := by decide +kernel
theorem dX12_rests_20 : decode cX12_rests 20 = .ok (.ireturn, 1) := by decide +kernel
theorem dX12_rests_5 : decode cX12_rests 5 = .ok (.aload_n 0, 1) := by decide +kernel
theorem dX12_rests_6 : decode cX12_rests 6 = .ok (.iload_n 1, 1) := by decide +kernel
theorem dX12_rests_7 : decode cX12_rests 7 = .ok (.invokevirtual 457, 3) := by decide +kernel
def vX12_rests : List Cond := .code yX12_rests cX12_rests 5 (some .int) :: ([.fieldLink RX12 36 "HookPierModel" "thrown" "I", .methodLink RX12 457 yX12_refusesStock, .instanceMethod yX12_refusesStock, .selects RX12 yX12_refusesStock yX12_refusesStock, .initialized RX12, .code yX12_refusesStock cX12_refusesStock 2 (some .int), .fieldLink RX12 299 "HookPierModel" "pier" "LHookPierModel$Pier;", .methodLink RX12 42 yX12_refused, .instanceMethod yX12_refused, .selects RX12 yX12_refused yX12_refused, .code yX12_refused cX12_refused 2 (some .int), .fieldLink RX12 39 "HookPierModel" "trouble" "I", .fieldLink RX12 9 "HookPierModel" "where" "I"] ++ wsX120)
theorem iX12_rests_X12 : ∀ w ∈ wsX120, w ∈ vX12_rests := fun _ h => List.mem_cons_of_mem _ (List.mem_append_right _ h)
set_option maxRecDepth 20000 in
theorem gX12_rests_0 : GoodIn vX12_rests (wsV RX12 457 RX12 yX12_refusesStock vX12_refusesStock) := goodIn_app (goodIn_r [.methodLink RX12 457 yX12_refusesStock, .instanceMethod yX12_refusesStock, .selects RX12 yX12_refusesStock yX12_refusesStock, .initialized RX12] [2, 3, 4, 5] (by decide +kernel) (by decide +kernel)) (goodIn_ca (goodIn_r (.code yX12_refusesStock cX12_refusesStock 2 (some .int) :: [.fieldLink RX12 299 "HookPierModel" "pier" "LHookPierModel$Pier;"]) [6, 7] (by decide +kernel) (by decide +kernel) : GoodIn vX12_rests (.code yX12_refusesStock cX12_refusesStock 2 (some .int) :: [.fieldLink RX12 299 "HookPierModel" "pier" "LHookPierModel$Pier;"])) (goodIn_sub iX12_rests_X12 (by decide +kernel)))
set_option maxRecDepth 20000 in
theorem gX12_rests_1 : GoodIn vX12_rests (wsV RX12 42 RX12 yX12_refused vX12_refused_1) := goodIn_app (goodIn_r [.methodLink RX12 42 yX12_refused, .instanceMethod yX12_refused, .selects RX12 yX12_refused yX12_refused, .initialized RX12] [8, 9, 10, 5] (by decide +kernel) (by decide +kernel)) (goodIn_ca (goodIn_r (.code yX12_refused cX12_refused 2 (some .int) :: [.fieldLink RX12 39 "HookPierModel" "trouble" "I", .fieldLink RX12 9 "HookPierModel" "where" "I"]) [11, 12, 13] (by decide +kernel) (by decide +kernel) : GoodIn vX12_rests (.code yX12_refused cX12_refused 2 (some .int) :: [.fieldLink RX12 39 "HookPierModel" "trouble" "I", .fieldLink RX12 9 "HookPierModel" "where" "I"])) (goodIn_sub iX12_rests_X12 (by decide +kernel)))
set_option maxHeartbeats 1000000 in
set_option maxRecDepth 100000 in
theorem kX12_rests (l : Launch) (dC : Nat → ClassId) (dI : Nat → Nat → Nat) (a0 : Nat) (k1 : Int32) (g2 : Value) (g3 : Value) (g4 : Value) (g5 : Value) (g6 : Value) (g7 : Value) (g8 : Value) (g9 : Value) (g10 : Value) (g11 : Value) (g12 : Value) (g13 : Value) (g14 : Value) (g15 : Value) (g16 : Value) (g17 : Value) (g18 : Value) (g19 : Value) (g20 : Value) (g21 : Value) (g22 : Value) (g23 : Value) (g24 : Value) (g25 : Value) (g26 : Value) (g27 : Value) (g28 : Value) (g29 : Value) (g30 : Value) (sz : Nat) : Met l yX12_rests vX12_rests ({ frames := 1, cells := 0, slots := 0, locals := 21 }) (PC (dC, dI) [.ref a0, .int k1] sz [(a0, .inr (9, [g2, g3, g4, .null, g5, g6, g7, g8, g9, g10, g11, g12, g13, g14, g15, g16, g17, g18, g19, g20, g21, g22, g23, g24, g25, g26, g27, g28, g29, g30]))] []) (va_Qi (S := Unit) (fun (r : Int32) _ => r = (-1)) (fun _ t => BC (dC, dI) (va_A [(a0, .inr (9, [g2, g3, g4, .null, g5, g6, g7, g8, g9, g10, g11, g12, g13, g14, g15, g16, g17, g18, g19, g20, g21, g22, g23, g24, g25, g26, g27, g28, g29, g30]))] sz) [] [] t) (va_A [(a0, .inr (9, [g2, g3, g4, .null, g5, g6, g7, g8, g9, g10, g11, g12, g13, g14, g15, g16, g17, g18, g19, g20, g21, g22, g23, g24, g25, g26, g27, g28, g29, g30]))] sz)) 0 0 (va_A [(a0, .inr (9, [g2, g3, g4, .null, g5, g6, g7, g8, g9, g10, g11, g12, g13, g14, g15, g16, g17, g18, g19, g20, g21, g22, g23, g24, g25, g26, g27, g28, g29, g30]))] sz) := by
  refine Met.ofW (cc := cX12_rests) (maxL := 5) (ret := (some .int)) (by decide) rfl ?_
  intro p e s m args below meth c s₁ B hml hv
  obtain ⟨rfl, hsz, hP, hK, hD0, hN⟩ := hv
  have hx := B.exec
  have hb := B.bytes
  have hr := B.returns
  have hts := atoms_spec (ws := vX12_rests) B.pre
  have hown : s.vm.findClass RX12 = some m.cls := findClass_of_methodNamed B.named
  have hlocks := B.notSynchronized
  subst hsz
  have hD := hD0.self (sz := s.heap.size)
  generalize hAe : va_A [(a0, .inr (9, [g2, g3, g4, .null, g5, g6, g7, g8, g9, g10, g11, g12, g13, g14, g15, g16, g17, g18, g19, g20, g21, g22, g23, g24, g25, g26, g27, g28, g29, g30]))] s.heap.size = A at hD ⊢
  have hA : ∀ q : Nat, s.heap.size ≤ q → A q := fun q h => by rw [← hAe]; exact Or.inr h
  have hS : va_S A s.heap s.heap [] := va_S.rf
  have hP : va_P (dC, dI) vwCl [(a0, .inr (9, [g2, g3, g4, .null, g5, g6, g7, g8, g9, g10, g11, g12, g13, g14, g15, g16, g17, g18, g19, g20, g21, g22, g23, g24, g25, g26, g27, g28, g29, g30]))] s.heap := hP
  have hl := lv_entry ([.ref a0, .int k1]) (n := 5) (Nat.le_of_ble_eq_true rfl)
  rw [lg_entry_eq]
  generalize (lg_sl ([.ref a0, .int k1]) ++ List.replicate (5 - (lg_sl ([.ref a0, .int k1])).length) Slot.unset).toArray = ls at hl ⊢
  have hl : lv_has ls 5 [(0, .ref a0), (1, .int k1)] := hl
  refine lv_aload_n hx hb dX12_rests_0 rfl (lv_at hl 0 rfl) ?_
  refine lv_iconst (v := 0) hx hb dX12_rests_1 (by decide) ?_
  refine va_put (D := (dC, dI)) (ci := 9) (v := .int 0) (ty := .int) (C := RX12) (T := TX12) (N := 30) hx hb hts iX12_rests_X12 tyX12 tyX12_ok nmX12 hown hK hP hD hS 0 rfl rfl 0 (by decide) (hts (.fieldLink RX12 36 "HookPierModel" "thrown" "I") (List.mem_of_getElem? (i := 1) rfl)) (fun _ h9 => h9) rfl (by decide +kernel) rfl rfl (Nat.le_of_ble_eq_true rfl) dX12_rests_2 (fun H locs hP hD hS => ?_)
  have hP : va_P (dC, dI) vwCl [(a0, .inr (9, [.int 0, g3, g4, .null, g5, g6, g7, g8, g9, g10, g11, g12, g13, g14, g15, g16, g17, g18, g19, g20, g21, g22, g23, g24, g25, g26, g27, g28, g29, g30]))] H := hP
  have hD : va_D A [(a0, .inr (9, [.int 0, g3, g4, .null, g5, g6, g7, g8, g9, g10, g11, g12, g13, g14, g15, g16, g17, g18, g19, g20, g21, g22, g23, g24, g25, g26, g27, g28, g29, g30]))] := hD
  refine lv_aload_n hx hb dX12_rests_5 rfl (lv_at hl 0 rfl) ?_
  refine lv_iload_n hx hb dX12_rests_6 rfl (lv_at hl 1 rfl) ?_
  refine cl_i (wc := [(a0, .inr (9, [.int 0, g3, g4, .null, g5, g6, g7, g8, g9, g10, g11, g12, g13, g14, g15, g16, g17, g18, g19, g20, g21, g22, g23, g24, g25, g26, g27, g28, g29, g30]))]) (wr := []) (va_runV (As := [.int k1]) (rest := []) ⟨hx, hb, hml, hown, hts⟩ (kX12_refusesStock l dC dI a0 k1 (.int 0) (g3) (g4) (g5) (g6) (g7) (g8) (g9) (g10) (g11) (g12) (g13) (g14) (g15) (g16) (g17) (g18) (g19) (g20) (g21) (g22) (g23) (g24) (g25) (g26) (g27) (g28) (g29) (g30) H.size) (cwV 1 hts gX12_rests_0 rfl rfl rfl (by decide +kernel) ⟨Nat.le_of_ble_eq_true rfl, Nat.le_of_ble_eq_true rfl⟩) (PV (hP.sub (ws' := [(a0, .inr (9, [.int 0, g3, g4, .null, g5, g6, g7, g8, g9, g10, g11, g12, g13, g14, g15, g16, g17, g18, g19, g20, g21, g22, g23, g24, g25, g26, g27, g28, g29, g30]))]) [0] rfl) (hK.sub (tys' := []) [] rfl) (hD.sub (ws' := [(a0, .inr (9, [.int 0, g3, g4, .null, g5, g6, g7, g8, g9, g10, g11, g12, g13, g14, g15, g16, g17, g18, g19, g20, g21, g22, g23, g24, g25, g26, g27, g28, g29, g30]))]) [0] (by decide) rfl) hN 0 rfl rfl) rfl rfl hl.1 rfl (lv_room (Nat.le_of_ble_eq_true rfl)) dX12_rests_7 ⟨Nat.le_of_ble_eq_true rfl, Nat.le_of_ble_eq_true rfl⟩) hP hD hK hS hA [0] [] rfl rfl (by decide) (by decide) (fun z1 _u H locs hw hP hD hK hS => ?_)
  have hP : va_P (dC, dI) vwCl [(a0, .inr (9, [.int 0, g3, g4, .null, g5, g6, g7, g8, g9, g10, g11, g12, g13, g14, g15, g16, g17, g18, g19, g20, g21, g22, g23, g24, g25, g26, g27, g28, g29, g30]))] H := hP
  have hD : va_D A [(a0, .inr (9, [.int 0, g3, g4, .null, g5, g6, g7, g8, g9, g10, g11, g12, g13, g14, g15, g16, g17, g18, g19, g20, g21, g22, g23, g24, g25, g26, g27, g28, g29, g30]))] := hD
  have hK : va_K (dC, dI) vwCl [] s := hK
  obtain rfl : z1 = 1 := hw
  refine lv_istore_n (lv' := [(2, .int 1), (0, .ref a0), (1, .int k1)]) hx hb dX12_rests_10 rfl hl (by decide) rfl (fun ls hl => ?_)
  refine lv_iload_n hx hb dX12_rests_11 rfl (lv_at hl 0 rfl) ?_
  refine lv_if_le (tgt := 21) hx hb dX12_rests_12 (by decide) (fun c2 => absurd c2 (by decide)) (fun _ => ?_)
  refine lv_aload_n hx hb dX12_rests_15 rfl (lv_at hl 1 rfl) ?_
  refine lv_iload_n hx hb dX12_rests_16 rfl (lv_at hl 0 rfl) ?_
  refine cl_i (wc := [(a0, .inr (9, [.int 0, g3, g4, .null, g5, g6, g7, g8, g9, g10, g11, g12, g13, g14, g15, g16, g17, g18, g19, g20, g21, g22, g23, g24, g25, g26, g27, g28, g29, g30]))]) (wr := []) (va_runV (As := [.int 1]) (rest := []) ⟨hx, hb, hml, hown, hts⟩ (kX12_refused_1 l dC dI a0 (.int 0) (g3) (g4) (.null) (g5) (g6) (g7) (g8) (g9) (g10) (g11) (g12) (g13) (g14) (g15) (g16) (g17) (g18) (g19) (g20) (g21) (g22) (g23) (g24) (g25) (g26) (g27) (g28) (g29) (g30) H.size) (cwV 1 hts gX12_rests_1 rfl rfl rfl (by decide +kernel) ⟨Nat.le_of_ble_eq_true rfl, Nat.le_of_ble_eq_true rfl⟩) (PV (hP.sub (ws' := [(a0, .inr (9, [.int 0, g3, g4, .null, g5, g6, g7, g8, g9, g10, g11, g12, g13, g14, g15, g16, g17, g18, g19, g20, g21, g22, g23, g24, g25, g26, g27, g28, g29, g30]))]) [0] rfl) (hK.sub (tys' := []) [] rfl) (hD.sub (ws' := [(a0, .inr (9, [.int 0, g3, g4, .null, g5, g6, g7, g8, g9, g10, g11, g12, g13, g14, g15, g16, g17, g18, g19, g20, g21, g22, g23, g24, g25, g26, g27, g28, g29, g30]))]) [0] (by decide) rfl) hN 0 rfl rfl) rfl rfl hl.1 rfl (lv_room (Nat.le_of_ble_eq_true rfl)) dX12_rests_17 ⟨Nat.le_of_ble_eq_true rfl, Nat.le_of_ble_eq_true rfl⟩) hP hD hK hS hA [0] [] rfl rfl (by decide) (by decide) (fun z3 _u H locs hw hP hD hK hS => ?_)
  have hP : va_P (dC, dI) vwCl [(a0, .inr (9, [.int 0, .int 1, .int (-1), .null, g5, g6, g7, g8, g9, g10, g11, g12, g13, g14, g15, g16, g17, g18, g19, g20, g21, g22, g23, g24, g25, g26, g27, g28, g29, g30]))] H := hP
  have hD : va_D A [(a0, .inr (9, [.int 0, .int 1, .int (-1), .null, g5, g6, g7, g8, g9, g10, g11, g12, g13, g14, g15, g16, g17, g18, g19, g20, g21, g22, g23, g24, g25, g26, g27, g28, g29, g30]))] := hD
  have hK : va_K (dC, dI) vwCl [] s := hK
  obtain rfl : z3 = (-1) := hw
  have hP9 := hP.sub (ws' := []) [] rfl
  have hD9 := hD.sub (ws' := []) [] (by decide) rfl
  have hK9 := hK.sub (tys' := []) [] rfl
  exact W.iret (v := (-1)) hx hb hr (fun t ht hW => ⟨⟨(-1), (), rfl, rfl, by rw [ht]; exact hP9, va_K.moved hW.alike hK9, hD9⟩, hS.F ht⟩) hS.2.2 dX12_rests_20
