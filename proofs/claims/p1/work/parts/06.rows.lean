theorem dX12_isAsker_0 : decode cX12_isAsker 0 = .ok (.aload_n 0, 1) := by decide +kernel
theorem dX12_isAsker_1 : decode cX12_isAsker 1 = .ok (.getfield 299, 3) := by decide +kernel
theorem dX12_isAsker_26 : decode cX12_isAsker 26 = .ok (.iconst 0, 1) := by decide +kernel
theorem dX12_isAsker_27 : decode cX12_isAsker 27 = .ok (.ireturn, 1) := by decide +kernel
theorem dX12_isAsker_4 : decode cX12_isAsker 4 = .ok (.ifnull 22, 3) := by decide +kernel
def vX12_isAsker : List Cond := .code yX12_isAsker cX12_isAsker 2 (some .boolean) :: ([.fieldLink RX12 299 "HookPierModel" "pier" "LHookPierModel$Pier;"] ++ wsX120)
theorem iX12_isAsker_X12 : ∀ w ∈ wsX120, w ∈ vX12_isAsker := fun _ h => List.mem_cons_of_mem _ (List.mem_append_right _ h)
set_option maxHeartbeats 1000000 in
set_option maxRecDepth 100000 in
theorem kX12_isAsker (l : Launch) (dC : Nat → ClassId) (dI : Nat → Nat → Nat) (a0 : Nat) (k1 : Int32) (g2 : Value) (g3 : Value) (g4 : Value) (g5 : Value) (g6 : Value) (g7 : Value) (g8 : Value) (g9 : Value) (g10 : Value) (g11 : Value) (g12 : Value) (g13 : Value) (g14 : Value) (g15 : Value) (g16 : Value) (g17 : Value) (g18 : Value) (g19 : Value) (g20 : Value) (g21 : Value) (g22 : Value) (g23 : Value) (g24 : Value) (g25 : Value) (g26 : Value) (g27 : Value) (g28 : Value) (g29 : Value) (g30 : Value) (sz : Nat) : Met l yX12_isAsker vX12_isAsker ({ frames := 0, cells := 0, slots := 0, locals := 0 }) (PC (dC, dI) [.ref a0, .int k1] sz [(a0, .inr (9, [g2, g3, g4, .null, g5, g6, g7, g8, g9, g10, g11, g12, g13, g14, g15, g16, g17, g18, g19, g20, g21, g22, g23, g24, g25, g26, g27, g28, g29, g30]))] []) (va_Qi (S := Unit) (fun (r : Int32) _ => r = 0) (fun _ t => BC (dC, dI) (va_A [(a0, .inr (9, [g2, g3, g4, .null, g5, g6, g7, g8, g9, g10, g11, g12, g13, g14, g15, g16, g17, g18, g19, g20, g21, g22, g23, g24, g25, g26, g27, g28, g29, g30]))] sz) [(a0, .inr (9, [g2, g3, g4, .null, g5, g6, g7, g8, g9, g10, g11, g12, g13, g14, g15, g16, g17, g18, g19, g20, g21, g22, g23, g24, g25, g26, g27, g28, g29, g30]))] [] t) (va_A [(a0, .inr (9, [g2, g3, g4, .null, g5, g6, g7, g8, g9, g10, g11, g12, g13, g14, g15, g16, g17, g18, g19, g20, g21, g22, g23, g24, g25, g26, g27, g28, g29, g30]))] sz)) 0 0 (va_A [(a0, .inr (9, [g2, g3, g4, .null, g5, g6, g7, g8, g9, g10, g11, g12, g13, g14, g15, g16, g17, g18, g19, g20, g21, g22, g23, g24, g25, g26, g27, g28, g29, g30]))] sz) := by
  refine Met.ofW (cc := cX12_isAsker) (maxL := 2) (ret := (some .boolean)) (by decide) rfl ?_
  intro p e s m args below meth c s₁ B hml hv
  obtain ⟨rfl, hsz, hP, hK, hD0, hN⟩ := hv
  have hx := B.exec
  have hb := B.bytes
  have hr := B.returns
  have hts := atoms_spec (ws := vX12_isAsker) B.pre
  have hown : s.vm.findClass RX12 = some m.cls := findClass_of_methodNamed B.named
  have hlocks := B.notSynchronized
  subst hsz
  have hD := hD0.self (sz := s.heap.size)
  generalize hAe : va_A [(a0, .inr (9, [g2, g3, g4, .null, g5, g6, g7, g8, g9, g10, g11, g12, g13, g14, g15, g16, g17, g18, g19, g20, g21, g22, g23, g24, g25, g26, g27, g28, g29, g30]))] s.heap.size = A at hD ⊢
  have hA : ∀ q : Nat, s.heap.size ≤ q → A q := fun q h => by rw [← hAe]; exact Or.inr h
  have hS : va_S A s.heap s.heap [] := va_S.rf
  have hP : va_P (dC, dI) vwCl [(a0, .inr (9, [g2, g3, g4, .null, g5, g6, g7, g8, g9, g10, g11, g12, g13, g14, g15, g16, g17, g18, g19, g20, g21, g22, g23, g24, g25, g26, g27, g28, g29, g30]))] s.heap := hP
  have hl := lv_entry ([.ref a0, .int k1]) (n := 2) (Nat.le_of_ble_eq_true rfl)
  rw [lg_entry_eq]
  generalize (lg_sl ([.ref a0, .int k1]) ++ List.replicate (2 - (lg_sl ([.ref a0, .int k1])).length) Slot.unset).toArray = ls at hl ⊢
  have hl : lv_has ls 2 [(0, .ref a0), (1, .int k1)] := hl
  refine lv_aload_n hx hb dX12_isAsker_0 rfl (lv_at hl 0 rfl) ?_
  refine va_get (D := (dC, dI)) (ci := 9) (v := .null) (C := RX12) (T := TX12) (N := 30) hx hb hts iX12_isAsker_X12 hown hK hP 0 rfl rfl 3 (by decide) (hts (.fieldLink RX12 299 "HookPierModel" "pier" "LHookPierModel$Pier;") (List.mem_of_getElem? (i := 1) rfl)) (fun _ h9 => h9) rfl dX12_isAsker_1 ?_
  refine lv_ifnullN (tgt := 26) hx hb dX12_isAsker_4 (by decide) ?_
  refine lv_iconst (v := 0) hx hb dX12_isAsker_26 (by decide) ?_
  have hP9 := hP.sub (ws' := [(a0, .inr (9, [g2, g3, g4, .null, g5, g6, g7, g8, g9, g10, g11, g12, g13, g14, g15, g16, g17, g18, g19, g20, g21, g22, g23, g24, g25, g26, g27, g28, g29, g30]))]) [0] rfl
  have hD9 := hD.sub (ws' := [(a0, .inr (9, [g2, g3, g4, .null, g5, g6, g7, g8, g9, g10, g11, g12, g13, g14, g15, g16, g17, g18, g19, g20, g21, g22, g23, g24, g25, g26, g27, g28, g29, g30]))]) [0] (by decide) rfl
  have hK9 := hK.sub (tys' := []) [] rfl
  exact W.zret (v := 0) hx hb hr rfl (fun t ht hW => ⟨⟨0, (), rfl, rfl, by rw [ht]; exact hP9, va_K.moved hW.alike hK9, hD9⟩, hS.F ht⟩) hS.2.2 dX12_isAsker_27
theorem dX12_asker_0 : decode cX12_asker 0 = .ok (.aload_n 0, 1) := by decide +kernel
theorem dX12_asker_1 : decode cX12_asker 1 = .ok (.iconst 0, 1) := by decide +kernel
theorem dX12_asker_10 : decode cX12_asker 10 = .ok (.ifCond .eq 12, 3) := by decide +kernel
theorem dX12_asker_2 : decode cX12_asker 2 = .ok (.putfield 36, 3) := by decide +kernel
theorem dX12_asker_22 : decode cX12_asker 22 = .ok (.aload_n 0, 1) := by decide +kernel
theorem dX12_asker_23 : decode cX12_asker 23 = .ok (.iconst 1, 1) := by decide +kernel
theorem dX12_asker_24 : decode cX12_asker 24 = .ok (.invokevirtual 42, 3) := by decide +kernel
theorem dX12_asker_27 : decode cX12_asker 27 = .ok (.ireturn, 1) := by decide +kernel
theorem dX12_asker_5 : decode cX12_asker 5 = .ok (.aload_n 0, 1) := by decide +kernel
theorem dX12_asker_6 : decode cX12_asker 6 = .ok (.iload_n 1, 1) := by decide +kernel
theorem dX12_asker_7 : decode cX12_asker 7 = .ok (.invokevirtual 334, 3) := by decide +kernel
def vX12_asker : List Cond := .code yX12_asker cX12_asker 6 (some .int) :: ([.fieldLink RX12 36 "HookPierModel" "thrown" "I", .methodLink RX12 334 yX12_isAsker, .instanceMethod yX12_isAsker, .selects RX12 yX12_isAsker yX12_isAsker, .initialized RX12, .code yX12_isAsker cX12_isAsker 2 (some .boolean), .fieldLink RX12 299 "HookPierModel" "pier" "LHookPierModel$Pier;", .methodLink RX12 42 yX12_refused, .instanceMethod yX12_refused, .selects RX12 yX12_refused yX12_refused, .code yX12_refused cX12_refused 2 (some .int), .fieldLink RX12 39 "HookPierModel" "trouble" "I", .fieldLink RX12 9 "HookPierModel" "where" "I"] ++ wsX120)
theorem iX12_asker_X12 : ∀ w ∈ wsX120, w ∈ vX12_asker := fun _ h => List.mem_cons_of_mem _ (List.mem_append_right _ h)
set_option maxRecDepth 20000 in
theorem gX12_asker_0 : GoodIn vX12_asker (wsV RX12 334 RX12 yX12_isAsker vX12_isAsker) := goodIn_app (goodIn_r [.methodLink RX12 334 yX12_isAsker, .instanceMethod yX12_isAsker, .selects RX12 yX12_isAsker yX12_isAsker, .initialized RX12] [2, 3, 4, 5] (by decide +kernel) (by decide +kernel)) (goodIn_ca (goodIn_r (.code yX12_isAsker cX12_isAsker 2 (some .boolean) :: [.fieldLink RX12 299 "HookPierModel" "pier" "LHookPierModel$Pier;"]) [6, 7] (by decide +kernel) (by decide +kernel) : GoodIn vX12_asker (.code yX12_isAsker cX12_isAsker 2 (some .boolean) :: [.fieldLink RX12 299 "HookPierModel" "pier" "LHookPierModel$Pier;"])) (goodIn_sub iX12_asker_X12 (by decide +kernel)))
set_option maxRecDepth 20000 in
theorem gX12_asker_1 : GoodIn vX12_asker (wsV RX12 42 RX12 yX12_refused vX12_refused_1) := goodIn_app (goodIn_r [.methodLink RX12 42 yX12_refused, .instanceMethod yX12_refused, .selects RX12 yX12_refused yX12_refused, .initialized RX12] [8, 9, 10, 5] (by decide +kernel) (by decide +kernel)) (goodIn_ca (goodIn_r (.code yX12_refused cX12_refused 2 (some .int) :: [.fieldLink RX12 39 "HookPierModel" "trouble" "I", .fieldLink RX12 9 "HookPierModel" "where" "I"]) [11, 12, 13] (by decide +kernel) (by decide +kernel) : GoodIn vX12_asker (.code yX12_refused cX12_refused 2 (some .int) :: [.fieldLink RX12 39 "HookPierModel" "trouble" "I", .fieldLink RX12 9 "HookPierModel" "where" "I"])) (goodIn_sub iX12_asker_X12 (by decide +kernel)))
set_option maxHeartbeats 1000000 in
set_option maxRecDepth 100000 in
theorem kX12_asker (l : Launch) (dC : Nat → ClassId) (dI : Nat → Nat → Nat) (a0 : Nat) (k1 : Int32) (k2 : Int32) (g3 : Value) (g4 : Value) (g5 : Value) (g6 : Value) (g7 : Value) (g8 : Value) (g9 : Value) (g10 : Value) (g11 : Value) (g12 : Value) (g13 : Value) (g14 : Value) (g15 : Value) (g16 : Value) (g17 : Value) (g18 : Value) (g19 : Value) (g20 : Value) (g21 : Value) (g22 : Value) (g23 : Value) (g24 : Value) (g25 : Value) (g26 : Value) (g27 : Value) (g28 : Value) (g29 : Value) (g30 : Value) (g31 : Value) (sz : Nat) : Met l yX12_asker vX12_asker ({ frames := 1, cells := 0, slots := 0, locals := 21 }) (PC (dC, dI) [.ref a0, .int k1, .int k2] sz [(a0, .inr (9, [g3, g4, g5, .null, g6, g7, g8, g9, g10, g11, g12, g13, g14, g15, g16, g17, g18, g19, g20, g21, g22, g23, g24, g25, g26, g27, g28, g29, g30, g31]))] []) (va_Qi (S := Unit) (fun (r : Int32) _ => r = (-1)) (fun _ t => BC (dC, dI) (va_A [(a0, .inr (9, [g3, g4, g5, .null, g6, g7, g8, g9, g10, g11, g12, g13, g14, g15, g16, g17, g18, g19, g20, g21, g22, g23, g24, g25, g26, g27, g28, g29, g30, g31]))] sz) [] [] t) (va_A [(a0, .inr (9, [g3, g4, g5, .null, g6, g7, g8, g9, g10, g11, g12, g13, g14, g15, g16, g17, g18, g19, g20, g21, g22, g23, g24, g25, g26, g27, g28, g29, g30, g31]))] sz)) 0 0 (va_A [(a0, .inr (9, [g3, g4, g5, .null, g6, g7, g8, g9, g10, g11, g12, g13, g14, g15, g16, g17, g18, g19, g20, g21, g22, g23, g24, g25, g26, g27, g28, g29, g30, g31]))] sz) := by
  refine Met.ofW (cc := cX12_asker) (maxL := 6) (ret := (some .int)) (by decide) rfl ?_
  intro p e s m args below meth c s₁ B hml hv
  obtain ⟨rfl, hsz, hP, hK, hD0, hN⟩ := hv
  have hx := B.exec
  have hb := B.bytes
  have hr := B.returns
  have hts := atoms_spec (ws := vX12_asker) B.pre
  have hown : s.vm.findClass RX12 = some m.cls := findClass_of_methodNamed B.named
  have hlocks := B.notSynchronized
  subst hsz
  have hD := hD0.self (sz := s.heap.size)
  generalize hAe : va_A [(a0, .inr (9, [g3, g4, g5, .null, g6, g7, g8, g9, g10, g11, g12, g13, g14, g15, g16, g17, g18, g19, g20, g21, g22, g23, g24, g25, g26, g27, g28, g29, g30, g31]))] s.heap.size = A at hD ⊢
  have hA : ∀ q : Nat, s.heap.size ≤ q → A q := fun q h => by rw [← hAe]; exact Or.inr h
  have hS : va_S A s.heap s.heap [] := va_S.rf
  have hP : va_P (dC, dI) vwCl [(a0, .inr (9, [g3, g4, g5, .null, g6, g7, g8, g9, g10, g11, g12, g13, g14, g15, g16, g17, g18, g19, g20, g21, g22, g23, g24, g25, g26, g27, g28, g29, g30, g31]))] s.heap := hP
  have hl := lv_entry ([.ref a0, .int k1, .int k2]) (n := 6) (Nat.le_of_ble_eq_true rfl)
  rw [lg_entry_eq]
  generalize (lg_sl ([.ref a0, .int k1, .int k2]) ++ List.replicate (6 - (lg_sl ([.ref a0, .int k1, .int k2])).length) Slot.unset).toArray = ls at hl ⊢
  have hl : lv_has ls 6 [(0, .ref a0), (1, .int k1), (2, .int k2)] := hl
  refine lv_aload_n hx hb dX12_asker_0 rfl (lv_at hl 0 rfl) ?_
  refine lv_iconst (v := 0) hx hb dX12_asker_1 (by decide) ?_
  refine va_put (D := (dC, dI)) (ci := 9) (v := .int 0) (ty := .int) (C := RX12) (T := TX12) (N := 30) hx hb hts iX12_asker_X12 tyX12 tyX12_ok nmX12 hown hK hP hD hS 0 rfl rfl 0 (by decide) (hts (.fieldLink RX12 36 "HookPierModel" "thrown" "I") (List.mem_of_getElem? (i := 1) rfl)) (fun _ h9 => h9) rfl (by decide +kernel) rfl rfl (Nat.le_of_ble_eq_true rfl) dX12_asker_2 (fun H locs hP hD hS => ?_)
  have hP : va_P (dC, dI) vwCl [(a0, .inr (9, [.int 0, g4, g5, .null, g6, g7, g8, g9, g10, g11, g12, g13, g14, g15, g16, g17, g18, g19, g20, g21, g22, g23, g24, g25, g26, g27, g28, g29, g30, g31]))] H := hP
  have hD : va_D A [(a0, .inr (9, [.int 0, g4, g5, .null, g6, g7, g8, g9, g10, g11, g12, g13, g14, g15, g16, g17, g18, g19, g20, g21, g22, g23, g24, g25, g26, g27, g28, g29, g30, g31]))] := hD
  refine lv_aload_n hx hb dX12_asker_5 rfl (lv_at hl 0 rfl) ?_
  refine lv_iload_n hx hb dX12_asker_6 rfl (lv_at hl 1 rfl) ?_
  refine cl_i (wc := [(a0, .inr (9, [.int 0, g4, g5, .null, g6, g7, g8, g9, g10, g11, g12, g13, g14, g15, g16, g17, g18, g19, g20, g21, g22, g23, g24, g25, g26, g27, g28, g29, g30, g31]))]) (wr := []) (va_runV (As := [.int k1]) (rest := []) ⟨hx, hb, hml, hown, hts⟩ (kX12_isAsker l dC dI a0 k1 (.int 0) (g4) (g5) (g6) (g7) (g8) (g9) (g10) (g11) (g12) (g13) (g14) (g15) (g16) (g17) (g18) (g19) (g20) (g21) (g22) (g23) (g24) (g25) (g26) (g27) (g28) (g29) (g30) (g31) H.size) (cwV 1 hts gX12_asker_0 rfl rfl rfl (by decide +kernel) ⟨Nat.le_of_ble_eq_true rfl, Nat.le_of_ble_eq_true rfl⟩) (PV (hP.sub (ws' := [(a0, .inr (9, [.int 0, g4, g5, .null, g6, g7, g8, g9, g10, g11, g12, g13, g14, g15, g16, g17, g18, g19, g20, g21, g22, g23, g24, g25, g26, g27, g28, g29, g30, g31]))]) [0] rfl) (hK.sub (tys' := []) [] rfl) (hD.sub (ws' := [(a0, .inr (9, [.int 0, g4, g5, .null, g6, g7, g8, g9, g10, g11, g12, g13, g14, g15, g16, g17, g18, g19, g20, g21, g22, g23, g24, g25, g26, g27, g28, g29, g30, g31]))]) [0] (by decide) rfl) hN 0 rfl rfl) rfl rfl hl.1 rfl (lv_room (Nat.le_of_ble_eq_true rfl)) dX12_asker_7 ⟨Nat.le_of_ble_eq_true rfl, Nat.le_of_ble_eq_true rfl⟩) hP hD hK hS hA [0] [] rfl rfl (by decide) (by decide) (fun z1 _u H locs hw hP hD hK hS => ?_)
  have hP : va_P (dC, dI) vwCl [(a0, .inr (9, [.int 0, g4, g5, .null, g6, g7, g8, g9, g10, g11, g12, g13, g14, g15, g16, g17, g18, g19, g20, g21, g22, g23, g24, g25, g26, g27, g28, g29, g30, g31]))] H := hP
  have hD : va_D A [(a0, .inr (9, [.int 0, g4, g5, .null, g6, g7, g8, g9, g10, g11, g12, g13, g14, g15, g16, g17, g18, g19, g20, g21, g22, g23, g24, g25, g26, g27, g28, g29, g30, g31]))] := hD
  have hK : va_K (dC, dI) vwCl [] s := hK
  obtain rfl : z1 = 0 := hw
  refine lv_if_eq (tgt := 22) hx hb dX12_asker_10 (by decide) (fun _ => ?_) (fun c2 => absurd c2 (by decide))
  refine lv_aload_n hx hb dX12_asker_22 rfl (lv_at hl 0 rfl) ?_
  refine lv_iconst (v := 1) hx hb dX12_asker_23 (by decide) ?_
  refine cl_i (wc := [(a0, .inr (9, [.int 0, g4, g5, .null, g6, g7, g8, g9, g10, g11, g12, g13, g14, g15, g16, g17, g18, g19, g20, g21, g22, g23, g24, g25, g26, g27, g28, g29, g30, g31]))]) (wr := []) (va_runV (As := [.int 1]) (rest := []) ⟨hx, hb, hml, hown, hts⟩ (kX12_refused_1 l dC dI a0 (.int 0) (g4) (g5) (.null) (g6) (g7) (g8) (g9) (g10) (g11) (g12) (g13) (g14) (g15) (g16) (g17) (g18) (g19) (g20) (g21) (g22) (g23) (g24) (g25) (g26) (g27) (g28) (g29) (g30) (g31) H.size) (cwV 1 hts gX12_asker_1 rfl rfl rfl (by decide +kernel) ⟨Nat.le_of_ble_eq_true rfl, Nat.le_of_ble_eq_true rfl⟩) (PV (hP.sub (ws' := [(a0, .inr (9, [.int 0, g4, g5, .null, g6, g7, g8, g9, g10, g11, g12, g13, g14, g15, g16, g17, g18, g19, g20, g21, g22, g23, g24, g25, g26, g27, g28, g29, g30, g31]))]) [0] rfl) (hK.sub (tys' := []) [] rfl) (hD.sub (ws' := [(a0, .inr (9, [.int 0, g4, g5, .null, g6, g7, g8, g9, g10, g11, g12, g13, g14, g15, g16, g17, g18, g19, g20, g21, g22, g23, g24, g25, g26, g27, g28, g29, g30, g31]))]) [0] (by decide) rfl) hN 0 rfl rfl) rfl rfl hl.1 rfl (lv_room (Nat.le_of_ble_eq_true rfl)) dX12_asker_24 ⟨Nat.le_of_ble_eq_true rfl, Nat.le_of_ble_eq_true rfl⟩) hP hD hK hS hA [0] [] rfl rfl (by decide) (by decide) (fun z3 _u H locs hw hP hD hK hS => ?_)
  have hP : va_P (dC, dI) vwCl [(a0, .inr (9, [.int 0, .int 1, .int (-1), .null, g6, g7, g8, g9, g10, g11, g12, g13, g14, g15, g16, g17, g18, g19, g20, g21, g22, g23, g24, g25, g26, g27, g28, g29, g30, g31]))] H := hP
  have hD : va_D A [(a0, .inr (9, [.int 0, .int 1, .int (-1), .null, g6, g7, g8, g9, g10, g11, g12, g13, g14, g15, g16, g17, g18, g19, g20, g21, g22, g23, g24, g25, g26, g27, g28, g29, g30, g31]))] := hD
  have hK : va_K (dC, dI) vwCl [] s := hK
  obtain rfl : z3 = (-1) := hw
  have hP9 := hP.sub (ws' := []) [] rfl
  have hD9 := hD.sub (ws' := []) [] (by decide) rfl
  have hK9 := hK.sub (tys' := []) [] rfl
  exact W.iret (v := (-1)) hx hb hr (fun t ht hW => ⟨⟨(-1), (), rfl, rfl, by rw [ht]; exact hP9, va_K.moved hW.alike hK9, hD9⟩, hS.F ht⟩) hS.2.2 dX12_asker_27
def vX10_within_4 : List Cond := .code yX10_within cX10_within 3 (some .boolean) :: ([])
set_option maxHeartbeats 1000000 in
set_option maxRecDepth 100000 in
theorem kX10_within_4 (l : Launch) (dC : Nat → ClassId) (dI : Nat → Nat → Nat) (k0 : Int32) (sz : Nat) : Met l yX10_within vX10_within_4 ({ frames := 0, cells := 0, slots := 0, locals := 0 }) (PC (dC, dI) [.int k0, .int 0, .int 999] sz [] []) (va_Qi (S := Unit) (fun (r : Int32) _ => True) (fun _ t => BC (dC, dI) (va_A [] sz) [] [] t) (va_A [] sz)) 0 0 (va_A [] sz) := by
  refine Met.ofW (cc := cX10_within) (maxL := 3) (ret := (some .boolean)) (by decide) rfl ?_
  intro p e s m args below meth c s₁ B hml hv
  obtain ⟨rfl, hsz, hP, hK, hD0, hN⟩ := hv
  have hx := B.exec
  have hb := B.bytes
  have hr := B.returns
  have hts := atoms_spec (ws := vX10_within_4) B.pre
  have hown : s.vm.findClass RX10 = some m.cls := findClass_of_methodNamed B.named
  have hlocks := B.notSynchronized
  subst hsz
  have hD := hD0.self (sz := s.heap.size)
  generalize hAe : va_A [] s.heap.size = A at hD ⊢
  have hA : ∀ q : Nat, s.heap.size ≤ q → A q := fun q h => by rw [← hAe]; exact Or.inr h
  have hS : va_S A s.heap s.heap [] := va_S.rf
  have hP : va_P (dC, dI) vwCl [] s.heap := hP
  have hl := lv_entry ([.int k0, .int 0, .int 999]) (n := 3) (Nat.le_of_ble_eq_true rfl)
  rw [lg_entry_eq]
  generalize (lg_sl ([.int k0, .int 0, .int 999]) ++ List.replicate (3 - (lg_sl ([.int k0, .int 0, .int 999])).length) Slot.unset).toArray = ls at hl ⊢
  have hl : lv_has ls 3 [(0, .int k0), (1, .int 0), (2, .int 999)] := hl
  refine lv_iload_n hx hb dX10_within_0 rfl (lv_at hl 0 rfl) ?_
  refine lv_iload_n hx hb dX10_within_1 rfl (lv_at hl 1 rfl) ?_
  refine lv_icmp_lt (tgt := 14) hx hb dX10_within_2 (by decide) (fun c1 => ?_) (fun c1 => ?_)
  · refine lv_iconst (v := 0) hx hb dX10_within_14 (by decide) ?_
    have hP9 := hP.sub (ws' := []) [] rfl
    have hD9 := hD.sub (ws' := []) [] (by decide) rfl
    have hK9 := hK.sub (tys' := []) [] rfl
    exact W.zret (v := 0) hx hb hr rfl (fun t ht hW => ⟨⟨0, (), rfl, trivial, by rw [ht]; exact hP9, va_K.moved hW.alike hK9, hD9⟩, hS.F ht⟩) hS.2.2 dX10_within_15
  · refine lv_iload_n hx hb dX10_within_5 rfl (lv_at hl 0 rfl) ?_
    refine lv_iload_n hx hb dX10_within_6 rfl (lv_at hl 2 rfl) ?_
    refine lv_icmp_gt (tgt := 14) hx hb dX10_within_7 (by decide) (fun c2 => ?_) (fun c2 => ?_)
    · refine lv_iconst (v := 0) hx hb dX10_within_14 (by decide) ?_
      have hP9 := hP.sub (ws' := []) [] rfl
      have hD9 := hD.sub (ws' := []) [] (by decide) rfl
      have hK9 := hK.sub (tys' := []) [] rfl
      exact W.zret (v := 0) hx hb hr rfl (fun t ht hW => ⟨⟨0, (), rfl, trivial, by rw [ht]; exact hP9, va_K.moved hW.alike hK9, hD9⟩, hS.F ht⟩) hS.2.2 dX10_within_15
    · refine lv_iconst (v := 1) hx hb dX10_within_10 (by decide) ?_
      refine lv_goto (tgt := 15) hx hb dX10_within_11 (by decide) ?_
      have hP9 := hP.sub (ws' := []) [] rfl
      have hD9 := hD.sub (ws' := []) [] (by decide) rfl
      have hK9 := hK.sub (tys' := []) [] rfl
      exact W.zret (v := 1) hx hb hr rfl (fun t ht hW => ⟨⟨1, (), rfl, trivial, by rw [ht]; exact hP9, va_K.moved hW.alike hK9, hD9⟩, hS.F ht⟩) hS.2.2 dX10_within_15
theorem dX10_pierTrouble_0 : decode cX10_pierTrouble 0 = .ok (.aload_n 0, 1) := by decide +kernel
theorem dX10_pierTrouble_1 : decode cX10_pierTrouble 1 = .ok (.getfield 10, 3) := by decide +kernel
theorem dX10_pierTrouble_10 : decode cX10_pierTrouble 10 = .ok (.iconst 1, 1) := by decide +kernel
theorem dX10_pierTrouble_11 : decode cX10_pierTrouble 11 = .ok (.goto 4, 3) := by decide +kernel
theorem dX10_pierTrouble_15 : decode cX10_pierTrouble 15 = .ok (.ireturn, 1) := by decide +kernel
theorem dX10_pierTrouble_4 : decode cX10_pierTrouble 4 = .ok (.getfield 233, 3) := by decide +kernel
theorem dX10_pierTrouble_7 : decode cX10_pierTrouble 7 = .ok (.ifCond .ne 7, 3) := by decide +kernel
def vX10_pierTrouble : List Cond := .code yX10_pierTrouble cX10_pierTrouble 1 (some .int) :: ([.fieldLink RX10 10 "HookPier" "plan" "LHookPier$Plan;", .fieldLink RX10 233 "HookPier$Plan" "spots" "I"] ++ wsX100 ++ wsX60)
theorem iX10_pierTrouble_X10 : ∀ w ∈ wsX100, w ∈ vX10_pierTrouble := fun _ h => List.mem_cons_of_mem _ (List.mem_append_left _ (List.mem_append_right _ h))
theorem iX10_pierTrouble_X6 : ∀ w ∈ wsX60, w ∈ vX10_pierTrouble := fun _ h => List.mem_cons_of_mem _ (List.mem_append_right _ h)
set_option maxHeartbeats 1000000 in
set_option maxRecDepth 100000 in
theorem kX10_pierTrouble (l : Launch) (dC : Nat → ClassId) (dI : Nat → Nat → Nat) (a0 : Nat) (a1 : Nat) (g2 : Value) (g3 : Value) (g4 : Value) (g5 : Value) (g6 : Value) (g7 : Value) (g8 : Value) (g9 : Value) (g10 : Value) (g11 : Value) (g12 : Value) (g13 : Value) (g14 : Value) (g15 : Value) (g16 : Value) (g17 : Value) (g18 : Value) (g19 : Value) (g20 : Value) (g21 : Value) (g22 : Value) (g23 : Value) (g24 : Value) (g25 : Value) (g26 : Value) (g27 : Value) (sz : Nat) : Met l yX10_pierTrouble vX10_pierTrouble ({ frames := 0, cells := 0, slots := 0, locals := 0 }) (PC (dC, dI) [.ref a0] sz [(a0, .inr (7, [.ref a1, g2, g3, g4, g5, g6, g7, g8, g9, g10])), (a1, .inr (4, [.int 0, g11, g12, g13, g14, g15, g16, g17, g18, g19, g20, g21, g22, g23, g24, g25, g26, g27]))] []) (va_Qi (S := Unit) (fun (r : Int32) _ => r = 1) (fun _ t => BC (dC, dI) (va_A [(a0, .inr (7, [.ref a1, g2, g3, g4, g5, g6, g7, g8, g9, g10])), (a1, .inr (4, [.int 0, g11, g12, g13, g14, g15, g16, g17, g18, g19, g20, g21, g22, g23, g24, g25, g26, g27]))] sz) [(a0, .inr (7, [.ref a1, g2, g3, g4, g5, g6, g7, g8, g9, g10])), (a1, .inr (4, [.int 0, g11, g12, g13, g14, g15, g16, g17, g18, g19, g20, g21, g22, g23, g24, g25, g26, g27]))] [] t) (va_A [(a0, .inr (7, [.ref a1, g2, g3, g4, g5, g6, g7, g8, g9, g10])), (a1, .inr (4, [.int 0, g11, g12, g13, g14, g15, g16, g17, g18, g19, g20, g21, g22, g23, g24, g25, g26, g27]))] sz)) 0 0 (va_A [(a0, .inr (7, [.ref a1, g2, g3, g4, g5, g6, g7, g8, g9, g10])), (a1, .inr (4, [.int 0, g11, g12, g13, g14, g15, g16, g17, g18, g19, g20, g21, g22, g23, g24, g25, g26, g27]))] sz) := by
  refine Met.ofW (cc := cX10_pierTrouble) (maxL := 1) (ret := (some .int)) (by decide) rfl ?_
  intro p e s m args below meth c s₁ B hml hv
  obtain ⟨rfl, hsz, hP, hK, hD0, hN⟩ := hv
  have hx := B.exec
  have hb := B.bytes
  have hr := B.returns
  have hts := atoms_spec (ws := vX10_pierTrouble) B.pre
  have hown : s.vm.findClass RX10 = some m.cls := findClass_of_methodNamed B.named
  have hlocks := B.notSynchronized
  subst hsz
  have hD := hD0.self (sz := s.heap.size)
  generalize hAe : va_A [(a0, .inr (7, [.ref a1, g2, g3, g4, g5, g6, g7, g8, g9, g10])), (a1, .inr (4, [.int 0, g11, g12, g13, g14, g15, g16, g17, g18, g19, g20, g21, g22, g23, g24, g25, g26, g27]))] s.heap.size = A at hD ⊢
  have hA : ∀ q : Nat, s.heap.size ≤ q → A q := fun q h => by rw [← hAe]; exact Or.inr h
  have hS : va_S A s.heap s.heap [] := va_S.rf
  have hP : va_P (dC, dI) vwCl [(a0, .inr (7, [.ref a1, g2, g3, g4, g5, g6, g7, g8, g9, g10])), (a1, .inr (4, [.int 0, g11, g12, g13, g14, g15, g16, g17, g18, g19, g20, g21, g22, g23, g24, g25, g26, g27]))] s.heap := hP
  have hl := lv_entry ([.ref a0]) (n := 1) (Nat.le_of_ble_eq_true rfl)
  rw [lg_entry_eq]
  generalize (lg_sl ([.ref a0]) ++ List.replicate (1 - (lg_sl ([.ref a0])).length) Slot.unset).toArray = ls at hl ⊢
  have hl : lv_has ls 1 [(0, .ref a0)] := hl
  refine lv_aload_n hx hb dX10_pierTrouble_0 rfl (lv_at hl 0 rfl) ?_
  refine va_get (D := (dC, dI)) (ci := 7) (v := .ref a1) (C := RX10) (T := TX10) (N := 10) hx hb hts iX10_pierTrouble_X10 hown hK hP 0 rfl rfl 0 (by decide) (hts (.fieldLink RX10 10 "HookPier" "plan" "LHookPier$Plan;") (List.mem_of_getElem? (i := 1) rfl)) (fun _ h9 => h9) rfl dX10_pierTrouble_1 ?_
  refine va_get (D := (dC, dI)) (ci := 4) (v := .int 0) (C := RX6) (T := TX6) (N := 18) hx hb hts iX10_pierTrouble_X6 hown hK hP 1 rfl rfl 0 (by decide) (hts (.fieldLink RX10 233 "HookPier$Plan" "spots" "I") (List.mem_of_getElem? (i := 2) rfl)) (fun _ h9 => h9) rfl dX10_pierTrouble_4 ?_
  refine lv_if_ne (tgt := 14) hx hb dX10_pierTrouble_7 (by decide) (fun c1 => absurd c1 (by decide)) (fun _ => ?_)
  refine lv_iconst (v := 1) hx hb dX10_pierTrouble_10 (by decide) ?_
  refine lv_goto (tgt := 15) hx hb dX10_pierTrouble_11 (by decide) ?_
  have hP9 := hP.sub (ws' := [(a0, .inr (7, [.ref a1, g2, g3, g4, g5, g6, g7, g8, g9, g10])), (a1, .inr (4, [.int 0, g11, g12, g13, g14, g15, g16, g17, g18, g19, g20, g21, g22, g23, g24, g25, g26, g27]))]) [0, 1] rfl
  have hD9 := hD.sub (ws' := [(a0, .inr (7, [.ref a1, g2, g3, g4, g5, g6, g7, g8, g9, g10])), (a1, .inr (4, [.int 0, g11, g12, g13, g14, g15, g16, g17, g18, g19, g20, g21, g22, g23, g24, g25, g26, g27]))]) [0, 1] (by decide) rfl
  have hK9 := hK.sub (tys' := []) [] rfl
  exact W.iret (v := 1) hx hb hr (fun t ht hW => ⟨⟨1, (), rfl, rfl, by rw [ht]; exact hP9, va_K.moved hW.alike hK9, hD9⟩, hS.F ht⟩) hS.2.2 dX10_pierTrouble_15
theorem dX10_numberTrouble_0 : decode cX10_numberTrouble 0 = .ok (.aload_n 0, 1) := by decide +kernel
theorem dX10_numberTrouble_1 : decode cX10_numberTrouble 1 = .ok (.invokevirtual 216, 3) := by decide +kernel
theorem dX10_numberTrouble_17 : decode cX10_numberTrouble 17 = .ok (.iload_n 2, 1) := by decide +kernel
theorem dX10_numberTrouble_18 : decode cX10_numberTrouble 18 = .ok (.ireturn, 1) := by decide +kernel
theorem dX10_numberTrouble_4 : decode cX10_numberTrouble 4 = .ok (.istore_n 2, 1) := by decide +kernel
theorem dX10_numberTrouble_5 : decode cX10_numberTrouble 5 = .ok (.iload_n 2, 1) := by decide +kernel
theorem dX10_numberTrouble_6 : decode cX10_numberTrouble 6 = .ok (.ifCond .ne 11, 3) := by decide +kernel
def vX10_numberTrouble : List Cond := .code yX10_numberTrouble cX10_numberTrouble 3 (some .int) :: ([.methodLink RX10 216 yX10_pierTrouble, .instanceMethod yX10_pierTrouble, .selects RX10 yX10_pierTrouble yX10_pierTrouble, .initialized RX10, .code yX10_pierTrouble cX10_pierTrouble 1 (some .int), .fieldLink RX10 10 "HookPier" "plan" "LHookPier$Plan;", .fieldLink RX10 233 "HookPier$Plan" "spots" "I"] ++ wsX100 ++ wsX60)
theorem iX10_numberTrouble_X10 : ∀ w ∈ wsX100, w ∈ vX10_numberTrouble := fun _ h => List.mem_cons_of_mem _ (List.mem_append_left _ (List.mem_append_right _ h))
theorem iX10_numberTrouble_X6 : ∀ w ∈ wsX60, w ∈ vX10_numberTrouble := fun _ h => List.mem_cons_of_mem _ (List.mem_append_right _ h)
set_option maxRecDepth 20000 in
theorem gX10_numberTrouble_0 : GoodIn vX10_numberTrouble (wsV RX10 216 RX10 yX10_pierTrouble vX10_pierTrouble) := goodIn_app (goodIn_r [.methodLink RX10 216 yX10_pierTrouble, .instanceMethod yX10_pierTrouble, .selects RX10 yX10_pierTrouble yX10_pierTrouble, .initialized RX10] [1, 2, 3, 4] (by decide +kernel) (by decide +kernel)) (goodIn_ca (goodIn_ca (goodIn_r (.code yX10_pierTrouble cX10_pierTrouble 1 (some .int) :: [.fieldLink RX10 10 "HookPier" "plan" "LHookPier$Plan;", .fieldLink RX10 233 "HookPier$Plan" "spots" "I"]) [5, 6, 7] (by decide +kernel) (by decide +kernel) : GoodIn vX10_numberTrouble (.code yX10_pierTrouble cX10_pierTrouble 1 (some .int) :: [.fieldLink RX10 10 "HookPier" "plan" "LHookPier$Plan;", .fieldLink RX10 233 "HookPier$Plan" "spots" "I"])) (goodIn_sub iX10_numberTrouble_X10 (by decide +kernel))) (goodIn_sub iX10_numberTrouble_X6 (by decide +kernel)))
set_option maxHeartbeats 1000000 in
set_option maxRecDepth 100000 in
theorem kX10_numberTrouble (l : Launch) (dC : Nat → ClassId) (dI : Nat → Nat → Nat) (a0 : Nat) (k1 : Int32) (a2 : Nat) (g3 : Value) (g4 : Value) (g5 : Value) (g6 : Value) (g7 : Value) (g8 : Value) (g9 : Value) (g10 : Value) (g11 : Value) (g12 : Value) (g13 : Value) (g14 : Value) (g15 : Value) (g16 : Value) (g17 : Value) (g18 : Value) (g19 : Value) (g20 : Value) (g21 : Value) (g22 : Value) (g23 : Value) (g24 : Value) (g25 : Value) (g26 : Value) (g27 : Value) (g28 : Value) (sz : Nat) : Met l yX10_numberTrouble vX10_numberTrouble ({ frames := 1, cells := 0, slots := 0, locals := 20 }) (PC (dC, dI) [.ref a0, .int k1] sz [(a0, .inr (7, [.ref a2, g3, g4, g5, g6, g7, g8, g9, g10, g11])), (a2, .inr (4, [.int 0, g12, g13, g14, g15, g16, g17, g18, g19, g20, g21, g22, g23, g24, g25, g26, g27, g28]))] []) (va_Qi (S := Unit) (fun (r : Int32) _ => r = 1) (fun _ t => BC (dC, dI) (va_A [(a0, .inr (7, [.ref a2, g3, g4, g5, g6, g7, g8, g9, g10, g11])), (a2, .inr (4, [.int 0, g12, g13, g14, g15, g16, g17, g18, g19, g20, g21, g22, g23, g24, g25, g26, g27, g28]))] sz) [(a0, .inr (7, [.ref a2, g3, g4, g5, g6, g7, g8, g9, g10, g11])), (a2, .inr (4, [.int 0, g12, g13, g14, g15, g16, g17, g18, g19, g20, g21, g22, g23, g24, g25, g26, g27, g28]))] [] t) (va_A [(a0, .inr (7, [.ref a2, g3, g4, g5, g6, g7, g8, g9, g10, g11])), (a2, .inr (4, [.int 0, g12, g13, g14, g15, g16, g17, g18, g19, g20, g21, g22, g23, g24, g25, g26, g27, g28]))] sz)) 0 0 (va_A [(a0, .inr (7, [.ref a2, g3, g4, g5, g6, g7, g8, g9, g10, g11])), (a2, .inr (4, [.int 0, g12, g13, g14, g15, g16, g17, g18, g19, g20, g21, g22, g23, g24, g25, g26, g27, g28]))] sz) := by
  refine Met.ofW (cc := cX10_numberTrouble) (maxL := 3) (ret := (some .int)) (by decide) rfl ?_
  intro p e s m args below meth c s₁ B hml hv
  obtain ⟨rfl, hsz, hP, hK, hD0, hN⟩ := hv
  have hx := B.exec
  have hb := B.bytes
  have hr := B.returns
  have hts := atoms_spec (ws := vX10_numberTrouble) B.pre
  have hown : s.vm.findClass RX10 = some m.cls := findClass_of_methodNamed B.named
  have hlocks := B.notSynchronized
  subst hsz
  have hD := hD0.self (sz := s.heap.size)
  generalize hAe : va_A [(a0, .inr (7, [.ref a2, g3, g4, g5, g6, g7, g8, g9, g10, g11])), (a2, .inr (4, [.int 0, g12, g13, g14, g15, g16, g17, g18, g19, g20, g21, g22, g23, g24, g25, g26, g27, g28]))] s.heap.size = A at hD ⊢
  have hA : ∀ q : Nat, s.heap.size ≤ q → A q := fun q h => by rw [← hAe]; exact Or.inr h
  have hS : va_S A s.heap s.heap [] := va_S.rf
  have hP : va_P (dC, dI) vwCl [(a0, .inr (7, [.ref a2, g3, g4, g5, g6, g7, g8, g9, g10, g11])), (a2, .inr (4, [.int 0, g12, g13, g14, g15, g16, g17, g18, g19, g20, g21, g22, g23, g24, g25, g26, g27, g28]))] s.heap := hP
  have hl := lv_entry ([.ref a0, .int k1]) (n := 3) (Nat.le_of_ble_eq_true rfl)
  rw [lg_entry_eq]
  generalize (lg_sl ([.ref a0, .int k1]) ++ List.replicate (3 - (lg_sl ([.ref a0, .int k1])).length) Slot.unset).toArray = ls at hl ⊢
  have hl : lv_has ls 3 [(0, .ref a0), (1, .int k1)] := hl
  refine lv_aload_n hx hb dX10_numberTrouble_0 rfl (lv_at hl 0 rfl) ?_
  refine cl_i (wc := [(a0, .inr (7, [.ref a2, g3, g4, g5, g6, g7, g8, g9, g10, g11])), (a2, .inr (4, [.int 0, g12, g13, g14, g15, g16, g17, g18, g19, g20, g21, g22, g23, g24, g25, g26, g27, g28]))]) (wr := []) (va_runV (As := []) (rest := []) ⟨hx, hb, hml, hown, hts⟩ (kX10_pierTrouble l dC dI a0 a2 (g3) (g4) (g5) (g6) (g7) (g8) (g9) (g10) (g11) (g12) (g13) (g14) (g15) (g16) (g17) (g18) (g19) (g20) (g21) (g22) (g23) (g24) (g25) (g26) (g27) (g28) s.heap.size) (cwV 0 hts gX10_numberTrouble_0 rfl rfl rfl (by decide +kernel) ⟨Nat.le_of_ble_eq_true rfl, Nat.le_of_ble_eq_true rfl⟩) (PV (hP.sub (ws' := [(a0, .inr (7, [.ref a2, g3, g4, g5, g6, g7, g8, g9, g10, g11])), (a2, .inr (4, [.int 0, g12, g13, g14, g15, g16, g17, g18, g19, g20, g21, g22, g23, g24, g25, g26, g27, g28]))]) [0, 1] rfl) (hK.sub (tys' := []) [] rfl) (hD.sub (ws' := [(a0, .inr (7, [.ref a2, g3, g4, g5, g6, g7, g8, g9, g10, g11])), (a2, .inr (4, [.int 0, g12, g13, g14, g15, g16, g17, g18, g19, g20, g21, g22, g23, g24, g25, g26, g27, g28]))]) [0, 1] (by decide) rfl) hN 0 rfl rfl) rfl rfl hl.1 rfl (lv_room (Nat.le_of_ble_eq_true rfl)) dX10_numberTrouble_1 ⟨Nat.le_of_ble_eq_true rfl, Nat.le_of_ble_eq_true rfl⟩) hP hD hK hS hA [0, 1] [] rfl rfl (by decide) (by decide) (fun z1 _u H locs hw hP hD hK hS => ?_)
  have hP : va_P (dC, dI) vwCl [(a0, .inr (7, [.ref a2, g3, g4, g5, g6, g7, g8, g9, g10, g11])), (a2, .inr (4, [.int 0, g12, g13, g14, g15, g16, g17, g18, g19, g20, g21, g22, g23, g24, g25, g26, g27, g28]))] H := hP
  have hD : va_D A [(a0, .inr (7, [.ref a2, g3, g4, g5, g6, g7, g8, g9, g10, g11])), (a2, .inr (4, [.int 0, g12, g13, g14, g15, g16, g17, g18, g19, g20, g21, g22, g23, g24, g25, g26, g27, g28]))] := hD
  have hK : va_K (dC, dI) vwCl [] s := hK
  obtain rfl : z1 = 1 := hw
  refine lv_istore_n (lv' := [(2, .int 1), (0, .ref a0), (1, .int k1)]) hx hb dX10_numberTrouble_4 rfl hl (by decide) rfl (fun ls hl => ?_)
  refine lv_iload_n hx hb dX10_numberTrouble_5 rfl (lv_at hl 0 rfl) ?_
  refine lv_if_ne (tgt := 17) hx hb dX10_numberTrouble_6 (by decide) (fun _ => ?_) (fun c2 => absurd c2 (by decide))
  refine lv_iload_n hx hb dX10_numberTrouble_17 rfl (lv_at hl 0 rfl) ?_
  have hP9 := hP.sub (ws' := [(a0, .inr (7, [.ref a2, g3, g4, g5, g6, g7, g8, g9, g10, g11])), (a2, .inr (4, [.int 0, g12, g13, g14, g15, g16, g17, g18, g19, g20, g21, g22, g23, g24, g25, g26, g27, g28]))]) [0, 1] rfl
  have hD9 := hD.sub (ws' := [(a0, .inr (7, [.ref a2, g3, g4, g5, g6, g7, g8, g9, g10, g11])), (a2, .inr (4, [.int 0, g12, g13, g14, g15, g16, g17, g18, g19, g20, g21, g22, g23, g24, g25, g26, g27, g28]))]) [0, 1] (by decide) rfl
  have hK9 := hK.sub (tys' := []) [] rfl
  exact W.iret (v := 1) hx hb hr (fun t ht hW => ⟨⟨1, (), rfl, rfl, by rw [ht]; exact hP9, va_K.moved hW.alike hK9, hD9⟩, hS.F ht⟩) hS.2.2 dX10_numberTrouble_18
theorem dX10_close_0 : decode cX10_close 0 = .ok (.aload_n 0, 1) := by decide +kernel
theorem dX10_close_1 : decode cX10_close 1 = .ok (.aload_n 0, 1) := by decide +kernel
theorem dX10_close_10 : decode cX10_close 10 = .ok (.invokevirtual 169, 3) := by decide +kernel
theorem dX10_close_13 : decode cX10_close 13 = .ok (.invokevirtual 79, 3) := by decide +kernel
theorem dX10_close_16 : decode cX10_close 16 = .ok (.ifCond .eq 5, 3) := by decide +kernel
theorem dX10_close_19 : decode cX10_close 19 = .ok (.iconst (-1), 1) := by decide +kernel
theorem dX10_close_2 : decode cX10_close 2 = .ok (.iload_n 1, 1) := by decide +kernel
theorem dX10_close_20 : decode cX10_close 20 = .ok (.ireturn, 1) := by decide +kernel
theorem dX10_close_3 : decode cX10_close 3 = .ok (.iconst 0, 1) := by decide +kernel
theorem dX10_close_4 : decode cX10_close 4 = .ok (.sipush 999, 3) := by decide +kernel
theorem dX10_close_7 : decode cX10_close 7 = .ok (.invokestatic 75, 3) := by decide +kernel
def vX10_close : List Cond := .code yX10_close cX10_close 2 (some .int) :: ([.methodLink RX10 75 yX10_within, .static yX10_within, .initialized RX10, .code yX10_within cX10_within 3 (some .boolean), .methodLink RX10 169 yX10_numberTrouble, .instanceMethod yX10_numberTrouble, .selects RX10 yX10_numberTrouble yX10_numberTrouble, .code yX10_numberTrouble cX10_numberTrouble 3 (some .int), .methodLink RX10 216 yX10_pierTrouble, .instanceMethod yX10_pierTrouble, .selects RX10 yX10_pierTrouble yX10_pierTrouble, .code yX10_pierTrouble cX10_pierTrouble 1 (some .int), .fieldLink RX10 10 "HookPier" "plan" "LHookPier$Plan;", .fieldLink RX10 233 "HookPier$Plan" "spots" "I", .methodLink RX10 79 yX10_refused, .instanceMethod yX10_refused, .selects RX10 yX10_refused yX10_refused, .code yX10_refused cX10_refused 2 (some .boolean), .fieldLink RX10 61 "HookPier" "troubleNow" "I"] ++ wsX100 ++ wsX60)
theorem iX10_close_X10 : ∀ w ∈ wsX100, w ∈ vX10_close := fun _ h => List.mem_cons_of_mem _ (List.mem_append_left _ (List.mem_append_right _ h))
theorem iX10_close_X6 : ∀ w ∈ wsX60, w ∈ vX10_close := fun _ h => List.mem_cons_of_mem _ (List.mem_append_right _ h)
set_option maxRecDepth 20000 in
theorem gX10_close_0 : GoodIn vX10_close (va_wsS RX10 75 yX10_within vX10_within_4) := goodIn_app (goodIn_r [.methodLink RX10 75 yX10_within, .static yX10_within, .initialized RX10] [1, 2, 3] (by decide +kernel) (by decide +kernel)) (goodIn_r (.code yX10_within cX10_within 3 (some .boolean) :: []) [4] (by decide +kernel) (by decide +kernel) : GoodIn vX10_close (.code yX10_within cX10_within 3 (some .boolean) :: []))
set_option maxRecDepth 20000 in
theorem gX10_close_1 : GoodIn vX10_close (wsV RX10 169 RX10 yX10_numberTrouble vX10_numberTrouble) := goodIn_app (goodIn_r [.methodLink RX10 169 yX10_numberTrouble, .instanceMethod yX10_numberTrouble, .selects RX10 yX10_numberTrouble yX10_numberTrouble, .initialized RX10] [5, 6, 7, 3] (by decide +kernel) (by decide +kernel)) (goodIn_ca (goodIn_ca (goodIn_r (.code yX10_numberTrouble cX10_numberTrouble 3 (some .int) :: [.methodLink RX10 216 yX10_pierTrouble, .instanceMethod yX10_pierTrouble, .selects RX10 yX10_pierTrouble yX10_pierTrouble, .initialized RX10, .code yX10_pierTrouble cX10_pierTrouble 1 (some .int), .fieldLink RX10 10 "HookPier" "plan" "LHookPier$Plan;", .fieldLink RX10 233 "HookPier$Plan" "spots" "I"]) [8, 9, 10, 11, 3, 12, 13, 14] (by decide +kernel) (by decide +kernel) : GoodIn vX10_close (.code yX10_numberTrouble cX10_numberTrouble 3 (some .int) :: [.methodLink RX10 216 yX10_pierTrouble, .instanceMethod yX10_pierTrouble, .selects RX10 yX10_pierTrouble yX10_pierTrouble, .initialized RX10, .code yX10_pierTrouble cX10_pierTrouble 1 (some .int), .fieldLink RX10 10 "HookPier" "plan" "LHookPier$Plan;", .fieldLink RX10 233 "HookPier$Plan" "spots" "I"])) (goodIn_sub iX10_close_X10 (by decide +kernel))) (goodIn_sub iX10_close_X6 (by decide +kernel)))
set_option maxRecDepth 20000 in
theorem gX10_close_2 : GoodIn vX10_close (wsV RX10 79 RX10 yX10_refused vX10_refused_3) := goodIn_app (goodIn_r [.methodLink RX10 79 yX10_refused, .instanceMethod yX10_refused, .selects RX10 yX10_refused yX10_refused, .initialized RX10] [15, 16, 17, 3] (by decide +kernel) (by decide +kernel)) (goodIn_ca (goodIn_r (.code yX10_refused cX10_refused 2 (some .boolean) :: [.fieldLink RX10 61 "HookPier" "troubleNow" "I"]) [18, 19] (by decide +kernel) (by decide +kernel) : GoodIn vX10_close (.code yX10_refused cX10_refused 2 (some .boolean) :: [.fieldLink RX10 61 "HookPier" "troubleNow" "I"])) (goodIn_sub iX10_close_X10 (by decide +kernel)))
set_option maxHeartbeats 1000000 in
set_option maxRecDepth 100000 in
theorem kX10_close (l : Launch) (dC : Nat → ClassId) (dI : Nat → Nat → Nat) (a0 : Nat) (k1 : Int32) (a2 : Nat) (g3 : Value) (g4 : Value) (g5 : Value) (g6 : Value) (g7 : Value) (g8 : Value) (g9 : Value) (g10 : Value) (g11 : Value) (g12 : Value) (g13 : Value) (g14 : Value) (g15 : Value) (g16 : Value) (g17 : Value) (g18 : Value) (g19 : Value) (g20 : Value) (g21 : Value) (g22 : Value) (g23 : Value) (g24 : Value) (g25 : Value) (g26 : Value) (g27 : Value) (g28 : Value) (sz : Nat) : Met l yX10_close vX10_close ({ frames := 2, cells := 0, slots := 0, locals := 42 }) (PC (dC, dI) [.ref a0, .int k1] sz [(a0, .inr (7, [.ref a2, g3, g4, g5, g6, g7, g8, g9, g10, g11])), (a2, .inr (4, [.int 0, g12, g13, g14, g15, g16, g17, g18, g19, g20, g21, g22, g23, g24, g25, g26, g27, g28]))] []) (va_Qi (S := Unit) (fun (r : Int32) _ => r = (-1)) (fun _ t => BC (dC, dI) (va_A [(a0, .inr (7, [.ref a2, g3, g4, g5, g6, g7, g8, g9, g10, g11])), (a2, .inr (4, [.int 0, g12, g13, g14, g15, g16, g17, g18, g19, g20, g21, g22, g23, g24, g25, g26, g27, g28]))] sz) [] [] t) (va_A [(a0, .inr (7, [.ref a2, g3, g4, g5, g6, g7, g8, g9, g10, g11])), (a2, .inr (4, [.int 0, g12, g13, g14, g15, g16, g17, g18, g19, g20, g21, g22, g23, g24, g25, g26, g27, g28]))] sz)) 0 0 (va_A [(a0, .inr (7, [.ref a2, g3, g4, g5, g6, g7, g8, g9, g10, g11])), (a2, .inr (4, [.int 0, g12, g13, g14, g15, g16, g17, g18, g19, g20, g21, g22, g23, g24, g25, g26, g27, g28]))] sz) := by
  refine Met.ofW (cc := cX10_close) (maxL := 2) (ret := (some .int)) (by decide) rfl ?_
  intro p e s m args below meth c s₁ B hml hv
  obtain ⟨rfl, hsz, hP, hK, hD0, hN⟩ := hv
  have hx := B.exec
  have hb := B.bytes
  have hr := B.returns
  have hts := atoms_spec (ws := vX10_close) B.pre
  have hown : s.vm.findClass RX10 = some m.cls := findClass_of_methodNamed B.named
  have hlocks := B.notSynchronized
  subst hsz
  have hD := hD0.self (sz := s.heap.size)
  generalize hAe : va_A [(a0, .inr (7, [.ref a2, g3, g4, g5, g6, g7, g8, g9, g10, g11])), (a2, .inr (4, [.int 0, g12, g13, g14, g15, g16, g17, g18, g19, g20, g21, g22, g23, g24, g25, g26, g27, g28]))] s.heap.size = A at hD ⊢
  have hA : ∀ q : Nat, s.heap.size ≤ q → A q := fun q h => by rw [← hAe]; exact Or.inr h
  have hS : va_S A s.heap s.heap [] := va_S.rf
  have hP : va_P (dC, dI) vwCl [(a0, .inr (7, [.ref a2, g3, g4, g5, g6, g7, g8, g9, g10, g11])), (a2, .inr (4, [.int 0, g12, g13, g14, g15, g16, g17, g18, g19, g20, g21, g22, g23, g24, g25, g26, g27, g28]))] s.heap := hP
  have hl := lv_entry ([.ref a0, .int k1]) (n := 2) (Nat.le_of_ble_eq_true rfl)
  rw [lg_entry_eq]
  generalize (lg_sl ([.ref a0, .int k1]) ++ List.replicate (2 - (lg_sl ([.ref a0, .int k1])).length) Slot.unset).toArray = ls at hl ⊢
  have hl : lv_has ls 2 [(0, .ref a0), (1, .int k1)] := hl
  refine lv_aload_n hx hb dX10_close_0 rfl (lv_at hl 0 rfl) ?_
  refine lv_aload_n hx hb dX10_close_1 rfl (lv_at hl 0 rfl) ?_
  refine lv_iload_n hx hb dX10_close_2 rfl (lv_at hl 1 rfl) ?_
  refine lv_iconst (v := 0) hx hb dX10_close_3 (by decide) ?_
  refine lv_sipush (v := 999) hx hb dX10_close_4 (by decide) ?_
  refine cl_i (wc := []) (wr := [(a0, .inr (7, [.ref a2, g3, g4, g5, g6, g7, g8, g9, g10, g11])), (a2, .inr (4, [.int 0, g12, g13, g14, g15, g16, g17, g18, g19, g20, g21, g22, g23, g24, g25, g26, g27, g28]))]) (va_runS (As := [.int k1, .int 0, .int 999]) (rest := [.ref a0, .ref a0]) ⟨hx, hb, hml, hown, hts⟩ (kX10_within_4 l dC dI k1 s.heap.size) (va_cwS 3 hts gX10_close_0 rfl rfl rfl (by decide +kernel) ⟨Nat.le_of_ble_eq_true rfl, Nat.le_of_ble_eq_true rfl⟩) (PS (hP.sub (ws' := []) [] rfl) (hK.sub (tys' := []) [] rfl) (hD.sub (ws' := []) [] (by decide) rfl) hN) rfl rfl hl.1 rfl (lv_room (Nat.le_of_ble_eq_true rfl)) dX10_close_7 ⟨Nat.le_of_ble_eq_true rfl, Nat.le_of_ble_eq_true rfl⟩) hP hD hK hS hA [] [0, 1] rfl rfl (by decide) (by decide) (fun z1 _u H locs hw hP hD hK hS => ?_)
  have hP : va_P (dC, dI) vwCl [(a0, .inr (7, [.ref a2, g3, g4, g5, g6, g7, g8, g9, g10, g11])), (a2, .inr (4, [.int 0, g12, g13, g14, g15, g16, g17, g18, g19, g20, g21, g22, g23, g24, g25, g26, g27, g28]))] H := hP
  have hD : va_D A [(a0, .inr (7, [.ref a2, g3, g4, g5, g6, g7, g8, g9, g10, g11])), (a2, .inr (4, [.int 0, g12, g13, g14, g15, g16, g17, g18, g19, g20, g21, g22, g23, g24, g25, g26, g27, g28]))] := hD
  have hK : va_K (dC, dI) vwCl [] s := hK
  refine cl_i (wc := [(a0, .inr (7, [.ref a2, g3, g4, g5, g6, g7, g8, g9, g10, g11])), (a2, .inr (4, [.int 0, g12, g13, g14, g15, g16, g17, g18, g19, g20, g21, g22, g23, g24, g25, g26, g27, g28]))]) (wr := []) (va_runV (As := [.int z1]) (rest := [.ref a0]) ⟨hx, hb, hml, hown, hts⟩ (kX10_numberTrouble l dC dI a0 z1 a2 (g3) (g4) (g5) (g6) (g7) (g8) (g9) (g10) (g11) (g12) (g13) (g14) (g15) (g16) (g17) (g18) (g19) (g20) (g21) (g22) (g23) (g24) (g25) (g26) (g27) (g28) H.size) (cwV 1 hts gX10_close_1 rfl rfl rfl (by decide +kernel) ⟨Nat.le_of_ble_eq_true rfl, Nat.le_of_ble_eq_true rfl⟩) (PV (hP.sub (ws' := [(a0, .inr (7, [.ref a2, g3, g4, g5, g6, g7, g8, g9, g10, g11])), (a2, .inr (4, [.int 0, g12, g13, g14, g15, g16, g17, g18, g19, g20, g21, g22, g23, g24, g25, g26, g27, g28]))]) [0, 1] rfl) (hK.sub (tys' := []) [] rfl) (hD.sub (ws' := [(a0, .inr (7, [.ref a2, g3, g4, g5, g6, g7, g8, g9, g10, g11])), (a2, .inr (4, [.int 0, g12, g13, g14, g15, g16, g17, g18, g19, g20, g21, g22, g23, g24, g25, g26, g27, g28]))]) [0, 1] (by decide) rfl) hN 0 rfl rfl) rfl rfl hl.1 rfl (lv_room (Nat.le_of_ble_eq_true rfl)) dX10_close_10 ⟨Nat.le_of_ble_eq_true rfl, Nat.le_of_ble_eq_true rfl⟩) hP hD hK hS hA [0, 1] [] rfl rfl (by decide) (by decide) (fun z2 _u H locs hw hP hD hK hS => ?_)
  have hP : va_P (dC, dI) vwCl [(a0, .inr (7, [.ref a2, g3, g4, g5, g6, g7, g8, g9, g10, g11])), (a2, .inr (4, [.int 0, g12, g13, g14, g15, g16, g17, g18, g19, g20, g21, g22, g23, g24, g25, g26, g27, g28]))] H := hP
  have hD : va_D A [(a0, .inr (7, [.ref a2, g3, g4, g5, g6, g7, g8, g9, g10, g11])), (a2, .inr (4, [.int 0, g12, g13, g14, g15, g16, g17, g18, g19, g20, g21, g22, g23, g24, g25, g26, g27, g28]))] := hD
  have hK : va_K (dC, dI) vwCl [] s := hK
  obtain rfl : z2 = 1 := hw
  refine cl_i (wc := [(a0, .inr (7, [.ref a2, g3, g4, g5, g6, g7, g8, g9, g10, g11]))]) (wr := [(a2, .inr (4, [.int 0, g12, g13, g14, g15, g16, g17, g18, g19, g20, g21, g22, g23, g24, g25, g26, g27, g28]))]) (va_runV (As := [.int 1]) (rest := []) ⟨hx, hb, hml, hown, hts⟩ (kX10_refused_3 l dC dI a0 (.ref a2) (g3) (g4) (g5) (g6) (g7) (g8) (g9) (g10) (g11) H.size) (cwV 1 hts gX10_close_2 rfl rfl rfl (by decide +kernel) ⟨Nat.le_of_ble_eq_true rfl, Nat.le_of_ble_eq_true rfl⟩) (PV (hP.sub (ws' := [(a0, .inr (7, [.ref a2, g3, g4, g5, g6, g7, g8, g9, g10, g11]))]) [0] rfl) (hK.sub (tys' := []) [] rfl) (hD.sub (ws' := [(a0, .inr (7, [.ref a2, g3, g4, g5, g6, g7, g8, g9, g10, g11]))]) [0] (by decide) rfl) hN 0 rfl rfl) rfl rfl hl.1 rfl (lv_room (Nat.le_of_ble_eq_true rfl)) dX10_close_13 ⟨Nat.le_of_ble_eq_true rfl, Nat.le_of_ble_eq_true rfl⟩) hP hD hK hS hA [0] [1] rfl rfl (by decide) (by decide) (fun z3 _u H locs hw hP hD hK hS => ?_)
  have hP : va_P (dC, dI) vwCl [(a2, .inr (4, [.int 0, g12, g13, g14, g15, g16, g17, g18, g19, g20, g21, g22, g23, g24, g25, g26, g27, g28])), (a0, .inr (7, [.ref a2, g3, g4, g5, g6, g7, g8, g9, .int 1, g11]))] H := hP
  have hD : va_D A [(a2, .inr (4, [.int 0, g12, g13, g14, g15, g16, g17, g18, g19, g20, g21, g22, g23, g24, g25, g26, g27, g28])), (a0, .inr (7, [.ref a2, g3, g4, g5, g6, g7, g8, g9, .int 1, g11]))] := hD
  have hK : va_K (dC, dI) vwCl [] s := hK
  obtain rfl : z3 = 1 := hw
  refine lv_if_eq (tgt := 21) hx hb dX10_close_16 (by decide) (fun c4 => absurd c4 (by decide)) (fun _ => ?_)
  refine lv_iconst (v := (-1)) hx hb dX10_close_19 (by decide) ?_
  have hP9 := hP.sub (ws' := []) [] rfl
  have hD9 := hD.sub (ws' := []) [] (by decide) rfl
  have hK9 := hK.sub (tys' := []) [] rfl
  exact W.iret (v := (-1)) hx hb hr (fun t ht hW => ⟨⟨(-1), (), rfl, rfl, by rw [ht]; exact hP9, va_K.moved hW.alike hK9, hD9⟩, hS.F ht⟩) hS.2.2 dX10_close_20
theorem dX12_close_0 : decode cX12_close 0 = .ok (.aload_n 0, 1) := by decide +kernel
theorem dX12_close_1 : decode cX12_close 1 = .ok (.iconst 0, 1) := by decide +kernel
theorem dX12_close_12 : decode cX12_close 12 = .ok (.aload_n 0, 1) := by decide +kernel
theorem dX12_close_13 : decode cX12_close 13 = .ok (.iconst 1, 1) := by decide +kernel
theorem dX12_close_14 : decode cX12_close 14 = .ok (.invokevirtual 42, 3) := by decide +kernel
theorem dX12_close_17 : decode cX12_close 17 = .ok (.ireturn, 1) := by decide +kernel
theorem dX12_close_2 : decode cX12_close 2 = .ok (.putfield 36, 3) := by decide +kernel
theorem dX12_close_5 : decode cX12_close 5 = .ok (.aload_n 0, 1) := by decide +kernel
theorem dX12_close_6 : decode cX12_close 6 = .ok (.getfield 299, 3) := by decide +kernel
theorem dX12_close_9 : decode cX12_close 9 = .ok (.ifnonnull 9, 3) := by decide +kernel
def vX12_close : List Cond := .code yX12_close cX12_close 2 (some .int) :: ([.fieldLink RX12 36 "HookPierModel" "thrown" "I", .fieldLink RX12 299 "HookPierModel" "pier" "LHookPierModel$Pier;", .methodLink RX12 42 yX12_refused, .instanceMethod yX12_refused, .selects RX12 yX12_refused yX12_refused, .initialized RX12, .code yX12_refused cX12_refused 2 (some .int), .fieldLink RX12 39 "HookPierModel" "trouble" "I", .fieldLink RX12 9 "HookPierModel" "where" "I"] ++ wsX120)
theorem iX12_close_X12 : ∀ w ∈ wsX120, w ∈ vX12_close := fun _ h => List.mem_cons_of_mem _ (List.mem_append_right _ h)
set_option maxRecDepth 20000 in
theorem gX12_close_0 : GoodIn vX12_close (wsV RX12 42 RX12 yX12_refused vX12_refused_1) := goodIn_app (goodIn_r [.methodLink RX12 42 yX12_refused, .instanceMethod yX12_refused, .selects RX12 yX12_refused yX12_refused, .initialized RX12] [3, 4, 5, 6] (by decide +kernel) (by decide +kernel)) (goodIn_ca (goodIn_r (.code yX12_refused cX12_refused 2 (some .int) :: [.fieldLink RX12 39 "HookPierModel" "trouble" "I", .fieldLink RX12 9 "HookPierModel" "where" "I"]) [7, 8, 9] (by decide +kernel) (by decide +kernel) : GoodIn vX12_close (.code yX12_refused cX12_refused 2 (some .int) :: [.fieldLink RX12 39 "HookPierModel" "trouble" "I", .fieldLink RX12 9 "HookPierModel" "where" "I"])) (goodIn_sub iX12_close_X12 (by decide +kernel)))
set_option maxHeartbeats 1000000 in
set_option maxRecDepth 100000 in
theorem kX12_close (l : Launch) (dC : Nat → ClassId) (dI : Nat → Nat → Nat) (a0 : Nat) (k1 : Int32) (g2 : Value) (g3 : Value) (g4 : Value) (g5 : Value) (g6 : Value) (g7 : Value) (g8 : Value) (g9 : Value) (g10 : Value) (g11 : Value) (g12 : Value) (g13 : Value) (g14 : Value) (g15 : Value) (g16 : Value) (g17 : Value) (g18 : Value) (g19 : Value) (g20 : Value) (g21 : Value) (g22 : Value) (g23 : Value) (g24 : Value) (g25 : Value) (g26 : Value) (g27 : Value) (g28 : Value) (g29 : Value) (g30 : Value) (sz : Nat) : Met l yX12_close vX12_close ({ frames := 1, cells := 0, slots := 0, locals := 21 }) (PC (dC, dI) [.ref a0, .int k1] sz [(a0, .inr (9, [g2, g3, g4, .null, g5, g6, g7, g8, g9, g10, g11, g12, g13, g14, g15, g16, g17, g18, g19, g20, g21, g22, g23, g24, g25, g26, g27, g28, g29, g30]))] []) (va_Qi (S := Unit) (fun (r : Int32) _ => r = (-1)) (fun _ t => BC (dC, dI) (va_A [(a0, .inr (9, [g2, g3, g4, .null, g5, g6, g7, g8, g9, g10, g11, g12, g13, g14, g15, g16, g17, g18, g19, g20, g21, g22, g23, g24, g25, g26, g27, g28, g29, g30]))] sz) [] [] t) (va_A [(a0, .inr (9, [g2, g3, g4, .null, g5, g6, g7, g8, g9, g10, g11, g12, g13, g14, g15, g16, g17, g18, g19, g20, g21, g22, g23, g24, g25, g26, g27, g28, g29, g30]))] sz)) 0 0 (va_A [(a0, .inr (9, [g2, g3, g4, .null, g5, g6, g7, g8, g9, g10, g11, g12, g13, g14, g15, g16, g17, g18, g19, g20, g21, g22, g23, g24, g25, g26, g27, g28, g29, g30]))] sz) := by
  refine Met.ofW (cc := cX12_close) (maxL := 2) (ret := (some .int)) (by decide) rfl ?_
  intro p e s m args below meth c s₁ B hml hv
  obtain ⟨rfl, hsz, hP, hK, hD0, hN⟩ := hv
  have hx := B.exec
  have hb := B.bytes
  have hr := B.returns
  have hts := atoms_spec (ws := vX12_close) B.pre
  have hown : s.vm.findClass RX12 = some m.cls := findClass_of_methodNamed B.named
  have hlocks := B.notSynchronized
  subst hsz
  have hD := hD0.self (sz := s.heap.size)
  generalize hAe : va_A [(a0, .inr (9, [g2, g3, g4, .null, g5, g6, g7, g8, g9, g10, g11, g12, g13, g14, g15, g16, g17, g18, g19, g20, g21, g22, g23, g24, g25, g26, g27, g28, g29, g30]))] s.heap.size = A at hD ⊢
  have hA : ∀ q : Nat, s.heap.size ≤ q → A q := fun q h => by rw [← hAe]; exact Or.inr h
  have hS : va_S A s.heap s.heap [] := va_S.rf
  have hP : va_P (dC, dI) vwCl [(a0, .inr (9, [g2, g3, g4, .null, g5, g6, g7, g8, g9, g10, g11, g12, g13, g14, g15, g16, g17, g18, g19, g20, g21, g22, g23, g24, g25, g26, g27, g28, g29, g30]))] s.heap := hP
  have hl := lv_entry ([.ref a0, .int k1]) (n := 2) (Nat.le_of_ble_eq_true rfl)
  rw [lg_entry_eq]
  generalize (lg_sl ([.ref a0, .int k1]) ++ List.replicate (2 - (lg_sl ([.ref a0, .int k1])).length) Slot.unset).toArray = ls at hl ⊢
  have hl : lv_has ls 2 [(0, .ref a0), (1, .int k1)] := hl
  refine lv_aload_n hx hb dX12_close_0 rfl (lv_at hl 0 rfl) ?_
  refine lv_iconst (v := 0) hx hb dX12_close_1 (by decide) ?_
  refine va_put (D := (dC, dI)) (ci := 9) (v := .int 0) (ty := .int) (C := RX12) (T := TX12) (N := 30) hx hb hts iX12_close_X12 tyX12 tyX12_ok nmX12 hown hK hP hD hS 0 rfl rfl 0 (by decide) (hts (.fieldLink RX12 36 "HookPierModel" "thrown" "I") (List.mem_of_getElem? (i := 1) rfl)) (fun _ h9 => h9) rfl (by decide +kernel) rfl rfl (Nat.le_of_ble_eq_true rfl) dX12_close_2 (fun H locs hP hD hS => ?_)
  have hP : va_P (dC, dI) vwCl [(a0, .inr (9, [.int 0, g3, g4, .null, g5, g6, g7, g8, g9, g10, g11, g12, g13, g14, g15, g16, g17, g18, g19, g20, g21, g22, g23, g24, g25, g26, g27, g28, g29, g30]))] H := hP
  have hD : va_D A [(a0, .inr (9, [.int 0, g3, g4, .null, g5, g6, g7, g8, g9, g10, g11, g12, g13, g14, g15, g16, g17, g18, g19, g20, g21, g22, g23, g24, g25, g26, g27, g28, g29, g30]))] := hD
  refine lv_aload_n hx hb dX12_close_5 rfl (lv_at hl 0 rfl) ?_
  refine va_get (D := (dC, dI)) (ci := 9) (v := .null) (C := RX12) (T := TX12) (N := 30) hx hb hts iX12_close_X12 hown hK hP 0 rfl rfl 3 (by decide) (hts (.fieldLink RX12 299 "HookPierModel" "pier" "LHookPierModel$Pier;") (List.mem_of_getElem? (i := 2) rfl)) (fun _ h9 => h9) rfl dX12_close_6 ?_
  refine lv_ifnonnullN hx hb dX12_close_9 ?_
  refine lv_aload_n hx hb dX12_close_12 rfl (lv_at hl 0 rfl) ?_
  refine lv_iconst (v := 1) hx hb dX12_close_13 (by decide) ?_
  refine cl_i (wc := [(a0, .inr (9, [.int 0, g3, g4, .null, g5, g6, g7, g8, g9, g10, g11, g12, g13, g14, g15, g16, g17, g18, g19, g20, g21, g22, g23, g24, g25, g26, g27, g28, g29, g30]))]) (wr := []) (va_runV (As := [.int 1]) (rest := []) ⟨hx, hb, hml, hown, hts⟩ (kX12_refused_1 l dC dI a0 (.int 0) (g3) (g4) (.null) (g5) (g6) (g7) (g8) (g9) (g10) (g11) (g12) (g13) (g14) (g15) (g16) (g17) (g18) (g19) (g20) (g21) (g22) (g23) (g24) (g25) (g26) (g27) (g28) (g29) (g30) H.size) (cwV 1 hts gX12_close_0 rfl rfl rfl (by decide +kernel) ⟨Nat.le_of_ble_eq_true rfl, Nat.le_of_ble_eq_true rfl⟩) (PV (hP.sub (ws' := [(a0, .inr (9, [.int 0, g3, g4, .null, g5, g6, g7, g8, g9, g10, g11, g12, g13, g14, g15, g16, g17, g18, g19, g20, g21, g22, g23, g24, g25, g26, g27, g28, g29, g30]))]) [0] rfl) (hK.sub (tys' := []) [] rfl) (hD.sub (ws' := [(a0, .inr (9, [.int 0, g3, g4, .null, g5, g6, g7, g8, g9, g10, g11, g12, g13, g14, g15, g16, g17, g18, g19, g20, g21, g22, g23, g24, g25, g26, g27, g28, g29, g30]))]) [0] (by decide) rfl) hN 0 rfl rfl) rfl rfl hl.1 rfl (lv_room (Nat.le_of_ble_eq_true rfl)) dX12_close_14 ⟨Nat.le_of_ble_eq_true rfl, Nat.le_of_ble_eq_true rfl⟩) hP hD hK hS hA [0] [] rfl rfl (by decide) (by decide) (fun z1 _u H locs hw hP hD hK hS => ?_)
  have hP : va_P (dC, dI) vwCl [(a0, .inr (9, [.int 0, .int 1, .int (-1), .null, g5, g6, g7, g8, g9, g10, g11, g12, g13, g14, g15, g16, g17, g18, g19, g20, g21, g22, g23, g24, g25, g26, g27, g28, g29, g30]))] H := hP
  have hD : va_D A [(a0, .inr (9, [.int 0, .int 1, .int (-1), .null, g5, g6, g7, g8, g9, g10, g11, g12, g13, g14, g15, g16, g17, g18, g19, g20, g21, g22, g23, g24, g25, g26, g27, g28, g29, g30]))] := hD
  have hK : va_K (dC, dI) vwCl [] s := hK
  obtain rfl : z1 = (-1) := hw
  have hP9 := hP.sub (ws' := []) [] rfl
  have hD9 := hD.sub (ws' := []) [] (by decide) rfl
  have hK9 := hK.sub (tys' := []) [] rfl
  exact W.iret (v := (-1)) hx hb hr (fun t ht hW => ⟨⟨(-1), (), rfl, rfl, by rw [ht]; exact hP9, va_K.moved hW.alike hK9, hD9⟩, hS.F ht⟩) hS.2.2 dX12_close_17
theorem dX10_wishTrouble_0 : decode cX10_wishTrouble 0 = .ok (.aload_n 0, 1) := by decide +kernel
theorem dX10_wishTrouble_1 : decode cX10_wishTrouble 1 = .ok (.iload_n 1, 1) := by decide +kernel
theorem dX10_wishTrouble_2 : decode cX10_wishTrouble 2 = .ok (.invokevirtual 102, 3) := by decide +kernel
theorem dX10_wishTrouble_23 : decode cX10_wishTrouble 23 = .ok (.iload 5, 2) := by decide +kernel
theorem dX10_wishTrouble_25 : decode cX10_wishTrouble 25 = .ok (.ireturn, 1) := by decide +kernel
theorem dX10_wishTrouble_5 : decode cX10_wishTrouble 5 = .ok (.istore 5, 2) := by decide +kernel
theorem dX10_wishTrouble_7 : decode cX10_wishTrouble 7 = .ok (.iload 5, 2) := by decide +kernel
theorem dX10_wishTrouble_9 : decode cX10_wishTrouble 9 = .ok (.ifCond .ne 14, 3) := by decide +kernel
def vX10_wishTrouble : List Cond := .code yX10_wishTrouble cX10_wishTrouble 6 (some .int) :: ([.methodLink RX10 102 yX10_answerTrouble, .instanceMethod yX10_answerTrouble, .selects RX10 yX10_answerTrouble yX10_answerTrouble, .initialized RX10, .code yX10_answerTrouble cX10_answerTrouble 2 (some .int), .fieldLink RX10 10 "HookPier" "plan" "LHookPier$Plan;", .methodLink RX10 381 yX6_hasAnswer, .instanceMethod yX6_hasAnswer, .selects RX6 yX6_hasAnswer yX6_hasAnswer, .initialized RX6, .code yX6_hasAnswer cX6_hasAnswer 2 (some .boolean), .fieldLink RX6 30 "HookPier$Plan" "answers" "I", .code yX10_within cX10_within 3 (some .boolean), .static yX10_within] ++ wsX100 ++ wsX60)
theorem iX10_wishTrouble_X10 : ∀ w ∈ wsX100, w ∈ vX10_wishTrouble := fun _ h => List.mem_cons_of_mem _ (List.mem_append_left _ (List.mem_append_right _ h))
theorem iX10_wishTrouble_X6 : ∀ w ∈ wsX60, w ∈ vX10_wishTrouble := fun _ h => List.mem_cons_of_mem _ (List.mem_append_right _ h)
set_option maxRecDepth 20000 in
theorem gX10_wishTrouble_0 : GoodIn vX10_wishTrouble (wsV RX10 102 RX10 yX10_answerTrouble vX10_answerTrouble) := goodIn_app (goodIn_r [.methodLink RX10 102 yX10_answerTrouble, .instanceMethod yX10_answerTrouble, .selects RX10 yX10_answerTrouble yX10_answerTrouble, .initialized RX10] [1, 2, 3, 4] (by decide +kernel) (by decide +kernel)) (goodIn_ca (goodIn_ca (goodIn_r (.code yX10_answerTrouble cX10_answerTrouble 2 (some .int) :: [.fieldLink RX10 10 "HookPier" "plan" "LHookPier$Plan;", .methodLink RX10 381 yX6_hasAnswer, .instanceMethod yX6_hasAnswer, .selects RX6 yX6_hasAnswer yX6_hasAnswer, .initialized RX6, .code yX6_hasAnswer cX6_hasAnswer 2 (some .boolean), .fieldLink RX6 30 "HookPier$Plan" "answers" "I", .code yX10_within cX10_within 3 (some .boolean), .initialized RX10, .static yX10_within]) [5, 6, 7, 8, 9, 10, 11, 12, 13, 4, 14] (by decide +kernel) (by decide +kernel) : GoodIn vX10_wishTrouble (.code yX10_answerTrouble cX10_answerTrouble 2 (some .int) :: [.fieldLink RX10 10 "HookPier" "plan" "LHookPier$Plan;", .methodLink RX10 381 yX6_hasAnswer, .instanceMethod yX6_hasAnswer, .selects RX6 yX6_hasAnswer yX6_hasAnswer, .initialized RX6, .code yX6_hasAnswer cX6_hasAnswer 2 (some .boolean), .fieldLink RX6 30 "HookPier$Plan" "answers" "I", .code yX10_within cX10_within 3 (some .boolean), .initialized RX10, .static yX10_within])) (goodIn_sub iX10_wishTrouble_X10 (by decide +kernel))) (goodIn_sub iX10_wishTrouble_X6 (by decide +kernel)))
set_option maxHeartbeats 1000000 in
set_option maxRecDepth 100000 in
theorem kX10_wishTrouble (l : Launch) (dC : Nat → ClassId) (dI : Nat → Nat → Nat) (a0 : Nat) (k1 : Int32) (k2 : Int32) (k3 : Int32) (k4 : Int32) (a5 : Nat) (g6 : Value) (g7 : Value) (g8 : Value) (g9 : Value) (g10 : Value) (g11 : Value) (g12 : Value) (g13 : Value) (g14 : Value) (g15 : Value) (g16 : Value) (g17 : Value) (g18 : Value) (g19 : Value) (g20 : Value) (g21 : Value) (g22 : Value) (g23 : Value) (g24 : Value) (g25 : Value) (g26 : Value) (g27 : Value) (g28 : Value) (g29 : Value) (g30 : Value) (g31 : Value) (sz : Nat) : Met l yX10_wishTrouble vX10_wishTrouble ({ frames := 3, cells := 0, slots := 0, locals := 64 }) (PC (dC, dI) [.ref a0, .int k1, .int k2, .int k3, .int k4] sz [(a0, .inr (7, [.ref a5, g6, g7, g8, g9, g10, g11, g12, g13, g14])), (a5, .inr (4, [g15, g16, g17, g18, g19, g20, .int 0, g21, g22, g23, g24, g25, g26, g27, g28, g29, g30, g31]))] []) (va_Qi (S := Unit) (fun (r : Int32) _ => r = 1) (fun _ t => BC (dC, dI) (va_A [(a0, .inr (7, [.ref a5, g6, g7, g8, g9, g10, g11, g12, g13, g14])), (a5, .inr (4, [g15, g16, g17, g18, g19, g20, .int 0, g21, g22, g23, g24, g25, g26, g27, g28, g29, g30, g31]))] sz) [(a0, .inr (7, [.ref a5, g6, g7, g8, g9, g10, g11, g12, g13, g14])), (a5, .inr (4, [g15, g16, g17, g18, g19, g20, .int 0, g21, g22, g23, g24, g25, g26, g27, g28, g29, g30, g31]))] [] t) (va_A [(a0, .inr (7, [.ref a5, g6, g7, g8, g9, g10, g11, g12, g13, g14])), (a5, .inr (4, [g15, g16, g17, g18, g19, g20, .int 0, g21, g22, g23, g24, g25, g26, g27, g28, g29, g30, g31]))] sz)) 0 0 (va_A [(a0, .inr (7, [.ref a5, g6, g7, g8, g9, g10, g11, g12, g13, g14])), (a5, .inr (4, [g15, g16, g17, g18, g19, g20, .int 0, g21, g22, g23, g24, g25, g26, g27, g28, g29, g30, g31]))] sz) := by
  refine Met.ofW (cc := cX10_wishTrouble) (maxL := 6) (ret := (some .int)) (by decide) rfl ?_
  intro p e s m args below meth c s₁ B hml hv
  obtain ⟨rfl, hsz, hP, hK, hD0, hN⟩ := hv
  have hx := B.exec
  have hb := B.bytes
  have hr := B.returns
  have hts := atoms_spec (ws := vX10_wishTrouble) B.pre
  have hown : s.vm.findClass RX10 = some m.cls := findClass_of_methodNamed B.named
  have hlocks := B.notSynchronized
  subst hsz
  have hD := hD0.self (sz := s.heap.size)
  generalize hAe : va_A [(a0, .inr (7, [.ref a5, g6, g7, g8, g9, g10, g11, g12, g13, g14])), (a5, .inr (4, [g15, g16, g17, g18, g19, g20, .int 0, g21, g22, g23, g24, g25, g26, g27, g28, g29, g30, g31]))] s.heap.size = A at hD ⊢
  have hA : ∀ q : Nat, s.heap.size ≤ q → A q := fun q h => by rw [← hAe]; exact Or.inr h
  have hS : va_S A s.heap s.heap [] := va_S.rf
  have hP : va_P (dC, dI) vwCl [(a0, .inr (7, [.ref a5, g6, g7, g8, g9, g10, g11, g12, g13, g14])), (a5, .inr (4, [g15, g16, g17, g18, g19, g20, .int 0, g21, g22, g23, g24, g25, g26, g27, g28, g29, g30, g31]))] s.heap := hP
  have hl := lv_entry ([.ref a0, .int k1, .int k2, .int k3, .int k4]) (n := 6) (Nat.le_of_ble_eq_true rfl)
  rw [lg_entry_eq]
  generalize (lg_sl ([.ref a0, .int k1, .int k2, .int k3, .int k4]) ++ List.replicate (6 - (lg_sl ([.ref a0, .int k1, .int k2, .int k3, .int k4])).length) Slot.unset).toArray = ls at hl ⊢
  have hl : lv_has ls 6 [(0, .ref a0), (1, .int k1), (2, .int k2), (3, .int k3), (4, .int k4)] := hl
  refine lv_aload_n hx hb dX10_wishTrouble_0 rfl (lv_at hl 0 rfl) ?_
  refine lv_iload_n hx hb dX10_wishTrouble_1 rfl (lv_at hl 1 rfl) ?_
  refine cl_i (wc := [(a0, .inr (7, [.ref a5, g6, g7, g8, g9, g10, g11, g12, g13, g14])), (a5, .inr (4, [g15, g16, g17, g18, g19, g20, .int 0, g21, g22, g23, g24, g25, g26, g27, g28, g29, g30, g31]))]) (wr := []) (va_runV (As := [.int k1]) (rest := []) ⟨hx, hb, hml, hown, hts⟩ (kX10_answerTrouble l dC dI a0 k1 a5 (g6) (g7) (g8) (g9) (g10) (g11) (g12) (g13) (g14) (g15) (g16) (g17) (g18) (g19) (g20) (g21) (g22) (g23) (g24) (g25) (g26) (g27) (g28) (g29) (g30) (g31) s.heap.size) (cwV 1 hts gX10_wishTrouble_0 rfl rfl rfl (by decide +kernel) ⟨Nat.le_of_ble_eq_true rfl, Nat.le_of_ble_eq_true rfl⟩) (PV (hP.sub (ws' := [(a0, .inr (7, [.ref a5, g6, g7, g8, g9, g10, g11, g12, g13, g14])), (a5, .inr (4, [g15, g16, g17, g18, g19, g20, .int 0, g21, g22, g23, g24, g25, g26, g27, g28, g29, g30, g31]))]) [0, 1] rfl) (hK.sub (tys' := []) [] rfl) (hD.sub (ws' := [(a0, .inr (7, [.ref a5, g6, g7, g8, g9, g10, g11, g12, g13, g14])), (a5, .inr (4, [g15, g16, g17, g18, g19, g20, .int 0, g21, g22, g23, g24, g25, g26, g27, g28, g29, g30, g31]))]) [0, 1] (by decide) rfl) hN 0 rfl rfl) rfl rfl hl.1 rfl (lv_room (Nat.le_of_ble_eq_true rfl)) dX10_wishTrouble_2 ⟨Nat.le_of_ble_eq_true rfl, Nat.le_of_ble_eq_true rfl⟩) hP hD hK hS hA [0, 1] [] rfl rfl (by decide) (by decide) (fun z1 _u H locs hw hP hD hK hS => ?_)
  have hP : va_P (dC, dI) vwCl [(a0, .inr (7, [.ref a5, g6, g7, g8, g9, g10, g11, g12, g13, g14])), (a5, .inr (4, [g15, g16, g17, g18, g19, g20, .int 0, g21, g22, g23, g24, g25, g26, g27, g28, g29, g30, g31]))] H := hP
  have hD : va_D A [(a0, .inr (7, [.ref a5, g6, g7, g8, g9, g10, g11, g12, g13, g14])), (a5, .inr (4, [g15, g16, g17, g18, g19, g20, .int 0, g21, g22, g23, g24, g25, g26, g27, g28, g29, g30, g31]))] := hD
  have hK : va_K (dC, dI) vwCl [] s := hK
  obtain rfl : z1 = 1 := hw
  refine lv_istore (lv' := [(5, .int 1), (0, .ref a0), (1, .int k1), (2, .int k2), (3, .int k3), (4, .int k4)]) hx hb dX10_wishTrouble_5 hl (by decide) rfl (fun ls hl => ?_)
  refine lv_iload hx hb dX10_wishTrouble_7 (lv_at hl 0 rfl) ?_
  refine lv_if_ne (tgt := 23) hx hb dX10_wishTrouble_9 (by decide) (fun _ => ?_) (fun c2 => absurd c2 (by decide))
  refine lv_iload hx hb dX10_wishTrouble_23 (lv_at hl 0 rfl) ?_
  have hP9 := hP.sub (ws' := [(a0, .inr (7, [.ref a5, g6, g7, g8, g9, g10, g11, g12, g13, g14])), (a5, .inr (4, [g15, g16, g17, g18, g19, g20, .int 0, g21, g22, g23, g24, g25, g26, g27, g28, g29, g30, g31]))]) [0, 1] rfl
  have hD9 := hD.sub (ws' := [(a0, .inr (7, [.ref a5, g6, g7, g8, g9, g10, g11, g12, g13, g14])), (a5, .inr (4, [g15, g16, g17, g18, g19, g20, .int 0, g21, g22, g23, g24, g25, g26, g27, g28, g29, g30, g31]))]) [0, 1] (by decide) rfl
  have hK9 := hK.sub (tys' := []) [] rfl
  exact W.iret (v := 1) hx hb hr (fun t ht hW => ⟨⟨1, (), rfl, rfl, by rw [ht]; exact hP9, va_K.moved hW.alike hK9, hD9⟩, hS.F ht⟩) hS.2.2 dX10_wishTrouble_25
theorem dX10_wish_0 : decode cX10_wish 0 = .ok (.aload_n 0, 1) := by decide +kernel
theorem dX10_wish_1 : decode cX10_wish 1 = .ok (.aload_n 0, 1) := by decide +kernel
theorem dX10_wish_10 : decode cX10_wish 10 = .ok (.invokevirtual 79, 3) := by decide +kernel
theorem dX10_wish_13 : decode cX10_wish 13 = .ok (.ifCond .eq 5, 3) := by decide +kernel
theorem dX10_wish_16 : decode cX10_wish 16 = .ok (.iconst (-1), 1) := by decide +kernel
theorem dX10_wish_17 : decode cX10_wish 17 = .ok (.ireturn, 1) := by decide +kernel
theorem dX10_wish_2 : decode cX10_wish 2 = .ok (.iload_n 1, 1) := by decide +kernel
theorem dX10_wish_3 : decode cX10_wish 3 = .ok (.iload_n 2, 1) := by decide +kernel
theorem dX10_wish_4 : decode cX10_wish 4 = .ok (.iload_n 3, 1) := by decide +kernel
theorem dX10_wish_5 : decode cX10_wish 5 = .ok (.iload 4, 2) := by decide +kernel
theorem dX10_wish_7 : decode cX10_wish 7 = .ok (.invokevirtual 176, 3) := by decide +kernel
def vX10_wish : List Cond := .code yX10_wish cX10_wish 5 (some .int) :: ([.methodLink RX10 176 yX10_wishTrouble, .instanceMethod yX10_wishTrouble, .selects RX10 yX10_wishTrouble yX10_wishTrouble, .initialized RX10, .code yX10_wishTrouble cX10_wishTrouble 6 (some .int), .methodLink RX10 102 yX10_answerTrouble, .instanceMethod yX10_answerTrouble, .selects RX10 yX10_answerTrouble yX10_answerTrouble, .code yX10_answerTrouble cX10_answerTrouble 2 (some .int), .fieldLink RX10 10 "HookPier" "plan" "LHookPier$Plan;", .methodLink RX10 381 yX6_hasAnswer, .instanceMethod yX6_hasAnswer, .selects RX6 yX6_hasAnswer yX6_hasAnswer, .initialized RX6, .code yX6_hasAnswer cX6_hasAnswer 2 (some .boolean), .fieldLink RX6 30 "HookPier$Plan" "answers" "I", .code yX10_within cX10_within 3 (some .boolean), .static yX10_within, .methodLink RX10 79 yX10_refused, .instanceMethod yX10_refused, .selects RX10 yX10_refused yX10_refused, .code yX10_refused cX10_refused 2 (some .boolean), .fieldLink RX10 61 "HookPier" "troubleNow" "I"] ++ wsX100 ++ wsX60)
theorem iX10_wish_X10 : ∀ w ∈ wsX100, w ∈ vX10_wish := fun _ h => List.mem_cons_of_mem _ (List.mem_append_left _ (List.mem_append_right _ h))
theorem iX10_wish_X6 : ∀ w ∈ wsX60, w ∈ vX10_wish := fun _ h => List.mem_cons_of_mem _ (List.mem_append_right _ h)
set_option maxRecDepth 20000 in
theorem gX10_wish_0 : GoodIn vX10_wish (wsV RX10 176 RX10 yX10_wishTrouble vX10_wishTrouble) := goodIn_app (goodIn_r [.methodLink RX10 176 yX10_wishTrouble, .instanceMethod yX10_wishTrouble, .selects RX10 yX10_wishTrouble yX10_wishTrouble, .initialized RX10] [1, 2, 3, 4] (by decide +kernel) (by decide +kernel)) (goodIn_ca (goodIn_ca (goodIn_r (.code yX10_wishTrouble cX10_wishTrouble 6 (some .int) :: [.methodLink RX10 102 yX10_answerTrouble, .instanceMethod yX10_answerTrouble, .selects RX10 yX10_answerTrouble yX10_answerTrouble, .initialized RX10, .code yX10_answerTrouble cX10_answerTrouble 2 (some .int), .fieldLink RX10 10 "HookPier" "plan" "LHookPier$Plan;", .methodLink RX10 381 yX6_hasAnswer, .instanceMethod yX6_hasAnswer, .selects RX6 yX6_hasAnswer yX6_hasAnswer, .initialized RX6, .code yX6_hasAnswer cX6_hasAnswer 2 (some .boolean), .fieldLink RX6 30 "HookPier$Plan" "answers" "I", .code yX10_within cX10_within 3 (some .boolean), .static yX10_within]) [5, 6, 7, 8, 4, 9, 10, 11, 12, 13, 14, 15, 16, 17, 18] (by decide +kernel) (by decide +kernel) : GoodIn vX10_wish (.code yX10_wishTrouble cX10_wishTrouble 6 (some .int) :: [.methodLink RX10 102 yX10_answerTrouble, .instanceMethod yX10_answerTrouble, .selects RX10 yX10_answerTrouble yX10_answerTrouble, .initialized RX10, .code yX10_answerTrouble cX10_answerTrouble 2 (some .int), .fieldLink RX10 10 "HookPier" "plan" "LHookPier$Plan;", .methodLink RX10 381 yX6_hasAnswer, .instanceMethod yX6_hasAnswer, .selects RX6 yX6_hasAnswer yX6_hasAnswer, .initialized RX6, .code yX6_hasAnswer cX6_hasAnswer 2 (some .boolean), .fieldLink RX6 30 "HookPier$Plan" "answers" "I", .code yX10_within cX10_within 3 (some .boolean), .static yX10_within])) (goodIn_sub iX10_wish_X10 (by decide +kernel))) (goodIn_sub iX10_wish_X6 (by decide +kernel)))
set_option maxRecDepth 20000 in
theorem gX10_wish_1 : GoodIn vX10_wish (wsV RX10 79 RX10 yX10_refused vX10_refused_3) := goodIn_app (goodIn_r [.methodLink RX10 79 yX10_refused, .instanceMethod yX10_refused, .selects RX10 yX10_refused yX10_refused, .initialized RX10] [19, 20, 21, 4] (by decide +kernel) (by decide +kernel)) (goodIn_ca (goodIn_r (.code yX10_refused cX10_refused 2 (some .boolean) :: [.fieldLink RX10 61 "HookPier" "troubleNow" "I"]) [22, 23] (by decide +kernel) (by decide +kernel) : GoodIn vX10_wish (.code yX10_refused cX10_refused 2 (some .boolean) :: [.fieldLink RX10 61 "HookPier" "troubleNow" "I"])) (goodIn_sub iX10_wish_X10 (by decide +kernel)))
set_option maxHeartbeats 1000000 in
set_option maxRecDepth 100000 in
theorem kX10_wish (l : Launch) (dC : Nat → ClassId) (dI : Nat → Nat → Nat) (a0 : Nat) (k1 : Int32) (k2 : Int32) (k3 : Int32) (k4 : Int32) (a5 : Nat) (g6 : Value) (g7 : Value) (g8 : Value) (g9 : Value) (g10 : Value) (g11 : Value) (g12 : Value) (g13 : Value) (g14 : Value) (g15 : Value) (g16 : Value) (g17 : Value) (g18 : Value) (g19 : Value) (g20 : Value) (g21 : Value) (g22 : Value) (g23 : Value) (g24 : Value) (g25 : Value) (g26 : Value) (g27 : Value) (g28 : Value) (g29 : Value) (g30 : Value) (g31 : Value) (sz : Nat) : Met l yX10_wish vX10_wish ({ frames := 4, cells := 0, slots := 0, locals := 89 }) (PC (dC, dI) [.ref a0, .int k1, .int k2, .int k3, .int k4] sz [(a0, .inr (7, [.ref a5, g6, g7, g8, g9, g10, g11, g12, g13, g14])), (a5, .inr (4, [g15, g16, g17, g18, g19, g20, .int 0, g21, g22, g23, g24, g25, g26, g27, g28, g29, g30, g31]))] []) (va_Qi (S := Unit) (fun (r : Int32) _ => r = (-1)) (fun _ t => BC (dC, dI) (va_A [(a0, .inr (7, [.ref a5, g6, g7, g8, g9, g10, g11, g12, g13, g14])), (a5, .inr (4, [g15, g16, g17, g18, g19, g20, .int 0, g21, g22, g23, g24, g25, g26, g27, g28, g29, g30, g31]))] sz) [] [] t) (va_A [(a0, .inr (7, [.ref a5, g6, g7, g8, g9, g10, g11, g12, g13, g14])), (a5, .inr (4, [g15, g16, g17, g18, g19, g20, .int 0, g21, g22, g23, g24, g25, g26, g27, g28, g29, g30, g31]))] sz)) 0 0 (va_A [(a0, .inr (7, [.ref a5, g6, g7, g8, g9, g10, g11, g12, g13, g14])), (a5, .inr (4, [g15, g16, g17, g18, g19, g20, .int 0, g21, g22, g23, g24, g25, g26, g27, g28, g29, g30, g31]))] sz) := by
  refine Met.ofW (cc := cX10_wish) (maxL := 5) (ret := (some .int)) (by decide) rfl ?_
  intro p e s m args below meth c s₁ B hml hv
  obtain ⟨rfl, hsz, hP, hK, hD0, hN⟩ := hv
  have hx := B.exec
  have hb := B.bytes
  have hr := B.returns
  have hts := atoms_spec (ws := vX10_wish) B.pre
  have hown : s.vm.findClass RX10 = some m.cls := findClass_of_methodNamed B.named
  have hlocks := B.notSynchronized
  subst hsz
  have hD := hD0.self (sz := s.heap.size)
  generalize hAe : va_A [(a0, .inr (7, [.ref a5, g6, g7, g8, g9, g10, g11, g12, g13, g14])), (a5, .inr (4, [g15, g16, g17, g18, g19, g20, .int 0, g21, g22, g23, g24, g25, g26, g27, g28, g29, g30, g31]))] s.heap.size = A at hD ⊢
  have hA : ∀ q : Nat, s.heap.size ≤ q → A q := fun q h => by rw [← hAe]; exact Or.inr h
  have hS : va_S A s.heap s.heap [] := va_S.rf
  have hP : va_P (dC, dI) vwCl [(a0, .inr (7, [.ref a5, g6, g7, g8, g9, g10, g11, g12, g13, g14])), (a5, .inr (4, [g15, g16, g17, g18, g19, g20, .int 0, g21, g22, g23, g24, g25, g26, g27, g28, g29, g30, g31]))] s.heap := hP
  have hl := lv_entry ([.ref a0, .int k1, .int k2, .int k3, .int k4]) (n := 5) (Nat.le_of_ble_eq_true rfl)
  rw [lg_entry_eq]
  generalize (lg_sl ([.ref a0, .int k1, .int k2, .int k3, .int k4]) ++ List.replicate (5 - (lg_sl ([.ref a0, .int k1, .int k2, .int k3, .int k4])).length) Slot.unset).toArray = ls at hl ⊢
  have hl : lv_has ls 5 [(0, .ref a0), (1, .int k1), (2, .int k2), (3, .int k3), (4, .int k4)] := hl
  refine lv_aload_n hx hb dX10_wish_0 rfl (lv_at hl 0 rfl) ?_
  refine lv_aload_n hx hb dX10_wish_1 rfl (lv_at hl 0 rfl) ?_
  refine lv_iload_n hx hb dX10_wish_2 rfl (lv_at hl 1 rfl) ?_
  refine lv_iload_n hx hb dX10_wish_3 rfl (lv_at hl 2 rfl) ?_
  refine lv_iload_n hx hb dX10_wish_4 rfl (lv_at hl 3 rfl) ?_
  refine lv_iload hx hb dX10_wish_5 (lv_at hl 4 rfl) ?_
  refine cl_i (wc := [(a0, .inr (7, [.ref a5, g6, g7, g8, g9, g10, g11, g12, g13, g14])), (a5, .inr (4, [g15, g16, g17, g18, g19, g20, .int 0, g21, g22, g23, g24, g25, g26, g27, g28, g29, g30, g31]))]) (wr := []) (va_runV (As := [.int k1, .int k2, .int k3, .int k4]) (rest := [.ref a0]) ⟨hx, hb, hml, hown, hts⟩ (kX10_wishTrouble l dC dI a0 k1 k2 k3 k4 a5 (g6) (g7) (g8) (g9) (g10) (g11) (g12) (g13) (g14) (g15) (g16) (g17) (g18) (g19) (g20) (g21) (g22) (g23) (g24) (g25) (g26) (g27) (g28) (g29) (g30) (g31) s.heap.size) (cwV 4 hts gX10_wish_0 rfl rfl rfl (by decide +kernel) ⟨Nat.le_of_ble_eq_true rfl, Nat.le_of_ble_eq_true rfl⟩) (PV (hP.sub (ws' := [(a0, .inr (7, [.ref a5, g6, g7, g8, g9, g10, g11, g12, g13, g14])), (a5, .inr (4, [g15, g16, g17, g18, g19, g20, .int 0, g21, g22, g23, g24, g25, g26, g27, g28, g29, g30, g31]))]) [0, 1] rfl) (hK.sub (tys' := []) [] rfl) (hD.sub (ws' := [(a0, .inr (7, [.ref a5, g6, g7, g8, g9, g10, g11, g12, g13, g14])), (a5, .inr (4, [g15, g16, g17, g18, g19, g20, .int 0, g21, g22, g23, g24, g25, g26, g27, g28, g29, g30, g31]))]) [0, 1] (by decide) rfl) hN 0 rfl rfl) rfl rfl hl.1 rfl (lv_room (Nat.le_of_ble_eq_true rfl)) dX10_wish_7 ⟨Nat.le_of_ble_eq_true rfl, Nat.le_of_ble_eq_true rfl⟩) hP hD hK hS hA [0, 1] [] rfl rfl (by decide) (by decide) (fun z1 _u H locs hw hP hD hK hS => ?_)
  have hP : va_P (dC, dI) vwCl [(a0, .inr (7, [.ref a5, g6, g7, g8, g9, g10, g11, g12, g13, g14])), (a5, .inr (4, [g15, g16, g17, g18, g19, g20, .int 0, g21, g22, g23, g24, g25, g26, g27, g28, g29, g30, g31]))] H := hP
  have hD : va_D A [(a0, .inr (7, [.ref a5, g6, g7, g8, g9, g10, g11, g12, g13, g14])), (a5, .inr (4, [g15, g16, g17, g18, g19, g20, .int 0, g21, g22, g23, g24, g25, g26, g27, g28, g29, g30, g31]))] := hD
  have hK : va_K (dC, dI) vwCl [] s := hK
  obtain rfl : z1 = 1 := hw
  refine cl_i (wc := [(a0, .inr (7, [.ref a5, g6, g7, g8, g9, g10, g11, g12, g13, g14]))]) (wr := [(a5, .inr (4, [g15, g16, g17, g18, g19, g20, .int 0, g21, g22, g23, g24, g25, g26, g27, g28, g29, g30, g31]))]) (va_runV (As := [.int 1]) (rest := []) ⟨hx, hb, hml, hown, hts⟩ (kX10_refused_3 l dC dI a0 (.ref a5) (g6) (g7) (g8) (g9) (g10) (g11) (g12) (g13) (g14) H.size) (cwV 1 hts gX10_wish_1 rfl rfl rfl (by decide +kernel) ⟨Nat.le_of_ble_eq_true rfl, Nat.le_of_ble_eq_true rfl⟩) (PV (hP.sub (ws' := [(a0, .inr (7, [.ref a5, g6, g7, g8, g9, g10, g11, g12, g13, g14]))]) [0] rfl) (hK.sub (tys' := []) [] rfl) (hD.sub (ws' := [(a0, .inr (7, [.ref a5, g6, g7, g8, g9, g10, g11, g12, g13, g14]))]) [0] (by decide) rfl) hN 0 rfl rfl) rfl rfl hl.1 rfl (lv_room (Nat.le_of_ble_eq_true rfl)) dX10_wish_10 ⟨Nat.le_of_ble_eq_true rfl, Nat.le_of_ble_eq_true rfl⟩) hP hD hK hS hA [0] [1] rfl rfl (by decide) (by decide) (fun z2 _u H locs hw hP hD hK hS => ?_)
  have hP : va_P (dC, dI) vwCl [(a5, .inr (4, [g15, g16, g17, g18, g19, g20, .int 0, g21, g22, g23, g24, g25, g26, g27, g28, g29, g30, g31])), (a0, .inr (7, [.ref a5, g6, g7, g8, g9, g10, g11, g12, .int 1, g14]))] H := hP
  have hD : va_D A [(a5, .inr (4, [g15, g16, g17, g18, g19, g20, .int 0, g21, g22, g23, g24, g25, g26, g27, g28, g29, g30, g31])), (a0, .inr (7, [.ref a5, g6, g7, g8, g9, g10, g11, g12, .int 1, g14]))] := hD
  have hK : va_K (dC, dI) vwCl [] s := hK
  obtain rfl : z2 = 1 := hw
  refine lv_if_eq (tgt := 18) hx hb dX10_wish_13 (by decide) (fun c3 => absurd c3 (by decide)) (fun _ => ?_)
  refine lv_iconst (v := (-1)) hx hb dX10_wish_16 (by decide) ?_
  have hP9 := hP.sub (ws' := []) [] rfl
  have hD9 := hD.sub (ws' := []) [] (by decide) rfl
  have hK9 := hK.sub (tys' := []) [] rfl
  exact W.iret (v := (-1)) hx hb hr (fun t ht hW => ⟨⟨(-1), (), rfl, rfl, by rw [ht]; exact hP9, va_K.moved hW.alike hK9, hD9⟩, hS.F ht⟩) hS.2.2 dX10_wish_17
theorem dX12_refusesQuestion_0 : decode cX12_refusesQuestion 0 = .ok (.iload_n 1, 1) := by decide +kernel
theorem dX12_refusesQuestion_1 : decode cX12_refusesQuestion 1 = .ok (.ifCond .eq 38, 3) := by decide +kernel
theorem dX12_refusesQuestion_39 : decode cX12_refusesQuestion 39 = .ok (.iconst 1, 1) := by decide +kernel
theorem dX12_refusesQuestion_40 : decode cX12_refusesQuestion 40 = .ok (.ireturn, 1) := by decide +kernel
def vX12_refusesQuestion : List Cond := .code yX12_refusesQuestion cX12_refusesQuestion 5 (some .int) :: ([])
set_option maxHeartbeats 1000000 in
set_option maxRecDepth 100000 in
theorem kX12_refusesQuestion (l : Launch) (dC : Nat → ClassId) (dI : Nat → Nat → Nat) (a0 : Nat) (k1 : Int32) (k2 : Int32) (k3 : Int32) (g4 : Value) (g5 : Value) (g6 : Value) (g7 : Value) (g8 : Value) (g9 : Value) (g10 : Value) (g11 : Value) (g12 : Value) (g13 : Value) (g14 : Value) (g15 : Value) (g16 : Value) (g17 : Value) (g18 : Value) (g19 : Value) (g20 : Value) (g21 : Value) (g22 : Value) (g23 : Value) (g24 : Value) (g25 : Value) (g26 : Value) (g27 : Value) (g28 : Value) (g29 : Value) (g30 : Value) (g31 : Value) (g32 : Value) (g33 : Value) (sz : Nat) : Met l yX12_refusesQuestion vX12_refusesQuestion ({ frames := 0, cells := 0, slots := 0, locals := 0 }) (PC (dC, dI) [.ref a0, .int 0, .int k1, .int k2, .int k3] sz [(a0, .inr (9, [g4, g5, g6, g7, g8, g9, g10, g11, g12, g13, g14, g15, g16, g17, g18, g19, g20, g21, g22, g23, g24, g25, g26, g27, g28, g29, g30, g31, g32, g33]))] []) (va_Qi (S := Unit) (fun (r : Int32) _ => r = 1) (fun _ t => BC (dC, dI) (va_A [(a0, .inr (9, [g4, g5, g6, g7, g8, g9, g10, g11, g12, g13, g14, g15, g16, g17, g18, g19, g20, g21, g22, g23, g24, g25, g26, g27, g28, g29, g30, g31, g32, g33]))] sz) [(a0, .inr (9, [g4, g5, g6, g7, g8, g9, g10, g11, g12, g13, g14, g15, g16, g17, g18, g19, g20, g21, g22, g23, g24, g25, g26, g27, g28, g29, g30, g31, g32, g33]))] [] t) (va_A [(a0, .inr (9, [g4, g5, g6, g7, g8, g9, g10, g11, g12, g13, g14, g15, g16, g17, g18, g19, g20, g21, g22, g23, g24, g25, g26, g27, g28, g29, g30, g31, g32, g33]))] sz)) 0 0 (va_A [(a0, .inr (9, [g4, g5, g6, g7, g8, g9, g10, g11, g12, g13, g14, g15, g16, g17, g18, g19, g20, g21, g22, g23, g24, g25, g26, g27, g28, g29, g30, g31, g32, g33]))] sz) := by
  refine Met.ofW (cc := cX12_refusesQuestion) (maxL := 5) (ret := (some .int)) (by decide) rfl ?_
  intro p e s m args below meth c s₁ B hml hv
  obtain ⟨rfl, hsz, hP, hK, hD0, hN⟩ := hv
  have hx := B.exec
  have hb := B.bytes
  have hr := B.returns
  have hts := atoms_spec (ws := vX12_refusesQuestion) B.pre
  have hown : s.vm.findClass RX12 = some m.cls := findClass_of_methodNamed B.named
  have hlocks := B.notSynchronized
  subst hsz
  have hD := hD0.self (sz := s.heap.size)
  generalize hAe : va_A [(a0, .inr (9, [g4, g5, g6, g7, g8, g9, g10, g11, g12, g13, g14, g15, g16, g17, g18, g19, g20, g21, g22, g23, g24, g25, g26, g27, g28, g29, g30, g31, g32, g33]))] s.heap.size = A at hD ⊢
  have hA : ∀ q : Nat, s.heap.size ≤ q → A q := fun q h => by rw [← hAe]; exact Or.inr h
  have hS : va_S A s.heap s.heap [] := va_S.rf
  have hP : va_P (dC, dI) vwCl [(a0, .inr (9, [g4, g5, g6, g7, g8, g9, g10, g11, g12, g13, g14, g15, g16, g17, g18, g19, g20, g21, g22, g23, g24, g25, g26, g27, g28, g29, g30, g31, g32, g33]))] s.heap := hP
  have hl := lv_entry ([.ref a0, .int 0, .int k1, .int k2, .int k3]) (n := 5) (Nat.le_of_ble_eq_true rfl)
  rw [lg_entry_eq]
  generalize (lg_sl ([.ref a0, .int 0, .int k1, .int k2, .int k3]) ++ List.replicate (5 - (lg_sl ([.ref a0, .int 0, .int k1, .int k2, .int k3])).length) Slot.unset).toArray = ls at hl ⊢
  have hl : lv_has ls 5 [(0, .ref a0), (1, .int 0), (2, .int k1), (3, .int k2), (4, .int k3)] := hl
  refine lv_iload_n hx hb dX12_refusesQuestion_0 rfl (lv_at hl 1 rfl) ?_
  refine lv_if_eq (tgt := 39) hx hb dX12_refusesQuestion_1 (by decide) (fun _ => ?_) (fun c1 => absurd c1 (by decide))
  refine lv_iconst (v := 1) hx hb dX12_refusesQuestion_39 (by decide) ?_
  have hP9 := hP.sub (ws' := [(a0, .inr (9, [g4, g5, g6, g7, g8, g9, g10, g11, g12, g13, g14, g15, g16, g17, g18, g19, g20, g21, g22, g23, g24, g25, g26, g27, g28, g29, g30, g31, g32, g33]))]) [0] rfl
  have hD9 := hD.sub (ws' := [(a0, .inr (9, [g4, g5, g6, g7, g8, g9, g10, g11, g12, g13, g14, g15, g16, g17, g18, g19, g20, g21, g22, g23, g24, g25, g26, g27, g28, g29, g30, g31, g32, g33]))]) [0] (by decide) rfl
  have hK9 := hK.sub (tys' := []) [] rfl
  exact W.iret (v := 1) hx hb hr (fun t ht hW => ⟨⟨1, (), rfl, rfl, by rw [ht]; exact hP9, va_K.moved hW.alike hK9, hD9⟩, hS.F ht⟩) hS.2.2 dX12_refusesQuestion_40
theorem dX12_wish_0 : decode cX12_wish 0 = .ok (.aload_n 0, 1) := by decide +kernel
theorem dX12_wish_1 : decode cX12_wish 1 = .ok (.iconst 0, 1) := by decide +kernel
theorem dX12_wish_11 : decode cX12_wish 11 = .ok (.iload_n 2, 1) := by decide +kernel
theorem dX12_wish_12 : decode cX12_wish 12 = .ok (.iload_n 3, 1) := by decide +kernel
theorem dX12_wish_13 : decode cX12_wish 13 = .ok (.iload 4, 2) := by decide +kernel
theorem dX12_wish_15 : decode cX12_wish 15 = .ok (.invokevirtual 353, 3) := by decide +kernel
theorem dX12_wish_18 : decode cX12_wish 18 = .ok (.istore 5, 2) := by decide +kernel
theorem dX12_wish_2 : decode cX12_wish 2 = .ok (.putfield 36, 3) := by decide +kernel
theorem dX12_wish_20 : decode cX12_wish 20 = .ok (.iload 5, 2) := by decide +kernel
theorem dX12_wish_22 : decode cX12_wish 22 = .ok (.ifCond .le 12, 3) := by decide +kernel
theorem dX12_wish_25 : decode cX12_wish 25 = .ok (.aload_n 0, 1) := by decide +kernel
theorem dX12_wish_26 : decode cX12_wish 26 = .ok (.iload 5, 2) := by decide +kernel
theorem dX12_wish_28 : decode cX12_wish 28 = .ok (.invokevirtual 42, 3) := by decide +kernel
theorem dX12_wish_31 : decode cX12_wish 31 = .ok (.goto 19, 3) := by decide +kernel
theorem dX12_wish_5 : decode cX12_wish 5 = .ok (.aload_n 0, 1) := by decide +kernel
theorem dX12_wish_50 : decode cX12_wish 50 = .ok (.ireturn, 1) := by decide +kernel
theorem dX12_wish_6 : decode cX12_wish 6 = .ok (.aload_n 0, 1) := by decide +kernel
theorem dX12_wish_7 : decode cX12_wish 7 = .ok (.iload_n 1, 1) := by decide +kernel
theorem dX12_wish_8 : decode cX12_wish 8 = .ok (.invokevirtual 320, 3) := by decide +kernel
def vX12_wish : List Cond := .code yX12_wish cX12_wish 6 (some .int) :: ([.fieldLink RX12 36 "HookPierModel" "thrown" "I", .methodLink RX12 320 yX12_isAnswer, .instanceMethod yX12_isAnswer, .selects RX12 yX12_isAnswer yX12_isAnswer, .initialized RX12, .code yX12_isAnswer cX12_isAnswer 2 (some .boolean), .fieldLink RX12 299 "HookPierModel" "pier" "LHookPierModel$Pier;", .methodLink RX12 353 yX12_refusesQuestion, .instanceMethod yX12_refusesQuestion, .selects RX12 yX12_refusesQuestion yX12_refusesQuestion, .code yX12_refusesQuestion cX12_refusesQuestion 5 (some .int), .methodLink RX12 42 yX12_refused, .instanceMethod yX12_refused, .selects RX12 yX12_refused yX12_refused, .code yX12_refused cX12_refused 2 (some .int), .fieldLink RX12 39 "HookPierModel" "trouble" "I", .fieldLink RX12 9 "HookPierModel" "where" "I"] ++ wsX120)
theorem iX12_wish_X12 : ∀ w ∈ wsX120, w ∈ vX12_wish := fun _ h => List.mem_cons_of_mem _ (List.mem_append_right _ h)
set_option maxRecDepth 20000 in
theorem gX12_wish_0 : GoodIn vX12_wish (wsV RX12 320 RX12 yX12_isAnswer vX12_isAnswer) := goodIn_app (goodIn_r [.methodLink RX12 320 yX12_isAnswer, .instanceMethod yX12_isAnswer, .selects RX12 yX12_isAnswer yX12_isAnswer, .initialized RX12] [2, 3, 4, 5] (by decide +kernel) (by decide +kernel)) (goodIn_ca (goodIn_r (.code yX12_isAnswer cX12_isAnswer 2 (some .boolean) :: [.fieldLink RX12 299 "HookPierModel" "pier" "LHookPierModel$Pier;"]) [6, 7] (by decide +kernel) (by decide +kernel) : GoodIn vX12_wish (.code yX12_isAnswer cX12_isAnswer 2 (some .boolean) :: [.fieldLink RX12 299 "HookPierModel" "pier" "LHookPierModel$Pier;"])) (goodIn_sub iX12_wish_X12 (by decide +kernel)))
set_option maxRecDepth 20000 in
theorem gX12_wish_1 : GoodIn vX12_wish (wsV RX12 353 RX12 yX12_refusesQuestion vX12_refusesQuestion) := goodIn_app (goodIn_r [.methodLink RX12 353 yX12_refusesQuestion, .instanceMethod yX12_refusesQuestion, .selects RX12 yX12_refusesQuestion yX12_refusesQuestion, .initialized RX12] [8, 9, 10, 5] (by decide +kernel) (by decide +kernel)) (goodIn_r (.code yX12_refusesQuestion cX12_refusesQuestion 5 (some .int) :: []) [11] (by decide +kernel) (by decide +kernel) : GoodIn vX12_wish (.code yX12_refusesQuestion cX12_refusesQuestion 5 (some .int) :: []))
set_option maxRecDepth 20000 in
theorem gX12_wish_2 : GoodIn vX12_wish (wsV RX12 42 RX12 yX12_refused vX12_refused_1) := goodIn_app (goodIn_r [.methodLink RX12 42 yX12_refused, .instanceMethod yX12_refused, .selects RX12 yX12_refused yX12_refused, .initialized RX12] [12, 13, 14, 5] (by decide +kernel) (by decide +kernel)) (goodIn_ca (goodIn_r (.code yX12_refused cX12_refused 2 (some .int) :: [.fieldLink RX12 39 "HookPierModel" "trouble" "I", .fieldLink RX12 9 "HookPierModel" "where" "I"]) [15, 16, 17] (by decide +kernel) (by decide +kernel) : GoodIn vX12_wish (.code yX12_refused cX12_refused 2 (some .int) :: [.fieldLink RX12 39 "HookPierModel" "trouble" "I", .fieldLink RX12 9 "HookPierModel" "where" "I"])) (goodIn_sub iX12_wish_X12 (by decide +kernel)))
set_option maxHeartbeats 1000000 in
set_option maxRecDepth 100000 in
theorem kX12_wish (l : Launch) (dC : Nat → ClassId) (dI : Nat → Nat → Nat) (a0 : Nat) (k1 : Int32) (k2 : Int32) (k3 : Int32) (k4 : Int32) (g5 : Value) (g6 : Value) (g7 : Value) (g8 : Value) (g9 : Value) (g10 : Value) (g11 : Value) (g12 : Value) (g13 : Value) (g14 : Value) (g15 : Value) (g16 : Value) (g17 : Value) (g18 : Value) (g19 : Value) (g20 : Value) (g21 : Value) (g22 : Value) (g23 : Value) (g24 : Value) (g25 : Value) (g26 : Value) (g27 : Value) (g28 : Value) (g29 : Value) (g30 : Value) (g31 : Value) (g32 : Value) (g33 : Value) (sz : Nat) : Met l yX12_wish vX12_wish ({ frames := 1, cells := 0, slots := 0, locals := 24 }) (PC (dC, dI) [.ref a0, .int k1, .int k2, .int k3, .int k4] sz [(a0, .inr (9, [g5, g6, g7, .null, g8, g9, g10, g11, g12, g13, g14, g15, g16, g17, g18, g19, g20, g21, g22, g23, g24, g25, g26, g27, g28, g29, g30, g31, g32, g33]))] []) (va_Qi (S := Unit) (fun (r : Int32) _ => r = (-1)) (fun _ t => BC (dC, dI) (va_A [(a0, .inr (9, [g5, g6, g7, .null, g8, g9, g10, g11, g12, g13, g14, g15, g16, g17, g18, g19, g20, g21, g22, g23, g24, g25, g26, g27, g28, g29, g30, g31, g32, g33]))] sz) [] [] t) (va_A [(a0, .inr (9, [g5, g6, g7, .null, g8, g9, g10, g11, g12, g13, g14, g15, g16, g17, g18, g19, g20, g21, g22, g23, g24, g25, g26, g27, g28, g29, g30, g31, g32, g33]))] sz)) 0 0 (va_A [(a0, .inr (9, [g5, g6, g7, .null, g8, g9, g10, g11, g12, g13, g14, g15, g16, g17, g18, g19, g20, g21, g22, g23, g24, g25, g26, g27, g28, g29, g30, g31, g32, g33]))] sz) := by
  refine Met.ofW (cc := cX12_wish) (maxL := 6) (ret := (some .int)) (by decide) rfl ?_
  intro p e s m args below meth c s₁ B hml hv
  obtain ⟨rfl, hsz, hP, hK, hD0, hN⟩ := hv
  have hx := B.exec
  have hb := B.bytes
  have hr := B.returns
  have hts := atoms_spec (ws := vX12_wish) B.pre
  have hown : s.vm.findClass RX12 = some m.cls := findClass_of_methodNamed B.named
  have hlocks := B.notSynchronized
  subst hsz
  have hD := hD0.self (sz := s.heap.size)
  generalize hAe : va_A [(a0, .inr (9, [g5, g6, g7, .null, g8, g9, g10, g11, g12, g13, g14, g15, g16, g17, g18, g19, g20, g21, g22, g23, g24, g25, g26, g27, g28, g29, g30, g31, g32, g33]))] s.heap.size = A at hD ⊢
  have hA : ∀ q : Nat, s.heap.size ≤ q → A q := fun q h => by rw [← hAe]; exact Or.inr h
  have hS : va_S A s.heap s.heap [] := va_S.rf
  have hP : va_P (dC, dI) vwCl [(a0, .inr (9, [g5, g6, g7, .null, g8, g9, g10, g11, g12, g13, g14, g15, g16, g17, g18, g19, g20, g21, g22, g23, g24, g25, g26, g27, g28, g29, g30, g31, g32, g33]))] s.heap := hP
  have hl := lv_entry ([.ref a0, .int k1, .int k2, .int k3, .int k4]) (n := 6) (Nat.le_of_ble_eq_true rfl)
  rw [lg_entry_eq]
  generalize (lg_sl ([.ref a0, .int k1, .int k2, .int k3, .int k4]) ++ List.replicate (6 - (lg_sl ([.ref a0, .int k1, .int k2, .int k3, .int k4])).length) Slot.unset).toArray = ls at hl ⊢
  have hl : lv_has ls 6 [(0, .ref a0), (1, .int k1), (2, .int k2), (3, .int k3), (4, .int k4)] := hl
  refine lv_aload_n hx hb dX12_wish_0 rfl (lv_at hl 0 rfl) ?_
  refine lv_iconst (v := 0) hx hb dX12_wish_1 (by decide) ?_
  refine va_put (D := (dC, dI)) (ci := 9) (v := .int 0) (ty := .int) (C := RX12) (T := TX12) (N := 30) hx hb hts iX12_wish_X12 tyX12 tyX12_ok nmX12 hown hK hP hD hS 0 rfl rfl 0 (by decide) (hts (.fieldLink RX12 36 "HookPierModel" "thrown" "I") (List.mem_of_getElem? (i := 1) rfl)) (fun _ h9 => h9) rfl (by decide +kernel) rfl rfl (Nat.le_of_ble_eq_true rfl) dX12_wish_2 (fun H locs hP hD hS => ?_)
  have hP : va_P (dC, dI) vwCl [(a0, .inr (9, [.int 0, g6, g7, .null, g8, g9, g10, g11, g12, g13, g14, g15, g16, g17, g18, g19, g20, g21, g22, g23, g24, g25, g26, g27, g28, g29, g30, g31, g32, g33]))] H := hP
  have hD : va_D A [(a0, .inr (9, [.int 0, g6, g7, .null, g8, g9, g10, g11, g12, g13, g14, g15, g16, g17, g18, g19, g20, g21, g22, g23, g24, g25, g26, g27, g28, g29, g30, g31, g32, g33]))] := hD
  refine lv_aload_n hx hb dX12_wish_5 rfl (lv_at hl 0 rfl) ?_
  refine lv_aload_n hx hb dX12_wish_6 rfl (lv_at hl 0 rfl) ?_
  refine lv_iload_n hx hb dX12_wish_7 rfl (lv_at hl 1 rfl) ?_
  refine cl_i (wc := [(a0, .inr (9, [.int 0, g6, g7, .null, g8, g9, g10, g11, g12, g13, g14, g15, g16, g17, g18, g19, g20, g21, g22, g23, g24, g25, g26, g27, g28, g29, g30, g31, g32, g33]))]) (wr := []) (va_runV (As := [.int k1]) (rest := [.ref a0]) ⟨hx, hb, hml, hown, hts⟩ (kX12_isAnswer l dC dI a0 k1 (.int 0) (g6) (g7) (g8) (g9) (g10) (g11) (g12) (g13) (g14) (g15) (g16) (g17) (g18) (g19) (g20) (g21) (g22) (g23) (g24) (g25) (g26) (g27) (g28) (g29) (g30) (g31) (g32) (g33) H.size) (cwV 1 hts gX12_wish_0 rfl rfl rfl (by decide +kernel) ⟨Nat.le_of_ble_eq_true rfl, Nat.le_of_ble_eq_true rfl⟩) (PV (hP.sub (ws' := [(a0, .inr (9, [.int 0, g6, g7, .null, g8, g9, g10, g11, g12, g13, g14, g15, g16, g17, g18, g19, g20, g21, g22, g23, g24, g25, g26, g27, g28, g29, g30, g31, g32, g33]))]) [0] rfl) (hK.sub (tys' := []) [] rfl) (hD.sub (ws' := [(a0, .inr (9, [.int 0, g6, g7, .null, g8, g9, g10, g11, g12, g13, g14, g15, g16, g17, g18, g19, g20, g21, g22, g23, g24, g25, g26, g27, g28, g29, g30, g31, g32, g33]))]) [0] (by decide) rfl) hN 0 rfl rfl) rfl rfl hl.1 rfl (lv_room (Nat.le_of_ble_eq_true rfl)) dX12_wish_8 ⟨Nat.le_of_ble_eq_true rfl, Nat.le_of_ble_eq_true rfl⟩) hP hD hK hS hA [0] [] rfl rfl (by decide) (by decide) (fun z1 _u H locs hw hP hD hK hS => ?_)
  have hP : va_P (dC, dI) vwCl [(a0, .inr (9, [.int 0, g6, g7, .null, g8, g9, g10, g11, g12, g13, g14, g15, g16, g17, g18, g19, g20, g21, g22, g23, g24, g25, g26, g27, g28, g29, g30, g31, g32, g33]))] H := hP
  have hD : va_D A [(a0, .inr (9, [.int 0, g6, g7, .null, g8, g9, g10, g11, g12, g13, g14, g15, g16, g17, g18, g19, g20, g21, g22, g23, g24, g25, g26, g27, g28, g29, g30, g31, g32, g33]))] := hD
  have hK : va_K (dC, dI) vwCl [] s := hK
  obtain rfl : z1 = 0 := hw
  refine lv_iload_n hx hb dX12_wish_11 rfl (lv_at hl 2 rfl) ?_
  refine lv_iload_n hx hb dX12_wish_12 rfl (lv_at hl 3 rfl) ?_
  refine lv_iload hx hb dX12_wish_13 (lv_at hl 4 rfl) ?_
  refine cl_i (wc := [(a0, .inr (9, [.int 0, g6, g7, .null, g8, g9, g10, g11, g12, g13, g14, g15, g16, g17, g18, g19, g20, g21, g22, g23, g24, g25, g26, g27, g28, g29, g30, g31, g32, g33]))]) (wr := []) (va_runV (As := [.int 0, .int k2, .int k3, .int k4]) (rest := []) ⟨hx, hb, hml, hown, hts⟩ (kX12_refusesQuestion l dC dI a0 k2 k3 k4 (.int 0) (g6) (g7) (.null) (g8) (g9) (g10) (g11) (g12) (g13) (g14) (g15) (g16) (g17) (g18) (g19) (g20) (g21) (g22) (g23) (g24) (g25) (g26) (g27) (g28) (g29) (g30) (g31) (g32) (g33) H.size) (cwV 4 hts gX12_wish_1 rfl rfl rfl (by decide +kernel) ⟨Nat.le_of_ble_eq_true rfl, Nat.le_of_ble_eq_true rfl⟩) (PV (hP.sub (ws' := [(a0, .inr (9, [.int 0, g6, g7, .null, g8, g9, g10, g11, g12, g13, g14, g15, g16, g17, g18, g19, g20, g21, g22, g23, g24, g25, g26, g27, g28, g29, g30, g31, g32, g33]))]) [0] rfl) (hK.sub (tys' := []) [] rfl) (hD.sub (ws' := [(a0, .inr (9, [.int 0, g6, g7, .null, g8, g9, g10, g11, g12, g13, g14, g15, g16, g17, g18, g19, g20, g21, g22, g23, g24, g25, g26, g27, g28, g29, g30, g31, g32, g33]))]) [0] (by decide) rfl) hN 0 rfl rfl) rfl rfl hl.1 rfl (lv_room (Nat.le_of_ble_eq_true rfl)) dX12_wish_15 ⟨Nat.le_of_ble_eq_true rfl, Nat.le_of_ble_eq_true rfl⟩) hP hD hK hS hA [0] [] rfl rfl (by decide) (by decide) (fun z2 _u H locs hw hP hD hK hS => ?_)
  have hP : va_P (dC, dI) vwCl [(a0, .inr (9, [.int 0, g6, g7, .null, g8, g9, g10, g11, g12, g13, g14, g15, g16, g17, g18, g19, g20, g21, g22, g23, g24, g25, g26, g27, g28, g29, g30, g31, g32, g33]))] H := hP
  have hD : va_D A [(a0, .inr (9, [.int 0, g6, g7, .null, g8, g9, g10, g11, g12, g13, g14, g15, g16, g17, g18, g19, g20, g21, g22, g23, g24, g25, g26, g27, g28, g29, g30, g31, g32, g33]))] := hD
  have hK : va_K (dC, dI) vwCl [] s := hK
  obtain rfl : z2 = 1 := hw
  refine lv_istore (lv' := [(5, .int 1), (0, .ref a0), (1, .int k1), (2, .int k2), (3, .int k3), (4, .int k4)]) hx hb dX12_wish_18 hl (by decide) rfl (fun ls hl => ?_)
  refine lv_iload hx hb dX12_wish_20 (lv_at hl 0 rfl) ?_
  refine lv_if_le (tgt := 34) hx hb dX12_wish_22 (by decide) (fun c3 => absurd c3 (by decide)) (fun _ => ?_)
  refine lv_aload_n hx hb dX12_wish_25 rfl (lv_at hl 1 rfl) ?_
  refine lv_iload hx hb dX12_wish_26 (lv_at hl 0 rfl) ?_
  refine cl_i (wc := [(a0, .inr (9, [.int 0, g6, g7, .null, g8, g9, g10, g11, g12, g13, g14, g15, g16, g17, g18, g19, g20, g21, g22, g23, g24, g25, g26, g27, g28, g29, g30, g31, g32, g33]))]) (wr := []) (va_runV (As := [.int 1]) (rest := []) ⟨hx, hb, hml, hown, hts⟩ (kX12_refused_1 l dC dI a0 (.int 0) (g6) (g7) (.null) (g8) (g9) (g10) (g11) (g12) (g13) (g14) (g15) (g16) (g17) (g18) (g19) (g20) (g21) (g22) (g23) (g24) (g25) (g26) (g27) (g28) (g29) (g30) (g31) (g32) (g33) H.size) (cwV 1 hts gX12_wish_2 rfl rfl rfl (by decide +kernel) ⟨Nat.le_of_ble_eq_true rfl, Nat.le_of_ble_eq_true rfl⟩) (PV (hP.sub (ws' := [(a0, .inr (9, [.int 0, g6, g7, .null, g8, g9, g10, g11, g12, g13, g14, g15, g16, g17, g18, g19, g20, g21, g22, g23, g24, g25, g26, g27, g28, g29, g30, g31, g32, g33]))]) [0] rfl) (hK.sub (tys' := []) [] rfl) (hD.sub (ws' := [(a0, .inr (9, [.int 0, g6, g7, .null, g8, g9, g10, g11, g12, g13, g14, g15, g16, g17, g18, g19, g20, g21, g22, g23, g24, g25, g26, g27, g28, g29, g30, g31, g32, g33]))]) [0] (by decide) rfl) hN 0 rfl rfl) rfl rfl hl.1 rfl (lv_room (Nat.le_of_ble_eq_true rfl)) dX12_wish_28 ⟨Nat.le_of_ble_eq_true rfl, Nat.le_of_ble_eq_true rfl⟩) hP hD hK hS hA [0] [] rfl rfl (by decide) (by decide) (fun z4 _u H locs hw hP hD hK hS => ?_)
  have hP : va_P (dC, dI) vwCl [(a0, .inr (9, [.int 0, .int 1, .int (-1), .null, g8, g9, g10, g11, g12, g13, g14, g15, g16, g17, g18, g19, g20, g21, g22, g23, g24, g25, g26, g27, g28, g29, g30, g31, g32, g33]))] H := hP
  have hD : va_D A [(a0, .inr (9, [.int 0, .int 1, .int (-1), .null, g8, g9, g10, g11, g12, g13, g14, g15, g16, g17, g18, g19, g20, g21, g22, g23, g24, g25, g26, g27, g28, g29, g30, g31, g32, g33]))] := hD
  have hK : va_K (dC, dI) vwCl [] s := hK
  obtain rfl : z4 = (-1) := hw
  refine lv_goto (tgt := 50) hx hb dX12_wish_31 (by decide) ?_
  have hP9 := hP.sub (ws' := []) [] rfl
  have hD9 := hD.sub (ws' := []) [] (by decide) rfl
  have hK9 := hK.sub (tys' := []) [] rfl
  exact W.iret (v := (-1)) hx hb hr (fun t ht hW => ⟨⟨(-1), (), rfl, rfl, by rw [ht]; exact hP9, va_K.moved hW.alike hK9, hD9⟩, hS.F ht⟩) hS.2.2 dX12_wish_50
theorem dX10_takes_0 : decode cX10_takes 0 = .ok (.aload_n 0, 1) := by decide +kernel
theorem dX10_takes_1 : decode cX10_takes 1 = .ok (.aload_n 0, 1) := by decide +kernel
theorem dX10_takes_10 : decode cX10_takes 10 = .ok (.invokevirtual 79, 3) := by decide +kernel
theorem dX10_takes_13 : decode cX10_takes 13 = .ok (.ifCond .eq 7, 3) := by decide +kernel
theorem dX10_takes_16 : decode cX10_takes 16 = .ok (.ldc2_w 187, 3) := by decide +kernel
theorem dX10_takes_19 : decode cX10_takes 19 = .ok (.lreturn, 1) := by decide +kernel
theorem dX10_takes_2 : decode cX10_takes 2 = .ok (.iload_n 1, 1) := by decide +kernel
theorem dX10_takes_3 : decode cX10_takes 3 = .ok (.iload_n 2, 1) := by decide +kernel
theorem dX10_takes_4 : decode cX10_takes 4 = .ok (.iload_n 3, 1) := by decide +kernel
theorem dX10_takes_5 : decode cX10_takes 5 = .ok (.iload 4, 2) := by decide +kernel
theorem dX10_takes_7 : decode cX10_takes 7 = .ok (.invokevirtual 176, 3) := by decide +kernel
def vX10_takes : List Cond := .code yX10_takes cX10_takes 6 (some .long) :: ([.methodLink RX10 176 yX10_wishTrouble, .instanceMethod yX10_wishTrouble, .selects RX10 yX10_wishTrouble yX10_wishTrouble, .initialized RX10, .code yX10_wishTrouble cX10_wishTrouble 6 (some .int), .methodLink RX10 102 yX10_answerTrouble, .instanceMethod yX10_answerTrouble, .selects RX10 yX10_answerTrouble yX10_answerTrouble, .code yX10_answerTrouble cX10_answerTrouble 2 (some .int), .fieldLink RX10 10 "HookPier" "plan" "LHookPier$Plan;", .methodLink RX10 381 yX6_hasAnswer, .instanceMethod yX6_hasAnswer, .selects RX6 yX6_hasAnswer yX6_hasAnswer, .initialized RX6, .code yX6_hasAnswer cX6_hasAnswer 2 (some .boolean), .fieldLink RX6 30 "HookPier$Plan" "answers" "I", .code yX10_within cX10_within 3 (some .boolean), .static yX10_within, .methodLink RX10 79 yX10_refused, .instanceMethod yX10_refused, .selects RX10 yX10_refused yX10_refused, .code yX10_refused cX10_refused 2 (some .boolean), .fieldLink RX10 61 "HookPier" "troubleNow" "I", .constantLong RX10 187 (-1)] ++ wsX100 ++ wsX60)
theorem iX10_takes_X10 : ∀ w ∈ wsX100, w ∈ vX10_takes := fun _ h => List.mem_cons_of_mem _ (List.mem_append_left _ (List.mem_append_right _ h))
theorem iX10_takes_X6 : ∀ w ∈ wsX60, w ∈ vX10_takes := fun _ h => List.mem_cons_of_mem _ (List.mem_append_right _ h)
set_option maxRecDepth 20000 in
theorem gX10_takes_0 : GoodIn vX10_takes (wsV RX10 176 RX10 yX10_wishTrouble vX10_wishTrouble) := goodIn_app (goodIn_r [.methodLink RX10 176 yX10_wishTrouble, .instanceMethod yX10_wishTrouble, .selects RX10 yX10_wishTrouble yX10_wishTrouble, .initialized RX10] [1, 2, 3, 4] (by decide +kernel) (by decide +kernel)) (goodIn_ca (goodIn_ca (goodIn_r (.code yX10_wishTrouble cX10_wishTrouble 6 (some .int) :: [.methodLink RX10 102 yX10_answerTrouble, .instanceMethod yX10_answerTrouble, .selects RX10 yX10_answerTrouble yX10_answerTrouble, .initialized RX10, .code yX10_answerTrouble cX10_answerTrouble 2 (some .int), .fieldLink RX10 10 "HookPier" "plan" "LHookPier$Plan;", .methodLink RX10 381 yX6_hasAnswer, .instanceMethod yX6_hasAnswer, .selects RX6 yX6_hasAnswer yX6_hasAnswer, .initialized RX6, .code yX6_hasAnswer cX6_hasAnswer 2 (some .boolean), .fieldLink RX6 30 "HookPier$Plan" "answers" "I", .code yX10_within cX10_within 3 (some .boolean), .static yX10_within]) [5, 6, 7, 8, 4, 9, 10, 11, 12, 13, 14, 15, 16, 17, 18] (by decide +kernel) (by decide +kernel) : GoodIn vX10_takes (.code yX10_wishTrouble cX10_wishTrouble 6 (some .int) :: [.methodLink RX10 102 yX10_answerTrouble, .instanceMethod yX10_answerTrouble, .selects RX10 yX10_answerTrouble yX10_answerTrouble, .initialized RX10, .code yX10_answerTrouble cX10_answerTrouble 2 (some .int), .fieldLink RX10 10 "HookPier" "plan" "LHookPier$Plan;", .methodLink RX10 381 yX6_hasAnswer, .instanceMethod yX6_hasAnswer, .selects RX6 yX6_hasAnswer yX6_hasAnswer, .initialized RX6, .code yX6_hasAnswer cX6_hasAnswer 2 (some .boolean), .fieldLink RX6 30 "HookPier$Plan" "answers" "I", .code yX10_within cX10_within 3 (some .boolean), .static yX10_within])) (goodIn_sub iX10_takes_X10 (by decide +kernel))) (goodIn_sub iX10_takes_X6 (by decide +kernel)))
set_option maxRecDepth 20000 in
theorem gX10_takes_1 : GoodIn vX10_takes (wsV RX10 79 RX10 yX10_refused vX10_refused_3) := goodIn_app (goodIn_r [.methodLink RX10 79 yX10_refused, .instanceMethod yX10_refused, .selects RX10 yX10_refused yX10_refused, .initialized RX10] [19, 20, 21, 4] (by decide +kernel) (by decide +kernel)) (goodIn_ca (goodIn_r (.code yX10_refused cX10_refused 2 (some .boolean) :: [.fieldLink RX10 61 "HookPier" "troubleNow" "I"]) [22, 23] (by decide +kernel) (by decide +kernel) : GoodIn vX10_takes (.code yX10_refused cX10_refused 2 (some .boolean) :: [.fieldLink RX10 61 "HookPier" "troubleNow" "I"])) (goodIn_sub iX10_takes_X10 (by decide +kernel)))
set_option maxHeartbeats 1000000 in
set_option maxRecDepth 100000 in
theorem kX10_takes (l : Launch) (dC : Nat → ClassId) (dI : Nat → Nat → Nat) (a0 : Nat) (k1 : Int32) (k2 : Int32) (k3 : Int32) (k4 : Int32) (k5 : Int32) (a6 : Nat) (g7 : Value) (g8 : Value) (g9 : Value) (g10 : Value) (g11 : Value) (g12 : Value) (g13 : Value) (g14 : Value) (g15 : Value) (g16 : Value) (g17 : Value) (g18 : Value) (g19 : Value) (g20 : Value) (g21 : Value) (g22 : Value) (g23 : Value) (g24 : Value) (g25 : Value) (g26 : Value) (g27 : Value) (g28 : Value) (g29 : Value) (g30 : Value) (g31 : Value) (g32 : Value) (sz : Nat) : Met l yX10_takes vX10_takes ({ frames := 4, cells := 0, slots := 0, locals := 89 }) (PC (dC, dI) [.ref a0, .int k1, .int k2, .int k3, .int k4, .int k5] sz [(a0, .inr (7, [.ref a6, g7, g8, g9, g10, g11, g12, g13, g14, g15])), (a6, .inr (4, [g16, g17, g18, g19, g20, g21, .int 0, g22, g23, g24, g25, g26, g27, g28, g29, g30, g31, g32]))] []) (va_Ql (S := Unit) (fun (r : Int64) _ => r = (-1)) (fun _ t => BC (dC, dI) (va_A [(a0, .inr (7, [.ref a6, g7, g8, g9, g10, g11, g12, g13, g14, g15])), (a6, .inr (4, [g16, g17, g18, g19, g20, g21, .int 0, g22, g23, g24, g25, g26, g27, g28, g29, g30, g31, g32]))] sz) [] [] t) (va_A [(a0, .inr (7, [.ref a6, g7, g8, g9, g10, g11, g12, g13, g14, g15])), (a6, .inr (4, [g16, g17, g18, g19, g20, g21, .int 0, g22, g23, g24, g25, g26, g27, g28, g29, g30, g31, g32]))] sz)) 0 0 (va_A [(a0, .inr (7, [.ref a6, g7, g8, g9, g10, g11, g12, g13, g14, g15])), (a6, .inr (4, [g16, g17, g18, g19, g20, g21, .int 0, g22, g23, g24, g25, g26, g27, g28, g29, g30, g31, g32]))] sz) := by
  refine Met.ofW (cc := cX10_takes) (maxL := 6) (ret := (some .long)) (by decide) rfl ?_
  intro p e s m args below meth c s₁ B hml hv
  obtain ⟨rfl, hsz, hP, hK, hD0, hN⟩ := hv
  have hx := B.exec
  have hb := B.bytes
  have hr := B.returns
  have hts := atoms_spec (ws := vX10_takes) B.pre
  have hown : s.vm.findClass RX10 = some m.cls := findClass_of_methodNamed B.named
  have hlocks := B.notSynchronized
  subst hsz
  have hD := hD0.self (sz := s.heap.size)
  generalize hAe : va_A [(a0, .inr (7, [.ref a6, g7, g8, g9, g10, g11, g12, g13, g14, g15])), (a6, .inr (4, [g16, g17, g18, g19, g20, g21, .int 0, g22, g23, g24, g25, g26, g27, g28, g29, g30, g31, g32]))] s.heap.size = A at hD ⊢
  have hA : ∀ q : Nat, s.heap.size ≤ q → A q := fun q h => by rw [← hAe]; exact Or.inr h
  have hS : va_S A s.heap s.heap [] := va_S.rf
  have hP : va_P (dC, dI) vwCl [(a0, .inr (7, [.ref a6, g7, g8, g9, g10, g11, g12, g13, g14, g15])), (a6, .inr (4, [g16, g17, g18, g19, g20, g21, .int 0, g22, g23, g24, g25, g26, g27, g28, g29, g30, g31, g32]))] s.heap := hP
  have hl := lv_entry ([.ref a0, .int k1, .int k2, .int k3, .int k4, .int k5]) (n := 6) (Nat.le_of_ble_eq_true rfl)
  rw [lg_entry_eq]
  generalize (lg_sl ([.ref a0, .int k1, .int k2, .int k3, .int k4, .int k5]) ++ List.replicate (6 - (lg_sl ([.ref a0, .int k1, .int k2, .int k3, .int k4, .int k5])).length) Slot.unset).toArray = ls at hl ⊢
  have hl : lv_has ls 6 [(0, .ref a0), (1, .int k1), (2, .int k2), (3, .int k3), (4, .int k4), (5, .int k5)] := hl
  refine lv_aload_n hx hb dX10_takes_0 rfl (lv_at hl 0 rfl) ?_
  refine lv_aload_n hx hb dX10_takes_1 rfl (lv_at hl 0 rfl) ?_
  refine lv_iload_n hx hb dX10_takes_2 rfl (lv_at hl 1 rfl) ?_
  refine lv_iload_n hx hb dX10_takes_3 rfl (lv_at hl 2 rfl) ?_
  refine lv_iload_n hx hb dX10_takes_4 rfl (lv_at hl 3 rfl) ?_
  refine lv_iload hx hb dX10_takes_5 (lv_at hl 4 rfl) ?_
  refine cl_i (wc := [(a0, .inr (7, [.ref a6, g7, g8, g9, g10, g11, g12, g13, g14, g15])), (a6, .inr (4, [g16, g17, g18, g19, g20, g21, .int 0, g22, g23, g24, g25, g26, g27, g28, g29, g30, g31, g32]))]) (wr := []) (va_runV (As := [.int k1, .int k2, .int k3, .int k4]) (rest := [.ref a0]) ⟨hx, hb, hml, hown, hts⟩ (kX10_wishTrouble l dC dI a0 k1 k2 k3 k4 a6 (g7) (g8) (g9) (g10) (g11) (g12) (g13) (g14) (g15) (g16) (g17) (g18) (g19) (g20) (g21) (g22) (g23) (g24) (g25) (g26) (g27) (g28) (g29) (g30) (g31) (g32) s.heap.size) (cwV 4 hts gX10_takes_0 rfl rfl rfl (by decide +kernel) ⟨Nat.le_of_ble_eq_true rfl, Nat.le_of_ble_eq_true rfl⟩) (PV (hP.sub (ws' := [(a0, .inr (7, [.ref a6, g7, g8, g9, g10, g11, g12, g13, g14, g15])), (a6, .inr (4, [g16, g17, g18, g19, g20, g21, .int 0, g22, g23, g24, g25, g26, g27, g28, g29, g30, g31, g32]))]) [0, 1] rfl) (hK.sub (tys' := []) [] rfl) (hD.sub (ws' := [(a0, .inr (7, [.ref a6, g7, g8, g9, g10, g11, g12, g13, g14, g15])), (a6, .inr (4, [g16, g17, g18, g19, g20, g21, .int 0, g22, g23, g24, g25, g26, g27, g28, g29, g30, g31, g32]))]) [0, 1] (by decide) rfl) hN 0 rfl rfl) rfl rfl hl.1 rfl (lv_room (Nat.le_of_ble_eq_true rfl)) dX10_takes_7 ⟨Nat.le_of_ble_eq_true rfl, Nat.le_of_ble_eq_true rfl⟩) hP hD hK hS hA [0, 1] [] rfl rfl (by decide) (by decide) (fun z1 _u H locs hw hP hD hK hS => ?_)
  have hP : va_P (dC, dI) vwCl [(a0, .inr (7, [.ref a6, g7, g8, g9, g10, g11, g12, g13, g14, g15])), (a6, .inr (4, [g16, g17, g18, g19, g20, g21, .int 0, g22, g23, g24, g25, g26, g27, g28, g29, g30, g31, g32]))] H := hP
  have hD : va_D A [(a0, .inr (7, [.ref a6, g7, g8, g9, g10, g11, g12, g13, g14, g15])), (a6, .inr (4, [g16, g17, g18, g19, g20, g21, .int 0, g22, g23, g24, g25, g26, g27, g28, g29, g30, g31, g32]))] := hD
  have hK : va_K (dC, dI) vwCl [] s := hK
  obtain rfl : z1 = 1 := hw
  refine cl_i (wc := [(a0, .inr (7, [.ref a6, g7, g8, g9, g10, g11, g12, g13, g14, g15]))]) (wr := [(a6, .inr (4, [g16, g17, g18, g19, g20, g21, .int 0, g22, g23, g24, g25, g26, g27, g28, g29, g30, g31, g32]))]) (va_runV (As := [.int 1]) (rest := []) ⟨hx, hb, hml, hown, hts⟩ (kX10_refused_3 l dC dI a0 (.ref a6) (g7) (g8) (g9) (g10) (g11) (g12) (g13) (g14) (g15) H.size) (cwV 1 hts gX10_takes_1 rfl rfl rfl (by decide +kernel) ⟨Nat.le_of_ble_eq_true rfl, Nat.le_of_ble_eq_true rfl⟩) (PV (hP.sub (ws' := [(a0, .inr (7, [.ref a6, g7, g8, g9, g10, g11, g12, g13, g14, g15]))]) [0] rfl) (hK.sub (tys' := []) [] rfl) (hD.sub (ws' := [(a0, .inr (7, [.ref a6, g7, g8, g9, g10, g11, g12, g13, g14, g15]))]) [0] (by decide) rfl) hN 0 rfl rfl) rfl rfl hl.1 rfl (lv_room (Nat.le_of_ble_eq_true rfl)) dX10_takes_10 ⟨Nat.le_of_ble_eq_true rfl, Nat.le_of_ble_eq_true rfl⟩) hP hD hK hS hA [0] [1] rfl rfl (by decide) (by decide) (fun z2 _u H locs hw hP hD hK hS => ?_)
  have hP : va_P (dC, dI) vwCl [(a6, .inr (4, [g16, g17, g18, g19, g20, g21, .int 0, g22, g23, g24, g25, g26, g27, g28, g29, g30, g31, g32])), (a0, .inr (7, [.ref a6, g7, g8, g9, g10, g11, g12, g13, .int 1, g15]))] H := hP
  have hD : va_D A [(a6, .inr (4, [g16, g17, g18, g19, g20, g21, .int 0, g22, g23, g24, g25, g26, g27, g28, g29, g30, g31, g32])), (a0, .inr (7, [.ref a6, g7, g8, g9, g10, g11, g12, g13, .int 1, g15]))] := hD
  have hK : va_K (dC, dI) vwCl [] s := hK
  obtain rfl : z2 = 1 := hw
  refine lv_if_eq (tgt := 20) hx hb dX10_takes_13 (by decide) (fun c3 => absurd c3 (by decide)) (fun _ => ?_)
  refine lv_ldc2 hx hb hown (hts (.constantLong RX10 187 (-1)) (List.mem_of_getElem? (i := 24) rfl)) dX10_takes_16 ?_
  have hP9 := hP.sub (ws' := []) [] rfl
  have hD9 := hD.sub (ws' := []) [] (by decide) rfl
  have hK9 := hK.sub (tys' := []) [] rfl
  exact W.lret (v := (-1)) hx hb hr (fun t ht hW => ⟨⟨(-1), (), rfl, rfl, by rw [ht]; exact hP9, va_K.moved hW.alike hK9, hD9⟩, hS.F ht⟩) hS.2.2 dX10_takes_19
theorem dX12_takes_0 : decode cX12_takes 0 = .ok (.aload_n 0, 1) := by decide +kernel
theorem dX12_takes_1 : decode cX12_takes 1 = .ok (.iconst 0, 1) := by decide +kernel
theorem dX12_takes_11 : decode cX12_takes 11 = .ok (.iload_n 2, 1) := by decide +kernel
theorem dX12_takes_12 : decode cX12_takes 12 = .ok (.iload_n 3, 1) := by decide +kernel
theorem dX12_takes_13 : decode cX12_takes 13 = .ok (.iload 4, 2) := by decide +kernel
theorem dX12_takes_15 : decode cX12_takes 15 = .ok (.invokevirtual 353, 3) := by decide +kernel
theorem dX12_takes_18 : decode cX12_takes 18 = .ok (.istore 6, 2) := by decide +kernel
theorem dX12_takes_2 : decode cX12_takes 2 = .ok (.putfield 36, 3) := by decide +kernel
theorem dX12_takes_20 : decode cX12_takes 20 = .ok (.iload 6, 2) := by decide +kernel
theorem dX12_takes_22 : decode cX12_takes 22 = .ok (.ifCond .le 13, 3) := by decide +kernel
theorem dX12_takes_25 : decode cX12_takes 25 = .ok (.aload_n 0, 1) := by decide +kernel
theorem dX12_takes_26 : decode cX12_takes 26 = .ok (.iload 6, 2) := by decide +kernel
theorem dX12_takes_28 : decode cX12_takes 28 = .ok (.invokevirtual 42, 3) := by decide +kernel
theorem dX12_takes_31 : decode cX12_takes 31 = .ok (.i2l, 1) := by decide +kernel
theorem dX12_takes_32 : decode cX12_takes 32 = .ok (.goto 26, 3) := by decide +kernel
theorem dX12_takes_5 : decode cX12_takes 5 = .ok (.aload_n 0, 1) := by decide +kernel
theorem dX12_takes_58 : decode cX12_takes 58 = .ok (.lreturn, 1) := by decide +kernel
theorem dX12_takes_6 : decode cX12_takes 6 = .ok (.aload_n 0, 1) := by decide +kernel
theorem dX12_takes_7 : decode cX12_takes 7 = .ok (.iload_n 1, 1) := by decide +kernel
theorem dX12_takes_8 : decode cX12_takes 8 = .ok (.invokevirtual 320, 3) := by decide +kernel
def vX12_takes : List Cond := .code yX12_takes cX12_takes 7 (some .long) :: ([.fieldLink RX12 36 "HookPierModel" "thrown" "I", .methodLink RX12 320 yX12_isAnswer, .instanceMethod yX12_isAnswer, .selects RX12 yX12_isAnswer yX12_isAnswer, .initialized RX12, .code yX12_isAnswer cX12_isAnswer 2 (some .boolean), .fieldLink RX12 299 "HookPierModel" "pier" "LHookPierModel$Pier;", .methodLink RX12 353 yX12_refusesQuestion, .instanceMethod yX12_refusesQuestion, .selects RX12 yX12_refusesQuestion yX12_refusesQuestion, .code yX12_refusesQuestion cX12_refusesQuestion 5 (some .int), .methodLink RX12 42 yX12_refused, .instanceMethod yX12_refused, .selects RX12 yX12_refused yX12_refused, .code yX12_refused cX12_refused 2 (some .int), .fieldLink RX12 39 "HookPierModel" "trouble" "I", .fieldLink RX12 9 "HookPierModel" "where" "I"] ++ wsX120)
theorem iX12_takes_X12 : ∀ w ∈ wsX120, w ∈ vX12_takes := fun _ h => List.mem_cons_of_mem _ (List.mem_append_right _ h)
set_option maxRecDepth 20000 in
theorem gX12_takes_0 : GoodIn vX12_takes (wsV RX12 320 RX12 yX12_isAnswer vX12_isAnswer) := goodIn_app (goodIn_r [.methodLink RX12 320 yX12_isAnswer, .instanceMethod yX12_isAnswer, .selects RX12 yX12_isAnswer yX12_isAnswer, .initialized RX12] [2, 3, 4, 5] (by decide +kernel) (by decide +kernel)) (goodIn_ca (goodIn_r (.code yX12_isAnswer cX12_isAnswer 2 (some .boolean) :: [.fieldLink RX12 299 "HookPierModel" "pier" "LHookPierModel$Pier;"]) [6, 7] (by decide +kernel) (by decide +kernel) : GoodIn vX12_takes (.code yX12_isAnswer cX12_isAnswer 2 (some .boolean) :: [.fieldLink RX12 299 "HookPierModel" "pier" "LHookPierModel$Pier;"])) (goodIn_sub iX12_takes_X12 (by decide +kernel)))
set_option maxRecDepth 20000 in
theorem gX12_takes_1 : GoodIn vX12_takes (wsV RX12 353 RX12 yX12_refusesQuestion vX12_refusesQuestion) := goodIn_app (goodIn_r [.methodLink RX12 353 yX12_refusesQuestion, .instanceMethod yX12_refusesQuestion, .selects RX12 yX12_refusesQuestion yX12_refusesQuestion, .initialized RX12] [8, 9, 10, 5] (by decide +kernel) (by decide +kernel)) (goodIn_r (.code yX12_refusesQuestion cX12_refusesQuestion 5 (some .int) :: []) [11] (by decide +kernel) (by decide +kernel) : GoodIn vX12_takes (.code yX12_refusesQuestion cX12_refusesQuestion 5 (some .int) :: []))
set_option maxRecDepth 20000 in
theorem gX12_takes_2 : GoodIn vX12_takes (wsV RX12 42 RX12 yX12_refused vX12_refused_1) := goodIn_app (goodIn_r [.methodLink RX12 42 yX12_refused, .instanceMethod yX12_refused, .selects RX12 yX12_refused yX12_refused, .initialized RX12] [12, 13, 14, 5] (by decide +kernel) (by decide +kernel)) (goodIn_ca (goodIn_r (.code yX12_refused cX12_refused 2 (some .int) :: [.fieldLink RX12 39 "HookPierModel" "trouble" "I", .fieldLink RX12 9 "HookPierModel" "where" "I"]) [15, 16, 17] (by decide +kernel) (by decide +kernel) : GoodIn vX12_takes (.code yX12_refused cX12_refused 2 (some .int) :: [.fieldLink RX12 39 "HookPierModel" "trouble" "I", .fieldLink RX12 9 "HookPierModel" "where" "I"])) (goodIn_sub iX12_takes_X12 (by decide +kernel)))
set_option maxHeartbeats 1000000 in
set_option maxRecDepth 100000 in
theorem kX12_takes (l : Launch) (dC : Nat → ClassId) (dI : Nat → Nat → Nat) (a0 : Nat) (k1 : Int32) (k2 : Int32) (k3 : Int32) (k4 : Int32) (k5 : Int32) (g6 : Value) (g7 : Value) (g8 : Value) (g9 : Value) (g10 : Value) (g11 : Value) (g12 : Value) (g13 : Value) (g14 : Value) (g15 : Value) (g16 : Value) (g17 : Value) (g18 : Value) (g19 : Value) (g20 : Value) (g21 : Value) (g22 : Value) (g23 : Value) (g24 : Value) (g25 : Value) (g26 : Value) (g27 : Value) (g28 : Value) (g29 : Value) (g30 : Value) (g31 : Value) (g32 : Value) (g33 : Value) (g34 : Value) (sz : Nat) : Met l yX12_takes vX12_takes ({ frames := 1, cells := 0, slots := 0, locals := 24 }) (PC (dC, dI) [.ref a0, .int k1, .int k2, .int k3, .int k4, .int k5] sz [(a0, .inr (9, [g6, g7, g8, .null, g9, g10, g11, g12, g13, g14, g15, g16, g17, g18, g19, g20, g21, g22, g23, g24, g25, g26, g27, g28, g29, g30, g31, g32, g33, g34]))] []) (va_Ql (S := Unit) (fun (r : Int64) _ => r = (-1)) (fun _ t => BC (dC, dI) (va_A [(a0, .inr (9, [g6, g7, g8, .null, g9, g10, g11, g12, g13, g14, g15, g16, g17, g18, g19, g20, g21, g22, g23, g24, g25, g26, g27, g28, g29, g30, g31, g32, g33, g34]))] sz) [] [] t) (va_A [(a0, .inr (9, [g6, g7, g8, .null, g9, g10, g11, g12, g13, g14, g15, g16, g17, g18, g19, g20, g21, g22, g23, g24, g25, g26, g27, g28, g29, g30, g31, g32, g33, g34]))] sz)) 0 0 (va_A [(a0, .inr (9, [g6, g7, g8, .null, g9, g10, g11, g12, g13, g14, g15, g16, g17, g18, g19, g20, g21, g22, g23, g24, g25, g26, g27, g28, g29, g30, g31, g32, g33, g34]))] sz) := by
  refine Met.ofW (cc := cX12_takes) (maxL := 7) (ret := (some .long)) (by decide) rfl ?_
  intro p e s m args below meth c s₁ B hml hv
  obtain ⟨rfl, hsz, hP, hK, hD0, hN⟩ := hv
  have hx := B.exec
  have hb := B.bytes
  have hr := B.returns
  have hts := atoms_spec (ws := vX12_takes) B.pre
  have hown : s.vm.findClass RX12 = some m.cls := findClass_of_methodNamed B.named
  have hlocks := B.notSynchronized
  subst hsz
  have hD := hD0.self (sz := s.heap.size)
  generalize hAe : va_A [(a0, .inr (9, [g6, g7, g8, .null, g9, g10, g11, g12, g13, g14, g15, g16, g17, g18, g19, g20, g21, g22, g23, g24, g25, g26, g27, g28, g29, g30, g31, g32, g33, g34]))] s.heap.size = A at hD ⊢
  have hA : ∀ q : Nat, s.heap.size ≤ q → A q := fun q h => by rw [← hAe]; exact Or.inr h
  have hS : va_S A s.heap s.heap [] := va_S.rf
  have hP : va_P (dC, dI) vwCl [(a0, .inr (9, [g6, g7, g8, .null, g9, g10, g11, g12, g13, g14, g15, g16, g17, g18, g19, g20, g21, g22, g23, g24, g25, g26, g27, g28, g29, g30, g31, g32, g33, g34]))] s.heap := hP
  have hl := lv_entry ([.ref a0, .int k1, .int k2, .int k3, .int k4, .int k5]) (n := 7) (Nat.le_of_ble_eq_true rfl)
  rw [lg_entry_eq]
  generalize (lg_sl ([.ref a0, .int k1, .int k2, .int k3, .int k4, .int k5]) ++ List.replicate (7 - (lg_sl ([.ref a0, .int k1, .int k2, .int k3, .int k4, .int k5])).length) Slot.unset).toArray = ls at hl ⊢
  have hl : lv_has ls 7 [(0, .ref a0), (1, .int k1), (2, .int k2), (3, .int k3), (4, .int k4), (5, .int k5)] := hl
  refine lv_aload_n hx hb dX12_takes_0 rfl (lv_at hl 0 rfl) ?_
  refine lv_iconst (v := 0) hx hb dX12_takes_1 (by decide) ?_
  refine va_put (D := (dC, dI)) (ci := 9) (v := .int 0) (ty := .int) (C := RX12) (T := TX12) (N := 30) hx hb hts iX12_takes_X12 tyX12 tyX12_ok nmX12 hown hK hP hD hS 0 rfl rfl 0 (by decide) (hts (.fieldLink RX12 36 "HookPierModel" "thrown" "I") (List.mem_of_getElem? (i := 1) rfl)) (fun _ h9 => h9) rfl (by decide +kernel) rfl rfl (Nat.le_of_ble_eq_true rfl) dX12_takes_2 (fun H locs hP hD hS => ?_)
  have hP : va_P (dC, dI) vwCl [(a0, .inr (9, [.int 0, g7, g8, .null, g9, g10, g11, g12, g13, g14, g15, g16, g17, g18, g19, g20, g21, g22, g23, g24, g25, g26, g27, g28, g29, g30, g31, g32, g33, g34]))] H := hP
  have hD : va_D A [(a0, .inr (9, [.int 0, g7, g8, .null, g9, g10, g11, g12, g13, g14, g15, g16, g17, g18, g19, g20, g21, g22, g23, g24, g25, g26, g27, g28, g29, g30, g31, g32, g33, g34]))] := hD
  refine lv_aload_n hx hb dX12_takes_5 rfl (lv_at hl 0 rfl) ?_
  refine lv_aload_n hx hb dX12_takes_6 rfl (lv_at hl 0 rfl) ?_
  refine lv_iload_n hx hb dX12_takes_7 rfl (lv_at hl 1 rfl) ?_
  refine cl_i (wc := [(a0, .inr (9, [.int 0, g7, g8, .null, g9, g10, g11, g12, g13, g14, g15, g16, g17, g18, g19, g20, g21, g22, g23, g24, g25, g26, g27, g28, g29, g30, g31, g32, g33, g34]))]) (wr := []) (va_runV (As := [.int k1]) (rest := [.ref a0]) ⟨hx, hb, hml, hown, hts⟩ (kX12_isAnswer l dC dI a0 k1 (.int 0) (g7) (g8) (g9) (g10) (g11) (g12) (g13) (g14) (g15) (g16) (g17) (g18) (g19) (g20) (g21) (g22) (g23) (g24) (g25) (g26) (g27) (g28) (g29) (g30) (g31) (g32) (g33) (g34) H.size) (cwV 1 hts gX12_takes_0 rfl rfl rfl (by decide +kernel) ⟨Nat.le_of_ble_eq_true rfl, Nat.le_of_ble_eq_true rfl⟩) (PV (hP.sub (ws' := [(a0, .inr (9, [.int 0, g7, g8, .null, g9, g10, g11, g12, g13, g14, g15, g16, g17, g18, g19, g20, g21, g22, g23, g24, g25, g26, g27, g28, g29, g30, g31, g32, g33, g34]))]) [0] rfl) (hK.sub (tys' := []) [] rfl) (hD.sub (ws' := [(a0, .inr (9, [.int 0, g7, g8, .null, g9, g10, g11, g12, g13, g14, g15, g16, g17, g18, g19, g20, g21, g22, g23, g24, g25, g26, g27, g28, g29, g30, g31, g32, g33, g34]))]) [0] (by decide) rfl) hN 0 rfl rfl) rfl rfl hl.1 rfl (lv_room (Nat.le_of_ble_eq_true rfl)) dX12_takes_8 ⟨Nat.le_of_ble_eq_true rfl, Nat.le_of_ble_eq_true rfl⟩) hP hD hK hS hA [0] [] rfl rfl (by decide) (by decide) (fun z1 _u H locs hw hP hD hK hS => ?_)
  have hP : va_P (dC, dI) vwCl [(a0, .inr (9, [.int 0, g7, g8, .null, g9, g10, g11, g12, g13, g14, g15, g16, g17, g18, g19, g20, g21, g22, g23, g24, g25, g26, g27, g28, g29, g30, g31, g32, g33, g34]))] H := hP
  have hD : va_D A [(a0, .inr (9, [.int 0, g7, g8, .null, g9, g10, g11, g12, g13, g14, g15, g16, g17, g18, g19, g20, g21, g22, g23, g24, g25, g26, g27, g28, g29, g30, g31, g32, g33, g34]))] := hD
  have hK : va_K (dC, dI) vwCl [] s := hK
  obtain rfl : z1 = 0 := hw
  refine lv_iload_n hx hb dX12_takes_11 rfl (lv_at hl 2 rfl) ?_
  refine lv_iload_n hx hb dX12_takes_12 rfl (lv_at hl 3 rfl) ?_
  refine lv_iload hx hb dX12_takes_13 (lv_at hl 4 rfl) ?_
  refine cl_i (wc := [(a0, .inr (9, [.int 0, g7, g8, .null, g9, g10, g11, g12, g13, g14, g15, g16, g17, g18, g19, g20, g21, g22, g23, g24, g25, g26, g27, g28, g29, g30, g31, g32, g33, g34]))]) (wr := []) (va_runV (As := [.int 0, .int k2, .int k3, .int k4]) (rest := []) ⟨hx, hb, hml, hown, hts⟩ (kX12_refusesQuestion l dC dI a0 k2 k3 k4 (.int 0) (g7) (g8) (.null) (g9) (g10) (g11) (g12) (g13) (g14) (g15) (g16) (g17) (g18) (g19) (g20) (g21) (g22) (g23) (g24) (g25) (g26) (g27) (g28) (g29) (g30) (g31) (g32) (g33) (g34) H.size) (cwV 4 hts gX12_takes_1 rfl rfl rfl (by decide +kernel) ⟨Nat.le_of_ble_eq_true rfl, Nat.le_of_ble_eq_true rfl⟩) (PV (hP.sub (ws' := [(a0, .inr (9, [.int 0, g7, g8, .null, g9, g10, g11, g12, g13, g14, g15, g16, g17, g18, g19, g20, g21, g22, g23, g24, g25, g26, g27, g28, g29, g30, g31, g32, g33, g34]))]) [0] rfl) (hK.sub (tys' := []) [] rfl) (hD.sub (ws' := [(a0, .inr (9, [.int 0, g7, g8, .null, g9, g10, g11, g12, g13, g14, g15, g16, g17, g18, g19, g20, g21, g22, g23, g24, g25, g26, g27, g28, g29, g30, g31, g32, g33, g34]))]) [0] (by decide) rfl) hN 0 rfl rfl) rfl rfl hl.1 rfl (lv_room (Nat.le_of_ble_eq_true rfl)) dX12_takes_15 ⟨Nat.le_of_ble_eq_true rfl, Nat.le_of_ble_eq_true rfl⟩) hP hD hK hS hA [0] [] rfl rfl (by decide) (by decide) (fun z2 _u H locs hw hP hD hK hS => ?_)
  have hP : va_P (dC, dI) vwCl [(a0, .inr (9, [.int 0, g7, g8, .null, g9, g10, g11, g12, g13, g14, g15, g16, g17, g18, g19, g20, g21, g22, g23, g24, g25, g26, g27, g28, g29, g30, g31, g32, g33, g34]))] H := hP
  have hD : va_D A [(a0, .inr (9, [.int 0, g7, g8, .null, g9, g10, g11, g12, g13, g14, g15, g16, g17, g18, g19, g20, g21, g22, g23, g24, g25, g26, g27, g28, g29, g30, g31, g32, g33, g34]))] := hD
  have hK : va_K (dC, dI) vwCl [] s := hK
  obtain rfl : z2 = 1 := hw
  refine lv_istore (lv' := [(6, .int 1), (0, .ref a0), (1, .int k1), (2, .int k2), (3, .int k3), (4, .int k4), (5, .int k5)]) hx hb dX12_takes_18 hl (by decide) rfl (fun ls hl => ?_)
  refine lv_iload hx hb dX12_takes_20 (lv_at hl 0 rfl) ?_
  refine lv_if_le (tgt := 35) hx hb dX12_takes_22 (by decide) (fun c3 => absurd c3 (by decide)) (fun _ => ?_)
  refine lv_aload_n hx hb dX12_takes_25 rfl (lv_at hl 1 rfl) ?_
  refine lv_iload hx hb dX12_takes_26 (lv_at hl 0 rfl) ?_
  refine cl_i (wc := [(a0, .inr (9, [.int 0, g7, g8, .null, g9, g10, g11, g12, g13, g14, g15, g16, g17, g18, g19, g20, g21, g22, g23, g24, g25, g26, g27, g28, g29, g30, g31, g32, g33, g34]))]) (wr := []) (va_runV (As := [.int 1]) (rest := []) ⟨hx, hb, hml, hown, hts⟩ (kX12_refused_1 l dC dI a0 (.int 0) (g7) (g8) (.null) (g9) (g10) (g11) (g12) (g13) (g14) (g15) (g16) (g17) (g18) (g19) (g20) (g21) (g22) (g23) (g24) (g25) (g26) (g27) (g28) (g29) (g30) (g31) (g32) (g33) (g34) H.size) (cwV 1 hts gX12_takes_2 rfl rfl rfl (by decide +kernel) ⟨Nat.le_of_ble_eq_true rfl, Nat.le_of_ble_eq_true rfl⟩) (PV (hP.sub (ws' := [(a0, .inr (9, [.int 0, g7, g8, .null, g9, g10, g11, g12, g13, g14, g15, g16, g17, g18, g19, g20, g21, g22, g23, g24, g25, g26, g27, g28, g29, g30, g31, g32, g33, g34]))]) [0] rfl) (hK.sub (tys' := []) [] rfl) (hD.sub (ws' := [(a0, .inr (9, [.int 0, g7, g8, .null, g9, g10, g11, g12, g13, g14, g15, g16, g17, g18, g19, g20, g21, g22, g23, g24, g25, g26, g27, g28, g29, g30, g31, g32, g33, g34]))]) [0] (by decide) rfl) hN 0 rfl rfl) rfl rfl hl.1 rfl (lv_room (Nat.le_of_ble_eq_true rfl)) dX12_takes_28 ⟨Nat.le_of_ble_eq_true rfl, Nat.le_of_ble_eq_true rfl⟩) hP hD hK hS hA [0] [] rfl rfl (by decide) (by decide) (fun z4 _u H locs hw hP hD hK hS => ?_)
  have hP : va_P (dC, dI) vwCl [(a0, .inr (9, [.int 0, .int 1, .int (-1), .null, g9, g10, g11, g12, g13, g14, g15, g16, g17, g18, g19, g20, g21, g22, g23, g24, g25, g26, g27, g28, g29, g30, g31, g32, g33, g34]))] H := hP
  have hD : va_D A [(a0, .inr (9, [.int 0, .int 1, .int (-1), .null, g9, g10, g11, g12, g13, g14, g15, g16, g17, g18, g19, g20, g21, g22, g23, g24, g25, g26, g27, g28, g29, g30, g31, g32, g33, g34]))] := hD
  have hK : va_K (dC, dI) vwCl [] s := hK
  obtain rfl : z4 = (-1) := hw
  refine lv_i2l (v := (-1)) hx hb dX12_takes_31 (by decide) ?_
  refine lv_goto (tgt := 58) hx hb dX12_takes_32 (by decide) ?_
  have hP9 := hP.sub (ws' := []) [] rfl
  have hD9 := hD.sub (ws' := []) [] (by decide) rfl
  have hK9 := hK.sub (tys' := []) [] rfl
  exact W.lret (v := (-1)) hx hb hr (fun t ht hW => ⟨⟨(-1), (), rfl, rfl, by rw [ht]; exact hP9, va_K.moved hW.alike hK9, hD9⟩, hS.F ht⟩) hS.2.2 dX12_takes_58
theorem dX6_hasSpot_0 : decode cX6_hasSpot 0 = .ok (.iload_n 1, 1) := by decide +kernel
theorem dX6_hasSpot_1 : decode cX6_hasSpot 1 = .ok (.iconst 0, 1) := by decide +kernel
theorem dX6_hasSpot_11 : decode cX6_hasSpot 11 = .ok (.ireturn, 1) := by decide +kernel
theorem dX6_hasSpot_2 : decode cX6_hasSpot 2 = .ok (.aload_n 0, 1) := by decide +kernel
theorem dX6_hasSpot_3 : decode cX6_hasSpot 3 = .ok (.getfield 9, 3) := by decide +kernel
theorem dX6_hasSpot_6 : decode cX6_hasSpot 6 = .ok (.iconst 1, 1) := by decide +kernel
theorem dX6_hasSpot_7 : decode cX6_hasSpot 7 = .ok (.isub, 1) := by decide +kernel
theorem dX6_hasSpot_8 : decode cX6_hasSpot 8 = .ok (.invokestatic 68, 3) := by decide +kernel
def vX6_hasSpot : List Cond := .code yX6_hasSpot cX6_hasSpot 2 (some .boolean) :: ([.fieldLink RX6 9 "HookPier$Plan" "spots" "I", .code yX10_within cX10_within 3 (some .boolean), .initialized RX10, .static yX10_within] ++ wsX60)
theorem iX6_hasSpot_X6 : ∀ w ∈ wsX60, w ∈ vX6_hasSpot := fun _ h => List.mem_cons_of_mem _ (List.mem_append_right _ h)
set_option maxRecDepth 20000 in
theorem gX6_hasSpot_0 : GoodIn vX6_hasSpot vX10_within_2 := (goodIn_r (.code yX10_within cX10_within 3 (some .boolean) :: []) [2] (by decide +kernel) (by decide +kernel) : GoodIn vX6_hasSpot (.code yX10_within cX10_within 3 (some .boolean) :: []))
set_option maxHeartbeats 1000000 in
set_option maxRecDepth 100000 in
theorem kX6_hasSpot (l : Launch) (dC : Nat → ClassId) (dI : Nat → Nat → Nat) (a0 : Nat) (k1 : Int32) (g2 : Value) (g3 : Value) (g4 : Value) (g5 : Value) (g6 : Value) (g7 : Value) (g8 : Value) (g9 : Value) (g10 : Value) (g11 : Value) (g12 : Value) (g13 : Value) (g14 : Value) (g15 : Value) (g16 : Value) (g17 : Value) (g18 : Value) (sz : Nat) : Met l yX6_hasSpot vX6_hasSpot ({ frames := 1, cells := 0, slots := 0, locals := 22 }) (PC (dC, dI) [.ref a0, .int k1] sz [(a0, .inr (4, [.int 0, g2, g3, g4, g5, g6, g7, g8, g9, g10, g11, g12, g13, g14, g15, g16, g17, g18]))] []) (va_Qi (S := Unit) (fun (r : Int32) _ => r = 0) (fun _ t => BC (dC, dI) (va_A [(a0, .inr (4, [.int 0, g2, g3, g4, g5, g6, g7, g8, g9, g10, g11, g12, g13, g14, g15, g16, g17, g18]))] sz) [(a0, .inr (4, [.int 0, g2, g3, g4, g5, g6, g7, g8, g9, g10, g11, g12, g13, g14, g15, g16, g17, g18]))] [] t) (va_A [(a0, .inr (4, [.int 0, g2, g3, g4, g5, g6, g7, g8, g9, g10, g11, g12, g13, g14, g15, g16, g17, g18]))] sz)) 0 0 (va_A [(a0, .inr (4, [.int 0, g2, g3, g4, g5, g6, g7, g8, g9, g10, g11, g12, g13, g14, g15, g16, g17, g18]))] sz) := by
  refine Met.ofW (cc := cX6_hasSpot) (maxL := 2) (ret := (some .boolean)) (by decide) rfl ?_
  intro p e s m args below meth c s₁ B hml hv
  obtain ⟨rfl, hsz, hP, hK, hD0, hN⟩ := hv
  have hx := B.exec
  have hb := B.bytes
  have hr := B.returns
  have hts := atoms_spec (ws := vX6_hasSpot) B.pre
  have hown : s.vm.findClass RX6 = some m.cls := findClass_of_methodNamed B.named
  have hlocks := B.notSynchronized
  subst hsz
  have hD := hD0.self (sz := s.heap.size)
  generalize hAe : va_A [(a0, .inr (4, [.int 0, g2, g3, g4, g5, g6, g7, g8, g9, g10, g11, g12, g13, g14, g15, g16, g17, g18]))] s.heap.size = A at hD ⊢
  have hA : ∀ q : Nat, s.heap.size ≤ q → A q := fun q h => by rw [← hAe]; exact Or.inr h
  have hS : va_S A s.heap s.heap [] := va_S.rf
  have hP : va_P (dC, dI) vwCl [(a0, .inr (4, [.int 0, g2, g3, g4, g5, g6, g7, g8, g9, g10, g11, g12, g13, g14, g15, g16, g17, g18]))] s.heap := hP
  have hl := lv_entry ([.ref a0, .int k1]) (n := 2) (Nat.le_of_ble_eq_true rfl)
  rw [lg_entry_eq]
  generalize (lg_sl ([.ref a0, .int k1]) ++ List.replicate (2 - (lg_sl ([.ref a0, .int k1])).length) Slot.unset).toArray = ls at hl ⊢
  have hl : lv_has ls 2 [(0, .ref a0), (1, .int k1)] := hl
  refine lv_iload_n hx hb dX6_hasSpot_0 rfl (lv_at hl 1 rfl) ?_
  refine lv_iconst (v := 0) hx hb dX6_hasSpot_1 (by decide) ?_
  refine lv_aload_n hx hb dX6_hasSpot_2 rfl (lv_at hl 0 rfl) ?_
  refine va_get (D := (dC, dI)) (ci := 4) (v := .int 0) (C := RX6) (T := TX6) (N := 18) hx hb hts iX6_hasSpot_X6 hown hK hP 0 rfl rfl 0 (by decide) (hts (.fieldLink RX6 9 "HookPier$Plan" "spots" "I") (List.mem_of_getElem? (i := 1) rfl)) (fun _ h9 => h9) rfl dX6_hasSpot_3 ?_
  refine lv_iconst (v := 1) hx hb dX6_hasSpot_6 (by decide) ?_
  refine lv_isub hx hb dX6_hasSpot_7 ?_
  refine lv_topi (fun z1 ez1 => ?_)
  obtain rfl : z1 = (-1) := ez1.trans (by decide)
  refine cl_i (wc := []) (wr := [(a0, .inr (4, [.int 0, g2, g3, g4, g5, g6, g7, g8, g9, g10, g11, g12, g13, g14, g15, g16, g17, g18]))]) (va_runSN (As := [.int k1, .int 0, .int (-1)]) (rest := []) ⟨hx, hb, hml, hown, hts⟩ (kX10_within_2 l dC dI k1 s.heap.size) ⟨va_cnB 3 hts gX6_hasSpot_0 rfl rfl rfl (hN.1 (.methodLinkNest RX6 68 yX10_within "HookPier") (List.mem_of_getElem? (i := 10) rfl)) (hts (.initialized RX10) (List.mem_of_getElem? (i := 3) rfl)) (by decide +kernel) ⟨Nat.le_of_ble_eq_true rfl, Nat.le_of_ble_eq_true rfl⟩, (hts (.static yX10_within) (List.mem_of_getElem? (i := 4) rfl)), trivial⟩ (PS (hP.sub (ws' := []) [] rfl) (hK.sub (tys' := []) [] rfl) (hD.sub (ws' := []) [] (by decide) rfl) hN) rfl rfl hl.1 rfl (lv_room (Nat.le_of_ble_eq_true rfl)) dX6_hasSpot_8 ⟨Nat.le_of_ble_eq_true rfl, Nat.le_of_ble_eq_true rfl⟩) hP hD hK hS hA [] [0] rfl rfl (by decide) (by decide) (fun z2 _u H locs hw hP hD hK hS => ?_)
  have hP : va_P (dC, dI) vwCl [(a0, .inr (4, [.int 0, g2, g3, g4, g5, g6, g7, g8, g9, g10, g11, g12, g13, g14, g15, g16, g17, g18]))] H := hP
  have hD : va_D A [(a0, .inr (4, [.int 0, g2, g3, g4, g5, g6, g7, g8, g9, g10, g11, g12, g13, g14, g15, g16, g17, g18]))] := hD
  have hK : va_K (dC, dI) vwCl [] s := hK
  obtain rfl : z2 = 0 := hw
  have hP9 := hP.sub (ws' := [(a0, .inr (4, [.int 0, g2, g3, g4, g5, g6, g7, g8, g9, g10, g11, g12, g13, g14, g15, g16, g17, g18]))]) [0] rfl
  have hD9 := hD.sub (ws' := [(a0, .inr (4, [.int 0, g2, g3, g4, g5, g6, g7, g8, g9, g10, g11, g12, g13, g14, g15, g16, g17, g18]))]) [0] (by decide) rfl
  have hK9 := hK.sub (tys' := []) [] rfl
  exact W.zret (v := 0) hx hb hr rfl (fun t ht hW => ⟨⟨0, (), rfl, rfl, by rw [ht]; exact hP9, va_K.moved hW.alike hK9, hD9⟩, hS.F ht⟩) hS.2.2 dX6_hasSpot_11
theorem dX10_questionTrouble_0 : decode cX10_questionTrouble 0 = .ok (.aload_n 0, 1) := by decide +kernel
theorem dX10_questionTrouble_1 : decode cX10_questionTrouble 1 = .ok (.getfield 10, 3) := by decide +kernel
theorem dX10_questionTrouble_22 : decode cX10_questionTrouble 22 = .ok (.iconst 1, 1) := by decide +kernel
theorem dX10_questionTrouble_23 : decode cX10_questionTrouble 23 = .ok (.ireturn, 1) := by decide +kernel
theorem dX10_questionTrouble_4 : decode cX10_questionTrouble 4 = .ok (.iload_n 1, 1) := by decide +kernel
theorem dX10_questionTrouble_5 : decode cX10_questionTrouble 5 = .ok (.invokevirtual 239, 3) := by decide +kernel
theorem dX10_questionTrouble_8 : decode cX10_questionTrouble 8 = .ok (.ifCond .eq 14, 3) := by decide +kernel
def vX10_questionTrouble : List Cond := .code yX10_questionTrouble cX10_questionTrouble 4 (some .int) :: ([.fieldLink RX10 10 "HookPier" "plan" "LHookPier$Plan;", .methodLink RX10 239 yX6_hasSpot, .instanceMethod yX6_hasSpot, .selects RX6 yX6_hasSpot yX6_hasSpot, .initialized RX6, .code yX6_hasSpot cX6_hasSpot 2 (some .boolean), .fieldLink RX6 9 "HookPier$Plan" "spots" "I", .code yX10_within cX10_within 3 (some .boolean), .initialized RX10, .static yX10_within] ++ wsX100 ++ wsX60)
theorem iX10_questionTrouble_X10 : ∀ w ∈ wsX100, w ∈ vX10_questionTrouble := fun _ h => List.mem_cons_of_mem _ (List.mem_append_left _ (List.mem_append_right _ h))
theorem iX10_questionTrouble_X6 : ∀ w ∈ wsX60, w ∈ vX10_questionTrouble := fun _ h => List.mem_cons_of_mem _ (List.mem_append_right _ h)
set_option maxRecDepth 20000 in
theorem gX10_questionTrouble_0 : GoodIn vX10_questionTrouble (wsV RX10 239 RX6 yX6_hasSpot vX6_hasSpot) := goodIn_app (goodIn_r [.methodLink RX10 239 yX6_hasSpot, .instanceMethod yX6_hasSpot, .selects RX6 yX6_hasSpot yX6_hasSpot, .initialized RX6] [2, 3, 4, 5] (by decide +kernel) (by decide +kernel)) (goodIn_ca (goodIn_r (.code yX6_hasSpot cX6_hasSpot 2 (some .boolean) :: [.fieldLink RX6 9 "HookPier$Plan" "spots" "I", .code yX10_within cX10_within 3 (some .boolean), .initialized RX10, .static yX10_within]) [6, 7, 8, 9, 10] (by decide +kernel) (by decide +kernel) : GoodIn vX10_questionTrouble (.code yX6_hasSpot cX6_hasSpot 2 (some .boolean) :: [.fieldLink RX6 9 "HookPier$Plan" "spots" "I", .code yX10_within cX10_within 3 (some .boolean), .initialized RX10, .static yX10_within])) (goodIn_sub iX10_questionTrouble_X6 (by decide +kernel)))
set_option maxHeartbeats 1000000 in
set_option maxRecDepth 100000 in
theorem kX10_questionTrouble (l : Launch) (dC : Nat → ClassId) (dI : Nat → Nat → Nat) (a0 : Nat) (k1 : Int32) (k2 : Int32) (k3 : Int32) (a4 : Nat) (g5 : Value) (g6 : Value) (g7 : Value) (g8 : Value) (g9 : Value) (g10 : Value) (g11 : Value) (g12 : Value) (g13 : Value) (g14 : Value) (g15 : Value) (g16 : Value) (g17 : Value) (g18 : Value) (g19 : Value) (g20 : Value) (g21 : Value) (g22 : Value) (g23 : Value) (g24 : Value) (g25 : Value) (g26 : Value) (g27 : Value) (g28 : Value) (g29 : Value) (g30 : Value) (sz : Nat) : Met l yX10_questionTrouble vX10_questionTrouble ({ frames := 2, cells := 0, slots := 0, locals := 43 }) (PC (dC, dI) [.ref a0, .int k1, .int k2, .int k3] sz [(a0, .inr (7, [.ref a4, g5, g6, g7, g8, g9, g10, g11, g12, g13])), (a4, .inr (4, [.int 0, g14, g15, g16, g17, g18, g19, g20, g21, g22, g23, g24, g25, g26, g27, g28, g29, g30]))] []) (va_Qi (S := Unit) (fun (r : Int32) _ => r = 1) (fun _ t => BC (dC, dI) (va_A [(a0, .inr (7, [.ref a4, g5, g6, g7, g8, g9, g10, g11, g12, g13])), (a4, .inr (4, [.int 0, g14, g15, g16, g17, g18, g19, g20, g21, g22, g23, g24, g25, g26, g27, g28, g29, g30]))] sz) [(a0, .inr (7, [.ref a4, g5, g6, g7, g8, g9, g10, g11, g12, g13])), (a4, .inr (4, [.int 0, g14, g15, g16, g17, g18, g19, g20, g21, g22, g23, g24, g25, g26, g27, g28, g29, g30]))] [] t) (va_A [(a0, .inr (7, [.ref a4, g5, g6, g7, g8, g9, g10, g11, g12, g13])), (a4, .inr (4, [.int 0, g14, g15, g16, g17, g18, g19, g20, g21, g22, g23, g24, g25, g26, g27, g28, g29, g30]))] sz)) 0 0 (va_A [(a0, .inr (7, [.ref a4, g5, g6, g7, g8, g9, g10, g11, g12, g13])), (a4, .inr (4, [.int 0, g14, g15, g16, g17, g18, g19, g20, g21, g22, g23, g24, g25, g26, g27, g28, g29, g30]))] sz) := by
  refine Met.ofW (cc := cX10_questionTrouble) (maxL := 4) (ret := (some .int)) (by decide) rfl ?_
  intro p e s m args below meth c s₁ B hml hv
  obtain ⟨rfl, hsz, hP, hK, hD0, hN⟩ := hv
  have hx := B.exec
  have hb := B.bytes
  have hr := B.returns
  have hts := atoms_spec (ws := vX10_questionTrouble) B.pre
  have hown : s.vm.findClass RX10 = some m.cls := findClass_of_methodNamed B.named
  have hlocks := B.notSynchronized
  subst hsz
  have hD := hD0.self (sz := s.heap.size)
  generalize hAe : va_A [(a0, .inr (7, [.ref a4, g5, g6, g7, g8, g9, g10, g11, g12, g13])), (a4, .inr (4, [.int 0, g14, g15, g16, g17, g18, g19, g20, g21, g22, g23, g24, g25, g26, g27, g28, g29, g30]))] s.heap.size = A at hD ⊢
  have hA : ∀ q : Nat, s.heap.size ≤ q → A q := fun q h => by rw [← hAe]; exact Or.inr h
  have hS : va_S A s.heap s.heap [] := va_S.rf
  have hP : va_P (dC, dI) vwCl [(a0, .inr (7, [.ref a4, g5, g6, g7, g8, g9, g10, g11, g12, g13])), (a4, .inr (4, [.int 0, g14, g15, g16, g17, g18, g19, g20, g21, g22, g23, g24, g25, g26, g27, g28, g29, g30]))] s.heap := hP
  have hl := lv_entry ([.ref a0, .int k1, .int k2, .int k3]) (n := 4) (Nat.le_of_ble_eq_true rfl)
  rw [lg_entry_eq]
  generalize (lg_sl ([.ref a0, .int k1, .int k2, .int k3]) ++ List.replicate (4 - (lg_sl ([.ref a0, .int k1, .int k2, .int k3])).length) Slot.unset).toArray = ls at hl ⊢
  have hl : lv_has ls 4 [(0, .ref a0), (1, .int k1), (2, .int k2), (3, .int k3)] := hl
  refine lv_aload_n hx hb dX10_questionTrouble_0 rfl (lv_at hl 0 rfl) ?_
  refine va_get (D := (dC, dI)) (ci := 7) (v := .ref a4) (C := RX10) (T := TX10) (N := 10) hx hb hts iX10_questionTrouble_X10 hown hK hP 0 rfl rfl 0 (by decide) (hts (.fieldLink RX10 10 "HookPier" "plan" "LHookPier$Plan;") (List.mem_of_getElem? (i := 1) rfl)) (fun _ h9 => h9) rfl dX10_questionTrouble_1 ?_
  refine lv_iload_n hx hb dX10_questionTrouble_4 rfl (lv_at hl 1 rfl) ?_
  refine cl_i (wc := [(a4, .inr (4, [.int 0, g14, g15, g16, g17, g18, g19, g20, g21, g22, g23, g24, g25, g26, g27, g28, g29, g30]))]) (wr := [(a0, .inr (7, [.ref a4, g5, g6, g7, g8, g9, g10, g11, g12, g13]))]) (va_runV (As := [.int k1]) (rest := []) ⟨hx, hb, hml, hown, hts⟩ (kX6_hasSpot l dC dI a4 k1 (g14) (g15) (g16) (g17) (g18) (g19) (g20) (g21) (g22) (g23) (g24) (g25) (g26) (g27) (g28) (g29) (g30) s.heap.size) (cwV 1 hts gX10_questionTrouble_0 rfl rfl rfl (by decide +kernel) ⟨Nat.le_of_ble_eq_true rfl, Nat.le_of_ble_eq_true rfl⟩) (PV (hP.sub (ws' := [(a4, .inr (4, [.int 0, g14, g15, g16, g17, g18, g19, g20, g21, g22, g23, g24, g25, g26, g27, g28, g29, g30]))]) [1] rfl) (hK.sub (tys' := []) [] rfl) (hD.sub (ws' := [(a4, .inr (4, [.int 0, g14, g15, g16, g17, g18, g19, g20, g21, g22, g23, g24, g25, g26, g27, g28, g29, g30]))]) [1] (by decide) rfl) hN 0 rfl rfl) rfl rfl hl.1 rfl (lv_room (Nat.le_of_ble_eq_true rfl)) dX10_questionTrouble_5 ⟨Nat.le_of_ble_eq_true rfl, Nat.le_of_ble_eq_true rfl⟩) hP hD hK hS hA [1] [0] rfl rfl (by decide) (by decide) (fun z1 _u H locs hw hP hD hK hS => ?_)
  have hP : va_P (dC, dI) vwCl [(a0, .inr (7, [.ref a4, g5, g6, g7, g8, g9, g10, g11, g12, g13])), (a4, .inr (4, [.int 0, g14, g15, g16, g17, g18, g19, g20, g21, g22, g23, g24, g25, g26, g27, g28, g29, g30]))] H := hP
  have hD : va_D A [(a0, .inr (7, [.ref a4, g5, g6, g7, g8, g9, g10, g11, g12, g13])), (a4, .inr (4, [.int 0, g14, g15, g16, g17, g18, g19, g20, g21, g22, g23, g24, g25, g26, g27, g28, g29, g30]))] := hD
  have hK : va_K (dC, dI) vwCl [] s := hK
  obtain rfl : z1 = 0 := hw
  refine lv_if_eq (tgt := 22) hx hb dX10_questionTrouble_8 (by decide) (fun _ => ?_) (fun c2 => absurd c2 (by decide))
  refine lv_iconst (v := 1) hx hb dX10_questionTrouble_22 (by decide) ?_
  have hP9 := hP.sub (ws' := [(a0, .inr (7, [.ref a4, g5, g6, g7, g8, g9, g10, g11, g12, g13])), (a4, .inr (4, [.int 0, g14, g15, g16, g17, g18, g19, g20, g21, g22, g23, g24, g25, g26, g27, g28, g29, g30]))]) [0, 1] rfl
  have hD9 := hD.sub (ws' := [(a0, .inr (7, [.ref a4, g5, g6, g7, g8, g9, g10, g11, g12, g13])), (a4, .inr (4, [.int 0, g14, g15, g16, g17, g18, g19, g20, g21, g22, g23, g24, g25, g26, g27, g28, g29, g30]))]) [0, 1] (by decide) rfl
  have hK9 := hK.sub (tys' := []) [] rfl
  exact W.iret (v := 1) hx hb hr (fun t ht hW => ⟨⟨1, (), rfl, rfl, by rw [ht]; exact hP9, va_K.moved hW.alike hK9, hD9⟩, hS.F ht⟩) hS.2.2 dX10_questionTrouble_23
theorem dX10_nothing_0 : decode cX10_nothing 0 = .ok (.aload_n 0, 1) := by decide +kernel
theorem dX10_nothing_1 : decode cX10_nothing 1 = .ok (.aload_n 0, 1) := by decide +kernel
theorem dX10_nothing_11 : decode cX10_nothing 11 = .ok (.ifCond .eq 7, 3) := by decide +kernel
theorem dX10_nothing_14 : decode cX10_nothing 14 = .ok (.ldc2_w 187, 3) := by decide +kernel
theorem dX10_nothing_17 : decode cX10_nothing 17 = .ok (.lreturn, 1) := by decide +kernel
theorem dX10_nothing_2 : decode cX10_nothing 2 = .ok (.iload_n 1, 1) := by decide +kernel
theorem dX10_nothing_3 : decode cX10_nothing 3 = .ok (.iload_n 2, 1) := by decide +kernel
theorem dX10_nothing_4 : decode cX10_nothing 4 = .ok (.iload_n 3, 1) := by decide +kernel
theorem dX10_nothing_5 : decode cX10_nothing 5 = .ok (.invokevirtual 199, 3) := by decide +kernel
theorem dX10_nothing_8 : decode cX10_nothing 8 = .ok (.invokevirtual 79, 3) := by decide +kernel
def vX10_nothing : List Cond := .code yX10_nothing cX10_nothing 5 (some .long) :: ([.methodLink RX10 199 yX10_questionTrouble, .instanceMethod yX10_questionTrouble, .selects RX10 yX10_questionTrouble yX10_questionTrouble, .initialized RX10, .code yX10_questionTrouble cX10_questionTrouble 4 (some .int), .fieldLink RX10 10 "HookPier" "plan" "LHookPier$Plan;", .methodLink RX10 239 yX6_hasSpot, .instanceMethod yX6_hasSpot, .selects RX6 yX6_hasSpot yX6_hasSpot, .initialized RX6, .code yX6_hasSpot cX6_hasSpot 2 (some .boolean), .fieldLink RX6 9 "HookPier$Plan" "spots" "I", .code yX10_within cX10_within 3 (some .boolean), .static yX10_within, .methodLink RX10 79 yX10_refused, .instanceMethod yX10_refused, .selects RX10 yX10_refused yX10_refused, .code yX10_refused cX10_refused 2 (some .boolean), .fieldLink RX10 61 "HookPier" "troubleNow" "I", .constantLong RX10 187 (-1)] ++ wsX100 ++ wsX60)
theorem iX10_nothing_X10 : ∀ w ∈ wsX100, w ∈ vX10_nothing := fun _ h => List.mem_cons_of_mem _ (List.mem_append_left _ (List.mem_append_right _ h))
theorem iX10_nothing_X6 : ∀ w ∈ wsX60, w ∈ vX10_nothing := fun _ h => List.mem_cons_of_mem _ (List.mem_append_right _ h)
set_option maxRecDepth 20000 in
theorem gX10_nothing_0 : GoodIn vX10_nothing (wsV RX10 199 RX10 yX10_questionTrouble vX10_questionTrouble) := goodIn_app (goodIn_r [.methodLink RX10 199 yX10_questionTrouble, .instanceMethod yX10_questionTrouble, .selects RX10 yX10_questionTrouble yX10_questionTrouble, .initialized RX10] [1, 2, 3, 4] (by decide +kernel) (by decide +kernel)) (goodIn_ca (goodIn_ca (goodIn_r (.code yX10_questionTrouble cX10_questionTrouble 4 (some .int) :: [.fieldLink RX10 10 "HookPier" "plan" "LHookPier$Plan;", .methodLink RX10 239 yX6_hasSpot, .instanceMethod yX6_hasSpot, .selects RX6 yX6_hasSpot yX6_hasSpot, .initialized RX6, .code yX6_hasSpot cX6_hasSpot 2 (some .boolean), .fieldLink RX6 9 "HookPier$Plan" "spots" "I", .code yX10_within cX10_within 3 (some .boolean), .initialized RX10, .static yX10_within]) [5, 6, 7, 8, 9, 10, 11, 12, 13, 4, 14] (by decide +kernel) (by decide +kernel) : GoodIn vX10_nothing (.code yX10_questionTrouble cX10_questionTrouble 4 (some .int) :: [.fieldLink RX10 10 "HookPier" "plan" "LHookPier$Plan;", .methodLink RX10 239 yX6_hasSpot, .instanceMethod yX6_hasSpot, .selects RX6 yX6_hasSpot yX6_hasSpot, .initialized RX6, .code yX6_hasSpot cX6_hasSpot 2 (some .boolean), .fieldLink RX6 9 "HookPier$Plan" "spots" "I", .code yX10_within cX10_within 3 (some .boolean), .initialized RX10, .static yX10_within])) (goodIn_sub iX10_nothing_X10 (by decide +kernel))) (goodIn_sub iX10_nothing_X6 (by decide +kernel)))
set_option maxRecDepth 20000 in
theorem gX10_nothing_1 : GoodIn vX10_nothing (wsV RX10 79 RX10 yX10_refused vX10_refused_3) := goodIn_app (goodIn_r [.methodLink RX10 79 yX10_refused, .instanceMethod yX10_refused, .selects RX10 yX10_refused yX10_refused, .initialized RX10] [15, 16, 17, 4] (by decide +kernel) (by decide +kernel)) (goodIn_ca (goodIn_r (.code yX10_refused cX10_refused 2 (some .boolean) :: [.fieldLink RX10 61 "HookPier" "troubleNow" "I"]) [18, 19] (by decide +kernel) (by decide +kernel) : GoodIn vX10_nothing (.code yX10_refused cX10_refused 2 (some .boolean) :: [.fieldLink RX10 61 "HookPier" "troubleNow" "I"])) (goodIn_sub iX10_nothing_X10 (by decide +kernel)))
set_option maxHeartbeats 1000000 in
set_option maxRecDepth 100000 in
theorem kX10_nothing (l : Launch) (dC : Nat → ClassId) (dI : Nat → Nat → Nat) (a0 : Nat) (k1 : Int32) (k2 : Int32) (k3 : Int32) (k4 : Int32) (a5 : Nat) (g6 : Value) (g7 : Value) (g8 : Value) (g9 : Value) (g10 : Value) (g11 : Value) (g12 : Value) (g13 : Value) (g14 : Value) (g15 : Value) (g16 : Value) (g17 : Value) (g18 : Value) (g19 : Value) (g20 : Value) (g21 : Value) (g22 : Value) (g23 : Value) (g24 : Value) (g25 : Value) (g26 : Value) (g27 : Value) (g28 : Value) (g29 : Value) (g30 : Value) (g31 : Value) (sz : Nat) : Met l yX10_nothing vX10_nothing ({ frames := 3, cells := 0, slots := 0, locals := 66 }) (PC (dC, dI) [.ref a0, .int k1, .int k2, .int k3, .int k4] sz [(a0, .inr (7, [.ref a5, g6, g7, g8, g9, g10, g11, g12, g13, g14])), (a5, .inr (4, [.int 0, g15, g16, g17, g18, g19, g20, g21, g22, g23, g24, g25, g26, g27, g28, g29, g30, g31]))] []) (va_Ql (S := Unit) (fun (r : Int64) _ => r = (-1)) (fun _ t => BC (dC, dI) (va_A [(a0, .inr (7, [.ref a5, g6, g7, g8, g9, g10, g11, g12, g13, g14])), (a5, .inr (4, [.int 0, g15, g16, g17, g18, g19, g20, g21, g22, g23, g24, g25, g26, g27, g28, g29, g30, g31]))] sz) [] [] t) (va_A [(a0, .inr (7, [.ref a5, g6, g7, g8, g9, g10, g11, g12, g13, g14])), (a5, .inr (4, [.int 0, g15, g16, g17, g18, g19, g20, g21, g22, g23, g24, g25, g26, g27, g28, g29, g30, g31]))] sz)) 0 0 (va_A [(a0, .inr (7, [.ref a5, g6, g7, g8, g9, g10, g11, g12, g13, g14])), (a5, .inr (4, [.int 0, g15, g16, g17, g18, g19, g20, g21, g22, g23, g24, g25, g26, g27, g28, g29, g30, g31]))] sz) := by
  refine Met.ofW (cc := cX10_nothing) (maxL := 5) (ret := (some .long)) (by decide) rfl ?_
  intro p e s m args below meth c s₁ B hml hv
  obtain ⟨rfl, hsz, hP, hK, hD0, hN⟩ := hv
  have hx := B.exec
  have hb := B.bytes
  have hr := B.returns
  have hts := atoms_spec (ws := vX10_nothing) B.pre
  have hown : s.vm.findClass RX10 = some m.cls := findClass_of_methodNamed B.named
  have hlocks := B.notSynchronized
  subst hsz
  have hD := hD0.self (sz := s.heap.size)
  generalize hAe : va_A [(a0, .inr (7, [.ref a5, g6, g7, g8, g9, g10, g11, g12, g13, g14])), (a5, .inr (4, [.int 0, g15, g16, g17, g18, g19, g20, g21, g22, g23, g24, g25, g26, g27, g28, g29, g30, g31]))] s.heap.size = A at hD ⊢
  have hA : ∀ q : Nat, s.heap.size ≤ q → A q := fun q h => by rw [← hAe]; exact Or.inr h
  have hS : va_S A s.heap s.heap [] := va_S.rf
  have hP : va_P (dC, dI) vwCl [(a0, .inr (7, [.ref a5, g6, g7, g8, g9, g10, g11, g12, g13, g14])), (a5, .inr (4, [.int 0, g15, g16, g17, g18, g19, g20, g21, g22, g23, g24, g25, g26, g27, g28, g29, g30, g31]))] s.heap := hP
  have hl := lv_entry ([.ref a0, .int k1, .int k2, .int k3, .int k4]) (n := 5) (Nat.le_of_ble_eq_true rfl)
  rw [lg_entry_eq]
  generalize (lg_sl ([.ref a0, .int k1, .int k2, .int k3, .int k4]) ++ List.replicate (5 - (lg_sl ([.ref a0, .int k1, .int k2, .int k3, .int k4])).length) Slot.unset).toArray = ls at hl ⊢
  have hl : lv_has ls 5 [(0, .ref a0), (1, .int k1), (2, .int k2), (3, .int k3), (4, .int k4)] := hl
  refine lv_aload_n hx hb dX10_nothing_0 rfl (lv_at hl 0 rfl) ?_
  refine lv_aload_n hx hb dX10_nothing_1 rfl (lv_at hl 0 rfl) ?_
  refine lv_iload_n hx hb dX10_nothing_2 rfl (lv_at hl 1 rfl) ?_
  refine lv_iload_n hx hb dX10_nothing_3 rfl (lv_at hl 2 rfl) ?_
  refine lv_iload_n hx hb dX10_nothing_4 rfl (lv_at hl 3 rfl) ?_
  refine cl_i (wc := [(a0, .inr (7, [.ref a5, g6, g7, g8, g9, g10, g11, g12, g13, g14])), (a5, .inr (4, [.int 0, g15, g16, g17, g18, g19, g20, g21, g22, g23, g24, g25, g26, g27, g28, g29, g30, g31]))]) (wr := []) (va_runV (As := [.int k1, .int k2, .int k3]) (rest := [.ref a0]) ⟨hx, hb, hml, hown, hts⟩ (kX10_questionTrouble l dC dI a0 k1 k2 k3 a5 (g6) (g7) (g8) (g9) (g10) (g11) (g12) (g13) (g14) (g15) (g16) (g17) (g18) (g19) (g20) (g21) (g22) (g23) (g24) (g25) (g26) (g27) (g28) (g29) (g30) (g31) s.heap.size) (cwV 3 hts gX10_nothing_0 rfl rfl rfl (by decide +kernel) ⟨Nat.le_of_ble_eq_true rfl, Nat.le_of_ble_eq_true rfl⟩) (PV (hP.sub (ws' := [(a0, .inr (7, [.ref a5, g6, g7, g8, g9, g10, g11, g12, g13, g14])), (a5, .inr (4, [.int 0, g15, g16, g17, g18, g19, g20, g21, g22, g23, g24, g25, g26, g27, g28, g29, g30, g31]))]) [0, 1] rfl) (hK.sub (tys' := []) [] rfl) (hD.sub (ws' := [(a0, .inr (7, [.ref a5, g6, g7, g8, g9, g10, g11, g12, g13, g14])), (a5, .inr (4, [.int 0, g15, g16, g17, g18, g19, g20, g21, g22, g23, g24, g25, g26, g27, g28, g29, g30, g31]))]) [0, 1] (by decide) rfl) hN 0 rfl rfl) rfl rfl hl.1 rfl (lv_room (Nat.le_of_ble_eq_true rfl)) dX10_nothing_5 ⟨Nat.le_of_ble_eq_true rfl, Nat.le_of_ble_eq_true rfl⟩) hP hD hK hS hA [0, 1] [] rfl rfl (by decide) (by decide) (fun z1 _u H locs hw hP hD hK hS => ?_)
  have hP : va_P (dC, dI) vwCl [(a0, .inr (7, [.ref a5, g6, g7, g8, g9, g10, g11, g12, g13, g14])), (a5, .inr (4, [.int 0, g15, g16, g17, g18, g19, g20, g21, g22, g23, g24, g25, g26, g27, g28, g29, g30, g31]))] H := hP
  have hD : va_D A [(a0, .inr (7, [.ref a5, g6, g7, g8, g9, g10, g11, g12, g13, g14])), (a5, .inr (4, [.int 0, g15, g16, g17, g18, g19, g20, g21, g22, g23, g24, g25, g26, g27, g28, g29, g30, g31]))] := hD
  have hK : va_K (dC, dI) vwCl [] s := hK
  obtain rfl : z1 = 1 := hw
  refine cl_i (wc := [(a0, .inr (7, [.ref a5, g6, g7, g8, g9, g10, g11, g12, g13, g14]))]) (wr := [(a5, .inr (4, [.int 0, g15, g16, g17, g18, g19, g20, g21, g22, g23, g24, g25, g26, g27, g28, g29, g30, g31]))]) (va_runV (As := [.int 1]) (rest := []) ⟨hx, hb, hml, hown, hts⟩ (kX10_refused_3 l dC dI a0 (.ref a5) (g6) (g7) (g8) (g9) (g10) (g11) (g12) (g13) (g14) H.size) (cwV 1 hts gX10_nothing_1 rfl rfl rfl (by decide +kernel) ⟨Nat.le_of_ble_eq_true rfl, Nat.le_of_ble_eq_true rfl⟩) (PV (hP.sub (ws' := [(a0, .inr (7, [.ref a5, g6, g7, g8, g9, g10, g11, g12, g13, g14]))]) [0] rfl) (hK.sub (tys' := []) [] rfl) (hD.sub (ws' := [(a0, .inr (7, [.ref a5, g6, g7, g8, g9, g10, g11, g12, g13, g14]))]) [0] (by decide) rfl) hN 0 rfl rfl) rfl rfl hl.1 rfl (lv_room (Nat.le_of_ble_eq_true rfl)) dX10_nothing_8 ⟨Nat.le_of_ble_eq_true rfl, Nat.le_of_ble_eq_true rfl⟩) hP hD hK hS hA [0] [1] rfl rfl (by decide) (by decide) (fun z2 _u H locs hw hP hD hK hS => ?_)
  have hP : va_P (dC, dI) vwCl [(a5, .inr (4, [.int 0, g15, g16, g17, g18, g19, g20, g21, g22, g23, g24, g25, g26, g27, g28, g29, g30, g31])), (a0, .inr (7, [.ref a5, g6, g7, g8, g9, g10, g11, g12, .int 1, g14]))] H := hP
  have hD : va_D A [(a5, .inr (4, [.int 0, g15, g16, g17, g18, g19, g20, g21, g22, g23, g24, g25, g26, g27, g28, g29, g30, g31])), (a0, .inr (7, [.ref a5, g6, g7, g8, g9, g10, g11, g12, .int 1, g14]))] := hD
  have hK : va_K (dC, dI) vwCl [] s := hK
  obtain rfl : z2 = 1 := hw
  refine lv_if_eq (tgt := 18) hx hb dX10_nothing_11 (by decide) (fun c3 => absurd c3 (by decide)) (fun _ => ?_)
  refine lv_ldc2 hx hb hown (hts (.constantLong RX10 187 (-1)) (List.mem_of_getElem? (i := 20) rfl)) dX10_nothing_14 ?_
  have hP9 := hP.sub (ws' := []) [] rfl
  have hD9 := hD.sub (ws' := []) [] (by decide) rfl
  have hK9 := hK.sub (tys' := []) [] rfl
  exact W.lret (v := (-1)) hx hb hr (fun t ht hW => ⟨⟨(-1), (), rfl, rfl, by rw [ht]; exact hP9, va_K.moved hW.alike hK9, hD9⟩, hS.F ht⟩) hS.2.2 dX10_nothing_17
theorem dX12_nothing_0 : decode cX12_nothing 0 = .ok (.aload_n 0, 1) := by decide +kernel
theorem dX12_nothing_1 : decode cX12_nothing 1 = .ok (.iconst 0, 1) := by decide +kernel
theorem dX12_nothing_10 : decode cX12_nothing 10 = .ok (.ifnull 7, 3) := by decide +kernel
theorem dX12_nothing_17 : decode cX12_nothing 17 = .ok (.iconst 0, 1) := by decide +kernel
theorem dX12_nothing_18 : decode cX12_nothing 18 = .ok (.iload_n 1, 1) := by decide +kernel
theorem dX12_nothing_19 : decode cX12_nothing 19 = .ok (.iload_n 2, 1) := by decide +kernel
theorem dX12_nothing_2 : decode cX12_nothing 2 = .ok (.putfield 36, 3) := by decide +kernel
theorem dX12_nothing_20 : decode cX12_nothing 20 = .ok (.iload_n 3, 1) := by decide +kernel
theorem dX12_nothing_21 : decode cX12_nothing 21 = .ok (.invokevirtual 353, 3) := by decide +kernel
theorem dX12_nothing_24 : decode cX12_nothing 24 = .ok (.istore 5, 2) := by decide +kernel
theorem dX12_nothing_26 : decode cX12_nothing 26 = .ok (.iload 5, 2) := by decide +kernel
theorem dX12_nothing_28 : decode cX12_nothing 28 = .ok (.ifCond .le 13, 3) := by decide +kernel
theorem dX12_nothing_31 : decode cX12_nothing 31 = .ok (.aload_n 0, 1) := by decide +kernel
theorem dX12_nothing_32 : decode cX12_nothing 32 = .ok (.iload 5, 2) := by decide +kernel
theorem dX12_nothing_34 : decode cX12_nothing 34 = .ok (.invokevirtual 42, 3) := by decide +kernel
theorem dX12_nothing_37 : decode cX12_nothing 37 = .ok (.i2l, 1) := by decide +kernel
theorem dX12_nothing_38 : decode cX12_nothing 38 = .ok (.goto 24, 3) := by decide +kernel
theorem dX12_nothing_5 : decode cX12_nothing 5 = .ok (.aload_n 0, 1) := by decide +kernel
theorem dX12_nothing_6 : decode cX12_nothing 6 = .ok (.aload_n 0, 1) := by decide +kernel
theorem dX12_nothing_62 : decode cX12_nothing 62 = .ok (.lreturn, 1) := by decide +kernel
theorem dX12_nothing_7 : decode cX12_nothing 7 = .ok (.getfield 299, 3) := by decide +kernel
def vX12_nothing : List Cond := .code yX12_nothing cX12_nothing 6 (some .long) :: ([.fieldLink RX12 36 "HookPierModel" "thrown" "I", .fieldLink RX12 299 "HookPierModel" "pier" "LHookPierModel$Pier;", .methodLink RX12 353 yX12_refusesQuestion, .instanceMethod yX12_refusesQuestion, .selects RX12 yX12_refusesQuestion yX12_refusesQuestion, .initialized RX12, .code yX12_refusesQuestion cX12_refusesQuestion 5 (some .int), .methodLink RX12 42 yX12_refused, .instanceMethod yX12_refused, .selects RX12 yX12_refused yX12_refused, .code yX12_refused cX12_refused 2 (some .int), .fieldLink RX12 39 "HookPierModel" "trouble" "I", .fieldLink RX12 9 "HookPierModel" "where" "I"] ++ wsX120)
theorem iX12_nothing_X12 : ∀ w ∈ wsX120, w ∈ vX12_nothing := fun _ h => List.mem_cons_of_mem _ (List.mem_append_right _ h)
set_option maxRecDepth 20000 in
theorem gX12_nothing_0 : GoodIn vX12_nothing (wsV RX12 353 RX12 yX12_refusesQuestion vX12_refusesQuestion) := goodIn_app (goodIn_r [.methodLink RX12 353 yX12_refusesQuestion, .instanceMethod yX12_refusesQuestion, .selects RX12 yX12_refusesQuestion yX12_refusesQuestion, .initialized RX12] [3, 4, 5, 6] (by decide +kernel) (by decide +kernel)) (goodIn_r (.code yX12_refusesQuestion cX12_refusesQuestion 5 (some .int) :: []) [7] (by decide +kernel) (by decide +kernel) : GoodIn vX12_nothing (.code yX12_refusesQuestion cX12_refusesQuestion 5 (some .int) :: []))
set_option maxRecDepth 20000 in
theorem gX12_nothing_1 : GoodIn vX12_nothing (wsV RX12 42 RX12 yX12_refused vX12_refused_1) := goodIn_app (goodIn_r [.methodLink RX12 42 yX12_refused, .instanceMethod yX12_refused, .selects RX12 yX12_refused yX12_refused, .initialized RX12] [8, 9, 10, 6] (by decide +kernel) (by decide +kernel)) (goodIn_ca (goodIn_r (.code yX12_refused cX12_refused 2 (some .int) :: [.fieldLink RX12 39 "HookPierModel" "trouble" "I", .fieldLink RX12 9 "HookPierModel" "where" "I"]) [11, 12, 13] (by decide +kernel) (by decide +kernel) : GoodIn vX12_nothing (.code yX12_refused cX12_refused 2 (some .int) :: [.fieldLink RX12 39 "HookPierModel" "trouble" "I", .fieldLink RX12 9 "HookPierModel" "where" "I"])) (goodIn_sub iX12_nothing_X12 (by decide +kernel)))
set_option maxHeartbeats 1000000 in
set_option maxRecDepth 100000 in
theorem kX12_nothing (l : Launch) (dC : Nat → ClassId) (dI : Nat → Nat → Nat) (a0 : Nat) (k1 : Int32) (k2 : Int32) (k3 : Int32) (k4 : Int32) (g5 : Value) (g6 : Value) (g7 : Value) (g8 : Value) (g9 : Value) (g10 : Value) (g11 : Value) (g12 : Value) (g13 : Value) (g14 : Value) (g15 : Value) (g16 : Value) (g17 : Value) (g18 : Value) (g19 : Value) (g20 : Value) (g21 : Value) (g22 : Value) (g23 : Value) (g24 : Value) (g25 : Value) (g26 : Value) (g27 : Value) (g28 : Value) (g29 : Value) (g30 : Value) (g31 : Value) (g32 : Value) (g33 : Value) (sz : Nat) : Met l yX12_nothing vX12_nothing ({ frames := 1, cells := 0, slots := 0, locals := 24 }) (PC (dC, dI) [.ref a0, .int k1, .int k2, .int k3, .int k4] sz [(a0, .inr (9, [g5, g6, g7, .null, g8, g9, g10, g11, g12, g13, g14, g15, g16, g17, g18, g19, g20, g21, g22, g23, g24, g25, g26, g27, g28, g29, g30, g31, g32, g33]))] []) (va_Ql (S := Unit) (fun (r : Int64) _ => r = (-1)) (fun _ t => BC (dC, dI) (va_A [(a0, .inr (9, [g5, g6, g7, .null, g8, g9, g10, g11, g12, g13, g14, g15, g16, g17, g18, g19, g20, g21, g22, g23, g24, g25, g26, g27, g28, g29, g30, g31, g32, g33]))] sz) [] [] t) (va_A [(a0, .inr (9, [g5, g6, g7, .null, g8, g9, g10, g11, g12, g13, g14, g15, g16, g17, g18, g19, g20, g21, g22, g23, g24, g25, g26, g27, g28, g29, g30, g31, g32, g33]))] sz)) 0 0 (va_A [(a0, .inr (9, [g5, g6, g7, .null, g8, g9, g10, g11, g12, g13, g14, g15, g16, g17, g18, g19, g20, g21, g22, g23, g24, g25, g26, g27, g28, g29, g30, g31, g32, g33]))] sz) := by
  refine Met.ofW (cc := cX12_nothing) (maxL := 6) (ret := (some .long)) (by decide) rfl ?_
  intro p e s m args below meth c s₁ B hml hv
  obtain ⟨rfl, hsz, hP, hK, hD0, hN⟩ := hv
  have hx := B.exec
  have hb := B.bytes
  have hr := B.returns
  have hts := atoms_spec (ws := vX12_nothing) B.pre
  have hown : s.vm.findClass RX12 = some m.cls := findClass_of_methodNamed B.named
  have hlocks := B.notSynchronized
  subst hsz
  have hD := hD0.self (sz := s.heap.size)
  generalize hAe : va_A [(a0, .inr (9, [g5, g6, g7, .null, g8, g9, g10, g11, g12, g13, g14, g15, g16, g17, g18, g19, g20, g21, g22, g23, g24, g25, g26, g27, g28, g29, g30, g31, g32, g33]))] s.heap.size = A at hD ⊢
  have hA : ∀ q : Nat, s.heap.size ≤ q → A q := fun q h => by rw [← hAe]; exact Or.inr h
  have hS : va_S A s.heap s.heap [] := va_S.rf
  have hP : va_P (dC, dI) vwCl [(a0, .inr (9, [g5, g6, g7, .null, g8, g9, g10, g11, g12, g13, g14, g15, g16, g17, g18, g19, g20, g21, g22, g23, g24, g25, g26, g27, g28, g29, g30, g31, g32, g33]))] s.heap := hP
  have hl := lv_entry ([.ref a0, .int k1, .int k2, .int k3, .int k4]) (n := 6) (Nat.le_of_ble_eq_true rfl)
  rw [lg_entry_eq]
  generalize (lg_sl ([.ref a0, .int k1, .int k2, .int k3, .int k4]) ++ List.replicate (6 - (lg_sl ([.ref a0, .int k1, .int k2, .int k3, .int k4])).length) Slot.unset).toArray = ls at hl ⊢
  have hl : lv_has ls 6 [(0, .ref a0), (1, .int k1), (2, .int k2), (3, .int k3), (4, .int k4)] := hl
  refine lv_aload_n hx hb dX12_nothing_0 rfl (lv_at hl 0 rfl) ?_
  refine lv_iconst (v := 0) hx hb dX12_nothing_1 (by decide) ?_
  refine va_put (D := (dC, dI)) (ci := 9) (v := .int 0) (ty := .int) (C := RX12) (T := TX12) (N := 30) hx hb hts iX12_nothing_X12 tyX12 tyX12_ok nmX12 hown hK hP hD hS 0 rfl rfl 0 (by decide) (hts (.fieldLink RX12 36 "HookPierModel" "thrown" "I") (List.mem_of_getElem? (i := 1) rfl)) (fun _ h9 => h9) rfl (by decide +kernel) rfl rfl (Nat.le_of_ble_eq_true rfl) dX12_nothing_2 (fun H locs hP hD hS => ?_)
  have hP : va_P (dC, dI) vwCl [(a0, .inr (9, [.int 0, g6, g7, .null, g8, g9, g10, g11, g12, g13, g14, g15, g16, g17, g18, g19, g20, g21, g22, g23, g24, g25, g26, g27, g28, g29, g30, g31, g32, g33]))] H := hP
  have hD : va_D A [(a0, .inr (9, [.int 0, g6, g7, .null, g8, g9, g10, g11, g12, g13, g14, g15, g16, g17, g18, g19, g20, g21, g22, g23, g24, g25, g26, g27, g28, g29, g30, g31, g32, g33]))] := hD
  refine lv_aload_n hx hb dX12_nothing_5 rfl (lv_at hl 0 rfl) ?_
  refine lv_aload_n hx hb dX12_nothing_6 rfl (lv_at hl 0 rfl) ?_
  refine va_get (D := (dC, dI)) (ci := 9) (v := .null) (C := RX12) (T := TX12) (N := 30) hx hb hts iX12_nothing_X12 hown hK hP 0 rfl rfl 3 (by decide) (hts (.fieldLink RX12 299 "HookPierModel" "pier" "LHookPierModel$Pier;") (List.mem_of_getElem? (i := 2) rfl)) (fun _ h9 => h9) rfl dX12_nothing_7 ?_
  refine lv_ifnullN (tgt := 17) hx hb dX12_nothing_10 (by decide) ?_
  refine lv_iconst (v := 0) hx hb dX12_nothing_17 (by decide) ?_
  refine lv_iload_n hx hb dX12_nothing_18 rfl (lv_at hl 1 rfl) ?_
  refine lv_iload_n hx hb dX12_nothing_19 rfl (lv_at hl 2 rfl) ?_
  refine lv_iload_n hx hb dX12_nothing_20 rfl (lv_at hl 3 rfl) ?_
  refine cl_i (wc := [(a0, .inr (9, [.int 0, g6, g7, .null, g8, g9, g10, g11, g12, g13, g14, g15, g16, g17, g18, g19, g20, g21, g22, g23, g24, g25, g26, g27, g28, g29, g30, g31, g32, g33]))]) (wr := []) (va_runV (As := [.int 0, .int k1, .int k2, .int k3]) (rest := []) ⟨hx, hb, hml, hown, hts⟩ (kX12_refusesQuestion l dC dI a0 k1 k2 k3 (.int 0) (g6) (g7) (.null) (g8) (g9) (g10) (g11) (g12) (g13) (g14) (g15) (g16) (g17) (g18) (g19) (g20) (g21) (g22) (g23) (g24) (g25) (g26) (g27) (g28) (g29) (g30) (g31) (g32) (g33) H.size) (cwV 4 hts gX12_nothing_0 rfl rfl rfl (by decide +kernel) ⟨Nat.le_of_ble_eq_true rfl, Nat.le_of_ble_eq_true rfl⟩) (PV (hP.sub (ws' := [(a0, .inr (9, [.int 0, g6, g7, .null, g8, g9, g10, g11, g12, g13, g14, g15, g16, g17, g18, g19, g20, g21, g22, g23, g24, g25, g26, g27, g28, g29, g30, g31, g32, g33]))]) [0] rfl) (hK.sub (tys' := []) [] rfl) (hD.sub (ws' := [(a0, .inr (9, [.int 0, g6, g7, .null, g8, g9, g10, g11, g12, g13, g14, g15, g16, g17, g18, g19, g20, g21, g22, g23, g24, g25, g26, g27, g28, g29, g30, g31, g32, g33]))]) [0] (by decide) rfl) hN 0 rfl rfl) rfl rfl hl.1 rfl (lv_room (Nat.le_of_ble_eq_true rfl)) dX12_nothing_21 ⟨Nat.le_of_ble_eq_true rfl, Nat.le_of_ble_eq_true rfl⟩) hP hD hK hS hA [0] [] rfl rfl (by decide) (by decide) (fun z1 _u H locs hw hP hD hK hS => ?_)
  have hP : va_P (dC, dI) vwCl [(a0, .inr (9, [.int 0, g6, g7, .null, g8, g9, g10, g11, g12, g13, g14, g15, g16, g17, g18, g19, g20, g21, g22, g23, g24, g25, g26, g27, g28, g29, g30, g31, g32, g33]))] H := hP
  have hD : va_D A [(a0, .inr (9, [.int 0, g6, g7, .null, g8, g9, g10, g11, g12, g13, g14, g15, g16, g17, g18, g19, g20, g21, g22, g23, g24, g25, g26, g27, g28, g29, g30, g31, g32, g33]))] := hD
  have hK : va_K (dC, dI) vwCl [] s := hK
  obtain rfl : z1 = 1 := hw
  refine lv_istore (lv' := [(5, .int 1), (0, .ref a0), (1, .int k1), (2, .int k2), (3, .int k3), (4, .int k4)]) hx hb dX12_nothing_24 hl (by decide) rfl (fun ls hl => ?_)
  refine lv_iload hx hb dX12_nothing_26 (lv_at hl 0 rfl) ?_
  refine lv_if_le (tgt := 41) hx hb dX12_nothing_28 (by decide) (fun c2 => absurd c2 (by decide)) (fun _ => ?_)
  refine lv_aload_n hx hb dX12_nothing_31 rfl (lv_at hl 1 rfl) ?_
  refine lv_iload hx hb dX12_nothing_32 (lv_at hl 0 rfl) ?_
  refine cl_i (wc := [(a0, .inr (9, [.int 0, g6, g7, .null, g8, g9, g10, g11, g12, g13, g14, g15, g16, g17, g18, g19, g20, g21, g22, g23, g24, g25, g26, g27, g28, g29, g30, g31, g32, g33]))]) (wr := []) (va_runV (As := [.int 1]) (rest := []) ⟨hx, hb, hml, hown, hts⟩ (kX12_refused_1 l dC dI a0 (.int 0) (g6) (g7) (.null) (g8) (g9) (g10) (g11) (g12) (g13) (g14) (g15) (g16) (g17) (g18) (g19) (g20) (g21) (g22) (g23) (g24) (g25) (g26) (g27) (g28) (g29) (g30) (g31) (g32) (g33) H.size) (cwV 1 hts gX12_nothing_1 rfl rfl rfl (by decide +kernel) ⟨Nat.le_of_ble_eq_true rfl, Nat.le_of_ble_eq_true rfl⟩) (PV (hP.sub (ws' := [(a0, .inr (9, [.int 0, g6, g7, .null, g8, g9, g10, g11, g12, g13, g14, g15, g16, g17, g18, g19, g20, g21, g22, g23, g24, g25, g26, g27, g28, g29, g30, g31, g32, g33]))]) [0] rfl) (hK.sub (tys' := []) [] rfl) (hD.sub (ws' := [(a0, .inr (9, [.int 0, g6, g7, .null, g8, g9, g10, g11, g12, g13, g14, g15, g16, g17, g18, g19, g20, g21, g22, g23, g24, g25, g26, g27, g28, g29, g30, g31, g32, g33]))]) [0] (by decide) rfl) hN 0 rfl rfl) rfl rfl hl.1 rfl (lv_room (Nat.le_of_ble_eq_true rfl)) dX12_nothing_34 ⟨Nat.le_of_ble_eq_true rfl, Nat.le_of_ble_eq_true rfl⟩) hP hD hK hS hA [0] [] rfl rfl (by decide) (by decide) (fun z3 _u H locs hw hP hD hK hS => ?_)
  have hP : va_P (dC, dI) vwCl [(a0, .inr (9, [.int 0, .int 1, .int (-1), .null, g8, g9, g10, g11, g12, g13, g14, g15, g16, g17, g18, g19, g20, g21, g22, g23, g24, g25, g26, g27, g28, g29, g30, g31, g32, g33]))] H := hP
  have hD : va_D A [(a0, .inr (9, [.int 0, .int 1, .int (-1), .null, g8, g9, g10, g11, g12, g13, g14, g15, g16, g17, g18, g19, g20, g21, g22, g23, g24, g25, g26, g27, g28, g29, g30, g31, g32, g33]))] := hD
  have hK : va_K (dC, dI) vwCl [] s := hK
  obtain rfl : z3 = (-1) := hw
  refine lv_i2l (v := (-1)) hx hb dX12_nothing_37 (by decide) ?_
  refine lv_goto (tgt := 62) hx hb dX12_nothing_38 (by decide) ?_
  have hP9 := hP.sub (ws' := []) [] rfl
  have hD9 := hD.sub (ws' := []) [] (by decide) rfl
  have hK9 := hK.sub (tys' := []) [] rfl
  exact W.lret (v := (-1)) hx hb hr (fun t ht hW => ⟨⟨(-1), (), rfl, rfl, by rw [ht]; exact hP9, va_K.moved hW.alike hK9, hD9⟩, hS.F ht⟩) hS.2.2 dX12_nothing_62
theorem dX10_mean_0 : decode cX10_mean 0 = .ok (.aload_n 0, 1) := by decide +kernel
theorem dX10_mean_1 : decode cX10_mean 1 = .ok (.aload_n 0, 1) := by decide +kernel
theorem dX10_mean_11 : decode cX10_mean 11 = .ok (.ifCond .eq 7, 3) := by decide +kernel
theorem dX10_mean_14 : decode cX10_mean 14 = .ok (.ldc2_w 187, 3) := by decide +kernel
theorem dX10_mean_17 : decode cX10_mean 17 = .ok (.lreturn, 1) := by decide +kernel
theorem dX10_mean_2 : decode cX10_mean 2 = .ok (.iload_n 1, 1) := by decide +kernel
theorem dX10_mean_3 : decode cX10_mean 3 = .ok (.iload_n 2, 1) := by decide +kernel
theorem dX10_mean_4 : decode cX10_mean 4 = .ok (.iload_n 3, 1) := by decide +kernel
theorem dX10_mean_5 : decode cX10_mean 5 = .ok (.invokevirtual 199, 3) := by decide +kernel
theorem dX10_mean_8 : decode cX10_mean 8 = .ok (.invokevirtual 79, 3) := by decide +kernel
def vX10_mean : List Cond := .code yX10_mean cX10_mean 5 (some .long) :: ([.methodLink RX10 199 yX10_questionTrouble, .instanceMethod yX10_questionTrouble, .selects RX10 yX10_questionTrouble yX10_questionTrouble, .initialized RX10, .code yX10_questionTrouble cX10_questionTrouble 4 (some .int), .fieldLink RX10 10 "HookPier" "plan" "LHookPier$Plan;", .methodLink RX10 239 yX6_hasSpot, .instanceMethod yX6_hasSpot, .selects RX6 yX6_hasSpot yX6_hasSpot, .initialized RX6, .code yX6_hasSpot cX6_hasSpot 2 (some .boolean), .fieldLink RX6 9 "HookPier$Plan" "spots" "I", .code yX10_within cX10_within 3 (some .boolean), .static yX10_within, .methodLink RX10 79 yX10_refused, .instanceMethod yX10_refused, .selects RX10 yX10_refused yX10_refused, .code yX10_refused cX10_refused 2 (some .boolean), .fieldLink RX10 61 "HookPier" "troubleNow" "I", .constantLong RX10 187 (-1)] ++ wsX100 ++ wsX60)
theorem iX10_mean_X10 : ∀ w ∈ wsX100, w ∈ vX10_mean := fun _ h => List.mem_cons_of_mem _ (List.mem_append_left _ (List.mem_append_right _ h))
theorem iX10_mean_X6 : ∀ w ∈ wsX60, w ∈ vX10_mean := fun _ h => List.mem_cons_of_mem _ (List.mem_append_right _ h)
set_option maxRecDepth 20000 in
theorem gX10_mean_0 : GoodIn vX10_mean (wsV RX10 199 RX10 yX10_questionTrouble vX10_questionTrouble) := goodIn_app (goodIn_r [.methodLink RX10 199 yX10_questionTrouble, .instanceMethod yX10_questionTrouble, .selects RX10 yX10_questionTrouble yX10_questionTrouble, .initialized RX10] [1, 2, 3, 4] (by decide +kernel) (by decide +kernel)) (goodIn_ca (goodIn_ca (goodIn_r (.code yX10_questionTrouble cX10_questionTrouble 4 (some .int) :: [.fieldLink RX10 10 "HookPier" "plan" "LHookPier$Plan;", .methodLink RX10 239 yX6_hasSpot, .instanceMethod yX6_hasSpot, .selects RX6 yX6_hasSpot yX6_hasSpot, .initialized RX6, .code yX6_hasSpot cX6_hasSpot 2 (some .boolean), .fieldLink RX6 9 "HookPier$Plan" "spots" "I", .code yX10_within cX10_within 3 (some .boolean), .initialized RX10, .static yX10_within]) [5, 6, 7, 8, 9, 10, 11, 12, 13, 4, 14] (by decide +kernel) (by decide +kernel) : GoodIn vX10_mean (.code yX10_questionTrouble cX10_questionTrouble 4 (some .int) :: [.fieldLink RX10 10 "HookPier" "plan" "LHookPier$Plan;", .methodLink RX10 239 yX6_hasSpot, .instanceMethod yX6_hasSpot, .selects RX6 yX6_hasSpot yX6_hasSpot, .initialized RX6, .code yX6_hasSpot cX6_hasSpot 2 (some .boolean), .fieldLink RX6 9 "HookPier$Plan" "spots" "I", .code yX10_within cX10_within 3 (some .boolean), .initialized RX10, .static yX10_within])) (goodIn_sub iX10_mean_X10 (by decide +kernel))) (goodIn_sub iX10_mean_X6 (by decide +kernel)))
set_option maxRecDepth 20000 in
theorem gX10_mean_1 : GoodIn vX10_mean (wsV RX10 79 RX10 yX10_refused vX10_refused_3) := goodIn_app (goodIn_r [.methodLink RX10 79 yX10_refused, .instanceMethod yX10_refused, .selects RX10 yX10_refused yX10_refused, .initialized RX10] [15, 16, 17, 4] (by decide +kernel) (by decide +kernel)) (goodIn_ca (goodIn_r (.code yX10_refused cX10_refused 2 (some .boolean) :: [.fieldLink RX10 61 "HookPier" "troubleNow" "I"]) [18, 19] (by decide +kernel) (by decide +kernel) : GoodIn vX10_mean (.code yX10_refused cX10_refused 2 (some .boolean) :: [.fieldLink RX10 61 "HookPier" "troubleNow" "I"])) (goodIn_sub iX10_mean_X10 (by decide +kernel)))
set_option maxHeartbeats 1000000 in
set_option maxRecDepth 100000 in
theorem kX10_mean (l : Launch) (dC : Nat → ClassId) (dI : Nat → Nat → Nat) (a0 : Nat) (k1 : Int32) (k2 : Int32) (k3 : Int32) (k4 : Int32) (a5 : Nat) (g6 : Value) (g7 : Value) (g8 : Value) (g9 : Value) (g10 : Value) (g11 : Value) (g12 : Value) (g13 : Value) (g14 : Value) (g15 : Value) (g16 : Value) (g17 : Value) (g18 : Value) (g19 : Value) (g20 : Value) (g21 : Value) (g22 : Value) (g23 : Value) (g24 : Value) (g25 : Value) (g26 : Value) (g27 : Value) (g28 : Value) (g29 : Value) (g30 : Value) (g31 : Value) (sz : Nat) : Met l yX10_mean vX10_mean ({ frames := 3, cells := 0, slots := 0, locals := 66 }) (PC (dC, dI) [.ref a0, .int k1, .int k2, .int k3, .int k4] sz [(a0, .inr (7, [.ref a5, g6, g7, g8, g9, g10, g11, g12, g13, g14])), (a5, .inr (4, [.int 0, g15, g16, g17, g18, g19, g20, g21, g22, g23, g24, g25, g26, g27, g28, g29, g30, g31]))] []) (va_Ql (S := Unit) (fun (r : Int64) _ => r = (-1)) (fun _ t => BC (dC, dI) (va_A [(a0, .inr (7, [.ref a5, g6, g7, g8, g9, g10, g11, g12, g13, g14])), (a5, .inr (4, [.int 0, g15, g16, g17, g18, g19, g20, g21, g22, g23, g24, g25, g26, g27, g28, g29, g30, g31]))] sz) [] [] t) (va_A [(a0, .inr (7, [.ref a5, g6, g7, g8, g9, g10, g11, g12, g13, g14])), (a5, .inr (4, [.int 0, g15, g16, g17, g18, g19, g20, g21, g22, g23, g24, g25, g26, g27, g28, g29, g30, g31]))] sz)) 0 0 (va_A [(a0, .inr (7, [.ref a5, g6, g7, g8, g9, g10, g11, g12, g13, g14])), (a5, .inr (4, [.int 0, g15, g16, g17, g18, g19, g20, g21, g22, g23, g24, g25, g26, g27, g28, g29, g30, g31]))] sz) := by
  refine Met.ofW (cc := cX10_mean) (maxL := 5) (ret := (some .long)) (by decide) rfl ?_
  intro p e s m args below meth c s₁ B hml hv
  obtain ⟨rfl, hsz, hP, hK, hD0, hN⟩ := hv
  have hx := B.exec
  have hb := B.bytes
  have hr := B.returns
  have hts := atoms_spec (ws := vX10_mean) B.pre
  have hown : s.vm.findClass RX10 = some m.cls := findClass_of_methodNamed B.named
  have hlocks := B.notSynchronized
  subst hsz
  have hD := hD0.self (sz := s.heap.size)
  generalize hAe : va_A [(a0, .inr (7, [.ref a5, g6, g7, g8, g9, g10, g11, g12, g13, g14])), (a5, .inr (4, [.int 0, g15, g16, g17, g18, g19, g20, g21, g22, g23, g24, g25, g26, g27, g28, g29, g30, g31]))] s.heap.size = A at hD ⊢
  have hA : ∀ q : Nat, s.heap.size ≤ q → A q := fun q h => by rw [← hAe]; exact Or.inr h
  have hS : va_S A s.heap s.heap [] := va_S.rf
  have hP : va_P (dC, dI) vwCl [(a0, .inr (7, [.ref a5, g6, g7, g8, g9, g10, g11, g12, g13, g14])), (a5, .inr (4, [.int 0, g15, g16, g17, g18, g19, g20, g21, g22, g23, g24, g25, g26, g27, g28, g29, g30, g31]))] s.heap := hP
  have hl := lv_entry ([.ref a0, .int k1, .int k2, .int k3, .int k4]) (n := 5) (Nat.le_of_ble_eq_true rfl)
  rw [lg_entry_eq]
  generalize (lg_sl ([.ref a0, .int k1, .int k2, .int k3, .int k4]) ++ List.replicate (5 - (lg_sl ([.ref a0, .int k1, .int k2, .int k3, .int k4])).length) Slot.unset).toArray = ls at hl ⊢
  have hl : lv_has ls 5 [(0, .ref a0), (1, .int k1), (2, .int k2), (3, .int k3), (4, .int k4)] := hl
  refine lv_aload_n hx hb dX10_mean_0 rfl (lv_at hl 0 rfl) ?_
  refine lv_aload_n hx hb dX10_mean_1 rfl (lv_at hl 0 rfl) ?_
  refine lv_iload_n hx hb dX10_mean_2 rfl (lv_at hl 1 rfl) ?_
  refine lv_iload_n hx hb dX10_mean_3 rfl (lv_at hl 2 rfl) ?_
  refine lv_iload_n hx hb dX10_mean_4 rfl (lv_at hl 3 rfl) ?_
  refine cl_i (wc := [(a0, .inr (7, [.ref a5, g6, g7, g8, g9, g10, g11, g12, g13, g14])), (a5, .inr (4, [.int 0, g15, g16, g17, g18, g19, g20, g21, g22, g23, g24, g25, g26, g27, g28, g29, g30, g31]))]) (wr := []) (va_runV (As := [.int k1, .int k2, .int k3]) (rest := [.ref a0]) ⟨hx, hb, hml, hown, hts⟩ (kX10_questionTrouble l dC dI a0 k1 k2 k3 a5 (g6) (g7) (g8) (g9) (g10) (g11) (g12) (g13) (g14) (g15) (g16) (g17) (g18) (g19) (g20) (g21) (g22) (g23) (g24) (g25) (g26) (g27) (g28) (g29) (g30) (g31) s.heap.size) (cwV 3 hts gX10_mean_0 rfl rfl rfl (by decide +kernel) ⟨Nat.le_of_ble_eq_true rfl, Nat.le_of_ble_eq_true rfl⟩) (PV (hP.sub (ws' := [(a0, .inr (7, [.ref a5, g6, g7, g8, g9, g10, g11, g12, g13, g14])), (a5, .inr (4, [.int 0, g15, g16, g17, g18, g19, g20, g21, g22, g23, g24, g25, g26, g27, g28, g29, g30, g31]))]) [0, 1] rfl) (hK.sub (tys' := []) [] rfl) (hD.sub (ws' := [(a0, .inr (7, [.ref a5, g6, g7, g8, g9, g10, g11, g12, g13, g14])), (a5, .inr (4, [.int 0, g15, g16, g17, g18, g19, g20, g21, g22, g23, g24, g25, g26, g27, g28, g29, g30, g31]))]) [0, 1] (by decide) rfl) hN 0 rfl rfl) rfl rfl hl.1 rfl (lv_room (Nat.le_of_ble_eq_true rfl)) dX10_mean_5 ⟨Nat.le_of_ble_eq_true rfl, Nat.le_of_ble_eq_true rfl⟩) hP hD hK hS hA [0, 1] [] rfl rfl (by decide) (by decide) (fun z1 _u H locs hw hP hD hK hS => ?_)
  have hP : va_P (dC, dI) vwCl [(a0, .inr (7, [.ref a5, g6, g7, g8, g9, g10, g11, g12, g13, g14])), (a5, .inr (4, [.int 0, g15, g16, g17, g18, g19, g20, g21, g22, g23, g24, g25, g26, g27, g28, g29, g30, g31]))] H := hP
  have hD : va_D A [(a0, .inr (7, [.ref a5, g6, g7, g8, g9, g10, g11, g12, g13, g14])), (a5, .inr (4, [.int 0, g15, g16, g17, g18, g19, g20, g21, g22, g23, g24, g25, g26, g27, g28, g29, g30, g31]))] := hD
  have hK : va_K (dC, dI) vwCl [] s := hK
  obtain rfl : z1 = 1 := hw
  refine cl_i (wc := [(a0, .inr (7, [.ref a5, g6, g7, g8, g9, g10, g11, g12, g13, g14]))]) (wr := [(a5, .inr (4, [.int 0, g15, g16, g17, g18, g19, g20, g21, g22, g23, g24, g25, g26, g27, g28, g29, g30, g31]))]) (va_runV (As := [.int 1]) (rest := []) ⟨hx, hb, hml, hown, hts⟩ (kX10_refused_3 l dC dI a0 (.ref a5) (g6) (g7) (g8) (g9) (g10) (g11) (g12) (g13) (g14) H.size) (cwV 1 hts gX10_mean_1 rfl rfl rfl (by decide +kernel) ⟨Nat.le_of_ble_eq_true rfl, Nat.le_of_ble_eq_true rfl⟩) (PV (hP.sub (ws' := [(a0, .inr (7, [.ref a5, g6, g7, g8, g9, g10, g11, g12, g13, g14]))]) [0] rfl) (hK.sub (tys' := []) [] rfl) (hD.sub (ws' := [(a0, .inr (7, [.ref a5, g6, g7, g8, g9, g10, g11, g12, g13, g14]))]) [0] (by decide) rfl) hN 0 rfl rfl) rfl rfl hl.1 rfl (lv_room (Nat.le_of_ble_eq_true rfl)) dX10_mean_8 ⟨Nat.le_of_ble_eq_true rfl, Nat.le_of_ble_eq_true rfl⟩) hP hD hK hS hA [0] [1] rfl rfl (by decide) (by decide) (fun z2 _u H locs hw hP hD hK hS => ?_)
  have hP : va_P (dC, dI) vwCl [(a5, .inr (4, [.int 0, g15, g16, g17, g18, g19, g20, g21, g22, g23, g24, g25, g26, g27, g28, g29, g30, g31])), (a0, .inr (7, [.ref a5, g6, g7, g8, g9, g10, g11, g12, .int 1, g14]))] H := hP
  have hD : va_D A [(a5, .inr (4, [.int 0, g15, g16, g17, g18, g19, g20, g21, g22, g23, g24, g25, g26, g27, g28, g29, g30, g31])), (a0, .inr (7, [.ref a5, g6, g7, g8, g9, g10, g11, g12, .int 1, g14]))] := hD
  have hK : va_K (dC, dI) vwCl [] s := hK
  obtain rfl : z2 = 1 := hw
  refine lv_if_eq (tgt := 18) hx hb dX10_mean_11 (by decide) (fun c3 => absurd c3 (by decide)) (fun _ => ?_)
  refine lv_ldc2 hx hb hown (hts (.constantLong RX10 187 (-1)) (List.mem_of_getElem? (i := 20) rfl)) dX10_mean_14 ?_
  have hP9 := hP.sub (ws' := []) [] rfl
  have hD9 := hD.sub (ws' := []) [] (by decide) rfl
  have hK9 := hK.sub (tys' := []) [] rfl
  exact W.lret (v := (-1)) hx hb hr (fun t ht hW => ⟨⟨(-1), (), rfl, rfl, by rw [ht]; exact hP9, va_K.moved hW.alike hK9, hD9⟩, hS.F ht⟩) hS.2.2 dX10_mean_17
theorem dX12_mean_0 : decode cX12_mean 0 = .ok (.aload_n 0, 1) := by decide +kernel
theorem dX12_mean_1 : decode cX12_mean 1 = .ok (.iconst 0, 1) := by decide +kernel
theorem dX12_mean_10 : decode cX12_mean 10 = .ok (.ifnull 7, 3) := by decide +kernel
theorem dX12_mean_17 : decode cX12_mean 17 = .ok (.iconst 0, 1) := by decide +kernel
theorem dX12_mean_18 : decode cX12_mean 18 = .ok (.iload_n 1, 1) := by decide +kernel
theorem dX12_mean_19 : decode cX12_mean 19 = .ok (.iload_n 2, 1) := by decide +kernel
theorem dX12_mean_2 : decode cX12_mean 2 = .ok (.putfield 36, 3) := by decide +kernel
theorem dX12_mean_20 : decode cX12_mean 20 = .ok (.iload_n 3, 1) := by decide +kernel
theorem dX12_mean_21 : decode cX12_mean 21 = .ok (.invokevirtual 353, 3) := by decide +kernel
theorem dX12_mean_24 : decode cX12_mean 24 = .ok (.istore 5, 2) := by decide +kernel
theorem dX12_mean_26 : decode cX12_mean 26 = .ok (.iload 5, 2) := by decide +kernel
theorem dX12_mean_28 : decode cX12_mean 28 = .ok (.ifCond .le 13, 3) := by decide +kernel
theorem dX12_mean_31 : decode cX12_mean 31 = .ok (.aload_n 0, 1) := by decide +kernel
theorem dX12_mean_32 : decode cX12_mean 32 = .ok (.iload 5, 2) := by decide +kernel
theorem dX12_mean_34 : decode cX12_mean 34 = .ok (.invokevirtual 42, 3) := by decide +kernel
theorem dX12_mean_37 : decode cX12_mean 37 = .ok (.i2l, 1) := by decide +kernel
theorem dX12_mean_38 : decode cX12_mean 38 = .ok (.goto 24, 3) := by decide +kernel
theorem dX12_mean_5 : decode cX12_mean 5 = .ok (.aload_n 0, 1) := by decide +kernel
theorem dX12_mean_6 : decode cX12_mean 6 = .ok (.aload_n 0, 1) := by decide +kernel
theorem dX12_mean_62 : decode cX12_mean 62 = .ok (.lreturn, 1) := by decide +kernel
theorem dX12_mean_7 : decode cX12_mean 7 = .ok (.getfield 299, 3) := by decide +kernel
def vX12_mean : List Cond := .code yX12_mean cX12_mean 6 (some .long) :: ([.fieldLink RX12 36 "HookPierModel" "thrown" "I", .fieldLink RX12 299 "HookPierModel" "pier" "LHookPierModel$Pier;", .methodLink RX12 353 yX12_refusesQuestion, .instanceMethod yX12_refusesQuestion, .selects RX12 yX12_refusesQuestion yX12_refusesQuestion, .initialized RX12, .code yX12_refusesQuestion cX12_refusesQuestion 5 (some .int), .methodLink RX12 42 yX12_refused, .instanceMethod yX12_refused, .selects RX12 yX12_refused yX12_refused, .code yX12_refused cX12_refused 2 (some .int), .fieldLink RX12 39 "HookPierModel" "trouble" "I", .fieldLink RX12 9 "HookPierModel" "where" "I"] ++ wsX120)
theorem iX12_mean_X12 : ∀ w ∈ wsX120, w ∈ vX12_mean := fun _ h => List.mem_cons_of_mem _ (List.mem_append_right _ h)
set_option maxRecDepth 20000 in
theorem gX12_mean_0 : GoodIn vX12_mean (wsV RX12 353 RX12 yX12_refusesQuestion vX12_refusesQuestion) := goodIn_app (goodIn_r [.methodLink RX12 353 yX12_refusesQuestion, .instanceMethod yX12_refusesQuestion, .selects RX12 yX12_refusesQuestion yX12_refusesQuestion, .initialized RX12] [3, 4, 5, 6] (by decide +kernel) (by decide +kernel)) (goodIn_r (.code yX12_refusesQuestion cX12_refusesQuestion 5 (some .int) :: []) [7] (by decide +kernel) (by decide +kernel) : GoodIn vX12_mean (.code yX12_refusesQuestion cX12_refusesQuestion 5 (some .int) :: []))
set_option maxRecDepth 20000 in
theorem gX12_mean_1 : GoodIn vX12_mean (wsV RX12 42 RX12 yX12_refused vX12_refused_1) := goodIn_app (goodIn_r [.methodLink RX12 42 yX12_refused, .instanceMethod yX12_refused, .selects RX12 yX12_refused yX12_refused, .initialized RX12] [8, 9, 10, 6] (by decide +kernel) (by decide +kernel)) (goodIn_ca (goodIn_r (.code yX12_refused cX12_refused 2 (some .int) :: [.fieldLink RX12 39 "HookPierModel" "trouble" "I", .fieldLink RX12 9 "HookPierModel" "where" "I"]) [11, 12, 13] (by decide +kernel) (by decide +kernel) : GoodIn vX12_mean (.code yX12_refused cX12_refused 2 (some .int) :: [.fieldLink RX12 39 "HookPierModel" "trouble" "I", .fieldLink RX12 9 "HookPierModel" "where" "I"])) (goodIn_sub iX12_mean_X12 (by decide +kernel)))
set_option maxHeartbeats 1000000 in
set_option maxRecDepth 100000 in
theorem kX12_mean (l : Launch) (dC : Nat → ClassId) (dI : Nat → Nat → Nat) (a0 : Nat) (k1 : Int32) (k2 : Int32) (k3 : Int32) (k4 : Int32) (g5 : Value) (g6 : Value) (g7 : Value) (g8 : Value) (g9 : Value) (g10 : Value) (g11 : Value) (g12 : Value) (g13 : Value) (g14 : Value) (g15 : Value) (g16 : Value) (g17 : Value) (g18 : Value) (g19 : Value) (g20 : Value) (g21 : Value) (g22 : Value) (g23 : Value) (g24 : Value) (g25 : Value) (g26 : Value) (g27 : Value) (g28 : Value) (g29 : Value) (g30 : Value) (g31 : Value) (g32 : Value) (g33 : Value) (sz : Nat) : Met l yX12_mean vX12_mean ({ frames := 1, cells := 0, slots := 0, locals := 24 }) (PC (dC, dI) [.ref a0, .int k1, .int k2, .int k3, .int k4] sz [(a0, .inr (9, [g5, g6, g7, .null, g8, g9, g10, g11, g12, g13, g14, g15, g16, g17, g18, g19, g20, g21, g22, g23, g24, g25, g26, g27, g28, g29, g30, g31, g32, g33]))] []) (va_Ql (S := Unit) (fun (r : Int64) _ => r = (-1)) (fun _ t => BC (dC, dI) (va_A [(a0, .inr (9, [g5, g6, g7, .null, g8, g9, g10, g11, g12, g13, g14, g15, g16, g17, g18, g19, g20, g21, g22, g23, g24, g25, g26, g27, g28, g29, g30, g31, g32, g33]))] sz) [] [] t) (va_A [(a0, .inr (9, [g5, g6, g7, .null, g8, g9, g10, g11, g12, g13, g14, g15, g16, g17, g18, g19, g20, g21, g22, g23, g24, g25, g26, g27, g28, g29, g30, g31, g32, g33]))] sz)) 0 0 (va_A [(a0, .inr (9, [g5, g6, g7, .null, g8, g9, g10, g11, g12, g13, g14, g15, g16, g17, g18, g19, g20, g21, g22, g23, g24, g25, g26, g27, g28, g29, g30, g31, g32, g33]))] sz) := by
  refine Met.ofW (cc := cX12_mean) (maxL := 6) (ret := (some .long)) (by decide) rfl ?_
  intro p e s m args below meth c s₁ B hml hv
  obtain ⟨rfl, hsz, hP, hK, hD0, hN⟩ := hv
  have hx := B.exec
  have hb := B.bytes
  have hr := B.returns
  have hts := atoms_spec (ws := vX12_mean) B.pre
  have hown : s.vm.findClass RX12 = some m.cls := findClass_of_methodNamed B.named
  have hlocks := B.notSynchronized
  subst hsz
  have hD := hD0.self (sz := s.heap.size)
  generalize hAe : va_A [(a0, .inr (9, [g5, g6, g7, .null, g8, g9, g10, g11, g12, g13, g14, g15, g16, g17, g18, g19, g20, g21, g22, g23, g24, g25, g26, g27, g28, g29, g30, g31, g32, g33]))] s.heap.size = A at hD ⊢
  have hA : ∀ q : Nat, s.heap.size ≤ q → A q := fun q h => by rw [← hAe]; exact Or.inr h
  have hS : va_S A s.heap s.heap [] := va_S.rf
  have hP : va_P (dC, dI) vwCl [(a0, .inr (9, [g5, g6, g7, .null, g8, g9, g10, g11, g12, g13, g14, g15, g16, g17, g18, g19, g20, g21, g22, g23, g24, g25, g26, g27, g28, g29, g30, g31, g32, g33]))] s.heap := hP
  have hl := lv_entry ([.ref a0, .int k1, .int k2, .int k3, .int k4]) (n := 6) (Nat.le_of_ble_eq_true rfl)
  rw [lg_entry_eq]
  generalize (lg_sl ([.ref a0, .int k1, .int k2, .int k3, .int k4]) ++ List.replicate (6 - (lg_sl ([.ref a0, .int k1, .int k2, .int k3, .int k4])).length) Slot.unset).toArray = ls at hl ⊢
  have hl : lv_has ls 6 [(0, .ref a0), (1, .int k1), (2, .int k2), (3, .int k3), (4, .int k4)] := hl
  refine lv_aload_n hx hb dX12_mean_0 rfl (lv_at hl 0 rfl) ?_
  refine lv_iconst (v := 0) hx hb dX12_mean_1 (by decide) ?_
  refine va_put (D := (dC, dI)) (ci := 9) (v := .int 0) (ty := .int) (C := RX12) (T := TX12) (N := 30) hx hb hts iX12_mean_X12 tyX12 tyX12_ok nmX12 hown hK hP hD hS 0 rfl rfl 0 (by decide) (hts (.fieldLink RX12 36 "HookPierModel" "thrown" "I") (List.mem_of_getElem? (i := 1) rfl)) (fun _ h9 => h9) rfl (by decide +kernel) rfl rfl (Nat.le_of_ble_eq_true rfl) dX12_mean_2 (fun H locs hP hD hS => ?_)
  have hP : va_P (dC, dI) vwCl [(a0, .inr (9, [.int 0, g6, g7, .null, g8, g9, g10, g11, g12, g13, g14, g15, g16, g17, g18, g19, g20, g21, g22, g23, g24, g25, g26, g27, g28, g29, g30, g31, g32, g33]))] H := hP
  have hD : va_D A [(a0, .inr (9, [.int 0, g6, g7, .null, g8, g9, g10, g11, g12, g13, g14, g15, g16, g17, g18, g19, g20, g21, g22, g23, g24, g25, g26, g27, g28, g29, g30, g31, g32, g33]))] := hD
  refine lv_aload_n hx hb dX12_mean_5 rfl (lv_at hl 0 rfl) ?_
  refine lv_aload_n hx hb dX12_mean_6 rfl (lv_at hl 0 rfl) ?_
  refine va_get (D := (dC, dI)) (ci := 9) (v := .null) (C := RX12) (T := TX12) (N := 30) hx hb hts iX12_mean_X12 hown hK hP 0 rfl rfl 3 (by decide) (hts (.fieldLink RX12 299 "HookPierModel" "pier" "LHookPierModel$Pier;") (List.mem_of_getElem? (i := 2) rfl)) (fun _ h9 => h9) rfl dX12_mean_7 ?_
  refine lv_ifnullN (tgt := 17) hx hb dX12_mean_10 (by decide) ?_
  refine lv_iconst (v := 0) hx hb dX12_mean_17 (by decide) ?_
  refine lv_iload_n hx hb dX12_mean_18 rfl (lv_at hl 1 rfl) ?_
  refine lv_iload_n hx hb dX12_mean_19 rfl (lv_at hl 2 rfl) ?_
  refine lv_iload_n hx hb dX12_mean_20 rfl (lv_at hl 3 rfl) ?_
  refine cl_i (wc := [(a0, .inr (9, [.int 0, g6, g7, .null, g8, g9, g10, g11, g12, g13, g14, g15, g16, g17, g18, g19, g20, g21, g22, g23, g24, g25, g26, g27, g28, g29, g30, g31, g32, g33]))]) (wr := []) (va_runV (As := [.int 0, .int k1, .int k2, .int k3]) (rest := []) ⟨hx, hb, hml, hown, hts⟩ (kX12_refusesQuestion l dC dI a0 k1 k2 k3 (.int 0) (g6) (g7) (.null) (g8) (g9) (g10) (g11) (g12) (g13) (g14) (g15) (g16) (g17) (g18) (g19) (g20) (g21) (g22) (g23) (g24) (g25) (g26) (g27) (g28) (g29) (g30) (g31) (g32) (g33) H.size) (cwV 4 hts gX12_mean_0 rfl rfl rfl (by decide +kernel) ⟨Nat.le_of_ble_eq_true rfl, Nat.le_of_ble_eq_true rfl⟩) (PV (hP.sub (ws' := [(a0, .inr (9, [.int 0, g6, g7, .null, g8, g9, g10, g11, g12, g13, g14, g15, g16, g17, g18, g19, g20, g21, g22, g23, g24, g25, g26, g27, g28, g29, g30, g31, g32, g33]))]) [0] rfl) (hK.sub (tys' := []) [] rfl) (hD.sub (ws' := [(a0, .inr (9, [.int 0, g6, g7, .null, g8, g9, g10, g11, g12, g13, g14, g15, g16, g17, g18, g19, g20, g21, g22, g23, g24, g25, g26, g27, g28, g29, g30, g31, g32, g33]))]) [0] (by decide) rfl) hN 0 rfl rfl) rfl rfl hl.1 rfl (lv_room (Nat.le_of_ble_eq_true rfl)) dX12_mean_21 ⟨Nat.le_of_ble_eq_true rfl, Nat.le_of_ble_eq_true rfl⟩) hP hD hK hS hA [0] [] rfl rfl (by decide) (by decide) (fun z1 _u H locs hw hP hD hK hS => ?_)
  have hP : va_P (dC, dI) vwCl [(a0, .inr (9, [.int 0, g6, g7, .null, g8, g9, g10, g11, g12, g13, g14, g15, g16, g17, g18, g19, g20, g21, g22, g23, g24, g25, g26, g27, g28, g29, g30, g31, g32, g33]))] H := hP
  have hD : va_D A [(a0, .inr (9, [.int 0, g6, g7, .null, g8, g9, g10, g11, g12, g13, g14, g15, g16, g17, g18, g19, g20, g21, g22, g23, g24, g25, g26, g27, g28, g29, g30, g31, g32, g33]))] := hD
  have hK : va_K (dC, dI) vwCl [] s := hK
  obtain rfl : z1 = 1 := hw
  refine lv_istore (lv' := [(5, .int 1), (0, .ref a0), (1, .int k1), (2, .int k2), (3, .int k3), (4, .int k4)]) hx hb dX12_mean_24 hl (by decide) rfl (fun ls hl => ?_)
  refine lv_iload hx hb dX12_mean_26 (lv_at hl 0 rfl) ?_
  refine lv_if_le (tgt := 41) hx hb dX12_mean_28 (by decide) (fun c2 => absurd c2 (by decide)) (fun _ => ?_)
  refine lv_aload_n hx hb dX12_mean_31 rfl (lv_at hl 1 rfl) ?_
  refine lv_iload hx hb dX12_mean_32 (lv_at hl 0 rfl) ?_
  refine cl_i (wc := [(a0, .inr (9, [.int 0, g6, g7, .null, g8, g9, g10, g11, g12, g13, g14, g15, g16, g17, g18, g19, g20, g21, g22, g23, g24, g25, g26, g27, g28, g29, g30, g31, g32, g33]))]) (wr := []) (va_runV (As := [.int 1]) (rest := []) ⟨hx, hb, hml, hown, hts⟩ (kX12_refused_1 l dC dI a0 (.int 0) (g6) (g7) (.null) (g8) (g9) (g10) (g11) (g12) (g13) (g14) (g15) (g16) (g17) (g18) (g19) (g20) (g21) (g22) (g23) (g24) (g25) (g26) (g27) (g28) (g29) (g30) (g31) (g32) (g33) H.size) (cwV 1 hts gX12_mean_1 rfl rfl rfl (by decide +kernel) ⟨Nat.le_of_ble_eq_true rfl, Nat.le_of_ble_eq_true rfl⟩) (PV (hP.sub (ws' := [(a0, .inr (9, [.int 0, g6, g7, .null, g8, g9, g10, g11, g12, g13, g14, g15, g16, g17, g18, g19, g20, g21, g22, g23, g24, g25, g26, g27, g28, g29, g30, g31, g32, g33]))]) [0] rfl) (hK.sub (tys' := []) [] rfl) (hD.sub (ws' := [(a0, .inr (9, [.int 0, g6, g7, .null, g8, g9, g10, g11, g12, g13, g14, g15, g16, g17, g18, g19, g20, g21, g22, g23, g24, g25, g26, g27, g28, g29, g30, g31, g32, g33]))]) [0] (by decide) rfl) hN 0 rfl rfl) rfl rfl hl.1 rfl (lv_room (Nat.le_of_ble_eq_true rfl)) dX12_mean_34 ⟨Nat.le_of_ble_eq_true rfl, Nat.le_of_ble_eq_true rfl⟩) hP hD hK hS hA [0] [] rfl rfl (by decide) (by decide) (fun z3 _u H locs hw hP hD hK hS => ?_)
  have hP : va_P (dC, dI) vwCl [(a0, .inr (9, [.int 0, .int 1, .int (-1), .null, g8, g9, g10, g11, g12, g13, g14, g15, g16, g17, g18, g19, g20, g21, g22, g23, g24, g25, g26, g27, g28, g29, g30, g31, g32, g33]))] H := hP
  have hD : va_D A [(a0, .inr (9, [.int 0, .int 1, .int (-1), .null, g8, g9, g10, g11, g12, g13, g14, g15, g16, g17, g18, g19, g20, g21, g22, g23, g24, g25, g26, g27, g28, g29, g30, g31, g32, g33]))] := hD
  have hK : va_K (dC, dI) vwCl [] s := hK
  obtain rfl : z3 = (-1) := hw
  refine lv_i2l (v := (-1)) hx hb dX12_mean_37 (by decide) ?_
  refine lv_goto (tgt := 62) hx hb dX12_mean_38 (by decide) ?_
  have hP9 := hP.sub (ws' := []) [] rfl
  have hD9 := hD.sub (ws' := []) [] (by decide) rfl
  have hK9 := hK.sub (tys' := []) [] rfl
  exact W.lret (v := (-1)) hx hb hr (fun t ht hW => ⟨⟨(-1), (), rfl, rfl, by rw [ht]; exact hP9, va_K.moved hW.alike hK9, hD9⟩, hS.F ht⟩) hS.2.2 dX12_mean_62
theorem dX10_likeliest_0 : decode cX10_likeliest 0 = .ok (.aload_n 0, 1) := by decide +kernel
theorem dX10_likeliest_1 : decode cX10_likeliest 1 = .ok (.aload_n 0, 1) := by decide +kernel
theorem dX10_likeliest_11 : decode cX10_likeliest 11 = .ok (.ifCond .eq 5, 3) := by decide +kernel
theorem dX10_likeliest_14 : decode cX10_likeliest 14 = .ok (.iconst (-1), 1) := by decide +kernel
theorem dX10_likeliest_15 : decode cX10_likeliest 15 = .ok (.ireturn, 1) := by decide +kernel
theorem dX10_likeliest_2 : decode cX10_likeliest 2 = .ok (.iload_n 1, 1) := by decide +kernel
theorem dX10_likeliest_3 : decode cX10_likeliest 3 = .ok (.iload_n 2, 1) := by decide +kernel
theorem dX10_likeliest_4 : decode cX10_likeliest 4 = .ok (.iload_n 3, 1) := by decide +kernel
theorem dX10_likeliest_5 : decode cX10_likeliest 5 = .ok (.invokevirtual 199, 3) := by decide +kernel
theorem dX10_likeliest_8 : decode cX10_likeliest 8 = .ok (.invokevirtual 79, 3) := by decide +kernel
def vX10_likeliest : List Cond := .code yX10_likeliest cX10_likeliest 4 (some .int) :: ([.methodLink RX10 199 yX10_questionTrouble, .instanceMethod yX10_questionTrouble, .selects RX10 yX10_questionTrouble yX10_questionTrouble, .initialized RX10, .code yX10_questionTrouble cX10_questionTrouble 4 (some .int), .fieldLink RX10 10 "HookPier" "plan" "LHookPier$Plan;", .methodLink RX10 239 yX6_hasSpot, .instanceMethod yX6_hasSpot, .selects RX6 yX6_hasSpot yX6_hasSpot, .initialized RX6, .code yX6_hasSpot cX6_hasSpot 2 (some .boolean), .fieldLink RX6 9 "HookPier$Plan" "spots" "I", .code yX10_within cX10_within 3 (some .boolean), .static yX10_within, .methodLink RX10 79 yX10_refused, .instanceMethod yX10_refused, .selects RX10 yX10_refused yX10_refused, .code yX10_refused cX10_refused 2 (some .boolean), .fieldLink RX10 61 "HookPier" "troubleNow" "I"] ++ wsX100 ++ wsX60)
theorem iX10_likeliest_X10 : ∀ w ∈ wsX100, w ∈ vX10_likeliest := fun _ h => List.mem_cons_of_mem _ (List.mem_append_left _ (List.mem_append_right _ h))
theorem iX10_likeliest_X6 : ∀ w ∈ wsX60, w ∈ vX10_likeliest := fun _ h => List.mem_cons_of_mem _ (List.mem_append_right _ h)
set_option maxRecDepth 20000 in
theorem gX10_likeliest_0 : GoodIn vX10_likeliest (wsV RX10 199 RX10 yX10_questionTrouble vX10_questionTrouble) := goodIn_app (goodIn_r [.methodLink RX10 199 yX10_questionTrouble, .instanceMethod yX10_questionTrouble, .selects RX10 yX10_questionTrouble yX10_questionTrouble, .initialized RX10] [1, 2, 3, 4] (by decide +kernel) (by decide +kernel)) (goodIn_ca (goodIn_ca (goodIn_r (.code yX10_questionTrouble cX10_questionTrouble 4 (some .int) :: [.fieldLink RX10 10 "HookPier" "plan" "LHookPier$Plan;", .methodLink RX10 239 yX6_hasSpot, .instanceMethod yX6_hasSpot, .selects RX6 yX6_hasSpot yX6_hasSpot, .initialized RX6, .code yX6_hasSpot cX6_hasSpot 2 (some .boolean), .fieldLink RX6 9 "HookPier$Plan" "spots" "I", .code yX10_within cX10_within 3 (some .boolean), .initialized RX10, .static yX10_within]) [5, 6, 7, 8, 9, 10, 11, 12, 13, 4, 14] (by decide +kernel) (by decide +kernel) : GoodIn vX10_likeliest (.code yX10_questionTrouble cX10_questionTrouble 4 (some .int) :: [.fieldLink RX10 10 "HookPier" "plan" "LHookPier$Plan;", .methodLink RX10 239 yX6_hasSpot, .instanceMethod yX6_hasSpot, .selects RX6 yX6_hasSpot yX6_hasSpot, .initialized RX6, .code yX6_hasSpot cX6_hasSpot 2 (some .boolean), .fieldLink RX6 9 "HookPier$Plan" "spots" "I", .code yX10_within cX10_within 3 (some .boolean), .initialized RX10, .static yX10_within])) (goodIn_sub iX10_likeliest_X10 (by decide +kernel))) (goodIn_sub iX10_likeliest_X6 (by decide +kernel)))
set_option maxRecDepth 20000 in
theorem gX10_likeliest_1 : GoodIn vX10_likeliest (wsV RX10 79 RX10 yX10_refused vX10_refused_3) := goodIn_app (goodIn_r [.methodLink RX10 79 yX10_refused, .instanceMethod yX10_refused, .selects RX10 yX10_refused yX10_refused, .initialized RX10] [15, 16, 17, 4] (by decide +kernel) (by decide +kernel)) (goodIn_ca (goodIn_r (.code yX10_refused cX10_refused 2 (some .boolean) :: [.fieldLink RX10 61 "HookPier" "troubleNow" "I"]) [18, 19] (by decide +kernel) (by decide +kernel) : GoodIn vX10_likeliest (.code yX10_refused cX10_refused 2 (some .boolean) :: [.fieldLink RX10 61 "HookPier" "troubleNow" "I"])) (goodIn_sub iX10_likeliest_X10 (by decide +kernel)))
set_option maxHeartbeats 1000000 in
set_option maxRecDepth 100000 in
theorem kX10_likeliest (l : Launch) (dC : Nat → ClassId) (dI : Nat → Nat → Nat) (a0 : Nat) (k1 : Int32) (k2 : Int32) (k3 : Int32) (a4 : Nat) (g5 : Value) (g6 : Value) (g7 : Value) (g8 : Value) (g9 : Value) (g10 : Value) (g11 : Value) (g12 : Value) (g13 : Value) (g14 : Value) (g15 : Value) (g16 : Value) (g17 : Value) (g18 : Value) (g19 : Value) (g20 : Value) (g21 : Value) (g22 : Value) (g23 : Value) (g24 : Value) (g25 : Value) (g26 : Value) (g27 : Value) (g28 : Value) (g29 : Value) (g30 : Value) (sz : Nat) : Met l yX10_likeliest vX10_likeliest ({ frames := 3, cells := 0, slots := 0, locals := 66 }) (PC (dC, dI) [.ref a0, .int k1, .int k2, .int k3] sz [(a0, .inr (7, [.ref a4, g5, g6, g7, g8, g9, g10, g11, g12, g13])), (a4, .inr (4, [.int 0, g14, g15, g16, g17, g18, g19, g20, g21, g22, g23, g24, g25, g26, g27, g28, g29, g30]))] []) (va_Qi (S := Unit) (fun (r : Int32) _ => r = (-1)) (fun _ t => BC (dC, dI) (va_A [(a0, .inr (7, [.ref a4, g5, g6, g7, g8, g9, g10, g11, g12, g13])), (a4, .inr (4, [.int 0, g14, g15, g16, g17, g18, g19, g20, g21, g22, g23, g24, g25, g26, g27, g28, g29, g30]))] sz) [] [] t) (va_A [(a0, .inr (7, [.ref a4, g5, g6, g7, g8, g9, g10, g11, g12, g13])), (a4, .inr (4, [.int 0, g14, g15, g16, g17, g18, g19, g20, g21, g22, g23, g24, g25, g26, g27, g28, g29, g30]))] sz)) 0 0 (va_A [(a0, .inr (7, [.ref a4, g5, g6, g7, g8, g9, g10, g11, g12, g13])), (a4, .inr (4, [.int 0, g14, g15, g16, g17, g18, g19, g20, g21, g22, g23, g24, g25, g26, g27, g28, g29, g30]))] sz) := by
  refine Met.ofW (cc := cX10_likeliest) (maxL := 4) (ret := (some .int)) (by decide) rfl ?_
  intro p e s m args below meth c s₁ B hml hv
  obtain ⟨rfl, hsz, hP, hK, hD0, hN⟩ := hv
  have hx := B.exec
  have hb := B.bytes
  have hr := B.returns
  have hts := atoms_spec (ws := vX10_likeliest) B.pre
  have hown : s.vm.findClass RX10 = some m.cls := findClass_of_methodNamed B.named
  have hlocks := B.notSynchronized
  subst hsz
  have hD := hD0.self (sz := s.heap.size)
  generalize hAe : va_A [(a0, .inr (7, [.ref a4, g5, g6, g7, g8, g9, g10, g11, g12, g13])), (a4, .inr (4, [.int 0, g14, g15, g16, g17, g18, g19, g20, g21, g22, g23, g24, g25, g26, g27, g28, g29, g30]))] s.heap.size = A at hD ⊢
  have hA : ∀ q : Nat, s.heap.size ≤ q → A q := fun q h => by rw [← hAe]; exact Or.inr h
  have hS : va_S A s.heap s.heap [] := va_S.rf
  have hP : va_P (dC, dI) vwCl [(a0, .inr (7, [.ref a4, g5, g6, g7, g8, g9, g10, g11, g12, g13])), (a4, .inr (4, [.int 0, g14, g15, g16, g17, g18, g19, g20, g21, g22, g23, g24, g25, g26, g27, g28, g29, g30]))] s.heap := hP
  have hl := lv_entry ([.ref a0, .int k1, .int k2, .int k3]) (n := 4) (Nat.le_of_ble_eq_true rfl)
  rw [lg_entry_eq]
  generalize (lg_sl ([.ref a0, .int k1, .int k2, .int k3]) ++ List.replicate (4 - (lg_sl ([.ref a0, .int k1, .int k2, .int k3])).length) Slot.unset).toArray = ls at hl ⊢
  have hl : lv_has ls 4 [(0, .ref a0), (1, .int k1), (2, .int k2), (3, .int k3)] := hl
  refine lv_aload_n hx hb dX10_likeliest_0 rfl (lv_at hl 0 rfl) ?_
  refine lv_aload_n hx hb dX10_likeliest_1 rfl (lv_at hl 0 rfl) ?_
  refine lv_iload_n hx hb dX10_likeliest_2 rfl (lv_at hl 1 rfl) ?_
  refine lv_iload_n hx hb dX10_likeliest_3 rfl (lv_at hl 2 rfl) ?_
  refine lv_iload_n hx hb dX10_likeliest_4 rfl (lv_at hl 3 rfl) ?_
  refine cl_i (wc := [(a0, .inr (7, [.ref a4, g5, g6, g7, g8, g9, g10, g11, g12, g13])), (a4, .inr (4, [.int 0, g14, g15, g16, g17, g18, g19, g20, g21, g22, g23, g24, g25, g26, g27, g28, g29, g30]))]) (wr := []) (va_runV (As := [.int k1, .int k2, .int k3]) (rest := [.ref a0]) ⟨hx, hb, hml, hown, hts⟩ (kX10_questionTrouble l dC dI a0 k1 k2 k3 a4 (g5) (g6) (g7) (g8) (g9) (g10) (g11) (g12) (g13) (g14) (g15) (g16) (g17) (g18) (g19) (g20) (g21) (g22) (g23) (g24) (g25) (g26) (g27) (g28) (g29) (g30) s.heap.size) (cwV 3 hts gX10_likeliest_0 rfl rfl rfl (by decide +kernel) ⟨Nat.le_of_ble_eq_true rfl, Nat.le_of_ble_eq_true rfl⟩) (PV (hP.sub (ws' := [(a0, .inr (7, [.ref a4, g5, g6, g7, g8, g9, g10, g11, g12, g13])), (a4, .inr (4, [.int 0, g14, g15, g16, g17, g18, g19, g20, g21, g22, g23, g24, g25, g26, g27, g28, g29, g30]))]) [0, 1] rfl) (hK.sub (tys' := []) [] rfl) (hD.sub (ws' := [(a0, .inr (7, [.ref a4, g5, g6, g7, g8, g9, g10, g11, g12, g13])), (a4, .inr (4, [.int 0, g14, g15, g16, g17, g18, g19, g20, g21, g22, g23, g24, g25, g26, g27, g28, g29, g30]))]) [0, 1] (by decide) rfl) hN 0 rfl rfl) rfl rfl hl.1 rfl (lv_room (Nat.le_of_ble_eq_true rfl)) dX10_likeliest_5 ⟨Nat.le_of_ble_eq_true rfl, Nat.le_of_ble_eq_true rfl⟩) hP hD hK hS hA [0, 1] [] rfl rfl (by decide) (by decide) (fun z1 _u H locs hw hP hD hK hS => ?_)
  have hP : va_P (dC, dI) vwCl [(a0, .inr (7, [.ref a4, g5, g6, g7, g8, g9, g10, g11, g12, g13])), (a4, .inr (4, [.int 0, g14, g15, g16, g17, g18, g19, g20, g21, g22, g23, g24, g25, g26, g27, g28, g29, g30]))] H := hP
  have hD : va_D A [(a0, .inr (7, [.ref a4, g5, g6, g7, g8, g9, g10, g11, g12, g13])), (a4, .inr (4, [.int 0, g14, g15, g16, g17, g18, g19, g20, g21, g22, g23, g24, g25, g26, g27, g28, g29, g30]))] := hD
  have hK : va_K (dC, dI) vwCl [] s := hK
  obtain rfl : z1 = 1 := hw
  refine cl_i (wc := [(a0, .inr (7, [.ref a4, g5, g6, g7, g8, g9, g10, g11, g12, g13]))]) (wr := [(a4, .inr (4, [.int 0, g14, g15, g16, g17, g18, g19, g20, g21, g22, g23, g24, g25, g26, g27, g28, g29, g30]))]) (va_runV (As := [.int 1]) (rest := []) ⟨hx, hb, hml, hown, hts⟩ (kX10_refused_3 l dC dI a0 (.ref a4) (g5) (g6) (g7) (g8) (g9) (g10) (g11) (g12) (g13) H.size) (cwV 1 hts gX10_likeliest_1 rfl rfl rfl (by decide +kernel) ⟨Nat.le_of_ble_eq_true rfl, Nat.le_of_ble_eq_true rfl⟩) (PV (hP.sub (ws' := [(a0, .inr (7, [.ref a4, g5, g6, g7, g8, g9, g10, g11, g12, g13]))]) [0] rfl) (hK.sub (tys' := []) [] rfl) (hD.sub (ws' := [(a0, .inr (7, [.ref a4, g5, g6, g7, g8, g9, g10, g11, g12, g13]))]) [0] (by decide) rfl) hN 0 rfl rfl) rfl rfl hl.1 rfl (lv_room (Nat.le_of_ble_eq_true rfl)) dX10_likeliest_8 ⟨Nat.le_of_ble_eq_true rfl, Nat.le_of_ble_eq_true rfl⟩) hP hD hK hS hA [0] [1] rfl rfl (by decide) (by decide) (fun z2 _u H locs hw hP hD hK hS => ?_)
  have hP : va_P (dC, dI) vwCl [(a4, .inr (4, [.int 0, g14, g15, g16, g17, g18, g19, g20, g21, g22, g23, g24, g25, g26, g27, g28, g29, g30])), (a0, .inr (7, [.ref a4, g5, g6, g7, g8, g9, g10, g11, .int 1, g13]))] H := hP
  have hD : va_D A [(a4, .inr (4, [.int 0, g14, g15, g16, g17, g18, g19, g20, g21, g22, g23, g24, g25, g26, g27, g28, g29, g30])), (a0, .inr (7, [.ref a4, g5, g6, g7, g8, g9, g10, g11, .int 1, g13]))] := hD
  have hK : va_K (dC, dI) vwCl [] s := hK
  obtain rfl : z2 = 1 := hw
  refine lv_if_eq (tgt := 16) hx hb dX10_likeliest_11 (by decide) (fun c3 => absurd c3 (by decide)) (fun _ => ?_)
  refine lv_iconst (v := (-1)) hx hb dX10_likeliest_14 (by decide) ?_
  have hP9 := hP.sub (ws' := []) [] rfl
  have hD9 := hD.sub (ws' := []) [] (by decide) rfl
  have hK9 := hK.sub (tys' := []) [] rfl
  exact W.iret (v := (-1)) hx hb hr (fun t ht hW => ⟨⟨(-1), (), rfl, rfl, by rw [ht]; exact hP9, va_K.moved hW.alike hK9, hD9⟩, hS.F ht⟩) hS.2.2 dX10_likeliest_15
theorem dX12_likeliest_0 : decode cX12_likeliest 0 = .ok (.aload_n 0, 1) := by decide +kernel
theorem dX12_likeliest_1 : decode cX12_likeliest 1 = .ok (.iconst 0, 1) := by decide +kernel
theorem dX12_likeliest_10 : decode cX12_likeliest 10 = .ok (.ifnull 7, 3) := by decide +kernel
theorem dX12_likeliest_17 : decode cX12_likeliest 17 = .ok (.iconst 0, 1) := by decide +kernel
theorem dX12_likeliest_18 : decode cX12_likeliest 18 = .ok (.iload_n 1, 1) := by decide +kernel
theorem dX12_likeliest_19 : decode cX12_likeliest 19 = .ok (.iload_n 2, 1) := by decide +kernel
theorem dX12_likeliest_2 : decode cX12_likeliest 2 = .ok (.putfield 36, 3) := by decide +kernel
theorem dX12_likeliest_20 : decode cX12_likeliest 20 = .ok (.iload_n 3, 1) := by decide +kernel
theorem dX12_likeliest_21 : decode cX12_likeliest 21 = .ok (.invokevirtual 353, 3) := by decide +kernel
theorem dX12_likeliest_24 : decode cX12_likeliest 24 = .ok (.istore 4, 2) := by decide +kernel
theorem dX12_likeliest_26 : decode cX12_likeliest 26 = .ok (.iload 4, 2) := by decide +kernel
theorem dX12_likeliest_28 : decode cX12_likeliest 28 = .ok (.ifCond .le 10, 3) := by decide +kernel
theorem dX12_likeliest_31 : decode cX12_likeliest 31 = .ok (.aload_n 0, 1) := by decide +kernel
theorem dX12_likeliest_32 : decode cX12_likeliest 32 = .ok (.iload 4, 2) := by decide +kernel
theorem dX12_likeliest_34 : decode cX12_likeliest 34 = .ok (.invokevirtual 42, 3) := by decide +kernel
theorem dX12_likeliest_37 : decode cX12_likeliest 37 = .ok (.ireturn, 1) := by decide +kernel
theorem dX12_likeliest_5 : decode cX12_likeliest 5 = .ok (.aload_n 0, 1) := by decide +kernel
theorem dX12_likeliest_6 : decode cX12_likeliest 6 = .ok (.aload_n 0, 1) := by decide +kernel
theorem dX12_likeliest_7 : decode cX12_likeliest 7 = .ok (.getfield 299, 3) := by decide +kernel
def vX12_likeliest : List Cond := .code yX12_likeliest cX12_likeliest 10 (some .int) :: ([.fieldLink RX12 36 "HookPierModel" "thrown" "I", .fieldLink RX12 299 "HookPierModel" "pier" "LHookPierModel$Pier;", .methodLink RX12 353 yX12_refusesQuestion, .instanceMethod yX12_refusesQuestion, .selects RX12 yX12_refusesQuestion yX12_refusesQuestion, .initialized RX12, .code yX12_refusesQuestion cX12_refusesQuestion 5 (some .int), .methodLink RX12 42 yX12_refused, .instanceMethod yX12_refused, .selects RX12 yX12_refused yX12_refused, .code yX12_refused cX12_refused 2 (some .int), .fieldLink RX12 39 "HookPierModel" "trouble" "I", .fieldLink RX12 9 "HookPierModel" "where" "I"] ++ wsX120)
theorem iX12_likeliest_X12 : ∀ w ∈ wsX120, w ∈ vX12_likeliest := fun _ h => List.mem_cons_of_mem _ (List.mem_append_right _ h)
set_option maxRecDepth 20000 in
theorem gX12_likeliest_0 : GoodIn vX12_likeliest (wsV RX12 353 RX12 yX12_refusesQuestion vX12_refusesQuestion) := goodIn_app (goodIn_r [.methodLink RX12 353 yX12_refusesQuestion, .instanceMethod yX12_refusesQuestion, .selects RX12 yX12_refusesQuestion yX12_refusesQuestion, .initialized RX12] [3, 4, 5, 6] (by decide +kernel) (by decide +kernel)) (goodIn_r (.code yX12_refusesQuestion cX12_refusesQuestion 5 (some .int) :: []) [7] (by decide +kernel) (by decide +kernel) : GoodIn vX12_likeliest (.code yX12_refusesQuestion cX12_refusesQuestion 5 (some .int) :: []))
set_option maxRecDepth 20000 in
theorem gX12_likeliest_1 : GoodIn vX12_likeliest (wsV RX12 42 RX12 yX12_refused vX12_refused_1) := goodIn_app (goodIn_r [.methodLink RX12 42 yX12_refused, .instanceMethod yX12_refused, .selects RX12 yX12_refused yX12_refused, .initialized RX12] [8, 9, 10, 6] (by decide +kernel) (by decide +kernel)) (goodIn_ca (goodIn_r (.code yX12_refused cX12_refused 2 (some .int) :: [.fieldLink RX12 39 "HookPierModel" "trouble" "I", .fieldLink RX12 9 "HookPierModel" "where" "I"]) [11, 12, 13] (by decide +kernel) (by decide +kernel) : GoodIn vX12_likeliest (.code yX12_refused cX12_refused 2 (some .int) :: [.fieldLink RX12 39 "HookPierModel" "trouble" "I", .fieldLink RX12 9 "HookPierModel" "where" "I"])) (goodIn_sub iX12_likeliest_X12 (by decide +kernel)))
set_option maxHeartbeats 1000000 in
set_option maxRecDepth 100000 in
theorem kX12_likeliest (l : Launch) (dC : Nat → ClassId) (dI : Nat → Nat → Nat) (a0 : Nat) (k1 : Int32) (k2 : Int32) (k3 : Int32) (g4 : Value) (g5 : Value) (g6 : Value) (g7 : Value) (g8 : Value) (g9 : Value) (g10 : Value) (g11 : Value) (g12 : Value) (g13 : Value) (g14 : Value) (g15 : Value) (g16 : Value) (g17 : Value) (g18 : Value) (g19 : Value) (g20 : Value) (g21 : Value) (g22 : Value) (g23 : Value) (g24 : Value) (g25 : Value) (g26 : Value) (g27 : Value) (g28 : Value) (g29 : Value) (g30 : Value) (g31 : Value) (g32 : Value) (sz : Nat) : Met l yX12_likeliest vX12_likeliest ({ frames := 1, cells := 0, slots := 0, locals := 24 }) (PC (dC, dI) [.ref a0, .int k1, .int k2, .int k3] sz [(a0, .inr (9, [g4, g5, g6, .null, g7, g8, g9, g10, g11, g12, g13, g14, g15, g16, g17, g18, g19, g20, g21, g22, g23, g24, g25, g26, g27, g28, g29, g30, g31, g32]))] []) (va_Qi (S := Unit) (fun (r : Int32) _ => r = (-1)) (fun _ t => BC (dC, dI) (va_A [(a0, .inr (9, [g4, g5, g6, .null, g7, g8, g9, g10, g11, g12, g13, g14, g15, g16, g17, g18, g19, g20, g21, g22, g23, g24, g25, g26, g27, g28, g29, g30, g31, g32]))] sz) [] [] t) (va_A [(a0, .inr (9, [g4, g5, g6, .null, g7, g8, g9, g10, g11, g12, g13, g14, g15, g16, g17, g18, g19, g20, g21, g22, g23, g24, g25, g26, g27, g28, g29, g30, g31, g32]))] sz)) 0 0 (va_A [(a0, .inr (9, [g4, g5, g6, .null, g7, g8, g9, g10, g11, g12, g13, g14, g15, g16, g17, g18, g19, g20, g21, g22, g23, g24, g25, g26, g27, g28, g29, g30, g31, g32]))] sz) := by
  refine Met.ofW (cc := cX12_likeliest) (maxL := 10) (ret := (some .int)) (by decide) rfl ?_
  intro p e s m args below meth c s₁ B hml hv
  obtain ⟨rfl, hsz, hP, hK, hD0, hN⟩ := hv
  have hx := B.exec
  have hb := B.bytes
  have hr := B.returns
  have hts := atoms_spec (ws := vX12_likeliest) B.pre
  have hown : s.vm.findClass RX12 = some m.cls := findClass_of_methodNamed B.named
  have hlocks := B.notSynchronized
  subst hsz
  have hD := hD0.self (sz := s.heap.size)
  generalize hAe : va_A [(a0, .inr (9, [g4, g5, g6, .null, g7, g8, g9, g10, g11, g12, g13, g14, g15, g16, g17, g18, g19, g20, g21, g22, g23, g24, g25, g26, g27, g28, g29, g30, g31, g32]))] s.heap.size = A at hD ⊢
  have hA : ∀ q : Nat, s.heap.size ≤ q → A q := fun q h => by rw [← hAe]; exact Or.inr h
  have hS : va_S A s.heap s.heap [] := va_S.rf
  have hP : va_P (dC, dI) vwCl [(a0, .inr (9, [g4, g5, g6, .null, g7, g8, g9, g10, g11, g12, g13, g14, g15, g16, g17, g18, g19, g20, g21, g22, g23, g24, g25, g26, g27, g28, g29, g30, g31, g32]))] s.heap := hP
  have hl := lv_entry ([.ref a0, .int k1, .int k2, .int k3]) (n := 10) (Nat.le_of_ble_eq_true rfl)
  rw [lg_entry_eq]
  generalize (lg_sl ([.ref a0, .int k1, .int k2, .int k3]) ++ List.replicate (10 - (lg_sl ([.ref a0, .int k1, .int k2, .int k3])).length) Slot.unset).toArray = ls at hl ⊢
  have hl : lv_has ls 10 [(0, .ref a0), (1, .int k1), (2, .int k2), (3, .int k3)] := hl
  refine lv_aload_n hx hb dX12_likeliest_0 rfl (lv_at hl 0 rfl) ?_
  refine lv_iconst (v := 0) hx hb dX12_likeliest_1 (by decide) ?_
  refine va_put (D := (dC, dI)) (ci := 9) (v := .int 0) (ty := .int) (C := RX12) (T := TX12) (N := 30) hx hb hts iX12_likeliest_X12 tyX12 tyX12_ok nmX12 hown hK hP hD hS 0 rfl rfl 0 (by decide) (hts (.fieldLink RX12 36 "HookPierModel" "thrown" "I") (List.mem_of_getElem? (i := 1) rfl)) (fun _ h9 => h9) rfl (by decide +kernel) rfl rfl (Nat.le_of_ble_eq_true rfl) dX12_likeliest_2 (fun H locs hP hD hS => ?_)
  have hP : va_P (dC, dI) vwCl [(a0, .inr (9, [.int 0, g5, g6, .null, g7, g8, g9, g10, g11, g12, g13, g14, g15, g16, g17, g18, g19, g20, g21, g22, g23, g24, g25, g26, g27, g28, g29, g30, g31, g32]))] H := hP
  have hD : va_D A [(a0, .inr (9, [.int 0, g5, g6, .null, g7, g8, g9, g10, g11, g12, g13, g14, g15, g16, g17, g18, g19, g20, g21, g22, g23, g24, g25, g26, g27, g28, g29, g30, g31, g32]))] := hD
  refine lv_aload_n hx hb dX12_likeliest_5 rfl (lv_at hl 0 rfl) ?_
  refine lv_aload_n hx hb dX12_likeliest_6 rfl (lv_at hl 0 rfl) ?_
  refine va_get (D := (dC, dI)) (ci := 9) (v := .null) (C := RX12) (T := TX12) (N := 30) hx hb hts iX12_likeliest_X12 hown hK hP 0 rfl rfl 3 (by decide) (hts (.fieldLink RX12 299 "HookPierModel" "pier" "LHookPierModel$Pier;") (List.mem_of_getElem? (i := 2) rfl)) (fun _ h9 => h9) rfl dX12_likeliest_7 ?_
  refine lv_ifnullN (tgt := 17) hx hb dX12_likeliest_10 (by decide) ?_
  refine lv_iconst (v := 0) hx hb dX12_likeliest_17 (by decide) ?_
  refine lv_iload_n hx hb dX12_likeliest_18 rfl (lv_at hl 1 rfl) ?_
  refine lv_iload_n hx hb dX12_likeliest_19 rfl (lv_at hl 2 rfl) ?_
  refine lv_iload_n hx hb dX12_likeliest_20 rfl (lv_at hl 3 rfl) ?_
  refine cl_i (wc := [(a0, .inr (9, [.int 0, g5, g6, .null, g7, g8, g9, g10, g11, g12, g13, g14, g15, g16, g17, g18, g19, g20, g21, g22, g23, g24, g25, g26, g27, g28, g29, g30, g31, g32]))]) (wr := []) (va_runV (As := [.int 0, .int k1, .int k2, .int k3]) (rest := []) ⟨hx, hb, hml, hown, hts⟩ (kX12_refusesQuestion l dC dI a0 k1 k2 k3 (.int 0) (g5) (g6) (.null) (g7) (g8) (g9) (g10) (g11) (g12) (g13) (g14) (g15) (g16) (g17) (g18) (g19) (g20) (g21) (g22) (g23) (g24) (g25) (g26) (g27) (g28) (g29) (g30) (g31) (g32) H.size) (cwV 4 hts gX12_likeliest_0 rfl rfl rfl (by decide +kernel) ⟨Nat.le_of_ble_eq_true rfl, Nat.le_of_ble_eq_true rfl⟩) (PV (hP.sub (ws' := [(a0, .inr (9, [.int 0, g5, g6, .null, g7, g8, g9, g10, g11, g12, g13, g14, g15, g16, g17, g18, g19, g20, g21, g22, g23, g24, g25, g26, g27, g28, g29, g30, g31, g32]))]) [0] rfl) (hK.sub (tys' := []) [] rfl) (hD.sub (ws' := [(a0, .inr (9, [.int 0, g5, g6, .null, g7, g8, g9, g10, g11, g12, g13, g14, g15, g16, g17, g18, g19, g20, g21, g22, g23, g24, g25, g26, g27, g28, g29, g30, g31, g32]))]) [0] (by decide) rfl) hN 0 rfl rfl) rfl rfl hl.1 rfl (lv_room (Nat.le_of_ble_eq_true rfl)) dX12_likeliest_21 ⟨Nat.le_of_ble_eq_true rfl, Nat.le_of_ble_eq_true rfl⟩) hP hD hK hS hA [0] [] rfl rfl (by decide) (by decide) (fun z1 _u H locs hw hP hD hK hS => ?_)
  have hP : va_P (dC, dI) vwCl [(a0, .inr (9, [.int 0, g5, g6, .null, g7, g8, g9, g10, g11, g12, g13, g14, g15, g16, g17, g18, g19, g20, g21, g22, g23, g24, g25, g26, g27, g28, g29, g30, g31, g32]))] H := hP
  have hD : va_D A [(a0, .inr (9, [.int 0, g5, g6, .null, g7, g8, g9, g10, g11, g12, g13, g14, g15, g16, g17, g18, g19, g20, g21, g22, g23, g24, g25, g26, g27, g28, g29, g30, g31, g32]))] := hD
  have hK : va_K (dC, dI) vwCl [] s := hK
  obtain rfl : z1 = 1 := hw
  refine lv_istore (lv' := [(4, .int 1), (0, .ref a0), (1, .int k1), (2, .int k2), (3, .int k3)]) hx hb dX12_likeliest_24 hl (by decide) rfl (fun ls hl => ?_)
  refine lv_iload hx hb dX12_likeliest_26 (lv_at hl 0 rfl) ?_
  refine lv_if_le (tgt := 38) hx hb dX12_likeliest_28 (by decide) (fun c2 => absurd c2 (by decide)) (fun _ => ?_)
  refine lv_aload_n hx hb dX12_likeliest_31 rfl (lv_at hl 1 rfl) ?_
  refine lv_iload hx hb dX12_likeliest_32 (lv_at hl 0 rfl) ?_
  refine cl_i (wc := [(a0, .inr (9, [.int 0, g5, g6, .null, g7, g8, g9, g10, g11, g12, g13, g14, g15, g16, g17, g18, g19, g20, g21, g22, g23, g24, g25, g26, g27, g28, g29, g30, g31, g32]))]) (wr := []) (va_runV (As := [.int 1]) (rest := []) ⟨hx, hb, hml, hown, hts⟩ (kX12_refused_1 l dC dI a0 (.int 0) (g5) (g6) (.null) (g7) (g8) (g9) (g10) (g11) (g12) (g13) (g14) (g15) (g16) (g17) (g18) (g19) (g20) (g21) (g22) (g23) (g24) (g25) (g26) (g27) (g28) (g29) (g30) (g31) (g32) H.size) (cwV 1 hts gX12_likeliest_1 rfl rfl rfl (by decide +kernel) ⟨Nat.le_of_ble_eq_true rfl, Nat.le_of_ble_eq_true rfl⟩) (PV (hP.sub (ws' := [(a0, .inr (9, [.int 0, g5, g6, .null, g7, g8, g9, g10, g11, g12, g13, g14, g15, g16, g17, g18, g19, g20, g21, g22, g23, g24, g25, g26, g27, g28, g29, g30, g31, g32]))]) [0] rfl) (hK.sub (tys' := []) [] rfl) (hD.sub (ws' := [(a0, .inr (9, [.int 0, g5, g6, .null, g7, g8, g9, g10, g11, g12, g13, g14, g15, g16, g17, g18, g19, g20, g21, g22, g23, g24, g25, g26, g27, g28, g29, g30, g31, g32]))]) [0] (by decide) rfl) hN 0 rfl rfl) rfl rfl hl.1 rfl (lv_room (Nat.le_of_ble_eq_true rfl)) dX12_likeliest_34 ⟨Nat.le_of_ble_eq_true rfl, Nat.le_of_ble_eq_true rfl⟩) hP hD hK hS hA [0] [] rfl rfl (by decide) (by decide) (fun z3 _u H locs hw hP hD hK hS => ?_)
  have hP : va_P (dC, dI) vwCl [(a0, .inr (9, [.int 0, .int 1, .int (-1), .null, g7, g8, g9, g10, g11, g12, g13, g14, g15, g16, g17, g18, g19, g20, g21, g22, g23, g24, g25, g26, g27, g28, g29, g30, g31, g32]))] H := hP
  have hD : va_D A [(a0, .inr (9, [.int 0, .int 1, .int (-1), .null, g7, g8, g9, g10, g11, g12, g13, g14, g15, g16, g17, g18, g19, g20, g21, g22, g23, g24, g25, g26, g27, g28, g29, g30, g31, g32]))] := hD
  have hK : va_K (dC, dI) vwCl [] s := hK
  obtain rfl : z3 = (-1) := hw
  have hP9 := hP.sub (ws' := []) [] rfl
  have hD9 := hD.sub (ws' := []) [] (by decide) rfl
  have hK9 := hK.sub (tys' := []) [] rfl
  exact W.iret (v := (-1)) hx hb hr (fun t ht hW => ⟨⟨(-1), (), rfl, rfl, by rw [ht]; exact hP9, va_K.moved hW.alike hK9, hD9⟩, hS.F ht⟩) hS.2.2 dX12_likeliest_37
theorem dX10_thereTrouble_0 : decode cX10_thereTrouble 0 = .ok (.aload_n 0, 1) := by decide +kernel
theorem dX10_thereTrouble_1 : decode cX10_thereTrouble 1 = .ok (.iload_n 1, 1) := by decide +kernel
theorem dX10_thereTrouble_2 : decode cX10_thereTrouble 2 = .ok (.invokevirtual 102, 3) := by decide +kernel
theorem dX10_thereTrouble_26 : decode cX10_thereTrouble 26 = .ok (.iload_n 2, 1) := by decide +kernel
theorem dX10_thereTrouble_27 : decode cX10_thereTrouble 27 = .ok (.ireturn, 1) := by decide +kernel
theorem dX10_thereTrouble_5 : decode cX10_thereTrouble 5 = .ok (.istore_n 2, 1) := by decide +kernel
theorem dX10_thereTrouble_6 : decode cX10_thereTrouble 6 = .ok (.iload_n 2, 1) := by decide +kernel
theorem dX10_thereTrouble_7 : decode cX10_thereTrouble 7 = .ok (.ifCond .ne 19, 3) := by decide +kernel
def vX10_thereTrouble : List Cond := .code yX10_thereTrouble cX10_thereTrouble 3 (some .int) :: ([.methodLink RX10 102 yX10_answerTrouble, .instanceMethod yX10_answerTrouble, .selects RX10 yX10_answerTrouble yX10_answerTrouble, .initialized RX10, .code yX10_answerTrouble cX10_answerTrouble 2 (some .int), .fieldLink RX10 10 "HookPier" "plan" "LHookPier$Plan;", .methodLink RX10 381 yX6_hasAnswer, .instanceMethod yX6_hasAnswer, .selects RX6 yX6_hasAnswer yX6_hasAnswer, .initialized RX6, .code yX6_hasAnswer cX6_hasAnswer 2 (some .boolean), .fieldLink RX6 30 "HookPier$Plan" "answers" "I", .code yX10_within cX10_within 3 (some .boolean), .static yX10_within] ++ wsX100 ++ wsX60)
theorem iX10_thereTrouble_X10 : ∀ w ∈ wsX100, w ∈ vX10_thereTrouble := fun _ h => List.mem_cons_of_mem _ (List.mem_append_left _ (List.mem_append_right _ h))
theorem iX10_thereTrouble_X6 : ∀ w ∈ wsX60, w ∈ vX10_thereTrouble := fun _ h => List.mem_cons_of_mem _ (List.mem_append_right _ h)
set_option maxRecDepth 20000 in
theorem gX10_thereTrouble_0 : GoodIn vX10_thereTrouble (wsV RX10 102 RX10 yX10_answerTrouble vX10_answerTrouble) := goodIn_app (goodIn_r [.methodLink RX10 102 yX10_answerTrouble, .instanceMethod yX10_answerTrouble, .selects RX10 yX10_answerTrouble yX10_answerTrouble, .initialized RX10] [1, 2, 3, 4] (by decide +kernel) (by decide +kernel)) (goodIn_ca (goodIn_ca (goodIn_r (.code yX10_answerTrouble cX10_answerTrouble 2 (some .int) :: [.fieldLink RX10 10 "HookPier" "plan" "LHookPier$Plan;", .methodLink RX10 381 yX6_hasAnswer, .instanceMethod yX6_hasAnswer, .selects RX6 yX6_hasAnswer yX6_hasAnswer, .initialized RX6, .code yX6_hasAnswer cX6_hasAnswer 2 (some .boolean), .fieldLink RX6 30 "HookPier$Plan" "answers" "I", .code yX10_within cX10_within 3 (some .boolean), .initialized RX10, .static yX10_within]) [5, 6, 7, 8, 9, 10, 11, 12, 13, 4, 14] (by decide +kernel) (by decide +kernel) : GoodIn vX10_thereTrouble (.code yX10_answerTrouble cX10_answerTrouble 2 (some .int) :: [.fieldLink RX10 10 "HookPier" "plan" "LHookPier$Plan;", .methodLink RX10 381 yX6_hasAnswer, .instanceMethod yX6_hasAnswer, .selects RX6 yX6_hasAnswer yX6_hasAnswer, .initialized RX6, .code yX6_hasAnswer cX6_hasAnswer 2 (some .boolean), .fieldLink RX6 30 "HookPier$Plan" "answers" "I", .code yX10_within cX10_within 3 (some .boolean), .initialized RX10, .static yX10_within])) (goodIn_sub iX10_thereTrouble_X10 (by decide +kernel))) (goodIn_sub iX10_thereTrouble_X6 (by decide +kernel)))
set_option maxHeartbeats 1000000 in
set_option maxRecDepth 100000 in
theorem kX10_thereTrouble (l : Launch) (dC : Nat → ClassId) (dI : Nat → Nat → Nat) (a0 : Nat) (k1 : Int32) (a2 : Nat) (g3 : Value) (g4 : Value) (g5 : Value) (g6 : Value) (g7 : Value) (g8 : Value) (g9 : Value) (g10 : Value) (g11 : Value) (g12 : Value) (g13 : Value) (g14 : Value) (g15 : Value) (g16 : Value) (g17 : Value) (g18 : Value) (g19 : Value) (g20 : Value) (g21 : Value) (g22 : Value) (g23 : Value) (g24 : Value) (g25 : Value) (g26 : Value) (g27 : Value) (g28 : Value) (sz : Nat) : Met l yX10_thereTrouble vX10_thereTrouble ({ frames := 3, cells := 0, slots := 0, locals := 64 }) (PC (dC, dI) [.ref a0, .int k1] sz [(a0, .inr (7, [.ref a2, g3, g4, g5, g6, g7, g8, g9, g10, g11])), (a2, .inr (4, [g12, g13, g14, g15, g16, g17, .int 0, g18, g19, g20, g21, g22, g23, g24, g25, g26, g27, g28]))] []) (va_Qi (S := Unit) (fun (r : Int32) _ => r = 1) (fun _ t => BC (dC, dI) (va_A [(a0, .inr (7, [.ref a2, g3, g4, g5, g6, g7, g8, g9, g10, g11])), (a2, .inr (4, [g12, g13, g14, g15, g16, g17, .int 0, g18, g19, g20, g21, g22, g23, g24, g25, g26, g27, g28]))] sz) [(a0, .inr (7, [.ref a2, g3, g4, g5, g6, g7, g8, g9, g10, g11])), (a2, .inr (4, [g12, g13, g14, g15, g16, g17, .int 0, g18, g19, g20, g21, g22, g23, g24, g25, g26, g27, g28]))] [] t) (va_A [(a0, .inr (7, [.ref a2, g3, g4, g5, g6, g7, g8, g9, g10, g11])), (a2, .inr (4, [g12, g13, g14, g15, g16, g17, .int 0, g18, g19, g20, g21, g22, g23, g24, g25, g26, g27, g28]))] sz)) 0 0 (va_A [(a0, .inr (7, [.ref a2, g3, g4, g5, g6, g7, g8, g9, g10, g11])), (a2, .inr (4, [g12, g13, g14, g15, g16, g17, .int 0, g18, g19, g20, g21, g22, g23, g24, g25, g26, g27, g28]))] sz) := by
  refine Met.ofW (cc := cX10_thereTrouble) (maxL := 3) (ret := (some .int)) (by decide) rfl ?_
  intro p e s m args below meth c s₁ B hml hv
  obtain ⟨rfl, hsz, hP, hK, hD0, hN⟩ := hv
  have hx := B.exec
  have hb := B.bytes
  have hr := B.returns
  have hts := atoms_spec (ws := vX10_thereTrouble) B.pre
  have hown : s.vm.findClass RX10 = some m.cls := findClass_of_methodNamed B.named
  have hlocks := B.notSynchronized
  subst hsz
  have hD := hD0.self (sz := s.heap.size)
  generalize hAe : va_A [(a0, .inr (7, [.ref a2, g3, g4, g5, g6, g7, g8, g9, g10, g11])), (a2, .inr (4, [g12, g13, g14, g15, g16, g17, .int 0, g18, g19, g20, g21, g22, g23, g24, g25, g26, g27, g28]))] s.heap.size = A at hD ⊢
  have hA : ∀ q : Nat, s.heap.size ≤ q → A q := fun q h => by rw [← hAe]; exact Or.inr h
  have hS : va_S A s.heap s.heap [] := va_S.rf
  have hP : va_P (dC, dI) vwCl [(a0, .inr (7, [.ref a2, g3, g4, g5, g6, g7, g8, g9, g10, g11])), (a2, .inr (4, [g12, g13, g14, g15, g16, g17, .int 0, g18, g19, g20, g21, g22, g23, g24, g25, g26, g27, g28]))] s.heap := hP
  have hl := lv_entry ([.ref a0, .int k1]) (n := 3) (Nat.le_of_ble_eq_true rfl)
  rw [lg_entry_eq]
  generalize (lg_sl ([.ref a0, .int k1]) ++ List.replicate (3 - (lg_sl ([.ref a0, .int k1])).length) Slot.unset).toArray = ls at hl ⊢
  have hl : lv_has ls 3 [(0, .ref a0), (1, .int k1)] := hl
  refine lv_aload_n hx hb dX10_thereTrouble_0 rfl (lv_at hl 0 rfl) ?_
  refine lv_iload_n hx hb dX10_thereTrouble_1 rfl (lv_at hl 1 rfl) ?_
  refine cl_i (wc := [(a0, .inr (7, [.ref a2, g3, g4, g5, g6, g7, g8, g9, g10, g11])), (a2, .inr (4, [g12, g13, g14, g15, g16, g17, .int 0, g18, g19, g20, g21, g22, g23, g24, g25, g26, g27, g28]))]) (wr := []) (va_runV (As := [.int k1]) (rest := []) ⟨hx, hb, hml, hown, hts⟩ (kX10_answerTrouble l dC dI a0 k1 a2 (g3) (g4) (g5) (g6) (g7) (g8) (g9) (g10) (g11) (g12) (g13) (g14) (g15) (g16) (g17) (g18) (g19) (g20) (g21) (g22) (g23) (g24) (g25) (g26) (g27) (g28) s.heap.size) (cwV 1 hts gX10_thereTrouble_0 rfl rfl rfl (by decide +kernel) ⟨Nat.le_of_ble_eq_true rfl, Nat.le_of_ble_eq_true rfl⟩) (PV (hP.sub (ws' := [(a0, .inr (7, [.ref a2, g3, g4, g5, g6, g7, g8, g9, g10, g11])), (a2, .inr (4, [g12, g13, g14, g15, g16, g17, .int 0, g18, g19, g20, g21, g22, g23, g24, g25, g26, g27, g28]))]) [0, 1] rfl) (hK.sub (tys' := []) [] rfl) (hD.sub (ws' := [(a0, .inr (7, [.ref a2, g3, g4, g5, g6, g7, g8, g9, g10, g11])), (a2, .inr (4, [g12, g13, g14, g15, g16, g17, .int 0, g18, g19, g20, g21, g22, g23, g24, g25, g26, g27, g28]))]) [0, 1] (by decide) rfl) hN 0 rfl rfl) rfl rfl hl.1 rfl (lv_room (Nat.le_of_ble_eq_true rfl)) dX10_thereTrouble_2 ⟨Nat.le_of_ble_eq_true rfl, Nat.le_of_ble_eq_true rfl⟩) hP hD hK hS hA [0, 1] [] rfl rfl (by decide) (by decide) (fun z1 _u H locs hw hP hD hK hS => ?_)
  have hP : va_P (dC, dI) vwCl [(a0, .inr (7, [.ref a2, g3, g4, g5, g6, g7, g8, g9, g10, g11])), (a2, .inr (4, [g12, g13, g14, g15, g16, g17, .int 0, g18, g19, g20, g21, g22, g23, g24, g25, g26, g27, g28]))] H := hP
  have hD : va_D A [(a0, .inr (7, [.ref a2, g3, g4, g5, g6, g7, g8, g9, g10, g11])), (a2, .inr (4, [g12, g13, g14, g15, g16, g17, .int 0, g18, g19, g20, g21, g22, g23, g24, g25, g26, g27, g28]))] := hD
  have hK : va_K (dC, dI) vwCl [] s := hK
  obtain rfl : z1 = 1 := hw
  refine lv_istore_n (lv' := [(2, .int 1), (0, .ref a0), (1, .int k1)]) hx hb dX10_thereTrouble_5 rfl hl (by decide) rfl (fun ls hl => ?_)
  refine lv_iload_n hx hb dX10_thereTrouble_6 rfl (lv_at hl 0 rfl) ?_
  refine lv_if_ne (tgt := 26) hx hb dX10_thereTrouble_7 (by decide) (fun _ => ?_) (fun c2 => absurd c2 (by decide))
  refine lv_iload_n hx hb dX10_thereTrouble_26 rfl (lv_at hl 0 rfl) ?_
  have hP9 := hP.sub (ws' := [(a0, .inr (7, [.ref a2, g3, g4, g5, g6, g7, g8, g9, g10, g11])), (a2, .inr (4, [g12, g13, g14, g15, g16, g17, .int 0, g18, g19, g20, g21, g22, g23, g24, g25, g26, g27, g28]))]) [0, 1] rfl
  have hD9 := hD.sub (ws' := [(a0, .inr (7, [.ref a2, g3, g4, g5, g6, g7, g8, g9, g10, g11])), (a2, .inr (4, [g12, g13, g14, g15, g16, g17, .int 0, g18, g19, g20, g21, g22, g23, g24, g25, g26, g27, g28]))]) [0, 1] (by decide) rfl
  have hK9 := hK.sub (tys' := []) [] rfl
  exact W.iret (v := 1) hx hb hr (fun t ht hW => ⟨⟨1, (), rfl, rfl, by rw [ht]; exact hP9, va_K.moved hW.alike hK9, hD9⟩, hS.F ht⟩) hS.2.2 dX10_thereTrouble_27
theorem dX10_surest_0 : decode cX10_surest 0 = .ok (.aload_n 0, 1) := by decide +kernel
theorem dX10_surest_1 : decode cX10_surest 1 = .ok (.aload_n 0, 1) := by decide +kernel
theorem dX10_surest_12 : decode cX10_surest 12 = .ok (.iconst (-1), 1) := by decide +kernel
theorem dX10_surest_13 : decode cX10_surest 13 = .ok (.ireturn, 1) := by decide +kernel
theorem dX10_surest_2 : decode cX10_surest 2 = .ok (.iload_n 1, 1) := by decide +kernel
theorem dX10_surest_3 : decode cX10_surest 3 = .ok (.invokevirtual 210, 3) := by decide +kernel
theorem dX10_surest_6 : decode cX10_surest 6 = .ok (.invokevirtual 79, 3) := by decide +kernel
theorem dX10_surest_9 : decode cX10_surest 9 = .ok (.ifCond .eq 5, 3) := by decide +kernel
def vX10_surest : List Cond := .code yX10_surest cX10_surest 2 (some .int) :: ([.methodLink RX10 210 yX10_thereTrouble, .instanceMethod yX10_thereTrouble, .selects RX10 yX10_thereTrouble yX10_thereTrouble, .initialized RX10, .code yX10_thereTrouble cX10_thereTrouble 3 (some .int), .methodLink RX10 102 yX10_answerTrouble, .instanceMethod yX10_answerTrouble, .selects RX10 yX10_answerTrouble yX10_answerTrouble, .code yX10_answerTrouble cX10_answerTrouble 2 (some .int), .fieldLink RX10 10 "HookPier" "plan" "LHookPier$Plan;", .methodLink RX10 381 yX6_hasAnswer, .instanceMethod yX6_hasAnswer, .selects RX6 yX6_hasAnswer yX6_hasAnswer, .initialized RX6, .code yX6_hasAnswer cX6_hasAnswer 2 (some .boolean), .fieldLink RX6 30 "HookPier$Plan" "answers" "I", .code yX10_within cX10_within 3 (some .boolean), .static yX10_within, .methodLink RX10 79 yX10_refused, .instanceMethod yX10_refused, .selects RX10 yX10_refused yX10_refused, .code yX10_refused cX10_refused 2 (some .boolean), .fieldLink RX10 61 "HookPier" "troubleNow" "I"] ++ wsX100 ++ wsX60)
theorem iX10_surest_X10 : ∀ w ∈ wsX100, w ∈ vX10_surest := fun _ h => List.mem_cons_of_mem _ (List.mem_append_left _ (List.mem_append_right _ h))
theorem iX10_surest_X6 : ∀ w ∈ wsX60, w ∈ vX10_surest := fun _ h => List.mem_cons_of_mem _ (List.mem_append_right _ h)
set_option maxRecDepth 20000 in
theorem gX10_surest_0 : GoodIn vX10_surest (wsV RX10 210 RX10 yX10_thereTrouble vX10_thereTrouble) := goodIn_app (goodIn_r [.methodLink RX10 210 yX10_thereTrouble, .instanceMethod yX10_thereTrouble, .selects RX10 yX10_thereTrouble yX10_thereTrouble, .initialized RX10] [1, 2, 3, 4] (by decide +kernel) (by decide +kernel)) (goodIn_ca (goodIn_ca (goodIn_r (.code yX10_thereTrouble cX10_thereTrouble 3 (some .int) :: [.methodLink RX10 102 yX10_answerTrouble, .instanceMethod yX10_answerTrouble, .selects RX10 yX10_answerTrouble yX10_answerTrouble, .initialized RX10, .code yX10_answerTrouble cX10_answerTrouble 2 (some .int), .fieldLink RX10 10 "HookPier" "plan" "LHookPier$Plan;", .methodLink RX10 381 yX6_hasAnswer, .instanceMethod yX6_hasAnswer, .selects RX6 yX6_hasAnswer yX6_hasAnswer, .initialized RX6, .code yX6_hasAnswer cX6_hasAnswer 2 (some .boolean), .fieldLink RX6 30 "HookPier$Plan" "answers" "I", .code yX10_within cX10_within 3 (some .boolean), .static yX10_within]) [5, 6, 7, 8, 4, 9, 10, 11, 12, 13, 14, 15, 16, 17, 18] (by decide +kernel) (by decide +kernel) : GoodIn vX10_surest (.code yX10_thereTrouble cX10_thereTrouble 3 (some .int) :: [.methodLink RX10 102 yX10_answerTrouble, .instanceMethod yX10_answerTrouble, .selects RX10 yX10_answerTrouble yX10_answerTrouble, .initialized RX10, .code yX10_answerTrouble cX10_answerTrouble 2 (some .int), .fieldLink RX10 10 "HookPier" "plan" "LHookPier$Plan;", .methodLink RX10 381 yX6_hasAnswer, .instanceMethod yX6_hasAnswer, .selects RX6 yX6_hasAnswer yX6_hasAnswer, .initialized RX6, .code yX6_hasAnswer cX6_hasAnswer 2 (some .boolean), .fieldLink RX6 30 "HookPier$Plan" "answers" "I", .code yX10_within cX10_within 3 (some .boolean), .static yX10_within])) (goodIn_sub iX10_surest_X10 (by decide +kernel))) (goodIn_sub iX10_surest_X6 (by decide +kernel)))
set_option maxRecDepth 20000 in
theorem gX10_surest_1 : GoodIn vX10_surest (wsV RX10 79 RX10 yX10_refused vX10_refused_3) := goodIn_app (goodIn_r [.methodLink RX10 79 yX10_refused, .instanceMethod yX10_refused, .selects RX10 yX10_refused yX10_refused, .initialized RX10] [19, 20, 21, 4] (by decide +kernel) (by decide +kernel)) (goodIn_ca (goodIn_r (.code yX10_refused cX10_refused 2 (some .boolean) :: [.fieldLink RX10 61 "HookPier" "troubleNow" "I"]) [22, 23] (by decide +kernel) (by decide +kernel) : GoodIn vX10_surest (.code yX10_refused cX10_refused 2 (some .boolean) :: [.fieldLink RX10 61 "HookPier" "troubleNow" "I"])) (goodIn_sub iX10_surest_X10 (by decide +kernel)))
set_option maxHeartbeats 1000000 in
set_option maxRecDepth 100000 in
theorem kX10_surest (l : Launch) (dC : Nat → ClassId) (dI : Nat → Nat → Nat) (a0 : Nat) (k1 : Int32) (a2 : Nat) (g3 : Value) (g4 : Value) (g5 : Value) (g6 : Value) (g7 : Value) (g8 : Value) (g9 : Value) (g10 : Value) (g11 : Value) (g12 : Value) (g13 : Value) (g14 : Value) (g15 : Value) (g16 : Value) (g17 : Value) (g18 : Value) (g19 : Value) (g20 : Value) (g21 : Value) (g22 : Value) (g23 : Value) (g24 : Value) (g25 : Value) (g26 : Value) (g27 : Value) (g28 : Value) (sz : Nat) : Met l yX10_surest vX10_surest ({ frames := 4, cells := 0, slots := 0, locals := 86 }) (PC (dC, dI) [.ref a0, .int k1] sz [(a0, .inr (7, [.ref a2, g3, g4, g5, g6, g7, g8, g9, g10, g11])), (a2, .inr (4, [g12, g13, g14, g15, g16, g17, .int 0, g18, g19, g20, g21, g22, g23, g24, g25, g26, g27, g28]))] []) (va_Qi (S := Unit) (fun (r : Int32) _ => r = (-1)) (fun _ t => BC (dC, dI) (va_A [(a0, .inr (7, [.ref a2, g3, g4, g5, g6, g7, g8, g9, g10, g11])), (a2, .inr (4, [g12, g13, g14, g15, g16, g17, .int 0, g18, g19, g20, g21, g22, g23, g24, g25, g26, g27, g28]))] sz) [] [] t) (va_A [(a0, .inr (7, [.ref a2, g3, g4, g5, g6, g7, g8, g9, g10, g11])), (a2, .inr (4, [g12, g13, g14, g15, g16, g17, .int 0, g18, g19, g20, g21, g22, g23, g24, g25, g26, g27, g28]))] sz)) 0 0 (va_A [(a0, .inr (7, [.ref a2, g3, g4, g5, g6, g7, g8, g9, g10, g11])), (a2, .inr (4, [g12, g13, g14, g15, g16, g17, .int 0, g18, g19, g20, g21, g22, g23, g24, g25, g26, g27, g28]))] sz) := by
  refine Met.ofW (cc := cX10_surest) (maxL := 2) (ret := (some .int)) (by decide) rfl ?_
  intro p e s m args below meth c s₁ B hml hv
  obtain ⟨rfl, hsz, hP, hK, hD0, hN⟩ := hv
  have hx := B.exec
  have hb := B.bytes
  have hr := B.returns
  have hts := atoms_spec (ws := vX10_surest) B.pre
  have hown : s.vm.findClass RX10 = some m.cls := findClass_of_methodNamed B.named
  have hlocks := B.notSynchronized
  subst hsz
  have hD := hD0.self (sz := s.heap.size)
  generalize hAe : va_A [(a0, .inr (7, [.ref a2, g3, g4, g5, g6, g7, g8, g9, g10, g11])), (a2, .inr (4, [g12, g13, g14, g15, g16, g17, .int 0, g18, g19, g20, g21, g22, g23, g24, g25, g26, g27, g28]))] s.heap.size = A at hD ⊢
  have hA : ∀ q : Nat, s.heap.size ≤ q → A q := fun q h => by rw [← hAe]; exact Or.inr h
  have hS : va_S A s.heap s.heap [] := va_S.rf
  have hP : va_P (dC, dI) vwCl [(a0, .inr (7, [.ref a2, g3, g4, g5, g6, g7, g8, g9, g10, g11])), (a2, .inr (4, [g12, g13, g14, g15, g16, g17, .int 0, g18, g19, g20, g21, g22, g23, g24, g25, g26, g27, g28]))] s.heap := hP
  have hl := lv_entry ([.ref a0, .int k1]) (n := 2) (Nat.le_of_ble_eq_true rfl)
  rw [lg_entry_eq]
  generalize (lg_sl ([.ref a0, .int k1]) ++ List.replicate (2 - (lg_sl ([.ref a0, .int k1])).length) Slot.unset).toArray = ls at hl ⊢
  have hl : lv_has ls 2 [(0, .ref a0), (1, .int k1)] := hl
  refine lv_aload_n hx hb dX10_surest_0 rfl (lv_at hl 0 rfl) ?_
  refine lv_aload_n hx hb dX10_surest_1 rfl (lv_at hl 0 rfl) ?_
  refine lv_iload_n hx hb dX10_surest_2 rfl (lv_at hl 1 rfl) ?_
  refine cl_i (wc := [(a0, .inr (7, [.ref a2, g3, g4, g5, g6, g7, g8, g9, g10, g11])), (a2, .inr (4, [g12, g13, g14, g15, g16, g17, .int 0, g18, g19, g20, g21, g22, g23, g24, g25, g26, g27, g28]))]) (wr := []) (va_runV (As := [.int k1]) (rest := [.ref a0]) ⟨hx, hb, hml, hown, hts⟩ (kX10_thereTrouble l dC dI a0 k1 a2 (g3) (g4) (g5) (g6) (g7) (g8) (g9) (g10) (g11) (g12) (g13) (g14) (g15) (g16) (g17) (g18) (g19) (g20) (g21) (g22) (g23) (g24) (g25) (g26) (g27) (g28) s.heap.size) (cwV 1 hts gX10_surest_0 rfl rfl rfl (by decide +kernel) ⟨Nat.le_of_ble_eq_true rfl, Nat.le_of_ble_eq_true rfl⟩) (PV (hP.sub (ws' := [(a0, .inr (7, [.ref a2, g3, g4, g5, g6, g7, g8, g9, g10, g11])), (a2, .inr (4, [g12, g13, g14, g15, g16, g17, .int 0, g18, g19, g20, g21, g22, g23, g24, g25, g26, g27, g28]))]) [0, 1] rfl) (hK.sub (tys' := []) [] rfl) (hD.sub (ws' := [(a0, .inr (7, [.ref a2, g3, g4, g5, g6, g7, g8, g9, g10, g11])), (a2, .inr (4, [g12, g13, g14, g15, g16, g17, .int 0, g18, g19, g20, g21, g22, g23, g24, g25, g26, g27, g28]))]) [0, 1] (by decide) rfl) hN 0 rfl rfl) rfl rfl hl.1 rfl (lv_room (Nat.le_of_ble_eq_true rfl)) dX10_surest_3 ⟨Nat.le_of_ble_eq_true rfl, Nat.le_of_ble_eq_true rfl⟩) hP hD hK hS hA [0, 1] [] rfl rfl (by decide) (by decide) (fun z1 _u H locs hw hP hD hK hS => ?_)
  have hP : va_P (dC, dI) vwCl [(a0, .inr (7, [.ref a2, g3, g4, g5, g6, g7, g8, g9, g10, g11])), (a2, .inr (4, [g12, g13, g14, g15, g16, g17, .int 0, g18, g19, g20, g21, g22, g23, g24, g25, g26, g27, g28]))] H := hP
  have hD : va_D A [(a0, .inr (7, [.ref a2, g3, g4, g5, g6, g7, g8, g9, g10, g11])), (a2, .inr (4, [g12, g13, g14, g15, g16, g17, .int 0, g18, g19, g20, g21, g22, g23, g24, g25, g26, g27, g28]))] := hD
  have hK : va_K (dC, dI) vwCl [] s := hK
  obtain rfl : z1 = 1 := hw
  refine cl_i (wc := [(a0, .inr (7, [.ref a2, g3, g4, g5, g6, g7, g8, g9, g10, g11]))]) (wr := [(a2, .inr (4, [g12, g13, g14, g15, g16, g17, .int 0, g18, g19, g20, g21, g22, g23, g24, g25, g26, g27, g28]))]) (va_runV (As := [.int 1]) (rest := []) ⟨hx, hb, hml, hown, hts⟩ (kX10_refused_3 l dC dI a0 (.ref a2) (g3) (g4) (g5) (g6) (g7) (g8) (g9) (g10) (g11) H.size) (cwV 1 hts gX10_surest_1 rfl rfl rfl (by decide +kernel) ⟨Nat.le_of_ble_eq_true rfl, Nat.le_of_ble_eq_true rfl⟩) (PV (hP.sub (ws' := [(a0, .inr (7, [.ref a2, g3, g4, g5, g6, g7, g8, g9, g10, g11]))]) [0] rfl) (hK.sub (tys' := []) [] rfl) (hD.sub (ws' := [(a0, .inr (7, [.ref a2, g3, g4, g5, g6, g7, g8, g9, g10, g11]))]) [0] (by decide) rfl) hN 0 rfl rfl) rfl rfl hl.1 rfl (lv_room (Nat.le_of_ble_eq_true rfl)) dX10_surest_6 ⟨Nat.le_of_ble_eq_true rfl, Nat.le_of_ble_eq_true rfl⟩) hP hD hK hS hA [0] [1] rfl rfl (by decide) (by decide) (fun z2 _u H locs hw hP hD hK hS => ?_)
  have hP : va_P (dC, dI) vwCl [(a2, .inr (4, [g12, g13, g14, g15, g16, g17, .int 0, g18, g19, g20, g21, g22, g23, g24, g25, g26, g27, g28])), (a0, .inr (7, [.ref a2, g3, g4, g5, g6, g7, g8, g9, .int 1, g11]))] H := hP
  have hD : va_D A [(a2, .inr (4, [g12, g13, g14, g15, g16, g17, .int 0, g18, g19, g20, g21, g22, g23, g24, g25, g26, g27, g28])), (a0, .inr (7, [.ref a2, g3, g4, g5, g6, g7, g8, g9, .int 1, g11]))] := hD
  have hK : va_K (dC, dI) vwCl [] s := hK
  obtain rfl : z2 = 1 := hw
  refine lv_if_eq (tgt := 14) hx hb dX10_surest_9 (by decide) (fun c3 => absurd c3 (by decide)) (fun _ => ?_)
  refine lv_iconst (v := (-1)) hx hb dX10_surest_12 (by decide) ?_
  have hP9 := hP.sub (ws' := []) [] rfl
  have hD9 := hD.sub (ws' := []) [] (by decide) rfl
  have hK9 := hK.sub (tys' := []) [] rfl
  exact W.iret (v := (-1)) hx hb hr (fun t ht hW => ⟨⟨(-1), (), rfl, rfl, by rw [ht]; exact hP9, va_K.moved hW.alike hK9, hD9⟩, hS.F ht⟩) hS.2.2 dX10_surest_13
theorem dX12_refusesSure_0 : decode cX12_refusesSure 0 = .ok (.aload_n 0, 1) := by decide +kernel
theorem dX12_refusesSure_1 : decode cX12_refusesSure 1 = .ok (.iload_n 1, 1) := by decide +kernel
theorem dX12_refusesSure_2 : decode cX12_refusesSure 2 = .ok (.invokevirtual 320, 3) := by decide +kernel
theorem dX12_refusesSure_28 : decode cX12_refusesSure 28 = .ok (.ireturn, 1) := by decide +kernel
theorem dX12_refusesSure_5 : decode cX12_refusesSure 5 = .ok (.ifCond .ne 7, 3) := by decide +kernel
theorem dX12_refusesSure_8 : decode cX12_refusesSure 8 = .ok (.iconst 1, 1) := by decide +kernel
theorem dX12_refusesSure_9 : decode cX12_refusesSure 9 = .ok (.goto 19, 3) := by decide +kernel
def vX12_refusesSure : List Cond := .code yX12_refusesSure cX12_refusesSure 2 (some .int) :: ([.methodLink RX12 320 yX12_isAnswer, .instanceMethod yX12_isAnswer, .selects RX12 yX12_isAnswer yX12_isAnswer, .initialized RX12, .code yX12_isAnswer cX12_isAnswer 2 (some .boolean), .fieldLink RX12 299 "HookPierModel" "pier" "LHookPierModel$Pier;"] ++ wsX120)
theorem iX12_refusesSure_X12 : ∀ w ∈ wsX120, w ∈ vX12_refusesSure := fun _ h => List.mem_cons_of_mem _ (List.mem_append_right _ h)
set_option maxRecDepth 20000 in
theorem gX12_refusesSure_0 : GoodIn vX12_refusesSure (wsV RX12 320 RX12 yX12_isAnswer vX12_isAnswer) := goodIn_app (goodIn_r [.methodLink RX12 320 yX12_isAnswer, .instanceMethod yX12_isAnswer, .selects RX12 yX12_isAnswer yX12_isAnswer, .initialized RX12] [1, 2, 3, 4] (by decide +kernel) (by decide +kernel)) (goodIn_ca (goodIn_r (.code yX12_isAnswer cX12_isAnswer 2 (some .boolean) :: [.fieldLink RX12 299 "HookPierModel" "pier" "LHookPierModel$Pier;"]) [5, 6] (by decide +kernel) (by decide +kernel) : GoodIn vX12_refusesSure (.code yX12_isAnswer cX12_isAnswer 2 (some .boolean) :: [.fieldLink RX12 299 "HookPierModel" "pier" "LHookPierModel$Pier;"])) (goodIn_sub iX12_refusesSure_X12 (by decide +kernel)))
set_option maxHeartbeats 1000000 in
set_option maxRecDepth 100000 in
theorem kX12_refusesSure (l : Launch) (dC : Nat → ClassId) (dI : Nat → Nat → Nat) (a0 : Nat) (k1 : Int32) (g2 : Value) (g3 : Value) (g4 : Value) (g5 : Value) (g6 : Value) (g7 : Value) (g8 : Value) (g9 : Value) (g10 : Value) (g11 : Value) (g12 : Value) (g13 : Value) (g14 : Value) (g15 : Value) (g16 : Value) (g17 : Value) (g18 : Value) (g19 : Value) (g20 : Value) (g21 : Value) (g22 : Value) (g23 : Value) (g24 : Value) (g25 : Value) (g26 : Value) (g27 : Value) (g28 : Value) (g29 : Value) (g30 : Value) (sz : Nat) : Met l yX12_refusesSure vX12_refusesSure ({ frames := 1, cells := 0, slots := 0, locals := 21 }) (PC (dC, dI) [.ref a0, .int k1] sz [(a0, .inr (9, [g2, g3, g4, .null, g5, g6, g7, g8, g9, g10, g11, g12, g13, g14, g15, g16, g17, g18, g19, g20, g21, g22, g23, g24, g25, g26, g27, g28, g29, g30]))] []) (va_Qi (S := Unit) (fun (r : Int32) _ => r = 1) (fun _ t => BC (dC, dI) (va_A [(a0, .inr (9, [g2, g3, g4, .null, g5, g6, g7, g8, g9, g10, g11, g12, g13, g14, g15, g16, g17, g18, g19, g20, g21, g22, g23, g24, g25, g26, g27, g28, g29, g30]))] sz) [(a0, .inr (9, [g2, g3, g4, .null, g5, g6, g7, g8, g9, g10, g11, g12, g13, g14, g15, g16, g17, g18, g19, g20, g21, g22, g23, g24, g25, g26, g27, g28, g29, g30]))] [] t) (va_A [(a0, .inr (9, [g2, g3, g4, .null, g5, g6, g7, g8, g9, g10, g11, g12, g13, g14, g15, g16, g17, g18, g19, g20, g21, g22, g23, g24, g25, g26, g27, g28, g29, g30]))] sz)) 0 0 (va_A [(a0, .inr (9, [g2, g3, g4, .null, g5, g6, g7, g8, g9, g10, g11, g12, g13, g14, g15, g16, g17, g18, g19, g20, g21, g22, g23, g24, g25, g26, g27, g28, g29, g30]))] sz) := by
  refine Met.ofW (cc := cX12_refusesSure) (maxL := 2) (ret := (some .int)) (by decide) rfl ?_
  intro p e s m args below meth c s₁ B hml hv
  obtain ⟨rfl, hsz, hP, hK, hD0, hN⟩ := hv
  have hx := B.exec
  have hb := B.bytes
  have hr := B.returns
  have hts := atoms_spec (ws := vX12_refusesSure) B.pre
  have hown : s.vm.findClass RX12 = some m.cls := findClass_of_methodNamed B.named
  have hlocks := B.notSynchronized
  subst hsz
  have hD := hD0.self (sz := s.heap.size)
  generalize hAe : va_A [(a0, .inr (9, [g2, g3, g4, .null, g5, g6, g7, g8, g9, g10, g11, g12, g13, g14, g15, g16, g17, g18, g19, g20, g21, g22, g23, g24, g25, g26, g27, g28, g29, g30]))] s.heap.size = A at hD ⊢
  have hA : ∀ q : Nat, s.heap.size ≤ q → A q := fun q h => by rw [← hAe]; exact Or.inr h
  have hS : va_S A s.heap s.heap [] := va_S.rf
  have hP : va_P (dC, dI) vwCl [(a0, .inr (9, [g2, g3, g4, .null, g5, g6, g7, g8, g9, g10, g11, g12, g13, g14, g15, g16, g17, g18, g19, g20, g21, g22, g23, g24, g25, g26, g27, g28, g29, g30]))] s.heap := hP
  have hl := lv_entry ([.ref a0, .int k1]) (n := 2) (Nat.le_of_ble_eq_true rfl)
  rw [lg_entry_eq]
  generalize (lg_sl ([.ref a0, .int k1]) ++ List.replicate (2 - (lg_sl ([.ref a0, .int k1])).length) Slot.unset).toArray = ls at hl ⊢
  have hl : lv_has ls 2 [(0, .ref a0), (1, .int k1)] := hl
  refine lv_aload_n hx hb dX12_refusesSure_0 rfl (lv_at hl 0 rfl) ?_
  refine lv_iload_n hx hb dX12_refusesSure_1 rfl (lv_at hl 1 rfl) ?_
  refine cl_i (wc := [(a0, .inr (9, [g2, g3, g4, .null, g5, g6, g7, g8, g9, g10, g11, g12, g13, g14, g15, g16, g17, g18, g19, g20, g21, g22, g23, g24, g25, g26, g27, g28, g29, g30]))]) (wr := []) (va_runV (As := [.int k1]) (rest := []) ⟨hx, hb, hml, hown, hts⟩ (kX12_isAnswer l dC dI a0 k1 (g2) (g3) (g4) (g5) (g6) (g7) (g8) (g9) (g10) (g11) (g12) (g13) (g14) (g15) (g16) (g17) (g18) (g19) (g20) (g21) (g22) (g23) (g24) (g25) (g26) (g27) (g28) (g29) (g30) s.heap.size) (cwV 1 hts gX12_refusesSure_0 rfl rfl rfl (by decide +kernel) ⟨Nat.le_of_ble_eq_true rfl, Nat.le_of_ble_eq_true rfl⟩) (PV (hP.sub (ws' := [(a0, .inr (9, [g2, g3, g4, .null, g5, g6, g7, g8, g9, g10, g11, g12, g13, g14, g15, g16, g17, g18, g19, g20, g21, g22, g23, g24, g25, g26, g27, g28, g29, g30]))]) [0] rfl) (hK.sub (tys' := []) [] rfl) (hD.sub (ws' := [(a0, .inr (9, [g2, g3, g4, .null, g5, g6, g7, g8, g9, g10, g11, g12, g13, g14, g15, g16, g17, g18, g19, g20, g21, g22, g23, g24, g25, g26, g27, g28, g29, g30]))]) [0] (by decide) rfl) hN 0 rfl rfl) rfl rfl hl.1 rfl (lv_room (Nat.le_of_ble_eq_true rfl)) dX12_refusesSure_2 ⟨Nat.le_of_ble_eq_true rfl, Nat.le_of_ble_eq_true rfl⟩) hP hD hK hS hA [0] [] rfl rfl (by decide) (by decide) (fun z1 _u H locs hw hP hD hK hS => ?_)
  have hP : va_P (dC, dI) vwCl [(a0, .inr (9, [g2, g3, g4, .null, g5, g6, g7, g8, g9, g10, g11, g12, g13, g14, g15, g16, g17, g18, g19, g20, g21, g22, g23, g24, g25, g26, g27, g28, g29, g30]))] H := hP
  have hD : va_D A [(a0, .inr (9, [g2, g3, g4, .null, g5, g6, g7, g8, g9, g10, g11, g12, g13, g14, g15, g16, g17, g18, g19, g20, g21, g22, g23, g24, g25, g26, g27, g28, g29, g30]))] := hD
  have hK : va_K (dC, dI) vwCl [] s := hK
  obtain rfl : z1 = 0 := hw
  refine lv_if_ne (tgt := 12) hx hb dX12_refusesSure_5 (by decide) (fun c2 => absurd c2 (by decide)) (fun _ => ?_)
  refine lv_iconst (v := 1) hx hb dX12_refusesSure_8 (by decide) ?_
  refine lv_goto (tgt := 28) hx hb dX12_refusesSure_9 (by decide) ?_
  have hP9 := hP.sub (ws' := [(a0, .inr (9, [g2, g3, g4, .null, g5, g6, g7, g8, g9, g10, g11, g12, g13, g14, g15, g16, g17, g18, g19, g20, g21, g22, g23, g24, g25, g26, g27, g28, g29, g30]))]) [0] rfl
  have hD9 := hD.sub (ws' := [(a0, .inr (9, [g2, g3, g4, .null, g5, g6, g7, g8, g9, g10, g11, g12, g13, g14, g15, g16, g17, g18, g19, g20, g21, g22, g23, g24, g25, g26, g27, g28, g29, g30]))]) [0] (by decide) rfl
  have hK9 := hK.sub (tys' := []) [] rfl
  exact W.iret (v := 1) hx hb hr (fun t ht hW => ⟨⟨1, (), rfl, rfl, by rw [ht]; exact hP9, va_K.moved hW.alike hK9, hD9⟩, hS.F ht⟩) hS.2.2 dX12_refusesSure_28
theorem dX12_surest_0 : decode cX12_surest 0 = .ok (.aload_n 0, 1) := by decide +kernel
theorem dX12_surest_1 : decode cX12_surest 1 = .ok (.iconst 0, 1) := by decide +kernel
theorem dX12_surest_10 : decode cX12_surest 10 = .ok (.istore_n 2, 1) := by decide +kernel
theorem dX12_surest_11 : decode cX12_surest 11 = .ok (.iload_n 2, 1) := by decide +kernel
theorem dX12_surest_12 : decode cX12_surest 12 = .ok (.ifCond .le 9, 3) := by decide +kernel
theorem dX12_surest_15 : decode cX12_surest 15 = .ok (.aload_n 0, 1) := by decide +kernel
theorem dX12_surest_16 : decode cX12_surest 16 = .ok (.iload_n 2, 1) := by decide +kernel
theorem dX12_surest_17 : decode cX12_surest 17 = .ok (.invokevirtual 42, 3) := by decide +kernel
theorem dX12_surest_2 : decode cX12_surest 2 = .ok (.putfield 36, 3) := by decide +kernel
theorem dX12_surest_20 : decode cX12_surest 20 = .ok (.ireturn, 1) := by decide +kernel
theorem dX12_surest_5 : decode cX12_surest 5 = .ok (.aload_n 0, 1) := by decide +kernel
theorem dX12_surest_6 : decode cX12_surest 6 = .ok (.iload_n 1, 1) := by decide +kernel
theorem dX12_surest_7 : decode cX12_surest 7 = .ok (.invokevirtual 377, 3) := by decide +kernel
def vX12_surest : List Cond := .code yX12_surest cX12_surest 4 (some .int) :: ([.fieldLink RX12 36 "HookPierModel" "thrown" "I", .methodLink RX12 377 yX12_refusesSure, .instanceMethod yX12_refusesSure, .selects RX12 yX12_refusesSure yX12_refusesSure, .initialized RX12, .code yX12_refusesSure cX12_refusesSure 2 (some .int), .methodLink RX12 320 yX12_isAnswer, .instanceMethod yX12_isAnswer, .selects RX12 yX12_isAnswer yX12_isAnswer, .code yX12_isAnswer cX12_isAnswer 2 (some .boolean), .fieldLink RX12 299 "HookPierModel" "pier" "LHookPierModel$Pier;", .methodLink RX12 42 yX12_refused, .instanceMethod yX12_refused, .selects RX12 yX12_refused yX12_refused, .code yX12_refused cX12_refused 2 (some .int), .fieldLink RX12 39 "HookPierModel" "trouble" "I", .fieldLink RX12 9 "HookPierModel" "where" "I"] ++ wsX120)
theorem iX12_surest_X12 : ∀ w ∈ wsX120, w ∈ vX12_surest := fun _ h => List.mem_cons_of_mem _ (List.mem_append_right _ h)
set_option maxRecDepth 20000 in
theorem gX12_surest_0 : GoodIn vX12_surest (wsV RX12 377 RX12 yX12_refusesSure vX12_refusesSure) := goodIn_app (goodIn_r [.methodLink RX12 377 yX12_refusesSure, .instanceMethod yX12_refusesSure, .selects RX12 yX12_refusesSure yX12_refusesSure, .initialized RX12] [2, 3, 4, 5] (by decide +kernel) (by decide +kernel)) (goodIn_ca (goodIn_r (.code yX12_refusesSure cX12_refusesSure 2 (some .int) :: [.methodLink RX12 320 yX12_isAnswer, .instanceMethod yX12_isAnswer, .selects RX12 yX12_isAnswer yX12_isAnswer, .initialized RX12, .code yX12_isAnswer cX12_isAnswer 2 (some .boolean), .fieldLink RX12 299 "HookPierModel" "pier" "LHookPierModel$Pier;"]) [6, 7, 8, 9, 5, 10, 11] (by decide +kernel) (by decide +kernel) : GoodIn vX12_surest (.code yX12_refusesSure cX12_refusesSure 2 (some .int) :: [.methodLink RX12 320 yX12_isAnswer, .instanceMethod yX12_isAnswer, .selects RX12 yX12_isAnswer yX12_isAnswer, .initialized RX12, .code yX12_isAnswer cX12_isAnswer 2 (some .boolean), .fieldLink RX12 299 "HookPierModel" "pier" "LHookPierModel$Pier;"])) (goodIn_sub iX12_surest_X12 (by decide +kernel)))
set_option maxRecDepth 20000 in
theorem gX12_surest_1 : GoodIn vX12_surest (wsV RX12 42 RX12 yX12_refused vX12_refused_1) := goodIn_app (goodIn_r [.methodLink RX12 42 yX12_refused, .instanceMethod yX12_refused, .selects RX12 yX12_refused yX12_refused, .initialized RX12] [12, 13, 14, 5] (by decide +kernel) (by decide +kernel)) (goodIn_ca (goodIn_r (.code yX12_refused cX12_refused 2 (some .int) :: [.fieldLink RX12 39 "HookPierModel" "trouble" "I", .fieldLink RX12 9 "HookPierModel" "where" "I"]) [15, 16, 17] (by decide +kernel) (by decide +kernel) : GoodIn vX12_surest (.code yX12_refused cX12_refused 2 (some .int) :: [.fieldLink RX12 39 "HookPierModel" "trouble" "I", .fieldLink RX12 9 "HookPierModel" "where" "I"])) (goodIn_sub iX12_surest_X12 (by decide +kernel)))
set_option maxHeartbeats 1000000 in
set_option maxRecDepth 100000 in
theorem kX12_surest (l : Launch) (dC : Nat → ClassId) (dI : Nat → Nat → Nat) (a0 : Nat) (k1 : Int32) (g2 : Value) (g3 : Value) (g4 : Value) (g5 : Value) (g6 : Value) (g7 : Value) (g8 : Value) (g9 : Value) (g10 : Value) (g11 : Value) (g12 : Value) (g13 : Value) (g14 : Value) (g15 : Value) (g16 : Value) (g17 : Value) (g18 : Value) (g19 : Value) (g20 : Value) (g21 : Value) (g22 : Value) (g23 : Value) (g24 : Value) (g25 : Value) (g26 : Value) (g27 : Value) (g28 : Value) (g29 : Value) (g30 : Value) (sz : Nat) : Met l yX12_surest vX12_surest ({ frames := 2, cells := 0, slots := 0, locals := 42 }) (PC (dC, dI) [.ref a0, .int k1] sz [(a0, .inr (9, [g2, g3, g4, .null, g5, g6, g7, g8, g9, g10, g11, g12, g13, g14, g15, g16, g17, g18, g19, g20, g21, g22, g23, g24, g25, g26, g27, g28, g29, g30]))] []) (va_Qi (S := Unit) (fun (r : Int32) _ => r = (-1)) (fun _ t => BC (dC, dI) (va_A [(a0, .inr (9, [g2, g3, g4, .null, g5, g6, g7, g8, g9, g10, g11, g12, g13, g14, g15, g16, g17, g18, g19, g20, g21, g22, g23, g24, g25, g26, g27, g28, g29, g30]))] sz) [] [] t) (va_A [(a0, .inr (9, [g2, g3, g4, .null, g5, g6, g7, g8, g9, g10, g11, g12, g13, g14, g15, g16, g17, g18, g19, g20, g21, g22, g23, g24, g25, g26, g27, g28, g29, g30]))] sz)) 0 0 (va_A [(a0, .inr (9, [g2, g3, g4, .null, g5, g6, g7, g8, g9, g10, g11, g12, g13, g14, g15, g16, g17, g18, g19, g20, g21, g22, g23, g24, g25, g26, g27, g28, g29, g30]))] sz) := by
  refine Met.ofW (cc := cX12_surest) (maxL := 4) (ret := (some .int)) (by decide) rfl ?_
  intro p e s m args below meth c s₁ B hml hv
  obtain ⟨rfl, hsz, hP, hK, hD0, hN⟩ := hv
  have hx := B.exec
  have hb := B.bytes
  have hr := B.returns
  have hts := atoms_spec (ws := vX12_surest) B.pre
  have hown : s.vm.findClass RX12 = some m.cls := findClass_of_methodNamed B.named
  have hlocks := B.notSynchronized
  subst hsz
  have hD := hD0.self (sz := s.heap.size)
  generalize hAe : va_A [(a0, .inr (9, [g2, g3, g4, .null, g5, g6, g7, g8, g9, g10, g11, g12, g13, g14, g15, g16, g17, g18, g19, g20, g21, g22, g23, g24, g25, g26, g27, g28, g29, g30]))] s.heap.size = A at hD ⊢
  have hA : ∀ q : Nat, s.heap.size ≤ q → A q := fun q h => by rw [← hAe]; exact Or.inr h
  have hS : va_S A s.heap s.heap [] := va_S.rf
  have hP : va_P (dC, dI) vwCl [(a0, .inr (9, [g2, g3, g4, .null, g5, g6, g7, g8, g9, g10, g11, g12, g13, g14, g15, g16, g17, g18, g19, g20, g21, g22, g23, g24, g25, g26, g27, g28, g29, g30]))] s.heap := hP
  have hl := lv_entry ([.ref a0, .int k1]) (n := 4) (Nat.le_of_ble_eq_true rfl)
  rw [lg_entry_eq]
  generalize (lg_sl ([.ref a0, .int k1]) ++ List.replicate (4 - (lg_sl ([.ref a0, .int k1])).length) Slot.unset).toArray = ls at hl ⊢
  have hl : lv_has ls 4 [(0, .ref a0), (1, .int k1)] := hl
  refine lv_aload_n hx hb dX12_surest_0 rfl (lv_at hl 0 rfl) ?_
  refine lv_iconst (v := 0) hx hb dX12_surest_1 (by decide) ?_
  refine va_put (D := (dC, dI)) (ci := 9) (v := .int 0) (ty := .int) (C := RX12) (T := TX12) (N := 30) hx hb hts iX12_surest_X12 tyX12 tyX12_ok nmX12 hown hK hP hD hS 0 rfl rfl 0 (by decide) (hts (.fieldLink RX12 36 "HookPierModel" "thrown" "I") (List.mem_of_getElem? (i := 1) rfl)) (fun _ h9 => h9) rfl (by decide +kernel) rfl rfl (Nat.le_of_ble_eq_true rfl) dX12_surest_2 (fun H locs hP hD hS => ?_)
  have hP : va_P (dC, dI) vwCl [(a0, .inr (9, [.int 0, g3, g4, .null, g5, g6, g7, g8, g9, g10, g11, g12, g13, g14, g15, g16, g17, g18, g19, g20, g21, g22, g23, g24, g25, g26, g27, g28, g29, g30]))] H := hP
  have hD : va_D A [(a0, .inr (9, [.int 0, g3, g4, .null, g5, g6, g7, g8, g9, g10, g11, g12, g13, g14, g15, g16, g17, g18, g19, g20, g21, g22, g23, g24, g25, g26, g27, g28, g29, g30]))] := hD
  refine lv_aload_n hx hb dX12_surest_5 rfl (lv_at hl 0 rfl) ?_
  refine lv_iload_n hx hb dX12_surest_6 rfl (lv_at hl 1 rfl) ?_
  refine cl_i (wc := [(a0, .inr (9, [.int 0, g3, g4, .null, g5, g6, g7, g8, g9, g10, g11, g12, g13, g14, g15, g16, g17, g18, g19, g20, g21, g22, g23, g24, g25, g26, g27, g28, g29, g30]))]) (wr := []) (va_runV (As := [.int k1]) (rest := []) ⟨hx, hb, hml, hown, hts⟩ (kX12_refusesSure l dC dI a0 k1 (.int 0) (g3) (g4) (g5) (g6) (g7) (g8) (g9) (g10) (g11) (g12) (g13) (g14) (g15) (g16) (g17) (g18) (g19) (g20) (g21) (g22) (g23) (g24) (g25) (g26) (g27) (g28) (g29) (g30) H.size) (cwV 1 hts gX12_surest_0 rfl rfl rfl (by decide +kernel) ⟨Nat.le_of_ble_eq_true rfl, Nat.le_of_ble_eq_true rfl⟩) (PV (hP.sub (ws' := [(a0, .inr (9, [.int 0, g3, g4, .null, g5, g6, g7, g8, g9, g10, g11, g12, g13, g14, g15, g16, g17, g18, g19, g20, g21, g22, g23, g24, g25, g26, g27, g28, g29, g30]))]) [0] rfl) (hK.sub (tys' := []) [] rfl) (hD.sub (ws' := [(a0, .inr (9, [.int 0, g3, g4, .null, g5, g6, g7, g8, g9, g10, g11, g12, g13, g14, g15, g16, g17, g18, g19, g20, g21, g22, g23, g24, g25, g26, g27, g28, g29, g30]))]) [0] (by decide) rfl) hN 0 rfl rfl) rfl rfl hl.1 rfl (lv_room (Nat.le_of_ble_eq_true rfl)) dX12_surest_7 ⟨Nat.le_of_ble_eq_true rfl, Nat.le_of_ble_eq_true rfl⟩) hP hD hK hS hA [0] [] rfl rfl (by decide) (by decide) (fun z1 _u H locs hw hP hD hK hS => ?_)
  have hP : va_P (dC, dI) vwCl [(a0, .inr (9, [.int 0, g3, g4, .null, g5, g6, g7, g8, g9, g10, g11, g12, g13, g14, g15, g16, g17, g18, g19, g20, g21, g22, g23, g24, g25, g26, g27, g28, g29, g30]))] H := hP
  have hD : va_D A [(a0, .inr (9, [.int 0, g3, g4, .null, g5, g6, g7, g8, g9, g10, g11, g12, g13, g14, g15, g16, g17, g18, g19, g20, g21, g22, g23, g24, g25, g26, g27, g28, g29, g30]))] := hD
  have hK : va_K (dC, dI) vwCl [] s := hK
  obtain rfl : z1 = 1 := hw
  refine lv_istore_n (lv' := [(2, .int 1), (0, .ref a0), (1, .int k1)]) hx hb dX12_surest_10 rfl hl (by decide) rfl (fun ls hl => ?_)
  refine lv_iload_n hx hb dX12_surest_11 rfl (lv_at hl 0 rfl) ?_
  refine lv_if_le (tgt := 21) hx hb dX12_surest_12 (by decide) (fun c2 => absurd c2 (by decide)) (fun _ => ?_)
  refine lv_aload_n hx hb dX12_surest_15 rfl (lv_at hl 1 rfl) ?_
  refine lv_iload_n hx hb dX12_surest_16 rfl (lv_at hl 0 rfl) ?_
  refine cl_i (wc := [(a0, .inr (9, [.int 0, g3, g4, .null, g5, g6, g7, g8, g9, g10, g11, g12, g13, g14, g15, g16, g17, g18, g19, g20, g21, g22, g23, g24, g25, g26, g27, g28, g29, g30]))]) (wr := []) (va_runV (As := [.int 1]) (rest := []) ⟨hx, hb, hml, hown, hts⟩ (kX12_refused_1 l dC dI a0 (.int 0) (g3) (g4) (.null) (g5) (g6) (g7) (g8) (g9) (g10) (g11) (g12) (g13) (g14) (g15) (g16) (g17) (g18) (g19) (g20) (g21) (g22) (g23) (g24) (g25) (g26) (g27) (g28) (g29) (g30) H.size) (cwV 1 hts gX12_surest_1 rfl rfl rfl (by decide +kernel) ⟨Nat.le_of_ble_eq_true rfl, Nat.le_of_ble_eq_true rfl⟩) (PV (hP.sub (ws' := [(a0, .inr (9, [.int 0, g3, g4, .null, g5, g6, g7, g8, g9, g10, g11, g12, g13, g14, g15, g16, g17, g18, g19, g20, g21, g22, g23, g24, g25, g26, g27, g28, g29, g30]))]) [0] rfl) (hK.sub (tys' := []) [] rfl) (hD.sub (ws' := [(a0, .inr (9, [.int 0, g3, g4, .null, g5, g6, g7, g8, g9, g10, g11, g12, g13, g14, g15, g16, g17, g18, g19, g20, g21, g22, g23, g24, g25, g26, g27, g28, g29, g30]))]) [0] (by decide) rfl) hN 0 rfl rfl) rfl rfl hl.1 rfl (lv_room (Nat.le_of_ble_eq_true rfl)) dX12_surest_17 ⟨Nat.le_of_ble_eq_true rfl, Nat.le_of_ble_eq_true rfl⟩) hP hD hK hS hA [0] [] rfl rfl (by decide) (by decide) (fun z3 _u H locs hw hP hD hK hS => ?_)
  have hP : va_P (dC, dI) vwCl [(a0, .inr (9, [.int 0, .int 1, .int (-1), .null, g5, g6, g7, g8, g9, g10, g11, g12, g13, g14, g15, g16, g17, g18, g19, g20, g21, g22, g23, g24, g25, g26, g27, g28, g29, g30]))] H := hP
  have hD : va_D A [(a0, .inr (9, [.int 0, .int 1, .int (-1), .null, g5, g6, g7, g8, g9, g10, g11, g12, g13, g14, g15, g16, g17, g18, g19, g20, g21, g22, g23, g24, g25, g26, g27, g28, g29, g30]))] := hD
  have hK : va_K (dC, dI) vwCl [] s := hK
  obtain rfl : z3 = (-1) := hw
  have hP9 := hP.sub (ws' := []) [] rfl
  have hD9 := hD.sub (ws' := []) [] (by decide) rfl
  have hK9 := hK.sub (tys' := []) [] rfl
  exact W.iret (v := (-1)) hx hb hr (fun t ht hW => ⟨⟨(-1), (), rfl, rfl, by rw [ht]; exact hP9, va_K.moved hW.alike hK9, hD9⟩, hS.F ht⟩) hS.2.2 dX12_surest_20
theorem dX10_surestOdds_0 : decode cX10_surestOdds 0 = .ok (.aload_n 0, 1) := by decide +kernel
theorem dX10_surestOdds_1 : decode cX10_surestOdds 1 = .ok (.aload_n 0, 1) := by decide +kernel
theorem dX10_surestOdds_12 : decode cX10_surestOdds 12 = .ok (.ldc2_w 187, 3) := by decide +kernel
theorem dX10_surestOdds_15 : decode cX10_surestOdds 15 = .ok (.lreturn, 1) := by decide +kernel
theorem dX10_surestOdds_2 : decode cX10_surestOdds 2 = .ok (.iload_n 1, 1) := by decide +kernel
theorem dX10_surestOdds_3 : decode cX10_surestOdds 3 = .ok (.invokevirtual 210, 3) := by decide +kernel
theorem dX10_surestOdds_6 : decode cX10_surestOdds 6 = .ok (.invokevirtual 79, 3) := by decide +kernel
theorem dX10_surestOdds_9 : decode cX10_surestOdds 9 = .ok (.ifCond .eq 7, 3) := by decide +kernel
def vX10_surestOdds : List Cond := .code yX10_surestOdds cX10_surestOdds 4 (some .long) :: ([.methodLink RX10 210 yX10_thereTrouble, .instanceMethod yX10_thereTrouble, .selects RX10 yX10_thereTrouble yX10_thereTrouble, .initialized RX10, .code yX10_thereTrouble cX10_thereTrouble 3 (some .int), .methodLink RX10 102 yX10_answerTrouble, .instanceMethod yX10_answerTrouble, .selects RX10 yX10_answerTrouble yX10_answerTrouble, .code yX10_answerTrouble cX10_answerTrouble 2 (some .int), .fieldLink RX10 10 "HookPier" "plan" "LHookPier$Plan;", .methodLink RX10 381 yX6_hasAnswer, .instanceMethod yX6_hasAnswer, .selects RX6 yX6_hasAnswer yX6_hasAnswer, .initialized RX6, .code yX6_hasAnswer cX6_hasAnswer 2 (some .boolean), .fieldLink RX6 30 "HookPier$Plan" "answers" "I", .code yX10_within cX10_within 3 (some .boolean), .static yX10_within, .methodLink RX10 79 yX10_refused, .instanceMethod yX10_refused, .selects RX10 yX10_refused yX10_refused, .code yX10_refused cX10_refused 2 (some .boolean), .fieldLink RX10 61 "HookPier" "troubleNow" "I", .constantLong RX10 187 (-1)] ++ wsX100 ++ wsX60)
theorem iX10_surestOdds_X10 : ∀ w ∈ wsX100, w ∈ vX10_surestOdds := fun _ h => List.mem_cons_of_mem _ (List.mem_append_left _ (List.mem_append_right _ h))
theorem iX10_surestOdds_X6 : ∀ w ∈ wsX60, w ∈ vX10_surestOdds := fun _ h => List.mem_cons_of_mem _ (List.mem_append_right _ h)
set_option maxRecDepth 20000 in
theorem gX10_surestOdds_0 : GoodIn vX10_surestOdds (wsV RX10 210 RX10 yX10_thereTrouble vX10_thereTrouble) := goodIn_app (goodIn_r [.methodLink RX10 210 yX10_thereTrouble, .instanceMethod yX10_thereTrouble, .selects RX10 yX10_thereTrouble yX10_thereTrouble, .initialized RX10] [1, 2, 3, 4] (by decide +kernel) (by decide +kernel)) (goodIn_ca (goodIn_ca (goodIn_r (.code yX10_thereTrouble cX10_thereTrouble 3 (some .int) :: [.methodLink RX10 102 yX10_answerTrouble, .instanceMethod yX10_answerTrouble, .selects RX10 yX10_answerTrouble yX10_answerTrouble, .initialized RX10, .code yX10_answerTrouble cX10_answerTrouble 2 (some .int), .fieldLink RX10 10 "HookPier" "plan" "LHookPier$Plan;", .methodLink RX10 381 yX6_hasAnswer, .instanceMethod yX6_hasAnswer, .selects RX6 yX6_hasAnswer yX6_hasAnswer, .initialized RX6, .code yX6_hasAnswer cX6_hasAnswer 2 (some .boolean), .fieldLink RX6 30 "HookPier$Plan" "answers" "I", .code yX10_within cX10_within 3 (some .boolean), .static yX10_within]) [5, 6, 7, 8, 4, 9, 10, 11, 12, 13, 14, 15, 16, 17, 18] (by decide +kernel) (by decide +kernel) : GoodIn vX10_surestOdds (.code yX10_thereTrouble cX10_thereTrouble 3 (some .int) :: [.methodLink RX10 102 yX10_answerTrouble, .instanceMethod yX10_answerTrouble, .selects RX10 yX10_answerTrouble yX10_answerTrouble, .initialized RX10, .code yX10_answerTrouble cX10_answerTrouble 2 (some .int), .fieldLink RX10 10 "HookPier" "plan" "LHookPier$Plan;", .methodLink RX10 381 yX6_hasAnswer, .instanceMethod yX6_hasAnswer, .selects RX6 yX6_hasAnswer yX6_hasAnswer, .initialized RX6, .code yX6_hasAnswer cX6_hasAnswer 2 (some .boolean), .fieldLink RX6 30 "HookPier$Plan" "answers" "I", .code yX10_within cX10_within 3 (some .boolean), .static yX10_within])) (goodIn_sub iX10_surestOdds_X10 (by decide +kernel))) (goodIn_sub iX10_surestOdds_X6 (by decide +kernel)))
set_option maxRecDepth 20000 in
theorem gX10_surestOdds_1 : GoodIn vX10_surestOdds (wsV RX10 79 RX10 yX10_refused vX10_refused_3) := goodIn_app (goodIn_r [.methodLink RX10 79 yX10_refused, .instanceMethod yX10_refused, .selects RX10 yX10_refused yX10_refused, .initialized RX10] [19, 20, 21, 4] (by decide +kernel) (by decide +kernel)) (goodIn_ca (goodIn_r (.code yX10_refused cX10_refused 2 (some .boolean) :: [.fieldLink RX10 61 "HookPier" "troubleNow" "I"]) [22, 23] (by decide +kernel) (by decide +kernel) : GoodIn vX10_surestOdds (.code yX10_refused cX10_refused 2 (some .boolean) :: [.fieldLink RX10 61 "HookPier" "troubleNow" "I"])) (goodIn_sub iX10_surestOdds_X10 (by decide +kernel)))
set_option maxHeartbeats 1000000 in
set_option maxRecDepth 100000 in
theorem kX10_surestOdds (l : Launch) (dC : Nat → ClassId) (dI : Nat → Nat → Nat) (a0 : Nat) (k1 : Int32) (k2 : Int32) (a3 : Nat) (g4 : Value) (g5 : Value) (g6 : Value) (g7 : Value) (g8 : Value) (g9 : Value) (g10 : Value) (g11 : Value) (g12 : Value) (g13 : Value) (g14 : Value) (g15 : Value) (g16 : Value) (g17 : Value) (g18 : Value) (g19 : Value) (g20 : Value) (g21 : Value) (g22 : Value) (g23 : Value) (g24 : Value) (g25 : Value) (g26 : Value) (g27 : Value) (g28 : Value) (g29 : Value) (sz : Nat) : Met l yX10_surestOdds vX10_surestOdds ({ frames := 4, cells := 0, slots := 0, locals := 86 }) (PC (dC, dI) [.ref a0, .int k1, .int k2] sz [(a0, .inr (7, [.ref a3, g4, g5, g6, g7, g8, g9, g10, g11, g12])), (a3, .inr (4, [g13, g14, g15, g16, g17, g18, .int 0, g19, g20, g21, g22, g23, g24, g25, g26, g27, g28, g29]))] []) (va_Ql (S := Unit) (fun (r : Int64) _ => r = (-1)) (fun _ t => BC (dC, dI) (va_A [(a0, .inr (7, [.ref a3, g4, g5, g6, g7, g8, g9, g10, g11, g12])), (a3, .inr (4, [g13, g14, g15, g16, g17, g18, .int 0, g19, g20, g21, g22, g23, g24, g25, g26, g27, g28, g29]))] sz) [] [] t) (va_A [(a0, .inr (7, [.ref a3, g4, g5, g6, g7, g8, g9, g10, g11, g12])), (a3, .inr (4, [g13, g14, g15, g16, g17, g18, .int 0, g19, g20, g21, g22, g23, g24, g25, g26, g27, g28, g29]))] sz)) 0 0 (va_A [(a0, .inr (7, [.ref a3, g4, g5, g6, g7, g8, g9, g10, g11, g12])), (a3, .inr (4, [g13, g14, g15, g16, g17, g18, .int 0, g19, g20, g21, g22, g23, g24, g25, g26, g27, g28, g29]))] sz) := by
  refine Met.ofW (cc := cX10_surestOdds) (maxL := 4) (ret := (some .long)) (by decide) rfl ?_
  intro p e s m args below meth c s₁ B hml hv
  obtain ⟨rfl, hsz, hP, hK, hD0, hN⟩ := hv
  have hx := B.exec
  have hb := B.bytes
  have hr := B.returns
  have hts := atoms_spec (ws := vX10_surestOdds) B.pre
  have hown : s.vm.findClass RX10 = some m.cls := findClass_of_methodNamed B.named
  have hlocks := B.notSynchronized
  subst hsz
  have hD := hD0.self (sz := s.heap.size)
  generalize hAe : va_A [(a0, .inr (7, [.ref a3, g4, g5, g6, g7, g8, g9, g10, g11, g12])), (a3, .inr (4, [g13, g14, g15, g16, g17, g18, .int 0, g19, g20, g21, g22, g23, g24, g25, g26, g27, g28, g29]))] s.heap.size = A at hD ⊢
  have hA : ∀ q : Nat, s.heap.size ≤ q → A q := fun q h => by rw [← hAe]; exact Or.inr h
  have hS : va_S A s.heap s.heap [] := va_S.rf
  have hP : va_P (dC, dI) vwCl [(a0, .inr (7, [.ref a3, g4, g5, g6, g7, g8, g9, g10, g11, g12])), (a3, .inr (4, [g13, g14, g15, g16, g17, g18, .int 0, g19, g20, g21, g22, g23, g24, g25, g26, g27, g28, g29]))] s.heap := hP
  have hl := lv_entry ([.ref a0, .int k1, .int k2]) (n := 4) (Nat.le_of_ble_eq_true rfl)
  rw [lg_entry_eq]
  generalize (lg_sl ([.ref a0, .int k1, .int k2]) ++ List.replicate (4 - (lg_sl ([.ref a0, .int k1, .int k2])).length) Slot.unset).toArray = ls at hl ⊢
  have hl : lv_has ls 4 [(0, .ref a0), (1, .int k1), (2, .int k2)] := hl
  refine lv_aload_n hx hb dX10_surestOdds_0 rfl (lv_at hl 0 rfl) ?_
  refine lv_aload_n hx hb dX10_surestOdds_1 rfl (lv_at hl 0 rfl) ?_
  refine lv_iload_n hx hb dX10_surestOdds_2 rfl (lv_at hl 1 rfl) ?_
  refine cl_i (wc := [(a0, .inr (7, [.ref a3, g4, g5, g6, g7, g8, g9, g10, g11, g12])), (a3, .inr (4, [g13, g14, g15, g16, g17, g18, .int 0, g19, g20, g21, g22, g23, g24, g25, g26, g27, g28, g29]))]) (wr := []) (va_runV (As := [.int k1]) (rest := [.ref a0]) ⟨hx, hb, hml, hown, hts⟩ (kX10_thereTrouble l dC dI a0 k1 a3 (g4) (g5) (g6) (g7) (g8) (g9) (g10) (g11) (g12) (g13) (g14) (g15) (g16) (g17) (g18) (g19) (g20) (g21) (g22) (g23) (g24) (g25) (g26) (g27) (g28) (g29) s.heap.size) (cwV 1 hts gX10_surestOdds_0 rfl rfl rfl (by decide +kernel) ⟨Nat.le_of_ble_eq_true rfl, Nat.le_of_ble_eq_true rfl⟩) (PV (hP.sub (ws' := [(a0, .inr (7, [.ref a3, g4, g5, g6, g7, g8, g9, g10, g11, g12])), (a3, .inr (4, [g13, g14, g15, g16, g17, g18, .int 0, g19, g20, g21, g22, g23, g24, g25, g26, g27, g28, g29]))]) [0, 1] rfl) (hK.sub (tys' := []) [] rfl) (hD.sub (ws' := [(a0, .inr (7, [.ref a3, g4, g5, g6, g7, g8, g9, g10, g11, g12])), (a3, .inr (4, [g13, g14, g15, g16, g17, g18, .int 0, g19, g20, g21, g22, g23, g24, g25, g26, g27, g28, g29]))]) [0, 1] (by decide) rfl) hN 0 rfl rfl) rfl rfl hl.1 rfl (lv_room (Nat.le_of_ble_eq_true rfl)) dX10_surestOdds_3 ⟨Nat.le_of_ble_eq_true rfl, Nat.le_of_ble_eq_true rfl⟩) hP hD hK hS hA [0, 1] [] rfl rfl (by decide) (by decide) (fun z1 _u H locs hw hP hD hK hS => ?_)
  have hP : va_P (dC, dI) vwCl [(a0, .inr (7, [.ref a3, g4, g5, g6, g7, g8, g9, g10, g11, g12])), (a3, .inr (4, [g13, g14, g15, g16, g17, g18, .int 0, g19, g20, g21, g22, g23, g24, g25, g26, g27, g28, g29]))] H := hP
  have hD : va_D A [(a0, .inr (7, [.ref a3, g4, g5, g6, g7, g8, g9, g10, g11, g12])), (a3, .inr (4, [g13, g14, g15, g16, g17, g18, .int 0, g19, g20, g21, g22, g23, g24, g25, g26, g27, g28, g29]))] := hD
  have hK : va_K (dC, dI) vwCl [] s := hK
  obtain rfl : z1 = 1 := hw
  refine cl_i (wc := [(a0, .inr (7, [.ref a3, g4, g5, g6, g7, g8, g9, g10, g11, g12]))]) (wr := [(a3, .inr (4, [g13, g14, g15, g16, g17, g18, .int 0, g19, g20, g21, g22, g23, g24, g25, g26, g27, g28, g29]))]) (va_runV (As := [.int 1]) (rest := []) ⟨hx, hb, hml, hown, hts⟩ (kX10_refused_3 l dC dI a0 (.ref a3) (g4) (g5) (g6) (g7) (g8) (g9) (g10) (g11) (g12) H.size) (cwV 1 hts gX10_surestOdds_1 rfl rfl rfl (by decide +kernel) ⟨Nat.le_of_ble_eq_true rfl, Nat.le_of_ble_eq_true rfl⟩) (PV (hP.sub (ws' := [(a0, .inr (7, [.ref a3, g4, g5, g6, g7, g8, g9, g10, g11, g12]))]) [0] rfl) (hK.sub (tys' := []) [] rfl) (hD.sub (ws' := [(a0, .inr (7, [.ref a3, g4, g5, g6, g7, g8, g9, g10, g11, g12]))]) [0] (by decide) rfl) hN 0 rfl rfl) rfl rfl hl.1 rfl (lv_room (Nat.le_of_ble_eq_true rfl)) dX10_surestOdds_6 ⟨Nat.le_of_ble_eq_true rfl, Nat.le_of_ble_eq_true rfl⟩) hP hD hK hS hA [0] [1] rfl rfl (by decide) (by decide) (fun z2 _u H locs hw hP hD hK hS => ?_)
  have hP : va_P (dC, dI) vwCl [(a3, .inr (4, [g13, g14, g15, g16, g17, g18, .int 0, g19, g20, g21, g22, g23, g24, g25, g26, g27, g28, g29])), (a0, .inr (7, [.ref a3, g4, g5, g6, g7, g8, g9, g10, .int 1, g12]))] H := hP
  have hD : va_D A [(a3, .inr (4, [g13, g14, g15, g16, g17, g18, .int 0, g19, g20, g21, g22, g23, g24, g25, g26, g27, g28, g29])), (a0, .inr (7, [.ref a3, g4, g5, g6, g7, g8, g9, g10, .int 1, g12]))] := hD
  have hK : va_K (dC, dI) vwCl [] s := hK
  obtain rfl : z2 = 1 := hw
  refine lv_if_eq (tgt := 16) hx hb dX10_surestOdds_9 (by decide) (fun c3 => absurd c3 (by decide)) (fun _ => ?_)
  refine lv_ldc2 hx hb hown (hts (.constantLong RX10 187 (-1)) (List.mem_of_getElem? (i := 24) rfl)) dX10_surestOdds_12 ?_
  have hP9 := hP.sub (ws' := []) [] rfl
  have hD9 := hD.sub (ws' := []) [] (by decide) rfl
  have hK9 := hK.sub (tys' := []) [] rfl
  exact W.lret (v := (-1)) hx hb hr (fun t ht hW => ⟨⟨(-1), (), rfl, rfl, by rw [ht]; exact hP9, va_K.moved hW.alike hK9, hD9⟩, hS.F ht⟩) hS.2.2 dX10_surestOdds_15
theorem dX12_surestOdds_0 : decode cX12_surestOdds 0 = .ok (.aload_n 0, 1) := by decide +kernel
theorem dX12_surestOdds_1 : decode cX12_surestOdds 1 = .ok (.iconst 0, 1) := by decide +kernel
theorem dX12_surestOdds_10 : decode cX12_surestOdds 10 = .ok (.istore_n 3, 1) := by decide +kernel
theorem dX12_surestOdds_11 : decode cX12_surestOdds 11 = .ok (.iload_n 3, 1) := by decide +kernel
theorem dX12_surestOdds_12 : decode cX12_surestOdds 12 = .ok (.ifCond .le 10, 3) := by decide +kernel
theorem dX12_surestOdds_15 : decode cX12_surestOdds 15 = .ok (.aload_n 0, 1) := by decide +kernel
theorem dX12_surestOdds_16 : decode cX12_surestOdds 16 = .ok (.iload_n 3, 1) := by decide +kernel
theorem dX12_surestOdds_17 : decode cX12_surestOdds 17 = .ok (.invokevirtual 42, 3) := by decide +kernel
theorem dX12_surestOdds_2 : decode cX12_surestOdds 2 = .ok (.putfield 36, 3) := by decide +kernel
theorem dX12_surestOdds_20 : decode cX12_surestOdds 20 = .ok (.i2l, 1) := by decide +kernel
theorem dX12_surestOdds_21 : decode cX12_surestOdds 21 = .ok (.lreturn, 1) := by decide +kernel
theorem dX12_surestOdds_5 : decode cX12_surestOdds 5 = .ok (.aload_n 0, 1) := by decide +kernel
theorem dX12_surestOdds_6 : decode cX12_surestOdds 6 = .ok (.iload_n 1, 1) := by decide +kernel
theorem dX12_surestOdds_7 : decode cX12_surestOdds 7 = .ok (.invokevirtual 377, 3) := by decide +kernel
def vX12_surestOdds : List Cond := .code yX12_surestOdds cX12_surestOdds 5 (some .long) :: ([.fieldLink RX12 36 "HookPierModel" "thrown" "I", .methodLink RX12 377 yX12_refusesSure, .instanceMethod yX12_refusesSure, .selects RX12 yX12_refusesSure yX12_refusesSure, .initialized RX12, .code yX12_refusesSure cX12_refusesSure 2 (some .int), .methodLink RX12 320 yX12_isAnswer, .instanceMethod yX12_isAnswer, .selects RX12 yX12_isAnswer yX12_isAnswer, .code yX12_isAnswer cX12_isAnswer 2 (some .boolean), .fieldLink RX12 299 "HookPierModel" "pier" "LHookPierModel$Pier;", .methodLink RX12 42 yX12_refused, .instanceMethod yX12_refused, .selects RX12 yX12_refused yX12_refused, .code yX12_refused cX12_refused 2 (some .int), .fieldLink RX12 39 "HookPierModel" "trouble" "I", .fieldLink RX12 9 "HookPierModel" "where" "I"] ++ wsX120)
theorem iX12_surestOdds_X12 : ∀ w ∈ wsX120, w ∈ vX12_surestOdds := fun _ h => List.mem_cons_of_mem _ (List.mem_append_right _ h)
set_option maxRecDepth 20000 in
theorem gX12_surestOdds_0 : GoodIn vX12_surestOdds (wsV RX12 377 RX12 yX12_refusesSure vX12_refusesSure) := goodIn_app (goodIn_r [.methodLink RX12 377 yX12_refusesSure, .instanceMethod yX12_refusesSure, .selects RX12 yX12_refusesSure yX12_refusesSure, .initialized RX12] [2, 3, 4, 5] (by decide +kernel) (by decide +kernel)) (goodIn_ca (goodIn_r (.code yX12_refusesSure cX12_refusesSure 2 (some .int) :: [.methodLink RX12 320 yX12_isAnswer, .instanceMethod yX12_isAnswer, .selects RX12 yX12_isAnswer yX12_isAnswer, .initialized RX12, .code yX12_isAnswer cX12_isAnswer 2 (some .boolean), .fieldLink RX12 299 "HookPierModel" "pier" "LHookPierModel$Pier;"]) [6, 7, 8, 9, 5, 10, 11] (by decide +kernel) (by decide +kernel) : GoodIn vX12_surestOdds (.code yX12_refusesSure cX12_refusesSure 2 (some .int) :: [.methodLink RX12 320 yX12_isAnswer, .instanceMethod yX12_isAnswer, .selects RX12 yX12_isAnswer yX12_isAnswer, .initialized RX12, .code yX12_isAnswer cX12_isAnswer 2 (some .boolean), .fieldLink RX12 299 "HookPierModel" "pier" "LHookPierModel$Pier;"])) (goodIn_sub iX12_surestOdds_X12 (by decide +kernel)))
set_option maxRecDepth 20000 in
theorem gX12_surestOdds_1 : GoodIn vX12_surestOdds (wsV RX12 42 RX12 yX12_refused vX12_refused_1) := goodIn_app (goodIn_r [.methodLink RX12 42 yX12_refused, .instanceMethod yX12_refused, .selects RX12 yX12_refused yX12_refused, .initialized RX12] [12, 13, 14, 5] (by decide +kernel) (by decide +kernel)) (goodIn_ca (goodIn_r (.code yX12_refused cX12_refused 2 (some .int) :: [.fieldLink RX12 39 "HookPierModel" "trouble" "I", .fieldLink RX12 9 "HookPierModel" "where" "I"]) [15, 16, 17] (by decide +kernel) (by decide +kernel) : GoodIn vX12_surestOdds (.code yX12_refused cX12_refused 2 (some .int) :: [.fieldLink RX12 39 "HookPierModel" "trouble" "I", .fieldLink RX12 9 "HookPierModel" "where" "I"])) (goodIn_sub iX12_surestOdds_X12 (by decide +kernel)))
set_option maxHeartbeats 1000000 in
set_option maxRecDepth 100000 in
theorem kX12_surestOdds (l : Launch) (dC : Nat → ClassId) (dI : Nat → Nat → Nat) (a0 : Nat) (k1 : Int32) (k2 : Int32) (g3 : Value) (g4 : Value) (g5 : Value) (g6 : Value) (g7 : Value) (g8 : Value) (g9 : Value) (g10 : Value) (g11 : Value) (g12 : Value) (g13 : Value) (g14 : Value) (g15 : Value) (g16 : Value) (g17 : Value) (g18 : Value) (g19 : Value) (g20 : Value) (g21 : Value) (g22 : Value) (g23 : Value) (g24 : Value) (g25 : Value) (g26 : Value) (g27 : Value) (g28 : Value) (g29 : Value) (g30 : Value) (g31 : Value) (sz : Nat) : Met l yX12_surestOdds vX12_surestOdds ({ frames := 2, cells := 0, slots := 0, locals := 42 }) (PC (dC, dI) [.ref a0, .int k1, .int k2] sz [(a0, .inr (9, [g3, g4, g5, .null, g6, g7, g8, g9, g10, g11, g12, g13, g14, g15, g16, g17, g18, g19, g20, g21, g22, g23, g24, g25, g26, g27, g28, g29, g30, g31]))] []) (va_Ql (S := Unit) (fun (r : Int64) _ => r = (-1)) (fun _ t => BC (dC, dI) (va_A [(a0, .inr (9, [g3, g4, g5, .null, g6, g7, g8, g9, g10, g11, g12, g13, g14, g15, g16, g17, g18, g19, g20, g21, g22, g23, g24, g25, g26, g27, g28, g29, g30, g31]))] sz) [] [] t) (va_A [(a0, .inr (9, [g3, g4, g5, .null, g6, g7, g8, g9, g10, g11, g12, g13, g14, g15, g16, g17, g18, g19, g20, g21, g22, g23, g24, g25, g26, g27, g28, g29, g30, g31]))] sz)) 0 0 (va_A [(a0, .inr (9, [g3, g4, g5, .null, g6, g7, g8, g9, g10, g11, g12, g13, g14, g15, g16, g17, g18, g19, g20, g21, g22, g23, g24, g25, g26, g27, g28, g29, g30, g31]))] sz) := by
  refine Met.ofW (cc := cX12_surestOdds) (maxL := 5) (ret := (some .long)) (by decide) rfl ?_
  intro p e s m args below meth c s₁ B hml hv
  obtain ⟨rfl, hsz, hP, hK, hD0, hN⟩ := hv
  have hx := B.exec
  have hb := B.bytes
  have hr := B.returns
  have hts := atoms_spec (ws := vX12_surestOdds) B.pre
  have hown : s.vm.findClass RX12 = some m.cls := findClass_of_methodNamed B.named
  have hlocks := B.notSynchronized
  subst hsz
  have hD := hD0.self (sz := s.heap.size)
  generalize hAe : va_A [(a0, .inr (9, [g3, g4, g5, .null, g6, g7, g8, g9, g10, g11, g12, g13, g14, g15, g16, g17, g18, g19, g20, g21, g22, g23, g24, g25, g26, g27, g28, g29, g30, g31]))] s.heap.size = A at hD ⊢
  have hA : ∀ q : Nat, s.heap.size ≤ q → A q := fun q h => by rw [← hAe]; exact Or.inr h
  have hS : va_S A s.heap s.heap [] := va_S.rf
  have hP : va_P (dC, dI) vwCl [(a0, .inr (9, [g3, g4, g5, .null, g6, g7, g8, g9, g10, g11, g12, g13, g14, g15, g16, g17, g18, g19, g20, g21, g22, g23, g24, g25, g26, g27, g28, g29, g30, g31]))] s.heap := hP
  have hl := lv_entry ([.ref a0, .int k1, .int k2]) (n := 5) (Nat.le_of_ble_eq_true rfl)
  rw [lg_entry_eq]
  generalize (lg_sl ([.ref a0, .int k1, .int k2]) ++ List.replicate (5 - (lg_sl ([.ref a0, .int k1, .int k2])).length) Slot.unset).toArray = ls at hl ⊢
  have hl : lv_has ls 5 [(0, .ref a0), (1, .int k1), (2, .int k2)] := hl
  refine lv_aload_n hx hb dX12_surestOdds_0 rfl (lv_at hl 0 rfl) ?_
  refine lv_iconst (v := 0) hx hb dX12_surestOdds_1 (by decide) ?_
  refine va_put (D := (dC, dI)) (ci := 9) (v := .int 0) (ty := .int) (C := RX12) (T := TX12) (N := 30) hx hb hts iX12_surestOdds_X12 tyX12 tyX12_ok nmX12 hown hK hP hD hS 0 rfl rfl 0 (by decide) (hts (.fieldLink RX12 36 "HookPierModel" "thrown" "I") (List.mem_of_getElem? (i := 1) rfl)) (fun _ h9 => h9) rfl (by decide +kernel) rfl rfl (Nat.le_of_ble_eq_true rfl) dX12_surestOdds_2 (fun H locs hP hD hS => ?_)
  have hP : va_P (dC, dI) vwCl [(a0, .inr (9, [.int 0, g4, g5, .null, g6, g7, g8, g9, g10, g11, g12, g13, g14, g15, g16, g17, g18, g19, g20, g21, g22, g23, g24, g25, g26, g27, g28, g29, g30, g31]))] H := hP
  have hD : va_D A [(a0, .inr (9, [.int 0, g4, g5, .null, g6, g7, g8, g9, g10, g11, g12, g13, g14, g15, g16, g17, g18, g19, g20, g21, g22, g23, g24, g25, g26, g27, g28, g29, g30, g31]))] := hD
  refine lv_aload_n hx hb dX12_surestOdds_5 rfl (lv_at hl 0 rfl) ?_
  refine lv_iload_n hx hb dX12_surestOdds_6 rfl (lv_at hl 1 rfl) ?_
  refine cl_i (wc := [(a0, .inr (9, [.int 0, g4, g5, .null, g6, g7, g8, g9, g10, g11, g12, g13, g14, g15, g16, g17, g18, g19, g20, g21, g22, g23, g24, g25, g26, g27, g28, g29, g30, g31]))]) (wr := []) (va_runV (As := [.int k1]) (rest := []) ⟨hx, hb, hml, hown, hts⟩ (kX12_refusesSure l dC dI a0 k1 (.int 0) (g4) (g5) (g6) (g7) (g8) (g9) (g10) (g11) (g12) (g13) (g14) (g15) (g16) (g17) (g18) (g19) (g20) (g21) (g22) (g23) (g24) (g25) (g26) (g27) (g28) (g29) (g30) (g31) H.size) (cwV 1 hts gX12_surestOdds_0 rfl rfl rfl (by decide +kernel) ⟨Nat.le_of_ble_eq_true rfl, Nat.le_of_ble_eq_true rfl⟩) (PV (hP.sub (ws' := [(a0, .inr (9, [.int 0, g4, g5, .null, g6, g7, g8, g9, g10, g11, g12, g13, g14, g15, g16, g17, g18, g19, g20, g21, g22, g23, g24, g25, g26, g27, g28, g29, g30, g31]))]) [0] rfl) (hK.sub (tys' := []) [] rfl) (hD.sub (ws' := [(a0, .inr (9, [.int 0, g4, g5, .null, g6, g7, g8, g9, g10, g11, g12, g13, g14, g15, g16, g17, g18, g19, g20, g21, g22, g23, g24, g25, g26, g27, g28, g29, g30, g31]))]) [0] (by decide) rfl) hN 0 rfl rfl) rfl rfl hl.1 rfl (lv_room (Nat.le_of_ble_eq_true rfl)) dX12_surestOdds_7 ⟨Nat.le_of_ble_eq_true rfl, Nat.le_of_ble_eq_true rfl⟩) hP hD hK hS hA [0] [] rfl rfl (by decide) (by decide) (fun z1 _u H locs hw hP hD hK hS => ?_)
  have hP : va_P (dC, dI) vwCl [(a0, .inr (9, [.int 0, g4, g5, .null, g6, g7, g8, g9, g10, g11, g12, g13, g14, g15, g16, g17, g18, g19, g20, g21, g22, g23, g24, g25, g26, g27, g28, g29, g30, g31]))] H := hP
  have hD : va_D A [(a0, .inr (9, [.int 0, g4, g5, .null, g6, g7, g8, g9, g10, g11, g12, g13, g14, g15, g16, g17, g18, g19, g20, g21, g22, g23, g24, g25, g26, g27, g28, g29, g30, g31]))] := hD
  have hK : va_K (dC, dI) vwCl [] s := hK
  obtain rfl : z1 = 1 := hw
  refine lv_istore_n (lv' := [(3, .int 1), (0, .ref a0), (1, .int k1), (2, .int k2)]) hx hb dX12_surestOdds_10 rfl hl (by decide) rfl (fun ls hl => ?_)
  refine lv_iload_n hx hb dX12_surestOdds_11 rfl (lv_at hl 0 rfl) ?_
  refine lv_if_le (tgt := 22) hx hb dX12_surestOdds_12 (by decide) (fun c2 => absurd c2 (by decide)) (fun _ => ?_)
  refine lv_aload_n hx hb dX12_surestOdds_15 rfl (lv_at hl 1 rfl) ?_
  refine lv_iload_n hx hb dX12_surestOdds_16 rfl (lv_at hl 0 rfl) ?_
  refine cl_i (wc := [(a0, .inr (9, [.int 0, g4, g5, .null, g6, g7, g8, g9, g10, g11, g12, g13, g14, g15, g16, g17, g18, g19, g20, g21, g22, g23, g24, g25, g26, g27, g28, g29, g30, g31]))]) (wr := []) (va_runV (As := [.int 1]) (rest := []) ⟨hx, hb, hml, hown, hts⟩ (kX12_refused_1 l dC dI a0 (.int 0) (g4) (g5) (.null) (g6) (g7) (g8) (g9) (g10) (g11) (g12) (g13) (g14) (g15) (g16) (g17) (g18) (g19) (g20) (g21) (g22) (g23) (g24) (g25) (g26) (g27) (g28) (g29) (g30) (g31) H.size) (cwV 1 hts gX12_surestOdds_1 rfl rfl rfl (by decide +kernel) ⟨Nat.le_of_ble_eq_true rfl, Nat.le_of_ble_eq_true rfl⟩) (PV (hP.sub (ws' := [(a0, .inr (9, [.int 0, g4, g5, .null, g6, g7, g8, g9, g10, g11, g12, g13, g14, g15, g16, g17, g18, g19, g20, g21, g22, g23, g24, g25, g26, g27, g28, g29, g30, g31]))]) [0] rfl) (hK.sub (tys' := []) [] rfl) (hD.sub (ws' := [(a0, .inr (9, [.int 0, g4, g5, .null, g6, g7, g8, g9, g10, g11, g12, g13, g14, g15, g16, g17, g18, g19, g20, g21, g22, g23, g24, g25, g26, g27, g28, g29, g30, g31]))]) [0] (by decide) rfl) hN 0 rfl rfl) rfl rfl hl.1 rfl (lv_room (Nat.le_of_ble_eq_true rfl)) dX12_surestOdds_17 ⟨Nat.le_of_ble_eq_true rfl, Nat.le_of_ble_eq_true rfl⟩) hP hD hK hS hA [0] [] rfl rfl (by decide) (by decide) (fun z3 _u H locs hw hP hD hK hS => ?_)
  have hP : va_P (dC, dI) vwCl [(a0, .inr (9, [.int 0, .int 1, .int (-1), .null, g6, g7, g8, g9, g10, g11, g12, g13, g14, g15, g16, g17, g18, g19, g20, g21, g22, g23, g24, g25, g26, g27, g28, g29, g30, g31]))] H := hP
  have hD : va_D A [(a0, .inr (9, [.int 0, .int 1, .int (-1), .null, g6, g7, g8, g9, g10, g11, g12, g13, g14, g15, g16, g17, g18, g19, g20, g21, g22, g23, g24, g25, g26, g27, g28, g29, g30, g31]))] := hD
  have hK : va_K (dC, dI) vwCl [] s := hK
  obtain rfl : z3 = (-1) := hw
  refine lv_i2l (v := (-1)) hx hb dX12_surestOdds_20 (by decide) ?_
  have hP9 := hP.sub (ws' := []) [] rfl
  have hD9 := hD.sub (ws' := []) [] (by decide) rfl
  have hK9 := hK.sub (tys' := []) [] rfl
  exact W.lret (v := (-1)) hx hb hr (fun t ht hW => ⟨⟨(-1), (), rfl, rfl, by rw [ht]; exact hP9, va_K.moved hW.alike hK9, hD9⟩, hS.F ht⟩) hS.2.2 dX12_surestOdds_21
theorem dX10_best_0 : decode cX10_best 0 = .ok (.aload_n 0, 1) := by decide +kernel
theorem dX10_best_1 : decode cX10_best 1 = .ok (.aload_n 0, 1) := by decide +kernel
theorem dX10_best_11 : decode cX10_best 11 = .ok (.iconst (-1), 1) := by decide +kernel
theorem dX10_best_12 : decode cX10_best 12 = .ok (.ireturn, 1) := by decide +kernel
theorem dX10_best_2 : decode cX10_best 2 = .ok (.invokevirtual 216, 3) := by decide +kernel
theorem dX10_best_5 : decode cX10_best 5 = .ok (.invokevirtual 79, 3) := by decide +kernel
theorem dX10_best_8 : decode cX10_best 8 = .ok (.ifCond .eq 5, 3) := by decide +kernel
def vX10_best : List Cond := .code yX10_best cX10_best 1 (some .int) :: ([.methodLink RX10 216 yX10_pierTrouble, .instanceMethod yX10_pierTrouble, .selects RX10 yX10_pierTrouble yX10_pierTrouble, .initialized RX10, .code yX10_pierTrouble cX10_pierTrouble 1 (some .int), .fieldLink RX10 10 "HookPier" "plan" "LHookPier$Plan;", .fieldLink RX10 233 "HookPier$Plan" "spots" "I", .methodLink RX10 79 yX10_refused, .instanceMethod yX10_refused, .selects RX10 yX10_refused yX10_refused, .code yX10_refused cX10_refused 2 (some .boolean), .fieldLink RX10 61 "HookPier" "troubleNow" "I"] ++ wsX100 ++ wsX60)
theorem iX10_best_X10 : ∀ w ∈ wsX100, w ∈ vX10_best := fun _ h => List.mem_cons_of_mem _ (List.mem_append_left _ (List.mem_append_right _ h))
theorem iX10_best_X6 : ∀ w ∈ wsX60, w ∈ vX10_best := fun _ h => List.mem_cons_of_mem _ (List.mem_append_right _ h)
set_option maxRecDepth 20000 in
theorem gX10_best_0 : GoodIn vX10_best (wsV RX10 216 RX10 yX10_pierTrouble vX10_pierTrouble) := goodIn_app (goodIn_r [.methodLink RX10 216 yX10_pierTrouble, .instanceMethod yX10_pierTrouble, .selects RX10 yX10_pierTrouble yX10_pierTrouble, .initialized RX10] [1, 2, 3, 4] (by decide +kernel) (by decide +kernel)) (goodIn_ca (goodIn_ca (goodIn_r (.code yX10_pierTrouble cX10_pierTrouble 1 (some .int) :: [.fieldLink RX10 10 "HookPier" "plan" "LHookPier$Plan;", .fieldLink RX10 233 "HookPier$Plan" "spots" "I"]) [5, 6, 7] (by decide +kernel) (by decide +kernel) : GoodIn vX10_best (.code yX10_pierTrouble cX10_pierTrouble 1 (some .int) :: [.fieldLink RX10 10 "HookPier" "plan" "LHookPier$Plan;", .fieldLink RX10 233 "HookPier$Plan" "spots" "I"])) (goodIn_sub iX10_best_X10 (by decide +kernel))) (goodIn_sub iX10_best_X6 (by decide +kernel)))
set_option maxRecDepth 20000 in
theorem gX10_best_1 : GoodIn vX10_best (wsV RX10 79 RX10 yX10_refused vX10_refused_3) := goodIn_app (goodIn_r [.methodLink RX10 79 yX10_refused, .instanceMethod yX10_refused, .selects RX10 yX10_refused yX10_refused, .initialized RX10] [8, 9, 10, 4] (by decide +kernel) (by decide +kernel)) (goodIn_ca (goodIn_r (.code yX10_refused cX10_refused 2 (some .boolean) :: [.fieldLink RX10 61 "HookPier" "troubleNow" "I"]) [11, 12] (by decide +kernel) (by decide +kernel) : GoodIn vX10_best (.code yX10_refused cX10_refused 2 (some .boolean) :: [.fieldLink RX10 61 "HookPier" "troubleNow" "I"])) (goodIn_sub iX10_best_X10 (by decide +kernel)))
set_option maxHeartbeats 1000000 in
set_option maxRecDepth 100000 in
theorem kX10_best (l : Launch) (dC : Nat → ClassId) (dI : Nat → Nat → Nat) (a0 : Nat) (a1 : Nat) (g2 : Value) (g3 : Value) (g4 : Value) (g5 : Value) (g6 : Value) (g7 : Value) (g8 : Value) (g9 : Value) (g10 : Value) (g11 : Value) (g12 : Value) (g13 : Value) (g14 : Value) (g15 : Value) (g16 : Value) (g17 : Value) (g18 : Value) (g19 : Value) (g20 : Value) (g21 : Value) (g22 : Value) (g23 : Value) (g24 : Value) (g25 : Value) (g26 : Value) (g27 : Value) (sz : Nat) : Met l yX10_best vX10_best ({ frames := 1, cells := 0, slots := 0, locals := 21 }) (PC (dC, dI) [.ref a0] sz [(a0, .inr (7, [.ref a1, g2, g3, g4, g5, g6, g7, g8, g9, g10])), (a1, .inr (4, [.int 0, g11, g12, g13, g14, g15, g16, g17, g18, g19, g20, g21, g22, g23, g24, g25, g26, g27]))] []) (va_Qi (S := Unit) (fun (r : Int32) _ => r = (-1)) (fun _ t => BC (dC, dI) (va_A [(a0, .inr (7, [.ref a1, g2, g3, g4, g5, g6, g7, g8, g9, g10])), (a1, .inr (4, [.int 0, g11, g12, g13, g14, g15, g16, g17, g18, g19, g20, g21, g22, g23, g24, g25, g26, g27]))] sz) [] [] t) (va_A [(a0, .inr (7, [.ref a1, g2, g3, g4, g5, g6, g7, g8, g9, g10])), (a1, .inr (4, [.int 0, g11, g12, g13, g14, g15, g16, g17, g18, g19, g20, g21, g22, g23, g24, g25, g26, g27]))] sz)) 0 0 (va_A [(a0, .inr (7, [.ref a1, g2, g3, g4, g5, g6, g7, g8, g9, g10])), (a1, .inr (4, [.int 0, g11, g12, g13, g14, g15, g16, g17, g18, g19, g20, g21, g22, g23, g24, g25, g26, g27]))] sz) := by
  refine Met.ofW (cc := cX10_best) (maxL := 1) (ret := (some .int)) (by decide) rfl ?_
  intro p e s m args below meth c s₁ B hml hv
  obtain ⟨rfl, hsz, hP, hK, hD0, hN⟩ := hv
  have hx := B.exec
  have hb := B.bytes
  have hr := B.returns
  have hts := atoms_spec (ws := vX10_best) B.pre
  have hown : s.vm.findClass RX10 = some m.cls := findClass_of_methodNamed B.named
  have hlocks := B.notSynchronized
  subst hsz
  have hD := hD0.self (sz := s.heap.size)
  generalize hAe : va_A [(a0, .inr (7, [.ref a1, g2, g3, g4, g5, g6, g7, g8, g9, g10])), (a1, .inr (4, [.int 0, g11, g12, g13, g14, g15, g16, g17, g18, g19, g20, g21, g22, g23, g24, g25, g26, g27]))] s.heap.size = A at hD ⊢
  have hA : ∀ q : Nat, s.heap.size ≤ q → A q := fun q h => by rw [← hAe]; exact Or.inr h
  have hS : va_S A s.heap s.heap [] := va_S.rf
  have hP : va_P (dC, dI) vwCl [(a0, .inr (7, [.ref a1, g2, g3, g4, g5, g6, g7, g8, g9, g10])), (a1, .inr (4, [.int 0, g11, g12, g13, g14, g15, g16, g17, g18, g19, g20, g21, g22, g23, g24, g25, g26, g27]))] s.heap := hP
  have hl := lv_entry ([.ref a0]) (n := 1) (Nat.le_of_ble_eq_true rfl)
  rw [lg_entry_eq]
  generalize (lg_sl ([.ref a0]) ++ List.replicate (1 - (lg_sl ([.ref a0])).length) Slot.unset).toArray = ls at hl ⊢
  have hl : lv_has ls 1 [(0, .ref a0)] := hl
  refine lv_aload_n hx hb dX10_best_0 rfl (lv_at hl 0 rfl) ?_
  refine lv_aload_n hx hb dX10_best_1 rfl (lv_at hl 0 rfl) ?_
  refine cl_i (wc := [(a0, .inr (7, [.ref a1, g2, g3, g4, g5, g6, g7, g8, g9, g10])), (a1, .inr (4, [.int 0, g11, g12, g13, g14, g15, g16, g17, g18, g19, g20, g21, g22, g23, g24, g25, g26, g27]))]) (wr := []) (va_runV (As := []) (rest := [.ref a0]) ⟨hx, hb, hml, hown, hts⟩ (kX10_pierTrouble l dC dI a0 a1 (g2) (g3) (g4) (g5) (g6) (g7) (g8) (g9) (g10) (g11) (g12) (g13) (g14) (g15) (g16) (g17) (g18) (g19) (g20) (g21) (g22) (g23) (g24) (g25) (g26) (g27) s.heap.size) (cwV 0 hts gX10_best_0 rfl rfl rfl (by decide +kernel) ⟨Nat.le_of_ble_eq_true rfl, Nat.le_of_ble_eq_true rfl⟩) (PV (hP.sub (ws' := [(a0, .inr (7, [.ref a1, g2, g3, g4, g5, g6, g7, g8, g9, g10])), (a1, .inr (4, [.int 0, g11, g12, g13, g14, g15, g16, g17, g18, g19, g20, g21, g22, g23, g24, g25, g26, g27]))]) [0, 1] rfl) (hK.sub (tys' := []) [] rfl) (hD.sub (ws' := [(a0, .inr (7, [.ref a1, g2, g3, g4, g5, g6, g7, g8, g9, g10])), (a1, .inr (4, [.int 0, g11, g12, g13, g14, g15, g16, g17, g18, g19, g20, g21, g22, g23, g24, g25, g26, g27]))]) [0, 1] (by decide) rfl) hN 0 rfl rfl) rfl rfl hl.1 rfl (lv_room (Nat.le_of_ble_eq_true rfl)) dX10_best_2 ⟨Nat.le_of_ble_eq_true rfl, Nat.le_of_ble_eq_true rfl⟩) hP hD hK hS hA [0, 1] [] rfl rfl (by decide) (by decide) (fun z1 _u H locs hw hP hD hK hS => ?_)
  have hP : va_P (dC, dI) vwCl [(a0, .inr (7, [.ref a1, g2, g3, g4, g5, g6, g7, g8, g9, g10])), (a1, .inr (4, [.int 0, g11, g12, g13, g14, g15, g16, g17, g18, g19, g20, g21, g22, g23, g24, g25, g26, g27]))] H := hP
  have hD : va_D A [(a0, .inr (7, [.ref a1, g2, g3, g4, g5, g6, g7, g8, g9, g10])), (a1, .inr (4, [.int 0, g11, g12, g13, g14, g15, g16, g17, g18, g19, g20, g21, g22, g23, g24, g25, g26, g27]))] := hD
  have hK : va_K (dC, dI) vwCl [] s := hK
  obtain rfl : z1 = 1 := hw
  refine cl_i (wc := [(a0, .inr (7, [.ref a1, g2, g3, g4, g5, g6, g7, g8, g9, g10]))]) (wr := [(a1, .inr (4, [.int 0, g11, g12, g13, g14, g15, g16, g17, g18, g19, g20, g21, g22, g23, g24, g25, g26, g27]))]) (va_runV (As := [.int 1]) (rest := []) ⟨hx, hb, hml, hown, hts⟩ (kX10_refused_3 l dC dI a0 (.ref a1) (g2) (g3) (g4) (g5) (g6) (g7) (g8) (g9) (g10) H.size) (cwV 1 hts gX10_best_1 rfl rfl rfl (by decide +kernel) ⟨Nat.le_of_ble_eq_true rfl, Nat.le_of_ble_eq_true rfl⟩) (PV (hP.sub (ws' := [(a0, .inr (7, [.ref a1, g2, g3, g4, g5, g6, g7, g8, g9, g10]))]) [0] rfl) (hK.sub (tys' := []) [] rfl) (hD.sub (ws' := [(a0, .inr (7, [.ref a1, g2, g3, g4, g5, g6, g7, g8, g9, g10]))]) [0] (by decide) rfl) hN 0 rfl rfl) rfl rfl hl.1 rfl (lv_room (Nat.le_of_ble_eq_true rfl)) dX10_best_5 ⟨Nat.le_of_ble_eq_true rfl, Nat.le_of_ble_eq_true rfl⟩) hP hD hK hS hA [0] [1] rfl rfl (by decide) (by decide) (fun z2 _u H locs hw hP hD hK hS => ?_)
  have hP : va_P (dC, dI) vwCl [(a1, .inr (4, [.int 0, g11, g12, g13, g14, g15, g16, g17, g18, g19, g20, g21, g22, g23, g24, g25, g26, g27])), (a0, .inr (7, [.ref a1, g2, g3, g4, g5, g6, g7, g8, .int 1, g10]))] H := hP
  have hD : va_D A [(a1, .inr (4, [.int 0, g11, g12, g13, g14, g15, g16, g17, g18, g19, g20, g21, g22, g23, g24, g25, g26, g27])), (a0, .inr (7, [.ref a1, g2, g3, g4, g5, g6, g7, g8, .int 1, g10]))] := hD
  have hK : va_K (dC, dI) vwCl [] s := hK
  obtain rfl : z2 = 1 := hw
  refine lv_if_eq (tgt := 13) hx hb dX10_best_8 (by decide) (fun c3 => absurd c3 (by decide)) (fun _ => ?_)
  refine lv_iconst (v := (-1)) hx hb dX10_best_11 (by decide) ?_
  have hP9 := hP.sub (ws' := []) [] rfl
  have hD9 := hD.sub (ws' := []) [] (by decide) rfl
  have hK9 := hK.sub (tys' := []) [] rfl
  exact W.iret (v := (-1)) hx hb hr (fun t ht hW => ⟨⟨(-1), (), rfl, rfl, by rw [ht]; exact hP9, va_K.moved hW.alike hK9, hD9⟩, hS.F ht⟩) hS.2.2 dX10_best_12
theorem dX12_best_0 : decode cX12_best 0 = .ok (.aload_n 0, 1) := by decide +kernel
theorem dX12_best_1 : decode cX12_best 1 = .ok (.iconst 0, 1) := by decide +kernel
theorem dX12_best_12 : decode cX12_best 12 = .ok (.aload_n 0, 1) := by decide +kernel
theorem dX12_best_13 : decode cX12_best 13 = .ok (.iconst 1, 1) := by decide +kernel
theorem dX12_best_14 : decode cX12_best 14 = .ok (.invokevirtual 42, 3) := by decide +kernel
theorem dX12_best_17 : decode cX12_best 17 = .ok (.ireturn, 1) := by decide +kernel
theorem dX12_best_2 : decode cX12_best 2 = .ok (.putfield 36, 3) := by decide +kernel
theorem dX12_best_5 : decode cX12_best 5 = .ok (.aload_n 0, 1) := by decide +kernel
theorem dX12_best_6 : decode cX12_best 6 = .ok (.getfield 299, 3) := by decide +kernel
theorem dX12_best_9 : decode cX12_best 9 = .ok (.ifnonnull 9, 3) := by decide +kernel
def vX12_best : List Cond := .code yX12_best cX12_best 5 (some .int) :: ([.fieldLink RX12 36 "HookPierModel" "thrown" "I", .fieldLink RX12 299 "HookPierModel" "pier" "LHookPierModel$Pier;", .methodLink RX12 42 yX12_refused, .instanceMethod yX12_refused, .selects RX12 yX12_refused yX12_refused, .initialized RX12, .code yX12_refused cX12_refused 2 (some .int), .fieldLink RX12 39 "HookPierModel" "trouble" "I", .fieldLink RX12 9 "HookPierModel" "where" "I"] ++ wsX120)
theorem iX12_best_X12 : ∀ w ∈ wsX120, w ∈ vX12_best := fun _ h => List.mem_cons_of_mem _ (List.mem_append_right _ h)
set_option maxRecDepth 20000 in
theorem gX12_best_0 : GoodIn vX12_best (wsV RX12 42 RX12 yX12_refused vX12_refused_1) := goodIn_app (goodIn_r [.methodLink RX12 42 yX12_refused, .instanceMethod yX12_refused, .selects RX12 yX12_refused yX12_refused, .initialized RX12] [3, 4, 5, 6] (by decide +kernel) (by decide +kernel)) (goodIn_ca (goodIn_r (.code yX12_refused cX12_refused 2 (some .int) :: [.fieldLink RX12 39 "HookPierModel" "trouble" "I", .fieldLink RX12 9 "HookPierModel" "where" "I"]) [7, 8, 9] (by decide +kernel) (by decide +kernel) : GoodIn vX12_best (.code yX12_refused cX12_refused 2 (some .int) :: [.fieldLink RX12 39 "HookPierModel" "trouble" "I", .fieldLink RX12 9 "HookPierModel" "where" "I"])) (goodIn_sub iX12_best_X12 (by decide +kernel)))
set_option maxHeartbeats 1000000 in
set_option maxRecDepth 100000 in
theorem kX12_best (l : Launch) (dC : Nat → ClassId) (dI : Nat → Nat → Nat) (a0 : Nat) (g1 : Value) (g2 : Value) (g3 : Value) (g4 : Value) (g5 : Value) (g6 : Value) (g7 : Value) (g8 : Value) (g9 : Value) (g10 : Value) (g11 : Value) (g12 : Value) (g13 : Value) (g14 : Value) (g15 : Value) (g16 : Value) (g17 : Value) (g18 : Value) (g19 : Value) (g20 : Value) (g21 : Value) (g22 : Value) (g23 : Value) (g24 : Value) (g25 : Value) (g26 : Value) (g27 : Value) (g28 : Value) (g29 : Value) (sz : Nat) : Met l yX12_best vX12_best ({ frames := 1, cells := 0, slots := 0, locals := 21 }) (PC (dC, dI) [.ref a0] sz [(a0, .inr (9, [g1, g2, g3, .null, g4, g5, g6, g7, g8, g9, g10, g11, g12, g13, g14, g15, g16, g17, g18, g19, g20, g21, g22, g23, g24, g25, g26, g27, g28, g29]))] []) (va_Qi (S := Unit) (fun (r : Int32) _ => r = (-1)) (fun _ t => BC (dC, dI) (va_A [(a0, .inr (9, [g1, g2, g3, .null, g4, g5, g6, g7, g8, g9, g10, g11, g12, g13, g14, g15, g16, g17, g18, g19, g20, g21, g22, g23, g24, g25, g26, g27, g28, g29]))] sz) [] [] t) (va_A [(a0, .inr (9, [g1, g2, g3, .null, g4, g5, g6, g7, g8, g9, g10, g11, g12, g13, g14, g15, g16, g17, g18, g19, g20, g21, g22, g23, g24, g25, g26, g27, g28, g29]))] sz)) 0 0 (va_A [(a0, .inr (9, [g1, g2, g3, .null, g4, g5, g6, g7, g8, g9, g10, g11, g12, g13, g14, g15, g16, g17, g18, g19, g20, g21, g22, g23, g24, g25, g26, g27, g28, g29]))] sz) := by
  refine Met.ofW (cc := cX12_best) (maxL := 5) (ret := (some .int)) (by decide) rfl ?_
  intro p e s m args below meth c s₁ B hml hv
  obtain ⟨rfl, hsz, hP, hK, hD0, hN⟩ := hv
  have hx := B.exec
  have hb := B.bytes
  have hr := B.returns
  have hts := atoms_spec (ws := vX12_best) B.pre
  have hown : s.vm.findClass RX12 = some m.cls := findClass_of_methodNamed B.named
  have hlocks := B.notSynchronized
  subst hsz
  have hD := hD0.self (sz := s.heap.size)
  generalize hAe : va_A [(a0, .inr (9, [g1, g2, g3, .null, g4, g5, g6, g7, g8, g9, g10, g11, g12, g13, g14, g15, g16, g17, g18, g19, g20, g21, g22, g23, g24, g25, g26, g27, g28, g29]))] s.heap.size = A at hD ⊢
  have hA : ∀ q : Nat, s.heap.size ≤ q → A q := fun q h => by rw [← hAe]; exact Or.inr h
  have hS : va_S A s.heap s.heap [] := va_S.rf
  have hP : va_P (dC, dI) vwCl [(a0, .inr (9, [g1, g2, g3, .null, g4, g5, g6, g7, g8, g9, g10, g11, g12, g13, g14, g15, g16, g17, g18, g19, g20, g21, g22, g23, g24, g25, g26, g27, g28, g29]))] s.heap := hP
  have hl := lv_entry ([.ref a0]) (n := 5) (Nat.le_of_ble_eq_true rfl)
  rw [lg_entry_eq]
  generalize (lg_sl ([.ref a0]) ++ List.replicate (5 - (lg_sl ([.ref a0])).length) Slot.unset).toArray = ls at hl ⊢
  have hl : lv_has ls 5 [(0, .ref a0)] := hl
  refine lv_aload_n hx hb dX12_best_0 rfl (lv_at hl 0 rfl) ?_
  refine lv_iconst (v := 0) hx hb dX12_best_1 (by decide) ?_
  refine va_put (D := (dC, dI)) (ci := 9) (v := .int 0) (ty := .int) (C := RX12) (T := TX12) (N := 30) hx hb hts iX12_best_X12 tyX12 tyX12_ok nmX12 hown hK hP hD hS 0 rfl rfl 0 (by decide) (hts (.fieldLink RX12 36 "HookPierModel" "thrown" "I") (List.mem_of_getElem? (i := 1) rfl)) (fun _ h9 => h9) rfl (by decide +kernel) rfl rfl (Nat.le_of_ble_eq_true rfl) dX12_best_2 (fun H locs hP hD hS => ?_)
  have hP : va_P (dC, dI) vwCl [(a0, .inr (9, [.int 0, g2, g3, .null, g4, g5, g6, g7, g8, g9, g10, g11, g12, g13, g14, g15, g16, g17, g18, g19, g20, g21, g22, g23, g24, g25, g26, g27, g28, g29]))] H := hP
  have hD : va_D A [(a0, .inr (9, [.int 0, g2, g3, .null, g4, g5, g6, g7, g8, g9, g10, g11, g12, g13, g14, g15, g16, g17, g18, g19, g20, g21, g22, g23, g24, g25, g26, g27, g28, g29]))] := hD
  refine lv_aload_n hx hb dX12_best_5 rfl (lv_at hl 0 rfl) ?_
  refine va_get (D := (dC, dI)) (ci := 9) (v := .null) (C := RX12) (T := TX12) (N := 30) hx hb hts iX12_best_X12 hown hK hP 0 rfl rfl 3 (by decide) (hts (.fieldLink RX12 299 "HookPierModel" "pier" "LHookPierModel$Pier;") (List.mem_of_getElem? (i := 2) rfl)) (fun _ h9 => h9) rfl dX12_best_6 ?_
  refine lv_ifnonnullN hx hb dX12_best_9 ?_
  refine lv_aload_n hx hb dX12_best_12 rfl (lv_at hl 0 rfl) ?_
  refine lv_iconst (v := 1) hx hb dX12_best_13 (by decide) ?_
  refine cl_i (wc := [(a0, .inr (9, [.int 0, g2, g3, .null, g4, g5, g6, g7, g8, g9, g10, g11, g12, g13, g14, g15, g16, g17, g18, g19, g20, g21, g22, g23, g24, g25, g26, g27, g28, g29]))]) (wr := []) (va_runV (As := [.int 1]) (rest := []) ⟨hx, hb, hml, hown, hts⟩ (kX12_refused_1 l dC dI a0 (.int 0) (g2) (g3) (.null) (g4) (g5) (g6) (g7) (g8) (g9) (g10) (g11) (g12) (g13) (g14) (g15) (g16) (g17) (g18) (g19) (g20) (g21) (g22) (g23) (g24) (g25) (g26) (g27) (g28) (g29) H.size) (cwV 1 hts gX12_best_0 rfl rfl rfl (by decide +kernel) ⟨Nat.le_of_ble_eq_true rfl, Nat.le_of_ble_eq_true rfl⟩) (PV (hP.sub (ws' := [(a0, .inr (9, [.int 0, g2, g3, .null, g4, g5, g6, g7, g8, g9, g10, g11, g12, g13, g14, g15, g16, g17, g18, g19, g20, g21, g22, g23, g24, g25, g26, g27, g28, g29]))]) [0] rfl) (hK.sub (tys' := []) [] rfl) (hD.sub (ws' := [(a0, .inr (9, [.int 0, g2, g3, .null, g4, g5, g6, g7, g8, g9, g10, g11, g12, g13, g14, g15, g16, g17, g18, g19, g20, g21, g22, g23, g24, g25, g26, g27, g28, g29]))]) [0] (by decide) rfl) hN 0 rfl rfl) rfl rfl hl.1 rfl (lv_room (Nat.le_of_ble_eq_true rfl)) dX12_best_14 ⟨Nat.le_of_ble_eq_true rfl, Nat.le_of_ble_eq_true rfl⟩) hP hD hK hS hA [0] [] rfl rfl (by decide) (by decide) (fun z1 _u H locs hw hP hD hK hS => ?_)
  have hP : va_P (dC, dI) vwCl [(a0, .inr (9, [.int 0, .int 1, .int (-1), .null, g4, g5, g6, g7, g8, g9, g10, g11, g12, g13, g14, g15, g16, g17, g18, g19, g20, g21, g22, g23, g24, g25, g26, g27, g28, g29]))] H := hP
  have hD : va_D A [(a0, .inr (9, [.int 0, .int 1, .int (-1), .null, g4, g5, g6, g7, g8, g9, g10, g11, g12, g13, g14, g15, g16, g17, g18, g19, g20, g21, g22, g23, g24, g25, g26, g27, g28, g29]))] := hD
  have hK : va_K (dC, dI) vwCl [] s := hK
  obtain rfl : z1 = (-1) := hw
  have hP9 := hP.sub (ws' := []) [] rfl
  have hD9 := hD.sub (ws' := []) [] (by decide) rfl
  have hK9 := hK.sub (tys' := []) [] rfl
  exact W.iret (v := (-1)) hx hb hr (fun t ht hW => ⟨⟨(-1), (), rfl, rfl, by rw [ht]; exact hP9, va_K.moved hW.alike hK9, hD9⟩, hS.F ht⟩) hS.2.2 dX12_best_17
theorem dX10_bestBait_0 : decode cX10_bestBait 0 = .ok (.aload_n 0, 1) := by decide +kernel
theorem dX10_bestBait_1 : decode cX10_bestBait 1 = .ok (.aload_n 0, 1) := by decide +kernel
theorem dX10_bestBait_11 : decode cX10_bestBait 11 = .ok (.iconst (-1), 1) := by decide +kernel
theorem dX10_bestBait_12 : decode cX10_bestBait 12 = .ok (.ireturn, 1) := by decide +kernel
theorem dX10_bestBait_2 : decode cX10_bestBait 2 = .ok (.invokevirtual 216, 3) := by decide +kernel
theorem dX10_bestBait_5 : decode cX10_bestBait 5 = .ok (.invokevirtual 79, 3) := by decide +kernel
theorem dX10_bestBait_8 : decode cX10_bestBait 8 = .ok (.ifCond .eq 5, 3) := by decide +kernel
def vX10_bestBait : List Cond := .code yX10_bestBait cX10_bestBait 3 (some .int) :: ([.methodLink RX10 216 yX10_pierTrouble, .instanceMethod yX10_pierTrouble, .selects RX10 yX10_pierTrouble yX10_pierTrouble, .initialized RX10, .code yX10_pierTrouble cX10_pierTrouble 1 (some .int), .fieldLink RX10 10 "HookPier" "plan" "LHookPier$Plan;", .fieldLink RX10 233 "HookPier$Plan" "spots" "I", .methodLink RX10 79 yX10_refused, .instanceMethod yX10_refused, .selects RX10 yX10_refused yX10_refused, .code yX10_refused cX10_refused 2 (some .boolean), .fieldLink RX10 61 "HookPier" "troubleNow" "I"] ++ wsX100 ++ wsX60)
theorem iX10_bestBait_X10 : ∀ w ∈ wsX100, w ∈ vX10_bestBait := fun _ h => List.mem_cons_of_mem _ (List.mem_append_left _ (List.mem_append_right _ h))
theorem iX10_bestBait_X6 : ∀ w ∈ wsX60, w ∈ vX10_bestBait := fun _ h => List.mem_cons_of_mem _ (List.mem_append_right _ h)
set_option maxRecDepth 20000 in
theorem gX10_bestBait_0 : GoodIn vX10_bestBait (wsV RX10 216 RX10 yX10_pierTrouble vX10_pierTrouble) := goodIn_app (goodIn_r [.methodLink RX10 216 yX10_pierTrouble, .instanceMethod yX10_pierTrouble, .selects RX10 yX10_pierTrouble yX10_pierTrouble, .initialized RX10] [1, 2, 3, 4] (by decide +kernel) (by decide +kernel)) (goodIn_ca (goodIn_ca (goodIn_r (.code yX10_pierTrouble cX10_pierTrouble 1 (some .int) :: [.fieldLink RX10 10 "HookPier" "plan" "LHookPier$Plan;", .fieldLink RX10 233 "HookPier$Plan" "spots" "I"]) [5, 6, 7] (by decide +kernel) (by decide +kernel) : GoodIn vX10_bestBait (.code yX10_pierTrouble cX10_pierTrouble 1 (some .int) :: [.fieldLink RX10 10 "HookPier" "plan" "LHookPier$Plan;", .fieldLink RX10 233 "HookPier$Plan" "spots" "I"])) (goodIn_sub iX10_bestBait_X10 (by decide +kernel))) (goodIn_sub iX10_bestBait_X6 (by decide +kernel)))
set_option maxRecDepth 20000 in
theorem gX10_bestBait_1 : GoodIn vX10_bestBait (wsV RX10 79 RX10 yX10_refused vX10_refused_3) := goodIn_app (goodIn_r [.methodLink RX10 79 yX10_refused, .instanceMethod yX10_refused, .selects RX10 yX10_refused yX10_refused, .initialized RX10] [8, 9, 10, 4] (by decide +kernel) (by decide +kernel)) (goodIn_ca (goodIn_r (.code yX10_refused cX10_refused 2 (some .boolean) :: [.fieldLink RX10 61 "HookPier" "troubleNow" "I"]) [11, 12] (by decide +kernel) (by decide +kernel) : GoodIn vX10_bestBait (.code yX10_refused cX10_refused 2 (some .boolean) :: [.fieldLink RX10 61 "HookPier" "troubleNow" "I"])) (goodIn_sub iX10_bestBait_X10 (by decide +kernel)))
set_option maxHeartbeats 1000000 in
set_option maxRecDepth 100000 in
theorem kX10_bestBait (l : Launch) (dC : Nat → ClassId) (dI : Nat → Nat → Nat) (a0 : Nat) (a1 : Nat) (g2 : Value) (g3 : Value) (g4 : Value) (g5 : Value) (g6 : Value) (g7 : Value) (g8 : Value) (g9 : Value) (g10 : Value) (g11 : Value) (g12 : Value) (g13 : Value) (g14 : Value) (g15 : Value) (g16 : Value) (g17 : Value) (g18 : Value) (g19 : Value) (g20 : Value) (g21 : Value) (g22 : Value) (g23 : Value) (g24 : Value) (g25 : Value) (g26 : Value) (g27 : Value) (sz : Nat) : Met l yX10_bestBait vX10_bestBait ({ frames := 1, cells := 0, slots := 0, locals := 21 }) (PC (dC, dI) [.ref a0] sz [(a0, .inr (7, [.ref a1, g2, g3, g4, g5, g6, g7, g8, g9, g10])), (a1, .inr (4, [.int 0, g11, g12, g13, g14, g15, g16, g17, g18, g19, g20, g21, g22, g23, g24, g25, g26, g27]))] []) (va_Qi (S := Unit) (fun (r : Int32) _ => r = (-1)) (fun _ t => BC (dC, dI) (va_A [(a0, .inr (7, [.ref a1, g2, g3, g4, g5, g6, g7, g8, g9, g10])), (a1, .inr (4, [.int 0, g11, g12, g13, g14, g15, g16, g17, g18, g19, g20, g21, g22, g23, g24, g25, g26, g27]))] sz) [] [] t) (va_A [(a0, .inr (7, [.ref a1, g2, g3, g4, g5, g6, g7, g8, g9, g10])), (a1, .inr (4, [.int 0, g11, g12, g13, g14, g15, g16, g17, g18, g19, g20, g21, g22, g23, g24, g25, g26, g27]))] sz)) 0 0 (va_A [(a0, .inr (7, [.ref a1, g2, g3, g4, g5, g6, g7, g8, g9, g10])), (a1, .inr (4, [.int 0, g11, g12, g13, g14, g15, g16, g17, g18, g19, g20, g21, g22, g23, g24, g25, g26, g27]))] sz) := by
  refine Met.ofW (cc := cX10_bestBait) (maxL := 3) (ret := (some .int)) (by decide) rfl ?_
  intro p e s m args below meth c s₁ B hml hv
  obtain ⟨rfl, hsz, hP, hK, hD0, hN⟩ := hv
  have hx := B.exec
  have hb := B.bytes
  have hr := B.returns
  have hts := atoms_spec (ws := vX10_bestBait) B.pre
  have hown : s.vm.findClass RX10 = some m.cls := findClass_of_methodNamed B.named
  have hlocks := B.notSynchronized
  subst hsz
  have hD := hD0.self (sz := s.heap.size)
  generalize hAe : va_A [(a0, .inr (7, [.ref a1, g2, g3, g4, g5, g6, g7, g8, g9, g10])), (a1, .inr (4, [.int 0, g11, g12, g13, g14, g15, g16, g17, g18, g19, g20, g21, g22, g23, g24, g25, g26, g27]))] s.heap.size = A at hD ⊢
  have hA : ∀ q : Nat, s.heap.size ≤ q → A q := fun q h => by rw [← hAe]; exact Or.inr h
  have hS : va_S A s.heap s.heap [] := va_S.rf
  have hP : va_P (dC, dI) vwCl [(a0, .inr (7, [.ref a1, g2, g3, g4, g5, g6, g7, g8, g9, g10])), (a1, .inr (4, [.int 0, g11, g12, g13, g14, g15, g16, g17, g18, g19, g20, g21, g22, g23, g24, g25, g26, g27]))] s.heap := hP
  have hl := lv_entry ([.ref a0]) (n := 3) (Nat.le_of_ble_eq_true rfl)
  rw [lg_entry_eq]
  generalize (lg_sl ([.ref a0]) ++ List.replicate (3 - (lg_sl ([.ref a0])).length) Slot.unset).toArray = ls at hl ⊢
  have hl : lv_has ls 3 [(0, .ref a0)] := hl
  refine lv_aload_n hx hb dX10_bestBait_0 rfl (lv_at hl 0 rfl) ?_
  refine lv_aload_n hx hb dX10_bestBait_1 rfl (lv_at hl 0 rfl) ?_
  refine cl_i (wc := [(a0, .inr (7, [.ref a1, g2, g3, g4, g5, g6, g7, g8, g9, g10])), (a1, .inr (4, [.int 0, g11, g12, g13, g14, g15, g16, g17, g18, g19, g20, g21, g22, g23, g24, g25, g26, g27]))]) (wr := []) (va_runV (As := []) (rest := [.ref a0]) ⟨hx, hb, hml, hown, hts⟩ (kX10_pierTrouble l dC dI a0 a1 (g2) (g3) (g4) (g5) (g6) (g7) (g8) (g9) (g10) (g11) (g12) (g13) (g14) (g15) (g16) (g17) (g18) (g19) (g20) (g21) (g22) (g23) (g24) (g25) (g26) (g27) s.heap.size) (cwV 0 hts gX10_bestBait_0 rfl rfl rfl (by decide +kernel) ⟨Nat.le_of_ble_eq_true rfl, Nat.le_of_ble_eq_true rfl⟩) (PV (hP.sub (ws' := [(a0, .inr (7, [.ref a1, g2, g3, g4, g5, g6, g7, g8, g9, g10])), (a1, .inr (4, [.int 0, g11, g12, g13, g14, g15, g16, g17, g18, g19, g20, g21, g22, g23, g24, g25, g26, g27]))]) [0, 1] rfl) (hK.sub (tys' := []) [] rfl) (hD.sub (ws' := [(a0, .inr (7, [.ref a1, g2, g3, g4, g5, g6, g7, g8, g9, g10])), (a1, .inr (4, [.int 0, g11, g12, g13, g14, g15, g16, g17, g18, g19, g20, g21, g22, g23, g24, g25, g26, g27]))]) [0, 1] (by decide) rfl) hN 0 rfl rfl) rfl rfl hl.1 rfl (lv_room (Nat.le_of_ble_eq_true rfl)) dX10_bestBait_2 ⟨Nat.le_of_ble_eq_true rfl, Nat.le_of_ble_eq_true rfl⟩) hP hD hK hS hA [0, 1] [] rfl rfl (by decide) (by decide) (fun z1 _u H locs hw hP hD hK hS => ?_)
  have hP : va_P (dC, dI) vwCl [(a0, .inr (7, [.ref a1, g2, g3, g4, g5, g6, g7, g8, g9, g10])), (a1, .inr (4, [.int 0, g11, g12, g13, g14, g15, g16, g17, g18, g19, g20, g21, g22, g23, g24, g25, g26, g27]))] H := hP
  have hD : va_D A [(a0, .inr (7, [.ref a1, g2, g3, g4, g5, g6, g7, g8, g9, g10])), (a1, .inr (4, [.int 0, g11, g12, g13, g14, g15, g16, g17, g18, g19, g20, g21, g22, g23, g24, g25, g26, g27]))] := hD
  have hK : va_K (dC, dI) vwCl [] s := hK
  obtain rfl : z1 = 1 := hw
  refine cl_i (wc := [(a0, .inr (7, [.ref a1, g2, g3, g4, g5, g6, g7, g8, g9, g10]))]) (wr := [(a1, .inr (4, [.int 0, g11, g12, g13, g14, g15, g16, g17, g18, g19, g20, g21, g22, g23, g24, g25, g26, g27]))]) (va_runV (As := [.int 1]) (rest := []) ⟨hx, hb, hml, hown, hts⟩ (kX10_refused_3 l dC dI a0 (.ref a1) (g2) (g3) (g4) (g5) (g6) (g7) (g8) (g9) (g10) H.size) (cwV 1 hts gX10_bestBait_1 rfl rfl rfl (by decide +kernel) ⟨Nat.le_of_ble_eq_true rfl, Nat.le_of_ble_eq_true rfl⟩) (PV (hP.sub (ws' := [(a0, .inr (7, [.ref a1, g2, g3, g4, g5, g6, g7, g8, g9, g10]))]) [0] rfl) (hK.sub (tys' := []) [] rfl) (hD.sub (ws' := [(a0, .inr (7, [.ref a1, g2, g3, g4, g5, g6, g7, g8, g9, g10]))]) [0] (by decide) rfl) hN 0 rfl rfl) rfl rfl hl.1 rfl (lv_room (Nat.le_of_ble_eq_true rfl)) dX10_bestBait_5 ⟨Nat.le_of_ble_eq_true rfl, Nat.le_of_ble_eq_true rfl⟩) hP hD hK hS hA [0] [1] rfl rfl (by decide) (by decide) (fun z2 _u H locs hw hP hD hK hS => ?_)
  have hP : va_P (dC, dI) vwCl [(a1, .inr (4, [.int 0, g11, g12, g13, g14, g15, g16, g17, g18, g19, g20, g21, g22, g23, g24, g25, g26, g27])), (a0, .inr (7, [.ref a1, g2, g3, g4, g5, g6, g7, g8, .int 1, g10]))] H := hP
  have hD : va_D A [(a1, .inr (4, [.int 0, g11, g12, g13, g14, g15, g16, g17, g18, g19, g20, g21, g22, g23, g24, g25, g26, g27])), (a0, .inr (7, [.ref a1, g2, g3, g4, g5, g6, g7, g8, .int 1, g10]))] := hD
  have hK : va_K (dC, dI) vwCl [] s := hK
  obtain rfl : z2 = 1 := hw
  refine lv_if_eq (tgt := 13) hx hb dX10_bestBait_8 (by decide) (fun c3 => absurd c3 (by decide)) (fun _ => ?_)
  refine lv_iconst (v := (-1)) hx hb dX10_bestBait_11 (by decide) ?_
  have hP9 := hP.sub (ws' := []) [] rfl
  have hD9 := hD.sub (ws' := []) [] (by decide) rfl
  have hK9 := hK.sub (tys' := []) [] rfl
  exact W.iret (v := (-1)) hx hb hr (fun t ht hW => ⟨⟨(-1), (), rfl, rfl, by rw [ht]; exact hP9, va_K.moved hW.alike hK9, hD9⟩, hS.F ht⟩) hS.2.2 dX10_bestBait_12
theorem dX12_bestBait_0 : decode cX12_bestBait 0 = .ok (.aload_n 0, 1) := by decide +kernel
theorem dX12_bestBait_1 : decode cX12_bestBait 1 = .ok (.iconst 0, 1) := by decide +kernel
theorem dX12_bestBait_12 : decode cX12_bestBait 12 = .ok (.aload_n 0, 1) := by decide +kernel
theorem dX12_bestBait_13 : decode cX12_bestBait 13 = .ok (.iconst 1, 1) := by decide +kernel
theorem dX12_bestBait_14 : decode cX12_bestBait 14 = .ok (.invokevirtual 42, 3) := by decide +kernel
theorem dX12_bestBait_17 : decode cX12_bestBait 17 = .ok (.ireturn, 1) := by decide +kernel
theorem dX12_bestBait_2 : decode cX12_bestBait 2 = .ok (.putfield 36, 3) := by decide +kernel
theorem dX12_bestBait_5 : decode cX12_bestBait 5 = .ok (.aload_n 0, 1) := by decide +kernel
theorem dX12_bestBait_6 : decode cX12_bestBait 6 = .ok (.getfield 299, 3) := by decide +kernel
theorem dX12_bestBait_9 : decode cX12_bestBait 9 = .ok (.ifnonnull 9, 3) := by decide +kernel
def vX12_bestBait : List Cond := .code yX12_bestBait cX12_bestBait 6 (some .int) :: ([.fieldLink RX12 36 "HookPierModel" "thrown" "I", .fieldLink RX12 299 "HookPierModel" "pier" "LHookPierModel$Pier;", .methodLink RX12 42 yX12_refused, .instanceMethod yX12_refused, .selects RX12 yX12_refused yX12_refused, .initialized RX12, .code yX12_refused cX12_refused 2 (some .int), .fieldLink RX12 39 "HookPierModel" "trouble" "I", .fieldLink RX12 9 "HookPierModel" "where" "I"] ++ wsX120)
theorem iX12_bestBait_X12 : ∀ w ∈ wsX120, w ∈ vX12_bestBait := fun _ h => List.mem_cons_of_mem _ (List.mem_append_right _ h)
set_option maxRecDepth 20000 in
theorem gX12_bestBait_0 : GoodIn vX12_bestBait (wsV RX12 42 RX12 yX12_refused vX12_refused_1) := goodIn_app (goodIn_r [.methodLink RX12 42 yX12_refused, .instanceMethod yX12_refused, .selects RX12 yX12_refused yX12_refused, .initialized RX12] [3, 4, 5, 6] (by decide +kernel) (by decide +kernel)) (goodIn_ca (goodIn_r (.code yX12_refused cX12_refused 2 (some .int) :: [.fieldLink RX12 39 "HookPierModel" "trouble" "I", .fieldLink RX12 9 "HookPierModel" "where" "I"]) [7, 8, 9] (by decide +kernel) (by decide +kernel) : GoodIn vX12_bestBait (.code yX12_refused cX12_refused 2 (some .int) :: [.fieldLink RX12 39 "HookPierModel" "trouble" "I", .fieldLink RX12 9 "HookPierModel" "where" "I"])) (goodIn_sub iX12_bestBait_X12 (by decide +kernel)))
set_option maxHeartbeats 1000000 in
set_option maxRecDepth 100000 in
theorem kX12_bestBait (l : Launch) (dC : Nat → ClassId) (dI : Nat → Nat → Nat) (a0 : Nat) (g1 : Value) (g2 : Value) (g3 : Value) (g4 : Value) (g5 : Value) (g6 : Value) (g7 : Value) (g8 : Value) (g9 : Value) (g10 : Value) (g11 : Value) (g12 : Value) (g13 : Value) (g14 : Value) (g15 : Value) (g16 : Value) (g17 : Value) (g18 : Value) (g19 : Value) (g20 : Value) (g21 : Value) (g22 : Value) (g23 : Value) (g24 : Value) (g25 : Value) (g26 : Value) (g27 : Value) (g28 : Value) (g29 : Value) (sz : Nat) : Met l yX12_bestBait vX12_bestBait ({ frames := 1, cells := 0, slots := 0, locals := 21 }) (PC (dC, dI) [.ref a0] sz [(a0, .inr (9, [g1, g2, g3, .null, g4, g5, g6, g7, g8, g9, g10, g11, g12, g13, g14, g15, g16, g17, g18, g19, g20, g21, g22, g23, g24, g25, g26, g27, g28, g29]))] []) (va_Qi (S := Unit) (fun (r : Int32) _ => r = (-1)) (fun _ t => BC (dC, dI) (va_A [(a0, .inr (9, [g1, g2, g3, .null, g4, g5, g6, g7, g8, g9, g10, g11, g12, g13, g14, g15, g16, g17, g18, g19, g20, g21, g22, g23, g24, g25, g26, g27, g28, g29]))] sz) [] [] t) (va_A [(a0, .inr (9, [g1, g2, g3, .null, g4, g5, g6, g7, g8, g9, g10, g11, g12, g13, g14, g15, g16, g17, g18, g19, g20, g21, g22, g23, g24, g25, g26, g27, g28, g29]))] sz)) 0 0 (va_A [(a0, .inr (9, [g1, g2, g3, .null, g4, g5, g6, g7, g8, g9, g10, g11, g12, g13, g14, g15, g16, g17, g18, g19, g20, g21, g22, g23, g24, g25, g26, g27, g28, g29]))] sz) := by
  refine Met.ofW (cc := cX12_bestBait) (maxL := 6) (ret := (some .int)) (by decide) rfl ?_
  intro p e s m args below meth c s₁ B hml hv
  obtain ⟨rfl, hsz, hP, hK, hD0, hN⟩ := hv
  have hx := B.exec
  have hb := B.bytes
  have hr := B.returns
  have hts := atoms_spec (ws := vX12_bestBait) B.pre
  have hown : s.vm.findClass RX12 = some m.cls := findClass_of_methodNamed B.named
  have hlocks := B.notSynchronized
  subst hsz
  have hD := hD0.self (sz := s.heap.size)
  generalize hAe : va_A [(a0, .inr (9, [g1, g2, g3, .null, g4, g5, g6, g7, g8, g9, g10, g11, g12, g13, g14, g15, g16, g17, g18, g19, g20, g21, g22, g23, g24, g25, g26, g27, g28, g29]))] s.heap.size = A at hD ⊢
  have hA : ∀ q : Nat, s.heap.size ≤ q → A q := fun q h => by rw [← hAe]; exact Or.inr h
  have hS : va_S A s.heap s.heap [] := va_S.rf
  have hP : va_P (dC, dI) vwCl [(a0, .inr (9, [g1, g2, g3, .null, g4, g5, g6, g7, g8, g9, g10, g11, g12, g13, g14, g15, g16, g17, g18, g19, g20, g21, g22, g23, g24, g25, g26, g27, g28, g29]))] s.heap := hP
  have hl := lv_entry ([.ref a0]) (n := 6) (Nat.le_of_ble_eq_true rfl)
  rw [lg_entry_eq]
  generalize (lg_sl ([.ref a0]) ++ List.replicate (6 - (lg_sl ([.ref a0])).length) Slot.unset).toArray = ls at hl ⊢
  have hl : lv_has ls 6 [(0, .ref a0)] := hl
  refine lv_aload_n hx hb dX12_bestBait_0 rfl (lv_at hl 0 rfl) ?_
  refine lv_iconst (v := 0) hx hb dX12_bestBait_1 (by decide) ?_
  refine va_put (D := (dC, dI)) (ci := 9) (v := .int 0) (ty := .int) (C := RX12) (T := TX12) (N := 30) hx hb hts iX12_bestBait_X12 tyX12 tyX12_ok nmX12 hown hK hP hD hS 0 rfl rfl 0 (by decide) (hts (.fieldLink RX12 36 "HookPierModel" "thrown" "I") (List.mem_of_getElem? (i := 1) rfl)) (fun _ h9 => h9) rfl (by decide +kernel) rfl rfl (Nat.le_of_ble_eq_true rfl) dX12_bestBait_2 (fun H locs hP hD hS => ?_)
  have hP : va_P (dC, dI) vwCl [(a0, .inr (9, [.int 0, g2, g3, .null, g4, g5, g6, g7, g8, g9, g10, g11, g12, g13, g14, g15, g16, g17, g18, g19, g20, g21, g22, g23, g24, g25, g26, g27, g28, g29]))] H := hP
  have hD : va_D A [(a0, .inr (9, [.int 0, g2, g3, .null, g4, g5, g6, g7, g8, g9, g10, g11, g12, g13, g14, g15, g16, g17, g18, g19, g20, g21, g22, g23, g24, g25, g26, g27, g28, g29]))] := hD
  refine lv_aload_n hx hb dX12_bestBait_5 rfl (lv_at hl 0 rfl) ?_
  refine va_get (D := (dC, dI)) (ci := 9) (v := .null) (C := RX12) (T := TX12) (N := 30) hx hb hts iX12_bestBait_X12 hown hK hP 0 rfl rfl 3 (by decide) (hts (.fieldLink RX12 299 "HookPierModel" "pier" "LHookPierModel$Pier;") (List.mem_of_getElem? (i := 2) rfl)) (fun _ h9 => h9) rfl dX12_bestBait_6 ?_
  refine lv_ifnonnullN hx hb dX12_bestBait_9 ?_
  refine lv_aload_n hx hb dX12_bestBait_12 rfl (lv_at hl 0 rfl) ?_
  refine lv_iconst (v := 1) hx hb dX12_bestBait_13 (by decide) ?_
  refine cl_i (wc := [(a0, .inr (9, [.int 0, g2, g3, .null, g4, g5, g6, g7, g8, g9, g10, g11, g12, g13, g14, g15, g16, g17, g18, g19, g20, g21, g22, g23, g24, g25, g26, g27, g28, g29]))]) (wr := []) (va_runV (As := [.int 1]) (rest := []) ⟨hx, hb, hml, hown, hts⟩ (kX12_refused_1 l dC dI a0 (.int 0) (g2) (g3) (.null) (g4) (g5) (g6) (g7) (g8) (g9) (g10) (g11) (g12) (g13) (g14) (g15) (g16) (g17) (g18) (g19) (g20) (g21) (g22) (g23) (g24) (g25) (g26) (g27) (g28) (g29) H.size) (cwV 1 hts gX12_bestBait_0 rfl rfl rfl (by decide +kernel) ⟨Nat.le_of_ble_eq_true rfl, Nat.le_of_ble_eq_true rfl⟩) (PV (hP.sub (ws' := [(a0, .inr (9, [.int 0, g2, g3, .null, g4, g5, g6, g7, g8, g9, g10, g11, g12, g13, g14, g15, g16, g17, g18, g19, g20, g21, g22, g23, g24, g25, g26, g27, g28, g29]))]) [0] rfl) (hK.sub (tys' := []) [] rfl) (hD.sub (ws' := [(a0, .inr (9, [.int 0, g2, g3, .null, g4, g5, g6, g7, g8, g9, g10, g11, g12, g13, g14, g15, g16, g17, g18, g19, g20, g21, g22, g23, g24, g25, g26, g27, g28, g29]))]) [0] (by decide) rfl) hN 0 rfl rfl) rfl rfl hl.1 rfl (lv_room (Nat.le_of_ble_eq_true rfl)) dX12_bestBait_14 ⟨Nat.le_of_ble_eq_true rfl, Nat.le_of_ble_eq_true rfl⟩) hP hD hK hS hA [0] [] rfl rfl (by decide) (by decide) (fun z1 _u H locs hw hP hD hK hS => ?_)
  have hP : va_P (dC, dI) vwCl [(a0, .inr (9, [.int 0, .int 1, .int (-1), .null, g4, g5, g6, g7, g8, g9, g10, g11, g12, g13, g14, g15, g16, g17, g18, g19, g20, g21, g22, g23, g24, g25, g26, g27, g28, g29]))] H := hP
  have hD : va_D A [(a0, .inr (9, [.int 0, .int 1, .int (-1), .null, g4, g5, g6, g7, g8, g9, g10, g11, g12, g13, g14, g15, g16, g17, g18, g19, g20, g21, g22, g23, g24, g25, g26, g27, g28, g29]))] := hD
  have hK : va_K (dC, dI) vwCl [] s := hK
  obtain rfl : z1 = (-1) := hw
  have hP9 := hP.sub (ws' := []) [] rfl
  have hD9 := hD.sub (ws' := []) [] (by decide) rfl
  have hK9 := hK.sub (tys' := []) [] rfl
  exact W.iret (v := (-1)) hx hb hr (fun t ht hW => ⟨⟨(-1), (), rfl, rfl, by rw [ht]; exact hP9, va_K.moved hW.alike hK9, hD9⟩, hS.F ht⟩) hS.2.2 dX12_bestBait_17
theorem dX10_hungerFor_0 : decode cX10_hungerFor 0 = .ok (.aload_n 0, 1) := by decide +kernel
theorem dX10_hungerFor_1 : decode cX10_hungerFor 1 = .ok (.aload_n 0, 1) := by decide +kernel
theorem dX10_hungerFor_10 : decode cX10_hungerFor 10 = .ok (.invokevirtual 79, 3) := by decide +kernel
theorem dX10_hungerFor_13 : decode cX10_hungerFor 13 = .ok (.ifCond .eq 5, 3) := by decide +kernel
theorem dX10_hungerFor_16 : decode cX10_hungerFor 16 = .ok (.iconst (-1), 1) := by decide +kernel
theorem dX10_hungerFor_17 : decode cX10_hungerFor 17 = .ok (.ireturn, 1) := by decide +kernel
theorem dX10_hungerFor_2 : decode cX10_hungerFor 2 = .ok (.iload_n 1, 1) := by decide +kernel
theorem dX10_hungerFor_3 : decode cX10_hungerFor 3 = .ok (.iload_n 2, 1) := by decide +kernel
theorem dX10_hungerFor_4 : decode cX10_hungerFor 4 = .ok (.iload_n 3, 1) := by decide +kernel
theorem dX10_hungerFor_5 : decode cX10_hungerFor 5 = .ok (.iload 4, 2) := by decide +kernel
theorem dX10_hungerFor_7 : decode cX10_hungerFor 7 = .ok (.invokevirtual 176, 3) := by decide +kernel
def vX10_hungerFor : List Cond := .code yX10_hungerFor cX10_hungerFor 7 (some .int) :: ([.methodLink RX10 176 yX10_wishTrouble, .instanceMethod yX10_wishTrouble, .selects RX10 yX10_wishTrouble yX10_wishTrouble, .initialized RX10, .code yX10_wishTrouble cX10_wishTrouble 6 (some .int), .methodLink RX10 102 yX10_answerTrouble, .instanceMethod yX10_answerTrouble, .selects RX10 yX10_answerTrouble yX10_answerTrouble, .code yX10_answerTrouble cX10_answerTrouble 2 (some .int), .fieldLink RX10 10 "HookPier" "plan" "LHookPier$Plan;", .methodLink RX10 381 yX6_hasAnswer, .instanceMethod yX6_hasAnswer, .selects RX6 yX6_hasAnswer yX6_hasAnswer, .initialized RX6, .code yX6_hasAnswer cX6_hasAnswer 2 (some .boolean), .fieldLink RX6 30 "HookPier$Plan" "answers" "I", .code yX10_within cX10_within 3 (some .boolean), .static yX10_within, .methodLink RX10 79 yX10_refused, .instanceMethod yX10_refused, .selects RX10 yX10_refused yX10_refused, .code yX10_refused cX10_refused 2 (some .boolean), .fieldLink RX10 61 "HookPier" "troubleNow" "I"] ++ wsX100 ++ wsX60)
theorem iX10_hungerFor_X10 : ∀ w ∈ wsX100, w ∈ vX10_hungerFor := fun _ h => List.mem_cons_of_mem _ (List.mem_append_left _ (List.mem_append_right _ h))
theorem iX10_hungerFor_X6 : ∀ w ∈ wsX60, w ∈ vX10_hungerFor := fun _ h => List.mem_cons_of_mem _ (List.mem_append_right _ h)
set_option maxRecDepth 20000 in
theorem gX10_hungerFor_0 : GoodIn vX10_hungerFor (wsV RX10 176 RX10 yX10_wishTrouble vX10_wishTrouble) := goodIn_app (goodIn_r [.methodLink RX10 176 yX10_wishTrouble, .instanceMethod yX10_wishTrouble, .selects RX10 yX10_wishTrouble yX10_wishTrouble, .initialized RX10] [1, 2, 3, 4] (by decide +kernel) (by decide +kernel)) (goodIn_ca (goodIn_ca (goodIn_r (.code yX10_wishTrouble cX10_wishTrouble 6 (some .int) :: [.methodLink RX10 102 yX10_answerTrouble, .instanceMethod yX10_answerTrouble, .selects RX10 yX10_answerTrouble yX10_answerTrouble, .initialized RX10, .code yX10_answerTrouble cX10_answerTrouble 2 (some .int), .fieldLink RX10 10 "HookPier" "plan" "LHookPier$Plan;", .methodLink RX10 381 yX6_hasAnswer, .instanceMethod yX6_hasAnswer, .selects RX6 yX6_hasAnswer yX6_hasAnswer, .initialized RX6, .code yX6_hasAnswer cX6_hasAnswer 2 (some .boolean), .fieldLink RX6 30 "HookPier$Plan" "answers" "I", .code yX10_within cX10_within 3 (some .boolean), .static yX10_within]) [5, 6, 7, 8, 4, 9, 10, 11, 12, 13, 14, 15, 16, 17, 18] (by decide +kernel) (by decide +kernel) : GoodIn vX10_hungerFor (.code yX10_wishTrouble cX10_wishTrouble 6 (some .int) :: [.methodLink RX10 102 yX10_answerTrouble, .instanceMethod yX10_answerTrouble, .selects RX10 yX10_answerTrouble yX10_answerTrouble, .initialized RX10, .code yX10_answerTrouble cX10_answerTrouble 2 (some .int), .fieldLink RX10 10 "HookPier" "plan" "LHookPier$Plan;", .methodLink RX10 381 yX6_hasAnswer, .instanceMethod yX6_hasAnswer, .selects RX6 yX6_hasAnswer yX6_hasAnswer, .initialized RX6, .code yX6_hasAnswer cX6_hasAnswer 2 (some .boolean), .fieldLink RX6 30 "HookPier$Plan" "answers" "I", .code yX10_within cX10_within 3 (some .boolean), .static yX10_within])) (goodIn_sub iX10_hungerFor_X10 (by decide +kernel))) (goodIn_sub iX10_hungerFor_X6 (by decide +kernel)))
set_option maxRecDepth 20000 in
theorem gX10_hungerFor_1 : GoodIn vX10_hungerFor (wsV RX10 79 RX10 yX10_refused vX10_refused_3) := goodIn_app (goodIn_r [.methodLink RX10 79 yX10_refused, .instanceMethod yX10_refused, .selects RX10 yX10_refused yX10_refused, .initialized RX10] [19, 20, 21, 4] (by decide +kernel) (by decide +kernel)) (goodIn_ca (goodIn_r (.code yX10_refused cX10_refused 2 (some .boolean) :: [.fieldLink RX10 61 "HookPier" "troubleNow" "I"]) [22, 23] (by decide +kernel) (by decide +kernel) : GoodIn vX10_hungerFor (.code yX10_refused cX10_refused 2 (some .boolean) :: [.fieldLink RX10 61 "HookPier" "troubleNow" "I"])) (goodIn_sub iX10_hungerFor_X10 (by decide +kernel)))
set_option maxHeartbeats 1000000 in
set_option maxRecDepth 100000 in
theorem kX10_hungerFor (l : Launch) (dC : Nat → ClassId) (dI : Nat → Nat → Nat) (a0 : Nat) (k1 : Int32) (k2 : Int32) (k3 : Int32) (k4 : Int32) (a5 : Nat) (g6 : Value) (g7 : Value) (g8 : Value) (g9 : Value) (g10 : Value) (g11 : Value) (g12 : Value) (g13 : Value) (g14 : Value) (g15 : Value) (g16 : Value) (g17 : Value) (g18 : Value) (g19 : Value) (g20 : Value) (g21 : Value) (g22 : Value) (g23 : Value) (g24 : Value) (g25 : Value) (g26 : Value) (g27 : Value) (g28 : Value) (g29 : Value) (g30 : Value) (g31 : Value) (sz : Nat) : Met l yX10_hungerFor vX10_hungerFor ({ frames := 4, cells := 0, slots := 0, locals := 89 }) (PC (dC, dI) [.ref a0, .int k1, .int k2, .int k3, .int k4] sz [(a0, .inr (7, [.ref a5, g6, g7, g8, g9, g10, g11, g12, g13, g14])), (a5, .inr (4, [g15, g16, g17, g18, g19, g20, .int 0, g21, g22, g23, g24, g25, g26, g27, g28, g29, g30, g31]))] []) (va_Qi (S := Unit) (fun (r : Int32) _ => r = (-1)) (fun _ t => BC (dC, dI) (va_A [(a0, .inr (7, [.ref a5, g6, g7, g8, g9, g10, g11, g12, g13, g14])), (a5, .inr (4, [g15, g16, g17, g18, g19, g20, .int 0, g21, g22, g23, g24, g25, g26, g27, g28, g29, g30, g31]))] sz) [] [] t) (va_A [(a0, .inr (7, [.ref a5, g6, g7, g8, g9, g10, g11, g12, g13, g14])), (a5, .inr (4, [g15, g16, g17, g18, g19, g20, .int 0, g21, g22, g23, g24, g25, g26, g27, g28, g29, g30, g31]))] sz)) 0 0 (va_A [(a0, .inr (7, [.ref a5, g6, g7, g8, g9, g10, g11, g12, g13, g14])), (a5, .inr (4, [g15, g16, g17, g18, g19, g20, .int 0, g21, g22, g23, g24, g25, g26, g27, g28, g29, g30, g31]))] sz) := by
  refine Met.ofW (cc := cX10_hungerFor) (maxL := 7) (ret := (some .int)) (by decide) rfl ?_
  intro p e s m args below meth c s₁ B hml hv
  obtain ⟨rfl, hsz, hP, hK, hD0, hN⟩ := hv
  have hx := B.exec
  have hb := B.bytes
  have hr := B.returns
  have hts := atoms_spec (ws := vX10_hungerFor) B.pre
  have hown : s.vm.findClass RX10 = some m.cls := findClass_of_methodNamed B.named
  have hlocks := B.notSynchronized
  subst hsz
  have hD := hD0.self (sz := s.heap.size)
  generalize hAe : va_A [(a0, .inr (7, [.ref a5, g6, g7, g8, g9, g10, g11, g12, g13, g14])), (a5, .inr (4, [g15, g16, g17, g18, g19, g20, .int 0, g21, g22, g23, g24, g25, g26, g27, g28, g29, g30, g31]))] s.heap.size = A at hD ⊢
  have hA : ∀ q : Nat, s.heap.size ≤ q → A q := fun q h => by rw [← hAe]; exact Or.inr h
  have hS : va_S A s.heap s.heap [] := va_S.rf
  have hP : va_P (dC, dI) vwCl [(a0, .inr (7, [.ref a5, g6, g7, g8, g9, g10, g11, g12, g13, g14])), (a5, .inr (4, [g15, g16, g17, g18, g19, g20, .int 0, g21, g22, g23, g24, g25, g26, g27, g28, g29, g30, g31]))] s.heap := hP
  have hl := lv_entry ([.ref a0, .int k1, .int k2, .int k3, .int k4]) (n := 7) (Nat.le_of_ble_eq_true rfl)
  rw [lg_entry_eq]
  generalize (lg_sl ([.ref a0, .int k1, .int k2, .int k3, .int k4]) ++ List.replicate (7 - (lg_sl ([.ref a0, .int k1, .int k2, .int k3, .int k4])).length) Slot.unset).toArray = ls at hl ⊢
  have hl : lv_has ls 7 [(0, .ref a0), (1, .int k1), (2, .int k2), (3, .int k3), (4, .int k4)] := hl
  refine lv_aload_n hx hb dX10_hungerFor_0 rfl (lv_at hl 0 rfl) ?_
  refine lv_aload_n hx hb dX10_hungerFor_1 rfl (lv_at hl 0 rfl) ?_
  refine lv_iload_n hx hb dX10_hungerFor_2 rfl (lv_at hl 1 rfl) ?_
  refine lv_iload_n hx hb dX10_hungerFor_3 rfl (lv_at hl 2 rfl) ?_
  refine lv_iload_n hx hb dX10_hungerFor_4 rfl (lv_at hl 3 rfl) ?_
  refine lv_iload hx hb dX10_hungerFor_5 (lv_at hl 4 rfl) ?_
  refine cl_i (wc := [(a0, .inr (7, [.ref a5, g6, g7, g8, g9, g10, g11, g12, g13, g14])), (a5, .inr (4, [g15, g16, g17, g18, g19, g20, .int 0, g21, g22, g23, g24, g25, g26, g27, g28, g29, g30, g31]))]) (wr := []) (va_runV (As := [.int k1, .int k2, .int k3, .int k4]) (rest := [.ref a0]) ⟨hx, hb, hml, hown, hts⟩ (kX10_wishTrouble l dC dI a0 k1 k2 k3 k4 a5 (g6) (g7) (g8) (g9) (g10) (g11) (g12) (g13) (g14) (g15) (g16) (g17) (g18) (g19) (g20) (g21) (g22) (g23) (g24) (g25) (g26) (g27) (g28) (g29) (g30) (g31) s.heap.size) (cwV 4 hts gX10_hungerFor_0 rfl rfl rfl (by decide +kernel) ⟨Nat.le_of_ble_eq_true rfl, Nat.le_of_ble_eq_true rfl⟩) (PV (hP.sub (ws' := [(a0, .inr (7, [.ref a5, g6, g7, g8, g9, g10, g11, g12, g13, g14])), (a5, .inr (4, [g15, g16, g17, g18, g19, g20, .int 0, g21, g22, g23, g24, g25, g26, g27, g28, g29, g30, g31]))]) [0, 1] rfl) (hK.sub (tys' := []) [] rfl) (hD.sub (ws' := [(a0, .inr (7, [.ref a5, g6, g7, g8, g9, g10, g11, g12, g13, g14])), (a5, .inr (4, [g15, g16, g17, g18, g19, g20, .int 0, g21, g22, g23, g24, g25, g26, g27, g28, g29, g30, g31]))]) [0, 1] (by decide) rfl) hN 0 rfl rfl) rfl rfl hl.1 rfl (lv_room (Nat.le_of_ble_eq_true rfl)) dX10_hungerFor_7 ⟨Nat.le_of_ble_eq_true rfl, Nat.le_of_ble_eq_true rfl⟩) hP hD hK hS hA [0, 1] [] rfl rfl (by decide) (by decide) (fun z1 _u H locs hw hP hD hK hS => ?_)
  have hP : va_P (dC, dI) vwCl [(a0, .inr (7, [.ref a5, g6, g7, g8, g9, g10, g11, g12, g13, g14])), (a5, .inr (4, [g15, g16, g17, g18, g19, g20, .int 0, g21, g22, g23, g24, g25, g26, g27, g28, g29, g30, g31]))] H := hP
  have hD : va_D A [(a0, .inr (7, [.ref a5, g6, g7, g8, g9, g10, g11, g12, g13, g14])), (a5, .inr (4, [g15, g16, g17, g18, g19, g20, .int 0, g21, g22, g23, g24, g25, g26, g27, g28, g29, g30, g31]))] := hD
  have hK : va_K (dC, dI) vwCl [] s := hK
  obtain rfl : z1 = 1 := hw
  refine cl_i (wc := [(a0, .inr (7, [.ref a5, g6, g7, g8, g9, g10, g11, g12, g13, g14]))]) (wr := [(a5, .inr (4, [g15, g16, g17, g18, g19, g20, .int 0, g21, g22, g23, g24, g25, g26, g27, g28, g29, g30, g31]))]) (va_runV (As := [.int 1]) (rest := []) ⟨hx, hb, hml, hown, hts⟩ (kX10_refused_3 l dC dI a0 (.ref a5) (g6) (g7) (g8) (g9) (g10) (g11) (g12) (g13) (g14) H.size) (cwV 1 hts gX10_hungerFor_1 rfl rfl rfl (by decide +kernel) ⟨Nat.le_of_ble_eq_true rfl, Nat.le_of_ble_eq_true rfl⟩) (PV (hP.sub (ws' := [(a0, .inr (7, [.ref a5, g6, g7, g8, g9, g10, g11, g12, g13, g14]))]) [0] rfl) (hK.sub (tys' := []) [] rfl) (hD.sub (ws' := [(a0, .inr (7, [.ref a5, g6, g7, g8, g9, g10, g11, g12, g13, g14]))]) [0] (by decide) rfl) hN 0 rfl rfl) rfl rfl hl.1 rfl (lv_room (Nat.le_of_ble_eq_true rfl)) dX10_hungerFor_10 ⟨Nat.le_of_ble_eq_true rfl, Nat.le_of_ble_eq_true rfl⟩) hP hD hK hS hA [0] [1] rfl rfl (by decide) (by decide) (fun z2 _u H locs hw hP hD hK hS => ?_)
  have hP : va_P (dC, dI) vwCl [(a5, .inr (4, [g15, g16, g17, g18, g19, g20, .int 0, g21, g22, g23, g24, g25, g26, g27, g28, g29, g30, g31])), (a0, .inr (7, [.ref a5, g6, g7, g8, g9, g10, g11, g12, .int 1, g14]))] H := hP
  have hD : va_D A [(a5, .inr (4, [g15, g16, g17, g18, g19, g20, .int 0, g21, g22, g23, g24, g25, g26, g27, g28, g29, g30, g31])), (a0, .inr (7, [.ref a5, g6, g7, g8, g9, g10, g11, g12, .int 1, g14]))] := hD
  have hK : va_K (dC, dI) vwCl [] s := hK
  obtain rfl : z2 = 1 := hw
  refine lv_if_eq (tgt := 18) hx hb dX10_hungerFor_13 (by decide) (fun c3 => absurd c3 (by decide)) (fun _ => ?_)
  refine lv_iconst (v := (-1)) hx hb dX10_hungerFor_16 (by decide) ?_
  have hP9 := hP.sub (ws' := []) [] rfl
  have hD9 := hD.sub (ws' := []) [] (by decide) rfl
  have hK9 := hK.sub (tys' := []) [] rfl
  exact W.iret (v := (-1)) hx hb hr (fun t ht hW => ⟨⟨(-1), (), rfl, rfl, by rw [ht]; exact hP9, va_K.moved hW.alike hK9, hD9⟩, hS.F ht⟩) hS.2.2 dX10_hungerFor_17
theorem dX12_hungerFor_0 : decode cX12_hungerFor 0 = .ok (.aload_n 0, 1) := by decide +kernel
theorem dX12_hungerFor_1 : decode cX12_hungerFor 1 = .ok (.iconst 0, 1) := by decide +kernel
theorem dX12_hungerFor_11 : decode cX12_hungerFor 11 = .ok (.iload_n 2, 1) := by decide +kernel
theorem dX12_hungerFor_12 : decode cX12_hungerFor 12 = .ok (.iload_n 3, 1) := by decide +kernel
theorem dX12_hungerFor_13 : decode cX12_hungerFor 13 = .ok (.iload 4, 2) := by decide +kernel
theorem dX12_hungerFor_15 : decode cX12_hungerFor 15 = .ok (.invokevirtual 353, 3) := by decide +kernel
theorem dX12_hungerFor_18 : decode cX12_hungerFor 18 = .ok (.istore 5, 2) := by decide +kernel
theorem dX12_hungerFor_2 : decode cX12_hungerFor 2 = .ok (.putfield 36, 3) := by decide +kernel
theorem dX12_hungerFor_20 : decode cX12_hungerFor 20 = .ok (.iload 5, 2) := by decide +kernel
theorem dX12_hungerFor_22 : decode cX12_hungerFor 22 = .ok (.ifCond .le 10, 3) := by decide +kernel
theorem dX12_hungerFor_25 : decode cX12_hungerFor 25 = .ok (.aload_n 0, 1) := by decide +kernel
theorem dX12_hungerFor_26 : decode cX12_hungerFor 26 = .ok (.iload 5, 2) := by decide +kernel
theorem dX12_hungerFor_28 : decode cX12_hungerFor 28 = .ok (.invokevirtual 42, 3) := by decide +kernel
theorem dX12_hungerFor_31 : decode cX12_hungerFor 31 = .ok (.ireturn, 1) := by decide +kernel
theorem dX12_hungerFor_5 : decode cX12_hungerFor 5 = .ok (.aload_n 0, 1) := by decide +kernel
theorem dX12_hungerFor_6 : decode cX12_hungerFor 6 = .ok (.aload_n 0, 1) := by decide +kernel
theorem dX12_hungerFor_7 : decode cX12_hungerFor 7 = .ok (.iload_n 1, 1) := by decide +kernel
theorem dX12_hungerFor_8 : decode cX12_hungerFor 8 = .ok (.invokevirtual 320, 3) := by decide +kernel
def vX12_hungerFor : List Cond := .code yX12_hungerFor cX12_hungerFor 7 (some .int) :: ([.fieldLink RX12 36 "HookPierModel" "thrown" "I", .methodLink RX12 320 yX12_isAnswer, .instanceMethod yX12_isAnswer, .selects RX12 yX12_isAnswer yX12_isAnswer, .initialized RX12, .code yX12_isAnswer cX12_isAnswer 2 (some .boolean), .fieldLink RX12 299 "HookPierModel" "pier" "LHookPierModel$Pier;", .methodLink RX12 353 yX12_refusesQuestion, .instanceMethod yX12_refusesQuestion, .selects RX12 yX12_refusesQuestion yX12_refusesQuestion, .code yX12_refusesQuestion cX12_refusesQuestion 5 (some .int), .methodLink RX12 42 yX12_refused, .instanceMethod yX12_refused, .selects RX12 yX12_refused yX12_refused, .code yX12_refused cX12_refused 2 (some .int), .fieldLink RX12 39 "HookPierModel" "trouble" "I", .fieldLink RX12 9 "HookPierModel" "where" "I"] ++ wsX120)
theorem iX12_hungerFor_X12 : ∀ w ∈ wsX120, w ∈ vX12_hungerFor := fun _ h => List.mem_cons_of_mem _ (List.mem_append_right _ h)
set_option maxRecDepth 20000 in
theorem gX12_hungerFor_0 : GoodIn vX12_hungerFor (wsV RX12 320 RX12 yX12_isAnswer vX12_isAnswer) := goodIn_app (goodIn_r [.methodLink RX12 320 yX12_isAnswer, .instanceMethod yX12_isAnswer, .selects RX12 yX12_isAnswer yX12_isAnswer, .initialized RX12] [2, 3, 4, 5] (by decide +kernel) (by decide +kernel)) (goodIn_ca (goodIn_r (.code yX12_isAnswer cX12_isAnswer 2 (some .boolean) :: [.fieldLink RX12 299 "HookPierModel" "pier" "LHookPierModel$Pier;"]) [6, 7] (by decide +kernel) (by decide +kernel) : GoodIn vX12_hungerFor (.code yX12_isAnswer cX12_isAnswer 2 (some .boolean) :: [.fieldLink RX12 299 "HookPierModel" "pier" "LHookPierModel$Pier;"])) (goodIn_sub iX12_hungerFor_X12 (by decide +kernel)))
set_option maxRecDepth 20000 in
theorem gX12_hungerFor_1 : GoodIn vX12_hungerFor (wsV RX12 353 RX12 yX12_refusesQuestion vX12_refusesQuestion) := goodIn_app (goodIn_r [.methodLink RX12 353 yX12_refusesQuestion, .instanceMethod yX12_refusesQuestion, .selects RX12 yX12_refusesQuestion yX12_refusesQuestion, .initialized RX12] [8, 9, 10, 5] (by decide +kernel) (by decide +kernel)) (goodIn_r (.code yX12_refusesQuestion cX12_refusesQuestion 5 (some .int) :: []) [11] (by decide +kernel) (by decide +kernel) : GoodIn vX12_hungerFor (.code yX12_refusesQuestion cX12_refusesQuestion 5 (some .int) :: []))
set_option maxRecDepth 20000 in
theorem gX12_hungerFor_2 : GoodIn vX12_hungerFor (wsV RX12 42 RX12 yX12_refused vX12_refused_1) := goodIn_app (goodIn_r [.methodLink RX12 42 yX12_refused, .instanceMethod yX12_refused, .selects RX12 yX12_refused yX12_refused, .initialized RX12] [12, 13, 14, 5] (by decide +kernel) (by decide +kernel)) (goodIn_ca (goodIn_r (.code yX12_refused cX12_refused 2 (some .int) :: [.fieldLink RX12 39 "HookPierModel" "trouble" "I", .fieldLink RX12 9 "HookPierModel" "where" "I"]) [15, 16, 17] (by decide +kernel) (by decide +kernel) : GoodIn vX12_hungerFor (.code yX12_refused cX12_refused 2 (some .int) :: [.fieldLink RX12 39 "HookPierModel" "trouble" "I", .fieldLink RX12 9 "HookPierModel" "where" "I"])) (goodIn_sub iX12_hungerFor_X12 (by decide +kernel)))
set_option maxHeartbeats 1000000 in
set_option maxRecDepth 100000 in
theorem kX12_hungerFor (l : Launch) (dC : Nat → ClassId) (dI : Nat → Nat → Nat) (a0 : Nat) (k1 : Int32) (k2 : Int32) (k3 : Int32) (k4 : Int32) (g5 : Value) (g6 : Value) (g7 : Value) (g8 : Value) (g9 : Value) (g10 : Value) (g11 : Value) (g12 : Value) (g13 : Value) (g14 : Value) (g15 : Value) (g16 : Value) (g17 : Value) (g18 : Value) (g19 : Value) (g20 : Value) (g21 : Value) (g22 : Value) (g23 : Value) (g24 : Value) (g25 : Value) (g26 : Value) (g27 : Value) (g28 : Value) (g29 : Value) (g30 : Value) (g31 : Value) (g32 : Value) (g33 : Value) (sz : Nat) : Met l yX12_hungerFor vX12_hungerFor ({ frames := 1, cells := 0, slots := 0, locals := 24 }) (PC (dC, dI) [.ref a0, .int k1, .int k2, .int k3, .int k4] sz [(a0, .inr (9, [g5, g6, g7, .null, g8, g9, g10, g11, g12, g13, g14, g15, g16, g17, g18, g19, g20, g21, g22, g23, g24, g25, g26, g27, g28, g29, g30, g31, g32, g33]))] []) (va_Qi (S := Unit) (fun (r : Int32) _ => r = (-1)) (fun _ t => BC (dC, dI) (va_A [(a0, .inr (9, [g5, g6, g7, .null, g8, g9, g10, g11, g12, g13, g14, g15, g16, g17, g18, g19, g20, g21, g22, g23, g24, g25, g26, g27, g28, g29, g30, g31, g32, g33]))] sz) [] [] t) (va_A [(a0, .inr (9, [g5, g6, g7, .null, g8, g9, g10, g11, g12, g13, g14, g15, g16, g17, g18, g19, g20, g21, g22, g23, g24, g25, g26, g27, g28, g29, g30, g31, g32, g33]))] sz)) 0 0 (va_A [(a0, .inr (9, [g5, g6, g7, .null, g8, g9, g10, g11, g12, g13, g14, g15, g16, g17, g18, g19, g20, g21, g22, g23, g24, g25, g26, g27, g28, g29, g30, g31, g32, g33]))] sz) := by
  refine Met.ofW (cc := cX12_hungerFor) (maxL := 7) (ret := (some .int)) (by decide) rfl ?_
  intro p e s m args below meth c s₁ B hml hv
  obtain ⟨rfl, hsz, hP, hK, hD0, hN⟩ := hv
  have hx := B.exec
  have hb := B.bytes
  have hr := B.returns
  have hts := atoms_spec (ws := vX12_hungerFor) B.pre
  have hown : s.vm.findClass RX12 = some m.cls := findClass_of_methodNamed B.named
  have hlocks := B.notSynchronized
  subst hsz
  have hD := hD0.self (sz := s.heap.size)
  generalize hAe : va_A [(a0, .inr (9, [g5, g6, g7, .null, g8, g9, g10, g11, g12, g13, g14, g15, g16, g17, g18, g19, g20, g21, g22, g23, g24, g25, g26, g27, g28, g29, g30, g31, g32, g33]))] s.heap.size = A at hD ⊢
  have hA : ∀ q : Nat, s.heap.size ≤ q → A q := fun q h => by rw [← hAe]; exact Or.inr h
  have hS : va_S A s.heap s.heap [] := va_S.rf
  have hP : va_P (dC, dI) vwCl [(a0, .inr (9, [g5, g6, g7, .null, g8, g9, g10, g11, g12, g13, g14, g15, g16, g17, g18, g19, g20, g21, g22, g23, g24, g25, g26, g27, g28, g29, g30, g31, g32, g33]))] s.heap := hP
  have hl := lv_entry ([.ref a0, .int k1, .int k2, .int k3, .int k4]) (n := 7) (Nat.le_of_ble_eq_true rfl)
  rw [lg_entry_eq]
  generalize (lg_sl ([.ref a0, .int k1, .int k2, .int k3, .int k4]) ++ List.replicate (7 - (lg_sl ([.ref a0, .int k1, .int k2, .int k3, .int k4])).length) Slot.unset).toArray = ls at hl ⊢
  have hl : lv_has ls 7 [(0, .ref a0), (1, .int k1), (2, .int k2), (3, .int k3), (4, .int k4)] := hl
  refine lv_aload_n hx hb dX12_hungerFor_0 rfl (lv_at hl 0 rfl) ?_
  refine lv_iconst (v := 0) hx hb dX12_hungerFor_1 (by decide) ?_
  refine va_put (D := (dC, dI)) (ci := 9) (v := .int 0) (ty := .int) (C := RX12) (T := TX12) (N := 30) hx hb hts iX12_hungerFor_X12 tyX12 tyX12_ok nmX12 hown hK hP hD hS 0 rfl rfl 0 (by decide) (hts (.fieldLink RX12 36 "HookPierModel" "thrown" "I") (List.mem_of_getElem? (i := 1) rfl)) (fun _ h9 => h9) rfl (by decide +kernel) rfl rfl (Nat.le_of_ble_eq_true rfl) dX12_hungerFor_2 (fun H locs hP hD hS => ?_)
  have hP : va_P (dC, dI) vwCl [(a0, .inr (9, [.int 0, g6, g7, .null, g8, g9, g10, g11, g12, g13, g14, g15, g16, g17, g18, g19, g20, g21, g22, g23, g24, g25, g26, g27, g28, g29, g30, g31, g32, g33]))] H := hP
  have hD : va_D A [(a0, .inr (9, [.int 0, g6, g7, .null, g8, g9, g10, g11, g12, g13, g14, g15, g16, g17, g18, g19, g20, g21, g22, g23, g24, g25, g26, g27, g28, g29, g30, g31, g32, g33]))] := hD
  refine lv_aload_n hx hb dX12_hungerFor_5 rfl (lv_at hl 0 rfl) ?_
  refine lv_aload_n hx hb dX12_hungerFor_6 rfl (lv_at hl 0 rfl) ?_
  refine lv_iload_n hx hb dX12_hungerFor_7 rfl (lv_at hl 1 rfl) ?_
  refine cl_i (wc := [(a0, .inr (9, [.int 0, g6, g7, .null, g8, g9, g10, g11, g12, g13, g14, g15, g16, g17, g18, g19, g20, g21, g22, g23, g24, g25, g26, g27, g28, g29, g30, g31, g32, g33]))]) (wr := []) (va_runV (As := [.int k1]) (rest := [.ref a0]) ⟨hx, hb, hml, hown, hts⟩ (kX12_isAnswer l dC dI a0 k1 (.int 0) (g6) (g7) (g8) (g9) (g10) (g11) (g12) (g13) (g14) (g15) (g16) (g17) (g18) (g19) (g20) (g21) (g22) (g23) (g24) (g25) (g26) (g27) (g28) (g29) (g30) (g31) (g32) (g33) H.size) (cwV 1 hts gX12_hungerFor_0 rfl rfl rfl (by decide +kernel) ⟨Nat.le_of_ble_eq_true rfl, Nat.le_of_ble_eq_true rfl⟩) (PV (hP.sub (ws' := [(a0, .inr (9, [.int 0, g6, g7, .null, g8, g9, g10, g11, g12, g13, g14, g15, g16, g17, g18, g19, g20, g21, g22, g23, g24, g25, g26, g27, g28, g29, g30, g31, g32, g33]))]) [0] rfl) (hK.sub (tys' := []) [] rfl) (hD.sub (ws' := [(a0, .inr (9, [.int 0, g6, g7, .null, g8, g9, g10, g11, g12, g13, g14, g15, g16, g17, g18, g19, g20, g21, g22, g23, g24, g25, g26, g27, g28, g29, g30, g31, g32, g33]))]) [0] (by decide) rfl) hN 0 rfl rfl) rfl rfl hl.1 rfl (lv_room (Nat.le_of_ble_eq_true rfl)) dX12_hungerFor_8 ⟨Nat.le_of_ble_eq_true rfl, Nat.le_of_ble_eq_true rfl⟩) hP hD hK hS hA [0] [] rfl rfl (by decide) (by decide) (fun z1 _u H locs hw hP hD hK hS => ?_)
  have hP : va_P (dC, dI) vwCl [(a0, .inr (9, [.int 0, g6, g7, .null, g8, g9, g10, g11, g12, g13, g14, g15, g16, g17, g18, g19, g20, g21, g22, g23, g24, g25, g26, g27, g28, g29, g30, g31, g32, g33]))] H := hP
  have hD : va_D A [(a0, .inr (9, [.int 0, g6, g7, .null, g8, g9, g10, g11, g12, g13, g14, g15, g16, g17, g18, g19, g20, g21, g22, g23, g24, g25, g26, g27, g28, g29, g30, g31, g32, g33]))] := hD
  have hK : va_K (dC, dI) vwCl [] s := hK
  obtain rfl : z1 = 0 := hw
  refine lv_iload_n hx hb dX12_hungerFor_11 rfl (lv_at hl 2 rfl) ?_
  refine lv_iload_n hx hb dX12_hungerFor_12 rfl (lv_at hl 3 rfl) ?_
  refine lv_iload hx hb dX12_hungerFor_13 (lv_at hl 4 rfl) ?_
  refine cl_i (wc := [(a0, .inr (9, [.int 0, g6, g7, .null, g8, g9, g10, g11, g12, g13, g14, g15, g16, g17, g18, g19, g20, g21, g22, g23, g24, g25, g26, g27, g28, g29, g30, g31, g32, g33]))]) (wr := []) (va_runV (As := [.int 0, .int k2, .int k3, .int k4]) (rest := []) ⟨hx, hb, hml, hown, hts⟩ (kX12_refusesQuestion l dC dI a0 k2 k3 k4 (.int 0) (g6) (g7) (.null) (g8) (g9) (g10) (g11) (g12) (g13) (g14) (g15) (g16) (g17) (g18) (g19) (g20) (g21) (g22) (g23) (g24) (g25) (g26) (g27) (g28) (g29) (g30) (g31) (g32) (g33) H.size) (cwV 4 hts gX12_hungerFor_1 rfl rfl rfl (by decide +kernel) ⟨Nat.le_of_ble_eq_true rfl, Nat.le_of_ble_eq_true rfl⟩) (PV (hP.sub (ws' := [(a0, .inr (9, [.int 0, g6, g7, .null, g8, g9, g10, g11, g12, g13, g14, g15, g16, g17, g18, g19, g20, g21, g22, g23, g24, g25, g26, g27, g28, g29, g30, g31, g32, g33]))]) [0] rfl) (hK.sub (tys' := []) [] rfl) (hD.sub (ws' := [(a0, .inr (9, [.int 0, g6, g7, .null, g8, g9, g10, g11, g12, g13, g14, g15, g16, g17, g18, g19, g20, g21, g22, g23, g24, g25, g26, g27, g28, g29, g30, g31, g32, g33]))]) [0] (by decide) rfl) hN 0 rfl rfl) rfl rfl hl.1 rfl (lv_room (Nat.le_of_ble_eq_true rfl)) dX12_hungerFor_15 ⟨Nat.le_of_ble_eq_true rfl, Nat.le_of_ble_eq_true rfl⟩) hP hD hK hS hA [0] [] rfl rfl (by decide) (by decide) (fun z2 _u H locs hw hP hD hK hS => ?_)
  have hP : va_P (dC, dI) vwCl [(a0, .inr (9, [.int 0, g6, g7, .null, g8, g9, g10, g11, g12, g13, g14, g15, g16, g17, g18, g19, g20, g21, g22, g23, g24, g25, g26, g27, g28, g29, g30, g31, g32, g33]))] H := hP
  have hD : va_D A [(a0, .inr (9, [.int 0, g6, g7, .null, g8, g9, g10, g11, g12, g13, g14, g15, g16, g17, g18, g19, g20, g21, g22, g23, g24, g25, g26, g27, g28, g29, g30, g31, g32, g33]))] := hD
  have hK : va_K (dC, dI) vwCl [] s := hK
  obtain rfl : z2 = 1 := hw
  refine lv_istore (lv' := [(5, .int 1), (0, .ref a0), (1, .int k1), (2, .int k2), (3, .int k3), (4, .int k4)]) hx hb dX12_hungerFor_18 hl (by decide) rfl (fun ls hl => ?_)
  refine lv_iload hx hb dX12_hungerFor_20 (lv_at hl 0 rfl) ?_
  refine lv_if_le (tgt := 32) hx hb dX12_hungerFor_22 (by decide) (fun c3 => absurd c3 (by decide)) (fun _ => ?_)
  refine lv_aload_n hx hb dX12_hungerFor_25 rfl (lv_at hl 1 rfl) ?_
  refine lv_iload hx hb dX12_hungerFor_26 (lv_at hl 0 rfl) ?_
  refine cl_i (wc := [(a0, .inr (9, [.int 0, g6, g7, .null, g8, g9, g10, g11, g12, g13, g14, g15, g16, g17, g18, g19, g20, g21, g22, g23, g24, g25, g26, g27, g28, g29, g30, g31, g32, g33]))]) (wr := []) (va_runV (As := [.int 1]) (rest := []) ⟨hx, hb, hml, hown, hts⟩ (kX12_refused_1 l dC dI a0 (.int 0) (g6) (g7) (.null) (g8) (g9) (g10) (g11) (g12) (g13) (g14) (g15) (g16) (g17) (g18) (g19) (g20) (g21) (g22) (g23) (g24) (g25) (g26) (g27) (g28) (g29) (g30) (g31) (g32) (g33) H.size) (cwV 1 hts gX12_hungerFor_2 rfl rfl rfl (by decide +kernel) ⟨Nat.le_of_ble_eq_true rfl, Nat.le_of_ble_eq_true rfl⟩) (PV (hP.sub (ws' := [(a0, .inr (9, [.int 0, g6, g7, .null, g8, g9, g10, g11, g12, g13, g14, g15, g16, g17, g18, g19, g20, g21, g22, g23, g24, g25, g26, g27, g28, g29, g30, g31, g32, g33]))]) [0] rfl) (hK.sub (tys' := []) [] rfl) (hD.sub (ws' := [(a0, .inr (9, [.int 0, g6, g7, .null, g8, g9, g10, g11, g12, g13, g14, g15, g16, g17, g18, g19, g20, g21, g22, g23, g24, g25, g26, g27, g28, g29, g30, g31, g32, g33]))]) [0] (by decide) rfl) hN 0 rfl rfl) rfl rfl hl.1 rfl (lv_room (Nat.le_of_ble_eq_true rfl)) dX12_hungerFor_28 ⟨Nat.le_of_ble_eq_true rfl, Nat.le_of_ble_eq_true rfl⟩) hP hD hK hS hA [0] [] rfl rfl (by decide) (by decide) (fun z4 _u H locs hw hP hD hK hS => ?_)
  have hP : va_P (dC, dI) vwCl [(a0, .inr (9, [.int 0, .int 1, .int (-1), .null, g8, g9, g10, g11, g12, g13, g14, g15, g16, g17, g18, g19, g20, g21, g22, g23, g24, g25, g26, g27, g28, g29, g30, g31, g32, g33]))] H := hP
  have hD : va_D A [(a0, .inr (9, [.int 0, .int 1, .int (-1), .null, g8, g9, g10, g11, g12, g13, g14, g15, g16, g17, g18, g19, g20, g21, g22, g23, g24, g25, g26, g27, g28, g29, g30, g31, g32, g33]))] := hD
  have hK : va_K (dC, dI) vwCl [] s := hK
  obtain rfl : z4 = (-1) := hw
  have hP9 := hP.sub (ws' := []) [] rfl
  have hD9 := hD.sub (ws' := []) [] (by decide) rfl
  have hK9 := hK.sub (tys' := []) [] rfl
  exact W.iret (v := (-1)) hx hb hr (fun t ht hW => ⟨⟨(-1), (), rfl, rfl, by rw [ht]; exact hP9, va_K.moved hW.alike hK9, hD9⟩, hS.F ht⟩) hS.2.2 dX12_hungerFor_31
theorem dX10_freeSpots_0 : decode cX10_freeSpots 0 = .ok (.aload_n 0, 1) := by decide +kernel
theorem dX10_freeSpots_1 : decode cX10_freeSpots 1 = .ok (.aload_n 0, 1) := by decide +kernel
theorem dX10_freeSpots_12 : decode cX10_freeSpots 12 = .ok (.iconst (-1), 1) := by decide +kernel
theorem dX10_freeSpots_13 : decode cX10_freeSpots 13 = .ok (.ireturn, 1) := by decide +kernel
theorem dX10_freeSpots_2 : decode cX10_freeSpots 2 = .ok (.iload_n 1, 1) := by decide +kernel
theorem dX10_freeSpots_3 : decode cX10_freeSpots 3 = .ok (.invokevirtual 143, 3) := by decide +kernel
theorem dX10_freeSpots_6 : decode cX10_freeSpots 6 = .ok (.invokevirtual 79, 3) := by decide +kernel
theorem dX10_freeSpots_9 : decode cX10_freeSpots 9 = .ok (.ifCond .eq 5, 3) := by decide +kernel
def vX10_freeSpots : List Cond := .code yX10_freeSpots cX10_freeSpots 4 (some .int) :: ([.methodLink RX10 143 yX10_askerTrouble, .instanceMethod yX10_askerTrouble, .selects RX10 yX10_askerTrouble yX10_askerTrouble, .initialized RX10, .code yX10_askerTrouble cX10_askerTrouble 2 (some .int), .fieldLink RX10 10 "HookPier" "plan" "LHookPier$Plan;", .methodLink RX10 236 yX6_hasAsker, .instanceMethod yX6_hasAsker, .selects RX6 yX6_hasAsker yX6_hasAsker, .initialized RX6, .code yX6_hasAsker cX6_hasAsker 2 (some .boolean), .fieldLink RX6 27 "HookPier$Plan" "askers" "I", .code yX10_within cX10_within 3 (some .boolean), .static yX10_within, .methodLink RX10 79 yX10_refused, .instanceMethod yX10_refused, .selects RX10 yX10_refused yX10_refused, .code yX10_refused cX10_refused 2 (some .boolean), .fieldLink RX10 61 "HookPier" "troubleNow" "I"] ++ wsX100 ++ wsX60)
theorem iX10_freeSpots_X10 : ∀ w ∈ wsX100, w ∈ vX10_freeSpots := fun _ h => List.mem_cons_of_mem _ (List.mem_append_left _ (List.mem_append_right _ h))
theorem iX10_freeSpots_X6 : ∀ w ∈ wsX60, w ∈ vX10_freeSpots := fun _ h => List.mem_cons_of_mem _ (List.mem_append_right _ h)
set_option maxRecDepth 20000 in
theorem gX10_freeSpots_0 : GoodIn vX10_freeSpots (wsV RX10 143 RX10 yX10_askerTrouble vX10_askerTrouble) := goodIn_app (goodIn_r [.methodLink RX10 143 yX10_askerTrouble, .instanceMethod yX10_askerTrouble, .selects RX10 yX10_askerTrouble yX10_askerTrouble, .initialized RX10] [1, 2, 3, 4] (by decide +kernel) (by decide +kernel)) (goodIn_ca (goodIn_ca (goodIn_r (.code yX10_askerTrouble cX10_askerTrouble 2 (some .int) :: [.fieldLink RX10 10 "HookPier" "plan" "LHookPier$Plan;", .methodLink RX10 236 yX6_hasAsker, .instanceMethod yX6_hasAsker, .selects RX6 yX6_hasAsker yX6_hasAsker, .initialized RX6, .code yX6_hasAsker cX6_hasAsker 2 (some .boolean), .fieldLink RX6 27 "HookPier$Plan" "askers" "I", .code yX10_within cX10_within 3 (some .boolean), .initialized RX10, .static yX10_within]) [5, 6, 7, 8, 9, 10, 11, 12, 13, 4, 14] (by decide +kernel) (by decide +kernel) : GoodIn vX10_freeSpots (.code yX10_askerTrouble cX10_askerTrouble 2 (some .int) :: [.fieldLink RX10 10 "HookPier" "plan" "LHookPier$Plan;", .methodLink RX10 236 yX6_hasAsker, .instanceMethod yX6_hasAsker, .selects RX6 yX6_hasAsker yX6_hasAsker, .initialized RX6, .code yX6_hasAsker cX6_hasAsker 2 (some .boolean), .fieldLink RX6 27 "HookPier$Plan" "askers" "I", .code yX10_within cX10_within 3 (some .boolean), .initialized RX10, .static yX10_within])) (goodIn_sub iX10_freeSpots_X10 (by decide +kernel))) (goodIn_sub iX10_freeSpots_X6 (by decide +kernel)))
set_option maxRecDepth 20000 in
theorem gX10_freeSpots_1 : GoodIn vX10_freeSpots (wsV RX10 79 RX10 yX10_refused vX10_refused_3) := goodIn_app (goodIn_r [.methodLink RX10 79 yX10_refused, .instanceMethod yX10_refused, .selects RX10 yX10_refused yX10_refused, .initialized RX10] [15, 16, 17, 4] (by decide +kernel) (by decide +kernel)) (goodIn_ca (goodIn_r (.code yX10_refused cX10_refused 2 (some .boolean) :: [.fieldLink RX10 61 "HookPier" "troubleNow" "I"]) [18, 19] (by decide +kernel) (by decide +kernel) : GoodIn vX10_freeSpots (.code yX10_refused cX10_refused 2 (some .boolean) :: [.fieldLink RX10 61 "HookPier" "troubleNow" "I"])) (goodIn_sub iX10_freeSpots_X10 (by decide +kernel)))
set_option maxHeartbeats 1000000 in
set_option maxRecDepth 100000 in
theorem kX10_freeSpots (l : Launch) (dC : Nat → ClassId) (dI : Nat → Nat → Nat) (a0 : Nat) (k1 : Int32) (a2 : Nat) (g3 : Value) (g4 : Value) (g5 : Value) (g6 : Value) (g7 : Value) (g8 : Value) (g9 : Value) (g10 : Value) (g11 : Value) (g12 : Value) (g13 : Value) (g14 : Value) (g15 : Value) (g16 : Value) (g17 : Value) (g18 : Value) (g19 : Value) (g20 : Value) (g21 : Value) (g22 : Value) (g23 : Value) (g24 : Value) (g25 : Value) (g26 : Value) (g27 : Value) (g28 : Value) (sz : Nat) : Met l yX10_freeSpots vX10_freeSpots ({ frames := 3, cells := 0, slots := 0, locals := 64 }) (PC (dC, dI) [.ref a0, .int k1] sz [(a0, .inr (7, [.ref a2, g3, g4, g5, g6, g7, g8, g9, g10, g11])), (a2, .inr (4, [g12, g13, g14, g15, g16, .int 0, g17, g18, g19, g20, g21, g22, g23, g24, g25, g26, g27, g28]))] []) (va_Qi (S := Unit) (fun (r : Int32) _ => r = (-1)) (fun _ t => BC (dC, dI) (va_A [(a0, .inr (7, [.ref a2, g3, g4, g5, g6, g7, g8, g9, g10, g11])), (a2, .inr (4, [g12, g13, g14, g15, g16, .int 0, g17, g18, g19, g20, g21, g22, g23, g24, g25, g26, g27, g28]))] sz) [] [] t) (va_A [(a0, .inr (7, [.ref a2, g3, g4, g5, g6, g7, g8, g9, g10, g11])), (a2, .inr (4, [g12, g13, g14, g15, g16, .int 0, g17, g18, g19, g20, g21, g22, g23, g24, g25, g26, g27, g28]))] sz)) 0 0 (va_A [(a0, .inr (7, [.ref a2, g3, g4, g5, g6, g7, g8, g9, g10, g11])), (a2, .inr (4, [g12, g13, g14, g15, g16, .int 0, g17, g18, g19, g20, g21, g22, g23, g24, g25, g26, g27, g28]))] sz) := by
  refine Met.ofW (cc := cX10_freeSpots) (maxL := 4) (ret := (some .int)) (by decide) rfl ?_
  intro p e s m args below meth c s₁ B hml hv
  obtain ⟨rfl, hsz, hP, hK, hD0, hN⟩ := hv
  have hx := B.exec
  have hb := B.bytes
  have hr := B.returns
  have hts := atoms_spec (ws := vX10_freeSpots) B.pre
  have hown : s.vm.findClass RX10 = some m.cls := findClass_of_methodNamed B.named
  have hlocks := B.notSynchronized
  subst hsz
  have hD := hD0.self (sz := s.heap.size)
  generalize hAe : va_A [(a0, .inr (7, [.ref a2, g3, g4, g5, g6, g7, g8, g9, g10, g11])), (a2, .inr (4, [g12, g13, g14, g15, g16, .int 0, g17, g18, g19, g20, g21, g22, g23, g24, g25, g26, g27, g28]))] s.heap.size = A at hD ⊢
  have hA : ∀ q : Nat, s.heap.size ≤ q → A q := fun q h => by rw [← hAe]; exact Or.inr h
  have hS : va_S A s.heap s.heap [] := va_S.rf
  have hP : va_P (dC, dI) vwCl [(a0, .inr (7, [.ref a2, g3, g4, g5, g6, g7, g8, g9, g10, g11])), (a2, .inr (4, [g12, g13, g14, g15, g16, .int 0, g17, g18, g19, g20, g21, g22, g23, g24, g25, g26, g27, g28]))] s.heap := hP
  have hl := lv_entry ([.ref a0, .int k1]) (n := 4) (Nat.le_of_ble_eq_true rfl)
  rw [lg_entry_eq]
  generalize (lg_sl ([.ref a0, .int k1]) ++ List.replicate (4 - (lg_sl ([.ref a0, .int k1])).length) Slot.unset).toArray = ls at hl ⊢
  have hl : lv_has ls 4 [(0, .ref a0), (1, .int k1)] := hl
  refine lv_aload_n hx hb dX10_freeSpots_0 rfl (lv_at hl 0 rfl) ?_
  refine lv_aload_n hx hb dX10_freeSpots_1 rfl (lv_at hl 0 rfl) ?_
  refine lv_iload_n hx hb dX10_freeSpots_2 rfl (lv_at hl 1 rfl) ?_
  refine cl_i (wc := [(a0, .inr (7, [.ref a2, g3, g4, g5, g6, g7, g8, g9, g10, g11])), (a2, .inr (4, [g12, g13, g14, g15, g16, .int 0, g17, g18, g19, g20, g21, g22, g23, g24, g25, g26, g27, g28]))]) (wr := []) (va_runV (As := [.int k1]) (rest := [.ref a0]) ⟨hx, hb, hml, hown, hts⟩ (kX10_askerTrouble l dC dI a0 k1 a2 (g3) (g4) (g5) (g6) (g7) (g8) (g9) (g10) (g11) (g12) (g13) (g14) (g15) (g16) (g17) (g18) (g19) (g20) (g21) (g22) (g23) (g24) (g25) (g26) (g27) (g28) s.heap.size) (cwV 1 hts gX10_freeSpots_0 rfl rfl rfl (by decide +kernel) ⟨Nat.le_of_ble_eq_true rfl, Nat.le_of_ble_eq_true rfl⟩) (PV (hP.sub (ws' := [(a0, .inr (7, [.ref a2, g3, g4, g5, g6, g7, g8, g9, g10, g11])), (a2, .inr (4, [g12, g13, g14, g15, g16, .int 0, g17, g18, g19, g20, g21, g22, g23, g24, g25, g26, g27, g28]))]) [0, 1] rfl) (hK.sub (tys' := []) [] rfl) (hD.sub (ws' := [(a0, .inr (7, [.ref a2, g3, g4, g5, g6, g7, g8, g9, g10, g11])), (a2, .inr (4, [g12, g13, g14, g15, g16, .int 0, g17, g18, g19, g20, g21, g22, g23, g24, g25, g26, g27, g28]))]) [0, 1] (by decide) rfl) hN 0 rfl rfl) rfl rfl hl.1 rfl (lv_room (Nat.le_of_ble_eq_true rfl)) dX10_freeSpots_3 ⟨Nat.le_of_ble_eq_true rfl, Nat.le_of_ble_eq_true rfl⟩) hP hD hK hS hA [0, 1] [] rfl rfl (by decide) (by decide) (fun z1 _u H locs hw hP hD hK hS => ?_)
  have hP : va_P (dC, dI) vwCl [(a0, .inr (7, [.ref a2, g3, g4, g5, g6, g7, g8, g9, g10, g11])), (a2, .inr (4, [g12, g13, g14, g15, g16, .int 0, g17, g18, g19, g20, g21, g22, g23, g24, g25, g26, g27, g28]))] H := hP
  have hD : va_D A [(a0, .inr (7, [.ref a2, g3, g4, g5, g6, g7, g8, g9, g10, g11])), (a2, .inr (4, [g12, g13, g14, g15, g16, .int 0, g17, g18, g19, g20, g21, g22, g23, g24, g25, g26, g27, g28]))] := hD
  have hK : va_K (dC, dI) vwCl [] s := hK
  obtain rfl : z1 = 1 := hw
  refine cl_i (wc := [(a0, .inr (7, [.ref a2, g3, g4, g5, g6, g7, g8, g9, g10, g11]))]) (wr := [(a2, .inr (4, [g12, g13, g14, g15, g16, .int 0, g17, g18, g19, g20, g21, g22, g23, g24, g25, g26, g27, g28]))]) (va_runV (As := [.int 1]) (rest := []) ⟨hx, hb, hml, hown, hts⟩ (kX10_refused_3 l dC dI a0 (.ref a2) (g3) (g4) (g5) (g6) (g7) (g8) (g9) (g10) (g11) H.size) (cwV 1 hts gX10_freeSpots_1 rfl rfl rfl (by decide +kernel) ⟨Nat.le_of_ble_eq_true rfl, Nat.le_of_ble_eq_true rfl⟩) (PV (hP.sub (ws' := [(a0, .inr (7, [.ref a2, g3, g4, g5, g6, g7, g8, g9, g10, g11]))]) [0] rfl) (hK.sub (tys' := []) [] rfl) (hD.sub (ws' := [(a0, .inr (7, [.ref a2, g3, g4, g5, g6, g7, g8, g9, g10, g11]))]) [0] (by decide) rfl) hN 0 rfl rfl) rfl rfl hl.1 rfl (lv_room (Nat.le_of_ble_eq_true rfl)) dX10_freeSpots_6 ⟨Nat.le_of_ble_eq_true rfl, Nat.le_of_ble_eq_true rfl⟩) hP hD hK hS hA [0] [1] rfl rfl (by decide) (by decide) (fun z2 _u H locs hw hP hD hK hS => ?_)
  have hP : va_P (dC, dI) vwCl [(a2, .inr (4, [g12, g13, g14, g15, g16, .int 0, g17, g18, g19, g20, g21, g22, g23, g24, g25, g26, g27, g28])), (a0, .inr (7, [.ref a2, g3, g4, g5, g6, g7, g8, g9, .int 1, g11]))] H := hP
  have hD : va_D A [(a2, .inr (4, [g12, g13, g14, g15, g16, .int 0, g17, g18, g19, g20, g21, g22, g23, g24, g25, g26, g27, g28])), (a0, .inr (7, [.ref a2, g3, g4, g5, g6, g7, g8, g9, .int 1, g11]))] := hD
  have hK : va_K (dC, dI) vwCl [] s := hK
  obtain rfl : z2 = 1 := hw
  refine lv_if_eq (tgt := 14) hx hb dX10_freeSpots_9 (by decide) (fun c3 => absurd c3 (by decide)) (fun _ => ?_)
  refine lv_iconst (v := (-1)) hx hb dX10_freeSpots_12 (by decide) ?_
  have hP9 := hP.sub (ws' := []) [] rfl
  have hD9 := hD.sub (ws' := []) [] (by decide) rfl
  have hK9 := hK.sub (tys' := []) [] rfl
  exact W.iret (v := (-1)) hx hb hr (fun t ht hW => ⟨⟨(-1), (), rfl, rfl, by rw [ht]; exact hP9, va_K.moved hW.alike hK9, hD9⟩, hS.F ht⟩) hS.2.2 dX10_freeSpots_13
theorem dX12_freeSpots_0 : decode cX12_freeSpots 0 = .ok (.aload_n 0, 1) := by decide +kernel
theorem dX12_freeSpots_1 : decode cX12_freeSpots 1 = .ok (.iconst 0, 1) := by decide +kernel
theorem dX12_freeSpots_10 : decode cX12_freeSpots 10 = .ok (.ifCond .ne 9, 3) := by decide +kernel
theorem dX12_freeSpots_13 : decode cX12_freeSpots 13 = .ok (.aload_n 0, 1) := by decide +kernel
theorem dX12_freeSpots_14 : decode cX12_freeSpots 14 = .ok (.iconst 1, 1) := by decide +kernel
theorem dX12_freeSpots_15 : decode cX12_freeSpots 15 = .ok (.invokevirtual 42, 3) := by decide +kernel
theorem dX12_freeSpots_18 : decode cX12_freeSpots 18 = .ok (.ireturn, 1) := by decide +kernel
theorem dX12_freeSpots_2 : decode cX12_freeSpots 2 = .ok (.putfield 36, 3) := by decide +kernel
theorem dX12_freeSpots_5 : decode cX12_freeSpots 5 = .ok (.aload_n 0, 1) := by decide +kernel
theorem dX12_freeSpots_6 : decode cX12_freeSpots 6 = .ok (.iload_n 1, 1) := by decide +kernel
theorem dX12_freeSpots_7 : decode cX12_freeSpots 7 = .ok (.invokevirtual 334, 3) := by decide +kernel
def vX12_freeSpots : List Cond := .code yX12_freeSpots cX12_freeSpots 6 (some .int) :: ([.fieldLink RX12 36 "HookPierModel" "thrown" "I", .methodLink RX12 334 yX12_isAsker, .instanceMethod yX12_isAsker, .selects RX12 yX12_isAsker yX12_isAsker, .initialized RX12, .code yX12_isAsker cX12_isAsker 2 (some .boolean), .fieldLink RX12 299 "HookPierModel" "pier" "LHookPierModel$Pier;", .methodLink RX12 42 yX12_refused, .instanceMethod yX12_refused, .selects RX12 yX12_refused yX12_refused, .code yX12_refused cX12_refused 2 (some .int), .fieldLink RX12 39 "HookPierModel" "trouble" "I", .fieldLink RX12 9 "HookPierModel" "where" "I"] ++ wsX120)
theorem iX12_freeSpots_X12 : ∀ w ∈ wsX120, w ∈ vX12_freeSpots := fun _ h => List.mem_cons_of_mem _ (List.mem_append_right _ h)
set_option maxRecDepth 20000 in
theorem gX12_freeSpots_0 : GoodIn vX12_freeSpots (wsV RX12 334 RX12 yX12_isAsker vX12_isAsker) := goodIn_app (goodIn_r [.methodLink RX12 334 yX12_isAsker, .instanceMethod yX12_isAsker, .selects RX12 yX12_isAsker yX12_isAsker, .initialized RX12] [2, 3, 4, 5] (by decide +kernel) (by decide +kernel)) (goodIn_ca (goodIn_r (.code yX12_isAsker cX12_isAsker 2 (some .boolean) :: [.fieldLink RX12 299 "HookPierModel" "pier" "LHookPierModel$Pier;"]) [6, 7] (by decide +kernel) (by decide +kernel) : GoodIn vX12_freeSpots (.code yX12_isAsker cX12_isAsker 2 (some .boolean) :: [.fieldLink RX12 299 "HookPierModel" "pier" "LHookPierModel$Pier;"])) (goodIn_sub iX12_freeSpots_X12 (by decide +kernel)))
set_option maxRecDepth 20000 in
theorem gX12_freeSpots_1 : GoodIn vX12_freeSpots (wsV RX12 42 RX12 yX12_refused vX12_refused_1) := goodIn_app (goodIn_r [.methodLink RX12 42 yX12_refused, .instanceMethod yX12_refused, .selects RX12 yX12_refused yX12_refused, .initialized RX12] [8, 9, 10, 5] (by decide +kernel) (by decide +kernel)) (goodIn_ca (goodIn_r (.code yX12_refused cX12_refused 2 (some .int) :: [.fieldLink RX12 39 "HookPierModel" "trouble" "I", .fieldLink RX12 9 "HookPierModel" "where" "I"]) [11, 12, 13] (by decide +kernel) (by decide +kernel) : GoodIn vX12_freeSpots (.code yX12_refused cX12_refused 2 (some .int) :: [.fieldLink RX12 39 "HookPierModel" "trouble" "I", .fieldLink RX12 9 "HookPierModel" "where" "I"])) (goodIn_sub iX12_freeSpots_X12 (by decide +kernel)))
set_option maxHeartbeats 1000000 in
set_option maxRecDepth 100000 in
theorem kX12_freeSpots (l : Launch) (dC : Nat → ClassId) (dI : Nat → Nat → Nat) (a0 : Nat) (k1 : Int32) (g2 : Value) (g3 : Value) (g4 : Value) (g5 : Value) (g6 : Value) (g7 : Value) (g8 : Value) (g9 : Value) (g10 : Value) (g11 : Value) (g12 : Value) (g13 : Value) (g14 : Value) (g15 : Value) (g16 : Value) (g17 : Value) (g18 : Value) (g19 : Value) (g20 : Value) (g21 : Value) (g22 : Value) (g23 : Value) (g24 : Value) (g25 : Value) (g26 : Value) (g27 : Value) (g28 : Value) (g29 : Value) (g30 : Value) (sz : Nat) : Met l yX12_freeSpots vX12_freeSpots ({ frames := 1, cells := 0, slots := 0, locals := 21 }) (PC (dC, dI) [.ref a0, .int k1] sz [(a0, .inr (9, [g2, g3, g4, .null, g5, g6, g7, g8, g9, g10, g11, g12, g13, g14, g15, g16, g17, g18, g19, g20, g21, g22, g23, g24, g25, g26, g27, g28, g29, g30]))] []) (va_Qi (S := Unit) (fun (r : Int32) _ => r = (-1)) (fun _ t => BC (dC, dI) (va_A [(a0, .inr (9, [g2, g3, g4, .null, g5, g6, g7, g8, g9, g10, g11, g12, g13, g14, g15, g16, g17, g18, g19, g20, g21, g22, g23, g24, g25, g26, g27, g28, g29, g30]))] sz) [] [] t) (va_A [(a0, .inr (9, [g2, g3, g4, .null, g5, g6, g7, g8, g9, g10, g11, g12, g13, g14, g15, g16, g17, g18, g19, g20, g21, g22, g23, g24, g25, g26, g27, g28, g29, g30]))] sz)) 0 0 (va_A [(a0, .inr (9, [g2, g3, g4, .null, g5, g6, g7, g8, g9, g10, g11, g12, g13, g14, g15, g16, g17, g18, g19, g20, g21, g22, g23, g24, g25, g26, g27, g28, g29, g30]))] sz) := by
  refine Met.ofW (cc := cX12_freeSpots) (maxL := 6) (ret := (some .int)) (by decide) rfl ?_
  intro p e s m args below meth c s₁ B hml hv
  obtain ⟨rfl, hsz, hP, hK, hD0, hN⟩ := hv
  have hx := B.exec
  have hb := B.bytes
  have hr := B.returns
  have hts := atoms_spec (ws := vX12_freeSpots) B.pre
  have hown : s.vm.findClass RX12 = some m.cls := findClass_of_methodNamed B.named
  have hlocks := B.notSynchronized
  subst hsz
  have hD := hD0.self (sz := s.heap.size)
  generalize hAe : va_A [(a0, .inr (9, [g2, g3, g4, .null, g5, g6, g7, g8, g9, g10, g11, g12, g13, g14, g15, g16, g17, g18, g19, g20, g21, g22, g23, g24, g25, g26, g27, g28, g29, g30]))] s.heap.size = A at hD ⊢
  have hA : ∀ q : Nat, s.heap.size ≤ q → A q := fun q h => by rw [← hAe]; exact Or.inr h
  have hS : va_S A s.heap s.heap [] := va_S.rf
  have hP : va_P (dC, dI) vwCl [(a0, .inr (9, [g2, g3, g4, .null, g5, g6, g7, g8, g9, g10, g11, g12, g13, g14, g15, g16, g17, g18, g19, g20, g21, g22, g23, g24, g25, g26, g27, g28, g29, g30]))] s.heap := hP
  have hl := lv_entry ([.ref a0, .int k1]) (n := 6) (Nat.le_of_ble_eq_true rfl)
  rw [lg_entry_eq]
  generalize (lg_sl ([.ref a0, .int k1]) ++ List.replicate (6 - (lg_sl ([.ref a0, .int k1])).length) Slot.unset).toArray = ls at hl ⊢
  have hl : lv_has ls 6 [(0, .ref a0), (1, .int k1)] := hl
  refine lv_aload_n hx hb dX12_freeSpots_0 rfl (lv_at hl 0 rfl) ?_
  refine lv_iconst (v := 0) hx hb dX12_freeSpots_1 (by decide) ?_
  refine va_put (D := (dC, dI)) (ci := 9) (v := .int 0) (ty := .int) (C := RX12) (T := TX12) (N := 30) hx hb hts iX12_freeSpots_X12 tyX12 tyX12_ok nmX12 hown hK hP hD hS 0 rfl rfl 0 (by decide) (hts (.fieldLink RX12 36 "HookPierModel" "thrown" "I") (List.mem_of_getElem? (i := 1) rfl)) (fun _ h9 => h9) rfl (by decide +kernel) rfl rfl (Nat.le_of_ble_eq_true rfl) dX12_freeSpots_2 (fun H locs hP hD hS => ?_)
  have hP : va_P (dC, dI) vwCl [(a0, .inr (9, [.int 0, g3, g4, .null, g5, g6, g7, g8, g9, g10, g11, g12, g13, g14, g15, g16, g17, g18, g19, g20, g21, g22, g23, g24, g25, g26, g27, g28, g29, g30]))] H := hP
  have hD : va_D A [(a0, .inr (9, [.int 0, g3, g4, .null, g5, g6, g7, g8, g9, g10, g11, g12, g13, g14, g15, g16, g17, g18, g19, g20, g21, g22, g23, g24, g25, g26, g27, g28, g29, g30]))] := hD
  refine lv_aload_n hx hb dX12_freeSpots_5 rfl (lv_at hl 0 rfl) ?_
  refine lv_iload_n hx hb dX12_freeSpots_6 rfl (lv_at hl 1 rfl) ?_
  refine cl_i (wc := [(a0, .inr (9, [.int 0, g3, g4, .null, g5, g6, g7, g8, g9, g10, g11, g12, g13, g14, g15, g16, g17, g18, g19, g20, g21, g22, g23, g24, g25, g26, g27, g28, g29, g30]))]) (wr := []) (va_runV (As := [.int k1]) (rest := []) ⟨hx, hb, hml, hown, hts⟩ (kX12_isAsker l dC dI a0 k1 (.int 0) (g3) (g4) (g5) (g6) (g7) (g8) (g9) (g10) (g11) (g12) (g13) (g14) (g15) (g16) (g17) (g18) (g19) (g20) (g21) (g22) (g23) (g24) (g25) (g26) (g27) (g28) (g29) (g30) H.size) (cwV 1 hts gX12_freeSpots_0 rfl rfl rfl (by decide +kernel) ⟨Nat.le_of_ble_eq_true rfl, Nat.le_of_ble_eq_true rfl⟩) (PV (hP.sub (ws' := [(a0, .inr (9, [.int 0, g3, g4, .null, g5, g6, g7, g8, g9, g10, g11, g12, g13, g14, g15, g16, g17, g18, g19, g20, g21, g22, g23, g24, g25, g26, g27, g28, g29, g30]))]) [0] rfl) (hK.sub (tys' := []) [] rfl) (hD.sub (ws' := [(a0, .inr (9, [.int 0, g3, g4, .null, g5, g6, g7, g8, g9, g10, g11, g12, g13, g14, g15, g16, g17, g18, g19, g20, g21, g22, g23, g24, g25, g26, g27, g28, g29, g30]))]) [0] (by decide) rfl) hN 0 rfl rfl) rfl rfl hl.1 rfl (lv_room (Nat.le_of_ble_eq_true rfl)) dX12_freeSpots_7 ⟨Nat.le_of_ble_eq_true rfl, Nat.le_of_ble_eq_true rfl⟩) hP hD hK hS hA [0] [] rfl rfl (by decide) (by decide) (fun z1 _u H locs hw hP hD hK hS => ?_)
  have hP : va_P (dC, dI) vwCl [(a0, .inr (9, [.int 0, g3, g4, .null, g5, g6, g7, g8, g9, g10, g11, g12, g13, g14, g15, g16, g17, g18, g19, g20, g21, g22, g23, g24, g25, g26, g27, g28, g29, g30]))] H := hP
  have hD : va_D A [(a0, .inr (9, [.int 0, g3, g4, .null, g5, g6, g7, g8, g9, g10, g11, g12, g13, g14, g15, g16, g17, g18, g19, g20, g21, g22, g23, g24, g25, g26, g27, g28, g29, g30]))] := hD
  have hK : va_K (dC, dI) vwCl [] s := hK
  obtain rfl : z1 = 0 := hw
  refine lv_if_ne (tgt := 19) hx hb dX12_freeSpots_10 (by decide) (fun c2 => absurd c2 (by decide)) (fun _ => ?_)
  refine lv_aload_n hx hb dX12_freeSpots_13 rfl (lv_at hl 0 rfl) ?_
  refine lv_iconst (v := 1) hx hb dX12_freeSpots_14 (by decide) ?_
  refine cl_i (wc := [(a0, .inr (9, [.int 0, g3, g4, .null, g5, g6, g7, g8, g9, g10, g11, g12, g13, g14, g15, g16, g17, g18, g19, g20, g21, g22, g23, g24, g25, g26, g27, g28, g29, g30]))]) (wr := []) (va_runV (As := [.int 1]) (rest := []) ⟨hx, hb, hml, hown, hts⟩ (kX12_refused_1 l dC dI a0 (.int 0) (g3) (g4) (.null) (g5) (g6) (g7) (g8) (g9) (g10) (g11) (g12) (g13) (g14) (g15) (g16) (g17) (g18) (g19) (g20) (g21) (g22) (g23) (g24) (g25) (g26) (g27) (g28) (g29) (g30) H.size) (cwV 1 hts gX12_freeSpots_1 rfl rfl rfl (by decide +kernel) ⟨Nat.le_of_ble_eq_true rfl, Nat.le_of_ble_eq_true rfl⟩) (PV (hP.sub (ws' := [(a0, .inr (9, [.int 0, g3, g4, .null, g5, g6, g7, g8, g9, g10, g11, g12, g13, g14, g15, g16, g17, g18, g19, g20, g21, g22, g23, g24, g25, g26, g27, g28, g29, g30]))]) [0] rfl) (hK.sub (tys' := []) [] rfl) (hD.sub (ws' := [(a0, .inr (9, [.int 0, g3, g4, .null, g5, g6, g7, g8, g9, g10, g11, g12, g13, g14, g15, g16, g17, g18, g19, g20, g21, g22, g23, g24, g25, g26, g27, g28, g29, g30]))]) [0] (by decide) rfl) hN 0 rfl rfl) rfl rfl hl.1 rfl (lv_room (Nat.le_of_ble_eq_true rfl)) dX12_freeSpots_15 ⟨Nat.le_of_ble_eq_true rfl, Nat.le_of_ble_eq_true rfl⟩) hP hD hK hS hA [0] [] rfl rfl (by decide) (by decide) (fun z3 _u H locs hw hP hD hK hS => ?_)
  have hP : va_P (dC, dI) vwCl [(a0, .inr (9, [.int 0, .int 1, .int (-1), .null, g5, g6, g7, g8, g9, g10, g11, g12, g13, g14, g15, g16, g17, g18, g19, g20, g21, g22, g23, g24, g25, g26, g27, g28, g29, g30]))] H := hP
  have hD : va_D A [(a0, .inr (9, [.int 0, .int 1, .int (-1), .null, g5, g6, g7, g8, g9, g10, g11, g12, g13, g14, g15, g16, g17, g18, g19, g20, g21, g22, g23, g24, g25, g26, g27, g28, g29, g30]))] := hD
  have hK : va_K (dC, dI) vwCl [] s := hK
  obtain rfl : z3 = (-1) := hw
  have hP9 := hP.sub (ws' := []) [] rfl
  have hD9 := hD.sub (ws' := []) [] (by decide) rfl
  have hK9 := hK.sub (tys' := []) [] rfl
  exact W.iret (v := (-1)) hx hb hr (fun t ht hW => ⟨⟨(-1), (), rfl, rfl, by rw [ht]; exact hP9, va_K.moved hW.alike hK9, hD9⟩, hS.F ht⟩) hS.2.2 dX12_freeSpots_18
theorem dX10_tangles_0 : decode cX10_tangles 0 = .ok (.aload_n 0, 1) := by decide +kernel
theorem dX10_tangles_1 : decode cX10_tangles 1 = .ok (.getfield 10, 3) := by decide +kernel
theorem dX10_tangles_4 : decode cX10_tangles 4 = .ok (.iload_n 1, 1) := by decide +kernel
theorem dX10_tangles_5 : decode cX10_tangles 5 = .ok (.invokevirtual 236, 3) := by decide +kernel
theorem dX10_tangles_54 : decode cX10_tangles 54 = .ok (.iconst 0, 1) := by decide +kernel
theorem dX10_tangles_55 : decode cX10_tangles 55 = .ok (.istore 5, 2) := by decide +kernel
theorem dX10_tangles_57 : decode cX10_tangles 57 = .ok (.aload_n 0, 1) := by decide +kernel
theorem dX10_tangles_58 : decode cX10_tangles 58 = .ok (.iload 5, 2) := by decide +kernel
theorem dX10_tangles_60 : decode cX10_tangles 60 = .ok (.ifCond .eq 7, 3) := by decide +kernel
theorem dX10_tangles_67 : decode cX10_tangles 67 = .ok (.iconst 1, 1) := by decide +kernel
theorem dX10_tangles_68 : decode cX10_tangles 68 = .ok (.invokevirtual 79, 3) := by decide +kernel
theorem dX10_tangles_71 : decode cX10_tangles 71 = .ok (.ifCond .eq 5, 3) := by decide +kernel
theorem dX10_tangles_74 : decode cX10_tangles 74 = .ok (.iconst (-1), 1) := by decide +kernel
theorem dX10_tangles_75 : decode cX10_tangles 75 = .ok (.ireturn, 1) := by decide +kernel
theorem dX10_tangles_8 : decode cX10_tangles 8 = .ok (.ifCond .eq 46, 3) := by decide +kernel
def vX10_tangles : List Cond := .code yX10_tangles cX10_tangles 6 (some .int) :: ([.fieldLink RX10 10 "HookPier" "plan" "LHookPier$Plan;", .methodLink RX10 236 yX6_hasAsker, .instanceMethod yX6_hasAsker, .selects RX6 yX6_hasAsker yX6_hasAsker, .initialized RX6, .code yX6_hasAsker cX6_hasAsker 2 (some .boolean), .fieldLink RX6 27 "HookPier$Plan" "askers" "I", .code yX10_within cX10_within 3 (some .boolean), .initialized RX10, .static yX10_within, .methodLink RX10 79 yX10_refused, .instanceMethod yX10_refused, .selects RX10 yX10_refused yX10_refused, .code yX10_refused cX10_refused 2 (some .boolean), .fieldLink RX10 61 "HookPier" "troubleNow" "I"] ++ wsX100 ++ wsX60)
theorem iX10_tangles_X10 : ∀ w ∈ wsX100, w ∈ vX10_tangles := fun _ h => List.mem_cons_of_mem _ (List.mem_append_left _ (List.mem_append_right _ h))
theorem iX10_tangles_X6 : ∀ w ∈ wsX60, w ∈ vX10_tangles := fun _ h => List.mem_cons_of_mem _ (List.mem_append_right _ h)
set_option maxRecDepth 20000 in
theorem gX10_tangles_0 : GoodIn vX10_tangles (wsV RX10 236 RX6 yX6_hasAsker vX6_hasAsker) := goodIn_app (goodIn_r [.methodLink RX10 236 yX6_hasAsker, .instanceMethod yX6_hasAsker, .selects RX6 yX6_hasAsker yX6_hasAsker, .initialized RX6] [2, 3, 4, 5] (by decide +kernel) (by decide +kernel)) (goodIn_ca (goodIn_r (.code yX6_hasAsker cX6_hasAsker 2 (some .boolean) :: [.fieldLink RX6 27 "HookPier$Plan" "askers" "I", .code yX10_within cX10_within 3 (some .boolean), .initialized RX10, .static yX10_within]) [6, 7, 8, 9, 10] (by decide +kernel) (by decide +kernel) : GoodIn vX10_tangles (.code yX6_hasAsker cX6_hasAsker 2 (some .boolean) :: [.fieldLink RX6 27 "HookPier$Plan" "askers" "I", .code yX10_within cX10_within 3 (some .boolean), .initialized RX10, .static yX10_within])) (goodIn_sub iX10_tangles_X6 (by decide +kernel)))
set_option maxRecDepth 20000 in
theorem gX10_tangles_1 : GoodIn vX10_tangles (wsV RX10 79 RX10 yX10_refused vX10_refused_3) := goodIn_app (goodIn_r [.methodLink RX10 79 yX10_refused, .instanceMethod yX10_refused, .selects RX10 yX10_refused yX10_refused, .initialized RX10] [11, 12, 13, 9] (by decide +kernel) (by decide +kernel)) (goodIn_ca (goodIn_r (.code yX10_refused cX10_refused 2 (some .boolean) :: [.fieldLink RX10 61 "HookPier" "troubleNow" "I"]) [14, 15] (by decide +kernel) (by decide +kernel) : GoodIn vX10_tangles (.code yX10_refused cX10_refused 2 (some .boolean) :: [.fieldLink RX10 61 "HookPier" "troubleNow" "I"])) (goodIn_sub iX10_tangles_X10 (by decide +kernel)))
set_option maxHeartbeats 1000000 in
set_option maxRecDepth 100000 in
theorem kX10_tangles (l : Launch) (dC : Nat → ClassId) (dI : Nat → Nat → Nat) (a0 : Nat) (k1 : Int32) (k2 : Int32) (k3 : Int32) (k4 : Int32) (a5 : Nat) (g6 : Value) (g7 : Value) (g8 : Value) (g9 : Value) (g10 : Value) (g11 : Value) (g12 : Value) (g13 : Value) (g14 : Value) (g15 : Value) (g16 : Value) (g17 : Value) (g18 : Value) (g19 : Value) (g20 : Value) (g21 : Value) (g22 : Value) (g23 : Value) (g24 : Value) (g25 : Value) (g26 : Value) (g27 : Value) (g28 : Value) (g29 : Value) (g30 : Value) (g31 : Value) (sz : Nat) : Met l yX10_tangles vX10_tangles ({ frames := 2, cells := 0, slots := 0, locals := 43 }) (PC (dC, dI) [.ref a0, .int k1, .int k2, .int k3, .int k4] sz [(a0, .inr (7, [.ref a5, g6, g7, g8, g9, g10, g11, g12, g13, g14])), (a5, .inr (4, [g15, g16, g17, g18, g19, .int 0, g20, g21, g22, g23, g24, g25, g26, g27, g28, g29, g30, g31]))] []) (va_Qi (S := Unit) (fun (r : Int32) _ => r = (-1)) (fun _ t => BC (dC, dI) (va_A [(a0, .inr (7, [.ref a5, g6, g7, g8, g9, g10, g11, g12, g13, g14])), (a5, .inr (4, [g15, g16, g17, g18, g19, .int 0, g20, g21, g22, g23, g24, g25, g26, g27, g28, g29, g30, g31]))] sz) [] [] t) (va_A [(a0, .inr (7, [.ref a5, g6, g7, g8, g9, g10, g11, g12, g13, g14])), (a5, .inr (4, [g15, g16, g17, g18, g19, .int 0, g20, g21, g22, g23, g24, g25, g26, g27, g28, g29, g30, g31]))] sz)) 0 0 (va_A [(a0, .inr (7, [.ref a5, g6, g7, g8, g9, g10, g11, g12, g13, g14])), (a5, .inr (4, [g15, g16, g17, g18, g19, .int 0, g20, g21, g22, g23, g24, g25, g26, g27, g28, g29, g30, g31]))] sz) := by
  refine Met.ofW (cc := cX10_tangles) (maxL := 6) (ret := (some .int)) (by decide) rfl ?_
  intro p e s m args below meth c s₁ B hml hv
  obtain ⟨rfl, hsz, hP, hK, hD0, hN⟩ := hv
  have hx := B.exec
  have hb := B.bytes
  have hr := B.returns
  have hts := atoms_spec (ws := vX10_tangles) B.pre
  have hown : s.vm.findClass RX10 = some m.cls := findClass_of_methodNamed B.named
  have hlocks := B.notSynchronized
  subst hsz
  have hD := hD0.self (sz := s.heap.size)
  generalize hAe : va_A [(a0, .inr (7, [.ref a5, g6, g7, g8, g9, g10, g11, g12, g13, g14])), (a5, .inr (4, [g15, g16, g17, g18, g19, .int 0, g20, g21, g22, g23, g24, g25, g26, g27, g28, g29, g30, g31]))] s.heap.size = A at hD ⊢
  have hA : ∀ q : Nat, s.heap.size ≤ q → A q := fun q h => by rw [← hAe]; exact Or.inr h
  have hS : va_S A s.heap s.heap [] := va_S.rf
  have hP : va_P (dC, dI) vwCl [(a0, .inr (7, [.ref a5, g6, g7, g8, g9, g10, g11, g12, g13, g14])), (a5, .inr (4, [g15, g16, g17, g18, g19, .int 0, g20, g21, g22, g23, g24, g25, g26, g27, g28, g29, g30, g31]))] s.heap := hP
  have hl := lv_entry ([.ref a0, .int k1, .int k2, .int k3, .int k4]) (n := 6) (Nat.le_of_ble_eq_true rfl)
  rw [lg_entry_eq]
  generalize (lg_sl ([.ref a0, .int k1, .int k2, .int k3, .int k4]) ++ List.replicate (6 - (lg_sl ([.ref a0, .int k1, .int k2, .int k3, .int k4])).length) Slot.unset).toArray = ls at hl ⊢
  have hl : lv_has ls 6 [(0, .ref a0), (1, .int k1), (2, .int k2), (3, .int k3), (4, .int k4)] := hl
  refine lv_aload_n hx hb dX10_tangles_0 rfl (lv_at hl 0 rfl) ?_
  refine va_get (D := (dC, dI)) (ci := 7) (v := .ref a5) (C := RX10) (T := TX10) (N := 10) hx hb hts iX10_tangles_X10 hown hK hP 0 rfl rfl 0 (by decide) (hts (.fieldLink RX10 10 "HookPier" "plan" "LHookPier$Plan;") (List.mem_of_getElem? (i := 1) rfl)) (fun _ h9 => h9) rfl dX10_tangles_1 ?_
  refine lv_iload_n hx hb dX10_tangles_4 rfl (lv_at hl 1 rfl) ?_
  refine cl_i (wc := [(a5, .inr (4, [g15, g16, g17, g18, g19, .int 0, g20, g21, g22, g23, g24, g25, g26, g27, g28, g29, g30, g31]))]) (wr := [(a0, .inr (7, [.ref a5, g6, g7, g8, g9, g10, g11, g12, g13, g14]))]) (va_runV (As := [.int k1]) (rest := []) ⟨hx, hb, hml, hown, hts⟩ (kX6_hasAsker l dC dI a5 k1 (g15) (g16) (g17) (g18) (g19) (g20) (g21) (g22) (g23) (g24) (g25) (g26) (g27) (g28) (g29) (g30) (g31) s.heap.size) (cwV 1 hts gX10_tangles_0 rfl rfl rfl (by decide +kernel) ⟨Nat.le_of_ble_eq_true rfl, Nat.le_of_ble_eq_true rfl⟩) (PV (hP.sub (ws' := [(a5, .inr (4, [g15, g16, g17, g18, g19, .int 0, g20, g21, g22, g23, g24, g25, g26, g27, g28, g29, g30, g31]))]) [1] rfl) (hK.sub (tys' := []) [] rfl) (hD.sub (ws' := [(a5, .inr (4, [g15, g16, g17, g18, g19, .int 0, g20, g21, g22, g23, g24, g25, g26, g27, g28, g29, g30, g31]))]) [1] (by decide) rfl) hN 0 rfl rfl) rfl rfl hl.1 rfl (lv_room (Nat.le_of_ble_eq_true rfl)) dX10_tangles_5 ⟨Nat.le_of_ble_eq_true rfl, Nat.le_of_ble_eq_true rfl⟩) hP hD hK hS hA [1] [0] rfl rfl (by decide) (by decide) (fun z1 _u H locs hw hP hD hK hS => ?_)
  have hP : va_P (dC, dI) vwCl [(a0, .inr (7, [.ref a5, g6, g7, g8, g9, g10, g11, g12, g13, g14])), (a5, .inr (4, [g15, g16, g17, g18, g19, .int 0, g20, g21, g22, g23, g24, g25, g26, g27, g28, g29, g30, g31]))] H := hP
  have hD : va_D A [(a0, .inr (7, [.ref a5, g6, g7, g8, g9, g10, g11, g12, g13, g14])), (a5, .inr (4, [g15, g16, g17, g18, g19, .int 0, g20, g21, g22, g23, g24, g25, g26, g27, g28, g29, g30, g31]))] := hD
  have hK : va_K (dC, dI) vwCl [] s := hK
  obtain rfl : z1 = 0 := hw
  refine lv_if_eq (tgt := 54) hx hb dX10_tangles_8 (by decide) (fun _ => ?_) (fun c2 => absurd c2 (by decide))
  refine lv_iconst (v := 0) hx hb dX10_tangles_54 (by decide) ?_
  refine lv_istore (lv' := [(5, .int 0), (0, .ref a0), (1, .int k1), (2, .int k2), (3, .int k3), (4, .int k4)]) hx hb dX10_tangles_55 hl (by decide) rfl (fun ls hl => ?_)
  refine lv_aload_n hx hb dX10_tangles_57 rfl (lv_at hl 1 rfl) ?_
  refine lv_iload hx hb dX10_tangles_58 (lv_at hl 0 rfl) ?_
  refine lv_if_eq (tgt := 67) hx hb dX10_tangles_60 (by decide) (fun _ => ?_) (fun c3 => absurd c3 (by decide))
  refine lv_iconst (v := 1) hx hb dX10_tangles_67 (by decide) ?_
  refine cl_i (wc := [(a0, .inr (7, [.ref a5, g6, g7, g8, g9, g10, g11, g12, g13, g14]))]) (wr := [(a5, .inr (4, [g15, g16, g17, g18, g19, .int 0, g20, g21, g22, g23, g24, g25, g26, g27, g28, g29, g30, g31]))]) (va_runV (As := [.int 1]) (rest := []) ⟨hx, hb, hml, hown, hts⟩ (kX10_refused_3 l dC dI a0 (.ref a5) (g6) (g7) (g8) (g9) (g10) (g11) (g12) (g13) (g14) H.size) (cwV 1 hts gX10_tangles_1 rfl rfl rfl (by decide +kernel) ⟨Nat.le_of_ble_eq_true rfl, Nat.le_of_ble_eq_true rfl⟩) (PV (hP.sub (ws' := [(a0, .inr (7, [.ref a5, g6, g7, g8, g9, g10, g11, g12, g13, g14]))]) [0] rfl) (hK.sub (tys' := []) [] rfl) (hD.sub (ws' := [(a0, .inr (7, [.ref a5, g6, g7, g8, g9, g10, g11, g12, g13, g14]))]) [0] (by decide) rfl) hN 0 rfl rfl) rfl rfl hl.1 rfl (lv_room (Nat.le_of_ble_eq_true rfl)) dX10_tangles_68 ⟨Nat.le_of_ble_eq_true rfl, Nat.le_of_ble_eq_true rfl⟩) hP hD hK hS hA [0] [1] rfl rfl (by decide) (by decide) (fun z4 _u H locs hw hP hD hK hS => ?_)
  have hP : va_P (dC, dI) vwCl [(a5, .inr (4, [g15, g16, g17, g18, g19, .int 0, g20, g21, g22, g23, g24, g25, g26, g27, g28, g29, g30, g31])), (a0, .inr (7, [.ref a5, g6, g7, g8, g9, g10, g11, g12, .int 1, g14]))] H := hP
  have hD : va_D A [(a5, .inr (4, [g15, g16, g17, g18, g19, .int 0, g20, g21, g22, g23, g24, g25, g26, g27, g28, g29, g30, g31])), (a0, .inr (7, [.ref a5, g6, g7, g8, g9, g10, g11, g12, .int 1, g14]))] := hD
  have hK : va_K (dC, dI) vwCl [] s := hK
  obtain rfl : z4 = 1 := hw
  refine lv_if_eq (tgt := 76) hx hb dX10_tangles_71 (by decide) (fun c5 => absurd c5 (by decide)) (fun _ => ?_)
  refine lv_iconst (v := (-1)) hx hb dX10_tangles_74 (by decide) ?_
  have hP9 := hP.sub (ws' := []) [] rfl
  have hD9 := hD.sub (ws' := []) [] (by decide) rfl
  have hK9 := hK.sub (tys' := []) [] rfl
  exact W.iret (v := (-1)) hx hb hr (fun t ht hW => ⟨⟨(-1), (), rfl, rfl, by rw [ht]; exact hP9, va_K.moved hW.alike hK9, hD9⟩, hS.F ht⟩) hS.2.2 dX10_tangles_75
theorem dX12_tangles_0 : decode cX12_tangles 0 = .ok (.aload_n 0, 1) := by decide +kernel
theorem dX12_tangles_1 : decode cX12_tangles 1 = .ok (.iconst 0, 1) := by decide +kernel
theorem dX12_tangles_10 : decode cX12_tangles 10 = .ok (.ifCond .eq 51, 3) := by decide +kernel
theorem dX12_tangles_2 : decode cX12_tangles 2 = .ok (.putfield 36, 3) := by decide +kernel
theorem dX12_tangles_5 : decode cX12_tangles 5 = .ok (.aload_n 0, 1) := by decide +kernel
theorem dX12_tangles_6 : decode cX12_tangles 6 = .ok (.iload_n 1, 1) := by decide +kernel
theorem dX12_tangles_61 : decode cX12_tangles 61 = .ok (.aload_n 0, 1) := by decide +kernel
theorem dX12_tangles_62 : decode cX12_tangles 62 = .ok (.iconst 1, 1) := by decide +kernel
theorem dX12_tangles_63 : decode cX12_tangles 63 = .ok (.invokevirtual 42, 3) := by decide +kernel
theorem dX12_tangles_66 : decode cX12_tangles 66 = .ok (.ireturn, 1) := by decide +kernel
theorem dX12_tangles_7 : decode cX12_tangles 7 = .ok (.invokevirtual 334, 3) := by decide +kernel
def vX12_tangles : List Cond := .code yX12_tangles cX12_tangles 5 (some .int) :: ([.fieldLink RX12 36 "HookPierModel" "thrown" "I", .methodLink RX12 334 yX12_isAsker, .instanceMethod yX12_isAsker, .selects RX12 yX12_isAsker yX12_isAsker, .initialized RX12, .code yX12_isAsker cX12_isAsker 2 (some .boolean), .fieldLink RX12 299 "HookPierModel" "pier" "LHookPierModel$Pier;", .methodLink RX12 42 yX12_refused, .instanceMethod yX12_refused, .selects RX12 yX12_refused yX12_refused, .code yX12_refused cX12_refused 2 (some .int), .fieldLink RX12 39 "HookPierModel" "trouble" "I", .fieldLink RX12 9 "HookPierModel" "where" "I"] ++ wsX120)
theorem iX12_tangles_X12 : ∀ w ∈ wsX120, w ∈ vX12_tangles := fun _ h => List.mem_cons_of_mem _ (List.mem_append_right _ h)
set_option maxRecDepth 20000 in
theorem gX12_tangles_0 : GoodIn vX12_tangles (wsV RX12 334 RX12 yX12_isAsker vX12_isAsker) := goodIn_app (goodIn_r [.methodLink RX12 334 yX12_isAsker, .instanceMethod yX12_isAsker, .selects RX12 yX12_isAsker yX12_isAsker, .initialized RX12] [2, 3, 4, 5] (by decide +kernel) (by decide +kernel)) (goodIn_ca (goodIn_r (.code yX12_isAsker cX12_isAsker 2 (some .boolean) :: [.fieldLink RX12 299 "HookPierModel" "pier" "LHookPierModel$Pier;"]) [6, 7] (by decide +kernel) (by decide +kernel) : GoodIn vX12_tangles (.code yX12_isAsker cX12_isAsker 2 (some .boolean) :: [.fieldLink RX12 299 "HookPierModel" "pier" "LHookPierModel$Pier;"])) (goodIn_sub iX12_tangles_X12 (by decide +kernel)))
set_option maxRecDepth 20000 in
theorem gX12_tangles_1 : GoodIn vX12_tangles (wsV RX12 42 RX12 yX12_refused vX12_refused_1) := goodIn_app (goodIn_r [.methodLink RX12 42 yX12_refused, .instanceMethod yX12_refused, .selects RX12 yX12_refused yX12_refused, .initialized RX12] [8, 9, 10, 5] (by decide +kernel) (by decide +kernel)) (goodIn_ca (goodIn_r (.code yX12_refused cX12_refused 2 (some .int) :: [.fieldLink RX12 39 "HookPierModel" "trouble" "I", .fieldLink RX12 9 "HookPierModel" "where" "I"]) [11, 12, 13] (by decide +kernel) (by decide +kernel) : GoodIn vX12_tangles (.code yX12_refused cX12_refused 2 (some .int) :: [.fieldLink RX12 39 "HookPierModel" "trouble" "I", .fieldLink RX12 9 "HookPierModel" "where" "I"])) (goodIn_sub iX12_tangles_X12 (by decide +kernel)))
set_option maxHeartbeats 1000000 in
set_option maxRecDepth 100000 in
theorem kX12_tangles (l : Launch) (dC : Nat → ClassId) (dI : Nat → Nat → Nat) (a0 : Nat) (k1 : Int32) (k2 : Int32) (k3 : Int32) (k4 : Int32) (g5 : Value) (g6 : Value) (g7 : Value) (g8 : Value) (g9 : Value) (g10 : Value) (g11 : Value) (g12 : Value) (g13 : Value) (g14 : Value) (g15 : Value) (g16 : Value) (g17 : Value) (g18 : Value) (g19 : Value) (g20 : Value) (g21 : Value) (g22 : Value) (g23 : Value) (g24 : Value) (g25 : Value) (g26 : Value) (g27 : Value) (g28 : Value) (g29 : Value) (g30 : Value) (g31 : Value) (g32 : Value) (g33 : Value) (sz : Nat) : Met l yX12_tangles vX12_tangles ({ frames := 1, cells := 0, slots := 0, locals := 21 }) (PC (dC, dI) [.ref a0, .int k1, .int k2, .int k3, .int k4] sz [(a0, .inr (9, [g5, g6, g7, .null, g8, g9, g10, g11, g12, g13, g14, g15, g16, g17, g18, g19, g20, g21, g22, g23, g24, g25, g26, g27, g28, g29, g30, g31, g32, g33]))] []) (va_Qi (S := Unit) (fun (r : Int32) _ => r = (-1)) (fun _ t => BC (dC, dI) (va_A [(a0, .inr (9, [g5, g6, g7, .null, g8, g9, g10, g11, g12, g13, g14, g15, g16, g17, g18, g19, g20, g21, g22, g23, g24, g25, g26, g27, g28, g29, g30, g31, g32, g33]))] sz) [] [] t) (va_A [(a0, .inr (9, [g5, g6, g7, .null, g8, g9, g10, g11, g12, g13, g14, g15, g16, g17, g18, g19, g20, g21, g22, g23, g24, g25, g26, g27, g28, g29, g30, g31, g32, g33]))] sz)) 0 0 (va_A [(a0, .inr (9, [g5, g6, g7, .null, g8, g9, g10, g11, g12, g13, g14, g15, g16, g17, g18, g19, g20, g21, g22, g23, g24, g25, g26, g27, g28, g29, g30, g31, g32, g33]))] sz) := by
  refine Met.ofW (cc := cX12_tangles) (maxL := 5) (ret := (some .int)) (by decide) rfl ?_
  intro p e s m args below meth c s₁ B hml hv
  obtain ⟨rfl, hsz, hP, hK, hD0, hN⟩ := hv
  have hx := B.exec
  have hb := B.bytes
  have hr := B.returns
  have hts := atoms_spec (ws := vX12_tangles) B.pre
  have hown : s.vm.findClass RX12 = some m.cls := findClass_of_methodNamed B.named
  have hlocks := B.notSynchronized
  subst hsz
  have hD := hD0.self (sz := s.heap.size)
  generalize hAe : va_A [(a0, .inr (9, [g5, g6, g7, .null, g8, g9, g10, g11, g12, g13, g14, g15, g16, g17, g18, g19, g20, g21, g22, g23, g24, g25, g26, g27, g28, g29, g30, g31, g32, g33]))] s.heap.size = A at hD ⊢
  have hA : ∀ q : Nat, s.heap.size ≤ q → A q := fun q h => by rw [← hAe]; exact Or.inr h
  have hS : va_S A s.heap s.heap [] := va_S.rf
  have hP : va_P (dC, dI) vwCl [(a0, .inr (9, [g5, g6, g7, .null, g8, g9, g10, g11, g12, g13, g14, g15, g16, g17, g18, g19, g20, g21, g22, g23, g24, g25, g26, g27, g28, g29, g30, g31, g32, g33]))] s.heap := hP
  have hl := lv_entry ([.ref a0, .int k1, .int k2, .int k3, .int k4]) (n := 5) (Nat.le_of_ble_eq_true rfl)
  rw [lg_entry_eq]
  generalize (lg_sl ([.ref a0, .int k1, .int k2, .int k3, .int k4]) ++ List.replicate (5 - (lg_sl ([.ref a0, .int k1, .int k2, .int k3, .int k4])).length) Slot.unset).toArray = ls at hl ⊢
  have hl : lv_has ls 5 [(0, .ref a0), (1, .int k1), (2, .int k2), (3, .int k3), (4, .int k4)] := hl
  refine lv_aload_n hx hb dX12_tangles_0 rfl (lv_at hl 0 rfl) ?_
  refine lv_iconst (v := 0) hx hb dX12_tangles_1 (by decide) ?_
  refine va_put (D := (dC, dI)) (ci := 9) (v := .int 0) (ty := .int) (C := RX12) (T := TX12) (N := 30) hx hb hts iX12_tangles_X12 tyX12 tyX12_ok nmX12 hown hK hP hD hS 0 rfl rfl 0 (by decide) (hts (.fieldLink RX12 36 "HookPierModel" "thrown" "I") (List.mem_of_getElem? (i := 1) rfl)) (fun _ h9 => h9) rfl (by decide +kernel) rfl rfl (Nat.le_of_ble_eq_true rfl) dX12_tangles_2 (fun H locs hP hD hS => ?_)
  have hP : va_P (dC, dI) vwCl [(a0, .inr (9, [.int 0, g6, g7, .null, g8, g9, g10, g11, g12, g13, g14, g15, g16, g17, g18, g19, g20, g21, g22, g23, g24, g25, g26, g27, g28, g29, g30, g31, g32, g33]))] H := hP
  have hD : va_D A [(a0, .inr (9, [.int 0, g6, g7, .null, g8, g9, g10, g11, g12, g13, g14, g15, g16, g17, g18, g19, g20, g21, g22, g23, g24, g25, g26, g27, g28, g29, g30, g31, g32, g33]))] := hD
  refine lv_aload_n hx hb dX12_tangles_5 rfl (lv_at hl 0 rfl) ?_
  refine lv_iload_n hx hb dX12_tangles_6 rfl (lv_at hl 1 rfl) ?_
  refine cl_i (wc := [(a0, .inr (9, [.int 0, g6, g7, .null, g8, g9, g10, g11, g12, g13, g14, g15, g16, g17, g18, g19, g20, g21, g22, g23, g24, g25, g26, g27, g28, g29, g30, g31, g32, g33]))]) (wr := []) (va_runV (As := [.int k1]) (rest := []) ⟨hx, hb, hml, hown, hts⟩ (kX12_isAsker l dC dI a0 k1 (.int 0) (g6) (g7) (g8) (g9) (g10) (g11) (g12) (g13) (g14) (g15) (g16) (g17) (g18) (g19) (g20) (g21) (g22) (g23) (g24) (g25) (g26) (g27) (g28) (g29) (g30) (g31) (g32) (g33) H.size) (cwV 1 hts gX12_tangles_0 rfl rfl rfl (by decide +kernel) ⟨Nat.le_of_ble_eq_true rfl, Nat.le_of_ble_eq_true rfl⟩) (PV (hP.sub (ws' := [(a0, .inr (9, [.int 0, g6, g7, .null, g8, g9, g10, g11, g12, g13, g14, g15, g16, g17, g18, g19, g20, g21, g22, g23, g24, g25, g26, g27, g28, g29, g30, g31, g32, g33]))]) [0] rfl) (hK.sub (tys' := []) [] rfl) (hD.sub (ws' := [(a0, .inr (9, [.int 0, g6, g7, .null, g8, g9, g10, g11, g12, g13, g14, g15, g16, g17, g18, g19, g20, g21, g22, g23, g24, g25, g26, g27, g28, g29, g30, g31, g32, g33]))]) [0] (by decide) rfl) hN 0 rfl rfl) rfl rfl hl.1 rfl (lv_room (Nat.le_of_ble_eq_true rfl)) dX12_tangles_7 ⟨Nat.le_of_ble_eq_true rfl, Nat.le_of_ble_eq_true rfl⟩) hP hD hK hS hA [0] [] rfl rfl (by decide) (by decide) (fun z1 _u H locs hw hP hD hK hS => ?_)
  have hP : va_P (dC, dI) vwCl [(a0, .inr (9, [.int 0, g6, g7, .null, g8, g9, g10, g11, g12, g13, g14, g15, g16, g17, g18, g19, g20, g21, g22, g23, g24, g25, g26, g27, g28, g29, g30, g31, g32, g33]))] H := hP
  have hD : va_D A [(a0, .inr (9, [.int 0, g6, g7, .null, g8, g9, g10, g11, g12, g13, g14, g15, g16, g17, g18, g19, g20, g21, g22, g23, g24, g25, g26, g27, g28, g29, g30, g31, g32, g33]))] := hD
  have hK : va_K (dC, dI) vwCl [] s := hK
  obtain rfl : z1 = 0 := hw
  refine lv_if_eq (tgt := 61) hx hb dX12_tangles_10 (by decide) (fun _ => ?_) (fun c2 => absurd c2 (by decide))
  refine lv_aload_n hx hb dX12_tangles_61 rfl (lv_at hl 0 rfl) ?_
  refine lv_iconst (v := 1) hx hb dX12_tangles_62 (by decide) ?_
  refine cl_i (wc := [(a0, .inr (9, [.int 0, g6, g7, .null, g8, g9, g10, g11, g12, g13, g14, g15, g16, g17, g18, g19, g20, g21, g22, g23, g24, g25, g26, g27, g28, g29, g30, g31, g32, g33]))]) (wr := []) (va_runV (As := [.int 1]) (rest := []) ⟨hx, hb, hml, hown, hts⟩ (kX12_refused_1 l dC dI a0 (.int 0) (g6) (g7) (.null) (g8) (g9) (g10) (g11) (g12) (g13) (g14) (g15) (g16) (g17) (g18) (g19) (g20) (g21) (g22) (g23) (g24) (g25) (g26) (g27) (g28) (g29) (g30) (g31) (g32) (g33) H.size) (cwV 1 hts gX12_tangles_1 rfl rfl rfl (by decide +kernel) ⟨Nat.le_of_ble_eq_true rfl, Nat.le_of_ble_eq_true rfl⟩) (PV (hP.sub (ws' := [(a0, .inr (9, [.int 0, g6, g7, .null, g8, g9, g10, g11, g12, g13, g14, g15, g16, g17, g18, g19, g20, g21, g22, g23, g24, g25, g26, g27, g28, g29, g30, g31, g32, g33]))]) [0] rfl) (hK.sub (tys' := []) [] rfl) (hD.sub (ws' := [(a0, .inr (9, [.int 0, g6, g7, .null, g8, g9, g10, g11, g12, g13, g14, g15, g16, g17, g18, g19, g20, g21, g22, g23, g24, g25, g26, g27, g28, g29, g30, g31, g32, g33]))]) [0] (by decide) rfl) hN 0 rfl rfl) rfl rfl hl.1 rfl (lv_room (Nat.le_of_ble_eq_true rfl)) dX12_tangles_63 ⟨Nat.le_of_ble_eq_true rfl, Nat.le_of_ble_eq_true rfl⟩) hP hD hK hS hA [0] [] rfl rfl (by decide) (by decide) (fun z3 _u H locs hw hP hD hK hS => ?_)
  have hP : va_P (dC, dI) vwCl [(a0, .inr (9, [.int 0, .int 1, .int (-1), .null, g8, g9, g10, g11, g12, g13, g14, g15, g16, g17, g18, g19, g20, g21, g22, g23, g24, g25, g26, g27, g28, g29, g30, g31, g32, g33]))] H := hP
  have hD : va_D A [(a0, .inr (9, [.int 0, .int 1, .int (-1), .null, g8, g9, g10, g11, g12, g13, g14, g15, g16, g17, g18, g19, g20, g21, g22, g23, g24, g25, g26, g27, g28, g29, g30, g31, g32, g33]))] := hD
  have hK : va_K (dC, dI) vwCl [] s := hK
  obtain rfl : z3 = (-1) := hw
  have hP9 := hP.sub (ws' := []) [] rfl
  have hD9 := hD.sub (ws' := []) [] (by decide) rfl
  have hK9 := hK.sub (tys' := []) [] rfl
  exact W.iret (v := (-1)) hx hb hr (fun t ht hW => ⟨⟨(-1), (), rfl, rfl, by rw [ht]; exact hP9, va_K.moved hW.alike hK9, hD9⟩, hS.F ht⟩) hS.2.2 dX12_tangles_66
theorem dX10_seatings_0 : decode cX10_seatings 0 = .ok (.aload_n 0, 1) := by decide +kernel
theorem dX10_seatings_1 : decode cX10_seatings 1 = .ok (.invokevirtual 216, 3) := by decide +kernel
theorem dX10_seatings_25 : decode cX10_seatings 25 = .ok (.iload_n 1, 1) := by decide +kernel
theorem dX10_seatings_26 : decode cX10_seatings 26 = .ok (.invokevirtual 79, 3) := by decide +kernel
theorem dX10_seatings_29 : decode cX10_seatings 29 = .ok (.ifCond .eq 5, 3) := by decide +kernel
theorem dX10_seatings_32 : decode cX10_seatings 32 = .ok (.iconst (-1), 1) := by decide +kernel
theorem dX10_seatings_33 : decode cX10_seatings 33 = .ok (.ireturn, 1) := by decide +kernel
theorem dX10_seatings_4 : decode cX10_seatings 4 = .ok (.istore_n 1, 1) := by decide +kernel
theorem dX10_seatings_5 : decode cX10_seatings 5 = .ok (.aload_n 0, 1) := by decide +kernel
theorem dX10_seatings_6 : decode cX10_seatings 6 = .ok (.iload_n 1, 1) := by decide +kernel
theorem dX10_seatings_7 : decode cX10_seatings 7 = .ok (.ifCond .ne 18, 3) := by decide +kernel
def vX10_seatings : List Cond := .code yX10_seatings cX10_seatings 2 (some .int) :: ([.methodLink RX10 216 yX10_pierTrouble, .instanceMethod yX10_pierTrouble, .selects RX10 yX10_pierTrouble yX10_pierTrouble, .initialized RX10, .code yX10_pierTrouble cX10_pierTrouble 1 (some .int), .fieldLink RX10 10 "HookPier" "plan" "LHookPier$Plan;", .fieldLink RX10 233 "HookPier$Plan" "spots" "I", .methodLink RX10 79 yX10_refused, .instanceMethod yX10_refused, .selects RX10 yX10_refused yX10_refused, .code yX10_refused cX10_refused 2 (some .boolean), .fieldLink RX10 61 "HookPier" "troubleNow" "I"] ++ wsX100 ++ wsX60)
theorem iX10_seatings_X10 : ∀ w ∈ wsX100, w ∈ vX10_seatings := fun _ h => List.mem_cons_of_mem _ (List.mem_append_left _ (List.mem_append_right _ h))
theorem iX10_seatings_X6 : ∀ w ∈ wsX60, w ∈ vX10_seatings := fun _ h => List.mem_cons_of_mem _ (List.mem_append_right _ h)
set_option maxRecDepth 20000 in
theorem gX10_seatings_0 : GoodIn vX10_seatings (wsV RX10 216 RX10 yX10_pierTrouble vX10_pierTrouble) := goodIn_app (goodIn_r [.methodLink RX10 216 yX10_pierTrouble, .instanceMethod yX10_pierTrouble, .selects RX10 yX10_pierTrouble yX10_pierTrouble, .initialized RX10] [1, 2, 3, 4] (by decide +kernel) (by decide +kernel)) (goodIn_ca (goodIn_ca (goodIn_r (.code yX10_pierTrouble cX10_pierTrouble 1 (some .int) :: [.fieldLink RX10 10 "HookPier" "plan" "LHookPier$Plan;", .fieldLink RX10 233 "HookPier$Plan" "spots" "I"]) [5, 6, 7] (by decide +kernel) (by decide +kernel) : GoodIn vX10_seatings (.code yX10_pierTrouble cX10_pierTrouble 1 (some .int) :: [.fieldLink RX10 10 "HookPier" "plan" "LHookPier$Plan;", .fieldLink RX10 233 "HookPier$Plan" "spots" "I"])) (goodIn_sub iX10_seatings_X10 (by decide +kernel))) (goodIn_sub iX10_seatings_X6 (by decide +kernel)))
set_option maxRecDepth 20000 in
theorem gX10_seatings_1 : GoodIn vX10_seatings (wsV RX10 79 RX10 yX10_refused vX10_refused_3) := goodIn_app (goodIn_r [.methodLink RX10 79 yX10_refused, .instanceMethod yX10_refused, .selects RX10 yX10_refused yX10_refused, .initialized RX10] [8, 9, 10, 4] (by decide +kernel) (by decide +kernel)) (goodIn_ca (goodIn_r (.code yX10_refused cX10_refused 2 (some .boolean) :: [.fieldLink RX10 61 "HookPier" "troubleNow" "I"]) [11, 12] (by decide +kernel) (by decide +kernel) : GoodIn vX10_seatings (.code yX10_refused cX10_refused 2 (some .boolean) :: [.fieldLink RX10 61 "HookPier" "troubleNow" "I"])) (goodIn_sub iX10_seatings_X10 (by decide +kernel)))
set_option maxHeartbeats 1000000 in
set_option maxRecDepth 100000 in
theorem kX10_seatings (l : Launch) (dC : Nat → ClassId) (dI : Nat → Nat → Nat) (a0 : Nat) (a1 : Nat) (g2 : Value) (g3 : Value) (g4 : Value) (g5 : Value) (g6 : Value) (g7 : Value) (g8 : Value) (g9 : Value) (g10 : Value) (g11 : Value) (g12 : Value) (g13 : Value) (g14 : Value) (g15 : Value) (g16 : Value) (g17 : Value) (g18 : Value) (g19 : Value) (g20 : Value) (g21 : Value) (g22 : Value) (g23 : Value) (g24 : Value) (g25 : Value) (g26 : Value) (g27 : Value) (sz : Nat) : Met l yX10_seatings vX10_seatings ({ frames := 1, cells := 0, slots := 0, locals := 21 }) (PC (dC, dI) [.ref a0] sz [(a0, .inr (7, [.ref a1, g2, g3, g4, g5, g6, g7, g8, g9, g10])), (a1, .inr (4, [.int 0, g11, g12, g13, g14, g15, g16, g17, g18, g19, g20, g21, g22, g23, g24, g25, g26, g27]))] []) (va_Qi (S := Unit) (fun (r : Int32) _ => r = (-1)) (fun _ t => BC (dC, dI) (va_A [(a0, .inr (7, [.ref a1, g2, g3, g4, g5, g6, g7, g8, g9, g10])), (a1, .inr (4, [.int 0, g11, g12, g13, g14, g15, g16, g17, g18, g19, g20, g21, g22, g23, g24, g25, g26, g27]))] sz) [] [] t) (va_A [(a0, .inr (7, [.ref a1, g2, g3, g4, g5, g6, g7, g8, g9, g10])), (a1, .inr (4, [.int 0, g11, g12, g13, g14, g15, g16, g17, g18, g19, g20, g21, g22, g23, g24, g25, g26, g27]))] sz)) 0 0 (va_A [(a0, .inr (7, [.ref a1, g2, g3, g4, g5, g6, g7, g8, g9, g10])), (a1, .inr (4, [.int 0, g11, g12, g13, g14, g15, g16, g17, g18, g19, g20, g21, g22, g23, g24, g25, g26, g27]))] sz) := by
  refine Met.ofW (cc := cX10_seatings) (maxL := 2) (ret := (some .int)) (by decide) rfl ?_
  intro p e s m args below meth c s₁ B hml hv
  obtain ⟨rfl, hsz, hP, hK, hD0, hN⟩ := hv
  have hx := B.exec
  have hb := B.bytes
  have hr := B.returns
  have hts := atoms_spec (ws := vX10_seatings) B.pre
  have hown : s.vm.findClass RX10 = some m.cls := findClass_of_methodNamed B.named
  have hlocks := B.notSynchronized
  subst hsz
  have hD := hD0.self (sz := s.heap.size)
  generalize hAe : va_A [(a0, .inr (7, [.ref a1, g2, g3, g4, g5, g6, g7, g8, g9, g10])), (a1, .inr (4, [.int 0, g11, g12, g13, g14, g15, g16, g17, g18, g19, g20, g21, g22, g23, g24, g25, g26, g27]))] s.heap.size = A at hD ⊢
  have hA : ∀ q : Nat, s.heap.size ≤ q → A q := fun q h => by rw [← hAe]; exact Or.inr h
  have hS : va_S A s.heap s.heap [] := va_S.rf
  have hP : va_P (dC, dI) vwCl [(a0, .inr (7, [.ref a1, g2, g3, g4, g5, g6, g7, g8, g9, g10])), (a1, .inr (4, [.int 0, g11, g12, g13, g14, g15, g16, g17, g18, g19, g20, g21, g22, g23, g24, g25, g26, g27]))] s.heap := hP
  have hl := lv_entry ([.ref a0]) (n := 2) (Nat.le_of_ble_eq_true rfl)
  rw [lg_entry_eq]
  generalize (lg_sl ([.ref a0]) ++ List.replicate (2 - (lg_sl ([.ref a0])).length) Slot.unset).toArray = ls at hl ⊢
  have hl : lv_has ls 2 [(0, .ref a0)] := hl
  refine lv_aload_n hx hb dX10_seatings_0 rfl (lv_at hl 0 rfl) ?_
  refine cl_i (wc := [(a0, .inr (7, [.ref a1, g2, g3, g4, g5, g6, g7, g8, g9, g10])), (a1, .inr (4, [.int 0, g11, g12, g13, g14, g15, g16, g17, g18, g19, g20, g21, g22, g23, g24, g25, g26, g27]))]) (wr := []) (va_runV (As := []) (rest := []) ⟨hx, hb, hml, hown, hts⟩ (kX10_pierTrouble l dC dI a0 a1 (g2) (g3) (g4) (g5) (g6) (g7) (g8) (g9) (g10) (g11) (g12) (g13) (g14) (g15) (g16) (g17) (g18) (g19) (g20) (g21) (g22) (g23) (g24) (g25) (g26) (g27) s.heap.size) (cwV 0 hts gX10_seatings_0 rfl rfl rfl (by decide +kernel) ⟨Nat.le_of_ble_eq_true rfl, Nat.le_of_ble_eq_true rfl⟩) (PV (hP.sub (ws' := [(a0, .inr (7, [.ref a1, g2, g3, g4, g5, g6, g7, g8, g9, g10])), (a1, .inr (4, [.int 0, g11, g12, g13, g14, g15, g16, g17, g18, g19, g20, g21, g22, g23, g24, g25, g26, g27]))]) [0, 1] rfl) (hK.sub (tys' := []) [] rfl) (hD.sub (ws' := [(a0, .inr (7, [.ref a1, g2, g3, g4, g5, g6, g7, g8, g9, g10])), (a1, .inr (4, [.int 0, g11, g12, g13, g14, g15, g16, g17, g18, g19, g20, g21, g22, g23, g24, g25, g26, g27]))]) [0, 1] (by decide) rfl) hN 0 rfl rfl) rfl rfl hl.1 rfl (lv_room (Nat.le_of_ble_eq_true rfl)) dX10_seatings_1 ⟨Nat.le_of_ble_eq_true rfl, Nat.le_of_ble_eq_true rfl⟩) hP hD hK hS hA [0, 1] [] rfl rfl (by decide) (by decide) (fun z1 _u H locs hw hP hD hK hS => ?_)
  have hP : va_P (dC, dI) vwCl [(a0, .inr (7, [.ref a1, g2, g3, g4, g5, g6, g7, g8, g9, g10])), (a1, .inr (4, [.int 0, g11, g12, g13, g14, g15, g16, g17, g18, g19, g20, g21, g22, g23, g24, g25, g26, g27]))] H := hP
  have hD : va_D A [(a0, .inr (7, [.ref a1, g2, g3, g4, g5, g6, g7, g8, g9, g10])), (a1, .inr (4, [.int 0, g11, g12, g13, g14, g15, g16, g17, g18, g19, g20, g21, g22, g23, g24, g25, g26, g27]))] := hD
  have hK : va_K (dC, dI) vwCl [] s := hK
  obtain rfl : z1 = 1 := hw
  refine lv_istore_n (lv' := [(1, .int 1), (0, .ref a0)]) hx hb dX10_seatings_4 rfl hl (by decide) rfl (fun ls hl => ?_)
  refine lv_aload_n hx hb dX10_seatings_5 rfl (lv_at hl 1 rfl) ?_
  refine lv_iload_n hx hb dX10_seatings_6 rfl (lv_at hl 0 rfl) ?_
  refine lv_if_ne (tgt := 25) hx hb dX10_seatings_7 (by decide) (fun _ => ?_) (fun c2 => absurd c2 (by decide))
  refine lv_iload_n hx hb dX10_seatings_25 rfl (lv_at hl 0 rfl) ?_
  refine cl_i (wc := [(a0, .inr (7, [.ref a1, g2, g3, g4, g5, g6, g7, g8, g9, g10]))]) (wr := [(a1, .inr (4, [.int 0, g11, g12, g13, g14, g15, g16, g17, g18, g19, g20, g21, g22, g23, g24, g25, g26, g27]))]) (va_runV (As := [.int 1]) (rest := []) ⟨hx, hb, hml, hown, hts⟩ (kX10_refused_3 l dC dI a0 (.ref a1) (g2) (g3) (g4) (g5) (g6) (g7) (g8) (g9) (g10) H.size) (cwV 1 hts gX10_seatings_1 rfl rfl rfl (by decide +kernel) ⟨Nat.le_of_ble_eq_true rfl, Nat.le_of_ble_eq_true rfl⟩) (PV (hP.sub (ws' := [(a0, .inr (7, [.ref a1, g2, g3, g4, g5, g6, g7, g8, g9, g10]))]) [0] rfl) (hK.sub (tys' := []) [] rfl) (hD.sub (ws' := [(a0, .inr (7, [.ref a1, g2, g3, g4, g5, g6, g7, g8, g9, g10]))]) [0] (by decide) rfl) hN 0 rfl rfl) rfl rfl hl.1 rfl (lv_room (Nat.le_of_ble_eq_true rfl)) dX10_seatings_26 ⟨Nat.le_of_ble_eq_true rfl, Nat.le_of_ble_eq_true rfl⟩) hP hD hK hS hA [0] [1] rfl rfl (by decide) (by decide) (fun z3 _u H locs hw hP hD hK hS => ?_)
  have hP : va_P (dC, dI) vwCl [(a1, .inr (4, [.int 0, g11, g12, g13, g14, g15, g16, g17, g18, g19, g20, g21, g22, g23, g24, g25, g26, g27])), (a0, .inr (7, [.ref a1, g2, g3, g4, g5, g6, g7, g8, .int 1, g10]))] H := hP
  have hD : va_D A [(a1, .inr (4, [.int 0, g11, g12, g13, g14, g15, g16, g17, g18, g19, g20, g21, g22, g23, g24, g25, g26, g27])), (a0, .inr (7, [.ref a1, g2, g3, g4, g5, g6, g7, g8, .int 1, g10]))] := hD
  have hK : va_K (dC, dI) vwCl [] s := hK
  obtain rfl : z3 = 1 := hw
  refine lv_if_eq (tgt := 34) hx hb dX10_seatings_29 (by decide) (fun c4 => absurd c4 (by decide)) (fun _ => ?_)
  refine lv_iconst (v := (-1)) hx hb dX10_seatings_32 (by decide) ?_
  have hP9 := hP.sub (ws' := []) [] rfl
  have hD9 := hD.sub (ws' := []) [] (by decide) rfl
  have hK9 := hK.sub (tys' := []) [] rfl
  exact W.iret (v := (-1)) hx hb hr (fun t ht hW => ⟨⟨(-1), (), rfl, rfl, by rw [ht]; exact hP9, va_K.moved hW.alike hK9, hD9⟩, hS.F ht⟩) hS.2.2 dX10_seatings_33
theorem dX12_seatings_0 : decode cX12_seatings 0 = .ok (.aload_n 0, 1) := by decide +kernel
theorem dX12_seatings_1 : decode cX12_seatings 1 = .ok (.iconst 0, 1) := by decide +kernel
theorem dX12_seatings_12 : decode cX12_seatings 12 = .ok (.aload_n 0, 1) := by decide +kernel
theorem dX12_seatings_13 : decode cX12_seatings 13 = .ok (.iconst 1, 1) := by decide +kernel
theorem dX12_seatings_14 : decode cX12_seatings 14 = .ok (.invokevirtual 42, 3) := by decide +kernel
theorem dX12_seatings_17 : decode cX12_seatings 17 = .ok (.ireturn, 1) := by decide +kernel
theorem dX12_seatings_2 : decode cX12_seatings 2 = .ok (.putfield 36, 3) := by decide +kernel
theorem dX12_seatings_5 : decode cX12_seatings 5 = .ok (.aload_n 0, 1) := by decide +kernel
theorem dX12_seatings_6 : decode cX12_seatings 6 = .ok (.getfield 299, 3) := by decide +kernel
theorem dX12_seatings_9 : decode cX12_seatings 9 = .ok (.ifnonnull 9, 3) := by decide +kernel
def vX12_seatings : List Cond := .code yX12_seatings cX12_seatings 1 (some .int) :: ([.fieldLink RX12 36 "HookPierModel" "thrown" "I", .fieldLink RX12 299 "HookPierModel" "pier" "LHookPierModel$Pier;", .methodLink RX12 42 yX12_refused, .instanceMethod yX12_refused, .selects RX12 yX12_refused yX12_refused, .initialized RX12, .code yX12_refused cX12_refused 2 (some .int), .fieldLink RX12 39 "HookPierModel" "trouble" "I", .fieldLink RX12 9 "HookPierModel" "where" "I"] ++ wsX120)
theorem iX12_seatings_X12 : ∀ w ∈ wsX120, w ∈ vX12_seatings := fun _ h => List.mem_cons_of_mem _ (List.mem_append_right _ h)
set_option maxRecDepth 20000 in
theorem gX12_seatings_0 : GoodIn vX12_seatings (wsV RX12 42 RX12 yX12_refused vX12_refused_1) := goodIn_app (goodIn_r [.methodLink RX12 42 yX12_refused, .instanceMethod yX12_refused, .selects RX12 yX12_refused yX12_refused, .initialized RX12] [3, 4, 5, 6] (by decide +kernel) (by decide +kernel)) (goodIn_ca (goodIn_r (.code yX12_refused cX12_refused 2 (some .int) :: [.fieldLink RX12 39 "HookPierModel" "trouble" "I", .fieldLink RX12 9 "HookPierModel" "where" "I"]) [7, 8, 9] (by decide +kernel) (by decide +kernel) : GoodIn vX12_seatings (.code yX12_refused cX12_refused 2 (some .int) :: [.fieldLink RX12 39 "HookPierModel" "trouble" "I", .fieldLink RX12 9 "HookPierModel" "where" "I"])) (goodIn_sub iX12_seatings_X12 (by decide +kernel)))
set_option maxHeartbeats 1000000 in
set_option maxRecDepth 100000 in
theorem kX12_seatings (l : Launch) (dC : Nat → ClassId) (dI : Nat → Nat → Nat) (a0 : Nat) (g1 : Value) (g2 : Value) (g3 : Value) (g4 : Value) (g5 : Value) (g6 : Value) (g7 : Value) (g8 : Value) (g9 : Value) (g10 : Value) (g11 : Value) (g12 : Value) (g13 : Value) (g14 : Value) (g15 : Value) (g16 : Value) (g17 : Value) (g18 : Value) (g19 : Value) (g20 : Value) (g21 : Value) (g22 : Value) (g23 : Value) (g24 : Value) (g25 : Value) (g26 : Value) (g27 : Value) (g28 : Value) (g29 : Value) (sz : Nat) : Met l yX12_seatings vX12_seatings ({ frames := 1, cells := 0, slots := 0, locals := 21 }) (PC (dC, dI) [.ref a0] sz [(a0, .inr (9, [g1, g2, g3, .null, g4, g5, g6, g7, g8, g9, g10, g11, g12, g13, g14, g15, g16, g17, g18, g19, g20, g21, g22, g23, g24, g25, g26, g27, g28, g29]))] []) (va_Qi (S := Unit) (fun (r : Int32) _ => r = (-1)) (fun _ t => BC (dC, dI) (va_A [(a0, .inr (9, [g1, g2, g3, .null, g4, g5, g6, g7, g8, g9, g10, g11, g12, g13, g14, g15, g16, g17, g18, g19, g20, g21, g22, g23, g24, g25, g26, g27, g28, g29]))] sz) [] [] t) (va_A [(a0, .inr (9, [g1, g2, g3, .null, g4, g5, g6, g7, g8, g9, g10, g11, g12, g13, g14, g15, g16, g17, g18, g19, g20, g21, g22, g23, g24, g25, g26, g27, g28, g29]))] sz)) 0 0 (va_A [(a0, .inr (9, [g1, g2, g3, .null, g4, g5, g6, g7, g8, g9, g10, g11, g12, g13, g14, g15, g16, g17, g18, g19, g20, g21, g22, g23, g24, g25, g26, g27, g28, g29]))] sz) := by
  refine Met.ofW (cc := cX12_seatings) (maxL := 1) (ret := (some .int)) (by decide) rfl ?_
  intro p e s m args below meth c s₁ B hml hv
  obtain ⟨rfl, hsz, hP, hK, hD0, hN⟩ := hv
  have hx := B.exec
  have hb := B.bytes
  have hr := B.returns
  have hts := atoms_spec (ws := vX12_seatings) B.pre
  have hown : s.vm.findClass RX12 = some m.cls := findClass_of_methodNamed B.named
  have hlocks := B.notSynchronized
  subst hsz
  have hD := hD0.self (sz := s.heap.size)
  generalize hAe : va_A [(a0, .inr (9, [g1, g2, g3, .null, g4, g5, g6, g7, g8, g9, g10, g11, g12, g13, g14, g15, g16, g17, g18, g19, g20, g21, g22, g23, g24, g25, g26, g27, g28, g29]))] s.heap.size = A at hD ⊢
  have hA : ∀ q : Nat, s.heap.size ≤ q → A q := fun q h => by rw [← hAe]; exact Or.inr h
  have hS : va_S A s.heap s.heap [] := va_S.rf
  have hP : va_P (dC, dI) vwCl [(a0, .inr (9, [g1, g2, g3, .null, g4, g5, g6, g7, g8, g9, g10, g11, g12, g13, g14, g15, g16, g17, g18, g19, g20, g21, g22, g23, g24, g25, g26, g27, g28, g29]))] s.heap := hP
  have hl := lv_entry ([.ref a0]) (n := 1) (Nat.le_of_ble_eq_true rfl)
  rw [lg_entry_eq]
  generalize (lg_sl ([.ref a0]) ++ List.replicate (1 - (lg_sl ([.ref a0])).length) Slot.unset).toArray = ls at hl ⊢
  have hl : lv_has ls 1 [(0, .ref a0)] := hl
  refine lv_aload_n hx hb dX12_seatings_0 rfl (lv_at hl 0 rfl) ?_
  refine lv_iconst (v := 0) hx hb dX12_seatings_1 (by decide) ?_
  refine va_put (D := (dC, dI)) (ci := 9) (v := .int 0) (ty := .int) (C := RX12) (T := TX12) (N := 30) hx hb hts iX12_seatings_X12 tyX12 tyX12_ok nmX12 hown hK hP hD hS 0 rfl rfl 0 (by decide) (hts (.fieldLink RX12 36 "HookPierModel" "thrown" "I") (List.mem_of_getElem? (i := 1) rfl)) (fun _ h9 => h9) rfl (by decide +kernel) rfl rfl (Nat.le_of_ble_eq_true rfl) dX12_seatings_2 (fun H locs hP hD hS => ?_)
  have hP : va_P (dC, dI) vwCl [(a0, .inr (9, [.int 0, g2, g3, .null, g4, g5, g6, g7, g8, g9, g10, g11, g12, g13, g14, g15, g16, g17, g18, g19, g20, g21, g22, g23, g24, g25, g26, g27, g28, g29]))] H := hP
  have hD : va_D A [(a0, .inr (9, [.int 0, g2, g3, .null, g4, g5, g6, g7, g8, g9, g10, g11, g12, g13, g14, g15, g16, g17, g18, g19, g20, g21, g22, g23, g24, g25, g26, g27, g28, g29]))] := hD
  refine lv_aload_n hx hb dX12_seatings_5 rfl (lv_at hl 0 rfl) ?_
  refine va_get (D := (dC, dI)) (ci := 9) (v := .null) (C := RX12) (T := TX12) (N := 30) hx hb hts iX12_seatings_X12 hown hK hP 0 rfl rfl 3 (by decide) (hts (.fieldLink RX12 299 "HookPierModel" "pier" "LHookPierModel$Pier;") (List.mem_of_getElem? (i := 2) rfl)) (fun _ h9 => h9) rfl dX12_seatings_6 ?_
  refine lv_ifnonnullN hx hb dX12_seatings_9 ?_
  refine lv_aload_n hx hb dX12_seatings_12 rfl (lv_at hl 0 rfl) ?_
  refine lv_iconst (v := 1) hx hb dX12_seatings_13 (by decide) ?_
  refine cl_i (wc := [(a0, .inr (9, [.int 0, g2, g3, .null, g4, g5, g6, g7, g8, g9, g10, g11, g12, g13, g14, g15, g16, g17, g18, g19, g20, g21, g22, g23, g24, g25, g26, g27, g28, g29]))]) (wr := []) (va_runV (As := [.int 1]) (rest := []) ⟨hx, hb, hml, hown, hts⟩ (kX12_refused_1 l dC dI a0 (.int 0) (g2) (g3) (.null) (g4) (g5) (g6) (g7) (g8) (g9) (g10) (g11) (g12) (g13) (g14) (g15) (g16) (g17) (g18) (g19) (g20) (g21) (g22) (g23) (g24) (g25) (g26) (g27) (g28) (g29) H.size) (cwV 1 hts gX12_seatings_0 rfl rfl rfl (by decide +kernel) ⟨Nat.le_of_ble_eq_true rfl, Nat.le_of_ble_eq_true rfl⟩) (PV (hP.sub (ws' := [(a0, .inr (9, [.int 0, g2, g3, .null, g4, g5, g6, g7, g8, g9, g10, g11, g12, g13, g14, g15, g16, g17, g18, g19, g20, g21, g22, g23, g24, g25, g26, g27, g28, g29]))]) [0] rfl) (hK.sub (tys' := []) [] rfl) (hD.sub (ws' := [(a0, .inr (9, [.int 0, g2, g3, .null, g4, g5, g6, g7, g8, g9, g10, g11, g12, g13, g14, g15, g16, g17, g18, g19, g20, g21, g22, g23, g24, g25, g26, g27, g28, g29]))]) [0] (by decide) rfl) hN 0 rfl rfl) rfl rfl hl.1 rfl (lv_room (Nat.le_of_ble_eq_true rfl)) dX12_seatings_14 ⟨Nat.le_of_ble_eq_true rfl, Nat.le_of_ble_eq_true rfl⟩) hP hD hK hS hA [0] [] rfl rfl (by decide) (by decide) (fun z1 _u H locs hw hP hD hK hS => ?_)
  have hP : va_P (dC, dI) vwCl [(a0, .inr (9, [.int 0, .int 1, .int (-1), .null, g4, g5, g6, g7, g8, g9, g10, g11, g12, g13, g14, g15, g16, g17, g18, g19, g20, g21, g22, g23, g24, g25, g26, g27, g28, g29]))] H := hP
  have hD : va_D A [(a0, .inr (9, [.int 0, .int 1, .int (-1), .null, g4, g5, g6, g7, g8, g9, g10, g11, g12, g13, g14, g15, g16, g17, g18, g19, g20, g21, g22, g23, g24, g25, g26, g27, g28, g29]))] := hD
  have hK : va_K (dC, dI) vwCl [] s := hK
  obtain rfl : z1 = (-1) := hw
  have hP9 := hP.sub (ws' := []) [] rfl
  have hD9 := hD.sub (ws' := []) [] (by decide) rfl
  have hK9 := hK.sub (tys' := []) [] rfl
  exact W.iret (v := (-1)) hx hb hr (fun t ht hW => ⟨⟨(-1), (), rfl, rfl, by rw [ht]; exact hP9, va_K.moved hW.alike hK9, hD9⟩, hS.F ht⟩) hS.2.2 dX12_seatings_17
theorem dX10_seat_0 : decode cX10_seat 0 = .ok (.aload_n 0, 1) := by decide +kernel
theorem dX10_seat_1 : decode cX10_seat 1 = .ok (.aload_n 0, 1) := by decide +kernel
theorem dX10_seat_12 : decode cX10_seat 12 = .ok (.iconst (-1), 1) := by decide +kernel
theorem dX10_seat_13 : decode cX10_seat 13 = .ok (.ireturn, 1) := by decide +kernel
theorem dX10_seat_2 : decode cX10_seat 2 = .ok (.iload_n 1, 1) := by decide +kernel
theorem dX10_seat_3 : decode cX10_seat 3 = .ok (.invokevirtual 143, 3) := by decide +kernel
theorem dX10_seat_6 : decode cX10_seat 6 = .ok (.invokevirtual 79, 3) := by decide +kernel
theorem dX10_seat_9 : decode cX10_seat 9 = .ok (.ifCond .eq 5, 3) := by decide +kernel
def vX10_seat : List Cond := .code yX10_seat cX10_seat 2 (some .int) :: ([.methodLink RX10 143 yX10_askerTrouble, .instanceMethod yX10_askerTrouble, .selects RX10 yX10_askerTrouble yX10_askerTrouble, .initialized RX10, .code yX10_askerTrouble cX10_askerTrouble 2 (some .int), .fieldLink RX10 10 "HookPier" "plan" "LHookPier$Plan;", .methodLink RX10 236 yX6_hasAsker, .instanceMethod yX6_hasAsker, .selects RX6 yX6_hasAsker yX6_hasAsker, .initialized RX6, .code yX6_hasAsker cX6_hasAsker 2 (some .boolean), .fieldLink RX6 27 "HookPier$Plan" "askers" "I", .code yX10_within cX10_within 3 (some .boolean), .static yX10_within, .methodLink RX10 79 yX10_refused, .instanceMethod yX10_refused, .selects RX10 yX10_refused yX10_refused, .code yX10_refused cX10_refused 2 (some .boolean), .fieldLink RX10 61 "HookPier" "troubleNow" "I"] ++ wsX100 ++ wsX60)
theorem iX10_seat_X10 : ∀ w ∈ wsX100, w ∈ vX10_seat := fun _ h => List.mem_cons_of_mem _ (List.mem_append_left _ (List.mem_append_right _ h))
theorem iX10_seat_X6 : ∀ w ∈ wsX60, w ∈ vX10_seat := fun _ h => List.mem_cons_of_mem _ (List.mem_append_right _ h)
set_option maxRecDepth 20000 in
theorem gX10_seat_0 : GoodIn vX10_seat (wsV RX10 143 RX10 yX10_askerTrouble vX10_askerTrouble) := goodIn_app (goodIn_r [.methodLink RX10 143 yX10_askerTrouble, .instanceMethod yX10_askerTrouble, .selects RX10 yX10_askerTrouble yX10_askerTrouble, .initialized RX10] [1, 2, 3, 4] (by decide +kernel) (by decide +kernel)) (goodIn_ca (goodIn_ca (goodIn_r (.code yX10_askerTrouble cX10_askerTrouble 2 (some .int) :: [.fieldLink RX10 10 "HookPier" "plan" "LHookPier$Plan;", .methodLink RX10 236 yX6_hasAsker, .instanceMethod yX6_hasAsker, .selects RX6 yX6_hasAsker yX6_hasAsker, .initialized RX6, .code yX6_hasAsker cX6_hasAsker 2 (some .boolean), .fieldLink RX6 27 "HookPier$Plan" "askers" "I", .code yX10_within cX10_within 3 (some .boolean), .initialized RX10, .static yX10_within]) [5, 6, 7, 8, 9, 10, 11, 12, 13, 4, 14] (by decide +kernel) (by decide +kernel) : GoodIn vX10_seat (.code yX10_askerTrouble cX10_askerTrouble 2 (some .int) :: [.fieldLink RX10 10 "HookPier" "plan" "LHookPier$Plan;", .methodLink RX10 236 yX6_hasAsker, .instanceMethod yX6_hasAsker, .selects RX6 yX6_hasAsker yX6_hasAsker, .initialized RX6, .code yX6_hasAsker cX6_hasAsker 2 (some .boolean), .fieldLink RX6 27 "HookPier$Plan" "askers" "I", .code yX10_within cX10_within 3 (some .boolean), .initialized RX10, .static yX10_within])) (goodIn_sub iX10_seat_X10 (by decide +kernel))) (goodIn_sub iX10_seat_X6 (by decide +kernel)))
set_option maxRecDepth 20000 in
theorem gX10_seat_1 : GoodIn vX10_seat (wsV RX10 79 RX10 yX10_refused vX10_refused_3) := goodIn_app (goodIn_r [.methodLink RX10 79 yX10_refused, .instanceMethod yX10_refused, .selects RX10 yX10_refused yX10_refused, .initialized RX10] [15, 16, 17, 4] (by decide +kernel) (by decide +kernel)) (goodIn_ca (goodIn_r (.code yX10_refused cX10_refused 2 (some .boolean) :: [.fieldLink RX10 61 "HookPier" "troubleNow" "I"]) [18, 19] (by decide +kernel) (by decide +kernel) : GoodIn vX10_seat (.code yX10_refused cX10_refused 2 (some .boolean) :: [.fieldLink RX10 61 "HookPier" "troubleNow" "I"])) (goodIn_sub iX10_seat_X10 (by decide +kernel)))
set_option maxHeartbeats 1000000 in
set_option maxRecDepth 100000 in
theorem kX10_seat (l : Launch) (dC : Nat → ClassId) (dI : Nat → Nat → Nat) (a0 : Nat) (k1 : Int32) (a2 : Nat) (g3 : Value) (g4 : Value) (g5 : Value) (g6 : Value) (g7 : Value) (g8 : Value) (g9 : Value) (g10 : Value) (g11 : Value) (g12 : Value) (g13 : Value) (g14 : Value) (g15 : Value) (g16 : Value) (g17 : Value) (g18 : Value) (g19 : Value) (g20 : Value) (g21 : Value) (g22 : Value) (g23 : Value) (g24 : Value) (g25 : Value) (g26 : Value) (g27 : Value) (g28 : Value) (sz : Nat) : Met l yX10_seat vX10_seat ({ frames := 3, cells := 0, slots := 0, locals := 64 }) (PC (dC, dI) [.ref a0, .int k1] sz [(a0, .inr (7, [.ref a2, g3, g4, g5, g6, g7, g8, g9, g10, g11])), (a2, .inr (4, [g12, g13, g14, g15, g16, .int 0, g17, g18, g19, g20, g21, g22, g23, g24, g25, g26, g27, g28]))] []) (va_Qi (S := Unit) (fun (r : Int32) _ => r = (-1)) (fun _ t => BC (dC, dI) (va_A [(a0, .inr (7, [.ref a2, g3, g4, g5, g6, g7, g8, g9, g10, g11])), (a2, .inr (4, [g12, g13, g14, g15, g16, .int 0, g17, g18, g19, g20, g21, g22, g23, g24, g25, g26, g27, g28]))] sz) [] [] t) (va_A [(a0, .inr (7, [.ref a2, g3, g4, g5, g6, g7, g8, g9, g10, g11])), (a2, .inr (4, [g12, g13, g14, g15, g16, .int 0, g17, g18, g19, g20, g21, g22, g23, g24, g25, g26, g27, g28]))] sz)) 0 0 (va_A [(a0, .inr (7, [.ref a2, g3, g4, g5, g6, g7, g8, g9, g10, g11])), (a2, .inr (4, [g12, g13, g14, g15, g16, .int 0, g17, g18, g19, g20, g21, g22, g23, g24, g25, g26, g27, g28]))] sz) := by
  refine Met.ofW (cc := cX10_seat) (maxL := 2) (ret := (some .int)) (by decide) rfl ?_
  intro p e s m args below meth c s₁ B hml hv
  obtain ⟨rfl, hsz, hP, hK, hD0, hN⟩ := hv
  have hx := B.exec
  have hb := B.bytes
  have hr := B.returns
  have hts := atoms_spec (ws := vX10_seat) B.pre
  have hown : s.vm.findClass RX10 = some m.cls := findClass_of_methodNamed B.named
  have hlocks := B.notSynchronized
  subst hsz
  have hD := hD0.self (sz := s.heap.size)
  generalize hAe : va_A [(a0, .inr (7, [.ref a2, g3, g4, g5, g6, g7, g8, g9, g10, g11])), (a2, .inr (4, [g12, g13, g14, g15, g16, .int 0, g17, g18, g19, g20, g21, g22, g23, g24, g25, g26, g27, g28]))] s.heap.size = A at hD ⊢
  have hA : ∀ q : Nat, s.heap.size ≤ q → A q := fun q h => by rw [← hAe]; exact Or.inr h
  have hS : va_S A s.heap s.heap [] := va_S.rf
  have hP : va_P (dC, dI) vwCl [(a0, .inr (7, [.ref a2, g3, g4, g5, g6, g7, g8, g9, g10, g11])), (a2, .inr (4, [g12, g13, g14, g15, g16, .int 0, g17, g18, g19, g20, g21, g22, g23, g24, g25, g26, g27, g28]))] s.heap := hP
  have hl := lv_entry ([.ref a0, .int k1]) (n := 2) (Nat.le_of_ble_eq_true rfl)
  rw [lg_entry_eq]
  generalize (lg_sl ([.ref a0, .int k1]) ++ List.replicate (2 - (lg_sl ([.ref a0, .int k1])).length) Slot.unset).toArray = ls at hl ⊢
  have hl : lv_has ls 2 [(0, .ref a0), (1, .int k1)] := hl
  refine lv_aload_n hx hb dX10_seat_0 rfl (lv_at hl 0 rfl) ?_
  refine lv_aload_n hx hb dX10_seat_1 rfl (lv_at hl 0 rfl) ?_
  refine lv_iload_n hx hb dX10_seat_2 rfl (lv_at hl 1 rfl) ?_
  refine cl_i (wc := [(a0, .inr (7, [.ref a2, g3, g4, g5, g6, g7, g8, g9, g10, g11])), (a2, .inr (4, [g12, g13, g14, g15, g16, .int 0, g17, g18, g19, g20, g21, g22, g23, g24, g25, g26, g27, g28]))]) (wr := []) (va_runV (As := [.int k1]) (rest := [.ref a0]) ⟨hx, hb, hml, hown, hts⟩ (kX10_askerTrouble l dC dI a0 k1 a2 (g3) (g4) (g5) (g6) (g7) (g8) (g9) (g10) (g11) (g12) (g13) (g14) (g15) (g16) (g17) (g18) (g19) (g20) (g21) (g22) (g23) (g24) (g25) (g26) (g27) (g28) s.heap.size) (cwV 1 hts gX10_seat_0 rfl rfl rfl (by decide +kernel) ⟨Nat.le_of_ble_eq_true rfl, Nat.le_of_ble_eq_true rfl⟩) (PV (hP.sub (ws' := [(a0, .inr (7, [.ref a2, g3, g4, g5, g6, g7, g8, g9, g10, g11])), (a2, .inr (4, [g12, g13, g14, g15, g16, .int 0, g17, g18, g19, g20, g21, g22, g23, g24, g25, g26, g27, g28]))]) [0, 1] rfl) (hK.sub (tys' := []) [] rfl) (hD.sub (ws' := [(a0, .inr (7, [.ref a2, g3, g4, g5, g6, g7, g8, g9, g10, g11])), (a2, .inr (4, [g12, g13, g14, g15, g16, .int 0, g17, g18, g19, g20, g21, g22, g23, g24, g25, g26, g27, g28]))]) [0, 1] (by decide) rfl) hN 0 rfl rfl) rfl rfl hl.1 rfl (lv_room (Nat.le_of_ble_eq_true rfl)) dX10_seat_3 ⟨Nat.le_of_ble_eq_true rfl, Nat.le_of_ble_eq_true rfl⟩) hP hD hK hS hA [0, 1] [] rfl rfl (by decide) (by decide) (fun z1 _u H locs hw hP hD hK hS => ?_)
  have hP : va_P (dC, dI) vwCl [(a0, .inr (7, [.ref a2, g3, g4, g5, g6, g7, g8, g9, g10, g11])), (a2, .inr (4, [g12, g13, g14, g15, g16, .int 0, g17, g18, g19, g20, g21, g22, g23, g24, g25, g26, g27, g28]))] H := hP
  have hD : va_D A [(a0, .inr (7, [.ref a2, g3, g4, g5, g6, g7, g8, g9, g10, g11])), (a2, .inr (4, [g12, g13, g14, g15, g16, .int 0, g17, g18, g19, g20, g21, g22, g23, g24, g25, g26, g27, g28]))] := hD
  have hK : va_K (dC, dI) vwCl [] s := hK
  obtain rfl : z1 = 1 := hw
  refine cl_i (wc := [(a0, .inr (7, [.ref a2, g3, g4, g5, g6, g7, g8, g9, g10, g11]))]) (wr := [(a2, .inr (4, [g12, g13, g14, g15, g16, .int 0, g17, g18, g19, g20, g21, g22, g23, g24, g25, g26, g27, g28]))]) (va_runV (As := [.int 1]) (rest := []) ⟨hx, hb, hml, hown, hts⟩ (kX10_refused_3 l dC dI a0 (.ref a2) (g3) (g4) (g5) (g6) (g7) (g8) (g9) (g10) (g11) H.size) (cwV 1 hts gX10_seat_1 rfl rfl rfl (by decide +kernel) ⟨Nat.le_of_ble_eq_true rfl, Nat.le_of_ble_eq_true rfl⟩) (PV (hP.sub (ws' := [(a0, .inr (7, [.ref a2, g3, g4, g5, g6, g7, g8, g9, g10, g11]))]) [0] rfl) (hK.sub (tys' := []) [] rfl) (hD.sub (ws' := [(a0, .inr (7, [.ref a2, g3, g4, g5, g6, g7, g8, g9, g10, g11]))]) [0] (by decide) rfl) hN 0 rfl rfl) rfl rfl hl.1 rfl (lv_room (Nat.le_of_ble_eq_true rfl)) dX10_seat_6 ⟨Nat.le_of_ble_eq_true rfl, Nat.le_of_ble_eq_true rfl⟩) hP hD hK hS hA [0] [1] rfl rfl (by decide) (by decide) (fun z2 _u H locs hw hP hD hK hS => ?_)
  have hP : va_P (dC, dI) vwCl [(a2, .inr (4, [g12, g13, g14, g15, g16, .int 0, g17, g18, g19, g20, g21, g22, g23, g24, g25, g26, g27, g28])), (a0, .inr (7, [.ref a2, g3, g4, g5, g6, g7, g8, g9, .int 1, g11]))] H := hP
  have hD : va_D A [(a2, .inr (4, [g12, g13, g14, g15, g16, .int 0, g17, g18, g19, g20, g21, g22, g23, g24, g25, g26, g27, g28])), (a0, .inr (7, [.ref a2, g3, g4, g5, g6, g7, g8, g9, .int 1, g11]))] := hD
  have hK : va_K (dC, dI) vwCl [] s := hK
  obtain rfl : z2 = 1 := hw
  refine lv_if_eq (tgt := 14) hx hb dX10_seat_9 (by decide) (fun c3 => absurd c3 (by decide)) (fun _ => ?_)
  refine lv_iconst (v := (-1)) hx hb dX10_seat_12 (by decide) ?_
  have hP9 := hP.sub (ws' := []) [] rfl
  have hD9 := hD.sub (ws' := []) [] (by decide) rfl
  have hK9 := hK.sub (tys' := []) [] rfl
  exact W.iret (v := (-1)) hx hb hr (fun t ht hW => ⟨⟨(-1), (), rfl, rfl, by rw [ht]; exact hP9, va_K.moved hW.alike hK9, hD9⟩, hS.F ht⟩) hS.2.2 dX10_seat_13
