theorem dX10_within_0 : decode cX10_within 0 = .ok (.iload_n 0, 1) := by decide +kernel
theorem dX10_within_1 : decode cX10_within 1 = .ok (.iload_n 1, 1) := by decide +kernel
theorem dX10_within_10 : decode cX10_within 10 = .ok (.iconst 1, 1) := by decide +kernel
theorem dX10_within_11 : decode cX10_within 11 = .ok (.goto 4, 3) := by decide +kernel
theorem dX10_within_14 : decode cX10_within 14 = .ok (.iconst 0, 1) := by decide +kernel
theorem dX10_within_15 : decode cX10_within 15 = .ok (.ireturn, 1) := by decide +kernel
theorem dX10_within_2 : decode cX10_within 2 = .ok (.if_icmp .lt 12, 3) := by decide +kernel
theorem dX10_within_5 : decode cX10_within 5 = .ok (.iload_n 0, 1) := by decide +kernel
theorem dX10_within_6 : decode cX10_within 6 = .ok (.iload_n 2, 1) := by decide +kernel
theorem dX10_within_7 : decode cX10_within 7 = .ok (.if_icmp .gt 7, 3) := by decide +kernel
def vX10_within : List Cond := .code yX10_within cX10_within 3 (some .boolean) :: ([])
set_option maxHeartbeats 1000000 in
set_option maxRecDepth 100000 in
theorem kX10_within (l : Launch) (dC : Nat → ClassId) (dI : Nat → Nat → Nat) (k0 : Int32) (sz : Nat) : Met l yX10_within vX10_within ({ frames := 0, cells := 0, slots := 0, locals := 0 }) (PC (dC, dI) [.int k0, .int 0, .int 0] sz [] []) (va_Qi (S := Unit) (fun (r : Int32) _ => (r = 0 ∧ k0 < 0) ∨ (r = 0 ∧ ¬ k0 < 0 ∧ 0 < k0) ∨ (r = 1 ∧ ¬ k0 < 0 ∧ ¬ 0 < k0)) (fun _ t => BC (dC, dI) (va_A [] sz) [] [] t) (va_A [] sz)) 0 0 (va_A [] sz) := by
  refine Met.ofW (cc := cX10_within) (maxL := 3) (ret := (some .boolean)) (by decide) rfl ?_
  intro p e s m args below meth c s₁ B hml hv
  obtain ⟨rfl, hsz, hP, hK, hD0, hN⟩ := hv
  have hx := B.exec
  have hb := B.bytes
  have hr := B.returns
  have hts := atoms_spec (ws := vX10_within) B.pre
  have hown : s.vm.findClass RX10 = some m.cls := findClass_of_methodNamed B.named
  have hlocks := B.notSynchronized
  subst hsz
  have hD := hD0.self (sz := s.heap.size)
  generalize hAe : va_A [] s.heap.size = A at hD ⊢
  have hA : ∀ q : Nat, s.heap.size ≤ q → A q := fun q h => by rw [← hAe]; exact Or.inr h
  have hS : va_S A s.heap s.heap [] := va_S.rf
  have hP : va_P (dC, dI) vwCl [] s.heap := hP
  have hl := lv_entry ([.int k0, .int 0, .int 0]) (n := 3) (Nat.le_of_ble_eq_true rfl)
  rw [lg_entry_eq]
  generalize (lg_sl ([.int k0, .int 0, .int 0]) ++ List.replicate (3 - (lg_sl ([.int k0, .int 0, .int 0])).length) Slot.unset).toArray = ls at hl ⊢
  have hl : lv_has ls 3 [(0, .int k0), (1, .int 0), (2, .int 0)] := hl
  refine lv_iload_n hx hb dX10_within_0 rfl (lv_at hl 0 rfl) ?_
  refine lv_iload_n hx hb dX10_within_1 rfl (lv_at hl 1 rfl) ?_
  refine lv_icmp_lt (tgt := 14) hx hb dX10_within_2 (by decide) (fun c1 => ?_) (fun c1 => ?_)
  · refine lv_iconst (v := 0) hx hb dX10_within_14 (by decide) ?_
    have hP9 := hP.sub (ws' := []) [] rfl
    have hD9 := hD.sub (ws' := []) [] (by decide) rfl
    have hK9 := hK.sub (tys' := []) [] rfl
    exact W.zret (v := 0) hx hb hr rfl (fun t ht hW => ⟨⟨0, (), rfl, (Or.inl ⟨rfl, c1⟩), by rw [ht]; exact hP9, va_K.moved hW.alike hK9, hD9⟩, hS.F ht⟩) hS.2.2 dX10_within_15
  · refine lv_iload_n hx hb dX10_within_5 rfl (lv_at hl 0 rfl) ?_
    refine lv_iload_n hx hb dX10_within_6 rfl (lv_at hl 2 rfl) ?_
    refine lv_icmp_gt (tgt := 14) hx hb dX10_within_7 (by decide) (fun c2 => ?_) (fun c2 => ?_)
    · refine lv_iconst (v := 0) hx hb dX10_within_14 (by decide) ?_
      have hP9 := hP.sub (ws' := []) [] rfl
      have hD9 := hD.sub (ws' := []) [] (by decide) rfl
      have hK9 := hK.sub (tys' := []) [] rfl
      exact W.zret (v := 0) hx hb hr rfl (fun t ht hW => ⟨⟨0, (), rfl, (Or.inr (Or.inl ⟨rfl, c1, c2⟩)), by rw [ht]; exact hP9, va_K.moved hW.alike hK9, hD9⟩, hS.F ht⟩) hS.2.2 dX10_within_15
    · obtain rfl : k0 = 0 := (by simp only [fa_lt, fa_le, fa_eq, ltv_0] at c1 c2 ⊢; omega)
      refine lv_iconst (v := 1) hx hb dX10_within_10 (by decide) ?_
      refine lv_goto (tgt := 15) hx hb dX10_within_11 (by decide) ?_
      have hP9 := hP.sub (ws' := []) [] rfl
      have hD9 := hD.sub (ws' := []) [] (by decide) rfl
      have hK9 := hK.sub (tys' := []) [] rfl
      exact W.zret (v := 1) hx hb hr rfl (fun t ht hW => ⟨⟨1, (), rfl, (Or.inr (Or.inr ⟨rfl, c1, c2⟩)), by rw [ht]; exact hP9, va_K.moved hW.alike hK9, hD9⟩, hS.F ht⟩) hS.2.2 dX10_within_15
theorem dX10_refused_0 : decode cX10_refused 0 = .ok (.aload_n 0, 1) := by decide +kernel
theorem dX10_refused_1 : decode cX10_refused 1 = .ok (.iload_n 1, 1) := by decide +kernel
theorem dX10_refused_10 : decode cX10_refused 10 = .ok (.goto 4, 3) := by decide +kernel
theorem dX10_refused_14 : decode cX10_refused 14 = .ok (.ireturn, 1) := by decide +kernel
theorem dX10_refused_2 : decode cX10_refused 2 = .ok (.putfield 61, 3) := by decide +kernel
theorem dX10_refused_5 : decode cX10_refused 5 = .ok (.iload_n 1, 1) := by decide +kernel
theorem dX10_refused_6 : decode cX10_refused 6 = .ok (.ifCond .eq 7, 3) := by decide +kernel
theorem dX10_refused_9 : decode cX10_refused 9 = .ok (.iconst 1, 1) := by decide +kernel
def vX10_refused : List Cond := .code yX10_refused cX10_refused 2 (some .boolean) :: ([.fieldLink RX10 61 "HookPier" "troubleNow" "I"] ++ wsX100)
theorem iX10_refused_X10 : ∀ w ∈ wsX100, w ∈ vX10_refused := fun _ h => List.mem_cons_of_mem _ (List.mem_append_right _ h)
set_option maxHeartbeats 1000000 in
set_option maxRecDepth 100000 in
theorem kX10_refused (l : Launch) (dC : Nat → ClassId) (dI : Nat → Nat → Nat) (a0 : Nat) (g1 : Value) (g2 : Value) (g3 : Value) (g4 : Value) (g5 : Value) (g6 : Value) (g7 : Value) (g8 : Value) (g9 : Value) (g10 : Value) (sz : Nat) : Met l yX10_refused vX10_refused ({ frames := 0, cells := 0, slots := 0, locals := 0 }) (PC (dC, dI) [.ref a0, .int 2] sz [(a0, .inr (7, [g1, g2, g3, g4, g5, g6, g7, g8, g9, g10]))] []) (va_Qi (S := Unit) (fun (r : Int32) _ => r = 1) (fun _ t => BC (dC, dI) (va_A [(a0, .inr (7, [g1, g2, g3, g4, g5, g6, g7, g8, g9, g10]))] sz) [(a0, .inr (7, [g1, g2, g3, g4, g5, g6, g7, g8, .int 2, g10]))] [] t) (va_A [(a0, .inr (7, [g1, g2, g3, g4, g5, g6, g7, g8, g9, g10]))] sz)) 0 0 (va_A [(a0, .inr (7, [g1, g2, g3, g4, g5, g6, g7, g8, g9, g10]))] sz) := by
  refine Met.ofW (cc := cX10_refused) (maxL := 2) (ret := (some .boolean)) (by decide) rfl ?_
  intro p e s m args below meth c s₁ B hml hv
  obtain ⟨rfl, hsz, hP, hK, hD0, hN⟩ := hv
  have hx := B.exec
  have hb := B.bytes
  have hr := B.returns
  have hts := atoms_spec (ws := vX10_refused) B.pre
  have hown : s.vm.findClass RX10 = some m.cls := findClass_of_methodNamed B.named
  have hlocks := B.notSynchronized
  subst hsz
  have hD := hD0.self (sz := s.heap.size)
  generalize hAe : va_A [(a0, .inr (7, [g1, g2, g3, g4, g5, g6, g7, g8, g9, g10]))] s.heap.size = A at hD ⊢
  have hA : ∀ q : Nat, s.heap.size ≤ q → A q := fun q h => by rw [← hAe]; exact Or.inr h
  have hS : va_S A s.heap s.heap [] := va_S.rf
  have hP : va_P (dC, dI) vwCl [(a0, .inr (7, [g1, g2, g3, g4, g5, g6, g7, g8, g9, g10]))] s.heap := hP
  have hl := lv_entry ([.ref a0, .int 2]) (n := 2) (Nat.le_of_ble_eq_true rfl)
  rw [lg_entry_eq]
  generalize (lg_sl ([.ref a0, .int 2]) ++ List.replicate (2 - (lg_sl ([.ref a0, .int 2])).length) Slot.unset).toArray = ls at hl ⊢
  have hl : lv_has ls 2 [(0, .ref a0), (1, .int 2)] := hl
  refine lv_aload_n hx hb dX10_refused_0 rfl (lv_at hl 0 rfl) ?_
  refine lv_iload_n hx hb dX10_refused_1 rfl (lv_at hl 1 rfl) ?_
  refine va_put (D := (dC, dI)) (ci := 7) (v := .int 2) (ty := .int) (C := RX10) (T := TX10) (N := 10) hx hb hts iX10_refused_X10 tyX10 tyX10_ok nmX10 hown hK hP hD hS 0 rfl rfl 8 (by decide) (hts (.fieldLink RX10 61 "HookPier" "troubleNow" "I") (List.mem_of_getElem? (i := 1) rfl)) (fun _ h9 => h9) rfl (by decide +kernel) rfl rfl (Nat.le_of_ble_eq_true rfl) dX10_refused_2 (fun H locs hP hD hS => ?_)
  have hP : va_P (dC, dI) vwCl [(a0, .inr (7, [g1, g2, g3, g4, g5, g6, g7, g8, .int 2, g10]))] H := hP
  have hD : va_D A [(a0, .inr (7, [g1, g2, g3, g4, g5, g6, g7, g8, .int 2, g10]))] := hD
  refine lv_iload_n hx hb dX10_refused_5 rfl (lv_at hl 1 rfl) ?_
  refine lv_if_eq (tgt := 13) hx hb dX10_refused_6 (by decide) (fun c1 => absurd c1 (by decide)) (fun _ => ?_)
  refine lv_iconst (v := 1) hx hb dX10_refused_9 (by decide) ?_
  refine lv_goto (tgt := 14) hx hb dX10_refused_10 (by decide) ?_
  have hP9 := hP.sub (ws' := [(a0, .inr (7, [g1, g2, g3, g4, g5, g6, g7, g8, .int 2, g10]))]) [0] rfl
  have hD9 := hD.sub (ws' := [(a0, .inr (7, [g1, g2, g3, g4, g5, g6, g7, g8, .int 2, g10]))]) [0] (by decide) rfl
  have hK9 := hK.sub (tys' := []) [] rfl
  exact W.zret (v := 1) hx hb hr rfl (fun t ht hW => ⟨⟨1, (), rfl, rfl, by rw [ht]; exact hP9, va_K.moved hW.alike hK9, hD9⟩, hS.F ht⟩) hS.2.2 dX10_refused_14
theorem dX10_refused_13 : decode cX10_refused 13 = .ok (.iconst 0, 1) := by decide +kernel
def vX10_refused_1 : List Cond := .code yX10_refused cX10_refused 2 (some .boolean) :: ([.fieldLink RX10 61 "HookPier" "troubleNow" "I"] ++ wsX100)
theorem iX10_refused_1_X10 : ∀ w ∈ wsX100, w ∈ vX10_refused_1 := fun _ h => List.mem_cons_of_mem _ (List.mem_append_right _ h)
set_option maxHeartbeats 1000000 in
set_option maxRecDepth 100000 in
theorem kX10_refused_1 (l : Launch) (dC : Nat → ClassId) (dI : Nat → Nat → Nat) (a0 : Nat) (g1 : Value) (g2 : Value) (g3 : Value) (g4 : Value) (g5 : Value) (g6 : Value) (g7 : Value) (g8 : Value) (g9 : Value) (g10 : Value) (sz : Nat) : Met l yX10_refused vX10_refused_1 ({ frames := 0, cells := 0, slots := 0, locals := 0 }) (PC (dC, dI) [.ref a0, .int 0] sz [(a0, .inr (7, [g1, g2, g3, g4, g5, g6, g7, g8, g9, g10]))] []) (va_Qi (S := Unit) (fun (r : Int32) _ => r = 0) (fun _ t => BC (dC, dI) (va_A [(a0, .inr (7, [g1, g2, g3, g4, g5, g6, g7, g8, g9, g10]))] sz) [(a0, .inr (7, [g1, g2, g3, g4, g5, g6, g7, g8, .int 0, g10]))] [] t) (va_A [(a0, .inr (7, [g1, g2, g3, g4, g5, g6, g7, g8, g9, g10]))] sz)) 0 0 (va_A [(a0, .inr (7, [g1, g2, g3, g4, g5, g6, g7, g8, g9, g10]))] sz) := by
  refine Met.ofW (cc := cX10_refused) (maxL := 2) (ret := (some .boolean)) (by decide) rfl ?_
  intro p e s m args below meth c s₁ B hml hv
  obtain ⟨rfl, hsz, hP, hK, hD0, hN⟩ := hv
  have hx := B.exec
  have hb := B.bytes
  have hr := B.returns
  have hts := atoms_spec (ws := vX10_refused_1) B.pre
  have hown : s.vm.findClass RX10 = some m.cls := findClass_of_methodNamed B.named
  have hlocks := B.notSynchronized
  subst hsz
  have hD := hD0.self (sz := s.heap.size)
  generalize hAe : va_A [(a0, .inr (7, [g1, g2, g3, g4, g5, g6, g7, g8, g9, g10]))] s.heap.size = A at hD ⊢
  have hA : ∀ q : Nat, s.heap.size ≤ q → A q := fun q h => by rw [← hAe]; exact Or.inr h
  have hS : va_S A s.heap s.heap [] := va_S.rf
  have hP : va_P (dC, dI) vwCl [(a0, .inr (7, [g1, g2, g3, g4, g5, g6, g7, g8, g9, g10]))] s.heap := hP
  have hl := lv_entry ([.ref a0, .int 0]) (n := 2) (Nat.le_of_ble_eq_true rfl)
  rw [lg_entry_eq]
  generalize (lg_sl ([.ref a0, .int 0]) ++ List.replicate (2 - (lg_sl ([.ref a0, .int 0])).length) Slot.unset).toArray = ls at hl ⊢
  have hl : lv_has ls 2 [(0, .ref a0), (1, .int 0)] := hl
  refine lv_aload_n hx hb dX10_refused_0 rfl (lv_at hl 0 rfl) ?_
  refine lv_iload_n hx hb dX10_refused_1 rfl (lv_at hl 1 rfl) ?_
  refine va_put (D := (dC, dI)) (ci := 7) (v := .int 0) (ty := .int) (C := RX10) (T := TX10) (N := 10) hx hb hts iX10_refused_1_X10 tyX10 tyX10_ok nmX10 hown hK hP hD hS 0 rfl rfl 8 (by decide) (hts (.fieldLink RX10 61 "HookPier" "troubleNow" "I") (List.mem_of_getElem? (i := 1) rfl)) (fun _ h9 => h9) rfl (by decide +kernel) rfl rfl (Nat.le_of_ble_eq_true rfl) dX10_refused_2 (fun H locs hP hD hS => ?_)
  have hP : va_P (dC, dI) vwCl [(a0, .inr (7, [g1, g2, g3, g4, g5, g6, g7, g8, .int 0, g10]))] H := hP
  have hD : va_D A [(a0, .inr (7, [g1, g2, g3, g4, g5, g6, g7, g8, .int 0, g10]))] := hD
  refine lv_iload_n hx hb dX10_refused_5 rfl (lv_at hl 1 rfl) ?_
  refine lv_if_eq (tgt := 13) hx hb dX10_refused_6 (by decide) (fun _ => ?_) (fun c1 => absurd c1 (by decide))
  refine lv_iconst (v := 0) hx hb dX10_refused_13 (by decide) ?_
  have hP9 := hP.sub (ws' := [(a0, .inr (7, [g1, g2, g3, g4, g5, g6, g7, g8, .int 0, g10]))]) [0] rfl
  have hD9 := hD.sub (ws' := [(a0, .inr (7, [g1, g2, g3, g4, g5, g6, g7, g8, .int 0, g10]))]) [0] (by decide) rfl
  have hK9 := hK.sub (tys' := []) [] rfl
  exact W.zret (v := 0) hx hb hr rfl (fun t ht hW => ⟨⟨0, (), rfl, rfl, by rw [ht]; exact hP9, va_K.moved hW.alike hK9, hD9⟩, hS.F ht⟩) hS.2.2 dX10_refused_14
theorem dX6_clear_0 : decode cX6_clear 0 = .ok (.aload_n 0, 1) := by decide +kernel
theorem dX6_clear_1 : decode cX6_clear 1 = .ok (.iconst 0, 1) := by decide +kernel
theorem dX6_clear_10 : decode cX6_clear 10 = .ok (.aload_n 0, 1) := by decide +kernel
theorem dX6_clear_11 : decode cX6_clear 11 = .ok (.iconst 0, 1) := by decide +kernel
theorem dX6_clear_12 : decode cX6_clear 12 = .ok (.putfield 24, 3) := by decide +kernel
theorem dX6_clear_15 : decode cX6_clear 15 = .ok (.aload_n 0, 1) := by decide +kernel
theorem dX6_clear_16 : decode cX6_clear 16 = .ok (.iconst 0, 1) := by decide +kernel
theorem dX6_clear_17 : decode cX6_clear 17 = .ok (.putfield 27, 3) := by decide +kernel
theorem dX6_clear_2 : decode cX6_clear 2 = .ok (.putfield 9, 3) := by decide +kernel
theorem dX6_clear_20 : decode cX6_clear 20 = .ok (.aload_n 0, 1) := by decide +kernel
theorem dX6_clear_21 : decode cX6_clear 21 = .ok (.iconst 0, 1) := by decide +kernel
theorem dX6_clear_22 : decode cX6_clear 22 = .ok (.putfield 30, 3) := by decide +kernel
theorem dX6_clear_25 : decode cX6_clear 25 = .ok (.aload_n 0, 1) := by decide +kernel
theorem dX6_clear_26 : decode cX6_clear 26 = .ok (.iconst 0, 1) := by decide +kernel
theorem dX6_clear_27 : decode cX6_clear 27 = .ok (.putfield 33, 3) := by decide +kernel
theorem dX6_clear_30 : decode cX6_clear 30 = .ok (.aload_n 0, 1) := by decide +kernel
theorem dX6_clear_31 : decode cX6_clear 31 = .ok (.iconst (-1), 1) := by decide +kernel
theorem dX6_clear_32 : decode cX6_clear 32 = .ok (.putfield 36, 3) := by decide +kernel
theorem dX6_clear_35 : decode cX6_clear 35 = .ok (.return_, 1) := by decide +kernel
theorem dX6_clear_5 : decode cX6_clear 5 = .ok (.aload_n 0, 1) := by decide +kernel
theorem dX6_clear_6 : decode cX6_clear 6 = .ok (.iconst 0, 1) := by decide +kernel
theorem dX6_clear_7 : decode cX6_clear 7 = .ok (.putfield 15, 3) := by decide +kernel
def vX6_clear : List Cond := .code yX6_clear cX6_clear 1 none :: ([.fieldLink RX6 9 "HookPier$Plan" "spots" "I", .fieldLink RX6 15 "HookPier$Plan" "deep" "I", .fieldLink RX6 24 "HookPier$Plan" "baits" "I", .fieldLink RX6 27 "HookPier$Plan" "askers" "I", .fieldLink RX6 30 "HookPier$Plan" "answers" "I", .fieldLink RX6 33 "HookPier$Plan" "bites" "I", .fieldLink RX6 36 "HookPier$Plan" "darkHunger" "I"] ++ wsX60)
theorem iX6_clear_X6 : ∀ w ∈ wsX60, w ∈ vX6_clear := fun _ h => List.mem_cons_of_mem _ (List.mem_append_right _ h)
set_option maxHeartbeats 1000000 in
set_option maxRecDepth 100000 in
theorem kX6_clear (l : Launch) (dC : Nat → ClassId) (dI : Nat → Nat → Nat) (a0 : Nat) (g1 : Value) (g2 : Value) (g3 : Value) (g4 : Value) (g5 : Value) (g6 : Value) (g7 : Value) (g8 : Value) (g9 : Value) (g10 : Value) (g11 : Value) (g12 : Value) (g13 : Value) (g14 : Value) (g15 : Value) (g16 : Value) (g17 : Value) (g18 : Value) (sz : Nat) : Met l yX6_clear vX6_clear ({ frames := 0, cells := 0, slots := 0, locals := 0 }) (PC (dC, dI) [.ref a0] sz [(a0, .inr (4, [g1, g2, g3, g4, g5, g6, g7, g8, g9, g10, g11, g12, g13, g14, g15, g16, g17, g18]))] []) (va_Qv (S := Unit) (fun _ => True) (fun _ t => BC (dC, dI) (va_A [(a0, .inr (4, [g1, g2, g3, g4, g5, g6, g7, g8, g9, g10, g11, g12, g13, g14, g15, g16, g17, g18]))] sz) [(a0, .inr (4, [.int 0, .int 0, g3, g4, .int 0, .int 0, .int 0, .int 0, .int (-1), g10, g11, g12, g13, g14, g15, g16, g17, g18]))] [] t) (va_A [(a0, .inr (4, [g1, g2, g3, g4, g5, g6, g7, g8, g9, g10, g11, g12, g13, g14, g15, g16, g17, g18]))] sz)) 0 0 (va_A [(a0, .inr (4, [g1, g2, g3, g4, g5, g6, g7, g8, g9, g10, g11, g12, g13, g14, g15, g16, g17, g18]))] sz) := by
  refine Met.ofW (cc := cX6_clear) (maxL := 1) (ret := none) (by decide) rfl ?_
  intro p e s m args below meth c s₁ B hml hv
  obtain ⟨rfl, hsz, hP, hK, hD0, hN⟩ := hv
  have hx := B.exec
  have hb := B.bytes
  have hr := B.returns
  have hts := atoms_spec (ws := vX6_clear) B.pre
  have hown : s.vm.findClass RX6 = some m.cls := findClass_of_methodNamed B.named
  have hlocks := B.notSynchronized
  subst hsz
  have hD := hD0.self (sz := s.heap.size)
  generalize hAe : va_A [(a0, .inr (4, [g1, g2, g3, g4, g5, g6, g7, g8, g9, g10, g11, g12, g13, g14, g15, g16, g17, g18]))] s.heap.size = A at hD ⊢
  have hA : ∀ q : Nat, s.heap.size ≤ q → A q := fun q h => by rw [← hAe]; exact Or.inr h
  have hS : va_S A s.heap s.heap [] := va_S.rf
  have hP : va_P (dC, dI) vwCl [(a0, .inr (4, [g1, g2, g3, g4, g5, g6, g7, g8, g9, g10, g11, g12, g13, g14, g15, g16, g17, g18]))] s.heap := hP
  have hl := lv_entry ([.ref a0]) (n := 1) (Nat.le_of_ble_eq_true rfl)
  rw [lg_entry_eq]
  generalize (lg_sl ([.ref a0]) ++ List.replicate (1 - (lg_sl ([.ref a0])).length) Slot.unset).toArray = ls at hl ⊢
  have hl : lv_has ls 1 [(0, .ref a0)] := hl
  refine lv_aload_n hx hb dX6_clear_0 rfl (lv_at hl 0 rfl) ?_
  refine lv_iconst (v := 0) hx hb dX6_clear_1 (by decide) ?_
  refine va_put (D := (dC, dI)) (ci := 4) (v := .int 0) (ty := .int) (C := RX6) (T := TX6) (N := 18) hx hb hts iX6_clear_X6 tyX6 tyX6_ok nmX6 hown hK hP hD hS 0 rfl rfl 0 (by decide) (hts (.fieldLink RX6 9 "HookPier$Plan" "spots" "I") (List.mem_of_getElem? (i := 1) rfl)) (fun _ h9 => h9) rfl (by decide +kernel) rfl rfl (Nat.le_of_ble_eq_true rfl) dX6_clear_2 (fun H locs hP hD hS => ?_)
  have hP : va_P (dC, dI) vwCl [(a0, .inr (4, [.int 0, g2, g3, g4, g5, g6, g7, g8, g9, g10, g11, g12, g13, g14, g15, g16, g17, g18]))] H := hP
  have hD : va_D A [(a0, .inr (4, [.int 0, g2, g3, g4, g5, g6, g7, g8, g9, g10, g11, g12, g13, g14, g15, g16, g17, g18]))] := hD
  refine lv_aload_n hx hb dX6_clear_5 rfl (lv_at hl 0 rfl) ?_
  refine lv_iconst (v := 0) hx hb dX6_clear_6 (by decide) ?_
  refine va_put (D := (dC, dI)) (ci := 4) (v := .int 0) (ty := .int) (C := RX6) (T := TX6) (N := 18) hx hb hts iX6_clear_X6 tyX6 tyX6_ok nmX6 hown hK hP hD hS 0 rfl rfl 1 (by decide) (hts (.fieldLink RX6 15 "HookPier$Plan" "deep" "I") (List.mem_of_getElem? (i := 2) rfl)) (fun _ h9 => h9) rfl (by decide +kernel) rfl rfl (Nat.le_of_ble_eq_true rfl) dX6_clear_7 (fun H locs hP hD hS => ?_)
  have hP : va_P (dC, dI) vwCl [(a0, .inr (4, [.int 0, .int 0, g3, g4, g5, g6, g7, g8, g9, g10, g11, g12, g13, g14, g15, g16, g17, g18]))] H := hP
  have hD : va_D A [(a0, .inr (4, [.int 0, .int 0, g3, g4, g5, g6, g7, g8, g9, g10, g11, g12, g13, g14, g15, g16, g17, g18]))] := hD
  refine lv_aload_n hx hb dX6_clear_10 rfl (lv_at hl 0 rfl) ?_
  refine lv_iconst (v := 0) hx hb dX6_clear_11 (by decide) ?_
  refine va_put (D := (dC, dI)) (ci := 4) (v := .int 0) (ty := .int) (C := RX6) (T := TX6) (N := 18) hx hb hts iX6_clear_X6 tyX6 tyX6_ok nmX6 hown hK hP hD hS 0 rfl rfl 4 (by decide) (hts (.fieldLink RX6 24 "HookPier$Plan" "baits" "I") (List.mem_of_getElem? (i := 3) rfl)) (fun _ h9 => h9) rfl (by decide +kernel) rfl rfl (Nat.le_of_ble_eq_true rfl) dX6_clear_12 (fun H locs hP hD hS => ?_)
  have hP : va_P (dC, dI) vwCl [(a0, .inr (4, [.int 0, .int 0, g3, g4, .int 0, g6, g7, g8, g9, g10, g11, g12, g13, g14, g15, g16, g17, g18]))] H := hP
  have hD : va_D A [(a0, .inr (4, [.int 0, .int 0, g3, g4, .int 0, g6, g7, g8, g9, g10, g11, g12, g13, g14, g15, g16, g17, g18]))] := hD
  refine lv_aload_n hx hb dX6_clear_15 rfl (lv_at hl 0 rfl) ?_
  refine lv_iconst (v := 0) hx hb dX6_clear_16 (by decide) ?_
  refine va_put (D := (dC, dI)) (ci := 4) (v := .int 0) (ty := .int) (C := RX6) (T := TX6) (N := 18) hx hb hts iX6_clear_X6 tyX6 tyX6_ok nmX6 hown hK hP hD hS 0 rfl rfl 5 (by decide) (hts (.fieldLink RX6 27 "HookPier$Plan" "askers" "I") (List.mem_of_getElem? (i := 4) rfl)) (fun _ h9 => h9) rfl (by decide +kernel) rfl rfl (Nat.le_of_ble_eq_true rfl) dX6_clear_17 (fun H locs hP hD hS => ?_)
  have hP : va_P (dC, dI) vwCl [(a0, .inr (4, [.int 0, .int 0, g3, g4, .int 0, .int 0, g7, g8, g9, g10, g11, g12, g13, g14, g15, g16, g17, g18]))] H := hP
  have hD : va_D A [(a0, .inr (4, [.int 0, .int 0, g3, g4, .int 0, .int 0, g7, g8, g9, g10, g11, g12, g13, g14, g15, g16, g17, g18]))] := hD
  refine lv_aload_n hx hb dX6_clear_20 rfl (lv_at hl 0 rfl) ?_
  refine lv_iconst (v := 0) hx hb dX6_clear_21 (by decide) ?_
  refine va_put (D := (dC, dI)) (ci := 4) (v := .int 0) (ty := .int) (C := RX6) (T := TX6) (N := 18) hx hb hts iX6_clear_X6 tyX6 tyX6_ok nmX6 hown hK hP hD hS 0 rfl rfl 6 (by decide) (hts (.fieldLink RX6 30 "HookPier$Plan" "answers" "I") (List.mem_of_getElem? (i := 5) rfl)) (fun _ h9 => h9) rfl (by decide +kernel) rfl rfl (Nat.le_of_ble_eq_true rfl) dX6_clear_22 (fun H locs hP hD hS => ?_)
  have hP : va_P (dC, dI) vwCl [(a0, .inr (4, [.int 0, .int 0, g3, g4, .int 0, .int 0, .int 0, g8, g9, g10, g11, g12, g13, g14, g15, g16, g17, g18]))] H := hP
  have hD : va_D A [(a0, .inr (4, [.int 0, .int 0, g3, g4, .int 0, .int 0, .int 0, g8, g9, g10, g11, g12, g13, g14, g15, g16, g17, g18]))] := hD
  refine lv_aload_n hx hb dX6_clear_25 rfl (lv_at hl 0 rfl) ?_
  refine lv_iconst (v := 0) hx hb dX6_clear_26 (by decide) ?_
  refine va_put (D := (dC, dI)) (ci := 4) (v := .int 0) (ty := .int) (C := RX6) (T := TX6) (N := 18) hx hb hts iX6_clear_X6 tyX6 tyX6_ok nmX6 hown hK hP hD hS 0 rfl rfl 7 (by decide) (hts (.fieldLink RX6 33 "HookPier$Plan" "bites" "I") (List.mem_of_getElem? (i := 6) rfl)) (fun _ h9 => h9) rfl (by decide +kernel) rfl rfl (Nat.le_of_ble_eq_true rfl) dX6_clear_27 (fun H locs hP hD hS => ?_)
  have hP : va_P (dC, dI) vwCl [(a0, .inr (4, [.int 0, .int 0, g3, g4, .int 0, .int 0, .int 0, .int 0, g9, g10, g11, g12, g13, g14, g15, g16, g17, g18]))] H := hP
  have hD : va_D A [(a0, .inr (4, [.int 0, .int 0, g3, g4, .int 0, .int 0, .int 0, .int 0, g9, g10, g11, g12, g13, g14, g15, g16, g17, g18]))] := hD
  refine lv_aload_n hx hb dX6_clear_30 rfl (lv_at hl 0 rfl) ?_
  refine lv_iconst (v := (-1)) hx hb dX6_clear_31 (by decide) ?_
  refine va_put (D := (dC, dI)) (ci := 4) (v := .int (-1)) (ty := .int) (C := RX6) (T := TX6) (N := 18) hx hb hts iX6_clear_X6 tyX6 tyX6_ok nmX6 hown hK hP hD hS 0 rfl rfl 8 (by decide) (hts (.fieldLink RX6 36 "HookPier$Plan" "darkHunger" "I") (List.mem_of_getElem? (i := 7) rfl)) (fun _ h9 => h9) rfl (by decide +kernel) rfl rfl (Nat.le_of_ble_eq_true rfl) dX6_clear_32 (fun H locs hP hD hS => ?_)
  have hP : va_P (dC, dI) vwCl [(a0, .inr (4, [.int 0, .int 0, g3, g4, .int 0, .int 0, .int 0, .int 0, .int (-1), g10, g11, g12, g13, g14, g15, g16, g17, g18]))] H := hP
  have hD : va_D A [(a0, .inr (4, [.int 0, .int 0, g3, g4, .int 0, .int 0, .int 0, .int 0, .int (-1), g10, g11, g12, g13, g14, g15, g16, g17, g18]))] := hD
  have hP9 := hP.sub (ws' := [(a0, .inr (4, [.int 0, .int 0, g3, g4, .int 0, .int 0, .int 0, .int 0, .int (-1), g10, g11, g12, g13, g14, g15, g16, g17, g18]))]) [0] rfl
  have hD9 := hD.sub (ws' := [(a0, .inr (4, [.int 0, .int 0, g3, g4, .int 0, .int 0, .int 0, .int 0, .int (-1), g10, g11, g12, g13, g14, g15, g16, g17, g18]))]) [0] (by decide) rfl
  have hK9 := hK.sub (tys' := []) [] rfl
  exact W.vret hx hb hr (fun t ht hW => ⟨⟨(), rfl, trivial, by rw [ht]; exact hP9, va_K.moved hW.alike hK9, hD9⟩, hS.F ht⟩) hS.2.2 dX6_clear_35
theorem dX7_advance_0 : decode cX7_advance 0 = .ok (.aload_n 0, 1) := by decide +kernel
theorem dX7_advance_1 : decode cX7_advance 1 = .ok (.aload_n 0, 1) := by decide +kernel
theorem dX7_advance_12 : decode cX7_advance 12 = .ok (.aload_n 0, 1) := by decide +kernel
theorem dX7_advance_13 : decode cX7_advance 13 = .ok (.getfield 19, 3) := by decide +kernel
theorem dX7_advance_16 : decode cX7_advance 16 = .ok (.if_icmp .ge 30, 3) := by decide +kernel
theorem dX7_advance_2 : decode cX7_advance 2 = .ok (.getfield 28, 3) := by decide +kernel
theorem dX7_advance_249 : decode cX7_advance 249 = .ok (.return_, 1) := by decide +kernel
theorem dX7_advance_46 : decode cX7_advance 46 = .ok (.aload_n 0, 1) := by decide +kernel
theorem dX7_advance_47 : decode cX7_advance 47 = .ok (.aload_n 0, 1) := by decide +kernel
theorem dX7_advance_48 : decode cX7_advance 48 = .ok (.getfield 25, 3) := by decide +kernel
theorem dX7_advance_5 : decode cX7_advance 5 = .ok (.putfield 25, 3) := by decide +kernel
theorem dX7_advance_51 : decode cX7_advance 51 = .ok (.putfield 28, 3) := by decide +kernel
theorem dX7_advance_54 : decode cX7_advance 54 = .ok (.aload_n 0, 1) := by decide +kernel
theorem dX7_advance_55 : decode cX7_advance 55 = .ok (.getfield 25, 3) := by decide +kernel
theorem dX7_advance_58 : decode cX7_advance 58 = .ok (.aload_n 0, 1) := by decide +kernel
theorem dX7_advance_59 : decode cX7_advance 59 = .ok (.getfield 19, 3) := by decide +kernel
theorem dX7_advance_62 : decode cX7_advance 62 = .ok (.if_icmp .lt 11, 3) := by decide +kernel
theorem dX7_advance_65 : decode cX7_advance 65 = .ok (.aload_n 0, 1) := by decide +kernel
theorem dX7_advance_66 : decode cX7_advance 66 = .ok (.iconst 0, 1) := by decide +kernel
theorem dX7_advance_67 : decode cX7_advance 67 = .ok (.putfield 22, 3) := by decide +kernel
theorem dX7_advance_70 : decode cX7_advance 70 = .ok (.goto 179, 3) := by decide +kernel
theorem dX7_advance_8 : decode cX7_advance 8 = .ok (.aload_n 0, 1) := by decide +kernel
theorem dX7_advance_9 : decode cX7_advance 9 = .ok (.getfield 25, 3) := by decide +kernel
def vX7_advance : List Cond := .code yX7_advance cX7_advance 1 none :: ([.fieldLink RX7 28 "HookPier$Reader" "behind" "I", .fieldLink RX7 25 "HookPier$Reader" "start" "I", .fieldLink RX7 19 "HookPier$Reader" "end" "I", .fieldLink RX7 22 "HookPier$Reader" "token" "I"] ++ wsX70)
theorem iX7_advance_X7 : ∀ w ∈ wsX70, w ∈ vX7_advance := fun _ h => List.mem_cons_of_mem _ (List.mem_append_right _ h)
set_option maxHeartbeats 1000000 in
set_option maxRecDepth 100000 in
theorem kX7_advance (l : Launch) (dC : Nat → ClassId) (dI : Nat → Nat → Nat) (a0 : Nat) (g1 : Value) (g2 : Value) (g3 : Value) (g4 : Value) (g5 : Value) (g6 : Value) (g7 : Value) (g8 : Value) (g9 : Value) (sz : Nat) : Met l yX7_advance vX7_advance ({ frames := 0, cells := 0, slots := 0, locals := 0 }) (PC (dC, dI) [.ref a0] sz [(a0, .inr (5, [g1, g2, .int 0, g3, .int 0, .int 0, g4, g5, g6, g7, g8, g9]))] []) (va_Qv (S := Unit) (fun _ => True) (fun _ t => BC (dC, dI) (va_A [(a0, .inr (5, [g1, g2, .int 0, g3, .int 0, .int 0, g4, g5, g6, g7, g8, g9]))] sz) [(a0, .inr (5, [g1, g2, .int 0, .int 0, .int 0, .int 0, g4, g5, g6, g7, g8, g9]))] [] t) (va_A [(a0, .inr (5, [g1, g2, .int 0, g3, .int 0, .int 0, g4, g5, g6, g7, g8, g9]))] sz)) 0 0 (va_A [(a0, .inr (5, [g1, g2, .int 0, g3, .int 0, .int 0, g4, g5, g6, g7, g8, g9]))] sz) := by
  refine Met.ofW (cc := cX7_advance) (maxL := 1) (ret := none) (by decide) rfl ?_
  intro p e s m args below meth c s₁ B hml hv
  obtain ⟨rfl, hsz, hP, hK, hD0, hN⟩ := hv
  have hx := B.exec
  have hb := B.bytes
  have hr := B.returns
  have hts := atoms_spec (ws := vX7_advance) B.pre
  have hown : s.vm.findClass RX7 = some m.cls := findClass_of_methodNamed B.named
  have hlocks := B.notSynchronized
  subst hsz
  have hD := hD0.self (sz := s.heap.size)
  generalize hAe : va_A [(a0, .inr (5, [g1, g2, .int 0, g3, .int 0, .int 0, g4, g5, g6, g7, g8, g9]))] s.heap.size = A at hD ⊢
  have hA : ∀ q : Nat, s.heap.size ≤ q → A q := fun q h => by rw [← hAe]; exact Or.inr h
  have hS : va_S A s.heap s.heap [] := va_S.rf
  have hP : va_P (dC, dI) vwCl [(a0, .inr (5, [g1, g2, .int 0, g3, .int 0, .int 0, g4, g5, g6, g7, g8, g9]))] s.heap := hP
  have hl := lv_entry ([.ref a0]) (n := 1) (Nat.le_of_ble_eq_true rfl)
  rw [lg_entry_eq]
  generalize (lg_sl ([.ref a0]) ++ List.replicate (1 - (lg_sl ([.ref a0])).length) Slot.unset).toArray = ls at hl ⊢
  have hl : lv_has ls 1 [(0, .ref a0)] := hl
  refine lv_aload_n hx hb dX7_advance_0 rfl (lv_at hl 0 rfl) ?_
  refine lv_aload_n hx hb dX7_advance_1 rfl (lv_at hl 0 rfl) ?_
  refine va_get (D := (dC, dI)) (ci := 5) (v := .int 0) (C := RX7) (T := TX7) (N := 12) hx hb hts iX7_advance_X7 hown hK hP 0 rfl rfl 5 (by decide) (hts (.fieldLink RX7 28 "HookPier$Reader" "behind" "I") (List.mem_of_getElem? (i := 1) rfl)) (fun _ h9 => h9) rfl dX7_advance_2 ?_
  refine va_put (D := (dC, dI)) (ci := 5) (v := .int 0) (ty := .int) (C := RX7) (T := TX7) (N := 12) hx hb hts iX7_advance_X7 tyX7 tyX7_ok nmX7 hown hK hP hD hS 0 rfl rfl 4 (by decide) (hts (.fieldLink RX7 25 "HookPier$Reader" "start" "I") (List.mem_of_getElem? (i := 2) rfl)) (fun _ h9 => h9) rfl (by decide +kernel) rfl rfl (Nat.le_of_ble_eq_true rfl) dX7_advance_5 (fun H locs hP hD hS => ?_)
  have hP : va_P (dC, dI) vwCl [(a0, .inr (5, [g1, g2, .int 0, g3, .int 0, .int 0, g4, g5, g6, g7, g8, g9]))] H := hP
  have hD : va_D A [(a0, .inr (5, [g1, g2, .int 0, g3, .int 0, .int 0, g4, g5, g6, g7, g8, g9]))] := hD
  refine lv_aload_n hx hb dX7_advance_8 rfl (lv_at hl 0 rfl) ?_
  refine va_get (D := (dC, dI)) (ci := 5) (v := .int 0) (C := RX7) (T := TX7) (N := 12) hx hb hts iX7_advance_X7 hown hK hP 0 rfl rfl 4 (by decide) (hts (.fieldLink RX7 25 "HookPier$Reader" "start" "I") (List.mem_of_getElem? (i := 2) rfl)) (fun _ h9 => h9) rfl dX7_advance_9 ?_
  refine lv_aload_n hx hb dX7_advance_12 rfl (lv_at hl 0 rfl) ?_
  refine va_get (D := (dC, dI)) (ci := 5) (v := .int 0) (C := RX7) (T := TX7) (N := 12) hx hb hts iX7_advance_X7 hown hK hP 0 rfl rfl 2 (by decide) (hts (.fieldLink RX7 19 "HookPier$Reader" "end" "I") (List.mem_of_getElem? (i := 3) rfl)) (fun _ h9 => h9) rfl dX7_advance_13 ?_
  refine lv_icmp_ge (tgt := 46) hx hb dX7_advance_16 (by decide) (fun _ => ?_) (fun c1 => absurd c1 (by decide))
  refine lv_aload_n hx hb dX7_advance_46 rfl (lv_at hl 0 rfl) ?_
  refine lv_aload_n hx hb dX7_advance_47 rfl (lv_at hl 0 rfl) ?_
  refine va_get (D := (dC, dI)) (ci := 5) (v := .int 0) (C := RX7) (T := TX7) (N := 12) hx hb hts iX7_advance_X7 hown hK hP 0 rfl rfl 4 (by decide) (hts (.fieldLink RX7 25 "HookPier$Reader" "start" "I") (List.mem_of_getElem? (i := 2) rfl)) (fun _ h9 => h9) rfl dX7_advance_48 ?_
  refine va_put (D := (dC, dI)) (ci := 5) (v := .int 0) (ty := .int) (C := RX7) (T := TX7) (N := 12) hx hb hts iX7_advance_X7 tyX7 tyX7_ok nmX7 hown hK hP hD hS 0 rfl rfl 5 (by decide) (hts (.fieldLink RX7 28 "HookPier$Reader" "behind" "I") (List.mem_of_getElem? (i := 1) rfl)) (fun _ h9 => h9) rfl (by decide +kernel) rfl rfl (Nat.le_of_ble_eq_true rfl) dX7_advance_51 (fun H locs hP hD hS => ?_)
  have hP : va_P (dC, dI) vwCl [(a0, .inr (5, [g1, g2, .int 0, g3, .int 0, .int 0, g4, g5, g6, g7, g8, g9]))] H := hP
  have hD : va_D A [(a0, .inr (5, [g1, g2, .int 0, g3, .int 0, .int 0, g4, g5, g6, g7, g8, g9]))] := hD
  refine lv_aload_n hx hb dX7_advance_54 rfl (lv_at hl 0 rfl) ?_
  refine va_get (D := (dC, dI)) (ci := 5) (v := .int 0) (C := RX7) (T := TX7) (N := 12) hx hb hts iX7_advance_X7 hown hK hP 0 rfl rfl 4 (by decide) (hts (.fieldLink RX7 25 "HookPier$Reader" "start" "I") (List.mem_of_getElem? (i := 2) rfl)) (fun _ h9 => h9) rfl dX7_advance_55 ?_
  refine lv_aload_n hx hb dX7_advance_58 rfl (lv_at hl 0 rfl) ?_
  refine va_get (D := (dC, dI)) (ci := 5) (v := .int 0) (C := RX7) (T := TX7) (N := 12) hx hb hts iX7_advance_X7 hown hK hP 0 rfl rfl 2 (by decide) (hts (.fieldLink RX7 19 "HookPier$Reader" "end" "I") (List.mem_of_getElem? (i := 3) rfl)) (fun _ h9 => h9) rfl dX7_advance_59 ?_
  refine lv_icmp_lt (tgt := 73) hx hb dX7_advance_62 (by decide) (fun c2 => absurd c2 (by decide)) (fun _ => ?_)
  refine lv_aload_n hx hb dX7_advance_65 rfl (lv_at hl 0 rfl) ?_
  refine lv_iconst (v := 0) hx hb dX7_advance_66 (by decide) ?_
  refine va_put (D := (dC, dI)) (ci := 5) (v := .int 0) (ty := .int) (C := RX7) (T := TX7) (N := 12) hx hb hts iX7_advance_X7 tyX7 tyX7_ok nmX7 hown hK hP hD hS 0 rfl rfl 3 (by decide) (hts (.fieldLink RX7 22 "HookPier$Reader" "token" "I") (List.mem_of_getElem? (i := 4) rfl)) (fun _ h9 => h9) rfl (by decide +kernel) rfl rfl (Nat.le_of_ble_eq_true rfl) dX7_advance_67 (fun H locs hP hD hS => ?_)
  have hP : va_P (dC, dI) vwCl [(a0, .inr (5, [g1, g2, .int 0, .int 0, .int 0, .int 0, g4, g5, g6, g7, g8, g9]))] H := hP
  have hD : va_D A [(a0, .inr (5, [g1, g2, .int 0, .int 0, .int 0, .int 0, g4, g5, g6, g7, g8, g9]))] := hD
  refine lv_goto (tgt := 249) hx hb dX7_advance_70 (by decide) ?_
  have hP9 := hP.sub (ws' := [(a0, .inr (5, [g1, g2, .int 0, .int 0, .int 0, .int 0, g4, g5, g6, g7, g8, g9]))]) [0] rfl
  have hD9 := hD.sub (ws' := [(a0, .inr (5, [g1, g2, .int 0, .int 0, .int 0, .int 0, g4, g5, g6, g7, g8, g9]))]) [0] (by decide) rfl
  have hK9 := hK.sub (tys' := []) [] rfl
  exact W.vret hx hb hr (fun t ht hW => ⟨⟨(), rfl, trivial, by rw [ht]; exact hP9, va_K.moved hW.alike hK9, hD9⟩, hS.F ht⟩) hS.2.2 dX7_advance_249
theorem dX7_isWord_0 : decode cX7_isWord 0 = .ok (.aload_n 0, 1) := by decide +kernel
theorem dX7_isWord_1 : decode cX7_isWord 1 = .ok (.getfield 22, 3) := by decide +kernel
theorem dX7_isWord_24 : decode cX7_isWord 24 = .ok (.iconst 0, 1) := by decide +kernel
theorem dX7_isWord_25 : decode cX7_isWord 25 = .ok (.ireturn, 1) := by decide +kernel
theorem dX7_isWord_4 : decode cX7_isWord 4 = .ok (.iconst 1, 1) := by decide +kernel
theorem dX7_isWord_5 : decode cX7_isWord 5 = .ok (.if_icmp .ne 19, 3) := by decide +kernel
def vX7_isWord : List Cond := .code yX7_isWord cX7_isWord 3 (some .boolean) :: ([.fieldLink RX7 22 "HookPier$Reader" "token" "I"] ++ wsX70)
theorem iX7_isWord_X7 : ∀ w ∈ wsX70, w ∈ vX7_isWord := fun _ h => List.mem_cons_of_mem _ (List.mem_append_right _ h)
set_option maxHeartbeats 1000000 in
set_option maxRecDepth 100000 in
theorem kX7_isWord (l : Launch) (dC : Nat → ClassId) (dI : Nat → Nat → Nat) (a0 : Nat) (a1 : Nat) (g2 : Value) (g3 : Value) (g4 : Value) (g5 : Value) (g6 : Value) (g7 : Value) (g8 : Value) (g9 : Value) (g10 : Value) (g11 : Value) (g12 : Value) (sz : Nat) : Met l yX7_isWord vX7_isWord ({ frames := 0, cells := 0, slots := 0, locals := 0 }) (PC (dC, dI) [.ref a0, .ref a1] sz [(a0, .inr (5, [g2, g3, g4, .int 0, g5, g6, g7, g8, g9, g10, g11, g12]))] []) (va_Qi (S := Unit) (fun (r : Int32) _ => r = 0) (fun _ t => BC (dC, dI) (va_A [(a0, .inr (5, [g2, g3, g4, .int 0, g5, g6, g7, g8, g9, g10, g11, g12]))] sz) [(a0, .inr (5, [g2, g3, g4, .int 0, g5, g6, g7, g8, g9, g10, g11, g12]))] [] t) (va_A [(a0, .inr (5, [g2, g3, g4, .int 0, g5, g6, g7, g8, g9, g10, g11, g12]))] sz)) 0 0 (va_A [(a0, .inr (5, [g2, g3, g4, .int 0, g5, g6, g7, g8, g9, g10, g11, g12]))] sz) := by
  refine Met.ofW (cc := cX7_isWord) (maxL := 3) (ret := (some .boolean)) (by decide) rfl ?_
  intro p e s m args below meth c s₁ B hml hv
  obtain ⟨rfl, hsz, hP, hK, hD0, hN⟩ := hv
  have hx := B.exec
  have hb := B.bytes
  have hr := B.returns
  have hts := atoms_spec (ws := vX7_isWord) B.pre
  have hown : s.vm.findClass RX7 = some m.cls := findClass_of_methodNamed B.named
  have hlocks := B.notSynchronized
  subst hsz
  have hD := hD0.self (sz := s.heap.size)
  generalize hAe : va_A [(a0, .inr (5, [g2, g3, g4, .int 0, g5, g6, g7, g8, g9, g10, g11, g12]))] s.heap.size = A at hD ⊢
  have hA : ∀ q : Nat, s.heap.size ≤ q → A q := fun q h => by rw [← hAe]; exact Or.inr h
  have hS : va_S A s.heap s.heap [] := va_S.rf
  have hP : va_P (dC, dI) vwCl [(a0, .inr (5, [g2, g3, g4, .int 0, g5, g6, g7, g8, g9, g10, g11, g12]))] s.heap := hP
  have hl := lv_entry ([.ref a0, .ref a1]) (n := 3) (Nat.le_of_ble_eq_true rfl)
  rw [lg_entry_eq]
  generalize (lg_sl ([.ref a0, .ref a1]) ++ List.replicate (3 - (lg_sl ([.ref a0, .ref a1])).length) Slot.unset).toArray = ls at hl ⊢
  have hl : lv_has ls 3 [(0, .ref a0), (1, .ref a1)] := hl
  refine lv_aload_n hx hb dX7_isWord_0 rfl (lv_at hl 0 rfl) ?_
  refine va_get (D := (dC, dI)) (ci := 5) (v := .int 0) (C := RX7) (T := TX7) (N := 12) hx hb hts iX7_isWord_X7 hown hK hP 0 rfl rfl 3 (by decide) (hts (.fieldLink RX7 22 "HookPier$Reader" "token" "I") (List.mem_of_getElem? (i := 1) rfl)) (fun _ h9 => h9) rfl dX7_isWord_1 ?_
  refine lv_iconst (v := 1) hx hb dX7_isWord_4 (by decide) ?_
  refine lv_icmp_ne (tgt := 24) hx hb dX7_isWord_5 (by decide) (fun _ => ?_) (fun c1 => absurd c1 (by decide))
  refine lv_iconst (v := 0) hx hb dX7_isWord_24 (by decide) ?_
  have hP9 := hP.sub (ws' := [(a0, .inr (5, [g2, g3, g4, .int 0, g5, g6, g7, g8, g9, g10, g11, g12]))]) [0] rfl
  have hD9 := hD.sub (ws' := [(a0, .inr (5, [g2, g3, g4, .int 0, g5, g6, g7, g8, g9, g10, g11, g12]))]) [0] (by decide) rfl
  have hK9 := hK.sub (tys' := []) [] rfl
  exact W.zret (v := 0) hx hb hr rfl (fun t ht hW => ⟨⟨0, (), rfl, rfl, by rw [ht]; exact hP9, va_K.moved hW.alike hK9, hD9⟩, hS.F ht⟩) hS.2.2 dX7_isWord_25
theorem dX7_fail_0 : decode cX7_fail 0 = .ok (.aload_n 0, 1) := by decide +kernel
theorem dX7_fail_1 : decode cX7_fail 1 = .ok (.iload_n 1, 1) := by decide +kernel
theorem dX7_fail_10 : decode cX7_fail 10 = .ok (.putfield 48, 3) := by decide +kernel
theorem dX7_fail_13 : decode cX7_fail 13 = .ok (.iconst 0, 1) := by decide +kernel
theorem dX7_fail_14 : decode cX7_fail 14 = .ok (.ireturn, 1) := by decide +kernel
theorem dX7_fail_2 : decode cX7_fail 2 = .ok (.putfield 45, 3) := by decide +kernel
theorem dX7_fail_5 : decode cX7_fail 5 = .ok (.aload_n 0, 1) := by decide +kernel
theorem dX7_fail_6 : decode cX7_fail 6 = .ok (.aload_n 0, 1) := by decide +kernel
theorem dX7_fail_7 : decode cX7_fail 7 = .ok (.getfield 25, 3) := by decide +kernel
def vX7_fail : List Cond := .code yX7_fail cX7_fail 2 (some .boolean) :: ([.fieldLink RX7 45 "HookPier$Reader" "fault" "I", .fieldLink RX7 25 "HookPier$Reader" "start" "I", .fieldLink RX7 48 "HookPier$Reader" "place" "I"] ++ wsX70)
theorem iX7_fail_X7 : ∀ w ∈ wsX70, w ∈ vX7_fail := fun _ h => List.mem_cons_of_mem _ (List.mem_append_right _ h)
set_option maxHeartbeats 1000000 in
set_option maxRecDepth 100000 in
theorem kX7_fail (l : Launch) (dC : Nat → ClassId) (dI : Nat → Nat → Nat) (a0 : Nat) (g1 : Value) (g2 : Value) (g3 : Value) (g4 : Value) (g5 : Value) (g6 : Value) (g7 : Value) (g8 : Value) (g9 : Value) (g10 : Value) (g11 : Value) (sz : Nat) : Met l yX7_fail vX7_fail ({ frames := 0, cells := 0, slots := 0, locals := 0 }) (PC (dC, dI) [.ref a0, .int 1] sz [(a0, .inr (5, [g1, g2, g3, g4, .int 0, g5, g6, g7, g8, g9, g10, g11]))] []) (va_Qi (S := Unit) (fun (r : Int32) _ => r = 0) (fun _ t => BC (dC, dI) (va_A [(a0, .inr (5, [g1, g2, g3, g4, .int 0, g5, g6, g7, g8, g9, g10, g11]))] sz) [(a0, .inr (5, [g1, g2, g3, g4, .int 0, g5, g6, g7, g8, g9, .int 1, .int 0]))] [] t) (va_A [(a0, .inr (5, [g1, g2, g3, g4, .int 0, g5, g6, g7, g8, g9, g10, g11]))] sz)) 0 0 (va_A [(a0, .inr (5, [g1, g2, g3, g4, .int 0, g5, g6, g7, g8, g9, g10, g11]))] sz) := by
  refine Met.ofW (cc := cX7_fail) (maxL := 2) (ret := (some .boolean)) (by decide) rfl ?_
  intro p e s m args below meth c s₁ B hml hv
  obtain ⟨rfl, hsz, hP, hK, hD0, hN⟩ := hv
  have hx := B.exec
  have hb := B.bytes
  have hr := B.returns
  have hts := atoms_spec (ws := vX7_fail) B.pre
  have hown : s.vm.findClass RX7 = some m.cls := findClass_of_methodNamed B.named
  have hlocks := B.notSynchronized
  subst hsz
  have hD := hD0.self (sz := s.heap.size)
  generalize hAe : va_A [(a0, .inr (5, [g1, g2, g3, g4, .int 0, g5, g6, g7, g8, g9, g10, g11]))] s.heap.size = A at hD ⊢
  have hA : ∀ q : Nat, s.heap.size ≤ q → A q := fun q h => by rw [← hAe]; exact Or.inr h
  have hS : va_S A s.heap s.heap [] := va_S.rf
  have hP : va_P (dC, dI) vwCl [(a0, .inr (5, [g1, g2, g3, g4, .int 0, g5, g6, g7, g8, g9, g10, g11]))] s.heap := hP
  have hl := lv_entry ([.ref a0, .int 1]) (n := 2) (Nat.le_of_ble_eq_true rfl)
  rw [lg_entry_eq]
  generalize (lg_sl ([.ref a0, .int 1]) ++ List.replicate (2 - (lg_sl ([.ref a0, .int 1])).length) Slot.unset).toArray = ls at hl ⊢
  have hl : lv_has ls 2 [(0, .ref a0), (1, .int 1)] := hl
  refine lv_aload_n hx hb dX7_fail_0 rfl (lv_at hl 0 rfl) ?_
  refine lv_iload_n hx hb dX7_fail_1 rfl (lv_at hl 1 rfl) ?_
  refine va_put (D := (dC, dI)) (ci := 5) (v := .int 1) (ty := .int) (C := RX7) (T := TX7) (N := 12) hx hb hts iX7_fail_X7 tyX7 tyX7_ok nmX7 hown hK hP hD hS 0 rfl rfl 10 (by decide) (hts (.fieldLink RX7 45 "HookPier$Reader" "fault" "I") (List.mem_of_getElem? (i := 1) rfl)) (fun _ h9 => h9) rfl (by decide +kernel) rfl rfl (Nat.le_of_ble_eq_true rfl) dX7_fail_2 (fun H locs hP hD hS => ?_)
  have hP : va_P (dC, dI) vwCl [(a0, .inr (5, [g1, g2, g3, g4, .int 0, g5, g6, g7, g8, g9, .int 1, g11]))] H := hP
  have hD : va_D A [(a0, .inr (5, [g1, g2, g3, g4, .int 0, g5, g6, g7, g8, g9, .int 1, g11]))] := hD
  refine lv_aload_n hx hb dX7_fail_5 rfl (lv_at hl 0 rfl) ?_
  refine lv_aload_n hx hb dX7_fail_6 rfl (lv_at hl 0 rfl) ?_
  refine va_get (D := (dC, dI)) (ci := 5) (v := .int 0) (C := RX7) (T := TX7) (N := 12) hx hb hts iX7_fail_X7 hown hK hP 0 rfl rfl 4 (by decide) (hts (.fieldLink RX7 25 "HookPier$Reader" "start" "I") (List.mem_of_getElem? (i := 2) rfl)) (fun _ h9 => h9) rfl dX7_fail_7 ?_
  refine va_put (D := (dC, dI)) (ci := 5) (v := .int 0) (ty := .int) (C := RX7) (T := TX7) (N := 12) hx hb hts iX7_fail_X7 tyX7 tyX7_ok nmX7 hown hK hP hD hS 0 rfl rfl 11 (by decide) (hts (.fieldLink RX7 48 "HookPier$Reader" "place" "I") (List.mem_of_getElem? (i := 3) rfl)) (fun _ h9 => h9) rfl (by decide +kernel) rfl rfl (Nat.le_of_ble_eq_true rfl) dX7_fail_10 (fun H locs hP hD hS => ?_)
  have hP : va_P (dC, dI) vwCl [(a0, .inr (5, [g1, g2, g3, g4, .int 0, g5, g6, g7, g8, g9, .int 1, .int 0]))] H := hP
  have hD : va_D A [(a0, .inr (5, [g1, g2, g3, g4, .int 0, g5, g6, g7, g8, g9, .int 1, .int 0]))] := hD
  refine lv_iconst (v := 0) hx hb dX7_fail_13 (by decide) ?_
  have hP9 := hP.sub (ws' := [(a0, .inr (5, [g1, g2, g3, g4, .int 0, g5, g6, g7, g8, g9, .int 1, .int 0]))]) [0] rfl
  have hD9 := hD.sub (ws' := [(a0, .inr (5, [g1, g2, g3, g4, .int 0, g5, g6, g7, g8, g9, .int 1, .int 0]))]) [0] (by decide) rfl
  have hK9 := hK.sub (tys' := []) [] rfl
  exact W.zret (v := 0) hx hb hr rfl (fun t ht hW => ⟨⟨0, (), rfl, rfl, by rw [ht]; exact hP9, va_K.moved hW.alike hK9, hD9⟩, hS.F ht⟩) hS.2.2 dX7_fail_14
theorem dX7_readLine_0 : decode cX7_readLine 0 = .ok (.aload_n 0, 1) := by decide +kernel
theorem dX7_readLine_1 : decode cX7_readLine 1 = .ok (.ldc 76, 2) := by decide +kernel
theorem dX7_readLine_118 : decode cX7_readLine 118 = .ok (.aload_n 0, 1) := by decide +kernel
theorem dX7_readLine_119 : decode cX7_readLine 119 = .ok (.ldc 105, 2) := by decide +kernel
theorem dX7_readLine_121 : decode cX7_readLine 121 = .ok (.invokevirtual 78, 3) := by decide +kernel
theorem dX7_readLine_124 : decode cX7_readLine 124 = .ok (.ifCond .eq 39, 3) := by decide +kernel
theorem dX7_readLine_163 : decode cX7_readLine 163 = .ok (.aload_n 0, 1) := by decide +kernel
theorem dX7_readLine_164 : decode cX7_readLine 164 = .ok (.ldc 113, 2) := by decide +kernel
theorem dX7_readLine_166 : decode cX7_readLine 166 = .ok (.invokevirtual 78, 3) := by decide +kernel
theorem dX7_readLine_169 : decode cX7_readLine 169 = .ok (.ifCond .eq 38, 3) := by decide +kernel
theorem dX7_readLine_207 : decode cX7_readLine 207 = .ok (.aload_n 0, 1) := by decide +kernel
theorem dX7_readLine_208 : decode cX7_readLine 208 = .ok (.ldc 121, 2) := by decide +kernel
theorem dX7_readLine_210 : decode cX7_readLine 210 = .ok (.invokevirtual 78, 3) := by decide +kernel
theorem dX7_readLine_213 : decode cX7_readLine 213 = .ok (.ifCond .eq 54, 3) := by decide +kernel
theorem dX7_readLine_267 : decode cX7_readLine 267 = .ok (.aload_n 0, 1) := by decide +kernel
theorem dX7_readLine_268 : decode cX7_readLine 268 = .ok (.iconst 1, 1) := by decide +kernel
theorem dX7_readLine_269 : decode cX7_readLine 269 = .ok (.invokevirtual 72, 3) := by decide +kernel
theorem dX7_readLine_272 : decode cX7_readLine 272 = .ok (.ireturn, 1) := by decide +kernel
theorem dX7_readLine_3 : decode cX7_readLine 3 = .ok (.invokevirtual 78, 3) := by decide +kernel
theorem dX7_readLine_30 : decode cX7_readLine 30 = .ok (.aload_n 0, 1) := by decide +kernel
theorem dX7_readLine_31 : decode cX7_readLine 31 = .ok (.ldc 88, 2) := by decide +kernel
theorem dX7_readLine_33 : decode cX7_readLine 33 = .ok (.invokevirtual 78, 3) := by decide +kernel
theorem dX7_readLine_36 : decode cX7_readLine 36 = .ok (.ifCond .eq 38, 3) := by decide +kernel
theorem dX7_readLine_6 : decode cX7_readLine 6 = .ok (.ifCond .eq 24, 3) := by decide +kernel
theorem dX7_readLine_74 : decode cX7_readLine 74 = .ok (.aload_n 0, 1) := by decide +kernel
theorem dX7_readLine_75 : decode cX7_readLine 75 = .ok (.ldc 97, 2) := by decide +kernel
theorem dX7_readLine_77 : decode cX7_readLine 77 = .ok (.invokevirtual 78, 3) := by decide +kernel
theorem dX7_readLine_80 : decode cX7_readLine 80 = .ok (.ifCond .eq 38, 3) := by decide +kernel
def vX7_readLine : List Cond := .code yX7_readLine cX7_readLine 3 (some .boolean) :: ([.methodLink RX7 78 yX7_isWord, .instanceMethod yX7_isWord, .selects RX7 yX7_isWord yX7_isWord, .initialized RX7, .code yX7_isWord cX7_isWord 3 (some .boolean), .fieldLink RX7 22 "HookPier$Reader" "token" "I", .methodLink RX7 72 yX7_fail, .instanceMethod yX7_fail, .selects RX7 yX7_fail yX7_fail, .code yX7_fail cX7_fail 2 (some .boolean), .fieldLink RX7 45 "HookPier$Reader" "fault" "I", .fieldLink RX7 25 "HookPier$Reader" "start" "I", .fieldLink RX7 48 "HookPier$Reader" "place" "I"] ++ wsX70)
theorem iX7_readLine_X7 : ∀ w ∈ wsX70, w ∈ vX7_readLine := fun _ h => List.mem_cons_of_mem _ (List.mem_append_right _ h)
set_option maxRecDepth 20000 in
theorem gX7_readLine_0 : GoodIn vX7_readLine (wsV RX7 78 RX7 yX7_isWord vX7_isWord) := goodIn_app (goodIn_r [.methodLink RX7 78 yX7_isWord, .instanceMethod yX7_isWord, .selects RX7 yX7_isWord yX7_isWord, .initialized RX7] [1, 2, 3, 4] (by decide +kernel) (by decide +kernel)) (goodIn_ca (goodIn_r (.code yX7_isWord cX7_isWord 3 (some .boolean) :: [.fieldLink RX7 22 "HookPier$Reader" "token" "I"]) [5, 6] (by decide +kernel) (by decide +kernel) : GoodIn vX7_readLine (.code yX7_isWord cX7_isWord 3 (some .boolean) :: [.fieldLink RX7 22 "HookPier$Reader" "token" "I"])) (goodIn_sub iX7_readLine_X7 (by decide +kernel)))
set_option maxRecDepth 20000 in
theorem gX7_readLine_1 : GoodIn vX7_readLine (wsV RX7 72 RX7 yX7_fail vX7_fail) := goodIn_app (goodIn_r [.methodLink RX7 72 yX7_fail, .instanceMethod yX7_fail, .selects RX7 yX7_fail yX7_fail, .initialized RX7] [7, 8, 9, 4] (by decide +kernel) (by decide +kernel)) (goodIn_ca (goodIn_r (.code yX7_fail cX7_fail 2 (some .boolean) :: [.fieldLink RX7 45 "HookPier$Reader" "fault" "I", .fieldLink RX7 25 "HookPier$Reader" "start" "I", .fieldLink RX7 48 "HookPier$Reader" "place" "I"]) [10, 11, 12, 13] (by decide +kernel) (by decide +kernel) : GoodIn vX7_readLine (.code yX7_fail cX7_fail 2 (some .boolean) :: [.fieldLink RX7 45 "HookPier$Reader" "fault" "I", .fieldLink RX7 25 "HookPier$Reader" "start" "I", .fieldLink RX7 48 "HookPier$Reader" "place" "I"])) (goodIn_sub iX7_readLine_X7 (by decide +kernel)))
set_option maxHeartbeats 1000000 in
set_option maxRecDepth 100000 in
theorem kX7_readLine (l : Launch) (dC : Nat → ClassId) (dI : Nat → Nat → Nat) (a0 : Nat) (a1 : Nat) (g2 : Value) (g3 : Value) (g4 : Value) (g5 : Value) (g6 : Value) (g7 : Value) (g8 : Value) (g9 : Value) (g10 : Value) (g11 : Value) (sz : Nat) : Met l yX7_readLine vX7_readLine ({ frames := 1, cells := 0, slots := 0, locals := 22 }) (PC (dC, dI) [.ref a0, .ref a1] sz [(a0, .inr (5, [g2, g3, g4, .int 0, .int 0, g5, g6, g7, g8, g9, g10, g11]))] []) (va_Qi (S := Unit) (fun (r : Int32) _ => r = 0) (fun _ t => BC (dC, dI) (va_A [(a0, .inr (5, [g2, g3, g4, .int 0, .int 0, g5, g6, g7, g8, g9, g10, g11]))] sz) [(a0, .inr (5, [g2, g3, g4, .int 0, .int 0, g5, g6, g7, g8, g9, .int 1, .int 0]))] [] t) (va_A [(a0, .inr (5, [g2, g3, g4, .int 0, .int 0, g5, g6, g7, g8, g9, g10, g11]))] sz)) 0 0 (va_A [(a0, .inr (5, [g2, g3, g4, .int 0, .int 0, g5, g6, g7, g8, g9, g10, g11]))] sz) := by
  refine Met.ofW (cc := cX7_readLine) (maxL := 3) (ret := (some .boolean)) (by decide) rfl ?_
  intro p e s m args below meth c s₁ B hml hv
  obtain ⟨rfl, hsz, hP, hK, hD0, hN⟩ := hv
  have hx := B.exec
  have hb := B.bytes
  have hr := B.returns
  have hts := atoms_spec (ws := vX7_readLine) B.pre
  have hown : s.vm.findClass RX7 = some m.cls := findClass_of_methodNamed B.named
  have hlocks := B.notSynchronized
  subst hsz
  have hD := hD0.self (sz := s.heap.size)
  generalize hAe : va_A [(a0, .inr (5, [g2, g3, g4, .int 0, .int 0, g5, g6, g7, g8, g9, g10, g11]))] s.heap.size = A at hD ⊢
  have hA : ∀ q : Nat, s.heap.size ≤ q → A q := fun q h => by rw [← hAe]; exact Or.inr h
  have hS : va_S A s.heap s.heap [] := va_S.rf
  have hP : va_P (dC, dI) vwCl [(a0, .inr (5, [g2, g3, g4, .int 0, .int 0, g5, g6, g7, g8, g9, g10, g11]))] s.heap := hP
  have hl := lv_entry ([.ref a0, .ref a1]) (n := 3) (Nat.le_of_ble_eq_true rfl)
  rw [lg_entry_eq]
  generalize (lg_sl ([.ref a0, .ref a1]) ++ List.replicate (3 - (lg_sl ([.ref a0, .ref a1])).length) Slot.unset).toArray = ls at hl ⊢
  have hl : lv_has ls 3 [(0, .ref a0), (1, .ref a1)] := hl
  refine lv_aload_n hx hb dX7_readLine_0 rfl (lv_at hl 0 rfl) ?_
  obtain ⟨s1, hs1⟩ := hN.2.2 (RX7, 76, "pier") (List.mem_of_getElem? (i := 0) rfl)
  refine va_ldcS hx hb hown hs1 dX7_readLine_1 ?_
  refine cl_i (wc := [(a0, .inr (5, [g2, g3, g4, .int 0, .int 0, g5, g6, g7, g8, g9, g10, g11]))]) (wr := []) (va_runV (As := [.ref s1]) (rest := []) ⟨hx, hb, hml, hown, hts⟩ (kX7_isWord l dC dI a0 s1 (g2) (g3) (g4) (.int 0) (g5) (g6) (g7) (g8) (g9) (g10) (g11) s.heap.size) (cwV 1 hts gX7_readLine_0 rfl rfl rfl (by decide +kernel) ⟨Nat.le_of_ble_eq_true rfl, Nat.le_of_ble_eq_true rfl⟩) (PV (hP.sub (ws' := [(a0, .inr (5, [g2, g3, g4, .int 0, .int 0, g5, g6, g7, g8, g9, g10, g11]))]) [0] rfl) (hK.sub (tys' := []) [] rfl) (hD.sub (ws' := [(a0, .inr (5, [g2, g3, g4, .int 0, .int 0, g5, g6, g7, g8, g9, g10, g11]))]) [0] (by decide) rfl) hN 0 rfl rfl) rfl rfl hl.1 rfl (lv_room (Nat.le_of_ble_eq_true rfl)) dX7_readLine_3 ⟨Nat.le_of_ble_eq_true rfl, Nat.le_of_ble_eq_true rfl⟩) hP hD hK hS hA [0] [] rfl rfl (by decide) (by decide) (fun z2 _u H locs hw hP hD hK hS => ?_)
  have hP : va_P (dC, dI) vwCl [(a0, .inr (5, [g2, g3, g4, .int 0, .int 0, g5, g6, g7, g8, g9, g10, g11]))] H := hP
  have hD : va_D A [(a0, .inr (5, [g2, g3, g4, .int 0, .int 0, g5, g6, g7, g8, g9, g10, g11]))] := hD
  have hK : va_K (dC, dI) vwCl [] s := hK
  obtain rfl : z2 = 0 := hw
  refine lv_if_eq (tgt := 30) hx hb dX7_readLine_6 (by decide) (fun _ => ?_) (fun c3 => absurd c3 (by decide))
  refine lv_aload_n hx hb dX7_readLine_30 rfl (lv_at hl 0 rfl) ?_
  obtain ⟨s4, hs4⟩ := hN.2.2 (RX7, 88, "bait") (List.mem_of_getElem? (i := 5) rfl)
  refine va_ldcS hx hb hown hs4 dX7_readLine_31 ?_
  refine cl_i (wc := [(a0, .inr (5, [g2, g3, g4, .int 0, .int 0, g5, g6, g7, g8, g9, g10, g11]))]) (wr := []) (va_runV (As := [.ref s4]) (rest := []) ⟨hx, hb, hml, hown, hts⟩ (kX7_isWord l dC dI a0 s4 (g2) (g3) (g4) (.int 0) (g5) (g6) (g7) (g8) (g9) (g10) (g11) H.size) (cwV 1 hts gX7_readLine_0 rfl rfl rfl (by decide +kernel) ⟨Nat.le_of_ble_eq_true rfl, Nat.le_of_ble_eq_true rfl⟩) (PV (hP.sub (ws' := [(a0, .inr (5, [g2, g3, g4, .int 0, .int 0, g5, g6, g7, g8, g9, g10, g11]))]) [0] rfl) (hK.sub (tys' := []) [] rfl) (hD.sub (ws' := [(a0, .inr (5, [g2, g3, g4, .int 0, .int 0, g5, g6, g7, g8, g9, g10, g11]))]) [0] (by decide) rfl) hN 0 rfl rfl) rfl rfl hl.1 rfl (lv_room (Nat.le_of_ble_eq_true rfl)) dX7_readLine_33 ⟨Nat.le_of_ble_eq_true rfl, Nat.le_of_ble_eq_true rfl⟩) hP hD hK hS hA [0] [] rfl rfl (by decide) (by decide) (fun z5 _u H locs hw hP hD hK hS => ?_)
  have hP : va_P (dC, dI) vwCl [(a0, .inr (5, [g2, g3, g4, .int 0, .int 0, g5, g6, g7, g8, g9, g10, g11]))] H := hP
  have hD : va_D A [(a0, .inr (5, [g2, g3, g4, .int 0, .int 0, g5, g6, g7, g8, g9, g10, g11]))] := hD
  have hK : va_K (dC, dI) vwCl [] s := hK
  obtain rfl : z5 = 0 := hw
  refine lv_if_eq (tgt := 74) hx hb dX7_readLine_36 (by decide) (fun _ => ?_) (fun c6 => absurd c6 (by decide))
  refine lv_aload_n hx hb dX7_readLine_74 rfl (lv_at hl 0 rfl) ?_
  obtain ⟨s7, hs7⟩ := hN.2.2 (RX7, 97, "asker") (List.mem_of_getElem? (i := 6) rfl)
  refine va_ldcS hx hb hown hs7 dX7_readLine_75 ?_
  refine cl_i (wc := [(a0, .inr (5, [g2, g3, g4, .int 0, .int 0, g5, g6, g7, g8, g9, g10, g11]))]) (wr := []) (va_runV (As := [.ref s7]) (rest := []) ⟨hx, hb, hml, hown, hts⟩ (kX7_isWord l dC dI a0 s7 (g2) (g3) (g4) (.int 0) (g5) (g6) (g7) (g8) (g9) (g10) (g11) H.size) (cwV 1 hts gX7_readLine_0 rfl rfl rfl (by decide +kernel) ⟨Nat.le_of_ble_eq_true rfl, Nat.le_of_ble_eq_true rfl⟩) (PV (hP.sub (ws' := [(a0, .inr (5, [g2, g3, g4, .int 0, .int 0, g5, g6, g7, g8, g9, g10, g11]))]) [0] rfl) (hK.sub (tys' := []) [] rfl) (hD.sub (ws' := [(a0, .inr (5, [g2, g3, g4, .int 0, .int 0, g5, g6, g7, g8, g9, g10, g11]))]) [0] (by decide) rfl) hN 0 rfl rfl) rfl rfl hl.1 rfl (lv_room (Nat.le_of_ble_eq_true rfl)) dX7_readLine_77 ⟨Nat.le_of_ble_eq_true rfl, Nat.le_of_ble_eq_true rfl⟩) hP hD hK hS hA [0] [] rfl rfl (by decide) (by decide) (fun z8 _u H locs hw hP hD hK hS => ?_)
  have hP : va_P (dC, dI) vwCl [(a0, .inr (5, [g2, g3, g4, .int 0, .int 0, g5, g6, g7, g8, g9, g10, g11]))] H := hP
  have hD : va_D A [(a0, .inr (5, [g2, g3, g4, .int 0, .int 0, g5, g6, g7, g8, g9, g10, g11]))] := hD
  have hK : va_K (dC, dI) vwCl [] s := hK
  obtain rfl : z8 = 0 := hw
  refine lv_if_eq (tgt := 118) hx hb dX7_readLine_80 (by decide) (fun _ => ?_) (fun c9 => absurd c9 (by decide))
  refine lv_aload_n hx hb dX7_readLine_118 rfl (lv_at hl 0 rfl) ?_
  obtain ⟨s10, hs10⟩ := hN.2.2 (RX7, 105, "answer") (List.mem_of_getElem? (i := 7) rfl)
  refine va_ldcS hx hb hown hs10 dX7_readLine_119 ?_
  refine cl_i (wc := [(a0, .inr (5, [g2, g3, g4, .int 0, .int 0, g5, g6, g7, g8, g9, g10, g11]))]) (wr := []) (va_runV (As := [.ref s10]) (rest := []) ⟨hx, hb, hml, hown, hts⟩ (kX7_isWord l dC dI a0 s10 (g2) (g3) (g4) (.int 0) (g5) (g6) (g7) (g8) (g9) (g10) (g11) H.size) (cwV 1 hts gX7_readLine_0 rfl rfl rfl (by decide +kernel) ⟨Nat.le_of_ble_eq_true rfl, Nat.le_of_ble_eq_true rfl⟩) (PV (hP.sub (ws' := [(a0, .inr (5, [g2, g3, g4, .int 0, .int 0, g5, g6, g7, g8, g9, g10, g11]))]) [0] rfl) (hK.sub (tys' := []) [] rfl) (hD.sub (ws' := [(a0, .inr (5, [g2, g3, g4, .int 0, .int 0, g5, g6, g7, g8, g9, g10, g11]))]) [0] (by decide) rfl) hN 0 rfl rfl) rfl rfl hl.1 rfl (lv_room (Nat.le_of_ble_eq_true rfl)) dX7_readLine_121 ⟨Nat.le_of_ble_eq_true rfl, Nat.le_of_ble_eq_true rfl⟩) hP hD hK hS hA [0] [] rfl rfl (by decide) (by decide) (fun z11 _u H locs hw hP hD hK hS => ?_)
  have hP : va_P (dC, dI) vwCl [(a0, .inr (5, [g2, g3, g4, .int 0, .int 0, g5, g6, g7, g8, g9, g10, g11]))] H := hP
  have hD : va_D A [(a0, .inr (5, [g2, g3, g4, .int 0, .int 0, g5, g6, g7, g8, g9, g10, g11]))] := hD
  have hK : va_K (dC, dI) vwCl [] s := hK
  obtain rfl : z11 = 0 := hw
  refine lv_if_eq (tgt := 163) hx hb dX7_readLine_124 (by decide) (fun _ => ?_) (fun c12 => absurd c12 (by decide))
  refine lv_aload_n hx hb dX7_readLine_163 rfl (lv_at hl 0 rfl) ?_
  obtain ⟨s13, hs13⟩ := hN.2.2 (RX7, 113, "dark") (List.mem_of_getElem? (i := 8) rfl)
  refine va_ldcS hx hb hown hs13 dX7_readLine_164 ?_
  refine cl_i (wc := [(a0, .inr (5, [g2, g3, g4, .int 0, .int 0, g5, g6, g7, g8, g9, g10, g11]))]) (wr := []) (va_runV (As := [.ref s13]) (rest := []) ⟨hx, hb, hml, hown, hts⟩ (kX7_isWord l dC dI a0 s13 (g2) (g3) (g4) (.int 0) (g5) (g6) (g7) (g8) (g9) (g10) (g11) H.size) (cwV 1 hts gX7_readLine_0 rfl rfl rfl (by decide +kernel) ⟨Nat.le_of_ble_eq_true rfl, Nat.le_of_ble_eq_true rfl⟩) (PV (hP.sub (ws' := [(a0, .inr (5, [g2, g3, g4, .int 0, .int 0, g5, g6, g7, g8, g9, g10, g11]))]) [0] rfl) (hK.sub (tys' := []) [] rfl) (hD.sub (ws' := [(a0, .inr (5, [g2, g3, g4, .int 0, .int 0, g5, g6, g7, g8, g9, g10, g11]))]) [0] (by decide) rfl) hN 0 rfl rfl) rfl rfl hl.1 rfl (lv_room (Nat.le_of_ble_eq_true rfl)) dX7_readLine_166 ⟨Nat.le_of_ble_eq_true rfl, Nat.le_of_ble_eq_true rfl⟩) hP hD hK hS hA [0] [] rfl rfl (by decide) (by decide) (fun z14 _u H locs hw hP hD hK hS => ?_)
  have hP : va_P (dC, dI) vwCl [(a0, .inr (5, [g2, g3, g4, .int 0, .int 0, g5, g6, g7, g8, g9, g10, g11]))] H := hP
  have hD : va_D A [(a0, .inr (5, [g2, g3, g4, .int 0, .int 0, g5, g6, g7, g8, g9, g10, g11]))] := hD
  have hK : va_K (dC, dI) vwCl [] s := hK
  obtain rfl : z14 = 0 := hw
  refine lv_if_eq (tgt := 207) hx hb dX7_readLine_169 (by decide) (fun _ => ?_) (fun c15 => absurd c15 (by decide))
  refine lv_aload_n hx hb dX7_readLine_207 rfl (lv_at hl 0 rfl) ?_
  obtain ⟨s16, hs16⟩ := hN.2.2 (RX7, 121, "bite") (List.mem_of_getElem? (i := 9) rfl)
  refine va_ldcS hx hb hown hs16 dX7_readLine_208 ?_
  refine cl_i (wc := [(a0, .inr (5, [g2, g3, g4, .int 0, .int 0, g5, g6, g7, g8, g9, g10, g11]))]) (wr := []) (va_runV (As := [.ref s16]) (rest := []) ⟨hx, hb, hml, hown, hts⟩ (kX7_isWord l dC dI a0 s16 (g2) (g3) (g4) (.int 0) (g5) (g6) (g7) (g8) (g9) (g10) (g11) H.size) (cwV 1 hts gX7_readLine_0 rfl rfl rfl (by decide +kernel) ⟨Nat.le_of_ble_eq_true rfl, Nat.le_of_ble_eq_true rfl⟩) (PV (hP.sub (ws' := [(a0, .inr (5, [g2, g3, g4, .int 0, .int 0, g5, g6, g7, g8, g9, g10, g11]))]) [0] rfl) (hK.sub (tys' := []) [] rfl) (hD.sub (ws' := [(a0, .inr (5, [g2, g3, g4, .int 0, .int 0, g5, g6, g7, g8, g9, g10, g11]))]) [0] (by decide) rfl) hN 0 rfl rfl) rfl rfl hl.1 rfl (lv_room (Nat.le_of_ble_eq_true rfl)) dX7_readLine_210 ⟨Nat.le_of_ble_eq_true rfl, Nat.le_of_ble_eq_true rfl⟩) hP hD hK hS hA [0] [] rfl rfl (by decide) (by decide) (fun z17 _u H locs hw hP hD hK hS => ?_)
  have hP : va_P (dC, dI) vwCl [(a0, .inr (5, [g2, g3, g4, .int 0, .int 0, g5, g6, g7, g8, g9, g10, g11]))] H := hP
  have hD : va_D A [(a0, .inr (5, [g2, g3, g4, .int 0, .int 0, g5, g6, g7, g8, g9, g10, g11]))] := hD
  have hK : va_K (dC, dI) vwCl [] s := hK
  obtain rfl : z17 = 0 := hw
  refine lv_if_eq (tgt := 267) hx hb dX7_readLine_213 (by decide) (fun _ => ?_) (fun c18 => absurd c18 (by decide))
  refine lv_aload_n hx hb dX7_readLine_267 rfl (lv_at hl 0 rfl) ?_
  refine lv_iconst (v := 1) hx hb dX7_readLine_268 (by decide) ?_
  refine cl_i (wc := [(a0, .inr (5, [g2, g3, g4, .int 0, .int 0, g5, g6, g7, g8, g9, g10, g11]))]) (wr := []) (va_runV (As := [.int 1]) (rest := []) ⟨hx, hb, hml, hown, hts⟩ (kX7_fail l dC dI a0 (g2) (g3) (g4) (.int 0) (g5) (g6) (g7) (g8) (g9) (g10) (g11) H.size) (cwV 1 hts gX7_readLine_1 rfl rfl rfl (by decide +kernel) ⟨Nat.le_of_ble_eq_true rfl, Nat.le_of_ble_eq_true rfl⟩) (PV (hP.sub (ws' := [(a0, .inr (5, [g2, g3, g4, .int 0, .int 0, g5, g6, g7, g8, g9, g10, g11]))]) [0] rfl) (hK.sub (tys' := []) [] rfl) (hD.sub (ws' := [(a0, .inr (5, [g2, g3, g4, .int 0, .int 0, g5, g6, g7, g8, g9, g10, g11]))]) [0] (by decide) rfl) hN 0 rfl rfl) rfl rfl hl.1 rfl (lv_room (Nat.le_of_ble_eq_true rfl)) dX7_readLine_269 ⟨Nat.le_of_ble_eq_true rfl, Nat.le_of_ble_eq_true rfl⟩) hP hD hK hS hA [0] [] rfl rfl (by decide) (by decide) (fun z19 _u H locs hw hP hD hK hS => ?_)
  have hP : va_P (dC, dI) vwCl [(a0, .inr (5, [g2, g3, g4, .int 0, .int 0, g5, g6, g7, g8, g9, .int 1, .int 0]))] H := hP
  have hD : va_D A [(a0, .inr (5, [g2, g3, g4, .int 0, .int 0, g5, g6, g7, g8, g9, .int 1, .int 0]))] := hD
  have hK : va_K (dC, dI) vwCl [] s := hK
  obtain rfl : z19 = 0 := hw
  have hP9 := hP.sub (ws' := [(a0, .inr (5, [g2, g3, g4, .int 0, .int 0, g5, g6, g7, g8, g9, .int 1, .int 0]))]) [0] rfl
  have hD9 := hD.sub (ws' := [(a0, .inr (5, [g2, g3, g4, .int 0, .int 0, g5, g6, g7, g8, g9, .int 1, .int 0]))]) [0] (by decide) rfl
  have hK9 := hK.sub (tys' := []) [] rfl
  exact W.zret (v := 0) hx hb hr rfl (fun t ht hW => ⟨⟨0, (), rfl, rfl, by rw [ht]; exact hP9, va_K.moved hW.alike hK9, hD9⟩, hS.F ht⟩) hS.2.2 dX7_readLine_272
theorem dX7_read_0 : decode cX7_read 0 = .ok (.aload_n 0, 1) := by decide +kernel
theorem dX7_read_1 : decode cX7_read 1 = .ok (.iload_n 1, 1) := by decide +kernel
theorem dX7_read_12 : decode cX7_read 12 = .ok (.aload_n 0, 1) := by decide +kernel
theorem dX7_read_13 : decode cX7_read 13 = .ok (.iconst 0, 1) := by decide +kernel
theorem dX7_read_14 : decode cX7_read 14 = .ok (.putfield 15, 3) := by decide +kernel
theorem dX7_read_17 : decode cX7_read 17 = .ok (.aload_n 0, 1) := by decide +kernel
theorem dX7_read_18 : decode cX7_read 18 = .ok (.iconst 0, 1) := by decide +kernel
theorem dX7_read_19 : decode cX7_read 19 = .ok (.putfield 28, 3) := by decide +kernel
theorem dX7_read_2 : decode cX7_read 2 = .ok (.aload_n 0, 1) := by decide +kernel
theorem dX7_read_22 : decode cX7_read 22 = .ok (.aload_n 0, 1) := by decide +kernel
theorem dX7_read_23 : decode cX7_read 23 = .ok (.iconst 0, 1) := by decide +kernel
theorem dX7_read_24 : decode cX7_read 24 = .ok (.putfield 42, 3) := by decide +kernel
theorem dX7_read_27 : decode cX7_read 27 = .ok (.aload_n 0, 1) := by decide +kernel
theorem dX7_read_28 : decode cX7_read 28 = .ok (.iconst 0, 1) := by decide +kernel
theorem dX7_read_29 : decode cX7_read 29 = .ok (.putfield 45, 3) := by decide +kernel
theorem dX7_read_3 : decode cX7_read 3 = .ok (.getfield 15, 3) := by decide +kernel
theorem dX7_read_32 : decode cX7_read 32 = .ok (.aload_n 0, 1) := by decide +kernel
theorem dX7_read_33 : decode cX7_read 33 = .ok (.iconst (-1), 1) := by decide +kernel
theorem dX7_read_34 : decode cX7_read 34 = .ok (.putfield 48, 3) := by decide +kernel
theorem dX7_read_37 : decode cX7_read 37 = .ok (.aload_n 2, 1) := by decide +kernel
theorem dX7_read_38 : decode cX7_read 38 = .ok (.invokevirtual 57, 3) := by decide +kernel
theorem dX7_read_41 : decode cX7_read 41 = .ok (.aload_n 0, 1) := by decide +kernel
theorem dX7_read_42 : decode cX7_read 42 = .ok (.invokevirtual 62, 3) := by decide +kernel
theorem dX7_read_45 : decode cX7_read 45 = .ok (.iconst 0, 1) := by decide +kernel
theorem dX7_read_46 : decode cX7_read 46 = .ok (.istore_n 3, 1) := by decide +kernel
theorem dX7_read_47 : decode cX7_read 47 = .ok (.iload_n 3, 1) := by decide +kernel
theorem dX7_read_48 : decode cX7_read 48 = .ok (.aload_n 0, 1) := by decide +kernel
theorem dX7_read_49 : decode cX7_read 49 = .ok (.getfield 19, 3) := by decide +kernel
theorem dX7_read_52 : decode cX7_read 52 = .ok (.if_icmp .gt 66, 3) := by decide +kernel
theorem dX7_read_55 : decode cX7_read 55 = .ok (.aload_n 0, 1) := by decide +kernel
theorem dX7_read_56 : decode cX7_read 56 = .ok (.aload_n 2, 1) := by decide +kernel
theorem dX7_read_57 : decode cX7_read 57 = .ok (.invokevirtual 65, 3) := by decide +kernel
theorem dX7_read_6 : decode cX7_read 6 = .ok (.invokestatic 51, 3) := by decide +kernel
theorem dX7_read_60 : decode cX7_read 60 = .ok (.ifCond .ne 5, 3) := by decide +kernel
theorem dX7_read_63 : decode cX7_read 63 = .ok (.iconst 0, 1) := by decide +kernel
theorem dX7_read_64 : decode cX7_read 64 = .ok (.ireturn, 1) := by decide +kernel
theorem dX7_read_9 : decode cX7_read 9 = .ok (.putfield 19, 3) := by decide +kernel
def vX7_read : List Cond := .code yX7_read cX7_read 4 (some .boolean) :: ([.fieldLink RX7 15 "HookPier$Reader" "fed" "I", .methodLink RX7 51 Lib.Math.min.name, .static Lib.Math.min.name, .initialized "java/lang/Math", .code Lib.Math.min.name Lib.Math.min.code 2 (some .int), .fieldLink RX7 19 "HookPier$Reader" "end" "I", .fieldLink RX7 28 "HookPier$Reader" "behind" "I", .fieldLink RX7 42 "HookPier$Reader" "names" "I", .fieldLink RX7 45 "HookPier$Reader" "fault" "I", .fieldLink RX7 48 "HookPier$Reader" "place" "I", .methodLink RX7 57 yX6_clear, .instanceMethod yX6_clear, .selects RX6 yX6_clear yX6_clear, .initialized RX6, .code yX6_clear cX6_clear 1 none, .fieldLink RX6 9 "HookPier$Plan" "spots" "I", .fieldLink RX6 15 "HookPier$Plan" "deep" "I", .fieldLink RX6 24 "HookPier$Plan" "baits" "I", .fieldLink RX6 27 "HookPier$Plan" "askers" "I", .fieldLink RX6 30 "HookPier$Plan" "answers" "I", .fieldLink RX6 33 "HookPier$Plan" "bites" "I", .fieldLink RX6 36 "HookPier$Plan" "darkHunger" "I", .methodLink RX7 62 yX7_advance, .instanceMethod yX7_advance, .selects RX7 yX7_advance yX7_advance, .initialized RX7, .code yX7_advance cX7_advance 1 none, .fieldLink RX7 25 "HookPier$Reader" "start" "I", .fieldLink RX7 22 "HookPier$Reader" "token" "I", .methodLink RX7 65 yX7_readLine, .instanceMethod yX7_readLine, .selects RX7 yX7_readLine yX7_readLine, .code yX7_readLine cX7_readLine 3 (some .boolean), .methodLink RX7 78 yX7_isWord, .instanceMethod yX7_isWord, .selects RX7 yX7_isWord yX7_isWord, .code yX7_isWord cX7_isWord 3 (some .boolean), .methodLink RX7 72 yX7_fail, .instanceMethod yX7_fail, .selects RX7 yX7_fail yX7_fail, .code yX7_fail cX7_fail 2 (some .boolean)] ++ wsX70 ++ wsX60)
theorem iX7_read_X7 : ∀ w ∈ wsX70, w ∈ vX7_read := fun _ h => List.mem_cons_of_mem _ (List.mem_append_left _ (List.mem_append_right _ h))
theorem iX7_read_X6 : ∀ w ∈ wsX60, w ∈ vX7_read := fun _ h => List.mem_cons_of_mem _ (List.mem_append_right _ h)
set_option maxRecDepth 20000 in
theorem gX7_read_0 : GoodIn vX7_read (wsV RX7 57 RX6 yX6_clear vX6_clear) := goodIn_app (goodIn_r [.methodLink RX7 57 yX6_clear, .instanceMethod yX6_clear, .selects RX6 yX6_clear yX6_clear, .initialized RX6] [11, 12, 13, 14] (by decide +kernel) (by decide +kernel)) (goodIn_ca (goodIn_r (.code yX6_clear cX6_clear 1 none :: [.fieldLink RX6 9 "HookPier$Plan" "spots" "I", .fieldLink RX6 15 "HookPier$Plan" "deep" "I", .fieldLink RX6 24 "HookPier$Plan" "baits" "I", .fieldLink RX6 27 "HookPier$Plan" "askers" "I", .fieldLink RX6 30 "HookPier$Plan" "answers" "I", .fieldLink RX6 33 "HookPier$Plan" "bites" "I", .fieldLink RX6 36 "HookPier$Plan" "darkHunger" "I"]) [15, 16, 17, 18, 19, 20, 21, 22] (by decide +kernel) (by decide +kernel) : GoodIn vX7_read (.code yX6_clear cX6_clear 1 none :: [.fieldLink RX6 9 "HookPier$Plan" "spots" "I", .fieldLink RX6 15 "HookPier$Plan" "deep" "I", .fieldLink RX6 24 "HookPier$Plan" "baits" "I", .fieldLink RX6 27 "HookPier$Plan" "askers" "I", .fieldLink RX6 30 "HookPier$Plan" "answers" "I", .fieldLink RX6 33 "HookPier$Plan" "bites" "I", .fieldLink RX6 36 "HookPier$Plan" "darkHunger" "I"])) (goodIn_sub iX7_read_X6 (by decide +kernel)))
set_option maxRecDepth 20000 in
theorem gX7_read_1 : GoodIn vX7_read (wsV RX7 62 RX7 yX7_advance vX7_advance) := goodIn_app (goodIn_r [.methodLink RX7 62 yX7_advance, .instanceMethod yX7_advance, .selects RX7 yX7_advance yX7_advance, .initialized RX7] [23, 24, 25, 26] (by decide +kernel) (by decide +kernel)) (goodIn_ca (goodIn_r (.code yX7_advance cX7_advance 1 none :: [.fieldLink RX7 28 "HookPier$Reader" "behind" "I", .fieldLink RX7 25 "HookPier$Reader" "start" "I", .fieldLink RX7 19 "HookPier$Reader" "end" "I", .fieldLink RX7 22 "HookPier$Reader" "token" "I"]) [27, 7, 28, 6, 29] (by decide +kernel) (by decide +kernel) : GoodIn vX7_read (.code yX7_advance cX7_advance 1 none :: [.fieldLink RX7 28 "HookPier$Reader" "behind" "I", .fieldLink RX7 25 "HookPier$Reader" "start" "I", .fieldLink RX7 19 "HookPier$Reader" "end" "I", .fieldLink RX7 22 "HookPier$Reader" "token" "I"])) (goodIn_sub iX7_read_X7 (by decide +kernel)))
set_option maxRecDepth 20000 in
theorem gX7_read_2 : GoodIn vX7_read (wsV RX7 65 RX7 yX7_readLine vX7_readLine) := goodIn_app (goodIn_r [.methodLink RX7 65 yX7_readLine, .instanceMethod yX7_readLine, .selects RX7 yX7_readLine yX7_readLine, .initialized RX7] [30, 31, 32, 26] (by decide +kernel) (by decide +kernel)) (goodIn_ca (goodIn_r (.code yX7_readLine cX7_readLine 3 (some .boolean) :: [.methodLink RX7 78 yX7_isWord, .instanceMethod yX7_isWord, .selects RX7 yX7_isWord yX7_isWord, .initialized RX7, .code yX7_isWord cX7_isWord 3 (some .boolean), .fieldLink RX7 22 "HookPier$Reader" "token" "I", .methodLink RX7 72 yX7_fail, .instanceMethod yX7_fail, .selects RX7 yX7_fail yX7_fail, .code yX7_fail cX7_fail 2 (some .boolean), .fieldLink RX7 45 "HookPier$Reader" "fault" "I", .fieldLink RX7 25 "HookPier$Reader" "start" "I", .fieldLink RX7 48 "HookPier$Reader" "place" "I"]) [33, 34, 35, 36, 26, 37, 29, 38, 39, 40, 41, 9, 28, 10] (by decide +kernel) (by decide +kernel) : GoodIn vX7_read (.code yX7_readLine cX7_readLine 3 (some .boolean) :: [.methodLink RX7 78 yX7_isWord, .instanceMethod yX7_isWord, .selects RX7 yX7_isWord yX7_isWord, .initialized RX7, .code yX7_isWord cX7_isWord 3 (some .boolean), .fieldLink RX7 22 "HookPier$Reader" "token" "I", .methodLink RX7 72 yX7_fail, .instanceMethod yX7_fail, .selects RX7 yX7_fail yX7_fail, .code yX7_fail cX7_fail 2 (some .boolean), .fieldLink RX7 45 "HookPier$Reader" "fault" "I", .fieldLink RX7 25 "HookPier$Reader" "start" "I", .fieldLink RX7 48 "HookPier$Reader" "place" "I"])) (goodIn_sub iX7_read_X7 (by decide +kernel)))
set_option maxHeartbeats 1000000 in
set_option maxRecDepth 100000 in
theorem kX7_read (l : Launch) (dC : Nat → ClassId) (dI : Nat → Nat → Nat) (a0 : Nat) (a1 : Nat) (g2 : Value) (g3 : Value) (g4 : Value) (g5 : Value) (g6 : Value) (g7 : Value) (g8 : Value) (g9 : Value) (g10 : Value) (g11 : Value) (g12 : Value) (g13 : Value) (g14 : Value) (g15 : Value) (g16 : Value) (g17 : Value) (g18 : Value) (g19 : Value) (g20 : Value) (g21 : Value) (g22 : Value) (g23 : Value) (g24 : Value) (g25 : Value) (g26 : Value) (sz : Nat) : Met l yX7_read vX7_read ({ frames := 2, cells := 0, slots := 0, locals := 44 }) (PC (dC, dI) [.ref a0, .int 0, .ref a1] sz [(a0, .inr (5, [g2, .int 0, .int 0, .int 0, .int 0, .int 0, g3, g4, g5, g6, g7, g8])), (a1, .inr (4, [g9, g10, g11, g12, g13, g14, g15, g16, g17, g18, g19, g20, g21, g22, g23, g24, g25, g26]))] []) (va_Qi (S := Unit) (fun (r : Int32) _ => r = 0) (fun _ t => BC (dC, dI) (va_A [(a0, .inr (5, [g2, .int 0, .int 0, .int 0, .int 0, .int 0, g3, g4, g5, g6, g7, g8])), (a1, .inr (4, [g9, g10, g11, g12, g13, g14, g15, g16, g17, g18, g19, g20, g21, g22, g23, g24, g25, g26]))] sz) [(a0, .inr (5, [g2, .int 0, .int 0, .int 0, .int 0, .int 0, g3, g4, g5, .int 0, .int 1, .int 0])), (a1, .inr (4, [.int 0, .int 0, g11, g12, .int 0, .int 0, .int 0, .int 0, .int (-1), g18, g19, g20, g21, g22, g23, g24, g25, g26]))] [] t) (va_A [(a0, .inr (5, [g2, .int 0, .int 0, .int 0, .int 0, .int 0, g3, g4, g5, g6, g7, g8])), (a1, .inr (4, [g9, g10, g11, g12, g13, g14, g15, g16, g17, g18, g19, g20, g21, g22, g23, g24, g25, g26]))] sz)) 0 0 (va_A [(a0, .inr (5, [g2, .int 0, .int 0, .int 0, .int 0, .int 0, g3, g4, g5, g6, g7, g8])), (a1, .inr (4, [g9, g10, g11, g12, g13, g14, g15, g16, g17, g18, g19, g20, g21, g22, g23, g24, g25, g26]))] sz) := by
  refine Met.ofW (cc := cX7_read) (maxL := 4) (ret := (some .boolean)) (by decide) rfl ?_
  intro p e s m args below meth c s₁ B hml hv
  obtain ⟨rfl, hsz, hP, hK, hD0, hN⟩ := hv
  have hx := B.exec
  have hb := B.bytes
  have hr := B.returns
  have hts := atoms_spec (ws := vX7_read) B.pre
  have hown : s.vm.findClass RX7 = some m.cls := findClass_of_methodNamed B.named
  have hlocks := B.notSynchronized
  subst hsz
  have hD := hD0.self (sz := s.heap.size)
  generalize hAe : va_A [(a0, .inr (5, [g2, .int 0, .int 0, .int 0, .int 0, .int 0, g3, g4, g5, g6, g7, g8])), (a1, .inr (4, [g9, g10, g11, g12, g13, g14, g15, g16, g17, g18, g19, g20, g21, g22, g23, g24, g25, g26]))] s.heap.size = A at hD ⊢
  have hA : ∀ q : Nat, s.heap.size ≤ q → A q := fun q h => by rw [← hAe]; exact Or.inr h
  have hS : va_S A s.heap s.heap [] := va_S.rf
  have hP : va_P (dC, dI) vwCl [(a0, .inr (5, [g2, .int 0, .int 0, .int 0, .int 0, .int 0, g3, g4, g5, g6, g7, g8])), (a1, .inr (4, [g9, g10, g11, g12, g13, g14, g15, g16, g17, g18, g19, g20, g21, g22, g23, g24, g25, g26]))] s.heap := hP
  have hl := lv_entry ([.ref a0, .int 0, .ref a1]) (n := 4) (Nat.le_of_ble_eq_true rfl)
  rw [lg_entry_eq]
  generalize (lg_sl ([.ref a0, .int 0, .ref a1]) ++ List.replicate (4 - (lg_sl ([.ref a0, .int 0, .ref a1])).length) Slot.unset).toArray = ls at hl ⊢
  have hl : lv_has ls 4 [(0, .ref a0), (1, .int 0), (2, .ref a1)] := hl
  refine lv_aload_n hx hb dX7_read_0 rfl (lv_at hl 0 rfl) ?_
  refine lv_iload_n hx hb dX7_read_1 rfl (lv_at hl 1 rfl) ?_
  refine lv_aload_n hx hb dX7_read_2 rfl (lv_at hl 0 rfl) ?_
  refine va_get (D := (dC, dI)) (ci := 5) (v := .int 0) (C := RX7) (T := TX7) (N := 12) hx hb hts iX7_read_X7 hown hK hP 0 rfl rfl 1 (by decide) (hts (.fieldLink RX7 15 "HookPier$Reader" "fed" "I") (List.mem_of_getElem? (i := 1) rfl)) (fun _ h9 => h9) rfl dX7_read_3 ?_
  refine va_mmin hx hb (by rw [hml]; exact hl.1.symm) hown (hts (.methodLink RX7 51 Lib.Math.min.name) (List.mem_of_getElem? (i := 2) rfl)) (hts (.static Lib.Math.min.name) (List.mem_of_getElem? (i := 3) rfl)) (hts (.initialized "java/lang/Math") (List.mem_of_getElem? (i := 4) rfl)) (hts (.code Lib.Math.min.name Lib.Math.min.code 2 (some .int)) (List.mem_of_getElem? (i := 5) rfl)) (Nat.le_of_ble_eq_true rfl) (Nat.le_of_ble_eq_true rfl) (Nat.le_of_ble_eq_true rfl) (Nat.le_of_ble_eq_true rfl) dX7_read_6 ?_
  refine lv_topi (fun z1 ez1 => ?_)
  obtain rfl : z1 = 0 := ez1.trans (by decide)
  refine va_put (D := (dC, dI)) (ci := 5) (v := .int 0) (ty := .int) (C := RX7) (T := TX7) (N := 12) hx hb hts iX7_read_X7 tyX7 tyX7_ok nmX7 hown hK hP hD hS 0 rfl rfl 2 (by decide) (hts (.fieldLink RX7 19 "HookPier$Reader" "end" "I") (List.mem_of_getElem? (i := 6) rfl)) (fun _ h9 => h9) rfl (by decide +kernel) rfl rfl (Nat.le_of_ble_eq_true rfl) dX7_read_9 (fun H locs hP hD hS => ?_)
  have hP : va_P (dC, dI) vwCl [(a0, .inr (5, [g2, .int 0, .int 0, .int 0, .int 0, .int 0, g3, g4, g5, g6, g7, g8])), (a1, .inr (4, [g9, g10, g11, g12, g13, g14, g15, g16, g17, g18, g19, g20, g21, g22, g23, g24, g25, g26]))] H := hP
  have hD : va_D A [(a0, .inr (5, [g2, .int 0, .int 0, .int 0, .int 0, .int 0, g3, g4, g5, g6, g7, g8])), (a1, .inr (4, [g9, g10, g11, g12, g13, g14, g15, g16, g17, g18, g19, g20, g21, g22, g23, g24, g25, g26]))] := hD
  refine lv_aload_n hx hb dX7_read_12 rfl (lv_at hl 0 rfl) ?_
  refine lv_iconst (v := 0) hx hb dX7_read_13 (by decide) ?_
  refine va_put (D := (dC, dI)) (ci := 5) (v := .int 0) (ty := .int) (C := RX7) (T := TX7) (N := 12) hx hb hts iX7_read_X7 tyX7 tyX7_ok nmX7 hown hK hP hD hS 0 rfl rfl 1 (by decide) (hts (.fieldLink RX7 15 "HookPier$Reader" "fed" "I") (List.mem_of_getElem? (i := 1) rfl)) (fun _ h9 => h9) rfl (by decide +kernel) rfl rfl (Nat.le_of_ble_eq_true rfl) dX7_read_14 (fun H locs hP hD hS => ?_)
  have hP : va_P (dC, dI) vwCl [(a0, .inr (5, [g2, .int 0, .int 0, .int 0, .int 0, .int 0, g3, g4, g5, g6, g7, g8])), (a1, .inr (4, [g9, g10, g11, g12, g13, g14, g15, g16, g17, g18, g19, g20, g21, g22, g23, g24, g25, g26]))] H := hP
  have hD : va_D A [(a0, .inr (5, [g2, .int 0, .int 0, .int 0, .int 0, .int 0, g3, g4, g5, g6, g7, g8])), (a1, .inr (4, [g9, g10, g11, g12, g13, g14, g15, g16, g17, g18, g19, g20, g21, g22, g23, g24, g25, g26]))] := hD
  refine lv_aload_n hx hb dX7_read_17 rfl (lv_at hl 0 rfl) ?_
  refine lv_iconst (v := 0) hx hb dX7_read_18 (by decide) ?_
  refine va_put (D := (dC, dI)) (ci := 5) (v := .int 0) (ty := .int) (C := RX7) (T := TX7) (N := 12) hx hb hts iX7_read_X7 tyX7 tyX7_ok nmX7 hown hK hP hD hS 0 rfl rfl 5 (by decide) (hts (.fieldLink RX7 28 "HookPier$Reader" "behind" "I") (List.mem_of_getElem? (i := 7) rfl)) (fun _ h9 => h9) rfl (by decide +kernel) rfl rfl (Nat.le_of_ble_eq_true rfl) dX7_read_19 (fun H locs hP hD hS => ?_)
  have hP : va_P (dC, dI) vwCl [(a0, .inr (5, [g2, .int 0, .int 0, .int 0, .int 0, .int 0, g3, g4, g5, g6, g7, g8])), (a1, .inr (4, [g9, g10, g11, g12, g13, g14, g15, g16, g17, g18, g19, g20, g21, g22, g23, g24, g25, g26]))] H := hP
  have hD : va_D A [(a0, .inr (5, [g2, .int 0, .int 0, .int 0, .int 0, .int 0, g3, g4, g5, g6, g7, g8])), (a1, .inr (4, [g9, g10, g11, g12, g13, g14, g15, g16, g17, g18, g19, g20, g21, g22, g23, g24, g25, g26]))] := hD
  refine lv_aload_n hx hb dX7_read_22 rfl (lv_at hl 0 rfl) ?_
  refine lv_iconst (v := 0) hx hb dX7_read_23 (by decide) ?_
  refine va_put (D := (dC, dI)) (ci := 5) (v := .int 0) (ty := .int) (C := RX7) (T := TX7) (N := 12) hx hb hts iX7_read_X7 tyX7 tyX7_ok nmX7 hown hK hP hD hS 0 rfl rfl 9 (by decide) (hts (.fieldLink RX7 42 "HookPier$Reader" "names" "I") (List.mem_of_getElem? (i := 8) rfl)) (fun _ h9 => h9) rfl (by decide +kernel) rfl rfl (Nat.le_of_ble_eq_true rfl) dX7_read_24 (fun H locs hP hD hS => ?_)
  have hP : va_P (dC, dI) vwCl [(a0, .inr (5, [g2, .int 0, .int 0, .int 0, .int 0, .int 0, g3, g4, g5, .int 0, g7, g8])), (a1, .inr (4, [g9, g10, g11, g12, g13, g14, g15, g16, g17, g18, g19, g20, g21, g22, g23, g24, g25, g26]))] H := hP
  have hD : va_D A [(a0, .inr (5, [g2, .int 0, .int 0, .int 0, .int 0, .int 0, g3, g4, g5, .int 0, g7, g8])), (a1, .inr (4, [g9, g10, g11, g12, g13, g14, g15, g16, g17, g18, g19, g20, g21, g22, g23, g24, g25, g26]))] := hD
  refine lv_aload_n hx hb dX7_read_27 rfl (lv_at hl 0 rfl) ?_
  refine lv_iconst (v := 0) hx hb dX7_read_28 (by decide) ?_
  refine va_put (D := (dC, dI)) (ci := 5) (v := .int 0) (ty := .int) (C := RX7) (T := TX7) (N := 12) hx hb hts iX7_read_X7 tyX7 tyX7_ok nmX7 hown hK hP hD hS 0 rfl rfl 10 (by decide) (hts (.fieldLink RX7 45 "HookPier$Reader" "fault" "I") (List.mem_of_getElem? (i := 9) rfl)) (fun _ h9 => h9) rfl (by decide +kernel) rfl rfl (Nat.le_of_ble_eq_true rfl) dX7_read_29 (fun H locs hP hD hS => ?_)
  have hP : va_P (dC, dI) vwCl [(a0, .inr (5, [g2, .int 0, .int 0, .int 0, .int 0, .int 0, g3, g4, g5, .int 0, .int 0, g8])), (a1, .inr (4, [g9, g10, g11, g12, g13, g14, g15, g16, g17, g18, g19, g20, g21, g22, g23, g24, g25, g26]))] H := hP
  have hD : va_D A [(a0, .inr (5, [g2, .int 0, .int 0, .int 0, .int 0, .int 0, g3, g4, g5, .int 0, .int 0, g8])), (a1, .inr (4, [g9, g10, g11, g12, g13, g14, g15, g16, g17, g18, g19, g20, g21, g22, g23, g24, g25, g26]))] := hD
  refine lv_aload_n hx hb dX7_read_32 rfl (lv_at hl 0 rfl) ?_
  refine lv_iconst (v := (-1)) hx hb dX7_read_33 (by decide) ?_
  refine va_put (D := (dC, dI)) (ci := 5) (v := .int (-1)) (ty := .int) (C := RX7) (T := TX7) (N := 12) hx hb hts iX7_read_X7 tyX7 tyX7_ok nmX7 hown hK hP hD hS 0 rfl rfl 11 (by decide) (hts (.fieldLink RX7 48 "HookPier$Reader" "place" "I") (List.mem_of_getElem? (i := 10) rfl)) (fun _ h9 => h9) rfl (by decide +kernel) rfl rfl (Nat.le_of_ble_eq_true rfl) dX7_read_34 (fun H locs hP hD hS => ?_)
  have hP : va_P (dC, dI) vwCl [(a0, .inr (5, [g2, .int 0, .int 0, .int 0, .int 0, .int 0, g3, g4, g5, .int 0, .int 0, .int (-1)])), (a1, .inr (4, [g9, g10, g11, g12, g13, g14, g15, g16, g17, g18, g19, g20, g21, g22, g23, g24, g25, g26]))] H := hP
  have hD : va_D A [(a0, .inr (5, [g2, .int 0, .int 0, .int 0, .int 0, .int 0, g3, g4, g5, .int 0, .int 0, .int (-1)])), (a1, .inr (4, [g9, g10, g11, g12, g13, g14, g15, g16, g17, g18, g19, g20, g21, g22, g23, g24, g25, g26]))] := hD
  refine lv_aload_n hx hb dX7_read_37 rfl (lv_at hl 2 rfl) ?_
  refine cl_v (wc := [(a1, .inr (4, [g9, g10, g11, g12, g13, g14, g15, g16, g17, g18, g19, g20, g21, g22, g23, g24, g25, g26]))]) (wr := [(a0, .inr (5, [g2, .int 0, .int 0, .int 0, .int 0, .int 0, g3, g4, g5, .int 0, .int 0, .int (-1)]))]) (va_runV (As := []) (rest := []) ⟨hx, hb, hml, hown, hts⟩ (kX6_clear l dC dI a1 (g9) (g10) (g11) (g12) (g13) (g14) (g15) (g16) (g17) (g18) (g19) (g20) (g21) (g22) (g23) (g24) (g25) (g26) H.size) (cwV 0 hts gX7_read_0 rfl rfl rfl (by decide +kernel) ⟨Nat.le_of_ble_eq_true rfl, Nat.le_of_ble_eq_true rfl⟩) (PV (hP.sub (ws' := [(a1, .inr (4, [g9, g10, g11, g12, g13, g14, g15, g16, g17, g18, g19, g20, g21, g22, g23, g24, g25, g26]))]) [1] rfl) (hK.sub (tys' := []) [] rfl) (hD.sub (ws' := [(a1, .inr (4, [g9, g10, g11, g12, g13, g14, g15, g16, g17, g18, g19, g20, g21, g22, g23, g24, g25, g26]))]) [1] (by decide) rfl) hN 0 rfl rfl) rfl rfl hl.1 rfl (lv_room (Nat.le_of_ble_eq_true rfl)) dX7_read_38 ⟨Nat.le_of_ble_eq_true rfl, Nat.le_of_ble_eq_true rfl⟩) hP hD hK hS hA [1] [0] rfl rfl (by decide) (by decide) (fun _u H locs hw hP hD hK hS => ?_)
  have hP : va_P (dC, dI) vwCl [(a0, .inr (5, [g2, .int 0, .int 0, .int 0, .int 0, .int 0, g3, g4, g5, .int 0, .int 0, .int (-1)])), (a1, .inr (4, [.int 0, .int 0, g11, g12, .int 0, .int 0, .int 0, .int 0, .int (-1), g18, g19, g20, g21, g22, g23, g24, g25, g26]))] H := hP
  have hD : va_D A [(a0, .inr (5, [g2, .int 0, .int 0, .int 0, .int 0, .int 0, g3, g4, g5, .int 0, .int 0, .int (-1)])), (a1, .inr (4, [.int 0, .int 0, g11, g12, .int 0, .int 0, .int 0, .int 0, .int (-1), g18, g19, g20, g21, g22, g23, g24, g25, g26]))] := hD
  have hK : va_K (dC, dI) vwCl [] s := hK
  refine lv_aload_n hx hb dX7_read_41 rfl (lv_at hl 0 rfl) ?_
  refine cl_v (wc := [(a0, .inr (5, [g2, .int 0, .int 0, .int 0, .int 0, .int 0, g3, g4, g5, .int 0, .int 0, .int (-1)]))]) (wr := [(a1, .inr (4, [.int 0, .int 0, g11, g12, .int 0, .int 0, .int 0, .int 0, .int (-1), g18, g19, g20, g21, g22, g23, g24, g25, g26]))]) (va_runV (As := []) (rest := []) ⟨hx, hb, hml, hown, hts⟩ (kX7_advance l dC dI a0 (g2) (.int 0) (.int 0) (g3) (g4) (g5) (.int 0) (.int 0) (.int (-1)) H.size) (cwV 0 hts gX7_read_1 rfl rfl rfl (by decide +kernel) ⟨Nat.le_of_ble_eq_true rfl, Nat.le_of_ble_eq_true rfl⟩) (PV (hP.sub (ws' := [(a0, .inr (5, [g2, .int 0, .int 0, .int 0, .int 0, .int 0, g3, g4, g5, .int 0, .int 0, .int (-1)]))]) [0] rfl) (hK.sub (tys' := []) [] rfl) (hD.sub (ws' := [(a0, .inr (5, [g2, .int 0, .int 0, .int 0, .int 0, .int 0, g3, g4, g5, .int 0, .int 0, .int (-1)]))]) [0] (by decide) rfl) hN 0 rfl rfl) rfl rfl hl.1 rfl (lv_room (Nat.le_of_ble_eq_true rfl)) dX7_read_42 ⟨Nat.le_of_ble_eq_true rfl, Nat.le_of_ble_eq_true rfl⟩) hP hD hK hS hA [0] [1] rfl rfl (by decide) (by decide) (fun _u H locs hw hP hD hK hS => ?_)
  have hP : va_P (dC, dI) vwCl [(a1, .inr (4, [.int 0, .int 0, g11, g12, .int 0, .int 0, .int 0, .int 0, .int (-1), g18, g19, g20, g21, g22, g23, g24, g25, g26])), (a0, .inr (5, [g2, .int 0, .int 0, .int 0, .int 0, .int 0, g3, g4, g5, .int 0, .int 0, .int (-1)]))] H := hP
  have hD : va_D A [(a1, .inr (4, [.int 0, .int 0, g11, g12, .int 0, .int 0, .int 0, .int 0, .int (-1), g18, g19, g20, g21, g22, g23, g24, g25, g26])), (a0, .inr (5, [g2, .int 0, .int 0, .int 0, .int 0, .int 0, g3, g4, g5, .int 0, .int 0, .int (-1)]))] := hD
  have hK : va_K (dC, dI) vwCl [] s := hK
  refine lv_iconst (v := 0) hx hb dX7_read_45 (by decide) ?_
  refine lv_istore_n (lv' := [(3, .int 0), (0, .ref a0), (1, .int 0), (2, .ref a1)]) hx hb dX7_read_46 rfl hl (by decide) rfl (fun ls hl => ?_)
  refine lv_iload_n hx hb dX7_read_47 rfl (lv_at hl 0 rfl) ?_
  refine lv_aload_n hx hb dX7_read_48 rfl (lv_at hl 1 rfl) ?_
  refine va_get (D := (dC, dI)) (ci := 5) (v := .int 0) (C := RX7) (T := TX7) (N := 12) hx hb hts iX7_read_X7 hown hK hP 1 rfl rfl 2 (by decide) (hts (.fieldLink RX7 19 "HookPier$Reader" "end" "I") (List.mem_of_getElem? (i := 6) rfl)) (fun _ h9 => h9) rfl dX7_read_49 ?_
  refine lv_icmp_gt (tgt := 118) hx hb dX7_read_52 (by decide) (fun c2 => absurd c2 (by decide)) (fun _ => ?_)
  refine lv_aload_n hx hb dX7_read_55 rfl (lv_at hl 1 rfl) ?_
  refine lv_aload_n hx hb dX7_read_56 rfl (lv_at hl 3 rfl) ?_
  refine cl_i (wc := [(a0, .inr (5, [g2, .int 0, .int 0, .int 0, .int 0, .int 0, g3, g4, g5, .int 0, .int 0, .int (-1)]))]) (wr := [(a1, .inr (4, [.int 0, .int 0, g11, g12, .int 0, .int 0, .int 0, .int 0, .int (-1), g18, g19, g20, g21, g22, g23, g24, g25, g26]))]) (va_runV (As := [.ref a1]) (rest := []) ⟨hx, hb, hml, hown, hts⟩ (kX7_readLine l dC dI a0 a1 (g2) (.int 0) (.int 0) (.int 0) (g3) (g4) (g5) (.int 0) (.int 0) (.int (-1)) H.size) (cwV 1 hts gX7_read_2 rfl rfl rfl (by decide +kernel) ⟨Nat.le_of_ble_eq_true rfl, Nat.le_of_ble_eq_true rfl⟩) (PV (hP.sub (ws' := [(a0, .inr (5, [g2, .int 0, .int 0, .int 0, .int 0, .int 0, g3, g4, g5, .int 0, .int 0, .int (-1)]))]) [1] rfl) (hK.sub (tys' := []) [] rfl) (hD.sub (ws' := [(a0, .inr (5, [g2, .int 0, .int 0, .int 0, .int 0, .int 0, g3, g4, g5, .int 0, .int 0, .int (-1)]))]) [1] (by decide) rfl) hN 0 rfl rfl) rfl rfl hl.1 rfl (lv_room (Nat.le_of_ble_eq_true rfl)) dX7_read_57 ⟨Nat.le_of_ble_eq_true rfl, Nat.le_of_ble_eq_true rfl⟩) hP hD hK hS hA [1] [0] rfl rfl (by decide) (by decide) (fun z3 _u H locs hw hP hD hK hS => ?_)
  have hP : va_P (dC, dI) vwCl [(a1, .inr (4, [.int 0, .int 0, g11, g12, .int 0, .int 0, .int 0, .int 0, .int (-1), g18, g19, g20, g21, g22, g23, g24, g25, g26])), (a0, .inr (5, [g2, .int 0, .int 0, .int 0, .int 0, .int 0, g3, g4, g5, .int 0, .int 1, .int 0]))] H := hP
  have hD : va_D A [(a1, .inr (4, [.int 0, .int 0, g11, g12, .int 0, .int 0, .int 0, .int 0, .int (-1), g18, g19, g20, g21, g22, g23, g24, g25, g26])), (a0, .inr (5, [g2, .int 0, .int 0, .int 0, .int 0, .int 0, g3, g4, g5, .int 0, .int 1, .int 0]))] := hD
  have hK : va_K (dC, dI) vwCl [] s := hK
  obtain rfl : z3 = 0 := hw
  refine lv_if_ne (tgt := 65) hx hb dX7_read_60 (by decide) (fun c4 => absurd c4 (by decide)) (fun _ => ?_)
  refine lv_iconst (v := 0) hx hb dX7_read_63 (by decide) ?_
  have hP9 := hP.sub (ws' := [(a0, .inr (5, [g2, .int 0, .int 0, .int 0, .int 0, .int 0, g3, g4, g5, .int 0, .int 1, .int 0])), (a1, .inr (4, [.int 0, .int 0, g11, g12, .int 0, .int 0, .int 0, .int 0, .int (-1), g18, g19, g20, g21, g22, g23, g24, g25, g26]))]) [1, 0] rfl
  have hD9 := hD.sub (ws' := [(a0, .inr (5, [g2, .int 0, .int 0, .int 0, .int 0, .int 0, g3, g4, g5, .int 0, .int 1, .int 0])), (a1, .inr (4, [.int 0, .int 0, g11, g12, .int 0, .int 0, .int 0, .int 0, .int (-1), g18, g19, g20, g21, g22, g23, g24, g25, g26]))]) [1, 0] (by decide) rfl
  have hK9 := hK.sub (tys' := []) [] rfl
  exact W.zret (v := 0) hx hb hr rfl (fun t ht hW => ⟨⟨0, (), rfl, rfl, by rw [ht]; exact hP9, va_K.moved hW.alike hK9, hD9⟩, hS.F ht⟩) hS.2.2 dX7_read_64
def vX10_refused_2 : List Cond := .code yX10_refused cX10_refused 2 (some .boolean) :: ([.fieldLink RX10 61 "HookPier" "troubleNow" "I"] ++ wsX100)
theorem iX10_refused_2_X10 : ∀ w ∈ wsX100, w ∈ vX10_refused_2 := fun _ h => List.mem_cons_of_mem _ (List.mem_append_right _ h)
set_option maxHeartbeats 1000000 in
set_option maxRecDepth 100000 in
theorem kX10_refused_2 (l : Launch) (dC : Nat → ClassId) (dI : Nat → Nat → Nat) (a0 : Nat) (g1 : Value) (g2 : Value) (g3 : Value) (g4 : Value) (g5 : Value) (g6 : Value) (g7 : Value) (g8 : Value) (g9 : Value) (g10 : Value) (sz : Nat) : Met l yX10_refused vX10_refused_2 ({ frames := 0, cells := 0, slots := 0, locals := 0 }) (PC (dC, dI) [.ref a0, .int 4] sz [(a0, .inr (7, [g1, g2, g3, g4, g5, g6, g7, g8, g9, g10]))] []) (va_Qi (S := Unit) (fun (r : Int32) _ => r = 1) (fun _ t => BC (dC, dI) (va_A [(a0, .inr (7, [g1, g2, g3, g4, g5, g6, g7, g8, g9, g10]))] sz) [(a0, .inr (7, [g1, g2, g3, g4, g5, g6, g7, g8, .int 4, g10]))] [] t) (va_A [(a0, .inr (7, [g1, g2, g3, g4, g5, g6, g7, g8, g9, g10]))] sz)) 0 0 (va_A [(a0, .inr (7, [g1, g2, g3, g4, g5, g6, g7, g8, g9, g10]))] sz) := by
  refine Met.ofW (cc := cX10_refused) (maxL := 2) (ret := (some .boolean)) (by decide) rfl ?_
  intro p e s m args below meth c s₁ B hml hv
  obtain ⟨rfl, hsz, hP, hK, hD0, hN⟩ := hv
  have hx := B.exec
  have hb := B.bytes
  have hr := B.returns
  have hts := atoms_spec (ws := vX10_refused_2) B.pre
  have hown : s.vm.findClass RX10 = some m.cls := findClass_of_methodNamed B.named
  have hlocks := B.notSynchronized
  subst hsz
  have hD := hD0.self (sz := s.heap.size)
  generalize hAe : va_A [(a0, .inr (7, [g1, g2, g3, g4, g5, g6, g7, g8, g9, g10]))] s.heap.size = A at hD ⊢
  have hA : ∀ q : Nat, s.heap.size ≤ q → A q := fun q h => by rw [← hAe]; exact Or.inr h
  have hS : va_S A s.heap s.heap [] := va_S.rf
  have hP : va_P (dC, dI) vwCl [(a0, .inr (7, [g1, g2, g3, g4, g5, g6, g7, g8, g9, g10]))] s.heap := hP
  have hl := lv_entry ([.ref a0, .int 4]) (n := 2) (Nat.le_of_ble_eq_true rfl)
  rw [lg_entry_eq]
  generalize (lg_sl ([.ref a0, .int 4]) ++ List.replicate (2 - (lg_sl ([.ref a0, .int 4])).length) Slot.unset).toArray = ls at hl ⊢
  have hl : lv_has ls 2 [(0, .ref a0), (1, .int 4)] := hl
  refine lv_aload_n hx hb dX10_refused_0 rfl (lv_at hl 0 rfl) ?_
  refine lv_iload_n hx hb dX10_refused_1 rfl (lv_at hl 1 rfl) ?_
  refine va_put (D := (dC, dI)) (ci := 7) (v := .int 4) (ty := .int) (C := RX10) (T := TX10) (N := 10) hx hb hts iX10_refused_2_X10 tyX10 tyX10_ok nmX10 hown hK hP hD hS 0 rfl rfl 8 (by decide) (hts (.fieldLink RX10 61 "HookPier" "troubleNow" "I") (List.mem_of_getElem? (i := 1) rfl)) (fun _ h9 => h9) rfl (by decide +kernel) rfl rfl (Nat.le_of_ble_eq_true rfl) dX10_refused_2 (fun H locs hP hD hS => ?_)
  have hP : va_P (dC, dI) vwCl [(a0, .inr (7, [g1, g2, g3, g4, g5, g6, g7, g8, .int 4, g10]))] H := hP
  have hD : va_D A [(a0, .inr (7, [g1, g2, g3, g4, g5, g6, g7, g8, .int 4, g10]))] := hD
  refine lv_iload_n hx hb dX10_refused_5 rfl (lv_at hl 1 rfl) ?_
  refine lv_if_eq (tgt := 13) hx hb dX10_refused_6 (by decide) (fun c1 => absurd c1 (by decide)) (fun _ => ?_)
  refine lv_iconst (v := 1) hx hb dX10_refused_9 (by decide) ?_
  refine lv_goto (tgt := 14) hx hb dX10_refused_10 (by decide) ?_
  have hP9 := hP.sub (ws' := [(a0, .inr (7, [g1, g2, g3, g4, g5, g6, g7, g8, .int 4, g10]))]) [0] rfl
  have hD9 := hD.sub (ws' := [(a0, .inr (7, [g1, g2, g3, g4, g5, g6, g7, g8, .int 4, g10]))]) [0] (by decide) rfl
  have hK9 := hK.sub (tys' := []) [] rfl
  exact W.zret (v := 1) hx hb hr rfl (fun t ht hW => ⟨⟨1, (), rfl, rfl, by rw [ht]; exact hP9, va_K.moved hW.alike hK9, hD9⟩, hS.F ht⟩) hS.2.2 dX10_refused_14
theorem dX10_pier_0 : decode cX10_pier 0 = .ok (.aload_n 0, 1) := by decide +kernel
theorem dX10_pier_1 : decode cX10_pier 1 = .ok (.iload_n 1, 1) := by decide +kernel
theorem dX10_pier_10 : decode cX10_pier 10 = .ok (.invokestatic 75, 3) := by decide +kernel
theorem dX10_pier_13 : decode cX10_pier 13 = .ok (.ifCond .eq 7, 3) := by decide +kernel
theorem dX10_pier_16 : decode cX10_pier 16 = .ok (.iconst 0, 1) := by decide +kernel
theorem dX10_pier_17 : decode cX10_pier 17 = .ok (.goto 4, 3) := by decide +kernel
theorem dX10_pier_2 : decode cX10_pier 2 = .ok (.iconst 0, 1) := by decide +kernel
theorem dX10_pier_20 : decode cX10_pier 20 = .ok (.iconst 2, 1) := by decide +kernel
theorem dX10_pier_21 : decode cX10_pier 21 = .ok (.invokevirtual 79, 3) := by decide +kernel
theorem dX10_pier_24 : decode cX10_pier 24 = .ok (.ifCond .eq 5, 3) := by decide +kernel
theorem dX10_pier_27 : decode cX10_pier 27 = .ok (.iconst (-1), 1) := by decide +kernel
theorem dX10_pier_28 : decode cX10_pier 28 = .ok (.ireturn, 1) := by decide +kernel
theorem dX10_pier_29 : decode cX10_pier 29 = .ok (.aload_n 0, 1) := by decide +kernel
theorem dX10_pier_3 : decode cX10_pier 3 = .ok (.aload_n 0, 1) := by decide +kernel
theorem dX10_pier_30 : decode cX10_pier 30 = .ok (.getfield 22, 3) := by decide +kernel
theorem dX10_pier_33 : decode cX10_pier 33 = .ok (.iload_n 1, 1) := by decide +kernel
theorem dX10_pier_34 : decode cX10_pier 34 = .ok (.aload_n 0, 1) := by decide +kernel
theorem dX10_pier_35 : decode cX10_pier 35 = .ok (.getfield 16, 3) := by decide +kernel
theorem dX10_pier_38 : decode cX10_pier 38 = .ok (.invokevirtual 83, 3) := by decide +kernel
theorem dX10_pier_4 : decode cX10_pier 4 = .ok (.getfield 22, 3) := by decide +kernel
theorem dX10_pier_41 : decode cX10_pier 41 = .ok (.istore_n 2, 1) := by decide +kernel
theorem dX10_pier_42 : decode cX10_pier 42 = .ok (.aload_n 0, 1) := by decide +kernel
theorem dX10_pier_43 : decode cX10_pier 43 = .ok (.aload_n 0, 1) := by decide +kernel
theorem dX10_pier_44 : decode cX10_pier 44 = .ok (.getfield 22, 3) := by decide +kernel
theorem dX10_pier_47 : decode cX10_pier 47 = .ok (.getfield 87, 3) := by decide +kernel
theorem dX10_pier_50 : decode cX10_pier 50 = .ok (.putfield 65, 3) := by decide +kernel
theorem dX10_pier_53 : decode cX10_pier 53 = .ok (.aload_n 0, 1) := by decide +kernel
theorem dX10_pier_54 : decode cX10_pier 54 = .ok (.iload_n 2, 1) := by decide +kernel
theorem dX10_pier_55 : decode cX10_pier 55 = .ok (.ifCond .eq 7, 3) := by decide +kernel
theorem dX10_pier_62 : decode cX10_pier 62 = .ok (.iconst 4, 1) := by decide +kernel
theorem dX10_pier_63 : decode cX10_pier 63 = .ok (.invokevirtual 79, 3) := by decide +kernel
theorem dX10_pier_66 : decode cX10_pier 66 = .ok (.ifCond .eq 5, 3) := by decide +kernel
theorem dX10_pier_69 : decode cX10_pier 69 = .ok (.iconst (-1), 1) := by decide +kernel
theorem dX10_pier_7 : decode cX10_pier 7 = .ok (.getfield 68, 3) := by decide +kernel
theorem dX10_pier_70 : decode cX10_pier 70 = .ok (.ireturn, 1) := by decide +kernel
def vX10_pier : List Cond := .code yX10_pier cX10_pier 4 (some .int) :: ([.fieldLink RX10 22 "HookPier" "reader" "LHookPier$Reader;", .fieldLink RX10 68 "HookPier$Reader" "fed" "I", .methodLink RX10 75 yX10_within, .static yX10_within, .initialized RX10, .code yX10_within cX10_within 3 (some .boolean), .methodLink RX10 79 yX10_refused, .instanceMethod yX10_refused, .selects RX10 yX10_refused yX10_refused, .code yX10_refused cX10_refused 2 (some .boolean), .fieldLink RX10 61 "HookPier" "troubleNow" "I", .fieldLink RX10 16 "HookPier" "spare" "LHookPier$Plan;", .methodLink RX10 83 yX7_read, .instanceMethod yX7_read, .selects RX7 yX7_read yX7_read, .initialized RX7, .code yX7_read cX7_read 4 (some .boolean), .fieldLink RX7 15 "HookPier$Reader" "fed" "I", .methodLink RX7 51 Lib.Math.min.name, .static Lib.Math.min.name, .initialized "java/lang/Math", .code Lib.Math.min.name Lib.Math.min.code 2 (some .int), .fieldLink RX7 19 "HookPier$Reader" "end" "I", .fieldLink RX7 28 "HookPier$Reader" "behind" "I", .fieldLink RX7 42 "HookPier$Reader" "names" "I", .fieldLink RX7 45 "HookPier$Reader" "fault" "I", .fieldLink RX7 48 "HookPier$Reader" "place" "I", .methodLink RX7 57 yX6_clear, .instanceMethod yX6_clear, .selects RX6 yX6_clear yX6_clear, .initialized RX6, .code yX6_clear cX6_clear 1 none, .fieldLink RX6 9 "HookPier$Plan" "spots" "I", .fieldLink RX6 15 "HookPier$Plan" "deep" "I", .fieldLink RX6 24 "HookPier$Plan" "baits" "I", .fieldLink RX6 27 "HookPier$Plan" "askers" "I", .fieldLink RX6 30 "HookPier$Plan" "answers" "I", .fieldLink RX6 33 "HookPier$Plan" "bites" "I", .fieldLink RX6 36 "HookPier$Plan" "darkHunger" "I", .methodLink RX7 62 yX7_advance, .instanceMethod yX7_advance, .selects RX7 yX7_advance yX7_advance, .code yX7_advance cX7_advance 1 none, .fieldLink RX7 25 "HookPier$Reader" "start" "I", .fieldLink RX7 22 "HookPier$Reader" "token" "I", .methodLink RX7 65 yX7_readLine, .instanceMethod yX7_readLine, .selects RX7 yX7_readLine yX7_readLine, .code yX7_readLine cX7_readLine 3 (some .boolean), .methodLink RX7 78 yX7_isWord, .instanceMethod yX7_isWord, .selects RX7 yX7_isWord yX7_isWord, .code yX7_isWord cX7_isWord 3 (some .boolean), .methodLink RX7 72 yX7_fail, .instanceMethod yX7_fail, .selects RX7 yX7_fail yX7_fail, .code yX7_fail cX7_fail 2 (some .boolean), .fieldLink RX10 87 "HookPier$Reader" "fault" "I", .fieldLink RX10 65 "HookPier" "faultNow" "I"] ++ wsX100 ++ wsX70 ++ wsX60)
theorem iX10_pier_X10 : ∀ w ∈ wsX100, w ∈ vX10_pier := fun _ h => List.mem_cons_of_mem _ (List.mem_append_left _ (List.mem_append_left _ (List.mem_append_right _ h)))
theorem iX10_pier_X7 : ∀ w ∈ wsX70, w ∈ vX10_pier := fun _ h => List.mem_cons_of_mem _ (List.mem_append_left _ (List.mem_append_right _ h))
theorem iX10_pier_X6 : ∀ w ∈ wsX60, w ∈ vX10_pier := fun _ h => List.mem_cons_of_mem _ (List.mem_append_right _ h)
set_option maxRecDepth 20000 in
theorem gX10_pier_0 : GoodIn vX10_pier (va_wsS RX10 75 yX10_within vX10_within) := goodIn_app (goodIn_r [.methodLink RX10 75 yX10_within, .static yX10_within, .initialized RX10] [3, 4, 5] (by decide +kernel) (by decide +kernel)) (goodIn_r (.code yX10_within cX10_within 3 (some .boolean) :: []) [6] (by decide +kernel) (by decide +kernel) : GoodIn vX10_pier (.code yX10_within cX10_within 3 (some .boolean) :: []))
set_option maxRecDepth 20000 in
theorem gX10_pier_1 : GoodIn vX10_pier (wsV RX10 79 RX10 yX10_refused vX10_refused) := goodIn_app (goodIn_r [.methodLink RX10 79 yX10_refused, .instanceMethod yX10_refused, .selects RX10 yX10_refused yX10_refused, .initialized RX10] [7, 8, 9, 5] (by decide +kernel) (by decide +kernel)) (goodIn_ca (goodIn_r (.code yX10_refused cX10_refused 2 (some .boolean) :: [.fieldLink RX10 61 "HookPier" "troubleNow" "I"]) [10, 11] (by decide +kernel) (by decide +kernel) : GoodIn vX10_pier (.code yX10_refused cX10_refused 2 (some .boolean) :: [.fieldLink RX10 61 "HookPier" "troubleNow" "I"])) (goodIn_sub iX10_pier_X10 (by decide +kernel)))
set_option maxRecDepth 20000 in
theorem gX10_pier_2 : GoodIn vX10_pier (wsV RX10 79 RX10 yX10_refused vX10_refused_1) := goodIn_app (goodIn_r [.methodLink RX10 79 yX10_refused, .instanceMethod yX10_refused, .selects RX10 yX10_refused yX10_refused, .initialized RX10] [7, 8, 9, 5] (by decide +kernel) (by decide +kernel)) (goodIn_ca (goodIn_r (.code yX10_refused cX10_refused 2 (some .boolean) :: [.fieldLink RX10 61 "HookPier" "troubleNow" "I"]) [10, 11] (by decide +kernel) (by decide +kernel) : GoodIn vX10_pier (.code yX10_refused cX10_refused 2 (some .boolean) :: [.fieldLink RX10 61 "HookPier" "troubleNow" "I"])) (goodIn_sub iX10_pier_X10 (by decide +kernel)))
set_option maxRecDepth 20000 in
theorem gX10_pier_3 : GoodIn vX10_pier (wsV RX10 83 RX7 yX7_read vX7_read) := goodIn_app (goodIn_r [.methodLink RX10 83 yX7_read, .instanceMethod yX7_read, .selects RX7 yX7_read yX7_read, .initialized RX7] [13, 14, 15, 16] (by decide +kernel) (by decide +kernel)) (goodIn_ca (goodIn_ca (goodIn_r (.code yX7_read cX7_read 4 (some .boolean) :: [.fieldLink RX7 15 "HookPier$Reader" "fed" "I", .methodLink RX7 51 Lib.Math.min.name, .static Lib.Math.min.name, .initialized "java/lang/Math", .code Lib.Math.min.name Lib.Math.min.code 2 (some .int), .fieldLink RX7 19 "HookPier$Reader" "end" "I", .fieldLink RX7 28 "HookPier$Reader" "behind" "I", .fieldLink RX7 42 "HookPier$Reader" "names" "I", .fieldLink RX7 45 "HookPier$Reader" "fault" "I", .fieldLink RX7 48 "HookPier$Reader" "place" "I", .methodLink RX7 57 yX6_clear, .instanceMethod yX6_clear, .selects RX6 yX6_clear yX6_clear, .initialized RX6, .code yX6_clear cX6_clear 1 none, .fieldLink RX6 9 "HookPier$Plan" "spots" "I", .fieldLink RX6 15 "HookPier$Plan" "deep" "I", .fieldLink RX6 24 "HookPier$Plan" "baits" "I", .fieldLink RX6 27 "HookPier$Plan" "askers" "I", .fieldLink RX6 30 "HookPier$Plan" "answers" "I", .fieldLink RX6 33 "HookPier$Plan" "bites" "I", .fieldLink RX6 36 "HookPier$Plan" "darkHunger" "I", .methodLink RX7 62 yX7_advance, .instanceMethod yX7_advance, .selects RX7 yX7_advance yX7_advance, .initialized RX7, .code yX7_advance cX7_advance 1 none, .fieldLink RX7 25 "HookPier$Reader" "start" "I", .fieldLink RX7 22 "HookPier$Reader" "token" "I", .methodLink RX7 65 yX7_readLine, .instanceMethod yX7_readLine, .selects RX7 yX7_readLine yX7_readLine, .code yX7_readLine cX7_readLine 3 (some .boolean), .methodLink RX7 78 yX7_isWord, .instanceMethod yX7_isWord, .selects RX7 yX7_isWord yX7_isWord, .code yX7_isWord cX7_isWord 3 (some .boolean), .methodLink RX7 72 yX7_fail, .instanceMethod yX7_fail, .selects RX7 yX7_fail yX7_fail, .code yX7_fail cX7_fail 2 (some .boolean)]) [17, 18, 19, 20, 21, 22, 23, 24, 25, 26, 27, 28, 29, 30, 31, 32, 33, 34, 35, 36, 37, 38, 39, 40, 41, 42, 16, 43, 44, 45, 46, 47, 48, 49, 50, 51, 52, 53, 54, 55, 56, 57] (by decide +kernel) (by decide +kernel) : GoodIn vX10_pier (.code yX7_read cX7_read 4 (some .boolean) :: [.fieldLink RX7 15 "HookPier$Reader" "fed" "I", .methodLink RX7 51 Lib.Math.min.name, .static Lib.Math.min.name, .initialized "java/lang/Math", .code Lib.Math.min.name Lib.Math.min.code 2 (some .int), .fieldLink RX7 19 "HookPier$Reader" "end" "I", .fieldLink RX7 28 "HookPier$Reader" "behind" "I", .fieldLink RX7 42 "HookPier$Reader" "names" "I", .fieldLink RX7 45 "HookPier$Reader" "fault" "I", .fieldLink RX7 48 "HookPier$Reader" "place" "I", .methodLink RX7 57 yX6_clear, .instanceMethod yX6_clear, .selects RX6 yX6_clear yX6_clear, .initialized RX6, .code yX6_clear cX6_clear 1 none, .fieldLink RX6 9 "HookPier$Plan" "spots" "I", .fieldLink RX6 15 "HookPier$Plan" "deep" "I", .fieldLink RX6 24 "HookPier$Plan" "baits" "I", .fieldLink RX6 27 "HookPier$Plan" "askers" "I", .fieldLink RX6 30 "HookPier$Plan" "answers" "I", .fieldLink RX6 33 "HookPier$Plan" "bites" "I", .fieldLink RX6 36 "HookPier$Plan" "darkHunger" "I", .methodLink RX7 62 yX7_advance, .instanceMethod yX7_advance, .selects RX7 yX7_advance yX7_advance, .initialized RX7, .code yX7_advance cX7_advance 1 none, .fieldLink RX7 25 "HookPier$Reader" "start" "I", .fieldLink RX7 22 "HookPier$Reader" "token" "I", .methodLink RX7 65 yX7_readLine, .instanceMethod yX7_readLine, .selects RX7 yX7_readLine yX7_readLine, .code yX7_readLine cX7_readLine 3 (some .boolean), .methodLink RX7 78 yX7_isWord, .instanceMethod yX7_isWord, .selects RX7 yX7_isWord yX7_isWord, .code yX7_isWord cX7_isWord 3 (some .boolean), .methodLink RX7 72 yX7_fail, .instanceMethod yX7_fail, .selects RX7 yX7_fail yX7_fail, .code yX7_fail cX7_fail 2 (some .boolean)])) (goodIn_sub iX10_pier_X7 (by decide +kernel))) (goodIn_sub iX10_pier_X6 (by decide +kernel)))
set_option maxRecDepth 20000 in
theorem gX10_pier_4 : GoodIn vX10_pier (wsV RX10 79 RX10 yX10_refused vX10_refused_2) := goodIn_app (goodIn_r [.methodLink RX10 79 yX10_refused, .instanceMethod yX10_refused, .selects RX10 yX10_refused yX10_refused, .initialized RX10] [7, 8, 9, 5] (by decide +kernel) (by decide +kernel)) (goodIn_ca (goodIn_r (.code yX10_refused cX10_refused 2 (some .boolean) :: [.fieldLink RX10 61 "HookPier" "troubleNow" "I"]) [10, 11] (by decide +kernel) (by decide +kernel) : GoodIn vX10_pier (.code yX10_refused cX10_refused 2 (some .boolean) :: [.fieldLink RX10 61 "HookPier" "troubleNow" "I"])) (goodIn_sub iX10_pier_X10 (by decide +kernel)))
set_option maxHeartbeats 1000000 in
set_option maxRecDepth 100000 in
theorem kX10_pier (l : Launch) (dC : Nat → ClassId) (dI : Nat → Nat → Nat) (a0 : Nat) (k1 : Int32) (a2 : Nat) (a3 : Nat) (g4 : Value) (g5 : Value) (g6 : Value) (g7 : Value) (g8 : Value) (g9 : Value) (g10 : Value) (g11 : Value) (g12 : Value) (g13 : Value) (g14 : Value) (g15 : Value) (g16 : Value) (g17 : Value) (g18 : Value) (g19 : Value) (g20 : Value) (g21 : Value) (g22 : Value) (g23 : Value) (g24 : Value) (g25 : Value) (g26 : Value) (g27 : Value) (g28 : Value) (g29 : Value) (g30 : Value) (g31 : Value) (g32 : Value) (g33 : Value) (g34 : Value) (g35 : Value) (sz : Nat) : Met l yX10_pier vX10_pier ({ frames := 3, cells := 0, slots := 0, locals := 67 }) (PC (dC, dI) [.ref a0, .int k1] sz [(a0, .inr (7, [g4, .ref a2, .ref a3, g5, g6, g7, g8, g9, g10, g11])), (a2, .inr (4, [g12, g13, g14, g15, g16, g17, g18, g19, g20, g21, g22, g23, g24, g25, g26, g27, g28, g29])), (a3, .inr (5, [g30, .int 0, .int 0, .int 0, .int 0, .int 0, g31, g32, g33, g34, .int 0, g35]))] []) (va_Qi (S := Unit) (fun (r : Int32) _ => r = (-1)) (fun _ t => BC (dC, dI) (va_A [(a0, .inr (7, [g4, .ref a2, .ref a3, g5, g6, g7, g8, g9, g10, g11])), (a2, .inr (4, [g12, g13, g14, g15, g16, g17, g18, g19, g20, g21, g22, g23, g24, g25, g26, g27, g28, g29])), (a3, .inr (5, [g30, .int 0, .int 0, .int 0, .int 0, .int 0, g31, g32, g33, g34, .int 0, g35]))] sz) [] [] t) (va_A [(a0, .inr (7, [g4, .ref a2, .ref a3, g5, g6, g7, g8, g9, g10, g11])), (a2, .inr (4, [g12, g13, g14, g15, g16, g17, g18, g19, g20, g21, g22, g23, g24, g25, g26, g27, g28, g29])), (a3, .inr (5, [g30, .int 0, .int 0, .int 0, .int 0, .int 0, g31, g32, g33, g34, .int 0, g35]))] sz)) 0 0 (va_A [(a0, .inr (7, [g4, .ref a2, .ref a3, g5, g6, g7, g8, g9, g10, g11])), (a2, .inr (4, [g12, g13, g14, g15, g16, g17, g18, g19, g20, g21, g22, g23, g24, g25, g26, g27, g28, g29])), (a3, .inr (5, [g30, .int 0, .int 0, .int 0, .int 0, .int 0, g31, g32, g33, g34, .int 0, g35]))] sz) := by
  refine Met.ofW (cc := cX10_pier) (maxL := 4) (ret := (some .int)) (by decide) rfl ?_
  intro p e s m args below meth c s₁ B hml hv
  obtain ⟨rfl, hsz, hP, hK, hD0, hN⟩ := hv
  have hx := B.exec
  have hb := B.bytes
  have hr := B.returns
  have hts := atoms_spec (ws := vX10_pier) B.pre
  have hown : s.vm.findClass RX10 = some m.cls := findClass_of_methodNamed B.named
  have hlocks := B.notSynchronized
  subst hsz
  have hD := hD0.self (sz := s.heap.size)
  generalize hAe : va_A [(a0, .inr (7, [g4, .ref a2, .ref a3, g5, g6, g7, g8, g9, g10, g11])), (a2, .inr (4, [g12, g13, g14, g15, g16, g17, g18, g19, g20, g21, g22, g23, g24, g25, g26, g27, g28, g29])), (a3, .inr (5, [g30, .int 0, .int 0, .int 0, .int 0, .int 0, g31, g32, g33, g34, .int 0, g35]))] s.heap.size = A at hD ⊢
  have hA : ∀ q : Nat, s.heap.size ≤ q → A q := fun q h => by rw [← hAe]; exact Or.inr h
  have hS : va_S A s.heap s.heap [] := va_S.rf
  have hP : va_P (dC, dI) vwCl [(a0, .inr (7, [g4, .ref a2, .ref a3, g5, g6, g7, g8, g9, g10, g11])), (a2, .inr (4, [g12, g13, g14, g15, g16, g17, g18, g19, g20, g21, g22, g23, g24, g25, g26, g27, g28, g29])), (a3, .inr (5, [g30, .int 0, .int 0, .int 0, .int 0, .int 0, g31, g32, g33, g34, .int 0, g35]))] s.heap := hP
  have hl := lv_entry ([.ref a0, .int k1]) (n := 4) (Nat.le_of_ble_eq_true rfl)
  rw [lg_entry_eq]
  generalize (lg_sl ([.ref a0, .int k1]) ++ List.replicate (4 - (lg_sl ([.ref a0, .int k1])).length) Slot.unset).toArray = ls at hl ⊢
  have hl : lv_has ls 4 [(0, .ref a0), (1, .int k1)] := hl
  refine lv_aload_n hx hb dX10_pier_0 rfl (lv_at hl 0 rfl) ?_
  refine lv_iload_n hx hb dX10_pier_1 rfl (lv_at hl 1 rfl) ?_
  refine lv_iconst (v := 0) hx hb dX10_pier_2 (by decide) ?_
  refine lv_aload_n hx hb dX10_pier_3 rfl (lv_at hl 0 rfl) ?_
  refine va_get (D := (dC, dI)) (ci := 7) (v := .ref a3) (C := RX10) (T := TX10) (N := 10) hx hb hts iX10_pier_X10 hown hK hP 0 rfl rfl 2 (by decide) (hts (.fieldLink RX10 22 "HookPier" "reader" "LHookPier$Reader;") (List.mem_of_getElem? (i := 1) rfl)) (fun _ h9 => h9) rfl dX10_pier_4 ?_
  refine va_get (D := (dC, dI)) (ci := 5) (v := .int 0) (C := RX7) (T := TX7) (N := 12) hx hb hts iX10_pier_X7 hown hK hP 2 rfl rfl 1 (by decide) (hts (.fieldLink RX10 68 "HookPier$Reader" "fed" "I") (List.mem_of_getElem? (i := 2) rfl)) (fun _ h9 => h9) rfl dX10_pier_7 ?_
  refine cl_i (wc := []) (wr := [(a0, .inr (7, [g4, .ref a2, .ref a3, g5, g6, g7, g8, g9, g10, g11])), (a2, .inr (4, [g12, g13, g14, g15, g16, g17, g18, g19, g20, g21, g22, g23, g24, g25, g26, g27, g28, g29])), (a3, .inr (5, [g30, .int 0, .int 0, .int 0, .int 0, .int 0, g31, g32, g33, g34, .int 0, g35]))]) (va_runS (As := [.int k1, .int 0, .int 0]) (rest := [.ref a0]) ⟨hx, hb, hml, hown, hts⟩ (kX10_within l dC dI k1 s.heap.size) (va_cwS 3 hts gX10_pier_0 rfl rfl rfl (by decide +kernel) ⟨Nat.le_of_ble_eq_true rfl, Nat.le_of_ble_eq_true rfl⟩) (PS (hP.sub (ws' := []) [] rfl) (hK.sub (tys' := []) [] rfl) (hD.sub (ws' := []) [] (by decide) rfl) hN) rfl rfl hl.1 rfl (lv_room (Nat.le_of_ble_eq_true rfl)) dX10_pier_10 ⟨Nat.le_of_ble_eq_true rfl, Nat.le_of_ble_eq_true rfl⟩) hP hD hK hS hA [] [0, 1, 2] rfl rfl (by decide) (by decide) (fun z1 _u H locs hw hP hD hK hS => ?_)
  have hP : va_P (dC, dI) vwCl [(a0, .inr (7, [g4, .ref a2, .ref a3, g5, g6, g7, g8, g9, g10, g11])), (a2, .inr (4, [g12, g13, g14, g15, g16, g17, g18, g19, g20, g21, g22, g23, g24, g25, g26, g27, g28, g29])), (a3, .inr (5, [g30, .int 0, .int 0, .int 0, .int 0, .int 0, g31, g32, g33, g34, .int 0, g35]))] H := hP
  have hD : va_D A [(a0, .inr (7, [g4, .ref a2, .ref a3, g5, g6, g7, g8, g9, g10, g11])), (a2, .inr (4, [g12, g13, g14, g15, g16, g17, g18, g19, g20, g21, g22, g23, g24, g25, g26, g27, g28, g29])), (a3, .inr (5, [g30, .int 0, .int 0, .int 0, .int 0, .int 0, g31, g32, g33, g34, .int 0, g35]))] := hD
  have hK : va_K (dC, dI) vwCl [] s := hK
  rcases hw with ⟨rfl, h2⟩ | ⟨rfl, h3, h4⟩ | ⟨rfl, h5, h6⟩
  · refine lv_if_eq (tgt := 20) hx hb dX10_pier_13 (by decide) (fun _ => ?_) (fun c7 => absurd c7 (by decide))
    refine lv_iconst (v := 2) hx hb dX10_pier_20 (by decide) ?_
    refine cl_i (wc := [(a0, .inr (7, [g4, .ref a2, .ref a3, g5, g6, g7, g8, g9, g10, g11]))]) (wr := [(a2, .inr (4, [g12, g13, g14, g15, g16, g17, g18, g19, g20, g21, g22, g23, g24, g25, g26, g27, g28, g29])), (a3, .inr (5, [g30, .int 0, .int 0, .int 0, .int 0, .int 0, g31, g32, g33, g34, .int 0, g35]))]) (va_runV (As := [.int 2]) (rest := []) ⟨hx, hb, hml, hown, hts⟩ (kX10_refused l dC dI a0 (g4) (.ref a2) (.ref a3) (g5) (g6) (g7) (g8) (g9) (g10) (g11) H.size) (cwV 1 hts gX10_pier_1 rfl rfl rfl (by decide +kernel) ⟨Nat.le_of_ble_eq_true rfl, Nat.le_of_ble_eq_true rfl⟩) (PV (hP.sub (ws' := [(a0, .inr (7, [g4, .ref a2, .ref a3, g5, g6, g7, g8, g9, g10, g11]))]) [0] rfl) (hK.sub (tys' := []) [] rfl) (hD.sub (ws' := [(a0, .inr (7, [g4, .ref a2, .ref a3, g5, g6, g7, g8, g9, g10, g11]))]) [0] (by decide) rfl) hN 0 rfl rfl) rfl rfl hl.1 rfl (lv_room (Nat.le_of_ble_eq_true rfl)) dX10_pier_21 ⟨Nat.le_of_ble_eq_true rfl, Nat.le_of_ble_eq_true rfl⟩) hP hD hK hS hA [0] [1, 2] rfl rfl (by decide) (by decide) (fun z8 _u H locs hw hP hD hK hS => ?_)
    have hP : va_P (dC, dI) vwCl [(a2, .inr (4, [g12, g13, g14, g15, g16, g17, g18, g19, g20, g21, g22, g23, g24, g25, g26, g27, g28, g29])), (a3, .inr (5, [g30, .int 0, .int 0, .int 0, .int 0, .int 0, g31, g32, g33, g34, .int 0, g35])), (a0, .inr (7, [g4, .ref a2, .ref a3, g5, g6, g7, g8, g9, .int 2, g11]))] H := hP
    have hD : va_D A [(a2, .inr (4, [g12, g13, g14, g15, g16, g17, g18, g19, g20, g21, g22, g23, g24, g25, g26, g27, g28, g29])), (a3, .inr (5, [g30, .int 0, .int 0, .int 0, .int 0, .int 0, g31, g32, g33, g34, .int 0, g35])), (a0, .inr (7, [g4, .ref a2, .ref a3, g5, g6, g7, g8, g9, .int 2, g11]))] := hD
    have hK : va_K (dC, dI) vwCl [] s := hK
    obtain rfl : z8 = 1 := hw
    refine lv_if_eq (tgt := 29) hx hb dX10_pier_24 (by decide) (fun c9 => absurd c9 (by decide)) (fun _ => ?_)
    refine lv_iconst (v := (-1)) hx hb dX10_pier_27 (by decide) ?_
    have hP9 := hP.sub (ws' := []) [] rfl
    have hD9 := hD.sub (ws' := []) [] (by decide) rfl
    have hK9 := hK.sub (tys' := []) [] rfl
    exact W.iret (v := (-1)) hx hb hr (fun t ht hW => ⟨⟨(-1), (), rfl, rfl, by rw [ht]; exact hP9, va_K.moved hW.alike hK9, hD9⟩, hS.F ht⟩) hS.2.2 dX10_pier_28
  · refine lv_if_eq (tgt := 20) hx hb dX10_pier_13 (by decide) (fun _ => ?_) (fun c10 => absurd c10 (by decide))
    refine lv_iconst (v := 2) hx hb dX10_pier_20 (by decide) ?_
    refine cl_i (wc := [(a0, .inr (7, [g4, .ref a2, .ref a3, g5, g6, g7, g8, g9, g10, g11]))]) (wr := [(a2, .inr (4, [g12, g13, g14, g15, g16, g17, g18, g19, g20, g21, g22, g23, g24, g25, g26, g27, g28, g29])), (a3, .inr (5, [g30, .int 0, .int 0, .int 0, .int 0, .int 0, g31, g32, g33, g34, .int 0, g35]))]) (va_runV (As := [.int 2]) (rest := []) ⟨hx, hb, hml, hown, hts⟩ (kX10_refused l dC dI a0 (g4) (.ref a2) (.ref a3) (g5) (g6) (g7) (g8) (g9) (g10) (g11) H.size) (cwV 1 hts gX10_pier_1 rfl rfl rfl (by decide +kernel) ⟨Nat.le_of_ble_eq_true rfl, Nat.le_of_ble_eq_true rfl⟩) (PV (hP.sub (ws' := [(a0, .inr (7, [g4, .ref a2, .ref a3, g5, g6, g7, g8, g9, g10, g11]))]) [0] rfl) (hK.sub (tys' := []) [] rfl) (hD.sub (ws' := [(a0, .inr (7, [g4, .ref a2, .ref a3, g5, g6, g7, g8, g9, g10, g11]))]) [0] (by decide) rfl) hN 0 rfl rfl) rfl rfl hl.1 rfl (lv_room (Nat.le_of_ble_eq_true rfl)) dX10_pier_21 ⟨Nat.le_of_ble_eq_true rfl, Nat.le_of_ble_eq_true rfl⟩) hP hD hK hS hA [0] [1, 2] rfl rfl (by decide) (by decide) (fun z11 _u H locs hw hP hD hK hS => ?_)
    have hP : va_P (dC, dI) vwCl [(a2, .inr (4, [g12, g13, g14, g15, g16, g17, g18, g19, g20, g21, g22, g23, g24, g25, g26, g27, g28, g29])), (a3, .inr (5, [g30, .int 0, .int 0, .int 0, .int 0, .int 0, g31, g32, g33, g34, .int 0, g35])), (a0, .inr (7, [g4, .ref a2, .ref a3, g5, g6, g7, g8, g9, .int 2, g11]))] H := hP
    have hD : va_D A [(a2, .inr (4, [g12, g13, g14, g15, g16, g17, g18, g19, g20, g21, g22, g23, g24, g25, g26, g27, g28, g29])), (a3, .inr (5, [g30, .int 0, .int 0, .int 0, .int 0, .int 0, g31, g32, g33, g34, .int 0, g35])), (a0, .inr (7, [g4, .ref a2, .ref a3, g5, g6, g7, g8, g9, .int 2, g11]))] := hD
    have hK : va_K (dC, dI) vwCl [] s := hK
    obtain rfl : z11 = 1 := hw
    refine lv_if_eq (tgt := 29) hx hb dX10_pier_24 (by decide) (fun c12 => absurd c12 (by decide)) (fun _ => ?_)
    refine lv_iconst (v := (-1)) hx hb dX10_pier_27 (by decide) ?_
    have hP9 := hP.sub (ws' := []) [] rfl
    have hD9 := hD.sub (ws' := []) [] (by decide) rfl
    have hK9 := hK.sub (tys' := []) [] rfl
    exact W.iret (v := (-1)) hx hb hr (fun t ht hW => ⟨⟨(-1), (), rfl, rfl, by rw [ht]; exact hP9, va_K.moved hW.alike hK9, hD9⟩, hS.F ht⟩) hS.2.2 dX10_pier_28
  · obtain rfl : k1 = 0 := (by simp only [fa_lt, fa_le, fa_eq, ltv_0] at h5 h6 ⊢; omega)
    refine lv_if_eq (tgt := 20) hx hb dX10_pier_13 (by decide) (fun c13 => absurd c13 (by decide)) (fun _ => ?_)
    refine lv_iconst (v := 0) hx hb dX10_pier_16 (by decide) ?_
    refine lv_goto (tgt := 21) hx hb dX10_pier_17 (by decide) ?_
    refine cl_i (wc := [(a0, .inr (7, [g4, .ref a2, .ref a3, g5, g6, g7, g8, g9, g10, g11]))]) (wr := [(a2, .inr (4, [g12, g13, g14, g15, g16, g17, g18, g19, g20, g21, g22, g23, g24, g25, g26, g27, g28, g29])), (a3, .inr (5, [g30, .int 0, .int 0, .int 0, .int 0, .int 0, g31, g32, g33, g34, .int 0, g35]))]) (va_runV (As := [.int 0]) (rest := []) ⟨hx, hb, hml, hown, hts⟩ (kX10_refused_1 l dC dI a0 (g4) (.ref a2) (.ref a3) (g5) (g6) (g7) (g8) (g9) (g10) (g11) H.size) (cwV 1 hts gX10_pier_2 rfl rfl rfl (by decide +kernel) ⟨Nat.le_of_ble_eq_true rfl, Nat.le_of_ble_eq_true rfl⟩) (PV (hP.sub (ws' := [(a0, .inr (7, [g4, .ref a2, .ref a3, g5, g6, g7, g8, g9, g10, g11]))]) [0] rfl) (hK.sub (tys' := []) [] rfl) (hD.sub (ws' := [(a0, .inr (7, [g4, .ref a2, .ref a3, g5, g6, g7, g8, g9, g10, g11]))]) [0] (by decide) rfl) hN 0 rfl rfl) rfl rfl hl.1 rfl (lv_room (Nat.le_of_ble_eq_true rfl)) dX10_pier_21 ⟨Nat.le_of_ble_eq_true rfl, Nat.le_of_ble_eq_true rfl⟩) hP hD hK hS hA [0] [1, 2] rfl rfl (by decide) (by decide) (fun z14 _u H locs hw hP hD hK hS => ?_)
    have hP : va_P (dC, dI) vwCl [(a2, .inr (4, [g12, g13, g14, g15, g16, g17, g18, g19, g20, g21, g22, g23, g24, g25, g26, g27, g28, g29])), (a3, .inr (5, [g30, .int 0, .int 0, .int 0, .int 0, .int 0, g31, g32, g33, g34, .int 0, g35])), (a0, .inr (7, [g4, .ref a2, .ref a3, g5, g6, g7, g8, g9, .int 0, g11]))] H := hP
    have hD : va_D A [(a2, .inr (4, [g12, g13, g14, g15, g16, g17, g18, g19, g20, g21, g22, g23, g24, g25, g26, g27, g28, g29])), (a3, .inr (5, [g30, .int 0, .int 0, .int 0, .int 0, .int 0, g31, g32, g33, g34, .int 0, g35])), (a0, .inr (7, [g4, .ref a2, .ref a3, g5, g6, g7, g8, g9, .int 0, g11]))] := hD
    have hK : va_K (dC, dI) vwCl [] s := hK
    obtain rfl : z14 = 0 := hw
    refine lv_if_eq (tgt := 29) hx hb dX10_pier_24 (by decide) (fun _ => ?_) (fun c15 => absurd c15 (by decide))
    refine lv_aload_n hx hb dX10_pier_29 rfl (lv_at hl 0 rfl) ?_
    refine va_get (D := (dC, dI)) (ci := 7) (v := .ref a3) (C := RX10) (T := TX10) (N := 10) hx hb hts iX10_pier_X10 hown hK hP 2 rfl rfl 2 (by decide) (hts (.fieldLink RX10 22 "HookPier" "reader" "LHookPier$Reader;") (List.mem_of_getElem? (i := 1) rfl)) (fun _ h9 => h9) rfl dX10_pier_30 ?_
    refine lv_iload_n hx hb dX10_pier_33 rfl (lv_at hl 1 rfl) ?_
    refine lv_aload_n hx hb dX10_pier_34 rfl (lv_at hl 0 rfl) ?_
    refine va_get (D := (dC, dI)) (ci := 7) (v := .ref a2) (C := RX10) (T := TX10) (N := 10) hx hb hts iX10_pier_X10 hown hK hP 2 rfl rfl 1 (by decide) (hts (.fieldLink RX10 16 "HookPier" "spare" "LHookPier$Plan;") (List.mem_of_getElem? (i := 12) rfl)) (fun _ h9 => h9) rfl dX10_pier_35 ?_
    refine cl_i (wc := [(a3, .inr (5, [g30, .int 0, .int 0, .int 0, .int 0, .int 0, g31, g32, g33, g34, .int 0, g35])), (a2, .inr (4, [g12, g13, g14, g15, g16, g17, g18, g19, g20, g21, g22, g23, g24, g25, g26, g27, g28, g29]))]) (wr := [(a0, .inr (7, [g4, .ref a2, .ref a3, g5, g6, g7, g8, g9, .int 0, g11]))]) (va_runV (As := [.int 0, .ref a2]) (rest := []) ⟨hx, hb, hml, hown, hts⟩ (kX7_read l dC dI a3 a2 (g30) (g31) (g32) (g33) (g34) (.int 0) (g35) (g12) (g13) (g14) (g15) (g16) (g17) (g18) (g19) (g20) (g21) (g22) (g23) (g24) (g25) (g26) (g27) (g28) (g29) H.size) (cwV 2 hts gX10_pier_3 rfl rfl rfl (by decide +kernel) ⟨Nat.le_of_ble_eq_true rfl, Nat.le_of_ble_eq_true rfl⟩) (PV (hP.sub (ws' := [(a3, .inr (5, [g30, .int 0, .int 0, .int 0, .int 0, .int 0, g31, g32, g33, g34, .int 0, g35])), (a2, .inr (4, [g12, g13, g14, g15, g16, g17, g18, g19, g20, g21, g22, g23, g24, g25, g26, g27, g28, g29]))]) [1, 0] rfl) (hK.sub (tys' := []) [] rfl) (hD.sub (ws' := [(a3, .inr (5, [g30, .int 0, .int 0, .int 0, .int 0, .int 0, g31, g32, g33, g34, .int 0, g35])), (a2, .inr (4, [g12, g13, g14, g15, g16, g17, g18, g19, g20, g21, g22, g23, g24, g25, g26, g27, g28, g29]))]) [1, 0] (by decide) rfl) hN 0 rfl rfl) rfl rfl hl.1 rfl (lv_room (Nat.le_of_ble_eq_true rfl)) dX10_pier_38 ⟨Nat.le_of_ble_eq_true rfl, Nat.le_of_ble_eq_true rfl⟩) hP hD hK hS hA [1, 0] [2] rfl rfl (by decide) (by decide) (fun z16 _u H locs hw hP hD hK hS => ?_)
    have hP : va_P (dC, dI) vwCl [(a0, .inr (7, [g4, .ref a2, .ref a3, g5, g6, g7, g8, g9, .int 0, g11])), (a3, .inr (5, [g30, .int 0, .int 0, .int 0, .int 0, .int 0, g31, g32, g33, .int 0, .int 1, .int 0])), (a2, .inr (4, [.int 0, .int 0, g14, g15, .int 0, .int 0, .int 0, .int 0, .int (-1), g21, g22, g23, g24, g25, g26, g27, g28, g29]))] H := hP
    have hD : va_D A [(a0, .inr (7, [g4, .ref a2, .ref a3, g5, g6, g7, g8, g9, .int 0, g11])), (a3, .inr (5, [g30, .int 0, .int 0, .int 0, .int 0, .int 0, g31, g32, g33, .int 0, .int 1, .int 0])), (a2, .inr (4, [.int 0, .int 0, g14, g15, .int 0, .int 0, .int 0, .int 0, .int (-1), g21, g22, g23, g24, g25, g26, g27, g28, g29]))] := hD
    have hK : va_K (dC, dI) vwCl [] s := hK
    obtain rfl : z16 = 0 := hw
    refine lv_istore_n (lv' := [(2, .int 0), (0, .ref a0), (1, .int 0)]) hx hb dX10_pier_41 rfl hl (by decide) rfl (fun ls hl => ?_)
    refine lv_aload_n hx hb dX10_pier_42 rfl (lv_at hl 1 rfl) ?_
    refine lv_aload_n hx hb dX10_pier_43 rfl (lv_at hl 1 rfl) ?_
    refine va_get (D := (dC, dI)) (ci := 7) (v := .ref a3) (C := RX10) (T := TX10) (N := 10) hx hb hts iX10_pier_X10 hown hK hP 0 rfl rfl 2 (by decide) (hts (.fieldLink RX10 22 "HookPier" "reader" "LHookPier$Reader;") (List.mem_of_getElem? (i := 1) rfl)) (fun _ h9 => h9) rfl dX10_pier_44 ?_
    refine va_get (D := (dC, dI)) (ci := 5) (v := .int 1) (C := RX7) (T := TX7) (N := 12) hx hb hts iX10_pier_X7 hown hK hP 1 rfl rfl 10 (by decide) (hts (.fieldLink RX10 87 "HookPier$Reader" "fault" "I") (List.mem_of_getElem? (i := 58) rfl)) (fun _ h9 => h9) rfl dX10_pier_47 ?_
    refine va_put (D := (dC, dI)) (ci := 7) (v := .int 1) (ty := .int) (C := RX10) (T := TX10) (N := 10) hx hb hts iX10_pier_X10 tyX10 tyX10_ok nmX10 hown hK hP hD hS 0 rfl rfl 9 (by decide) (hts (.fieldLink RX10 65 "HookPier" "faultNow" "I") (List.mem_of_getElem? (i := 59) rfl)) (fun _ h9 => h9) rfl (by decide +kernel) rfl rfl (Nat.le_of_ble_eq_true rfl) dX10_pier_50 (fun H locs hP hD hS => ?_)
    have hP : va_P (dC, dI) vwCl [(a0, .inr (7, [g4, .ref a2, .ref a3, g5, g6, g7, g8, g9, .int 0, .int 1])), (a3, .inr (5, [g30, .int 0, .int 0, .int 0, .int 0, .int 0, g31, g32, g33, .int 0, .int 1, .int 0])), (a2, .inr (4, [.int 0, .int 0, g14, g15, .int 0, .int 0, .int 0, .int 0, .int (-1), g21, g22, g23, g24, g25, g26, g27, g28, g29]))] H := hP
    have hD : va_D A [(a0, .inr (7, [g4, .ref a2, .ref a3, g5, g6, g7, g8, g9, .int 0, .int 1])), (a3, .inr (5, [g30, .int 0, .int 0, .int 0, .int 0, .int 0, g31, g32, g33, .int 0, .int 1, .int 0])), (a2, .inr (4, [.int 0, .int 0, g14, g15, .int 0, .int 0, .int 0, .int 0, .int (-1), g21, g22, g23, g24, g25, g26, g27, g28, g29]))] := hD
    refine lv_aload_n hx hb dX10_pier_53 rfl (lv_at hl 1 rfl) ?_
    refine lv_iload_n hx hb dX10_pier_54 rfl (lv_at hl 0 rfl) ?_
    refine lv_if_eq (tgt := 62) hx hb dX10_pier_55 (by decide) (fun _ => ?_) (fun c17 => absurd c17 (by decide))
    refine lv_iconst (v := 4) hx hb dX10_pier_62 (by decide) ?_
    refine cl_i (wc := [(a0, .inr (7, [g4, .ref a2, .ref a3, g5, g6, g7, g8, g9, .int 0, .int 1]))]) (wr := [(a3, .inr (5, [g30, .int 0, .int 0, .int 0, .int 0, .int 0, g31, g32, g33, .int 0, .int 1, .int 0])), (a2, .inr (4, [.int 0, .int 0, g14, g15, .int 0, .int 0, .int 0, .int 0, .int (-1), g21, g22, g23, g24, g25, g26, g27, g28, g29]))]) (va_runV (As := [.int 4]) (rest := []) ⟨hx, hb, hml, hown, hts⟩ (kX10_refused_2 l dC dI a0 (g4) (.ref a2) (.ref a3) (g5) (g6) (g7) (g8) (g9) (.int 0) (.int 1) H.size) (cwV 1 hts gX10_pier_4 rfl rfl rfl (by decide +kernel) ⟨Nat.le_of_ble_eq_true rfl, Nat.le_of_ble_eq_true rfl⟩) (PV (hP.sub (ws' := [(a0, .inr (7, [g4, .ref a2, .ref a3, g5, g6, g7, g8, g9, .int 0, .int 1]))]) [0] rfl) (hK.sub (tys' := []) [] rfl) (hD.sub (ws' := [(a0, .inr (7, [g4, .ref a2, .ref a3, g5, g6, g7, g8, g9, .int 0, .int 1]))]) [0] (by decide) rfl) hN 0 rfl rfl) rfl rfl hl.1 rfl (lv_room (Nat.le_of_ble_eq_true rfl)) dX10_pier_63 ⟨Nat.le_of_ble_eq_true rfl, Nat.le_of_ble_eq_true rfl⟩) hP hD hK hS hA [0] [1, 2] rfl rfl (by decide) (by decide) (fun z18 _u H locs hw hP hD hK hS => ?_)
    have hP : va_P (dC, dI) vwCl [(a3, .inr (5, [g30, .int 0, .int 0, .int 0, .int 0, .int 0, g31, g32, g33, .int 0, .int 1, .int 0])), (a2, .inr (4, [.int 0, .int 0, g14, g15, .int 0, .int 0, .int 0, .int 0, .int (-1), g21, g22, g23, g24, g25, g26, g27, g28, g29])), (a0, .inr (7, [g4, .ref a2, .ref a3, g5, g6, g7, g8, g9, .int 4, .int 1]))] H := hP
    have hD : va_D A [(a3, .inr (5, [g30, .int 0, .int 0, .int 0, .int 0, .int 0, g31, g32, g33, .int 0, .int 1, .int 0])), (a2, .inr (4, [.int 0, .int 0, g14, g15, .int 0, .int 0, .int 0, .int 0, .int (-1), g21, g22, g23, g24, g25, g26, g27, g28, g29])), (a0, .inr (7, [g4, .ref a2, .ref a3, g5, g6, g7, g8, g9, .int 4, .int 1]))] := hD
    have hK : va_K (dC, dI) vwCl [] s := hK
    obtain rfl : z18 = 1 := hw
    refine lv_if_eq (tgt := 71) hx hb dX10_pier_66 (by decide) (fun c19 => absurd c19 (by decide)) (fun _ => ?_)
    refine lv_iconst (v := (-1)) hx hb dX10_pier_69 (by decide) ?_
    have hP9 := hP.sub (ws' := []) [] rfl
    have hD9 := hD.sub (ws' := []) [] (by decide) rfl
    have hK9 := hK.sub (tys' := []) [] rfl
    exact W.iret (v := (-1)) hx hb hr (fun t ht hW => ⟨⟨(-1), (), rfl, rfl, by rw [ht]; exact hP9, va_K.moved hW.alike hK9, hD9⟩, hS.F ht⟩) hS.2.2 dX10_pier_70
theorem dX12_refused_0 : decode cX12_refused 0 = .ok (.aload_n 0, 1) := by decide +kernel
theorem dX12_refused_1 : decode cX12_refused 1 = .ok (.iload_n 1, 1) := by decide +kernel
theorem dX12_refused_10 : decode cX12_refused 10 = .ok (.iconst (-1), 1) := by decide +kernel
theorem dX12_refused_11 : decode cX12_refused 11 = .ok (.ireturn, 1) := by decide +kernel
theorem dX12_refused_2 : decode cX12_refused 2 = .ok (.putfield 39, 3) := by decide +kernel
theorem dX12_refused_5 : decode cX12_refused 5 = .ok (.aload_n 0, 1) := by decide +kernel
theorem dX12_refused_6 : decode cX12_refused 6 = .ok (.iconst (-1), 1) := by decide +kernel
theorem dX12_refused_7 : decode cX12_refused 7 = .ok (.putfield 9, 3) := by decide +kernel
def vX12_refused : List Cond := .code yX12_refused cX12_refused 2 (some .int) :: ([.fieldLink RX12 39 "HookPierModel" "trouble" "I", .fieldLink RX12 9 "HookPierModel" "where" "I"] ++ wsX120)
theorem iX12_refused_X12 : ∀ w ∈ wsX120, w ∈ vX12_refused := fun _ h => List.mem_cons_of_mem _ (List.mem_append_right _ h)
set_option maxHeartbeats 1000000 in
set_option maxRecDepth 100000 in
theorem kX12_refused (l : Launch) (dC : Nat → ClassId) (dI : Nat → Nat → Nat) (a0 : Nat) (g1 : Value) (g2 : Value) (g3 : Value) (g4 : Value) (g5 : Value) (g6 : Value) (g7 : Value) (g8 : Value) (g9 : Value) (g10 : Value) (g11 : Value) (g12 : Value) (g13 : Value) (g14 : Value) (g15 : Value) (g16 : Value) (g17 : Value) (g18 : Value) (g19 : Value) (g20 : Value) (g21 : Value) (g22 : Value) (g23 : Value) (g24 : Value) (g25 : Value) (g26 : Value) (g27 : Value) (g28 : Value) (g29 : Value) (g30 : Value) (sz : Nat) : Met l yX12_refused vX12_refused ({ frames := 0, cells := 0, slots := 0, locals := 0 }) (PC (dC, dI) [.ref a0, .int 2] sz [(a0, .inr (9, [g1, g2, g3, g4, g5, g6, g7, g8, g9, g10, g11, g12, g13, g14, g15, g16, g17, g18, g19, g20, g21, g22, g23, g24, g25, g26, g27, g28, g29, g30]))] []) (va_Qi (S := Unit) (fun (r : Int32) _ => r = (-1)) (fun _ t => BC (dC, dI) (va_A [(a0, .inr (9, [g1, g2, g3, g4, g5, g6, g7, g8, g9, g10, g11, g12, g13, g14, g15, g16, g17, g18, g19, g20, g21, g22, g23, g24, g25, g26, g27, g28, g29, g30]))] sz) [(a0, .inr (9, [g1, .int 2, .int (-1), g4, g5, g6, g7, g8, g9, g10, g11, g12, g13, g14, g15, g16, g17, g18, g19, g20, g21, g22, g23, g24, g25, g26, g27, g28, g29, g30]))] [] t) (va_A [(a0, .inr (9, [g1, g2, g3, g4, g5, g6, g7, g8, g9, g10, g11, g12, g13, g14, g15, g16, g17, g18, g19, g20, g21, g22, g23, g24, g25, g26, g27, g28, g29, g30]))] sz)) 0 0 (va_A [(a0, .inr (9, [g1, g2, g3, g4, g5, g6, g7, g8, g9, g10, g11, g12, g13, g14, g15, g16, g17, g18, g19, g20, g21, g22, g23, g24, g25, g26, g27, g28, g29, g30]))] sz) := by
  refine Met.ofW (cc := cX12_refused) (maxL := 2) (ret := (some .int)) (by decide) rfl ?_
  intro p e s m args below meth c s₁ B hml hv
  obtain ⟨rfl, hsz, hP, hK, hD0, hN⟩ := hv
  have hx := B.exec
  have hb := B.bytes
  have hr := B.returns
  have hts := atoms_spec (ws := vX12_refused) B.pre
  have hown : s.vm.findClass RX12 = some m.cls := findClass_of_methodNamed B.named
  have hlocks := B.notSynchronized
  subst hsz
  have hD := hD0.self (sz := s.heap.size)
  generalize hAe : va_A [(a0, .inr (9, [g1, g2, g3, g4, g5, g6, g7, g8, g9, g10, g11, g12, g13, g14, g15, g16, g17, g18, g19, g20, g21, g22, g23, g24, g25, g26, g27, g28, g29, g30]))] s.heap.size = A at hD ⊢
  have hA : ∀ q : Nat, s.heap.size ≤ q → A q := fun q h => by rw [← hAe]; exact Or.inr h
  have hS : va_S A s.heap s.heap [] := va_S.rf
  have hP : va_P (dC, dI) vwCl [(a0, .inr (9, [g1, g2, g3, g4, g5, g6, g7, g8, g9, g10, g11, g12, g13, g14, g15, g16, g17, g18, g19, g20, g21, g22, g23, g24, g25, g26, g27, g28, g29, g30]))] s.heap := hP
  have hl := lv_entry ([.ref a0, .int 2]) (n := 2) (Nat.le_of_ble_eq_true rfl)
  rw [lg_entry_eq]
  generalize (lg_sl ([.ref a0, .int 2]) ++ List.replicate (2 - (lg_sl ([.ref a0, .int 2])).length) Slot.unset).toArray = ls at hl ⊢
  have hl : lv_has ls 2 [(0, .ref a0), (1, .int 2)] := hl
  refine lv_aload_n hx hb dX12_refused_0 rfl (lv_at hl 0 rfl) ?_
  refine lv_iload_n hx hb dX12_refused_1 rfl (lv_at hl 1 rfl) ?_
  refine va_put (D := (dC, dI)) (ci := 9) (v := .int 2) (ty := .int) (C := RX12) (T := TX12) (N := 30) hx hb hts iX12_refused_X12 tyX12 tyX12_ok nmX12 hown hK hP hD hS 0 rfl rfl 1 (by decide) (hts (.fieldLink RX12 39 "HookPierModel" "trouble" "I") (List.mem_of_getElem? (i := 1) rfl)) (fun _ h9 => h9) rfl (by decide +kernel) rfl rfl (Nat.le_of_ble_eq_true rfl) dX12_refused_2 (fun H locs hP hD hS => ?_)
  have hP : va_P (dC, dI) vwCl [(a0, .inr (9, [g1, .int 2, g3, g4, g5, g6, g7, g8, g9, g10, g11, g12, g13, g14, g15, g16, g17, g18, g19, g20, g21, g22, g23, g24, g25, g26, g27, g28, g29, g30]))] H := hP
  have hD : va_D A [(a0, .inr (9, [g1, .int 2, g3, g4, g5, g6, g7, g8, g9, g10, g11, g12, g13, g14, g15, g16, g17, g18, g19, g20, g21, g22, g23, g24, g25, g26, g27, g28, g29, g30]))] := hD
  refine lv_aload_n hx hb dX12_refused_5 rfl (lv_at hl 0 rfl) ?_
  refine lv_iconst (v := (-1)) hx hb dX12_refused_6 (by decide) ?_
  refine va_put (D := (dC, dI)) (ci := 9) (v := .int (-1)) (ty := .int) (C := RX12) (T := TX12) (N := 30) hx hb hts iX12_refused_X12 tyX12 tyX12_ok nmX12 hown hK hP hD hS 0 rfl rfl 2 (by decide) (hts (.fieldLink RX12 9 "HookPierModel" "where" "I") (List.mem_of_getElem? (i := 2) rfl)) (fun _ h9 => h9) rfl (by decide +kernel) rfl rfl (Nat.le_of_ble_eq_true rfl) dX12_refused_7 (fun H locs hP hD hS => ?_)
  have hP : va_P (dC, dI) vwCl [(a0, .inr (9, [g1, .int 2, .int (-1), g4, g5, g6, g7, g8, g9, g10, g11, g12, g13, g14, g15, g16, g17, g18, g19, g20, g21, g22, g23, g24, g25, g26, g27, g28, g29, g30]))] H := hP
  have hD : va_D A [(a0, .inr (9, [g1, .int 2, .int (-1), g4, g5, g6, g7, g8, g9, g10, g11, g12, g13, g14, g15, g16, g17, g18, g19, g20, g21, g22, g23, g24, g25, g26, g27, g28, g29, g30]))] := hD
  refine lv_iconst (v := (-1)) hx hb dX12_refused_10 (by decide) ?_
  have hP9 := hP.sub (ws' := [(a0, .inr (9, [g1, .int 2, .int (-1), g4, g5, g6, g7, g8, g9, g10, g11, g12, g13, g14, g15, g16, g17, g18, g19, g20, g21, g22, g23, g24, g25, g26, g27, g28, g29, g30]))]) [0] rfl
  have hD9 := hD.sub (ws' := [(a0, .inr (9, [g1, .int 2, .int (-1), g4, g5, g6, g7, g8, g9, g10, g11, g12, g13, g14, g15, g16, g17, g18, g19, g20, g21, g22, g23, g24, g25, g26, g27, g28, g29, g30]))]) [0] (by decide) rfl
  have hK9 := hK.sub (tys' := []) [] rfl
  exact W.iret (v := (-1)) hx hb hr (fun t ht hW => ⟨⟨(-1), (), rfl, rfl, by rw [ht]; exact hP9, va_K.moved hW.alike hK9, hD9⟩, hS.F ht⟩) hS.2.2 dX12_refused_11
theorem dX11_init_0 : decode cX11_init 0 = .ok (.aload_n 0, 1) := by decide +kernel
theorem dX11_init_1 : decode cX11_init 1 = .ok (.invokespecial 3, 3) := by decide +kernel
theorem dX11_init_10 : decode cX11_init 10 = .ok (.iconst 5, 1) := by decide +kernel
theorem dX11_init_101 : decode cX11_init 101 = .ok (.putfield 49, 3) := by decide +kernel
theorem dX11_init_104 : decode cX11_init 104 = .ok (.aload_n 0, 1) := by decide +kernel
theorem dX11_init_105 : decode cX11_init 105 = .ok (.bipush 15, 2) := by decide +kernel
theorem dX11_init_107 : decode cX11_init 107 = .ok (.newarray .int, 2) := by decide +kernel
theorem dX11_init_109 : decode cX11_init 109 = .ok (.putfield 53, 3) := by decide +kernel
theorem dX11_init_11 : decode cX11_init 11 = .ok (.newarray .int, 2) := by decide +kernel
theorem dX11_init_112 : decode cX11_init 112 = .ok (.aload_n 0, 1) := by decide +kernel
theorem dX11_init_113 : decode cX11_init 113 = .ok (.bipush 15, 2) := by decide +kernel
theorem dX11_init_115 : decode cX11_init 115 = .ok (.newarray .int, 2) := by decide +kernel
theorem dX11_init_117 : decode cX11_init 117 = .ok (.putfield 56, 3) := by decide +kernel
theorem dX11_init_120 : decode cX11_init 120 = .ok (.return_, 1) := by decide +kernel
theorem dX11_init_13 : decode cX11_init 13 = .ok (.putfield 15, 3) := by decide +kernel
theorem dX11_init_16 : decode cX11_init 16 = .ok (.aload_n 0, 1) := by decide +kernel
theorem dX11_init_17 : decode cX11_init 17 = .ok (.bipush 6, 2) := by decide +kernel
theorem dX11_init_19 : decode cX11_init 19 = .ok (.newarray .int, 2) := by decide +kernel
theorem dX11_init_21 : decode cX11_init 21 = .ok (.putfield 19, 3) := by decide +kernel
theorem dX11_init_24 : decode cX11_init 24 = .ok (.aload_n 0, 1) := by decide +kernel
theorem dX11_init_25 : decode cX11_init 25 = .ok (.bipush 6, 2) := by decide +kernel
theorem dX11_init_27 : decode cX11_init 27 = .ok (.newarray .int, 2) := by decide +kernel
theorem dX11_init_29 : decode cX11_init 29 = .ok (.putfield 22, 3) := by decide +kernel
theorem dX11_init_32 : decode cX11_init 32 = .ok (.aload_n 0, 1) := by decide +kernel
theorem dX11_init_33 : decode cX11_init 33 = .ok (.bipush 6, 2) := by decide +kernel
theorem dX11_init_35 : decode cX11_init 35 = .ok (.newarray .int, 2) := by decide +kernel
theorem dX11_init_37 : decode cX11_init 37 = .ok (.putfield 25, 3) := by decide +kernel
theorem dX11_init_4 : decode cX11_init 4 = .ok (.aload_n 0, 1) := by decide +kernel
theorem dX11_init_40 : decode cX11_init 40 = .ok (.aload_n 0, 1) := by decide +kernel
theorem dX11_init_41 : decode cX11_init 41 = .ok (.bipush 6, 2) := by decide +kernel
theorem dX11_init_43 : decode cX11_init 43 = .ok (.newarray .int, 2) := by decide +kernel
theorem dX11_init_45 : decode cX11_init 45 = .ok (.putfield 28, 3) := by decide +kernel
theorem dX11_init_48 : decode cX11_init 48 = .ok (.aload_n 0, 1) := by decide +kernel
theorem dX11_init_49 : decode cX11_init 49 = .ok (.bipush 6, 2) := by decide +kernel
theorem dX11_init_5 : decode cX11_init 5 = .ok (.iconst (-1), 1) := by decide +kernel
theorem dX11_init_51 : decode cX11_init 51 = .ok (.newarray .int, 2) := by decide +kernel
theorem dX11_init_53 : decode cX11_init 53 = .ok (.putfield 31, 3) := by decide +kernel
theorem dX11_init_56 : decode cX11_init 56 = .ok (.aload_n 0, 1) := by decide +kernel
theorem dX11_init_57 : decode cX11_init 57 = .ok (.bipush 6, 2) := by decide +kernel
theorem dX11_init_59 : decode cX11_init 59 = .ok (.newarray .int, 2) := by decide +kernel
theorem dX11_init_6 : decode cX11_init 6 = .ok (.putfield 9, 3) := by decide +kernel
theorem dX11_init_61 : decode cX11_init 61 = .ok (.putfield 34, 3) := by decide +kernel
theorem dX11_init_64 : decode cX11_init 64 = .ok (.aload_n 0, 1) := by decide +kernel
theorem dX11_init_65 : decode cX11_init 65 = .ok (.bipush 6, 2) := by decide +kernel
theorem dX11_init_67 : decode cX11_init 67 = .ok (.newarray .int, 2) := by decide +kernel
theorem dX11_init_69 : decode cX11_init 69 = .ok (.putfield 37, 3) := by decide +kernel
theorem dX11_init_72 : decode cX11_init 72 = .ok (.aload_n 0, 1) := by decide +kernel
theorem dX11_init_73 : decode cX11_init 73 = .ok (.bipush 6, 2) := by decide +kernel
theorem dX11_init_75 : decode cX11_init 75 = .ok (.newarray .int, 2) := by decide +kernel
theorem dX11_init_77 : decode cX11_init 77 = .ok (.putfield 40, 3) := by decide +kernel
theorem dX11_init_80 : decode cX11_init 80 = .ok (.aload_n 0, 1) := by decide +kernel
theorem dX11_init_81 : decode cX11_init 81 = .ok (.bipush 6, 2) := by decide +kernel
theorem dX11_init_83 : decode cX11_init 83 = .ok (.newarray .int, 2) := by decide +kernel
theorem dX11_init_85 : decode cX11_init 85 = .ok (.putfield 43, 3) := by decide +kernel
theorem dX11_init_88 : decode cX11_init 88 = .ok (.aload_n 0, 1) := by decide +kernel
theorem dX11_init_89 : decode cX11_init 89 = .ok (.bipush 6, 2) := by decide +kernel
theorem dX11_init_9 : decode cX11_init 9 = .ok (.aload_n 0, 1) := by decide +kernel
theorem dX11_init_91 : decode cX11_init 91 = .ok (.newarray .int, 2) := by decide +kernel
theorem dX11_init_93 : decode cX11_init 93 = .ok (.putfield 46, 3) := by decide +kernel
theorem dX11_init_96 : decode cX11_init 96 = .ok (.aload_n 0, 1) := by decide +kernel
theorem dX11_init_97 : decode cX11_init 97 = .ok (.bipush 15, 2) := by decide +kernel
theorem dX11_init_99 : decode cX11_init 99 = .ok (.newarray .long, 2) := by decide +kernel
def vX11_init : List Cond := .code yX11_init cX11_init 1 none :: ([.methodLink RX11 3 objectInit, .instanceMethod objectInit, .code objectInit ⟨#[0xb1]⟩ 1 none, .fieldLink RX11 9 "HookPierModel$Pier" "dark" "I", .arrayClass .int, .fieldLink RX11 15 "HookPierModel$Pier" "reach" "[I", .fieldLink RX11 19 "HookPierModel$Pier" "kind" "[I", .fieldLink RX11 22 "HookPierModel$Pier" "spot" "[I", .fieldLink RX11 25 "HookPierModel$Pier" "depth" "[I", .fieldLink RX11 28 "HookPierModel$Pier" "hunger" "[I", .fieldLink RX11 31 "HookPierModel$Pier" "likes" "[I", .fieldLink RX11 34 "HookPierModel$Pier" "worth" "[I", .fieldLink RX11 37 "HookPierModel$Pier" "biteSpot" "[I", .fieldLink RX11 40 "HookPierModel$Pier" "biteDeep" "[I", .fieldLink RX11 43 "HookPierModel$Pier" "biteBait" "[I", .fieldLink RX11 46 "HookPierModel$Pier" "bit" "[I", .arrayClass .long, .fieldLink RX11 49 "HookPierModel$Pier" "name" "[J", .fieldLink RX11 53 "HookPierModel$Pier" "nameSort" "[I", .fieldLink RX11 56 "HookPierModel$Pier" "numberOf" "[I"] ++ wsX110)
theorem iX11_init_X11 : ∀ w ∈ wsX110, w ∈ vX11_init := fun _ h => List.mem_cons_of_mem _ (List.mem_append_right _ h)
set_option maxHeartbeats 1000000 in
set_option maxRecDepth 100000 in
theorem kX11_init (l : Launch) (dC : Nat → ClassId) (dI : Nat → Nat → Nat) (a0 : Nat) (g1 : Value) (g2 : Value) (g3 : Value) (g4 : Value) (g5 : Value) (g6 : Value) (g7 : Value) (g8 : Value) (g9 : Value) (g10 : Value) (g11 : Value) (g12 : Value) (g13 : Value) (g14 : Value) (g15 : Value) (g16 : Value) (g17 : Value) (g18 : Value) (g19 : Value) (g20 : Value) (g21 : Value) (g22 : Value) (g23 : Value) (g24 : Value) (sz : Nat) : Met l yX11_init vX11_init ({ frames := 1, cells := 14, slots := 110, locals := 20 }) (PC (dC, dI) [.ref a0] sz [(a0, .inr (8, [g1, g2, g3, g4, g5, g6, g7, g8, g9, g10, g11, g12, g13, g14, g15, g16, g17, g18, g19, g20, g21, g22, g23, g24]))] []) (va_Qv (S := Nat × Nat × Nat × Nat × Nat × Nat × Nat × Nat × Nat × Nat × Nat × Nat × Nat × Nat) (fun _ => True) (fun u t => BC (dC, dI) (va_A [(a0, .inr (8, [g1, g2, g3, g4, g5, g6, g7, g8, g9, g10, g11, g12, g13, g14, g15, g16, g17, g18, g19, g20, g21, g22, g23, g24]))] sz) [(a0, .inr (8, [g1, g2, g3, g4, g5, g6, g7, g8, .int (-1), g10, .ref u.1, .ref u.2.1, .ref u.2.2.1, .ref u.2.2.2.1, .ref u.2.2.2.2.1, .ref u.2.2.2.2.2.1, .ref u.2.2.2.2.2.2.1, .ref u.2.2.2.2.2.2.2.1, .ref u.2.2.2.2.2.2.2.2.1, .ref u.2.2.2.2.2.2.2.2.2.1, .ref u.2.2.2.2.2.2.2.2.2.2.1, .ref u.2.2.2.2.2.2.2.2.2.2.2.1, .ref u.2.2.2.2.2.2.2.2.2.2.2.2.1, .ref u.2.2.2.2.2.2.2.2.2.2.2.2.2]))] [] t) (va_A [(a0, .inr (8, [g1, g2, g3, g4, g5, g6, g7, g8, g9, g10, g11, g12, g13, g14, g15, g16, g17, g18, g19, g20, g21, g22, g23, g24]))] sz)) 14 110 (va_A [(a0, .inr (8, [g1, g2, g3, g4, g5, g6, g7, g8, g9, g10, g11, g12, g13, g14, g15, g16, g17, g18, g19, g20, g21, g22, g23, g24]))] sz) := by
  refine Met.ofW (cc := cX11_init) (maxL := 1) (ret := none) (by decide) rfl ?_
  intro p e s m args below meth c s₁ B hml hv
  obtain ⟨rfl, hsz, hP, hK, hD0, hN⟩ := hv
  have hx := B.exec
  have hb := B.bytes
  have hr := B.returns
  have hts := atoms_spec (ws := vX11_init) B.pre
  have hown : s.vm.findClass RX11 = some m.cls := findClass_of_methodNamed B.named
  have hlocks := B.notSynchronized
  have hin : meth.name = "<init>" := (name_of_methodNamed B.named B.method).1
  subst hsz
  have hD := hD0.self (sz := s.heap.size)
  generalize hAe : va_A [(a0, .inr (8, [g1, g2, g3, g4, g5, g6, g7, g8, g9, g10, g11, g12, g13, g14, g15, g16, g17, g18, g19, g20, g21, g22, g23, g24]))] s.heap.size = A at hD ⊢
  have hA : ∀ q : Nat, s.heap.size ≤ q → A q := fun q h => by rw [← hAe]; exact Or.inr h
  have hS : va_S A s.heap s.heap [] := va_S.rf
  have hP : va_P (dC, dI) vwCl [(a0, .inr (8, [g1, g2, g3, g4, g5, g6, g7, g8, g9, g10, g11, g12, g13, g14, g15, g16, g17, g18, g19, g20, g21, g22, g23, g24]))] s.heap := hP
  have hl := lv_entry ([.ref a0]) (n := 1) (Nat.le_of_ble_eq_true rfl)
  rw [lg_entry_eq]
  generalize (lg_sl ([.ref a0]) ++ List.replicate (1 - (lg_sl ([.ref a0])).length) Slot.unset).toArray = ls at hl ⊢
  have hl : lv_has ls 1 [(0, .ref a0)] := hl
  refine lv_aload_n hx hb dX11_init_0 rfl (lv_at hl 0 rfl) ?_
  refine W.objInit hx hb hown (hts (.methodLink RX11 3 objectInit) (List.mem_of_getElem? (i := 1) rfl)) (hts (.instanceMethod objectInit) (List.mem_of_getElem? (i := 2) rfl)) (hts (.code objectInit ⟨#[0xb1]⟩ 1 none) (List.mem_of_getElem? (i := 3) rfl)) rfl (by rw [hml]; exact hl.1) rfl dX11_init_1 (Nat.le_of_ble_eq_true rfl) (Nat.le_of_ble_eq_true rfl) ?_
  refine W.eq (g2 := F0 m 4 ls []) rfl ?_
  refine lv_aload_n hx hb dX11_init_4 rfl (lv_at hl 0 rfl) ?_
  refine lv_iconst (v := (-1)) hx hb dX11_init_5 (by decide) ?_
  refine va_put (D := (dC, dI)) (ci := 8) (v := .int (-1)) (ty := .int) (C := RX11) (T := TX11) (N := 24) hx hb hts iX11_init_X11 tyX11 tyX11_ok nmX11 hown hK hP hD hS 0 rfl rfl 8 (by decide) (hts (.fieldLink RX11 9 "HookPierModel$Pier" "dark" "I") (List.mem_of_getElem? (i := 4) rfl)) (fun _ h9 => h9) rfl (by decide +kernel) rfl rfl (Nat.le_of_ble_eq_true rfl) dX11_init_6 (fun H locs hP hD hS => ?_)
  have hP : va_P (dC, dI) vwCl [(a0, .inr (8, [g1, g2, g3, g4, g5, g6, g7, g8, .int (-1), g10, g11, g12, g13, g14, g15, g16, g17, g18, g19, g20, g21, g22, g23, g24]))] H := hP
  have hD : va_D A [(a0, .inr (8, [g1, g2, g3, g4, g5, g6, g7, g8, .int (-1), g10, g11, g12, g13, g14, g15, g16, g17, g18, g19, g20, g21, g22, g23, g24]))] := hD
  refine lv_aload_n hx hb dX11_init_9 rfl (lv_at hl 0 rfl) ?_
  refine lv_iconst (v := 5) hx hb dX11_init_10 (by decide) ?_
  refine va_newa (atype := .int) hx hb (hts (.arrayClass .int) (List.mem_of_getElem? (i := 5) rfl)) (ty := .int) rfl hK hP hD hS hA (n := 5) (N' := 5) (a0 := (5, .inl (fun _ => 0))) (fun _ => rfl) (by decide) (by decide +kernel) (by decide +kernel) (Nat.le_of_ble_eq_true rfl) (Nat.le_of_ble_eq_true rfl) dX11_init_11 (fun q1 cA2 H hK hP hD hS => ?_)
  have hP : va_P (dC, dI) vwCl [(a0, .inr (8, [g1, g2, g3, g4, g5, g6, g7, g8, .int (-1), g10, g11, g12, g13, g14, g15, g16, g17, g18, g19, g20, g21, g22, g23, g24])), (q1, .inl (cA2, 5, .inl (fun _ => 0)))] H := hP
  have hD : va_D A [(a0, .inr (8, [g1, g2, g3, g4, g5, g6, g7, g8, .int (-1), g10, g11, g12, g13, g14, g15, g16, g17, g18, g19, g20, g21, g22, g23, g24])), (q1, .inl (cA2, 5, .inl (fun _ => 0)))] := hD
  have hK : va_K (dC, dI) vwCl [(cA2, .int)] s := hK
  refine W.widen (k := 1) (n := 5) (Nat.le_of_ble_eq_true rfl) (Nat.le_of_ble_eq_true rfl) ?_
  refine va_putF (D := (dC, dI)) (ci := 8) (v := .ref q1) (ty := .array .int) (C := RX11) (T := TX11) (N := 24) hx hb hts iX11_init_X11 tyX11 tyX11_ok nmX11 hown hK hP hD hS 0 rfl rfl 10 (by decide) (hts (.fieldLink RX11 15 "HookPierModel$Pier" "reach" "[I") (List.mem_of_getElem? (i := 6) rfl)) (fun _ h9 => h9) rfl hin rfl (by decide +kernel) rfl rfl (Nat.le_of_ble_eq_true rfl) dX11_init_13 (fun H locs hP hD hS => ?_)
  have hP : va_P (dC, dI) vwCl [(a0, .inr (8, [g1, g2, g3, g4, g5, g6, g7, g8, .int (-1), g10, .ref q1, g12, g13, g14, g15, g16, g17, g18, g19, g20, g21, g22, g23, g24])), (q1, .inl (cA2, 5, .inl (fun _ => 0)))] H := hP
  have hD : va_D A [(a0, .inr (8, [g1, g2, g3, g4, g5, g6, g7, g8, .int (-1), g10, .ref q1, g12, g13, g14, g15, g16, g17, g18, g19, g20, g21, g22, g23, g24])), (q1, .inl (cA2, 5, .inl (fun _ => 0)))] := hD
  refine lv_aload_n hx hb dX11_init_16 rfl (lv_at hl 0 rfl) ?_
  refine lv_bipush (v := 6) hx hb dX11_init_17 (by decide) ?_
  refine va_newa (atype := .int) hx hb (hts (.arrayClass .int) (List.mem_of_getElem? (i := 5) rfl)) (ty := .int) rfl hK hP hD hS hA (n := 6) (N' := 6) (a0 := (6, .inl (fun _ => 0))) (fun _ => rfl) (by decide) (by decide +kernel) (by decide +kernel) (Nat.le_of_ble_eq_true rfl) (Nat.le_of_ble_eq_true rfl) dX11_init_19 (fun q3 cA4 H hK hP hD hS => ?_)
  have hP : va_P (dC, dI) vwCl [(a0, .inr (8, [g1, g2, g3, g4, g5, g6, g7, g8, .int (-1), g10, .ref q1, g12, g13, g14, g15, g16, g17, g18, g19, g20, g21, g22, g23, g24])), (q1, .inl (cA2, 5, .inl (fun _ => 0))), (q3, .inl (cA4, 6, .inl (fun _ => 0)))] H := hP
  have hD : va_D A [(a0, .inr (8, [g1, g2, g3, g4, g5, g6, g7, g8, .int (-1), g10, .ref q1, g12, g13, g14, g15, g16, g17, g18, g19, g20, g21, g22, g23, g24])), (q1, .inl (cA2, 5, .inl (fun _ => 0))), (q3, .inl (cA4, 6, .inl (fun _ => 0)))] := hD
  have hK : va_K (dC, dI) vwCl [(cA2, .int), (cA4, .int)] s := hK
  refine W.widen (k := 2) (n := 11) (Nat.le_of_ble_eq_true rfl) (Nat.le_of_ble_eq_true rfl) ?_
  refine va_putF (D := (dC, dI)) (ci := 8) (v := .ref q3) (ty := .array .int) (C := RX11) (T := TX11) (N := 24) hx hb hts iX11_init_X11 tyX11 tyX11_ok nmX11 hown hK hP hD hS 0 rfl rfl 11 (by decide) (hts (.fieldLink RX11 19 "HookPierModel$Pier" "kind" "[I") (List.mem_of_getElem? (i := 7) rfl)) (fun _ h9 => h9) rfl hin rfl (by decide +kernel) rfl rfl (Nat.le_of_ble_eq_true rfl) dX11_init_21 (fun H locs hP hD hS => ?_)
  have hP : va_P (dC, dI) vwCl [(a0, .inr (8, [g1, g2, g3, g4, g5, g6, g7, g8, .int (-1), g10, .ref q1, .ref q3, g13, g14, g15, g16, g17, g18, g19, g20, g21, g22, g23, g24])), (q1, .inl (cA2, 5, .inl (fun _ => 0))), (q3, .inl (cA4, 6, .inl (fun _ => 0)))] H := hP
  have hD : va_D A [(a0, .inr (8, [g1, g2, g3, g4, g5, g6, g7, g8, .int (-1), g10, .ref q1, .ref q3, g13, g14, g15, g16, g17, g18, g19, g20, g21, g22, g23, g24])), (q1, .inl (cA2, 5, .inl (fun _ => 0))), (q3, .inl (cA4, 6, .inl (fun _ => 0)))] := hD
  refine lv_aload_n hx hb dX11_init_24 rfl (lv_at hl 0 rfl) ?_
  refine lv_bipush (v := 6) hx hb dX11_init_25 (by decide) ?_
  refine va_newa (atype := .int) hx hb (hts (.arrayClass .int) (List.mem_of_getElem? (i := 5) rfl)) (ty := .int) rfl hK hP hD hS hA (n := 6) (N' := 6) (a0 := (6, .inl (fun _ => 0))) (fun _ => rfl) (by decide) (by decide +kernel) (by decide +kernel) (Nat.le_of_ble_eq_true rfl) (Nat.le_of_ble_eq_true rfl) dX11_init_27 (fun q5 cA6 H hK hP hD hS => ?_)
  have hP : va_P (dC, dI) vwCl [(a0, .inr (8, [g1, g2, g3, g4, g5, g6, g7, g8, .int (-1), g10, .ref q1, .ref q3, g13, g14, g15, g16, g17, g18, g19, g20, g21, g22, g23, g24])), (q1, .inl (cA2, 5, .inl (fun _ => 0))), (q3, .inl (cA4, 6, .inl (fun _ => 0))), (q5, .inl (cA6, 6, .inl (fun _ => 0)))] H := hP
  have hD : va_D A [(a0, .inr (8, [g1, g2, g3, g4, g5, g6, g7, g8, .int (-1), g10, .ref q1, .ref q3, g13, g14, g15, g16, g17, g18, g19, g20, g21, g22, g23, g24])), (q1, .inl (cA2, 5, .inl (fun _ => 0))), (q3, .inl (cA4, 6, .inl (fun _ => 0))), (q5, .inl (cA6, 6, .inl (fun _ => 0)))] := hD
  have hK : va_K (dC, dI) vwCl [(cA2, .int), (cA4, .int), (cA6, .int)] s := hK
  refine W.widen (k := 3) (n := 17) (Nat.le_of_ble_eq_true rfl) (Nat.le_of_ble_eq_true rfl) ?_
  refine va_putF (D := (dC, dI)) (ci := 8) (v := .ref q5) (ty := .array .int) (C := RX11) (T := TX11) (N := 24) hx hb hts iX11_init_X11 tyX11 tyX11_ok nmX11 hown hK hP hD hS 0 rfl rfl 12 (by decide) (hts (.fieldLink RX11 22 "HookPierModel$Pier" "spot" "[I") (List.mem_of_getElem? (i := 8) rfl)) (fun _ h9 => h9) rfl hin rfl (by decide +kernel) rfl rfl (Nat.le_of_ble_eq_true rfl) dX11_init_29 (fun H locs hP hD hS => ?_)
  have hP : va_P (dC, dI) vwCl [(a0, .inr (8, [g1, g2, g3, g4, g5, g6, g7, g8, .int (-1), g10, .ref q1, .ref q3, .ref q5, g14, g15, g16, g17, g18, g19, g20, g21, g22, g23, g24])), (q1, .inl (cA2, 5, .inl (fun _ => 0))), (q3, .inl (cA4, 6, .inl (fun _ => 0))), (q5, .inl (cA6, 6, .inl (fun _ => 0)))] H := hP
  have hD : va_D A [(a0, .inr (8, [g1, g2, g3, g4, g5, g6, g7, g8, .int (-1), g10, .ref q1, .ref q3, .ref q5, g14, g15, g16, g17, g18, g19, g20, g21, g22, g23, g24])), (q1, .inl (cA2, 5, .inl (fun _ => 0))), (q3, .inl (cA4, 6, .inl (fun _ => 0))), (q5, .inl (cA6, 6, .inl (fun _ => 0)))] := hD
  refine lv_aload_n hx hb dX11_init_32 rfl (lv_at hl 0 rfl) ?_
  refine lv_bipush (v := 6) hx hb dX11_init_33 (by decide) ?_
  refine va_newa (atype := .int) hx hb (hts (.arrayClass .int) (List.mem_of_getElem? (i := 5) rfl)) (ty := .int) rfl hK hP hD hS hA (n := 6) (N' := 6) (a0 := (6, .inl (fun _ => 0))) (fun _ => rfl) (by decide) (by decide +kernel) (by decide +kernel) (Nat.le_of_ble_eq_true rfl) (Nat.le_of_ble_eq_true rfl) dX11_init_35 (fun q7 cA8 H hK hP hD hS => ?_)
  have hP : va_P (dC, dI) vwCl [(a0, .inr (8, [g1, g2, g3, g4, g5, g6, g7, g8, .int (-1), g10, .ref q1, .ref q3, .ref q5, g14, g15, g16, g17, g18, g19, g20, g21, g22, g23, g24])), (q1, .inl (cA2, 5, .inl (fun _ => 0))), (q3, .inl (cA4, 6, .inl (fun _ => 0))), (q5, .inl (cA6, 6, .inl (fun _ => 0))), (q7, .inl (cA8, 6, .inl (fun _ => 0)))] H := hP
  have hD : va_D A [(a0, .inr (8, [g1, g2, g3, g4, g5, g6, g7, g8, .int (-1), g10, .ref q1, .ref q3, .ref q5, g14, g15, g16, g17, g18, g19, g20, g21, g22, g23, g24])), (q1, .inl (cA2, 5, .inl (fun _ => 0))), (q3, .inl (cA4, 6, .inl (fun _ => 0))), (q5, .inl (cA6, 6, .inl (fun _ => 0))), (q7, .inl (cA8, 6, .inl (fun _ => 0)))] := hD
  have hK : va_K (dC, dI) vwCl [(cA2, .int), (cA4, .int), (cA6, .int), (cA8, .int)] s := hK
  refine W.widen (k := 4) (n := 23) (Nat.le_of_ble_eq_true rfl) (Nat.le_of_ble_eq_true rfl) ?_
  refine va_putF (D := (dC, dI)) (ci := 8) (v := .ref q7) (ty := .array .int) (C := RX11) (T := TX11) (N := 24) hx hb hts iX11_init_X11 tyX11 tyX11_ok nmX11 hown hK hP hD hS 0 rfl rfl 13 (by decide) (hts (.fieldLink RX11 25 "HookPierModel$Pier" "depth" "[I") (List.mem_of_getElem? (i := 9) rfl)) (fun _ h9 => h9) rfl hin rfl (by decide +kernel) rfl rfl (Nat.le_of_ble_eq_true rfl) dX11_init_37 (fun H locs hP hD hS => ?_)
  have hP : va_P (dC, dI) vwCl [(a0, .inr (8, [g1, g2, g3, g4, g5, g6, g7, g8, .int (-1), g10, .ref q1, .ref q3, .ref q5, .ref q7, g15, g16, g17, g18, g19, g20, g21, g22, g23, g24])), (q1, .inl (cA2, 5, .inl (fun _ => 0))), (q3, .inl (cA4, 6, .inl (fun _ => 0))), (q5, .inl (cA6, 6, .inl (fun _ => 0))), (q7, .inl (cA8, 6, .inl (fun _ => 0)))] H := hP
  have hD : va_D A [(a0, .inr (8, [g1, g2, g3, g4, g5, g6, g7, g8, .int (-1), g10, .ref q1, .ref q3, .ref q5, .ref q7, g15, g16, g17, g18, g19, g20, g21, g22, g23, g24])), (q1, .inl (cA2, 5, .inl (fun _ => 0))), (q3, .inl (cA4, 6, .inl (fun _ => 0))), (q5, .inl (cA6, 6, .inl (fun _ => 0))), (q7, .inl (cA8, 6, .inl (fun _ => 0)))] := hD
  refine lv_aload_n hx hb dX11_init_40 rfl (lv_at hl 0 rfl) ?_
  refine lv_bipush (v := 6) hx hb dX11_init_41 (by decide) ?_
  refine va_newa (atype := .int) hx hb (hts (.arrayClass .int) (List.mem_of_getElem? (i := 5) rfl)) (ty := .int) rfl hK hP hD hS hA (n := 6) (N' := 6) (a0 := (6, .inl (fun _ => 0))) (fun _ => rfl) (by decide) (by decide +kernel) (by decide +kernel) (Nat.le_of_ble_eq_true rfl) (Nat.le_of_ble_eq_true rfl) dX11_init_43 (fun q9 cA10 H hK hP hD hS => ?_)
  have hP : va_P (dC, dI) vwCl [(a0, .inr (8, [g1, g2, g3, g4, g5, g6, g7, g8, .int (-1), g10, .ref q1, .ref q3, .ref q5, .ref q7, g15, g16, g17, g18, g19, g20, g21, g22, g23, g24])), (q1, .inl (cA2, 5, .inl (fun _ => 0))), (q3, .inl (cA4, 6, .inl (fun _ => 0))), (q5, .inl (cA6, 6, .inl (fun _ => 0))), (q7, .inl (cA8, 6, .inl (fun _ => 0))), (q9, .inl (cA10, 6, .inl (fun _ => 0)))] H := hP
  have hD : va_D A [(a0, .inr (8, [g1, g2, g3, g4, g5, g6, g7, g8, .int (-1), g10, .ref q1, .ref q3, .ref q5, .ref q7, g15, g16, g17, g18, g19, g20, g21, g22, g23, g24])), (q1, .inl (cA2, 5, .inl (fun _ => 0))), (q3, .inl (cA4, 6, .inl (fun _ => 0))), (q5, .inl (cA6, 6, .inl (fun _ => 0))), (q7, .inl (cA8, 6, .inl (fun _ => 0))), (q9, .inl (cA10, 6, .inl (fun _ => 0)))] := hD
  have hK : va_K (dC, dI) vwCl [(cA2, .int), (cA4, .int), (cA6, .int), (cA8, .int), (cA10, .int)] s := hK
  refine W.widen (k := 5) (n := 29) (Nat.le_of_ble_eq_true rfl) (Nat.le_of_ble_eq_true rfl) ?_
  refine va_putF (D := (dC, dI)) (ci := 8) (v := .ref q9) (ty := .array .int) (C := RX11) (T := TX11) (N := 24) hx hb hts iX11_init_X11 tyX11 tyX11_ok nmX11 hown hK hP hD hS 0 rfl rfl 14 (by decide) (hts (.fieldLink RX11 28 "HookPierModel$Pier" "hunger" "[I") (List.mem_of_getElem? (i := 10) rfl)) (fun _ h9 => h9) rfl hin rfl (by decide +kernel) rfl rfl (Nat.le_of_ble_eq_true rfl) dX11_init_45 (fun H locs hP hD hS => ?_)
  have hP : va_P (dC, dI) vwCl [(a0, .inr (8, [g1, g2, g3, g4, g5, g6, g7, g8, .int (-1), g10, .ref q1, .ref q3, .ref q5, .ref q7, .ref q9, g16, g17, g18, g19, g20, g21, g22, g23, g24])), (q1, .inl (cA2, 5, .inl (fun _ => 0))), (q3, .inl (cA4, 6, .inl (fun _ => 0))), (q5, .inl (cA6, 6, .inl (fun _ => 0))), (q7, .inl (cA8, 6, .inl (fun _ => 0))), (q9, .inl (cA10, 6, .inl (fun _ => 0)))] H := hP
  have hD : va_D A [(a0, .inr (8, [g1, g2, g3, g4, g5, g6, g7, g8, .int (-1), g10, .ref q1, .ref q3, .ref q5, .ref q7, .ref q9, g16, g17, g18, g19, g20, g21, g22, g23, g24])), (q1, .inl (cA2, 5, .inl (fun _ => 0))), (q3, .inl (cA4, 6, .inl (fun _ => 0))), (q5, .inl (cA6, 6, .inl (fun _ => 0))), (q7, .inl (cA8, 6, .inl (fun _ => 0))), (q9, .inl (cA10, 6, .inl (fun _ => 0)))] := hD
  refine lv_aload_n hx hb dX11_init_48 rfl (lv_at hl 0 rfl) ?_
  refine lv_bipush (v := 6) hx hb dX11_init_49 (by decide) ?_
  refine va_newa (atype := .int) hx hb (hts (.arrayClass .int) (List.mem_of_getElem? (i := 5) rfl)) (ty := .int) rfl hK hP hD hS hA (n := 6) (N' := 6) (a0 := (6, .inl (fun _ => 0))) (fun _ => rfl) (by decide) (by decide +kernel) (by decide +kernel) (Nat.le_of_ble_eq_true rfl) (Nat.le_of_ble_eq_true rfl) dX11_init_51 (fun q11 cA12 H hK hP hD hS => ?_)
  have hP : va_P (dC, dI) vwCl [(a0, .inr (8, [g1, g2, g3, g4, g5, g6, g7, g8, .int (-1), g10, .ref q1, .ref q3, .ref q5, .ref q7, .ref q9, g16, g17, g18, g19, g20, g21, g22, g23, g24])), (q1, .inl (cA2, 5, .inl (fun _ => 0))), (q3, .inl (cA4, 6, .inl (fun _ => 0))), (q5, .inl (cA6, 6, .inl (fun _ => 0))), (q7, .inl (cA8, 6, .inl (fun _ => 0))), (q9, .inl (cA10, 6, .inl (fun _ => 0))), (q11, .inl (cA12, 6, .inl (fun _ => 0)))] H := hP
  have hD : va_D A [(a0, .inr (8, [g1, g2, g3, g4, g5, g6, g7, g8, .int (-1), g10, .ref q1, .ref q3, .ref q5, .ref q7, .ref q9, g16, g17, g18, g19, g20, g21, g22, g23, g24])), (q1, .inl (cA2, 5, .inl (fun _ => 0))), (q3, .inl (cA4, 6, .inl (fun _ => 0))), (q5, .inl (cA6, 6, .inl (fun _ => 0))), (q7, .inl (cA8, 6, .inl (fun _ => 0))), (q9, .inl (cA10, 6, .inl (fun _ => 0))), (q11, .inl (cA12, 6, .inl (fun _ => 0)))] := hD
  have hK : va_K (dC, dI) vwCl [(cA2, .int), (cA4, .int), (cA6, .int), (cA8, .int), (cA10, .int), (cA12, .int)] s := hK
  refine W.widen (k := 6) (n := 35) (Nat.le_of_ble_eq_true rfl) (Nat.le_of_ble_eq_true rfl) ?_
  refine va_putF (D := (dC, dI)) (ci := 8) (v := .ref q11) (ty := .array .int) (C := RX11) (T := TX11) (N := 24) hx hb hts iX11_init_X11 tyX11 tyX11_ok nmX11 hown hK hP hD hS 0 rfl rfl 15 (by decide) (hts (.fieldLink RX11 31 "HookPierModel$Pier" "likes" "[I") (List.mem_of_getElem? (i := 11) rfl)) (fun _ h9 => h9) rfl hin rfl (by decide +kernel) rfl rfl (Nat.le_of_ble_eq_true rfl) dX11_init_53 (fun H locs hP hD hS => ?_)
  have hP : va_P (dC, dI) vwCl [(a0, .inr (8, [g1, g2, g3, g4, g5, g6, g7, g8, .int (-1), g10, .ref q1, .ref q3, .ref q5, .ref q7, .ref q9, .ref q11, g17, g18, g19, g20, g21, g22, g23, g24])), (q1, .inl (cA2, 5, .inl (fun _ => 0))), (q3, .inl (cA4, 6, .inl (fun _ => 0))), (q5, .inl (cA6, 6, .inl (fun _ => 0))), (q7, .inl (cA8, 6, .inl (fun _ => 0))), (q9, .inl (cA10, 6, .inl (fun _ => 0))), (q11, .inl (cA12, 6, .inl (fun _ => 0)))] H := hP
  have hD : va_D A [(a0, .inr (8, [g1, g2, g3, g4, g5, g6, g7, g8, .int (-1), g10, .ref q1, .ref q3, .ref q5, .ref q7, .ref q9, .ref q11, g17, g18, g19, g20, g21, g22, g23, g24])), (q1, .inl (cA2, 5, .inl (fun _ => 0))), (q3, .inl (cA4, 6, .inl (fun _ => 0))), (q5, .inl (cA6, 6, .inl (fun _ => 0))), (q7, .inl (cA8, 6, .inl (fun _ => 0))), (q9, .inl (cA10, 6, .inl (fun _ => 0))), (q11, .inl (cA12, 6, .inl (fun _ => 0)))] := hD
  refine lv_aload_n hx hb dX11_init_56 rfl (lv_at hl 0 rfl) ?_
  refine lv_bipush (v := 6) hx hb dX11_init_57 (by decide) ?_
  refine va_newa (atype := .int) hx hb (hts (.arrayClass .int) (List.mem_of_getElem? (i := 5) rfl)) (ty := .int) rfl hK hP hD hS hA (n := 6) (N' := 6) (a0 := (6, .inl (fun _ => 0))) (fun _ => rfl) (by decide) (by decide +kernel) (by decide +kernel) (Nat.le_of_ble_eq_true rfl) (Nat.le_of_ble_eq_true rfl) dX11_init_59 (fun q13 cA14 H hK hP hD hS => ?_)
  have hP : va_P (dC, dI) vwCl [(a0, .inr (8, [g1, g2, g3, g4, g5, g6, g7, g8, .int (-1), g10, .ref q1, .ref q3, .ref q5, .ref q7, .ref q9, .ref q11, g17, g18, g19, g20, g21, g22, g23, g24])), (q1, .inl (cA2, 5, .inl (fun _ => 0))), (q3, .inl (cA4, 6, .inl (fun _ => 0))), (q5, .inl (cA6, 6, .inl (fun _ => 0))), (q7, .inl (cA8, 6, .inl (fun _ => 0))), (q9, .inl (cA10, 6, .inl (fun _ => 0))), (q11, .inl (cA12, 6, .inl (fun _ => 0))), (q13, .inl (cA14, 6, .inl (fun _ => 0)))] H := hP
  have hD : va_D A [(a0, .inr (8, [g1, g2, g3, g4, g5, g6, g7, g8, .int (-1), g10, .ref q1, .ref q3, .ref q5, .ref q7, .ref q9, .ref q11, g17, g18, g19, g20, g21, g22, g23, g24])), (q1, .inl (cA2, 5, .inl (fun _ => 0))), (q3, .inl (cA4, 6, .inl (fun _ => 0))), (q5, .inl (cA6, 6, .inl (fun _ => 0))), (q7, .inl (cA8, 6, .inl (fun _ => 0))), (q9, .inl (cA10, 6, .inl (fun _ => 0))), (q11, .inl (cA12, 6, .inl (fun _ => 0))), (q13, .inl (cA14, 6, .inl (fun _ => 0)))] := hD
  have hK : va_K (dC, dI) vwCl [(cA2, .int), (cA4, .int), (cA6, .int), (cA8, .int), (cA10, .int), (cA12, .int), (cA14, .int)] s := hK
  refine W.widen (k := 7) (n := 41) (Nat.le_of_ble_eq_true rfl) (Nat.le_of_ble_eq_true rfl) ?_
  refine va_putF (D := (dC, dI)) (ci := 8) (v := .ref q13) (ty := .array .int) (C := RX11) (T := TX11) (N := 24) hx hb hts iX11_init_X11 tyX11 tyX11_ok nmX11 hown hK hP hD hS 0 rfl rfl 16 (by decide) (hts (.fieldLink RX11 34 "HookPierModel$Pier" "worth" "[I") (List.mem_of_getElem? (i := 12) rfl)) (fun _ h9 => h9) rfl hin rfl (by decide +kernel) rfl rfl (Nat.le_of_ble_eq_true rfl) dX11_init_61 (fun H locs hP hD hS => ?_)
  have hP : va_P (dC, dI) vwCl [(a0, .inr (8, [g1, g2, g3, g4, g5, g6, g7, g8, .int (-1), g10, .ref q1, .ref q3, .ref q5, .ref q7, .ref q9, .ref q11, .ref q13, g18, g19, g20, g21, g22, g23, g24])), (q1, .inl (cA2, 5, .inl (fun _ => 0))), (q3, .inl (cA4, 6, .inl (fun _ => 0))), (q5, .inl (cA6, 6, .inl (fun _ => 0))), (q7, .inl (cA8, 6, .inl (fun _ => 0))), (q9, .inl (cA10, 6, .inl (fun _ => 0))), (q11, .inl (cA12, 6, .inl (fun _ => 0))), (q13, .inl (cA14, 6, .inl (fun _ => 0)))] H := hP
  have hD : va_D A [(a0, .inr (8, [g1, g2, g3, g4, g5, g6, g7, g8, .int (-1), g10, .ref q1, .ref q3, .ref q5, .ref q7, .ref q9, .ref q11, .ref q13, g18, g19, g20, g21, g22, g23, g24])), (q1, .inl (cA2, 5, .inl (fun _ => 0))), (q3, .inl (cA4, 6, .inl (fun _ => 0))), (q5, .inl (cA6, 6, .inl (fun _ => 0))), (q7, .inl (cA8, 6, .inl (fun _ => 0))), (q9, .inl (cA10, 6, .inl (fun _ => 0))), (q11, .inl (cA12, 6, .inl (fun _ => 0))), (q13, .inl (cA14, 6, .inl (fun _ => 0)))] := hD
  refine lv_aload_n hx hb dX11_init_64 rfl (lv_at hl 0 rfl) ?_
  refine lv_bipush (v := 6) hx hb dX11_init_65 (by decide) ?_
  refine va_newa (atype := .int) hx hb (hts (.arrayClass .int) (List.mem_of_getElem? (i := 5) rfl)) (ty := .int) rfl hK hP hD hS hA (n := 6) (N' := 6) (a0 := (6, .inl (fun _ => 0))) (fun _ => rfl) (by decide) (by decide +kernel) (by decide +kernel) (Nat.le_of_ble_eq_true rfl) (Nat.le_of_ble_eq_true rfl) dX11_init_67 (fun q15 cA16 H hK hP hD hS => ?_)
  have hP : va_P (dC, dI) vwCl [(a0, .inr (8, [g1, g2, g3, g4, g5, g6, g7, g8, .int (-1), g10, .ref q1, .ref q3, .ref q5, .ref q7, .ref q9, .ref q11, .ref q13, g18, g19, g20, g21, g22, g23, g24])), (q1, .inl (cA2, 5, .inl (fun _ => 0))), (q3, .inl (cA4, 6, .inl (fun _ => 0))), (q5, .inl (cA6, 6, .inl (fun _ => 0))), (q7, .inl (cA8, 6, .inl (fun _ => 0))), (q9, .inl (cA10, 6, .inl (fun _ => 0))), (q11, .inl (cA12, 6, .inl (fun _ => 0))), (q13, .inl (cA14, 6, .inl (fun _ => 0))), (q15, .inl (cA16, 6, .inl (fun _ => 0)))] H := hP
  have hD : va_D A [(a0, .inr (8, [g1, g2, g3, g4, g5, g6, g7, g8, .int (-1), g10, .ref q1, .ref q3, .ref q5, .ref q7, .ref q9, .ref q11, .ref q13, g18, g19, g20, g21, g22, g23, g24])), (q1, .inl (cA2, 5, .inl (fun _ => 0))), (q3, .inl (cA4, 6, .inl (fun _ => 0))), (q5, .inl (cA6, 6, .inl (fun _ => 0))), (q7, .inl (cA8, 6, .inl (fun _ => 0))), (q9, .inl (cA10, 6, .inl (fun _ => 0))), (q11, .inl (cA12, 6, .inl (fun _ => 0))), (q13, .inl (cA14, 6, .inl (fun _ => 0))), (q15, .inl (cA16, 6, .inl (fun _ => 0)))] := hD
  have hK : va_K (dC, dI) vwCl [(cA2, .int), (cA4, .int), (cA6, .int), (cA8, .int), (cA10, .int), (cA12, .int), (cA14, .int), (cA16, .int)] s := hK
  refine W.widen (k := 8) (n := 47) (Nat.le_of_ble_eq_true rfl) (Nat.le_of_ble_eq_true rfl) ?_
  refine va_putF (D := (dC, dI)) (ci := 8) (v := .ref q15) (ty := .array .int) (C := RX11) (T := TX11) (N := 24) hx hb hts iX11_init_X11 tyX11 tyX11_ok nmX11 hown hK hP hD hS 0 rfl rfl 17 (by decide) (hts (.fieldLink RX11 37 "HookPierModel$Pier" "biteSpot" "[I") (List.mem_of_getElem? (i := 13) rfl)) (fun _ h9 => h9) rfl hin rfl (by decide +kernel) rfl rfl (Nat.le_of_ble_eq_true rfl) dX11_init_69 (fun H locs hP hD hS => ?_)
  have hP : va_P (dC, dI) vwCl [(a0, .inr (8, [g1, g2, g3, g4, g5, g6, g7, g8, .int (-1), g10, .ref q1, .ref q3, .ref q5, .ref q7, .ref q9, .ref q11, .ref q13, .ref q15, g19, g20, g21, g22, g23, g24])), (q1, .inl (cA2, 5, .inl (fun _ => 0))), (q3, .inl (cA4, 6, .inl (fun _ => 0))), (q5, .inl (cA6, 6, .inl (fun _ => 0))), (q7, .inl (cA8, 6, .inl (fun _ => 0))), (q9, .inl (cA10, 6, .inl (fun _ => 0))), (q11, .inl (cA12, 6, .inl (fun _ => 0))), (q13, .inl (cA14, 6, .inl (fun _ => 0))), (q15, .inl (cA16, 6, .inl (fun _ => 0)))] H := hP
  have hD : va_D A [(a0, .inr (8, [g1, g2, g3, g4, g5, g6, g7, g8, .int (-1), g10, .ref q1, .ref q3, .ref q5, .ref q7, .ref q9, .ref q11, .ref q13, .ref q15, g19, g20, g21, g22, g23, g24])), (q1, .inl (cA2, 5, .inl (fun _ => 0))), (q3, .inl (cA4, 6, .inl (fun _ => 0))), (q5, .inl (cA6, 6, .inl (fun _ => 0))), (q7, .inl (cA8, 6, .inl (fun _ => 0))), (q9, .inl (cA10, 6, .inl (fun _ => 0))), (q11, .inl (cA12, 6, .inl (fun _ => 0))), (q13, .inl (cA14, 6, .inl (fun _ => 0))), (q15, .inl (cA16, 6, .inl (fun _ => 0)))] := hD
  refine lv_aload_n hx hb dX11_init_72 rfl (lv_at hl 0 rfl) ?_
  refine lv_bipush (v := 6) hx hb dX11_init_73 (by decide) ?_
  refine va_newa (atype := .int) hx hb (hts (.arrayClass .int) (List.mem_of_getElem? (i := 5) rfl)) (ty := .int) rfl hK hP hD hS hA (n := 6) (N' := 6) (a0 := (6, .inl (fun _ => 0))) (fun _ => rfl) (by decide) (by decide +kernel) (by decide +kernel) (Nat.le_of_ble_eq_true rfl) (Nat.le_of_ble_eq_true rfl) dX11_init_75 (fun q17 cA18 H hK hP hD hS => ?_)
  have hP : va_P (dC, dI) vwCl [(a0, .inr (8, [g1, g2, g3, g4, g5, g6, g7, g8, .int (-1), g10, .ref q1, .ref q3, .ref q5, .ref q7, .ref q9, .ref q11, .ref q13, .ref q15, g19, g20, g21, g22, g23, g24])), (q1, .inl (cA2, 5, .inl (fun _ => 0))), (q3, .inl (cA4, 6, .inl (fun _ => 0))), (q5, .inl (cA6, 6, .inl (fun _ => 0))), (q7, .inl (cA8, 6, .inl (fun _ => 0))), (q9, .inl (cA10, 6, .inl (fun _ => 0))), (q11, .inl (cA12, 6, .inl (fun _ => 0))), (q13, .inl (cA14, 6, .inl (fun _ => 0))), (q15, .inl (cA16, 6, .inl (fun _ => 0))), (q17, .inl (cA18, 6, .inl (fun _ => 0)))] H := hP
  have hD : va_D A [(a0, .inr (8, [g1, g2, g3, g4, g5, g6, g7, g8, .int (-1), g10, .ref q1, .ref q3, .ref q5, .ref q7, .ref q9, .ref q11, .ref q13, .ref q15, g19, g20, g21, g22, g23, g24])), (q1, .inl (cA2, 5, .inl (fun _ => 0))), (q3, .inl (cA4, 6, .inl (fun _ => 0))), (q5, .inl (cA6, 6, .inl (fun _ => 0))), (q7, .inl (cA8, 6, .inl (fun _ => 0))), (q9, .inl (cA10, 6, .inl (fun _ => 0))), (q11, .inl (cA12, 6, .inl (fun _ => 0))), (q13, .inl (cA14, 6, .inl (fun _ => 0))), (q15, .inl (cA16, 6, .inl (fun _ => 0))), (q17, .inl (cA18, 6, .inl (fun _ => 0)))] := hD
  have hK : va_K (dC, dI) vwCl [(cA2, .int), (cA4, .int), (cA6, .int), (cA8, .int), (cA10, .int), (cA12, .int), (cA14, .int), (cA16, .int), (cA18, .int)] s := hK
  refine W.widen (k := 9) (n := 53) (Nat.le_of_ble_eq_true rfl) (Nat.le_of_ble_eq_true rfl) ?_
  refine va_putF (D := (dC, dI)) (ci := 8) (v := .ref q17) (ty := .array .int) (C := RX11) (T := TX11) (N := 24) hx hb hts iX11_init_X11 tyX11 tyX11_ok nmX11 hown hK hP hD hS 0 rfl rfl 18 (by decide) (hts (.fieldLink RX11 40 "HookPierModel$Pier" "biteDeep" "[I") (List.mem_of_getElem? (i := 14) rfl)) (fun _ h9 => h9) rfl hin rfl (by decide +kernel) rfl rfl (Nat.le_of_ble_eq_true rfl) dX11_init_77 (fun H locs hP hD hS => ?_)
  have hP : va_P (dC, dI) vwCl [(a0, .inr (8, [g1, g2, g3, g4, g5, g6, g7, g8, .int (-1), g10, .ref q1, .ref q3, .ref q5, .ref q7, .ref q9, .ref q11, .ref q13, .ref q15, .ref q17, g20, g21, g22, g23, g24])), (q1, .inl (cA2, 5, .inl (fun _ => 0))), (q3, .inl (cA4, 6, .inl (fun _ => 0))), (q5, .inl (cA6, 6, .inl (fun _ => 0))), (q7, .inl (cA8, 6, .inl (fun _ => 0))), (q9, .inl (cA10, 6, .inl (fun _ => 0))), (q11, .inl (cA12, 6, .inl (fun _ => 0))), (q13, .inl (cA14, 6, .inl (fun _ => 0))), (q15, .inl (cA16, 6, .inl (fun _ => 0))), (q17, .inl (cA18, 6, .inl (fun _ => 0)))] H := hP
  have hD : va_D A [(a0, .inr (8, [g1, g2, g3, g4, g5, g6, g7, g8, .int (-1), g10, .ref q1, .ref q3, .ref q5, .ref q7, .ref q9, .ref q11, .ref q13, .ref q15, .ref q17, g20, g21, g22, g23, g24])), (q1, .inl (cA2, 5, .inl (fun _ => 0))), (q3, .inl (cA4, 6, .inl (fun _ => 0))), (q5, .inl (cA6, 6, .inl (fun _ => 0))), (q7, .inl (cA8, 6, .inl (fun _ => 0))), (q9, .inl (cA10, 6, .inl (fun _ => 0))), (q11, .inl (cA12, 6, .inl (fun _ => 0))), (q13, .inl (cA14, 6, .inl (fun _ => 0))), (q15, .inl (cA16, 6, .inl (fun _ => 0))), (q17, .inl (cA18, 6, .inl (fun _ => 0)))] := hD
  refine lv_aload_n hx hb dX11_init_80 rfl (lv_at hl 0 rfl) ?_
  refine lv_bipush (v := 6) hx hb dX11_init_81 (by decide) ?_
  refine va_newa (atype := .int) hx hb (hts (.arrayClass .int) (List.mem_of_getElem? (i := 5) rfl)) (ty := .int) rfl hK hP hD hS hA (n := 6) (N' := 6) (a0 := (6, .inl (fun _ => 0))) (fun _ => rfl) (by decide) (by decide +kernel) (by decide +kernel) (Nat.le_of_ble_eq_true rfl) (Nat.le_of_ble_eq_true rfl) dX11_init_83 (fun q19 cA20 H hK hP hD hS => ?_)
  have hP : va_P (dC, dI) vwCl [(a0, .inr (8, [g1, g2, g3, g4, g5, g6, g7, g8, .int (-1), g10, .ref q1, .ref q3, .ref q5, .ref q7, .ref q9, .ref q11, .ref q13, .ref q15, .ref q17, g20, g21, g22, g23, g24])), (q1, .inl (cA2, 5, .inl (fun _ => 0))), (q3, .inl (cA4, 6, .inl (fun _ => 0))), (q5, .inl (cA6, 6, .inl (fun _ => 0))), (q7, .inl (cA8, 6, .inl (fun _ => 0))), (q9, .inl (cA10, 6, .inl (fun _ => 0))), (q11, .inl (cA12, 6, .inl (fun _ => 0))), (q13, .inl (cA14, 6, .inl (fun _ => 0))), (q15, .inl (cA16, 6, .inl (fun _ => 0))), (q17, .inl (cA18, 6, .inl (fun _ => 0))), (q19, .inl (cA20, 6, .inl (fun _ => 0)))] H := hP
  have hD : va_D A [(a0, .inr (8, [g1, g2, g3, g4, g5, g6, g7, g8, .int (-1), g10, .ref q1, .ref q3, .ref q5, .ref q7, .ref q9, .ref q11, .ref q13, .ref q15, .ref q17, g20, g21, g22, g23, g24])), (q1, .inl (cA2, 5, .inl (fun _ => 0))), (q3, .inl (cA4, 6, .inl (fun _ => 0))), (q5, .inl (cA6, 6, .inl (fun _ => 0))), (q7, .inl (cA8, 6, .inl (fun _ => 0))), (q9, .inl (cA10, 6, .inl (fun _ => 0))), (q11, .inl (cA12, 6, .inl (fun _ => 0))), (q13, .inl (cA14, 6, .inl (fun _ => 0))), (q15, .inl (cA16, 6, .inl (fun _ => 0))), (q17, .inl (cA18, 6, .inl (fun _ => 0))), (q19, .inl (cA20, 6, .inl (fun _ => 0)))] := hD
  have hK : va_K (dC, dI) vwCl [(cA2, .int), (cA4, .int), (cA6, .int), (cA8, .int), (cA10, .int), (cA12, .int), (cA14, .int), (cA16, .int), (cA18, .int), (cA20, .int)] s := hK
  refine W.widen (k := 10) (n := 59) (Nat.le_of_ble_eq_true rfl) (Nat.le_of_ble_eq_true rfl) ?_
  refine va_putF (D := (dC, dI)) (ci := 8) (v := .ref q19) (ty := .array .int) (C := RX11) (T := TX11) (N := 24) hx hb hts iX11_init_X11 tyX11 tyX11_ok nmX11 hown hK hP hD hS 0 rfl rfl 19 (by decide) (hts (.fieldLink RX11 43 "HookPierModel$Pier" "biteBait" "[I") (List.mem_of_getElem? (i := 15) rfl)) (fun _ h9 => h9) rfl hin rfl (by decide +kernel) rfl rfl (Nat.le_of_ble_eq_true rfl) dX11_init_85 (fun H locs hP hD hS => ?_)
  have hP : va_P (dC, dI) vwCl [(a0, .inr (8, [g1, g2, g3, g4, g5, g6, g7, g8, .int (-1), g10, .ref q1, .ref q3, .ref q5, .ref q7, .ref q9, .ref q11, .ref q13, .ref q15, .ref q17, .ref q19, g21, g22, g23, g24])), (q1, .inl (cA2, 5, .inl (fun _ => 0))), (q3, .inl (cA4, 6, .inl (fun _ => 0))), (q5, .inl (cA6, 6, .inl (fun _ => 0))), (q7, .inl (cA8, 6, .inl (fun _ => 0))), (q9, .inl (cA10, 6, .inl (fun _ => 0))), (q11, .inl (cA12, 6, .inl (fun _ => 0))), (q13, .inl (cA14, 6, .inl (fun _ => 0))), (q15, .inl (cA16, 6, .inl (fun _ => 0))), (q17, .inl (cA18, 6, .inl (fun _ => 0))), (q19, .inl (cA20, 6, .inl (fun _ => 0)))] H := hP
  have hD : va_D A [(a0, .inr (8, [g1, g2, g3, g4, g5, g6, g7, g8, .int (-1), g10, .ref q1, .ref q3, .ref q5, .ref q7, .ref q9, .ref q11, .ref q13, .ref q15, .ref q17, .ref q19, g21, g22, g23, g24])), (q1, .inl (cA2, 5, .inl (fun _ => 0))), (q3, .inl (cA4, 6, .inl (fun _ => 0))), (q5, .inl (cA6, 6, .inl (fun _ => 0))), (q7, .inl (cA8, 6, .inl (fun _ => 0))), (q9, .inl (cA10, 6, .inl (fun _ => 0))), (q11, .inl (cA12, 6, .inl (fun _ => 0))), (q13, .inl (cA14, 6, .inl (fun _ => 0))), (q15, .inl (cA16, 6, .inl (fun _ => 0))), (q17, .inl (cA18, 6, .inl (fun _ => 0))), (q19, .inl (cA20, 6, .inl (fun _ => 0)))] := hD
  refine lv_aload_n hx hb dX11_init_88 rfl (lv_at hl 0 rfl) ?_
  refine lv_bipush (v := 6) hx hb dX11_init_89 (by decide) ?_
  refine va_newa (atype := .int) hx hb (hts (.arrayClass .int) (List.mem_of_getElem? (i := 5) rfl)) (ty := .int) rfl hK hP hD hS hA (n := 6) (N' := 6) (a0 := (6, .inl (fun _ => 0))) (fun _ => rfl) (by decide) (by decide +kernel) (by decide +kernel) (Nat.le_of_ble_eq_true rfl) (Nat.le_of_ble_eq_true rfl) dX11_init_91 (fun q21 cA22 H hK hP hD hS => ?_)
  have hP : va_P (dC, dI) vwCl [(a0, .inr (8, [g1, g2, g3, g4, g5, g6, g7, g8, .int (-1), g10, .ref q1, .ref q3, .ref q5, .ref q7, .ref q9, .ref q11, .ref q13, .ref q15, .ref q17, .ref q19, g21, g22, g23, g24])), (q1, .inl (cA2, 5, .inl (fun _ => 0))), (q3, .inl (cA4, 6, .inl (fun _ => 0))), (q5, .inl (cA6, 6, .inl (fun _ => 0))), (q7, .inl (cA8, 6, .inl (fun _ => 0))), (q9, .inl (cA10, 6, .inl (fun _ => 0))), (q11, .inl (cA12, 6, .inl (fun _ => 0))), (q13, .inl (cA14, 6, .inl (fun _ => 0))), (q15, .inl (cA16, 6, .inl (fun _ => 0))), (q17, .inl (cA18, 6, .inl (fun _ => 0))), (q19, .inl (cA20, 6, .inl (fun _ => 0))), (q21, .inl (cA22, 6, .inl (fun _ => 0)))] H := hP
  have hD : va_D A [(a0, .inr (8, [g1, g2, g3, g4, g5, g6, g7, g8, .int (-1), g10, .ref q1, .ref q3, .ref q5, .ref q7, .ref q9, .ref q11, .ref q13, .ref q15, .ref q17, .ref q19, g21, g22, g23, g24])), (q1, .inl (cA2, 5, .inl (fun _ => 0))), (q3, .inl (cA4, 6, .inl (fun _ => 0))), (q5, .inl (cA6, 6, .inl (fun _ => 0))), (q7, .inl (cA8, 6, .inl (fun _ => 0))), (q9, .inl (cA10, 6, .inl (fun _ => 0))), (q11, .inl (cA12, 6, .inl (fun _ => 0))), (q13, .inl (cA14, 6, .inl (fun _ => 0))), (q15, .inl (cA16, 6, .inl (fun _ => 0))), (q17, .inl (cA18, 6, .inl (fun _ => 0))), (q19, .inl (cA20, 6, .inl (fun _ => 0))), (q21, .inl (cA22, 6, .inl (fun _ => 0)))] := hD
  have hK : va_K (dC, dI) vwCl [(cA2, .int), (cA4, .int), (cA6, .int), (cA8, .int), (cA10, .int), (cA12, .int), (cA14, .int), (cA16, .int), (cA18, .int), (cA20, .int), (cA22, .int)] s := hK
  refine W.widen (k := 11) (n := 65) (Nat.le_of_ble_eq_true rfl) (Nat.le_of_ble_eq_true rfl) ?_
  refine va_putF (D := (dC, dI)) (ci := 8) (v := .ref q21) (ty := .array .int) (C := RX11) (T := TX11) (N := 24) hx hb hts iX11_init_X11 tyX11 tyX11_ok nmX11 hown hK hP hD hS 0 rfl rfl 20 (by decide) (hts (.fieldLink RX11 46 "HookPierModel$Pier" "bit" "[I") (List.mem_of_getElem? (i := 16) rfl)) (fun _ h9 => h9) rfl hin rfl (by decide +kernel) rfl rfl (Nat.le_of_ble_eq_true rfl) dX11_init_93 (fun H locs hP hD hS => ?_)
  have hP : va_P (dC, dI) vwCl [(a0, .inr (8, [g1, g2, g3, g4, g5, g6, g7, g8, .int (-1), g10, .ref q1, .ref q3, .ref q5, .ref q7, .ref q9, .ref q11, .ref q13, .ref q15, .ref q17, .ref q19, .ref q21, g22, g23, g24])), (q1, .inl (cA2, 5, .inl (fun _ => 0))), (q3, .inl (cA4, 6, .inl (fun _ => 0))), (q5, .inl (cA6, 6, .inl (fun _ => 0))), (q7, .inl (cA8, 6, .inl (fun _ => 0))), (q9, .inl (cA10, 6, .inl (fun _ => 0))), (q11, .inl (cA12, 6, .inl (fun _ => 0))), (q13, .inl (cA14, 6, .inl (fun _ => 0))), (q15, .inl (cA16, 6, .inl (fun _ => 0))), (q17, .inl (cA18, 6, .inl (fun _ => 0))), (q19, .inl (cA20, 6, .inl (fun _ => 0))), (q21, .inl (cA22, 6, .inl (fun _ => 0)))] H := hP
  have hD : va_D A [(a0, .inr (8, [g1, g2, g3, g4, g5, g6, g7, g8, .int (-1), g10, .ref q1, .ref q3, .ref q5, .ref q7, .ref q9, .ref q11, .ref q13, .ref q15, .ref q17, .ref q19, .ref q21, g22, g23, g24])), (q1, .inl (cA2, 5, .inl (fun _ => 0))), (q3, .inl (cA4, 6, .inl (fun _ => 0))), (q5, .inl (cA6, 6, .inl (fun _ => 0))), (q7, .inl (cA8, 6, .inl (fun _ => 0))), (q9, .inl (cA10, 6, .inl (fun _ => 0))), (q11, .inl (cA12, 6, .inl (fun _ => 0))), (q13, .inl (cA14, 6, .inl (fun _ => 0))), (q15, .inl (cA16, 6, .inl (fun _ => 0))), (q17, .inl (cA18, 6, .inl (fun _ => 0))), (q19, .inl (cA20, 6, .inl (fun _ => 0))), (q21, .inl (cA22, 6, .inl (fun _ => 0)))] := hD
  refine lv_aload_n hx hb dX11_init_96 rfl (lv_at hl 0 rfl) ?_
  refine lv_bipush (v := 15) hx hb dX11_init_97 (by decide) ?_
  refine va_newa (atype := .long) hx hb (hts (.arrayClass .long) (List.mem_of_getElem? (i := 17) rfl)) (ty := .long) rfl hK hP hD hS hA (n := 15) (N' := 15) (a0 := (15, .inr (.inl (fun _ => 0)))) (fun _ => rfl) (by decide) (by decide +kernel) (by decide +kernel) (Nat.le_of_ble_eq_true rfl) (Nat.le_of_ble_eq_true rfl) dX11_init_99 (fun q23 cA24 H hK hP hD hS => ?_)
  have hP : va_P (dC, dI) vwCl [(a0, .inr (8, [g1, g2, g3, g4, g5, g6, g7, g8, .int (-1), g10, .ref q1, .ref q3, .ref q5, .ref q7, .ref q9, .ref q11, .ref q13, .ref q15, .ref q17, .ref q19, .ref q21, g22, g23, g24])), (q1, .inl (cA2, 5, .inl (fun _ => 0))), (q3, .inl (cA4, 6, .inl (fun _ => 0))), (q5, .inl (cA6, 6, .inl (fun _ => 0))), (q7, .inl (cA8, 6, .inl (fun _ => 0))), (q9, .inl (cA10, 6, .inl (fun _ => 0))), (q11, .inl (cA12, 6, .inl (fun _ => 0))), (q13, .inl (cA14, 6, .inl (fun _ => 0))), (q15, .inl (cA16, 6, .inl (fun _ => 0))), (q17, .inl (cA18, 6, .inl (fun _ => 0))), (q19, .inl (cA20, 6, .inl (fun _ => 0))), (q21, .inl (cA22, 6, .inl (fun _ => 0))), (q23, .inl (cA24, 15, .inr (.inl (fun _ => 0))))] H := hP
  have hD : va_D A [(a0, .inr (8, [g1, g2, g3, g4, g5, g6, g7, g8, .int (-1), g10, .ref q1, .ref q3, .ref q5, .ref q7, .ref q9, .ref q11, .ref q13, .ref q15, .ref q17, .ref q19, .ref q21, g22, g23, g24])), (q1, .inl (cA2, 5, .inl (fun _ => 0))), (q3, .inl (cA4, 6, .inl (fun _ => 0))), (q5, .inl (cA6, 6, .inl (fun _ => 0))), (q7, .inl (cA8, 6, .inl (fun _ => 0))), (q9, .inl (cA10, 6, .inl (fun _ => 0))), (q11, .inl (cA12, 6, .inl (fun _ => 0))), (q13, .inl (cA14, 6, .inl (fun _ => 0))), (q15, .inl (cA16, 6, .inl (fun _ => 0))), (q17, .inl (cA18, 6, .inl (fun _ => 0))), (q19, .inl (cA20, 6, .inl (fun _ => 0))), (q21, .inl (cA22, 6, .inl (fun _ => 0))), (q23, .inl (cA24, 15, .inr (.inl (fun _ => 0))))] := hD
  have hK : va_K (dC, dI) vwCl [(cA2, .int), (cA4, .int), (cA6, .int), (cA8, .int), (cA10, .int), (cA12, .int), (cA14, .int), (cA16, .int), (cA18, .int), (cA20, .int), (cA22, .int), (cA24, .long)] s := hK
  refine W.widen (k := 12) (n := 80) (Nat.le_of_ble_eq_true rfl) (Nat.le_of_ble_eq_true rfl) ?_
  refine va_putF (D := (dC, dI)) (ci := 8) (v := .ref q23) (ty := .array .long) (C := RX11) (T := TX11) (N := 24) hx hb hts iX11_init_X11 tyX11 tyX11_ok nmX11 hown hK hP hD hS 0 rfl rfl 21 (by decide) (hts (.fieldLink RX11 49 "HookPierModel$Pier" "name" "[J") (List.mem_of_getElem? (i := 18) rfl)) (fun _ h9 => h9) rfl hin rfl (by decide +kernel) rfl rfl (Nat.le_of_ble_eq_true rfl) dX11_init_101 (fun H locs hP hD hS => ?_)
  have hP : va_P (dC, dI) vwCl [(a0, .inr (8, [g1, g2, g3, g4, g5, g6, g7, g8, .int (-1), g10, .ref q1, .ref q3, .ref q5, .ref q7, .ref q9, .ref q11, .ref q13, .ref q15, .ref q17, .ref q19, .ref q21, .ref q23, g23, g24])), (q1, .inl (cA2, 5, .inl (fun _ => 0))), (q3, .inl (cA4, 6, .inl (fun _ => 0))), (q5, .inl (cA6, 6, .inl (fun _ => 0))), (q7, .inl (cA8, 6, .inl (fun _ => 0))), (q9, .inl (cA10, 6, .inl (fun _ => 0))), (q11, .inl (cA12, 6, .inl (fun _ => 0))), (q13, .inl (cA14, 6, .inl (fun _ => 0))), (q15, .inl (cA16, 6, .inl (fun _ => 0))), (q17, .inl (cA18, 6, .inl (fun _ => 0))), (q19, .inl (cA20, 6, .inl (fun _ => 0))), (q21, .inl (cA22, 6, .inl (fun _ => 0))), (q23, .inl (cA24, 15, .inr (.inl (fun _ => 0))))] H := hP
  have hD : va_D A [(a0, .inr (8, [g1, g2, g3, g4, g5, g6, g7, g8, .int (-1), g10, .ref q1, .ref q3, .ref q5, .ref q7, .ref q9, .ref q11, .ref q13, .ref q15, .ref q17, .ref q19, .ref q21, .ref q23, g23, g24])), (q1, .inl (cA2, 5, .inl (fun _ => 0))), (q3, .inl (cA4, 6, .inl (fun _ => 0))), (q5, .inl (cA6, 6, .inl (fun _ => 0))), (q7, .inl (cA8, 6, .inl (fun _ => 0))), (q9, .inl (cA10, 6, .inl (fun _ => 0))), (q11, .inl (cA12, 6, .inl (fun _ => 0))), (q13, .inl (cA14, 6, .inl (fun _ => 0))), (q15, .inl (cA16, 6, .inl (fun _ => 0))), (q17, .inl (cA18, 6, .inl (fun _ => 0))), (q19, .inl (cA20, 6, .inl (fun _ => 0))), (q21, .inl (cA22, 6, .inl (fun _ => 0))), (q23, .inl (cA24, 15, .inr (.inl (fun _ => 0))))] := hD
  refine lv_aload_n hx hb dX11_init_104 rfl (lv_at hl 0 rfl) ?_
  refine lv_bipush (v := 15) hx hb dX11_init_105 (by decide) ?_
  refine va_newa (atype := .int) hx hb (hts (.arrayClass .int) (List.mem_of_getElem? (i := 5) rfl)) (ty := .int) rfl hK hP hD hS hA (n := 15) (N' := 15) (a0 := (15, .inl (fun _ => 0))) (fun _ => rfl) (by decide) (by decide +kernel) (by decide +kernel) (Nat.le_of_ble_eq_true rfl) (Nat.le_of_ble_eq_true rfl) dX11_init_107 (fun q25 cA26 H hK hP hD hS => ?_)
  have hP : va_P (dC, dI) vwCl [(a0, .inr (8, [g1, g2, g3, g4, g5, g6, g7, g8, .int (-1), g10, .ref q1, .ref q3, .ref q5, .ref q7, .ref q9, .ref q11, .ref q13, .ref q15, .ref q17, .ref q19, .ref q21, .ref q23, g23, g24])), (q1, .inl (cA2, 5, .inl (fun _ => 0))), (q3, .inl (cA4, 6, .inl (fun _ => 0))), (q5, .inl (cA6, 6, .inl (fun _ => 0))), (q7, .inl (cA8, 6, .inl (fun _ => 0))), (q9, .inl (cA10, 6, .inl (fun _ => 0))), (q11, .inl (cA12, 6, .inl (fun _ => 0))), (q13, .inl (cA14, 6, .inl (fun _ => 0))), (q15, .inl (cA16, 6, .inl (fun _ => 0))), (q17, .inl (cA18, 6, .inl (fun _ => 0))), (q19, .inl (cA20, 6, .inl (fun _ => 0))), (q21, .inl (cA22, 6, .inl (fun _ => 0))), (q23, .inl (cA24, 15, .inr (.inl (fun _ => 0)))), (q25, .inl (cA26, 15, .inl (fun _ => 0)))] H := hP
  have hD : va_D A [(a0, .inr (8, [g1, g2, g3, g4, g5, g6, g7, g8, .int (-1), g10, .ref q1, .ref q3, .ref q5, .ref q7, .ref q9, .ref q11, .ref q13, .ref q15, .ref q17, .ref q19, .ref q21, .ref q23, g23, g24])), (q1, .inl (cA2, 5, .inl (fun _ => 0))), (q3, .inl (cA4, 6, .inl (fun _ => 0))), (q5, .inl (cA6, 6, .inl (fun _ => 0))), (q7, .inl (cA8, 6, .inl (fun _ => 0))), (q9, .inl (cA10, 6, .inl (fun _ => 0))), (q11, .inl (cA12, 6, .inl (fun _ => 0))), (q13, .inl (cA14, 6, .inl (fun _ => 0))), (q15, .inl (cA16, 6, .inl (fun _ => 0))), (q17, .inl (cA18, 6, .inl (fun _ => 0))), (q19, .inl (cA20, 6, .inl (fun _ => 0))), (q21, .inl (cA22, 6, .inl (fun _ => 0))), (q23, .inl (cA24, 15, .inr (.inl (fun _ => 0)))), (q25, .inl (cA26, 15, .inl (fun _ => 0)))] := hD
  have hK : va_K (dC, dI) vwCl [(cA2, .int), (cA4, .int), (cA6, .int), (cA8, .int), (cA10, .int), (cA12, .int), (cA14, .int), (cA16, .int), (cA18, .int), (cA20, .int), (cA22, .int), (cA24, .long), (cA26, .int)] s := hK
  refine W.widen (k := 13) (n := 95) (Nat.le_of_ble_eq_true rfl) (Nat.le_of_ble_eq_true rfl) ?_
  refine va_putF (D := (dC, dI)) (ci := 8) (v := .ref q25) (ty := .array .int) (C := RX11) (T := TX11) (N := 24) hx hb hts iX11_init_X11 tyX11 tyX11_ok nmX11 hown hK hP hD hS 0 rfl rfl 22 (by decide) (hts (.fieldLink RX11 53 "HookPierModel$Pier" "nameSort" "[I") (List.mem_of_getElem? (i := 19) rfl)) (fun _ h9 => h9) rfl hin rfl (by decide +kernel) rfl rfl (Nat.le_of_ble_eq_true rfl) dX11_init_109 (fun H locs hP hD hS => ?_)
  have hP : va_P (dC, dI) vwCl [(a0, .inr (8, [g1, g2, g3, g4, g5, g6, g7, g8, .int (-1), g10, .ref q1, .ref q3, .ref q5, .ref q7, .ref q9, .ref q11, .ref q13, .ref q15, .ref q17, .ref q19, .ref q21, .ref q23, .ref q25, g24])), (q1, .inl (cA2, 5, .inl (fun _ => 0))), (q3, .inl (cA4, 6, .inl (fun _ => 0))), (q5, .inl (cA6, 6, .inl (fun _ => 0))), (q7, .inl (cA8, 6, .inl (fun _ => 0))), (q9, .inl (cA10, 6, .inl (fun _ => 0))), (q11, .inl (cA12, 6, .inl (fun _ => 0))), (q13, .inl (cA14, 6, .inl (fun _ => 0))), (q15, .inl (cA16, 6, .inl (fun _ => 0))), (q17, .inl (cA18, 6, .inl (fun _ => 0))), (q19, .inl (cA20, 6, .inl (fun _ => 0))), (q21, .inl (cA22, 6, .inl (fun _ => 0))), (q23, .inl (cA24, 15, .inr (.inl (fun _ => 0)))), (q25, .inl (cA26, 15, .inl (fun _ => 0)))] H := hP
  have hD : va_D A [(a0, .inr (8, [g1, g2, g3, g4, g5, g6, g7, g8, .int (-1), g10, .ref q1, .ref q3, .ref q5, .ref q7, .ref q9, .ref q11, .ref q13, .ref q15, .ref q17, .ref q19, .ref q21, .ref q23, .ref q25, g24])), (q1, .inl (cA2, 5, .inl (fun _ => 0))), (q3, .inl (cA4, 6, .inl (fun _ => 0))), (q5, .inl (cA6, 6, .inl (fun _ => 0))), (q7, .inl (cA8, 6, .inl (fun _ => 0))), (q9, .inl (cA10, 6, .inl (fun _ => 0))), (q11, .inl (cA12, 6, .inl (fun _ => 0))), (q13, .inl (cA14, 6, .inl (fun _ => 0))), (q15, .inl (cA16, 6, .inl (fun _ => 0))), (q17, .inl (cA18, 6, .inl (fun _ => 0))), (q19, .inl (cA20, 6, .inl (fun _ => 0))), (q21, .inl (cA22, 6, .inl (fun _ => 0))), (q23, .inl (cA24, 15, .inr (.inl (fun _ => 0)))), (q25, .inl (cA26, 15, .inl (fun _ => 0)))] := hD
  refine lv_aload_n hx hb dX11_init_112 rfl (lv_at hl 0 rfl) ?_
  refine lv_bipush (v := 15) hx hb dX11_init_113 (by decide) ?_
  refine va_newa (atype := .int) hx hb (hts (.arrayClass .int) (List.mem_of_getElem? (i := 5) rfl)) (ty := .int) rfl hK hP hD hS hA (n := 15) (N' := 15) (a0 := (15, .inl (fun _ => 0))) (fun _ => rfl) (by decide) (by decide +kernel) (by decide +kernel) (Nat.le_of_ble_eq_true rfl) (Nat.le_of_ble_eq_true rfl) dX11_init_115 (fun q27 cA28 H hK hP hD hS => ?_)
  have hP : va_P (dC, dI) vwCl [(a0, .inr (8, [g1, g2, g3, g4, g5, g6, g7, g8, .int (-1), g10, .ref q1, .ref q3, .ref q5, .ref q7, .ref q9, .ref q11, .ref q13, .ref q15, .ref q17, .ref q19, .ref q21, .ref q23, .ref q25, g24])), (q1, .inl (cA2, 5, .inl (fun _ => 0))), (q3, .inl (cA4, 6, .inl (fun _ => 0))), (q5, .inl (cA6, 6, .inl (fun _ => 0))), (q7, .inl (cA8, 6, .inl (fun _ => 0))), (q9, .inl (cA10, 6, .inl (fun _ => 0))), (q11, .inl (cA12, 6, .inl (fun _ => 0))), (q13, .inl (cA14, 6, .inl (fun _ => 0))), (q15, .inl (cA16, 6, .inl (fun _ => 0))), (q17, .inl (cA18, 6, .inl (fun _ => 0))), (q19, .inl (cA20, 6, .inl (fun _ => 0))), (q21, .inl (cA22, 6, .inl (fun _ => 0))), (q23, .inl (cA24, 15, .inr (.inl (fun _ => 0)))), (q25, .inl (cA26, 15, .inl (fun _ => 0))), (q27, .inl (cA28, 15, .inl (fun _ => 0)))] H := hP
  have hD : va_D A [(a0, .inr (8, [g1, g2, g3, g4, g5, g6, g7, g8, .int (-1), g10, .ref q1, .ref q3, .ref q5, .ref q7, .ref q9, .ref q11, .ref q13, .ref q15, .ref q17, .ref q19, .ref q21, .ref q23, .ref q25, g24])), (q1, .inl (cA2, 5, .inl (fun _ => 0))), (q3, .inl (cA4, 6, .inl (fun _ => 0))), (q5, .inl (cA6, 6, .inl (fun _ => 0))), (q7, .inl (cA8, 6, .inl (fun _ => 0))), (q9, .inl (cA10, 6, .inl (fun _ => 0))), (q11, .inl (cA12, 6, .inl (fun _ => 0))), (q13, .inl (cA14, 6, .inl (fun _ => 0))), (q15, .inl (cA16, 6, .inl (fun _ => 0))), (q17, .inl (cA18, 6, .inl (fun _ => 0))), (q19, .inl (cA20, 6, .inl (fun _ => 0))), (q21, .inl (cA22, 6, .inl (fun _ => 0))), (q23, .inl (cA24, 15, .inr (.inl (fun _ => 0)))), (q25, .inl (cA26, 15, .inl (fun _ => 0))), (q27, .inl (cA28, 15, .inl (fun _ => 0)))] := hD
  have hK : va_K (dC, dI) vwCl [(cA2, .int), (cA4, .int), (cA6, .int), (cA8, .int), (cA10, .int), (cA12, .int), (cA14, .int), (cA16, .int), (cA18, .int), (cA20, .int), (cA22, .int), (cA24, .long), (cA26, .int), (cA28, .int)] s := hK
  refine W.widen (k := 14) (n := 110) (Nat.le_of_ble_eq_true rfl) (Nat.le_of_ble_eq_true rfl) ?_
  refine va_putF (D := (dC, dI)) (ci := 8) (v := .ref q27) (ty := .array .int) (C := RX11) (T := TX11) (N := 24) hx hb hts iX11_init_X11 tyX11 tyX11_ok nmX11 hown hK hP hD hS 0 rfl rfl 23 (by decide) (hts (.fieldLink RX11 56 "HookPierModel$Pier" "numberOf" "[I") (List.mem_of_getElem? (i := 20) rfl)) (fun _ h9 => h9) rfl hin rfl (by decide +kernel) rfl rfl (Nat.le_of_ble_eq_true rfl) dX11_init_117 (fun H locs hP hD hS => ?_)
  have hP : va_P (dC, dI) vwCl [(a0, .inr (8, [g1, g2, g3, g4, g5, g6, g7, g8, .int (-1), g10, .ref q1, .ref q3, .ref q5, .ref q7, .ref q9, .ref q11, .ref q13, .ref q15, .ref q17, .ref q19, .ref q21, .ref q23, .ref q25, .ref q27])), (q1, .inl (cA2, 5, .inl (fun _ => 0))), (q3, .inl (cA4, 6, .inl (fun _ => 0))), (q5, .inl (cA6, 6, .inl (fun _ => 0))), (q7, .inl (cA8, 6, .inl (fun _ => 0))), (q9, .inl (cA10, 6, .inl (fun _ => 0))), (q11, .inl (cA12, 6, .inl (fun _ => 0))), (q13, .inl (cA14, 6, .inl (fun _ => 0))), (q15, .inl (cA16, 6, .inl (fun _ => 0))), (q17, .inl (cA18, 6, .inl (fun _ => 0))), (q19, .inl (cA20, 6, .inl (fun _ => 0))), (q21, .inl (cA22, 6, .inl (fun _ => 0))), (q23, .inl (cA24, 15, .inr (.inl (fun _ => 0)))), (q25, .inl (cA26, 15, .inl (fun _ => 0))), (q27, .inl (cA28, 15, .inl (fun _ => 0)))] H := hP
  have hD : va_D A [(a0, .inr (8, [g1, g2, g3, g4, g5, g6, g7, g8, .int (-1), g10, .ref q1, .ref q3, .ref q5, .ref q7, .ref q9, .ref q11, .ref q13, .ref q15, .ref q17, .ref q19, .ref q21, .ref q23, .ref q25, .ref q27])), (q1, .inl (cA2, 5, .inl (fun _ => 0))), (q3, .inl (cA4, 6, .inl (fun _ => 0))), (q5, .inl (cA6, 6, .inl (fun _ => 0))), (q7, .inl (cA8, 6, .inl (fun _ => 0))), (q9, .inl (cA10, 6, .inl (fun _ => 0))), (q11, .inl (cA12, 6, .inl (fun _ => 0))), (q13, .inl (cA14, 6, .inl (fun _ => 0))), (q15, .inl (cA16, 6, .inl (fun _ => 0))), (q17, .inl (cA18, 6, .inl (fun _ => 0))), (q19, .inl (cA20, 6, .inl (fun _ => 0))), (q21, .inl (cA22, 6, .inl (fun _ => 0))), (q23, .inl (cA24, 15, .inr (.inl (fun _ => 0)))), (q25, .inl (cA26, 15, .inl (fun _ => 0))), (q27, .inl (cA28, 15, .inl (fun _ => 0)))] := hD
  have hP9 := hP.sub (ws' := [(a0, .inr (8, [g1, g2, g3, g4, g5, g6, g7, g8, .int (-1), g10, .ref q1, .ref q3, .ref q5, .ref q7, .ref q9, .ref q11, .ref q13, .ref q15, .ref q17, .ref q19, .ref q21, .ref q23, .ref q25, .ref q27]))]) [0] rfl
  have hD9 := hD.sub (ws' := [(a0, .inr (8, [g1, g2, g3, g4, g5, g6, g7, g8, .int (-1), g10, .ref q1, .ref q3, .ref q5, .ref q7, .ref q9, .ref q11, .ref q13, .ref q15, .ref q17, .ref q19, .ref q21, .ref q23, .ref q25, .ref q27]))]) [0] (by decide) rfl
  have hK9 := hK.sub (tys' := []) [] rfl
  exact W.vret hx hb hr (fun t ht hW => ⟨⟨(q1, q3, q5, q7, q9, q11, q13, q15, q17, q19, q21, q23, q25, q27), rfl, trivial, by rw [ht]; exact hP9, va_K.moved hW.alike hK9, hD9⟩, hS.F ht⟩) hS.2.2 dX11_init_120
theorem dX12_byteAt_0 : decode cX12_byteAt 0 = .ok (.iload_n 1, 1) := by decide +kernel
theorem dX12_byteAt_1 : decode cX12_byteAt 1 = .ok (.aload_n 0, 1) := by decide +kernel
theorem dX12_byteAt_2 : decode cX12_byteAt 2 = .ok (.getfield 53, 3) := by decide +kernel
theorem dX12_byteAt_21 : decode cX12_byteAt 21 = .ok (.iconst (-1), 1) := by decide +kernel
theorem dX12_byteAt_22 : decode cX12_byteAt 22 = .ok (.ireturn, 1) := by decide +kernel
theorem dX12_byteAt_5 : decode cX12_byteAt 5 = .ok (.if_icmp .ge 16, 3) := by decide +kernel
def vX12_byteAt : List Cond := .code yX12_byteAt cX12_byteAt 2 (some .int) :: ([.fieldLink RX12 53 "HookPierModel" "size" "I"] ++ wsX120)
theorem iX12_byteAt_X12 : ∀ w ∈ wsX120, w ∈ vX12_byteAt := fun _ h => List.mem_cons_of_mem _ (List.mem_append_right _ h)
set_option maxHeartbeats 1000000 in
set_option maxRecDepth 100000 in
theorem kX12_byteAt (l : Launch) (dC : Nat → ClassId) (dI : Nat → Nat → Nat) (a0 : Nat) (g1 : Value) (g2 : Value) (g3 : Value) (g4 : Value) (g5 : Value) (g6 : Value) (g7 : Value) (g8 : Value) (g9 : Value) (g10 : Value) (g11 : Value) (g12 : Value) (g13 : Value) (g14 : Value) (g15 : Value) (g16 : Value) (g17 : Value) (g18 : Value) (g19 : Value) (g20 : Value) (g21 : Value) (g22 : Value) (g23 : Value) (g24 : Value) (g25 : Value) (g26 : Value) (g27 : Value) (g28 : Value) (g29 : Value) (sz : Nat) : Met l yX12_byteAt vX12_byteAt ({ frames := 0, cells := 0, slots := 0, locals := 0 }) (PC (dC, dI) [.ref a0, .int 0] sz [(a0, .inr (9, [g1, g2, g3, g4, g5, g6, g7, .int 0, g8, g9, g10, g11, g12, g13, g14, g15, g16, g17, g18, g19, g20, g21, g22, g23, g24, g25, g26, g27, g28, g29]))] []) (va_Qi (S := Unit) (fun (r : Int32) _ => r = (-1)) (fun _ t => BC (dC, dI) (va_A [(a0, .inr (9, [g1, g2, g3, g4, g5, g6, g7, .int 0, g8, g9, g10, g11, g12, g13, g14, g15, g16, g17, g18, g19, g20, g21, g22, g23, g24, g25, g26, g27, g28, g29]))] sz) [(a0, .inr (9, [g1, g2, g3, g4, g5, g6, g7, .int 0, g8, g9, g10, g11, g12, g13, g14, g15, g16, g17, g18, g19, g20, g21, g22, g23, g24, g25, g26, g27, g28, g29]))] [] t) (va_A [(a0, .inr (9, [g1, g2, g3, g4, g5, g6, g7, .int 0, g8, g9, g10, g11, g12, g13, g14, g15, g16, g17, g18, g19, g20, g21, g22, g23, g24, g25, g26, g27, g28, g29]))] sz)) 0 0 (va_A [(a0, .inr (9, [g1, g2, g3, g4, g5, g6, g7, .int 0, g8, g9, g10, g11, g12, g13, g14, g15, g16, g17, g18, g19, g20, g21, g22, g23, g24, g25, g26, g27, g28, g29]))] sz) := by
  refine Met.ofW (cc := cX12_byteAt) (maxL := 2) (ret := (some .int)) (by decide) rfl ?_
  intro p e s m args below meth c s₁ B hml hv
  obtain ⟨rfl, hsz, hP, hK, hD0, hN⟩ := hv
  have hx := B.exec
  have hb := B.bytes
  have hr := B.returns
  have hts := atoms_spec (ws := vX12_byteAt) B.pre
  have hown : s.vm.findClass RX12 = some m.cls := findClass_of_methodNamed B.named
  have hlocks := B.notSynchronized
  subst hsz
  have hD := hD0.self (sz := s.heap.size)
  generalize hAe : va_A [(a0, .inr (9, [g1, g2, g3, g4, g5, g6, g7, .int 0, g8, g9, g10, g11, g12, g13, g14, g15, g16, g17, g18, g19, g20, g21, g22, g23, g24, g25, g26, g27, g28, g29]))] s.heap.size = A at hD ⊢
  have hA : ∀ q : Nat, s.heap.size ≤ q → A q := fun q h => by rw [← hAe]; exact Or.inr h
  have hS : va_S A s.heap s.heap [] := va_S.rf
  have hP : va_P (dC, dI) vwCl [(a0, .inr (9, [g1, g2, g3, g4, g5, g6, g7, .int 0, g8, g9, g10, g11, g12, g13, g14, g15, g16, g17, g18, g19, g20, g21, g22, g23, g24, g25, g26, g27, g28, g29]))] s.heap := hP
  have hl := lv_entry ([.ref a0, .int 0]) (n := 2) (Nat.le_of_ble_eq_true rfl)
  rw [lg_entry_eq]
  generalize (lg_sl ([.ref a0, .int 0]) ++ List.replicate (2 - (lg_sl ([.ref a0, .int 0])).length) Slot.unset).toArray = ls at hl ⊢
  have hl : lv_has ls 2 [(0, .ref a0), (1, .int 0)] := hl
  refine lv_iload_n hx hb dX12_byteAt_0 rfl (lv_at hl 1 rfl) ?_
  refine lv_aload_n hx hb dX12_byteAt_1 rfl (lv_at hl 0 rfl) ?_
  refine va_get (D := (dC, dI)) (ci := 9) (v := .int 0) (C := RX12) (T := TX12) (N := 30) hx hb hts iX12_byteAt_X12 hown hK hP 0 rfl rfl 7 (by decide) (hts (.fieldLink RX12 53 "HookPierModel" "size" "I") (List.mem_of_getElem? (i := 1) rfl)) (fun _ h9 => h9) rfl dX12_byteAt_2 ?_
  refine lv_icmp_ge (tgt := 21) hx hb dX12_byteAt_5 (by decide) (fun _ => ?_) (fun c1 => absurd c1 (by decide))
  refine lv_iconst (v := (-1)) hx hb dX12_byteAt_21 (by decide) ?_
  have hP9 := hP.sub (ws' := [(a0, .inr (9, [g1, g2, g3, g4, g5, g6, g7, .int 0, g8, g9, g10, g11, g12, g13, g14, g15, g16, g17, g18, g19, g20, g21, g22, g23, g24, g25, g26, g27, g28, g29]))]) [0] rfl
  have hD9 := hD.sub (ws' := [(a0, .inr (9, [g1, g2, g3, g4, g5, g6, g7, .int 0, g8, g9, g10, g11, g12, g13, g14, g15, g16, g17, g18, g19, g20, g21, g22, g23, g24, g25, g26, g27, g28, g29]))]) [0] (by decide) rfl
  have hK9 := hK.sub (tys' := []) [] rfl
  exact W.iret (v := (-1)) hx hb hr (fun t ht hW => ⟨⟨(-1), (), rfl, rfl, by rw [ht]; exact hP9, va_K.moved hW.alike hK9, hD9⟩, hS.F ht⟩) hS.2.2 dX12_byteAt_22
theorem dX12_goesOn_0 : decode cX12_goesOn 0 = .ok (.aload_n 0, 1) := by decide +kernel
theorem dX12_goesOn_1 : decode cX12_goesOn 1 = .ok (.getfield 68, 3) := by decide +kernel
theorem dX12_goesOn_10 : decode cX12_goesOn 10 = .ok (.aload_n 0, 1) := by decide +kernel
theorem dX12_goesOn_11 : decode cX12_goesOn 11 = .ok (.getfield 71, 3) := by decide +kernel
theorem dX12_goesOn_14 : decode cX12_goesOn 14 = .ok (.invokevirtual 74, 3) := by decide +kernel
theorem dX12_goesOn_17 : decode cX12_goesOn 17 = .ok (.bipush 32, 2) := by decide +kernel
theorem dX12_goesOn_19 : decode cX12_goesOn 19 = .ok (.if_icmp .ne 16, 3) := by decide +kernel
theorem dX12_goesOn_265 : decode cX12_goesOn 265 = .ok (.return_, 1) := by decide +kernel
theorem dX12_goesOn_35 : decode cX12_goesOn 35 = .ok (.aload_n 0, 1) := by decide +kernel
theorem dX12_goesOn_36 : decode cX12_goesOn 36 = .ok (.aload_n 0, 1) := by decide +kernel
theorem dX12_goesOn_37 : decode cX12_goesOn 37 = .ok (.getfield 71, 3) := by decide +kernel
theorem dX12_goesOn_4 : decode cX12_goesOn 4 = .ok (.iconst 5, 1) := by decide +kernel
theorem dX12_goesOn_40 : decode cX12_goesOn 40 = .ok (.putfield 77, 3) := by decide +kernel
theorem dX12_goesOn_43 : decode cX12_goesOn 43 = .ok (.aload_n 0, 1) := by decide +kernel
theorem dX12_goesOn_44 : decode cX12_goesOn 44 = .ok (.iconst 0, 1) := by decide +kernel
theorem dX12_goesOn_45 : decode cX12_goesOn 45 = .ok (.putfield 68, 3) := by decide +kernel
theorem dX12_goesOn_48 : decode cX12_goesOn 48 = .ok (.aload_n 0, 1) := by decide +kernel
theorem dX12_goesOn_49 : decode cX12_goesOn 49 = .ok (.aload_n 0, 1) := by decide +kernel
theorem dX12_goesOn_5 : decode cX12_goesOn 5 = .ok (.if_icmp .ne 4, 3) := by decide +kernel
theorem dX12_goesOn_50 : decode cX12_goesOn 50 = .ok (.getfield 71, 3) := by decide +kernel
theorem dX12_goesOn_53 : decode cX12_goesOn 53 = .ok (.invokevirtual 74, 3) := by decide +kernel
theorem dX12_goesOn_56 : decode cX12_goesOn 56 = .ok (.istore_n 1, 1) := by decide +kernel
theorem dX12_goesOn_57 : decode cX12_goesOn 57 = .ok (.iconst 0, 1) := by decide +kernel
theorem dX12_goesOn_58 : decode cX12_goesOn 58 = .ok (.istore_n 2, 1) := by decide +kernel
theorem dX12_goesOn_59 : decode cX12_goesOn 59 = .ok (.iload_n 1, 1) := by decide +kernel
theorem dX12_goesOn_60 : decode cX12_goesOn 60 = .ok (.iconst (-1), 1) := by decide +kernel
theorem dX12_goesOn_61 : decode cX12_goesOn 61 = .ok (.if_icmp .ne 11, 3) := by decide +kernel
theorem dX12_goesOn_64 : decode cX12_goesOn 64 = .ok (.aload_n 0, 1) := by decide +kernel
theorem dX12_goesOn_65 : decode cX12_goesOn 65 = .ok (.iconst 1, 1) := by decide +kernel
theorem dX12_goesOn_66 : decode cX12_goesOn 66 = .ok (.putfield 68, 3) := by decide +kernel
theorem dX12_goesOn_69 : decode cX12_goesOn 69 = .ok (.goto 196, 3) := by decide +kernel
theorem dX12_goesOn_9 : decode cX12_goesOn 9 = .ok (.aload_n 0, 1) := by decide +kernel
def vX12_goesOn : List Cond := .code yX12_goesOn cX12_goesOn 3 none :: ([.fieldLink RX12 68 "HookPierModel" "sort" "I", .fieldLink RX12 71 "HookPierModel" "spot" "I", .methodLink RX12 74 yX12_byteAt, .instanceMethod yX12_byteAt, .selects RX12 yX12_byteAt yX12_byteAt, .initialized RX12, .code yX12_byteAt cX12_byteAt 2 (some .int), .fieldLink RX12 53 "HookPierModel" "size" "I", .fieldLink RX12 77 "HookPierModel" "place" "I"] ++ wsX120)
theorem iX12_goesOn_X12 : ∀ w ∈ wsX120, w ∈ vX12_goesOn := fun _ h => List.mem_cons_of_mem _ (List.mem_append_right _ h)
set_option maxRecDepth 20000 in
theorem gX12_goesOn_0 : GoodIn vX12_goesOn (wsV RX12 74 RX12 yX12_byteAt vX12_byteAt) := goodIn_app (goodIn_r [.methodLink RX12 74 yX12_byteAt, .instanceMethod yX12_byteAt, .selects RX12 yX12_byteAt yX12_byteAt, .initialized RX12] [3, 4, 5, 6] (by decide +kernel) (by decide +kernel)) (goodIn_ca (goodIn_r (.code yX12_byteAt cX12_byteAt 2 (some .int) :: [.fieldLink RX12 53 "HookPierModel" "size" "I"]) [7, 8] (by decide +kernel) (by decide +kernel) : GoodIn vX12_goesOn (.code yX12_byteAt cX12_byteAt 2 (some .int) :: [.fieldLink RX12 53 "HookPierModel" "size" "I"])) (goodIn_sub iX12_goesOn_X12 (by decide +kernel)))
set_option maxHeartbeats 1000000 in
set_option maxRecDepth 100000 in
theorem kX12_goesOn (l : Launch) (dC : Nat → ClassId) (dI : Nat → Nat → Nat) (a0 : Nat) (g1 : Value) (g2 : Value) (g3 : Value) (g4 : Value) (g5 : Value) (g6 : Value) (g7 : Value) (g8 : Value) (g9 : Value) (g10 : Value) (g11 : Value) (g12 : Value) (g13 : Value) (g14 : Value) (g15 : Value) (g16 : Value) (g17 : Value) (g18 : Value) (g19 : Value) (g20 : Value) (g21 : Value) (g22 : Value) (g23 : Value) (g24 : Value) (g25 : Value) (g26 : Value) (g27 : Value) (sz : Nat) : Met l yX12_goesOn vX12_goesOn ({ frames := 1, cells := 0, slots := 0, locals := 21 }) (PC (dC, dI) [.ref a0] sz [(a0, .inr (9, [g1, g2, g3, g4, g5, g6, g7, .int 0, .int 0, .int 0, g8, g9, g10, g11, g12, g13, g14, g15, g16, g17, g18, g19, g20, g21, g22, g23, g24, g25, g26, g27]))] []) (va_Qv (S := Unit) (fun _ => True) (fun _ t => BC (dC, dI) (va_A [(a0, .inr (9, [g1, g2, g3, g4, g5, g6, g7, .int 0, .int 0, .int 0, g8, g9, g10, g11, g12, g13, g14, g15, g16, g17, g18, g19, g20, g21, g22, g23, g24, g25, g26, g27]))] sz) [(a0, .inr (9, [g1, g2, g3, g4, g5, g6, g7, .int 0, .int 0, .int 1, .int 0, g9, g10, g11, g12, g13, g14, g15, g16, g17, g18, g19, g20, g21, g22, g23, g24, g25, g26, g27]))] [] t) (va_A [(a0, .inr (9, [g1, g2, g3, g4, g5, g6, g7, .int 0, .int 0, .int 0, g8, g9, g10, g11, g12, g13, g14, g15, g16, g17, g18, g19, g20, g21, g22, g23, g24, g25, g26, g27]))] sz)) 0 0 (va_A [(a0, .inr (9, [g1, g2, g3, g4, g5, g6, g7, .int 0, .int 0, .int 0, g8, g9, g10, g11, g12, g13, g14, g15, g16, g17, g18, g19, g20, g21, g22, g23, g24, g25, g26, g27]))] sz) := by
  refine Met.ofW (cc := cX12_goesOn) (maxL := 3) (ret := none) (by decide) rfl ?_
  intro p e s m args below meth c s₁ B hml hv
  obtain ⟨rfl, hsz, hP, hK, hD0, hN⟩ := hv
  have hx := B.exec
  have hb := B.bytes
  have hr := B.returns
  have hts := atoms_spec (ws := vX12_goesOn) B.pre
  have hown : s.vm.findClass RX12 = some m.cls := findClass_of_methodNamed B.named
  have hlocks := B.notSynchronized
  subst hsz
  have hD := hD0.self (sz := s.heap.size)
  generalize hAe : va_A [(a0, .inr (9, [g1, g2, g3, g4, g5, g6, g7, .int 0, .int 0, .int 0, g8, g9, g10, g11, g12, g13, g14, g15, g16, g17, g18, g19, g20, g21, g22, g23, g24, g25, g26, g27]))] s.heap.size = A at hD ⊢
  have hA : ∀ q : Nat, s.heap.size ≤ q → A q := fun q h => by rw [← hAe]; exact Or.inr h
  have hS : va_S A s.heap s.heap [] := va_S.rf
  have hP : va_P (dC, dI) vwCl [(a0, .inr (9, [g1, g2, g3, g4, g5, g6, g7, .int 0, .int 0, .int 0, g8, g9, g10, g11, g12, g13, g14, g15, g16, g17, g18, g19, g20, g21, g22, g23, g24, g25, g26, g27]))] s.heap := hP
  have hl := lv_entry ([.ref a0]) (n := 3) (Nat.le_of_ble_eq_true rfl)
  rw [lg_entry_eq]
  generalize (lg_sl ([.ref a0]) ++ List.replicate (3 - (lg_sl ([.ref a0])).length) Slot.unset).toArray = ls at hl ⊢
  have hl : lv_has ls 3 [(0, .ref a0)] := hl
  refine lv_aload_n hx hb dX12_goesOn_0 rfl (lv_at hl 0 rfl) ?_
  refine va_get (D := (dC, dI)) (ci := 9) (v := .int 0) (C := RX12) (T := TX12) (N := 30) hx hb hts iX12_goesOn_X12 hown hK hP 0 rfl rfl 9 (by decide) (hts (.fieldLink RX12 68 "HookPierModel" "sort" "I") (List.mem_of_getElem? (i := 1) rfl)) (fun _ h9 => h9) rfl dX12_goesOn_1 ?_
  refine lv_iconst (v := 5) hx hb dX12_goesOn_4 (by decide) ?_
  refine lv_icmp_ne (tgt := 9) hx hb dX12_goesOn_5 (by decide) (fun _ => ?_) (fun c1 => absurd c1 (by decide))
  refine lv_aload_n hx hb dX12_goesOn_9 rfl (lv_at hl 0 rfl) ?_
  refine lv_aload_n hx hb dX12_goesOn_10 rfl (lv_at hl 0 rfl) ?_
  refine va_get (D := (dC, dI)) (ci := 9) (v := .int 0) (C := RX12) (T := TX12) (N := 30) hx hb hts iX12_goesOn_X12 hown hK hP 0 rfl rfl 8 (by decide) (hts (.fieldLink RX12 71 "HookPierModel" "spot" "I") (List.mem_of_getElem? (i := 2) rfl)) (fun _ h9 => h9) rfl dX12_goesOn_11 ?_
  refine cl_i (wc := [(a0, .inr (9, [g1, g2, g3, g4, g5, g6, g7, .int 0, .int 0, .int 0, g8, g9, g10, g11, g12, g13, g14, g15, g16, g17, g18, g19, g20, g21, g22, g23, g24, g25, g26, g27]))]) (wr := []) (va_runV (As := [.int 0]) (rest := []) ⟨hx, hb, hml, hown, hts⟩ (kX12_byteAt l dC dI a0 (g1) (g2) (g3) (g4) (g5) (g6) (g7) (.int 0) (.int 0) (g8) (g9) (g10) (g11) (g12) (g13) (g14) (g15) (g16) (g17) (g18) (g19) (g20) (g21) (g22) (g23) (g24) (g25) (g26) (g27) s.heap.size) (cwV 1 hts gX12_goesOn_0 rfl rfl rfl (by decide +kernel) ⟨Nat.le_of_ble_eq_true rfl, Nat.le_of_ble_eq_true rfl⟩) (PV (hP.sub (ws' := [(a0, .inr (9, [g1, g2, g3, g4, g5, g6, g7, .int 0, .int 0, .int 0, g8, g9, g10, g11, g12, g13, g14, g15, g16, g17, g18, g19, g20, g21, g22, g23, g24, g25, g26, g27]))]) [0] rfl) (hK.sub (tys' := []) [] rfl) (hD.sub (ws' := [(a0, .inr (9, [g1, g2, g3, g4, g5, g6, g7, .int 0, .int 0, .int 0, g8, g9, g10, g11, g12, g13, g14, g15, g16, g17, g18, g19, g20, g21, g22, g23, g24, g25, g26, g27]))]) [0] (by decide) rfl) hN 0 rfl rfl) rfl rfl hl.1 rfl (lv_room (Nat.le_of_ble_eq_true rfl)) dX12_goesOn_14 ⟨Nat.le_of_ble_eq_true rfl, Nat.le_of_ble_eq_true rfl⟩) hP hD hK hS hA [0] [] rfl rfl (by decide) (by decide) (fun z2 _u H locs hw hP hD hK hS => ?_)
  have hP : va_P (dC, dI) vwCl [(a0, .inr (9, [g1, g2, g3, g4, g5, g6, g7, .int 0, .int 0, .int 0, g8, g9, g10, g11, g12, g13, g14, g15, g16, g17, g18, g19, g20, g21, g22, g23, g24, g25, g26, g27]))] H := hP
  have hD : va_D A [(a0, .inr (9, [g1, g2, g3, g4, g5, g6, g7, .int 0, .int 0, .int 0, g8, g9, g10, g11, g12, g13, g14, g15, g16, g17, g18, g19, g20, g21, g22, g23, g24, g25, g26, g27]))] := hD
  have hK : va_K (dC, dI) vwCl [] s := hK
  obtain rfl : z2 = (-1) := hw
  refine lv_bipush (v := 32) hx hb dX12_goesOn_17 (by decide) ?_
  refine lv_icmp_ne (tgt := 35) hx hb dX12_goesOn_19 (by decide) (fun _ => ?_) (fun c3 => absurd c3 (by decide))
  refine lv_aload_n hx hb dX12_goesOn_35 rfl (lv_at hl 0 rfl) ?_
  refine lv_aload_n hx hb dX12_goesOn_36 rfl (lv_at hl 0 rfl) ?_
  refine va_get (D := (dC, dI)) (ci := 9) (v := .int 0) (C := RX12) (T := TX12) (N := 30) hx hb hts iX12_goesOn_X12 hown hK hP 0 rfl rfl 8 (by decide) (hts (.fieldLink RX12 71 "HookPierModel" "spot" "I") (List.mem_of_getElem? (i := 2) rfl)) (fun _ h9 => h9) rfl dX12_goesOn_37 ?_
  refine va_put (D := (dC, dI)) (ci := 9) (v := .int 0) (ty := .int) (C := RX12) (T := TX12) (N := 30) hx hb hts iX12_goesOn_X12 tyX12 tyX12_ok nmX12 hown hK hP hD hS 0 rfl rfl 10 (by decide) (hts (.fieldLink RX12 77 "HookPierModel" "place" "I") (List.mem_of_getElem? (i := 9) rfl)) (fun _ h9 => h9) rfl (by decide +kernel) rfl rfl (Nat.le_of_ble_eq_true rfl) dX12_goesOn_40 (fun H locs hP hD hS => ?_)
  have hP : va_P (dC, dI) vwCl [(a0, .inr (9, [g1, g2, g3, g4, g5, g6, g7, .int 0, .int 0, .int 0, .int 0, g9, g10, g11, g12, g13, g14, g15, g16, g17, g18, g19, g20, g21, g22, g23, g24, g25, g26, g27]))] H := hP
  have hD : va_D A [(a0, .inr (9, [g1, g2, g3, g4, g5, g6, g7, .int 0, .int 0, .int 0, .int 0, g9, g10, g11, g12, g13, g14, g15, g16, g17, g18, g19, g20, g21, g22, g23, g24, g25, g26, g27]))] := hD
  refine lv_aload_n hx hb dX12_goesOn_43 rfl (lv_at hl 0 rfl) ?_
  refine lv_iconst (v := 0) hx hb dX12_goesOn_44 (by decide) ?_
  refine va_put (D := (dC, dI)) (ci := 9) (v := .int 0) (ty := .int) (C := RX12) (T := TX12) (N := 30) hx hb hts iX12_goesOn_X12 tyX12 tyX12_ok nmX12 hown hK hP hD hS 0 rfl rfl 9 (by decide) (hts (.fieldLink RX12 68 "HookPierModel" "sort" "I") (List.mem_of_getElem? (i := 1) rfl)) (fun _ h9 => h9) rfl (by decide +kernel) rfl rfl (Nat.le_of_ble_eq_true rfl) dX12_goesOn_45 (fun H locs hP hD hS => ?_)
  have hP : va_P (dC, dI) vwCl [(a0, .inr (9, [g1, g2, g3, g4, g5, g6, g7, .int 0, .int 0, .int 0, .int 0, g9, g10, g11, g12, g13, g14, g15, g16, g17, g18, g19, g20, g21, g22, g23, g24, g25, g26, g27]))] H := hP
  have hD : va_D A [(a0, .inr (9, [g1, g2, g3, g4, g5, g6, g7, .int 0, .int 0, .int 0, .int 0, g9, g10, g11, g12, g13, g14, g15, g16, g17, g18, g19, g20, g21, g22, g23, g24, g25, g26, g27]))] := hD
  refine lv_aload_n hx hb dX12_goesOn_48 rfl (lv_at hl 0 rfl) ?_
  refine lv_aload_n hx hb dX12_goesOn_49 rfl (lv_at hl 0 rfl) ?_
  refine va_get (D := (dC, dI)) (ci := 9) (v := .int 0) (C := RX12) (T := TX12) (N := 30) hx hb hts iX12_goesOn_X12 hown hK hP 0 rfl rfl 8 (by decide) (hts (.fieldLink RX12 71 "HookPierModel" "spot" "I") (List.mem_of_getElem? (i := 2) rfl)) (fun _ h9 => h9) rfl dX12_goesOn_50 ?_
  refine cl_i (wc := [(a0, .inr (9, [g1, g2, g3, g4, g5, g6, g7, .int 0, .int 0, .int 0, .int 0, g9, g10, g11, g12, g13, g14, g15, g16, g17, g18, g19, g20, g21, g22, g23, g24, g25, g26, g27]))]) (wr := []) (va_runV (As := [.int 0]) (rest := []) ⟨hx, hb, hml, hown, hts⟩ (kX12_byteAt l dC dI a0 (g1) (g2) (g3) (g4) (g5) (g6) (g7) (.int 0) (.int 0) (.int 0) (g9) (g10) (g11) (g12) (g13) (g14) (g15) (g16) (g17) (g18) (g19) (g20) (g21) (g22) (g23) (g24) (g25) (g26) (g27) H.size) (cwV 1 hts gX12_goesOn_0 rfl rfl rfl (by decide +kernel) ⟨Nat.le_of_ble_eq_true rfl, Nat.le_of_ble_eq_true rfl⟩) (PV (hP.sub (ws' := [(a0, .inr (9, [g1, g2, g3, g4, g5, g6, g7, .int 0, .int 0, .int 0, .int 0, g9, g10, g11, g12, g13, g14, g15, g16, g17, g18, g19, g20, g21, g22, g23, g24, g25, g26, g27]))]) [0] rfl) (hK.sub (tys' := []) [] rfl) (hD.sub (ws' := [(a0, .inr (9, [g1, g2, g3, g4, g5, g6, g7, .int 0, .int 0, .int 0, .int 0, g9, g10, g11, g12, g13, g14, g15, g16, g17, g18, g19, g20, g21, g22, g23, g24, g25, g26, g27]))]) [0] (by decide) rfl) hN 0 rfl rfl) rfl rfl hl.1 rfl (lv_room (Nat.le_of_ble_eq_true rfl)) dX12_goesOn_53 ⟨Nat.le_of_ble_eq_true rfl, Nat.le_of_ble_eq_true rfl⟩) hP hD hK hS hA [0] [] rfl rfl (by decide) (by decide) (fun z4 _u H locs hw hP hD hK hS => ?_)
  have hP : va_P (dC, dI) vwCl [(a0, .inr (9, [g1, g2, g3, g4, g5, g6, g7, .int 0, .int 0, .int 0, .int 0, g9, g10, g11, g12, g13, g14, g15, g16, g17, g18, g19, g20, g21, g22, g23, g24, g25, g26, g27]))] H := hP
  have hD : va_D A [(a0, .inr (9, [g1, g2, g3, g4, g5, g6, g7, .int 0, .int 0, .int 0, .int 0, g9, g10, g11, g12, g13, g14, g15, g16, g17, g18, g19, g20, g21, g22, g23, g24, g25, g26, g27]))] := hD
  have hK : va_K (dC, dI) vwCl [] s := hK
  obtain rfl : z4 = (-1) := hw
  refine lv_istore_n (lv' := [(1, .int (-1)), (0, .ref a0)]) hx hb dX12_goesOn_56 rfl hl (by decide) rfl (fun ls hl => ?_)
  refine lv_iconst (v := 0) hx hb dX12_goesOn_57 (by decide) ?_
  refine lv_istore_n (lv' := [(2, .int 0), (1, .int (-1)), (0, .ref a0)]) hx hb dX12_goesOn_58 rfl hl (by decide) rfl (fun ls hl => ?_)
  refine lv_iload_n hx hb dX12_goesOn_59 rfl (lv_at hl 1 rfl) ?_
  refine lv_iconst (v := (-1)) hx hb dX12_goesOn_60 (by decide) ?_
  refine lv_icmp_ne (tgt := 72) hx hb dX12_goesOn_61 (by decide) (fun c5 => absurd c5 (by decide)) (fun _ => ?_)
  refine lv_aload_n hx hb dX12_goesOn_64 rfl (lv_at hl 2 rfl) ?_
  refine lv_iconst (v := 1) hx hb dX12_goesOn_65 (by decide) ?_
  refine va_put (D := (dC, dI)) (ci := 9) (v := .int 1) (ty := .int) (C := RX12) (T := TX12) (N := 30) hx hb hts iX12_goesOn_X12 tyX12 tyX12_ok nmX12 hown hK hP hD hS 0 rfl rfl 9 (by decide) (hts (.fieldLink RX12 68 "HookPierModel" "sort" "I") (List.mem_of_getElem? (i := 1) rfl)) (fun _ h9 => h9) rfl (by decide +kernel) rfl rfl (Nat.le_of_ble_eq_true rfl) dX12_goesOn_66 (fun H locs hP hD hS => ?_)
  have hP : va_P (dC, dI) vwCl [(a0, .inr (9, [g1, g2, g3, g4, g5, g6, g7, .int 0, .int 0, .int 1, .int 0, g9, g10, g11, g12, g13, g14, g15, g16, g17, g18, g19, g20, g21, g22, g23, g24, g25, g26, g27]))] H := hP
  have hD : va_D A [(a0, .inr (9, [g1, g2, g3, g4, g5, g6, g7, .int 0, .int 0, .int 1, .int 0, g9, g10, g11, g12, g13, g14, g15, g16, g17, g18, g19, g20, g21, g22, g23, g24, g25, g26, g27]))] := hD
  refine lv_goto (tgt := 265) hx hb dX12_goesOn_69 (by decide) ?_
  have hP9 := hP.sub (ws' := [(a0, .inr (9, [g1, g2, g3, g4, g5, g6, g7, .int 0, .int 0, .int 1, .int 0, g9, g10, g11, g12, g13, g14, g15, g16, g17, g18, g19, g20, g21, g22, g23, g24, g25, g26, g27]))]) [0] rfl
  have hD9 := hD.sub (ws' := [(a0, .inr (9, [g1, g2, g3, g4, g5, g6, g7, .int 0, .int 0, .int 1, .int 0, g9, g10, g11, g12, g13, g14, g15, g16, g17, g18, g19, g20, g21, g22, g23, g24, g25, g26, g27]))]) [0] (by decide) rfl
  have hK9 := hK.sub (tys' := []) [] rfl
  exact W.vret hx hb hr (fun t ht hW => ⟨⟨(), rfl, trivial, by rw [ht]; exact hP9, va_K.moved hW.alike hK9, hD9⟩, hS.F ht⟩) hS.2.2 dX12_goesOn_265
theorem dX12_isWord_0 : decode cX12_isWord 0 = .ok (.aload_n 0, 1) := by decide +kernel
theorem dX12_isWord_1 : decode cX12_isWord 1 = .ok (.getfield 68, 3) := by decide +kernel
theorem dX12_isWord_24 : decode cX12_isWord 24 = .ok (.iconst 0, 1) := by decide +kernel
theorem dX12_isWord_25 : decode cX12_isWord 25 = .ok (.ireturn, 1) := by decide +kernel
theorem dX12_isWord_4 : decode cX12_isWord 4 = .ok (.iconst 2, 1) := by decide +kernel
theorem dX12_isWord_5 : decode cX12_isWord 5 = .ok (.if_icmp .ne 19, 3) := by decide +kernel
def vX12_isWord : List Cond := .code yX12_isWord cX12_isWord 2 (some .boolean) :: ([.fieldLink RX12 68 "HookPierModel" "sort" "I"] ++ wsX120)
theorem iX12_isWord_X12 : ∀ w ∈ wsX120, w ∈ vX12_isWord := fun _ h => List.mem_cons_of_mem _ (List.mem_append_right _ h)
set_option maxHeartbeats 1000000 in
set_option maxRecDepth 100000 in
theorem kX12_isWord (l : Launch) (dC : Nat → ClassId) (dI : Nat → Nat → Nat) (a0 : Nat) (a1 : Nat) (g2 : Value) (g3 : Value) (g4 : Value) (g5 : Value) (g6 : Value) (g7 : Value) (g8 : Value) (g9 : Value) (g10 : Value) (g11 : Value) (g12 : Value) (g13 : Value) (g14 : Value) (g15 : Value) (g16 : Value) (g17 : Value) (g18 : Value) (g19 : Value) (g20 : Value) (g21 : Value) (g22 : Value) (g23 : Value) (g24 : Value) (g25 : Value) (g26 : Value) (g27 : Value) (g28 : Value) (g29 : Value) (g30 : Value) (sz : Nat) : Met l yX12_isWord vX12_isWord ({ frames := 0, cells := 0, slots := 0, locals := 0 }) (PC (dC, dI) [.ref a0, .ref a1] sz [(a0, .inr (9, [g2, g3, g4, g5, g6, g7, g8, g9, g10, .int 1, g11, g12, g13, g14, g15, g16, g17, g18, g19, g20, g21, g22, g23, g24, g25, g26, g27, g28, g29, g30]))] []) (va_Qi (S := Unit) (fun (r : Int32) _ => r = 0) (fun _ t => BC (dC, dI) (va_A [(a0, .inr (9, [g2, g3, g4, g5, g6, g7, g8, g9, g10, .int 1, g11, g12, g13, g14, g15, g16, g17, g18, g19, g20, g21, g22, g23, g24, g25, g26, g27, g28, g29, g30]))] sz) [(a0, .inr (9, [g2, g3, g4, g5, g6, g7, g8, g9, g10, .int 1, g11, g12, g13, g14, g15, g16, g17, g18, g19, g20, g21, g22, g23, g24, g25, g26, g27, g28, g29, g30]))] [] t) (va_A [(a0, .inr (9, [g2, g3, g4, g5, g6, g7, g8, g9, g10, .int 1, g11, g12, g13, g14, g15, g16, g17, g18, g19, g20, g21, g22, g23, g24, g25, g26, g27, g28, g29, g30]))] sz)) 0 0 (va_A [(a0, .inr (9, [g2, g3, g4, g5, g6, g7, g8, g9, g10, .int 1, g11, g12, g13, g14, g15, g16, g17, g18, g19, g20, g21, g22, g23, g24, g25, g26, g27, g28, g29, g30]))] sz) := by
  refine Met.ofW (cc := cX12_isWord) (maxL := 2) (ret := (some .boolean)) (by decide) rfl ?_
  intro p e s m args below meth c s₁ B hml hv
  obtain ⟨rfl, hsz, hP, hK, hD0, hN⟩ := hv
  have hx := B.exec
  have hb := B.bytes
  have hr := B.returns
  have hts := atoms_spec (ws := vX12_isWord) B.pre
  have hown : s.vm.findClass RX12 = some m.cls := findClass_of_methodNamed B.named
  have hlocks := B.notSynchronized
  subst hsz
  have hD := hD0.self (sz := s.heap.size)
  generalize hAe : va_A [(a0, .inr (9, [g2, g3, g4, g5, g6, g7, g8, g9, g10, .int 1, g11, g12, g13, g14, g15, g16, g17, g18, g19, g20, g21, g22, g23, g24, g25, g26, g27, g28, g29, g30]))] s.heap.size = A at hD ⊢
  have hA : ∀ q : Nat, s.heap.size ≤ q → A q := fun q h => by rw [← hAe]; exact Or.inr h
  have hS : va_S A s.heap s.heap [] := va_S.rf
  have hP : va_P (dC, dI) vwCl [(a0, .inr (9, [g2, g3, g4, g5, g6, g7, g8, g9, g10, .int 1, g11, g12, g13, g14, g15, g16, g17, g18, g19, g20, g21, g22, g23, g24, g25, g26, g27, g28, g29, g30]))] s.heap := hP
  have hl := lv_entry ([.ref a0, .ref a1]) (n := 2) (Nat.le_of_ble_eq_true rfl)
  rw [lg_entry_eq]
  generalize (lg_sl ([.ref a0, .ref a1]) ++ List.replicate (2 - (lg_sl ([.ref a0, .ref a1])).length) Slot.unset).toArray = ls at hl ⊢
  have hl : lv_has ls 2 [(0, .ref a0), (1, .ref a1)] := hl
  refine lv_aload_n hx hb dX12_isWord_0 rfl (lv_at hl 0 rfl) ?_
  refine va_get (D := (dC, dI)) (ci := 9) (v := .int 1) (C := RX12) (T := TX12) (N := 30) hx hb hts iX12_isWord_X12 hown hK hP 0 rfl rfl 9 (by decide) (hts (.fieldLink RX12 68 "HookPierModel" "sort" "I") (List.mem_of_getElem? (i := 1) rfl)) (fun _ h9 => h9) rfl dX12_isWord_1 ?_
  refine lv_iconst (v := 2) hx hb dX12_isWord_4 (by decide) ?_
  refine lv_icmp_ne (tgt := 24) hx hb dX12_isWord_5 (by decide) (fun _ => ?_) (fun c1 => absurd c1 (by decide))
  refine lv_iconst (v := 0) hx hb dX12_isWord_24 (by decide) ?_
  have hP9 := hP.sub (ws' := [(a0, .inr (9, [g2, g3, g4, g5, g6, g7, g8, g9, g10, .int 1, g11, g12, g13, g14, g15, g16, g17, g18, g19, g20, g21, g22, g23, g24, g25, g26, g27, g28, g29, g30]))]) [0] rfl
  have hD9 := hD.sub (ws' := [(a0, .inr (9, [g2, g3, g4, g5, g6, g7, g8, g9, g10, .int 1, g11, g12, g13, g14, g15, g16, g17, g18, g19, g20, g21, g22, g23, g24, g25, g26, g27, g28, g29, g30]))]) [0] (by decide) rfl
  have hK9 := hK.sub (tys' := []) [] rfl
  exact W.zret (v := 0) hx hb hr rfl (fun t ht hW => ⟨⟨0, (), rfl, rfl, by rw [ht]; exact hP9, va_K.moved hW.alike hK9, hD9⟩, hS.F ht⟩) hS.2.2 dX12_isWord_25
theorem dX12_flaw_0 : decode cX12_flaw 0 = .ok (.aload_n 0, 1) := by decide +kernel
theorem dX12_flaw_1 : decode cX12_flaw 1 = .ok (.getfield 68, 3) := by decide +kernel
theorem dX12_flaw_10 : decode cX12_flaw 10 = .ok (.iload_n 1, 1) := by decide +kernel
theorem dX12_flaw_11 : decode cX12_flaw 11 = .ok (.putfield 94, 3) := by decide +kernel
theorem dX12_flaw_14 : decode cX12_flaw 14 = .ok (.aload_n 0, 1) := by decide +kernel
theorem dX12_flaw_15 : decode cX12_flaw 15 = .ok (.aload_n 0, 1) := by decide +kernel
theorem dX12_flaw_16 : decode cX12_flaw 16 = .ok (.getfield 77, 3) := by decide +kernel
theorem dX12_flaw_19 : decode cX12_flaw 19 = .ok (.putfield 97, 3) := by decide +kernel
theorem dX12_flaw_22 : decode cX12_flaw 22 = .ok (.aload_n 0, 1) := by decide +kernel
theorem dX12_flaw_23 : decode cX12_flaw 23 = .ok (.iconst 5, 1) := by decide +kernel
theorem dX12_flaw_24 : decode cX12_flaw 24 = .ok (.putfield 68, 3) := by decide +kernel
theorem dX12_flaw_27 : decode cX12_flaw 27 = .ok (.return_, 1) := by decide +kernel
theorem dX12_flaw_4 : decode cX12_flaw 4 = .ok (.iconst 5, 1) := by decide +kernel
theorem dX12_flaw_5 : decode cX12_flaw 5 = .ok (.if_icmp .ne 4, 3) := by decide +kernel
theorem dX12_flaw_9 : decode cX12_flaw 9 = .ok (.aload_n 0, 1) := by decide +kernel
def vX12_flaw : List Cond := .code yX12_flaw cX12_flaw 2 none :: ([.fieldLink RX12 68 "HookPierModel" "sort" "I", .fieldLink RX12 94 "HookPierModel" "fault" "I", .fieldLink RX12 77 "HookPierModel" "place" "I", .fieldLink RX12 97 "HookPierModel" "wrongAt" "I"] ++ wsX120)
theorem iX12_flaw_X12 : ∀ w ∈ wsX120, w ∈ vX12_flaw := fun _ h => List.mem_cons_of_mem _ (List.mem_append_right _ h)
set_option maxHeartbeats 1000000 in
set_option maxRecDepth 100000 in
theorem kX12_flaw (l : Launch) (dC : Nat → ClassId) (dI : Nat → Nat → Nat) (a0 : Nat) (g1 : Value) (g2 : Value) (g3 : Value) (g4 : Value) (g5 : Value) (g6 : Value) (g7 : Value) (g8 : Value) (g9 : Value) (g10 : Value) (g11 : Value) (g12 : Value) (g13 : Value) (g14 : Value) (g15 : Value) (g16 : Value) (g17 : Value) (g18 : Value) (g19 : Value) (g20 : Value) (g21 : Value) (g22 : Value) (g23 : Value) (g24 : Value) (g25 : Value) (g26 : Value) (g27 : Value) (g28 : Value) (sz : Nat) : Met l yX12_flaw vX12_flaw ({ frames := 0, cells := 0, slots := 0, locals := 0 }) (PC (dC, dI) [.ref a0, .int 1] sz [(a0, .inr (9, [g1, g2, g3, g4, g5, g6, g7, g8, g9, .int 1, .int 0, g10, g11, g12, g13, g14, g15, g16, g17, g18, g19, g20, g21, g22, g23, g24, g25, g26, g27, g28]))] []) (va_Qv (S := Unit) (fun _ => True) (fun _ t => BC (dC, dI) (va_A [(a0, .inr (9, [g1, g2, g3, g4, g5, g6, g7, g8, g9, .int 1, .int 0, g10, g11, g12, g13, g14, g15, g16, g17, g18, g19, g20, g21, g22, g23, g24, g25, g26, g27, g28]))] sz) [(a0, .inr (9, [g1, g2, g3, g4, g5, g6, g7, g8, g9, .int 5, .int 0, g10, .int 1, .int 0, g13, g14, g15, g16, g17, g18, g19, g20, g21, g22, g23, g24, g25, g26, g27, g28]))] [] t) (va_A [(a0, .inr (9, [g1, g2, g3, g4, g5, g6, g7, g8, g9, .int 1, .int 0, g10, g11, g12, g13, g14, g15, g16, g17, g18, g19, g20, g21, g22, g23, g24, g25, g26, g27, g28]))] sz)) 0 0 (va_A [(a0, .inr (9, [g1, g2, g3, g4, g5, g6, g7, g8, g9, .int 1, .int 0, g10, g11, g12, g13, g14, g15, g16, g17, g18, g19, g20, g21, g22, g23, g24, g25, g26, g27, g28]))] sz) := by
  refine Met.ofW (cc := cX12_flaw) (maxL := 2) (ret := none) (by decide) rfl ?_
  intro p e s m args below meth c s₁ B hml hv
  obtain ⟨rfl, hsz, hP, hK, hD0, hN⟩ := hv
  have hx := B.exec
  have hb := B.bytes
  have hr := B.returns
  have hts := atoms_spec (ws := vX12_flaw) B.pre
  have hown : s.vm.findClass RX12 = some m.cls := findClass_of_methodNamed B.named
  have hlocks := B.notSynchronized
  subst hsz
  have hD := hD0.self (sz := s.heap.size)
  generalize hAe : va_A [(a0, .inr (9, [g1, g2, g3, g4, g5, g6, g7, g8, g9, .int 1, .int 0, g10, g11, g12, g13, g14, g15, g16, g17, g18, g19, g20, g21, g22, g23, g24, g25, g26, g27, g28]))] s.heap.size = A at hD ⊢
  have hA : ∀ q : Nat, s.heap.size ≤ q → A q := fun q h => by rw [← hAe]; exact Or.inr h
  have hS : va_S A s.heap s.heap [] := va_S.rf
  have hP : va_P (dC, dI) vwCl [(a0, .inr (9, [g1, g2, g3, g4, g5, g6, g7, g8, g9, .int 1, .int 0, g10, g11, g12, g13, g14, g15, g16, g17, g18, g19, g20, g21, g22, g23, g24, g25, g26, g27, g28]))] s.heap := hP
  have hl := lv_entry ([.ref a0, .int 1]) (n := 2) (Nat.le_of_ble_eq_true rfl)
  rw [lg_entry_eq]
  generalize (lg_sl ([.ref a0, .int 1]) ++ List.replicate (2 - (lg_sl ([.ref a0, .int 1])).length) Slot.unset).toArray = ls at hl ⊢
  have hl : lv_has ls 2 [(0, .ref a0), (1, .int 1)] := hl
  refine lv_aload_n hx hb dX12_flaw_0 rfl (lv_at hl 0 rfl) ?_
  refine va_get (D := (dC, dI)) (ci := 9) (v := .int 1) (C := RX12) (T := TX12) (N := 30) hx hb hts iX12_flaw_X12 hown hK hP 0 rfl rfl 9 (by decide) (hts (.fieldLink RX12 68 "HookPierModel" "sort" "I") (List.mem_of_getElem? (i := 1) rfl)) (fun _ h9 => h9) rfl dX12_flaw_1 ?_
  refine lv_iconst (v := 5) hx hb dX12_flaw_4 (by decide) ?_
  refine lv_icmp_ne (tgt := 9) hx hb dX12_flaw_5 (by decide) (fun _ => ?_) (fun c1 => absurd c1 (by decide))
  refine lv_aload_n hx hb dX12_flaw_9 rfl (lv_at hl 0 rfl) ?_
  refine lv_iload_n hx hb dX12_flaw_10 rfl (lv_at hl 1 rfl) ?_
  refine va_put (D := (dC, dI)) (ci := 9) (v := .int 1) (ty := .int) (C := RX12) (T := TX12) (N := 30) hx hb hts iX12_flaw_X12 tyX12 tyX12_ok nmX12 hown hK hP hD hS 0 rfl rfl 12 (by decide) (hts (.fieldLink RX12 94 "HookPierModel" "fault" "I") (List.mem_of_getElem? (i := 2) rfl)) (fun _ h9 => h9) rfl (by decide +kernel) rfl rfl (Nat.le_of_ble_eq_true rfl) dX12_flaw_11 (fun H locs hP hD hS => ?_)
  have hP : va_P (dC, dI) vwCl [(a0, .inr (9, [g1, g2, g3, g4, g5, g6, g7, g8, g9, .int 1, .int 0, g10, .int 1, g12, g13, g14, g15, g16, g17, g18, g19, g20, g21, g22, g23, g24, g25, g26, g27, g28]))] H := hP
  have hD : va_D A [(a0, .inr (9, [g1, g2, g3, g4, g5, g6, g7, g8, g9, .int 1, .int 0, g10, .int 1, g12, g13, g14, g15, g16, g17, g18, g19, g20, g21, g22, g23, g24, g25, g26, g27, g28]))] := hD
  refine lv_aload_n hx hb dX12_flaw_14 rfl (lv_at hl 0 rfl) ?_
  refine lv_aload_n hx hb dX12_flaw_15 rfl (lv_at hl 0 rfl) ?_
  refine va_get (D := (dC, dI)) (ci := 9) (v := .int 0) (C := RX12) (T := TX12) (N := 30) hx hb hts iX12_flaw_X12 hown hK hP 0 rfl rfl 10 (by decide) (hts (.fieldLink RX12 77 "HookPierModel" "place" "I") (List.mem_of_getElem? (i := 3) rfl)) (fun _ h9 => h9) rfl dX12_flaw_16 ?_
  refine va_put (D := (dC, dI)) (ci := 9) (v := .int 0) (ty := .int) (C := RX12) (T := TX12) (N := 30) hx hb hts iX12_flaw_X12 tyX12 tyX12_ok nmX12 hown hK hP hD hS 0 rfl rfl 13 (by decide) (hts (.fieldLink RX12 97 "HookPierModel" "wrongAt" "I") (List.mem_of_getElem? (i := 4) rfl)) (fun _ h9 => h9) rfl (by decide +kernel) rfl rfl (Nat.le_of_ble_eq_true rfl) dX12_flaw_19 (fun H locs hP hD hS => ?_)
  have hP : va_P (dC, dI) vwCl [(a0, .inr (9, [g1, g2, g3, g4, g5, g6, g7, g8, g9, .int 1, .int 0, g10, .int 1, .int 0, g13, g14, g15, g16, g17, g18, g19, g20, g21, g22, g23, g24, g25, g26, g27, g28]))] H := hP
  have hD : va_D A [(a0, .inr (9, [g1, g2, g3, g4, g5, g6, g7, g8, g9, .int 1, .int 0, g10, .int 1, .int 0, g13, g14, g15, g16, g17, g18, g19, g20, g21, g22, g23, g24, g25, g26, g27, g28]))] := hD
  refine lv_aload_n hx hb dX12_flaw_22 rfl (lv_at hl 0 rfl) ?_
  refine lv_iconst (v := 5) hx hb dX12_flaw_23 (by decide) ?_
  refine va_put (D := (dC, dI)) (ci := 9) (v := .int 5) (ty := .int) (C := RX12) (T := TX12) (N := 30) hx hb hts iX12_flaw_X12 tyX12 tyX12_ok nmX12 hown hK hP hD hS 0 rfl rfl 9 (by decide) (hts (.fieldLink RX12 68 "HookPierModel" "sort" "I") (List.mem_of_getElem? (i := 1) rfl)) (fun _ h9 => h9) rfl (by decide +kernel) rfl rfl (Nat.le_of_ble_eq_true rfl) dX12_flaw_24 (fun H locs hP hD hS => ?_)
  have hP : va_P (dC, dI) vwCl [(a0, .inr (9, [g1, g2, g3, g4, g5, g6, g7, g8, g9, .int 5, .int 0, g10, .int 1, .int 0, g13, g14, g15, g16, g17, g18, g19, g20, g21, g22, g23, g24, g25, g26, g27, g28]))] H := hP
  have hD : va_D A [(a0, .inr (9, [g1, g2, g3, g4, g5, g6, g7, g8, g9, .int 5, .int 0, g10, .int 1, .int 0, g13, g14, g15, g16, g17, g18, g19, g20, g21, g22, g23, g24, g25, g26, g27, g28]))] := hD
  have hP9 := hP.sub (ws' := [(a0, .inr (9, [g1, g2, g3, g4, g5, g6, g7, g8, g9, .int 5, .int 0, g10, .int 1, .int 0, g13, g14, g15, g16, g17, g18, g19, g20, g21, g22, g23, g24, g25, g26, g27, g28]))]) [0] rfl
  have hD9 := hD.sub (ws' := [(a0, .inr (9, [g1, g2, g3, g4, g5, g6, g7, g8, g9, .int 5, .int 0, g10, .int 1, .int 0, g13, g14, g15, g16, g17, g18, g19, g20, g21, g22, g23, g24, g25, g26, g27, g28]))]) [0] (by decide) rfl
  have hK9 := hK.sub (tys' := []) [] rfl
  exact W.vret hx hb hr (fun t ht hW => ⟨⟨(), rfl, trivial, by rw [ht]; exact hP9, va_K.moved hW.alike hK9, hD9⟩, hS.F ht⟩) hS.2.2 dX12_flaw_27
theorem dX12_readLine_0 : decode cX12_readLine 0 = .ok (.aload_n 0, 1) := by decide +kernel
theorem dX12_readLine_1 : decode cX12_readLine 1 = .ok (.ldc 127, 2) := by decide +kernel
theorem dX12_readLine_101 : decode cX12_readLine 101 = .ok (.return_, 1) := by decide +kernel
theorem dX12_readLine_16 : decode cX12_readLine 16 = .ok (.aload_n 0, 1) := by decide +kernel
theorem dX12_readLine_17 : decode cX12_readLine 17 = .ok (.ldc 129, 2) := by decide +kernel
theorem dX12_readLine_19 : decode cX12_readLine 19 = .ok (.invokevirtual 107, 3) := by decide +kernel
theorem dX12_readLine_22 : decode cX12_readLine 22 = .ok (.ifCond .eq 10, 3) := by decide +kernel
theorem dX12_readLine_3 : decode cX12_readLine 3 = .ok (.invokevirtual 107, 3) := by decide +kernel
theorem dX12_readLine_32 : decode cX12_readLine 32 = .ok (.aload_n 0, 1) := by decide +kernel
theorem dX12_readLine_33 : decode cX12_readLine 33 = .ok (.ldc 131, 2) := by decide +kernel
theorem dX12_readLine_35 : decode cX12_readLine 35 = .ok (.invokevirtual 107, 3) := by decide +kernel
theorem dX12_readLine_38 : decode cX12_readLine 38 = .ok (.ifCond .eq 10, 3) := by decide +kernel
theorem dX12_readLine_48 : decode cX12_readLine 48 = .ok (.aload_n 0, 1) := by decide +kernel
theorem dX12_readLine_49 : decode cX12_readLine 49 = .ok (.ldc 133, 2) := by decide +kernel
theorem dX12_readLine_51 : decode cX12_readLine 51 = .ok (.invokevirtual 107, 3) := by decide +kernel
theorem dX12_readLine_54 : decode cX12_readLine 54 = .ok (.ifCond .eq 10, 3) := by decide +kernel
theorem dX12_readLine_6 : decode cX12_readLine 6 = .ok (.ifCond .eq 10, 3) := by decide +kernel
theorem dX12_readLine_64 : decode cX12_readLine 64 = .ok (.aload_n 0, 1) := by decide +kernel
theorem dX12_readLine_65 : decode cX12_readLine 65 = .ok (.ldc 135, 2) := by decide +kernel
theorem dX12_readLine_67 : decode cX12_readLine 67 = .ok (.invokevirtual 107, 3) := by decide +kernel
theorem dX12_readLine_70 : decode cX12_readLine 70 = .ok (.ifCond .eq 10, 3) := by decide +kernel
theorem dX12_readLine_80 : decode cX12_readLine 80 = .ok (.aload_n 0, 1) := by decide +kernel
theorem dX12_readLine_81 : decode cX12_readLine 81 = .ok (.ldc 137, 2) := by decide +kernel
theorem dX12_readLine_83 : decode cX12_readLine 83 = .ok (.invokevirtual 107, 3) := by decide +kernel
theorem dX12_readLine_86 : decode cX12_readLine 86 = .ok (.ifCond .eq 10, 3) := by decide +kernel
theorem dX12_readLine_96 : decode cX12_readLine 96 = .ok (.aload_n 0, 1) := by decide +kernel
theorem dX12_readLine_97 : decode cX12_readLine 97 = .ok (.iconst 1, 1) := by decide +kernel
theorem dX12_readLine_98 : decode cX12_readLine 98 = .ok (.invokevirtual 111, 3) := by decide +kernel
def vX12_readLine : List Cond := .code yX12_readLine cX12_readLine 1 none :: ([.methodLink RX12 107 yX12_isWord, .instanceMethod yX12_isWord, .selects RX12 yX12_isWord yX12_isWord, .initialized RX12, .code yX12_isWord cX12_isWord 2 (some .boolean), .fieldLink RX12 68 "HookPierModel" "sort" "I", .methodLink RX12 111 yX12_flaw, .instanceMethod yX12_flaw, .selects RX12 yX12_flaw yX12_flaw, .code yX12_flaw cX12_flaw 2 none, .fieldLink RX12 94 "HookPierModel" "fault" "I", .fieldLink RX12 77 "HookPierModel" "place" "I", .fieldLink RX12 97 "HookPierModel" "wrongAt" "I"] ++ wsX120)
theorem iX12_readLine_X12 : ∀ w ∈ wsX120, w ∈ vX12_readLine := fun _ h => List.mem_cons_of_mem _ (List.mem_append_right _ h)
set_option maxRecDepth 20000 in
theorem gX12_readLine_0 : GoodIn vX12_readLine (wsV RX12 107 RX12 yX12_isWord vX12_isWord) := goodIn_app (goodIn_r [.methodLink RX12 107 yX12_isWord, .instanceMethod yX12_isWord, .selects RX12 yX12_isWord yX12_isWord, .initialized RX12] [1, 2, 3, 4] (by decide +kernel) (by decide +kernel)) (goodIn_ca (goodIn_r (.code yX12_isWord cX12_isWord 2 (some .boolean) :: [.fieldLink RX12 68 "HookPierModel" "sort" "I"]) [5, 6] (by decide +kernel) (by decide +kernel) : GoodIn vX12_readLine (.code yX12_isWord cX12_isWord 2 (some .boolean) :: [.fieldLink RX12 68 "HookPierModel" "sort" "I"])) (goodIn_sub iX12_readLine_X12 (by decide +kernel)))
set_option maxRecDepth 20000 in
theorem gX12_readLine_1 : GoodIn vX12_readLine (wsV RX12 111 RX12 yX12_flaw vX12_flaw) := goodIn_app (goodIn_r [.methodLink RX12 111 yX12_flaw, .instanceMethod yX12_flaw, .selects RX12 yX12_flaw yX12_flaw, .initialized RX12] [7, 8, 9, 4] (by decide +kernel) (by decide +kernel)) (goodIn_ca (goodIn_r (.code yX12_flaw cX12_flaw 2 none :: [.fieldLink RX12 68 "HookPierModel" "sort" "I", .fieldLink RX12 94 "HookPierModel" "fault" "I", .fieldLink RX12 77 "HookPierModel" "place" "I", .fieldLink RX12 97 "HookPierModel" "wrongAt" "I"]) [10, 6, 11, 12, 13] (by decide +kernel) (by decide +kernel) : GoodIn vX12_readLine (.code yX12_flaw cX12_flaw 2 none :: [.fieldLink RX12 68 "HookPierModel" "sort" "I", .fieldLink RX12 94 "HookPierModel" "fault" "I", .fieldLink RX12 77 "HookPierModel" "place" "I", .fieldLink RX12 97 "HookPierModel" "wrongAt" "I"])) (goodIn_sub iX12_readLine_X12 (by decide +kernel)))
set_option maxHeartbeats 1000000 in
set_option maxRecDepth 100000 in
theorem kX12_readLine (l : Launch) (dC : Nat → ClassId) (dI : Nat → Nat → Nat) (a0 : Nat) (g1 : Value) (g2 : Value) (g3 : Value) (g4 : Value) (g5 : Value) (g6 : Value) (g7 : Value) (g8 : Value) (g9 : Value) (g10 : Value) (g11 : Value) (g12 : Value) (g13 : Value) (g14 : Value) (g15 : Value) (g16 : Value) (g17 : Value) (g18 : Value) (g19 : Value) (g20 : Value) (g21 : Value) (g22 : Value) (g23 : Value) (g24 : Value) (g25 : Value) (g26 : Value) (g27 : Value) (g28 : Value) (sz : Nat) : Met l yX12_readLine vX12_readLine ({ frames := 1, cells := 0, slots := 0, locals := 21 }) (PC (dC, dI) [.ref a0] sz [(a0, .inr (9, [g1, g2, g3, g4, g5, g6, g7, g8, g9, .int 1, .int 0, g10, g11, g12, g13, g14, g15, g16, g17, g18, g19, g20, g21, g22, g23, g24, g25, g26, g27, g28]))] []) (va_Qv (S := Unit) (fun _ => True) (fun _ t => BC (dC, dI) (va_A [(a0, .inr (9, [g1, g2, g3, g4, g5, g6, g7, g8, g9, .int 1, .int 0, g10, g11, g12, g13, g14, g15, g16, g17, g18, g19, g20, g21, g22, g23, g24, g25, g26, g27, g28]))] sz) [(a0, .inr (9, [g1, g2, g3, g4, g5, g6, g7, g8, g9, .int 5, .int 0, g10, .int 1, .int 0, g13, g14, g15, g16, g17, g18, g19, g20, g21, g22, g23, g24, g25, g26, g27, g28]))] [] t) (va_A [(a0, .inr (9, [g1, g2, g3, g4, g5, g6, g7, g8, g9, .int 1, .int 0, g10, g11, g12, g13, g14, g15, g16, g17, g18, g19, g20, g21, g22, g23, g24, g25, g26, g27, g28]))] sz)) 0 0 (va_A [(a0, .inr (9, [g1, g2, g3, g4, g5, g6, g7, g8, g9, .int 1, .int 0, g10, g11, g12, g13, g14, g15, g16, g17, g18, g19, g20, g21, g22, g23, g24, g25, g26, g27, g28]))] sz) := by
  refine Met.ofW (cc := cX12_readLine) (maxL := 1) (ret := none) (by decide) rfl ?_
  intro p e s m args below meth c s₁ B hml hv
  obtain ⟨rfl, hsz, hP, hK, hD0, hN⟩ := hv
  have hx := B.exec
  have hb := B.bytes
  have hr := B.returns
  have hts := atoms_spec (ws := vX12_readLine) B.pre
  have hown : s.vm.findClass RX12 = some m.cls := findClass_of_methodNamed B.named
  have hlocks := B.notSynchronized
  subst hsz
  have hD := hD0.self (sz := s.heap.size)
  generalize hAe : va_A [(a0, .inr (9, [g1, g2, g3, g4, g5, g6, g7, g8, g9, .int 1, .int 0, g10, g11, g12, g13, g14, g15, g16, g17, g18, g19, g20, g21, g22, g23, g24, g25, g26, g27, g28]))] s.heap.size = A at hD ⊢
  have hA : ∀ q : Nat, s.heap.size ≤ q → A q := fun q h => by rw [← hAe]; exact Or.inr h
  have hS : va_S A s.heap s.heap [] := va_S.rf
  have hP : va_P (dC, dI) vwCl [(a0, .inr (9, [g1, g2, g3, g4, g5, g6, g7, g8, g9, .int 1, .int 0, g10, g11, g12, g13, g14, g15, g16, g17, g18, g19, g20, g21, g22, g23, g24, g25, g26, g27, g28]))] s.heap := hP
  have hl := lv_entry ([.ref a0]) (n := 1) (Nat.le_of_ble_eq_true rfl)
  rw [lg_entry_eq]
  generalize (lg_sl ([.ref a0]) ++ List.replicate (1 - (lg_sl ([.ref a0])).length) Slot.unset).toArray = ls at hl ⊢
  have hl : lv_has ls 1 [(0, .ref a0)] := hl
  refine lv_aload_n hx hb dX12_readLine_0 rfl (lv_at hl 0 rfl) ?_
  obtain ⟨s1, hs1⟩ := hN.2.2 (RX12, 127, "pier") (List.mem_of_getElem? (i := 24) rfl)
  refine va_ldcS hx hb hown hs1 dX12_readLine_1 ?_
  refine cl_i (wc := [(a0, .inr (9, [g1, g2, g3, g4, g5, g6, g7, g8, g9, .int 1, .int 0, g10, g11, g12, g13, g14, g15, g16, g17, g18, g19, g20, g21, g22, g23, g24, g25, g26, g27, g28]))]) (wr := []) (va_runV (As := [.ref s1]) (rest := []) ⟨hx, hb, hml, hown, hts⟩ (kX12_isWord l dC dI a0 s1 (g1) (g2) (g3) (g4) (g5) (g6) (g7) (g8) (g9) (.int 0) (g10) (g11) (g12) (g13) (g14) (g15) (g16) (g17) (g18) (g19) (g20) (g21) (g22) (g23) (g24) (g25) (g26) (g27) (g28) s.heap.size) (cwV 1 hts gX12_readLine_0 rfl rfl rfl (by decide +kernel) ⟨Nat.le_of_ble_eq_true rfl, Nat.le_of_ble_eq_true rfl⟩) (PV (hP.sub (ws' := [(a0, .inr (9, [g1, g2, g3, g4, g5, g6, g7, g8, g9, .int 1, .int 0, g10, g11, g12, g13, g14, g15, g16, g17, g18, g19, g20, g21, g22, g23, g24, g25, g26, g27, g28]))]) [0] rfl) (hK.sub (tys' := []) [] rfl) (hD.sub (ws' := [(a0, .inr (9, [g1, g2, g3, g4, g5, g6, g7, g8, g9, .int 1, .int 0, g10, g11, g12, g13, g14, g15, g16, g17, g18, g19, g20, g21, g22, g23, g24, g25, g26, g27, g28]))]) [0] (by decide) rfl) hN 0 rfl rfl) rfl rfl hl.1 rfl (lv_room (Nat.le_of_ble_eq_true rfl)) dX12_readLine_3 ⟨Nat.le_of_ble_eq_true rfl, Nat.le_of_ble_eq_true rfl⟩) hP hD hK hS hA [0] [] rfl rfl (by decide) (by decide) (fun z2 _u H locs hw hP hD hK hS => ?_)
  have hP : va_P (dC, dI) vwCl [(a0, .inr (9, [g1, g2, g3, g4, g5, g6, g7, g8, g9, .int 1, .int 0, g10, g11, g12, g13, g14, g15, g16, g17, g18, g19, g20, g21, g22, g23, g24, g25, g26, g27, g28]))] H := hP
  have hD : va_D A [(a0, .inr (9, [g1, g2, g3, g4, g5, g6, g7, g8, g9, .int 1, .int 0, g10, g11, g12, g13, g14, g15, g16, g17, g18, g19, g20, g21, g22, g23, g24, g25, g26, g27, g28]))] := hD
  have hK : va_K (dC, dI) vwCl [] s := hK
  obtain rfl : z2 = 0 := hw
  refine lv_if_eq (tgt := 16) hx hb dX12_readLine_6 (by decide) (fun _ => ?_) (fun c3 => absurd c3 (by decide))
  refine lv_aload_n hx hb dX12_readLine_16 rfl (lv_at hl 0 rfl) ?_
  obtain ⟨s4, hs4⟩ := hN.2.2 (RX12, 129, "bait") (List.mem_of_getElem? (i := 29) rfl)
  refine va_ldcS hx hb hown hs4 dX12_readLine_17 ?_
  refine cl_i (wc := [(a0, .inr (9, [g1, g2, g3, g4, g5, g6, g7, g8, g9, .int 1, .int 0, g10, g11, g12, g13, g14, g15, g16, g17, g18, g19, g20, g21, g22, g23, g24, g25, g26, g27, g28]))]) (wr := []) (va_runV (As := [.ref s4]) (rest := []) ⟨hx, hb, hml, hown, hts⟩ (kX12_isWord l dC dI a0 s4 (g1) (g2) (g3) (g4) (g5) (g6) (g7) (g8) (g9) (.int 0) (g10) (g11) (g12) (g13) (g14) (g15) (g16) (g17) (g18) (g19) (g20) (g21) (g22) (g23) (g24) (g25) (g26) (g27) (g28) H.size) (cwV 1 hts gX12_readLine_0 rfl rfl rfl (by decide +kernel) ⟨Nat.le_of_ble_eq_true rfl, Nat.le_of_ble_eq_true rfl⟩) (PV (hP.sub (ws' := [(a0, .inr (9, [g1, g2, g3, g4, g5, g6, g7, g8, g9, .int 1, .int 0, g10, g11, g12, g13, g14, g15, g16, g17, g18, g19, g20, g21, g22, g23, g24, g25, g26, g27, g28]))]) [0] rfl) (hK.sub (tys' := []) [] rfl) (hD.sub (ws' := [(a0, .inr (9, [g1, g2, g3, g4, g5, g6, g7, g8, g9, .int 1, .int 0, g10, g11, g12, g13, g14, g15, g16, g17, g18, g19, g20, g21, g22, g23, g24, g25, g26, g27, g28]))]) [0] (by decide) rfl) hN 0 rfl rfl) rfl rfl hl.1 rfl (lv_room (Nat.le_of_ble_eq_true rfl)) dX12_readLine_19 ⟨Nat.le_of_ble_eq_true rfl, Nat.le_of_ble_eq_true rfl⟩) hP hD hK hS hA [0] [] rfl rfl (by decide) (by decide) (fun z5 _u H locs hw hP hD hK hS => ?_)
  have hP : va_P (dC, dI) vwCl [(a0, .inr (9, [g1, g2, g3, g4, g5, g6, g7, g8, g9, .int 1, .int 0, g10, g11, g12, g13, g14, g15, g16, g17, g18, g19, g20, g21, g22, g23, g24, g25, g26, g27, g28]))] H := hP
  have hD : va_D A [(a0, .inr (9, [g1, g2, g3, g4, g5, g6, g7, g8, g9, .int 1, .int 0, g10, g11, g12, g13, g14, g15, g16, g17, g18, g19, g20, g21, g22, g23, g24, g25, g26, g27, g28]))] := hD
  have hK : va_K (dC, dI) vwCl [] s := hK
  obtain rfl : z5 = 0 := hw
  refine lv_if_eq (tgt := 32) hx hb dX12_readLine_22 (by decide) (fun _ => ?_) (fun c6 => absurd c6 (by decide))
  refine lv_aload_n hx hb dX12_readLine_32 rfl (lv_at hl 0 rfl) ?_
  obtain ⟨s7, hs7⟩ := hN.2.2 (RX12, 131, "asker") (List.mem_of_getElem? (i := 30) rfl)
  refine va_ldcS hx hb hown hs7 dX12_readLine_33 ?_
  refine cl_i (wc := [(a0, .inr (9, [g1, g2, g3, g4, g5, g6, g7, g8, g9, .int 1, .int 0, g10, g11, g12, g13, g14, g15, g16, g17, g18, g19, g20, g21, g22, g23, g24, g25, g26, g27, g28]))]) (wr := []) (va_runV (As := [.ref s7]) (rest := []) ⟨hx, hb, hml, hown, hts⟩ (kX12_isWord l dC dI a0 s7 (g1) (g2) (g3) (g4) (g5) (g6) (g7) (g8) (g9) (.int 0) (g10) (g11) (g12) (g13) (g14) (g15) (g16) (g17) (g18) (g19) (g20) (g21) (g22) (g23) (g24) (g25) (g26) (g27) (g28) H.size) (cwV 1 hts gX12_readLine_0 rfl rfl rfl (by decide +kernel) ⟨Nat.le_of_ble_eq_true rfl, Nat.le_of_ble_eq_true rfl⟩) (PV (hP.sub (ws' := [(a0, .inr (9, [g1, g2, g3, g4, g5, g6, g7, g8, g9, .int 1, .int 0, g10, g11, g12, g13, g14, g15, g16, g17, g18, g19, g20, g21, g22, g23, g24, g25, g26, g27, g28]))]) [0] rfl) (hK.sub (tys' := []) [] rfl) (hD.sub (ws' := [(a0, .inr (9, [g1, g2, g3, g4, g5, g6, g7, g8, g9, .int 1, .int 0, g10, g11, g12, g13, g14, g15, g16, g17, g18, g19, g20, g21, g22, g23, g24, g25, g26, g27, g28]))]) [0] (by decide) rfl) hN 0 rfl rfl) rfl rfl hl.1 rfl (lv_room (Nat.le_of_ble_eq_true rfl)) dX12_readLine_35 ⟨Nat.le_of_ble_eq_true rfl, Nat.le_of_ble_eq_true rfl⟩) hP hD hK hS hA [0] [] rfl rfl (by decide) (by decide) (fun z8 _u H locs hw hP hD hK hS => ?_)
  have hP : va_P (dC, dI) vwCl [(a0, .inr (9, [g1, g2, g3, g4, g5, g6, g7, g8, g9, .int 1, .int 0, g10, g11, g12, g13, g14, g15, g16, g17, g18, g19, g20, g21, g22, g23, g24, g25, g26, g27, g28]))] H := hP
  have hD : va_D A [(a0, .inr (9, [g1, g2, g3, g4, g5, g6, g7, g8, g9, .int 1, .int 0, g10, g11, g12, g13, g14, g15, g16, g17, g18, g19, g20, g21, g22, g23, g24, g25, g26, g27, g28]))] := hD
  have hK : va_K (dC, dI) vwCl [] s := hK
  obtain rfl : z8 = 0 := hw
  refine lv_if_eq (tgt := 48) hx hb dX12_readLine_38 (by decide) (fun _ => ?_) (fun c9 => absurd c9 (by decide))
  refine lv_aload_n hx hb dX12_readLine_48 rfl (lv_at hl 0 rfl) ?_
  obtain ⟨s10, hs10⟩ := hN.2.2 (RX12, 133, "answer") (List.mem_of_getElem? (i := 31) rfl)
  refine va_ldcS hx hb hown hs10 dX12_readLine_49 ?_
  refine cl_i (wc := [(a0, .inr (9, [g1, g2, g3, g4, g5, g6, g7, g8, g9, .int 1, .int 0, g10, g11, g12, g13, g14, g15, g16, g17, g18, g19, g20, g21, g22, g23, g24, g25, g26, g27, g28]))]) (wr := []) (va_runV (As := [.ref s10]) (rest := []) ⟨hx, hb, hml, hown, hts⟩ (kX12_isWord l dC dI a0 s10 (g1) (g2) (g3) (g4) (g5) (g6) (g7) (g8) (g9) (.int 0) (g10) (g11) (g12) (g13) (g14) (g15) (g16) (g17) (g18) (g19) (g20) (g21) (g22) (g23) (g24) (g25) (g26) (g27) (g28) H.size) (cwV 1 hts gX12_readLine_0 rfl rfl rfl (by decide +kernel) ⟨Nat.le_of_ble_eq_true rfl, Nat.le_of_ble_eq_true rfl⟩) (PV (hP.sub (ws' := [(a0, .inr (9, [g1, g2, g3, g4, g5, g6, g7, g8, g9, .int 1, .int 0, g10, g11, g12, g13, g14, g15, g16, g17, g18, g19, g20, g21, g22, g23, g24, g25, g26, g27, g28]))]) [0] rfl) (hK.sub (tys' := []) [] rfl) (hD.sub (ws' := [(a0, .inr (9, [g1, g2, g3, g4, g5, g6, g7, g8, g9, .int 1, .int 0, g10, g11, g12, g13, g14, g15, g16, g17, g18, g19, g20, g21, g22, g23, g24, g25, g26, g27, g28]))]) [0] (by decide) rfl) hN 0 rfl rfl) rfl rfl hl.1 rfl (lv_room (Nat.le_of_ble_eq_true rfl)) dX12_readLine_51 ⟨Nat.le_of_ble_eq_true rfl, Nat.le_of_ble_eq_true rfl⟩) hP hD hK hS hA [0] [] rfl rfl (by decide) (by decide) (fun z11 _u H locs hw hP hD hK hS => ?_)
  have hP : va_P (dC, dI) vwCl [(a0, .inr (9, [g1, g2, g3, g4, g5, g6, g7, g8, g9, .int 1, .int 0, g10, g11, g12, g13, g14, g15, g16, g17, g18, g19, g20, g21, g22, g23, g24, g25, g26, g27, g28]))] H := hP
  have hD : va_D A [(a0, .inr (9, [g1, g2, g3, g4, g5, g6, g7, g8, g9, .int 1, .int 0, g10, g11, g12, g13, g14, g15, g16, g17, g18, g19, g20, g21, g22, g23, g24, g25, g26, g27, g28]))] := hD
  have hK : va_K (dC, dI) vwCl [] s := hK
  obtain rfl : z11 = 0 := hw
  refine lv_if_eq (tgt := 64) hx hb dX12_readLine_54 (by decide) (fun _ => ?_) (fun c12 => absurd c12 (by decide))
  refine lv_aload_n hx hb dX12_readLine_64 rfl (lv_at hl 0 rfl) ?_
  obtain ⟨s13, hs13⟩ := hN.2.2 (RX12, 135, "dark") (List.mem_of_getElem? (i := 32) rfl)
  refine va_ldcS hx hb hown hs13 dX12_readLine_65 ?_
  refine cl_i (wc := [(a0, .inr (9, [g1, g2, g3, g4, g5, g6, g7, g8, g9, .int 1, .int 0, g10, g11, g12, g13, g14, g15, g16, g17, g18, g19, g20, g21, g22, g23, g24, g25, g26, g27, g28]))]) (wr := []) (va_runV (As := [.ref s13]) (rest := []) ⟨hx, hb, hml, hown, hts⟩ (kX12_isWord l dC dI a0 s13 (g1) (g2) (g3) (g4) (g5) (g6) (g7) (g8) (g9) (.int 0) (g10) (g11) (g12) (g13) (g14) (g15) (g16) (g17) (g18) (g19) (g20) (g21) (g22) (g23) (g24) (g25) (g26) (g27) (g28) H.size) (cwV 1 hts gX12_readLine_0 rfl rfl rfl (by decide +kernel) ⟨Nat.le_of_ble_eq_true rfl, Nat.le_of_ble_eq_true rfl⟩) (PV (hP.sub (ws' := [(a0, .inr (9, [g1, g2, g3, g4, g5, g6, g7, g8, g9, .int 1, .int 0, g10, g11, g12, g13, g14, g15, g16, g17, g18, g19, g20, g21, g22, g23, g24, g25, g26, g27, g28]))]) [0] rfl) (hK.sub (tys' := []) [] rfl) (hD.sub (ws' := [(a0, .inr (9, [g1, g2, g3, g4, g5, g6, g7, g8, g9, .int 1, .int 0, g10, g11, g12, g13, g14, g15, g16, g17, g18, g19, g20, g21, g22, g23, g24, g25, g26, g27, g28]))]) [0] (by decide) rfl) hN 0 rfl rfl) rfl rfl hl.1 rfl (lv_room (Nat.le_of_ble_eq_true rfl)) dX12_readLine_67 ⟨Nat.le_of_ble_eq_true rfl, Nat.le_of_ble_eq_true rfl⟩) hP hD hK hS hA [0] [] rfl rfl (by decide) (by decide) (fun z14 _u H locs hw hP hD hK hS => ?_)
  have hP : va_P (dC, dI) vwCl [(a0, .inr (9, [g1, g2, g3, g4, g5, g6, g7, g8, g9, .int 1, .int 0, g10, g11, g12, g13, g14, g15, g16, g17, g18, g19, g20, g21, g22, g23, g24, g25, g26, g27, g28]))] H := hP
  have hD : va_D A [(a0, .inr (9, [g1, g2, g3, g4, g5, g6, g7, g8, g9, .int 1, .int 0, g10, g11, g12, g13, g14, g15, g16, g17, g18, g19, g20, g21, g22, g23, g24, g25, g26, g27, g28]))] := hD
  have hK : va_K (dC, dI) vwCl [] s := hK
  obtain rfl : z14 = 0 := hw
  refine lv_if_eq (tgt := 80) hx hb dX12_readLine_70 (by decide) (fun _ => ?_) (fun c15 => absurd c15 (by decide))
  refine lv_aload_n hx hb dX12_readLine_80 rfl (lv_at hl 0 rfl) ?_
  obtain ⟨s16, hs16⟩ := hN.2.2 (RX12, 137, "bite") (List.mem_of_getElem? (i := 33) rfl)
  refine va_ldcS hx hb hown hs16 dX12_readLine_81 ?_
  refine cl_i (wc := [(a0, .inr (9, [g1, g2, g3, g4, g5, g6, g7, g8, g9, .int 1, .int 0, g10, g11, g12, g13, g14, g15, g16, g17, g18, g19, g20, g21, g22, g23, g24, g25, g26, g27, g28]))]) (wr := []) (va_runV (As := [.ref s16]) (rest := []) ⟨hx, hb, hml, hown, hts⟩ (kX12_isWord l dC dI a0 s16 (g1) (g2) (g3) (g4) (g5) (g6) (g7) (g8) (g9) (.int 0) (g10) (g11) (g12) (g13) (g14) (g15) (g16) (g17) (g18) (g19) (g20) (g21) (g22) (g23) (g24) (g25) (g26) (g27) (g28) H.size) (cwV 1 hts gX12_readLine_0 rfl rfl rfl (by decide +kernel) ⟨Nat.le_of_ble_eq_true rfl, Nat.le_of_ble_eq_true rfl⟩) (PV (hP.sub (ws' := [(a0, .inr (9, [g1, g2, g3, g4, g5, g6, g7, g8, g9, .int 1, .int 0, g10, g11, g12, g13, g14, g15, g16, g17, g18, g19, g20, g21, g22, g23, g24, g25, g26, g27, g28]))]) [0] rfl) (hK.sub (tys' := []) [] rfl) (hD.sub (ws' := [(a0, .inr (9, [g1, g2, g3, g4, g5, g6, g7, g8, g9, .int 1, .int 0, g10, g11, g12, g13, g14, g15, g16, g17, g18, g19, g20, g21, g22, g23, g24, g25, g26, g27, g28]))]) [0] (by decide) rfl) hN 0 rfl rfl) rfl rfl hl.1 rfl (lv_room (Nat.le_of_ble_eq_true rfl)) dX12_readLine_83 ⟨Nat.le_of_ble_eq_true rfl, Nat.le_of_ble_eq_true rfl⟩) hP hD hK hS hA [0] [] rfl rfl (by decide) (by decide) (fun z17 _u H locs hw hP hD hK hS => ?_)
  have hP : va_P (dC, dI) vwCl [(a0, .inr (9, [g1, g2, g3, g4, g5, g6, g7, g8, g9, .int 1, .int 0, g10, g11, g12, g13, g14, g15, g16, g17, g18, g19, g20, g21, g22, g23, g24, g25, g26, g27, g28]))] H := hP
  have hD : va_D A [(a0, .inr (9, [g1, g2, g3, g4, g5, g6, g7, g8, g9, .int 1, .int 0, g10, g11, g12, g13, g14, g15, g16, g17, g18, g19, g20, g21, g22, g23, g24, g25, g26, g27, g28]))] := hD
  have hK : va_K (dC, dI) vwCl [] s := hK
  obtain rfl : z17 = 0 := hw
  refine lv_if_eq (tgt := 96) hx hb dX12_readLine_86 (by decide) (fun _ => ?_) (fun c18 => absurd c18 (by decide))
  refine lv_aload_n hx hb dX12_readLine_96 rfl (lv_at hl 0 rfl) ?_
  refine lv_iconst (v := 1) hx hb dX12_readLine_97 (by decide) ?_
  refine cl_v (wc := [(a0, .inr (9, [g1, g2, g3, g4, g5, g6, g7, g8, g9, .int 1, .int 0, g10, g11, g12, g13, g14, g15, g16, g17, g18, g19, g20, g21, g22, g23, g24, g25, g26, g27, g28]))]) (wr := []) (va_runV (As := [.int 1]) (rest := []) ⟨hx, hb, hml, hown, hts⟩ (kX12_flaw l dC dI a0 (g1) (g2) (g3) (g4) (g5) (g6) (g7) (g8) (g9) (g10) (g11) (g12) (g13) (g14) (g15) (g16) (g17) (g18) (g19) (g20) (g21) (g22) (g23) (g24) (g25) (g26) (g27) (g28) H.size) (cwV 1 hts gX12_readLine_1 rfl rfl rfl (by decide +kernel) ⟨Nat.le_of_ble_eq_true rfl, Nat.le_of_ble_eq_true rfl⟩) (PV (hP.sub (ws' := [(a0, .inr (9, [g1, g2, g3, g4, g5, g6, g7, g8, g9, .int 1, .int 0, g10, g11, g12, g13, g14, g15, g16, g17, g18, g19, g20, g21, g22, g23, g24, g25, g26, g27, g28]))]) [0] rfl) (hK.sub (tys' := []) [] rfl) (hD.sub (ws' := [(a0, .inr (9, [g1, g2, g3, g4, g5, g6, g7, g8, g9, .int 1, .int 0, g10, g11, g12, g13, g14, g15, g16, g17, g18, g19, g20, g21, g22, g23, g24, g25, g26, g27, g28]))]) [0] (by decide) rfl) hN 0 rfl rfl) rfl rfl hl.1 rfl (lv_room (Nat.le_of_ble_eq_true rfl)) dX12_readLine_98 ⟨Nat.le_of_ble_eq_true rfl, Nat.le_of_ble_eq_true rfl⟩) hP hD hK hS hA [0] [] rfl rfl (by decide) (by decide) (fun _u H locs hw hP hD hK hS => ?_)
  have hP : va_P (dC, dI) vwCl [(a0, .inr (9, [g1, g2, g3, g4, g5, g6, g7, g8, g9, .int 5, .int 0, g10, .int 1, .int 0, g13, g14, g15, g16, g17, g18, g19, g20, g21, g22, g23, g24, g25, g26, g27, g28]))] H := hP
  have hD : va_D A [(a0, .inr (9, [g1, g2, g3, g4, g5, g6, g7, g8, g9, .int 5, .int 0, g10, .int 1, .int 0, g13, g14, g15, g16, g17, g18, g19, g20, g21, g22, g23, g24, g25, g26, g27, g28]))] := hD
  have hK : va_K (dC, dI) vwCl [] s := hK
  have hP9 := hP.sub (ws' := [(a0, .inr (9, [g1, g2, g3, g4, g5, g6, g7, g8, g9, .int 5, .int 0, g10, .int 1, .int 0, g13, g14, g15, g16, g17, g18, g19, g20, g21, g22, g23, g24, g25, g26, g27, g28]))]) [0] rfl
  have hD9 := hD.sub (ws' := [(a0, .inr (9, [g1, g2, g3, g4, g5, g6, g7, g8, g9, .int 5, .int 0, g10, .int 1, .int 0, g13, g14, g15, g16, g17, g18, g19, g20, g21, g22, g23, g24, g25, g26, g27, g28]))]) [0] (by decide) rfl
  have hK9 := hK.sub (tys' := []) [] rfl
  exact W.vret hx hb hr (fun t ht hW => ⟨⟨(), rfl, trivial, by rw [ht]; exact hP9, va_K.moved hW.alike hK9, hD9⟩, hS.F ht⟩) hS.2.2 dX12_readLine_101
theorem dX12_eatsSemicolon_0 : decode cX12_eatsSemicolon 0 = .ok (.aload_n 0, 1) := by decide +kernel
theorem dX12_eatsSemicolon_1 : decode cX12_eatsSemicolon 1 = .ok (.getfield 68, 3) := by decide +kernel
theorem dX12_eatsSemicolon_12 : decode cX12_eatsSemicolon 12 = .ok (.iconst 0, 1) := by decide +kernel
theorem dX12_eatsSemicolon_13 : decode cX12_eatsSemicolon 13 = .ok (.istore_n 1, 1) := by decide +kernel
theorem dX12_eatsSemicolon_14 : decode cX12_eatsSemicolon 14 = .ok (.iload_n 1, 1) := by decide +kernel
theorem dX12_eatsSemicolon_15 : decode cX12_eatsSemicolon 15 = .ok (.ifCond .eq 7, 3) := by decide +kernel
theorem dX12_eatsSemicolon_22 : decode cX12_eatsSemicolon 22 = .ok (.iload_n 1, 1) := by decide +kernel
theorem dX12_eatsSemicolon_23 : decode cX12_eatsSemicolon 23 = .ok (.ireturn, 1) := by decide +kernel
theorem dX12_eatsSemicolon_4 : decode cX12_eatsSemicolon 4 = .ok (.iconst 4, 1) := by decide +kernel
theorem dX12_eatsSemicolon_5 : decode cX12_eatsSemicolon 5 = .ok (.if_icmp .ne 7, 3) := by decide +kernel
def vX12_eatsSemicolon : List Cond := .code yX12_eatsSemicolon cX12_eatsSemicolon 2 (some .boolean) :: ([.fieldLink RX12 68 "HookPierModel" "sort" "I"] ++ wsX120)
theorem iX12_eatsSemicolon_X12 : ∀ w ∈ wsX120, w ∈ vX12_eatsSemicolon := fun _ h => List.mem_cons_of_mem _ (List.mem_append_right _ h)
set_option maxHeartbeats 1000000 in
set_option maxRecDepth 100000 in
theorem kX12_eatsSemicolon (l : Launch) (dC : Nat → ClassId) (dI : Nat → Nat → Nat) (a0 : Nat) (g1 : Value) (g2 : Value) (g3 : Value) (g4 : Value) (g5 : Value) (g6 : Value) (g7 : Value) (g8 : Value) (g9 : Value) (g10 : Value) (g11 : Value) (g12 : Value) (g13 : Value) (g14 : Value) (g15 : Value) (g16 : Value) (g17 : Value) (g18 : Value) (g19 : Value) (g20 : Value) (g21 : Value) (g22 : Value) (g23 : Value) (g24 : Value) (g25 : Value) (g26 : Value) (g27 : Value) (g28 : Value) (g29 : Value) (sz : Nat) : Met l yX12_eatsSemicolon vX12_eatsSemicolon ({ frames := 0, cells := 0, slots := 0, locals := 0 }) (PC (dC, dI) [.ref a0] sz [(a0, .inr (9, [g1, g2, g3, g4, g5, g6, g7, g8, g9, .int 5, g10, g11, g12, g13, g14, g15, g16, g17, g18, g19, g20, g21, g22, g23, g24, g25, g26, g27, g28, g29]))] []) (va_Qi (S := Unit) (fun (r : Int32) _ => r = 0) (fun _ t => BC (dC, dI) (va_A [(a0, .inr (9, [g1, g2, g3, g4, g5, g6, g7, g8, g9, .int 5, g10, g11, g12, g13, g14, g15, g16, g17, g18, g19, g20, g21, g22, g23, g24, g25, g26, g27, g28, g29]))] sz) [(a0, .inr (9, [g1, g2, g3, g4, g5, g6, g7, g8, g9, .int 5, g10, g11, g12, g13, g14, g15, g16, g17, g18, g19, g20, g21, g22, g23, g24, g25, g26, g27, g28, g29]))] [] t) (va_A [(a0, .inr (9, [g1, g2, g3, g4, g5, g6, g7, g8, g9, .int 5, g10, g11, g12, g13, g14, g15, g16, g17, g18, g19, g20, g21, g22, g23, g24, g25, g26, g27, g28, g29]))] sz)) 0 0 (va_A [(a0, .inr (9, [g1, g2, g3, g4, g5, g6, g7, g8, g9, .int 5, g10, g11, g12, g13, g14, g15, g16, g17, g18, g19, g20, g21, g22, g23, g24, g25, g26, g27, g28, g29]))] sz) := by
  refine Met.ofW (cc := cX12_eatsSemicolon) (maxL := 2) (ret := (some .boolean)) (by decide) rfl ?_
  intro p e s m args below meth c s₁ B hml hv
  obtain ⟨rfl, hsz, hP, hK, hD0, hN⟩ := hv
  have hx := B.exec
  have hb := B.bytes
  have hr := B.returns
  have hts := atoms_spec (ws := vX12_eatsSemicolon) B.pre
  have hown : s.vm.findClass RX12 = some m.cls := findClass_of_methodNamed B.named
  have hlocks := B.notSynchronized
  subst hsz
  have hD := hD0.self (sz := s.heap.size)
  generalize hAe : va_A [(a0, .inr (9, [g1, g2, g3, g4, g5, g6, g7, g8, g9, .int 5, g10, g11, g12, g13, g14, g15, g16, g17, g18, g19, g20, g21, g22, g23, g24, g25, g26, g27, g28, g29]))] s.heap.size = A at hD ⊢
  have hA : ∀ q : Nat, s.heap.size ≤ q → A q := fun q h => by rw [← hAe]; exact Or.inr h
  have hS : va_S A s.heap s.heap [] := va_S.rf
  have hP : va_P (dC, dI) vwCl [(a0, .inr (9, [g1, g2, g3, g4, g5, g6, g7, g8, g9, .int 5, g10, g11, g12, g13, g14, g15, g16, g17, g18, g19, g20, g21, g22, g23, g24, g25, g26, g27, g28, g29]))] s.heap := hP
  have hl := lv_entry ([.ref a0]) (n := 2) (Nat.le_of_ble_eq_true rfl)
  rw [lg_entry_eq]
  generalize (lg_sl ([.ref a0]) ++ List.replicate (2 - (lg_sl ([.ref a0])).length) Slot.unset).toArray = ls at hl ⊢
  have hl : lv_has ls 2 [(0, .ref a0)] := hl
  refine lv_aload_n hx hb dX12_eatsSemicolon_0 rfl (lv_at hl 0 rfl) ?_
  refine va_get (D := (dC, dI)) (ci := 9) (v := .int 5) (C := RX12) (T := TX12) (N := 30) hx hb hts iX12_eatsSemicolon_X12 hown hK hP 0 rfl rfl 9 (by decide) (hts (.fieldLink RX12 68 "HookPierModel" "sort" "I") (List.mem_of_getElem? (i := 1) rfl)) (fun _ h9 => h9) rfl dX12_eatsSemicolon_1 ?_
  refine lv_iconst (v := 4) hx hb dX12_eatsSemicolon_4 (by decide) ?_
  refine lv_icmp_ne (tgt := 12) hx hb dX12_eatsSemicolon_5 (by decide) (fun _ => ?_) (fun c1 => absurd c1 (by decide))
  refine lv_iconst (v := 0) hx hb dX12_eatsSemicolon_12 (by decide) ?_
  refine lv_istore_n (lv' := [(1, .int 0), (0, .ref a0)]) hx hb dX12_eatsSemicolon_13 rfl hl (by decide) rfl (fun ls hl => ?_)
  refine lv_iload_n hx hb dX12_eatsSemicolon_14 rfl (lv_at hl 0 rfl) ?_
  refine lv_if_eq (tgt := 22) hx hb dX12_eatsSemicolon_15 (by decide) (fun _ => ?_) (fun c2 => absurd c2 (by decide))
  refine lv_iload_n hx hb dX12_eatsSemicolon_22 rfl (lv_at hl 0 rfl) ?_
  have hP9 := hP.sub (ws' := [(a0, .inr (9, [g1, g2, g3, g4, g5, g6, g7, g8, g9, .int 5, g10, g11, g12, g13, g14, g15, g16, g17, g18, g19, g20, g21, g22, g23, g24, g25, g26, g27, g28, g29]))]) [0] rfl
  have hD9 := hD.sub (ws' := [(a0, .inr (9, [g1, g2, g3, g4, g5, g6, g7, g8, g9, .int 5, g10, g11, g12, g13, g14, g15, g16, g17, g18, g19, g20, g21, g22, g23, g24, g25, g26, g27, g28, g29]))]) [0] (by decide) rfl
  have hK9 := hK.sub (tys' := []) [] rfl
  exact W.zret (v := 0) hx hb hr rfl (fun t ht hW => ⟨⟨0, (), rfl, rfl, by rw [ht]; exact hP9, va_K.moved hW.alike hK9, hD9⟩, hS.F ht⟩) hS.2.2 dX12_eatsSemicolon_23
theorem dX12_flaw_8 : decode cX12_flaw 8 = .ok (.return_, 1) := by decide +kernel
def vX12_flaw_1 : List Cond := .code yX12_flaw cX12_flaw 2 none :: ([.fieldLink RX12 68 "HookPierModel" "sort" "I"] ++ wsX120)
theorem iX12_flaw_1_X12 : ∀ w ∈ wsX120, w ∈ vX12_flaw_1 := fun _ h => List.mem_cons_of_mem _ (List.mem_append_right _ h)
set_option maxHeartbeats 1000000 in
set_option maxRecDepth 100000 in
theorem kX12_flaw_1 (l : Launch) (dC : Nat → ClassId) (dI : Nat → Nat → Nat) (a0 : Nat) (g1 : Value) (g2 : Value) (g3 : Value) (g4 : Value) (g5 : Value) (g6 : Value) (g7 : Value) (g8 : Value) (g9 : Value) (g10 : Value) (g11 : Value) (g12 : Value) (g13 : Value) (g14 : Value) (g15 : Value) (g16 : Value) (g17 : Value) (g18 : Value) (g19 : Value) (g20 : Value) (g21 : Value) (g22 : Value) (g23 : Value) (g24 : Value) (g25 : Value) (g26 : Value) (g27 : Value) (g28 : Value) (g29 : Value) (sz : Nat) : Met l yX12_flaw vX12_flaw_1 ({ frames := 0, cells := 0, slots := 0, locals := 0 }) (PC (dC, dI) [.ref a0, .int 1] sz [(a0, .inr (9, [g1, g2, g3, g4, g5, g6, g7, g8, g9, .int 5, g10, g11, g12, g13, g14, g15, g16, g17, g18, g19, g20, g21, g22, g23, g24, g25, g26, g27, g28, g29]))] []) (va_Qv (S := Unit) (fun _ => True) (fun _ t => BC (dC, dI) (va_A [(a0, .inr (9, [g1, g2, g3, g4, g5, g6, g7, g8, g9, .int 5, g10, g11, g12, g13, g14, g15, g16, g17, g18, g19, g20, g21, g22, g23, g24, g25, g26, g27, g28, g29]))] sz) [(a0, .inr (9, [g1, g2, g3, g4, g5, g6, g7, g8, g9, .int 5, g10, g11, g12, g13, g14, g15, g16, g17, g18, g19, g20, g21, g22, g23, g24, g25, g26, g27, g28, g29]))] [] t) (va_A [(a0, .inr (9, [g1, g2, g3, g4, g5, g6, g7, g8, g9, .int 5, g10, g11, g12, g13, g14, g15, g16, g17, g18, g19, g20, g21, g22, g23, g24, g25, g26, g27, g28, g29]))] sz)) 0 0 (va_A [(a0, .inr (9, [g1, g2, g3, g4, g5, g6, g7, g8, g9, .int 5, g10, g11, g12, g13, g14, g15, g16, g17, g18, g19, g20, g21, g22, g23, g24, g25, g26, g27, g28, g29]))] sz) := by
  refine Met.ofW (cc := cX12_flaw) (maxL := 2) (ret := none) (by decide) rfl ?_
  intro p e s m args below meth c s₁ B hml hv
  obtain ⟨rfl, hsz, hP, hK, hD0, hN⟩ := hv
  have hx := B.exec
  have hb := B.bytes
  have hr := B.returns
  have hts := atoms_spec (ws := vX12_flaw_1) B.pre
  have hown : s.vm.findClass RX12 = some m.cls := findClass_of_methodNamed B.named
  have hlocks := B.notSynchronized
  subst hsz
  have hD := hD0.self (sz := s.heap.size)
  generalize hAe : va_A [(a0, .inr (9, [g1, g2, g3, g4, g5, g6, g7, g8, g9, .int 5, g10, g11, g12, g13, g14, g15, g16, g17, g18, g19, g20, g21, g22, g23, g24, g25, g26, g27, g28, g29]))] s.heap.size = A at hD ⊢
  have hA : ∀ q : Nat, s.heap.size ≤ q → A q := fun q h => by rw [← hAe]; exact Or.inr h
  have hS : va_S A s.heap s.heap [] := va_S.rf
  have hP : va_P (dC, dI) vwCl [(a0, .inr (9, [g1, g2, g3, g4, g5, g6, g7, g8, g9, .int 5, g10, g11, g12, g13, g14, g15, g16, g17, g18, g19, g20, g21, g22, g23, g24, g25, g26, g27, g28, g29]))] s.heap := hP
  have hl := lv_entry ([.ref a0, .int 1]) (n := 2) (Nat.le_of_ble_eq_true rfl)
  rw [lg_entry_eq]
  generalize (lg_sl ([.ref a0, .int 1]) ++ List.replicate (2 - (lg_sl ([.ref a0, .int 1])).length) Slot.unset).toArray = ls at hl ⊢
  have hl : lv_has ls 2 [(0, .ref a0), (1, .int 1)] := hl
  refine lv_aload_n hx hb dX12_flaw_0 rfl (lv_at hl 0 rfl) ?_
  refine va_get (D := (dC, dI)) (ci := 9) (v := .int 5) (C := RX12) (T := TX12) (N := 30) hx hb hts iX12_flaw_1_X12 hown hK hP 0 rfl rfl 9 (by decide) (hts (.fieldLink RX12 68 "HookPierModel" "sort" "I") (List.mem_of_getElem? (i := 1) rfl)) (fun _ h9 => h9) rfl dX12_flaw_1 ?_
  refine lv_iconst (v := 5) hx hb dX12_flaw_4 (by decide) ?_
  refine lv_icmp_ne (tgt := 9) hx hb dX12_flaw_5 (by decide) (fun c1 => absurd c1 (by decide)) (fun _ => ?_)
  have hP9 := hP.sub (ws' := [(a0, .inr (9, [g1, g2, g3, g4, g5, g6, g7, g8, g9, .int 5, g10, g11, g12, g13, g14, g15, g16, g17, g18, g19, g20, g21, g22, g23, g24, g25, g26, g27, g28, g29]))]) [0] rfl
  have hD9 := hD.sub (ws' := [(a0, .inr (9, [g1, g2, g3, g4, g5, g6, g7, g8, g9, .int 5, g10, g11, g12, g13, g14, g15, g16, g17, g18, g19, g20, g21, g22, g23, g24, g25, g26, g27, g28, g29]))]) [0] (by decide) rfl
  have hK9 := hK.sub (tys' := []) [] rfl
  exact W.vret hx hb hr (fun t ht hW => ⟨⟨(), rfl, trivial, by rw [ht]; exact hP9, va_K.moved hW.alike hK9, hD9⟩, hS.F ht⟩) hS.2.2 dX12_flaw_8
def vX12_flaw_2 : List Cond := .code yX12_flaw cX12_flaw 2 none :: ([.fieldLink RX12 68 "HookPierModel" "sort" "I"] ++ wsX120)
theorem iX12_flaw_2_X12 : ∀ w ∈ wsX120, w ∈ vX12_flaw_2 := fun _ h => List.mem_cons_of_mem _ (List.mem_append_right _ h)
set_option maxHeartbeats 1000000 in
set_option maxRecDepth 100000 in
theorem kX12_flaw_2 (l : Launch) (dC : Nat → ClassId) (dI : Nat → Nat → Nat) (a0 : Nat) (g1 : Value) (g2 : Value) (g3 : Value) (g4 : Value) (g5 : Value) (g6 : Value) (g7 : Value) (g8 : Value) (g9 : Value) (g10 : Value) (g11 : Value) (g12 : Value) (g13 : Value) (g14 : Value) (g15 : Value) (g16 : Value) (g17 : Value) (g18 : Value) (g19 : Value) (g20 : Value) (g21 : Value) (g22 : Value) (g23 : Value) (g24 : Value) (g25 : Value) (g26 : Value) (g27 : Value) (g28 : Value) (g29 : Value) (sz : Nat) : Met l yX12_flaw vX12_flaw_2 ({ frames := 0, cells := 0, slots := 0, locals := 0 }) (PC (dC, dI) [.ref a0, .int 6] sz [(a0, .inr (9, [g1, g2, g3, g4, g5, g6, g7, g8, g9, .int 5, g10, g11, g12, g13, g14, g15, g16, g17, g18, g19, g20, g21, g22, g23, g24, g25, g26, g27, g28, g29]))] []) (va_Qv (S := Unit) (fun _ => True) (fun _ t => BC (dC, dI) (va_A [(a0, .inr (9, [g1, g2, g3, g4, g5, g6, g7, g8, g9, .int 5, g10, g11, g12, g13, g14, g15, g16, g17, g18, g19, g20, g21, g22, g23, g24, g25, g26, g27, g28, g29]))] sz) [(a0, .inr (9, [g1, g2, g3, g4, g5, g6, g7, g8, g9, .int 5, g10, g11, g12, g13, g14, g15, g16, g17, g18, g19, g20, g21, g22, g23, g24, g25, g26, g27, g28, g29]))] [] t) (va_A [(a0, .inr (9, [g1, g2, g3, g4, g5, g6, g7, g8, g9, .int 5, g10, g11, g12, g13, g14, g15, g16, g17, g18, g19, g20, g21, g22, g23, g24, g25, g26, g27, g28, g29]))] sz)) 0 0 (va_A [(a0, .inr (9, [g1, g2, g3, g4, g5, g6, g7, g8, g9, .int 5, g10, g11, g12, g13, g14, g15, g16, g17, g18, g19, g20, g21, g22, g23, g24, g25, g26, g27, g28, g29]))] sz) := by
  refine Met.ofW (cc := cX12_flaw) (maxL := 2) (ret := none) (by decide) rfl ?_
  intro p e s m args below meth c s₁ B hml hv
  obtain ⟨rfl, hsz, hP, hK, hD0, hN⟩ := hv
  have hx := B.exec
  have hb := B.bytes
  have hr := B.returns
  have hts := atoms_spec (ws := vX12_flaw_2) B.pre
  have hown : s.vm.findClass RX12 = some m.cls := findClass_of_methodNamed B.named
  have hlocks := B.notSynchronized
  subst hsz
  have hD := hD0.self (sz := s.heap.size)
  generalize hAe : va_A [(a0, .inr (9, [g1, g2, g3, g4, g5, g6, g7, g8, g9, .int 5, g10, g11, g12, g13, g14, g15, g16, g17, g18, g19, g20, g21, g22, g23, g24, g25, g26, g27, g28, g29]))] s.heap.size = A at hD ⊢
  have hA : ∀ q : Nat, s.heap.size ≤ q → A q := fun q h => by rw [← hAe]; exact Or.inr h
  have hS : va_S A s.heap s.heap [] := va_S.rf
  have hP : va_P (dC, dI) vwCl [(a0, .inr (9, [g1, g2, g3, g4, g5, g6, g7, g8, g9, .int 5, g10, g11, g12, g13, g14, g15, g16, g17, g18, g19, g20, g21, g22, g23, g24, g25, g26, g27, g28, g29]))] s.heap := hP
  have hl := lv_entry ([.ref a0, .int 6]) (n := 2) (Nat.le_of_ble_eq_true rfl)
  rw [lg_entry_eq]
  generalize (lg_sl ([.ref a0, .int 6]) ++ List.replicate (2 - (lg_sl ([.ref a0, .int 6])).length) Slot.unset).toArray = ls at hl ⊢
  have hl : lv_has ls 2 [(0, .ref a0), (1, .int 6)] := hl
  refine lv_aload_n hx hb dX12_flaw_0 rfl (lv_at hl 0 rfl) ?_
  refine va_get (D := (dC, dI)) (ci := 9) (v := .int 5) (C := RX12) (T := TX12) (N := 30) hx hb hts iX12_flaw_2_X12 hown hK hP 0 rfl rfl 9 (by decide) (hts (.fieldLink RX12 68 "HookPierModel" "sort" "I") (List.mem_of_getElem? (i := 1) rfl)) (fun _ h9 => h9) rfl dX12_flaw_1 ?_
  refine lv_iconst (v := 5) hx hb dX12_flaw_4 (by decide) ?_
  refine lv_icmp_ne (tgt := 9) hx hb dX12_flaw_5 (by decide) (fun c1 => absurd c1 (by decide)) (fun _ => ?_)
  have hP9 := hP.sub (ws' := [(a0, .inr (9, [g1, g2, g3, g4, g5, g6, g7, g8, g9, .int 5, g10, g11, g12, g13, g14, g15, g16, g17, g18, g19, g20, g21, g22, g23, g24, g25, g26, g27, g28, g29]))]) [0] rfl
  have hD9 := hD.sub (ws' := [(a0, .inr (9, [g1, g2, g3, g4, g5, g6, g7, g8, g9, .int 5, g10, g11, g12, g13, g14, g15, g16, g17, g18, g19, g20, g21, g22, g23, g24, g25, g26, g27, g28, g29]))]) [0] (by decide) rfl
  have hK9 := hK.sub (tys' := []) [] rfl
  exact W.vret hx hb hr (fun t ht hW => ⟨⟨(), rfl, trivial, by rw [ht]; exact hP9, va_K.moved hW.alike hK9, hD9⟩, hS.F ht⟩) hS.2.2 dX12_flaw_8
theorem dX12_readAll_0 : decode cX12_readAll 0 = .ok (.iconst 1, 1) := by decide +kernel
theorem dX12_readAll_1 : decode cX12_readAll 1 = .ok (.istore_n 1, 1) := by decide +kernel
theorem dX12_readAll_10 : decode cX12_readAll 10 = .ok (.aload_n 0, 1) := by decide +kernel
theorem dX12_readAll_11 : decode cX12_readAll 11 = .ok (.invokevirtual 172, 3) := by decide +kernel
theorem dX12_readAll_14 : decode cX12_readAll 14 = .ok (.istore_n 1, 1) := by decide +kernel
theorem dX12_readAll_15 : decode cX12_readAll 15 = .ok (.goto (-13), 3) := by decide +kernel
theorem dX12_readAll_18 : decode cX12_readAll 18 = .ok (.aload_n 0, 1) := by decide +kernel
theorem dX12_readAll_19 : decode cX12_readAll 19 = .ok (.getfield 68, 3) := by decide +kernel
theorem dX12_readAll_2 : decode cX12_readAll 2 = .ok (.iload_n 1, 1) := by decide +kernel
theorem dX12_readAll_22 : decode cX12_readAll 22 = .ok (.iconst 1, 1) := by decide +kernel
theorem dX12_readAll_23 : decode cX12_readAll 23 = .ok (.if_icmp .eq 8, 3) := by decide +kernel
theorem dX12_readAll_26 : decode cX12_readAll 26 = .ok (.aload_n 0, 1) := by decide +kernel
theorem dX12_readAll_27 : decode cX12_readAll 27 = .ok (.iconst 1, 1) := by decide +kernel
theorem dX12_readAll_28 : decode cX12_readAll 28 = .ok (.invokevirtual 111, 3) := by decide +kernel
theorem dX12_readAll_3 : decode cX12_readAll 3 = .ok (.ifCond .eq 15, 3) := by decide +kernel
theorem dX12_readAll_31 : decode cX12_readAll 31 = .ok (.aload_n 0, 1) := by decide +kernel
theorem dX12_readAll_32 : decode cX12_readAll 32 = .ok (.getfield 139, 3) := by decide +kernel
theorem dX12_readAll_35 : decode cX12_readAll 35 = .ok (.getfield 175, 3) := by decide +kernel
theorem dX12_readAll_38 : decode cX12_readAll 38 = .ok (.ifCond .ne 9, 3) := by decide +kernel
theorem dX12_readAll_41 : decode cX12_readAll 41 = .ok (.aload_n 0, 1) := by decide +kernel
theorem dX12_readAll_42 : decode cX12_readAll 42 = .ok (.bipush 6, 2) := by decide +kernel
theorem dX12_readAll_44 : decode cX12_readAll 44 = .ok (.invokevirtual 111, 3) := by decide +kernel
theorem dX12_readAll_47 : decode cX12_readAll 47 = .ok (.return_, 1) := by decide +kernel
theorem dX12_readAll_6 : decode cX12_readAll 6 = .ok (.aload_n 0, 1) := by decide +kernel
theorem dX12_readAll_7 : decode cX12_readAll 7 = .ok (.invokevirtual 169, 3) := by decide +kernel
def vX12_readAll : List Cond := .code yX12_readAll cX12_readAll 2 none :: ([.methodLink RX12 169 yX12_readLine, .instanceMethod yX12_readLine, .selects RX12 yX12_readLine yX12_readLine, .initialized RX12, .code yX12_readLine cX12_readLine 1 none, .methodLink RX12 107 yX12_isWord, .instanceMethod yX12_isWord, .selects RX12 yX12_isWord yX12_isWord, .code yX12_isWord cX12_isWord 2 (some .boolean), .fieldLink RX12 68 "HookPierModel" "sort" "I", .methodLink RX12 111 yX12_flaw, .instanceMethod yX12_flaw, .selects RX12 yX12_flaw yX12_flaw, .code yX12_flaw cX12_flaw 2 none, .fieldLink RX12 94 "HookPierModel" "fault" "I", .fieldLink RX12 77 "HookPierModel" "place" "I", .fieldLink RX12 97 "HookPierModel" "wrongAt" "I", .methodLink RX12 172 yX12_eatsSemicolon, .instanceMethod yX12_eatsSemicolon, .selects RX12 yX12_eatsSemicolon yX12_eatsSemicolon, .code yX12_eatsSemicolon cX12_eatsSemicolon 2 (some .boolean), .fieldLink RX12 139 "HookPierModel" "read" "LHookPierModel$Pier;"] ++ wsX120 ++ wsX110)
theorem iX12_readAll_X12 : ∀ w ∈ wsX120, w ∈ vX12_readAll := fun _ h => List.mem_cons_of_mem _ (List.mem_append_left _ (List.mem_append_right _ h))
theorem iX12_readAll_X11 : ∀ w ∈ wsX110, w ∈ vX12_readAll := fun _ h => List.mem_cons_of_mem _ (List.mem_append_right _ h)
set_option maxRecDepth 20000 in
theorem gX12_readAll_0 : GoodIn vX12_readAll (wsV RX12 169 RX12 yX12_readLine vX12_readLine) := goodIn_app (goodIn_r [.methodLink RX12 169 yX12_readLine, .instanceMethod yX12_readLine, .selects RX12 yX12_readLine yX12_readLine, .initialized RX12] [1, 2, 3, 4] (by decide +kernel) (by decide +kernel)) (goodIn_ca (goodIn_r (.code yX12_readLine cX12_readLine 1 none :: [.methodLink RX12 107 yX12_isWord, .instanceMethod yX12_isWord, .selects RX12 yX12_isWord yX12_isWord, .initialized RX12, .code yX12_isWord cX12_isWord 2 (some .boolean), .fieldLink RX12 68 "HookPierModel" "sort" "I", .methodLink RX12 111 yX12_flaw, .instanceMethod yX12_flaw, .selects RX12 yX12_flaw yX12_flaw, .code yX12_flaw cX12_flaw 2 none, .fieldLink RX12 94 "HookPierModel" "fault" "I", .fieldLink RX12 77 "HookPierModel" "place" "I", .fieldLink RX12 97 "HookPierModel" "wrongAt" "I"]) [5, 6, 7, 8, 4, 9, 10, 11, 12, 13, 14, 15, 16, 17] (by decide +kernel) (by decide +kernel) : GoodIn vX12_readAll (.code yX12_readLine cX12_readLine 1 none :: [.methodLink RX12 107 yX12_isWord, .instanceMethod yX12_isWord, .selects RX12 yX12_isWord yX12_isWord, .initialized RX12, .code yX12_isWord cX12_isWord 2 (some .boolean), .fieldLink RX12 68 "HookPierModel" "sort" "I", .methodLink RX12 111 yX12_flaw, .instanceMethod yX12_flaw, .selects RX12 yX12_flaw yX12_flaw, .code yX12_flaw cX12_flaw 2 none, .fieldLink RX12 94 "HookPierModel" "fault" "I", .fieldLink RX12 77 "HookPierModel" "place" "I", .fieldLink RX12 97 "HookPierModel" "wrongAt" "I"])) (goodIn_sub iX12_readAll_X12 (by decide +kernel)))
set_option maxRecDepth 20000 in
theorem gX12_readAll_1 : GoodIn vX12_readAll (wsV RX12 172 RX12 yX12_eatsSemicolon vX12_eatsSemicolon) := goodIn_app (goodIn_r [.methodLink RX12 172 yX12_eatsSemicolon, .instanceMethod yX12_eatsSemicolon, .selects RX12 yX12_eatsSemicolon yX12_eatsSemicolon, .initialized RX12] [18, 19, 20, 4] (by decide +kernel) (by decide +kernel)) (goodIn_ca (goodIn_r (.code yX12_eatsSemicolon cX12_eatsSemicolon 2 (some .boolean) :: [.fieldLink RX12 68 "HookPierModel" "sort" "I"]) [21, 10] (by decide +kernel) (by decide +kernel) : GoodIn vX12_readAll (.code yX12_eatsSemicolon cX12_eatsSemicolon 2 (some .boolean) :: [.fieldLink RX12 68 "HookPierModel" "sort" "I"])) (goodIn_sub iX12_readAll_X12 (by decide +kernel)))
set_option maxRecDepth 20000 in
theorem gX12_readAll_2 : GoodIn vX12_readAll (wsV RX12 111 RX12 yX12_flaw vX12_flaw_1) := goodIn_app (goodIn_r [.methodLink RX12 111 yX12_flaw, .instanceMethod yX12_flaw, .selects RX12 yX12_flaw yX12_flaw, .initialized RX12] [11, 12, 13, 4] (by decide +kernel) (by decide +kernel)) (goodIn_ca (goodIn_r (.code yX12_flaw cX12_flaw 2 none :: [.fieldLink RX12 68 "HookPierModel" "sort" "I"]) [14, 10] (by decide +kernel) (by decide +kernel) : GoodIn vX12_readAll (.code yX12_flaw cX12_flaw 2 none :: [.fieldLink RX12 68 "HookPierModel" "sort" "I"])) (goodIn_sub iX12_readAll_X12 (by decide +kernel)))
set_option maxRecDepth 20000 in
theorem gX12_readAll_3 : GoodIn vX12_readAll (wsV RX12 111 RX12 yX12_flaw vX12_flaw_2) := goodIn_app (goodIn_r [.methodLink RX12 111 yX12_flaw, .instanceMethod yX12_flaw, .selects RX12 yX12_flaw yX12_flaw, .initialized RX12] [11, 12, 13, 4] (by decide +kernel) (by decide +kernel)) (goodIn_ca (goodIn_r (.code yX12_flaw cX12_flaw 2 none :: [.fieldLink RX12 68 "HookPierModel" "sort" "I"]) [14, 10] (by decide +kernel) (by decide +kernel) : GoodIn vX12_readAll (.code yX12_flaw cX12_flaw 2 none :: [.fieldLink RX12 68 "HookPierModel" "sort" "I"])) (goodIn_sub iX12_readAll_X12 (by decide +kernel)))
set_option maxHeartbeats 1000000 in
set_option maxRecDepth 100000 in
theorem kX12_readAll (l : Launch) (dC : Nat → ClassId) (dI : Nat → Nat → Nat) (a0 : Nat) (a1 : Nat) (g2 : Value) (g3 : Value) (g4 : Value) (g5 : Value) (g6 : Value) (g7 : Value) (g8 : Value) (g9 : Value) (g10 : Value) (g11 : Value) (g12 : Value) (g13 : Value) (g14 : Value) (g15 : Value) (g16 : Value) (g17 : Value) (g18 : Value) (g19 : Value) (g20 : Value) (g21 : Value) (g22 : Value) (g23 : Value) (g24 : Value) (g25 : Value) (g26 : Value) (g27 : Value) (g28 : Value) (g29 : Value) (g30 : Value) (g31 : Value) (g32 : Value) (g33 : Value) (g34 : Value) (g35 : Value) (g36 : Value) (g37 : Value) (g38 : Value) (g39 : Value) (g40 : Value) (g41 : Value) (g42 : Value) (g43 : Value) (g44 : Value) (g45 : Value) (g46 : Value) (g47 : Value) (g48 : Value) (g49 : Value) (g50 : Value) (g51 : Value) (sz : Nat) : Met l yX12_readAll vX12_readAll ({ frames := 2, cells := 0, slots := 0, locals := 41 }) (PC (dC, dI) [.ref a0] sz [(a0, .inr (9, [g2, g3, g4, g5, .ref a1, g6, g7, g8, g9, .int 1, .int 0, g10, g11, g12, g13, g14, g15, g16, g17, g18, g19, g20, g21, g22, g23, g24, g25, g26, g27, g28])), (a1, .inr (8, [g29, g30, g31, g32, .int 0, g33, g34, g35, g36, g37, g38, g39, g40, g41, g42, g43, g44, g45, g46, g47, g48, g49, g50, g51]))] []) (va_Qv (S := Unit) (fun _ => True) (fun _ t => BC (dC, dI) (va_A [(a0, .inr (9, [g2, g3, g4, g5, .ref a1, g6, g7, g8, g9, .int 1, .int 0, g10, g11, g12, g13, g14, g15, g16, g17, g18, g19, g20, g21, g22, g23, g24, g25, g26, g27, g28])), (a1, .inr (8, [g29, g30, g31, g32, .int 0, g33, g34, g35, g36, g37, g38, g39, g40, g41, g42, g43, g44, g45, g46, g47, g48, g49, g50, g51]))] sz) [(a0, .inr (9, [g2, g3, g4, g5, .ref a1, g6, g7, g8, g9, .int 5, .int 0, g10, .int 1, .int 0, g13, g14, g15, g16, g17, g18, g19, g20, g21, g22, g23, g24, g25, g26, g27, g28])), (a1, .inr (8, [g29, g30, g31, g32, .int 0, g33, g34, g35, g36, g37, g38, g39, g40, g41, g42, g43, g44, g45, g46, g47, g48, g49, g50, g51]))] [] t) (va_A [(a0, .inr (9, [g2, g3, g4, g5, .ref a1, g6, g7, g8, g9, .int 1, .int 0, g10, g11, g12, g13, g14, g15, g16, g17, g18, g19, g20, g21, g22, g23, g24, g25, g26, g27, g28])), (a1, .inr (8, [g29, g30, g31, g32, .int 0, g33, g34, g35, g36, g37, g38, g39, g40, g41, g42, g43, g44, g45, g46, g47, g48, g49, g50, g51]))] sz)) 0 0 (va_A [(a0, .inr (9, [g2, g3, g4, g5, .ref a1, g6, g7, g8, g9, .int 1, .int 0, g10, g11, g12, g13, g14, g15, g16, g17, g18, g19, g20, g21, g22, g23, g24, g25, g26, g27, g28])), (a1, .inr (8, [g29, g30, g31, g32, .int 0, g33, g34, g35, g36, g37, g38, g39, g40, g41, g42, g43, g44, g45, g46, g47, g48, g49, g50, g51]))] sz) := by
  refine Met.ofW (cc := cX12_readAll) (maxL := 2) (ret := none) (by decide) rfl ?_
  intro p e s m args below meth c s₁ B hml hv
  obtain ⟨rfl, hsz, hP, hK, hD0, hN⟩ := hv
  have hx := B.exec
  have hb := B.bytes
  have hr := B.returns
  have hts := atoms_spec (ws := vX12_readAll) B.pre
  have hown : s.vm.findClass RX12 = some m.cls := findClass_of_methodNamed B.named
  have hlocks := B.notSynchronized
  subst hsz
  have hD := hD0.self (sz := s.heap.size)
  generalize hAe : va_A [(a0, .inr (9, [g2, g3, g4, g5, .ref a1, g6, g7, g8, g9, .int 1, .int 0, g10, g11, g12, g13, g14, g15, g16, g17, g18, g19, g20, g21, g22, g23, g24, g25, g26, g27, g28])), (a1, .inr (8, [g29, g30, g31, g32, .int 0, g33, g34, g35, g36, g37, g38, g39, g40, g41, g42, g43, g44, g45, g46, g47, g48, g49, g50, g51]))] s.heap.size = A at hD ⊢
  have hA : ∀ q : Nat, s.heap.size ≤ q → A q := fun q h => by rw [← hAe]; exact Or.inr h
  have hS : va_S A s.heap s.heap [] := va_S.rf
  have hP : va_P (dC, dI) vwCl [(a0, .inr (9, [g2, g3, g4, g5, .ref a1, g6, g7, g8, g9, .int 1, .int 0, g10, g11, g12, g13, g14, g15, g16, g17, g18, g19, g20, g21, g22, g23, g24, g25, g26, g27, g28])), (a1, .inr (8, [g29, g30, g31, g32, .int 0, g33, g34, g35, g36, g37, g38, g39, g40, g41, g42, g43, g44, g45, g46, g47, g48, g49, g50, g51]))] s.heap := hP
  have hl := lv_entry ([.ref a0]) (n := 2) (Nat.le_of_ble_eq_true rfl)
  rw [lg_entry_eq]
  generalize (lg_sl ([.ref a0]) ++ List.replicate (2 - (lg_sl ([.ref a0])).length) Slot.unset).toArray = ls at hl ⊢
  have hl : lv_has ls 2 [(0, .ref a0)] := hl
  refine lv_iconst (v := 1) hx hb dX12_readAll_0 (by decide) ?_
  refine lv_istore_n (lv' := [(1, .int 1), (0, .ref a0)]) hx hb dX12_readAll_1 rfl hl (by decide) rfl (fun ls hl => ?_)
  refine lv_iload_n hx hb dX12_readAll_2 rfl (lv_at hl 0 rfl) ?_
  refine lv_if_eq (tgt := 18) hx hb dX12_readAll_3 (by decide) (fun c1 => absurd c1 (by decide)) (fun _ => ?_)
  refine lv_aload_n hx hb dX12_readAll_6 rfl (lv_at hl 1 rfl) ?_
  refine cl_v (wc := [(a0, .inr (9, [g2, g3, g4, g5, .ref a1, g6, g7, g8, g9, .int 1, .int 0, g10, g11, g12, g13, g14, g15, g16, g17, g18, g19, g20, g21, g22, g23, g24, g25, g26, g27, g28]))]) (wr := [(a1, .inr (8, [g29, g30, g31, g32, .int 0, g33, g34, g35, g36, g37, g38, g39, g40, g41, g42, g43, g44, g45, g46, g47, g48, g49, g50, g51]))]) (va_runV (As := []) (rest := []) ⟨hx, hb, hml, hown, hts⟩ (kX12_readLine l dC dI a0 (g2) (g3) (g4) (g5) (.ref a1) (g6) (g7) (g8) (g9) (g10) (g11) (g12) (g13) (g14) (g15) (g16) (g17) (g18) (g19) (g20) (g21) (g22) (g23) (g24) (g25) (g26) (g27) (g28) s.heap.size) (cwV 0 hts gX12_readAll_0 rfl rfl rfl (by decide +kernel) ⟨Nat.le_of_ble_eq_true rfl, Nat.le_of_ble_eq_true rfl⟩) (PV (hP.sub (ws' := [(a0, .inr (9, [g2, g3, g4, g5, .ref a1, g6, g7, g8, g9, .int 1, .int 0, g10, g11, g12, g13, g14, g15, g16, g17, g18, g19, g20, g21, g22, g23, g24, g25, g26, g27, g28]))]) [0] rfl) (hK.sub (tys' := []) [] rfl) (hD.sub (ws' := [(a0, .inr (9, [g2, g3, g4, g5, .ref a1, g6, g7, g8, g9, .int 1, .int 0, g10, g11, g12, g13, g14, g15, g16, g17, g18, g19, g20, g21, g22, g23, g24, g25, g26, g27, g28]))]) [0] (by decide) rfl) hN 0 rfl rfl) rfl rfl hl.1 rfl (lv_room (Nat.le_of_ble_eq_true rfl)) dX12_readAll_7 ⟨Nat.le_of_ble_eq_true rfl, Nat.le_of_ble_eq_true rfl⟩) hP hD hK hS hA [0] [1] rfl rfl (by decide) (by decide) (fun _u H locs hw hP hD hK hS => ?_)
  have hP : va_P (dC, dI) vwCl [(a1, .inr (8, [g29, g30, g31, g32, .int 0, g33, g34, g35, g36, g37, g38, g39, g40, g41, g42, g43, g44, g45, g46, g47, g48, g49, g50, g51])), (a0, .inr (9, [g2, g3, g4, g5, .ref a1, g6, g7, g8, g9, .int 5, .int 0, g10, .int 1, .int 0, g13, g14, g15, g16, g17, g18, g19, g20, g21, g22, g23, g24, g25, g26, g27, g28]))] H := hP
  have hD : va_D A [(a1, .inr (8, [g29, g30, g31, g32, .int 0, g33, g34, g35, g36, g37, g38, g39, g40, g41, g42, g43, g44, g45, g46, g47, g48, g49, g50, g51])), (a0, .inr (9, [g2, g3, g4, g5, .ref a1, g6, g7, g8, g9, .int 5, .int 0, g10, .int 1, .int 0, g13, g14, g15, g16, g17, g18, g19, g20, g21, g22, g23, g24, g25, g26, g27, g28]))] := hD
  have hK : va_K (dC, dI) vwCl [] s := hK
  refine lv_aload_n hx hb dX12_readAll_10 rfl (lv_at hl 1 rfl) ?_
  refine cl_i (wc := [(a0, .inr (9, [g2, g3, g4, g5, .ref a1, g6, g7, g8, g9, .int 5, .int 0, g10, .int 1, .int 0, g13, g14, g15, g16, g17, g18, g19, g20, g21, g22, g23, g24, g25, g26, g27, g28]))]) (wr := [(a1, .inr (8, [g29, g30, g31, g32, .int 0, g33, g34, g35, g36, g37, g38, g39, g40, g41, g42, g43, g44, g45, g46, g47, g48, g49, g50, g51]))]) (va_runV (As := []) (rest := []) ⟨hx, hb, hml, hown, hts⟩ (kX12_eatsSemicolon l dC dI a0 (g2) (g3) (g4) (g5) (.ref a1) (g6) (g7) (g8) (g9) (.int 0) (g10) (.int 1) (.int 0) (g13) (g14) (g15) (g16) (g17) (g18) (g19) (g20) (g21) (g22) (g23) (g24) (g25) (g26) (g27) (g28) H.size) (cwV 0 hts gX12_readAll_1 rfl rfl rfl (by decide +kernel) ⟨Nat.le_of_ble_eq_true rfl, Nat.le_of_ble_eq_true rfl⟩) (PV (hP.sub (ws' := [(a0, .inr (9, [g2, g3, g4, g5, .ref a1, g6, g7, g8, g9, .int 5, .int 0, g10, .int 1, .int 0, g13, g14, g15, g16, g17, g18, g19, g20, g21, g22, g23, g24, g25, g26, g27, g28]))]) [1] rfl) (hK.sub (tys' := []) [] rfl) (hD.sub (ws' := [(a0, .inr (9, [g2, g3, g4, g5, .ref a1, g6, g7, g8, g9, .int 5, .int 0, g10, .int 1, .int 0, g13, g14, g15, g16, g17, g18, g19, g20, g21, g22, g23, g24, g25, g26, g27, g28]))]) [1] (by decide) rfl) hN 0 rfl rfl) rfl rfl hl.1 rfl (lv_room (Nat.le_of_ble_eq_true rfl)) dX12_readAll_11 ⟨Nat.le_of_ble_eq_true rfl, Nat.le_of_ble_eq_true rfl⟩) hP hD hK hS hA [1] [0] rfl rfl (by decide) (by decide) (fun z2 _u H locs hw hP hD hK hS => ?_)
  have hP : va_P (dC, dI) vwCl [(a1, .inr (8, [g29, g30, g31, g32, .int 0, g33, g34, g35, g36, g37, g38, g39, g40, g41, g42, g43, g44, g45, g46, g47, g48, g49, g50, g51])), (a0, .inr (9, [g2, g3, g4, g5, .ref a1, g6, g7, g8, g9, .int 5, .int 0, g10, .int 1, .int 0, g13, g14, g15, g16, g17, g18, g19, g20, g21, g22, g23, g24, g25, g26, g27, g28]))] H := hP
  have hD : va_D A [(a1, .inr (8, [g29, g30, g31, g32, .int 0, g33, g34, g35, g36, g37, g38, g39, g40, g41, g42, g43, g44, g45, g46, g47, g48, g49, g50, g51])), (a0, .inr (9, [g2, g3, g4, g5, .ref a1, g6, g7, g8, g9, .int 5, .int 0, g10, .int 1, .int 0, g13, g14, g15, g16, g17, g18, g19, g20, g21, g22, g23, g24, g25, g26, g27, g28]))] := hD
  have hK : va_K (dC, dI) vwCl [] s := hK
  obtain rfl : z2 = 0 := hw
  refine lv_istore_n (lv' := [(1, .int 0), (0, .ref a0)]) hx hb dX12_readAll_14 rfl hl (by decide) rfl (fun ls hl => ?_)
  refine lv_goto (tgt := 2) hx hb dX12_readAll_15 (by decide) ?_
  refine lv_iload_n hx hb dX12_readAll_2 rfl (lv_at hl 0 rfl) ?_
  refine lv_if_eq (tgt := 18) hx hb dX12_readAll_3 (by decide) (fun _ => ?_) (fun c3 => absurd c3 (by decide))
  refine lv_aload_n hx hb dX12_readAll_18 rfl (lv_at hl 1 rfl) ?_
  refine va_get (D := (dC, dI)) (ci := 9) (v := .int 5) (C := RX12) (T := TX12) (N := 30) hx hb hts iX12_readAll_X12 hown hK hP 1 rfl rfl 9 (by decide) (hts (.fieldLink RX12 68 "HookPierModel" "sort" "I") (List.mem_of_getElem? (i := 10) rfl)) (fun _ h9 => h9) rfl dX12_readAll_19 ?_
  refine lv_iconst (v := 1) hx hb dX12_readAll_22 (by decide) ?_
  refine lv_icmp_eq (tgt := 31) hx hb dX12_readAll_23 (by decide) (fun c4 => absurd c4 (by decide)) (fun _ => ?_)
  refine lv_aload_n hx hb dX12_readAll_26 rfl (lv_at hl 1 rfl) ?_
  refine lv_iconst (v := 1) hx hb dX12_readAll_27 (by decide) ?_
  refine cl_v (wc := [(a0, .inr (9, [g2, g3, g4, g5, .ref a1, g6, g7, g8, g9, .int 5, .int 0, g10, .int 1, .int 0, g13, g14, g15, g16, g17, g18, g19, g20, g21, g22, g23, g24, g25, g26, g27, g28]))]) (wr := [(a1, .inr (8, [g29, g30, g31, g32, .int 0, g33, g34, g35, g36, g37, g38, g39, g40, g41, g42, g43, g44, g45, g46, g47, g48, g49, g50, g51]))]) (va_runV (As := [.int 1]) (rest := []) ⟨hx, hb, hml, hown, hts⟩ (kX12_flaw_1 l dC dI a0 (g2) (g3) (g4) (g5) (.ref a1) (g6) (g7) (g8) (g9) (.int 0) (g10) (.int 1) (.int 0) (g13) (g14) (g15) (g16) (g17) (g18) (g19) (g20) (g21) (g22) (g23) (g24) (g25) (g26) (g27) (g28) H.size) (cwV 1 hts gX12_readAll_2 rfl rfl rfl (by decide +kernel) ⟨Nat.le_of_ble_eq_true rfl, Nat.le_of_ble_eq_true rfl⟩) (PV (hP.sub (ws' := [(a0, .inr (9, [g2, g3, g4, g5, .ref a1, g6, g7, g8, g9, .int 5, .int 0, g10, .int 1, .int 0, g13, g14, g15, g16, g17, g18, g19, g20, g21, g22, g23, g24, g25, g26, g27, g28]))]) [1] rfl) (hK.sub (tys' := []) [] rfl) (hD.sub (ws' := [(a0, .inr (9, [g2, g3, g4, g5, .ref a1, g6, g7, g8, g9, .int 5, .int 0, g10, .int 1, .int 0, g13, g14, g15, g16, g17, g18, g19, g20, g21, g22, g23, g24, g25, g26, g27, g28]))]) [1] (by decide) rfl) hN 0 rfl rfl) rfl rfl hl.1 rfl (lv_room (Nat.le_of_ble_eq_true rfl)) dX12_readAll_28 ⟨Nat.le_of_ble_eq_true rfl, Nat.le_of_ble_eq_true rfl⟩) hP hD hK hS hA [1] [0] rfl rfl (by decide) (by decide) (fun _u H locs hw hP hD hK hS => ?_)
  have hP : va_P (dC, dI) vwCl [(a1, .inr (8, [g29, g30, g31, g32, .int 0, g33, g34, g35, g36, g37, g38, g39, g40, g41, g42, g43, g44, g45, g46, g47, g48, g49, g50, g51])), (a0, .inr (9, [g2, g3, g4, g5, .ref a1, g6, g7, g8, g9, .int 5, .int 0, g10, .int 1, .int 0, g13, g14, g15, g16, g17, g18, g19, g20, g21, g22, g23, g24, g25, g26, g27, g28]))] H := hP
  have hD : va_D A [(a1, .inr (8, [g29, g30, g31, g32, .int 0, g33, g34, g35, g36, g37, g38, g39, g40, g41, g42, g43, g44, g45, g46, g47, g48, g49, g50, g51])), (a0, .inr (9, [g2, g3, g4, g5, .ref a1, g6, g7, g8, g9, .int 5, .int 0, g10, .int 1, .int 0, g13, g14, g15, g16, g17, g18, g19, g20, g21, g22, g23, g24, g25, g26, g27, g28]))] := hD
  have hK : va_K (dC, dI) vwCl [] s := hK
  refine lv_aload_n hx hb dX12_readAll_31 rfl (lv_at hl 1 rfl) ?_
  refine va_get (D := (dC, dI)) (ci := 9) (v := .ref a1) (C := RX12) (T := TX12) (N := 30) hx hb hts iX12_readAll_X12 hown hK hP 1 rfl rfl 4 (by decide) (hts (.fieldLink RX12 139 "HookPierModel" "read" "LHookPierModel$Pier;") (List.mem_of_getElem? (i := 22) rfl)) (fun _ h9 => h9) rfl dX12_readAll_32 ?_
  refine va_getN (D := (dC, dI)) (ci := 8) (v := .int 0) (C := RX11) (T := TX11) (N := 24) hx hb hts iX12_readAll_X11 hown hK hP 0 rfl rfl 4 (by decide) (va_Nw.use rfl (hN.1 (.fieldLinkNest RX12 175 "HookPierModel$Pier" "baits" "I" "HookPierModel") (List.mem_of_getElem? (i := 26) rfl))) (fun _ h9 => h9) rfl dX12_readAll_35 ?_
  refine lv_if_ne (tgt := 47) hx hb dX12_readAll_38 (by decide) (fun c5 => absurd c5 (by decide)) (fun _ => ?_)
  refine lv_aload_n hx hb dX12_readAll_41 rfl (lv_at hl 1 rfl) ?_
  refine lv_bipush (v := 6) hx hb dX12_readAll_42 (by decide) ?_
  refine cl_v (wc := [(a0, .inr (9, [g2, g3, g4, g5, .ref a1, g6, g7, g8, g9, .int 5, .int 0, g10, .int 1, .int 0, g13, g14, g15, g16, g17, g18, g19, g20, g21, g22, g23, g24, g25, g26, g27, g28]))]) (wr := [(a1, .inr (8, [g29, g30, g31, g32, .int 0, g33, g34, g35, g36, g37, g38, g39, g40, g41, g42, g43, g44, g45, g46, g47, g48, g49, g50, g51]))]) (va_runV (As := [.int 6]) (rest := []) ⟨hx, hb, hml, hown, hts⟩ (kX12_flaw_2 l dC dI a0 (g2) (g3) (g4) (g5) (.ref a1) (g6) (g7) (g8) (g9) (.int 0) (g10) (.int 1) (.int 0) (g13) (g14) (g15) (g16) (g17) (g18) (g19) (g20) (g21) (g22) (g23) (g24) (g25) (g26) (g27) (g28) H.size) (cwV 1 hts gX12_readAll_3 rfl rfl rfl (by decide +kernel) ⟨Nat.le_of_ble_eq_true rfl, Nat.le_of_ble_eq_true rfl⟩) (PV (hP.sub (ws' := [(a0, .inr (9, [g2, g3, g4, g5, .ref a1, g6, g7, g8, g9, .int 5, .int 0, g10, .int 1, .int 0, g13, g14, g15, g16, g17, g18, g19, g20, g21, g22, g23, g24, g25, g26, g27, g28]))]) [1] rfl) (hK.sub (tys' := []) [] rfl) (hD.sub (ws' := [(a0, .inr (9, [g2, g3, g4, g5, .ref a1, g6, g7, g8, g9, .int 5, .int 0, g10, .int 1, .int 0, g13, g14, g15, g16, g17, g18, g19, g20, g21, g22, g23, g24, g25, g26, g27, g28]))]) [1] (by decide) rfl) hN 0 rfl rfl) rfl rfl hl.1 rfl (lv_room (Nat.le_of_ble_eq_true rfl)) dX12_readAll_44 ⟨Nat.le_of_ble_eq_true rfl, Nat.le_of_ble_eq_true rfl⟩) hP hD hK hS hA [1] [0] rfl rfl (by decide) (by decide) (fun _u H locs hw hP hD hK hS => ?_)
  have hP : va_P (dC, dI) vwCl [(a1, .inr (8, [g29, g30, g31, g32, .int 0, g33, g34, g35, g36, g37, g38, g39, g40, g41, g42, g43, g44, g45, g46, g47, g48, g49, g50, g51])), (a0, .inr (9, [g2, g3, g4, g5, .ref a1, g6, g7, g8, g9, .int 5, .int 0, g10, .int 1, .int 0, g13, g14, g15, g16, g17, g18, g19, g20, g21, g22, g23, g24, g25, g26, g27, g28]))] H := hP
  have hD : va_D A [(a1, .inr (8, [g29, g30, g31, g32, .int 0, g33, g34, g35, g36, g37, g38, g39, g40, g41, g42, g43, g44, g45, g46, g47, g48, g49, g50, g51])), (a0, .inr (9, [g2, g3, g4, g5, .ref a1, g6, g7, g8, g9, .int 5, .int 0, g10, .int 1, .int 0, g13, g14, g15, g16, g17, g18, g19, g20, g21, g22, g23, g24, g25, g26, g27, g28]))] := hD
  have hK : va_K (dC, dI) vwCl [] s := hK
  have hP9 := hP.sub (ws' := [(a0, .inr (9, [g2, g3, g4, g5, .ref a1, g6, g7, g8, g9, .int 5, .int 0, g10, .int 1, .int 0, g13, g14, g15, g16, g17, g18, g19, g20, g21, g22, g23, g24, g25, g26, g27, g28])), (a1, .inr (8, [g29, g30, g31, g32, .int 0, g33, g34, g35, g36, g37, g38, g39, g40, g41, g42, g43, g44, g45, g46, g47, g48, g49, g50, g51]))]) [1, 0] rfl
  have hD9 := hD.sub (ws' := [(a0, .inr (9, [g2, g3, g4, g5, .ref a1, g6, g7, g8, g9, .int 5, .int 0, g10, .int 1, .int 0, g13, g14, g15, g16, g17, g18, g19, g20, g21, g22, g23, g24, g25, g26, g27, g28])), (a1, .inr (8, [g29, g30, g31, g32, .int 0, g33, g34, g35, g36, g37, g38, g39, g40, g41, g42, g43, g44, g45, g46, g47, g48, g49, g50, g51]))]) [1, 0] (by decide) rfl
  have hK9 := hK.sub (tys' := []) [] rfl
  exact W.vret hx hb hr (fun t ht hW => ⟨⟨(), rfl, trivial, by rw [ht]; exact hP9, va_K.moved hW.alike hK9, hD9⟩, hS.F ht⟩) hS.2.2 dX12_readAll_47
theorem dX12_pier_0 : decode cX12_pier 0 = .ok (.aload_n 0, 1) := by decide +kernel
theorem dX12_pier_1 : decode cX12_pier 1 = .ok (.iconst 0, 1) := by decide +kernel
theorem dX12_pier_10 : decode cX12_pier 10 = .ok (.aload_n 0, 1) := by decide +kernel
theorem dX12_pier_11 : decode cX12_pier 11 = .ok (.getfield 292, 3) := by decide +kernel
theorem dX12_pier_14 : decode cX12_pier 14 = .ok (.if_icmp .le 9, 3) := by decide +kernel
theorem dX12_pier_17 : decode cX12_pier 17 = .ok (.aload_n 0, 1) := by decide +kernel
theorem dX12_pier_18 : decode cX12_pier 18 = .ok (.iconst 2, 1) := by decide +kernel
theorem dX12_pier_19 : decode cX12_pier 19 = .ok (.invokevirtual 42, 3) := by decide +kernel
theorem dX12_pier_2 : decode cX12_pier 2 = .ok (.putfield 36, 3) := by decide +kernel
theorem dX12_pier_22 : decode cX12_pier 22 = .ok (.ireturn, 1) := by decide +kernel
theorem dX12_pier_23 : decode cX12_pier 23 = .ok (.aload_n 0, 1) := by decide +kernel
theorem dX12_pier_24 : decode cX12_pier 24 = .ok (.iload_n 1, 1) := by decide +kernel
theorem dX12_pier_25 : decode cX12_pier 25 = .ok (.putfield 53, 3) := by decide +kernel
theorem dX12_pier_28 : decode cX12_pier 28 = .ok (.aload_n 0, 1) := by decide +kernel
theorem dX12_pier_29 : decode cX12_pier 29 = .ok (.iconst 0, 1) := by decide +kernel
theorem dX12_pier_30 : decode cX12_pier 30 = .ok (.putfield 292, 3) := by decide +kernel
theorem dX12_pier_33 : decode cX12_pier 33 = .ok (.aload_n 0, 1) := by decide +kernel
theorem dX12_pier_34 : decode cX12_pier 34 = .ok (.iconst 0, 1) := by decide +kernel
theorem dX12_pier_35 : decode cX12_pier 35 = .ok (.putfield 71, 3) := by decide +kernel
theorem dX12_pier_38 : decode cX12_pier 38 = .ok (.aload_n 0, 1) := by decide +kernel
theorem dX12_pier_39 : decode cX12_pier 39 = .ok (.iconst 0, 1) := by decide +kernel
theorem dX12_pier_40 : decode cX12_pier 40 = .ok (.putfield 94, 3) := by decide +kernel
theorem dX12_pier_43 : decode cX12_pier 43 = .ok (.aload_n 0, 1) := by decide +kernel
theorem dX12_pier_44 : decode cX12_pier 44 = .ok (.new 144, 3) := by decide +kernel
theorem dX12_pier_47 : decode cX12_pier 47 = .ok (.dup, 1) := by decide +kernel
theorem dX12_pier_48 : decode cX12_pier 48 = .ok (.invokespecial 295, 3) := by decide +kernel
theorem dX12_pier_5 : decode cX12_pier 5 = .ok (.iload_n 1, 1) := by decide +kernel
theorem dX12_pier_51 : decode cX12_pier 51 = .ok (.putfield 139, 3) := by decide +kernel
theorem dX12_pier_54 : decode cX12_pier 54 = .ok (.aload_n 0, 1) := by decide +kernel
theorem dX12_pier_55 : decode cX12_pier 55 = .ok (.iconst 0, 1) := by decide +kernel
theorem dX12_pier_56 : decode cX12_pier 56 = .ok (.putfield 68, 3) := by decide +kernel
theorem dX12_pier_59 : decode cX12_pier 59 = .ok (.aload_n 0, 1) := by decide +kernel
theorem dX12_pier_6 : decode cX12_pier 6 = .ok (.ifCond .lt 11, 3) := by decide +kernel
theorem dX12_pier_60 : decode cX12_pier 60 = .ok (.invokevirtual 104, 3) := by decide +kernel
theorem dX12_pier_63 : decode cX12_pier 63 = .ok (.aload_n 0, 1) := by decide +kernel
theorem dX12_pier_64 : decode cX12_pier 64 = .ok (.invokevirtual 296, 3) := by decide +kernel
theorem dX12_pier_67 : decode cX12_pier 67 = .ok (.aload_n 0, 1) := by decide +kernel
theorem dX12_pier_68 : decode cX12_pier 68 = .ok (.getfield 94, 3) := by decide +kernel
theorem dX12_pier_71 : decode cX12_pier 71 = .ok (.ifCond .le 18, 3) := by decide +kernel
theorem dX12_pier_74 : decode cX12_pier 74 = .ok (.aload_n 0, 1) := by decide +kernel
theorem dX12_pier_75 : decode cX12_pier 75 = .ok (.iconst 4, 1) := by decide +kernel
theorem dX12_pier_76 : decode cX12_pier 76 = .ok (.putfield 39, 3) := by decide +kernel
theorem dX12_pier_79 : decode cX12_pier 79 = .ok (.aload_n 0, 1) := by decide +kernel
theorem dX12_pier_80 : decode cX12_pier 80 = .ok (.aload_n 0, 1) := by decide +kernel
theorem dX12_pier_81 : decode cX12_pier 81 = .ok (.getfield 97, 3) := by decide +kernel
theorem dX12_pier_84 : decode cX12_pier 84 = .ok (.putfield 9, 3) := by decide +kernel
theorem dX12_pier_87 : decode cX12_pier 87 = .ok (.iconst (-1), 1) := by decide +kernel
theorem dX12_pier_88 : decode cX12_pier 88 = .ok (.ireturn, 1) := by decide +kernel
theorem dX12_pier_9 : decode cX12_pier 9 = .ok (.iload_n 1, 1) := by decide +kernel
def vX12_pier : List Cond := .code yX12_pier cX12_pier 3 (some .int) :: ([.fieldLink RX12 36 "HookPierModel" "thrown" "I", .methodLink RX12 42 yX12_refused, .instanceMethod yX12_refused, .selects RX12 yX12_refused yX12_refused, .initialized RX12, .code yX12_refused cX12_refused 2 (some .int), .fieldLink RX12 39 "HookPierModel" "trouble" "I", .fieldLink RX12 9 "HookPierModel" "where" "I", .fieldLink RX12 292 "HookPierModel" "taped" "I", .fieldLink RX12 53 "HookPierModel" "size" "I", .fieldLink RX12 71 "HookPierModel" "spot" "I", .fieldLink RX12 94 "HookPierModel" "fault" "I", .classLink RX12 144 RX11, .instantiable RX11 24, .initialized RX11, .code yX11_init cX11_init 1 none, .methodLink RX11 3 objectInit, .instanceMethod objectInit, .code objectInit ⟨#[0xb1]⟩ 1 none, .fieldLink RX11 9 "HookPierModel$Pier" "dark" "I", .arrayClass .int, .fieldLink RX11 15 "HookPierModel$Pier" "reach" "[I", .fieldLink RX11 19 "HookPierModel$Pier" "kind" "[I", .fieldLink RX11 22 "HookPierModel$Pier" "spot" "[I", .fieldLink RX11 25 "HookPierModel$Pier" "depth" "[I", .fieldLink RX11 28 "HookPierModel$Pier" "hunger" "[I", .fieldLink RX11 31 "HookPierModel$Pier" "likes" "[I", .fieldLink RX11 34 "HookPierModel$Pier" "worth" "[I", .fieldLink RX11 37 "HookPierModel$Pier" "biteSpot" "[I", .fieldLink RX11 40 "HookPierModel$Pier" "biteDeep" "[I", .fieldLink RX11 43 "HookPierModel$Pier" "biteBait" "[I", .fieldLink RX11 46 "HookPierModel$Pier" "bit" "[I", .arrayClass .long, .fieldLink RX11 49 "HookPierModel$Pier" "name" "[J", .fieldLink RX11 53 "HookPierModel$Pier" "nameSort" "[I", .fieldLink RX11 56 "HookPierModel$Pier" "numberOf" "[I", .instanceMethod yX11_init, .fieldLink RX12 139 "HookPierModel" "read" "LHookPierModel$Pier;", .fieldLink RX12 68 "HookPierModel" "sort" "I", .methodLink RX12 104 yX12_goesOn, .instanceMethod yX12_goesOn, .selects RX12 yX12_goesOn yX12_goesOn, .code yX12_goesOn cX12_goesOn 3 none, .methodLink RX12 74 yX12_byteAt, .instanceMethod yX12_byteAt, .selects RX12 yX12_byteAt yX12_byteAt, .code yX12_byteAt cX12_byteAt 2 (some .int), .fieldLink RX12 77 "HookPierModel" "place" "I", .methodLink RX12 296 yX12_readAll, .instanceMethod yX12_readAll, .selects RX12 yX12_readAll yX12_readAll, .code yX12_readAll cX12_readAll 2 none, .methodLink RX12 169 yX12_readLine, .instanceMethod yX12_readLine, .selects RX12 yX12_readLine yX12_readLine, .code yX12_readLine cX12_readLine 1 none, .methodLink RX12 107 yX12_isWord, .instanceMethod yX12_isWord, .selects RX12 yX12_isWord yX12_isWord, .code yX12_isWord cX12_isWord 2 (some .boolean), .methodLink RX12 111 yX12_flaw, .instanceMethod yX12_flaw, .selects RX12 yX12_flaw yX12_flaw, .code yX12_flaw cX12_flaw 2 none, .fieldLink RX12 97 "HookPierModel" "wrongAt" "I", .methodLink RX12 172 yX12_eatsSemicolon, .instanceMethod yX12_eatsSemicolon, .selects RX12 yX12_eatsSemicolon yX12_eatsSemicolon, .code yX12_eatsSemicolon cX12_eatsSemicolon 2 (some .boolean)] ++ wsX120 ++ wsX110)
theorem iX12_pier_X12 : ∀ w ∈ wsX120, w ∈ vX12_pier := fun _ h => List.mem_cons_of_mem _ (List.mem_append_left _ (List.mem_append_right _ h))
theorem iX12_pier_X11 : ∀ w ∈ wsX110, w ∈ vX12_pier := fun _ h => List.mem_cons_of_mem _ (List.mem_append_right _ h)
set_option maxRecDepth 20000 in
theorem gX12_pier_0 : GoodIn vX12_pier (wsV RX12 42 RX12 yX12_refused vX12_refused) := goodIn_app (goodIn_r [.methodLink RX12 42 yX12_refused, .instanceMethod yX12_refused, .selects RX12 yX12_refused yX12_refused, .initialized RX12] [2, 3, 4, 5] (by decide +kernel) (by decide +kernel)) (goodIn_ca (goodIn_r (.code yX12_refused cX12_refused 2 (some .int) :: [.fieldLink RX12 39 "HookPierModel" "trouble" "I", .fieldLink RX12 9 "HookPierModel" "where" "I"]) [6, 7, 8] (by decide +kernel) (by decide +kernel) : GoodIn vX12_pier (.code yX12_refused cX12_refused 2 (some .int) :: [.fieldLink RX12 39 "HookPierModel" "trouble" "I", .fieldLink RX12 9 "HookPierModel" "where" "I"])) (goodIn_sub iX12_pier_X12 (by decide +kernel)))
set_option maxRecDepth 20000 in
theorem gX12_pier_1 : GoodIn vX12_pier vX11_init := (goodIn_ca (goodIn_r (.code yX11_init cX11_init 1 none :: [.methodLink RX11 3 objectInit, .instanceMethod objectInit, .code objectInit ⟨#[0xb1]⟩ 1 none, .fieldLink RX11 9 "HookPierModel$Pier" "dark" "I", .arrayClass .int, .fieldLink RX11 15 "HookPierModel$Pier" "reach" "[I", .fieldLink RX11 19 "HookPierModel$Pier" "kind" "[I", .fieldLink RX11 22 "HookPierModel$Pier" "spot" "[I", .fieldLink RX11 25 "HookPierModel$Pier" "depth" "[I", .fieldLink RX11 28 "HookPierModel$Pier" "hunger" "[I", .fieldLink RX11 31 "HookPierModel$Pier" "likes" "[I", .fieldLink RX11 34 "HookPierModel$Pier" "worth" "[I", .fieldLink RX11 37 "HookPierModel$Pier" "biteSpot" "[I", .fieldLink RX11 40 "HookPierModel$Pier" "biteDeep" "[I", .fieldLink RX11 43 "HookPierModel$Pier" "biteBait" "[I", .fieldLink RX11 46 "HookPierModel$Pier" "bit" "[I", .arrayClass .long, .fieldLink RX11 49 "HookPierModel$Pier" "name" "[J", .fieldLink RX11 53 "HookPierModel$Pier" "nameSort" "[I", .fieldLink RX11 56 "HookPierModel$Pier" "numberOf" "[I"]) [16, 17, 18, 19, 20, 21, 22, 23, 24, 25, 26, 27, 28, 29, 30, 31, 32, 33, 34, 35, 36] (by decide +kernel) (by decide +kernel) : GoodIn vX12_pier (.code yX11_init cX11_init 1 none :: [.methodLink RX11 3 objectInit, .instanceMethod objectInit, .code objectInit ⟨#[0xb1]⟩ 1 none, .fieldLink RX11 9 "HookPierModel$Pier" "dark" "I", .arrayClass .int, .fieldLink RX11 15 "HookPierModel$Pier" "reach" "[I", .fieldLink RX11 19 "HookPierModel$Pier" "kind" "[I", .fieldLink RX11 22 "HookPierModel$Pier" "spot" "[I", .fieldLink RX11 25 "HookPierModel$Pier" "depth" "[I", .fieldLink RX11 28 "HookPierModel$Pier" "hunger" "[I", .fieldLink RX11 31 "HookPierModel$Pier" "likes" "[I", .fieldLink RX11 34 "HookPierModel$Pier" "worth" "[I", .fieldLink RX11 37 "HookPierModel$Pier" "biteSpot" "[I", .fieldLink RX11 40 "HookPierModel$Pier" "biteDeep" "[I", .fieldLink RX11 43 "HookPierModel$Pier" "biteBait" "[I", .fieldLink RX11 46 "HookPierModel$Pier" "bit" "[I", .arrayClass .long, .fieldLink RX11 49 "HookPierModel$Pier" "name" "[J", .fieldLink RX11 53 "HookPierModel$Pier" "nameSort" "[I", .fieldLink RX11 56 "HookPierModel$Pier" "numberOf" "[I"])) (goodIn_sub iX12_pier_X11 (by decide +kernel)))
set_option maxRecDepth 20000 in
theorem gX12_pier_2 : GoodIn vX12_pier (wsV RX12 104 RX12 yX12_goesOn vX12_goesOn) := goodIn_app (goodIn_r [.methodLink RX12 104 yX12_goesOn, .instanceMethod yX12_goesOn, .selects RX12 yX12_goesOn yX12_goesOn, .initialized RX12] [40, 41, 42, 5] (by decide +kernel) (by decide +kernel)) (goodIn_ca (goodIn_r (.code yX12_goesOn cX12_goesOn 3 none :: [.fieldLink RX12 68 "HookPierModel" "sort" "I", .fieldLink RX12 71 "HookPierModel" "spot" "I", .methodLink RX12 74 yX12_byteAt, .instanceMethod yX12_byteAt, .selects RX12 yX12_byteAt yX12_byteAt, .initialized RX12, .code yX12_byteAt cX12_byteAt 2 (some .int), .fieldLink RX12 53 "HookPierModel" "size" "I", .fieldLink RX12 77 "HookPierModel" "place" "I"]) [43, 39, 11, 44, 45, 46, 5, 47, 10, 48] (by decide +kernel) (by decide +kernel) : GoodIn vX12_pier (.code yX12_goesOn cX12_goesOn 3 none :: [.fieldLink RX12 68 "HookPierModel" "sort" "I", .fieldLink RX12 71 "HookPierModel" "spot" "I", .methodLink RX12 74 yX12_byteAt, .instanceMethod yX12_byteAt, .selects RX12 yX12_byteAt yX12_byteAt, .initialized RX12, .code yX12_byteAt cX12_byteAt 2 (some .int), .fieldLink RX12 53 "HookPierModel" "size" "I", .fieldLink RX12 77 "HookPierModel" "place" "I"])) (goodIn_sub iX12_pier_X12 (by decide +kernel)))
set_option maxRecDepth 20000 in
theorem gX12_pier_3 : GoodIn vX12_pier (wsV RX12 296 RX12 yX12_readAll vX12_readAll) := goodIn_app (goodIn_r [.methodLink RX12 296 yX12_readAll, .instanceMethod yX12_readAll, .selects RX12 yX12_readAll yX12_readAll, .initialized RX12] [49, 50, 51, 5] (by decide +kernel) (by decide +kernel)) (goodIn_ca (goodIn_ca (goodIn_r (.code yX12_readAll cX12_readAll 2 none :: [.methodLink RX12 169 yX12_readLine, .instanceMethod yX12_readLine, .selects RX12 yX12_readLine yX12_readLine, .initialized RX12, .code yX12_readLine cX12_readLine 1 none, .methodLink RX12 107 yX12_isWord, .instanceMethod yX12_isWord, .selects RX12 yX12_isWord yX12_isWord, .code yX12_isWord cX12_isWord 2 (some .boolean), .fieldLink RX12 68 "HookPierModel" "sort" "I", .methodLink RX12 111 yX12_flaw, .instanceMethod yX12_flaw, .selects RX12 yX12_flaw yX12_flaw, .code yX12_flaw cX12_flaw 2 none, .fieldLink RX12 94 "HookPierModel" "fault" "I", .fieldLink RX12 77 "HookPierModel" "place" "I", .fieldLink RX12 97 "HookPierModel" "wrongAt" "I", .methodLink RX12 172 yX12_eatsSemicolon, .instanceMethod yX12_eatsSemicolon, .selects RX12 yX12_eatsSemicolon yX12_eatsSemicolon, .code yX12_eatsSemicolon cX12_eatsSemicolon 2 (some .boolean), .fieldLink RX12 139 "HookPierModel" "read" "LHookPierModel$Pier;"]) [52, 53, 54, 55, 5, 56, 57, 58, 59, 60, 39, 61, 62, 63, 64, 12, 48, 65, 66, 67, 68, 69, 38] (by decide +kernel) (by decide +kernel) : GoodIn vX12_pier (.code yX12_readAll cX12_readAll 2 none :: [.methodLink RX12 169 yX12_readLine, .instanceMethod yX12_readLine, .selects RX12 yX12_readLine yX12_readLine, .initialized RX12, .code yX12_readLine cX12_readLine 1 none, .methodLink RX12 107 yX12_isWord, .instanceMethod yX12_isWord, .selects RX12 yX12_isWord yX12_isWord, .code yX12_isWord cX12_isWord 2 (some .boolean), .fieldLink RX12 68 "HookPierModel" "sort" "I", .methodLink RX12 111 yX12_flaw, .instanceMethod yX12_flaw, .selects RX12 yX12_flaw yX12_flaw, .code yX12_flaw cX12_flaw 2 none, .fieldLink RX12 94 "HookPierModel" "fault" "I", .fieldLink RX12 77 "HookPierModel" "place" "I", .fieldLink RX12 97 "HookPierModel" "wrongAt" "I", .methodLink RX12 172 yX12_eatsSemicolon, .instanceMethod yX12_eatsSemicolon, .selects RX12 yX12_eatsSemicolon yX12_eatsSemicolon, .code yX12_eatsSemicolon cX12_eatsSemicolon 2 (some .boolean), .fieldLink RX12 139 "HookPierModel" "read" "LHookPierModel$Pier;"])) (goodIn_sub iX12_pier_X12 (by decide +kernel))) (goodIn_sub iX12_pier_X11 (by decide +kernel)))
set_option maxHeartbeats 1000000 in
set_option maxRecDepth 100000 in
theorem kX12_pier (l : Launch) (dC : Nat → ClassId) (dI : Nat → Nat → Nat) (a0 : Nat) (k1 : Int32) (g2 : Value) (g3 : Value) (g4 : Value) (g5 : Value) (g6 : Value) (g7 : Value) (g8 : Value) (g9 : Value) (g10 : Value) (g11 : Value) (g12 : Value) (g13 : Value) (g14 : Value) (g15 : Value) (g16 : Value) (g17 : Value) (g18 : Value) (g19 : Value) (g20 : Value) (g21 : Value) (g22 : Value) (g23 : Value) (sz : Nat) : Met l yX12_pier vX12_pier ({ frames := 3, cells := 15, slots := 134, locals := 62 }) (PC (dC, dI) [.ref a0, .int k1] sz [(a0, .inr (9, [g2, g3, g4, g5, .null, g6, .int 0, .int 0, .int 0, .int 0, .int 0, g7, .int 0, .int 0, g8, g9, g10, g11, g12, g13, g14, g15, g16, g17, g18, g19, g20, g21, g22, g23]))] []) (va_Qi (S := Unit) (fun (r : Int32) _ => r = (-1)) (fun _ t => BC (dC, dI) (va_A [(a0, .inr (9, [g2, g3, g4, g5, .null, g6, .int 0, .int 0, .int 0, .int 0, .int 0, g7, .int 0, .int 0, g8, g9, g10, g11, g12, g13, g14, g15, g16, g17, g18, g19, g20, g21, g22, g23]))] sz) [] [] t) (va_A [(a0, .inr (9, [g2, g3, g4, g5, .null, g6, .int 0, .int 0, .int 0, .int 0, .int 0, g7, .int 0, .int 0, g8, g9, g10, g11, g12, g13, g14, g15, g16, g17, g18, g19, g20, g21, g22, g23]))] sz)) 15 134 (va_A [(a0, .inr (9, [g2, g3, g4, g5, .null, g6, .int 0, .int 0, .int 0, .int 0, .int 0, g7, .int 0, .int 0, g8, g9, g10, g11, g12, g13, g14, g15, g16, g17, g18, g19, g20, g21, g22, g23]))] sz) := by
  refine Met.ofW (cc := cX12_pier) (maxL := 3) (ret := (some .int)) (by decide) rfl ?_
  intro p e s m args below meth c s₁ B hml hv
  obtain ⟨rfl, hsz, hP, hK, hD0, hN⟩ := hv
  have hx := B.exec
  have hb := B.bytes
  have hr := B.returns
  have hts := atoms_spec (ws := vX12_pier) B.pre
  have hown : s.vm.findClass RX12 = some m.cls := findClass_of_methodNamed B.named
  have hlocks := B.notSynchronized
  subst hsz
  have hD := hD0.self (sz := s.heap.size)
  generalize hAe : va_A [(a0, .inr (9, [g2, g3, g4, g5, .null, g6, .int 0, .int 0, .int 0, .int 0, .int 0, g7, .int 0, .int 0, g8, g9, g10, g11, g12, g13, g14, g15, g16, g17, g18, g19, g20, g21, g22, g23]))] s.heap.size = A at hD ⊢
  have hA : ∀ q : Nat, s.heap.size ≤ q → A q := fun q h => by rw [← hAe]; exact Or.inr h
  have hS : va_S A s.heap s.heap [] := va_S.rf
  have hP : va_P (dC, dI) vwCl [(a0, .inr (9, [g2, g3, g4, g5, .null, g6, .int 0, .int 0, .int 0, .int 0, .int 0, g7, .int 0, .int 0, g8, g9, g10, g11, g12, g13, g14, g15, g16, g17, g18, g19, g20, g21, g22, g23]))] s.heap := hP
  have hl := lv_entry ([.ref a0, .int k1]) (n := 3) (Nat.le_of_ble_eq_true rfl)
  rw [lg_entry_eq]
  generalize (lg_sl ([.ref a0, .int k1]) ++ List.replicate (3 - (lg_sl ([.ref a0, .int k1])).length) Slot.unset).toArray = ls at hl ⊢
  have hl : lv_has ls 3 [(0, .ref a0), (1, .int k1)] := hl
  refine lv_aload_n hx hb dX12_pier_0 rfl (lv_at hl 0 rfl) ?_
  refine lv_iconst (v := 0) hx hb dX12_pier_1 (by decide) ?_
  refine va_put (D := (dC, dI)) (ci := 9) (v := .int 0) (ty := .int) (C := RX12) (T := TX12) (N := 30) hx hb hts iX12_pier_X12 tyX12 tyX12_ok nmX12 hown hK hP hD hS 0 rfl rfl 0 (by decide) (hts (.fieldLink RX12 36 "HookPierModel" "thrown" "I") (List.mem_of_getElem? (i := 1) rfl)) (fun _ h9 => h9) rfl (by decide +kernel) rfl rfl (Nat.le_of_ble_eq_true rfl) dX12_pier_2 (fun H locs hP hD hS => ?_)
  have hP : va_P (dC, dI) vwCl [(a0, .inr (9, [.int 0, g3, g4, g5, .null, g6, .int 0, .int 0, .int 0, .int 0, .int 0, g7, .int 0, .int 0, g8, g9, g10, g11, g12, g13, g14, g15, g16, g17, g18, g19, g20, g21, g22, g23]))] H := hP
  have hD : va_D A [(a0, .inr (9, [.int 0, g3, g4, g5, .null, g6, .int 0, .int 0, .int 0, .int 0, .int 0, g7, .int 0, .int 0, g8, g9, g10, g11, g12, g13, g14, g15, g16, g17, g18, g19, g20, g21, g22, g23]))] := hD
  refine lv_iload_n hx hb dX12_pier_5 rfl (lv_at hl 1 rfl) ?_
  refine lv_if_lt (tgt := 17) hx hb dX12_pier_6 (by decide) (fun c1 => ?_) (fun c1 => ?_)
  · refine lv_aload_n hx hb dX12_pier_17 rfl (lv_at hl 0 rfl) ?_
    refine lv_iconst (v := 2) hx hb dX12_pier_18 (by decide) ?_
    refine cl_i (wc := [(a0, .inr (9, [.int 0, g3, g4, g5, .null, g6, .int 0, .int 0, .int 0, .int 0, .int 0, g7, .int 0, .int 0, g8, g9, g10, g11, g12, g13, g14, g15, g16, g17, g18, g19, g20, g21, g22, g23]))]) (wr := []) (va_runV (As := [.int 2]) (rest := []) ⟨hx, hb, hml, hown, hts⟩ (kX12_refused l dC dI a0 (.int 0) (g3) (g4) (g5) (.null) (g6) (.int 0) (.int 0) (.int 0) (.int 0) (.int 0) (g7) (.int 0) (.int 0) (g8) (g9) (g10) (g11) (g12) (g13) (g14) (g15) (g16) (g17) (g18) (g19) (g20) (g21) (g22) (g23) H.size) (cwV 1 hts gX12_pier_0 rfl rfl rfl (by decide +kernel) ⟨Nat.le_of_ble_eq_true rfl, Nat.le_of_ble_eq_true rfl⟩) (PV (hP.sub (ws' := [(a0, .inr (9, [.int 0, g3, g4, g5, .null, g6, .int 0, .int 0, .int 0, .int 0, .int 0, g7, .int 0, .int 0, g8, g9, g10, g11, g12, g13, g14, g15, g16, g17, g18, g19, g20, g21, g22, g23]))]) [0] rfl) (hK.sub (tys' := []) [] rfl) (hD.sub (ws' := [(a0, .inr (9, [.int 0, g3, g4, g5, .null, g6, .int 0, .int 0, .int 0, .int 0, .int 0, g7, .int 0, .int 0, g8, g9, g10, g11, g12, g13, g14, g15, g16, g17, g18, g19, g20, g21, g22, g23]))]) [0] (by decide) rfl) hN 0 rfl rfl) rfl rfl hl.1 rfl (lv_room (Nat.le_of_ble_eq_true rfl)) dX12_pier_19 ⟨Nat.le_of_ble_eq_true rfl, Nat.le_of_ble_eq_true rfl⟩) hP hD hK hS hA [0] [] rfl rfl (by decide) (by decide) (fun z2 _u H locs hw hP hD hK hS => ?_)
    have hP : va_P (dC, dI) vwCl [(a0, .inr (9, [.int 0, .int 2, .int (-1), g5, .null, g6, .int 0, .int 0, .int 0, .int 0, .int 0, g7, .int 0, .int 0, g8, g9, g10, g11, g12, g13, g14, g15, g16, g17, g18, g19, g20, g21, g22, g23]))] H := hP
    have hD : va_D A [(a0, .inr (9, [.int 0, .int 2, .int (-1), g5, .null, g6, .int 0, .int 0, .int 0, .int 0, .int 0, g7, .int 0, .int 0, g8, g9, g10, g11, g12, g13, g14, g15, g16, g17, g18, g19, g20, g21, g22, g23]))] := hD
    have hK : va_K (dC, dI) vwCl [] s := hK
    obtain rfl : z2 = (-1) := hw
    refine W.widen (k := 15) (n := 134) (Nat.le_of_ble_eq_true rfl) (Nat.le_of_ble_eq_true rfl) ?_
    have hP9 := hP.sub (ws' := []) [] rfl
    have hD9 := hD.sub (ws' := []) [] (by decide) rfl
    have hK9 := hK.sub (tys' := []) [] rfl
    exact W.iret (v := (-1)) hx hb hr (fun t ht hW => ⟨⟨(-1), (), rfl, rfl, by rw [ht]; exact hP9, va_K.moved hW.alike hK9, hD9⟩, hS.F ht⟩) hS.2.2 dX12_pier_22
  · refine lv_iload_n hx hb dX12_pier_9 rfl (lv_at hl 1 rfl) ?_
    refine lv_aload_n hx hb dX12_pier_10 rfl (lv_at hl 0 rfl) ?_
    refine va_get (D := (dC, dI)) (ci := 9) (v := .int 0) (C := RX12) (T := TX12) (N := 30) hx hb hts iX12_pier_X12 hown hK hP 0 rfl rfl 6 (by decide) (hts (.fieldLink RX12 292 "HookPierModel" "taped" "I") (List.mem_of_getElem? (i := 9) rfl)) (fun _ h9 => h9) rfl dX12_pier_11 ?_
    refine lv_icmp_le (tgt := 23) hx hb dX12_pier_14 (by decide) (fun c3 => ?_) (fun c3 => ?_)
    · obtain rfl : k1 = 0 := (by simp only [fa_lt, fa_le, fa_eq, ltv_0] at c1 c3 ⊢; omega)
      refine lv_aload_n hx hb dX12_pier_23 rfl (lv_at hl 0 rfl) ?_
      refine lv_iload_n hx hb dX12_pier_24 rfl (lv_at hl 1 rfl) ?_
      refine va_put (D := (dC, dI)) (ci := 9) (v := .int 0) (ty := .int) (C := RX12) (T := TX12) (N := 30) hx hb hts iX12_pier_X12 tyX12 tyX12_ok nmX12 hown hK hP hD hS 0 rfl rfl 7 (by decide) (hts (.fieldLink RX12 53 "HookPierModel" "size" "I") (List.mem_of_getElem? (i := 10) rfl)) (fun _ h9 => h9) rfl (by decide +kernel) rfl rfl (Nat.le_of_ble_eq_true rfl) dX12_pier_25 (fun H locs hP hD hS => ?_)
      have hP : va_P (dC, dI) vwCl [(a0, .inr (9, [.int 0, g3, g4, g5, .null, g6, .int 0, .int 0, .int 0, .int 0, .int 0, g7, .int 0, .int 0, g8, g9, g10, g11, g12, g13, g14, g15, g16, g17, g18, g19, g20, g21, g22, g23]))] H := hP
      have hD : va_D A [(a0, .inr (9, [.int 0, g3, g4, g5, .null, g6, .int 0, .int 0, .int 0, .int 0, .int 0, g7, .int 0, .int 0, g8, g9, g10, g11, g12, g13, g14, g15, g16, g17, g18, g19, g20, g21, g22, g23]))] := hD
      refine lv_aload_n hx hb dX12_pier_28 rfl (lv_at hl 0 rfl) ?_
      refine lv_iconst (v := 0) hx hb dX12_pier_29 (by decide) ?_
      refine va_put (D := (dC, dI)) (ci := 9) (v := .int 0) (ty := .int) (C := RX12) (T := TX12) (N := 30) hx hb hts iX12_pier_X12 tyX12 tyX12_ok nmX12 hown hK hP hD hS 0 rfl rfl 6 (by decide) (hts (.fieldLink RX12 292 "HookPierModel" "taped" "I") (List.mem_of_getElem? (i := 9) rfl)) (fun _ h9 => h9) rfl (by decide +kernel) rfl rfl (Nat.le_of_ble_eq_true rfl) dX12_pier_30 (fun H locs hP hD hS => ?_)
      have hP : va_P (dC, dI) vwCl [(a0, .inr (9, [.int 0, g3, g4, g5, .null, g6, .int 0, .int 0, .int 0, .int 0, .int 0, g7, .int 0, .int 0, g8, g9, g10, g11, g12, g13, g14, g15, g16, g17, g18, g19, g20, g21, g22, g23]))] H := hP
      have hD : va_D A [(a0, .inr (9, [.int 0, g3, g4, g5, .null, g6, .int 0, .int 0, .int 0, .int 0, .int 0, g7, .int 0, .int 0, g8, g9, g10, g11, g12, g13, g14, g15, g16, g17, g18, g19, g20, g21, g22, g23]))] := hD
      refine lv_aload_n hx hb dX12_pier_33 rfl (lv_at hl 0 rfl) ?_
      refine lv_iconst (v := 0) hx hb dX12_pier_34 (by decide) ?_
      refine va_put (D := (dC, dI)) (ci := 9) (v := .int 0) (ty := .int) (C := RX12) (T := TX12) (N := 30) hx hb hts iX12_pier_X12 tyX12 tyX12_ok nmX12 hown hK hP hD hS 0 rfl rfl 8 (by decide) (hts (.fieldLink RX12 71 "HookPierModel" "spot" "I") (List.mem_of_getElem? (i := 11) rfl)) (fun _ h9 => h9) rfl (by decide +kernel) rfl rfl (Nat.le_of_ble_eq_true rfl) dX12_pier_35 (fun H locs hP hD hS => ?_)
      have hP : va_P (dC, dI) vwCl [(a0, .inr (9, [.int 0, g3, g4, g5, .null, g6, .int 0, .int 0, .int 0, .int 0, .int 0, g7, .int 0, .int 0, g8, g9, g10, g11, g12, g13, g14, g15, g16, g17, g18, g19, g20, g21, g22, g23]))] H := hP
      have hD : va_D A [(a0, .inr (9, [.int 0, g3, g4, g5, .null, g6, .int 0, .int 0, .int 0, .int 0, .int 0, g7, .int 0, .int 0, g8, g9, g10, g11, g12, g13, g14, g15, g16, g17, g18, g19, g20, g21, g22, g23]))] := hD
      refine lv_aload_n hx hb dX12_pier_38 rfl (lv_at hl 0 rfl) ?_
      refine lv_iconst (v := 0) hx hb dX12_pier_39 (by decide) ?_
      refine va_put (D := (dC, dI)) (ci := 9) (v := .int 0) (ty := .int) (C := RX12) (T := TX12) (N := 30) hx hb hts iX12_pier_X12 tyX12 tyX12_ok nmX12 hown hK hP hD hS 0 rfl rfl 12 (by decide) (hts (.fieldLink RX12 94 "HookPierModel" "fault" "I") (List.mem_of_getElem? (i := 12) rfl)) (fun _ h9 => h9) rfl (by decide +kernel) rfl rfl (Nat.le_of_ble_eq_true rfl) dX12_pier_40 (fun H locs hP hD hS => ?_)
      have hP : va_P (dC, dI) vwCl [(a0, .inr (9, [.int 0, g3, g4, g5, .null, g6, .int 0, .int 0, .int 0, .int 0, .int 0, g7, .int 0, .int 0, g8, g9, g10, g11, g12, g13, g14, g15, g16, g17, g18, g19, g20, g21, g22, g23]))] H := hP
      have hD : va_D A [(a0, .inr (9, [.int 0, g3, g4, g5, .null, g6, .int 0, .int 0, .int 0, .int 0, .int 0, g7, .int 0, .int 0, g8, g9, g10, g11, g12, g13, g14, g15, g16, g17, g18, g19, g20, g21, g22, g23]))] := hD
      refine lv_aload_n hx hb dX12_pier_43 rfl (lv_at hl 0 rfl) ?_
      refine va_new (ci := 8) (fs := [.int 0, .int 0, .int 0, .int 0, .int 0, .int 0, .int 0, .int 0, .int 0, .int 0, .null, .null, .null, .null, .null, .null, .null, .null, .null, .null, .null, .null, .null, .null]) (C := RX11) (T := TX11) (N := 24) hx hb hts iX12_pier_X11 tyX11 tyX11_ok hown (hts (.classLink RX12 144 RX11) (List.mem_of_getElem? (i := 13) rfl)) (hts (.instantiable RX11 24) (List.mem_of_getElem? (i := 14) rfl)) (hts (.initialized RX11) (List.mem_of_getElem? (i := 15) rfl)) hK hP hD hS hA rfl (by decide +kernel) (Nat.le_of_ble_eq_true rfl) (Nat.le_of_ble_eq_true rfl) dX12_pier_44 (fun q4 H hP hD hS => ?_)
      have hP : va_P (dC, dI) vwCl [(a0, .inr (9, [.int 0, g3, g4, g5, .null, g6, .int 0, .int 0, .int 0, .int 0, .int 0, g7, .int 0, .int 0, g8, g9, g10, g11, g12, g13, g14, g15, g16, g17, g18, g19, g20, g21, g22, g23])), (q4, .inr (8, [.int 0, .int 0, .int 0, .int 0, .int 0, .int 0, .int 0, .int 0, .int 0, .int 0, .null, .null, .null, .null, .null, .null, .null, .null, .null, .null, .null, .null, .null, .null]))] H := hP
      have hD : va_D A [(a0, .inr (9, [.int 0, g3, g4, g5, .null, g6, .int 0, .int 0, .int 0, .int 0, .int 0, g7, .int 0, .int 0, g8, g9, g10, g11, g12, g13, g14, g15, g16, g17, g18, g19, g20, g21, g22, g23])), (q4, .inr (8, [.int 0, .int 0, .int 0, .int 0, .int 0, .int 0, .int 0, .int 0, .int 0, .int 0, .null, .null, .null, .null, .null, .null, .null, .null, .null, .null, .null, .null, .null, .null]))] := hD
      refine W.widen (k := 1) (n := 24) (Nat.le_of_ble_eq_true rfl) (Nat.le_of_ble_eq_true rfl) ?_
      refine lv_dup hx hb dX12_pier_47 rfl ?_
      refine cl_v (wc := [(q4, .inr (8, [.int 0, .int 0, .int 0, .int 0, .int 0, .int 0, .int 0, .int 0, .int 0, .int 0, .null, .null, .null, .null, .null, .null, .null, .null, .null, .null, .null, .null, .null, .null]))]) (wr := [(a0, .inr (9, [.int 0, g3, g4, g5, .null, g6, .int 0, .int 0, .int 0, .int 0, .int 0, g7, .int 0, .int 0, g8, g9, g10, g11, g12, g13, g14, g15, g16, g17, g18, g19, g20, g21, g22, g23]))]) (va_runIN (As := []) (rest := [.ref q4, .ref a0]) ⟨hx, hb, hml, hown, hts⟩ (kX11_init l dC dI q4 (.int 0) (.int 0) (.int 0) (.int 0) (.int 0) (.int 0) (.int 0) (.int 0) (.int 0) (.int 0) (.null) (.null) (.null) (.null) (.null) (.null) (.null) (.null) (.null) (.null) (.null) (.null) (.null) (.null) H.size) ⟨va_cnB 0 hts gX12_pier_1 rfl rfl rfl (hN.1 (.methodLinkNest RX12 295 yX11_init "HookPierModel") (List.mem_of_getElem? (i := 20) rfl)) (hts (.initialized RX11) (List.mem_of_getElem? (i := 15) rfl)) (by decide +kernel) ⟨Nat.le_of_ble_eq_true rfl, Nat.le_of_ble_eq_true rfl⟩, rfl, (hts (.instanceMethod yX11_init) (List.mem_of_getElem? (i := 37) rfl))⟩ (PS (hP.sub (ws' := [(q4, .inr (8, [.int 0, .int 0, .int 0, .int 0, .int 0, .int 0, .int 0, .int 0, .int 0, .int 0, .null, .null, .null, .null, .null, .null, .null, .null, .null, .null, .null, .null, .null, .null]))]) [1] rfl) (hK.sub (tys' := []) [] rfl) (hD.sub (ws' := [(q4, .inr (8, [.int 0, .int 0, .int 0, .int 0, .int 0, .int 0, .int 0, .int 0, .int 0, .int 0, .null, .null, .null, .null, .null, .null, .null, .null, .null, .null, .null, .null, .null, .null]))]) [1] (by decide) rfl) hN) rfl rfl hl.1 rfl (lv_room (Nat.le_of_ble_eq_true rfl)) dX12_pier_48 ⟨Nat.le_of_ble_eq_true rfl, Nat.le_of_ble_eq_true rfl⟩) hP hD hK hS hA [1] [0] rfl rfl (by decide) (by decide) (fun u H locs hw hP hD hK hS => ?_)
      obtain ⟨q5, q6, q7, q8, q9, q10, q11, q12, q13, q14, q15, q16, q17, q18⟩ := u
      have hP : va_P (dC, dI) vwCl [(a0, .inr (9, [.int 0, g3, g4, g5, .null, g6, .int 0, .int 0, .int 0, .int 0, .int 0, g7, .int 0, .int 0, g8, g9, g10, g11, g12, g13, g14, g15, g16, g17, g18, g19, g20, g21, g22, g23])), (q4, .inr (8, [.int 0, .int 0, .int 0, .int 0, .int 0, .int 0, .int 0, .int 0, .int (-1), .int 0, .ref q5, .ref q6, .ref q7, .ref q8, .ref q9, .ref q10, .ref q11, .ref q12, .ref q13, .ref q14, .ref q15, .ref q16, .ref q17, .ref q18]))] H := hP
      have hD : va_D A [(a0, .inr (9, [.int 0, g3, g4, g5, .null, g6, .int 0, .int 0, .int 0, .int 0, .int 0, g7, .int 0, .int 0, g8, g9, g10, g11, g12, g13, g14, g15, g16, g17, g18, g19, g20, g21, g22, g23])), (q4, .inr (8, [.int 0, .int 0, .int 0, .int 0, .int 0, .int 0, .int 0, .int 0, .int (-1), .int 0, .ref q5, .ref q6, .ref q7, .ref q8, .ref q9, .ref q10, .ref q11, .ref q12, .ref q13, .ref q14, .ref q15, .ref q16, .ref q17, .ref q18]))] := hD
      have hK : va_K (dC, dI) vwCl [] s := hK
      refine W.widen (k := 15) (n := 134) (Nat.le_of_ble_eq_true rfl) (Nat.le_of_ble_eq_true rfl) ?_
      refine va_put (D := (dC, dI)) (ci := 9) (v := .ref q4) (ty := .object "HookPierModel$Pier") (C := RX12) (T := TX12) (N := 30) hx hb hts iX12_pier_X12 tyX12 tyX12_ok nmX12 hown hK hP hD hS 0 rfl rfl 4 (by decide) (hts (.fieldLink RX12 139 "HookPierModel" "read" "LHookPierModel$Pier;") (List.mem_of_getElem? (i := 38) rfl)) (fun _ h9 => h9) rfl (by decide +kernel) rfl rfl (Nat.le_of_ble_eq_true rfl) dX12_pier_51 (fun H locs hP hD hS => ?_)
      have hP : va_P (dC, dI) vwCl [(a0, .inr (9, [.int 0, g3, g4, g5, .ref q4, g6, .int 0, .int 0, .int 0, .int 0, .int 0, g7, .int 0, .int 0, g8, g9, g10, g11, g12, g13, g14, g15, g16, g17, g18, g19, g20, g21, g22, g23])), (q4, .inr (8, [.int 0, .int 0, .int 0, .int 0, .int 0, .int 0, .int 0, .int 0, .int (-1), .int 0, .ref q5, .ref q6, .ref q7, .ref q8, .ref q9, .ref q10, .ref q11, .ref q12, .ref q13, .ref q14, .ref q15, .ref q16, .ref q17, .ref q18]))] H := hP
      have hD : va_D A [(a0, .inr (9, [.int 0, g3, g4, g5, .ref q4, g6, .int 0, .int 0, .int 0, .int 0, .int 0, g7, .int 0, .int 0, g8, g9, g10, g11, g12, g13, g14, g15, g16, g17, g18, g19, g20, g21, g22, g23])), (q4, .inr (8, [.int 0, .int 0, .int 0, .int 0, .int 0, .int 0, .int 0, .int 0, .int (-1), .int 0, .ref q5, .ref q6, .ref q7, .ref q8, .ref q9, .ref q10, .ref q11, .ref q12, .ref q13, .ref q14, .ref q15, .ref q16, .ref q17, .ref q18]))] := hD
      refine lv_aload_n hx hb dX12_pier_54 rfl (lv_at hl 0 rfl) ?_
      refine lv_iconst (v := 0) hx hb dX12_pier_55 (by decide) ?_
      refine va_put (D := (dC, dI)) (ci := 9) (v := .int 0) (ty := .int) (C := RX12) (T := TX12) (N := 30) hx hb hts iX12_pier_X12 tyX12 tyX12_ok nmX12 hown hK hP hD hS 0 rfl rfl 9 (by decide) (hts (.fieldLink RX12 68 "HookPierModel" "sort" "I") (List.mem_of_getElem? (i := 39) rfl)) (fun _ h9 => h9) rfl (by decide +kernel) rfl rfl (Nat.le_of_ble_eq_true rfl) dX12_pier_56 (fun H locs hP hD hS => ?_)
      have hP : va_P (dC, dI) vwCl [(a0, .inr (9, [.int 0, g3, g4, g5, .ref q4, g6, .int 0, .int 0, .int 0, .int 0, .int 0, g7, .int 0, .int 0, g8, g9, g10, g11, g12, g13, g14, g15, g16, g17, g18, g19, g20, g21, g22, g23])), (q4, .inr (8, [.int 0, .int 0, .int 0, .int 0, .int 0, .int 0, .int 0, .int 0, .int (-1), .int 0, .ref q5, .ref q6, .ref q7, .ref q8, .ref q9, .ref q10, .ref q11, .ref q12, .ref q13, .ref q14, .ref q15, .ref q16, .ref q17, .ref q18]))] H := hP
      have hD : va_D A [(a0, .inr (9, [.int 0, g3, g4, g5, .ref q4, g6, .int 0, .int 0, .int 0, .int 0, .int 0, g7, .int 0, .int 0, g8, g9, g10, g11, g12, g13, g14, g15, g16, g17, g18, g19, g20, g21, g22, g23])), (q4, .inr (8, [.int 0, .int 0, .int 0, .int 0, .int 0, .int 0, .int 0, .int 0, .int (-1), .int 0, .ref q5, .ref q6, .ref q7, .ref q8, .ref q9, .ref q10, .ref q11, .ref q12, .ref q13, .ref q14, .ref q15, .ref q16, .ref q17, .ref q18]))] := hD
      refine lv_aload_n hx hb dX12_pier_59 rfl (lv_at hl 0 rfl) ?_
      refine cl_v (wc := [(a0, .inr (9, [.int 0, g3, g4, g5, .ref q4, g6, .int 0, .int 0, .int 0, .int 0, .int 0, g7, .int 0, .int 0, g8, g9, g10, g11, g12, g13, g14, g15, g16, g17, g18, g19, g20, g21, g22, g23]))]) (wr := [(q4, .inr (8, [.int 0, .int 0, .int 0, .int 0, .int 0, .int 0, .int 0, .int 0, .int (-1), .int 0, .ref q5, .ref q6, .ref q7, .ref q8, .ref q9, .ref q10, .ref q11, .ref q12, .ref q13, .ref q14, .ref q15, .ref q16, .ref q17, .ref q18]))]) (va_runV (As := []) (rest := []) ⟨hx, hb, hml, hown, hts⟩ (kX12_goesOn l dC dI a0 (.int 0) (g3) (g4) (g5) (.ref q4) (g6) (.int 0) (.int 0) (g7) (.int 0) (.int 0) (g8) (g9) (g10) (g11) (g12) (g13) (g14) (g15) (g16) (g17) (g18) (g19) (g20) (g21) (g22) (g23) H.size) (cwV 0 hts gX12_pier_2 rfl rfl rfl (by decide +kernel) ⟨Nat.le_of_ble_eq_true rfl, Nat.le_of_ble_eq_true rfl⟩) (PV (hP.sub (ws' := [(a0, .inr (9, [.int 0, g3, g4, g5, .ref q4, g6, .int 0, .int 0, .int 0, .int 0, .int 0, g7, .int 0, .int 0, g8, g9, g10, g11, g12, g13, g14, g15, g16, g17, g18, g19, g20, g21, g22, g23]))]) [0] rfl) (hK.sub (tys' := []) [] rfl) (hD.sub (ws' := [(a0, .inr (9, [.int 0, g3, g4, g5, .ref q4, g6, .int 0, .int 0, .int 0, .int 0, .int 0, g7, .int 0, .int 0, g8, g9, g10, g11, g12, g13, g14, g15, g16, g17, g18, g19, g20, g21, g22, g23]))]) [0] (by decide) rfl) hN 0 rfl rfl) rfl rfl hl.1 rfl (lv_room (Nat.le_of_ble_eq_true rfl)) dX12_pier_60 ⟨Nat.le_of_ble_eq_true rfl, Nat.le_of_ble_eq_true rfl⟩) hP hD hK hS hA [0] [1] rfl rfl (by decide) (by decide) (fun _u H locs hw hP hD hK hS => ?_)
      have hP : va_P (dC, dI) vwCl [(q4, .inr (8, [.int 0, .int 0, .int 0, .int 0, .int 0, .int 0, .int 0, .int 0, .int (-1), .int 0, .ref q5, .ref q6, .ref q7, .ref q8, .ref q9, .ref q10, .ref q11, .ref q12, .ref q13, .ref q14, .ref q15, .ref q16, .ref q17, .ref q18])), (a0, .inr (9, [.int 0, g3, g4, g5, .ref q4, g6, .int 0, .int 0, .int 0, .int 1, .int 0, g7, .int 0, .int 0, g8, g9, g10, g11, g12, g13, g14, g15, g16, g17, g18, g19, g20, g21, g22, g23]))] H := hP
      have hD : va_D A [(q4, .inr (8, [.int 0, .int 0, .int 0, .int 0, .int 0, .int 0, .int 0, .int 0, .int (-1), .int 0, .ref q5, .ref q6, .ref q7, .ref q8, .ref q9, .ref q10, .ref q11, .ref q12, .ref q13, .ref q14, .ref q15, .ref q16, .ref q17, .ref q18])), (a0, .inr (9, [.int 0, g3, g4, g5, .ref q4, g6, .int 0, .int 0, .int 0, .int 1, .int 0, g7, .int 0, .int 0, g8, g9, g10, g11, g12, g13, g14, g15, g16, g17, g18, g19, g20, g21, g22, g23]))] := hD
      have hK : va_K (dC, dI) vwCl [] s := hK
      refine lv_aload_n hx hb dX12_pier_63 rfl (lv_at hl 0 rfl) ?_
      refine cl_v (wc := [(a0, .inr (9, [.int 0, g3, g4, g5, .ref q4, g6, .int 0, .int 0, .int 0, .int 1, .int 0, g7, .int 0, .int 0, g8, g9, g10, g11, g12, g13, g14, g15, g16, g17, g18, g19, g20, g21, g22, g23])), (q4, .inr (8, [.int 0, .int 0, .int 0, .int 0, .int 0, .int 0, .int 0, .int 0, .int (-1), .int 0, .ref q5, .ref q6, .ref q7, .ref q8, .ref q9, .ref q10, .ref q11, .ref q12, .ref q13, .ref q14, .ref q15, .ref q16, .ref q17, .ref q18]))]) (wr := []) (va_runV (As := []) (rest := []) ⟨hx, hb, hml, hown, hts⟩ (kX12_readAll l dC dI a0 q4 (.int 0) (g3) (g4) (g5) (g6) (.int 0) (.int 0) (.int 0) (g7) (.int 0) (.int 0) (g8) (g9) (g10) (g11) (g12) (g13) (g14) (g15) (g16) (g17) (g18) (g19) (g20) (g21) (g22) (g23) (.int 0) (.int 0) (.int 0) (.int 0) (.int 0) (.int 0) (.int 0) (.int (-1)) (.int 0) (.ref q5) (.ref q6) (.ref q7) (.ref q8) (.ref q9) (.ref q10) (.ref q11) (.ref q12) (.ref q13) (.ref q14) (.ref q15) (.ref q16) (.ref q17) (.ref q18) H.size) (cwV 0 hts gX12_pier_3 rfl rfl rfl (by decide +kernel) ⟨Nat.le_of_ble_eq_true rfl, Nat.le_of_ble_eq_true rfl⟩) (PV (hP.sub (ws' := [(a0, .inr (9, [.int 0, g3, g4, g5, .ref q4, g6, .int 0, .int 0, .int 0, .int 1, .int 0, g7, .int 0, .int 0, g8, g9, g10, g11, g12, g13, g14, g15, g16, g17, g18, g19, g20, g21, g22, g23])), (q4, .inr (8, [.int 0, .int 0, .int 0, .int 0, .int 0, .int 0, .int 0, .int 0, .int (-1), .int 0, .ref q5, .ref q6, .ref q7, .ref q8, .ref q9, .ref q10, .ref q11, .ref q12, .ref q13, .ref q14, .ref q15, .ref q16, .ref q17, .ref q18]))]) [1, 0] rfl) (hK.sub (tys' := []) [] rfl) (hD.sub (ws' := [(a0, .inr (9, [.int 0, g3, g4, g5, .ref q4, g6, .int 0, .int 0, .int 0, .int 1, .int 0, g7, .int 0, .int 0, g8, g9, g10, g11, g12, g13, g14, g15, g16, g17, g18, g19, g20, g21, g22, g23])), (q4, .inr (8, [.int 0, .int 0, .int 0, .int 0, .int 0, .int 0, .int 0, .int 0, .int (-1), .int 0, .ref q5, .ref q6, .ref q7, .ref q8, .ref q9, .ref q10, .ref q11, .ref q12, .ref q13, .ref q14, .ref q15, .ref q16, .ref q17, .ref q18]))]) [1, 0] (by decide) rfl) hN 0 rfl rfl) rfl rfl hl.1 rfl (lv_room (Nat.le_of_ble_eq_true rfl)) dX12_pier_64 ⟨Nat.le_of_ble_eq_true rfl, Nat.le_of_ble_eq_true rfl⟩) hP hD hK hS hA [1, 0] [] rfl rfl (by decide) (by decide) (fun _u H locs hw hP hD hK hS => ?_)
      have hP : va_P (dC, dI) vwCl [(a0, .inr (9, [.int 0, g3, g4, g5, .ref q4, g6, .int 0, .int 0, .int 0, .int 5, .int 0, g7, .int 1, .int 0, g8, g9, g10, g11, g12, g13, g14, g15, g16, g17, g18, g19, g20, g21, g22, g23])), (q4, .inr (8, [.int 0, .int 0, .int 0, .int 0, .int 0, .int 0, .int 0, .int 0, .int (-1), .int 0, .ref q5, .ref q6, .ref q7, .ref q8, .ref q9, .ref q10, .ref q11, .ref q12, .ref q13, .ref q14, .ref q15, .ref q16, .ref q17, .ref q18]))] H := hP
      have hD : va_D A [(a0, .inr (9, [.int 0, g3, g4, g5, .ref q4, g6, .int 0, .int 0, .int 0, .int 5, .int 0, g7, .int 1, .int 0, g8, g9, g10, g11, g12, g13, g14, g15, g16, g17, g18, g19, g20, g21, g22, g23])), (q4, .inr (8, [.int 0, .int 0, .int 0, .int 0, .int 0, .int 0, .int 0, .int 0, .int (-1), .int 0, .ref q5, .ref q6, .ref q7, .ref q8, .ref q9, .ref q10, .ref q11, .ref q12, .ref q13, .ref q14, .ref q15, .ref q16, .ref q17, .ref q18]))] := hD
      have hK : va_K (dC, dI) vwCl [] s := hK
      refine lv_aload_n hx hb dX12_pier_67 rfl (lv_at hl 0 rfl) ?_
      refine va_get (D := (dC, dI)) (ci := 9) (v := .int 1) (C := RX12) (T := TX12) (N := 30) hx hb hts iX12_pier_X12 hown hK hP 0 rfl rfl 12 (by decide) (hts (.fieldLink RX12 94 "HookPierModel" "fault" "I") (List.mem_of_getElem? (i := 12) rfl)) (fun _ h9 => h9) rfl dX12_pier_68 ?_
      refine lv_if_le (tgt := 89) hx hb dX12_pier_71 (by decide) (fun c19 => absurd c19 (by decide)) (fun _ => ?_)
      refine lv_aload_n hx hb dX12_pier_74 rfl (lv_at hl 0 rfl) ?_
      refine lv_iconst (v := 4) hx hb dX12_pier_75 (by decide) ?_
      refine va_put (D := (dC, dI)) (ci := 9) (v := .int 4) (ty := .int) (C := RX12) (T := TX12) (N := 30) hx hb hts iX12_pier_X12 tyX12 tyX12_ok nmX12 hown hK hP hD hS 0 rfl rfl 1 (by decide) (hts (.fieldLink RX12 39 "HookPierModel" "trouble" "I") (List.mem_of_getElem? (i := 7) rfl)) (fun _ h9 => h9) rfl (by decide +kernel) rfl rfl (Nat.le_of_ble_eq_true rfl) dX12_pier_76 (fun H locs hP hD hS => ?_)
      have hP : va_P (dC, dI) vwCl [(a0, .inr (9, [.int 0, .int 4, g4, g5, .ref q4, g6, .int 0, .int 0, .int 0, .int 5, .int 0, g7, .int 1, .int 0, g8, g9, g10, g11, g12, g13, g14, g15, g16, g17, g18, g19, g20, g21, g22, g23])), (q4, .inr (8, [.int 0, .int 0, .int 0, .int 0, .int 0, .int 0, .int 0, .int 0, .int (-1), .int 0, .ref q5, .ref q6, .ref q7, .ref q8, .ref q9, .ref q10, .ref q11, .ref q12, .ref q13, .ref q14, .ref q15, .ref q16, .ref q17, .ref q18]))] H := hP
      have hD : va_D A [(a0, .inr (9, [.int 0, .int 4, g4, g5, .ref q4, g6, .int 0, .int 0, .int 0, .int 5, .int 0, g7, .int 1, .int 0, g8, g9, g10, g11, g12, g13, g14, g15, g16, g17, g18, g19, g20, g21, g22, g23])), (q4, .inr (8, [.int 0, .int 0, .int 0, .int 0, .int 0, .int 0, .int 0, .int 0, .int (-1), .int 0, .ref q5, .ref q6, .ref q7, .ref q8, .ref q9, .ref q10, .ref q11, .ref q12, .ref q13, .ref q14, .ref q15, .ref q16, .ref q17, .ref q18]))] := hD
      refine lv_aload_n hx hb dX12_pier_79 rfl (lv_at hl 0 rfl) ?_
      refine lv_aload_n hx hb dX12_pier_80 rfl (lv_at hl 0 rfl) ?_
      refine va_get (D := (dC, dI)) (ci := 9) (v := .int 0) (C := RX12) (T := TX12) (N := 30) hx hb hts iX12_pier_X12 hown hK hP 0 rfl rfl 13 (by decide) (hts (.fieldLink RX12 97 "HookPierModel" "wrongAt" "I") (List.mem_of_getElem? (i := 65) rfl)) (fun _ h9 => h9) rfl dX12_pier_81 ?_
      refine va_put (D := (dC, dI)) (ci := 9) (v := .int 0) (ty := .int) (C := RX12) (T := TX12) (N := 30) hx hb hts iX12_pier_X12 tyX12 tyX12_ok nmX12 hown hK hP hD hS 0 rfl rfl 2 (by decide) (hts (.fieldLink RX12 9 "HookPierModel" "where" "I") (List.mem_of_getElem? (i := 8) rfl)) (fun _ h9 => h9) rfl (by decide +kernel) rfl rfl (Nat.le_of_ble_eq_true rfl) dX12_pier_84 (fun H locs hP hD hS => ?_)
      have hP : va_P (dC, dI) vwCl [(a0, .inr (9, [.int 0, .int 4, .int 0, g5, .ref q4, g6, .int 0, .int 0, .int 0, .int 5, .int 0, g7, .int 1, .int 0, g8, g9, g10, g11, g12, g13, g14, g15, g16, g17, g18, g19, g20, g21, g22, g23])), (q4, .inr (8, [.int 0, .int 0, .int 0, .int 0, .int 0, .int 0, .int 0, .int 0, .int (-1), .int 0, .ref q5, .ref q6, .ref q7, .ref q8, .ref q9, .ref q10, .ref q11, .ref q12, .ref q13, .ref q14, .ref q15, .ref q16, .ref q17, .ref q18]))] H := hP
      have hD : va_D A [(a0, .inr (9, [.int 0, .int 4, .int 0, g5, .ref q4, g6, .int 0, .int 0, .int 0, .int 5, .int 0, g7, .int 1, .int 0, g8, g9, g10, g11, g12, g13, g14, g15, g16, g17, g18, g19, g20, g21, g22, g23])), (q4, .inr (8, [.int 0, .int 0, .int 0, .int 0, .int 0, .int 0, .int 0, .int 0, .int (-1), .int 0, .ref q5, .ref q6, .ref q7, .ref q8, .ref q9, .ref q10, .ref q11, .ref q12, .ref q13, .ref q14, .ref q15, .ref q16, .ref q17, .ref q18]))] := hD
      refine lv_iconst (v := (-1)) hx hb dX12_pier_87 (by decide) ?_
      have hP9 := hP.sub (ws' := []) [] rfl
      have hD9 := hD.sub (ws' := []) [] (by decide) rfl
      have hK9 := hK.sub (tys' := []) [] rfl
      exact W.iret (v := (-1)) hx hb hr (fun t ht hW => ⟨⟨(-1), (), rfl, rfl, by rw [ht]; exact hP9, va_K.moved hW.alike hK9, hD9⟩, hS.F ht⟩) hS.2.2 dX12_pier_88
    · refine lv_aload_n hx hb dX12_pier_17 rfl (lv_at hl 0 rfl) ?_
      refine lv_iconst (v := 2) hx hb dX12_pier_18 (by decide) ?_
      refine cl_i (wc := [(a0, .inr (9, [.int 0, g3, g4, g5, .null, g6, .int 0, .int 0, .int 0, .int 0, .int 0, g7, .int 0, .int 0, g8, g9, g10, g11, g12, g13, g14, g15, g16, g17, g18, g19, g20, g21, g22, g23]))]) (wr := []) (va_runV (As := [.int 2]) (rest := []) ⟨hx, hb, hml, hown, hts⟩ (kX12_refused l dC dI a0 (.int 0) (g3) (g4) (g5) (.null) (g6) (.int 0) (.int 0) (.int 0) (.int 0) (.int 0) (g7) (.int 0) (.int 0) (g8) (g9) (g10) (g11) (g12) (g13) (g14) (g15) (g16) (g17) (g18) (g19) (g20) (g21) (g22) (g23) H.size) (cwV 1 hts gX12_pier_0 rfl rfl rfl (by decide +kernel) ⟨Nat.le_of_ble_eq_true rfl, Nat.le_of_ble_eq_true rfl⟩) (PV (hP.sub (ws' := [(a0, .inr (9, [.int 0, g3, g4, g5, .null, g6, .int 0, .int 0, .int 0, .int 0, .int 0, g7, .int 0, .int 0, g8, g9, g10, g11, g12, g13, g14, g15, g16, g17, g18, g19, g20, g21, g22, g23]))]) [0] rfl) (hK.sub (tys' := []) [] rfl) (hD.sub (ws' := [(a0, .inr (9, [.int 0, g3, g4, g5, .null, g6, .int 0, .int 0, .int 0, .int 0, .int 0, g7, .int 0, .int 0, g8, g9, g10, g11, g12, g13, g14, g15, g16, g17, g18, g19, g20, g21, g22, g23]))]) [0] (by decide) rfl) hN 0 rfl rfl) rfl rfl hl.1 rfl (lv_room (Nat.le_of_ble_eq_true rfl)) dX12_pier_19 ⟨Nat.le_of_ble_eq_true rfl, Nat.le_of_ble_eq_true rfl⟩) hP hD hK hS hA [0] [] rfl rfl (by decide) (by decide) (fun z20 _u H locs hw hP hD hK hS => ?_)
      have hP : va_P (dC, dI) vwCl [(a0, .inr (9, [.int 0, .int 2, .int (-1), g5, .null, g6, .int 0, .int 0, .int 0, .int 0, .int 0, g7, .int 0, .int 0, g8, g9, g10, g11, g12, g13, g14, g15, g16, g17, g18, g19, g20, g21, g22, g23]))] H := hP
      have hD : va_D A [(a0, .inr (9, [.int 0, .int 2, .int (-1), g5, .null, g6, .int 0, .int 0, .int 0, .int 0, .int 0, g7, .int 0, .int 0, g8, g9, g10, g11, g12, g13, g14, g15, g16, g17, g18, g19, g20, g21, g22, g23]))] := hD
      have hK : va_K (dC, dI) vwCl [] s := hK
      obtain rfl : z20 = (-1) := hw
      refine W.widen (k := 15) (n := 134) (Nat.le_of_ble_eq_true rfl) (Nat.le_of_ble_eq_true rfl) ?_
      have hP9 := hP.sub (ws' := []) [] rfl
      have hD9 := hD.sub (ws' := []) [] (by decide) rfl
      have hK9 := hK.sub (tys' := []) [] rfl
      exact W.iret (v := (-1)) hx hb hr (fun t ht hW => ⟨⟨(-1), (), rfl, rfl, by rw [ht]; exact hP9, va_K.moved hW.alike hK9, hD9⟩, hS.F ht⟩) hS.2.2 dX12_pier_22
theorem dX10_fault_0 : decode cX10_fault 0 = .ok (.aload_n 0, 1) := by decide +kernel
theorem dX10_fault_1 : decode cX10_fault 1 = .ok (.getfield 65, 3) := by decide +kernel
theorem dX10_fault_4 : decode cX10_fault 4 = .ok (.ireturn, 1) := by decide +kernel
def vX10_fault : List Cond := .code yX10_fault cX10_fault 1 (some .int) :: ([.fieldLink RX10 65 "HookPier" "faultNow" "I"] ++ wsX100)
theorem iX10_fault_X10 : ∀ w ∈ wsX100, w ∈ vX10_fault := fun _ h => List.mem_cons_of_mem _ (List.mem_append_right _ h)
set_option maxHeartbeats 1000000 in
set_option maxRecDepth 100000 in
theorem kX10_fault (l : Launch) (dC : Nat → ClassId) (dI : Nat → Nat → Nat) (a0 : Nat) (g1 : Value) (g2 : Value) (g3 : Value) (g4 : Value) (g5 : Value) (g6 : Value) (g7 : Value) (g8 : Value) (g9 : Value) (sz : Nat) : Met l yX10_fault vX10_fault ({ frames := 0, cells := 0, slots := 0, locals := 0 }) (PC (dC, dI) [.ref a0] sz [(a0, .inr (7, [g1, g2, g3, g4, g5, g6, g7, g8, g9, .int 0]))] []) (va_Qi (S := Unit) (fun (r : Int32) _ => r = 0) (fun _ t => BC (dC, dI) (va_A [(a0, .inr (7, [g1, g2, g3, g4, g5, g6, g7, g8, g9, .int 0]))] sz) [] [] t) (va_A [(a0, .inr (7, [g1, g2, g3, g4, g5, g6, g7, g8, g9, .int 0]))] sz)) 0 0 (va_A [(a0, .inr (7, [g1, g2, g3, g4, g5, g6, g7, g8, g9, .int 0]))] sz) := by
  refine Met.ofW (cc := cX10_fault) (maxL := 1) (ret := (some .int)) (by decide) rfl ?_
  intro p e s m args below meth c s₁ B hml hv
  obtain ⟨rfl, hsz, hP, hK, hD0, hN⟩ := hv
  have hx := B.exec
  have hb := B.bytes
  have hr := B.returns
  have hts := atoms_spec (ws := vX10_fault) B.pre
  have hown : s.vm.findClass RX10 = some m.cls := findClass_of_methodNamed B.named
  have hlocks := B.notSynchronized
  subst hsz
  have hD := hD0.self (sz := s.heap.size)
  generalize hAe : va_A [(a0, .inr (7, [g1, g2, g3, g4, g5, g6, g7, g8, g9, .int 0]))] s.heap.size = A at hD ⊢
  have hA : ∀ q : Nat, s.heap.size ≤ q → A q := fun q h => by rw [← hAe]; exact Or.inr h
  have hS : va_S A s.heap s.heap [] := va_S.rf
  have hP : va_P (dC, dI) vwCl [(a0, .inr (7, [g1, g2, g3, g4, g5, g6, g7, g8, g9, .int 0]))] s.heap := hP
  have hl := lv_entry ([.ref a0]) (n := 1) (Nat.le_of_ble_eq_true rfl)
  rw [lg_entry_eq]
  generalize (lg_sl ([.ref a0]) ++ List.replicate (1 - (lg_sl ([.ref a0])).length) Slot.unset).toArray = ls at hl ⊢
  have hl : lv_has ls 1 [(0, .ref a0)] := hl
  refine lv_aload_n hx hb dX10_fault_0 rfl (lv_at hl 0 rfl) ?_
  refine va_get (D := (dC, dI)) (ci := 7) (v := .int 0) (C := RX10) (T := TX10) (N := 10) hx hb hts iX10_fault_X10 hown hK hP 0 rfl rfl 9 (by decide) (hts (.fieldLink RX10 65 "HookPier" "faultNow" "I") (List.mem_of_getElem? (i := 1) rfl)) (fun _ h9 => h9) rfl dX10_fault_1 ?_
  have hP9 := hP.sub (ws' := []) [] rfl
  have hD9 := hD.sub (ws' := []) [] (by decide) rfl
  have hK9 := hK.sub (tys' := []) [] rfl
  exact W.iret (v := 0) hx hb hr (fun t ht hW => ⟨⟨0, (), rfl, rfl, by rw [ht]; exact hP9, va_K.moved hW.alike hK9, hD9⟩, hS.F ht⟩) hS.2.2 dX10_fault_4
theorem dX12_fault_0 : decode cX12_fault 0 = .ok (.aload_n 0, 1) := by decide +kernel
theorem dX12_fault_1 : decode cX12_fault 1 = .ok (.iconst 0, 1) := by decide +kernel
theorem dX12_fault_2 : decode cX12_fault 2 = .ok (.putfield 36, 3) := by decide +kernel
theorem dX12_fault_5 : decode cX12_fault 5 = .ok (.aload_n 0, 1) := by decide +kernel
theorem dX12_fault_6 : decode cX12_fault 6 = .ok (.getfield 94, 3) := by decide +kernel
theorem dX12_fault_9 : decode cX12_fault 9 = .ok (.ireturn, 1) := by decide +kernel
def vX12_fault : List Cond := .code yX12_fault cX12_fault 1 (some .int) :: ([.fieldLink RX12 36 "HookPierModel" "thrown" "I", .fieldLink RX12 94 "HookPierModel" "fault" "I"] ++ wsX120)
theorem iX12_fault_X12 : ∀ w ∈ wsX120, w ∈ vX12_fault := fun _ h => List.mem_cons_of_mem _ (List.mem_append_right _ h)
set_option maxHeartbeats 1000000 in
set_option maxRecDepth 100000 in
theorem kX12_fault (l : Launch) (dC : Nat → ClassId) (dI : Nat → Nat → Nat) (a0 : Nat) (g1 : Value) (g2 : Value) (g3 : Value) (g4 : Value) (g5 : Value) (g6 : Value) (g7 : Value) (g8 : Value) (g9 : Value) (g10 : Value) (g11 : Value) (g12 : Value) (g13 : Value) (g14 : Value) (g15 : Value) (g16 : Value) (g17 : Value) (g18 : Value) (g19 : Value) (g20 : Value) (g21 : Value) (g22 : Value) (g23 : Value) (g24 : Value) (g25 : Value) (g26 : Value) (g27 : Value) (g28 : Value) (g29 : Value) (sz : Nat) : Met l yX12_fault vX12_fault ({ frames := 0, cells := 0, slots := 0, locals := 0 }) (PC (dC, dI) [.ref a0] sz [(a0, .inr (9, [g1, g2, g3, g4, g5, g6, g7, g8, g9, g10, g11, g12, .int 0, g13, g14, g15, g16, g17, g18, g19, g20, g21, g22, g23, g24, g25, g26, g27, g28, g29]))] []) (va_Qi (S := Unit) (fun (r : Int32) _ => r = 0) (fun _ t => BC (dC, dI) (va_A [(a0, .inr (9, [g1, g2, g3, g4, g5, g6, g7, g8, g9, g10, g11, g12, .int 0, g13, g14, g15, g16, g17, g18, g19, g20, g21, g22, g23, g24, g25, g26, g27, g28, g29]))] sz) [] [] t) (va_A [(a0, .inr (9, [g1, g2, g3, g4, g5, g6, g7, g8, g9, g10, g11, g12, .int 0, g13, g14, g15, g16, g17, g18, g19, g20, g21, g22, g23, g24, g25, g26, g27, g28, g29]))] sz)) 0 0 (va_A [(a0, .inr (9, [g1, g2, g3, g4, g5, g6, g7, g8, g9, g10, g11, g12, .int 0, g13, g14, g15, g16, g17, g18, g19, g20, g21, g22, g23, g24, g25, g26, g27, g28, g29]))] sz) := by
  refine Met.ofW (cc := cX12_fault) (maxL := 1) (ret := (some .int)) (by decide) rfl ?_
  intro p e s m args below meth c s₁ B hml hv
  obtain ⟨rfl, hsz, hP, hK, hD0, hN⟩ := hv
  have hx := B.exec
  have hb := B.bytes
  have hr := B.returns
  have hts := atoms_spec (ws := vX12_fault) B.pre
  have hown : s.vm.findClass RX12 = some m.cls := findClass_of_methodNamed B.named
  have hlocks := B.notSynchronized
  subst hsz
  have hD := hD0.self (sz := s.heap.size)
  generalize hAe : va_A [(a0, .inr (9, [g1, g2, g3, g4, g5, g6, g7, g8, g9, g10, g11, g12, .int 0, g13, g14, g15, g16, g17, g18, g19, g20, g21, g22, g23, g24, g25, g26, g27, g28, g29]))] s.heap.size = A at hD ⊢
  have hA : ∀ q : Nat, s.heap.size ≤ q → A q := fun q h => by rw [← hAe]; exact Or.inr h
  have hS : va_S A s.heap s.heap [] := va_S.rf
  have hP : va_P (dC, dI) vwCl [(a0, .inr (9, [g1, g2, g3, g4, g5, g6, g7, g8, g9, g10, g11, g12, .int 0, g13, g14, g15, g16, g17, g18, g19, g20, g21, g22, g23, g24, g25, g26, g27, g28, g29]))] s.heap := hP
  have hl := lv_entry ([.ref a0]) (n := 1) (Nat.le_of_ble_eq_true rfl)
  rw [lg_entry_eq]
  generalize (lg_sl ([.ref a0]) ++ List.replicate (1 - (lg_sl ([.ref a0])).length) Slot.unset).toArray = ls at hl ⊢
  have hl : lv_has ls 1 [(0, .ref a0)] := hl
  refine lv_aload_n hx hb dX12_fault_0 rfl (lv_at hl 0 rfl) ?_
  refine lv_iconst (v := 0) hx hb dX12_fault_1 (by decide) ?_
  refine va_put (D := (dC, dI)) (ci := 9) (v := .int 0) (ty := .int) (C := RX12) (T := TX12) (N := 30) hx hb hts iX12_fault_X12 tyX12 tyX12_ok nmX12 hown hK hP hD hS 0 rfl rfl 0 (by decide) (hts (.fieldLink RX12 36 "HookPierModel" "thrown" "I") (List.mem_of_getElem? (i := 1) rfl)) (fun _ h9 => h9) rfl (by decide +kernel) rfl rfl (Nat.le_of_ble_eq_true rfl) dX12_fault_2 (fun H locs hP hD hS => ?_)
  have hP : va_P (dC, dI) vwCl [(a0, .inr (9, [.int 0, g2, g3, g4, g5, g6, g7, g8, g9, g10, g11, g12, .int 0, g13, g14, g15, g16, g17, g18, g19, g20, g21, g22, g23, g24, g25, g26, g27, g28, g29]))] H := hP
  have hD : va_D A [(a0, .inr (9, [.int 0, g2, g3, g4, g5, g6, g7, g8, g9, g10, g11, g12, .int 0, g13, g14, g15, g16, g17, g18, g19, g20, g21, g22, g23, g24, g25, g26, g27, g28, g29]))] := hD
  refine lv_aload_n hx hb dX12_fault_5 rfl (lv_at hl 0 rfl) ?_
  refine va_get (D := (dC, dI)) (ci := 9) (v := .int 0) (C := RX12) (T := TX12) (N := 30) hx hb hts iX12_fault_X12 hown hK hP 0 rfl rfl 12 (by decide) (hts (.fieldLink RX12 94 "HookPierModel" "fault" "I") (List.mem_of_getElem? (i := 2) rfl)) (fun _ h9 => h9) rfl dX12_fault_6 ?_
  have hP9 := hP.sub (ws' := []) [] rfl
  have hD9 := hD.sub (ws' := []) [] (by decide) rfl
  have hK9 := hK.sub (tys' := []) [] rfl
  exact W.iret (v := 0) hx hb hr (fun t ht hW => ⟨⟨0, (), rfl, rfl, by rw [ht]; exact hP9, va_K.moved hW.alike hK9, hD9⟩, hS.F ht⟩) hS.2.2 dX12_fault_9
theorem dX10_where_0 : decode cX10_where 0 = .ok (.aload_n 0, 1) := by decide +kernel
theorem dX10_where_1 : decode cX10_where 1 = .ok (.getfield 61, 3) := by decide +kernel
theorem dX10_where_18 : decode cX10_where 18 = .ok (.iconst (-1), 1) := by decide +kernel
theorem dX10_where_19 : decode cX10_where 19 = .ok (.ireturn, 1) := by decide +kernel
theorem dX10_where_4 : decode cX10_where 4 = .ok (.iconst 4, 1) := by decide +kernel
theorem dX10_where_5 : decode cX10_where 5 = .ok (.if_icmp .ne 13, 3) := by decide +kernel
def vX10_where : List Cond := .code yX10_where cX10_where 1 (some .int) :: ([.fieldLink RX10 61 "HookPier" "troubleNow" "I"] ++ wsX100)
theorem iX10_where_X10 : ∀ w ∈ wsX100, w ∈ vX10_where := fun _ h => List.mem_cons_of_mem _ (List.mem_append_right _ h)
set_option maxHeartbeats 1000000 in
set_option maxRecDepth 100000 in
theorem kX10_where (l : Launch) (dC : Nat → ClassId) (dI : Nat → Nat → Nat) (a0 : Nat) (g1 : Value) (g2 : Value) (g3 : Value) (g4 : Value) (g5 : Value) (g6 : Value) (g7 : Value) (g8 : Value) (g9 : Value) (sz : Nat) : Met l yX10_where vX10_where ({ frames := 0, cells := 0, slots := 0, locals := 0 }) (PC (dC, dI) [.ref a0] sz [(a0, .inr (7, [g1, g2, g3, g4, g5, g6, g7, g8, .int 0, g9]))] []) (va_Qi (S := Unit) (fun (r : Int32) _ => r = (-1)) (fun _ t => BC (dC, dI) (va_A [(a0, .inr (7, [g1, g2, g3, g4, g5, g6, g7, g8, .int 0, g9]))] sz) [] [] t) (va_A [(a0, .inr (7, [g1, g2, g3, g4, g5, g6, g7, g8, .int 0, g9]))] sz)) 0 0 (va_A [(a0, .inr (7, [g1, g2, g3, g4, g5, g6, g7, g8, .int 0, g9]))] sz) := by
  refine Met.ofW (cc := cX10_where) (maxL := 1) (ret := (some .int)) (by decide) rfl ?_
  intro p e s m args below meth c s₁ B hml hv
  obtain ⟨rfl, hsz, hP, hK, hD0, hN⟩ := hv
  have hx := B.exec
  have hb := B.bytes
  have hr := B.returns
  have hts := atoms_spec (ws := vX10_where) B.pre
  have hown : s.vm.findClass RX10 = some m.cls := findClass_of_methodNamed B.named
  have hlocks := B.notSynchronized
  subst hsz
  have hD := hD0.self (sz := s.heap.size)
  generalize hAe : va_A [(a0, .inr (7, [g1, g2, g3, g4, g5, g6, g7, g8, .int 0, g9]))] s.heap.size = A at hD ⊢
  have hA : ∀ q : Nat, s.heap.size ≤ q → A q := fun q h => by rw [← hAe]; exact Or.inr h
  have hS : va_S A s.heap s.heap [] := va_S.rf
  have hP : va_P (dC, dI) vwCl [(a0, .inr (7, [g1, g2, g3, g4, g5, g6, g7, g8, .int 0, g9]))] s.heap := hP
  have hl := lv_entry ([.ref a0]) (n := 1) (Nat.le_of_ble_eq_true rfl)
  rw [lg_entry_eq]
  generalize (lg_sl ([.ref a0]) ++ List.replicate (1 - (lg_sl ([.ref a0])).length) Slot.unset).toArray = ls at hl ⊢
  have hl : lv_has ls 1 [(0, .ref a0)] := hl
  refine lv_aload_n hx hb dX10_where_0 rfl (lv_at hl 0 rfl) ?_
  refine va_get (D := (dC, dI)) (ci := 7) (v := .int 0) (C := RX10) (T := TX10) (N := 10) hx hb hts iX10_where_X10 hown hK hP 0 rfl rfl 8 (by decide) (hts (.fieldLink RX10 61 "HookPier" "troubleNow" "I") (List.mem_of_getElem? (i := 1) rfl)) (fun _ h9 => h9) rfl dX10_where_1 ?_
  refine lv_iconst (v := 4) hx hb dX10_where_4 (by decide) ?_
  refine lv_icmp_ne (tgt := 18) hx hb dX10_where_5 (by decide) (fun _ => ?_) (fun c1 => absurd c1 (by decide))
  refine lv_iconst (v := (-1)) hx hb dX10_where_18 (by decide) ?_
  have hP9 := hP.sub (ws' := []) [] rfl
  have hD9 := hD.sub (ws' := []) [] (by decide) rfl
  have hK9 := hK.sub (tys' := []) [] rfl
  exact W.iret (v := (-1)) hx hb hr (fun t ht hW => ⟨⟨(-1), (), rfl, rfl, by rw [ht]; exact hP9, va_K.moved hW.alike hK9, hD9⟩, hS.F ht⟩) hS.2.2 dX10_where_19
theorem dX12_where_0 : decode cX12_where 0 = .ok (.aload_n 0, 1) := by decide +kernel
theorem dX12_where_1 : decode cX12_where 1 = .ok (.iconst 0, 1) := by decide +kernel
theorem dX12_where_2 : decode cX12_where 2 = .ok (.putfield 36, 3) := by decide +kernel
theorem dX12_where_5 : decode cX12_where 5 = .ok (.aload_n 0, 1) := by decide +kernel
theorem dX12_where_6 : decode cX12_where 6 = .ok (.getfield 9, 3) := by decide +kernel
theorem dX12_where_9 : decode cX12_where 9 = .ok (.ireturn, 1) := by decide +kernel
def vX12_where : List Cond := .code yX12_where cX12_where 1 (some .int) :: ([.fieldLink RX12 36 "HookPierModel" "thrown" "I", .fieldLink RX12 9 "HookPierModel" "where" "I"] ++ wsX120)
theorem iX12_where_X12 : ∀ w ∈ wsX120, w ∈ vX12_where := fun _ h => List.mem_cons_of_mem _ (List.mem_append_right _ h)
set_option maxHeartbeats 1000000 in
set_option maxRecDepth 100000 in
theorem kX12_where (l : Launch) (dC : Nat → ClassId) (dI : Nat → Nat → Nat) (a0 : Nat) (g1 : Value) (g2 : Value) (g3 : Value) (g4 : Value) (g5 : Value) (g6 : Value) (g7 : Value) (g8 : Value) (g9 : Value) (g10 : Value) (g11 : Value) (g12 : Value) (g13 : Value) (g14 : Value) (g15 : Value) (g16 : Value) (g17 : Value) (g18 : Value) (g19 : Value) (g20 : Value) (g21 : Value) (g22 : Value) (g23 : Value) (g24 : Value) (g25 : Value) (g26 : Value) (g27 : Value) (g28 : Value) (g29 : Value) (sz : Nat) : Met l yX12_where vX12_where ({ frames := 0, cells := 0, slots := 0, locals := 0 }) (PC (dC, dI) [.ref a0] sz [(a0, .inr (9, [g1, g2, .int (-1), g3, g4, g5, g6, g7, g8, g9, g10, g11, g12, g13, g14, g15, g16, g17, g18, g19, g20, g21, g22, g23, g24, g25, g26, g27, g28, g29]))] []) (va_Qi (S := Unit) (fun (r : Int32) _ => r = (-1)) (fun _ t => BC (dC, dI) (va_A [(a0, .inr (9, [g1, g2, .int (-1), g3, g4, g5, g6, g7, g8, g9, g10, g11, g12, g13, g14, g15, g16, g17, g18, g19, g20, g21, g22, g23, g24, g25, g26, g27, g28, g29]))] sz) [] [] t) (va_A [(a0, .inr (9, [g1, g2, .int (-1), g3, g4, g5, g6, g7, g8, g9, g10, g11, g12, g13, g14, g15, g16, g17, g18, g19, g20, g21, g22, g23, g24, g25, g26, g27, g28, g29]))] sz)) 0 0 (va_A [(a0, .inr (9, [g1, g2, .int (-1), g3, g4, g5, g6, g7, g8, g9, g10, g11, g12, g13, g14, g15, g16, g17, g18, g19, g20, g21, g22, g23, g24, g25, g26, g27, g28, g29]))] sz) := by
  refine Met.ofW (cc := cX12_where) (maxL := 1) (ret := (some .int)) (by decide) rfl ?_
  intro p e s m args below meth c s₁ B hml hv
  obtain ⟨rfl, hsz, hP, hK, hD0, hN⟩ := hv
  have hx := B.exec
  have hb := B.bytes
  have hr := B.returns
  have hts := atoms_spec (ws := vX12_where) B.pre
  have hown : s.vm.findClass RX12 = some m.cls := findClass_of_methodNamed B.named
  have hlocks := B.notSynchronized
  subst hsz
  have hD := hD0.self (sz := s.heap.size)
  generalize hAe : va_A [(a0, .inr (9, [g1, g2, .int (-1), g3, g4, g5, g6, g7, g8, g9, g10, g11, g12, g13, g14, g15, g16, g17, g18, g19, g20, g21, g22, g23, g24, g25, g26, g27, g28, g29]))] s.heap.size = A at hD ⊢
  have hA : ∀ q : Nat, s.heap.size ≤ q → A q := fun q h => by rw [← hAe]; exact Or.inr h
  have hS : va_S A s.heap s.heap [] := va_S.rf
  have hP : va_P (dC, dI) vwCl [(a0, .inr (9, [g1, g2, .int (-1), g3, g4, g5, g6, g7, g8, g9, g10, g11, g12, g13, g14, g15, g16, g17, g18, g19, g20, g21, g22, g23, g24, g25, g26, g27, g28, g29]))] s.heap := hP
  have hl := lv_entry ([.ref a0]) (n := 1) (Nat.le_of_ble_eq_true rfl)
  rw [lg_entry_eq]
  generalize (lg_sl ([.ref a0]) ++ List.replicate (1 - (lg_sl ([.ref a0])).length) Slot.unset).toArray = ls at hl ⊢
  have hl : lv_has ls 1 [(0, .ref a0)] := hl
  refine lv_aload_n hx hb dX12_where_0 rfl (lv_at hl 0 rfl) ?_
  refine lv_iconst (v := 0) hx hb dX12_where_1 (by decide) ?_
  refine va_put (D := (dC, dI)) (ci := 9) (v := .int 0) (ty := .int) (C := RX12) (T := TX12) (N := 30) hx hb hts iX12_where_X12 tyX12 tyX12_ok nmX12 hown hK hP hD hS 0 rfl rfl 0 (by decide) (hts (.fieldLink RX12 36 "HookPierModel" "thrown" "I") (List.mem_of_getElem? (i := 1) rfl)) (fun _ h9 => h9) rfl (by decide +kernel) rfl rfl (Nat.le_of_ble_eq_true rfl) dX12_where_2 (fun H locs hP hD hS => ?_)
  have hP : va_P (dC, dI) vwCl [(a0, .inr (9, [.int 0, g2, .int (-1), g3, g4, g5, g6, g7, g8, g9, g10, g11, g12, g13, g14, g15, g16, g17, g18, g19, g20, g21, g22, g23, g24, g25, g26, g27, g28, g29]))] H := hP
  have hD : va_D A [(a0, .inr (9, [.int 0, g2, .int (-1), g3, g4, g5, g6, g7, g8, g9, g10, g11, g12, g13, g14, g15, g16, g17, g18, g19, g20, g21, g22, g23, g24, g25, g26, g27, g28, g29]))] := hD
  refine lv_aload_n hx hb dX12_where_5 rfl (lv_at hl 0 rfl) ?_
  refine va_get (D := (dC, dI)) (ci := 9) (v := .int (-1)) (C := RX12) (T := TX12) (N := 30) hx hb hts iX12_where_X12 hown hK hP 0 rfl rfl 2 (by decide) (hts (.fieldLink RX12 9 "HookPierModel" "where" "I") (List.mem_of_getElem? (i := 2) rfl)) (fun _ h9 => h9) rfl dX12_where_6 ?_
  have hP9 := hP.sub (ws' := []) [] rfl
  have hD9 := hD.sub (ws' := []) [] (by decide) rfl
  have hK9 := hK.sub (tys' := []) [] rfl
  exact W.iret (v := (-1)) hx hb hr (fun t ht hW => ⟨⟨(-1), (), rfl, rfl, by rw [ht]; exact hP9, va_K.moved hW.alike hK9, hD9⟩, hS.F ht⟩) hS.2.2 dX12_where_9
def vX10_within_1 : List Cond := .code yX10_within cX10_within 3 (some .boolean) :: ([])
set_option maxHeartbeats 1000000 in
set_option maxRecDepth 100000 in
theorem kX10_within_1 (l : Launch) (dC : Nat → ClassId) (dI : Nat → Nat → Nat) (k0 : Int32) (sz : Nat) : Met l yX10_within vX10_within_1 ({ frames := 0, cells := 0, slots := 0, locals := 0 }) (PC (dC, dI) [.int k0, .int 0, .int 9] sz [] []) (va_Qi (S := Unit) (fun (r : Int32) _ => True) (fun _ t => BC (dC, dI) (va_A [] sz) [] [] t) (va_A [] sz)) 0 0 (va_A [] sz) := by
  refine Met.ofW (cc := cX10_within) (maxL := 3) (ret := (some .boolean)) (by decide) rfl ?_
  intro p e s m args below meth c s₁ B hml hv
  obtain ⟨rfl, hsz, hP, hK, hD0, hN⟩ := hv
  have hx := B.exec
  have hb := B.bytes
  have hr := B.returns
  have hts := atoms_spec (ws := vX10_within_1) B.pre
  have hown : s.vm.findClass RX10 = some m.cls := findClass_of_methodNamed B.named
  have hlocks := B.notSynchronized
  subst hsz
  have hD := hD0.self (sz := s.heap.size)
  generalize hAe : va_A [] s.heap.size = A at hD ⊢
  have hA : ∀ q : Nat, s.heap.size ≤ q → A q := fun q h => by rw [← hAe]; exact Or.inr h
  have hS : va_S A s.heap s.heap [] := va_S.rf
  have hP : va_P (dC, dI) vwCl [] s.heap := hP
  have hl := lv_entry ([.int k0, .int 0, .int 9]) (n := 3) (Nat.le_of_ble_eq_true rfl)
  rw [lg_entry_eq]
  generalize (lg_sl ([.int k0, .int 0, .int 9]) ++ List.replicate (3 - (lg_sl ([.int k0, .int 0, .int 9])).length) Slot.unset).toArray = ls at hl ⊢
  have hl : lv_has ls 3 [(0, .int k0), (1, .int 0), (2, .int 9)] := hl
  refine lv_iload_n hx hb dX10_within_0 rfl (lv_at hl 0 rfl) ?_
  refine lv_iload_n hx hb dX10_within_1 rfl (lv_at hl 1 rfl) ?_
  refine lv_icmp_lt (tgt := 14) hx hb dX10_within_2 (by decide) (fun c1 => ?_) (fun c1 => ?_)
  · refine lv_iconst (v := 0) hx hb dX10_within_14 (by decide) ?_
    have hP9 := hP.sub (ws' := []) [] rfl
    have hD9 := hD.sub (ws' := []) [] (by decide) rfl
    have hK9 := hK.sub (tys' := []) [] rfl
    exact W.zret (v := 0) hx hb hr rfl (fun t ht hW => ⟨⟨0, (), rfl, trivial, by rw [ht]; exact hP9, va_K.moved hW.alike hK9, hD9⟩, hS.F ht⟩) hS.2.2 dX10_within_15
  · refine lv_iload_n hx hb dX10_within_5 rfl (lv_at hl 0 rfl) ?_
    refine lv_iload_n hx hb dX10_within_6 rfl (lv_at hl 2 rfl) ?_
    refine lv_icmp_gt (tgt := 14) hx hb dX10_within_7 (by decide) (fun c2 => ?_) (fun c2 => ?_)
    · refine lv_iconst (v := 0) hx hb dX10_within_14 (by decide) ?_
      have hP9 := hP.sub (ws' := []) [] rfl
      have hD9 := hD.sub (ws' := []) [] (by decide) rfl
      have hK9 := hK.sub (tys' := []) [] rfl
      exact W.zret (v := 0) hx hb hr rfl (fun t ht hW => ⟨⟨0, (), rfl, trivial, by rw [ht]; exact hP9, va_K.moved hW.alike hK9, hD9⟩, hS.F ht⟩) hS.2.2 dX10_within_15
    · refine lv_iconst (v := 1) hx hb dX10_within_10 (by decide) ?_
      refine lv_goto (tgt := 15) hx hb dX10_within_11 (by decide) ?_
      have hP9 := hP.sub (ws' := []) [] rfl
      have hD9 := hD.sub (ws' := []) [] (by decide) rfl
      have hK9 := hK.sub (tys' := []) [] rfl
      exact W.zret (v := 1) hx hb hr rfl (fun t ht hW => ⟨⟨1, (), rfl, trivial, by rw [ht]; exact hP9, va_K.moved hW.alike hK9, hD9⟩, hS.F ht⟩) hS.2.2 dX10_within_15
def vX10_refused_3 : List Cond := .code yX10_refused cX10_refused 2 (some .boolean) :: ([.fieldLink RX10 61 "HookPier" "troubleNow" "I"] ++ wsX100)
theorem iX10_refused_3_X10 : ∀ w ∈ wsX100, w ∈ vX10_refused_3 := fun _ h => List.mem_cons_of_mem _ (List.mem_append_right _ h)
set_option maxHeartbeats 1000000 in
set_option maxRecDepth 100000 in
theorem kX10_refused_3 (l : Launch) (dC : Nat → ClassId) (dI : Nat → Nat → Nat) (a0 : Nat) (g1 : Value) (g2 : Value) (g3 : Value) (g4 : Value) (g5 : Value) (g6 : Value) (g7 : Value) (g8 : Value) (g9 : Value) (g10 : Value) (sz : Nat) : Met l yX10_refused vX10_refused_3 ({ frames := 0, cells := 0, slots := 0, locals := 0 }) (PC (dC, dI) [.ref a0, .int 1] sz [(a0, .inr (7, [g1, g2, g3, g4, g5, g6, g7, g8, g9, g10]))] []) (va_Qi (S := Unit) (fun (r : Int32) _ => r = 1) (fun _ t => BC (dC, dI) (va_A [(a0, .inr (7, [g1, g2, g3, g4, g5, g6, g7, g8, g9, g10]))] sz) [(a0, .inr (7, [g1, g2, g3, g4, g5, g6, g7, g8, .int 1, g10]))] [] t) (va_A [(a0, .inr (7, [g1, g2, g3, g4, g5, g6, g7, g8, g9, g10]))] sz)) 0 0 (va_A [(a0, .inr (7, [g1, g2, g3, g4, g5, g6, g7, g8, g9, g10]))] sz) := by
  refine Met.ofW (cc := cX10_refused) (maxL := 2) (ret := (some .boolean)) (by decide) rfl ?_
  intro p e s m args below meth c s₁ B hml hv
  obtain ⟨rfl, hsz, hP, hK, hD0, hN⟩ := hv
  have hx := B.exec
  have hb := B.bytes
  have hr := B.returns
  have hts := atoms_spec (ws := vX10_refused_3) B.pre
  have hown : s.vm.findClass RX10 = some m.cls := findClass_of_methodNamed B.named
  have hlocks := B.notSynchronized
  subst hsz
  have hD := hD0.self (sz := s.heap.size)
  generalize hAe : va_A [(a0, .inr (7, [g1, g2, g3, g4, g5, g6, g7, g8, g9, g10]))] s.heap.size = A at hD ⊢
  have hA : ∀ q : Nat, s.heap.size ≤ q → A q := fun q h => by rw [← hAe]; exact Or.inr h
  have hS : va_S A s.heap s.heap [] := va_S.rf
  have hP : va_P (dC, dI) vwCl [(a0, .inr (7, [g1, g2, g3, g4, g5, g6, g7, g8, g9, g10]))] s.heap := hP
  have hl := lv_entry ([.ref a0, .int 1]) (n := 2) (Nat.le_of_ble_eq_true rfl)
  rw [lg_entry_eq]
  generalize (lg_sl ([.ref a0, .int 1]) ++ List.replicate (2 - (lg_sl ([.ref a0, .int 1])).length) Slot.unset).toArray = ls at hl ⊢
  have hl : lv_has ls 2 [(0, .ref a0), (1, .int 1)] := hl
  refine lv_aload_n hx hb dX10_refused_0 rfl (lv_at hl 0 rfl) ?_
  refine lv_iload_n hx hb dX10_refused_1 rfl (lv_at hl 1 rfl) ?_
  refine va_put (D := (dC, dI)) (ci := 7) (v := .int 1) (ty := .int) (C := RX10) (T := TX10) (N := 10) hx hb hts iX10_refused_3_X10 tyX10 tyX10_ok nmX10 hown hK hP hD hS 0 rfl rfl 8 (by decide) (hts (.fieldLink RX10 61 "HookPier" "troubleNow" "I") (List.mem_of_getElem? (i := 1) rfl)) (fun _ h9 => h9) rfl (by decide +kernel) rfl rfl (Nat.le_of_ble_eq_true rfl) dX10_refused_2 (fun H locs hP hD hS => ?_)
  have hP : va_P (dC, dI) vwCl [(a0, .inr (7, [g1, g2, g3, g4, g5, g6, g7, g8, .int 1, g10]))] H := hP
  have hD : va_D A [(a0, .inr (7, [g1, g2, g3, g4, g5, g6, g7, g8, .int 1, g10]))] := hD
  refine lv_iload_n hx hb dX10_refused_5 rfl (lv_at hl 1 rfl) ?_
  refine lv_if_eq (tgt := 13) hx hb dX10_refused_6 (by decide) (fun c1 => absurd c1 (by decide)) (fun _ => ?_)
  refine lv_iconst (v := 1) hx hb dX10_refused_9 (by decide) ?_
  refine lv_goto (tgt := 14) hx hb dX10_refused_10 (by decide) ?_
  have hP9 := hP.sub (ws' := [(a0, .inr (7, [g1, g2, g3, g4, g5, g6, g7, g8, .int 1, g10]))]) [0] rfl
  have hD9 := hD.sub (ws' := [(a0, .inr (7, [g1, g2, g3, g4, g5, g6, g7, g8, .int 1, g10]))]) [0] (by decide) rfl
  have hK9 := hK.sub (tys' := []) [] rfl
  exact W.zret (v := 1) hx hb hr rfl (fun t ht hW => ⟨⟨1, (), rfl, rfl, by rw [ht]; exact hP9, va_K.moved hW.alike hK9, hD9⟩, hS.F ht⟩) hS.2.2 dX10_refused_14
def vX10_within_2 : List Cond := .code yX10_within cX10_within 3 (some .boolean) :: ([])
set_option maxHeartbeats 1000000 in
set_option maxRecDepth 100000 in
theorem kX10_within_2 (l : Launch) (dC : Nat → ClassId) (dI : Nat → Nat → Nat) (k0 : Int32) (sz : Nat) : Met l yX10_within vX10_within_2 ({ frames := 0, cells := 0, slots := 0, locals := 0 }) (PC (dC, dI) [.int k0, .int 0, .int (-1)] sz [] []) (va_Qi (S := Unit) (fun (r : Int32) _ => r = 0) (fun _ t => BC (dC, dI) (va_A [] sz) [] [] t) (va_A [] sz)) 0 0 (va_A [] sz) := by
  refine Met.ofW (cc := cX10_within) (maxL := 3) (ret := (some .boolean)) (by decide) rfl ?_
  intro p e s m args below meth c s₁ B hml hv
  obtain ⟨rfl, hsz, hP, hK, hD0, hN⟩ := hv
  have hx := B.exec
  have hb := B.bytes
  have hr := B.returns
  have hts := atoms_spec (ws := vX10_within_2) B.pre
  have hown : s.vm.findClass RX10 = some m.cls := findClass_of_methodNamed B.named
  have hlocks := B.notSynchronized
  subst hsz
  have hD := hD0.self (sz := s.heap.size)
  generalize hAe : va_A [] s.heap.size = A at hD ⊢
  have hA : ∀ q : Nat, s.heap.size ≤ q → A q := fun q h => by rw [← hAe]; exact Or.inr h
  have hS : va_S A s.heap s.heap [] := va_S.rf
  have hP : va_P (dC, dI) vwCl [] s.heap := hP
  have hl := lv_entry ([.int k0, .int 0, .int (-1)]) (n := 3) (Nat.le_of_ble_eq_true rfl)
  rw [lg_entry_eq]
  generalize (lg_sl ([.int k0, .int 0, .int (-1)]) ++ List.replicate (3 - (lg_sl ([.int k0, .int 0, .int (-1)])).length) Slot.unset).toArray = ls at hl ⊢
  have hl : lv_has ls 3 [(0, .int k0), (1, .int 0), (2, .int (-1))] := hl
  refine lv_iload_n hx hb dX10_within_0 rfl (lv_at hl 0 rfl) ?_
  refine lv_iload_n hx hb dX10_within_1 rfl (lv_at hl 1 rfl) ?_
  refine lv_icmp_lt (tgt := 14) hx hb dX10_within_2 (by decide) (fun c1 => ?_) (fun c1 => ?_)
  · refine lv_iconst (v := 0) hx hb dX10_within_14 (by decide) ?_
    have hP9 := hP.sub (ws' := []) [] rfl
    have hD9 := hD.sub (ws' := []) [] (by decide) rfl
    have hK9 := hK.sub (tys' := []) [] rfl
    exact W.zret (v := 0) hx hb hr rfl (fun t ht hW => ⟨⟨0, (), rfl, rfl, by rw [ht]; exact hP9, va_K.moved hW.alike hK9, hD9⟩, hS.F ht⟩) hS.2.2 dX10_within_15
  · refine lv_iload_n hx hb dX10_within_5 rfl (lv_at hl 0 rfl) ?_
    refine lv_iload_n hx hb dX10_within_6 rfl (lv_at hl 2 rfl) ?_
    refine lv_icmp_gt (tgt := 14) hx hb dX10_within_7 (by decide) (fun _ => ?_) (fun c2 => False.elim (by simp only [fa_lt, fa_le, fa_eq, ltv_m1, ltv_0] at c1 c2; omega))
    refine lv_iconst (v := 0) hx hb dX10_within_14 (by decide) ?_
    have hP9 := hP.sub (ws' := []) [] rfl
    have hD9 := hD.sub (ws' := []) [] (by decide) rfl
    have hK9 := hK.sub (tys' := []) [] rfl
    exact W.zret (v := 0) hx hb hr rfl (fun t ht hW => ⟨⟨0, (), rfl, rfl, by rw [ht]; exact hP9, va_K.moved hW.alike hK9, hD9⟩, hS.F ht⟩) hS.2.2 dX10_within_15
theorem dX6_hasAnswer_0 : decode cX6_hasAnswer 0 = .ok (.iload_n 1, 1) := by decide +kernel
theorem dX6_hasAnswer_1 : decode cX6_hasAnswer 1 = .ok (.iconst 0, 1) := by decide +kernel
theorem dX6_hasAnswer_11 : decode cX6_hasAnswer 11 = .ok (.ireturn, 1) := by decide +kernel
theorem dX6_hasAnswer_2 : decode cX6_hasAnswer 2 = .ok (.aload_n 0, 1) := by decide +kernel
theorem dX6_hasAnswer_3 : decode cX6_hasAnswer 3 = .ok (.getfield 30, 3) := by decide +kernel
theorem dX6_hasAnswer_6 : decode cX6_hasAnswer 6 = .ok (.iconst 1, 1) := by decide +kernel
theorem dX6_hasAnswer_7 : decode cX6_hasAnswer 7 = .ok (.isub, 1) := by decide +kernel
theorem dX6_hasAnswer_8 : decode cX6_hasAnswer 8 = .ok (.invokestatic 68, 3) := by decide +kernel
def vX6_hasAnswer : List Cond := .code yX6_hasAnswer cX6_hasAnswer 2 (some .boolean) :: ([.fieldLink RX6 30 "HookPier$Plan" "answers" "I", .code yX10_within cX10_within 3 (some .boolean), .initialized RX10, .static yX10_within] ++ wsX60)
theorem iX6_hasAnswer_X6 : ∀ w ∈ wsX60, w ∈ vX6_hasAnswer := fun _ h => List.mem_cons_of_mem _ (List.mem_append_right _ h)
set_option maxRecDepth 20000 in
theorem gX6_hasAnswer_0 : GoodIn vX6_hasAnswer vX10_within_2 := (goodIn_r (.code yX10_within cX10_within 3 (some .boolean) :: []) [2] (by decide +kernel) (by decide +kernel) : GoodIn vX6_hasAnswer (.code yX10_within cX10_within 3 (some .boolean) :: []))
set_option maxHeartbeats 1000000 in
set_option maxRecDepth 100000 in
theorem kX6_hasAnswer (l : Launch) (dC : Nat → ClassId) (dI : Nat → Nat → Nat) (a0 : Nat) (k1 : Int32) (g2 : Value) (g3 : Value) (g4 : Value) (g5 : Value) (g6 : Value) (g7 : Value) (g8 : Value) (g9 : Value) (g10 : Value) (g11 : Value) (g12 : Value) (g13 : Value) (g14 : Value) (g15 : Value) (g16 : Value) (g17 : Value) (g18 : Value) (sz : Nat) : Met l yX6_hasAnswer vX6_hasAnswer ({ frames := 1, cells := 0, slots := 0, locals := 22 }) (PC (dC, dI) [.ref a0, .int k1] sz [(a0, .inr (4, [g2, g3, g4, g5, g6, g7, .int 0, g8, g9, g10, g11, g12, g13, g14, g15, g16, g17, g18]))] []) (va_Qi (S := Unit) (fun (r : Int32) _ => r = 0) (fun _ t => BC (dC, dI) (va_A [(a0, .inr (4, [g2, g3, g4, g5, g6, g7, .int 0, g8, g9, g10, g11, g12, g13, g14, g15, g16, g17, g18]))] sz) [(a0, .inr (4, [g2, g3, g4, g5, g6, g7, .int 0, g8, g9, g10, g11, g12, g13, g14, g15, g16, g17, g18]))] [] t) (va_A [(a0, .inr (4, [g2, g3, g4, g5, g6, g7, .int 0, g8, g9, g10, g11, g12, g13, g14, g15, g16, g17, g18]))] sz)) 0 0 (va_A [(a0, .inr (4, [g2, g3, g4, g5, g6, g7, .int 0, g8, g9, g10, g11, g12, g13, g14, g15, g16, g17, g18]))] sz) := by
  refine Met.ofW (cc := cX6_hasAnswer) (maxL := 2) (ret := (some .boolean)) (by decide) rfl ?_
  intro p e s m args below meth c s₁ B hml hv
  obtain ⟨rfl, hsz, hP, hK, hD0, hN⟩ := hv
  have hx := B.exec
  have hb := B.bytes
  have hr := B.returns
  have hts := atoms_spec (ws := vX6_hasAnswer) B.pre
  have hown : s.vm.findClass RX6 = some m.cls := findClass_of_methodNamed B.named
  have hlocks := B.notSynchronized
  subst hsz
  have hD := hD0.self (sz := s.heap.size)
  generalize hAe : va_A [(a0, .inr (4, [g2, g3, g4, g5, g6, g7, .int 0, g8, g9, g10, g11, g12, g13, g14, g15, g16, g17, g18]))] s.heap.size = A at hD ⊢
  have hA : ∀ q : Nat, s.heap.size ≤ q → A q := fun q h => by rw [← hAe]; exact Or.inr h
  have hS : va_S A s.heap s.heap [] := va_S.rf
  have hP : va_P (dC, dI) vwCl [(a0, .inr (4, [g2, g3, g4, g5, g6, g7, .int 0, g8, g9, g10, g11, g12, g13, g14, g15, g16, g17, g18]))] s.heap := hP
  have hl := lv_entry ([.ref a0, .int k1]) (n := 2) (Nat.le_of_ble_eq_true rfl)
  rw [lg_entry_eq]
  generalize (lg_sl ([.ref a0, .int k1]) ++ List.replicate (2 - (lg_sl ([.ref a0, .int k1])).length) Slot.unset).toArray = ls at hl ⊢
  have hl : lv_has ls 2 [(0, .ref a0), (1, .int k1)] := hl
  refine lv_iload_n hx hb dX6_hasAnswer_0 rfl (lv_at hl 1 rfl) ?_
  refine lv_iconst (v := 0) hx hb dX6_hasAnswer_1 (by decide) ?_
  refine lv_aload_n hx hb dX6_hasAnswer_2 rfl (lv_at hl 0 rfl) ?_
  refine va_get (D := (dC, dI)) (ci := 4) (v := .int 0) (C := RX6) (T := TX6) (N := 18) hx hb hts iX6_hasAnswer_X6 hown hK hP 0 rfl rfl 6 (by decide) (hts (.fieldLink RX6 30 "HookPier$Plan" "answers" "I") (List.mem_of_getElem? (i := 1) rfl)) (fun _ h9 => h9) rfl dX6_hasAnswer_3 ?_
  refine lv_iconst (v := 1) hx hb dX6_hasAnswer_6 (by decide) ?_
  refine lv_isub hx hb dX6_hasAnswer_7 ?_
  refine lv_topi (fun z1 ez1 => ?_)
  obtain rfl : z1 = (-1) := ez1.trans (by decide)
  refine cl_i (wc := []) (wr := [(a0, .inr (4, [g2, g3, g4, g5, g6, g7, .int 0, g8, g9, g10, g11, g12, g13, g14, g15, g16, g17, g18]))]) (va_runSN (As := [.int k1, .int 0, .int (-1)]) (rest := []) ⟨hx, hb, hml, hown, hts⟩ (kX10_within_2 l dC dI k1 s.heap.size) ⟨va_cnB 3 hts gX6_hasAnswer_0 rfl rfl rfl (hN.1 (.methodLinkNest RX6 68 yX10_within "HookPier") (List.mem_of_getElem? (i := 10) rfl)) (hts (.initialized RX10) (List.mem_of_getElem? (i := 3) rfl)) (by decide +kernel) ⟨Nat.le_of_ble_eq_true rfl, Nat.le_of_ble_eq_true rfl⟩, (hts (.static yX10_within) (List.mem_of_getElem? (i := 4) rfl)), trivial⟩ (PS (hP.sub (ws' := []) [] rfl) (hK.sub (tys' := []) [] rfl) (hD.sub (ws' := []) [] (by decide) rfl) hN) rfl rfl hl.1 rfl (lv_room (Nat.le_of_ble_eq_true rfl)) dX6_hasAnswer_8 ⟨Nat.le_of_ble_eq_true rfl, Nat.le_of_ble_eq_true rfl⟩) hP hD hK hS hA [] [0] rfl rfl (by decide) (by decide) (fun z2 _u H locs hw hP hD hK hS => ?_)
  have hP : va_P (dC, dI) vwCl [(a0, .inr (4, [g2, g3, g4, g5, g6, g7, .int 0, g8, g9, g10, g11, g12, g13, g14, g15, g16, g17, g18]))] H := hP
  have hD : va_D A [(a0, .inr (4, [g2, g3, g4, g5, g6, g7, .int 0, g8, g9, g10, g11, g12, g13, g14, g15, g16, g17, g18]))] := hD
  have hK : va_K (dC, dI) vwCl [] s := hK
  obtain rfl : z2 = 0 := hw
  have hP9 := hP.sub (ws' := [(a0, .inr (4, [g2, g3, g4, g5, g6, g7, .int 0, g8, g9, g10, g11, g12, g13, g14, g15, g16, g17, g18]))]) [0] rfl
  have hD9 := hD.sub (ws' := [(a0, .inr (4, [g2, g3, g4, g5, g6, g7, .int 0, g8, g9, g10, g11, g12, g13, g14, g15, g16, g17, g18]))]) [0] (by decide) rfl
  have hK9 := hK.sub (tys' := []) [] rfl
  exact W.zret (v := 0) hx hb hr rfl (fun t ht hW => ⟨⟨0, (), rfl, rfl, by rw [ht]; exact hP9, va_K.moved hW.alike hK9, hD9⟩, hS.F ht⟩) hS.2.2 dX6_hasAnswer_11
theorem dX10_answerTrouble_0 : decode cX10_answerTrouble 0 = .ok (.aload_n 0, 1) := by decide +kernel
theorem dX10_answerTrouble_1 : decode cX10_answerTrouble 1 = .ok (.getfield 10, 3) := by decide +kernel
theorem dX10_answerTrouble_15 : decode cX10_answerTrouble 15 = .ok (.iconst 1, 1) := by decide +kernel
theorem dX10_answerTrouble_16 : decode cX10_answerTrouble 16 = .ok (.ireturn, 1) := by decide +kernel
theorem dX10_answerTrouble_4 : decode cX10_answerTrouble 4 = .ok (.iload_n 1, 1) := by decide +kernel
theorem dX10_answerTrouble_5 : decode cX10_answerTrouble 5 = .ok (.invokevirtual 381, 3) := by decide +kernel
theorem dX10_answerTrouble_8 : decode cX10_answerTrouble 8 = .ok (.ifCond .eq 7, 3) := by decide +kernel
def vX10_answerTrouble : List Cond := .code yX10_answerTrouble cX10_answerTrouble 2 (some .int) :: ([.fieldLink RX10 10 "HookPier" "plan" "LHookPier$Plan;", .methodLink RX10 381 yX6_hasAnswer, .instanceMethod yX6_hasAnswer, .selects RX6 yX6_hasAnswer yX6_hasAnswer, .initialized RX6, .code yX6_hasAnswer cX6_hasAnswer 2 (some .boolean), .fieldLink RX6 30 "HookPier$Plan" "answers" "I", .code yX10_within cX10_within 3 (some .boolean), .initialized RX10, .static yX10_within] ++ wsX100 ++ wsX60)
theorem iX10_answerTrouble_X10 : ∀ w ∈ wsX100, w ∈ vX10_answerTrouble := fun _ h => List.mem_cons_of_mem _ (List.mem_append_left _ (List.mem_append_right _ h))
theorem iX10_answerTrouble_X6 : ∀ w ∈ wsX60, w ∈ vX10_answerTrouble := fun _ h => List.mem_cons_of_mem _ (List.mem_append_right _ h)
set_option maxRecDepth 20000 in
theorem gX10_answerTrouble_0 : GoodIn vX10_answerTrouble (wsV RX10 381 RX6 yX6_hasAnswer vX6_hasAnswer) := goodIn_app (goodIn_r [.methodLink RX10 381 yX6_hasAnswer, .instanceMethod yX6_hasAnswer, .selects RX6 yX6_hasAnswer yX6_hasAnswer, .initialized RX6] [2, 3, 4, 5] (by decide +kernel) (by decide +kernel)) (goodIn_ca (goodIn_r (.code yX6_hasAnswer cX6_hasAnswer 2 (some .boolean) :: [.fieldLink RX6 30 "HookPier$Plan" "answers" "I", .code yX10_within cX10_within 3 (some .boolean), .initialized RX10, .static yX10_within]) [6, 7, 8, 9, 10] (by decide +kernel) (by decide +kernel) : GoodIn vX10_answerTrouble (.code yX6_hasAnswer cX6_hasAnswer 2 (some .boolean) :: [.fieldLink RX6 30 "HookPier$Plan" "answers" "I", .code yX10_within cX10_within 3 (some .boolean), .initialized RX10, .static yX10_within])) (goodIn_sub iX10_answerTrouble_X6 (by decide +kernel)))
set_option maxHeartbeats 1000000 in
set_option maxRecDepth 100000 in
theorem kX10_answerTrouble (l : Launch) (dC : Nat → ClassId) (dI : Nat → Nat → Nat) (a0 : Nat) (k1 : Int32) (a2 : Nat) (g3 : Value) (g4 : Value) (g5 : Value) (g6 : Value) (g7 : Value) (g8 : Value) (g9 : Value) (g10 : Value) (g11 : Value) (g12 : Value) (g13 : Value) (g14 : Value) (g15 : Value) (g16 : Value) (g17 : Value) (g18 : Value) (g19 : Value) (g20 : Value) (g21 : Value) (g22 : Value) (g23 : Value) (g24 : Value) (g25 : Value) (g26 : Value) (g27 : Value) (g28 : Value) (sz : Nat) : Met l yX10_answerTrouble vX10_answerTrouble ({ frames := 2, cells := 0, slots := 0, locals := 43 }) (PC (dC, dI) [.ref a0, .int k1] sz [(a0, .inr (7, [.ref a2, g3, g4, g5, g6, g7, g8, g9, g10, g11])), (a2, .inr (4, [g12, g13, g14, g15, g16, g17, .int 0, g18, g19, g20, g21, g22, g23, g24, g25, g26, g27, g28]))] []) (va_Qi (S := Unit) (fun (r : Int32) _ => r = 1) (fun _ t => BC (dC, dI) (va_A [(a0, .inr (7, [.ref a2, g3, g4, g5, g6, g7, g8, g9, g10, g11])), (a2, .inr (4, [g12, g13, g14, g15, g16, g17, .int 0, g18, g19, g20, g21, g22, g23, g24, g25, g26, g27, g28]))] sz) [(a0, .inr (7, [.ref a2, g3, g4, g5, g6, g7, g8, g9, g10, g11])), (a2, .inr (4, [g12, g13, g14, g15, g16, g17, .int 0, g18, g19, g20, g21, g22, g23, g24, g25, g26, g27, g28]))] [] t) (va_A [(a0, .inr (7, [.ref a2, g3, g4, g5, g6, g7, g8, g9, g10, g11])), (a2, .inr (4, [g12, g13, g14, g15, g16, g17, .int 0, g18, g19, g20, g21, g22, g23, g24, g25, g26, g27, g28]))] sz)) 0 0 (va_A [(a0, .inr (7, [.ref a2, g3, g4, g5, g6, g7, g8, g9, g10, g11])), (a2, .inr (4, [g12, g13, g14, g15, g16, g17, .int 0, g18, g19, g20, g21, g22, g23, g24, g25, g26, g27, g28]))] sz) := by
  refine Met.ofW (cc := cX10_answerTrouble) (maxL := 2) (ret := (some .int)) (by decide) rfl ?_
  intro p e s m args below meth c s₁ B hml hv
  obtain ⟨rfl, hsz, hP, hK, hD0, hN⟩ := hv
  have hx := B.exec
  have hb := B.bytes
  have hr := B.returns
  have hts := atoms_spec (ws := vX10_answerTrouble) B.pre
  have hown : s.vm.findClass RX10 = some m.cls := findClass_of_methodNamed B.named
  have hlocks := B.notSynchronized
  subst hsz
  have hD := hD0.self (sz := s.heap.size)
  generalize hAe : va_A [(a0, .inr (7, [.ref a2, g3, g4, g5, g6, g7, g8, g9, g10, g11])), (a2, .inr (4, [g12, g13, g14, g15, g16, g17, .int 0, g18, g19, g20, g21, g22, g23, g24, g25, g26, g27, g28]))] s.heap.size = A at hD ⊢
  have hA : ∀ q : Nat, s.heap.size ≤ q → A q := fun q h => by rw [← hAe]; exact Or.inr h
  have hS : va_S A s.heap s.heap [] := va_S.rf
  have hP : va_P (dC, dI) vwCl [(a0, .inr (7, [.ref a2, g3, g4, g5, g6, g7, g8, g9, g10, g11])), (a2, .inr (4, [g12, g13, g14, g15, g16, g17, .int 0, g18, g19, g20, g21, g22, g23, g24, g25, g26, g27, g28]))] s.heap := hP
  have hl := lv_entry ([.ref a0, .int k1]) (n := 2) (Nat.le_of_ble_eq_true rfl)
  rw [lg_entry_eq]
  generalize (lg_sl ([.ref a0, .int k1]) ++ List.replicate (2 - (lg_sl ([.ref a0, .int k1])).length) Slot.unset).toArray = ls at hl ⊢
  have hl : lv_has ls 2 [(0, .ref a0), (1, .int k1)] := hl
  refine lv_aload_n hx hb dX10_answerTrouble_0 rfl (lv_at hl 0 rfl) ?_
  refine va_get (D := (dC, dI)) (ci := 7) (v := .ref a2) (C := RX10) (T := TX10) (N := 10) hx hb hts iX10_answerTrouble_X10 hown hK hP 0 rfl rfl 0 (by decide) (hts (.fieldLink RX10 10 "HookPier" "plan" "LHookPier$Plan;") (List.mem_of_getElem? (i := 1) rfl)) (fun _ h9 => h9) rfl dX10_answerTrouble_1 ?_
  refine lv_iload_n hx hb dX10_answerTrouble_4 rfl (lv_at hl 1 rfl) ?_
  refine cl_i (wc := [(a2, .inr (4, [g12, g13, g14, g15, g16, g17, .int 0, g18, g19, g20, g21, g22, g23, g24, g25, g26, g27, g28]))]) (wr := [(a0, .inr (7, [.ref a2, g3, g4, g5, g6, g7, g8, g9, g10, g11]))]) (va_runV (As := [.int k1]) (rest := []) ⟨hx, hb, hml, hown, hts⟩ (kX6_hasAnswer l dC dI a2 k1 (g12) (g13) (g14) (g15) (g16) (g17) (g18) (g19) (g20) (g21) (g22) (g23) (g24) (g25) (g26) (g27) (g28) s.heap.size) (cwV 1 hts gX10_answerTrouble_0 rfl rfl rfl (by decide +kernel) ⟨Nat.le_of_ble_eq_true rfl, Nat.le_of_ble_eq_true rfl⟩) (PV (hP.sub (ws' := [(a2, .inr (4, [g12, g13, g14, g15, g16, g17, .int 0, g18, g19, g20, g21, g22, g23, g24, g25, g26, g27, g28]))]) [1] rfl) (hK.sub (tys' := []) [] rfl) (hD.sub (ws' := [(a2, .inr (4, [g12, g13, g14, g15, g16, g17, .int 0, g18, g19, g20, g21, g22, g23, g24, g25, g26, g27, g28]))]) [1] (by decide) rfl) hN 0 rfl rfl) rfl rfl hl.1 rfl (lv_room (Nat.le_of_ble_eq_true rfl)) dX10_answerTrouble_5 ⟨Nat.le_of_ble_eq_true rfl, Nat.le_of_ble_eq_true rfl⟩) hP hD hK hS hA [1] [0] rfl rfl (by decide) (by decide) (fun z1 _u H locs hw hP hD hK hS => ?_)
  have hP : va_P (dC, dI) vwCl [(a0, .inr (7, [.ref a2, g3, g4, g5, g6, g7, g8, g9, g10, g11])), (a2, .inr (4, [g12, g13, g14, g15, g16, g17, .int 0, g18, g19, g20, g21, g22, g23, g24, g25, g26, g27, g28]))] H := hP
  have hD : va_D A [(a0, .inr (7, [.ref a2, g3, g4, g5, g6, g7, g8, g9, g10, g11])), (a2, .inr (4, [g12, g13, g14, g15, g16, g17, .int 0, g18, g19, g20, g21, g22, g23, g24, g25, g26, g27, g28]))] := hD
  have hK : va_K (dC, dI) vwCl [] s := hK
  obtain rfl : z1 = 0 := hw
  refine lv_if_eq (tgt := 15) hx hb dX10_answerTrouble_8 (by decide) (fun _ => ?_) (fun c2 => absurd c2 (by decide))
  refine lv_iconst (v := 1) hx hb dX10_answerTrouble_15 (by decide) ?_
  have hP9 := hP.sub (ws' := [(a0, .inr (7, [.ref a2, g3, g4, g5, g6, g7, g8, g9, g10, g11])), (a2, .inr (4, [g12, g13, g14, g15, g16, g17, .int 0, g18, g19, g20, g21, g22, g23, g24, g25, g26, g27, g28]))]) [0, 1] rfl
  have hD9 := hD.sub (ws' := [(a0, .inr (7, [.ref a2, g3, g4, g5, g6, g7, g8, g9, g10, g11])), (a2, .inr (4, [g12, g13, g14, g15, g16, g17, .int 0, g18, g19, g20, g21, g22, g23, g24, g25, g26, g27, g28]))]) [0, 1] (by decide) rfl
  have hK9 := hK.sub (tys' := []) [] rfl
  exact W.iret (v := 1) hx hb hr (fun t ht hW => ⟨⟨1, (), rfl, rfl, by rw [ht]; exact hP9, va_K.moved hW.alike hK9, hD9⟩, hS.F ht⟩) hS.2.2 dX10_answerTrouble_16
theorem dX10_answer_0 : decode cX10_answer 0 = .ok (.aload_n 0, 1) := by decide +kernel
theorem dX10_answer_1 : decode cX10_answer 1 = .ok (.iload_n 2, 1) := by decide +kernel
theorem dX10_answer_11 : decode cX10_answer 11 = .ok (.aload_n 0, 1) := by decide +kernel
theorem dX10_answer_12 : decode cX10_answer 12 = .ok (.iload_n 1, 1) := by decide +kernel
theorem dX10_answer_13 : decode cX10_answer 13 = .ok (.invokevirtual 102, 3) := by decide +kernel
theorem dX10_answer_16 : decode cX10_answer 16 = .ok (.goto 4, 3) := by decide +kernel
theorem dX10_answer_19 : decode cX10_answer 19 = .ok (.iconst 1, 1) := by decide +kernel
theorem dX10_answer_2 : decode cX10_answer 2 = .ok (.iconst 0, 1) := by decide +kernel
theorem dX10_answer_20 : decode cX10_answer 20 = .ok (.invokevirtual 79, 3) := by decide +kernel
theorem dX10_answer_23 : decode cX10_answer 23 = .ok (.ifCond .eq 5, 3) := by decide +kernel
theorem dX10_answer_26 : decode cX10_answer 26 = .ok (.iconst (-1), 1) := by decide +kernel
theorem dX10_answer_27 : decode cX10_answer 27 = .ok (.ireturn, 1) := by decide +kernel
theorem dX10_answer_3 : decode cX10_answer 3 = .ok (.bipush 9, 2) := by decide +kernel
theorem dX10_answer_5 : decode cX10_answer 5 = .ok (.invokestatic 75, 3) := by decide +kernel
theorem dX10_answer_8 : decode cX10_answer 8 = .ok (.ifCond .eq 11, 3) := by decide +kernel
def vX10_answer : List Cond := .code yX10_answer cX10_answer 3 (some .int) :: ([.methodLink RX10 75 yX10_within, .static yX10_within, .initialized RX10, .code yX10_within cX10_within 3 (some .boolean), .methodLink RX10 79 yX10_refused, .instanceMethod yX10_refused, .selects RX10 yX10_refused yX10_refused, .code yX10_refused cX10_refused 2 (some .boolean), .fieldLink RX10 61 "HookPier" "troubleNow" "I", .methodLink RX10 102 yX10_answerTrouble, .instanceMethod yX10_answerTrouble, .selects RX10 yX10_answerTrouble yX10_answerTrouble, .code yX10_answerTrouble cX10_answerTrouble 2 (some .int), .fieldLink RX10 10 "HookPier" "plan" "LHookPier$Plan;", .methodLink RX10 381 yX6_hasAnswer, .instanceMethod yX6_hasAnswer, .selects RX6 yX6_hasAnswer yX6_hasAnswer, .initialized RX6, .code yX6_hasAnswer cX6_hasAnswer 2 (some .boolean), .fieldLink RX6 30 "HookPier$Plan" "answers" "I"] ++ wsX100 ++ wsX60)
theorem iX10_answer_X10 : ∀ w ∈ wsX100, w ∈ vX10_answer := fun _ h => List.mem_cons_of_mem _ (List.mem_append_left _ (List.mem_append_right _ h))
theorem iX10_answer_X6 : ∀ w ∈ wsX60, w ∈ vX10_answer := fun _ h => List.mem_cons_of_mem _ (List.mem_append_right _ h)
set_option maxRecDepth 20000 in
theorem gX10_answer_0 : GoodIn vX10_answer (va_wsS RX10 75 yX10_within vX10_within_1) := goodIn_app (goodIn_r [.methodLink RX10 75 yX10_within, .static yX10_within, .initialized RX10] [1, 2, 3] (by decide +kernel) (by decide +kernel)) (goodIn_r (.code yX10_within cX10_within 3 (some .boolean) :: []) [4] (by decide +kernel) (by decide +kernel) : GoodIn vX10_answer (.code yX10_within cX10_within 3 (some .boolean) :: []))
set_option maxRecDepth 20000 in
theorem gX10_answer_1 : GoodIn vX10_answer (wsV RX10 79 RX10 yX10_refused vX10_refused_3) := goodIn_app (goodIn_r [.methodLink RX10 79 yX10_refused, .instanceMethod yX10_refused, .selects RX10 yX10_refused yX10_refused, .initialized RX10] [5, 6, 7, 3] (by decide +kernel) (by decide +kernel)) (goodIn_ca (goodIn_r (.code yX10_refused cX10_refused 2 (some .boolean) :: [.fieldLink RX10 61 "HookPier" "troubleNow" "I"]) [8, 9] (by decide +kernel) (by decide +kernel) : GoodIn vX10_answer (.code yX10_refused cX10_refused 2 (some .boolean) :: [.fieldLink RX10 61 "HookPier" "troubleNow" "I"])) (goodIn_sub iX10_answer_X10 (by decide +kernel)))
set_option maxRecDepth 20000 in
theorem gX10_answer_2 : GoodIn vX10_answer (wsV RX10 102 RX10 yX10_answerTrouble vX10_answerTrouble) := goodIn_app (goodIn_r [.methodLink RX10 102 yX10_answerTrouble, .instanceMethod yX10_answerTrouble, .selects RX10 yX10_answerTrouble yX10_answerTrouble, .initialized RX10] [10, 11, 12, 3] (by decide +kernel) (by decide +kernel)) (goodIn_ca (goodIn_ca (goodIn_r (.code yX10_answerTrouble cX10_answerTrouble 2 (some .int) :: [.fieldLink RX10 10 "HookPier" "plan" "LHookPier$Plan;", .methodLink RX10 381 yX6_hasAnswer, .instanceMethod yX6_hasAnswer, .selects RX6 yX6_hasAnswer yX6_hasAnswer, .initialized RX6, .code yX6_hasAnswer cX6_hasAnswer 2 (some .boolean), .fieldLink RX6 30 "HookPier$Plan" "answers" "I", .code yX10_within cX10_within 3 (some .boolean), .initialized RX10, .static yX10_within]) [13, 14, 15, 16, 17, 18, 19, 20, 4, 3, 2] (by decide +kernel) (by decide +kernel) : GoodIn vX10_answer (.code yX10_answerTrouble cX10_answerTrouble 2 (some .int) :: [.fieldLink RX10 10 "HookPier" "plan" "LHookPier$Plan;", .methodLink RX10 381 yX6_hasAnswer, .instanceMethod yX6_hasAnswer, .selects RX6 yX6_hasAnswer yX6_hasAnswer, .initialized RX6, .code yX6_hasAnswer cX6_hasAnswer 2 (some .boolean), .fieldLink RX6 30 "HookPier$Plan" "answers" "I", .code yX10_within cX10_within 3 (some .boolean), .initialized RX10, .static yX10_within])) (goodIn_sub iX10_answer_X10 (by decide +kernel))) (goodIn_sub iX10_answer_X6 (by decide +kernel)))
set_option maxHeartbeats 1000000 in
set_option maxRecDepth 100000 in
theorem kX10_answer (l : Launch) (dC : Nat → ClassId) (dI : Nat → Nat → Nat) (a0 : Nat) (k1 : Int32) (k2 : Int32) (a3 : Nat) (g4 : Value) (g5 : Value) (g6 : Value) (g7 : Value) (g8 : Value) (g9 : Value) (g10 : Value) (g11 : Value) (g12 : Value) (g13 : Value) (g14 : Value) (g15 : Value) (g16 : Value) (g17 : Value) (g18 : Value) (g19 : Value) (g20 : Value) (g21 : Value) (g22 : Value) (g23 : Value) (g24 : Value) (g25 : Value) (g26 : Value) (g27 : Value) (g28 : Value) (g29 : Value) (sz : Nat) : Met l yX10_answer vX10_answer ({ frames := 3, cells := 0, slots := 0, locals := 64 }) (PC (dC, dI) [.ref a0, .int k1, .int k2] sz [(a0, .inr (7, [.ref a3, g4, g5, g6, g7, g8, g9, g10, g11, g12])), (a3, .inr (4, [g13, g14, g15, g16, g17, g18, .int 0, g19, g20, g21, g22, g23, g24, g25, g26, g27, g28, g29]))] []) (va_Qi (S := Unit) (fun (r : Int32) _ => r = (-1)) (fun _ t => BC (dC, dI) (va_A [(a0, .inr (7, [.ref a3, g4, g5, g6, g7, g8, g9, g10, g11, g12])), (a3, .inr (4, [g13, g14, g15, g16, g17, g18, .int 0, g19, g20, g21, g22, g23, g24, g25, g26, g27, g28, g29]))] sz) [] [] t) (va_A [(a0, .inr (7, [.ref a3, g4, g5, g6, g7, g8, g9, g10, g11, g12])), (a3, .inr (4, [g13, g14, g15, g16, g17, g18, .int 0, g19, g20, g21, g22, g23, g24, g25, g26, g27, g28, g29]))] sz)) 0 0 (va_A [(a0, .inr (7, [.ref a3, g4, g5, g6, g7, g8, g9, g10, g11, g12])), (a3, .inr (4, [g13, g14, g15, g16, g17, g18, .int 0, g19, g20, g21, g22, g23, g24, g25, g26, g27, g28, g29]))] sz) := by
  refine Met.ofW (cc := cX10_answer) (maxL := 3) (ret := (some .int)) (by decide) rfl ?_
  intro p e s m args below meth c s₁ B hml hv
  obtain ⟨rfl, hsz, hP, hK, hD0, hN⟩ := hv
  have hx := B.exec
  have hb := B.bytes
  have hr := B.returns
  have hts := atoms_spec (ws := vX10_answer) B.pre
  have hown : s.vm.findClass RX10 = some m.cls := findClass_of_methodNamed B.named
  have hlocks := B.notSynchronized
  subst hsz
  have hD := hD0.self (sz := s.heap.size)
  generalize hAe : va_A [(a0, .inr (7, [.ref a3, g4, g5, g6, g7, g8, g9, g10, g11, g12])), (a3, .inr (4, [g13, g14, g15, g16, g17, g18, .int 0, g19, g20, g21, g22, g23, g24, g25, g26, g27, g28, g29]))] s.heap.size = A at hD ⊢
  have hA : ∀ q : Nat, s.heap.size ≤ q → A q := fun q h => by rw [← hAe]; exact Or.inr h
  have hS : va_S A s.heap s.heap [] := va_S.rf
  have hP : va_P (dC, dI) vwCl [(a0, .inr (7, [.ref a3, g4, g5, g6, g7, g8, g9, g10, g11, g12])), (a3, .inr (4, [g13, g14, g15, g16, g17, g18, .int 0, g19, g20, g21, g22, g23, g24, g25, g26, g27, g28, g29]))] s.heap := hP
  have hl := lv_entry ([.ref a0, .int k1, .int k2]) (n := 3) (Nat.le_of_ble_eq_true rfl)
  rw [lg_entry_eq]
  generalize (lg_sl ([.ref a0, .int k1, .int k2]) ++ List.replicate (3 - (lg_sl ([.ref a0, .int k1, .int k2])).length) Slot.unset).toArray = ls at hl ⊢
  have hl : lv_has ls 3 [(0, .ref a0), (1, .int k1), (2, .int k2)] := hl
  refine lv_aload_n hx hb dX10_answer_0 rfl (lv_at hl 0 rfl) ?_
  refine lv_iload_n hx hb dX10_answer_1 rfl (lv_at hl 2 rfl) ?_
  refine lv_iconst (v := 0) hx hb dX10_answer_2 (by decide) ?_
  refine lv_bipush (v := 9) hx hb dX10_answer_3 (by decide) ?_
  refine cl_i (wc := []) (wr := [(a0, .inr (7, [.ref a3, g4, g5, g6, g7, g8, g9, g10, g11, g12])), (a3, .inr (4, [g13, g14, g15, g16, g17, g18, .int 0, g19, g20, g21, g22, g23, g24, g25, g26, g27, g28, g29]))]) (va_runS (As := [.int k2, .int 0, .int 9]) (rest := [.ref a0]) ⟨hx, hb, hml, hown, hts⟩ (kX10_within_1 l dC dI k2 s.heap.size) (va_cwS 3 hts gX10_answer_0 rfl rfl rfl (by decide +kernel) ⟨Nat.le_of_ble_eq_true rfl, Nat.le_of_ble_eq_true rfl⟩) (PS (hP.sub (ws' := []) [] rfl) (hK.sub (tys' := []) [] rfl) (hD.sub (ws' := []) [] (by decide) rfl) hN) rfl rfl hl.1 rfl (lv_room (Nat.le_of_ble_eq_true rfl)) dX10_answer_5 ⟨Nat.le_of_ble_eq_true rfl, Nat.le_of_ble_eq_true rfl⟩) hP hD hK hS hA [] [0, 1] rfl rfl (by decide) (by decide) (fun z1 _u H locs hw hP hD hK hS => ?_)
  have hP : va_P (dC, dI) vwCl [(a0, .inr (7, [.ref a3, g4, g5, g6, g7, g8, g9, g10, g11, g12])), (a3, .inr (4, [g13, g14, g15, g16, g17, g18, .int 0, g19, g20, g21, g22, g23, g24, g25, g26, g27, g28, g29]))] H := hP
  have hD : va_D A [(a0, .inr (7, [.ref a3, g4, g5, g6, g7, g8, g9, g10, g11, g12])), (a3, .inr (4, [g13, g14, g15, g16, g17, g18, .int 0, g19, g20, g21, g22, g23, g24, g25, g26, g27, g28, g29]))] := hD
  have hK : va_K (dC, dI) vwCl [] s := hK
  refine lv_if_eq (tgt := 19) hx hb dX10_answer_8 (by decide) (fun c2 => ?_) (fun c2 => ?_)
  · obtain rfl : z1 = 0 := (by simp only [fa_lt, fa_le, fa_eq, ltv_0] at c2 ⊢; omega)
    refine lv_iconst (v := 1) hx hb dX10_answer_19 (by decide) ?_
    refine cl_i (wc := [(a0, .inr (7, [.ref a3, g4, g5, g6, g7, g8, g9, g10, g11, g12]))]) (wr := [(a3, .inr (4, [g13, g14, g15, g16, g17, g18, .int 0, g19, g20, g21, g22, g23, g24, g25, g26, g27, g28, g29]))]) (va_runV (As := [.int 1]) (rest := []) ⟨hx, hb, hml, hown, hts⟩ (kX10_refused_3 l dC dI a0 (.ref a3) (g4) (g5) (g6) (g7) (g8) (g9) (g10) (g11) (g12) H.size) (cwV 1 hts gX10_answer_1 rfl rfl rfl (by decide +kernel) ⟨Nat.le_of_ble_eq_true rfl, Nat.le_of_ble_eq_true rfl⟩) (PV (hP.sub (ws' := [(a0, .inr (7, [.ref a3, g4, g5, g6, g7, g8, g9, g10, g11, g12]))]) [0] rfl) (hK.sub (tys' := []) [] rfl) (hD.sub (ws' := [(a0, .inr (7, [.ref a3, g4, g5, g6, g7, g8, g9, g10, g11, g12]))]) [0] (by decide) rfl) hN 0 rfl rfl) rfl rfl hl.1 rfl (lv_room (Nat.le_of_ble_eq_true rfl)) dX10_answer_20 ⟨Nat.le_of_ble_eq_true rfl, Nat.le_of_ble_eq_true rfl⟩) hP hD hK hS hA [0] [1] rfl rfl (by decide) (by decide) (fun z3 _u H locs hw hP hD hK hS => ?_)
    have hP : va_P (dC, dI) vwCl [(a3, .inr (4, [g13, g14, g15, g16, g17, g18, .int 0, g19, g20, g21, g22, g23, g24, g25, g26, g27, g28, g29])), (a0, .inr (7, [.ref a3, g4, g5, g6, g7, g8, g9, g10, .int 1, g12]))] H := hP
    have hD : va_D A [(a3, .inr (4, [g13, g14, g15, g16, g17, g18, .int 0, g19, g20, g21, g22, g23, g24, g25, g26, g27, g28, g29])), (a0, .inr (7, [.ref a3, g4, g5, g6, g7, g8, g9, g10, .int 1, g12]))] := hD
    have hK : va_K (dC, dI) vwCl [] s := hK
    obtain rfl : z3 = 1 := hw
    refine lv_if_eq (tgt := 28) hx hb dX10_answer_23 (by decide) (fun c4 => absurd c4 (by decide)) (fun _ => ?_)
    refine lv_iconst (v := (-1)) hx hb dX10_answer_26 (by decide) ?_
    have hP9 := hP.sub (ws' := []) [] rfl
    have hD9 := hD.sub (ws' := []) [] (by decide) rfl
    have hK9 := hK.sub (tys' := []) [] rfl
    exact W.iret (v := (-1)) hx hb hr (fun t ht hW => ⟨⟨(-1), (), rfl, rfl, by rw [ht]; exact hP9, va_K.moved hW.alike hK9, hD9⟩, hS.F ht⟩) hS.2.2 dX10_answer_27
  · refine lv_aload_n hx hb dX10_answer_11 rfl (lv_at hl 0 rfl) ?_
    refine lv_iload_n hx hb dX10_answer_12 rfl (lv_at hl 1 rfl) ?_
    refine cl_i (wc := [(a0, .inr (7, [.ref a3, g4, g5, g6, g7, g8, g9, g10, g11, g12])), (a3, .inr (4, [g13, g14, g15, g16, g17, g18, .int 0, g19, g20, g21, g22, g23, g24, g25, g26, g27, g28, g29]))]) (wr := []) (va_runV (As := [.int k1]) (rest := [.ref a0]) ⟨hx, hb, hml, hown, hts⟩ (kX10_answerTrouble l dC dI a0 k1 a3 (g4) (g5) (g6) (g7) (g8) (g9) (g10) (g11) (g12) (g13) (g14) (g15) (g16) (g17) (g18) (g19) (g20) (g21) (g22) (g23) (g24) (g25) (g26) (g27) (g28) (g29) H.size) (cwV 1 hts gX10_answer_2 rfl rfl rfl (by decide +kernel) ⟨Nat.le_of_ble_eq_true rfl, Nat.le_of_ble_eq_true rfl⟩) (PV (hP.sub (ws' := [(a0, .inr (7, [.ref a3, g4, g5, g6, g7, g8, g9, g10, g11, g12])), (a3, .inr (4, [g13, g14, g15, g16, g17, g18, .int 0, g19, g20, g21, g22, g23, g24, g25, g26, g27, g28, g29]))]) [0, 1] rfl) (hK.sub (tys' := []) [] rfl) (hD.sub (ws' := [(a0, .inr (7, [.ref a3, g4, g5, g6, g7, g8, g9, g10, g11, g12])), (a3, .inr (4, [g13, g14, g15, g16, g17, g18, .int 0, g19, g20, g21, g22, g23, g24, g25, g26, g27, g28, g29]))]) [0, 1] (by decide) rfl) hN 0 rfl rfl) rfl rfl hl.1 rfl (lv_room (Nat.le_of_ble_eq_true rfl)) dX10_answer_13 ⟨Nat.le_of_ble_eq_true rfl, Nat.le_of_ble_eq_true rfl⟩) hP hD hK hS hA [0, 1] [] rfl rfl (by decide) (by decide) (fun z5 _u H locs hw hP hD hK hS => ?_)
    have hP : va_P (dC, dI) vwCl [(a0, .inr (7, [.ref a3, g4, g5, g6, g7, g8, g9, g10, g11, g12])), (a3, .inr (4, [g13, g14, g15, g16, g17, g18, .int 0, g19, g20, g21, g22, g23, g24, g25, g26, g27, g28, g29]))] H := hP
    have hD : va_D A [(a0, .inr (7, [.ref a3, g4, g5, g6, g7, g8, g9, g10, g11, g12])), (a3, .inr (4, [g13, g14, g15, g16, g17, g18, .int 0, g19, g20, g21, g22, g23, g24, g25, g26, g27, g28, g29]))] := hD
    have hK : va_K (dC, dI) vwCl [] s := hK
    obtain rfl : z5 = 1 := hw
    refine lv_goto (tgt := 20) hx hb dX10_answer_16 (by decide) ?_
    refine cl_i (wc := [(a0, .inr (7, [.ref a3, g4, g5, g6, g7, g8, g9, g10, g11, g12]))]) (wr := [(a3, .inr (4, [g13, g14, g15, g16, g17, g18, .int 0, g19, g20, g21, g22, g23, g24, g25, g26, g27, g28, g29]))]) (va_runV (As := [.int 1]) (rest := []) ⟨hx, hb, hml, hown, hts⟩ (kX10_refused_3 l dC dI a0 (.ref a3) (g4) (g5) (g6) (g7) (g8) (g9) (g10) (g11) (g12) H.size) (cwV 1 hts gX10_answer_1 rfl rfl rfl (by decide +kernel) ⟨Nat.le_of_ble_eq_true rfl, Nat.le_of_ble_eq_true rfl⟩) (PV (hP.sub (ws' := [(a0, .inr (7, [.ref a3, g4, g5, g6, g7, g8, g9, g10, g11, g12]))]) [0] rfl) (hK.sub (tys' := []) [] rfl) (hD.sub (ws' := [(a0, .inr (7, [.ref a3, g4, g5, g6, g7, g8, g9, g10, g11, g12]))]) [0] (by decide) rfl) hN 0 rfl rfl) rfl rfl hl.1 rfl (lv_room (Nat.le_of_ble_eq_true rfl)) dX10_answer_20 ⟨Nat.le_of_ble_eq_true rfl, Nat.le_of_ble_eq_true rfl⟩) hP hD hK hS hA [0] [1] rfl rfl (by decide) (by decide) (fun z6 _u H locs hw hP hD hK hS => ?_)
    have hP : va_P (dC, dI) vwCl [(a3, .inr (4, [g13, g14, g15, g16, g17, g18, .int 0, g19, g20, g21, g22, g23, g24, g25, g26, g27, g28, g29])), (a0, .inr (7, [.ref a3, g4, g5, g6, g7, g8, g9, g10, .int 1, g12]))] H := hP
    have hD : va_D A [(a3, .inr (4, [g13, g14, g15, g16, g17, g18, .int 0, g19, g20, g21, g22, g23, g24, g25, g26, g27, g28, g29])), (a0, .inr (7, [.ref a3, g4, g5, g6, g7, g8, g9, g10, .int 1, g12]))] := hD
    have hK : va_K (dC, dI) vwCl [] s := hK
    obtain rfl : z6 = 1 := hw
    refine lv_if_eq (tgt := 28) hx hb dX10_answer_23 (by decide) (fun c7 => absurd c7 (by decide)) (fun _ => ?_)
    refine lv_iconst (v := (-1)) hx hb dX10_answer_26 (by decide) ?_
    have hP9 := hP.sub (ws' := []) [] rfl
    have hD9 := hD.sub (ws' := []) [] (by decide) rfl
    have hK9 := hK.sub (tys' := []) [] rfl
    exact W.iret (v := (-1)) hx hb hr (fun t ht hW => ⟨⟨(-1), (), rfl, rfl, by rw [ht]; exact hP9, va_K.moved hW.alike hK9, hD9⟩, hS.F ht⟩) hS.2.2 dX10_answer_27
theorem dX12_isAnswer_0 : decode cX12_isAnswer 0 = .ok (.aload_n 0, 1) := by decide +kernel
theorem dX12_isAnswer_1 : decode cX12_isAnswer 1 = .ok (.getfield 299, 3) := by decide +kernel
theorem dX12_isAnswer_26 : decode cX12_isAnswer 26 = .ok (.iconst 0, 1) := by decide +kernel
theorem dX12_isAnswer_27 : decode cX12_isAnswer 27 = .ok (.ireturn, 1) := by decide +kernel
theorem dX12_isAnswer_4 : decode cX12_isAnswer 4 = .ok (.ifnull 22, 3) := by decide +kernel
def vX12_isAnswer : List Cond := .code yX12_isAnswer cX12_isAnswer 2 (some .boolean) :: ([.fieldLink RX12 299 "HookPierModel" "pier" "LHookPierModel$Pier;"] ++ wsX120)
theorem iX12_isAnswer_X12 : ∀ w ∈ wsX120, w ∈ vX12_isAnswer := fun _ h => List.mem_cons_of_mem _ (List.mem_append_right _ h)
set_option maxHeartbeats 1000000 in
set_option maxRecDepth 100000 in
theorem kX12_isAnswer (l : Launch) (dC : Nat → ClassId) (dI : Nat → Nat → Nat) (a0 : Nat) (k1 : Int32) (g2 : Value) (g3 : Value) (g4 : Value) (g5 : Value) (g6 : Value) (g7 : Value) (g8 : Value) (g9 : Value) (g10 : Value) (g11 : Value) (g12 : Value) (g13 : Value) (g14 : Value) (g15 : Value) (g16 : Value) (g17 : Value) (g18 : Value) (g19 : Value) (g20 : Value) (g21 : Value) (g22 : Value) (g23 : Value) (g24 : Value) (g25 : Value) (g26 : Value) (g27 : Value) (g28 : Value) (g29 : Value) (g30 : Value) (sz : Nat) : Met l yX12_isAnswer vX12_isAnswer ({ frames := 0, cells := 0, slots := 0, locals := 0 }) (PC (dC, dI) [.ref a0, .int k1] sz [(a0, .inr (9, [g2, g3, g4, .null, g5, g6, g7, g8, g9, g10, g11, g12, g13, g14, g15, g16, g17, g18, g19, g20, g21, g22, g23, g24, g25, g26, g27, g28, g29, g30]))] []) (va_Qi (S := Unit) (fun (r : Int32) _ => r = 0) (fun _ t => BC (dC, dI) (va_A [(a0, .inr (9, [g2, g3, g4, .null, g5, g6, g7, g8, g9, g10, g11, g12, g13, g14, g15, g16, g17, g18, g19, g20, g21, g22, g23, g24, g25, g26, g27, g28, g29, g30]))] sz) [(a0, .inr (9, [g2, g3, g4, .null, g5, g6, g7, g8, g9, g10, g11, g12, g13, g14, g15, g16, g17, g18, g19, g20, g21, g22, g23, g24, g25, g26, g27, g28, g29, g30]))] [] t) (va_A [(a0, .inr (9, [g2, g3, g4, .null, g5, g6, g7, g8, g9, g10, g11, g12, g13, g14, g15, g16, g17, g18, g19, g20, g21, g22, g23, g24, g25, g26, g27, g28, g29, g30]))] sz)) 0 0 (va_A [(a0, .inr (9, [g2, g3, g4, .null, g5, g6, g7, g8, g9, g10, g11, g12, g13, g14, g15, g16, g17, g18, g19, g20, g21, g22, g23, g24, g25, g26, g27, g28, g29, g30]))] sz) := by
  refine Met.ofW (cc := cX12_isAnswer) (maxL := 2) (ret := (some .boolean)) (by decide) rfl ?_
  intro p e s m args below meth c s₁ B hml hv
  obtain ⟨rfl, hsz, hP, hK, hD0, hN⟩ := hv
  have hx := B.exec
  have hb := B.bytes
  have hr := B.returns
  have hts := atoms_spec (ws := vX12_isAnswer) B.pre
  have hown : s.vm.findClass RX12 = some m.cls := findClass_of_methodNamed B.named
  have hlocks := B.notSynchronized
  subst hsz
  have hD := hD0.self (sz := s.heap.size)
  generalize hAe : va_A [(a0, .inr (9, [g2, g3, g4, .null, g5, g6, g7, g8, g9, g10, g11, g12, g13, g14, g15, g16, g17, g18, g19, g20, g21, g22, g23, g24, g25, g26, g27, g28, g29, g30]))] s.heap.size = A at hD ⊢
  have hA : ∀ q : Nat, s.heap.size ≤ q → A q := fun q h => by rw [← hAe]; exact Or.inr h
  have hS : va_S A s.heap s.heap [] := va_S.rf
  have hP : va_P (dC, dI) vwCl [(a0, .inr (9, [g2, g3, g4, .null, g5, g6, g7, g8, g9, g10, g11, g12, g13, g14, g15, g16, g17, g18, g19, g20, g21, g22, g23, g24, g25, g26, g27, g28, g29, g30]))] s.heap := hP
  have hl := lv_entry ([.ref a0, .int k1]) (n := 2) (Nat.le_of_ble_eq_true rfl)
  rw [lg_entry_eq]
  generalize (lg_sl ([.ref a0, .int k1]) ++ List.replicate (2 - (lg_sl ([.ref a0, .int k1])).length) Slot.unset).toArray = ls at hl ⊢
  have hl : lv_has ls 2 [(0, .ref a0), (1, .int k1)] := hl
  refine lv_aload_n hx hb dX12_isAnswer_0 rfl (lv_at hl 0 rfl) ?_
  refine va_get (D := (dC, dI)) (ci := 9) (v := .null) (C := RX12) (T := TX12) (N := 30) hx hb hts iX12_isAnswer_X12 hown hK hP 0 rfl rfl 3 (by decide) (hts (.fieldLink RX12 299 "HookPierModel" "pier" "LHookPierModel$Pier;") (List.mem_of_getElem? (i := 1) rfl)) (fun _ h9 => h9) rfl dX12_isAnswer_1 ?_
  refine lv_ifnullN (tgt := 26) hx hb dX12_isAnswer_4 (by decide) ?_
  refine lv_iconst (v := 0) hx hb dX12_isAnswer_26 (by decide) ?_
  have hP9 := hP.sub (ws' := [(a0, .inr (9, [g2, g3, g4, .null, g5, g6, g7, g8, g9, g10, g11, g12, g13, g14, g15, g16, g17, g18, g19, g20, g21, g22, g23, g24, g25, g26, g27, g28, g29, g30]))]) [0] rfl
  have hD9 := hD.sub (ws' := [(a0, .inr (9, [g2, g3, g4, .null, g5, g6, g7, g8, g9, g10, g11, g12, g13, g14, g15, g16, g17, g18, g19, g20, g21, g22, g23, g24, g25, g26, g27, g28, g29, g30]))]) [0] (by decide) rfl
  have hK9 := hK.sub (tys' := []) [] rfl
  exact W.zret (v := 0) hx hb hr rfl (fun t ht hW => ⟨⟨0, (), rfl, rfl, by rw [ht]; exact hP9, va_K.moved hW.alike hK9, hD9⟩, hS.F ht⟩) hS.2.2 dX12_isAnswer_27
def vX12_refused_1 : List Cond := .code yX12_refused cX12_refused 2 (some .int) :: ([.fieldLink RX12 39 "HookPierModel" "trouble" "I", .fieldLink RX12 9 "HookPierModel" "where" "I"] ++ wsX120)
theorem iX12_refused_1_X12 : ∀ w ∈ wsX120, w ∈ vX12_refused_1 := fun _ h => List.mem_cons_of_mem _ (List.mem_append_right _ h)
set_option maxHeartbeats 1000000 in
set_option maxRecDepth 100000 in
theorem kX12_refused_1 (l : Launch) (dC : Nat → ClassId) (dI : Nat → Nat → Nat) (a0 : Nat) (g1 : Value) (g2 : Value) (g3 : Value) (g4 : Value) (g5 : Value) (g6 : Value) (g7 : Value) (g8 : Value) (g9 : Value) (g10 : Value) (g11 : Value) (g12 : Value) (g13 : Value) (g14 : Value) (g15 : Value) (g16 : Value) (g17 : Value) (g18 : Value) (g19 : Value) (g20 : Value) (g21 : Value) (g22 : Value) (g23 : Value) (g24 : Value) (g25 : Value) (g26 : Value) (g27 : Value) (g28 : Value) (g29 : Value) (g30 : Value) (sz : Nat) : Met l yX12_refused vX12_refused_1 ({ frames := 0, cells := 0, slots := 0, locals := 0 }) (PC (dC, dI) [.ref a0, .int 1] sz [(a0, .inr (9, [g1, g2, g3, g4, g5, g6, g7, g8, g9, g10, g11, g12, g13, g14, g15, g16, g17, g18, g19, g20, g21, g22, g23, g24, g25, g26, g27, g28, g29, g30]))] []) (va_Qi (S := Unit) (fun (r : Int32) _ => r = (-1)) (fun _ t => BC (dC, dI) (va_A [(a0, .inr (9, [g1, g2, g3, g4, g5, g6, g7, g8, g9, g10, g11, g12, g13, g14, g15, g16, g17, g18, g19, g20, g21, g22, g23, g24, g25, g26, g27, g28, g29, g30]))] sz) [(a0, .inr (9, [g1, .int 1, .int (-1), g4, g5, g6, g7, g8, g9, g10, g11, g12, g13, g14, g15, g16, g17, g18, g19, g20, g21, g22, g23, g24, g25, g26, g27, g28, g29, g30]))] [] t) (va_A [(a0, .inr (9, [g1, g2, g3, g4, g5, g6, g7, g8, g9, g10, g11, g12, g13, g14, g15, g16, g17, g18, g19, g20, g21, g22, g23, g24, g25, g26, g27, g28, g29, g30]))] sz)) 0 0 (va_A [(a0, .inr (9, [g1, g2, g3, g4, g5, g6, g7, g8, g9, g10, g11, g12, g13, g14, g15, g16, g17, g18, g19, g20, g21, g22, g23, g24, g25, g26, g27, g28, g29, g30]))] sz) := by
  refine Met.ofW (cc := cX12_refused) (maxL := 2) (ret := (some .int)) (by decide) rfl ?_
  intro p e s m args below meth c s₁ B hml hv
  obtain ⟨rfl, hsz, hP, hK, hD0, hN⟩ := hv
  have hx := B.exec
  have hb := B.bytes
  have hr := B.returns
  have hts := atoms_spec (ws := vX12_refused_1) B.pre
  have hown : s.vm.findClass RX12 = some m.cls := findClass_of_methodNamed B.named
  have hlocks := B.notSynchronized
  subst hsz
  have hD := hD0.self (sz := s.heap.size)
  generalize hAe : va_A [(a0, .inr (9, [g1, g2, g3, g4, g5, g6, g7, g8, g9, g10, g11, g12, g13, g14, g15, g16, g17, g18, g19, g20, g21, g22, g23, g24, g25, g26, g27, g28, g29, g30]))] s.heap.size = A at hD ⊢
  have hA : ∀ q : Nat, s.heap.size ≤ q → A q := fun q h => by rw [← hAe]; exact Or.inr h
  have hS : va_S A s.heap s.heap [] := va_S.rf
  have hP : va_P (dC, dI) vwCl [(a0, .inr (9, [g1, g2, g3, g4, g5, g6, g7, g8, g9, g10, g11, g12, g13, g14, g15, g16, g17, g18, g19, g20, g21, g22, g23, g24, g25, g26, g27, g28, g29, g30]))] s.heap := hP
  have hl := lv_entry ([.ref a0, .int 1]) (n := 2) (Nat.le_of_ble_eq_true rfl)
  rw [lg_entry_eq]
  generalize (lg_sl ([.ref a0, .int 1]) ++ List.replicate (2 - (lg_sl ([.ref a0, .int 1])).length) Slot.unset).toArray = ls at hl ⊢
  have hl : lv_has ls 2 [(0, .ref a0), (1, .int 1)] := hl
  refine lv_aload_n hx hb dX12_refused_0 rfl (lv_at hl 0 rfl) ?_
  refine lv_iload_n hx hb dX12_refused_1 rfl (lv_at hl 1 rfl) ?_
  refine va_put (D := (dC, dI)) (ci := 9) (v := .int 1) (ty := .int) (C := RX12) (T := TX12) (N := 30) hx hb hts iX12_refused_1_X12 tyX12 tyX12_ok nmX12 hown hK hP hD hS 0 rfl rfl 1 (by decide) (hts (.fieldLink RX12 39 "HookPierModel" "trouble" "I") (List.mem_of_getElem? (i := 1) rfl)) (fun _ h9 => h9) rfl (by decide +kernel) rfl rfl (Nat.le_of_ble_eq_true rfl) dX12_refused_2 (fun H locs hP hD hS => ?_)
  have hP : va_P (dC, dI) vwCl [(a0, .inr (9, [g1, .int 1, g3, g4, g5, g6, g7, g8, g9, g10, g11, g12, g13, g14, g15, g16, g17, g18, g19, g20, g21, g22, g23, g24, g25, g26, g27, g28, g29, g30]))] H := hP
  have hD : va_D A [(a0, .inr (9, [g1, .int 1, g3, g4, g5, g6, g7, g8, g9, g10, g11, g12, g13, g14, g15, g16, g17, g18, g19, g20, g21, g22, g23, g24, g25, g26, g27, g28, g29, g30]))] := hD
  refine lv_aload_n hx hb dX12_refused_5 rfl (lv_at hl 0 rfl) ?_
  refine lv_iconst (v := (-1)) hx hb dX12_refused_6 (by decide) ?_
  refine va_put (D := (dC, dI)) (ci := 9) (v := .int (-1)) (ty := .int) (C := RX12) (T := TX12) (N := 30) hx hb hts iX12_refused_1_X12 tyX12 tyX12_ok nmX12 hown hK hP hD hS 0 rfl rfl 2 (by decide) (hts (.fieldLink RX12 9 "HookPierModel" "where" "I") (List.mem_of_getElem? (i := 2) rfl)) (fun _ h9 => h9) rfl (by decide +kernel) rfl rfl (Nat.le_of_ble_eq_true rfl) dX12_refused_7 (fun H locs hP hD hS => ?_)
  have hP : va_P (dC, dI) vwCl [(a0, .inr (9, [g1, .int 1, .int (-1), g4, g5, g6, g7, g8, g9, g10, g11, g12, g13, g14, g15, g16, g17, g18, g19, g20, g21, g22, g23, g24, g25, g26, g27, g28, g29, g30]))] H := hP
  have hD : va_D A [(a0, .inr (9, [g1, .int 1, .int (-1), g4, g5, g6, g7, g8, g9, g10, g11, g12, g13, g14, g15, g16, g17, g18, g19, g20, g21, g22, g23, g24, g25, g26, g27, g28, g29, g30]))] := hD
  refine lv_iconst (v := (-1)) hx hb dX12_refused_10 (by decide) ?_
  have hP9 := hP.sub (ws' := [(a0, .inr (9, [g1, .int 1, .int (-1), g4, g5, g6, g7, g8, g9, g10, g11, g12, g13, g14, g15, g16, g17, g18, g19, g20, g21, g22, g23, g24, g25, g26, g27, g28, g29, g30]))]) [0] rfl
  have hD9 := hD.sub (ws' := [(a0, .inr (9, [g1, .int 1, .int (-1), g4, g5, g6, g7, g8, g9, g10, g11, g12, g13, g14, g15, g16, g17, g18, g19, g20, g21, g22, g23, g24, g25, g26, g27, g28, g29, g30]))]) [0] (by decide) rfl
  have hK9 := hK.sub (tys' := []) [] rfl
  exact W.iret (v := (-1)) hx hb hr (fun t ht hW => ⟨⟨(-1), (), rfl, rfl, by rw [ht]; exact hP9, va_K.moved hW.alike hK9, hD9⟩, hS.F ht⟩) hS.2.2 dX12_refused_11
theorem dX12_answer_0 : decode cX12_answer 0 = .ok (.aload_n 0, 1) := by decide +kernel
theorem dX12_answer_1 : decode cX12_answer 1 = .ok (.iconst 0, 1) := by decide +kernel
theorem dX12_answer_10 : decode cX12_answer 10 = .ok (.ifCond .eq 13, 3) := by decide +kernel
theorem dX12_answer_2 : decode cX12_answer 2 = .ok (.putfield 36, 3) := by decide +kernel
theorem dX12_answer_23 : decode cX12_answer 23 = .ok (.aload_n 0, 1) := by decide +kernel
theorem dX12_answer_24 : decode cX12_answer 24 = .ok (.iconst 1, 1) := by decide +kernel
theorem dX12_answer_25 : decode cX12_answer 25 = .ok (.invokevirtual 42, 3) := by decide +kernel
theorem dX12_answer_28 : decode cX12_answer 28 = .ok (.ireturn, 1) := by decide +kernel
theorem dX12_answer_5 : decode cX12_answer 5 = .ok (.aload_n 0, 1) := by decide +kernel
theorem dX12_answer_6 : decode cX12_answer 6 = .ok (.iload_n 1, 1) := by decide +kernel
theorem dX12_answer_7 : decode cX12_answer 7 = .ok (.invokevirtual 320, 3) := by decide +kernel
def vX12_answer : List Cond := .code yX12_answer cX12_answer 3 (some .int) :: ([.fieldLink RX12 36 "HookPierModel" "thrown" "I", .methodLink RX12 320 yX12_isAnswer, .instanceMethod yX12_isAnswer, .selects RX12 yX12_isAnswer yX12_isAnswer, .initialized RX12, .code yX12_isAnswer cX12_isAnswer 2 (some .boolean), .fieldLink RX12 299 "HookPierModel" "pier" "LHookPierModel$Pier;", .methodLink RX12 42 yX12_refused, .instanceMethod yX12_refused, .selects RX12 yX12_refused yX12_refused, .code yX12_refused cX12_refused 2 (some .int), .fieldLink RX12 39 "HookPierModel" "trouble" "I", .fieldLink RX12 9 "HookPierModel" "where" "I"] ++ wsX120)
theorem iX12_answer_X12 : ∀ w ∈ wsX120, w ∈ vX12_answer := fun _ h => List.mem_cons_of_mem _ (List.mem_append_right _ h)
set_option maxRecDepth 20000 in
theorem gX12_answer_0 : GoodIn vX12_answer (wsV RX12 320 RX12 yX12_isAnswer vX12_isAnswer) := goodIn_app (goodIn_r [.methodLink RX12 320 yX12_isAnswer, .instanceMethod yX12_isAnswer, .selects RX12 yX12_isAnswer yX12_isAnswer, .initialized RX12] [2, 3, 4, 5] (by decide +kernel) (by decide +kernel)) (goodIn_ca (goodIn_r (.code yX12_isAnswer cX12_isAnswer 2 (some .boolean) :: [.fieldLink RX12 299 "HookPierModel" "pier" "LHookPierModel$Pier;"]) [6, 7] (by decide +kernel) (by decide +kernel) : GoodIn vX12_answer (.code yX12_isAnswer cX12_isAnswer 2 (some .boolean) :: [.fieldLink RX12 299 "HookPierModel" "pier" "LHookPierModel$Pier;"])) (goodIn_sub iX12_answer_X12 (by decide +kernel)))
set_option maxRecDepth 20000 in
theorem gX12_answer_1 : GoodIn vX12_answer (wsV RX12 42 RX12 yX12_refused vX12_refused_1) := goodIn_app (goodIn_r [.methodLink RX12 42 yX12_refused, .instanceMethod yX12_refused, .selects RX12 yX12_refused yX12_refused, .initialized RX12] [8, 9, 10, 5] (by decide +kernel) (by decide +kernel)) (goodIn_ca (goodIn_r (.code yX12_refused cX12_refused 2 (some .int) :: [.fieldLink RX12 39 "HookPierModel" "trouble" "I", .fieldLink RX12 9 "HookPierModel" "where" "I"]) [11, 12, 13] (by decide +kernel) (by decide +kernel) : GoodIn vX12_answer (.code yX12_refused cX12_refused 2 (some .int) :: [.fieldLink RX12 39 "HookPierModel" "trouble" "I", .fieldLink RX12 9 "HookPierModel" "where" "I"])) (goodIn_sub iX12_answer_X12 (by decide +kernel)))
set_option maxHeartbeats 1000000 in
set_option maxRecDepth 100000 in
theorem kX12_answer (l : Launch) (dC : Nat → ClassId) (dI : Nat → Nat → Nat) (a0 : Nat) (k1 : Int32) (k2 : Int32) (g3 : Value) (g4 : Value) (g5 : Value) (g6 : Value) (g7 : Value) (g8 : Value) (g9 : Value) (g10 : Value) (g11 : Value) (g12 : Value) (g13 : Value) (g14 : Value) (g15 : Value) (g16 : Value) (g17 : Value) (g18 : Value) (g19 : Value) (g20 : Value) (g21 : Value) (g22 : Value) (g23 : Value) (g24 : Value) (g25 : Value) (g26 : Value) (g27 : Value) (g28 : Value) (g29 : Value) (g30 : Value) (g31 : Value) (sz : Nat) : Met l yX12_answer vX12_answer ({ frames := 1, cells := 0, slots := 0, locals := 21 }) (PC (dC, dI) [.ref a0, .int k1, .int k2] sz [(a0, .inr (9, [g3, g4, g5, .null, g6, g7, g8, g9, g10, g11, g12, g13, g14, g15, g16, g17, g18, g19, g20, g21, g22, g23, g24, g25, g26, g27, g28, g29, g30, g31]))] []) (va_Qi (S := Unit) (fun (r : Int32) _ => r = (-1)) (fun _ t => BC (dC, dI) (va_A [(a0, .inr (9, [g3, g4, g5, .null, g6, g7, g8, g9, g10, g11, g12, g13, g14, g15, g16, g17, g18, g19, g20, g21, g22, g23, g24, g25, g26, g27, g28, g29, g30, g31]))] sz) [] [] t) (va_A [(a0, .inr (9, [g3, g4, g5, .null, g6, g7, g8, g9, g10, g11, g12, g13, g14, g15, g16, g17, g18, g19, g20, g21, g22, g23, g24, g25, g26, g27, g28, g29, g30, g31]))] sz)) 0 0 (va_A [(a0, .inr (9, [g3, g4, g5, .null, g6, g7, g8, g9, g10, g11, g12, g13, g14, g15, g16, g17, g18, g19, g20, g21, g22, g23, g24, g25, g26, g27, g28, g29, g30, g31]))] sz) := by
  refine Met.ofW (cc := cX12_answer) (maxL := 3) (ret := (some .int)) (by decide) rfl ?_
  intro p e s m args below meth c s₁ B hml hv
  obtain ⟨rfl, hsz, hP, hK, hD0, hN⟩ := hv
  have hx := B.exec
  have hb := B.bytes
  have hr := B.returns
  have hts := atoms_spec (ws := vX12_answer) B.pre
  have hown : s.vm.findClass RX12 = some m.cls := findClass_of_methodNamed B.named
  have hlocks := B.notSynchronized
  subst hsz
  have hD := hD0.self (sz := s.heap.size)
  generalize hAe : va_A [(a0, .inr (9, [g3, g4, g5, .null, g6, g7, g8, g9, g10, g11, g12, g13, g14, g15, g16, g17, g18, g19, g20, g21, g22, g23, g24, g25, g26, g27, g28, g29, g30, g31]))] s.heap.size = A at hD ⊢
  have hA : ∀ q : Nat, s.heap.size ≤ q → A q := fun q h => by rw [← hAe]; exact Or.inr h
  have hS : va_S A s.heap s.heap [] := va_S.rf
  have hP : va_P (dC, dI) vwCl [(a0, .inr (9, [g3, g4, g5, .null, g6, g7, g8, g9, g10, g11, g12, g13, g14, g15, g16, g17, g18, g19, g20, g21, g22, g23, g24, g25, g26, g27, g28, g29, g30, g31]))] s.heap := hP
  have hl := lv_entry ([.ref a0, .int k1, .int k2]) (n := 3) (Nat.le_of_ble_eq_true rfl)
  rw [lg_entry_eq]
  generalize (lg_sl ([.ref a0, .int k1, .int k2]) ++ List.replicate (3 - (lg_sl ([.ref a0, .int k1, .int k2])).length) Slot.unset).toArray = ls at hl ⊢
  have hl : lv_has ls 3 [(0, .ref a0), (1, .int k1), (2, .int k2)] := hl
  refine lv_aload_n hx hb dX12_answer_0 rfl (lv_at hl 0 rfl) ?_
  refine lv_iconst (v := 0) hx hb dX12_answer_1 (by decide) ?_
  refine va_put (D := (dC, dI)) (ci := 9) (v := .int 0) (ty := .int) (C := RX12) (T := TX12) (N := 30) hx hb hts iX12_answer_X12 tyX12 tyX12_ok nmX12 hown hK hP hD hS 0 rfl rfl 0 (by decide) (hts (.fieldLink RX12 36 "HookPierModel" "thrown" "I") (List.mem_of_getElem? (i := 1) rfl)) (fun _ h9 => h9) rfl (by decide +kernel) rfl rfl (Nat.le_of_ble_eq_true rfl) dX12_answer_2 (fun H locs hP hD hS => ?_)
  have hP : va_P (dC, dI) vwCl [(a0, .inr (9, [.int 0, g4, g5, .null, g6, g7, g8, g9, g10, g11, g12, g13, g14, g15, g16, g17, g18, g19, g20, g21, g22, g23, g24, g25, g26, g27, g28, g29, g30, g31]))] H := hP
  have hD : va_D A [(a0, .inr (9, [.int 0, g4, g5, .null, g6, g7, g8, g9, g10, g11, g12, g13, g14, g15, g16, g17, g18, g19, g20, g21, g22, g23, g24, g25, g26, g27, g28, g29, g30, g31]))] := hD
  refine lv_aload_n hx hb dX12_answer_5 rfl (lv_at hl 0 rfl) ?_
  refine lv_iload_n hx hb dX12_answer_6 rfl (lv_at hl 1 rfl) ?_
  refine cl_i (wc := [(a0, .inr (9, [.int 0, g4, g5, .null, g6, g7, g8, g9, g10, g11, g12, g13, g14, g15, g16, g17, g18, g19, g20, g21, g22, g23, g24, g25, g26, g27, g28, g29, g30, g31]))]) (wr := []) (va_runV (As := [.int k1]) (rest := []) ⟨hx, hb, hml, hown, hts⟩ (kX12_isAnswer l dC dI a0 k1 (.int 0) (g4) (g5) (g6) (g7) (g8) (g9) (g10) (g11) (g12) (g13) (g14) (g15) (g16) (g17) (g18) (g19) (g20) (g21) (g22) (g23) (g24) (g25) (g26) (g27) (g28) (g29) (g30) (g31) H.size) (cwV 1 hts gX12_answer_0 rfl rfl rfl (by decide +kernel) ⟨Nat.le_of_ble_eq_true rfl, Nat.le_of_ble_eq_true rfl⟩) (PV (hP.sub (ws' := [(a0, .inr (9, [.int 0, g4, g5, .null, g6, g7, g8, g9, g10, g11, g12, g13, g14, g15, g16, g17, g18, g19, g20, g21, g22, g23, g24, g25, g26, g27, g28, g29, g30, g31]))]) [0] rfl) (hK.sub (tys' := []) [] rfl) (hD.sub (ws' := [(a0, .inr (9, [.int 0, g4, g5, .null, g6, g7, g8, g9, g10, g11, g12, g13, g14, g15, g16, g17, g18, g19, g20, g21, g22, g23, g24, g25, g26, g27, g28, g29, g30, g31]))]) [0] (by decide) rfl) hN 0 rfl rfl) rfl rfl hl.1 rfl (lv_room (Nat.le_of_ble_eq_true rfl)) dX12_answer_7 ⟨Nat.le_of_ble_eq_true rfl, Nat.le_of_ble_eq_true rfl⟩) hP hD hK hS hA [0] [] rfl rfl (by decide) (by decide) (fun z1 _u H locs hw hP hD hK hS => ?_)
  have hP : va_P (dC, dI) vwCl [(a0, .inr (9, [.int 0, g4, g5, .null, g6, g7, g8, g9, g10, g11, g12, g13, g14, g15, g16, g17, g18, g19, g20, g21, g22, g23, g24, g25, g26, g27, g28, g29, g30, g31]))] H := hP
  have hD : va_D A [(a0, .inr (9, [.int 0, g4, g5, .null, g6, g7, g8, g9, g10, g11, g12, g13, g14, g15, g16, g17, g18, g19, g20, g21, g22, g23, g24, g25, g26, g27, g28, g29, g30, g31]))] := hD
  have hK : va_K (dC, dI) vwCl [] s := hK
  obtain rfl : z1 = 0 := hw
  refine lv_if_eq (tgt := 23) hx hb dX12_answer_10 (by decide) (fun _ => ?_) (fun c2 => absurd c2 (by decide))
  refine lv_aload_n hx hb dX12_answer_23 rfl (lv_at hl 0 rfl) ?_
  refine lv_iconst (v := 1) hx hb dX12_answer_24 (by decide) ?_
  refine cl_i (wc := [(a0, .inr (9, [.int 0, g4, g5, .null, g6, g7, g8, g9, g10, g11, g12, g13, g14, g15, g16, g17, g18, g19, g20, g21, g22, g23, g24, g25, g26, g27, g28, g29, g30, g31]))]) (wr := []) (va_runV (As := [.int 1]) (rest := []) ⟨hx, hb, hml, hown, hts⟩ (kX12_refused_1 l dC dI a0 (.int 0) (g4) (g5) (.null) (g6) (g7) (g8) (g9) (g10) (g11) (g12) (g13) (g14) (g15) (g16) (g17) (g18) (g19) (g20) (g21) (g22) (g23) (g24) (g25) (g26) (g27) (g28) (g29) (g30) (g31) H.size) (cwV 1 hts gX12_answer_1 rfl rfl rfl (by decide +kernel) ⟨Nat.le_of_ble_eq_true rfl, Nat.le_of_ble_eq_true rfl⟩) (PV (hP.sub (ws' := [(a0, .inr (9, [.int 0, g4, g5, .null, g6, g7, g8, g9, g10, g11, g12, g13, g14, g15, g16, g17, g18, g19, g20, g21, g22, g23, g24, g25, g26, g27, g28, g29, g30, g31]))]) [0] rfl) (hK.sub (tys' := []) [] rfl) (hD.sub (ws' := [(a0, .inr (9, [.int 0, g4, g5, .null, g6, g7, g8, g9, g10, g11, g12, g13, g14, g15, g16, g17, g18, g19, g20, g21, g22, g23, g24, g25, g26, g27, g28, g29, g30, g31]))]) [0] (by decide) rfl) hN 0 rfl rfl) rfl rfl hl.1 rfl (lv_room (Nat.le_of_ble_eq_true rfl)) dX12_answer_25 ⟨Nat.le_of_ble_eq_true rfl, Nat.le_of_ble_eq_true rfl⟩) hP hD hK hS hA [0] [] rfl rfl (by decide) (by decide) (fun z3 _u H locs hw hP hD hK hS => ?_)
  have hP : va_P (dC, dI) vwCl [(a0, .inr (9, [.int 0, .int 1, .int (-1), .null, g6, g7, g8, g9, g10, g11, g12, g13, g14, g15, g16, g17, g18, g19, g20, g21, g22, g23, g24, g25, g26, g27, g28, g29, g30, g31]))] H := hP
  have hD : va_D A [(a0, .inr (9, [.int 0, .int 1, .int (-1), .null, g6, g7, g8, g9, g10, g11, g12, g13, g14, g15, g16, g17, g18, g19, g20, g21, g22, g23, g24, g25, g26, g27, g28, g29, g30, g31]))] := hD
  have hK : va_K (dC, dI) vwCl [] s := hK
  obtain rfl : z3 = (-1) := hw
  have hP9 := hP.sub (ws' := []) [] rfl
  have hD9 := hD.sub (ws' := []) [] (by decide) rfl
  have hK9 := hK.sub (tys' := []) [] rfl
  exact W.iret (v := (-1)) hx hb hr (fun t ht hW => ⟨⟨(-1), (), rfl, rfl, by rw [ht]; exact hP9, va_K.moved hW.alike hK9, hD9⟩, hS.F ht⟩) hS.2.2 dX12_answer_28
def vX10_within_3 : List Cond := .code yX10_within cX10_within 3 (some .boolean) :: ([])
set_option maxHeartbeats 1000000 in
set_option maxRecDepth 100000 in
theorem kX10_within_3 (l : Launch) (dC : Nat → ClassId) (dI : Nat → Nat → Nat) (k0 : Int32) (sz : Nat) : Met l yX10_within vX10_within_3 ({ frames := 0, cells := 0, slots := 0, locals := 0 }) (PC (dC, dI) [.int k0, .int 0, .int 5] sz [] []) (va_Qi (S := Unit) (fun (r : Int32) _ => True) (fun _ t => BC (dC, dI) (va_A [] sz) [] [] t) (va_A [] sz)) 0 0 (va_A [] sz) := by
  refine Met.ofW (cc := cX10_within) (maxL := 3) (ret := (some .boolean)) (by decide) rfl ?_
  intro p e s m args below meth c s₁ B hml hv
  obtain ⟨rfl, hsz, hP, hK, hD0, hN⟩ := hv
  have hx := B.exec
  have hb := B.bytes
  have hr := B.returns
  have hts := atoms_spec (ws := vX10_within_3) B.pre
  have hown : s.vm.findClass RX10 = some m.cls := findClass_of_methodNamed B.named
  have hlocks := B.notSynchronized
  subst hsz
  have hD := hD0.self (sz := s.heap.size)
  generalize hAe : va_A [] s.heap.size = A at hD ⊢
  have hA : ∀ q : Nat, s.heap.size ≤ q → A q := fun q h => by rw [← hAe]; exact Or.inr h
  have hS : va_S A s.heap s.heap [] := va_S.rf
  have hP : va_P (dC, dI) vwCl [] s.heap := hP
  have hl := lv_entry ([.int k0, .int 0, .int 5]) (n := 3) (Nat.le_of_ble_eq_true rfl)
  rw [lg_entry_eq]
  generalize (lg_sl ([.int k0, .int 0, .int 5]) ++ List.replicate (3 - (lg_sl ([.int k0, .int 0, .int 5])).length) Slot.unset).toArray = ls at hl ⊢
  have hl : lv_has ls 3 [(0, .int k0), (1, .int 0), (2, .int 5)] := hl
  refine lv_iload_n hx hb dX10_within_0 rfl (lv_at hl 0 rfl) ?_
  refine lv_iload_n hx hb dX10_within_1 rfl (lv_at hl 1 rfl) ?_
  refine lv_icmp_lt (tgt := 14) hx hb dX10_within_2 (by decide) (fun c1 => ?_) (fun c1 => ?_)
  · refine lv_iconst (v := 0) hx hb dX10_within_14 (by decide) ?_
    have hP9 := hP.sub (ws' := []) [] rfl
    have hD9 := hD.sub (ws' := []) [] (by decide) rfl
    have hK9 := hK.sub (tys' := []) [] rfl
    exact W.zret (v := 0) hx hb hr rfl (fun t ht hW => ⟨⟨0, (), rfl, trivial, by rw [ht]; exact hP9, va_K.moved hW.alike hK9, hD9⟩, hS.F ht⟩) hS.2.2 dX10_within_15
  · refine lv_iload_n hx hb dX10_within_5 rfl (lv_at hl 0 rfl) ?_
    refine lv_iload_n hx hb dX10_within_6 rfl (lv_at hl 2 rfl) ?_
    refine lv_icmp_gt (tgt := 14) hx hb dX10_within_7 (by decide) (fun c2 => ?_) (fun c2 => ?_)
    · refine lv_iconst (v := 0) hx hb dX10_within_14 (by decide) ?_
      have hP9 := hP.sub (ws' := []) [] rfl
      have hD9 := hD.sub (ws' := []) [] (by decide) rfl
      have hK9 := hK.sub (tys' := []) [] rfl
      exact W.zret (v := 0) hx hb hr rfl (fun t ht hW => ⟨⟨0, (), rfl, trivial, by rw [ht]; exact hP9, va_K.moved hW.alike hK9, hD9⟩, hS.F ht⟩) hS.2.2 dX10_within_15
    · refine lv_iconst (v := 1) hx hb dX10_within_10 (by decide) ?_
      refine lv_goto (tgt := 15) hx hb dX10_within_11 (by decide) ?_
      have hP9 := hP.sub (ws' := []) [] rfl
      have hD9 := hD.sub (ws' := []) [] (by decide) rfl
      have hK9 := hK.sub (tys' := []) [] rfl
      exact W.zret (v := 1) hx hb hr rfl (fun t ht hW => ⟨⟨1, (), rfl, trivial, by rw [ht]; exact hP9, va_K.moved hW.alike hK9, hD9⟩, hS.F ht⟩) hS.2.2 dX10_within_15
theorem dX6_hasAsker_0 : decode cX6_hasAsker 0 = .ok (.iload_n 1, 1) := by decide +kernel
theorem dX6_hasAsker_1 : decode cX6_hasAsker 1 = .ok (.iconst 0, 1) := by decide +kernel
theorem dX6_hasAsker_11 : decode cX6_hasAsker 11 = .ok (.ireturn, 1) := by decide +kernel
theorem dX6_hasAsker_2 : decode cX6_hasAsker 2 = .ok (.aload_n 0, 1) := by decide +kernel
theorem dX6_hasAsker_3 : decode cX6_hasAsker 3 = .ok (.getfield 27, 3) := by decide +kernel
theorem dX6_hasAsker_6 : decode cX6_hasAsker 6 = .ok (.iconst 1, 1) := by decide +kernel
theorem dX6_hasAsker_7 : decode cX6_hasAsker 7 = .ok (.isub, 1) := by decide +kernel
theorem dX6_hasAsker_8 : decode cX6_hasAsker 8 = .ok (.invokestatic 68, 3) := by decide +kernel
def vX6_hasAsker : List Cond := .code yX6_hasAsker cX6_hasAsker 2 (some .boolean) :: ([.fieldLink RX6 27 "HookPier$Plan" "askers" "I", .code yX10_within cX10_within 3 (some .boolean), .initialized RX10, .static yX10_within] ++ wsX60)
theorem iX6_hasAsker_X6 : ∀ w ∈ wsX60, w ∈ vX6_hasAsker := fun _ h => List.mem_cons_of_mem _ (List.mem_append_right _ h)
set_option maxRecDepth 20000 in
theorem gX6_hasAsker_0 : GoodIn vX6_hasAsker vX10_within_2 := (goodIn_r (.code yX10_within cX10_within 3 (some .boolean) :: []) [2] (by decide +kernel) (by decide +kernel) : GoodIn vX6_hasAsker (.code yX10_within cX10_within 3 (some .boolean) :: []))
set_option maxHeartbeats 1000000 in
set_option maxRecDepth 100000 in
theorem kX6_hasAsker (l : Launch) (dC : Nat → ClassId) (dI : Nat → Nat → Nat) (a0 : Nat) (k1 : Int32) (g2 : Value) (g3 : Value) (g4 : Value) (g5 : Value) (g6 : Value) (g7 : Value) (g8 : Value) (g9 : Value) (g10 : Value) (g11 : Value) (g12 : Value) (g13 : Value) (g14 : Value) (g15 : Value) (g16 : Value) (g17 : Value) (g18 : Value) (sz : Nat) : Met l yX6_hasAsker vX6_hasAsker ({ frames := 1, cells := 0, slots := 0, locals := 22 }) (PC (dC, dI) [.ref a0, .int k1] sz [(a0, .inr (4, [g2, g3, g4, g5, g6, .int 0, g7, g8, g9, g10, g11, g12, g13, g14, g15, g16, g17, g18]))] []) (va_Qi (S := Unit) (fun (r : Int32) _ => r = 0) (fun _ t => BC (dC, dI) (va_A [(a0, .inr (4, [g2, g3, g4, g5, g6, .int 0, g7, g8, g9, g10, g11, g12, g13, g14, g15, g16, g17, g18]))] sz) [(a0, .inr (4, [g2, g3, g4, g5, g6, .int 0, g7, g8, g9, g10, g11, g12, g13, g14, g15, g16, g17, g18]))] [] t) (va_A [(a0, .inr (4, [g2, g3, g4, g5, g6, .int 0, g7, g8, g9, g10, g11, g12, g13, g14, g15, g16, g17, g18]))] sz)) 0 0 (va_A [(a0, .inr (4, [g2, g3, g4, g5, g6, .int 0, g7, g8, g9, g10, g11, g12, g13, g14, g15, g16, g17, g18]))] sz) := by
  refine Met.ofW (cc := cX6_hasAsker) (maxL := 2) (ret := (some .boolean)) (by decide) rfl ?_
  intro p e s m args below meth c s₁ B hml hv
  obtain ⟨rfl, hsz, hP, hK, hD0, hN⟩ := hv
  have hx := B.exec
  have hb := B.bytes
  have hr := B.returns
  have hts := atoms_spec (ws := vX6_hasAsker) B.pre
  have hown : s.vm.findClass RX6 = some m.cls := findClass_of_methodNamed B.named
  have hlocks := B.notSynchronized
  subst hsz
  have hD := hD0.self (sz := s.heap.size)
  generalize hAe : va_A [(a0, .inr (4, [g2, g3, g4, g5, g6, .int 0, g7, g8, g9, g10, g11, g12, g13, g14, g15, g16, g17, g18]))] s.heap.size = A at hD ⊢
  have hA : ∀ q : Nat, s.heap.size ≤ q → A q := fun q h => by rw [← hAe]; exact Or.inr h
  have hS : va_S A s.heap s.heap [] := va_S.rf
  have hP : va_P (dC, dI) vwCl [(a0, .inr (4, [g2, g3, g4, g5, g6, .int 0, g7, g8, g9, g10, g11, g12, g13, g14, g15, g16, g17, g18]))] s.heap := hP
  have hl := lv_entry ([.ref a0, .int k1]) (n := 2) (Nat.le_of_ble_eq_true rfl)
  rw [lg_entry_eq]
  generalize (lg_sl ([.ref a0, .int k1]) ++ List.replicate (2 - (lg_sl ([.ref a0, .int k1])).length) Slot.unset).toArray = ls at hl ⊢
  have hl : lv_has ls 2 [(0, .ref a0), (1, .int k1)] := hl
  refine lv_iload_n hx hb dX6_hasAsker_0 rfl (lv_at hl 1 rfl) ?_
  refine lv_iconst (v := 0) hx hb dX6_hasAsker_1 (by decide) ?_
  refine lv_aload_n hx hb dX6_hasAsker_2 rfl (lv_at hl 0 rfl) ?_
  refine va_get (D := (dC, dI)) (ci := 4) (v := .int 0) (C := RX6) (T := TX6) (N := 18) hx hb hts iX6_hasAsker_X6 hown hK hP 0 rfl rfl 5 (by decide) (hts (.fieldLink RX6 27 "HookPier$Plan" "askers" "I") (List.mem_of_getElem? (i := 1) rfl)) (fun _ h9 => h9) rfl dX6_hasAsker_3 ?_
  refine lv_iconst (v := 1) hx hb dX6_hasAsker_6 (by decide) ?_
  refine lv_isub hx hb dX6_hasAsker_7 ?_
  refine lv_topi (fun z1 ez1 => ?_)
  obtain rfl : z1 = (-1) := ez1.trans (by decide)
  refine cl_i (wc := []) (wr := [(a0, .inr (4, [g2, g3, g4, g5, g6, .int 0, g7, g8, g9, g10, g11, g12, g13, g14, g15, g16, g17, g18]))]) (va_runSN (As := [.int k1, .int 0, .int (-1)]) (rest := []) ⟨hx, hb, hml, hown, hts⟩ (kX10_within_2 l dC dI k1 s.heap.size) ⟨va_cnB 3 hts gX6_hasAsker_0 rfl rfl rfl (hN.1 (.methodLinkNest RX6 68 yX10_within "HookPier") (List.mem_of_getElem? (i := 10) rfl)) (hts (.initialized RX10) (List.mem_of_getElem? (i := 3) rfl)) (by decide +kernel) ⟨Nat.le_of_ble_eq_true rfl, Nat.le_of_ble_eq_true rfl⟩, (hts (.static yX10_within) (List.mem_of_getElem? (i := 4) rfl)), trivial⟩ (PS (hP.sub (ws' := []) [] rfl) (hK.sub (tys' := []) [] rfl) (hD.sub (ws' := []) [] (by decide) rfl) hN) rfl rfl hl.1 rfl (lv_room (Nat.le_of_ble_eq_true rfl)) dX6_hasAsker_8 ⟨Nat.le_of_ble_eq_true rfl, Nat.le_of_ble_eq_true rfl⟩) hP hD hK hS hA [] [0] rfl rfl (by decide) (by decide) (fun z2 _u H locs hw hP hD hK hS => ?_)
  have hP : va_P (dC, dI) vwCl [(a0, .inr (4, [g2, g3, g4, g5, g6, .int 0, g7, g8, g9, g10, g11, g12, g13, g14, g15, g16, g17, g18]))] H := hP
  have hD : va_D A [(a0, .inr (4, [g2, g3, g4, g5, g6, .int 0, g7, g8, g9, g10, g11, g12, g13, g14, g15, g16, g17, g18]))] := hD
  have hK : va_K (dC, dI) vwCl [] s := hK
  obtain rfl : z2 = 0 := hw
  have hP9 := hP.sub (ws' := [(a0, .inr (4, [g2, g3, g4, g5, g6, .int 0, g7, g8, g9, g10, g11, g12, g13, g14, g15, g16, g17, g18]))]) [0] rfl
  have hD9 := hD.sub (ws' := [(a0, .inr (4, [g2, g3, g4, g5, g6, .int 0, g7, g8, g9, g10, g11, g12, g13, g14, g15, g16, g17, g18]))]) [0] (by decide) rfl
  have hK9 := hK.sub (tys' := []) [] rfl
  exact W.zret (v := 0) hx hb hr rfl (fun t ht hW => ⟨⟨0, (), rfl, rfl, by rw [ht]; exact hP9, va_K.moved hW.alike hK9, hD9⟩, hS.F ht⟩) hS.2.2 dX6_hasAsker_11
theorem dX10_askerTrouble_0 : decode cX10_askerTrouble 0 = .ok (.aload_n 0, 1) := by decide +kernel
theorem dX10_askerTrouble_1 : decode cX10_askerTrouble 1 = .ok (.getfield 10, 3) := by decide +kernel
theorem dX10_askerTrouble_15 : decode cX10_askerTrouble 15 = .ok (.iconst 1, 1) := by decide +kernel
theorem dX10_askerTrouble_16 : decode cX10_askerTrouble 16 = .ok (.ireturn, 1) := by decide +kernel
theorem dX10_askerTrouble_4 : decode cX10_askerTrouble 4 = .ok (.iload_n 1, 1) := by decide +kernel
theorem dX10_askerTrouble_5 : decode cX10_askerTrouble 5 = .ok (.invokevirtual 236, 3) := by decide +kernel
theorem dX10_askerTrouble_8 : decode cX10_askerTrouble 8 = .ok (.ifCond .eq 7, 3) := by decide +kernel
def vX10_askerTrouble : List Cond := .code yX10_askerTrouble cX10_askerTrouble 2 (some .int) :: ([.fieldLink RX10 10 "HookPier" "plan" "LHookPier$Plan;", .methodLink RX10 236 yX6_hasAsker, .instanceMethod yX6_hasAsker, .selects RX6 yX6_hasAsker yX6_hasAsker, .initialized RX6, .code yX6_hasAsker cX6_hasAsker 2 (some .boolean), .fieldLink RX6 27 "HookPier$Plan" "askers" "I", .code yX10_within cX10_within 3 (some .boolean), .initialized RX10, .static yX10_within] ++ wsX100 ++ wsX60)
theorem iX10_askerTrouble_X10 : ∀ w ∈ wsX100, w ∈ vX10_askerTrouble := fun _ h => List.mem_cons_of_mem _ (List.mem_append_left _ (List.mem_append_right _ h))
theorem iX10_askerTrouble_X6 : ∀ w ∈ wsX60, w ∈ vX10_askerTrouble := fun _ h => List.mem_cons_of_mem _ (List.mem_append_right _ h)
set_option maxRecDepth 20000 in
theorem gX10_askerTrouble_0 : GoodIn vX10_askerTrouble (wsV RX10 236 RX6 yX6_hasAsker vX6_hasAsker) := goodIn_app (goodIn_r [.methodLink RX10 236 yX6_hasAsker, .instanceMethod yX6_hasAsker, .selects RX6 yX6_hasAsker yX6_hasAsker, .initialized RX6] [2, 3, 4, 5] (by decide +kernel) (by decide +kernel)) (goodIn_ca (goodIn_r (.code yX6_hasAsker cX6_hasAsker 2 (some .boolean) :: [.fieldLink RX6 27 "HookPier$Plan" "askers" "I", .code yX10_within cX10_within 3 (some .boolean), .initialized RX10, .static yX10_within]) [6, 7, 8, 9, 10] (by decide +kernel) (by decide +kernel) : GoodIn vX10_askerTrouble (.code yX6_hasAsker cX6_hasAsker 2 (some .boolean) :: [.fieldLink RX6 27 "HookPier$Plan" "askers" "I", .code yX10_within cX10_within 3 (some .boolean), .initialized RX10, .static yX10_within])) (goodIn_sub iX10_askerTrouble_X6 (by decide +kernel)))
set_option maxHeartbeats 1000000 in
set_option maxRecDepth 100000 in
theorem kX10_askerTrouble (l : Launch) (dC : Nat → ClassId) (dI : Nat → Nat → Nat) (a0 : Nat) (k1 : Int32) (a2 : Nat) (g3 : Value) (g4 : Value) (g5 : Value) (g6 : Value) (g7 : Value) (g8 : Value) (g9 : Value) (g10 : Value) (g11 : Value) (g12 : Value) (g13 : Value) (g14 : Value) (g15 : Value) (g16 : Value) (g17 : Value) (g18 : Value) (g19 : Value) (g20 : Value) (g21 : Value) (g22 : Value) (g23 : Value) (g24 : Value) (g25 : Value) (g26 : Value) (g27 : Value) (g28 : Value) (sz : Nat) : Met l yX10_askerTrouble vX10_askerTrouble ({ frames := 2, cells := 0, slots := 0, locals := 43 }) (PC (dC, dI) [.ref a0, .int k1] sz [(a0, .inr (7, [.ref a2, g3, g4, g5, g6, g7, g8, g9, g10, g11])), (a2, .inr (4, [g12, g13, g14, g15, g16, .int 0, g17, g18, g19, g20, g21, g22, g23, g24, g25, g26, g27, g28]))] []) (va_Qi (S := Unit) (fun (r : Int32) _ => r = 1) (fun _ t => BC (dC, dI) (va_A [(a0, .inr (7, [.ref a2, g3, g4, g5, g6, g7, g8, g9, g10, g11])), (a2, .inr (4, [g12, g13, g14, g15, g16, .int 0, g17, g18, g19, g20, g21, g22, g23, g24, g25, g26, g27, g28]))] sz) [(a0, .inr (7, [.ref a2, g3, g4, g5, g6, g7, g8, g9, g10, g11])), (a2, .inr (4, [g12, g13, g14, g15, g16, .int 0, g17, g18, g19, g20, g21, g22, g23, g24, g25, g26, g27, g28]))] [] t) (va_A [(a0, .inr (7, [.ref a2, g3, g4, g5, g6, g7, g8, g9, g10, g11])), (a2, .inr (4, [g12, g13, g14, g15, g16, .int 0, g17, g18, g19, g20, g21, g22, g23, g24, g25, g26, g27, g28]))] sz)) 0 0 (va_A [(a0, .inr (7, [.ref a2, g3, g4, g5, g6, g7, g8, g9, g10, g11])), (a2, .inr (4, [g12, g13, g14, g15, g16, .int 0, g17, g18, g19, g20, g21, g22, g23, g24, g25, g26, g27, g28]))] sz) := by
  refine Met.ofW (cc := cX10_askerTrouble) (maxL := 2) (ret := (some .int)) (by decide) rfl ?_
  intro p e s m args below meth c s₁ B hml hv
  obtain ⟨rfl, hsz, hP, hK, hD0, hN⟩ := hv
  have hx := B.exec
  have hb := B.bytes
  have hr := B.returns
  have hts := atoms_spec (ws := vX10_askerTrouble) B.pre
  have hown : s.vm.findClass RX10 = some m.cls := findClass_of_methodNamed B.named
  have hlocks := B.notSynchronized
  subst hsz
  have hD := hD0.self (sz := s.heap.size)
  generalize hAe : va_A [(a0, .inr (7, [.ref a2, g3, g4, g5, g6, g7, g8, g9, g10, g11])), (a2, .inr (4, [g12, g13, g14, g15, g16, .int 0, g17, g18, g19, g20, g21, g22, g23, g24, g25, g26, g27, g28]))] s.heap.size = A at hD ⊢
  have hA : ∀ q : Nat, s.heap.size ≤ q → A q := fun q h => by rw [← hAe]; exact Or.inr h
  have hS : va_S A s.heap s.heap [] := va_S.rf
  have hP : va_P (dC, dI) vwCl [(a0, .inr (7, [.ref a2, g3, g4, g5, g6, g7, g8, g9, g10, g11])), (a2, .inr (4, [g12, g13, g14, g15, g16, .int 0, g17, g18, g19, g20, g21, g22, g23, g24, g25, g26, g27, g28]))] s.heap := hP
  have hl := lv_entry ([.ref a0, .int k1]) (n := 2) (Nat.le_of_ble_eq_true rfl)
  rw [lg_entry_eq]
  generalize (lg_sl ([.ref a0, .int k1]) ++ List.replicate (2 - (lg_sl ([.ref a0, .int k1])).length) Slot.unset).toArray = ls at hl ⊢
  have hl : lv_has ls 2 [(0, .ref a0), (1, .int k1)] := hl
  refine lv_aload_n hx hb dX10_askerTrouble_0 rfl (lv_at hl 0 rfl) ?_
  refine va_get (D := (dC, dI)) (ci := 7) (v := .ref a2) (C := RX10) (T := TX10) (N := 10) hx hb hts iX10_askerTrouble_X10 hown hK hP 0 rfl rfl 0 (by decide) (hts (.fieldLink RX10 10 "HookPier" "plan" "LHookPier$Plan;") (List.mem_of_getElem? (i := 1) rfl)) (fun _ h9 => h9) rfl dX10_askerTrouble_1 ?_
  refine lv_iload_n hx hb dX10_askerTrouble_4 rfl (lv_at hl 1 rfl) ?_
  refine cl_i (wc := [(a2, .inr (4, [g12, g13, g14, g15, g16, .int 0, g17, g18, g19, g20, g21, g22, g23, g24, g25, g26, g27, g28]))]) (wr := [(a0, .inr (7, [.ref a2, g3, g4, g5, g6, g7, g8, g9, g10, g11]))]) (va_runV (As := [.int k1]) (rest := []) ⟨hx, hb, hml, hown, hts⟩ (kX6_hasAsker l dC dI a2 k1 (g12) (g13) (g14) (g15) (g16) (g17) (g18) (g19) (g20) (g21) (g22) (g23) (g24) (g25) (g26) (g27) (g28) s.heap.size) (cwV 1 hts gX10_askerTrouble_0 rfl rfl rfl (by decide +kernel) ⟨Nat.le_of_ble_eq_true rfl, Nat.le_of_ble_eq_true rfl⟩) (PV (hP.sub (ws' := [(a2, .inr (4, [g12, g13, g14, g15, g16, .int 0, g17, g18, g19, g20, g21, g22, g23, g24, g25, g26, g27, g28]))]) [1] rfl) (hK.sub (tys' := []) [] rfl) (hD.sub (ws' := [(a2, .inr (4, [g12, g13, g14, g15, g16, .int 0, g17, g18, g19, g20, g21, g22, g23, g24, g25, g26, g27, g28]))]) [1] (by decide) rfl) hN 0 rfl rfl) rfl rfl hl.1 rfl (lv_room (Nat.le_of_ble_eq_true rfl)) dX10_askerTrouble_5 ⟨Nat.le_of_ble_eq_true rfl, Nat.le_of_ble_eq_true rfl⟩) hP hD hK hS hA [1] [0] rfl rfl (by decide) (by decide) (fun z1 _u H locs hw hP hD hK hS => ?_)
  have hP : va_P (dC, dI) vwCl [(a0, .inr (7, [.ref a2, g3, g4, g5, g6, g7, g8, g9, g10, g11])), (a2, .inr (4, [g12, g13, g14, g15, g16, .int 0, g17, g18, g19, g20, g21, g22, g23, g24, g25, g26, g27, g28]))] H := hP
  have hD : va_D A [(a0, .inr (7, [.ref a2, g3, g4, g5, g6, g7, g8, g9, g10, g11])), (a2, .inr (4, [g12, g13, g14, g15, g16, .int 0, g17, g18, g19, g20, g21, g22, g23, g24, g25, g26, g27, g28]))] := hD
  have hK : va_K (dC, dI) vwCl [] s := hK
  obtain rfl : z1 = 0 := hw
  refine lv_if_eq (tgt := 15) hx hb dX10_askerTrouble_8 (by decide) (fun _ => ?_) (fun c2 => absurd c2 (by decide))
  refine lv_iconst (v := 1) hx hb dX10_askerTrouble_15 (by decide) ?_
  have hP9 := hP.sub (ws' := [(a0, .inr (7, [.ref a2, g3, g4, g5, g6, g7, g8, g9, g10, g11])), (a2, .inr (4, [g12, g13, g14, g15, g16, .int 0, g17, g18, g19, g20, g21, g22, g23, g24, g25, g26, g27, g28]))]) [0, 1] rfl
  have hD9 := hD.sub (ws' := [(a0, .inr (7, [.ref a2, g3, g4, g5, g6, g7, g8, g9, g10, g11])), (a2, .inr (4, [g12, g13, g14, g15, g16, .int 0, g17, g18, g19, g20, g21, g22, g23, g24, g25, g26, g27, g28]))]) [0, 1] (by decide) rfl
  have hK9 := hK.sub (tys' := []) [] rfl
  exact W.iret (v := 1) hx hb hr (fun t ht hW => ⟨⟨1, (), rfl, rfl, by rw [ht]; exact hP9, va_K.moved hW.alike hK9, hD9⟩, hS.F ht⟩) hS.2.2 dX10_askerTrouble_16
theorem dX10_asker_0 : decode cX10_asker 0 = .ok (.aload_n 0, 1) := by decide +kernel
theorem dX10_asker_1 : decode cX10_asker 1 = .ok (.iload_n 2, 1) := by decide +kernel
theorem dX10_asker_10 : decode cX10_asker 10 = .ok (.aload_n 0, 1) := by decide +kernel
theorem dX10_asker_11 : decode cX10_asker 11 = .ok (.iload_n 1, 1) := by decide +kernel
theorem dX10_asker_12 : decode cX10_asker 12 = .ok (.invokevirtual 143, 3) := by decide +kernel
theorem dX10_asker_15 : decode cX10_asker 15 = .ok (.goto 4, 3) := by decide +kernel
theorem dX10_asker_18 : decode cX10_asker 18 = .ok (.iconst 1, 1) := by decide +kernel
theorem dX10_asker_19 : decode cX10_asker 19 = .ok (.invokevirtual 79, 3) := by decide +kernel
theorem dX10_asker_2 : decode cX10_asker 2 = .ok (.iconst 0, 1) := by decide +kernel
theorem dX10_asker_22 : decode cX10_asker 22 = .ok (.ifCond .eq 5, 3) := by decide +kernel
theorem dX10_asker_25 : decode cX10_asker 25 = .ok (.iconst (-1), 1) := by decide +kernel
theorem dX10_asker_26 : decode cX10_asker 26 = .ok (.ireturn, 1) := by decide +kernel
theorem dX10_asker_3 : decode cX10_asker 3 = .ok (.iconst 5, 1) := by decide +kernel
theorem dX10_asker_4 : decode cX10_asker 4 = .ok (.invokestatic 75, 3) := by decide +kernel
theorem dX10_asker_7 : decode cX10_asker 7 = .ok (.ifCond .eq 11, 3) := by decide +kernel
def vX10_asker : List Cond := .code yX10_asker cX10_asker 4 (some .int) :: ([.methodLink RX10 75 yX10_within, .static yX10_within, .initialized RX10, .code yX10_within cX10_within 3 (some .boolean), .methodLink RX10 79 yX10_refused, .instanceMethod yX10_refused, .selects RX10 yX10_refused yX10_refused, .code yX10_refused cX10_refused 2 (some .boolean), .fieldLink RX10 61 "HookPier" "troubleNow" "I", .methodLink RX10 143 yX10_askerTrouble, .instanceMethod yX10_askerTrouble, .selects RX10 yX10_askerTrouble yX10_askerTrouble, .code yX10_askerTrouble cX10_askerTrouble 2 (some .int), .fieldLink RX10 10 "HookPier" "plan" "LHookPier$Plan;", .methodLink RX10 236 yX6_hasAsker, .instanceMethod yX6_hasAsker, .selects RX6 yX6_hasAsker yX6_hasAsker, .initialized RX6, .code yX6_hasAsker cX6_hasAsker 2 (some .boolean), .fieldLink RX6 27 "HookPier$Plan" "askers" "I"] ++ wsX100 ++ wsX60)
theorem iX10_asker_X10 : ∀ w ∈ wsX100, w ∈ vX10_asker := fun _ h => List.mem_cons_of_mem _ (List.mem_append_left _ (List.mem_append_right _ h))
theorem iX10_asker_X6 : ∀ w ∈ wsX60, w ∈ vX10_asker := fun _ h => List.mem_cons_of_mem _ (List.mem_append_right _ h)
set_option maxRecDepth 20000 in
theorem gX10_asker_0 : GoodIn vX10_asker (va_wsS RX10 75 yX10_within vX10_within_3) := goodIn_app (goodIn_r [.methodLink RX10 75 yX10_within, .static yX10_within, .initialized RX10] [1, 2, 3] (by decide +kernel) (by decide +kernel)) (goodIn_r (.code yX10_within cX10_within 3 (some .boolean) :: []) [4] (by decide +kernel) (by decide +kernel) : GoodIn vX10_asker (.code yX10_within cX10_within 3 (some .boolean) :: []))
set_option maxRecDepth 20000 in
theorem gX10_asker_1 : GoodIn vX10_asker (wsV RX10 79 RX10 yX10_refused vX10_refused_3) := goodIn_app (goodIn_r [.methodLink RX10 79 yX10_refused, .instanceMethod yX10_refused, .selects RX10 yX10_refused yX10_refused, .initialized RX10] [5, 6, 7, 3] (by decide +kernel) (by decide +kernel)) (goodIn_ca (goodIn_r (.code yX10_refused cX10_refused 2 (some .boolean) :: [.fieldLink RX10 61 "HookPier" "troubleNow" "I"]) [8, 9] (by decide +kernel) (by decide +kernel) : GoodIn vX10_asker (.code yX10_refused cX10_refused 2 (some .boolean) :: [.fieldLink RX10 61 "HookPier" "troubleNow" "I"])) (goodIn_sub iX10_asker_X10 (by decide +kernel)))
set_option maxRecDepth 20000 in
theorem gX10_asker_2 : GoodIn vX10_asker (wsV RX10 143 RX10 yX10_askerTrouble vX10_askerTrouble) := goodIn_app (goodIn_r [.methodLink RX10 143 yX10_askerTrouble, .instanceMethod yX10_askerTrouble, .selects RX10 yX10_askerTrouble yX10_askerTrouble, .initialized RX10] [10, 11, 12, 3] (by decide +kernel) (by decide +kernel)) (goodIn_ca (goodIn_ca (goodIn_r (.code yX10_askerTrouble cX10_askerTrouble 2 (some .int) :: [.fieldLink RX10 10 "HookPier" "plan" "LHookPier$Plan;", .methodLink RX10 236 yX6_hasAsker, .instanceMethod yX6_hasAsker, .selects RX6 yX6_hasAsker yX6_hasAsker, .initialized RX6, .code yX6_hasAsker cX6_hasAsker 2 (some .boolean), .fieldLink RX6 27 "HookPier$Plan" "askers" "I", .code yX10_within cX10_within 3 (some .boolean), .initialized RX10, .static yX10_within]) [13, 14, 15, 16, 17, 18, 19, 20, 4, 3, 2] (by decide +kernel) (by decide +kernel) : GoodIn vX10_asker (.code yX10_askerTrouble cX10_askerTrouble 2 (some .int) :: [.fieldLink RX10 10 "HookPier" "plan" "LHookPier$Plan;", .methodLink RX10 236 yX6_hasAsker, .instanceMethod yX6_hasAsker, .selects RX6 yX6_hasAsker yX6_hasAsker, .initialized RX6, .code yX6_hasAsker cX6_hasAsker 2 (some .boolean), .fieldLink RX6 27 "HookPier$Plan" "askers" "I", .code yX10_within cX10_within 3 (some .boolean), .initialized RX10, .static yX10_within])) (goodIn_sub iX10_asker_X10 (by decide +kernel))) (goodIn_sub iX10_asker_X6 (by decide +kernel)))
set_option maxHeartbeats 1000000 in
set_option maxRecDepth 100000 in
theorem kX10_asker (l : Launch) (dC : Nat → ClassId) (dI : Nat → Nat → Nat) (a0 : Nat) (k1 : Int32) (k2 : Int32) (a3 : Nat) (g4 : Value) (g5 : Value) (g6 : Value) (g7 : Value) (g8 : Value) (g9 : Value) (g10 : Value) (g11 : Value) (g12 : Value) (g13 : Value) (g14 : Value) (g15 : Value) (g16 : Value) (g17 : Value) (g18 : Value) (g19 : Value) (g20 : Value) (g21 : Value) (g22 : Value) (g23 : Value) (g24 : Value) (g25 : Value) (g26 : Value) (g27 : Value) (g28 : Value) (g29 : Value) (sz : Nat) : Met l yX10_asker vX10_asker ({ frames := 3, cells := 0, slots := 0, locals := 64 }) (PC (dC, dI) [.ref a0, .int k1, .int k2] sz [(a0, .inr (7, [.ref a3, g4, g5, g6, g7, g8, g9, g10, g11, g12])), (a3, .inr (4, [g13, g14, g15, g16, g17, .int 0, g18, g19, g20, g21, g22, g23, g24, g25, g26, g27, g28, g29]))] []) (va_Qi (S := Unit) (fun (r : Int32) _ => r = (-1)) (fun _ t => BC (dC, dI) (va_A [(a0, .inr (7, [.ref a3, g4, g5, g6, g7, g8, g9, g10, g11, g12])), (a3, .inr (4, [g13, g14, g15, g16, g17, .int 0, g18, g19, g20, g21, g22, g23, g24, g25, g26, g27, g28, g29]))] sz) [] [] t) (va_A [(a0, .inr (7, [.ref a3, g4, g5, g6, g7, g8, g9, g10, g11, g12])), (a3, .inr (4, [g13, g14, g15, g16, g17, .int 0, g18, g19, g20, g21, g22, g23, g24, g25, g26, g27, g28, g29]))] sz)) 0 0 (va_A [(a0, .inr (7, [.ref a3, g4, g5, g6, g7, g8, g9, g10, g11, g12])), (a3, .inr (4, [g13, g14, g15, g16, g17, .int 0, g18, g19, g20, g21, g22, g23, g24, g25, g26, g27, g28, g29]))] sz) := by
  refine Met.ofW (cc := cX10_asker) (maxL := 4) (ret := (some .int)) (by decide) rfl ?_
  intro p e s m args below meth c s₁ B hml hv
  obtain ⟨rfl, hsz, hP, hK, hD0, hN⟩ := hv
  have hx := B.exec
  have hb := B.bytes
  have hr := B.returns
  have hts := atoms_spec (ws := vX10_asker) B.pre
  have hown : s.vm.findClass RX10 = some m.cls := findClass_of_methodNamed B.named
  have hlocks := B.notSynchronized
  subst hsz
  have hD := hD0.self (sz := s.heap.size)
  generalize hAe : va_A [(a0, .inr (7, [.ref a3, g4, g5, g6, g7, g8, g9, g10, g11, g12])), (a3, .inr (4, [g13, g14, g15, g16, g17, .int 0, g18, g19, g20, g21, g22, g23, g24, g25, g26, g27, g28, g29]))] s.heap.size = A at hD ⊢
  have hA : ∀ q : Nat, s.heap.size ≤ q → A q := fun q h => by rw [← hAe]; exact Or.inr h
  have hS : va_S A s.heap s.heap [] := va_S.rf
  have hP : va_P (dC, dI) vwCl [(a0, .inr (7, [.ref a3, g4, g5, g6, g7, g8, g9, g10, g11, g12])), (a3, .inr (4, [g13, g14, g15, g16, g17, .int 0, g18, g19, g20, g21, g22, g23, g24, g25, g26, g27, g28, g29]))] s.heap := hP
  have hl := lv_entry ([.ref a0, .int k1, .int k2]) (n := 4) (Nat.le_of_ble_eq_true rfl)
  rw [lg_entry_eq]
  generalize (lg_sl ([.ref a0, .int k1, .int k2]) ++ List.replicate (4 - (lg_sl ([.ref a0, .int k1, .int k2])).length) Slot.unset).toArray = ls at hl ⊢
  have hl : lv_has ls 4 [(0, .ref a0), (1, .int k1), (2, .int k2)] := hl
  refine lv_aload_n hx hb dX10_asker_0 rfl (lv_at hl 0 rfl) ?_
  refine lv_iload_n hx hb dX10_asker_1 rfl (lv_at hl 2 rfl) ?_
  refine lv_iconst (v := 0) hx hb dX10_asker_2 (by decide) ?_
  refine lv_iconst (v := 5) hx hb dX10_asker_3 (by decide) ?_
  refine cl_i (wc := []) (wr := [(a0, .inr (7, [.ref a3, g4, g5, g6, g7, g8, g9, g10, g11, g12])), (a3, .inr (4, [g13, g14, g15, g16, g17, .int 0, g18, g19, g20, g21, g22, g23, g24, g25, g26, g27, g28, g29]))]) (va_runS (As := [.int k2, .int 0, .int 5]) (rest := [.ref a0]) ⟨hx, hb, hml, hown, hts⟩ (kX10_within_3 l dC dI k2 s.heap.size) (va_cwS 3 hts gX10_asker_0 rfl rfl rfl (by decide +kernel) ⟨Nat.le_of_ble_eq_true rfl, Nat.le_of_ble_eq_true rfl⟩) (PS (hP.sub (ws' := []) [] rfl) (hK.sub (tys' := []) [] rfl) (hD.sub (ws' := []) [] (by decide) rfl) hN) rfl rfl hl.1 rfl (lv_room (Nat.le_of_ble_eq_true rfl)) dX10_asker_4 ⟨Nat.le_of_ble_eq_true rfl, Nat.le_of_ble_eq_true rfl⟩) hP hD hK hS hA [] [0, 1] rfl rfl (by decide) (by decide) (fun z1 _u H locs hw hP hD hK hS => ?_)
  have hP : va_P (dC, dI) vwCl [(a0, .inr (7, [.ref a3, g4, g5, g6, g7, g8, g9, g10, g11, g12])), (a3, .inr (4, [g13, g14, g15, g16, g17, .int 0, g18, g19, g20, g21, g22, g23, g24, g25, g26, g27, g28, g29]))] H := hP
  have hD : va_D A [(a0, .inr (7, [.ref a3, g4, g5, g6, g7, g8, g9, g10, g11, g12])), (a3, .inr (4, [g13, g14, g15, g16, g17, .int 0, g18, g19, g20, g21, g22, g23, g24, g25, g26, g27, g28, g29]))] := hD
  have hK : va_K (dC, dI) vwCl [] s := hK
  refine lv_if_eq (tgt := 18) hx hb dX10_asker_7 (by decide) (fun c2 => ?_) (fun c2 => ?_)
  · obtain rfl : z1 = 0 := (by simp only [fa_lt, fa_le, fa_eq, ltv_0] at c2 ⊢; omega)
    refine lv_iconst (v := 1) hx hb dX10_asker_18 (by decide) ?_
    refine cl_i (wc := [(a0, .inr (7, [.ref a3, g4, g5, g6, g7, g8, g9, g10, g11, g12]))]) (wr := [(a3, .inr (4, [g13, g14, g15, g16, g17, .int 0, g18, g19, g20, g21, g22, g23, g24, g25, g26, g27, g28, g29]))]) (va_runV (As := [.int 1]) (rest := []) ⟨hx, hb, hml, hown, hts⟩ (kX10_refused_3 l dC dI a0 (.ref a3) (g4) (g5) (g6) (g7) (g8) (g9) (g10) (g11) (g12) H.size) (cwV 1 hts gX10_asker_1 rfl rfl rfl (by decide +kernel) ⟨Nat.le_of_ble_eq_true rfl, Nat.le_of_ble_eq_true rfl⟩) (PV (hP.sub (ws' := [(a0, .inr (7, [.ref a3, g4, g5, g6, g7, g8, g9, g10, g11, g12]))]) [0] rfl) (hK.sub (tys' := []) [] rfl) (hD.sub (ws' := [(a0, .inr (7, [.ref a3, g4, g5, g6, g7, g8, g9, g10, g11, g12]))]) [0] (by decide) rfl) hN 0 rfl rfl) rfl rfl hl.1 rfl (lv_room (Nat.le_of_ble_eq_true rfl)) dX10_asker_19 ⟨Nat.le_of_ble_eq_true rfl, Nat.le_of_ble_eq_true rfl⟩) hP hD hK hS hA [0] [1] rfl rfl (by decide) (by decide) (fun z3 _u H locs hw hP hD hK hS => ?_)
    have hP : va_P (dC, dI) vwCl [(a3, .inr (4, [g13, g14, g15, g16, g17, .int 0, g18, g19, g20, g21, g22, g23, g24, g25, g26, g27, g28, g29])), (a0, .inr (7, [.ref a3, g4, g5, g6, g7, g8, g9, g10, .int 1, g12]))] H := hP
    have hD : va_D A [(a3, .inr (4, [g13, g14, g15, g16, g17, .int 0, g18, g19, g20, g21, g22, g23, g24, g25, g26, g27, g28, g29])), (a0, .inr (7, [.ref a3, g4, g5, g6, g7, g8, g9, g10, .int 1, g12]))] := hD
    have hK : va_K (dC, dI) vwCl [] s := hK
    obtain rfl : z3 = 1 := hw
    refine lv_if_eq (tgt := 27) hx hb dX10_asker_22 (by decide) (fun c4 => absurd c4 (by decide)) (fun _ => ?_)
    refine lv_iconst (v := (-1)) hx hb dX10_asker_25 (by decide) ?_
    have hP9 := hP.sub (ws' := []) [] rfl
    have hD9 := hD.sub (ws' := []) [] (by decide) rfl
    have hK9 := hK.sub (tys' := []) [] rfl
    exact W.iret (v := (-1)) hx hb hr (fun t ht hW => ⟨⟨(-1), (), rfl, rfl, by rw [ht]; exact hP9, va_K.moved hW.alike hK9, hD9⟩, hS.F ht⟩) hS.2.2 dX10_asker_26
  · refine lv_aload_n hx hb dX10_asker_10 rfl (lv_at hl 0 rfl) ?_
    refine lv_iload_n hx hb dX10_asker_11 rfl (lv_at hl 1 rfl) ?_
    refine cl_i (wc := [(a0, .inr (7, [.ref a3, g4, g5, g6, g7, g8, g9, g10, g11, g12])), (a3, .inr (4, [g13, g14, g15, g16, g17, .int 0, g18, g19, g20, g21, g22, g23, g24, g25, g26, g27, g28, g29]))]) (wr := []) (va_runV (As := [.int k1]) (rest := [.ref a0]) ⟨hx, hb, hml, hown, hts⟩ (kX10_askerTrouble l dC dI a0 k1 a3 (g4) (g5) (g6) (g7) (g8) (g9) (g10) (g11) (g12) (g13) (g14) (g15) (g16) (g17) (g18) (g19) (g20) (g21) (g22) (g23) (g24) (g25) (g26) (g27) (g28) (g29) H.size) (cwV 1 hts gX10_asker_2 rfl rfl rfl (by decide +kernel) ⟨Nat.le_of_ble_eq_true rfl, Nat.le_of_ble_eq_true rfl⟩) (PV (hP.sub (ws' := [(a0, .inr (7, [.ref a3, g4, g5, g6, g7, g8, g9, g10, g11, g12])), (a3, .inr (4, [g13, g14, g15, g16, g17, .int 0, g18, g19, g20, g21, g22, g23, g24, g25, g26, g27, g28, g29]))]) [0, 1] rfl) (hK.sub (tys' := []) [] rfl) (hD.sub (ws' := [(a0, .inr (7, [.ref a3, g4, g5, g6, g7, g8, g9, g10, g11, g12])), (a3, .inr (4, [g13, g14, g15, g16, g17, .int 0, g18, g19, g20, g21, g22, g23, g24, g25, g26, g27, g28, g29]))]) [0, 1] (by decide) rfl) hN 0 rfl rfl) rfl rfl hl.1 rfl (lv_room (Nat.le_of_ble_eq_true rfl)) dX10_asker_12 ⟨Nat.le_of_ble_eq_true rfl, Nat.le_of_ble_eq_true rfl⟩) hP hD hK hS hA [0, 1] [] rfl rfl (by decide) (by decide) (fun z5 _u H locs hw hP hD hK hS => ?_)
    have hP : va_P (dC, dI) vwCl [(a0, .inr (7, [.ref a3, g4, g5, g6, g7, g8, g9, g10, g11, g12])), (a3, .inr (4, [g13, g14, g15, g16, g17, .int 0, g18, g19, g20, g21, g22, g23, g24, g25, g26, g27, g28, g29]))] H := hP
    have hD : va_D A [(a0, .inr (7, [.ref a3, g4, g5, g6, g7, g8, g9, g10, g11, g12])), (a3, .inr (4, [g13, g14, g15, g16, g17, .int 0, g18, g19, g20, g21, g22, g23, g24, g25, g26, g27, g28, g29]))] := hD
    have hK : va_K (dC, dI) vwCl [] s := hK
    obtain rfl : z5 = 1 := hw
    refine lv_goto (tgt := 19) hx hb dX10_asker_15 (by decide) ?_
    refine cl_i (wc := [(a0, .inr (7, [.ref a3, g4, g5, g6, g7, g8, g9, g10, g11, g12]))]) (wr := [(a3, .inr (4, [g13, g14, g15, g16, g17, .int 0, g18, g19, g20, g21, g22, g23, g24, g25, g26, g27, g28, g29]))]) (va_runV (As := [.int 1]) (rest := []) ⟨hx, hb, hml, hown, hts⟩ (kX10_refused_3 l dC dI a0 (.ref a3) (g4) (g5) (g6) (g7) (g8) (g9) (g10) (g11) (g12) H.size) (cwV 1 hts gX10_asker_1 rfl rfl rfl (by decide +kernel) ⟨Nat.le_of_ble_eq_true rfl, Nat.le_of_ble_eq_true rfl⟩) (PV (hP.sub (ws' := [(a0, .inr (7, [.ref a3, g4, g5, g6, g7, g8, g9, g10, g11, g12]))]) [0] rfl) (hK.sub (tys' := []) [] rfl) (hD.sub (ws' := [(a0, .inr (7, [.ref a3, g4, g5, g6, g7, g8, g9, g10, g11, g12]))]) [0] (by decide) rfl) hN 0 rfl rfl) rfl rfl hl.1 rfl (lv_room (Nat.le_of_ble_eq_true rfl)) dX10_asker_19 ⟨Nat.le_of_ble_eq_true rfl, Nat.le_of_ble_eq_true rfl⟩) hP hD hK hS hA [0] [1] rfl rfl (by decide) (by decide) (fun z6 _u H locs hw hP hD hK hS => ?_)
    have hP : va_P (dC, dI) vwCl [(a3, .inr (4, [g13, g14, g15, g16, g17, .int 0, g18, g19, g20, g21, g22, g23, g24, g25, g26, g27, g28, g29])), (a0, .inr (7, [.ref a3, g4, g5, g6, g7, g8, g9, g10, .int 1, g12]))] H := hP
    have hD : va_D A [(a3, .inr (4, [g13, g14, g15, g16, g17, .int 0, g18, g19, g20, g21, g22, g23, g24, g25, g26, g27, g28, g29])), (a0, .inr (7, [.ref a3, g4, g5, g6, g7, g8, g9, g10, .int 1, g12]))] := hD
    have hK : va_K (dC, dI) vwCl [] s := hK
    obtain rfl : z6 = 1 := hw
    refine lv_if_eq (tgt := 27) hx hb dX10_asker_22 (by decide) (fun c7 => absurd c7 (by decide)) (fun _ => ?_)
    refine lv_iconst (v := (-1)) hx hb dX10_asker_25 (by decide) ?_
    have hP9 := hP.sub (ws' := []) [] rfl
    have hD9 := hD.sub (ws' := []) [] (by decide) rfl
    have hK9 := hK.sub (tys' := []) [] rfl
    exact W.iret (v := (-1)) hx hb hr (fun t ht hW => ⟨⟨(-1), (), rfl, rfl, by rw [ht]; exact hP9, va_K.moved hW.alike hK9, hD9⟩, hS.F ht⟩) hS.2.2 dX10_asker_26
