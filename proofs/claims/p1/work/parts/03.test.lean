theorem dX10_within_0 : decode cX10_within 0 = .ok (.iload_n 0, 1) := by decide +kernel
theorem dX10_within_1 : decode cX10_within 1 = .ok (.iload_n 1, 1) := by decide +kernel
theorem dX10_within_10 : decode cX10_within 10 = .ok (.iconst 1, 1) := by decide +kernel
theorem dX10_within_11 : decode cX10_within 11 = .ok (.goto 4, 3) := by decide +kernel
theorem dX10_within_14 : decode cX10_within 14 = .ok (.iconst 0, 1) := by decide +kernel
theorem dX10_within_15 : decode cX10_within 15 = .ok (.ireturn, 1) := by decide +kernel
theorem dX10_within_2 : decode cX10_within 2 = .ok (.if_icmp .lt 12, 3) := by decide +kernel
theorem dX10_within_5 : decode cX10_within 5 = .ok (.iload_n 0, 1) := by decide +kernel
theorem dX10_within_6 : decode cX10_within 6 = .ok (.iload_n 2, 1) := by decide +kernel
theorem dX10_within_7 : decode cX10_within 7 = .ok (.if_icmp .gt 7, 3) := by decide +kernel
def vX10_within : List Cond := .code yX10_within cX10_within 3 (some .boolean) :: ([])
set_option maxHeartbeats 4000000 in
set_option maxRecDepth 100000 in
theorem kX10_within (l : Launch) (dC : Nat → ClassId) (dI : Nat → Nat → Nat) (k0 : Int32) (sz : Nat) : Met l yX10_within vX10_within ({ frames := 0, cells := 0, slots := 0, locals := 0 }) (PC (dC, dI) [.int k0, .int 0, .int 9] sz [] []) (va_Qi (S := Unit) (fun (r : Int32) _ => True) (fun _ t => BC (dC, dI) (va_A [] sz) [] [] t) (va_A [] sz)) 0 0 (va_A [] sz) := by
  refine Met.ofW (cc := cX10_within) (maxL := 3) (ret := (some .boolean)) (by decide) rfl ?_
  intro p e s m args below meth c s₁ B hml hv
  obtain ⟨rfl, hsz, hP, hK, hD0, hN⟩ := hv
  have hx := B.exec
  have hb := B.bytes
  have hr := B.returns
  have hts := atoms_spec (ws := vX10_within) B.pre
  have hown : s.vm.findClass RX10 = some m.cls := findClass_of_methodNamed B.named
  have hlocks := B.notSynchronized
  subst hsz
  have hD := hD0.self (sz := s.heap.size)
  generalize hAe : va_A [] s.heap.size = A at hD ⊢
  have hA : ∀ q : Nat, s.heap.size ≤ q → A q := fun q h => by rw [← hAe]; exact Or.inr h
  have hS : va_S A s.heap s.heap [] := va_S.rf
  have hP : va_P (dC, dI) vwCl [] s.heap := hP
  have hl := lv_entry ([.int k0, .int 0, .int 9]) (n := 3) (Nat.le_of_ble_eq_true rfl)
  rw [lg_entry_eq]
  generalize (lg_sl ([.int k0, .int 0, .int 9]) ++ List.replicate (3 - (lg_sl ([.int k0, .int 0, .int 9])).length) Slot.unset).toArray = ls at hl ⊢
  have hl : lv_has ls 3 [(0, .int k0), (1, .int 0), (2, .int 9)] := hl
  refine lv_iload_n hx hb dX10_within_0 rfl (lv_at hl 0 rfl) ?_
  refine lv_iload_n hx hb dX10_within_1 rfl (lv_at hl 1 rfl) ?_
  refine lv_icmp_lt (tgt := 14) hx hb dX10_within_2 (by decide) (fun c1 => ?_) (fun c1 => ?_)
  · refine lv_iconst (v := 0) hx hb dX10_within_14 (by decide) ?_
    have hP9 := hP.sub (ws' := []) [] rfl
    have hD9 := hD.sub (ws' := []) [] (by decide) rfl
    have hK9 := hK.sub (tys' := []) [] rfl
    exact W.zret (v := 0) hx hb hr rfl (fun t ht hW => ⟨⟨0, (), rfl, trivial, by rw [ht]; exact hP9, va_K.moved hW.alike hK9, hD9⟩, hS.F ht⟩) hS.2.2 dX10_within_15
  · refine lv_iload_n hx hb dX10_within_5 rfl (lv_at hl 0 rfl) ?_
    refine lv_iload_n hx hb dX10_within_6 rfl (lv_at hl 2 rfl) ?_
    refine lv_icmp_gt (tgt := 14) hx hb dX10_within_7 (by decide) (fun c2 => ?_) (fun c2 => ?_)
    · refine lv_iconst (v := 0) hx hb dX10_within_14 (by decide) ?_
      have hP9 := hP.sub (ws' := []) [] rfl
      have hD9 := hD.sub (ws' := []) [] (by decide) rfl
      have hK9 := hK.sub (tys' := []) [] rfl
      exact W.zret (v := 0) hx hb hr rfl (fun t ht hW => ⟨⟨0, (), rfl, trivial, by rw [ht]; exact hP9, va_K.moved hW.alike hK9, hD9⟩, hS.F ht⟩) hS.2.2 dX10_within_15
    · refine lv_iconst (v := 1) hx hb dX10_within_10 (by decide) ?_
      refine lv_goto (tgt := 15) hx hb dX10_within_11 (by decide) ?_
      have hP9 := hP.sub (ws' := []) [] rfl
      have hD9 := hD.sub (ws' := []) [] (by decide) rfl
      have hK9 := hK.sub (tys' := []) [] rfl
      exact W.zret (v := 1) hx hb hr rfl (fun t ht hW => ⟨⟨1, (), rfl, trivial, by rw [ht]; exact hP9, va_K.moved hW.alike hK9, hD9⟩, hS.F ht⟩) hS.2.2 dX10_within_15
theorem dX10_refused_0 : decode cX10_refused 0 = .ok (.aload_n 0, 1) := by decide +kernel
theorem dX10_refused_1 : decode cX10_refused 1 = .ok (.iload_n 1, 1) := by decide +kernel
theorem dX10_refused_10 : decode cX10_refused 10 = .ok (.goto 4, 3) := by decide +kernel
theorem dX10_refused_14 : decode cX10_refused 14 = .ok (.ireturn, 1) := by decide +kernel
theorem dX10_refused_2 : decode cX10_refused 2 = .ok (.putfield 61, 3) := by decide +kernel
theorem dX10_refused_5 : decode cX10_refused 5 = .ok (.iload_n 1, 1) := by decide +kernel
theorem dX10_refused_6 : decode cX10_refused 6 = .ok (.ifCond .eq 7, 3) := by decide +kernel
theorem dX10_refused_9 : decode cX10_refused 9 = .ok (.iconst 1, 1) := by decide +kernel
def vX10_refused : List Cond := .code yX10_refused cX10_refused 2 (some .boolean) :: ([.fieldLink RX10 61 "HookPier" "troubleNow" "I"] ++ wsX100)
theorem iX10_refused_X10 : ∀ w ∈ wsX100, w ∈ vX10_refused := fun _ h => List.mem_cons_of_mem _ (List.mem_append_right _ h)
set_option maxHeartbeats 4000000 in
set_option maxRecDepth 100000 in
theorem kX10_refused (l : Launch) (dC : Nat → ClassId) (dI : Nat → Nat → Nat) (a0 : Nat) (g1 : Value) (g2 : Value) (g3 : Value) (g4 : Value) (g5 : Value) (g6 : Value) (g7 : Value) (g8 : Value) (g9 : Value) (g10 : Value) (sz : Nat) : Met l yX10_refused vX10_refused ({ frames := 0, cells := 0, slots := 0, locals := 0 }) (PC (dC, dI) [.ref a0, .int 1] sz [(a0, .inr (7, [g1, g2, g3, g4, g5, g6, g7, g8, g9, g10]))] []) (va_Qi (S := Unit) (fun (r : Int32) _ => r = 1) (fun _ t => BC (dC, dI) (va_A [(a0, .inr (7, [g1, g2, g3, g4, g5, g6, g7, g8, g9, g10]))] sz) [(a0, .inr (7, [g1, g2, g3, g4, g5, g6, g7, g8, .int 1, g10]))] [] t) (va_A [(a0, .inr (7, [g1, g2, g3, g4, g5, g6, g7, g8, g9, g10]))] sz)) 0 0 (va_A [(a0, .inr (7, [g1, g2, g3, g4, g5, g6, g7, g8, g9, g10]))] sz) := by
  refine Met.ofW (cc := cX10_refused) (maxL := 2) (ret := (some .boolean)) (by decide) rfl ?_
  intro p e s m args below meth c s₁ B hml hv
  obtain ⟨rfl, hsz, hP, hK, hD0, hN⟩ := hv
  have hx := B.exec
  have hb := B.bytes
  have hr := B.returns
  have hts := atoms_spec (ws := vX10_refused) B.pre
  have hown : s.vm.findClass RX10 = some m.cls := findClass_of_methodNamed B.named
  have hlocks := B.notSynchronized
  subst hsz
  have hD := hD0.self (sz := s.heap.size)
  generalize hAe : va_A [(a0, .inr (7, [g1, g2, g3, g4, g5, g6, g7, g8, g9, g10]))] s.heap.size = A at hD ⊢
  have hA : ∀ q : Nat, s.heap.size ≤ q → A q := fun q h => by rw [← hAe]; exact Or.inr h
  have hS : va_S A s.heap s.heap [] := va_S.rf
  have hP : va_P (dC, dI) vwCl [(a0, .inr (7, [g1, g2, g3, g4, g5, g6, g7, g8, g9, g10]))] s.heap := hP
  have hl := lv_entry ([.ref a0, .int 1]) (n := 2) (Nat.le_of_ble_eq_true rfl)
  rw [lg_entry_eq]
  generalize (lg_sl ([.ref a0, .int 1]) ++ List.replicate (2 - (lg_sl ([.ref a0, .int 1])).length) Slot.unset).toArray = ls at hl ⊢
  have hl : lv_has ls 2 [(0, .ref a0), (1, .int 1)] := hl
  refine lv_aload_n hx hb dX10_refused_0 rfl (lv_at hl 0 rfl) ?_
  refine lv_iload_n hx hb dX10_refused_1 rfl (lv_at hl 1 rfl) ?_
  refine va_put (D := (dC, dI)) (ci := 7) (v := .int 1) (ty := .int) (C := RX10) (T := TX10) (N := 10) hx hb hts iX10_refused_X10 tyX10 tyX10_ok nmX10 hown hK hP hD hS 0 rfl rfl 8 (by decide) (hts (.fieldLink RX10 61 "HookPier" "troubleNow" "I") (List.mem_of_getElem? (i := 1) rfl)) (fun _ h9 => h9) rfl (by decide +kernel) rfl rfl (Nat.le_of_ble_eq_true rfl) dX10_refused_2 (fun H locs hP hD hS => ?_)
  have hP : va_P (dC, dI) vwCl [(a0, .inr (7, [g1, g2, g3, g4, g5, g6, g7, g8, .int 1, g10]))] H := hP
  have hD : va_D A [(a0, .inr (7, [g1, g2, g3, g4, g5, g6, g7, g8, .int 1, g10]))] := hD
  refine lv_iload_n hx hb dX10_refused_5 rfl (lv_at hl 1 rfl) ?_
  refine lv_if_eq (tgt := 13) hx hb dX10_refused_6 (by decide) (fun c1 => absurd c1 (by decide)) (fun _ => ?_)
  refine lv_iconst (v := 1) hx hb dX10_refused_9 (by decide) ?_
  refine lv_goto (tgt := 14) hx hb dX10_refused_10 (by decide) ?_
  have hP9 := hP.sub (ws' := [(a0, .inr (7, [g1, g2, g3, g4, g5, g6, g7, g8, .int 1, g10]))]) [0] rfl
  have hD9 := hD.sub (ws' := [(a0, .inr (7, [g1, g2, g3, g4, g5, g6, g7, g8, .int 1, g10]))]) [0] (by decide) rfl
  have hK9 := hK.sub (tys' := []) [] rfl
  exact W.zret (v := 1) hx hb hr rfl (fun t ht hW => ⟨⟨1, (), rfl, rfl, by rw [ht]; exact hP9, va_K.moved hW.alike hK9, hD9⟩, hS.F ht⟩) hS.2.2 dX10_refused_14
def vX10_within_1 : List Cond := .code yX10_within cX10_within 3 (some .boolean) :: ([])
set_option maxHeartbeats 4000000 in
set_option maxRecDepth 100000 in
theorem kX10_within_1 (l : Launch) (dC : Nat → ClassId) (dI : Nat → Nat → Nat) (k0 : Int32) (sz : Nat) : Met l yX10_within vX10_within_1 ({ frames := 0, cells := 0, slots := 0, locals := 0 }) (PC (dC, dI) [.int k0, .int 0, .int (-1)] sz [] []) (va_Qi (S := Unit) (fun (r : Int32) _ => r = 0) (fun _ t => BC (dC, dI) (va_A [] sz) [] [] t) (va_A [] sz)) 0 0 (va_A [] sz) := by
  refine Met.ofW (cc := cX10_within) (maxL := 3) (ret := (some .boolean)) (by decide) rfl ?_
  intro p e s m args below meth c s₁ B hml hv
  obtain ⟨rfl, hsz, hP, hK, hD0, hN⟩ := hv
  have hx := B.exec
  have hb := B.bytes
  have hr := B.returns
  have hts := atoms_spec (ws := vX10_within_1) B.pre
  have hown : s.vm.findClass RX10 = some m.cls := findClass_of_methodNamed B.named
  have hlocks := B.notSynchronized
  subst hsz
  have hD := hD0.self (sz := s.heap.size)
  generalize hAe : va_A [] s.heap.size = A at hD ⊢
  have hA : ∀ q : Nat, s.heap.size ≤ q → A q := fun q h => by rw [← hAe]; exact Or.inr h
  have hS : va_S A s.heap s.heap [] := va_S.rf
  have hP : va_P (dC, dI) vwCl [] s.heap := hP
  have hl := lv_entry ([.int k0, .int 0, .int (-1)]) (n := 3) (Nat.le_of_ble_eq_true rfl)
  rw [lg_entry_eq]
  generalize (lg_sl ([.int k0, .int 0, .int (-1)]) ++ List.replicate (3 - (lg_sl ([.int k0, .int 0, .int (-1)])).length) Slot.unset).toArray = ls at hl ⊢
  have hl : lv_has ls 3 [(0, .int k0), (1, .int 0), (2, .int (-1))] := hl
  refine lv_iload_n hx hb dX10_within_0 rfl (lv_at hl 0 rfl) ?_
  refine lv_iload_n hx hb dX10_within_1 rfl (lv_at hl 1 rfl) ?_
  refine lv_icmp_lt (tgt := 14) hx hb dX10_within_2 (by decide) (fun c1 => ?_) (fun c1 => ?_)
  · refine lv_iconst (v := 0) hx hb dX10_within_14 (by decide) ?_
    have hP9 := hP.sub (ws' := []) [] rfl
    have hD9 := hD.sub (ws' := []) [] (by decide) rfl
    have hK9 := hK.sub (tys' := []) [] rfl
    exact W.zret (v := 0) hx hb hr rfl (fun t ht hW => ⟨⟨0, (), rfl, rfl, by rw [ht]; exact hP9, va_K.moved hW.alike hK9, hD9⟩, hS.F ht⟩) hS.2.2 dX10_within_15
  · refine lv_iload_n hx hb dX10_within_5 rfl (lv_at hl 0 rfl) ?_
    refine lv_iload_n hx hb dX10_within_6 rfl (lv_at hl 2 rfl) ?_
    refine lv_icmp_gt (tgt := 14) hx hb dX10_within_7 (by decide) (fun _ => ?_) (fun c2 => False.elim (by simp only [fa_lt, fa_le, fa_eq, ltv_m1, ltv_0] at c1 c2; omega))
    refine lv_iconst (v := 0) hx hb dX10_within_14 (by decide) ?_
    have hP9 := hP.sub (ws' := []) [] rfl
    have hD9 := hD.sub (ws' := []) [] (by decide) rfl
    have hK9 := hK.sub (tys' := []) [] rfl
    exact W.zret (v := 0) hx hb hr rfl (fun t ht hW => ⟨⟨0, (), rfl, rfl, by rw [ht]; exact hP9, va_K.moved hW.alike hK9, hD9⟩, hS.F ht⟩) hS.2.2 dX10_within_15
theorem dX6_hasAnswer_0 : decode cX6_hasAnswer 0 = .ok (.iload_n 1, 1) := by decide +kernel
theorem dX6_hasAnswer_1 : decode cX6_hasAnswer 1 = .ok (.iconst 0, 1) := by decide +kernel
theorem dX6_hasAnswer_11 : decode cX6_hasAnswer 11 = .ok (.ireturn, 1) := by decide +kernel
theorem dX6_hasAnswer_2 : decode cX6_hasAnswer 2 = .ok (.aload_n 0, 1) := by decide +kernel
theorem dX6_hasAnswer_3 : decode cX6_hasAnswer 3 = .ok (.getfield 30, 3) := by decide +kernel
theorem dX6_hasAnswer_6 : decode cX6_hasAnswer 6 = .ok (.iconst 1, 1) := by decide +kernel
theorem dX6_hasAnswer_7 : decode cX6_hasAnswer 7 = .ok (.isub, 1) := by decide +kernel
theorem dX6_hasAnswer_8 : decode cX6_hasAnswer 8 = .ok (.invokestatic 68, 3) := by decide +kernel
def vX6_hasAnswer : List Cond := .code yX6_hasAnswer cX6_hasAnswer 2 (some .boolean) :: ([.fieldLink RX6 30 "HookPier$Plan" "answers" "I", .code yX10_within cX10_within 3 (some .boolean), .initialized RX10, .static yX10_within] ++ wsX60)
theorem iX6_hasAnswer_X6 : ∀ w ∈ wsX60, w ∈ vX6_hasAnswer := fun _ h => List.mem_cons_of_mem _ (List.mem_append_right _ h)
set_option maxRecDepth 20000 in
theorem gX6_hasAnswer_0 : GoodIn vX6_hasAnswer vX10_within_1 := (goodIn_r (.code yX10_within cX10_within 3 (some .boolean) :: []) [2] (by decide +kernel) (by decide +kernel) : GoodIn vX6_hasAnswer (.code yX10_within cX10_within 3 (some .boolean) :: []))
set_option maxHeartbeats 4000000 in
set_option maxRecDepth 100000 in
theorem kX6_hasAnswer (l : Launch) (dC : Nat → ClassId) (dI : Nat → Nat → Nat) (a0 : Nat) (k1 : Int32) (g2 : Value) (g3 : Value) (g4 : Value) (g5 : Value) (g6 : Value) (g7 : Value) (g8 : Value) (g9 : Value) (g10 : Value) (g11 : Value) (g12 : Value) (g13 : Value) (g14 : Value) (g15 : Value) (g16 : Value) (g17 : Value) (g18 : Value) (sz : Nat) : Met l yX6_hasAnswer vX6_hasAnswer ({ frames := 1, cells := 0, slots := 0, locals := 22 }) (PC (dC, dI) [.ref a0, .int k1] sz [(a0, .inr (4, [g2, g3, g4, g5, g6, g7, .int 0, g8, g9, g10, g11, g12, g13, g14, g15, g16, g17, g18]))] []) (va_Qi (S := Unit) (fun (r : Int32) _ => r = 0) (fun _ t => BC (dC, dI) (va_A [(a0, .inr (4, [g2, g3, g4, g5, g6, g7, .int 0, g8, g9, g10, g11, g12, g13, g14, g15, g16, g17, g18]))] sz) [(a0, .inr (4, [g2, g3, g4, g5, g6, g7, .int 0, g8, g9, g10, g11, g12, g13, g14, g15, g16, g17, g18]))] [] t) (va_A [(a0, .inr (4, [g2, g3, g4, g5, g6, g7, .int 0, g8, g9, g10, g11, g12, g13, g14, g15, g16, g17, g18]))] sz)) 0 0 (va_A [(a0, .inr (4, [g2, g3, g4, g5, g6, g7, .int 0, g8, g9, g10, g11, g12, g13, g14, g15, g16, g17, g18]))] sz) := by
  refine Met.ofW (cc := cX6_hasAnswer) (maxL := 2) (ret := (some .boolean)) (by decide) rfl ?_
  intro p e s m args below meth c s₁ B hml hv
  obtain ⟨rfl, hsz, hP, hK, hD0, hN⟩ := hv
  have hx := B.exec
  have hb := B.bytes
  have hr := B.returns
  have hts := atoms_spec (ws := vX6_hasAnswer) B.pre
  have hown : s.vm.findClass RX6 = some m.cls := findClass_of_methodNamed B.named
  have hlocks := B.notSynchronized
  subst hsz
  have hD := hD0.self (sz := s.heap.size)
  generalize hAe : va_A [(a0, .inr (4, [g2, g3, g4, g5, g6, g7, .int 0, g8, g9, g10, g11, g12, g13, g14, g15, g16, g17, g18]))] s.heap.size = A at hD ⊢
  have hA : ∀ q : Nat, s.heap.size ≤ q → A q := fun q h => by rw [← hAe]; exact Or.inr h
  have hS : va_S A s.heap s.heap [] := va_S.rf
  have hP : va_P (dC, dI) vwCl [(a0, .inr (4, [g2, g3, g4, g5, g6, g7, .int 0, g8, g9, g10, g11, g12, g13, g14, g15, g16, g17, g18]))] s.heap := hP
  have hl := lv_entry ([.ref a0, .int k1]) (n := 2) (Nat.le_of_ble_eq_true rfl)
  rw [lg_entry_eq]
  generalize (lg_sl ([.ref a0, .int k1]) ++ List.replicate (2 - (lg_sl ([.ref a0, .int k1])).length) Slot.unset).toArray = ls at hl ⊢
  have hl : lv_has ls 2 [(0, .ref a0), (1, .int k1)] := hl
  refine lv_iload_n hx hb dX6_hasAnswer_0 rfl (lv_at hl 1 rfl) ?_
  refine lv_iconst (v := 0) hx hb dX6_hasAnswer_1 (by decide) ?_
  refine lv_aload_n hx hb dX6_hasAnswer_2 rfl (lv_at hl 0 rfl) ?_
  refine va_get (D := (dC, dI)) (ci := 4) (v := .int 0) (C := RX6) (T := TX6) (N := 18) hx hb hts iX6_hasAnswer_X6 hown hK hP 0 rfl rfl 6 (by decide) (hts (.fieldLink RX6 30 "HookPier$Plan" "answers" "I") (List.mem_of_getElem? (i := 1) rfl)) (fun _ h9 => h9) rfl dX6_hasAnswer_3 ?_
  refine lv_iconst (v := 1) hx hb dX6_hasAnswer_6 (by decide) ?_
  refine lv_isub hx hb dX6_hasAnswer_7 ?_
  refine lv_topi (fun z1 ez1 => ?_)
  obtain rfl : z1 = (-1) := ez1.trans (by decide)
  refine cl_i (wc := []) (wr := [(a0, .inr (4, [g2, g3, g4, g5, g6, g7, .int 0, g8, g9, g10, g11, g12, g13, g14, g15, g16, g17, g18]))]) (va_runSN (As := [.int k1, .int 0, .int (-1)]) (rest := []) ⟨hx, hb, hml, hown, hts⟩ (kX10_within_1 l dC dI k1 s.heap.size) ⟨va_cnB 3 hts gX6_hasAnswer_0 rfl rfl rfl (hN.1 (.methodLinkNest RX6 68 yX10_within "HookPier") (List.mem_of_getElem? (i := 10) rfl)) (hts (.initialized RX10) (List.mem_of_getElem? (i := 3) rfl)) (by decide +kernel) ⟨Nat.le_of_ble_eq_true rfl, Nat.le_of_ble_eq_true rfl⟩, (hts (.static yX10_within) (List.mem_of_getElem? (i := 4) rfl)), trivial⟩ (PS (hP.sub (ws' := []) [] rfl) (hK.sub (tys' := []) [] rfl) (hD.sub (ws' := []) [] (by decide) rfl) hN) rfl rfl hl.1 rfl (lv_room (Nat.le_of_ble_eq_true rfl)) dX6_hasAnswer_8 ⟨Nat.le_of_ble_eq_true rfl, Nat.le_of_ble_eq_true rfl⟩) hP hD hK hS hA [] [0] rfl rfl (by decide) (by decide) (fun z2 _u H locs hw hP hD hK hS => ?_)
  have hP : va_P (dC, dI) vwCl [(a0, .inr (4, [g2, g3, g4, g5, g6, g7, .int 0, g8, g9, g10, g11, g12, g13, g14, g15, g16, g17, g18]))] H := hP
  have hD : va_D A [(a0, .inr (4, [g2, g3, g4, g5, g6, g7, .int 0, g8, g9, g10, g11, g12, g13, g14, g15, g16, g17, g18]))] := hD
  have hK : va_K (dC, dI) vwCl [] s := hK
  obtain rfl : z2 = 0 := hw
  have hP9 := hP.sub (ws' := [(a0, .inr (4, [g2, g3, g4, g5, g6, g7, .int 0, g8, g9, g10, g11, g12, g13, g14, g15, g16, g17, g18]))]) [0] rfl
  have hD9 := hD.sub (ws' := [(a0, .inr (4, [g2, g3, g4, g5, g6, g7, .int 0, g8, g9, g10, g11, g12, g13, g14, g15, g16, g17, g18]))]) [0] (by decide) rfl
  have hK9 := hK.sub (tys' := []) [] rfl
  exact W.zret (v := 0) hx hb hr rfl (fun t ht hW => ⟨⟨0, (), rfl, rfl, by rw [ht]; exact hP9, va_K.moved hW.alike hK9, hD9⟩, hS.F ht⟩) hS.2.2 dX6_hasAnswer_11
theorem dX10_answerTrouble_0 : decode cX10_answerTrouble 0 = .ok (.aload_n 0, 1) := by decide +kernel
theorem dX10_answerTrouble_1 : decode cX10_answerTrouble 1 = .ok (.getfield 10, 3) := by decide +kernel
theorem dX10_answerTrouble_15 : decode cX10_answerTrouble 15 = .ok (.iconst 1, 1) := by decide +kernel
theorem dX10_answerTrouble_16 : decode cX10_answerTrouble 16 = .ok (.ireturn, 1) := by decide +kernel
theorem dX10_answerTrouble_4 : decode cX10_answerTrouble 4 = .ok (.iload_n 1, 1) := by decide +kernel
theorem dX10_answerTrouble_5 : decode cX10_answerTrouble 5 = .ok (.invokevirtual 381, 3) := by decide +kernel
theorem dX10_answerTrouble_8 : decode cX10_answerTrouble 8 = .ok (.ifCond .eq 7, 3) := by decide +kernel
def vX10_answerTrouble : List Cond := .code yX10_answerTrouble cX10_answerTrouble 2 (some .int) :: ([.fieldLink RX10 10 "HookPier" "plan" "LHookPier$Plan;", .methodLink RX10 381 yX6_hasAnswer, .instanceMethod yX6_hasAnswer, .selects RX6 yX6_hasAnswer yX6_hasAnswer, .initialized RX6, .code yX6_hasAnswer cX6_hasAnswer 2 (some .boolean), .fieldLink RX6 30 "HookPier$Plan" "answers" "I", .code yX10_within cX10_within 3 (some .boolean), .initialized RX10, .static yX10_within] ++ wsX100 ++ wsX60)
theorem iX10_answerTrouble_X10 : ∀ w ∈ wsX100, w ∈ vX10_answerTrouble := fun _ h => List.mem_cons_of_mem _ (List.mem_append_left _ (List.mem_append_right _ h))
theorem iX10_answerTrouble_X6 : ∀ w ∈ wsX60, w ∈ vX10_answerTrouble := fun _ h => List.mem_cons_of_mem _ (List.mem_append_right _ h)
set_option maxRecDepth 20000 in
theorem gX10_answerTrouble_0 : GoodIn vX10_answerTrouble (wsV RX10 381 RX6 yX6_hasAnswer vX6_hasAnswer) := goodIn_app (goodIn_r [.methodLink RX10 381 yX6_hasAnswer, .instanceMethod yX6_hasAnswer, .selects RX6 yX6_hasAnswer yX6_hasAnswer, .initialized RX6] [2, 3, 4, 5] (by decide +kernel) (by decide +kernel)) (goodIn_ca (goodIn_r (.code yX6_hasAnswer cX6_hasAnswer 2 (some .boolean) :: [.fieldLink RX6 30 "HookPier$Plan" "answers" "I", .code yX10_within cX10_within 3 (some .boolean), .initialized RX10, .static yX10_within]) [6, 7, 8, 9, 10] (by decide +kernel) (by decide +kernel) : GoodIn vX10_answerTrouble (.code yX6_hasAnswer cX6_hasAnswer 2 (some .boolean) :: [.fieldLink RX6 30 "HookPier$Plan" "answers" "I", .code yX10_within cX10_within 3 (some .boolean), .initialized RX10, .static yX10_within])) (goodIn_sub iX10_answerTrouble_X6 (by decide +kernel)))
set_option maxHeartbeats 4000000 in
set_option maxRecDepth 100000 in
theorem kX10_answerTrouble (l : Launch) (dC : Nat → ClassId) (dI : Nat → Nat → Nat) (a0 : Nat) (k1 : Int32) (a2 : Nat) (g3 : Value) (g4 : Value) (g5 : Value) (g6 : Value) (g7 : Value) (g8 : Value) (g9 : Value) (g10 : Value) (g11 : Value) (g12 : Value) (g13 : Value) (g14 : Value) (g15 : Value) (g16 : Value) (g17 : Value) (g18 : Value) (g19 : Value) (g20 : Value) (g21 : Value) (g22 : Value) (g23 : Value) (g24 : Value) (g25 : Value) (g26 : Value) (g27 : Value) (g28 : Value) (sz : Nat) : Met l yX10_answerTrouble vX10_answerTrouble ({ frames := 2, cells := 0, slots := 0, locals := 43 }) (PC (dC, dI) [.ref a0, .int k1] sz [(a0, .inr (7, [.ref a2, g3, g4, g5, g6, g7, g8, g9, g10, g11])), (a2, .inr (4, [g12, g13, g14, g15, g16, g17, .int 0, g18, g19, g20, g21, g22, g23, g24, g25, g26, g27, g28]))] []) (va_Qi (S := Unit) (fun (r : Int32) _ => r = 1) (fun _ t => BC (dC, dI) (va_A [(a0, .inr (7, [.ref a2, g3, g4, g5, g6, g7, g8, g9, g10, g11])), (a2, .inr (4, [g12, g13, g14, g15, g16, g17, .int 0, g18, g19, g20, g21, g22, g23, g24, g25, g26, g27, g28]))] sz) [(a0, .inr (7, [.ref a2, g3, g4, g5, g6, g7, g8, g9, g10, g11])), (a2, .inr (4, [g12, g13, g14, g15, g16, g17, .int 0, g18, g19, g20, g21, g22, g23, g24, g25, g26, g27, g28]))] [] t) (va_A [(a0, .inr (7, [.ref a2, g3, g4, g5, g6, g7, g8, g9, g10, g11])), (a2, .inr (4, [g12, g13, g14, g15, g16, g17, .int 0, g18, g19, g20, g21, g22, g23, g24, g25, g26, g27, g28]))] sz)) 0 0 (va_A [(a0, .inr (7, [.ref a2, g3, g4, g5, g6, g7, g8, g9, g10, g11])), (a2, .inr (4, [g12, g13, g14, g15, g16, g17, .int 0, g18, g19, g20, g21, g22, g23, g24, g25, g26, g27, g28]))] sz) := by
  refine Met.ofW (cc := cX10_answerTrouble) (maxL := 2) (ret := (some .int)) (by decide) rfl ?_
  intro p e s m args below meth c s₁ B hml hv
  obtain ⟨rfl, hsz, hP, hK, hD0, hN⟩ := hv
  have hx := B.exec
  have hb := B.bytes
  have hr := B.returns
  have hts := atoms_spec (ws := vX10_answerTrouble) B.pre
  have hown : s.vm.findClass RX10 = some m.cls := findClass_of_methodNamed B.named
  have hlocks := B.notSynchronized
  subst hsz
  have hD := hD0.self (sz := s.heap.size)
  generalize hAe : va_A [(a0, .inr (7, [.ref a2, g3, g4, g5, g6, g7, g8, g9, g10, g11])), (a2, .inr (4, [g12, g13, g14, g15, g16, g17, .int 0, g18, g19, g20, g21, g22, g23, g24, g25, g26, g27, g28]))] s.heap.size = A at hD ⊢
  have hA : ∀ q : Nat, s.heap.size ≤ q → A q := fun q h => by rw [← hAe]; exact Or.inr h
  have hS : va_S A s.heap s.heap [] := va_S.rf
  have hP : va_P (dC, dI) vwCl [(a0, .inr (7, [.ref a2, g3, g4, g5, g6, g7, g8, g9, g10, g11])), (a2, .inr (4, [g12, g13, g14, g15, g16, g17, .int 0, g18, g19, g20, g21, g22, g23, g24, g25, g26, g27, g28]))] s.heap := hP
  have hl := lv_entry ([.ref a0, .int k1]) (n := 2) (Nat.le_of_ble_eq_true rfl)
  rw [lg_entry_eq]
  generalize (lg_sl ([.ref a0, .int k1]) ++ List.replicate (2 - (lg_sl ([.ref a0, .int k1])).length) Slot.unset).toArray = ls at hl ⊢
  have hl : lv_has ls 2 [(0, .ref a0), (1, .int k1)] := hl
  refine lv_aload_n hx hb dX10_answerTrouble_0 rfl (lv_at hl 0 rfl) ?_
  refine va_get (D := (dC, dI)) (ci := 7) (v := .ref a2) (C := RX10) (T := TX10) (N := 10) hx hb hts iX10_answerTrouble_X10 hown hK hP 0 rfl rfl 0 (by decide) (hts (.fieldLink RX10 10 "HookPier" "plan" "LHookPier$Plan;") (List.mem_of_getElem? (i := 1) rfl)) (fun _ h9 => h9) rfl dX10_answerTrouble_1 ?_
  refine lv_iload_n hx hb dX10_answerTrouble_4 rfl (lv_at hl 1 rfl) ?_
  refine cl_i (wc := [(a2, .inr (4, [g12, g13, g14, g15, g16, g17, .int 0, g18, g19, g20, g21, g22, g23, g24, g25, g26, g27, g28]))]) (wr := [(a0, .inr (7, [.ref a2, g3, g4, g5, g6, g7, g8, g9, g10, g11]))]) (va_runV (As := [.int k1]) (rest := []) ⟨hx, hb, hml, hown, hts⟩ (kX6_hasAnswer l dC dI a2 k1 (g12) (g13) (g14) (g15) (g16) (g17) (g18) (g19) (g20) (g21) (g22) (g23) (g24) (g25) (g26) (g27) (g28) s.heap.size) (cwV 1 hts gX10_answerTrouble_0 rfl rfl rfl (by decide +kernel) ⟨Nat.le_of_ble_eq_true rfl, Nat.le_of_ble_eq_true rfl⟩) (PV (hP.sub (ws' := [(a2, .inr (4, [g12, g13, g14, g15, g16, g17, .int 0, g18, g19, g20, g21, g22, g23, g24, g25, g26, g27, g28]))]) [1] rfl) (hK.sub (tys' := []) [] rfl) (hD.sub (ws' := [(a2, .inr (4, [g12, g13, g14, g15, g16, g17, .int 0, g18, g19, g20, g21, g22, g23, g24, g25, g26, g27, g28]))]) [1] (by decide) rfl) hN 0 rfl rfl) rfl rfl hl.1 rfl (lv_room (Nat.le_of_ble_eq_true rfl)) dX10_answerTrouble_5 ⟨Nat.le_of_ble_eq_true rfl, Nat.le_of_ble_eq_true rfl⟩) hP hD hK hS hA [1] [0] rfl rfl (by decide) (by decide) (fun z1 _u H locs hw hP hD hK hS => ?_)
  have hP : va_P (dC, dI) vwCl [(a0, .inr (7, [.ref a2, g3, g4, g5, g6, g7, g8, g9, g10, g11])), (a2, .inr (4, [g12, g13, g14, g15, g16, g17, .int 0, g18, g19, g20, g21, g22, g23, g24, g25, g26, g27, g28]))] H := hP
  have hD : va_D A [(a0, .inr (7, [.ref a2, g3, g4, g5, g6, g7, g8, g9, g10, g11])), (a2, .inr (4, [g12, g13, g14, g15, g16, g17, .int 0, g18, g19, g20, g21, g22, g23, g24, g25, g26, g27, g28]))] := hD
  have hK : va_K (dC, dI) vwCl [] s := hK
  obtain rfl : z1 = 0 := hw
  refine lv_if_eq (tgt := 15) hx hb dX10_answerTrouble_8 (by decide) (fun _ => ?_) (fun c2 => absurd c2 (by decide))
  refine lv_iconst (v := 1) hx hb dX10_answerTrouble_15 (by decide) ?_
  have hP9 := hP.sub (ws' := [(a0, .inr (7, [.ref a2, g3, g4, g5, g6, g7, g8, g9, g10, g11])), (a2, .inr (4, [g12, g13, g14, g15, g16, g17, .int 0, g18, g19, g20, g21, g22, g23, g24, g25, g26, g27, g28]))]) [0, 1] rfl
  have hD9 := hD.sub (ws' := [(a0, .inr (7, [.ref a2, g3, g4, g5, g6, g7, g8, g9, g10, g11])), (a2, .inr (4, [g12, g13, g14, g15, g16, g17, .int 0, g18, g19, g20, g21, g22, g23, g24, g25, g26, g27, g28]))]) [0, 1] (by decide) rfl
  have hK9 := hK.sub (tys' := []) [] rfl
  exact W.iret (v := 1) hx hb hr (fun t ht hW => ⟨⟨1, (), rfl, rfl, by rw [ht]; exact hP9, va_K.moved hW.alike hK9, hD9⟩, hS.F ht⟩) hS.2.2 dX10_answerTrouble_16
theorem dX10_answer_0 : decode cX10_answer 0 = .ok (.aload_n 0, 1) := by decide +kernel
theorem dX10_answer_1 : decode cX10_answer 1 = .ok (.iload_n 2, 1) := by decide +kernel
theorem dX10_answer_11 : decode cX10_answer 11 = .ok (.aload_n 0, 1) := by decide +kernel
theorem dX10_answer_12 : decode cX10_answer 12 = .ok (.iload_n 1, 1) := by decide +kernel
theorem dX10_answer_13 : decode cX10_answer 13 = .ok (.invokevirtual 102, 3) := by decide +kernel
theorem dX10_answer_16 : decode cX10_answer 16 = .ok (.goto 4, 3) := by decide +kernel
theorem dX10_answer_19 : decode cX10_answer 19 = .ok (.iconst 1, 1) := by decide +kernel
theorem dX10_answer_2 : decode cX10_answer 2 = .ok (.iconst 0, 1) := by decide +kernel
theorem dX10_answer_20 : decode cX10_answer 20 = .ok (.invokevirtual 79, 3) := by decide +kernel
theorem dX10_answer_23 : decode cX10_answer 23 = .ok (.ifCond .eq 5, 3) := by decide +kernel
theorem dX10_answer_26 : decode cX10_answer 26 = .ok (.iconst (-1), 1) := by decide +kernel
theorem dX10_answer_27 : decode cX10_answer 27 = .ok (.ireturn, 1) := by decide +kernel
theorem dX10_answer_3 : decode cX10_answer 3 = .ok (.bipush 9, 2) := by decide +kernel
theorem dX10_answer_5 : decode cX10_answer 5 = .ok (.invokestatic 75, 3) := by decide +kernel
theorem dX10_answer_8 : decode cX10_answer 8 = .ok (.ifCond .eq 11, 3) := by decide +kernel
def vX10_answer : List Cond := .code yX10_answer cX10_answer 3 (some .int) :: ([.methodLink RX10 75 yX10_within, .static yX10_within, .initialized RX10, .code yX10_within cX10_within 3 (some .boolean), .methodLink RX10 79 yX10_refused, .instanceMethod yX10_refused, .selects RX10 yX10_refused yX10_refused, .code yX10_refused cX10_refused 2 (some .boolean), .fieldLink RX10 61 "HookPier" "troubleNow" "I", .methodLink RX10 102 yX10_answerTrouble, .instanceMethod yX10_answerTrouble, .selects RX10 yX10_answerTrouble yX10_answerTrouble, .code yX10_answerTrouble cX10_answerTrouble 2 (some .int), .fieldLink RX10 10 "HookPier" "plan" "LHookPier$Plan;", .methodLink RX10 381 yX6_hasAnswer, .instanceMethod yX6_hasAnswer, .selects RX6 yX6_hasAnswer yX6_hasAnswer, .initialized RX6, .code yX6_hasAnswer cX6_hasAnswer 2 (some .boolean), .fieldLink RX6 30 "HookPier$Plan" "answers" "I"] ++ wsX100 ++ wsX60)
theorem iX10_answer_X10 : ∀ w ∈ wsX100, w ∈ vX10_answer := fun _ h => List.mem_cons_of_mem _ (List.mem_append_left _ (List.mem_append_right _ h))
theorem iX10_answer_X6 : ∀ w ∈ wsX60, w ∈ vX10_answer := fun _ h => List.mem_cons_of_mem _ (List.mem_append_right _ h)
set_option maxRecDepth 20000 in
theorem gX10_answer_0 : GoodIn vX10_answer (va_wsS RX10 75 yX10_within vX10_within) := goodIn_app (goodIn_r [.methodLink RX10 75 yX10_within, .static yX10_within, .initialized RX10] [1, 2, 3] (by decide +kernel) (by decide +kernel)) (goodIn_r (.code yX10_within cX10_within 3 (some .boolean) :: []) [4] (by decide +kernel) (by decide +kernel) : GoodIn vX10_answer (.code yX10_within cX10_within 3 (some .boolean) :: []))
set_option maxRecDepth 20000 in
theorem gX10_answer_1 : GoodIn vX10_answer (wsV RX10 79 RX10 yX10_refused vX10_refused) := goodIn_app (goodIn_r [.methodLink RX10 79 yX10_refused, .instanceMethod yX10_refused, .selects RX10 yX10_refused yX10_refused, .initialized RX10] [5, 6, 7, 3] (by decide +kernel) (by decide +kernel)) (goodIn_ca (goodIn_r (.code yX10_refused cX10_refused 2 (some .boolean) :: [.fieldLink RX10 61 "HookPier" "troubleNow" "I"]) [8, 9] (by decide +kernel) (by decide +kernel) : GoodIn vX10_answer (.code yX10_refused cX10_refused 2 (some .boolean) :: [.fieldLink RX10 61 "HookPier" "troubleNow" "I"])) (goodIn_sub iX10_answer_X10 (by decide +kernel)))
set_option maxRecDepth 20000 in
theorem gX10_answer_2 : GoodIn vX10_answer (wsV RX10 102 RX10 yX10_answerTrouble vX10_answerTrouble) := goodIn_app (goodIn_r [.methodLink RX10 102 yX10_answerTrouble, .instanceMethod yX10_answerTrouble, .selects RX10 yX10_answerTrouble yX10_answerTrouble, .initialized RX10] [10, 11, 12, 3] (by decide +kernel) (by decide +kernel)) (goodIn_ca (goodIn_ca (goodIn_r (.code yX10_answerTrouble cX10_answerTrouble 2 (some .int) :: [.fieldLink RX10 10 "HookPier" "plan" "LHookPier$Plan;", .methodLink RX10 381 yX6_hasAnswer, .instanceMethod yX6_hasAnswer, .selects RX6 yX6_hasAnswer yX6_hasAnswer, .initialized RX6, .code yX6_hasAnswer cX6_hasAnswer 2 (some .boolean), .fieldLink RX6 30 "HookPier$Plan" "answers" "I", .code yX10_within cX10_within 3 (some .boolean), .initialized RX10, .static yX10_within]) [13, 14, 15, 16, 17, 18, 19, 20, 4, 3, 2] (by decide +kernel) (by decide +kernel) : GoodIn vX10_answer (.code yX10_answerTrouble cX10_answerTrouble 2 (some .int) :: [.fieldLink RX10 10 "HookPier" "plan" "LHookPier$Plan;", .methodLink RX10 381 yX6_hasAnswer, .instanceMethod yX6_hasAnswer, .selects RX6 yX6_hasAnswer yX6_hasAnswer, .initialized RX6, .code yX6_hasAnswer cX6_hasAnswer 2 (some .boolean), .fieldLink RX6 30 "HookPier$Plan" "answers" "I", .code yX10_within cX10_within 3 (some .boolean), .initialized RX10, .static yX10_within])) (goodIn_sub iX10_answer_X10 (by decide +kernel))) (goodIn_sub iX10_answer_X6 (by decide +kernel)))
set_option maxHeartbeats 4000000 in
set_option maxRecDepth 100000 in
theorem kX10_answer (l : Launch) (dC : Nat → ClassId) (dI : Nat → Nat → Nat) (a0 : Nat) (k1 : Int32) (k2 : Int32) (a3 : Nat) (g4 : Value) (g5 : Value) (g6 : Value) (g7 : Value) (g8 : Value) (g9 : Value) (g10 : Value) (g11 : Value) (g12 : Value) (g13 : Value) (g14 : Value) (g15 : Value) (g16 : Value) (g17 : Value) (g18 : Value) (g19 : Value) (g20 : Value) (g21 : Value) (g22 : Value) (g23 : Value) (g24 : Value) (g25 : Value) (g26 : Value) (g27 : Value) (g28 : Value) (g29 : Value) (sz : Nat) : Met l yX10_answer vX10_answer ({ frames := 3, cells := 0, slots := 0, locals := 64 }) (PC (dC, dI) [.ref a0, .int k1, .int k2] sz [(a0, .inr (7, [.ref a3, g4, g5, g6, g7, g8, g9, g10, g11, g12])), (a3, .inr (4, [g13, g14, g15, g16, g17, g18, .int 0, g19, g20, g21, g22, g23, g24, g25, g26, g27, g28, g29]))] []) (va_Qi (S := Unit) (fun (r : Int32) _ => r = (-1)) (fun _ t => BC (dC, dI) (va_A [(a0, .inr (7, [.ref a3, g4, g5, g6, g7, g8, g9, g10, g11, g12])), (a3, .inr (4, [g13, g14, g15, g16, g17, g18, .int 0, g19, g20, g21, g22, g23, g24, g25, g26, g27, g28, g29]))] sz) [(a0, .inr (7, [.ref a3, g4, g5, g6, g7, g8, g9, g10, .int 1, g12])), (a3, .inr (4, [g13, g14, g15, g16, g17, g18, .int 0, g19, g20, g21, g22, g23, g24, g25, g26, g27, g28, g29]))] [] t) (va_A [(a0, .inr (7, [.ref a3, g4, g5, g6, g7, g8, g9, g10, g11, g12])), (a3, .inr (4, [g13, g14, g15, g16, g17, g18, .int 0, g19, g20, g21, g22, g23, g24, g25, g26, g27, g28, g29]))] sz)) 0 0 (va_A [(a0, .inr (7, [.ref a3, g4, g5, g6, g7, g8, g9, g10, g11, g12])), (a3, .inr (4, [g13, g14, g15, g16, g17, g18, .int 0, g19, g20, g21, g22, g23, g24, g25, g26, g27, g28, g29]))] sz) := by
  refine Met.ofW (cc := cX10_answer) (maxL := 3) (ret := (some .int)) (by decide) rfl ?_
  intro p e s m args below meth c s₁ B hml hv
  obtain ⟨rfl, hsz, hP, hK, hD0, hN⟩ := hv
  have hx := B.exec
  have hb := B.bytes
  have hr := B.returns
  have hts := atoms_spec (ws := vX10_answer) B.pre
  have hown : s.vm.findClass RX10 = some m.cls := findClass_of_methodNamed B.named
  have hlocks := B.notSynchronized
  subst hsz
  have hD := hD0.self (sz := s.heap.size)
  generalize hAe : va_A [(a0, .inr (7, [.ref a3, g4, g5, g6, g7, g8, g9, g10, g11, g12])), (a3, .inr (4, [g13, g14, g15, g16, g17, g18, .int 0, g19, g20, g21, g22, g23, g24, g25, g26, g27, g28, g29]))] s.heap.size = A at hD ⊢
  have hA : ∀ q : Nat, s.heap.size ≤ q → A q := fun q h => by rw [← hAe]; exact Or.inr h
  have hS : va_S A s.heap s.heap [] := va_S.rf
  have hP : va_P (dC, dI) vwCl [(a0, .inr (7, [.ref a3, g4, g5, g6, g7, g8, g9, g10, g11, g12])), (a3, .inr (4, [g13, g14, g15, g16, g17, g18, .int 0, g19, g20, g21, g22, g23, g24, g25, g26, g27, g28, g29]))] s.heap := hP
  have hl := lv_entry ([.ref a0, .int k1, .int k2]) (n := 3) (Nat.le_of_ble_eq_true rfl)
  rw [lg_entry_eq]
  generalize (lg_sl ([.ref a0, .int k1, .int k2]) ++ List.replicate (3 - (lg_sl ([.ref a0, .int k1, .int k2])).length) Slot.unset).toArray = ls at hl ⊢
  have hl : lv_has ls 3 [(0, .ref a0), (1, .int k1), (2, .int k2)] := hl
  refine lv_aload_n hx hb dX10_answer_0 rfl (lv_at hl 0 rfl) ?_
  refine lv_iload_n hx hb dX10_answer_1 rfl (lv_at hl 2 rfl) ?_
  refine lv_iconst (v := 0) hx hb dX10_answer_2 (by decide) ?_
  refine lv_bipush (v := 9) hx hb dX10_answer_3 (by decide) ?_
  refine cl_i (wc := []) (wr := [(a0, .inr (7, [.ref a3, g4, g5, g6, g7, g8, g9, g10, g11, g12])), (a3, .inr (4, [g13, g14, g15, g16, g17, g18, .int 0, g19, g20, g21, g22, g23, g24, g25, g26, g27, g28, g29]))]) (va_runS (As := [.int k2, .int 0, .int 9]) (rest := [.ref a0]) ⟨hx, hb, hml, hown, hts⟩ (kX10_within l dC dI k2 s.heap.size) (va_cwS 3 hts gX10_answer_0 rfl rfl rfl (by decide +kernel) ⟨Nat.le_of_ble_eq_true rfl, Nat.le_of_ble_eq_true rfl⟩) (PS (hP.sub (ws' := []) [] rfl) (hK.sub (tys' := []) [] rfl) (hD.sub (ws' := []) [] (by decide) rfl) hN) rfl rfl hl.1 rfl (lv_room (Nat.le_of_ble_eq_true rfl)) dX10_answer_5 ⟨Nat.le_of_ble_eq_true rfl, Nat.le_of_ble_eq_true rfl⟩) hP hD hK hS hA [] [0, 1] rfl rfl (by decide) (by decide) (fun z1 _u H locs hw hP hD hK hS => ?_)
  have hP : va_P (dC, dI) vwCl [(a0, .inr (7, [.ref a3, g4, g5, g6, g7, g8, g9, g10, g11, g12])), (a3, .inr (4, [g13, g14, g15, g16, g17, g18, .int 0, g19, g20, g21, g22, g23, g24, g25, g26, g27, g28, g29]))] H := hP
  have hD : va_D A [(a0, .inr (7, [.ref a3, g4, g5, g6, g7, g8, g9, g10, g11, g12])), (a3, .inr (4, [g13, g14, g15, g16, g17, g18, .int 0, g19, g20, g21, g22, g23, g24, g25, g26, g27, g28, g29]))] := hD
  have hK : va_K (dC, dI) vwCl [] s := hK
  refine lv_if_eq (tgt := 19) hx hb dX10_answer_8 (by decide) (fun c2 => ?_) (fun c2 => ?_)
  · obtain rfl : z1 = 0 := (by simp only [fa_lt, fa_le, fa_eq, ltv_0] at c2 ⊢; omega)
    refine lv_iconst (v := 1) hx hb dX10_answer_19 (by decide) ?_
    refine cl_i (wc := [(a0, .inr (7, [.ref a3, g4, g5, g6, g7, g8, g9, g10, g11, g12]))]) (wr := [(a3, .inr (4, [g13, g14, g15, g16, g17, g18, .int 0, g19, g20, g21, g22, g23, g24, g25, g26, g27, g28, g29]))]) (va_runV (As := [.int 1]) (rest := []) ⟨hx, hb, hml, hown, hts⟩ (kX10_refused l dC dI a0 (.ref a3) (g4) (g5) (g6) (g7) (g8) (g9) (g10) (g11) (g12) H.size) (cwV 1 hts gX10_answer_1 rfl rfl rfl (by decide +kernel) ⟨Nat.le_of_ble_eq_true rfl, Nat.le_of_ble_eq_true rfl⟩) (PV (hP.sub (ws' := [(a0, .inr (7, [.ref a3, g4, g5, g6, g7, g8, g9, g10, g11, g12]))]) [0] rfl) (hK.sub (tys' := []) [] rfl) (hD.sub (ws' := [(a0, .inr (7, [.ref a3, g4, g5, g6, g7, g8, g9, g10, g11, g12]))]) [0] (by decide) rfl) hN 0 rfl rfl) rfl rfl hl.1 rfl (lv_room (Nat.le_of_ble_eq_true rfl)) dX10_answer_20 ⟨Nat.le_of_ble_eq_true rfl, Nat.le_of_ble_eq_true rfl⟩) hP hD hK hS hA [0] [1] rfl rfl (by decide) (by decide) (fun z3 _u H locs hw hP hD hK hS => ?_)
    have hP : va_P (dC, dI) vwCl [(a3, .inr (4, [g13, g14, g15, g16, g17, g18, .int 0, g19, g20, g21, g22, g23, g24, g25, g26, g27, g28, g29])), (a0, .inr (7, [.ref a3, g4, g5, g6, g7, g8, g9, g10, .int 1, g12]))] H := hP
    have hD : va_D A [(a3, .inr (4, [g13, g14, g15, g16, g17, g18, .int 0, g19, g20, g21, g22, g23, g24, g25, g26, g27, g28, g29])), (a0, .inr (7, [.ref a3, g4, g5, g6, g7, g8, g9, g10, .int 1, g12]))] := hD
    have hK : va_K (dC, dI) vwCl [] s := hK
    obtain rfl : z3 = 1 := hw
    refine lv_if_eq (tgt := 28) hx hb dX10_answer_23 (by decide) (fun c4 => absurd c4 (by decide)) (fun _ => ?_)
    refine lv_iconst (v := (-1)) hx hb dX10_answer_26 (by decide) ?_
    have hP9 := hP.sub (ws' := [(a0, .inr (7, [.ref a3, g4, g5, g6, g7, g8, g9, g10, .int 1, g12])), (a3, .inr (4, [g13, g14, g15, g16, g17, g18, .int 0, g19, g20, g21, g22, g23, g24, g25, g26, g27, g28, g29]))]) [1, 0] rfl
    have hD9 := hD.sub (ws' := [(a0, .inr (7, [.ref a3, g4, g5, g6, g7, g8, g9, g10, .int 1, g12])), (a3, .inr (4, [g13, g14, g15, g16, g17, g18, .int 0, g19, g20, g21, g22, g23, g24, g25, g26, g27, g28, g29]))]) [1, 0] (by decide) rfl
    have hK9 := hK.sub (tys' := []) [] rfl
    exact W.iret (v := (-1)) hx hb hr (fun t ht hW => ⟨⟨(-1), (), rfl, rfl, by rw [ht]; exact hP9, va_K.moved hW.alike hK9, hD9⟩, hS.F ht⟩) hS.2.2 dX10_answer_27
  · refine lv_aload_n hx hb dX10_answer_11 rfl (lv_at hl 0 rfl) ?_
    refine lv_iload_n hx hb dX10_answer_12 rfl (lv_at hl 1 rfl) ?_
    refine cl_i (wc := [(a0, .inr (7, [.ref a3, g4, g5, g6, g7, g8, g9, g10, g11, g12])), (a3, .inr (4, [g13, g14, g15, g16, g17, g18, .int 0, g19, g20, g21, g22, g23, g24, g25, g26, g27, g28, g29]))]) (wr := []) (va_runV (As := [.int k1]) (rest := [.ref a0]) ⟨hx, hb, hml, hown, hts⟩ (kX10_answerTrouble l dC dI a0 k1 a3 (g4) (g5) (g6) (g7) (g8) (g9) (g10) (g11) (g12) (g13) (g14) (g15) (g16) (g17) (g18) (g19) (g20) (g21) (g22) (g23) (g24) (g25) (g26) (g27) (g28) (g29) H.size) (cwV 1 hts gX10_answer_2 rfl rfl rfl (by decide +kernel) ⟨Nat.le_of_ble_eq_true rfl, Nat.le_of_ble_eq_true rfl⟩) (PV (hP.sub (ws' := [(a0, .inr (7, [.ref a3, g4, g5, g6, g7, g8, g9, g10, g11, g12])), (a3, .inr (4, [g13, g14, g15, g16, g17, g18, .int 0, g19, g20, g21, g22, g23, g24, g25, g26, g27, g28, g29]))]) [0, 1] rfl) (hK.sub (tys' := []) [] rfl) (hD.sub (ws' := [(a0, .inr (7, [.ref a3, g4, g5, g6, g7, g8, g9, g10, g11, g12])), (a3, .inr (4, [g13, g14, g15, g16, g17, g18, .int 0, g19, g20, g21, g22, g23, g24, g25, g26, g27, g28, g29]))]) [0, 1] (by decide) rfl) hN 0 rfl rfl) rfl rfl hl.1 rfl (lv_room (Nat.le_of_ble_eq_true rfl)) dX10_answer_13 ⟨Nat.le_of_ble_eq_true rfl, Nat.le_of_ble_eq_true rfl⟩) hP hD hK hS hA [0, 1] [] rfl rfl (by decide) (by decide) (fun z5 _u H locs hw hP hD hK hS => ?_)
    have hP : va_P (dC, dI) vwCl [(a0, .inr (7, [.ref a3, g4, g5, g6, g7, g8, g9, g10, g11, g12])), (a3, .inr (4, [g13, g14, g15, g16, g17, g18, .int 0, g19, g20, g21, g22, g23, g24, g25, g26, g27, g28, g29]))] H := hP
    have hD : va_D A [(a0, .inr (7, [.ref a3, g4, g5, g6, g7, g8, g9, g10, g11, g12])), (a3, .inr (4, [g13, g14, g15, g16, g17, g18, .int 0, g19, g20, g21, g22, g23, g24, g25, g26, g27, g28, g29]))] := hD
    have hK : va_K (dC, dI) vwCl [] s := hK
    obtain rfl : z5 = 1 := hw
    refine lv_goto (tgt := 20) hx hb dX10_answer_16 (by decide) ?_
    refine cl_i (wc := [(a0, .inr (7, [.ref a3, g4, g5, g6, g7, g8, g9, g10, g11, g12]))]) (wr := [(a3, .inr (4, [g13, g14, g15, g16, g17, g18, .int 0, g19, g20, g21, g22, g23, g24, g25, g26, g27, g28, g29]))]) (va_runV (As := [.int 1]) (rest := []) ⟨hx, hb, hml, hown, hts⟩ (kX10_refused l dC dI a0 (.ref a3) (g4) (g5) (g6) (g7) (g8) (g9) (g10) (g11) (g12) H.size) (cwV 1 hts gX10_answer_1 rfl rfl rfl (by decide +kernel) ⟨Nat.le_of_ble_eq_true rfl, Nat.le_of_ble_eq_true rfl⟩) (PV (hP.sub (ws' := [(a0, .inr (7, [.ref a3, g4, g5, g6, g7, g8, g9, g10, g11, g12]))]) [0] rfl) (hK.sub (tys' := []) [] rfl) (hD.sub (ws' := [(a0, .inr (7, [.ref a3, g4, g5, g6, g7, g8, g9, g10, g11, g12]))]) [0] (by decide) rfl) hN 0 rfl rfl) rfl rfl hl.1 rfl (lv_room (Nat.le_of_ble_eq_true rfl)) dX10_answer_20 ⟨Nat.le_of_ble_eq_true rfl, Nat.le_of_ble_eq_true rfl⟩) hP hD hK hS hA [0] [1] rfl rfl (by decide) (by decide) (fun z6 _u H locs hw hP hD hK hS => ?_)
    have hP : va_P (dC, dI) vwCl [(a3, .inr (4, [g13, g14, g15, g16, g17, g18, .int 0, g19, g20, g21, g22, g23, g24, g25, g26, g27, g28, g29])), (a0, .inr (7, [.ref a3, g4, g5, g6, g7, g8, g9, g10, .int 1, g12]))] H := hP
    have hD : va_D A [(a3, .inr (4, [g13, g14, g15, g16, g17, g18, .int 0, g19, g20, g21, g22, g23, g24, g25, g26, g27, g28, g29])), (a0, .inr (7, [.ref a3, g4, g5, g6, g7, g8, g9, g10, .int 1, g12]))] := hD
    have hK : va_K (dC, dI) vwCl [] s := hK
    obtain rfl : z6 = 1 := hw
    refine lv_if_eq (tgt := 28) hx hb dX10_answer_23 (by decide) (fun c7 => absurd c7 (by decide)) (fun _ => ?_)
    refine lv_iconst (v := (-1)) hx hb dX10_answer_26 (by decide) ?_
    have hP9 := hP.sub (ws' := [(a0, .inr (7, [.ref a3, g4, g5, g6, g7, g8, g9, g10, .int 1, g12])), (a3, .inr (4, [g13, g14, g15, g16, g17, g18, .int 0, g19, g20, g21, g22, g23, g24, g25, g26, g27, g28, g29]))]) [1, 0] rfl
    have hD9 := hD.sub (ws' := [(a0, .inr (7, [.ref a3, g4, g5, g6, g7, g8, g9, g10, .int 1, g12])), (a3, .inr (4, [g13, g14, g15, g16, g17, g18, .int 0, g19, g20, g21, g22, g23, g24, g25, g26, g27, g28, g29]))]) [1, 0] (by decide) rfl
    have hK9 := hK.sub (tys' := []) [] rfl
    exact W.iret (v := (-1)) hx hb hr (fun t ht hW => ⟨⟨(-1), (), rfl, rfl, by rw [ht]; exact hP9, va_K.moved hW.alike hK9, hD9⟩, hS.F ht⟩) hS.2.2 dX10_answer_27
