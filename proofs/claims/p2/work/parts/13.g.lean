theorem dX12_byteAt_0 : decode cX12_byteAt 0 = .ok (.iload_n 1, 1) := by decide +kernel
theorem dX12_byteAt_1 : decode cX12_byteAt 1 = .ok (.aload_n 0, 1) := by decide +kernel
theorem dX12_byteAt_12 : decode cX12_byteAt 12 = .ok (.iload_n 1, 1) := by decide +kernel
theorem dX12_byteAt_13 : decode cX12_byteAt 13 = .ok (.baload, 1) := by decide +kernel
theorem dX12_byteAt_14 : decode cX12_byteAt 14 = .ok (.sipush 255, 3) := by decide +kernel
theorem dX12_byteAt_17 : decode cX12_byteAt 17 = .ok (.iand, 1) := by decide +kernel
theorem dX12_byteAt_18 : decode cX12_byteAt 18 = .ok (.goto 4, 3) := by decide +kernel
theorem dX12_byteAt_2 : decode cX12_byteAt 2 = .ok (.getfield 53, 3) := by decide +kernel
theorem dX12_byteAt_21 : decode cX12_byteAt 21 = .ok (.iconst (-1), 1) := by decide +kernel
theorem dX12_byteAt_22 : decode cX12_byteAt 22 = .ok (.ireturn, 1) := by decide +kernel
theorem dX12_byteAt_5 : decode cX12_byteAt 5 = .ok (.if_icmp .ge 16, 3) := by decide +kernel
theorem dX12_byteAt_8 : decode cX12_byteAt 8 = .ok (.aload_n 0, 1) := by decide +kernel
theorem dX12_byteAt_9 : decode cX12_byteAt 9 = .ok (.getfield 13, 3) := by decide +kernel
def vX12_byteAt : List Cond := .code yX12_byteAt cX12_byteAt 2 (some .int) :: ([.fieldLink RX12 53 "HookPierModel" "size" "I", .fieldLink RX12 13 "HookPierModel" "tape" "[B"] ++ wsX120)
theorem iX12_byteAt_X12 : ∀ w ∈ wsX120, w ∈ vX12_byteAt := fun _ h => List.mem_cons_of_mem _ (List.mem_append_right _ h)
set_option maxHeartbeats 2000000 in
set_option maxRecDepth 100000 in
theorem kX12_byteAt (l : Launch) (dC : Nat → ClassId) (dI : Nat → Nat → Nat) (a0 : Nat) (k1 : Int32) (a2 : Nat) (g3 : Value) (g4 : Value) (g5 : Value) (g6 : Value) (g7 : Value) (g8 : Value) (k9 : Int32) (g10 : Value) (g11 : Value) (g12 : Value) (g13 : Value) (g14 : Value) (g15 : Value) (g16 : Value) (g17 : Value) (g18 : Value) (g19 : Value) (g20 : Value) (g21 : Value) (g22 : Value) (g23 : Value) (g24 : Value) (g25 : Value) (g26 : Value) (g27 : Value) (g28 : Value) (g29 : Value) (g30 : Value) (g31 : Value) (cB32 : ClassId) (f33 : Nat → Int32) (hk1 : (0 ≤ k1.toInt ∧ k1.toInt ≤ 900)) (hk9 : (0 ≤ k9.toInt ∧ k9.toInt ≤ 900)) (sz : Nat) : Met l yX12_byteAt vX12_byteAt ({ frames := 0, cells := 0, slots := 0, locals := 0 }) (PC (dC, dI) [.ref a0, .int k1] sz [(a0, .inr (9, [g3, g4, g5, g6, g7, .ref a2, g8, .int k9, g10, g11, g12, g13, g14, g15, g16, g17, g18, g19, g20, g21, g22, g23, g24, g25, g26, g27, g28, g29, g30, g31])), (a2, .inl (cB32, 900, .inl f33))] [(cB32, .byte)]) (va_Qi (S := Unit) (fun (r : Int32) _ => (r = (-1) ∨ ((0 ≤ r.toInt ∧ r.toInt ≤ 255) ∧ (¬ (k9.toInt ≤ k1.toInt))))) (fun _ t => BC (dC, dI) (va_A [(a0, .inr (9, [g3, g4, g5, g6, g7, .ref a2, g8, .int k9, g10, g11, g12, g13, g14, g15, g16, g17, g18, g19, g20, g21, g22, g23, g24, g25, g26, g27, g28, g29, g30, g31])), (a2, .inl (cB32, 900, .inl f33))] sz) [(a0, .inr (9, [g3, g4, g5, g6, g7, .ref a2, g8, .int k9, g10, g11, g12, g13, g14, g15, g16, g17, g18, g19, g20, g21, g22, g23, g24, g25, g26, g27, g28, g29, g30, g31])), (a2, .inl (cB32, 900, .inl f33))] [] t) (va_A [(a0, .inr (9, [g3, g4, g5, g6, g7, .ref a2, g8, .int k9, g10, g11, g12, g13, g14, g15, g16, g17, g18, g19, g20, g21, g22, g23, g24, g25, g26, g27, g28, g29, g30, g31])), (a2, .inl (cB32, 900, .inl f33))] sz)) 0 0 (va_A [(a0, .inr (9, [g3, g4, g5, g6, g7, .ref a2, g8, .int k9, g10, g11, g12, g13, g14, g15, g16, g17, g18, g19, g20, g21, g22, g23, g24, g25, g26, g27, g28, g29, g30, g31])), (a2, .inl (cB32, 900, .inl f33))] sz) := by
  refine Met.ofW (cc := cX12_byteAt) (maxL := 2) (ret := (some .int)) (by decide) rfl ?_
  intro p e s m args below meth c s₁ B hml hv
  obtain ⟨rfl, hsz, hP, hK, hD0, hN⟩ := hv
  have hx := B.exec
  have hb := B.bytes
  have hr := B.returns
  have hts := atoms_spec (ws := vX12_byteAt) B.pre
  have hown : s.vm.findClass RX12 = some m.cls := findClass_of_methodNamed B.named
  have hlocks := B.notSynchronized
  subst hsz
  have hD := hD0.self (sz := s.heap.size)
  generalize hAe : va_A [(a0, .inr (9, [g3, g4, g5, g6, g7, .ref a2, g8, .int k9, g10, g11, g12, g13, g14, g15, g16, g17, g18, g19, g20, g21, g22, g23, g24, g25, g26, g27, g28, g29, g30, g31])), (a2, .inl (cB32, 900, .inl f33))] s.heap.size = A at hD ⊢
  have hA : ∀ q : Nat, s.heap.size ≤ q → A q := fun q h => by rw [← hAe]; exact Or.inr h
  have hS : va_S A s.heap s.heap [] := va_S.rf
  have hP : va_P (dC, dI) vwCl [(a0, .inr (9, [g3, g4, g5, g6, g7, .ref a2, g8, .int k9, g10, g11, g12, g13, g14, g15, g16, g17, g18, g19, g20, g21, g22, g23, g24, g25, g26, g27, g28, g29, g30, g31])), (a2, .inl (cB32, 900, .inl f33))] s.heap := hP
  have hl := lv_entry ([.ref a0, .int k1]) (n := 2) (Nat.le_of_ble_eq_true rfl)
  rw [lg_entry_eq]
  generalize (lg_sl ([.ref a0, .int k1]) ++ List.replicate (2 - (lg_sl ([.ref a0, .int k1])).length) Slot.unset).toArray = ls at hl ⊢
  have hl : lv_has ls 2 [(0, .ref a0), (1, .int k1)] := hl
  refine lv_iload_n hx hb dX12_byteAt_0 rfl (lv_at hl 1 rfl) ?_
  refine lv_aload_n hx hb dX12_byteAt_1 rfl (lv_at hl 0 rfl) ?_
  refine va_get (D := (dC, dI)) (ci := 9) (v := .int k9) (C := RX12) (T := TX12) (N := 30) hx hb hts iX12_byteAt_X12 hown hK hP 0 rfl rfl 7 (by decide) (hts (.fieldLink RX12 53 "HookPierModel" "size" "I") (List.mem_of_getElem? (i := 1) rfl)) (fun _ h9 => h9) rfl dX12_byteAt_2 ?_
  refine lv_icmp_ge (tgt := 21) hx hb dX12_byteAt_5 (by decide) (fun c1 => ?_) (fun c1 => ?_)
  · simp only [fa_lt, fa_le, fa_eq, ltv_0] at c1
    refine lv_iconst (v := (-1)) hx hb dX12_byteAt_21 (by decide) ?_
    have hP9 := hP.sub (ws' := [(a0, .inr (9, [g3, g4, g5, g6, g7, .ref a2, g8, .int k9, g10, g11, g12, g13, g14, g15, g16, g17, g18, g19, g20, g21, g22, g23, g24, g25, g26, g27, g28, g29, g30, g31])), (a2, .inl (cB32, 900, .inl f33))]) [0, 1] rfl
    have hD9 := hD.sub (ws' := [(a0, .inr (9, [g3, g4, g5, g6, g7, .ref a2, g8, .int k9, g10, g11, g12, g13, g14, g15, g16, g17, g18, g19, g20, g21, g22, g23, g24, g25, g26, g27, g28, g29, g30, g31])), (a2, .inl (cB32, 900, .inl f33))]) [0, 1] (by decide) rfl
    have hK9 := hK.sub (tys' := []) [] rfl
    exact W.iret (v := (-1)) hx hb hr (fun t ht hW => ⟨⟨(-1), (), rfl, (Or.inl rfl), by rw [ht]; exact hP9, va_K.moved hW.alike hK9, hD9⟩, hS.F ht⟩) hS.2.2 dX12_byteAt_22
  · simp only [fa_lt, fa_le, fa_eq, ltv_0] at c1
    refine lv_aload_n hx hb dX12_byteAt_8 rfl (lv_at hl 0 rfl) ?_
    refine va_get (D := (dC, dI)) (ci := 9) (v := .ref a2) (C := RX12) (T := TX12) (N := 30) hx hb hts iX12_byteAt_X12 hown hK hP 0 rfl rfl 5 (by decide) (hts (.fieldLink RX12 13 "HookPierModel" "tape" "[B") (List.mem_of_getElem? (i := 2) rfl)) (fun _ h9 => h9) rfl dX12_byteAt_9 ?_
    refine lv_iload_n hx hb dX12_byteAt_12 rfl (lv_at hl 1 rfl) ?_
    refine va_bald hx hb hK hP 1 0 rfl rfl (vp_in_iff.mpr (by omega)) dX12_byteAt_13 ?_
    refine lv_topi (fun z2 ez2 => ?_)
    clear ez2
    refine lv_sipush (v := 255) hx hb dX12_byteAt_14 (by decide) ?_
    refine lv_iand hx hb dX12_byteAt_17 ?_
    refine lv_topi (fun z3 ez3 => ?_)
    have tz3 : 0 ≤ z3.toInt ∧ z3.toInt ≤ 255 := by rw [ez3, Kit.i32_mask _ _ (k := 8) (by decide) (by decide)]; omega
    refine lv_goto (tgt := 22) hx hb dX12_byteAt_18 (by decide) ?_
    have hP9 := hP.sub (ws' := [(a0, .inr (9, [g3, g4, g5, g6, g7, .ref a2, g8, .int k9, g10, g11, g12, g13, g14, g15, g16, g17, g18, g19, g20, g21, g22, g23, g24, g25, g26, g27, g28, g29, g30, g31])), (a2, .inl (cB32, 900, .inl f33))]) [0, 1] rfl
    have hD9 := hD.sub (ws' := [(a0, .inr (9, [g3, g4, g5, g6, g7, .ref a2, g8, .int k9, g10, g11, g12, g13, g14, g15, g16, g17, g18, g19, g20, g21, g22, g23, g24, g25, g26, g27, g28, g29, g30, g31])), (a2, .inl (cB32, 900, .inl f33))]) [0, 1] (by decide) rfl
    have hK9 := hK.sub (tys' := []) [] rfl
    exact W.iret (v := z3) hx hb hr (fun t ht hW => ⟨⟨z3, (), rfl, (Or.inr ⟨(by first | trivial | omega | (simp only [ltv_0]; omega)), (by first | trivial | omega | (simp only [ltv_0]; omega))⟩), by rw [ht]; exact hP9, va_K.moved hW.alike hK9, hD9⟩, hS.F ht⟩) hS.2.2 dX12_byteAt_22
theorem dX12_isLetter_0 : decode cX12_isLetter 0 = .ok (.iload_n 0, 1) := by decide +kernel
theorem dX12_isLetter_1 : decode cX12_isLetter 1 = .ok (.bipush 97, 2) := by decide +kernel
theorem dX12_isLetter_12 : decode cX12_isLetter 12 = .ok (.iconst 1, 1) := by decide +kernel
theorem dX12_isLetter_13 : decode cX12_isLetter 13 = .ok (.goto 4, 3) := by decide +kernel
theorem dX12_isLetter_16 : decode cX12_isLetter 16 = .ok (.iconst 0, 1) := by decide +kernel
theorem dX12_isLetter_17 : decode cX12_isLetter 17 = .ok (.ireturn, 1) := by decide +kernel
theorem dX12_isLetter_3 : decode cX12_isLetter 3 = .ok (.if_icmp .lt 13, 3) := by decide +kernel
theorem dX12_isLetter_6 : decode cX12_isLetter 6 = .ok (.iload_n 0, 1) := by decide +kernel
theorem dX12_isLetter_7 : decode cX12_isLetter 7 = .ok (.bipush 122, 2) := by decide +kernel
theorem dX12_isLetter_9 : decode cX12_isLetter 9 = .ok (.if_icmp .gt 7, 3) := by decide +kernel
def vX12_isLetter : List Cond := .code yX12_isLetter cX12_isLetter 1 (some .boolean) :: ([])
set_option maxHeartbeats 2000000 in
set_option maxRecDepth 100000 in
theorem kX12_isLetter (l : Launch) (dC : Nat → ClassId) (dI : Nat → Nat → Nat) (k0 : Int32) (sz : Nat) : Met l yX12_isLetter vX12_isLetter ({ frames := 0, cells := 0, slots := 0, locals := 0 }) (PC (dC, dI) [.int k0] sz [] []) (va_Qi (S := Unit) (fun (r : Int32) _ => ((r = 0) ∨ (r = 1 ∧ (¬ (k0.toInt < 97)) ∧ (¬ (122 < k0.toInt)) ∧ (97 ≤ k0.toInt ∧ k0.toInt ≤ 122)))) (fun _ t => BC (dC, dI) (va_A [] sz) [] [] t) (va_A [] sz)) 0 0 (va_A [] sz) := by
  refine Met.ofW (cc := cX12_isLetter) (maxL := 1) (ret := (some .boolean)) (by decide) rfl ?_
  intro p e s m args below meth c s₁ B hml hv
  obtain ⟨rfl, hsz, hP, hK, hD0, hN⟩ := hv
  have hx := B.exec
  have hb := B.bytes
  have hr := B.returns
  have hts := atoms_spec (ws := vX12_isLetter) B.pre
  have hown : s.vm.findClass RX12 = some m.cls := findClass_of_methodNamed B.named
  have hlocks := B.notSynchronized
  subst hsz
  have hD := hD0.self (sz := s.heap.size)
  generalize hAe : va_A [] s.heap.size = A at hD ⊢
  have hA : ∀ q : Nat, s.heap.size ≤ q → A q := fun q h => by rw [← hAe]; exact Or.inr h
  have hS : va_S A s.heap s.heap [] := va_S.rf
  have hP : va_P (dC, dI) vwCl [] s.heap := hP
  have hl := lv_entry ([.int k0]) (n := 1) (Nat.le_of_ble_eq_true rfl)
  rw [lg_entry_eq]
  generalize (lg_sl ([.int k0]) ++ List.replicate (1 - (lg_sl ([.int k0])).length) Slot.unset).toArray = ls at hl ⊢
  have hl : lv_has ls 1 [(0, .int k0)] := hl
  refine lv_iload_n hx hb dX12_isLetter_0 rfl (lv_at hl 0 rfl) ?_
  refine lv_bipush (v := 97) hx hb dX12_isLetter_1 (by decide) ?_
  refine lv_icmp_lt (tgt := 16) hx hb dX12_isLetter_3 (by decide) (fun c1 => ?_) (fun c1 => ?_)
  · simp only [fa_lt, fa_le, fa_eq, ltv_0, ltv_97] at c1
    refine lv_iconst (v := 0) hx hb dX12_isLetter_16 (by decide) ?_
    have hP9 := hP.sub (ws' := []) [] rfl
    have hD9 := hD.sub (ws' := []) [] (by decide) rfl
    have hK9 := hK.sub (tys' := []) [] rfl
    exact W.zret (v := 0) hx hb hr rfl (fun t ht hW => ⟨⟨0, (), rfl, (Or.inl rfl), by rw [ht]; exact hP9, va_K.moved hW.alike hK9, hD9⟩, hS.F ht⟩) hS.2.2 dX12_isLetter_17
  · simp only [fa_lt, fa_le, fa_eq, ltv_0, ltv_97] at c1
    refine lv_iload_n hx hb dX12_isLetter_6 rfl (lv_at hl 0 rfl) ?_
    refine lv_bipush (v := 122) hx hb dX12_isLetter_7 (by decide) ?_
    refine lv_icmp_gt (tgt := 16) hx hb dX12_isLetter_9 (by decide) (fun c2 => ?_) (fun c2 => ?_)
    · simp only [fa_lt, fa_le, fa_eq, ltv_0, ltv_122] at c2
      refine lv_iconst (v := 0) hx hb dX12_isLetter_16 (by decide) ?_
      have hP9 := hP.sub (ws' := []) [] rfl
      have hD9 := hD.sub (ws' := []) [] (by decide) rfl
      have hK9 := hK.sub (tys' := []) [] rfl
      exact W.zret (v := 0) hx hb hr rfl (fun t ht hW => ⟨⟨0, (), rfl, (Or.inl rfl), by rw [ht]; exact hP9, va_K.moved hW.alike hK9, hD9⟩, hS.F ht⟩) hS.2.2 dX12_isLetter_17
    · simp only [fa_lt, fa_le, fa_eq, ltv_0, ltv_122] at c2
      refine lv_iconst (v := 1) hx hb dX12_isLetter_12 (by decide) ?_
      refine lv_goto (tgt := 17) hx hb dX12_isLetter_13 (by decide) ?_
      have hP9 := hP.sub (ws' := []) [] rfl
      have hD9 := hD.sub (ws' := []) [] (by decide) rfl
      have hK9 := hK.sub (tys' := []) [] rfl
      exact W.zret (v := 1) hx hb hr rfl (fun t ht hW => ⟨⟨1, (), rfl, (Or.inr ⟨rfl, (by first | trivial | omega | (simp only [ltv_0, ltv_1]; omega)), (by first | trivial | omega | (simp only [ltv_0, ltv_1]; omega)), (by first | trivial | omega | (simp only [ltv_0, ltv_1]; omega))⟩), by rw [ht]; exact hP9, va_K.moved hW.alike hK9, hD9⟩, hS.F ht⟩) hS.2.2 dX12_isLetter_17
theorem dX12_isDigit_0 : decode cX12_isDigit 0 = .ok (.iload_n 0, 1) := by decide +kernel
theorem dX12_isDigit_1 : decode cX12_isDigit 1 = .ok (.bipush 48, 2) := by decide +kernel
theorem dX12_isDigit_12 : decode cX12_isDigit 12 = .ok (.iconst 1, 1) := by decide +kernel
theorem dX12_isDigit_13 : decode cX12_isDigit 13 = .ok (.goto 4, 3) := by decide +kernel
theorem dX12_isDigit_16 : decode cX12_isDigit 16 = .ok (.iconst 0, 1) := by decide +kernel
theorem dX12_isDigit_17 : decode cX12_isDigit 17 = .ok (.ireturn, 1) := by decide +kernel
theorem dX12_isDigit_3 : decode cX12_isDigit 3 = .ok (.if_icmp .lt 13, 3) := by decide +kernel
theorem dX12_isDigit_6 : decode cX12_isDigit 6 = .ok (.iload_n 0, 1) := by decide +kernel
theorem dX12_isDigit_7 : decode cX12_isDigit 7 = .ok (.bipush 57, 2) := by decide +kernel
theorem dX12_isDigit_9 : decode cX12_isDigit 9 = .ok (.if_icmp .gt 7, 3) := by decide +kernel
def vX12_isDigit : List Cond := .code yX12_isDigit cX12_isDigit 1 (some .boolean) :: ([])
set_option maxHeartbeats 2000000 in
set_option maxRecDepth 100000 in
theorem kX12_isDigit (l : Launch) (dC : Nat → ClassId) (dI : Nat → Nat → Nat) (k0 : Int32) (sz : Nat) : Met l yX12_isDigit vX12_isDigit ({ frames := 0, cells := 0, slots := 0, locals := 0 }) (PC (dC, dI) [.int k0] sz [] []) (va_Qi (S := Unit) (fun (r : Int32) _ => ((r = 0) ∨ (r = 1 ∧ (¬ (k0.toInt < 48)) ∧ (¬ (57 < k0.toInt)) ∧ (48 ≤ k0.toInt ∧ k0.toInt ≤ 57)))) (fun _ t => BC (dC, dI) (va_A [] sz) [] [] t) (va_A [] sz)) 0 0 (va_A [] sz) := by
  refine Met.ofW (cc := cX12_isDigit) (maxL := 1) (ret := (some .boolean)) (by decide) rfl ?_
  intro p e s m args below meth c s₁ B hml hv
  obtain ⟨rfl, hsz, hP, hK, hD0, hN⟩ := hv
  have hx := B.exec
  have hb := B.bytes
  have hr := B.returns
  have hts := atoms_spec (ws := vX12_isDigit) B.pre
  have hown : s.vm.findClass RX12 = some m.cls := findClass_of_methodNamed B.named
  have hlocks := B.notSynchronized
  subst hsz
  have hD := hD0.self (sz := s.heap.size)
  generalize hAe : va_A [] s.heap.size = A at hD ⊢
  have hA : ∀ q : Nat, s.heap.size ≤ q → A q := fun q h => by rw [← hAe]; exact Or.inr h
  have hS : va_S A s.heap s.heap [] := va_S.rf
  have hP : va_P (dC, dI) vwCl [] s.heap := hP
  have hl := lv_entry ([.int k0]) (n := 1) (Nat.le_of_ble_eq_true rfl)
  rw [lg_entry_eq]
  generalize (lg_sl ([.int k0]) ++ List.replicate (1 - (lg_sl ([.int k0])).length) Slot.unset).toArray = ls at hl ⊢
  have hl : lv_has ls 1 [(0, .int k0)] := hl
  refine lv_iload_n hx hb dX12_isDigit_0 rfl (lv_at hl 0 rfl) ?_
  refine lv_bipush (v := 48) hx hb dX12_isDigit_1 (by decide) ?_
  refine lv_icmp_lt (tgt := 16) hx hb dX12_isDigit_3 (by decide) (fun c1 => ?_) (fun c1 => ?_)
  · simp only [fa_lt, fa_le, fa_eq, ltv_0, ltv_48] at c1
    refine lv_iconst (v := 0) hx hb dX12_isDigit_16 (by decide) ?_
    have hP9 := hP.sub (ws' := []) [] rfl
    have hD9 := hD.sub (ws' := []) [] (by decide) rfl
    have hK9 := hK.sub (tys' := []) [] rfl
    exact W.zret (v := 0) hx hb hr rfl (fun t ht hW => ⟨⟨0, (), rfl, (Or.inl rfl), by rw [ht]; exact hP9, va_K.moved hW.alike hK9, hD9⟩, hS.F ht⟩) hS.2.2 dX12_isDigit_17
  · simp only [fa_lt, fa_le, fa_eq, ltv_0, ltv_48] at c1
    refine lv_iload_n hx hb dX12_isDigit_6 rfl (lv_at hl 0 rfl) ?_
    refine lv_bipush (v := 57) hx hb dX12_isDigit_7 (by decide) ?_
    refine lv_icmp_gt (tgt := 16) hx hb dX12_isDigit_9 (by decide) (fun c2 => ?_) (fun c2 => ?_)
    · simp only [fa_lt, fa_le, fa_eq, ltv_0, ltv_57] at c2
      refine lv_iconst (v := 0) hx hb dX12_isDigit_16 (by decide) ?_
      have hP9 := hP.sub (ws' := []) [] rfl
      have hD9 := hD.sub (ws' := []) [] (by decide) rfl
      have hK9 := hK.sub (tys' := []) [] rfl
      exact W.zret (v := 0) hx hb hr rfl (fun t ht hW => ⟨⟨0, (), rfl, (Or.inl rfl), by rw [ht]; exact hP9, va_K.moved hW.alike hK9, hD9⟩, hS.F ht⟩) hS.2.2 dX12_isDigit_17
    · simp only [fa_lt, fa_le, fa_eq, ltv_0, ltv_57] at c2
      refine lv_iconst (v := 1) hx hb dX12_isDigit_12 (by decide) ?_
      refine lv_goto (tgt := 17) hx hb dX12_isDigit_13 (by decide) ?_
      have hP9 := hP.sub (ws' := []) [] rfl
      have hD9 := hD.sub (ws' := []) [] (by decide) rfl
      have hK9 := hK.sub (tys' := []) [] rfl
      exact W.zret (v := 1) hx hb hr rfl (fun t ht hW => ⟨⟨1, (), rfl, (Or.inr ⟨rfl, (by first | trivial | omega | (simp only [ltv_0, ltv_1]; omega)), (by first | trivial | omega | (simp only [ltv_0, ltv_1]; omega)), (by first | trivial | omega | (simp only [ltv_0, ltv_1]; omega))⟩), by rw [ht]; exact hP9, va_K.moved hW.alike hK9, hD9⟩, hS.F ht⟩) hS.2.2 dX12_isDigit_17
theorem dX12_goesOn_0 : decode cX12_goesOn 0 = .ok (.aload_n 0, 1) := by decide +kernel
theorem dX12_goesOn_1 : decode cX12_goesOn 1 = .ok (.getfield 68, 3) := by decide +kernel
theorem dX12_goesOn_10 : decode cX12_goesOn 10 = .ok (.aload_n 0, 1) := by decide +kernel
theorem dX12_goesOn_101 : decode cX12_goesOn 101 = .ok (.if_icmp .ge 30, 3) := by decide +kernel
theorem dX12_goesOn_104 : decode cX12_goesOn 104 = .ok (.aload_n 0, 1) := by decide +kernel
theorem dX12_goesOn_105 : decode cX12_goesOn 105 = .ok (.ldc2_w 62, 3) := by decide +kernel
theorem dX12_goesOn_108 : decode cX12_goesOn 108 = .ok (.aload_n 0, 1) := by decide +kernel
theorem dX12_goesOn_109 : decode cX12_goesOn 109 = .ok (.getfield 84, 3) := by decide +kernel
theorem dX12_goesOn_11 : decode cX12_goesOn 11 = .ok (.getfield 71, 3) := by decide +kernel
theorem dX12_goesOn_112 : decode cX12_goesOn 112 = .ok (.lmul, 1) := by decide +kernel
theorem dX12_goesOn_113 : decode cX12_goesOn 113 = .ok (.aload_n 0, 1) := by decide +kernel
theorem dX12_goesOn_114 : decode cX12_goesOn 114 = .ok (.aload_n 0, 1) := by decide +kernel
theorem dX12_goesOn_115 : decode cX12_goesOn 115 = .ok (.getfield 71, 3) := by decide +kernel
theorem dX12_goesOn_118 : decode cX12_goesOn 118 = .ok (.invokevirtual 74, 3) := by decide +kernel
theorem dX12_goesOn_121 : decode cX12_goesOn 121 = .ok (.bipush 97, 2) := by decide +kernel
theorem dX12_goesOn_123 : decode cX12_goesOn 123 = .ok (.isub, 1) := by decide +kernel
theorem dX12_goesOn_124 : decode cX12_goesOn 124 = .ok (.iconst 1, 1) := by decide +kernel
theorem dX12_goesOn_125 : decode cX12_goesOn 125 = .ok (.iadd, 1) := by decide +kernel
theorem dX12_goesOn_126 : decode cX12_goesOn 126 = .ok (.i2l, 1) := by decide +kernel
theorem dX12_goesOn_127 : decode cX12_goesOn 127 = .ok (.ladd, 1) := by decide +kernel
theorem dX12_goesOn_128 : decode cX12_goesOn 128 = .ok (.putfield 84, 3) := by decide +kernel
theorem dX12_goesOn_131 : decode cX12_goesOn 131 = .ok (.iinc 2 1, 3) := by decide +kernel
theorem dX12_goesOn_134 : decode cX12_goesOn 134 = .ok (.aload_n 0, 1) := by decide +kernel
theorem dX12_goesOn_135 : decode cX12_goesOn 135 = .ok (.dup, 1) := by decide +kernel
theorem dX12_goesOn_136 : decode cX12_goesOn 136 = .ok (.getfield 71, 3) := by decide +kernel
theorem dX12_goesOn_139 : decode cX12_goesOn 139 = .ok (.iconst 1, 1) := by decide +kernel
theorem dX12_goesOn_14 : decode cX12_goesOn 14 = .ok (.invokevirtual 74, 3) := by decide +kernel
theorem dX12_goesOn_140 : decode cX12_goesOn 140 = .ok (.iadd, 1) := by decide +kernel
theorem dX12_goesOn_141 : decode cX12_goesOn 141 = .ok (.putfield 71, 3) := by decide +kernel
theorem dX12_goesOn_144 : decode cX12_goesOn 144 = .ok (.goto (-60), 3) := by decide +kernel
theorem dX12_goesOn_147 : decode cX12_goesOn 147 = .ok (.iload_n 2, 1) := by decide +kernel
theorem dX12_goesOn_148 : decode cX12_goesOn 148 = .ok (.bipush 8, 2) := by decide +kernel
theorem dX12_goesOn_150 : decode cX12_goesOn 150 = .ok (.if_icmp .gt 115, 3) := by decide +kernel
theorem dX12_goesOn_153 : decode cX12_goesOn 153 = .ok (.aload_n 0, 1) := by decide +kernel
theorem dX12_goesOn_154 : decode cX12_goesOn 154 = .ok (.iconst 2, 1) := by decide +kernel
theorem dX12_goesOn_155 : decode cX12_goesOn 155 = .ok (.putfield 68, 3) := by decide +kernel
theorem dX12_goesOn_158 : decode cX12_goesOn 158 = .ok (.goto 107, 3) := by decide +kernel
theorem dX12_goesOn_161 : decode cX12_goesOn 161 = .ok (.iload_n 1, 1) := by decide +kernel
theorem dX12_goesOn_162 : decode cX12_goesOn 162 = .ok (.invokestatic 88, 3) := by decide +kernel
theorem dX12_goesOn_165 : decode cX12_goesOn 165 = .ok (.ifCond .eq 79, 3) := by decide +kernel
theorem dX12_goesOn_168 : decode cX12_goesOn 168 = .ok (.aload_n 0, 1) := by decide +kernel
theorem dX12_goesOn_169 : decode cX12_goesOn 169 = .ok (.iconst 0, 1) := by decide +kernel
theorem dX12_goesOn_17 : decode cX12_goesOn 17 = .ok (.bipush 32, 2) := by decide +kernel
theorem dX12_goesOn_170 : decode cX12_goesOn 170 = .ok (.putfield 91, 3) := by decide +kernel
theorem dX12_goesOn_173 : decode cX12_goesOn 173 = .ok (.aload_n 0, 1) := by decide +kernel
theorem dX12_goesOn_174 : decode cX12_goesOn 174 = .ok (.aload_n 0, 1) := by decide +kernel
theorem dX12_goesOn_175 : decode cX12_goesOn 175 = .ok (.getfield 71, 3) := by decide +kernel
theorem dX12_goesOn_178 : decode cX12_goesOn 178 = .ok (.invokevirtual 74, 3) := by decide +kernel
theorem dX12_goesOn_181 : decode cX12_goesOn 181 = .ok (.invokestatic 88, 3) := by decide +kernel
theorem dX12_goesOn_184 : decode cX12_goesOn 184 = .ok (.ifCond .eq 47, 3) := by decide +kernel
theorem dX12_goesOn_187 : decode cX12_goesOn 187 = .ok (.iload_n 2, 1) := by decide +kernel
theorem dX12_goesOn_188 : decode cX12_goesOn 188 = .ok (.iconst 2, 1) := by decide +kernel
theorem dX12_goesOn_189 : decode cX12_goesOn 189 = .ok (.if_icmp .ge 26, 3) := by decide +kernel
theorem dX12_goesOn_19 : decode cX12_goesOn 19 = .ok (.if_icmp .ne 16, 3) := by decide +kernel
theorem dX12_goesOn_192 : decode cX12_goesOn 192 = .ok (.aload_n 0, 1) := by decide +kernel
theorem dX12_goesOn_193 : decode cX12_goesOn 193 = .ok (.bipush 10, 2) := by decide +kernel
theorem dX12_goesOn_195 : decode cX12_goesOn 195 = .ok (.aload_n 0, 1) := by decide +kernel
theorem dX12_goesOn_196 : decode cX12_goesOn 196 = .ok (.getfield 91, 3) := by decide +kernel
theorem dX12_goesOn_199 : decode cX12_goesOn 199 = .ok (.imul, 1) := by decide +kernel
theorem dX12_goesOn_200 : decode cX12_goesOn 200 = .ok (.aload_n 0, 1) := by decide +kernel
theorem dX12_goesOn_201 : decode cX12_goesOn 201 = .ok (.aload_n 0, 1) := by decide +kernel
theorem dX12_goesOn_202 : decode cX12_goesOn 202 = .ok (.getfield 71, 3) := by decide +kernel
theorem dX12_goesOn_205 : decode cX12_goesOn 205 = .ok (.invokevirtual 74, 3) := by decide +kernel
theorem dX12_goesOn_208 : decode cX12_goesOn 208 = .ok (.iadd, 1) := by decide +kernel
theorem dX12_goesOn_209 : decode cX12_goesOn 209 = .ok (.bipush 48, 2) := by decide +kernel
theorem dX12_goesOn_211 : decode cX12_goesOn 211 = .ok (.isub, 1) := by decide +kernel
theorem dX12_goesOn_212 : decode cX12_goesOn 212 = .ok (.putfield 91, 3) := by decide +kernel
theorem dX12_goesOn_215 : decode cX12_goesOn 215 = .ok (.iinc 2 1, 3) := by decide +kernel
theorem dX12_goesOn_218 : decode cX12_goesOn 218 = .ok (.aload_n 0, 1) := by decide +kernel
theorem dX12_goesOn_219 : decode cX12_goesOn 219 = .ok (.dup, 1) := by decide +kernel
theorem dX12_goesOn_22 : decode cX12_goesOn 22 = .ok (.aload_n 0, 1) := by decide +kernel
theorem dX12_goesOn_220 : decode cX12_goesOn 220 = .ok (.getfield 71, 3) := by decide +kernel
theorem dX12_goesOn_223 : decode cX12_goesOn 223 = .ok (.iconst 1, 1) := by decide +kernel
theorem dX12_goesOn_224 : decode cX12_goesOn 224 = .ok (.iadd, 1) := by decide +kernel
theorem dX12_goesOn_225 : decode cX12_goesOn 225 = .ok (.putfield 71, 3) := by decide +kernel
theorem dX12_goesOn_228 : decode cX12_goesOn 228 = .ok (.goto (-55), 3) := by decide +kernel
theorem dX12_goesOn_23 : decode cX12_goesOn 23 = .ok (.dup, 1) := by decide +kernel
theorem dX12_goesOn_231 : decode cX12_goesOn 231 = .ok (.iload_n 2, 1) := by decide +kernel
theorem dX12_goesOn_232 : decode cX12_goesOn 232 = .ok (.iconst 2, 1) := by decide +kernel
theorem dX12_goesOn_233 : decode cX12_goesOn 233 = .ok (.if_icmp .gt 32, 3) := by decide +kernel
theorem dX12_goesOn_236 : decode cX12_goesOn 236 = .ok (.aload_n 0, 1) := by decide +kernel
theorem dX12_goesOn_237 : decode cX12_goesOn 237 = .ok (.iconst 3, 1) := by decide +kernel
theorem dX12_goesOn_238 : decode cX12_goesOn 238 = .ok (.putfield 68, 3) := by decide +kernel
theorem dX12_goesOn_24 : decode cX12_goesOn 24 = .ok (.getfield 71, 3) := by decide +kernel
theorem dX12_goesOn_241 : decode cX12_goesOn 241 = .ok (.goto 24, 3) := by decide +kernel
theorem dX12_goesOn_244 : decode cX12_goesOn 244 = .ok (.iload_n 1, 1) := by decide +kernel
theorem dX12_goesOn_245 : decode cX12_goesOn 245 = .ok (.bipush 59, 2) := by decide +kernel
theorem dX12_goesOn_247 : decode cX12_goesOn 247 = .ok (.if_icmp .ne 18, 3) := by decide +kernel
theorem dX12_goesOn_250 : decode cX12_goesOn 250 = .ok (.aload_n 0, 1) := by decide +kernel
theorem dX12_goesOn_251 : decode cX12_goesOn 251 = .ok (.iconst 4, 1) := by decide +kernel
theorem dX12_goesOn_252 : decode cX12_goesOn 252 = .ok (.putfield 68, 3) := by decide +kernel
theorem dX12_goesOn_255 : decode cX12_goesOn 255 = .ok (.aload_n 0, 1) := by decide +kernel
theorem dX12_goesOn_256 : decode cX12_goesOn 256 = .ok (.dup, 1) := by decide +kernel
theorem dX12_goesOn_257 : decode cX12_goesOn 257 = .ok (.getfield 71, 3) := by decide +kernel
theorem dX12_goesOn_260 : decode cX12_goesOn 260 = .ok (.iconst 1, 1) := by decide +kernel
theorem dX12_goesOn_261 : decode cX12_goesOn 261 = .ok (.iadd, 1) := by decide +kernel
theorem dX12_goesOn_262 : decode cX12_goesOn 262 = .ok (.putfield 71, 3) := by decide +kernel
theorem dX12_goesOn_265 : decode cX12_goesOn 265 = .ok (.return_, 1) := by decide +kernel
theorem dX12_goesOn_27 : decode cX12_goesOn 27 = .ok (.iconst 1, 1) := by decide +kernel
theorem dX12_goesOn_28 : decode cX12_goesOn 28 = .ok (.iadd, 1) := by decide +kernel
theorem dX12_goesOn_29 : decode cX12_goesOn 29 = .ok (.putfield 71, 3) := by decide +kernel
theorem dX12_goesOn_32 : decode cX12_goesOn 32 = .ok (.goto (-23), 3) := by decide +kernel
theorem dX12_goesOn_35 : decode cX12_goesOn 35 = .ok (.aload_n 0, 1) := by decide +kernel
theorem dX12_goesOn_36 : decode cX12_goesOn 36 = .ok (.aload_n 0, 1) := by decide +kernel
theorem dX12_goesOn_37 : decode cX12_goesOn 37 = .ok (.getfield 71, 3) := by decide +kernel
theorem dX12_goesOn_4 : decode cX12_goesOn 4 = .ok (.iconst 5, 1) := by decide +kernel
theorem dX12_goesOn_40 : decode cX12_goesOn 40 = .ok (.putfield 77, 3) := by decide +kernel
theorem dX12_goesOn_43 : decode cX12_goesOn 43 = .ok (.aload_n 0, 1) := by decide +kernel
theorem dX12_goesOn_44 : decode cX12_goesOn 44 = .ok (.iconst 0, 1) := by decide +kernel
theorem dX12_goesOn_45 : decode cX12_goesOn 45 = .ok (.putfield 68, 3) := by decide +kernel
theorem dX12_goesOn_48 : decode cX12_goesOn 48 = .ok (.aload_n 0, 1) := by decide +kernel
theorem dX12_goesOn_49 : decode cX12_goesOn 49 = .ok (.aload_n 0, 1) := by decide +kernel
theorem dX12_goesOn_5 : decode cX12_goesOn 5 = .ok (.if_icmp .ne 4, 3) := by decide +kernel
theorem dX12_goesOn_50 : decode cX12_goesOn 50 = .ok (.getfield 71, 3) := by decide +kernel
theorem dX12_goesOn_53 : decode cX12_goesOn 53 = .ok (.invokevirtual 74, 3) := by decide +kernel
theorem dX12_goesOn_56 : decode cX12_goesOn 56 = .ok (.istore_n 1, 1) := by decide +kernel
theorem dX12_goesOn_57 : decode cX12_goesOn 57 = .ok (.iconst 0, 1) := by decide +kernel
theorem dX12_goesOn_58 : decode cX12_goesOn 58 = .ok (.istore_n 2, 1) := by decide +kernel
theorem dX12_goesOn_59 : decode cX12_goesOn 59 = .ok (.iload_n 1, 1) := by decide +kernel
theorem dX12_goesOn_60 : decode cX12_goesOn 60 = .ok (.iconst (-1), 1) := by decide +kernel
theorem dX12_goesOn_61 : decode cX12_goesOn 61 = .ok (.if_icmp .ne 11, 3) := by decide +kernel
theorem dX12_goesOn_64 : decode cX12_goesOn 64 = .ok (.aload_n 0, 1) := by decide +kernel
theorem dX12_goesOn_65 : decode cX12_goesOn 65 = .ok (.iconst 1, 1) := by decide +kernel
theorem dX12_goesOn_66 : decode cX12_goesOn 66 = .ok (.putfield 68, 3) := by decide +kernel
theorem dX12_goesOn_69 : decode cX12_goesOn 69 = .ok (.goto 196, 3) := by decide +kernel
theorem dX12_goesOn_72 : decode cX12_goesOn 72 = .ok (.iload_n 1, 1) := by decide +kernel
theorem dX12_goesOn_73 : decode cX12_goesOn 73 = .ok (.invokestatic 80, 3) := by decide +kernel
theorem dX12_goesOn_76 : decode cX12_goesOn 76 = .ok (.ifCond .eq 85, 3) := by decide +kernel
theorem dX12_goesOn_79 : decode cX12_goesOn 79 = .ok (.aload_n 0, 1) := by decide +kernel
theorem dX12_goesOn_8 : decode cX12_goesOn 8 = .ok (.return_, 1) := by decide +kernel
theorem dX12_goesOn_80 : decode cX12_goesOn 80 = .ok (.lconst 0, 1) := by decide +kernel
theorem dX12_goesOn_81 : decode cX12_goesOn 81 = .ok (.putfield 84, 3) := by decide +kernel
theorem dX12_goesOn_84 : decode cX12_goesOn 84 = .ok (.aload_n 0, 1) := by decide +kernel
theorem dX12_goesOn_85 : decode cX12_goesOn 85 = .ok (.aload_n 0, 1) := by decide +kernel
theorem dX12_goesOn_86 : decode cX12_goesOn 86 = .ok (.getfield 71, 3) := by decide +kernel
theorem dX12_goesOn_89 : decode cX12_goesOn 89 = .ok (.invokevirtual 74, 3) := by decide +kernel
theorem dX12_goesOn_9 : decode cX12_goesOn 9 = .ok (.aload_n 0, 1) := by decide +kernel
theorem dX12_goesOn_92 : decode cX12_goesOn 92 = .ok (.invokestatic 80, 3) := by decide +kernel
theorem dX12_goesOn_95 : decode cX12_goesOn 95 = .ok (.ifCond .eq 52, 3) := by decide +kernel
theorem dX12_goesOn_98 : decode cX12_goesOn 98 = .ok (.iload_n 2, 1) := by decide +kernel
theorem dX12_goesOn_99 : decode cX12_goesOn 99 = .ok (.bipush 8, 2) := by decide +kernel
def vX12_goesOn : List Cond := .code yX12_goesOn cX12_goesOn 3 none :: ([.fieldLink RX12 68 "HookPierModel" "sort" "I", .fieldLink RX12 71 "HookPierModel" "spot" "I", .methodLink RX12 74 yX12_byteAt, .instanceMethod yX12_byteAt, .selects RX12 yX12_byteAt yX12_byteAt, .initialized RX12, .code yX12_byteAt cX12_byteAt 2 (some .int), .fieldLink RX12 53 "HookPierModel" "size" "I", .fieldLink RX12 13 "HookPierModel" "tape" "[B", .fieldLink RX12 77 "HookPierModel" "place" "I", .methodLink RX12 80 yX12_isLetter, .static yX12_isLetter, .code yX12_isLetter cX12_isLetter 1 (some .boolean), .methodLink RX12 88 yX12_isDigit, .static yX12_isDigit, .code yX12_isDigit cX12_isDigit 1 (some .boolean), .fieldLink RX12 91 "HookPierModel" "number" "I", .fieldLink RX12 84 "HookPierModel" "word" "J", .constantLong RX12 62 (32)] ++ wsX120)
theorem iX12_goesOn_X12 : ∀ w ∈ wsX120, w ∈ vX12_goesOn := fun _ h => List.mem_cons_of_mem _ (List.mem_append_right _ h)
set_option maxRecDepth 20000 in
theorem gX12_goesOn_0 : GoodIn vX12_goesOn (wsV RX12 74 RX12 yX12_byteAt vX12_byteAt) := goodIn_app (goodIn_r [.methodLink RX12 74 yX12_byteAt, .instanceMethod yX12_byteAt, .selects RX12 yX12_byteAt yX12_byteAt, .initialized RX12] [3, 4, 5, 6] (by decide +kernel) (by decide +kernel)) (goodIn_ca (goodIn_r (.code yX12_byteAt cX12_byteAt 2 (some .int) :: [.fieldLink RX12 53 "HookPierModel" "size" "I", .fieldLink RX12 13 "HookPierModel" "tape" "[B"]) [7, 8, 9] (by decide +kernel) (by decide +kernel) : GoodIn vX12_goesOn (.code yX12_byteAt cX12_byteAt 2 (some .int) :: [.fieldLink RX12 53 "HookPierModel" "size" "I", .fieldLink RX12 13 "HookPierModel" "tape" "[B"])) (goodIn_sub iX12_goesOn_X12 (by decide +kernel)))
set_option maxRecDepth 20000 in
theorem gX12_goesOn_1 : GoodIn vX12_goesOn (va_wsS RX12 80 yX12_isLetter vX12_isLetter) := goodIn_app (goodIn_r [.methodLink RX12 80 yX12_isLetter, .static yX12_isLetter, .initialized RX12] [11, 12, 6] (by decide +kernel) (by decide +kernel)) (goodIn_r (.code yX12_isLetter cX12_isLetter 1 (some .boolean) :: []) [13] (by decide +kernel) (by decide +kernel) : GoodIn vX12_goesOn (.code yX12_isLetter cX12_isLetter 1 (some .boolean) :: []))
set_option maxRecDepth 20000 in
theorem gX12_goesOn_2 : GoodIn vX12_goesOn (va_wsS RX12 88 yX12_isDigit vX12_isDigit) := goodIn_app (goodIn_r [.methodLink RX12 88 yX12_isDigit, .static yX12_isDigit, .initialized RX12] [14, 15, 6] (by decide +kernel) (by decide +kernel)) (goodIn_r (.code yX12_isDigit cX12_isDigit 1 (some .boolean) :: []) [16] (by decide +kernel) (by decide +kernel) : GoodIn vX12_goesOn (.code yX12_isDigit cX12_isDigit 1 (some .boolean) :: []))
set_option maxHeartbeats 2000000 in
set_option maxRecDepth 100000 in
theorem kX12_goesOn (l : Launch) (dC : Nat → ClassId) (dI : Nat → Nat → Nat) (a0 : Nat) (a1 : Nat) (g2 : Value) (g3 : Value) (g4 : Value) (g5 : Value) (g6 : Value) (g7 : Value) (k8 : Int32) (k9 : Int32) (k10 : Int32) (k11 : Int32) (k12 : Int32) (g13 : Value) (g14 : Value) (j15 : Int64) (g16 : Value) (g17 : Value) (g18 : Value) (g19 : Value) (g20 : Value) (g21 : Value) (g22 : Value) (g23 : Value) (g24 : Value) (g25 : Value) (g26 : Value) (g27 : Value) (g28 : Value) (g29 : Value) (g30 : Value) (cB31 : ClassId) (f32 : Nat → Int32) (hk8 : (0 ≤ k8.toInt ∧ k8.toInt ≤ 900)) (hk9 : (0 ≤ k9.toInt ∧ k9.toInt ≤ 900)) (sz : Nat) : Met l yX12_goesOn vX12_goesOn ({ frames := 1, cells := 0, slots := 0, locals := 21 }) (PC (dC, dI) [.ref a0] sz [(a0, .inr (9, [g2, g3, g4, g5, g6, .ref a1, g7, .int k8, .int k9, .int k10, .int k11, .int k12, g13, g14, .long j15, g16, g17, g18, g19, g20, g21, g22, g23, g24, g25, g26, g27, g28, g29, g30])), (a1, .inl (cB31, 900, .inl f32))] [(cB31, .byte)]) (va_Qv (S := Int32 × Int32 × Int32 × Int32 × Int64) (fun u => (0 ≤ (u.1).toInt ∧ (u.1).toInt ≤ 900) ∧ (0 ≤ (u.2.1).toInt ∧ (u.2.1).toInt ≤ 5)) (fun u t => BC (dC, dI) (va_A [(a0, .inr (9, [g2, g3, g4, g5, g6, .ref a1, g7, .int k8, .int k9, .int k10, .int k11, .int k12, g13, g14, .long j15, g16, g17, g18, g19, g20, g21, g22, g23, g24, g25, g26, g27, g28, g29, g30])), (a1, .inl (cB31, 900, .inl f32))] sz) [(a0, .inr (9, [g2, g3, g4, g5, g6, .ref a1, g7, .int k8, .int (u.1), .int (u.2.1), .int (u.2.2.1), .int (u.2.2.2.1), g13, g14, .long (u.2.2.2.2), g16, g17, g18, g19, g20, g21, g22, g23, g24, g25, g26, g27, g28, g29, g30])), (a1, .inl (cB31, 900, .inl f32))] [] t) (va_A [(a0, .inr (9, [g2, g3, g4, g5, g6, .ref a1, g7, .int k8, .int k9, .int k10, .int k11, .int k12, g13, g14, .long j15, g16, g17, g18, g19, g20, g21, g22, g23, g24, g25, g26, g27, g28, g29, g30])), (a1, .inl (cB31, 900, .inl f32))] sz)) 0 0 (va_A [(a0, .inr (9, [g2, g3, g4, g5, g6, .ref a1, g7, .int k8, .int k9, .int k10, .int k11, .int k12, g13, g14, .long j15, g16, g17, g18, g19, g20, g21, g22, g23, g24, g25, g26, g27, g28, g29, g30])), (a1, .inl (cB31, 900, .inl f32))] sz) := by
  refine Met.ofW (cc := cX12_goesOn) (maxL := 3) (ret := none) (by decide) rfl ?_
  intro p e s m args below meth c s₁ B hml hv
  obtain ⟨rfl, hsz, hP, hK, hD0, hN⟩ := hv
  have hx := B.exec
  have hb := B.bytes
  have hr := B.returns
  have hts := atoms_spec (ws := vX12_goesOn) B.pre
  have hown : s.vm.findClass RX12 = some m.cls := findClass_of_methodNamed B.named
  have hlocks := B.notSynchronized
  subst hsz
  have hD := hD0.self (sz := s.heap.size)
  generalize hAe : va_A [(a0, .inr (9, [g2, g3, g4, g5, g6, .ref a1, g7, .int k8, .int k9, .int k10, .int k11, .int k12, g13, g14, .long j15, g16, g17, g18, g19, g20, g21, g22, g23, g24, g25, g26, g27, g28, g29, g30])), (a1, .inl (cB31, 900, .inl f32))] s.heap.size = A at hD ⊢
  have hA : ∀ q : Nat, s.heap.size ≤ q → A q := fun q h => by rw [← hAe]; exact Or.inr h
  have hS : va_S A s.heap s.heap [] := va_S.rf
  have hP : va_P (dC, dI) vwCl [(a0, .inr (9, [g2, g3, g4, g5, g6, .ref a1, g7, .int k8, .int k9, .int k10, .int k11, .int k12, g13, g14, .long j15, g16, g17, g18, g19, g20, g21, g22, g23, g24, g25, g26, g27, g28, g29, g30])), (a1, .inl (cB31, 900, .inl f32))] s.heap := hP
  have hl := lv_entry ([.ref a0]) (n := 3) (Nat.le_of_ble_eq_true rfl)
  rw [lg_entry_eq]
  generalize (lg_sl ([.ref a0]) ++ List.replicate (3 - (lg_sl ([.ref a0])).length) Slot.unset).toArray = ls at hl ⊢
  have hl : lv_has ls 3 [(0, .ref a0)] := hl
  refine lv_aload_n hx hb dX12_goesOn_0 rfl (lv_at hl 0 rfl) ?_
  refine va_get (D := (dC, dI)) (ci := 9) (v := .int k10) (C := RX12) (T := TX12) (N := 30) hx hb hts iX12_goesOn_X12 hown hK hP 0 rfl rfl 9 (by decide) (hts (.fieldLink RX12 68 "HookPierModel" "sort" "I") (List.mem_of_getElem? (i := 1) rfl)) (fun _ h9 => h9) rfl dX12_goesOn_1 ?_
  refine lv_iconst (v := 5) hx hb dX12_goesOn_4 (by decide) ?_
  refine lv_icmp_ne (tgt := 9) hx hb dX12_goesOn_5 (by decide) (fun c1 => ?_) (fun c1 => ?_)
  · simp only [fa_lt, fa_le, fa_eq, ltv_0, ltv_5] at c1
    have L9_11435 : ∀ (n : Nat) (z11434 : Int32) (H : Heap) (locs : List Loc) (ls : Array Slot), (0 ≤ z11434.toInt ∧ z11434.toInt ≤ 900) → 900 - z11434.toInt < (n : Int) → va_P (dC, dI) vwCl [(a0, .inr (9, [g2, g3, g4, g5, g6, .ref a1, g7, .int k8, .int z11434, .int k10, .int k11, .int k12, g13, g14, .long j15, g16, g17, g18, g19, g20, g21, g22, g23, g24, g25, g26, g27, g28, g29, g30])), (a1, .inl (cB31, 900, .inl f32))] H → va_D A [(a0, .inr (9, [g2, g3, g4, g5, g6, .ref a1, g7, .int k8, .int z11434, .int k10, .int k11, .int k12, g13, g14, .long j15, g16, g17, g18, g19, g20, g21, g22, g23, g24, g25, g26, g27, g28, g29, g30])), (a1, .inl (cB31, 900, .inl f32))] → va_S A s.heap H locs → lv_has ls 3 [(0, .ref a0)] → W p l e (headSpec vX12_goesOn { frames := 1, cells := 0, slots := 0, locals := 21 }).room s m ([.ref a0]).toArray below meth c H locs 0 0 (MQ below (va_Qv (S := Int32 × Int32 × Int32 × Int32 × Int64) (fun u => (0 ≤ (u.1).toInt ∧ (u.1).toInt ≤ 900) ∧ (0 ≤ (u.2.1).toInt ∧ (u.2.1).toInt ≤ 5)) (fun u t => BC (dC, dI) A [(a0, .inr (9, [g2, g3, g4, g5, g6, .ref a1, g7, .int k8, .int (u.1), .int (u.2.1), .int (u.2.2.1), .int (u.2.2.2.1), g13, g14, .long (u.2.2.2.2), g16, g17, g18, g19, g20, g21, g22, g23, g24, g25, g26, g27, g28, g29, g30])), (a1, .inl (cB31, 900, .inl f32))] [] t) A) ([.ref a0]).toArray s 0 0 A) (F0 m 9 ls []) := by
      intro n
      induction n with
      | zero =>
        intro z11434 H locs ls b9_0 hm _ _ _ _
        exact absurd hm (by omega)
      | succ n ih9 =>
        intro z11434 H locs ls b9_0 hm9 hP hD hS hl
        refine lv_aload_n hx hb dX12_goesOn_9 rfl (lv_at hl 0 rfl) ?_
        refine lv_aload_n hx hb dX12_goesOn_10 rfl (lv_at hl 0 rfl) ?_
        refine va_get (D := (dC, dI)) (ci := 9) (v := .int z11434) (C := RX12) (T := TX12) (N := 30) hx hb hts iX12_goesOn_X12 hown hK hP 0 rfl rfl 8 (by decide) (hts (.fieldLink RX12 71 "HookPierModel" "spot" "I") (List.mem_of_getElem? (i := 2) rfl)) (fun _ h9 => h9) rfl dX12_goesOn_11 ?_
        refine cl_i (wc := [(a0, .inr (9, [g2, g3, g4, g5, g6, .ref a1, g7, .int k8, .int z11434, .int k10, .int k11, .int k12, g13, g14, .long j15, g16, g17, g18, g19, g20, g21, g22, g23, g24, g25, g26, g27, g28, g29, g30])), (a1, .inl (cB31, 900, .inl f32))]) (wr := []) (va_runV (As := [.int z11434]) (rest := []) ⟨hx, hb, hml, hown, hts⟩ (kX12_byteAt l dC dI a0 z11434 a1 (g2) (g3) (g4) (g5) (g6) (g7) k8 (.int z11434) (.int k10) (.int k11) (.int k12) (g13) (g14) (.long j15) (g16) (g17) (g18) (g19) (g20) (g21) (g22) (g23) (g24) (g25) (g26) (g27) (g28) (g29) (g30) cB31 f32 (by first | omega | (simp only [ltv_0]; omega)) (by first | omega | (simp only [ltv_0]; omega)) H.size) (cwV 1 hts gX12_goesOn_0 rfl rfl rfl (by decide +kernel) ⟨Nat.le_of_ble_eq_true rfl, Nat.le_of_ble_eq_true rfl⟩) (PV (hP.sub (ws' := [(a0, .inr (9, [g2, g3, g4, g5, g6, .ref a1, g7, .int k8, .int z11434, .int k10, .int k11, .int k12, g13, g14, .long j15, g16, g17, g18, g19, g20, g21, g22, g23, g24, g25, g26, g27, g28, g29, g30])), (a1, .inl (cB31, 900, .inl f32))]) [0, 1] rfl) (hK.sub (tys' := [(cB31, .byte)]) [0] rfl) (hD.sub (ws' := [(a0, .inr (9, [g2, g3, g4, g5, g6, .ref a1, g7, .int k8, .int z11434, .int k10, .int k11, .int k12, g13, g14, .long j15, g16, g17, g18, g19, g20, g21, g22, g23, g24, g25, g26, g27, g28, g29, g30])), (a1, .inl (cB31, 900, .inl f32))]) [0, 1] (by decide) rfl) hN 0 rfl rfl) rfl rfl hl.1 rfl (lv_room (Nat.le_of_ble_eq_true rfl)) dX12_goesOn_14 ⟨Nat.le_of_ble_eq_true rfl, Nat.le_of_ble_eq_true rfl⟩) hP hD hK hS hA [0, 1] [] rfl rfl (by decide) (by decide) (fun z11436 _u H locs hw hP hD hK hS => ?_)
        have b11437 := hw
        have hP : va_P (dC, dI) vwCl [(a0, .inr (9, [g2, g3, g4, g5, g6, .ref a1, g7, .int k8, .int z11434, .int k10, .int k11, .int k12, g13, g14, .long j15, g16, g17, g18, g19, g20, g21, g22, g23, g24, g25, g26, g27, g28, g29, g30])), (a1, .inl (cB31, 900, .inl f32))] H := hP
        have hD : va_D A [(a0, .inr (9, [g2, g3, g4, g5, g6, .ref a1, g7, .int k8, .int z11434, .int k10, .int k11, .int k12, g13, g14, .long j15, g16, g17, g18, g19, g20, g21, g22, g23, g24, g25, g26, g27, g28, g29, g30])), (a1, .inl (cB31, 900, .inl f32))] := hD
        have hK : va_K (dC, dI) vwCl [(cB31, .byte)] s := hK
        rcases hw with rfl | ⟨h11439, h11439_0⟩
        · refine lv_bipush (v := 32) hx hb dX12_goesOn_17 (by decide) ?_
          refine lv_icmp_ne (tgt := 35) hx hb dX12_goesOn_19 (by decide) (fun _ => ?_) (fun c11440 => absurd c11440 (by decide))
          refine lv_aload_n hx hb dX12_goesOn_35 rfl (lv_at hl 0 rfl) ?_
          refine lv_aload_n hx hb dX12_goesOn_36 rfl (lv_at hl 0 rfl) ?_
          refine va_get (D := (dC, dI)) (ci := 9) (v := .int z11434) (C := RX12) (T := TX12) (N := 30) hx hb hts iX12_goesOn_X12 hown hK hP 0 rfl rfl 8 (by decide) (hts (.fieldLink RX12 71 "HookPierModel" "spot" "I") (List.mem_of_getElem? (i := 2) rfl)) (fun _ h9 => h9) rfl dX12_goesOn_37 ?_
          refine va_put (D := (dC, dI)) (ci := 9) (v := .int z11434) (ty := .int) (C := RX12) (T := TX12) (N := 30) hx hb hts iX12_goesOn_X12 tyX12 tyX12_ok nmX12 hown hK hP hD hS 0 rfl rfl 10 (by decide) (hts (.fieldLink RX12 77 "HookPierModel" "place" "I") (List.mem_of_getElem? (i := 10) rfl)) (fun _ h9 => h9) rfl (by decide +kernel) rfl rfl (Nat.le_of_ble_eq_true rfl) dX12_goesOn_40 (fun H locs hP hD hS => ?_)
          have hP : va_P (dC, dI) vwCl [(a0, .inr (9, [g2, g3, g4, g5, g6, .ref a1, g7, .int k8, .int z11434, .int k10, .int z11434, .int k12, g13, g14, .long j15, g16, g17, g18, g19, g20, g21, g22, g23, g24, g25, g26, g27, g28, g29, g30])), (a1, .inl (cB31, 900, .inl f32))] H := hP
          have hD : va_D A [(a0, .inr (9, [g2, g3, g4, g5, g6, .ref a1, g7, .int k8, .int z11434, .int k10, .int z11434, .int k12, g13, g14, .long j15, g16, g17, g18, g19, g20, g21, g22, g23, g24, g25, g26, g27, g28, g29, g30])), (a1, .inl (cB31, 900, .inl f32))] := hD
          refine lv_aload_n hx hb dX12_goesOn_43 rfl (lv_at hl 0 rfl) ?_
          refine lv_iconst (v := 0) hx hb dX12_goesOn_44 (by decide) ?_
          refine va_put (D := (dC, dI)) (ci := 9) (v := .int 0) (ty := .int) (C := RX12) (T := TX12) (N := 30) hx hb hts iX12_goesOn_X12 tyX12 tyX12_ok nmX12 hown hK hP hD hS 0 rfl rfl 9 (by decide) (hts (.fieldLink RX12 68 "HookPierModel" "sort" "I") (List.mem_of_getElem? (i := 1) rfl)) (fun _ h9 => h9) rfl (by decide +kernel) rfl rfl (Nat.le_of_ble_eq_true rfl) dX12_goesOn_45 (fun H locs hP hD hS => ?_)
          have hP : va_P (dC, dI) vwCl [(a0, .inr (9, [g2, g3, g4, g5, g6, .ref a1, g7, .int k8, .int z11434, .int 0, .int z11434, .int k12, g13, g14, .long j15, g16, g17, g18, g19, g20, g21, g22, g23, g24, g25, g26, g27, g28, g29, g30])), (a1, .inl (cB31, 900, .inl f32))] H := hP
          have hD : va_D A [(a0, .inr (9, [g2, g3, g4, g5, g6, .ref a1, g7, .int k8, .int z11434, .int 0, .int z11434, .int k12, g13, g14, .long j15, g16, g17, g18, g19, g20, g21, g22, g23, g24, g25, g26, g27, g28, g29, g30])), (a1, .inl (cB31, 900, .inl f32))] := hD
          refine lv_aload_n hx hb dX12_goesOn_48 rfl (lv_at hl 0 rfl) ?_
          refine lv_aload_n hx hb dX12_goesOn_49 rfl (lv_at hl 0 rfl) ?_
          refine va_get (D := (dC, dI)) (ci := 9) (v := .int z11434) (C := RX12) (T := TX12) (N := 30) hx hb hts iX12_goesOn_X12 hown hK hP 0 rfl rfl 8 (by decide) (hts (.fieldLink RX12 71 "HookPierModel" "spot" "I") (List.mem_of_getElem? (i := 2) rfl)) (fun _ h9 => h9) rfl dX12_goesOn_50 ?_
          refine cl_i (wc := [(a0, .inr (9, [g2, g3, g4, g5, g6, .ref a1, g7, .int k8, .int z11434, .int 0, .int z11434, .int k12, g13, g14, .long j15, g16, g17, g18, g19, g20, g21, g22, g23, g24, g25, g26, g27, g28, g29, g30])), (a1, .inl (cB31, 900, .inl f32))]) (wr := []) (va_runV (As := [.int z11434]) (rest := []) ⟨hx, hb, hml, hown, hts⟩ (kX12_byteAt l dC dI a0 z11434 a1 (g2) (g3) (g4) (g5) (g6) (g7) k8 (.int z11434) (.int 0) (.int z11434) (.int k12) (g13) (g14) (.long j15) (g16) (g17) (g18) (g19) (g20) (g21) (g22) (g23) (g24) (g25) (g26) (g27) (g28) (g29) (g30) cB31 f32 (by first | omega | (simp only [ltv_0]; omega)) (by first | omega | (simp only [ltv_0]; omega)) H.size) (cwV 1 hts gX12_goesOn_0 rfl rfl rfl (by decide +kernel) ⟨Nat.le_of_ble_eq_true rfl, Nat.le_of_ble_eq_true rfl⟩) (PV (hP.sub (ws' := [(a0, .inr (9, [g2, g3, g4, g5, g6, .ref a1, g7, .int k8, .int z11434, .int 0, .int z11434, .int k12, g13, g14, .long j15, g16, g17, g18, g19, g20, g21, g22, g23, g24, g25, g26, g27, g28, g29, g30])), (a1, .inl (cB31, 900, .inl f32))]) [0, 1] rfl) (hK.sub (tys' := [(cB31, .byte)]) [0] rfl) (hD.sub (ws' := [(a0, .inr (9, [g2, g3, g4, g5, g6, .ref a1, g7, .int k8, .int z11434, .int 0, .int z11434, .int k12, g13, g14, .long j15, g16, g17, g18, g19, g20, g21, g22, g23, g24, g25, g26, g27, g28, g29, g30])), (a1, .inl (cB31, 900, .inl f32))]) [0, 1] (by decide) rfl) hN 0 rfl rfl) rfl rfl hl.1 rfl (lv_room (Nat.le_of_ble_eq_true rfl)) dX12_goesOn_53 ⟨Nat.le_of_ble_eq_true rfl, Nat.le_of_ble_eq_true rfl⟩) hP hD hK hS hA [0, 1] [] rfl rfl (by decide) (by decide) (fun z11441 _u H locs hw hP hD hK hS => ?_)
          have b11442 := hw
          have hP : va_P (dC, dI) vwCl [(a0, .inr (9, [g2, g3, g4, g5, g6, .ref a1, g7, .int k8, .int z11434, .int 0, .int z11434, .int k12, g13, g14, .long j15, g16, g17, g18, g19, g20, g21, g22, g23, g24, g25, g26, g27, g28, g29, g30])), (a1, .inl (cB31, 900, .inl f32))] H := hP
          have hD : va_D A [(a0, .inr (9, [g2, g3, g4, g5, g6, .ref a1, g7, .int k8, .int z11434, .int 0, .int z11434, .int k12, g13, g14, .long j15, g16, g17, g18, g19, g20, g21, g22, g23, g24, g25, g26, g27, g28, g29, g30])), (a1, .inl (cB31, 900, .inl f32))] := hD
          have hK : va_K (dC, dI) vwCl [(cB31, .byte)] s := hK
          rcases hw with rfl | ⟨h11444, h11444_0⟩
          · refine lv_istore_n (lv' := [(1, .int (-1)), (0, .ref a0)]) hx hb dX12_goesOn_56 rfl hl (by decide) rfl (fun ls hl => ?_)
            refine lv_iconst (v := 0) hx hb dX12_goesOn_57 (by decide) ?_
            refine lv_istore_n (lv' := [(2, .int 0), (1, .int (-1)), (0, .ref a0)]) hx hb dX12_goesOn_58 rfl hl (by decide) rfl (fun ls hl => ?_)
            refine lv_iload_n hx hb dX12_goesOn_59 rfl (lv_at hl 1 rfl) ?_
            refine lv_iconst (v := (-1)) hx hb dX12_goesOn_60 (by decide) ?_
            refine lv_icmp_ne (tgt := 72) hx hb dX12_goesOn_61 (by decide) (fun c11445 => absurd c11445 (by decide)) (fun _ => ?_)
            refine lv_aload_n hx hb dX12_goesOn_64 rfl (lv_at hl 2 rfl) ?_
            refine lv_iconst (v := 1) hx hb dX12_goesOn_65 (by decide) ?_
            refine va_put (D := (dC, dI)) (ci := 9) (v := .int 1) (ty := .int) (C := RX12) (T := TX12) (N := 30) hx hb hts iX12_goesOn_X12 tyX12 tyX12_ok nmX12 hown hK hP hD hS 0 rfl rfl 9 (by decide) (hts (.fieldLink RX12 68 "HookPierModel" "sort" "I") (List.mem_of_getElem? (i := 1) rfl)) (fun _ h9 => h9) rfl (by decide +kernel) rfl rfl (Nat.le_of_ble_eq_true rfl) dX12_goesOn_66 (fun H locs hP hD hS => ?_)
            have hP : va_P (dC, dI) vwCl [(a0, .inr (9, [g2, g3, g4, g5, g6, .ref a1, g7, .int k8, .int z11434, .int 1, .int z11434, .int k12, g13, g14, .long j15, g16, g17, g18, g19, g20, g21, g22, g23, g24, g25, g26, g27, g28, g29, g30])), (a1, .inl (cB31, 900, .inl f32))] H := hP
            have hD : va_D A [(a0, .inr (9, [g2, g3, g4, g5, g6, .ref a1, g7, .int k8, .int z11434, .int 1, .int z11434, .int k12, g13, g14, .long j15, g16, g17, g18, g19, g20, g21, g22, g23, g24, g25, g26, g27, g28, g29, g30])), (a1, .inl (cB31, 900, .inl f32))] := hD
            refine lv_goto (tgt := 265) hx hb dX12_goesOn_69 (by decide) ?_
            have hP9 := hP.sub (ws' := [(a0, .inr (9, [g2, g3, g4, g5, g6, .ref a1, g7, .int k8, .int z11434, .int 1, .int z11434, .int k12, g13, g14, .long j15, g16, g17, g18, g19, g20, g21, g22, g23, g24, g25, g26, g27, g28, g29, g30])), (a1, .inl (cB31, 900, .inl f32))]) [0, 1] rfl
            have hD9 := hD.sub (ws' := [(a0, .inr (9, [g2, g3, g4, g5, g6, .ref a1, g7, .int k8, .int z11434, .int 1, .int z11434, .int k12, g13, g14, .long j15, g16, g17, g18, g19, g20, g21, g22, g23, g24, g25, g26, g27, g28, g29, g30])), (a1, .inl (cB31, 900, .inl f32))]) [0, 1] (by decide) rfl
            have hK9 := hK.sub (tys' := []) [] rfl
            exact W.vret hx hb hr (fun t ht hW => ⟨⟨(z11434, 1, z11434, k12, j15), rfl, ⟨(by first | trivial | omega | (simp only [ltv_0, ltv_1]; omega)), (by first | trivial | omega | (simp only [ltv_0, ltv_1]; omega))⟩, by rw [ht]; exact hP9, va_K.moved hW.alike hK9, hD9⟩, hS.F ht⟩) hS.2.2 dX12_goesOn_265
          · refine lv_istore_n (lv' := [(1, .int z11441), (0, .ref a0)]) hx hb dX12_goesOn_56 rfl hl (by decide) rfl (fun ls hl => ?_)
            refine lv_iconst (v := 0) hx hb dX12_goesOn_57 (by decide) ?_
            refine lv_istore_n (lv' := [(2, .int 0), (1, .int z11441), (0, .ref a0)]) hx hb dX12_goesOn_58 rfl hl (by decide) rfl (fun ls hl => ?_)
            refine lv_iload_n hx hb dX12_goesOn_59 rfl (lv_at hl 1 rfl) ?_
            refine lv_iconst (v := (-1)) hx hb dX12_goesOn_60 (by decide) ?_
            refine lv_icmp_ne (tgt := 72) hx hb dX12_goesOn_61 (by decide) (fun _ => ?_) (fun c11446 => False.elim (by simp only [fa_lt, fa_le, fa_eq, ltv_m1, ltv_0] at c11446; omega))
            refine lv_iload_n hx hb dX12_goesOn_72 rfl (lv_at hl 1 rfl) ?_
            refine cl_i (wc := []) (wr := [(a0, .inr (9, [g2, g3, g4, g5, g6, .ref a1, g7, .int k8, .int z11434, .int 0, .int z11434, .int k12, g13, g14, .long j15, g16, g17, g18, g19, g20, g21, g22, g23, g24, g25, g26, g27, g28, g29, g30])), (a1, .inl (cB31, 900, .inl f32))]) (va_runS (As := [.int z11441]) (rest := []) ⟨hx, hb, hml, hown, hts⟩ (kX12_isLetter l dC dI z11441  H.size) (va_cwS 1 hts gX12_goesOn_1 rfl rfl rfl (by decide +kernel) ⟨Nat.le_of_ble_eq_true rfl, Nat.le_of_ble_eq_true rfl⟩) (PS (hP.sub (ws' := []) [] rfl) (hK.sub (tys' := []) [] rfl) (hD.sub (ws' := []) [] (by decide) rfl) hN) rfl rfl hl.1 rfl (lv_room (Nat.le_of_ble_eq_true rfl)) dX12_goesOn_73 ⟨Nat.le_of_ble_eq_true rfl, Nat.le_of_ble_eq_true rfl⟩) hP hD hK hS hA [] [0, 1] rfl rfl (by decide) (by decide) (fun z11447 _u H locs hw hP hD hK hS => ?_)
            have b11448 := hw
            have hP : va_P (dC, dI) vwCl [(a0, .inr (9, [g2, g3, g4, g5, g6, .ref a1, g7, .int k8, .int z11434, .int 0, .int z11434, .int k12, g13, g14, .long j15, g16, g17, g18, g19, g20, g21, g22, g23, g24, g25, g26, g27, g28, g29, g30])), (a1, .inl (cB31, 900, .inl f32))] H := hP
            have hD : va_D A [(a0, .inr (9, [g2, g3, g4, g5, g6, .ref a1, g7, .int k8, .int z11434, .int 0, .int z11434, .int k12, g13, g14, .long j15, g16, g17, g18, g19, g20, g21, g22, g23, g24, g25, g26, g27, g28, g29, g30])), (a1, .inl (cB31, 900, .inl f32))] := hD
            have hK : va_K (dC, dI) vwCl [(cB31, .byte)] s := hK
            rcases hw with rfl | ⟨rfl, h11449, h11450, h11451⟩
            · refine lv_if_eq (tgt := 161) hx hb dX12_goesOn_76 (by decide) (fun _ => ?_) (fun c11452 => absurd c11452 (by decide))
              refine lv_iload_n hx hb dX12_goesOn_161 rfl (lv_at hl 1 rfl) ?_
              refine cl_i (wc := []) (wr := [(a0, .inr (9, [g2, g3, g4, g5, g6, .ref a1, g7, .int k8, .int z11434, .int 0, .int z11434, .int k12, g13, g14, .long j15, g16, g17, g18, g19, g20, g21, g22, g23, g24, g25, g26, g27, g28, g29, g30])), (a1, .inl (cB31, 900, .inl f32))]) (va_runS (As := [.int z11441]) (rest := []) ⟨hx, hb, hml, hown, hts⟩ (kX12_isDigit l dC dI z11441  H.size) (va_cwS 1 hts gX12_goesOn_2 rfl rfl rfl (by decide +kernel) ⟨Nat.le_of_ble_eq_true rfl, Nat.le_of_ble_eq_true rfl⟩) (PS (hP.sub (ws' := []) [] rfl) (hK.sub (tys' := []) [] rfl) (hD.sub (ws' := []) [] (by decide) rfl) hN) rfl rfl hl.1 rfl (lv_room (Nat.le_of_ble_eq_true rfl)) dX12_goesOn_162 ⟨Nat.le_of_ble_eq_true rfl, Nat.le_of_ble_eq_true rfl⟩) hP hD hK hS hA [] [0, 1] rfl rfl (by decide) (by decide) (fun z11453 _u H locs hw hP hD hK hS => ?_)
              have b11454 := hw
              have hP : va_P (dC, dI) vwCl [(a0, .inr (9, [g2, g3, g4, g5, g6, .ref a1, g7, .int k8, .int z11434, .int 0, .int z11434, .int k12, g13, g14, .long j15, g16, g17, g18, g19, g20, g21, g22, g23, g24, g25, g26, g27, g28, g29, g30])), (a1, .inl (cB31, 900, .inl f32))] H := hP
              have hD : va_D A [(a0, .inr (9, [g2, g3, g4, g5, g6, .ref a1, g7, .int k8, .int z11434, .int 0, .int z11434, .int k12, g13, g14, .long j15, g16, g17, g18, g19, g20, g21, g22, g23, g24, g25, g26, g27, g28, g29, g30])), (a1, .inl (cB31, 900, .inl f32))] := hD
              have hK : va_K (dC, dI) vwCl [(cB31, .byte)] s := hK
              rcases hw with rfl | ⟨rfl, h11455, h11456, h11457⟩
              · refine lv_if_eq (tgt := 244) hx hb dX12_goesOn_165 (by decide) (fun _ => ?_) (fun c11458 => absurd c11458 (by decide))
                refine lv_iload_n hx hb dX12_goesOn_244 rfl (lv_at hl 1 rfl) ?_
                refine lv_bipush (v := 59) hx hb dX12_goesOn_245 (by decide) ?_
                refine lv_icmp_ne (tgt := 265) hx hb dX12_goesOn_247 (by decide) (fun c11459 => ?_) (fun c11459 => ?_)
                · simp only [fa_lt, fa_le, fa_eq, ltv_0, ltv_59] at c11459
                  have hP9 := hP.sub (ws' := [(a0, .inr (9, [g2, g3, g4, g5, g6, .ref a1, g7, .int k8, .int z11434, .int 0, .int z11434, .int k12, g13, g14, .long j15, g16, g17, g18, g19, g20, g21, g22, g23, g24, g25, g26, g27, g28, g29, g30])), (a1, .inl (cB31, 900, .inl f32))]) [0, 1] rfl
                  have hD9 := hD.sub (ws' := [(a0, .inr (9, [g2, g3, g4, g5, g6, .ref a1, g7, .int k8, .int z11434, .int 0, .int z11434, .int k12, g13, g14, .long j15, g16, g17, g18, g19, g20, g21, g22, g23, g24, g25, g26, g27, g28, g29, g30])), (a1, .inl (cB31, 900, .inl f32))]) [0, 1] (by decide) rfl
                  have hK9 := hK.sub (tys' := []) [] rfl
                  exact W.vret hx hb hr (fun t ht hW => ⟨⟨(z11434, 0, z11434, k12, j15), rfl, ⟨(by first | trivial | omega | (simp only [ltv_0]; omega)), (by first | trivial | omega | (simp only [ltv_0]; omega))⟩, by rw [ht]; exact hP9, va_K.moved hW.alike hK9, hD9⟩, hS.F ht⟩) hS.2.2 dX12_goesOn_265
                · simp only [fa_lt, fa_le, fa_eq, ltv_0, ltv_59] at c11459
                  refine lv_aload_n hx hb dX12_goesOn_250 rfl (lv_at hl 2 rfl) ?_
                  refine lv_iconst (v := 4) hx hb dX12_goesOn_251 (by decide) ?_
                  refine va_put (D := (dC, dI)) (ci := 9) (v := .int 4) (ty := .int) (C := RX12) (T := TX12) (N := 30) hx hb hts iX12_goesOn_X12 tyX12 tyX12_ok nmX12 hown hK hP hD hS 0 rfl rfl 9 (by decide) (hts (.fieldLink RX12 68 "HookPierModel" "sort" "I") (List.mem_of_getElem? (i := 1) rfl)) (fun _ h9 => h9) rfl (by decide +kernel) rfl rfl (Nat.le_of_ble_eq_true rfl) dX12_goesOn_252 (fun H locs hP hD hS => ?_)
                  have hP : va_P (dC, dI) vwCl [(a0, .inr (9, [g2, g3, g4, g5, g6, .ref a1, g7, .int k8, .int z11434, .int 4, .int z11434, .int k12, g13, g14, .long j15, g16, g17, g18, g19, g20, g21, g22, g23, g24, g25, g26, g27, g28, g29, g30])), (a1, .inl (cB31, 900, .inl f32))] H := hP
                  have hD : va_D A [(a0, .inr (9, [g2, g3, g4, g5, g6, .ref a1, g7, .int k8, .int z11434, .int 4, .int z11434, .int k12, g13, g14, .long j15, g16, g17, g18, g19, g20, g21, g22, g23, g24, g25, g26, g27, g28, g29, g30])), (a1, .inl (cB31, 900, .inl f32))] := hD
                  refine lv_aload_n hx hb dX12_goesOn_255 rfl (lv_at hl 2 rfl) ?_
                  refine lv_dup hx hb dX12_goesOn_256 rfl ?_
                  refine va_get (D := (dC, dI)) (ci := 9) (v := .int z11434) (C := RX12) (T := TX12) (N := 30) hx hb hts iX12_goesOn_X12 hown hK hP 0 rfl rfl 8 (by decide) (hts (.fieldLink RX12 71 "HookPierModel" "spot" "I") (List.mem_of_getElem? (i := 2) rfl)) (fun _ h9 => h9) rfl dX12_goesOn_257 ?_
                  refine lv_iconst (v := 1) hx hb dX12_goesOn_260 (by decide) ?_
                  refine lv_iadd hx hb dX12_goesOn_261 ?_
                  refine lv_topi (fun z11460 ez11460 => ?_)
                  have tz11460 : z11460.toInt = z11434.toInt + 1 := by rw [ez11460]; rw [iadd_t (by first | omega | (simp only [ltv_0, ltv_1]; omega)) (by first | omega | (simp only [ltv_0, ltv_1]; omega))]; first | done | (simp only [ltv_0, ltv_1])
                  refine va_put (D := (dC, dI)) (ci := 9) (v := .int z11460) (ty := .int) (C := RX12) (T := TX12) (N := 30) hx hb hts iX12_goesOn_X12 tyX12 tyX12_ok nmX12 hown hK hP hD hS 0 rfl rfl 8 (by decide) (hts (.fieldLink RX12 71 "HookPierModel" "spot" "I") (List.mem_of_getElem? (i := 2) rfl)) (fun _ h9 => h9) rfl (by decide +kernel) rfl rfl (Nat.le_of_ble_eq_true rfl) dX12_goesOn_262 (fun H locs hP hD hS => ?_)
                  have hP : va_P (dC, dI) vwCl [(a0, .inr (9, [g2, g3, g4, g5, g6, .ref a1, g7, .int k8, .int z11460, .int 4, .int z11434, .int k12, g13, g14, .long j15, g16, g17, g18, g19, g20, g21, g22, g23, g24, g25, g26, g27, g28, g29, g30])), (a1, .inl (cB31, 900, .inl f32))] H := hP
                  have hD : va_D A [(a0, .inr (9, [g2, g3, g4, g5, g6, .ref a1, g7, .int k8, .int z11460, .int 4, .int z11434, .int k12, g13, g14, .long j15, g16, g17, g18, g19, g20, g21, g22, g23, g24, g25, g26, g27, g28, g29, g30])), (a1, .inl (cB31, 900, .inl f32))] := hD
                  have hP9 := hP.sub (ws' := [(a0, .inr (9, [g2, g3, g4, g5, g6, .ref a1, g7, .int k8, .int z11460, .int 4, .int z11434, .int k12, g13, g14, .long j15, g16, g17, g18, g19, g20, g21, g22, g23, g24, g25, g26, g27, g28, g29, g30])), (a1, .inl (cB31, 900, .inl f32))]) [0, 1] rfl
                  have hD9 := hD.sub (ws' := [(a0, .inr (9, [g2, g3, g4, g5, g6, .ref a1, g7, .int k8, .int z11460, .int 4, .int z11434, .int k12, g13, g14, .long j15, g16, g17, g18, g19, g20, g21, g22, g23, g24, g25, g26, g27, g28, g29, g30])), (a1, .inl (cB31, 900, .inl f32))]) [0, 1] (by decide) rfl
                  have hK9 := hK.sub (tys' := []) [] rfl
                  exact W.vret hx hb hr (fun t ht hW => ⟨⟨(z11460, 4, z11434, k12, j15), rfl, ⟨(by first | trivial | omega | (simp only [ltv_0, ltv_4]; omega)), (by first | trivial | omega | (simp only [ltv_0, ltv_4]; omega))⟩, by rw [ht]; exact hP9, va_K.moved hW.alike hK9, hD9⟩, hS.F ht⟩) hS.2.2 dX12_goesOn_265
              · refine lv_if_eq (tgt := 244) hx hb dX12_goesOn_165 (by decide) (fun c11461 => absurd c11461 (by decide)) (fun _ => ?_)
                refine lv_aload_n hx hb dX12_goesOn_168 rfl (lv_at hl 2 rfl) ?_
                refine lv_iconst (v := 0) hx hb dX12_goesOn_169 (by decide) ?_
                refine va_put (D := (dC, dI)) (ci := 9) (v := .int 0) (ty := .int) (C := RX12) (T := TX12) (N := 30) hx hb hts iX12_goesOn_X12 tyX12 tyX12_ok nmX12 hown hK hP hD hS 0 rfl rfl 11 (by decide) (hts (.fieldLink RX12 91 "HookPierModel" "number" "I") (List.mem_of_getElem? (i := 17) rfl)) (fun _ h9 => h9) rfl (by decide +kernel) rfl rfl (Nat.le_of_ble_eq_true rfl) dX12_goesOn_170 (fun H locs hP hD hS => ?_)
                have hP : va_P (dC, dI) vwCl [(a0, .inr (9, [g2, g3, g4, g5, g6, .ref a1, g7, .int k8, .int z11434, .int 0, .int z11434, .int 0, g13, g14, .long j15, g16, g17, g18, g19, g20, g21, g22, g23, g24, g25, g26, g27, g28, g29, g30])), (a1, .inl (cB31, 900, .inl f32))] H := hP
                have hD : va_D A [(a0, .inr (9, [g2, g3, g4, g5, g6, .ref a1, g7, .int k8, .int z11434, .int 0, .int z11434, .int 0, g13, g14, .long j15, g16, g17, g18, g19, g20, g21, g22, g23, g24, g25, g26, g27, g28, g29, g30])), (a1, .inl (cB31, 900, .inl f32))] := hD
                have L173_12792 : ∀ (n : Nat) (z12789 : Int32) (z12790 : Int32) (z12791 : Int32) (H : Heap) (locs : List Loc) (ls : Array Slot), (0 ≤ z12790.toInt ∧ z12790.toInt ≤ 900) → 900 - z12790.toInt < (n : Int) → va_P (dC, dI) vwCl [(a0, .inr (9, [g2, g3, g4, g5, g6, .ref a1, g7, .int k8, .int z12790, .int 0, .int z11434, .int z12791, g13, g14, .long j15, g16, g17, g18, g19, g20, g21, g22, g23, g24, g25, g26, g27, g28, g29, g30])), (a1, .inl (cB31, 900, .inl f32))] H → va_D A [(a0, .inr (9, [g2, g3, g4, g5, g6, .ref a1, g7, .int k8, .int z12790, .int 0, .int z11434, .int z12791, g13, g14, .long j15, g16, g17, g18, g19, g20, g21, g22, g23, g24, g25, g26, g27, g28, g29, g30])), (a1, .inl (cB31, 900, .inl f32))] → va_S A s.heap H locs → lv_has ls 3 [(2, .int z12789), (1, .int z11441), (0, .ref a0)] → W p l e (headSpec vX12_goesOn { frames := 1, cells := 0, slots := 0, locals := 21 }).room s m ([.ref a0]).toArray below meth c H locs 0 0 (MQ below (va_Qv (S := Int32 × Int32 × Int32 × Int32 × Int64) (fun u => (0 ≤ (u.1).toInt ∧ (u.1).toInt ≤ 900) ∧ (0 ≤ (u.2.1).toInt ∧ (u.2.1).toInt ≤ 5)) (fun u t => BC (dC, dI) A [(a0, .inr (9, [g2, g3, g4, g5, g6, .ref a1, g7, .int k8, .int (u.1), .int (u.2.1), .int (u.2.2.1), .int (u.2.2.2.1), g13, g14, .long (u.2.2.2.2), g16, g17, g18, g19, g20, g21, g22, g23, g24, g25, g26, g27, g28, g29, g30])), (a1, .inl (cB31, 900, .inl f32))] [] t) A) ([.ref a0]).toArray s 0 0 A) (F0 m 173 ls []) := by
                  intro n
                  induction n with
                  | zero =>
                    intro z12789 z12790 z12791 H locs ls b173_0 hm _ _ _ _
                    exact absurd hm (by omega)
                  | succ n ih173 =>
                    intro z12789 z12790 z12791 H locs ls b173_0 hm173 hP hD hS hl
                    refine lv_aload_n hx hb dX12_goesOn_173 rfl (lv_at hl 2 rfl) ?_
                    refine lv_aload_n hx hb dX12_goesOn_174 rfl (lv_at hl 2 rfl) ?_
                    refine va_get (D := (dC, dI)) (ci := 9) (v := .int z12790) (C := RX12) (T := TX12) (N := 30) hx hb hts iX12_goesOn_X12 hown hK hP 0 rfl rfl 8 (by decide) (hts (.fieldLink RX12 71 "HookPierModel" "spot" "I") (List.mem_of_getElem? (i := 2) rfl)) (fun _ h9 => h9) rfl dX12_goesOn_175 ?_
                    refine cl_i (wc := [(a0, .inr (9, [g2, g3, g4, g5, g6, .ref a1, g7, .int k8, .int z12790, .int 0, .int z11434, .int z12791, g13, g14, .long j15, g16, g17, g18, g19, g20, g21, g22, g23, g24, g25, g26, g27, g28, g29, g30])), (a1, .inl (cB31, 900, .inl f32))]) (wr := []) (va_runV (As := [.int z12790]) (rest := []) ⟨hx, hb, hml, hown, hts⟩ (kX12_byteAt l dC dI a0 z12790 a1 (g2) (g3) (g4) (g5) (g6) (g7) k8 (.int z12790) (.int 0) (.int z11434) (.int z12791) (g13) (g14) (.long j15) (g16) (g17) (g18) (g19) (g20) (g21) (g22) (g23) (g24) (g25) (g26) (g27) (g28) (g29) (g30) cB31 f32 (by first | omega | (simp only [ltv_0]; omega)) (by first | omega | (simp only [ltv_0]; omega)) H.size) (cwV 1 hts gX12_goesOn_0 rfl rfl rfl (by decide +kernel) ⟨Nat.le_of_ble_eq_true rfl, Nat.le_of_ble_eq_true rfl⟩) (PV (hP.sub (ws' := [(a0, .inr (9, [g2, g3, g4, g5, g6, .ref a1, g7, .int k8, .int z12790, .int 0, .int z11434, .int z12791, g13, g14, .long j15, g16, g17, g18, g19, g20, g21, g22, g23, g24, g25, g26, g27, g28, g29, g30])), (a1, .inl (cB31, 900, .inl f32))]) [0, 1] rfl) (hK.sub (tys' := [(cB31, .byte)]) [0] rfl) (hD.sub (ws' := [(a0, .inr (9, [g2, g3, g4, g5, g6, .ref a1, g7, .int k8, .int z12790, .int 0, .int z11434, .int z12791, g13, g14, .long j15, g16, g17, g18, g19, g20, g21, g22, g23, g24, g25, g26, g27, g28, g29, g30])), (a1, .inl (cB31, 900, .inl f32))]) [0, 1] (by decide) rfl) hN 0 rfl rfl) rfl rfl hl.1 rfl (lv_room (Nat.le_of_ble_eq_true rfl)) dX12_goesOn_178 ⟨Nat.le_of_ble_eq_true rfl, Nat.le_of_ble_eq_true rfl⟩) hP hD hK hS hA [0, 1] [] rfl rfl (by decide) (by decide) (fun z12793 _u H locs hw hP hD hK hS => ?_)
                    have b12794 := hw
                    have hP : va_P (dC, dI) vwCl [(a0, .inr (9, [g2, g3, g4, g5, g6, .ref a1, g7, .int k8, .int z12790, .int 0, .int z11434, .int z12791, g13, g14, .long j15, g16, g17, g18, g19, g20, g21, g22, g23, g24, g25, g26, g27, g28, g29, g30])), (a1, .inl (cB31, 900, .inl f32))] H := hP
                    have hD : va_D A [(a0, .inr (9, [g2, g3, g4, g5, g6, .ref a1, g7, .int k8, .int z12790, .int 0, .int z11434, .int z12791, g13, g14, .long j15, g16, g17, g18, g19, g20, g21, g22, g23, g24, g25, g26, g27, g28, g29, g30])), (a1, .inl (cB31, 900, .inl f32))] := hD
                    have hK : va_K (dC, dI) vwCl [(cB31, .byte)] s := hK
                    rcases hw with rfl | ⟨h12796, h12796_0⟩
                    · refine cl_i (wc := []) (wr := [(a0, .inr (9, [g2, g3, g4, g5, g6, .ref a1, g7, .int k8, .int z12790, .int 0, .int z11434, .int z12791, g13, g14, .long j15, g16, g17, g18, g19, g20, g21, g22, g23, g24, g25, g26, g27, g28, g29, g30])), (a1, .inl (cB31, 900, .inl f32))]) (va_runS (As := [.int (-1)]) (rest := []) ⟨hx, hb, hml, hown, hts⟩ (kX12_isDigit l dC dI (-1)  H.size) (va_cwS 1 hts gX12_goesOn_2 rfl rfl rfl (by decide +kernel) ⟨Nat.le_of_ble_eq_true rfl, Nat.le_of_ble_eq_true rfl⟩) (PS (hP.sub (ws' := []) [] rfl) (hK.sub (tys' := []) [] rfl) (hD.sub (ws' := []) [] (by decide) rfl) hN) rfl rfl hl.1 rfl (lv_room (Nat.le_of_ble_eq_true rfl)) dX12_goesOn_181 ⟨Nat.le_of_ble_eq_true rfl, Nat.le_of_ble_eq_true rfl⟩) hP hD hK hS hA [] [0, 1] rfl rfl (by decide) (by decide) (fun z12797 _u H locs hw hP hD hK hS => ?_)
                      have b12798 := hw
                      have hP : va_P (dC, dI) vwCl [(a0, .inr (9, [g2, g3, g4, g5, g6, .ref a1, g7, .int k8, .int z12790, .int 0, .int z11434, .int z12791, g13, g14, .long j15, g16, g17, g18, g19, g20, g21, g22, g23, g24, g25, g26, g27, g28, g29, g30])), (a1, .inl (cB31, 900, .inl f32))] H := hP
                      have hD : va_D A [(a0, .inr (9, [g2, g3, g4, g5, g6, .ref a1, g7, .int k8, .int z12790, .int 0, .int z11434, .int z12791, g13, g14, .long j15, g16, g17, g18, g19, g20, g21, g22, g23, g24, g25, g26, g27, g28, g29, g30])), (a1, .inl (cB31, 900, .inl f32))] := hD
                      have hK : va_K (dC, dI) vwCl [(cB31, .byte)] s := hK
                      rcases hw with rfl | ⟨rfl, h12799, h12800, h12801⟩
                      · refine lv_if_eq (tgt := 231) hx hb dX12_goesOn_184 (by decide) (fun _ => ?_) (fun c12802 => absurd c12802 (by decide))
                        refine lv_iload_n hx hb dX12_goesOn_231 rfl (lv_at hl 0 rfl) ?_
                        refine lv_iconst (v := 2) hx hb dX12_goesOn_232 (by decide) ?_
                        refine lv_icmp_gt (tgt := 265) hx hb dX12_goesOn_233 (by decide) (fun c12803 => ?_) (fun c12803 => ?_)
                        · simp only [fa_lt, fa_le, fa_eq, ltv_0, ltv_2] at c12803
                          have hP9 := hP.sub (ws' := [(a0, .inr (9, [g2, g3, g4, g5, g6, .ref a1, g7, .int k8, .int z12790, .int 0, .int z11434, .int z12791, g13, g14, .long j15, g16, g17, g18, g19, g20, g21, g22, g23, g24, g25, g26, g27, g28, g29, g30])), (a1, .inl (cB31, 900, .inl f32))]) [0, 1] rfl
                          have hD9 := hD.sub (ws' := [(a0, .inr (9, [g2, g3, g4, g5, g6, .ref a1, g7, .int k8, .int z12790, .int 0, .int z11434, .int z12791, g13, g14, .long j15, g16, g17, g18, g19, g20, g21, g22, g23, g24, g25, g26, g27, g28, g29, g30])), (a1, .inl (cB31, 900, .inl f32))]) [0, 1] (by decide) rfl
                          have hK9 := hK.sub (tys' := []) [] rfl
                          exact W.vret hx hb hr (fun t ht hW => ⟨⟨(z12790, 0, z11434, z12791, j15), rfl, ⟨(by first | trivial | omega | (simp only [ltv_0]; omega)), (by first | trivial | omega | (simp only [ltv_0]; omega))⟩, by rw [ht]; exact hP9, va_K.moved hW.alike hK9, hD9⟩, hS.F ht⟩) hS.2.2 dX12_goesOn_265
                        · simp only [fa_lt, fa_le, fa_eq, ltv_0, ltv_2] at c12803
                          refine lv_aload_n hx hb dX12_goesOn_236 rfl (lv_at hl 2 rfl) ?_
                          refine lv_iconst (v := 3) hx hb dX12_goesOn_237 (by decide) ?_
                          refine va_put (D := (dC, dI)) (ci := 9) (v := .int 3) (ty := .int) (C := RX12) (T := TX12) (N := 30) hx hb hts iX12_goesOn_X12 tyX12 tyX12_ok nmX12 hown hK hP hD hS 0 rfl rfl 9 (by decide) (hts (.fieldLink RX12 68 "HookPierModel" "sort" "I") (List.mem_of_getElem? (i := 1) rfl)) (fun _ h9 => h9) rfl (by decide +kernel) rfl rfl (Nat.le_of_ble_eq_true rfl) dX12_goesOn_238 (fun H locs hP hD hS => ?_)
                          have hP : va_P (dC, dI) vwCl [(a0, .inr (9, [g2, g3, g4, g5, g6, .ref a1, g7, .int k8, .int z12790, .int 3, .int z11434, .int z12791, g13, g14, .long j15, g16, g17, g18, g19, g20, g21, g22, g23, g24, g25, g26, g27, g28, g29, g30])), (a1, .inl (cB31, 900, .inl f32))] H := hP
                          have hD : va_D A [(a0, .inr (9, [g2, g3, g4, g5, g6, .ref a1, g7, .int k8, .int z12790, .int 3, .int z11434, .int z12791, g13, g14, .long j15, g16, g17, g18, g19, g20, g21, g22, g23, g24, g25, g26, g27, g28, g29, g30])), (a1, .inl (cB31, 900, .inl f32))] := hD
                          refine lv_goto (tgt := 265) hx hb dX12_goesOn_241 (by decide) ?_
                          have hP9 := hP.sub (ws' := [(a0, .inr (9, [g2, g3, g4, g5, g6, .ref a1, g7, .int k8, .int z12790, .int 3, .int z11434, .int z12791, g13, g14, .long j15, g16, g17, g18, g19, g20, g21, g22, g23, g24, g25, g26, g27, g28, g29, g30])), (a1, .inl (cB31, 900, .inl f32))]) [0, 1] rfl
                          have hD9 := hD.sub (ws' := [(a0, .inr (9, [g2, g3, g4, g5, g6, .ref a1, g7, .int k8, .int z12790, .int 3, .int z11434, .int z12791, g13, g14, .long j15, g16, g17, g18, g19, g20, g21, g22, g23, g24, g25, g26, g27, g28, g29, g30])), (a1, .inl (cB31, 900, .inl f32))]) [0, 1] (by decide) rfl
                          have hK9 := hK.sub (tys' := []) [] rfl
                          exact W.vret hx hb hr (fun t ht hW => ⟨⟨(z12790, 3, z11434, z12791, j15), rfl, ⟨(by first | trivial | omega | (simp only [ltv_0, ltv_3]; omega)), (by first | trivial | omega | (simp only [ltv_0, ltv_3]; omega))⟩, by rw [ht]; exact hP9, va_K.moved hW.alike hK9, hD9⟩, hS.F ht⟩) hS.2.2 dX12_goesOn_265
                      · exact False.elim (by first | omega | (have l0 := ltv_m1; have l1 := ltv_0; omega))
                    · refine cl_i (wc := []) (wr := [(a0, .inr (9, [g2, g3, g4, g5, g6, .ref a1, g7, .int k8, .int z12790, .int 0, .int z11434, .int z12791, g13, g14, .long j15, g16, g17, g18, g19, g20, g21, g22, g23, g24, g25, g26, g27, g28, g29, g30])), (a1, .inl (cB31, 900, .inl f32))]) (va_runS (As := [.int z12793]) (rest := []) ⟨hx, hb, hml, hown, hts⟩ (kX12_isDigit l dC dI z12793  H.size) (va_cwS 1 hts gX12_goesOn_2 rfl rfl rfl (by decide +kernel) ⟨Nat.le_of_ble_eq_true rfl, Nat.le_of_ble_eq_true rfl⟩) (PS (hP.sub (ws' := []) [] rfl) (hK.sub (tys' := []) [] rfl) (hD.sub (ws' := []) [] (by decide) rfl) hN) rfl rfl hl.1 rfl (lv_room (Nat.le_of_ble_eq_true rfl)) dX12_goesOn_181 ⟨Nat.le_of_ble_eq_true rfl, Nat.le_of_ble_eq_true rfl⟩) hP hD hK hS hA [] [0, 1] rfl rfl (by decide) (by decide) (fun z12804 _u H locs hw hP hD hK hS => ?_)
                      have b12805 := hw
                      have hP : va_P (dC, dI) vwCl [(a0, .inr (9, [g2, g3, g4, g5, g6, .ref a1, g7, .int k8, .int z12790, .int 0, .int z11434, .int z12791, g13, g14, .long j15, g16, g17, g18, g19, g20, g21, g22, g23, g24, g25, g26, g27, g28, g29, g30])), (a1, .inl (cB31, 900, .inl f32))] H := hP
                      have hD : va_D A [(a0, .inr (9, [g2, g3, g4, g5, g6, .ref a1, g7, .int k8, .int z12790, .int 0, .int z11434, .int z12791, g13, g14, .long j15, g16, g17, g18, g19, g20, g21, g22, g23, g24, g25, g26, g27, g28, g29, g30])), (a1, .inl (cB31, 900, .inl f32))] := hD
                      have hK : va_K (dC, dI) vwCl [(cB31, .byte)] s := hK
                      rcases hw with rfl | ⟨rfl, h12806, h12807, h12808⟩
                      · refine lv_if_eq (tgt := 231) hx hb dX12_goesOn_184 (by decide) (fun _ => ?_) (fun c12809 => absurd c12809 (by decide))
                        refine lv_iload_n hx hb dX12_goesOn_231 rfl (lv_at hl 0 rfl) ?_
                        refine lv_iconst (v := 2) hx hb dX12_goesOn_232 (by decide) ?_
                        refine lv_icmp_gt (tgt := 265) hx hb dX12_goesOn_233 (by decide) (fun c12810 => ?_) (fun c12810 => ?_)
                        · simp only [fa_lt, fa_le, fa_eq, ltv_0, ltv_2] at c12810
                          have hP9 := hP.sub (ws' := [(a0, .inr (9, [g2, g3, g4, g5, g6, .ref a1, g7, .int k8, .int z12790, .int 0, .int z11434, .int z12791, g13, g14, .long j15, g16, g17, g18, g19, g20, g21, g22, g23, g24, g25, g26, g27, g28, g29, g30])), (a1, .inl (cB31, 900, .inl f32))]) [0, 1] rfl
                          have hD9 := hD.sub (ws' := [(a0, .inr (9, [g2, g3, g4, g5, g6, .ref a1, g7, .int k8, .int z12790, .int 0, .int z11434, .int z12791, g13, g14, .long j15, g16, g17, g18, g19, g20, g21, g22, g23, g24, g25, g26, g27, g28, g29, g30])), (a1, .inl (cB31, 900, .inl f32))]) [0, 1] (by decide) rfl
                          have hK9 := hK.sub (tys' := []) [] rfl
                          exact W.vret hx hb hr (fun t ht hW => ⟨⟨(z12790, 0, z11434, z12791, j15), rfl, ⟨(by first | trivial | omega | (simp only [ltv_0]; omega)), (by first | trivial | omega | (simp only [ltv_0]; omega))⟩, by rw [ht]; exact hP9, va_K.moved hW.alike hK9, hD9⟩, hS.F ht⟩) hS.2.2 dX12_goesOn_265
                        · simp only [fa_lt, fa_le, fa_eq, ltv_0, ltv_2] at c12810
                          refine lv_aload_n hx hb dX12_goesOn_236 rfl (lv_at hl 2 rfl) ?_
                          refine lv_iconst (v := 3) hx hb dX12_goesOn_237 (by decide) ?_
                          refine va_put (D := (dC, dI)) (ci := 9) (v := .int 3) (ty := .int) (C := RX12) (T := TX12) (N := 30) hx hb hts iX12_goesOn_X12 tyX12 tyX12_ok nmX12 hown hK hP hD hS 0 rfl rfl 9 (by decide) (hts (.fieldLink RX12 68 "HookPierModel" "sort" "I") (List.mem_of_getElem? (i := 1) rfl)) (fun _ h9 => h9) rfl (by decide +kernel) rfl rfl (Nat.le_of_ble_eq_true rfl) dX12_goesOn_238 (fun H locs hP hD hS => ?_)
                          have hP : va_P (dC, dI) vwCl [(a0, .inr (9, [g2, g3, g4, g5, g6, .ref a1, g7, .int k8, .int z12790, .int 3, .int z11434, .int z12791, g13, g14, .long j15, g16, g17, g18, g19, g20, g21, g22, g23, g24, g25, g26, g27, g28, g29, g30])), (a1, .inl (cB31, 900, .inl f32))] H := hP
                          have hD : va_D A [(a0, .inr (9, [g2, g3, g4, g5, g6, .ref a1, g7, .int k8, .int z12790, .int 3, .int z11434, .int z12791, g13, g14, .long j15, g16, g17, g18, g19, g20, g21, g22, g23, g24, g25, g26, g27, g28, g29, g30])), (a1, .inl (cB31, 900, .inl f32))] := hD
                          refine lv_goto (tgt := 265) hx hb dX12_goesOn_241 (by decide) ?_
                          have hP9 := hP.sub (ws' := [(a0, .inr (9, [g2, g3, g4, g5, g6, .ref a1, g7, .int k8, .int z12790, .int 3, .int z11434, .int z12791, g13, g14, .long j15, g16, g17, g18, g19, g20, g21, g22, g23, g24, g25, g26, g27, g28, g29, g30])), (a1, .inl (cB31, 900, .inl f32))]) [0, 1] rfl
                          have hD9 := hD.sub (ws' := [(a0, .inr (9, [g2, g3, g4, g5, g6, .ref a1, g7, .int k8, .int z12790, .int 3, .int z11434, .int z12791, g13, g14, .long j15, g16, g17, g18, g19, g20, g21, g22, g23, g24, g25, g26, g27, g28, g29, g30])), (a1, .inl (cB31, 900, .inl f32))]) [0, 1] (by decide) rfl
                          have hK9 := hK.sub (tys' := []) [] rfl
                          exact W.vret hx hb hr (fun t ht hW => ⟨⟨(z12790, 3, z11434, z12791, j15), rfl, ⟨(by first | trivial | omega | (simp only [ltv_0, ltv_3]; omega)), (by first | trivial | omega | (simp only [ltv_0, ltv_3]; omega))⟩, by rw [ht]; exact hP9, va_K.moved hW.alike hK9, hD9⟩, hS.F ht⟩) hS.2.2 dX12_goesOn_265
                      · refine lv_if_eq (tgt := 231) hx hb dX12_goesOn_184 (by decide) (fun c12811 => absurd c12811 (by decide)) (fun _ => ?_)
                        refine lv_iload_n hx hb dX12_goesOn_187 rfl (lv_at hl 0 rfl) ?_
                        refine lv_iconst (v := 2) hx hb dX12_goesOn_188 (by decide) ?_
                        refine lv_icmp_ge (tgt := 215) hx hb dX12_goesOn_189 (by decide) (fun c12812 => ?_) (fun c12812 => ?_)
                        · simp only [fa_lt, fa_le, fa_eq, ltv_0, ltv_2] at c12812
                          obtain ⟨z12813, ez12813⟩ : ∃ y : Int32, y = z12789 + 1 := ⟨_, rfl⟩
                          refine lv_iinc (v := z12813) (lv' := [(2, .int z12813), (1, .int z11441), (0, .ref a0)]) hx hb dX12_goesOn_215 hl (k := 0) rfl (by rw [ez12813]; rfl) (by decide) rfl (fun ls hl => ?_)
                          refine lv_aload_n hx hb dX12_goesOn_218 rfl (lv_at hl 2 rfl) ?_
                          refine lv_dup hx hb dX12_goesOn_219 rfl ?_
                          refine va_get (D := (dC, dI)) (ci := 9) (v := .int z12790) (C := RX12) (T := TX12) (N := 30) hx hb hts iX12_goesOn_X12 hown hK hP 0 rfl rfl 8 (by decide) (hts (.fieldLink RX12 71 "HookPierModel" "spot" "I") (List.mem_of_getElem? (i := 2) rfl)) (fun _ h9 => h9) rfl dX12_goesOn_220 ?_
                          refine lv_iconst (v := 1) hx hb dX12_goesOn_223 (by decide) ?_
                          refine lv_iadd hx hb dX12_goesOn_224 ?_
                          refine lv_topi (fun z12814 ez12814 => ?_)
                          have tz12814 : z12814.toInt = z12790.toInt + 1 := by rw [ez12814]; rw [iadd_t (by first | omega | (simp only [ltv_0, ltv_1]; omega)) (by first | omega | (simp only [ltv_0, ltv_1]; omega))]; first | done | (simp only [ltv_0, ltv_1])
                          refine va_put (D := (dC, dI)) (ci := 9) (v := .int z12814) (ty := .int) (C := RX12) (T := TX12) (N := 30) hx hb hts iX12_goesOn_X12 tyX12 tyX12_ok nmX12 hown hK hP hD hS 0 rfl rfl 8 (by decide) (hts (.fieldLink RX12 71 "HookPierModel" "spot" "I") (List.mem_of_getElem? (i := 2) rfl)) (fun _ h9 => h9) rfl (by decide +kernel) rfl rfl (Nat.le_of_ble_eq_true rfl) dX12_goesOn_225 (fun H locs hP hD hS => ?_)
                          have hP : va_P (dC, dI) vwCl [(a0, .inr (9, [g2, g3, g4, g5, g6, .ref a1, g7, .int k8, .int z12814, .int 0, .int z11434, .int z12791, g13, g14, .long j15, g16, g17, g18, g19, g20, g21, g22, g23, g24, g25, g26, g27, g28, g29, g30])), (a1, .inl (cB31, 900, .inl f32))] H := hP
                          have hD : va_D A [(a0, .inr (9, [g2, g3, g4, g5, g6, .ref a1, g7, .int k8, .int z12814, .int 0, .int z11434, .int z12791, g13, g14, .long j15, g16, g17, g18, g19, g20, g21, g22, g23, g24, g25, g26, g27, g28, g29, g30])), (a1, .inl (cB31, 900, .inl f32))] := hD
                          refine lv_goto (tgt := 173) hx hb dX12_goesOn_228 (by decide) ?_
                          exact ih173 z12813 z12814 z12791 H locs ls (by first | omega | (simp only [ltv_0]; omega)) (by first | omega | (simp only [ltv_0]; omega)) hP hD hS (lv_sub hl [0, 1, 2] rfl)
                        · simp only [fa_lt, fa_le, fa_eq, ltv_0, ltv_2] at c12812
                          refine lv_aload_n hx hb dX12_goesOn_192 rfl (lv_at hl 2 rfl) ?_
                          refine lv_bipush (v := 10) hx hb dX12_goesOn_193 (by decide) ?_
                          refine lv_aload_n hx hb dX12_goesOn_195 rfl (lv_at hl 2 rfl) ?_
                          refine va_get (D := (dC, dI)) (ci := 9) (v := .int z12791) (C := RX12) (T := TX12) (N := 30) hx hb hts iX12_goesOn_X12 hown hK hP 0 rfl rfl 11 (by decide) (hts (.fieldLink RX12 91 "HookPierModel" "number" "I") (List.mem_of_getElem? (i := 17) rfl)) (fun _ h9 => h9) rfl dX12_goesOn_196 ?_
                          refine lv_imul hx hb dX12_goesOn_199 ?_
                          refine lv_topi (fun z12815 ez12815 => ?_)
                          clear ez12815
                          refine lv_aload_n hx hb dX12_goesOn_200 rfl (lv_at hl 2 rfl) ?_
                          refine lv_aload_n hx hb dX12_goesOn_201 rfl (lv_at hl 2 rfl) ?_
                          refine va_get (D := (dC, dI)) (ci := 9) (v := .int z12790) (C := RX12) (T := TX12) (N := 30) hx hb hts iX12_goesOn_X12 hown hK hP 0 rfl rfl 8 (by decide) (hts (.fieldLink RX12 71 "HookPierModel" "spot" "I") (List.mem_of_getElem? (i := 2) rfl)) (fun _ h9 => h9) rfl dX12_goesOn_202 ?_
                          refine cl_i (wc := [(a0, .inr (9, [g2, g3, g4, g5, g6, .ref a1, g7, .int k8, .int z12790, .int 0, .int z11434, .int z12791, g13, g14, .long j15, g16, g17, g18, g19, g20, g21, g22, g23, g24, g25, g26, g27, g28, g29, g30])), (a1, .inl (cB31, 900, .inl f32))]) (wr := []) (va_runV (As := [.int z12790]) (rest := [.int z12815, .ref a0]) ⟨hx, hb, hml, hown, hts⟩ (kX12_byteAt l dC dI a0 z12790 a1 (g2) (g3) (g4) (g5) (g6) (g7) k8 (.int z12790) (.int 0) (.int z11434) (.int z12791) (g13) (g14) (.long j15) (g16) (g17) (g18) (g19) (g20) (g21) (g22) (g23) (g24) (g25) (g26) (g27) (g28) (g29) (g30) cB31 f32 (by first | omega | (simp only [ltv_0]; omega)) (by first | omega | (simp only [ltv_0]; omega)) H.size) (cwV 1 hts gX12_goesOn_0 rfl rfl rfl (by decide +kernel) ⟨Nat.le_of_ble_eq_true rfl, Nat.le_of_ble_eq_true rfl⟩) (PV (hP.sub (ws' := [(a0, .inr (9, [g2, g3, g4, g5, g6, .ref a1, g7, .int k8, .int z12790, .int 0, .int z11434, .int z12791, g13, g14, .long j15, g16, g17, g18, g19, g20, g21, g22, g23, g24, g25, g26, g27, g28, g29, g30])), (a1, .inl (cB31, 900, .inl f32))]) [0, 1] rfl) (hK.sub (tys' := [(cB31, .byte)]) [0] rfl) (hD.sub (ws' := [(a0, .inr (9, [g2, g3, g4, g5, g6, .ref a1, g7, .int k8, .int z12790, .int 0, .int z11434, .int z12791, g13, g14, .long j15, g16, g17, g18, g19, g20, g21, g22, g23, g24, g25, g26, g27, g28, g29, g30])), (a1, .inl (cB31, 900, .inl f32))]) [0, 1] (by decide) rfl) hN 0 rfl rfl) rfl rfl hl.1 rfl (lv_room (Nat.le_of_ble_eq_true rfl)) dX12_goesOn_205 ⟨Nat.le_of_ble_eq_true rfl, Nat.le_of_ble_eq_true rfl⟩) hP hD hK hS hA [0, 1] [] rfl rfl (by decide) (by decide) (fun z12816 _u H locs hw hP hD hK hS => ?_)
                          have b12817 := hw
                          have hP : va_P (dC, dI) vwCl [(a0, .inr (9, [g2, g3, g4, g5, g6, .ref a1, g7, .int k8, .int z12790, .int 0, .int z11434, .int z12791, g13, g14, .long j15, g16, g17, g18, g19, g20, g21, g22, g23, g24, g25, g26, g27, g28, g29, g30])), (a1, .inl (cB31, 900, .inl f32))] H := hP
                          have hD : va_D A [(a0, .inr (9, [g2, g3, g4, g5, g6, .ref a1, g7, .int k8, .int z12790, .int 0, .int z11434, .int z12791, g13, g14, .long j15, g16, g17, g18, g19, g20, g21, g22, g23, g24, g25, g26, g27, g28, g29, g30])), (a1, .inl (cB31, 900, .inl f32))] := hD
                          have hK : va_K (dC, dI) vwCl [(cB31, .byte)] s := hK
                          rcases hw with rfl | ⟨h12819, h12819_0⟩
                          · refine lv_iadd hx hb dX12_goesOn_208 ?_
                            refine lv_topi (fun z12820 ez12820 => ?_)
                            clear ez12820
                            refine lv_bipush (v := 48) hx hb dX12_goesOn_209 (by decide) ?_
                            refine lv_isub hx hb dX12_goesOn_211 ?_
                            refine lv_topi (fun z12821 ez12821 => ?_)
                            clear ez12821
                            refine va_put (D := (dC, dI)) (ci := 9) (v := .int z12821) (ty := .int) (C := RX12) (T := TX12) (N := 30) hx hb hts iX12_goesOn_X12 tyX12 tyX12_ok nmX12 hown hK hP hD hS 0 rfl rfl 11 (by decide) (hts (.fieldLink RX12 91 "HookPierModel" "number" "I") (List.mem_of_getElem? (i := 17) rfl)) (fun _ h9 => h9) rfl (by decide +kernel) rfl rfl (Nat.le_of_ble_eq_true rfl) dX12_goesOn_212 (fun H locs hP hD hS => ?_)
                            have hP : va_P (dC, dI) vwCl [(a0, .inr (9, [g2, g3, g4, g5, g6, .ref a1, g7, .int k8, .int z12790, .int 0, .int z11434, .int z12821, g13, g14, .long j15, g16, g17, g18, g19, g20, g21, g22, g23, g24, g25, g26, g27, g28, g29, g30])), (a1, .inl (cB31, 900, .inl f32))] H := hP
                            have hD : va_D A [(a0, .inr (9, [g2, g3, g4, g5, g6, .ref a1, g7, .int k8, .int z12790, .int 0, .int z11434, .int z12821, g13, g14, .long j15, g16, g17, g18, g19, g20, g21, g22, g23, g24, g25, g26, g27, g28, g29, g30])), (a1, .inl (cB31, 900, .inl f32))] := hD
                            obtain ⟨z12822, ez12822⟩ : ∃ y : Int32, y = z12789 + 1 := ⟨_, rfl⟩
                            have rgz12822 := i32_rg z12789
                            have tz12822 : z12822.toInt = z12789.toInt + 1 := by rw [ez12822, iadd_t (by simp only [ltv_1]; omega) (by simp only [ltv_1]; omega)]; simp only [ltv_1]
                            refine lv_iinc (v := z12822) (lv' := [(2, .int z12822), (1, .int z11441), (0, .ref a0)]) hx hb dX12_goesOn_215 hl (k := 0) rfl (by rw [ez12822]; rfl) (by decide) rfl (fun ls hl => ?_)
                            refine lv_aload_n hx hb dX12_goesOn_218 rfl (lv_at hl 2 rfl) ?_
                            refine lv_dup hx hb dX12_goesOn_219 rfl ?_
                            refine va_get (D := (dC, dI)) (ci := 9) (v := .int z12790) (C := RX12) (T := TX12) (N := 30) hx hb hts iX12_goesOn_X12 hown hK hP 0 rfl rfl 8 (by decide) (hts (.fieldLink RX12 71 "HookPierModel" "spot" "I") (List.mem_of_getElem? (i := 2) rfl)) (fun _ h9 => h9) rfl dX12_goesOn_220 ?_
                            refine lv_iconst (v := 1) hx hb dX12_goesOn_223 (by decide) ?_
                            refine lv_iadd hx hb dX12_goesOn_224 ?_
                            refine lv_topi (fun z12823 ez12823 => ?_)
                            have tz12823 : z12823.toInt = z12790.toInt + 1 := by rw [ez12823]; rw [iadd_t (by first | omega | (simp only [ltv_0, ltv_1]; omega)) (by first | omega | (simp only [ltv_0, ltv_1]; omega))]; first | done | (simp only [ltv_0, ltv_1])
                            refine va_put (D := (dC, dI)) (ci := 9) (v := .int z12823) (ty := .int) (C := RX12) (T := TX12) (N := 30) hx hb hts iX12_goesOn_X12 tyX12 tyX12_ok nmX12 hown hK hP hD hS 0 rfl rfl 8 (by decide) (hts (.fieldLink RX12 71 "HookPierModel" "spot" "I") (List.mem_of_getElem? (i := 2) rfl)) (fun _ h9 => h9) rfl (by decide +kernel) rfl rfl (Nat.le_of_ble_eq_true rfl) dX12_goesOn_225 (fun H locs hP hD hS => ?_)
                            have hP : va_P (dC, dI) vwCl [(a0, .inr (9, [g2, g3, g4, g5, g6, .ref a1, g7, .int k8, .int z12823, .int 0, .int z11434, .int z12821, g13, g14, .long j15, g16, g17, g18, g19, g20, g21, g22, g23, g24, g25, g26, g27, g28, g29, g30])), (a1, .inl (cB31, 900, .inl f32))] H := hP
                            have hD : va_D A [(a0, .inr (9, [g2, g3, g4, g5, g6, .ref a1, g7, .int k8, .int z12823, .int 0, .int z11434, .int z12821, g13, g14, .long j15, g16, g17, g18, g19, g20, g21, g22, g23, g24, g25, g26, g27, g28, g29, g30])), (a1, .inl (cB31, 900, .inl f32))] := hD
                            refine lv_goto (tgt := 173) hx hb dX12_goesOn_228 (by decide) ?_
                            exact ih173 z12822 z12823 z12821 H locs ls (by first | omega | (simp only [ltv_0]; omega)) (by first | omega | (simp only [ltv_0]; omega)) hP hD hS (lv_sub hl [0, 1, 2] rfl)
                          · refine lv_iadd hx hb dX12_goesOn_208 ?_
                            refine lv_topi (fun z12824 ez12824 => ?_)
                            clear ez12824
                            refine lv_bipush (v := 48) hx hb dX12_goesOn_209 (by decide) ?_
                            refine lv_isub hx hb dX12_goesOn_211 ?_
                            refine lv_topi (fun z12825 ez12825 => ?_)
                            clear ez12825
                            refine va_put (D := (dC, dI)) (ci := 9) (v := .int z12825) (ty := .int) (C := RX12) (T := TX12) (N := 30) hx hb hts iX12_goesOn_X12 tyX12 tyX12_ok nmX12 hown hK hP hD hS 0 rfl rfl 11 (by decide) (hts (.fieldLink RX12 91 "HookPierModel" "number" "I") (List.mem_of_getElem? (i := 17) rfl)) (fun _ h9 => h9) rfl (by decide +kernel) rfl rfl (Nat.le_of_ble_eq_true rfl) dX12_goesOn_212 (fun H locs hP hD hS => ?_)
                            have hP : va_P (dC, dI) vwCl [(a0, .inr (9, [g2, g3, g4, g5, g6, .ref a1, g7, .int k8, .int z12790, .int 0, .int z11434, .int z12825, g13, g14, .long j15, g16, g17, g18, g19, g20, g21, g22, g23, g24, g25, g26, g27, g28, g29, g30])), (a1, .inl (cB31, 900, .inl f32))] H := hP
                            have hD : va_D A [(a0, .inr (9, [g2, g3, g4, g5, g6, .ref a1, g7, .int k8, .int z12790, .int 0, .int z11434, .int z12825, g13, g14, .long j15, g16, g17, g18, g19, g20, g21, g22, g23, g24, g25, g26, g27, g28, g29, g30])), (a1, .inl (cB31, 900, .inl f32))] := hD
                            obtain ⟨z12826, ez12826⟩ : ∃ y : Int32, y = z12789 + 1 := ⟨_, rfl⟩
                            have rgz12826 := i32_rg z12789
                            have tz12826 : z12826.toInt = z12789.toInt + 1 := by rw [ez12826, iadd_t (by simp only [ltv_1]; omega) (by simp only [ltv_1]; omega)]; simp only [ltv_1]
                            refine lv_iinc (v := z12826) (lv' := [(2, .int z12826), (1, .int z11441), (0, .ref a0)]) hx hb dX12_goesOn_215 hl (k := 0) rfl (by rw [ez12826]; rfl) (by decide) rfl (fun ls hl => ?_)
                            refine lv_aload_n hx hb dX12_goesOn_218 rfl (lv_at hl 2 rfl) ?_
                            refine lv_dup hx hb dX12_goesOn_219 rfl ?_
                            refine va_get (D := (dC, dI)) (ci := 9) (v := .int z12790) (C := RX12) (T := TX12) (N := 30) hx hb hts iX12_goesOn_X12 hown hK hP 0 rfl rfl 8 (by decide) (hts (.fieldLink RX12 71 "HookPierModel" "spot" "I") (List.mem_of_getElem? (i := 2) rfl)) (fun _ h9 => h9) rfl dX12_goesOn_220 ?_
                            refine lv_iconst (v := 1) hx hb dX12_goesOn_223 (by decide) ?_
                            refine lv_iadd hx hb dX12_goesOn_224 ?_
                            refine lv_topi (fun z12827 ez12827 => ?_)
                            have tz12827 : z12827.toInt = z12790.toInt + 1 := by rw [ez12827]; rw [iadd_t (by first | omega | (simp only [ltv_0, ltv_1]; omega)) (by first | omega | (simp only [ltv_0, ltv_1]; omega))]; first | done | (simp only [ltv_0, ltv_1])
                            refine va_put (D := (dC, dI)) (ci := 9) (v := .int z12827) (ty := .int) (C := RX12) (T := TX12) (N := 30) hx hb hts iX12_goesOn_X12 tyX12 tyX12_ok nmX12 hown hK hP hD hS 0 rfl rfl 8 (by decide) (hts (.fieldLink RX12 71 "HookPierModel" "spot" "I") (List.mem_of_getElem? (i := 2) rfl)) (fun _ h9 => h9) rfl (by decide +kernel) rfl rfl (Nat.le_of_ble_eq_true rfl) dX12_goesOn_225 (fun H locs hP hD hS => ?_)
                            have hP : va_P (dC, dI) vwCl [(a0, .inr (9, [g2, g3, g4, g5, g6, .ref a1, g7, .int k8, .int z12827, .int 0, .int z11434, .int z12825, g13, g14, .long j15, g16, g17, g18, g19, g20, g21, g22, g23, g24, g25, g26, g27, g28, g29, g30])), (a1, .inl (cB31, 900, .inl f32))] H := hP
                            have hD : va_D A [(a0, .inr (9, [g2, g3, g4, g5, g6, .ref a1, g7, .int k8, .int z12827, .int 0, .int z11434, .int z12825, g13, g14, .long j15, g16, g17, g18, g19, g20, g21, g22, g23, g24, g25, g26, g27, g28, g29, g30])), (a1, .inl (cB31, 900, .inl f32))] := hD
                            refine lv_goto (tgt := 173) hx hb dX12_goesOn_228 (by decide) ?_
                            exact ih173 z12826 z12827 z12825 H locs ls (by first | omega | (simp only [ltv_0]; omega)) (by first | omega | (simp only [ltv_0]; omega)) hP hD hS (lv_sub hl [0, 1, 2] rfl)
                exact L173_12792 901 (0) z11434 (0) H _ ls (by first | omega | (simp only [ltv_0]; omega)) (by first | omega | (simp only [ltv_0]; omega)) hP hD hS (lv_sub hl [0, 1, 2] rfl)
            · refine lv_if_eq (tgt := 161) hx hb dX12_goesOn_76 (by decide) (fun c12828 => absurd c12828 (by decide)) (fun _ => ?_)
              refine lv_aload_n hx hb dX12_goesOn_79 rfl (lv_at hl 2 rfl) ?_
              refine lv_lconst (v := 0) hx hb dX12_goesOn_80 (by decide) ?_
              refine va_put (D := (dC, dI)) (ci := 9) (v := .long 0) (ty := .long) (C := RX12) (T := TX12) (N := 30) hx hb hts iX12_goesOn_X12 tyX12 tyX12_ok nmX12 hown hK hP hD hS 0 rfl rfl 14 (by decide) (hts (.fieldLink RX12 84 "HookPierModel" "word" "J") (List.mem_of_getElem? (i := 18) rfl)) (fun _ h9 => h9) rfl (by decide +kernel) rfl rfl (Nat.le_of_ble_eq_true rfl) dX12_goesOn_81 (fun H locs hP hD hS => ?_)
              have hP : va_P (dC, dI) vwCl [(a0, .inr (9, [g2, g3, g4, g5, g6, .ref a1, g7, .int k8, .int z11434, .int 0, .int z11434, .int k12, g13, g14, .long 0, g16, g17, g18, g19, g20, g21, g22, g23, g24, g25, g26, g27, g28, g29, g30])), (a1, .inl (cB31, 900, .inl f32))] H := hP
              have hD : va_D A [(a0, .inr (9, [g2, g3, g4, g5, g6, .ref a1, g7, .int k8, .int z11434, .int 0, .int z11434, .int k12, g13, g14, .long 0, g16, g17, g18, g19, g20, g21, g22, g23, g24, g25, g26, g27, g28, g29, g30])), (a1, .inl (cB31, 900, .inl f32))] := hD
              have L84_14276 : ∀ (n : Nat) (z14273 : Int32) (z14274 : Int32) (j14275 : Int64) (H : Heap) (locs : List Loc) (ls : Array Slot), (0 ≤ z14274.toInt ∧ z14274.toInt ≤ 900) → 900 - z14274.toInt < (n : Int) → va_P (dC, dI) vwCl [(a0, .inr (9, [g2, g3, g4, g5, g6, .ref a1, g7, .int k8, .int z14274, .int 0, .int z11434, .int k12, g13, g14, .long j14275, g16, g17, g18, g19, g20, g21, g22, g23, g24, g25, g26, g27, g28, g29, g30])), (a1, .inl (cB31, 900, .inl f32))] H → va_D A [(a0, .inr (9, [g2, g3, g4, g5, g6, .ref a1, g7, .int k8, .int z14274, .int 0, .int z11434, .int k12, g13, g14, .long j14275, g16, g17, g18, g19, g20, g21, g22, g23, g24, g25, g26, g27, g28, g29, g30])), (a1, .inl (cB31, 900, .inl f32))] → va_S A s.heap H locs → lv_has ls 3 [(2, .int z14273), (1, .int z11441), (0, .ref a0)] → W p l e (headSpec vX12_goesOn { frames := 1, cells := 0, slots := 0, locals := 21 }).room s m ([.ref a0]).toArray below meth c H locs 0 0 (MQ below (va_Qv (S := Int32 × Int32 × Int32 × Int32 × Int64) (fun u => (0 ≤ (u.1).toInt ∧ (u.1).toInt ≤ 900) ∧ (0 ≤ (u.2.1).toInt ∧ (u.2.1).toInt ≤ 5)) (fun u t => BC (dC, dI) A [(a0, .inr (9, [g2, g3, g4, g5, g6, .ref a1, g7, .int k8, .int (u.1), .int (u.2.1), .int (u.2.2.1), .int (u.2.2.2.1), g13, g14, .long (u.2.2.2.2), g16, g17, g18, g19, g20, g21, g22, g23, g24, g25, g26, g27, g28, g29, g30])), (a1, .inl (cB31, 900, .inl f32))] [] t) A) ([.ref a0]).toArray s 0 0 A) (F0 m 84 ls []) := by
                intro n
                induction n with
                | zero =>
                  intro z14273 z14274 j14275 H locs ls b84_0 hm _ _ _ _
                  exact absurd hm (by omega)
                | succ n ih84 =>
                  intro z14273 z14274 j14275 H locs ls b84_0 hm84 hP hD hS hl
                  refine lv_aload_n hx hb dX12_goesOn_84 rfl (lv_at hl 2 rfl) ?_
                  refine lv_aload_n hx hb dX12_goesOn_85 rfl (lv_at hl 2 rfl) ?_
                  refine va_get (D := (dC, dI)) (ci := 9) (v := .int z14274) (C := RX12) (T := TX12) (N := 30) hx hb hts iX12_goesOn_X12 hown hK hP 0 rfl rfl 8 (by decide) (hts (.fieldLink RX12 71 "HookPierModel" "spot" "I") (List.mem_of_getElem? (i := 2) rfl)) (fun _ h9 => h9) rfl dX12_goesOn_86 ?_
                  refine cl_i (wc := [(a0, .inr (9, [g2, g3, g4, g5, g6, .ref a1, g7, .int k8, .int z14274, .int 0, .int z11434, .int k12, g13, g14, .long j14275, g16, g17, g18, g19, g20, g21, g22, g23, g24, g25, g26, g27, g28, g29, g30])), (a1, .inl (cB31, 900, .inl f32))]) (wr := []) (va_runV (As := [.int z14274]) (rest := []) ⟨hx, hb, hml, hown, hts⟩ (kX12_byteAt l dC dI a0 z14274 a1 (g2) (g3) (g4) (g5) (g6) (g7) k8 (.int z14274) (.int 0) (.int z11434) (.int k12) (g13) (g14) (.long j14275) (g16) (g17) (g18) (g19) (g20) (g21) (g22) (g23) (g24) (g25) (g26) (g27) (g28) (g29) (g30) cB31 f32 (by first | omega | (simp only [ltv_0]; omega)) (by first | omega | (simp only [ltv_0]; omega)) H.size) (cwV 1 hts gX12_goesOn_0 rfl rfl rfl (by decide +kernel) ⟨Nat.le_of_ble_eq_true rfl, Nat.le_of_ble_eq_true rfl⟩) (PV (hP.sub (ws' := [(a0, .inr (9, [g2, g3, g4, g5, g6, .ref a1, g7, .int k8, .int z14274, .int 0, .int z11434, .int k12, g13, g14, .long j14275, g16, g17, g18, g19, g20, g21, g22, g23, g24, g25, g26, g27, g28, g29, g30])), (a1, .inl (cB31, 900, .inl f32))]) [0, 1] rfl) (hK.sub (tys' := [(cB31, .byte)]) [0] rfl) (hD.sub (ws' := [(a0, .inr (9, [g2, g3, g4, g5, g6, .ref a1, g7, .int k8, .int z14274, .int 0, .int z11434, .int k12, g13, g14, .long j14275, g16, g17, g18, g19, g20, g21, g22, g23, g24, g25, g26, g27, g28, g29, g30])), (a1, .inl (cB31, 900, .inl f32))]) [0, 1] (by decide) rfl) hN 0 rfl rfl) rfl rfl hl.1 rfl (lv_room (Nat.le_of_ble_eq_true rfl)) dX12_goesOn_89 ⟨Nat.le_of_ble_eq_true rfl, Nat.le_of_ble_eq_true rfl⟩) hP hD hK hS hA [0, 1] [] rfl rfl (by decide) (by decide) (fun z14277 _u H locs hw hP hD hK hS => ?_)
                  have b14278 := hw
                  have hP : va_P (dC, dI) vwCl [(a0, .inr (9, [g2, g3, g4, g5, g6, .ref a1, g7, .int k8, .int z14274, .int 0, .int z11434, .int k12, g13, g14, .long j14275, g16, g17, g18, g19, g20, g21, g22, g23, g24, g25, g26, g27, g28, g29, g30])), (a1, .inl (cB31, 900, .inl f32))] H := hP
                  have hD : va_D A [(a0, .inr (9, [g2, g3, g4, g5, g6, .ref a1, g7, .int k8, .int z14274, .int 0, .int z11434, .int k12, g13, g14, .long j14275, g16, g17, g18, g19, g20, g21, g22, g23, g24, g25, g26, g27, g28, g29, g30])), (a1, .inl (cB31, 900, .inl f32))] := hD
                  have hK : va_K (dC, dI) vwCl [(cB31, .byte)] s := hK
                  rcases hw with rfl | ⟨h14280, h14280_0⟩
                  · refine cl_i (wc := []) (wr := [(a0, .inr (9, [g2, g3, g4, g5, g6, .ref a1, g7, .int k8, .int z14274, .int 0, .int z11434, .int k12, g13, g14, .long j14275, g16, g17, g18, g19, g20, g21, g22, g23, g24, g25, g26, g27, g28, g29, g30])), (a1, .inl (cB31, 900, .inl f32))]) (va_runS (As := [.int (-1)]) (rest := []) ⟨hx, hb, hml, hown, hts⟩ (kX12_isLetter l dC dI (-1)  H.size) (va_cwS 1 hts gX12_goesOn_1 rfl rfl rfl (by decide +kernel) ⟨Nat.le_of_ble_eq_true rfl, Nat.le_of_ble_eq_true rfl⟩) (PS (hP.sub (ws' := []) [] rfl) (hK.sub (tys' := []) [] rfl) (hD.sub (ws' := []) [] (by decide) rfl) hN) rfl rfl hl.1 rfl (lv_room (Nat.le_of_ble_eq_true rfl)) dX12_goesOn_92 ⟨Nat.le_of_ble_eq_true rfl, Nat.le_of_ble_eq_true rfl⟩) hP hD hK hS hA [] [0, 1] rfl rfl (by decide) (by decide) (fun z14281 _u H locs hw hP hD hK hS => ?_)
                    have b14282 := hw
                    have hP : va_P (dC, dI) vwCl [(a0, .inr (9, [g2, g3, g4, g5, g6, .ref a1, g7, .int k8, .int z14274, .int 0, .int z11434, .int k12, g13, g14, .long j14275, g16, g17, g18, g19, g20, g21, g22, g23, g24, g25, g26, g27, g28, g29, g30])), (a1, .inl (cB31, 900, .inl f32))] H := hP
                    have hD : va_D A [(a0, .inr (9, [g2, g3, g4, g5, g6, .ref a1, g7, .int k8, .int z14274, .int 0, .int z11434, .int k12, g13, g14, .long j14275, g16, g17, g18, g19, g20, g21, g22, g23, g24, g25, g26, g27, g28, g29, g30])), (a1, .inl (cB31, 900, .inl f32))] := hD
                    have hK : va_K (dC, dI) vwCl [(cB31, .byte)] s := hK
                    rcases hw with rfl | ⟨rfl, h14283, h14284, h14285⟩
                    · refine lv_if_eq (tgt := 147) hx hb dX12_goesOn_95 (by decide) (fun _ => ?_) (fun c14286 => absurd c14286 (by decide))
                      refine lv_iload_n hx hb dX12_goesOn_147 rfl (lv_at hl 0 rfl) ?_
                      refine lv_bipush (v := 8) hx hb dX12_goesOn_148 (by decide) ?_
                      refine lv_icmp_gt (tgt := 265) hx hb dX12_goesOn_150 (by decide) (fun c14287 => ?_) (fun c14287 => ?_)
                      · simp only [fa_lt, fa_le, fa_eq, ltv_0, ltv_8] at c14287
                        have hP9 := hP.sub (ws' := [(a0, .inr (9, [g2, g3, g4, g5, g6, .ref a1, g7, .int k8, .int z14274, .int 0, .int z11434, .int k12, g13, g14, .long j14275, g16, g17, g18, g19, g20, g21, g22, g23, g24, g25, g26, g27, g28, g29, g30])), (a1, .inl (cB31, 900, .inl f32))]) [0, 1] rfl
                        have hD9 := hD.sub (ws' := [(a0, .inr (9, [g2, g3, g4, g5, g6, .ref a1, g7, .int k8, .int z14274, .int 0, .int z11434, .int k12, g13, g14, .long j14275, g16, g17, g18, g19, g20, g21, g22, g23, g24, g25, g26, g27, g28, g29, g30])), (a1, .inl (cB31, 900, .inl f32))]) [0, 1] (by decide) rfl
                        have hK9 := hK.sub (tys' := []) [] rfl
                        exact W.vret hx hb hr (fun t ht hW => ⟨⟨(z14274, 0, z11434, k12, j14275), rfl, ⟨(by first | trivial | omega | (simp only [ltv_0]; omega)), (by first | trivial | omega | (simp only [ltv_0]; omega))⟩, by rw [ht]; exact hP9, va_K.moved hW.alike hK9, hD9⟩, hS.F ht⟩) hS.2.2 dX12_goesOn_265
                      · simp only [fa_lt, fa_le, fa_eq, ltv_0, ltv_8] at c14287
                        refine lv_aload_n hx hb dX12_goesOn_153 rfl (lv_at hl 2 rfl) ?_
                        refine lv_iconst (v := 2) hx hb dX12_goesOn_154 (by decide) ?_
                        refine va_put (D := (dC, dI)) (ci := 9) (v := .int 2) (ty := .int) (C := RX12) (T := TX12) (N := 30) hx hb hts iX12_goesOn_X12 tyX12 tyX12_ok nmX12 hown hK hP hD hS 0 rfl rfl 9 (by decide) (hts (.fieldLink RX12 68 "HookPierModel" "sort" "I") (List.mem_of_getElem? (i := 1) rfl)) (fun _ h9 => h9) rfl (by decide +kernel) rfl rfl (Nat.le_of_ble_eq_true rfl) dX12_goesOn_155 (fun H locs hP hD hS => ?_)
                        have hP : va_P (dC, dI) vwCl [(a0, .inr (9, [g2, g3, g4, g5, g6, .ref a1, g7, .int k8, .int z14274, .int 2, .int z11434, .int k12, g13, g14, .long j14275, g16, g17, g18, g19, g20, g21, g22, g23, g24, g25, g26, g27, g28, g29, g30])), (a1, .inl (cB31, 900, .inl f32))] H := hP
                        have hD : va_D A [(a0, .inr (9, [g2, g3, g4, g5, g6, .ref a1, g7, .int k8, .int z14274, .int 2, .int z11434, .int k12, g13, g14, .long j14275, g16, g17, g18, g19, g20, g21, g22, g23, g24, g25, g26, g27, g28, g29, g30])), (a1, .inl (cB31, 900, .inl f32))] := hD
                        refine lv_goto (tgt := 265) hx hb dX12_goesOn_158 (by decide) ?_
                        have hP9 := hP.sub (ws' := [(a0, .inr (9, [g2, g3, g4, g5, g6, .ref a1, g7, .int k8, .int z14274, .int 2, .int z11434, .int k12, g13, g14, .long j14275, g16, g17, g18, g19, g20, g21, g22, g23, g24, g25, g26, g27, g28, g29, g30])), (a1, .inl (cB31, 900, .inl f32))]) [0, 1] rfl
                        have hD9 := hD.sub (ws' := [(a0, .inr (9, [g2, g3, g4, g5, g6, .ref a1, g7, .int k8, .int z14274, .int 2, .int z11434, .int k12, g13, g14, .long j14275, g16, g17, g18, g19, g20, g21, g22, g23, g24, g25, g26, g27, g28, g29, g30])), (a1, .inl (cB31, 900, .inl f32))]) [0, 1] (by decide) rfl
                        have hK9 := hK.sub (tys' := []) [] rfl
                        exact W.vret hx hb hr (fun t ht hW => ⟨⟨(z14274, 2, z11434, k12, j14275), rfl, ⟨(by first | trivial | omega | (simp only [ltv_0, ltv_2]; omega)), (by first | trivial | omega | (simp only [ltv_0, ltv_2]; omega))⟩, by rw [ht]; exact hP9, va_K.moved hW.alike hK9, hD9⟩, hS.F ht⟩) hS.2.2 dX12_goesOn_265
                    · exact False.elim (by first | omega | (have l0 := ltv_m1; have l1 := ltv_0; omega))
                  · refine cl_i (wc := []) (wr := [(a0, .inr (9, [g2, g3, g4, g5, g6, .ref a1, g7, .int k8, .int z14274, .int 0, .int z11434, .int k12, g13, g14, .long j14275, g16, g17, g18, g19, g20, g21, g22, g23, g24, g25, g26, g27, g28, g29, g30])), (a1, .inl (cB31, 900, .inl f32))]) (va_runS (As := [.int z14277]) (rest := []) ⟨hx, hb, hml, hown, hts⟩ (kX12_isLetter l dC dI z14277  H.size) (va_cwS 1 hts gX12_goesOn_1 rfl rfl rfl (by decide +kernel) ⟨Nat.le_of_ble_eq_true rfl, Nat.le_of_ble_eq_true rfl⟩) (PS (hP.sub (ws' := []) [] rfl) (hK.sub (tys' := []) [] rfl) (hD.sub (ws' := []) [] (by decide) rfl) hN) rfl rfl hl.1 rfl (lv_room (Nat.le_of_ble_eq_true rfl)) dX12_goesOn_92 ⟨Nat.le_of_ble_eq_true rfl, Nat.le_of_ble_eq_true rfl⟩) hP hD hK hS hA [] [0, 1] rfl rfl (by decide) (by decide) (fun z14288 _u H locs hw hP hD hK hS => ?_)
                    have b14289 := hw
                    have hP : va_P (dC, dI) vwCl [(a0, .inr (9, [g2, g3, g4, g5, g6, .ref a1, g7, .int k8, .int z14274, .int 0, .int z11434, .int k12, g13, g14, .long j14275, g16, g17, g18, g19, g20, g21, g22, g23, g24, g25, g26, g27, g28, g29, g30])), (a1, .inl (cB31, 900, .inl f32))] H := hP
                    have hD : va_D A [(a0, .inr (9, [g2, g3, g4, g5, g6, .ref a1, g7, .int k8, .int z14274, .int 0, .int z11434, .int k12, g13, g14, .long j14275, g16, g17, g18, g19, g20, g21, g22, g23, g24, g25, g26, g27, g28, g29, g30])), (a1, .inl (cB31, 900, .inl f32))] := hD
                    have hK : va_K (dC, dI) vwCl [(cB31, .byte)] s := hK
                    rcases hw with rfl | ⟨rfl, h14290, h14291, h14292⟩
                    · refine lv_if_eq (tgt := 147) hx hb dX12_goesOn_95 (by decide) (fun _ => ?_) (fun c14293 => absurd c14293 (by decide))
                      refine lv_iload_n hx hb dX12_goesOn_147 rfl (lv_at hl 0 rfl) ?_
                      refine lv_bipush (v := 8) hx hb dX12_goesOn_148 (by decide) ?_
                      refine lv_icmp_gt (tgt := 265) hx hb dX12_goesOn_150 (by decide) (fun c14294 => ?_) (fun c14294 => ?_)
                      · simp only [fa_lt, fa_le, fa_eq, ltv_0, ltv_8] at c14294
                        have hP9 := hP.sub (ws' := [(a0, .inr (9, [g2, g3, g4, g5, g6, .ref a1, g7, .int k8, .int z14274, .int 0, .int z11434, .int k12, g13, g14, .long j14275, g16, g17, g18, g19, g20, g21, g22, g23, g24, g25, g26, g27, g28, g29, g30])), (a1, .inl (cB31, 900, .inl f32))]) [0, 1] rfl
                        have hD9 := hD.sub (ws' := [(a0, .inr (9, [g2, g3, g4, g5, g6, .ref a1, g7, .int k8, .int z14274, .int 0, .int z11434, .int k12, g13, g14, .long j14275, g16, g17, g18, g19, g20, g21, g22, g23, g24, g25, g26, g27, g28, g29, g30])), (a1, .inl (cB31, 900, .inl f32))]) [0, 1] (by decide) rfl
                        have hK9 := hK.sub (tys' := []) [] rfl
                        exact W.vret hx hb hr (fun t ht hW => ⟨⟨(z14274, 0, z11434, k12, j14275), rfl, ⟨(by first | trivial | omega | (simp only [ltv_0]; omega)), (by first | trivial | omega | (simp only [ltv_0]; omega))⟩, by rw [ht]; exact hP9, va_K.moved hW.alike hK9, hD9⟩, hS.F ht⟩) hS.2.2 dX12_goesOn_265
                      · simp only [fa_lt, fa_le, fa_eq, ltv_0, ltv_8] at c14294
                        refine lv_aload_n hx hb dX12_goesOn_153 rfl (lv_at hl 2 rfl) ?_
                        refine lv_iconst (v := 2) hx hb dX12_goesOn_154 (by decide) ?_
                        refine va_put (D := (dC, dI)) (ci := 9) (v := .int 2) (ty := .int) (C := RX12) (T := TX12) (N := 30) hx hb hts iX12_goesOn_X12 tyX12 tyX12_ok nmX12 hown hK hP hD hS 0 rfl rfl 9 (by decide) (hts (.fieldLink RX12 68 "HookPierModel" "sort" "I") (List.mem_of_getElem? (i := 1) rfl)) (fun _ h9 => h9) rfl (by decide +kernel) rfl rfl (Nat.le_of_ble_eq_true rfl) dX12_goesOn_155 (fun H locs hP hD hS => ?_)
                        have hP : va_P (dC, dI) vwCl [(a0, .inr (9, [g2, g3, g4, g5, g6, .ref a1, g7, .int k8, .int z14274, .int 2, .int z11434, .int k12, g13, g14, .long j14275, g16, g17, g18, g19, g20, g21, g22, g23, g24, g25, g26, g27, g28, g29, g30])), (a1, .inl (cB31, 900, .inl f32))] H := hP
                        have hD : va_D A [(a0, .inr (9, [g2, g3, g4, g5, g6, .ref a1, g7, .int k8, .int z14274, .int 2, .int z11434, .int k12, g13, g14, .long j14275, g16, g17, g18, g19, g20, g21, g22, g23, g24, g25, g26, g27, g28, g29, g30])), (a1, .inl (cB31, 900, .inl f32))] := hD
                        refine lv_goto (tgt := 265) hx hb dX12_goesOn_158 (by decide) ?_
                        have hP9 := hP.sub (ws' := [(a0, .inr (9, [g2, g3, g4, g5, g6, .ref a1, g7, .int k8, .int z14274, .int 2, .int z11434, .int k12, g13, g14, .long j14275, g16, g17, g18, g19, g20, g21, g22, g23, g24, g25, g26, g27, g28, g29, g30])), (a1, .inl (cB31, 900, .inl f32))]) [0, 1] rfl
                        have hD9 := hD.sub (ws' := [(a0, .inr (9, [g2, g3, g4, g5, g6, .ref a1, g7, .int k8, .int z14274, .int 2, .int z11434, .int k12, g13, g14, .long j14275, g16, g17, g18, g19, g20, g21, g22, g23, g24, g25, g26, g27, g28, g29, g30])), (a1, .inl (cB31, 900, .inl f32))]) [0, 1] (by decide) rfl
                        have hK9 := hK.sub (tys' := []) [] rfl
                        exact W.vret hx hb hr (fun t ht hW => ⟨⟨(z14274, 2, z11434, k12, j14275), rfl, ⟨(by first | trivial | omega | (simp only [ltv_0, ltv_2]; omega)), (by first | trivial | omega | (simp only [ltv_0, ltv_2]; omega))⟩, by rw [ht]; exact hP9, va_K.moved hW.alike hK9, hD9⟩, hS.F ht⟩) hS.2.2 dX12_goesOn_265
                    · refine lv_if_eq (tgt := 147) hx hb dX12_goesOn_95 (by decide) (fun c14295 => absurd c14295 (by decide)) (fun _ => ?_)
                      refine lv_iload_n hx hb dX12_goesOn_98 rfl (lv_at hl 0 rfl) ?_
                      refine lv_bipush (v := 8) hx hb dX12_goesOn_99 (by decide) ?_
                      refine lv_icmp_ge (tgt := 131) hx hb dX12_goesOn_101 (by decide) (fun c14296 => ?_) (fun c14296 => ?_)
                      · simp only [fa_lt, fa_le, fa_eq, ltv_0, ltv_8] at c14296
                        obtain ⟨z14297, ez14297⟩ : ∃ y : Int32, y = z14273 + 1 := ⟨_, rfl⟩
                        refine lv_iinc (v := z14297) (lv' := [(2, .int z14297), (1, .int z11441), (0, .ref a0)]) hx hb dX12_goesOn_131 hl (k := 0) rfl (by rw [ez14297]; rfl) (by decide) rfl (fun ls hl => ?_)
                        refine lv_aload_n hx hb dX12_goesOn_134 rfl (lv_at hl 2 rfl) ?_
                        refine lv_dup hx hb dX12_goesOn_135 rfl ?_
                        refine va_get (D := (dC, dI)) (ci := 9) (v := .int z14274) (C := RX12) (T := TX12) (N := 30) hx hb hts iX12_goesOn_X12 hown hK hP 0 rfl rfl 8 (by decide) (hts (.fieldLink RX12 71 "HookPierModel" "spot" "I") (List.mem_of_getElem? (i := 2) rfl)) (fun _ h9 => h9) rfl dX12_goesOn_136 ?_
                        refine lv_iconst (v := 1) hx hb dX12_goesOn_139 (by decide) ?_
                        refine lv_iadd hx hb dX12_goesOn_140 ?_
                        refine lv_topi (fun z14298 ez14298 => ?_)
                        have tz14298 : z14298.toInt = z14274.toInt + 1 := by rw [ez14298]; rw [iadd_t (by first | omega | (simp only [ltv_0, ltv_1]; omega)) (by first | omega | (simp only [ltv_0, ltv_1]; omega))]; first | done | (simp only [ltv_0, ltv_1])
                        refine va_put (D := (dC, dI)) (ci := 9) (v := .int z14298) (ty := .int) (C := RX12) (T := TX12) (N := 30) hx hb hts iX12_goesOn_X12 tyX12 tyX12_ok nmX12 hown hK hP hD hS 0 rfl rfl 8 (by decide) (hts (.fieldLink RX12 71 "HookPierModel" "spot" "I") (List.mem_of_getElem? (i := 2) rfl)) (fun _ h9 => h9) rfl (by decide +kernel) rfl rfl (Nat.le_of_ble_eq_true rfl) dX12_goesOn_141 (fun H locs hP hD hS => ?_)
                        have hP : va_P (dC, dI) vwCl [(a0, .inr (9, [g2, g3, g4, g5, g6, .ref a1, g7, .int k8, .int z14298, .int 0, .int z11434, .int k12, g13, g14, .long j14275, g16, g17, g18, g19, g20, g21, g22, g23, g24, g25, g26, g27, g28, g29, g30])), (a1, .inl (cB31, 900, .inl f32))] H := hP
                        have hD : va_D A [(a0, .inr (9, [g2, g3, g4, g5, g6, .ref a1, g7, .int k8, .int z14298, .int 0, .int z11434, .int k12, g13, g14, .long j14275, g16, g17, g18, g19, g20, g21, g22, g23, g24, g25, g26, g27, g28, g29, g30])), (a1, .inl (cB31, 900, .inl f32))] := hD
                        refine lv_goto (tgt := 84) hx hb dX12_goesOn_144 (by decide) ?_
                        exact ih84 z14297 z14298 j14275 H locs ls (by first | omega | (simp only [ltv_0]; omega)) (by first | omega | (simp only [ltv_0]; omega)) hP hD hS (lv_sub hl [0, 1, 2] rfl)
                      · simp only [fa_lt, fa_le, fa_eq, ltv_0, ltv_8] at c14296
                        refine lv_aload_n hx hb dX12_goesOn_104 rfl (lv_at hl 2 rfl) ?_
                        refine lv_ldc2 hx hb hown (hts (.constantLong RX12 62 (32)) (List.mem_of_getElem? (i := 19) rfl)) dX12_goesOn_105 ?_
                        refine lv_aload_n hx hb dX12_goesOn_108 rfl (lv_at hl 2 rfl) ?_
                        refine va_get (D := (dC, dI)) (ci := 9) (v := .long j14275) (C := RX12) (T := TX12) (N := 30) hx hb hts iX12_goesOn_X12 hown hK hP 0 rfl rfl 14 (by decide) (hts (.fieldLink RX12 84 "HookPierModel" "word" "J") (List.mem_of_getElem? (i := 18) rfl)) (fun _ h9 => h9) rfl dX12_goesOn_109 ?_
                        refine lv_lmul hx hb dX12_goesOn_112 ?_
                        refine lv_topl (fun z14299 ez14299 => ?_)
                        clear ez14299
                        refine lv_aload_n hx hb dX12_goesOn_113 rfl (lv_at hl 2 rfl) ?_
                        refine lv_aload_n hx hb dX12_goesOn_114 rfl (lv_at hl 2 rfl) ?_
                        refine va_get (D := (dC, dI)) (ci := 9) (v := .int z14274) (C := RX12) (T := TX12) (N := 30) hx hb hts iX12_goesOn_X12 hown hK hP 0 rfl rfl 8 (by decide) (hts (.fieldLink RX12 71 "HookPierModel" "spot" "I") (List.mem_of_getElem? (i := 2) rfl)) (fun _ h9 => h9) rfl dX12_goesOn_115 ?_
                        refine cl_i (wc := [(a0, .inr (9, [g2, g3, g4, g5, g6, .ref a1, g7, .int k8, .int z14274, .int 0, .int z11434, .int k12, g13, g14, .long j14275, g16, g17, g18, g19, g20, g21, g22, g23, g24, g25, g26, g27, g28, g29, g30])), (a1, .inl (cB31, 900, .inl f32))]) (wr := []) (va_runV (As := [.int z14274]) (rest := [.long z14299, .ref a0]) ⟨hx, hb, hml, hown, hts⟩ (kX12_byteAt l dC dI a0 z14274 a1 (g2) (g3) (g4) (g5) (g6) (g7) k8 (.int z14274) (.int 0) (.int z11434) (.int k12) (g13) (g14) (.long j14275) (g16) (g17) (g18) (g19) (g20) (g21) (g22) (g23) (g24) (g25) (g26) (g27) (g28) (g29) (g30) cB31 f32 (by first | omega | (simp only [ltv_0]; omega)) (by first | omega | (simp only [ltv_0]; omega)) H.size) (cwV 1 hts gX12_goesOn_0 rfl rfl rfl (by decide +kernel) ⟨Nat.le_of_ble_eq_true rfl, Nat.le_of_ble_eq_true rfl⟩) (PV (hP.sub (ws' := [(a0, .inr (9, [g2, g3, g4, g5, g6, .ref a1, g7, .int k8, .int z14274, .int 0, .int z11434, .int k12, g13, g14, .long j14275, g16, g17, g18, g19, g20, g21, g22, g23, g24, g25, g26, g27, g28, g29, g30])), (a1, .inl (cB31, 900, .inl f32))]) [0, 1] rfl) (hK.sub (tys' := [(cB31, .byte)]) [0] rfl) (hD.sub (ws' := [(a0, .inr (9, [g2, g3, g4, g5, g6, .ref a1, g7, .int k8, .int z14274, .int 0, .int z11434, .int k12, g13, g14, .long j14275, g16, g17, g18, g19, g20, g21, g22, g23, g24, g25, g26, g27, g28, g29, g30])), (a1, .inl (cB31, 900, .inl f32))]) [0, 1] (by decide) rfl) hN 0 rfl rfl) rfl rfl hl.1 rfl (lv_room (Nat.le_of_ble_eq_true rfl)) dX12_goesOn_118 ⟨Nat.le_of_ble_eq_true rfl, Nat.le_of_ble_eq_true rfl⟩) hP hD hK hS hA [0, 1] [] rfl rfl (by decide) (by decide) (fun z14300 _u H locs hw hP hD hK hS => ?_)
                        have b14301 := hw
                        have hP : va_P (dC, dI) vwCl [(a0, .inr (9, [g2, g3, g4, g5, g6, .ref a1, g7, .int k8, .int z14274, .int 0, .int z11434, .int k12, g13, g14, .long j14275, g16, g17, g18, g19, g20, g21, g22, g23, g24, g25, g26, g27, g28, g29, g30])), (a1, .inl (cB31, 900, .inl f32))] H := hP
                        have hD : va_D A [(a0, .inr (9, [g2, g3, g4, g5, g6, .ref a1, g7, .int k8, .int z14274, .int 0, .int z11434, .int k12, g13, g14, .long j14275, g16, g17, g18, g19, g20, g21, g22, g23, g24, g25, g26, g27, g28, g29, g30])), (a1, .inl (cB31, 900, .inl f32))] := hD
                        have hK : va_K (dC, dI) vwCl [(cB31, .byte)] s := hK
                        rcases hw with rfl | ⟨h14303, h14303_0⟩
                        · refine lv_bipush (v := 97) hx hb dX12_goesOn_121 (by decide) ?_
                          refine lv_isub hx hb dX12_goesOn_123 ?_
                          refine lv_topi (fun z14304 ez14304 => ?_)
                          obtain rfl : z14304 = (-98) := ez14304.trans (by decide)
                          refine lv_iconst (v := 1) hx hb dX12_goesOn_124 (by decide) ?_
                          refine lv_iadd hx hb dX12_goesOn_125 ?_
                          refine lv_topi (fun z14305 ez14305 => ?_)
                          obtain rfl : z14305 = (-97) := ez14305.trans (by decide)
                          refine lv_i2l (v := (-97)) hx hb dX12_goesOn_126 (by decide) ?_
                          refine lv_ladd hx hb dX12_goesOn_127 ?_
                          refine lv_topl (fun z14306 ez14306 => ?_)
                          clear ez14306
                          refine va_put (D := (dC, dI)) (ci := 9) (v := .long z14306) (ty := .long) (C := RX12) (T := TX12) (N := 30) hx hb hts iX12_goesOn_X12 tyX12 tyX12_ok nmX12 hown hK hP hD hS 0 rfl rfl 14 (by decide) (hts (.fieldLink RX12 84 "HookPierModel" "word" "J") (List.mem_of_getElem? (i := 18) rfl)) (fun _ h9 => h9) rfl (by decide +kernel) rfl rfl (Nat.le_of_ble_eq_true rfl) dX12_goesOn_128 (fun H locs hP hD hS => ?_)
                          have hP : va_P (dC, dI) vwCl [(a0, .inr (9, [g2, g3, g4, g5, g6, .ref a1, g7, .int k8, .int z14274, .int 0, .int z11434, .int k12, g13, g14, .long z14306, g16, g17, g18, g19, g20, g21, g22, g23, g24, g25, g26, g27, g28, g29, g30])), (a1, .inl (cB31, 900, .inl f32))] H := hP
                          have hD : va_D A [(a0, .inr (9, [g2, g3, g4, g5, g6, .ref a1, g7, .int k8, .int z14274, .int 0, .int z11434, .int k12, g13, g14, .long z14306, g16, g17, g18, g19, g20, g21, g22, g23, g24, g25, g26, g27, g28, g29, g30])), (a1, .inl (cB31, 900, .inl f32))] := hD
                          obtain ⟨z14307, ez14307⟩ : ∃ y : Int32, y = z14273 + 1 := ⟨_, rfl⟩
                          have rgz14307 := i32_rg z14273
                          have tz14307 : z14307.toInt = z14273.toInt + 1 := by rw [ez14307, iadd_t (by simp only [ltv_1]; omega) (by simp only [ltv_1]; omega)]; simp only [ltv_1]
                          refine lv_iinc (v := z14307) (lv' := [(2, .int z14307), (1, .int z11441), (0, .ref a0)]) hx hb dX12_goesOn_131 hl (k := 0) rfl (by rw [ez14307]; rfl) (by decide) rfl (fun ls hl => ?_)
                          refine lv_aload_n hx hb dX12_goesOn_134 rfl (lv_at hl 2 rfl) ?_
                          refine lv_dup hx hb dX12_goesOn_135 rfl ?_
                          refine va_get (D := (dC, dI)) (ci := 9) (v := .int z14274) (C := RX12) (T := TX12) (N := 30) hx hb hts iX12_goesOn_X12 hown hK hP 0 rfl rfl 8 (by decide) (hts (.fieldLink RX12 71 "HookPierModel" "spot" "I") (List.mem_of_getElem? (i := 2) rfl)) (fun _ h9 => h9) rfl dX12_goesOn_136 ?_
                          refine lv_iconst (v := 1) hx hb dX12_goesOn_139 (by decide) ?_
                          refine lv_iadd hx hb dX12_goesOn_140 ?_
                          refine lv_topi (fun z14308 ez14308 => ?_)
                          have tz14308 : z14308.toInt = z14274.toInt + 1 := by rw [ez14308]; rw [iadd_t (by first | omega | (simp only [ltv_0, ltv_1]; omega)) (by first | omega | (simp only [ltv_0, ltv_1]; omega))]; first | done | (simp only [ltv_0, ltv_1])
                          refine va_put (D := (dC, dI)) (ci := 9) (v := .int z14308) (ty := .int) (C := RX12) (T := TX12) (N := 30) hx hb hts iX12_goesOn_X12 tyX12 tyX12_ok nmX12 hown hK hP hD hS 0 rfl rfl 8 (by decide) (hts (.fieldLink RX12 71 "HookPierModel" "spot" "I") (List.mem_of_getElem? (i := 2) rfl)) (fun _ h9 => h9) rfl (by decide +kernel) rfl rfl (Nat.le_of_ble_eq_true rfl) dX12_goesOn_141 (fun H locs hP hD hS => ?_)
                          have hP : va_P (dC, dI) vwCl [(a0, .inr (9, [g2, g3, g4, g5, g6, .ref a1, g7, .int k8, .int z14308, .int 0, .int z11434, .int k12, g13, g14, .long z14306, g16, g17, g18, g19, g20, g21, g22, g23, g24, g25, g26, g27, g28, g29, g30])), (a1, .inl (cB31, 900, .inl f32))] H := hP
                          have hD : va_D A [(a0, .inr (9, [g2, g3, g4, g5, g6, .ref a1, g7, .int k8, .int z14308, .int 0, .int z11434, .int k12, g13, g14, .long z14306, g16, g17, g18, g19, g20, g21, g22, g23, g24, g25, g26, g27, g28, g29, g30])), (a1, .inl (cB31, 900, .inl f32))] := hD
                          refine lv_goto (tgt := 84) hx hb dX12_goesOn_144 (by decide) ?_
                          exact ih84 z14307 z14308 z14306 H locs ls (by first | omega | (simp only [ltv_0]; omega)) (by first | omega | (simp only [ltv_0]; omega)) hP hD hS (lv_sub hl [0, 1, 2] rfl)
                        · refine lv_bipush (v := 97) hx hb dX12_goesOn_121 (by decide) ?_
                          refine lv_isub hx hb dX12_goesOn_123 ?_
                          refine lv_topi (fun z14309 ez14309 => ?_)
                          have tz14309 : z14309.toInt = z14300.toInt - 97 := by rw [ez14309]; rw [isub_t (by first | omega | (simp only [ltv_0, ltv_97]; omega)) (by first | omega | (simp only [ltv_0, ltv_97]; omega))]; first | done | (simp only [ltv_0, ltv_97])
                          refine lv_iconst (v := 1) hx hb dX12_goesOn_124 (by decide) ?_
                          refine lv_iadd hx hb dX12_goesOn_125 ?_
                          refine lv_topi (fun z14310 ez14310 => ?_)
                          have tz14310 : z14310.toInt = z14309.toInt + 1 := by rw [ez14310]; rw [iadd_t (by first | omega | (simp only [ltv_0, ltv_1]; omega)) (by first | omega | (simp only [ltv_0, ltv_1]; omega))]; first | done | (simp only [ltv_0, ltv_1])
                          refine lv_i2l hx hb dX12_goesOn_126 rfl ?_
                          refine lv_topl (fun z14311 ez14311 => ?_)
                          clear ez14311
                          refine lv_ladd hx hb dX12_goesOn_127 ?_
                          refine lv_topl (fun z14312 ez14312 => ?_)
                          clear ez14312
                          refine va_put (D := (dC, dI)) (ci := 9) (v := .long z14312) (ty := .long) (C := RX12) (T := TX12) (N := 30) hx hb hts iX12_goesOn_X12 tyX12 tyX12_ok nmX12 hown hK hP hD hS 0 rfl rfl 14 (by decide) (hts (.fieldLink RX12 84 "HookPierModel" "word" "J") (List.mem_of_getElem? (i := 18) rfl)) (fun _ h9 => h9) rfl (by decide +kernel) rfl rfl (Nat.le_of_ble_eq_true rfl) dX12_goesOn_128 (fun H locs hP hD hS => ?_)
                          have hP : va_P (dC, dI) vwCl [(a0, .inr (9, [g2, g3, g4, g5, g6, .ref a1, g7, .int k8, .int z14274, .int 0, .int z11434, .int k12, g13, g14, .long z14312, g16, g17, g18, g19, g20, g21, g22, g23, g24, g25, g26, g27, g28, g29, g30])), (a1, .inl (cB31, 900, .inl f32))] H := hP
                          have hD : va_D A [(a0, .inr (9, [g2, g3, g4, g5, g6, .ref a1, g7, .int k8, .int z14274, .int 0, .int z11434, .int k12, g13, g14, .long z14312, g16, g17, g18, g19, g20, g21, g22, g23, g24, g25, g26, g27, g28, g29, g30])), (a1, .inl (cB31, 900, .inl f32))] := hD
                          obtain ⟨z14313, ez14313⟩ : ∃ y : Int32, y = z14273 + 1 := ⟨_, rfl⟩
                          have rgz14313 := i32_rg z14273
                          have tz14313 : z14313.toInt = z14273.toInt + 1 := by rw [ez14313, iadd_t (by simp only [ltv_1]; omega) (by simp only [ltv_1]; omega)]; simp only [ltv_1]
                          refine lv_iinc (v := z14313) (lv' := [(2, .int z14313), (1, .int z11441), (0, .ref a0)]) hx hb dX12_goesOn_131 hl (k := 0) rfl (by rw [ez14313]; rfl) (by decide) rfl (fun ls hl => ?_)
                          refine lv_aload_n hx hb dX12_goesOn_134 rfl (lv_at hl 2 rfl) ?_
                          refine lv_dup hx hb dX12_goesOn_135 rfl ?_
                          refine va_get (D := (dC, dI)) (ci := 9) (v := .int z14274) (C := RX12) (T := TX12) (N := 30) hx hb hts iX12_goesOn_X12 hown hK hP 0 rfl rfl 8 (by decide) (hts (.fieldLink RX12 71 "HookPierModel" "spot" "I") (List.mem_of_getElem? (i := 2) rfl)) (fun _ h9 => h9) rfl dX12_goesOn_136 ?_
                          refine lv_iconst (v := 1) hx hb dX12_goesOn_139 (by decide) ?_
                          refine lv_iadd hx hb dX12_goesOn_140 ?_
                          refine lv_topi (fun z14314 ez14314 => ?_)
                          have tz14314 : z14314.toInt = z14274.toInt + 1 := by rw [ez14314]; rw [iadd_t (by first | omega | (simp only [ltv_0, ltv_1]; omega)) (by first | omega | (simp only [ltv_0, ltv_1]; omega))]; first | done | (simp only [ltv_0, ltv_1])
                          refine va_put (D := (dC, dI)) (ci := 9) (v := .int z14314) (ty := .int) (C := RX12) (T := TX12) (N := 30) hx hb hts iX12_goesOn_X12 tyX12 tyX12_ok nmX12 hown hK hP hD hS 0 rfl rfl 8 (by decide) (hts (.fieldLink RX12 71 "HookPierModel" "spot" "I") (List.mem_of_getElem? (i := 2) rfl)) (fun _ h9 => h9) rfl (by decide +kernel) rfl rfl (Nat.le_of_ble_eq_true rfl) dX12_goesOn_141 (fun H locs hP hD hS => ?_)
                          have hP : va_P (dC, dI) vwCl [(a0, .inr (9, [g2, g3, g4, g5, g6, .ref a1, g7, .int k8, .int z14314, .int 0, .int z11434, .int k12, g13, g14, .long z14312, g16, g17, g18, g19, g20, g21, g22, g23, g24, g25, g26, g27, g28, g29, g30])), (a1, .inl (cB31, 900, .inl f32))] H := hP
                          have hD : va_D A [(a0, .inr (9, [g2, g3, g4, g5, g6, .ref a1, g7, .int k8, .int z14314, .int 0, .int z11434, .int k12, g13, g14, .long z14312, g16, g17, g18, g19, g20, g21, g22, g23, g24, g25, g26, g27, g28, g29, g30])), (a1, .inl (cB31, 900, .inl f32))] := hD
                          refine lv_goto (tgt := 84) hx hb dX12_goesOn_144 (by decide) ?_
                          exact ih84 z14313 z14314 z14312 H locs ls (by first | omega | (simp only [ltv_0]; omega)) (by first | omega | (simp only [ltv_0]; omega)) hP hD hS (lv_sub hl [0, 1, 2] rfl)
              exact L84_14276 901 (0) z11434 (0) H _ ls (by first | omega | (simp only [ltv_0]; omega)) (by first | omega | (simp only [ltv_0]; omega)) hP hD hS (lv_sub hl [0, 1, 2] rfl)
        · refine lv_bipush (v := 32) hx hb dX12_goesOn_17 (by decide) ?_
          refine lv_icmp_ne (tgt := 35) hx hb dX12_goesOn_19 (by decide) (fun c14315 => ?_) (fun c14315 => ?_)
          · simp only [fa_lt, fa_le, fa_eq, ltv_0, ltv_32] at c14315
            refine lv_aload_n hx hb dX12_goesOn_35 rfl (lv_at hl 0 rfl) ?_
            refine lv_aload_n hx hb dX12_goesOn_36 rfl (lv_at hl 0 rfl) ?_
            refine va_get (D := (dC, dI)) (ci := 9) (v := .int z11434) (C := RX12) (T := TX12) (N := 30) hx hb hts iX12_goesOn_X12 hown hK hP 0 rfl rfl 8 (by decide) (hts (.fieldLink RX12 71 "HookPierModel" "spot" "I") (List.mem_of_getElem? (i := 2) rfl)) (fun _ h9 => h9) rfl dX12_goesOn_37 ?_
            refine va_put (D := (dC, dI)) (ci := 9) (v := .int z11434) (ty := .int) (C := RX12) (T := TX12) (N := 30) hx hb hts iX12_goesOn_X12 tyX12 tyX12_ok nmX12 hown hK hP hD hS 0 rfl rfl 10 (by decide) (hts (.fieldLink RX12 77 "HookPierModel" "place" "I") (List.mem_of_getElem? (i := 10) rfl)) (fun _ h9 => h9) rfl (by decide +kernel) rfl rfl (Nat.le_of_ble_eq_true rfl) dX12_goesOn_40 (fun H locs hP hD hS => ?_)
            have hP : va_P (dC, dI) vwCl [(a0, .inr (9, [g2, g3, g4, g5, g6, .ref a1, g7, .int k8, .int z11434, .int k10, .int z11434, .int k12, g13, g14, .long j15, g16, g17, g18, g19, g20, g21, g22, g23, g24, g25, g26, g27, g28, g29, g30])), (a1, .inl (cB31, 900, .inl f32))] H := hP
            have hD : va_D A [(a0, .inr (9, [g2, g3, g4, g5, g6, .ref a1, g7, .int k8, .int z11434, .int k10, .int z11434, .int k12, g13, g14, .long j15, g16, g17, g18, g19, g20, g21, g22, g23, g24, g25, g26, g27, g28, g29, g30])), (a1, .inl (cB31, 900, .inl f32))] := hD
            refine lv_aload_n hx hb dX12_goesOn_43 rfl (lv_at hl 0 rfl) ?_
            refine lv_iconst (v := 0) hx hb dX12_goesOn_44 (by decide) ?_
            refine va_put (D := (dC, dI)) (ci := 9) (v := .int 0) (ty := .int) (C := RX12) (T := TX12) (N := 30) hx hb hts iX12_goesOn_X12 tyX12 tyX12_ok nmX12 hown hK hP hD hS 0 rfl rfl 9 (by decide) (hts (.fieldLink RX12 68 "HookPierModel" "sort" "I") (List.mem_of_getElem? (i := 1) rfl)) (fun _ h9 => h9) rfl (by decide +kernel) rfl rfl (Nat.le_of_ble_eq_true rfl) dX12_goesOn_45 (fun H locs hP hD hS => ?_)
            have hP : va_P (dC, dI) vwCl [(a0, .inr (9, [g2, g3, g4, g5, g6, .ref a1, g7, .int k8, .int z11434, .int 0, .int z11434, .int k12, g13, g14, .long j15, g16, g17, g18, g19, g20, g21, g22, g23, g24, g25, g26, g27, g28, g29, g30])), (a1, .inl (cB31, 900, .inl f32))] H := hP
            have hD : va_D A [(a0, .inr (9, [g2, g3, g4, g5, g6, .ref a1, g7, .int k8, .int z11434, .int 0, .int z11434, .int k12, g13, g14, .long j15, g16, g17, g18, g19, g20, g21, g22, g23, g24, g25, g26, g27, g28, g29, g30])), (a1, .inl (cB31, 900, .inl f32))] := hD
            refine lv_aload_n hx hb dX12_goesOn_48 rfl (lv_at hl 0 rfl) ?_
            refine lv_aload_n hx hb dX12_goesOn_49 rfl (lv_at hl 0 rfl) ?_
            refine va_get (D := (dC, dI)) (ci := 9) (v := .int z11434) (C := RX12) (T := TX12) (N := 30) hx hb hts iX12_goesOn_X12 hown hK hP 0 rfl rfl 8 (by decide) (hts (.fieldLink RX12 71 "HookPierModel" "spot" "I") (List.mem_of_getElem? (i := 2) rfl)) (fun _ h9 => h9) rfl dX12_goesOn_50 ?_
            refine cl_i (wc := [(a0, .inr (9, [g2, g3, g4, g5, g6, .ref a1, g7, .int k8, .int z11434, .int 0, .int z11434, .int k12, g13, g14, .long j15, g16, g17, g18, g19, g20, g21, g22, g23, g24, g25, g26, g27, g28, g29, g30])), (a1, .inl (cB31, 900, .inl f32))]) (wr := []) (va_runV (As := [.int z11434]) (rest := []) ⟨hx, hb, hml, hown, hts⟩ (kX12_byteAt l dC dI a0 z11434 a1 (g2) (g3) (g4) (g5) (g6) (g7) k8 (.int z11434) (.int 0) (.int z11434) (.int k12) (g13) (g14) (.long j15) (g16) (g17) (g18) (g19) (g20) (g21) (g22) (g23) (g24) (g25) (g26) (g27) (g28) (g29) (g30) cB31 f32 (by first | omega | (simp only [ltv_0]; omega)) (by first | omega | (simp only [ltv_0]; omega)) H.size) (cwV 1 hts gX12_goesOn_0 rfl rfl rfl (by decide +kernel) ⟨Nat.le_of_ble_eq_true rfl, Nat.le_of_ble_eq_true rfl⟩) (PV (hP.sub (ws' := [(a0, .inr (9, [g2, g3, g4, g5, g6, .ref a1, g7, .int k8, .int z11434, .int 0, .int z11434, .int k12, g13, g14, .long j15, g16, g17, g18, g19, g20, g21, g22, g23, g24, g25, g26, g27, g28, g29, g30])), (a1, .inl (cB31, 900, .inl f32))]) [0, 1] rfl) (hK.sub (tys' := [(cB31, .byte)]) [0] rfl) (hD.sub (ws' := [(a0, .inr (9, [g2, g3, g4, g5, g6, .ref a1, g7, .int k8, .int z11434, .int 0, .int z11434, .int k12, g13, g14, .long j15, g16, g17, g18, g19, g20, g21, g22, g23, g24, g25, g26, g27, g28, g29, g30])), (a1, .inl (cB31, 900, .inl f32))]) [0, 1] (by decide) rfl) hN 0 rfl rfl) rfl rfl hl.1 rfl (lv_room (Nat.le_of_ble_eq_true rfl)) dX12_goesOn_53 ⟨Nat.le_of_ble_eq_true rfl, Nat.le_of_ble_eq_true rfl⟩) hP hD hK hS hA [0, 1] [] rfl rfl (by decide) (by decide) (fun z14316 _u H locs hw hP hD hK hS => ?_)
            have b14317 := hw
            have hP : va_P (dC, dI) vwCl [(a0, .inr (9, [g2, g3, g4, g5, g6, .ref a1, g7, .int k8, .int z11434, .int 0, .int z11434, .int k12, g13, g14, .long j15, g16, g17, g18, g19, g20, g21, g22, g23, g24, g25, g26, g27, g28, g29, g30])), (a1, .inl (cB31, 900, .inl f32))] H := hP
            have hD : va_D A [(a0, .inr (9, [g2, g3, g4, g5, g6, .ref a1, g7, .int k8, .int z11434, .int 0, .int z11434, .int k12, g13, g14, .long j15, g16, g17, g18, g19, g20, g21, g22, g23, g24, g25, g26, g27, g28, g29, g30])), (a1, .inl (cB31, 900, .inl f32))] := hD
            have hK : va_K (dC, dI) vwCl [(cB31, .byte)] s := hK
            rcases hw with rfl | ⟨h14319, h14319_0⟩
            · refine lv_istore_n (lv' := [(1, .int (-1)), (0, .ref a0)]) hx hb dX12_goesOn_56 rfl hl (by decide) rfl (fun ls hl => ?_)
              refine lv_iconst (v := 0) hx hb dX12_goesOn_57 (by decide) ?_
              refine lv_istore_n (lv' := [(2, .int 0), (1, .int (-1)), (0, .ref a0)]) hx hb dX12_goesOn_58 rfl hl (by decide) rfl (fun ls hl => ?_)
              refine lv_iload_n hx hb dX12_goesOn_59 rfl (lv_at hl 1 rfl) ?_
              refine lv_iconst (v := (-1)) hx hb dX12_goesOn_60 (by decide) ?_
              refine lv_icmp_ne (tgt := 72) hx hb dX12_goesOn_61 (by decide) (fun c14320 => absurd c14320 (by decide)) (fun _ => ?_)
              refine lv_aload_n hx hb dX12_goesOn_64 rfl (lv_at hl 2 rfl) ?_
              refine lv_iconst (v := 1) hx hb dX12_goesOn_65 (by decide) ?_
              refine va_put (D := (dC, dI)) (ci := 9) (v := .int 1) (ty := .int) (C := RX12) (T := TX12) (N := 30) hx hb hts iX12_goesOn_X12 tyX12 tyX12_ok nmX12 hown hK hP hD hS 0 rfl rfl 9 (by decide) (hts (.fieldLink RX12 68 "HookPierModel" "sort" "I") (List.mem_of_getElem? (i := 1) rfl)) (fun _ h9 => h9) rfl (by decide +kernel) rfl rfl (Nat.le_of_ble_eq_true rfl) dX12_goesOn_66 (fun H locs hP hD hS => ?_)
              have hP : va_P (dC, dI) vwCl [(a0, .inr (9, [g2, g3, g4, g5, g6, .ref a1, g7, .int k8, .int z11434, .int 1, .int z11434, .int k12, g13, g14, .long j15, g16, g17, g18, g19, g20, g21, g22, g23, g24, g25, g26, g27, g28, g29, g30])), (a1, .inl (cB31, 900, .inl f32))] H := hP
              have hD : va_D A [(a0, .inr (9, [g2, g3, g4, g5, g6, .ref a1, g7, .int k8, .int z11434, .int 1, .int z11434, .int k12, g13, g14, .long j15, g16, g17, g18, g19, g20, g21, g22, g23, g24, g25, g26, g27, g28, g29, g30])), (a1, .inl (cB31, 900, .inl f32))] := hD
              refine lv_goto (tgt := 265) hx hb dX12_goesOn_69 (by decide) ?_
              have hP9 := hP.sub (ws' := [(a0, .inr (9, [g2, g3, g4, g5, g6, .ref a1, g7, .int k8, .int z11434, .int 1, .int z11434, .int k12, g13, g14, .long j15, g16, g17, g18, g19, g20, g21, g22, g23, g24, g25, g26, g27, g28, g29, g30])), (a1, .inl (cB31, 900, .inl f32))]) [0, 1] rfl
              have hD9 := hD.sub (ws' := [(a0, .inr (9, [g2, g3, g4, g5, g6, .ref a1, g7, .int k8, .int z11434, .int 1, .int z11434, .int k12, g13, g14, .long j15, g16, g17, g18, g19, g20, g21, g22, g23, g24, g25, g26, g27, g28, g29, g30])), (a1, .inl (cB31, 900, .inl f32))]) [0, 1] (by decide) rfl
              have hK9 := hK.sub (tys' := []) [] rfl
              exact W.vret hx hb hr (fun t ht hW => ⟨⟨(z11434, 1, z11434, k12, j15), rfl, ⟨(by first | trivial | omega | (simp only [ltv_0, ltv_1]; omega)), (by first | trivial | omega | (simp only [ltv_0, ltv_1]; omega))⟩, by rw [ht]; exact hP9, va_K.moved hW.alike hK9, hD9⟩, hS.F ht⟩) hS.2.2 dX12_goesOn_265
            · refine lv_istore_n (lv' := [(1, .int z14316), (0, .ref a0)]) hx hb dX12_goesOn_56 rfl hl (by decide) rfl (fun ls hl => ?_)
              refine lv_iconst (v := 0) hx hb dX12_goesOn_57 (by decide) ?_
              refine lv_istore_n (lv' := [(2, .int 0), (1, .int z14316), (0, .ref a0)]) hx hb dX12_goesOn_58 rfl hl (by decide) rfl (fun ls hl => ?_)
              refine lv_iload_n hx hb dX12_goesOn_59 rfl (lv_at hl 1 rfl) ?_
              refine lv_iconst (v := (-1)) hx hb dX12_goesOn_60 (by decide) ?_
              refine lv_icmp_ne (tgt := 72) hx hb dX12_goesOn_61 (by decide) (fun _ => ?_) (fun c14321 => False.elim (by simp only [fa_lt, fa_le, fa_eq, ltv_m1, ltv_0] at c14321; omega))
              refine lv_iload_n hx hb dX12_goesOn_72 rfl (lv_at hl 1 rfl) ?_
              refine cl_i (wc := []) (wr := [(a0, .inr (9, [g2, g3, g4, g5, g6, .ref a1, g7, .int k8, .int z11434, .int 0, .int z11434, .int k12, g13, g14, .long j15, g16, g17, g18, g19, g20, g21, g22, g23, g24, g25, g26, g27, g28, g29, g30])), (a1, .inl (cB31, 900, .inl f32))]) (va_runS (As := [.int z14316]) (rest := []) ⟨hx, hb, hml, hown, hts⟩ (kX12_isLetter l dC dI z14316  H.size) (va_cwS 1 hts gX12_goesOn_1 rfl rfl rfl (by decide +kernel) ⟨Nat.le_of_ble_eq_true rfl, Nat.le_of_ble_eq_true rfl⟩) (PS (hP.sub (ws' := []) [] rfl) (hK.sub (tys' := []) [] rfl) (hD.sub (ws' := []) [] (by decide) rfl) hN) rfl rfl hl.1 rfl (lv_room (Nat.le_of_ble_eq_true rfl)) dX12_goesOn_73 ⟨Nat.le_of_ble_eq_true rfl, Nat.le_of_ble_eq_true rfl⟩) hP hD hK hS hA [] [0, 1] rfl rfl (by decide) (by decide) (fun z14322 _u H locs hw hP hD hK hS => ?_)
              have b14323 := hw
              have hP : va_P (dC, dI) vwCl [(a0, .inr (9, [g2, g3, g4, g5, g6, .ref a1, g7, .int k8, .int z11434, .int 0, .int z11434, .int k12, g13, g14, .long j15, g16, g17, g18, g19, g20, g21, g22, g23, g24, g25, g26, g27, g28, g29, g30])), (a1, .inl (cB31, 900, .inl f32))] H := hP
              have hD : va_D A [(a0, .inr (9, [g2, g3, g4, g5, g6, .ref a1, g7, .int k8, .int z11434, .int 0, .int z11434, .int k12, g13, g14, .long j15, g16, g17, g18, g19, g20, g21, g22, g23, g24, g25, g26, g27, g28, g29, g30])), (a1, .inl (cB31, 900, .inl f32))] := hD
              have hK : va_K (dC, dI) vwCl [(cB31, .byte)] s := hK
              rcases hw with rfl | ⟨rfl, h14324, h14325, h14326⟩
              · refine lv_if_eq (tgt := 161) hx hb dX12_goesOn_76 (by decide) (fun _ => ?_) (fun c14327 => absurd c14327 (by decide))
                refine lv_iload_n hx hb dX12_goesOn_161 rfl (lv_at hl 1 rfl) ?_
                refine cl_i (wc := []) (wr := [(a0, .inr (9, [g2, g3, g4, g5, g6, .ref a1, g7, .int k8, .int z11434, .int 0, .int z11434, .int k12, g13, g14, .long j15, g16, g17, g18, g19, g20, g21, g22, g23, g24, g25, g26, g27, g28, g29, g30])), (a1, .inl (cB31, 900, .inl f32))]) (va_runS (As := [.int z14316]) (rest := []) ⟨hx, hb, hml, hown, hts⟩ (kX12_isDigit l dC dI z14316  H.size) (va_cwS 1 hts gX12_goesOn_2 rfl rfl rfl (by decide +kernel) ⟨Nat.le_of_ble_eq_true rfl, Nat.le_of_ble_eq_true rfl⟩) (PS (hP.sub (ws' := []) [] rfl) (hK.sub (tys' := []) [] rfl) (hD.sub (ws' := []) [] (by decide) rfl) hN) rfl rfl hl.1 rfl (lv_room (Nat.le_of_ble_eq_true rfl)) dX12_goesOn_162 ⟨Nat.le_of_ble_eq_true rfl, Nat.le_of_ble_eq_true rfl⟩) hP hD hK hS hA [] [0, 1] rfl rfl (by decide) (by decide) (fun z14328 _u H locs hw hP hD hK hS => ?_)
                have b14329 := hw
                have hP : va_P (dC, dI) vwCl [(a0, .inr (9, [g2, g3, g4, g5, g6, .ref a1, g7, .int k8, .int z11434, .int 0, .int z11434, .int k12, g13, g14, .long j15, g16, g17, g18, g19, g20, g21, g22, g23, g24, g25, g26, g27, g28, g29, g30])), (a1, .inl (cB31, 900, .inl f32))] H := hP
                have hD : va_D A [(a0, .inr (9, [g2, g3, g4, g5, g6, .ref a1, g7, .int k8, .int z11434, .int 0, .int z11434, .int k12, g13, g14, .long j15, g16, g17, g18, g19, g20, g21, g22, g23, g24, g25, g26, g27, g28, g29, g30])), (a1, .inl (cB31, 900, .inl f32))] := hD
                have hK : va_K (dC, dI) vwCl [(cB31, .byte)] s := hK
                rcases hw with rfl | ⟨rfl, h14330, h14331, h14332⟩
                · refine lv_if_eq (tgt := 244) hx hb dX12_goesOn_165 (by decide) (fun _ => ?_) (fun c14333 => absurd c14333 (by decide))
                  refine lv_iload_n hx hb dX12_goesOn_244 rfl (lv_at hl 1 rfl) ?_
                  refine lv_bipush (v := 59) hx hb dX12_goesOn_245 (by decide) ?_
                  refine lv_icmp_ne (tgt := 265) hx hb dX12_goesOn_247 (by decide) (fun c14334 => ?_) (fun c14334 => ?_)
                  · simp only [fa_lt, fa_le, fa_eq, ltv_0, ltv_59] at c14334
                    have hP9 := hP.sub (ws' := [(a0, .inr (9, [g2, g3, g4, g5, g6, .ref a1, g7, .int k8, .int z11434, .int 0, .int z11434, .int k12, g13, g14, .long j15, g16, g17, g18, g19, g20, g21, g22, g23, g24, g25, g26, g27, g28, g29, g30])), (a1, .inl (cB31, 900, .inl f32))]) [0, 1] rfl
                    have hD9 := hD.sub (ws' := [(a0, .inr (9, [g2, g3, g4, g5, g6, .ref a1, g7, .int k8, .int z11434, .int 0, .int z11434, .int k12, g13, g14, .long j15, g16, g17, g18, g19, g20, g21, g22, g23, g24, g25, g26, g27, g28, g29, g30])), (a1, .inl (cB31, 900, .inl f32))]) [0, 1] (by decide) rfl
                    have hK9 := hK.sub (tys' := []) [] rfl
                    exact W.vret hx hb hr (fun t ht hW => ⟨⟨(z11434, 0, z11434, k12, j15), rfl, ⟨(by first | trivial | omega | (simp only [ltv_0]; omega)), (by first | trivial | omega | (simp only [ltv_0]; omega))⟩, by rw [ht]; exact hP9, va_K.moved hW.alike hK9, hD9⟩, hS.F ht⟩) hS.2.2 dX12_goesOn_265
                  · simp only [fa_lt, fa_le, fa_eq, ltv_0, ltv_59] at c14334
                    refine lv_aload_n hx hb dX12_goesOn_250 rfl (lv_at hl 2 rfl) ?_
                    refine lv_iconst (v := 4) hx hb dX12_goesOn_251 (by decide) ?_
                    refine va_put (D := (dC, dI)) (ci := 9) (v := .int 4) (ty := .int) (C := RX12) (T := TX12) (N := 30) hx hb hts iX12_goesOn_X12 tyX12 tyX12_ok nmX12 hown hK hP hD hS 0 rfl rfl 9 (by decide) (hts (.fieldLink RX12 68 "HookPierModel" "sort" "I") (List.mem_of_getElem? (i := 1) rfl)) (fun _ h9 => h9) rfl (by decide +kernel) rfl rfl (Nat.le_of_ble_eq_true rfl) dX12_goesOn_252 (fun H locs hP hD hS => ?_)
                    have hP : va_P (dC, dI) vwCl [(a0, .inr (9, [g2, g3, g4, g5, g6, .ref a1, g7, .int k8, .int z11434, .int 4, .int z11434, .int k12, g13, g14, .long j15, g16, g17, g18, g19, g20, g21, g22, g23, g24, g25, g26, g27, g28, g29, g30])), (a1, .inl (cB31, 900, .inl f32))] H := hP
                    have hD : va_D A [(a0, .inr (9, [g2, g3, g4, g5, g6, .ref a1, g7, .int k8, .int z11434, .int 4, .int z11434, .int k12, g13, g14, .long j15, g16, g17, g18, g19, g20, g21, g22, g23, g24, g25, g26, g27, g28, g29, g30])), (a1, .inl (cB31, 900, .inl f32))] := hD
                    refine lv_aload_n hx hb dX12_goesOn_255 rfl (lv_at hl 2 rfl) ?_
                    refine lv_dup hx hb dX12_goesOn_256 rfl ?_
                    refine va_get (D := (dC, dI)) (ci := 9) (v := .int z11434) (C := RX12) (T := TX12) (N := 30) hx hb hts iX12_goesOn_X12 hown hK hP 0 rfl rfl 8 (by decide) (hts (.fieldLink RX12 71 "HookPierModel" "spot" "I") (List.mem_of_getElem? (i := 2) rfl)) (fun _ h9 => h9) rfl dX12_goesOn_257 ?_
                    refine lv_iconst (v := 1) hx hb dX12_goesOn_260 (by decide) ?_
                    refine lv_iadd hx hb dX12_goesOn_261 ?_
                    refine lv_topi (fun z14335 ez14335 => ?_)
                    have tz14335 : z14335.toInt = z11434.toInt + 1 := by rw [ez14335]; rw [iadd_t (by first | omega | (simp only [ltv_0, ltv_1]; omega)) (by first | omega | (simp only [ltv_0, ltv_1]; omega))]; first | done | (simp only [ltv_0, ltv_1])
                    refine va_put (D := (dC, dI)) (ci := 9) (v := .int z14335) (ty := .int) (C := RX12) (T := TX12) (N := 30) hx hb hts iX12_goesOn_X12 tyX12 tyX12_ok nmX12 hown hK hP hD hS 0 rfl rfl 8 (by decide) (hts (.fieldLink RX12 71 "HookPierModel" "spot" "I") (List.mem_of_getElem? (i := 2) rfl)) (fun _ h9 => h9) rfl (by decide +kernel) rfl rfl (Nat.le_of_ble_eq_true rfl) dX12_goesOn_262 (fun H locs hP hD hS => ?_)
                    have hP : va_P (dC, dI) vwCl [(a0, .inr (9, [g2, g3, g4, g5, g6, .ref a1, g7, .int k8, .int z14335, .int 4, .int z11434, .int k12, g13, g14, .long j15, g16, g17, g18, g19, g20, g21, g22, g23, g24, g25, g26, g27, g28, g29, g30])), (a1, .inl (cB31, 900, .inl f32))] H := hP
                    have hD : va_D A [(a0, .inr (9, [g2, g3, g4, g5, g6, .ref a1, g7, .int k8, .int z14335, .int 4, .int z11434, .int k12, g13, g14, .long j15, g16, g17, g18, g19, g20, g21, g22, g23, g24, g25, g26, g27, g28, g29, g30])), (a1, .inl (cB31, 900, .inl f32))] := hD
                    have hP9 := hP.sub (ws' := [(a0, .inr (9, [g2, g3, g4, g5, g6, .ref a1, g7, .int k8, .int z14335, .int 4, .int z11434, .int k12, g13, g14, .long j15, g16, g17, g18, g19, g20, g21, g22, g23, g24, g25, g26, g27, g28, g29, g30])), (a1, .inl (cB31, 900, .inl f32))]) [0, 1] rfl
                    have hD9 := hD.sub (ws' := [(a0, .inr (9, [g2, g3, g4, g5, g6, .ref a1, g7, .int k8, .int z14335, .int 4, .int z11434, .int k12, g13, g14, .long j15, g16, g17, g18, g19, g20, g21, g22, g23, g24, g25, g26, g27, g28, g29, g30])), (a1, .inl (cB31, 900, .inl f32))]) [0, 1] (by decide) rfl
                    have hK9 := hK.sub (tys' := []) [] rfl
                    exact W.vret hx hb hr (fun t ht hW => ⟨⟨(z14335, 4, z11434, k12, j15), rfl, ⟨(by first | trivial | omega | (simp only [ltv_0, ltv_4]; omega)), (by first | trivial | omega | (simp only [ltv_0, ltv_4]; omega))⟩, by rw [ht]; exact hP9, va_K.moved hW.alike hK9, hD9⟩, hS.F ht⟩) hS.2.2 dX12_goesOn_265
                · refine lv_if_eq (tgt := 244) hx hb dX12_goesOn_165 (by decide) (fun c14336 => absurd c14336 (by decide)) (fun _ => ?_)
                  refine lv_aload_n hx hb dX12_goesOn_168 rfl (lv_at hl 2 rfl) ?_
                  refine lv_iconst (v := 0) hx hb dX12_goesOn_169 (by decide) ?_
                  refine va_put (D := (dC, dI)) (ci := 9) (v := .int 0) (ty := .int) (C := RX12) (T := TX12) (N := 30) hx hb hts iX12_goesOn_X12 tyX12 tyX12_ok nmX12 hown hK hP hD hS 0 rfl rfl 11 (by decide) (hts (.fieldLink RX12 91 "HookPierModel" "number" "I") (List.mem_of_getElem? (i := 17) rfl)) (fun _ h9 => h9) rfl (by decide +kernel) rfl rfl (Nat.le_of_ble_eq_true rfl) dX12_goesOn_170 (fun H locs hP hD hS => ?_)
                  have hP : va_P (dC, dI) vwCl [(a0, .inr (9, [g2, g3, g4, g5, g6, .ref a1, g7, .int k8, .int z11434, .int 0, .int z11434, .int 0, g13, g14, .long j15, g16, g17, g18, g19, g20, g21, g22, g23, g24, g25, g26, g27, g28, g29, g30])), (a1, .inl (cB31, 900, .inl f32))] H := hP
                  have hD : va_D A [(a0, .inr (9, [g2, g3, g4, g5, g6, .ref a1, g7, .int k8, .int z11434, .int 0, .int z11434, .int 0, g13, g14, .long j15, g16, g17, g18, g19, g20, g21, g22, g23, g24, g25, g26, g27, g28, g29, g30])), (a1, .inl (cB31, 900, .inl f32))] := hD
                  have L173_15667 : ∀ (n : Nat) (z15664 : Int32) (z15665 : Int32) (z15666 : Int32) (H : Heap) (locs : List Loc) (ls : Array Slot), (0 ≤ z15665.toInt ∧ z15665.toInt ≤ 900) → 900 - z15665.toInt < (n : Int) → va_P (dC, dI) vwCl [(a0, .inr (9, [g2, g3, g4, g5, g6, .ref a1, g7, .int k8, .int z15665, .int 0, .int z11434, .int z15666, g13, g14, .long j15, g16, g17, g18, g19, g20, g21, g22, g23, g24, g25, g26, g27, g28, g29, g30])), (a1, .inl (cB31, 900, .inl f32))] H → va_D A [(a0, .inr (9, [g2, g3, g4, g5, g6, .ref a1, g7, .int k8, .int z15665, .int 0, .int z11434, .int z15666, g13, g14, .long j15, g16, g17, g18, g19, g20, g21, g22, g23, g24, g25, g26, g27, g28, g29, g30])), (a1, .inl (cB31, 900, .inl f32))] → va_S A s.heap H locs → lv_has ls 3 [(2, .int z15664), (1, .int z14316), (0, .ref a0)] → W p l e (headSpec vX12_goesOn { frames := 1, cells := 0, slots := 0, locals := 21 }).room s m ([.ref a0]).toArray below meth c H locs 0 0 (MQ below (va_Qv (S := Int32 × Int32 × Int32 × Int32 × Int64) (fun u => (0 ≤ (u.1).toInt ∧ (u.1).toInt ≤ 900) ∧ (0 ≤ (u.2.1).toInt ∧ (u.2.1).toInt ≤ 5)) (fun u t => BC (dC, dI) A [(a0, .inr (9, [g2, g3, g4, g5, g6, .ref a1, g7, .int k8, .int (u.1), .int (u.2.1), .int (u.2.2.1), .int (u.2.2.2.1), g13, g14, .long (u.2.2.2.2), g16, g17, g18, g19, g20, g21, g22, g23, g24, g25, g26, g27, g28, g29, g30])), (a1, .inl (cB31, 900, .inl f32))] [] t) A) ([.ref a0]).toArray s 0 0 A) (F0 m 173 ls []) := by
                    intro n
                    induction n with
                    | zero =>
                      intro z15664 z15665 z15666 H locs ls b173_0 hm _ _ _ _
                      exact absurd hm (by omega)
                    | succ n ih173 =>
                      intro z15664 z15665 z15666 H locs ls b173_0 hm173 hP hD hS hl
                      refine lv_aload_n hx hb dX12_goesOn_173 rfl (lv_at hl 2 rfl) ?_
                      refine lv_aload_n hx hb dX12_goesOn_174 rfl (lv_at hl 2 rfl) ?_
                      refine va_get (D := (dC, dI)) (ci := 9) (v := .int z15665) (C := RX12) (T := TX12) (N := 30) hx hb hts iX12_goesOn_X12 hown hK hP 0 rfl rfl 8 (by decide) (hts (.fieldLink RX12 71 "HookPierModel" "spot" "I") (List.mem_of_getElem? (i := 2) rfl)) (fun _ h9 => h9) rfl dX12_goesOn_175 ?_
                      refine cl_i (wc := [(a0, .inr (9, [g2, g3, g4, g5, g6, .ref a1, g7, .int k8, .int z15665, .int 0, .int z11434, .int z15666, g13, g14, .long j15, g16, g17, g18, g19, g20, g21, g22, g23, g24, g25, g26, g27, g28, g29, g30])), (a1, .inl (cB31, 900, .inl f32))]) (wr := []) (va_runV (As := [.int z15665]) (rest := []) ⟨hx, hb, hml, hown, hts⟩ (kX12_byteAt l dC dI a0 z15665 a1 (g2) (g3) (g4) (g5) (g6) (g7) k8 (.int z15665) (.int 0) (.int z11434) (.int z15666) (g13) (g14) (.long j15) (g16) (g17) (g18) (g19) (g20) (g21) (g22) (g23) (g24) (g25) (g26) (g27) (g28) (g29) (g30) cB31 f32 (by first | omega | (simp only [ltv_0]; omega)) (by first | omega | (simp only [ltv_0]; omega)) H.size) (cwV 1 hts gX12_goesOn_0 rfl rfl rfl (by decide +kernel) ⟨Nat.le_of_ble_eq_true rfl, Nat.le_of_ble_eq_true rfl⟩) (PV (hP.sub (ws' := [(a0, .inr (9, [g2, g3, g4, g5, g6, .ref a1, g7, .int k8, .int z15665, .int 0, .int z11434, .int z15666, g13, g14, .long j15, g16, g17, g18, g19, g20, g21, g22, g23, g24, g25, g26, g27, g28, g29, g30])), (a1, .inl (cB31, 900, .inl f32))]) [0, 1] rfl) (hK.sub (tys' := [(cB31, .byte)]) [0] rfl) (hD.sub (ws' := [(a0, .inr (9, [g2, g3, g4, g5, g6, .ref a1, g7, .int k8, .int z15665, .int 0, .int z11434, .int z15666, g13, g14, .long j15, g16, g17, g18, g19, g20, g21, g22, g23, g24, g25, g26, g27, g28, g29, g30])), (a1, .inl (cB31, 900, .inl f32))]) [0, 1] (by decide) rfl) hN 0 rfl rfl) rfl rfl hl.1 rfl (lv_room (Nat.le_of_ble_eq_true rfl)) dX12_goesOn_178 ⟨Nat.le_of_ble_eq_true rfl, Nat.le_of_ble_eq_true rfl⟩) hP hD hK hS hA [0, 1] [] rfl rfl (by decide) (by decide) (fun z15668 _u H locs hw hP hD hK hS => ?_)
                      have b15669 := hw
                      have hP : va_P (dC, dI) vwCl [(a0, .inr (9, [g2, g3, g4, g5, g6, .ref a1, g7, .int k8, .int z15665, .int 0, .int z11434, .int z15666, g13, g14, .long j15, g16, g17, g18, g19, g20, g21, g22, g23, g24, g25, g26, g27, g28, g29, g30])), (a1, .inl (cB31, 900, .inl f32))] H := hP
                      have hD : va_D A [(a0, .inr (9, [g2, g3, g4, g5, g6, .ref a1, g7, .int k8, .int z15665, .int 0, .int z11434, .int z15666, g13, g14, .long j15, g16, g17, g18, g19, g20, g21, g22, g23, g24, g25, g26, g27, g28, g29, g30])), (a1, .inl (cB31, 900, .inl f32))] := hD
                      have hK : va_K (dC, dI) vwCl [(cB31, .byte)] s := hK
                      rcases hw with rfl | ⟨h15671, h15671_0⟩
                      · refine cl_i (wc := []) (wr := [(a0, .inr (9, [g2, g3, g4, g5, g6, .ref a1, g7, .int k8, .int z15665, .int 0, .int z11434, .int z15666, g13, g14, .long j15, g16, g17, g18, g19, g20, g21, g22, g23, g24, g25, g26, g27, g28, g29, g30])), (a1, .inl (cB31, 900, .inl f32))]) (va_runS (As := [.int (-1)]) (rest := []) ⟨hx, hb, hml, hown, hts⟩ (kX12_isDigit l dC dI (-1)  H.size) (va_cwS 1 hts gX12_goesOn_2 rfl rfl rfl (by decide +kernel) ⟨Nat.le_of_ble_eq_true rfl, Nat.le_of_ble_eq_true rfl⟩) (PS (hP.sub (ws' := []) [] rfl) (hK.sub (tys' := []) [] rfl) (hD.sub (ws' := []) [] (by decide) rfl) hN) rfl rfl hl.1 rfl (lv_room (Nat.le_of_ble_eq_true rfl)) dX12_goesOn_181 ⟨Nat.le_of_ble_eq_true rfl, Nat.le_of_ble_eq_true rfl⟩) hP hD hK hS hA [] [0, 1] rfl rfl (by decide) (by decide) (fun z15672 _u H locs hw hP hD hK hS => ?_)
                        have b15673 := hw
                        have hP : va_P (dC, dI) vwCl [(a0, .inr (9, [g2, g3, g4, g5, g6, .ref a1, g7, .int k8, .int z15665, .int 0, .int z11434, .int z15666, g13, g14, .long j15, g16, g17, g18, g19, g20, g21, g22, g23, g24, g25, g26, g27, g28, g29, g30])), (a1, .inl (cB31, 900, .inl f32))] H := hP
                        have hD : va_D A [(a0, .inr (9, [g2, g3, g4, g5, g6, .ref a1, g7, .int k8, .int z15665, .int 0, .int z11434, .int z15666, g13, g14, .long j15, g16, g17, g18, g19, g20, g21, g22, g23, g24, g25, g26, g27, g28, g29, g30])), (a1, .inl (cB31, 900, .inl f32))] := hD
                        have hK : va_K (dC, dI) vwCl [(cB31, .byte)] s := hK
                        rcases hw with rfl | ⟨rfl, h15674, h15675, h15676⟩
                        · refine lv_if_eq (tgt := 231) hx hb dX12_goesOn_184 (by decide) (fun _ => ?_) (fun c15677 => absurd c15677 (by decide))
                          refine lv_iload_n hx hb dX12_goesOn_231 rfl (lv_at hl 0 rfl) ?_
                          refine lv_iconst (v := 2) hx hb dX12_goesOn_232 (by decide) ?_
                          refine lv_icmp_gt (tgt := 265) hx hb dX12_goesOn_233 (by decide) (fun c15678 => ?_) (fun c15678 => ?_)
                          · simp only [fa_lt, fa_le, fa_eq, ltv_0, ltv_2] at c15678
                            have hP9 := hP.sub (ws' := [(a0, .inr (9, [g2, g3, g4, g5, g6, .ref a1, g7, .int k8, .int z15665, .int 0, .int z11434, .int z15666, g13, g14, .long j15, g16, g17, g18, g19, g20, g21, g22, g23, g24, g25, g26, g27, g28, g29, g30])), (a1, .inl (cB31, 900, .inl f32))]) [0, 1] rfl
                            have hD9 := hD.sub (ws' := [(a0, .inr (9, [g2, g3, g4, g5, g6, .ref a1, g7, .int k8, .int z15665, .int 0, .int z11434, .int z15666, g13, g14, .long j15, g16, g17, g18, g19, g20, g21, g22, g23, g24, g25, g26, g27, g28, g29, g30])), (a1, .inl (cB31, 900, .inl f32))]) [0, 1] (by decide) rfl
                            have hK9 := hK.sub (tys' := []) [] rfl
                            exact W.vret hx hb hr (fun t ht hW => ⟨⟨(z15665, 0, z11434, z15666, j15), rfl, ⟨(by first | trivial | omega | (simp only [ltv_0]; omega)), (by first | trivial | omega | (simp only [ltv_0]; omega))⟩, by rw [ht]; exact hP9, va_K.moved hW.alike hK9, hD9⟩, hS.F ht⟩) hS.2.2 dX12_goesOn_265
                          · simp only [fa_lt, fa_le, fa_eq, ltv_0, ltv_2] at c15678
                            refine lv_aload_n hx hb dX12_goesOn_236 rfl (lv_at hl 2 rfl) ?_
                            refine lv_iconst (v := 3) hx hb dX12_goesOn_237 (by decide) ?_
                            refine va_put (D := (dC, dI)) (ci := 9) (v := .int 3) (ty := .int) (C := RX12) (T := TX12) (N := 30) hx hb hts iX12_goesOn_X12 tyX12 tyX12_ok nmX12 hown hK hP hD hS 0 rfl rfl 9 (by decide) (hts (.fieldLink RX12 68 "HookPierModel" "sort" "I") (List.mem_of_getElem? (i := 1) rfl)) (fun _ h9 => h9) rfl (by decide +kernel) rfl rfl (Nat.le_of_ble_eq_true rfl) dX12_goesOn_238 (fun H locs hP hD hS => ?_)
                            have hP : va_P (dC, dI) vwCl [(a0, .inr (9, [g2, g3, g4, g5, g6, .ref a1, g7, .int k8, .int z15665, .int 3, .int z11434, .int z15666, g13, g14, .long j15, g16, g17, g18, g19, g20, g21, g22, g23, g24, g25, g26, g27, g28, g29, g30])), (a1, .inl (cB31, 900, .inl f32))] H := hP
                            have hD : va_D A [(a0, .inr (9, [g2, g3, g4, g5, g6, .ref a1, g7, .int k8, .int z15665, .int 3, .int z11434, .int z15666, g13, g14, .long j15, g16, g17, g18, g19, g20, g21, g22, g23, g24, g25, g26, g27, g28, g29, g30])), (a1, .inl (cB31, 900, .inl f32))] := hD
                            refine lv_goto (tgt := 265) hx hb dX12_goesOn_241 (by decide) ?_
                            have hP9 := hP.sub (ws' := [(a0, .inr (9, [g2, g3, g4, g5, g6, .ref a1, g7, .int k8, .int z15665, .int 3, .int z11434, .int z15666, g13, g14, .long j15, g16, g17, g18, g19, g20, g21, g22, g23, g24, g25, g26, g27, g28, g29, g30])), (a1, .inl (cB31, 900, .inl f32))]) [0, 1] rfl
                            have hD9 := hD.sub (ws' := [(a0, .inr (9, [g2, g3, g4, g5, g6, .ref a1, g7, .int k8, .int z15665, .int 3, .int z11434, .int z15666, g13, g14, .long j15, g16, g17, g18, g19, g20, g21, g22, g23, g24, g25, g26, g27, g28, g29, g30])), (a1, .inl (cB31, 900, .inl f32))]) [0, 1] (by decide) rfl
                            have hK9 := hK.sub (tys' := []) [] rfl
                            exact W.vret hx hb hr (fun t ht hW => ⟨⟨(z15665, 3, z11434, z15666, j15), rfl, ⟨(by first | trivial | omega | (simp only [ltv_0, ltv_3]; omega)), (by first | trivial | omega | (simp only [ltv_0, ltv_3]; omega))⟩, by rw [ht]; exact hP9, va_K.moved hW.alike hK9, hD9⟩, hS.F ht⟩) hS.2.2 dX12_goesOn_265
                        · exact False.elim (by first | omega | (have l0 := ltv_m1; have l1 := ltv_0; omega))
                      · refine cl_i (wc := []) (wr := [(a0, .inr (9, [g2, g3, g4, g5, g6, .ref a1, g7, .int k8, .int z15665, .int 0, .int z11434, .int z15666, g13, g14, .long j15, g16, g17, g18, g19, g20, g21, g22, g23, g24, g25, g26, g27, g28, g29, g30])), (a1, .inl (cB31, 900, .inl f32))]) (va_runS (As := [.int z15668]) (rest := []) ⟨hx, hb, hml, hown, hts⟩ (kX12_isDigit l dC dI z15668  H.size) (va_cwS 1 hts gX12_goesOn_2 rfl rfl rfl (by decide +kernel) ⟨Nat.le_of_ble_eq_true rfl, Nat.le_of_ble_eq_true rfl⟩) (PS (hP.sub (ws' := []) [] rfl) (hK.sub (tys' := []) [] rfl) (hD.sub (ws' := []) [] (by decide) rfl) hN) rfl rfl hl.1 rfl (lv_room (Nat.le_of_ble_eq_true rfl)) dX12_goesOn_181 ⟨Nat.le_of_ble_eq_true rfl, Nat.le_of_ble_eq_true rfl⟩) hP hD hK hS hA [] [0, 1] rfl rfl (by decide) (by decide) (fun z15679 _u H locs hw hP hD hK hS => ?_)
                        have b15680 := hw
                        have hP : va_P (dC, dI) vwCl [(a0, .inr (9, [g2, g3, g4, g5, g6, .ref a1, g7, .int k8, .int z15665, .int 0, .int z11434, .int z15666, g13, g14, .long j15, g16, g17, g18, g19, g20, g21, g22, g23, g24, g25, g26, g27, g28, g29, g30])), (a1, .inl (cB31, 900, .inl f32))] H := hP
                        have hD : va_D A [(a0, .inr (9, [g2, g3, g4, g5, g6, .ref a1, g7, .int k8, .int z15665, .int 0, .int z11434, .int z15666, g13, g14, .long j15, g16, g17, g18, g19, g20, g21, g22, g23, g24, g25, g26, g27, g28, g29, g30])), (a1, .inl (cB31, 900, .inl f32))] := hD
                        have hK : va_K (dC, dI) vwCl [(cB31, .byte)] s := hK
                        rcases hw with rfl | ⟨rfl, h15681, h15682, h15683⟩
                        · refine lv_if_eq (tgt := 231) hx hb dX12_goesOn_184 (by decide) (fun _ => ?_) (fun c15684 => absurd c15684 (by decide))
                          refine lv_iload_n hx hb dX12_goesOn_231 rfl (lv_at hl 0 rfl) ?_
                          refine lv_iconst (v := 2) hx hb dX12_goesOn_232 (by decide) ?_
                          refine lv_icmp_gt (tgt := 265) hx hb dX12_goesOn_233 (by decide) (fun c15685 => ?_) (fun c15685 => ?_)
                          · simp only [fa_lt, fa_le, fa_eq, ltv_0, ltv_2] at c15685
                            have hP9 := hP.sub (ws' := [(a0, .inr (9, [g2, g3, g4, g5, g6, .ref a1, g7, .int k8, .int z15665, .int 0, .int z11434, .int z15666, g13, g14, .long j15, g16, g17, g18, g19, g20, g21, g22, g23, g24, g25, g26, g27, g28, g29, g30])), (a1, .inl (cB31, 900, .inl f32))]) [0, 1] rfl
                            have hD9 := hD.sub (ws' := [(a0, .inr (9, [g2, g3, g4, g5, g6, .ref a1, g7, .int k8, .int z15665, .int 0, .int z11434, .int z15666, g13, g14, .long j15, g16, g17, g18, g19, g20, g21, g22, g23, g24, g25, g26, g27, g28, g29, g30])), (a1, .inl (cB31, 900, .inl f32))]) [0, 1] (by decide) rfl
                            have hK9 := hK.sub (tys' := []) [] rfl
                            exact W.vret hx hb hr (fun t ht hW => ⟨⟨(z15665, 0, z11434, z15666, j15), rfl, ⟨(by first | trivial | omega | (simp only [ltv_0]; omega)), (by first | trivial | omega | (simp only [ltv_0]; omega))⟩, by rw [ht]; exact hP9, va_K.moved hW.alike hK9, hD9⟩, hS.F ht⟩) hS.2.2 dX12_goesOn_265
                          · simp only [fa_lt, fa_le, fa_eq, ltv_0, ltv_2] at c15685
                            refine lv_aload_n hx hb dX12_goesOn_236 rfl (lv_at hl 2 rfl) ?_
                            refine lv_iconst (v := 3) hx hb dX12_goesOn_237 (by decide) ?_
                            refine va_put (D := (dC, dI)) (ci := 9) (v := .int 3) (ty := .int) (C := RX12) (T := TX12) (N := 30) hx hb hts iX12_goesOn_X12 tyX12 tyX12_ok nmX12 hown hK hP hD hS 0 rfl rfl 9 (by decide) (hts (.fieldLink RX12 68 "HookPierModel" "sort" "I") (List.mem_of_getElem? (i := 1) rfl)) (fun _ h9 => h9) rfl (by decide +kernel) rfl rfl (Nat.le_of_ble_eq_true rfl) dX12_goesOn_238 (fun H locs hP hD hS => ?_)
                            have hP : va_P (dC, dI) vwCl [(a0, .inr (9, [g2, g3, g4, g5, g6, .ref a1, g7, .int k8, .int z15665, .int 3, .int z11434, .int z15666, g13, g14, .long j15, g16, g17, g18, g19, g20, g21, g22, g23, g24, g25, g26, g27, g28, g29, g30])), (a1, .inl (cB31, 900, .inl f32))] H := hP
                            have hD : va_D A [(a0, .inr (9, [g2, g3, g4, g5, g6, .ref a1, g7, .int k8, .int z15665, .int 3, .int z11434, .int z15666, g13, g14, .long j15, g16, g17, g18, g19, g20, g21, g22, g23, g24, g25, g26, g27, g28, g29, g30])), (a1, .inl (cB31, 900, .inl f32))] := hD
                            refine lv_goto (tgt := 265) hx hb dX12_goesOn_241 (by decide) ?_
                            have hP9 := hP.sub (ws' := [(a0, .inr (9, [g2, g3, g4, g5, g6, .ref a1, g7, .int k8, .int z15665, .int 3, .int z11434, .int z15666, g13, g14, .long j15, g16, g17, g18, g19, g20, g21, g22, g23, g24, g25, g26, g27, g28, g29, g30])), (a1, .inl (cB31, 900, .inl f32))]) [0, 1] rfl
                            have hD9 := hD.sub (ws' := [(a0, .inr (9, [g2, g3, g4, g5, g6, .ref a1, g7, .int k8, .int z15665, .int 3, .int z11434, .int z15666, g13, g14, .long j15, g16, g17, g18, g19, g20, g21, g22, g23, g24, g25, g26, g27, g28, g29, g30])), (a1, .inl (cB31, 900, .inl f32))]) [0, 1] (by decide) rfl
                            have hK9 := hK.sub (tys' := []) [] rfl
                            exact W.vret hx hb hr (fun t ht hW => ⟨⟨(z15665, 3, z11434, z15666, j15), rfl, ⟨(by first | trivial | omega | (simp only [ltv_0, ltv_3]; omega)), (by first | trivial | omega | (simp only [ltv_0, ltv_3]; omega))⟩, by rw [ht]; exact hP9, va_K.moved hW.alike hK9, hD9⟩, hS.F ht⟩) hS.2.2 dX12_goesOn_265
                        · refine lv_if_eq (tgt := 231) hx hb dX12_goesOn_184 (by decide) (fun c15686 => absurd c15686 (by decide)) (fun _ => ?_)
                          refine lv_iload_n hx hb dX12_goesOn_187 rfl (lv_at hl 0 rfl) ?_
                          refine lv_iconst (v := 2) hx hb dX12_goesOn_188 (by decide) ?_
                          refine lv_icmp_ge (tgt := 215) hx hb dX12_goesOn_189 (by decide) (fun c15687 => ?_) (fun c15687 => ?_)
                          · simp only [fa_lt, fa_le, fa_eq, ltv_0, ltv_2] at c15687
                            obtain ⟨z15688, ez15688⟩ : ∃ y : Int32, y = z15664 + 1 := ⟨_, rfl⟩
                            refine lv_iinc (v := z15688) (lv' := [(2, .int z15688), (1, .int z14316), (0, .ref a0)]) hx hb dX12_goesOn_215 hl (k := 0) rfl (by rw [ez15688]; rfl) (by decide) rfl (fun ls hl => ?_)
                            refine lv_aload_n hx hb dX12_goesOn_218 rfl (lv_at hl 2 rfl) ?_
                            refine lv_dup hx hb dX12_goesOn_219 rfl ?_
                            refine va_get (D := (dC, dI)) (ci := 9) (v := .int z15665) (C := RX12) (T := TX12) (N := 30) hx hb hts iX12_goesOn_X12 hown hK hP 0 rfl rfl 8 (by decide) (hts (.fieldLink RX12 71 "HookPierModel" "spot" "I") (List.mem_of_getElem? (i := 2) rfl)) (fun _ h9 => h9) rfl dX12_goesOn_220 ?_
                            refine lv_iconst (v := 1) hx hb dX12_goesOn_223 (by decide) ?_
                            refine lv_iadd hx hb dX12_goesOn_224 ?_
                            refine lv_topi (fun z15689 ez15689 => ?_)
                            have tz15689 : z15689.toInt = z15665.toInt + 1 := by rw [ez15689]; rw [iadd_t (by first | omega | (simp only [ltv_0, ltv_1]; omega)) (by first | omega | (simp only [ltv_0, ltv_1]; omega))]; first | done | (simp only [ltv_0, ltv_1])
                            refine va_put (D := (dC, dI)) (ci := 9) (v := .int z15689) (ty := .int) (C := RX12) (T := TX12) (N := 30) hx hb hts iX12_goesOn_X12 tyX12 tyX12_ok nmX12 hown hK hP hD hS 0 rfl rfl 8 (by decide) (hts (.fieldLink RX12 71 "HookPierModel" "spot" "I") (List.mem_of_getElem? (i := 2) rfl)) (fun _ h9 => h9) rfl (by decide +kernel) rfl rfl (Nat.le_of_ble_eq_true rfl) dX12_goesOn_225 (fun H locs hP hD hS => ?_)
                            have hP : va_P (dC, dI) vwCl [(a0, .inr (9, [g2, g3, g4, g5, g6, .ref a1, g7, .int k8, .int z15689, .int 0, .int z11434, .int z15666, g13, g14, .long j15, g16, g17, g18, g19, g20, g21, g22, g23, g24, g25, g26, g27, g28, g29, g30])), (a1, .inl (cB31, 900, .inl f32))] H := hP
                            have hD : va_D A [(a0, .inr (9, [g2, g3, g4, g5, g6, .ref a1, g7, .int k8, .int z15689, .int 0, .int z11434, .int z15666, g13, g14, .long j15, g16, g17, g18, g19, g20, g21, g22, g23, g24, g25, g26, g27, g28, g29, g30])), (a1, .inl (cB31, 900, .inl f32))] := hD
                            refine lv_goto (tgt := 173) hx hb dX12_goesOn_228 (by decide) ?_
                            exact ih173 z15688 z15689 z15666 H locs ls (by first | omega | (simp only [ltv_0]; omega)) (by first | omega | (simp only [ltv_0]; omega)) hP hD hS (lv_sub hl [0, 1, 2] rfl)
                          · simp only [fa_lt, fa_le, fa_eq, ltv_0, ltv_2] at c15687
                            refine lv_aload_n hx hb dX12_goesOn_192 rfl (lv_at hl 2 rfl) ?_
                            refine lv_bipush (v := 10) hx hb dX12_goesOn_193 (by decide) ?_
                            refine lv_aload_n hx hb dX12_goesOn_195 rfl (lv_at hl 2 rfl) ?_
                            refine va_get (D := (dC, dI)) (ci := 9) (v := .int z15666) (C := RX12) (T := TX12) (N := 30) hx hb hts iX12_goesOn_X12 hown hK hP 0 rfl rfl 11 (by decide) (hts (.fieldLink RX12 91 "HookPierModel" "number" "I") (List.mem_of_getElem? (i := 17) rfl)) (fun _ h9 => h9) rfl dX12_goesOn_196 ?_
                            refine lv_imul hx hb dX12_goesOn_199 ?_
                            refine lv_topi (fun z15690 ez15690 => ?_)
                            clear ez15690
                            refine lv_aload_n hx hb dX12_goesOn_200 rfl (lv_at hl 2 rfl) ?_
                            refine lv_aload_n hx hb dX12_goesOn_201 rfl (lv_at hl 2 rfl) ?_
                            refine va_get (D := (dC, dI)) (ci := 9) (v := .int z15665) (C := RX12) (T := TX12) (N := 30) hx hb hts iX12_goesOn_X12 hown hK hP 0 rfl rfl 8 (by decide) (hts (.fieldLink RX12 71 "HookPierModel" "spot" "I") (List.mem_of_getElem? (i := 2) rfl)) (fun _ h9 => h9) rfl dX12_goesOn_202 ?_
                            refine cl_i (wc := [(a0, .inr (9, [g2, g3, g4, g5, g6, .ref a1, g7, .int k8, .int z15665, .int 0, .int z11434, .int z15666, g13, g14, .long j15, g16, g17, g18, g19, g20, g21, g22, g23, g24, g25, g26, g27, g28, g29, g30])), (a1, .inl (cB31, 900, .inl f32))]) (wr := []) (va_runV (As := [.int z15665]) (rest := [.int z15690, .ref a0]) ⟨hx, hb, hml, hown, hts⟩ (kX12_byteAt l dC dI a0 z15665 a1 (g2) (g3) (g4) (g5) (g6) (g7) k8 (.int z15665) (.int 0) (.int z11434) (.int z15666) (g13) (g14) (.long j15) (g16) (g17) (g18) (g19) (g20) (g21) (g22) (g23) (g24) (g25) (g26) (g27) (g28) (g29) (g30) cB31 f32 (by first | omega | (simp only [ltv_0]; omega)) (by first | omega | (simp only [ltv_0]; omega)) H.size) (cwV 1 hts gX12_goesOn_0 rfl rfl rfl (by decide +kernel) ⟨Nat.le_of_ble_eq_true rfl, Nat.le_of_ble_eq_true rfl⟩) (PV (hP.sub (ws' := [(a0, .inr (9, [g2, g3, g4, g5, g6, .ref a1, g7, .int k8, .int z15665, .int 0, .int z11434, .int z15666, g13, g14, .long j15, g16, g17, g18, g19, g20, g21, g22, g23, g24, g25, g26, g27, g28, g29, g30])), (a1, .inl (cB31, 900, .inl f32))]) [0, 1] rfl) (hK.sub (tys' := [(cB31, .byte)]) [0] rfl) (hD.sub (ws' := [(a0, .inr (9, [g2, g3, g4, g5, g6, .ref a1, g7, .int k8, .int z15665, .int 0, .int z11434, .int z15666, g13, g14, .long j15, g16, g17, g18, g19, g20, g21, g22, g23, g24, g25, g26, g27, g28, g29, g30])), (a1, .inl (cB31, 900, .inl f32))]) [0, 1] (by decide) rfl) hN 0 rfl rfl) rfl rfl hl.1 rfl (lv_room (Nat.le_of_ble_eq_true rfl)) dX12_goesOn_205 ⟨Nat.le_of_ble_eq_true rfl, Nat.le_of_ble_eq_true rfl⟩) hP hD hK hS hA [0, 1] [] rfl rfl (by decide) (by decide) (fun z15691 _u H locs hw hP hD hK hS => ?_)
                            have b15692 := hw
                            have hP : va_P (dC, dI) vwCl [(a0, .inr (9, [g2, g3, g4, g5, g6, .ref a1, g7, .int k8, .int z15665, .int 0, .int z11434, .int z15666, g13, g14, .long j15, g16, g17, g18, g19, g20, g21, g22, g23, g24, g25, g26, g27, g28, g29, g30])), (a1, .inl (cB31, 900, .inl f32))] H := hP
                            have hD : va_D A [(a0, .inr (9, [g2, g3, g4, g5, g6, .ref a1, g7, .int k8, .int z15665, .int 0, .int z11434, .int z15666, g13, g14, .long j15, g16, g17, g18, g19, g20, g21, g22, g23, g24, g25, g26, g27, g28, g29, g30])), (a1, .inl (cB31, 900, .inl f32))] := hD
                            have hK : va_K (dC, dI) vwCl [(cB31, .byte)] s := hK
                            rcases hw with rfl | ⟨h15694, h15694_0⟩
                            · refine lv_iadd hx hb dX12_goesOn_208 ?_
                              refine lv_topi (fun z15695 ez15695 => ?_)
                              clear ez15695
                              refine lv_bipush (v := 48) hx hb dX12_goesOn_209 (by decide) ?_
                              refine lv_isub hx hb dX12_goesOn_211 ?_
                              refine lv_topi (fun z15696 ez15696 => ?_)
                              clear ez15696
                              refine va_put (D := (dC, dI)) (ci := 9) (v := .int z15696) (ty := .int) (C := RX12) (T := TX12) (N := 30) hx hb hts iX12_goesOn_X12 tyX12 tyX12_ok nmX12 hown hK hP hD hS 0 rfl rfl 11 (by decide) (hts (.fieldLink RX12 91 "HookPierModel" "number" "I") (List.mem_of_getElem? (i := 17) rfl)) (fun _ h9 => h9) rfl (by decide +kernel) rfl rfl (Nat.le_of_ble_eq_true rfl) dX12_goesOn_212 (fun H locs hP hD hS => ?_)
                              have hP : va_P (dC, dI) vwCl [(a0, .inr (9, [g2, g3, g4, g5, g6, .ref a1, g7, .int k8, .int z15665, .int 0, .int z11434, .int z15696, g13, g14, .long j15, g16, g17, g18, g19, g20, g21, g22, g23, g24, g25, g26, g27, g28, g29, g30])), (a1, .inl (cB31, 900, .inl f32))] H := hP
                              have hD : va_D A [(a0, .inr (9, [g2, g3, g4, g5, g6, .ref a1, g7, .int k8, .int z15665, .int 0, .int z11434, .int z15696, g13, g14, .long j15, g16, g17, g18, g19, g20, g21, g22, g23, g24, g25, g26, g27, g28, g29, g30])), (a1, .inl (cB31, 900, .inl f32))] := hD
                              obtain ⟨z15697, ez15697⟩ : ∃ y : Int32, y = z15664 + 1 := ⟨_, rfl⟩
                              have rgz15697 := i32_rg z15664
                              have tz15697 : z15697.toInt = z15664.toInt + 1 := by rw [ez15697, iadd_t (by simp only [ltv_1]; omega) (by simp only [ltv_1]; omega)]; simp only [ltv_1]
                              refine lv_iinc (v := z15697) (lv' := [(2, .int z15697), (1, .int z14316), (0, .ref a0)]) hx hb dX12_goesOn_215 hl (k := 0) rfl (by rw [ez15697]; rfl) (by decide) rfl (fun ls hl => ?_)
                              refine lv_aload_n hx hb dX12_goesOn_218 rfl (lv_at hl 2 rfl) ?_
                              refine lv_dup hx hb dX12_goesOn_219 rfl ?_
                              refine va_get (D := (dC, dI)) (ci := 9) (v := .int z15665) (C := RX12) (T := TX12) (N := 30) hx hb hts iX12_goesOn_X12 hown hK hP 0 rfl rfl 8 (by decide) (hts (.fieldLink RX12 71 "HookPierModel" "spot" "I") (List.mem_of_getElem? (i := 2) rfl)) (fun _ h9 => h9) rfl dX12_goesOn_220 ?_
                              refine lv_iconst (v := 1) hx hb dX12_goesOn_223 (by decide) ?_
                              refine lv_iadd hx hb dX12_goesOn_224 ?_
                              refine lv_topi (fun z15698 ez15698 => ?_)
                              have tz15698 : z15698.toInt = z15665.toInt + 1 := by rw [ez15698]; rw [iadd_t (by first | omega | (simp only [ltv_0, ltv_1]; omega)) (by first | omega | (simp only [ltv_0, ltv_1]; omega))]; first | done | (simp only [ltv_0, ltv_1])
                              refine va_put (D := (dC, dI)) (ci := 9) (v := .int z15698) (ty := .int) (C := RX12) (T := TX12) (N := 30) hx hb hts iX12_goesOn_X12 tyX12 tyX12_ok nmX12 hown hK hP hD hS 0 rfl rfl 8 (by decide) (hts (.fieldLink RX12 71 "HookPierModel" "spot" "I") (List.mem_of_getElem? (i := 2) rfl)) (fun _ h9 => h9) rfl (by decide +kernel) rfl rfl (Nat.le_of_ble_eq_true rfl) dX12_goesOn_225 (fun H locs hP hD hS => ?_)
                              have hP : va_P (dC, dI) vwCl [(a0, .inr (9, [g2, g3, g4, g5, g6, .ref a1, g7, .int k8, .int z15698, .int 0, .int z11434, .int z15696, g13, g14, .long j15, g16, g17, g18, g19, g20, g21, g22, g23, g24, g25, g26, g27, g28, g29, g30])), (a1, .inl (cB31, 900, .inl f32))] H := hP
                              have hD : va_D A [(a0, .inr (9, [g2, g3, g4, g5, g6, .ref a1, g7, .int k8, .int z15698, .int 0, .int z11434, .int z15696, g13, g14, .long j15, g16, g17, g18, g19, g20, g21, g22, g23, g24, g25, g26, g27, g28, g29, g30])), (a1, .inl (cB31, 900, .inl f32))] := hD
                              refine lv_goto (tgt := 173) hx hb dX12_goesOn_228 (by decide) ?_
                              exact ih173 z15697 z15698 z15696 H locs ls (by first | omega | (simp only [ltv_0]; omega)) (by first | omega | (simp only [ltv_0]; omega)) hP hD hS (lv_sub hl [0, 1, 2] rfl)
                            · refine lv_iadd hx hb dX12_goesOn_208 ?_
                              refine lv_topi (fun z15699 ez15699 => ?_)
                              clear ez15699
                              refine lv_bipush (v := 48) hx hb dX12_goesOn_209 (by decide) ?_
                              refine lv_isub hx hb dX12_goesOn_211 ?_
                              refine lv_topi (fun z15700 ez15700 => ?_)
                              clear ez15700
                              refine va_put (D := (dC, dI)) (ci := 9) (v := .int z15700) (ty := .int) (C := RX12) (T := TX12) (N := 30) hx hb hts iX12_goesOn_X12 tyX12 tyX12_ok nmX12 hown hK hP hD hS 0 rfl rfl 11 (by decide) (hts (.fieldLink RX12 91 "HookPierModel" "number" "I") (List.mem_of_getElem? (i := 17) rfl)) (fun _ h9 => h9) rfl (by decide +kernel) rfl rfl (Nat.le_of_ble_eq_true rfl) dX12_goesOn_212 (fun H locs hP hD hS => ?_)
                              have hP : va_P (dC, dI) vwCl [(a0, .inr (9, [g2, g3, g4, g5, g6, .ref a1, g7, .int k8, .int z15665, .int 0, .int z11434, .int z15700, g13, g14, .long j15, g16, g17, g18, g19, g20, g21, g22, g23, g24, g25, g26, g27, g28, g29, g30])), (a1, .inl (cB31, 900, .inl f32))] H := hP
                              have hD : va_D A [(a0, .inr (9, [g2, g3, g4, g5, g6, .ref a1, g7, .int k8, .int z15665, .int 0, .int z11434, .int z15700, g13, g14, .long j15, g16, g17, g18, g19, g20, g21, g22, g23, g24, g25, g26, g27, g28, g29, g30])), (a1, .inl (cB31, 900, .inl f32))] := hD
                              obtain ⟨z15701, ez15701⟩ : ∃ y : Int32, y = z15664 + 1 := ⟨_, rfl⟩
                              have rgz15701 := i32_rg z15664
                              have tz15701 : z15701.toInt = z15664.toInt + 1 := by rw [ez15701, iadd_t (by simp only [ltv_1]; omega) (by simp only [ltv_1]; omega)]; simp only [ltv_1]
                              refine lv_iinc (v := z15701) (lv' := [(2, .int z15701), (1, .int z14316), (0, .ref a0)]) hx hb dX12_goesOn_215 hl (k := 0) rfl (by rw [ez15701]; rfl) (by decide) rfl (fun ls hl => ?_)
                              refine lv_aload_n hx hb dX12_goesOn_218 rfl (lv_at hl 2 rfl) ?_
                              refine lv_dup hx hb dX12_goesOn_219 rfl ?_
                              refine va_get (D := (dC, dI)) (ci := 9) (v := .int z15665) (C := RX12) (T := TX12) (N := 30) hx hb hts iX12_goesOn_X12 hown hK hP 0 rfl rfl 8 (by decide) (hts (.fieldLink RX12 71 "HookPierModel" "spot" "I") (List.mem_of_getElem? (i := 2) rfl)) (fun _ h9 => h9) rfl dX12_goesOn_220 ?_
                              refine lv_iconst (v := 1) hx hb dX12_goesOn_223 (by decide) ?_
                              refine lv_iadd hx hb dX12_goesOn_224 ?_
                              refine lv_topi (fun z15702 ez15702 => ?_)
                              have tz15702 : z15702.toInt = z15665.toInt + 1 := by rw [ez15702]; rw [iadd_t (by first | omega | (simp only [ltv_0, ltv_1]; omega)) (by first | omega | (simp only [ltv_0, ltv_1]; omega))]; first | done | (simp only [ltv_0, ltv_1])
                              refine va_put (D := (dC, dI)) (ci := 9) (v := .int z15702) (ty := .int) (C := RX12) (T := TX12) (N := 30) hx hb hts iX12_goesOn_X12 tyX12 tyX12_ok nmX12 hown hK hP hD hS 0 rfl rfl 8 (by decide) (hts (.fieldLink RX12 71 "HookPierModel" "spot" "I") (List.mem_of_getElem? (i := 2) rfl)) (fun _ h9 => h9) rfl (by decide +kernel) rfl rfl (Nat.le_of_ble_eq_true rfl) dX12_goesOn_225 (fun H locs hP hD hS => ?_)
                              have hP : va_P (dC, dI) vwCl [(a0, .inr (9, [g2, g3, g4, g5, g6, .ref a1, g7, .int k8, .int z15702, .int 0, .int z11434, .int z15700, g13, g14, .long j15, g16, g17, g18, g19, g20, g21, g22, g23, g24, g25, g26, g27, g28, g29, g30])), (a1, .inl (cB31, 900, .inl f32))] H := hP
                              have hD : va_D A [(a0, .inr (9, [g2, g3, g4, g5, g6, .ref a1, g7, .int k8, .int z15702, .int 0, .int z11434, .int z15700, g13, g14, .long j15, g16, g17, g18, g19, g20, g21, g22, g23, g24, g25, g26, g27, g28, g29, g30])), (a1, .inl (cB31, 900, .inl f32))] := hD
                              refine lv_goto (tgt := 173) hx hb dX12_goesOn_228 (by decide) ?_
                              exact ih173 z15701 z15702 z15700 H locs ls (by first | omega | (simp only [ltv_0]; omega)) (by first | omega | (simp only [ltv_0]; omega)) hP hD hS (lv_sub hl [0, 1, 2] rfl)
                  exact L173_15667 901 (0) z11434 (0) H _ ls (by first | omega | (simp only [ltv_0]; omega)) (by first | omega | (simp only [ltv_0]; omega)) hP hD hS (lv_sub hl [0, 1, 2] rfl)
              · refine lv_if_eq (tgt := 161) hx hb dX12_goesOn_76 (by decide) (fun c15703 => absurd c15703 (by decide)) (fun _ => ?_)
                refine lv_aload_n hx hb dX12_goesOn_79 rfl (lv_at hl 2 rfl) ?_
                refine lv_lconst (v := 0) hx hb dX12_goesOn_80 (by decide) ?_
                refine va_put (D := (dC, dI)) (ci := 9) (v := .long 0) (ty := .long) (C := RX12) (T := TX12) (N := 30) hx hb hts iX12_goesOn_X12 tyX12 tyX12_ok nmX12 hown hK hP hD hS 0 rfl rfl 14 (by decide) (hts (.fieldLink RX12 84 "HookPierModel" "word" "J") (List.mem_of_getElem? (i := 18) rfl)) (fun _ h9 => h9) rfl (by decide +kernel) rfl rfl (Nat.le_of_ble_eq_true rfl) dX12_goesOn_81 (fun H locs hP hD hS => ?_)
                have hP : va_P (dC, dI) vwCl [(a0, .inr (9, [g2, g3, g4, g5, g6, .ref a1, g7, .int k8, .int z11434, .int 0, .int z11434, .int k12, g13, g14, .long 0, g16, g17, g18, g19, g20, g21, g22, g23, g24, g25, g26, g27, g28, g29, g30])), (a1, .inl (cB31, 900, .inl f32))] H := hP
                have hD : va_D A [(a0, .inr (9, [g2, g3, g4, g5, g6, .ref a1, g7, .int k8, .int z11434, .int 0, .int z11434, .int k12, g13, g14, .long 0, g16, g17, g18, g19, g20, g21, g22, g23, g24, g25, g26, g27, g28, g29, g30])), (a1, .inl (cB31, 900, .inl f32))] := hD
                have L84_17151 : ∀ (n : Nat) (z17148 : Int32) (z17149 : Int32) (j17150 : Int64) (H : Heap) (locs : List Loc) (ls : Array Slot), (0 ≤ z17149.toInt ∧ z17149.toInt ≤ 900) → 900 - z17149.toInt < (n : Int) → va_P (dC, dI) vwCl [(a0, .inr (9, [g2, g3, g4, g5, g6, .ref a1, g7, .int k8, .int z17149, .int 0, .int z11434, .int k12, g13, g14, .long j17150, g16, g17, g18, g19, g20, g21, g22, g23, g24, g25, g26, g27, g28, g29, g30])), (a1, .inl (cB31, 900, .inl f32))] H → va_D A [(a0, .inr (9, [g2, g3, g4, g5, g6, .ref a1, g7, .int k8, .int z17149, .int 0, .int z11434, .int k12, g13, g14, .long j17150, g16, g17, g18, g19, g20, g21, g22, g23, g24, g25, g26, g27, g28, g29, g30])), (a1, .inl (cB31, 900, .inl f32))] → va_S A s.heap H locs → lv_has ls 3 [(2, .int z17148), (1, .int z14316), (0, .ref a0)] → W p l e (headSpec vX12_goesOn { frames := 1, cells := 0, slots := 0, locals := 21 }).room s m ([.ref a0]).toArray below meth c H locs 0 0 (MQ below (va_Qv (S := Int32 × Int32 × Int32 × Int32 × Int64) (fun u => (0 ≤ (u.1).toInt ∧ (u.1).toInt ≤ 900) ∧ (0 ≤ (u.2.1).toInt ∧ (u.2.1).toInt ≤ 5)) (fun u t => BC (dC, dI) A [(a0, .inr (9, [g2, g3, g4, g5, g6, .ref a1, g7, .int k8, .int (u.1), .int (u.2.1), .int (u.2.2.1), .int (u.2.2.2.1), g13, g14, .long (u.2.2.2.2), g16, g17, g18, g19, g20, g21, g22, g23, g24, g25, g26, g27, g28, g29, g30])), (a1, .inl (cB31, 900, .inl f32))] [] t) A) ([.ref a0]).toArray s 0 0 A) (F0 m 84 ls []) := by
                  intro n
                  induction n with
                  | zero =>
                    intro z17148 z17149 j17150 H locs ls b84_0 hm _ _ _ _
                    exact absurd hm (by omega)
                  | succ n ih84 =>
                    intro z17148 z17149 j17150 H locs ls b84_0 hm84 hP hD hS hl
                    refine lv_aload_n hx hb dX12_goesOn_84 rfl (lv_at hl 2 rfl) ?_
                    refine lv_aload_n hx hb dX12_goesOn_85 rfl (lv_at hl 2 rfl) ?_
                    refine va_get (D := (dC, dI)) (ci := 9) (v := .int z17149) (C := RX12) (T := TX12) (N := 30) hx hb hts iX12_goesOn_X12 hown hK hP 0 rfl rfl 8 (by decide) (hts (.fieldLink RX12 71 "HookPierModel" "spot" "I") (List.mem_of_getElem? (i := 2) rfl)) (fun _ h9 => h9) rfl dX12_goesOn_86 ?_
                    refine cl_i (wc := [(a0, .inr (9, [g2, g3, g4, g5, g6, .ref a1, g7, .int k8, .int z17149, .int 0, .int z11434, .int k12, g13, g14, .long j17150, g16, g17, g18, g19, g20, g21, g22, g23, g24, g25, g26, g27, g28, g29, g30])), (a1, .inl (cB31, 900, .inl f32))]) (wr := []) (va_runV (As := [.int z17149]) (rest := []) ⟨hx, hb, hml, hown, hts⟩ (kX12_byteAt l dC dI a0 z17149 a1 (g2) (g3) (g4) (g5) (g6) (g7) k8 (.int z17149) (.int 0) (.int z11434) (.int k12) (g13) (g14) (.long j17150) (g16) (g17) (g18) (g19) (g20) (g21) (g22) (g23) (g24) (g25) (g26) (g27) (g28) (g29) (g30) cB31 f32 (by first | omega | (simp only [ltv_0]; omega)) (by first | omega | (simp only [ltv_0]; omega)) H.size) (cwV 1 hts gX12_goesOn_0 rfl rfl rfl (by decide +kernel) ⟨Nat.le_of_ble_eq_true rfl, Nat.le_of_ble_eq_true rfl⟩) (PV (hP.sub (ws' := [(a0, .inr (9, [g2, g3, g4, g5, g6, .ref a1, g7, .int k8, .int z17149, .int 0, .int z11434, .int k12, g13, g14, .long j17150, g16, g17, g18, g19, g20, g21, g22, g23, g24, g25, g26, g27, g28, g29, g30])), (a1, .inl (cB31, 900, .inl f32))]) [0, 1] rfl) (hK.sub (tys' := [(cB31, .byte)]) [0] rfl) (hD.sub (ws' := [(a0, .inr (9, [g2, g3, g4, g5, g6, .ref a1, g7, .int k8, .int z17149, .int 0, .int z11434, .int k12, g13, g14, .long j17150, g16, g17, g18, g19, g20, g21, g22, g23, g24, g25, g26, g27, g28, g29, g30])), (a1, .inl (cB31, 900, .inl f32))]) [0, 1] (by decide) rfl) hN 0 rfl rfl) rfl rfl hl.1 rfl (lv_room (Nat.le_of_ble_eq_true rfl)) dX12_goesOn_89 ⟨Nat.le_of_ble_eq_true rfl, Nat.le_of_ble_eq_true rfl⟩) hP hD hK hS hA [0, 1] [] rfl rfl (by decide) (by decide) (fun z17152 _u H locs hw hP hD hK hS => ?_)
                    have b17153 := hw
                    have hP : va_P (dC, dI) vwCl [(a0, .inr (9, [g2, g3, g4, g5, g6, .ref a1, g7, .int k8, .int z17149, .int 0, .int z11434, .int k12, g13, g14, .long j17150, g16, g17, g18, g19, g20, g21, g22, g23, g24, g25, g26, g27, g28, g29, g30])), (a1, .inl (cB31, 900, .inl f32))] H := hP
                    have hD : va_D A [(a0, .inr (9, [g2, g3, g4, g5, g6, .ref a1, g7, .int k8, .int z17149, .int 0, .int z11434, .int k12, g13, g14, .long j17150, g16, g17, g18, g19, g20, g21, g22, g23, g24, g25, g26, g27, g28, g29, g30])), (a1, .inl (cB31, 900, .inl f32))] := hD
                    have hK : va_K (dC, dI) vwCl [(cB31, .byte)] s := hK
                    rcases hw with rfl | ⟨h17155, h17155_0⟩
                    · refine cl_i (wc := []) (wr := [(a0, .inr (9, [g2, g3, g4, g5, g6, .ref a1, g7, .int k8, .int z17149, .int 0, .int z11434, .int k12, g13, g14, .long j17150, g16, g17, g18, g19, g20, g21, g22, g23, g24, g25, g26, g27, g28, g29, g30])), (a1, .inl (cB31, 900, .inl f32))]) (va_runS (As := [.int (-1)]) (rest := []) ⟨hx, hb, hml, hown, hts⟩ (kX12_isLetter l dC dI (-1)  H.size) (va_cwS 1 hts gX12_goesOn_1 rfl rfl rfl (by decide +kernel) ⟨Nat.le_of_ble_eq_true rfl, Nat.le_of_ble_eq_true rfl⟩) (PS (hP.sub (ws' := []) [] rfl) (hK.sub (tys' := []) [] rfl) (hD.sub (ws' := []) [] (by decide) rfl) hN) rfl rfl hl.1 rfl (lv_room (Nat.le_of_ble_eq_true rfl)) dX12_goesOn_92 ⟨Nat.le_of_ble_eq_true rfl, Nat.le_of_ble_eq_true rfl⟩) hP hD hK hS hA [] [0, 1] rfl rfl (by decide) (by decide) (fun z17156 _u H locs hw hP hD hK hS => ?_)
                      have b17157 := hw
                      have hP : va_P (dC, dI) vwCl [(a0, .inr (9, [g2, g3, g4, g5, g6, .ref a1, g7, .int k8, .int z17149, .int 0, .int z11434, .int k12, g13, g14, .long j17150, g16, g17, g18, g19, g20, g21, g22, g23, g24, g25, g26, g27, g28, g29, g30])), (a1, .inl (cB31, 900, .inl f32))] H := hP
                      have hD : va_D A [(a0, .inr (9, [g2, g3, g4, g5, g6, .ref a1, g7, .int k8, .int z17149, .int 0, .int z11434, .int k12, g13, g14, .long j17150, g16, g17, g18, g19, g20, g21, g22, g23, g24, g25, g26, g27, g28, g29, g30])), (a1, .inl (cB31, 900, .inl f32))] := hD
                      have hK : va_K (dC, dI) vwCl [(cB31, .byte)] s := hK
                      rcases hw with rfl | ⟨rfl, h17158, h17159, h17160⟩
                      · refine lv_if_eq (tgt := 147) hx hb dX12_goesOn_95 (by decide) (fun _ => ?_) (fun c17161 => absurd c17161 (by decide))
                        refine lv_iload_n hx hb dX12_goesOn_147 rfl (lv_at hl 0 rfl) ?_
                        refine lv_bipush (v := 8) hx hb dX12_goesOn_148 (by decide) ?_
                        refine lv_icmp_gt (tgt := 265) hx hb dX12_goesOn_150 (by decide) (fun c17162 => ?_) (fun c17162 => ?_)
                        · simp only [fa_lt, fa_le, fa_eq, ltv_0, ltv_8] at c17162
                          have hP9 := hP.sub (ws' := [(a0, .inr (9, [g2, g3, g4, g5, g6, .ref a1, g7, .int k8, .int z17149, .int 0, .int z11434, .int k12, g13, g14, .long j17150, g16, g17, g18, g19, g20, g21, g22, g23, g24, g25, g26, g27, g28, g29, g30])), (a1, .inl (cB31, 900, .inl f32))]) [0, 1] rfl
                          have hD9 := hD.sub (ws' := [(a0, .inr (9, [g2, g3, g4, g5, g6, .ref a1, g7, .int k8, .int z17149, .int 0, .int z11434, .int k12, g13, g14, .long j17150, g16, g17, g18, g19, g20, g21, g22, g23, g24, g25, g26, g27, g28, g29, g30])), (a1, .inl (cB31, 900, .inl f32))]) [0, 1] (by decide) rfl
                          have hK9 := hK.sub (tys' := []) [] rfl
                          exact W.vret hx hb hr (fun t ht hW => ⟨⟨(z17149, 0, z11434, k12, j17150), rfl, ⟨(by first | trivial | omega | (simp only [ltv_0]; omega)), (by first | trivial | omega | (simp only [ltv_0]; omega))⟩, by rw [ht]; exact hP9, va_K.moved hW.alike hK9, hD9⟩, hS.F ht⟩) hS.2.2 dX12_goesOn_265
                        · simp only [fa_lt, fa_le, fa_eq, ltv_0, ltv_8] at c17162
                          refine lv_aload_n hx hb dX12_goesOn_153 rfl (lv_at hl 2 rfl) ?_
                          refine lv_iconst (v := 2) hx hb dX12_goesOn_154 (by decide) ?_
                          refine va_put (D := (dC, dI)) (ci := 9) (v := .int 2) (ty := .int) (C := RX12) (T := TX12) (N := 30) hx hb hts iX12_goesOn_X12 tyX12 tyX12_ok nmX12 hown hK hP hD hS 0 rfl rfl 9 (by decide) (hts (.fieldLink RX12 68 "HookPierModel" "sort" "I") (List.mem_of_getElem? (i := 1) rfl)) (fun _ h9 => h9) rfl (by decide +kernel) rfl rfl (Nat.le_of_ble_eq_true rfl) dX12_goesOn_155 (fun H locs hP hD hS => ?_)
                          have hP : va_P (dC, dI) vwCl [(a0, .inr (9, [g2, g3, g4, g5, g6, .ref a1, g7, .int k8, .int z17149, .int 2, .int z11434, .int k12, g13, g14, .long j17150, g16, g17, g18, g19, g20, g21, g22, g23, g24, g25, g26, g27, g28, g29, g30])), (a1, .inl (cB31, 900, .inl f32))] H := hP
                          have hD : va_D A [(a0, .inr (9, [g2, g3, g4, g5, g6, .ref a1, g7, .int k8, .int z17149, .int 2, .int z11434, .int k12, g13, g14, .long j17150, g16, g17, g18, g19, g20, g21, g22, g23, g24, g25, g26, g27, g28, g29, g30])), (a1, .inl (cB31, 900, .inl f32))] := hD
                          refine lv_goto (tgt := 265) hx hb dX12_goesOn_158 (by decide) ?_
                          have hP9 := hP.sub (ws' := [(a0, .inr (9, [g2, g3, g4, g5, g6, .ref a1, g7, .int k8, .int z17149, .int 2, .int z11434, .int k12, g13, g14, .long j17150, g16, g17, g18, g19, g20, g21, g22, g23, g24, g25, g26, g27, g28, g29, g30])), (a1, .inl (cB31, 900, .inl f32))]) [0, 1] rfl
                          have hD9 := hD.sub (ws' := [(a0, .inr (9, [g2, g3, g4, g5, g6, .ref a1, g7, .int k8, .int z17149, .int 2, .int z11434, .int k12, g13, g14, .long j17150, g16, g17, g18, g19, g20, g21, g22, g23, g24, g25, g26, g27, g28, g29, g30])), (a1, .inl (cB31, 900, .inl f32))]) [0, 1] (by decide) rfl
                          have hK9 := hK.sub (tys' := []) [] rfl
                          exact W.vret hx hb hr (fun t ht hW => ⟨⟨(z17149, 2, z11434, k12, j17150), rfl, ⟨(by first | trivial | omega | (simp only [ltv_0, ltv_2]; omega)), (by first | trivial | omega | (simp only [ltv_0, ltv_2]; omega))⟩, by rw [ht]; exact hP9, va_K.moved hW.alike hK9, hD9⟩, hS.F ht⟩) hS.2.2 dX12_goesOn_265
                      · exact False.elim (by first | omega | (have l0 := ltv_m1; have l1 := ltv_0; omega))
                    · refine cl_i (wc := []) (wr := [(a0, .inr (9, [g2, g3, g4, g5, g6, .ref a1, g7, .int k8, .int z17149, .int 0, .int z11434, .int k12, g13, g14, .long j17150, g16, g17, g18, g19, g20, g21, g22, g23, g24, g25, g26, g27, g28, g29, g30])), (a1, .inl (cB31, 900, .inl f32))]) (va_runS (As := [.int z17152]) (rest := []) ⟨hx, hb, hml, hown, hts⟩ (kX12_isLetter l dC dI z17152  H.size) (va_cwS 1 hts gX12_goesOn_1 rfl rfl rfl (by decide +kernel) ⟨Nat.le_of_ble_eq_true rfl, Nat.le_of_ble_eq_true rfl⟩) (PS (hP.sub (ws' := []) [] rfl) (hK.sub (tys' := []) [] rfl) (hD.sub (ws' := []) [] (by decide) rfl) hN) rfl rfl hl.1 rfl (lv_room (Nat.le_of_ble_eq_true rfl)) dX12_goesOn_92 ⟨Nat.le_of_ble_eq_true rfl, Nat.le_of_ble_eq_true rfl⟩) hP hD hK hS hA [] [0, 1] rfl rfl (by decide) (by decide) (fun z17163 _u H locs hw hP hD hK hS => ?_)
                      have b17164 := hw
                      have hP : va_P (dC, dI) vwCl [(a0, .inr (9, [g2, g3, g4, g5, g6, .ref a1, g7, .int k8, .int z17149, .int 0, .int z11434, .int k12, g13, g14, .long j17150, g16, g17, g18, g19, g20, g21, g22, g23, g24, g25, g26, g27, g28, g29, g30])), (a1, .inl (cB31, 900, .inl f32))] H := hP
                      have hD : va_D A [(a0, .inr (9, [g2, g3, g4, g5, g6, .ref a1, g7, .int k8, .int z17149, .int 0, .int z11434, .int k12, g13, g14, .long j17150, g16, g17, g18, g19, g20, g21, g22, g23, g24, g25, g26, g27, g28, g29, g30])), (a1, .inl (cB31, 900, .inl f32))] := hD
                      have hK : va_K (dC, dI) vwCl [(cB31, .byte)] s := hK
                      rcases hw with rfl | ⟨rfl, h17165, h17166, h17167⟩
                      · refine lv_if_eq (tgt := 147) hx hb dX12_goesOn_95 (by decide) (fun _ => ?_) (fun c17168 => absurd c17168 (by decide))
                        refine lv_iload_n hx hb dX12_goesOn_147 rfl (lv_at hl 0 rfl) ?_
                        refine lv_bipush (v := 8) hx hb dX12_goesOn_148 (by decide) ?_
                        refine lv_icmp_gt (tgt := 265) hx hb dX12_goesOn_150 (by decide) (fun c17169 => ?_) (fun c17169 => ?_)
                        · simp only [fa_lt, fa_le, fa_eq, ltv_0, ltv_8] at c17169
                          have hP9 := hP.sub (ws' := [(a0, .inr (9, [g2, g3, g4, g5, g6, .ref a1, g7, .int k8, .int z17149, .int 0, .int z11434, .int k12, g13, g14, .long j17150, g16, g17, g18, g19, g20, g21, g22, g23, g24, g25, g26, g27, g28, g29, g30])), (a1, .inl (cB31, 900, .inl f32))]) [0, 1] rfl
                          have hD9 := hD.sub (ws' := [(a0, .inr (9, [g2, g3, g4, g5, g6, .ref a1, g7, .int k8, .int z17149, .int 0, .int z11434, .int k12, g13, g14, .long j17150, g16, g17, g18, g19, g20, g21, g22, g23, g24, g25, g26, g27, g28, g29, g30])), (a1, .inl (cB31, 900, .inl f32))]) [0, 1] (by decide) rfl
                          have hK9 := hK.sub (tys' := []) [] rfl
                          exact W.vret hx hb hr (fun t ht hW => ⟨⟨(z17149, 0, z11434, k12, j17150), rfl, ⟨(by first | trivial | omega | (simp only [ltv_0]; omega)), (by first | trivial | omega | (simp only [ltv_0]; omega))⟩, by rw [ht]; exact hP9, va_K.moved hW.alike hK9, hD9⟩, hS.F ht⟩) hS.2.2 dX12_goesOn_265
                        · simp only [fa_lt, fa_le, fa_eq, ltv_0, ltv_8] at c17169
                          refine lv_aload_n hx hb dX12_goesOn_153 rfl (lv_at hl 2 rfl) ?_
                          refine lv_iconst (v := 2) hx hb dX12_goesOn_154 (by decide) ?_
                          refine va_put (D := (dC, dI)) (ci := 9) (v := .int 2) (ty := .int) (C := RX12) (T := TX12) (N := 30) hx hb hts iX12_goesOn_X12 tyX12 tyX12_ok nmX12 hown hK hP hD hS 0 rfl rfl 9 (by decide) (hts (.fieldLink RX12 68 "HookPierModel" "sort" "I") (List.mem_of_getElem? (i := 1) rfl)) (fun _ h9 => h9) rfl (by decide +kernel) rfl rfl (Nat.le_of_ble_eq_true rfl) dX12_goesOn_155 (fun H locs hP hD hS => ?_)
                          have hP : va_P (dC, dI) vwCl [(a0, .inr (9, [g2, g3, g4, g5, g6, .ref a1, g7, .int k8, .int z17149, .int 2, .int z11434, .int k12, g13, g14, .long j17150, g16, g17, g18, g19, g20, g21, g22, g23, g24, g25, g26, g27, g28, g29, g30])), (a1, .inl (cB31, 900, .inl f32))] H := hP
                          have hD : va_D A [(a0, .inr (9, [g2, g3, g4, g5, g6, .ref a1, g7, .int k8, .int z17149, .int 2, .int z11434, .int k12, g13, g14, .long j17150, g16, g17, g18, g19, g20, g21, g22, g23, g24, g25, g26, g27, g28, g29, g30])), (a1, .inl (cB31, 900, .inl f32))] := hD
                          refine lv_goto (tgt := 265) hx hb dX12_goesOn_158 (by decide) ?_
                          have hP9 := hP.sub (ws' := [(a0, .inr (9, [g2, g3, g4, g5, g6, .ref a1, g7, .int k8, .int z17149, .int 2, .int z11434, .int k12, g13, g14, .long j17150, g16, g17, g18, g19, g20, g21, g22, g23, g24, g25, g26, g27, g28, g29, g30])), (a1, .inl (cB31, 900, .inl f32))]) [0, 1] rfl
                          have hD9 := hD.sub (ws' := [(a0, .inr (9, [g2, g3, g4, g5, g6, .ref a1, g7, .int k8, .int z17149, .int 2, .int z11434, .int k12, g13, g14, .long j17150, g16, g17, g18, g19, g20, g21, g22, g23, g24, g25, g26, g27, g28, g29, g30])), (a1, .inl (cB31, 900, .inl f32))]) [0, 1] (by decide) rfl
                          have hK9 := hK.sub (tys' := []) [] rfl
                          exact W.vret hx hb hr (fun t ht hW => ⟨⟨(z17149, 2, z11434, k12, j17150), rfl, ⟨(by first | trivial | omega | (simp only [ltv_0, ltv_2]; omega)), (by first | trivial | omega | (simp only [ltv_0, ltv_2]; omega))⟩, by rw [ht]; exact hP9, va_K.moved hW.alike hK9, hD9⟩, hS.F ht⟩) hS.2.2 dX12_goesOn_265
                      · refine lv_if_eq (tgt := 147) hx hb dX12_goesOn_95 (by decide) (fun c17170 => absurd c17170 (by decide)) (fun _ => ?_)
                        refine lv_iload_n hx hb dX12_goesOn_98 rfl (lv_at hl 0 rfl) ?_
                        refine lv_bipush (v := 8) hx hb dX12_goesOn_99 (by decide) ?_
                        refine lv_icmp_ge (tgt := 131) hx hb dX12_goesOn_101 (by decide) (fun c17171 => ?_) (fun c17171 => ?_)
                        · simp only [fa_lt, fa_le, fa_eq, ltv_0, ltv_8] at c17171
                          obtain ⟨z17172, ez17172⟩ : ∃ y : Int32, y = z17148 + 1 := ⟨_, rfl⟩
                          refine lv_iinc (v := z17172) (lv' := [(2, .int z17172), (1, .int z14316), (0, .ref a0)]) hx hb dX12_goesOn_131 hl (k := 0) rfl (by rw [ez17172]; rfl) (by decide) rfl (fun ls hl => ?_)
                          refine lv_aload_n hx hb dX12_goesOn_134 rfl (lv_at hl 2 rfl) ?_
                          refine lv_dup hx hb dX12_goesOn_135 rfl ?_
                          refine va_get (D := (dC, dI)) (ci := 9) (v := .int z17149) (C := RX12) (T := TX12) (N := 30) hx hb hts iX12_goesOn_X12 hown hK hP 0 rfl rfl 8 (by decide) (hts (.fieldLink RX12 71 "HookPierModel" "spot" "I") (List.mem_of_getElem? (i := 2) rfl)) (fun _ h9 => h9) rfl dX12_goesOn_136 ?_
                          refine lv_iconst (v := 1) hx hb dX12_goesOn_139 (by decide) ?_
                          refine lv_iadd hx hb dX12_goesOn_140 ?_
                          refine lv_topi (fun z17173 ez17173 => ?_)
                          have tz17173 : z17173.toInt = z17149.toInt + 1 := by rw [ez17173]; rw [iadd_t (by first | omega | (simp only [ltv_0, ltv_1]; omega)) (by first | omega | (simp only [ltv_0, ltv_1]; omega))]; first | done | (simp only [ltv_0, ltv_1])
                          refine va_put (D := (dC, dI)) (ci := 9) (v := .int z17173) (ty := .int) (C := RX12) (T := TX12) (N := 30) hx hb hts iX12_goesOn_X12 tyX12 tyX12_ok nmX12 hown hK hP hD hS 0 rfl rfl 8 (by decide) (hts (.fieldLink RX12 71 "HookPierModel" "spot" "I") (List.mem_of_getElem? (i := 2) rfl)) (fun _ h9 => h9) rfl (by decide +kernel) rfl rfl (Nat.le_of_ble_eq_true rfl) dX12_goesOn_141 (fun H locs hP hD hS => ?_)
                          have hP : va_P (dC, dI) vwCl [(a0, .inr (9, [g2, g3, g4, g5, g6, .ref a1, g7, .int k8, .int z17173, .int 0, .int z11434, .int k12, g13, g14, .long j17150, g16, g17, g18, g19, g20, g21, g22, g23, g24, g25, g26, g27, g28, g29, g30])), (a1, .inl (cB31, 900, .inl f32))] H := hP
                          have hD : va_D A [(a0, .inr (9, [g2, g3, g4, g5, g6, .ref a1, g7, .int k8, .int z17173, .int 0, .int z11434, .int k12, g13, g14, .long j17150, g16, g17, g18, g19, g20, g21, g22, g23, g24, g25, g26, g27, g28, g29, g30])), (a1, .inl (cB31, 900, .inl f32))] := hD
                          refine lv_goto (tgt := 84) hx hb dX12_goesOn_144 (by decide) ?_
                          exact ih84 z17172 z17173 j17150 H locs ls (by first | omega | (simp only [ltv_0]; omega)) (by first | omega | (simp only [ltv_0]; omega)) hP hD hS (lv_sub hl [0, 1, 2] rfl)
                        · simp only [fa_lt, fa_le, fa_eq, ltv_0, ltv_8] at c17171
                          refine lv_aload_n hx hb dX12_goesOn_104 rfl (lv_at hl 2 rfl) ?_
                          refine lv_ldc2 hx hb hown (hts (.constantLong RX12 62 (32)) (List.mem_of_getElem? (i := 19) rfl)) dX12_goesOn_105 ?_
                          refine lv_aload_n hx hb dX12_goesOn_108 rfl (lv_at hl 2 rfl) ?_
                          refine va_get (D := (dC, dI)) (ci := 9) (v := .long j17150) (C := RX12) (T := TX12) (N := 30) hx hb hts iX12_goesOn_X12 hown hK hP 0 rfl rfl 14 (by decide) (hts (.fieldLink RX12 84 "HookPierModel" "word" "J") (List.mem_of_getElem? (i := 18) rfl)) (fun _ h9 => h9) rfl dX12_goesOn_109 ?_
                          refine lv_lmul hx hb dX12_goesOn_112 ?_
                          refine lv_topl (fun z17174 ez17174 => ?_)
                          clear ez17174
                          refine lv_aload_n hx hb dX12_goesOn_113 rfl (lv_at hl 2 rfl) ?_
                          refine lv_aload_n hx hb dX12_goesOn_114 rfl (lv_at hl 2 rfl) ?_
                          refine va_get (D := (dC, dI)) (ci := 9) (v := .int z17149) (C := RX12) (T := TX12) (N := 30) hx hb hts iX12_goesOn_X12 hown hK hP 0 rfl rfl 8 (by decide) (hts (.fieldLink RX12 71 "HookPierModel" "spot" "I") (List.mem_of_getElem? (i := 2) rfl)) (fun _ h9 => h9) rfl dX12_goesOn_115 ?_
                          refine cl_i (wc := [(a0, .inr (9, [g2, g3, g4, g5, g6, .ref a1, g7, .int k8, .int z17149, .int 0, .int z11434, .int k12, g13, g14, .long j17150, g16, g17, g18, g19, g20, g21, g22, g23, g24, g25, g26, g27, g28, g29, g30])), (a1, .inl (cB31, 900, .inl f32))]) (wr := []) (va_runV (As := [.int z17149]) (rest := [.long z17174, .ref a0]) ⟨hx, hb, hml, hown, hts⟩ (kX12_byteAt l dC dI a0 z17149 a1 (g2) (g3) (g4) (g5) (g6) (g7) k8 (.int z17149) (.int 0) (.int z11434) (.int k12) (g13) (g14) (.long j17150) (g16) (g17) (g18) (g19) (g20) (g21) (g22) (g23) (g24) (g25) (g26) (g27) (g28) (g29) (g30) cB31 f32 (by first | omega | (simp only [ltv_0]; omega)) (by first | omega | (simp only [ltv_0]; omega)) H.size) (cwV 1 hts gX12_goesOn_0 rfl rfl rfl (by decide +kernel) ⟨Nat.le_of_ble_eq_true rfl, Nat.le_of_ble_eq_true rfl⟩) (PV (hP.sub (ws' := [(a0, .inr (9, [g2, g3, g4, g5, g6, .ref a1, g7, .int k8, .int z17149, .int 0, .int z11434, .int k12, g13, g14, .long j17150, g16, g17, g18, g19, g20, g21, g22, g23, g24, g25, g26, g27, g28, g29, g30])), (a1, .inl (cB31, 900, .inl f32))]) [0, 1] rfl) (hK.sub (tys' := [(cB31, .byte)]) [0] rfl) (hD.sub (ws' := [(a0, .inr (9, [g2, g3, g4, g5, g6, .ref a1, g7, .int k8, .int z17149, .int 0, .int z11434, .int k12, g13, g14, .long j17150, g16, g17, g18, g19, g20, g21, g22, g23, g24, g25, g26, g27, g28, g29, g30])), (a1, .inl (cB31, 900, .inl f32))]) [0, 1] (by decide) rfl) hN 0 rfl rfl) rfl rfl hl.1 rfl (lv_room (Nat.le_of_ble_eq_true rfl)) dX12_goesOn_118 ⟨Nat.le_of_ble_eq_true rfl, Nat.le_of_ble_eq_true rfl⟩) hP hD hK hS hA [0, 1] [] rfl rfl (by decide) (by decide) (fun z17175 _u H locs hw hP hD hK hS => ?_)
                          have b17176 := hw
                          have hP : va_P (dC, dI) vwCl [(a0, .inr (9, [g2, g3, g4, g5, g6, .ref a1, g7, .int k8, .int z17149, .int 0, .int z11434, .int k12, g13, g14, .long j17150, g16, g17, g18, g19, g20, g21, g22, g23, g24, g25, g26, g27, g28, g29, g30])), (a1, .inl (cB31, 900, .inl f32))] H := hP
                          have hD : va_D A [(a0, .inr (9, [g2, g3, g4, g5, g6, .ref a1, g7, .int k8, .int z17149, .int 0, .int z11434, .int k12, g13, g14, .long j17150, g16, g17, g18, g19, g20, g21, g22, g23, g24, g25, g26, g27, g28, g29, g30])), (a1, .inl (cB31, 900, .inl f32))] := hD
                          have hK : va_K (dC, dI) vwCl [(cB31, .byte)] s := hK
                          rcases hw with rfl | ⟨h17178, h17178_0⟩
                          · refine lv_bipush (v := 97) hx hb dX12_goesOn_121 (by decide) ?_
                            refine lv_isub hx hb dX12_goesOn_123 ?_
                            refine lv_topi (fun z17179 ez17179 => ?_)
                            obtain rfl : z17179 = (-98) := ez17179.trans (by decide)
                            refine lv_iconst (v := 1) hx hb dX12_goesOn_124 (by decide) ?_
                            refine lv_iadd hx hb dX12_goesOn_125 ?_
                            refine lv_topi (fun z17180 ez17180 => ?_)
                            obtain rfl : z17180 = (-97) := ez17180.trans (by decide)
                            refine lv_i2l (v := (-97)) hx hb dX12_goesOn_126 (by decide) ?_
                            refine lv_ladd hx hb dX12_goesOn_127 ?_
                            refine lv_topl (fun z17181 ez17181 => ?_)
                            clear ez17181
                            refine va_put (D := (dC, dI)) (ci := 9) (v := .long z17181) (ty := .long) (C := RX12) (T := TX12) (N := 30) hx hb hts iX12_goesOn_X12 tyX12 tyX12_ok nmX12 hown hK hP hD hS 0 rfl rfl 14 (by decide) (hts (.fieldLink RX12 84 "HookPierModel" "word" "J") (List.mem_of_getElem? (i := 18) rfl)) (fun _ h9 => h9) rfl (by decide +kernel) rfl rfl (Nat.le_of_ble_eq_true rfl) dX12_goesOn_128 (fun H locs hP hD hS => ?_)
                            have hP : va_P (dC, dI) vwCl [(a0, .inr (9, [g2, g3, g4, g5, g6, .ref a1, g7, .int k8, .int z17149, .int 0, .int z11434, .int k12, g13, g14, .long z17181, g16, g17, g18, g19, g20, g21, g22, g23, g24, g25, g26, g27, g28, g29, g30])), (a1, .inl (cB31, 900, .inl f32))] H := hP
                            have hD : va_D A [(a0, .inr (9, [g2, g3, g4, g5, g6, .ref a1, g7, .int k8, .int z17149, .int 0, .int z11434, .int k12, g13, g14, .long z17181, g16, g17, g18, g19, g20, g21, g22, g23, g24, g25, g26, g27, g28, g29, g30])), (a1, .inl (cB31, 900, .inl f32))] := hD
                            obtain ⟨z17182, ez17182⟩ : ∃ y : Int32, y = z17148 + 1 := ⟨_, rfl⟩
                            have rgz17182 := i32_rg z17148
                            have tz17182 : z17182.toInt = z17148.toInt + 1 := by rw [ez17182, iadd_t (by simp only [ltv_1]; omega) (by simp only [ltv_1]; omega)]; simp only [ltv_1]
                            refine lv_iinc (v := z17182) (lv' := [(2, .int z17182), (1, .int z14316), (0, .ref a0)]) hx hb dX12_goesOn_131 hl (k := 0) rfl (by rw [ez17182]; rfl) (by decide) rfl (fun ls hl => ?_)
                            refine lv_aload_n hx hb dX12_goesOn_134 rfl (lv_at hl 2 rfl) ?_
                            refine lv_dup hx hb dX12_goesOn_135 rfl ?_
                            refine va_get (D := (dC, dI)) (ci := 9) (v := .int z17149) (C := RX12) (T := TX12) (N := 30) hx hb hts iX12_goesOn_X12 hown hK hP 0 rfl rfl 8 (by decide) (hts (.fieldLink RX12 71 "HookPierModel" "spot" "I") (List.mem_of_getElem? (i := 2) rfl)) (fun _ h9 => h9) rfl dX12_goesOn_136 ?_
                            refine lv_iconst (v := 1) hx hb dX12_goesOn_139 (by decide) ?_
                            refine lv_iadd hx hb dX12_goesOn_140 ?_
                            refine lv_topi (fun z17183 ez17183 => ?_)
                            have tz17183 : z17183.toInt = z17149.toInt + 1 := by rw [ez17183]; rw [iadd_t (by first | omega | (simp only [ltv_0, ltv_1]; omega)) (by first | omega | (simp only [ltv_0, ltv_1]; omega))]; first | done | (simp only [ltv_0, ltv_1])
                            refine va_put (D := (dC, dI)) (ci := 9) (v := .int z17183) (ty := .int) (C := RX12) (T := TX12) (N := 30) hx hb hts iX12_goesOn_X12 tyX12 tyX12_ok nmX12 hown hK hP hD hS 0 rfl rfl 8 (by decide) (hts (.fieldLink RX12 71 "HookPierModel" "spot" "I") (List.mem_of_getElem? (i := 2) rfl)) (fun _ h9 => h9) rfl (by decide +kernel) rfl rfl (Nat.le_of_ble_eq_true rfl) dX12_goesOn_141 (fun H locs hP hD hS => ?_)
                            have hP : va_P (dC, dI) vwCl [(a0, .inr (9, [g2, g3, g4, g5, g6, .ref a1, g7, .int k8, .int z17183, .int 0, .int z11434, .int k12, g13, g14, .long z17181, g16, g17, g18, g19, g20, g21, g22, g23, g24, g25, g26, g27, g28, g29, g30])), (a1, .inl (cB31, 900, .inl f32))] H := hP
                            have hD : va_D A [(a0, .inr (9, [g2, g3, g4, g5, g6, .ref a1, g7, .int k8, .int z17183, .int 0, .int z11434, .int k12, g13, g14, .long z17181, g16, g17, g18, g19, g20, g21, g22, g23, g24, g25, g26, g27, g28, g29, g30])), (a1, .inl (cB31, 900, .inl f32))] := hD
                            refine lv_goto (tgt := 84) hx hb dX12_goesOn_144 (by decide) ?_
                            exact ih84 z17182 z17183 z17181 H locs ls (by first | omega | (simp only [ltv_0]; omega)) (by first | omega | (simp only [ltv_0]; omega)) hP hD hS (lv_sub hl [0, 1, 2] rfl)
                          · refine lv_bipush (v := 97) hx hb dX12_goesOn_121 (by decide) ?_
                            refine lv_isub hx hb dX12_goesOn_123 ?_
                            refine lv_topi (fun z17184 ez17184 => ?_)
                            have tz17184 : z17184.toInt = z17175.toInt - 97 := by rw [ez17184]; rw [isub_t (by first | omega | (simp only [ltv_0, ltv_97]; omega)) (by first | omega | (simp only [ltv_0, ltv_97]; omega))]; first | done | (simp only [ltv_0, ltv_97])
                            refine lv_iconst (v := 1) hx hb dX12_goesOn_124 (by decide) ?_
                            refine lv_iadd hx hb dX12_goesOn_125 ?_
                            refine lv_topi (fun z17185 ez17185 => ?_)
                            have tz17185 : z17185.toInt = z17184.toInt + 1 := by rw [ez17185]; rw [iadd_t (by first | omega | (simp only [ltv_0, ltv_1]; omega)) (by first | omega | (simp only [ltv_0, ltv_1]; omega))]; first | done | (simp only [ltv_0, ltv_1])
                            refine lv_i2l hx hb dX12_goesOn_126 rfl ?_
                            refine lv_topl (fun z17186 ez17186 => ?_)
                            clear ez17186
                            refine lv_ladd hx hb dX12_goesOn_127 ?_
                            refine lv_topl (fun z17187 ez17187 => ?_)
                            clear ez17187
                            refine va_put (D := (dC, dI)) (ci := 9) (v := .long z17187) (ty := .long) (C := RX12) (T := TX12) (N := 30) hx hb hts iX12_goesOn_X12 tyX12 tyX12_ok nmX12 hown hK hP hD hS 0 rfl rfl 14 (by decide) (hts (.fieldLink RX12 84 "HookPierModel" "word" "J") (List.mem_of_getElem? (i := 18) rfl)) (fun _ h9 => h9) rfl (by decide +kernel) rfl rfl (Nat.le_of_ble_eq_true rfl) dX12_goesOn_128 (fun H locs hP hD hS => ?_)
                            have hP : va_P (dC, dI) vwCl [(a0, .inr (9, [g2, g3, g4, g5, g6, .ref a1, g7, .int k8, .int z17149, .int 0, .int z11434, .int k12, g13, g14, .long z17187, g16, g17, g18, g19, g20, g21, g22, g23, g24, g25, g26, g27, g28, g29, g30])), (a1, .inl (cB31, 900, .inl f32))] H := hP
                            have hD : va_D A [(a0, .inr (9, [g2, g3, g4, g5, g6, .ref a1, g7, .int k8, .int z17149, .int 0, .int z11434, .int k12, g13, g14, .long z17187, g16, g17, g18, g19, g20, g21, g22, g23, g24, g25, g26, g27, g28, g29, g30])), (a1, .inl (cB31, 900, .inl f32))] := hD
                            obtain ⟨z17188, ez17188⟩ : ∃ y : Int32, y = z17148 + 1 := ⟨_, rfl⟩
                            have rgz17188 := i32_rg z17148
                            have tz17188 : z17188.toInt = z17148.toInt + 1 := by rw [ez17188, iadd_t (by simp only [ltv_1]; omega) (by simp only [ltv_1]; omega)]; simp only [ltv_1]
                            refine lv_iinc (v := z17188) (lv' := [(2, .int z17188), (1, .int z14316), (0, .ref a0)]) hx hb dX12_goesOn_131 hl (k := 0) rfl (by rw [ez17188]; rfl) (by decide) rfl (fun ls hl => ?_)
                            refine lv_aload_n hx hb dX12_goesOn_134 rfl (lv_at hl 2 rfl) ?_
                            refine lv_dup hx hb dX12_goesOn_135 rfl ?_
                            refine va_get (D := (dC, dI)) (ci := 9) (v := .int z17149) (C := RX12) (T := TX12) (N := 30) hx hb hts iX12_goesOn_X12 hown hK hP 0 rfl rfl 8 (by decide) (hts (.fieldLink RX12 71 "HookPierModel" "spot" "I") (List.mem_of_getElem? (i := 2) rfl)) (fun _ h9 => h9) rfl dX12_goesOn_136 ?_
                            refine lv_iconst (v := 1) hx hb dX12_goesOn_139 (by decide) ?_
                            refine lv_iadd hx hb dX12_goesOn_140 ?_
                            refine lv_topi (fun z17189 ez17189 => ?_)
                            have tz17189 : z17189.toInt = z17149.toInt + 1 := by rw [ez17189]; rw [iadd_t (by first | omega | (simp only [ltv_0, ltv_1]; omega)) (by first | omega | (simp only [ltv_0, ltv_1]; omega))]; first | done | (simp only [ltv_0, ltv_1])
                            refine va_put (D := (dC, dI)) (ci := 9) (v := .int z17189) (ty := .int) (C := RX12) (T := TX12) (N := 30) hx hb hts iX12_goesOn_X12 tyX12 tyX12_ok nmX12 hown hK hP hD hS 0 rfl rfl 8 (by decide) (hts (.fieldLink RX12 71 "HookPierModel" "spot" "I") (List.mem_of_getElem? (i := 2) rfl)) (fun _ h9 => h9) rfl (by decide +kernel) rfl rfl (Nat.le_of_ble_eq_true rfl) dX12_goesOn_141 (fun H locs hP hD hS => ?_)
                            have hP : va_P (dC, dI) vwCl [(a0, .inr (9, [g2, g3, g4, g5, g6, .ref a1, g7, .int k8, .int z17189, .int 0, .int z11434, .int k12, g13, g14, .long z17187, g16, g17, g18, g19, g20, g21, g22, g23, g24, g25, g26, g27, g28, g29, g30])), (a1, .inl (cB31, 900, .inl f32))] H := hP
                            have hD : va_D A [(a0, .inr (9, [g2, g3, g4, g5, g6, .ref a1, g7, .int k8, .int z17189, .int 0, .int z11434, .int k12, g13, g14, .long z17187, g16, g17, g18, g19, g20, g21, g22, g23, g24, g25, g26, g27, g28, g29, g30])), (a1, .inl (cB31, 900, .inl f32))] := hD
                            refine lv_goto (tgt := 84) hx hb dX12_goesOn_144 (by decide) ?_
                            exact ih84 z17188 z17189 z17187 H locs ls (by first | omega | (simp only [ltv_0]; omega)) (by first | omega | (simp only [ltv_0]; omega)) hP hD hS (lv_sub hl [0, 1, 2] rfl)
                exact L84_17151 901 (0) z11434 (0) H _ ls (by first | omega | (simp only [ltv_0]; omega)) (by first | omega | (simp only [ltv_0]; omega)) hP hD hS (lv_sub hl [0, 1, 2] rfl)
          · simp only [fa_lt, fa_le, fa_eq, ltv_0, ltv_32] at c14315
            refine lv_aload_n hx hb dX12_goesOn_22 rfl (lv_at hl 0 rfl) ?_
            refine lv_dup hx hb dX12_goesOn_23 rfl ?_
            refine va_get (D := (dC, dI)) (ci := 9) (v := .int z11434) (C := RX12) (T := TX12) (N := 30) hx hb hts iX12_goesOn_X12 hown hK hP 0 rfl rfl 8 (by decide) (hts (.fieldLink RX12 71 "HookPierModel" "spot" "I") (List.mem_of_getElem? (i := 2) rfl)) (fun _ h9 => h9) rfl dX12_goesOn_24 ?_
            refine lv_iconst (v := 1) hx hb dX12_goesOn_27 (by decide) ?_
            refine lv_iadd hx hb dX12_goesOn_28 ?_
            refine lv_topi (fun z17190 ez17190 => ?_)
            have tz17190 : z17190.toInt = z11434.toInt + 1 := by rw [ez17190]; rw [iadd_t (by first | omega | (simp only [ltv_0, ltv_1]; omega)) (by first | omega | (simp only [ltv_0, ltv_1]; omega))]; first | done | (simp only [ltv_0, ltv_1])
            refine va_put (D := (dC, dI)) (ci := 9) (v := .int z17190) (ty := .int) (C := RX12) (T := TX12) (N := 30) hx hb hts iX12_goesOn_X12 tyX12 tyX12_ok nmX12 hown hK hP hD hS 0 rfl rfl 8 (by decide) (hts (.fieldLink RX12 71 "HookPierModel" "spot" "I") (List.mem_of_getElem? (i := 2) rfl)) (fun _ h9 => h9) rfl (by decide +kernel) rfl rfl (Nat.le_of_ble_eq_true rfl) dX12_goesOn_29 (fun H locs hP hD hS => ?_)
            have hP : va_P (dC, dI) vwCl [(a0, .inr (9, [g2, g3, g4, g5, g6, .ref a1, g7, .int k8, .int z17190, .int k10, .int k11, .int k12, g13, g14, .long j15, g16, g17, g18, g19, g20, g21, g22, g23, g24, g25, g26, g27, g28, g29, g30])), (a1, .inl (cB31, 900, .inl f32))] H := hP
            have hD : va_D A [(a0, .inr (9, [g2, g3, g4, g5, g6, .ref a1, g7, .int k8, .int z17190, .int k10, .int k11, .int k12, g13, g14, .long j15, g16, g17, g18, g19, g20, g21, g22, g23, g24, g25, g26, g27, g28, g29, g30])), (a1, .inl (cB31, 900, .inl f32))] := hD
            refine lv_goto (tgt := 9) hx hb dX12_goesOn_32 (by decide) ?_
            exact ih9 z17190 H locs ls (by first | omega | (simp only [ltv_0]; omega)) (by first | omega | (simp only [ltv_0]; omega)) hP hD hS (lv_sub hl [0] rfl)
    exact L9_11435 901 k9 s.heap _ ls (by first | omega | (simp only [ltv_0]; omega)) (by first | omega | (simp only [ltv_0]; omega)) hP hD hS (lv_sub hl [0] rfl)
  · simp only [fa_lt, fa_le, fa_eq, ltv_0, ltv_5] at c1
    have hP9 := hP.sub (ws' := [(a0, .inr (9, [g2, g3, g4, g5, g6, .ref a1, g7, .int k8, .int k9, .int k10, .int k11, .int k12, g13, g14, .long j15, g16, g17, g18, g19, g20, g21, g22, g23, g24, g25, g26, g27, g28, g29, g30])), (a1, .inl (cB31, 900, .inl f32))]) [0, 1] rfl
    have hD9 := hD.sub (ws' := [(a0, .inr (9, [g2, g3, g4, g5, g6, .ref a1, g7, .int k8, .int k9, .int k10, .int k11, .int k12, g13, g14, .long j15, g16, g17, g18, g19, g20, g21, g22, g23, g24, g25, g26, g27, g28, g29, g30])), (a1, .inl (cB31, 900, .inl f32))]) [0, 1] (by decide) rfl
    have hK9 := hK.sub (tys' := []) [] rfl
    exact W.vret hx hb hr (fun t ht hW => ⟨⟨(k9, k10, k11, k12, j15), rfl, ⟨(by first | trivial | omega | (simp only [ltv_0]; omega)), (by first | trivial | omega | (simp only [ltv_0]; omega))⟩, by rw [ht]; exact hP9, va_K.moved hW.alike hK9, hD9⟩, hS.F ht⟩) hS.2.2 dX12_goesOn_8
theorem dX12_flaw_0 : decode cX12_flaw 0 = .ok (.aload_n 0, 1) := by decide +kernel
theorem dX12_flaw_1 : decode cX12_flaw 1 = .ok (.getfield 68, 3) := by decide +kernel
theorem dX12_flaw_10 : decode cX12_flaw 10 = .ok (.iload_n 1, 1) := by decide +kernel
theorem dX12_flaw_11 : decode cX12_flaw 11 = .ok (.putfield 94, 3) := by decide +kernel
theorem dX12_flaw_14 : decode cX12_flaw 14 = .ok (.aload_n 0, 1) := by decide +kernel
theorem dX12_flaw_15 : decode cX12_flaw 15 = .ok (.aload_n 0, 1) := by decide +kernel
theorem dX12_flaw_16 : decode cX12_flaw 16 = .ok (.getfield 77, 3) := by decide +kernel
theorem dX12_flaw_19 : decode cX12_flaw 19 = .ok (.putfield 97, 3) := by decide +kernel
theorem dX12_flaw_22 : decode cX12_flaw 22 = .ok (.aload_n 0, 1) := by decide +kernel
theorem dX12_flaw_23 : decode cX12_flaw 23 = .ok (.iconst 5, 1) := by decide +kernel
theorem dX12_flaw_24 : decode cX12_flaw 24 = .ok (.putfield 68, 3) := by decide +kernel
theorem dX12_flaw_27 : decode cX12_flaw 27 = .ok (.return_, 1) := by decide +kernel
theorem dX12_flaw_4 : decode cX12_flaw 4 = .ok (.iconst 5, 1) := by decide +kernel
theorem dX12_flaw_5 : decode cX12_flaw 5 = .ok (.if_icmp .ne 4, 3) := by decide +kernel
theorem dX12_flaw_8 : decode cX12_flaw 8 = .ok (.return_, 1) := by decide +kernel
theorem dX12_flaw_9 : decode cX12_flaw 9 = .ok (.aload_n 0, 1) := by decide +kernel
def vX12_flaw : List Cond := .code yX12_flaw cX12_flaw 2 none :: ([.fieldLink RX12 68 "HookPierModel" "sort" "I", .fieldLink RX12 94 "HookPierModel" "fault" "I", .fieldLink RX12 77 "HookPierModel" "place" "I", .fieldLink RX12 97 "HookPierModel" "wrongAt" "I"] ++ wsX120)
theorem iX12_flaw_X12 : ∀ w ∈ wsX120, w ∈ vX12_flaw := fun _ h => List.mem_cons_of_mem _ (List.mem_append_right _ h)
set_option maxHeartbeats 2000000 in
set_option maxRecDepth 100000 in
theorem kX12_flaw (l : Launch) (dC : Nat → ClassId) (dI : Nat → Nat → Nat) (a0 : Nat) (k1 : Int32) (g2 : Value) (g3 : Value) (g4 : Value) (g5 : Value) (g6 : Value) (g7 : Value) (g8 : Value) (g9 : Value) (g10 : Value) (k11 : Int32) (k12 : Int32) (g13 : Value) (k14 : Int32) (k15 : Int32) (g16 : Value) (g17 : Value) (g18 : Value) (g19 : Value) (g20 : Value) (g21 : Value) (g22 : Value) (g23 : Value) (g24 : Value) (g25 : Value) (g26 : Value) (g27 : Value) (g28 : Value) (g29 : Value) (g30 : Value) (g31 : Value) (sz : Nat) : Met l yX12_flaw vX12_flaw ({ frames := 0, cells := 0, slots := 0, locals := 0 }) (PC (dC, dI) [.ref a0, .int k1] sz [(a0, .inr (9, [g2, g3, g4, g5, g6, g7, g8, g9, g10, .int k11, .int k12, g13, .int k14, .int k15, g16, g17, g18, g19, g20, g21, g22, g23, g24, g25, g26, g27, g28, g29, g30, g31]))] []) (va_Qv (S := Int32 × Int32 × Int32) (fun u => (5 ≤ (u.1).toInt ∧ (u.1).toInt ≤ 5)) (fun u t => BC (dC, dI) (va_A [(a0, .inr (9, [g2, g3, g4, g5, g6, g7, g8, g9, g10, .int k11, .int k12, g13, .int k14, .int k15, g16, g17, g18, g19, g20, g21, g22, g23, g24, g25, g26, g27, g28, g29, g30, g31]))] sz) [(a0, .inr (9, [g2, g3, g4, g5, g6, g7, g8, g9, g10, .int (u.1), .int k12, g13, .int (u.2.1), .int (u.2.2), g16, g17, g18, g19, g20, g21, g22, g23, g24, g25, g26, g27, g28, g29, g30, g31]))] [] t) (va_A [(a0, .inr (9, [g2, g3, g4, g5, g6, g7, g8, g9, g10, .int k11, .int k12, g13, .int k14, .int k15, g16, g17, g18, g19, g20, g21, g22, g23, g24, g25, g26, g27, g28, g29, g30, g31]))] sz)) 0 0 (va_A [(a0, .inr (9, [g2, g3, g4, g5, g6, g7, g8, g9, g10, .int k11, .int k12, g13, .int k14, .int k15, g16, g17, g18, g19, g20, g21, g22, g23, g24, g25, g26, g27, g28, g29, g30, g31]))] sz) := by
  refine Met.ofW (cc := cX12_flaw) (maxL := 2) (ret := none) (by decide) rfl ?_
  intro p e s m args below meth c s₁ B hml hv
  obtain ⟨rfl, hsz, hP, hK, hD0, hN⟩ := hv
  have hx := B.exec
  have hb := B.bytes
  have hr := B.returns
  have hts := atoms_spec (ws := vX12_flaw) B.pre
  have hown : s.vm.findClass RX12 = some m.cls := findClass_of_methodNamed B.named
  have hlocks := B.notSynchronized
  subst hsz
  have hD := hD0.self (sz := s.heap.size)
  generalize hAe : va_A [(a0, .inr (9, [g2, g3, g4, g5, g6, g7, g8, g9, g10, .int k11, .int k12, g13, .int k14, .int k15, g16, g17, g18, g19, g20, g21, g22, g23, g24, g25, g26, g27, g28, g29, g30, g31]))] s.heap.size = A at hD ⊢
  have hA : ∀ q : Nat, s.heap.size ≤ q → A q := fun q h => by rw [← hAe]; exact Or.inr h
  have hS : va_S A s.heap s.heap [] := va_S.rf
  have hP : va_P (dC, dI) vwCl [(a0, .inr (9, [g2, g3, g4, g5, g6, g7, g8, g9, g10, .int k11, .int k12, g13, .int k14, .int k15, g16, g17, g18, g19, g20, g21, g22, g23, g24, g25, g26, g27, g28, g29, g30, g31]))] s.heap := hP
  have hl := lv_entry ([.ref a0, .int k1]) (n := 2) (Nat.le_of_ble_eq_true rfl)
  rw [lg_entry_eq]
  generalize (lg_sl ([.ref a0, .int k1]) ++ List.replicate (2 - (lg_sl ([.ref a0, .int k1])).length) Slot.unset).toArray = ls at hl ⊢
  have hl : lv_has ls 2 [(0, .ref a0), (1, .int k1)] := hl
  refine lv_aload_n hx hb dX12_flaw_0 rfl (lv_at hl 0 rfl) ?_
  refine va_get (D := (dC, dI)) (ci := 9) (v := .int k11) (C := RX12) (T := TX12) (N := 30) hx hb hts iX12_flaw_X12 hown hK hP 0 rfl rfl 9 (by decide) (hts (.fieldLink RX12 68 "HookPierModel" "sort" "I") (List.mem_of_getElem? (i := 1) rfl)) (fun _ h9 => h9) rfl dX12_flaw_1 ?_
  refine lv_iconst (v := 5) hx hb dX12_flaw_4 (by decide) ?_
  refine lv_icmp_ne (tgt := 9) hx hb dX12_flaw_5 (by decide) (fun c1 => ?_) (fun c1 => ?_)
  · simp only [fa_lt, fa_le, fa_eq, ltv_0, ltv_5] at c1
    refine lv_aload_n hx hb dX12_flaw_9 rfl (lv_at hl 0 rfl) ?_
    refine lv_iload_n hx hb dX12_flaw_10 rfl (lv_at hl 1 rfl) ?_
    refine va_put (D := (dC, dI)) (ci := 9) (v := .int k1) (ty := .int) (C := RX12) (T := TX12) (N := 30) hx hb hts iX12_flaw_X12 tyX12 tyX12_ok nmX12 hown hK hP hD hS 0 rfl rfl 12 (by decide) (hts (.fieldLink RX12 94 "HookPierModel" "fault" "I") (List.mem_of_getElem? (i := 2) rfl)) (fun _ h9 => h9) rfl (by decide +kernel) rfl rfl (Nat.le_of_ble_eq_true rfl) dX12_flaw_11 (fun H locs hP hD hS => ?_)
    have hP : va_P (dC, dI) vwCl [(a0, .inr (9, [g2, g3, g4, g5, g6, g7, g8, g9, g10, .int k11, .int k12, g13, .int k1, .int k15, g16, g17, g18, g19, g20, g21, g22, g23, g24, g25, g26, g27, g28, g29, g30, g31]))] H := hP
    have hD : va_D A [(a0, .inr (9, [g2, g3, g4, g5, g6, g7, g8, g9, g10, .int k11, .int k12, g13, .int k1, .int k15, g16, g17, g18, g19, g20, g21, g22, g23, g24, g25, g26, g27, g28, g29, g30, g31]))] := hD
    refine lv_aload_n hx hb dX12_flaw_14 rfl (lv_at hl 0 rfl) ?_
    refine lv_aload_n hx hb dX12_flaw_15 rfl (lv_at hl 0 rfl) ?_
    refine va_get (D := (dC, dI)) (ci := 9) (v := .int k12) (C := RX12) (T := TX12) (N := 30) hx hb hts iX12_flaw_X12 hown hK hP 0 rfl rfl 10 (by decide) (hts (.fieldLink RX12 77 "HookPierModel" "place" "I") (List.mem_of_getElem? (i := 3) rfl)) (fun _ h9 => h9) rfl dX12_flaw_16 ?_
    refine va_put (D := (dC, dI)) (ci := 9) (v := .int k12) (ty := .int) (C := RX12) (T := TX12) (N := 30) hx hb hts iX12_flaw_X12 tyX12 tyX12_ok nmX12 hown hK hP hD hS 0 rfl rfl 13 (by decide) (hts (.fieldLink RX12 97 "HookPierModel" "wrongAt" "I") (List.mem_of_getElem? (i := 4) rfl)) (fun _ h9 => h9) rfl (by decide +kernel) rfl rfl (Nat.le_of_ble_eq_true rfl) dX12_flaw_19 (fun H locs hP hD hS => ?_)
    have hP : va_P (dC, dI) vwCl [(a0, .inr (9, [g2, g3, g4, g5, g6, g7, g8, g9, g10, .int k11, .int k12, g13, .int k1, .int k12, g16, g17, g18, g19, g20, g21, g22, g23, g24, g25, g26, g27, g28, g29, g30, g31]))] H := hP
    have hD : va_D A [(a0, .inr (9, [g2, g3, g4, g5, g6, g7, g8, g9, g10, .int k11, .int k12, g13, .int k1, .int k12, g16, g17, g18, g19, g20, g21, g22, g23, g24, g25, g26, g27, g28, g29, g30, g31]))] := hD
    refine lv_aload_n hx hb dX12_flaw_22 rfl (lv_at hl 0 rfl) ?_
    refine lv_iconst (v := 5) hx hb dX12_flaw_23 (by decide) ?_
    refine va_put (D := (dC, dI)) (ci := 9) (v := .int 5) (ty := .int) (C := RX12) (T := TX12) (N := 30) hx hb hts iX12_flaw_X12 tyX12 tyX12_ok nmX12 hown hK hP hD hS 0 rfl rfl 9 (by decide) (hts (.fieldLink RX12 68 "HookPierModel" "sort" "I") (List.mem_of_getElem? (i := 1) rfl)) (fun _ h9 => h9) rfl (by decide +kernel) rfl rfl (Nat.le_of_ble_eq_true rfl) dX12_flaw_24 (fun H locs hP hD hS => ?_)
    have hP : va_P (dC, dI) vwCl [(a0, .inr (9, [g2, g3, g4, g5, g6, g7, g8, g9, g10, .int 5, .int k12, g13, .int k1, .int k12, g16, g17, g18, g19, g20, g21, g22, g23, g24, g25, g26, g27, g28, g29, g30, g31]))] H := hP
    have hD : va_D A [(a0, .inr (9, [g2, g3, g4, g5, g6, g7, g8, g9, g10, .int 5, .int k12, g13, .int k1, .int k12, g16, g17, g18, g19, g20, g21, g22, g23, g24, g25, g26, g27, g28, g29, g30, g31]))] := hD
    have hP9 := hP.sub (ws' := [(a0, .inr (9, [g2, g3, g4, g5, g6, g7, g8, g9, g10, .int 5, .int k12, g13, .int k1, .int k12, g16, g17, g18, g19, g20, g21, g22, g23, g24, g25, g26, g27, g28, g29, g30, g31]))]) [0] rfl
    have hD9 := hD.sub (ws' := [(a0, .inr (9, [g2, g3, g4, g5, g6, g7, g8, g9, g10, .int 5, .int k12, g13, .int k1, .int k12, g16, g17, g18, g19, g20, g21, g22, g23, g24, g25, g26, g27, g28, g29, g30, g31]))]) [0] (by decide) rfl
    have hK9 := hK.sub (tys' := []) [] rfl
    exact W.vret hx hb hr (fun t ht hW => ⟨⟨(5, k1, k12), rfl, (by first | trivial | omega | (simp only [ltv_0, ltv_5]; omega)), by rw [ht]; exact hP9, va_K.moved hW.alike hK9, hD9⟩, hS.F ht⟩) hS.2.2 dX12_flaw_27
  · simp only [fa_lt, fa_le, fa_eq, ltv_0, ltv_5] at c1
    have hP9 := hP.sub (ws' := [(a0, .inr (9, [g2, g3, g4, g5, g6, g7, g8, g9, g10, .int k11, .int k12, g13, .int k14, .int k15, g16, g17, g18, g19, g20, g21, g22, g23, g24, g25, g26, g27, g28, g29, g30, g31]))]) [0] rfl
    have hD9 := hD.sub (ws' := [(a0, .inr (9, [g2, g3, g4, g5, g6, g7, g8, g9, g10, .int k11, .int k12, g13, .int k14, .int k15, g16, g17, g18, g19, g20, g21, g22, g23, g24, g25, g26, g27, g28, g29, g30, g31]))]) [0] (by decide) rfl
    have hK9 := hK.sub (tys' := []) [] rfl
    exact W.vret hx hb hr (fun t ht hW => ⟨⟨(k11, k14, k15), rfl, (by first | trivial | omega | (simp only [ltv_0]; omega)), by rw [ht]; exact hP9, va_K.moved hW.alike hK9, hD9⟩, hS.F ht⟩) hS.2.2 dX12_flaw_8
theorem dX12_eatsSemicolon_0 : decode cX12_eatsSemicolon 0 = .ok (.aload_n 0, 1) := by decide +kernel
theorem dX12_eatsSemicolon_1 : decode cX12_eatsSemicolon 1 = .ok (.getfield 68, 3) := by decide +kernel
theorem dX12_eatsSemicolon_12 : decode cX12_eatsSemicolon 12 = .ok (.iconst 0, 1) := by decide +kernel
theorem dX12_eatsSemicolon_13 : decode cX12_eatsSemicolon 13 = .ok (.istore_n 1, 1) := by decide +kernel
theorem dX12_eatsSemicolon_14 : decode cX12_eatsSemicolon 14 = .ok (.iload_n 1, 1) := by decide +kernel
theorem dX12_eatsSemicolon_15 : decode cX12_eatsSemicolon 15 = .ok (.ifCond .eq 7, 3) := by decide +kernel
theorem dX12_eatsSemicolon_18 : decode cX12_eatsSemicolon 18 = .ok (.aload_n 0, 1) := by decide +kernel
theorem dX12_eatsSemicolon_19 : decode cX12_eatsSemicolon 19 = .ok (.invokevirtual 104, 3) := by decide +kernel
theorem dX12_eatsSemicolon_22 : decode cX12_eatsSemicolon 22 = .ok (.iload_n 1, 1) := by decide +kernel
theorem dX12_eatsSemicolon_23 : decode cX12_eatsSemicolon 23 = .ok (.ireturn, 1) := by decide +kernel
theorem dX12_eatsSemicolon_4 : decode cX12_eatsSemicolon 4 = .ok (.iconst 4, 1) := by decide +kernel
theorem dX12_eatsSemicolon_5 : decode cX12_eatsSemicolon 5 = .ok (.if_icmp .ne 7, 3) := by decide +kernel
theorem dX12_eatsSemicolon_8 : decode cX12_eatsSemicolon 8 = .ok (.iconst 1, 1) := by decide +kernel
theorem dX12_eatsSemicolon_9 : decode cX12_eatsSemicolon 9 = .ok (.goto 4, 3) := by decide +kernel
def vX12_eatsSemicolon : List Cond := .code yX12_eatsSemicolon cX12_eatsSemicolon 2 (some .boolean) :: ([.fieldLink RX12 68 "HookPierModel" "sort" "I", .methodLink RX12 104 yX12_goesOn, .instanceMethod yX12_goesOn, .selects RX12 yX12_goesOn yX12_goesOn, .initialized RX12, .code yX12_goesOn cX12_goesOn 3 none, .fieldLink RX12 71 "HookPierModel" "spot" "I", .methodLink RX12 74 yX12_byteAt, .instanceMethod yX12_byteAt, .selects RX12 yX12_byteAt yX12_byteAt, .code yX12_byteAt cX12_byteAt 2 (some .int), .fieldLink RX12 53 "HookPierModel" "size" "I", .fieldLink RX12 13 "HookPierModel" "tape" "[B", .fieldLink RX12 77 "HookPierModel" "place" "I", .methodLink RX12 80 yX12_isLetter, .static yX12_isLetter, .code yX12_isLetter cX12_isLetter 1 (some .boolean), .methodLink RX12 88 yX12_isDigit, .static yX12_isDigit, .code yX12_isDigit cX12_isDigit 1 (some .boolean), .fieldLink RX12 91 "HookPierModel" "number" "I", .fieldLink RX12 84 "HookPierModel" "word" "J", .constantLong RX12 62 (32)] ++ wsX120)
theorem iX12_eatsSemicolon_X12 : ∀ w ∈ wsX120, w ∈ vX12_eatsSemicolon := fun _ h => List.mem_cons_of_mem _ (List.mem_append_right _ h)
set_option maxRecDepth 20000 in
theorem gX12_eatsSemicolon_0 : GoodIn vX12_eatsSemicolon (wsV RX12 104 RX12 yX12_goesOn vX12_goesOn) := goodIn_app (goodIn_r [.methodLink RX12 104 yX12_goesOn, .instanceMethod yX12_goesOn, .selects RX12 yX12_goesOn yX12_goesOn, .initialized RX12] [2, 3, 4, 5] (by decide +kernel) (by decide +kernel)) (goodIn_ca (goodIn_r (.code yX12_goesOn cX12_goesOn 3 none :: [.fieldLink RX12 68 "HookPierModel" "sort" "I", .fieldLink RX12 71 "HookPierModel" "spot" "I", .methodLink RX12 74 yX12_byteAt, .instanceMethod yX12_byteAt, .selects RX12 yX12_byteAt yX12_byteAt, .initialized RX12, .code yX12_byteAt cX12_byteAt 2 (some .int), .fieldLink RX12 53 "HookPierModel" "size" "I", .fieldLink RX12 13 "HookPierModel" "tape" "[B", .fieldLink RX12 77 "HookPierModel" "place" "I", .methodLink RX12 80 yX12_isLetter, .static yX12_isLetter, .code yX12_isLetter cX12_isLetter 1 (some .boolean), .methodLink RX12 88 yX12_isDigit, .static yX12_isDigit, .code yX12_isDigit cX12_isDigit 1 (some .boolean), .fieldLink RX12 91 "HookPierModel" "number" "I", .fieldLink RX12 84 "HookPierModel" "word" "J", .constantLong RX12 62 (32)]) [6, 1, 7, 8, 9, 10, 5, 11, 12, 13, 14, 15, 16, 17, 18, 19, 20, 21, 22, 23] (by decide +kernel) (by decide +kernel) : GoodIn vX12_eatsSemicolon (.code yX12_goesOn cX12_goesOn 3 none :: [.fieldLink RX12 68 "HookPierModel" "sort" "I", .fieldLink RX12 71 "HookPierModel" "spot" "I", .methodLink RX12 74 yX12_byteAt, .instanceMethod yX12_byteAt, .selects RX12 yX12_byteAt yX12_byteAt, .initialized RX12, .code yX12_byteAt cX12_byteAt 2 (some .int), .fieldLink RX12 53 "HookPierModel" "size" "I", .fieldLink RX12 13 "HookPierModel" "tape" "[B", .fieldLink RX12 77 "HookPierModel" "place" "I", .methodLink RX12 80 yX12_isLetter, .static yX12_isLetter, .code yX12_isLetter cX12_isLetter 1 (some .boolean), .methodLink RX12 88 yX12_isDigit, .static yX12_isDigit, .code yX12_isDigit cX12_isDigit 1 (some .boolean), .fieldLink RX12 91 "HookPierModel" "number" "I", .fieldLink RX12 84 "HookPierModel" "word" "J", .constantLong RX12 62 (32)])) (goodIn_sub iX12_eatsSemicolon_X12 (by decide +kernel)))
set_option maxHeartbeats 2000000 in
set_option maxRecDepth 100000 in
theorem kX12_eatsSemicolon (l : Launch) (dC : Nat → ClassId) (dI : Nat → Nat → Nat) (a0 : Nat) (a1 : Nat) (g2 : Value) (g3 : Value) (g4 : Value) (g5 : Value) (g6 : Value) (g7 : Value) (k8 : Int32) (k9 : Int32) (k10 : Int32) (k11 : Int32) (k12 : Int32) (g13 : Value) (g14 : Value) (j15 : Int64) (g16 : Value) (g17 : Value) (g18 : Value) (g19 : Value) (g20 : Value) (g21 : Value) (g22 : Value) (g23 : Value) (g24 : Value) (g25 : Value) (g26 : Value) (g27 : Value) (g28 : Value) (g29 : Value) (g30 : Value) (cB31 : ClassId) (f32 : Nat → Int32) (hk8 : (0 ≤ k8.toInt ∧ k8.toInt ≤ 900)) (hk9 : (0 ≤ k9.toInt ∧ k9.toInt ≤ 900)) (sz : Nat) : Met l yX12_eatsSemicolon vX12_eatsSemicolon ({ frames := 2, cells := 0, slots := 0, locals := 43 }) (PC (dC, dI) [.ref a0] sz [(a0, .inr (9, [g2, g3, g4, g5, g6, .ref a1, g7, .int k8, .int k9, .int k10, .int k11, .int k12, g13, g14, .long j15, g16, g17, g18, g19, g20, g21, g22, g23, g24, g25, g26, g27, g28, g29, g30])), (a1, .inl (cB31, 900, .inl f32))] [(cB31, .byte)]) (va_Qi (S := Int32 × Int32 × Int32 × Int32 × Int64) (fun (r : Int32) u => (0 ≤ r.toInt ∧ r.toInt ≤ 1) ∧ (0 ≤ (u.1).toInt ∧ (u.1).toInt ≤ 900)) (fun u t => BC (dC, dI) (va_A [(a0, .inr (9, [g2, g3, g4, g5, g6, .ref a1, g7, .int k8, .int k9, .int k10, .int k11, .int k12, g13, g14, .long j15, g16, g17, g18, g19, g20, g21, g22, g23, g24, g25, g26, g27, g28, g29, g30])), (a1, .inl (cB31, 900, .inl f32))] sz) [(a0, .inr (9, [g2, g3, g4, g5, g6, .ref a1, g7, .int k8, .int (u.1), .int (u.2.1), .int (u.2.2.1), .int (u.2.2.2.1), g13, g14, .long (u.2.2.2.2), g16, g17, g18, g19, g20, g21, g22, g23, g24, g25, g26, g27, g28, g29, g30])), (a1, .inl (cB31, 900, .inl f32))] [] t) (va_A [(a0, .inr (9, [g2, g3, g4, g5, g6, .ref a1, g7, .int k8, .int k9, .int k10, .int k11, .int k12, g13, g14, .long j15, g16, g17, g18, g19, g20, g21, g22, g23, g24, g25, g26, g27, g28, g29, g30])), (a1, .inl (cB31, 900, .inl f32))] sz)) 0 0 (va_A [(a0, .inr (9, [g2, g3, g4, g5, g6, .ref a1, g7, .int k8, .int k9, .int k10, .int k11, .int k12, g13, g14, .long j15, g16, g17, g18, g19, g20, g21, g22, g23, g24, g25, g26, g27, g28, g29, g30])), (a1, .inl (cB31, 900, .inl f32))] sz) := by
  refine Met.ofW (cc := cX12_eatsSemicolon) (maxL := 2) (ret := (some .boolean)) (by decide) rfl ?_
  intro p e s m args below meth c s₁ B hml hv
  obtain ⟨rfl, hsz, hP, hK, hD0, hN⟩ := hv
  have hx := B.exec
  have hb := B.bytes
  have hr := B.returns
  have hts := atoms_spec (ws := vX12_eatsSemicolon) B.pre
  have hown : s.vm.findClass RX12 = some m.cls := findClass_of_methodNamed B.named
  have hlocks := B.notSynchronized
  subst hsz
  have hD := hD0.self (sz := s.heap.size)
  generalize hAe : va_A [(a0, .inr (9, [g2, g3, g4, g5, g6, .ref a1, g7, .int k8, .int k9, .int k10, .int k11, .int k12, g13, g14, .long j15, g16, g17, g18, g19, g20, g21, g22, g23, g24, g25, g26, g27, g28, g29, g30])), (a1, .inl (cB31, 900, .inl f32))] s.heap.size = A at hD ⊢
  have hA : ∀ q : Nat, s.heap.size ≤ q → A q := fun q h => by rw [← hAe]; exact Or.inr h
  have hS : va_S A s.heap s.heap [] := va_S.rf
  have hP : va_P (dC, dI) vwCl [(a0, .inr (9, [g2, g3, g4, g5, g6, .ref a1, g7, .int k8, .int k9, .int k10, .int k11, .int k12, g13, g14, .long j15, g16, g17, g18, g19, g20, g21, g22, g23, g24, g25, g26, g27, g28, g29, g30])), (a1, .inl (cB31, 900, .inl f32))] s.heap := hP
  have hl := lv_entry ([.ref a0]) (n := 2) (Nat.le_of_ble_eq_true rfl)
  rw [lg_entry_eq]
  generalize (lg_sl ([.ref a0]) ++ List.replicate (2 - (lg_sl ([.ref a0])).length) Slot.unset).toArray = ls at hl ⊢
  have hl : lv_has ls 2 [(0, .ref a0)] := hl
  refine lv_aload_n hx hb dX12_eatsSemicolon_0 rfl (lv_at hl 0 rfl) ?_
  refine va_get (D := (dC, dI)) (ci := 9) (v := .int k10) (C := RX12) (T := TX12) (N := 30) hx hb hts iX12_eatsSemicolon_X12 hown hK hP 0 rfl rfl 9 (by decide) (hts (.fieldLink RX12 68 "HookPierModel" "sort" "I") (List.mem_of_getElem? (i := 1) rfl)) (fun _ h9 => h9) rfl dX12_eatsSemicolon_1 ?_
  refine lv_iconst (v := 4) hx hb dX12_eatsSemicolon_4 (by decide) ?_
  refine lv_icmp_ne (tgt := 12) hx hb dX12_eatsSemicolon_5 (by decide) (fun c1 => ?_) (fun c1 => ?_)
  · simp only [fa_lt, fa_le, fa_eq, ltv_0, ltv_4] at c1
    refine lv_iconst (v := 0) hx hb dX12_eatsSemicolon_12 (by decide) ?_
    refine lv_istore_n (lv' := [(1, .int 0), (0, .ref a0)]) hx hb dX12_eatsSemicolon_13 rfl hl (by decide) rfl (fun ls hl => ?_)
    refine lv_iload_n hx hb dX12_eatsSemicolon_14 rfl (lv_at hl 0 rfl) ?_
    refine lv_if_eq (tgt := 22) hx hb dX12_eatsSemicolon_15 (by decide) (fun _ => ?_) (fun c2 => absurd c2 (by decide))
    refine lv_iload_n hx hb dX12_eatsSemicolon_22 rfl (lv_at hl 0 rfl) ?_
    have hP9 := hP.sub (ws' := [(a0, .inr (9, [g2, g3, g4, g5, g6, .ref a1, g7, .int k8, .int k9, .int k10, .int k11, .int k12, g13, g14, .long j15, g16, g17, g18, g19, g20, g21, g22, g23, g24, g25, g26, g27, g28, g29, g30])), (a1, .inl (cB31, 900, .inl f32))]) [0, 1] rfl
    have hD9 := hD.sub (ws' := [(a0, .inr (9, [g2, g3, g4, g5, g6, .ref a1, g7, .int k8, .int k9, .int k10, .int k11, .int k12, g13, g14, .long j15, g16, g17, g18, g19, g20, g21, g22, g23, g24, g25, g26, g27, g28, g29, g30])), (a1, .inl (cB31, 900, .inl f32))]) [0, 1] (by decide) rfl
    have hK9 := hK.sub (tys' := []) [] rfl
    exact W.zret (v := 0) hx hb hr rfl (fun t ht hW => ⟨⟨0, (k9, k10, k11, k12, j15), rfl, ⟨(by first | trivial | omega | (simp only [ltv_0]; omega)), (by first | trivial | omega | (simp only [ltv_0]; omega))⟩, by rw [ht]; exact hP9, va_K.moved hW.alike hK9, hD9⟩, hS.F ht⟩) hS.2.2 dX12_eatsSemicolon_23
  · simp only [fa_lt, fa_le, fa_eq, ltv_0, ltv_4] at c1
    refine lv_iconst (v := 1) hx hb dX12_eatsSemicolon_8 (by decide) ?_
    refine lv_goto (tgt := 13) hx hb dX12_eatsSemicolon_9 (by decide) ?_
    refine lv_istore_n (lv' := [(1, .int 1), (0, .ref a0)]) hx hb dX12_eatsSemicolon_13 rfl hl (by decide) rfl (fun ls hl => ?_)
    refine lv_iload_n hx hb dX12_eatsSemicolon_14 rfl (lv_at hl 0 rfl) ?_
    refine lv_if_eq (tgt := 22) hx hb dX12_eatsSemicolon_15 (by decide) (fun c3 => absurd c3 (by decide)) (fun _ => ?_)
    refine lv_aload_n hx hb dX12_eatsSemicolon_18 rfl (lv_at hl 1 rfl) ?_
    refine cl_v (wc := [(a0, .inr (9, [g2, g3, g4, g5, g6, .ref a1, g7, .int k8, .int k9, .int k10, .int k11, .int k12, g13, g14, .long j15, g16, g17, g18, g19, g20, g21, g22, g23, g24, g25, g26, g27, g28, g29, g30])), (a1, .inl (cB31, 900, .inl f32))]) (wr := []) (va_runV (As := []) (rest := []) ⟨hx, hb, hml, hown, hts⟩ (kX12_goesOn l dC dI a0 a1 (g2) (g3) (g4) (g5) (g6) (g7) k8 k9 k10 k11 k12 (g13) (g14) j15 (g16) (g17) (g18) (g19) (g20) (g21) (g22) (g23) (g24) (g25) (g26) (g27) (g28) (g29) (g30) cB31 f32 (by first | omega | (simp only [ltv_0]; omega)) (by first | omega | (simp only [ltv_0]; omega)) s.heap.size) (cwV 0 hts gX12_eatsSemicolon_0 rfl rfl rfl (by decide +kernel) ⟨Nat.le_of_ble_eq_true rfl, Nat.le_of_ble_eq_true rfl⟩) (PV (hP.sub (ws' := [(a0, .inr (9, [g2, g3, g4, g5, g6, .ref a1, g7, .int k8, .int k9, .int k10, .int k11, .int k12, g13, g14, .long j15, g16, g17, g18, g19, g20, g21, g22, g23, g24, g25, g26, g27, g28, g29, g30])), (a1, .inl (cB31, 900, .inl f32))]) [0, 1] rfl) (hK.sub (tys' := [(cB31, .byte)]) [0] rfl) (hD.sub (ws' := [(a0, .inr (9, [g2, g3, g4, g5, g6, .ref a1, g7, .int k8, .int k9, .int k10, .int k11, .int k12, g13, g14, .long j15, g16, g17, g18, g19, g20, g21, g22, g23, g24, g25, g26, g27, g28, g29, g30])), (a1, .inl (cB31, 900, .inl f32))]) [0, 1] (by decide) rfl) hN 0 rfl rfl) rfl rfl hl.1 rfl (lv_room (Nat.le_of_ble_eq_true rfl)) dX12_eatsSemicolon_19 ⟨Nat.le_of_ble_eq_true rfl, Nat.le_of_ble_eq_true rfl⟩) hP hD hK hS hA [0, 1] [] rfl rfl (by decide) (by decide) (fun u H locs hw hP hD hK hS => ?_)
    obtain ⟨z4, z5, z6, z7, j8⟩ := u
    have b9 := hw
    try dsimp only at b9
    have hP : va_P (dC, dI) vwCl [(a0, .inr (9, [g2, g3, g4, g5, g6, .ref a1, g7, .int k8, .int z4, .int z5, .int z6, .int z7, g13, g14, .long j8, g16, g17, g18, g19, g20, g21, g22, g23, g24, g25, g26, g27, g28, g29, g30])), (a1, .inl (cB31, 900, .inl f32))] H := hP
    have hD : va_D A [(a0, .inr (9, [g2, g3, g4, g5, g6, .ref a1, g7, .int k8, .int z4, .int z5, .int z6, .int z7, g13, g14, .long j8, g16, g17, g18, g19, g20, g21, g22, g23, g24, g25, g26, g27, g28, g29, g30])), (a1, .inl (cB31, 900, .inl f32))] := hD
    have hK : va_K (dC, dI) vwCl [(cB31, .byte)] s := hK
    refine lv_iload_n hx hb dX12_eatsSemicolon_22 rfl (lv_at hl 0 rfl) ?_
    have hP9 := hP.sub (ws' := [(a0, .inr (9, [g2, g3, g4, g5, g6, .ref a1, g7, .int k8, .int z4, .int z5, .int z6, .int z7, g13, g14, .long j8, g16, g17, g18, g19, g20, g21, g22, g23, g24, g25, g26, g27, g28, g29, g30])), (a1, .inl (cB31, 900, .inl f32))]) [0, 1] rfl
    have hD9 := hD.sub (ws' := [(a0, .inr (9, [g2, g3, g4, g5, g6, .ref a1, g7, .int k8, .int z4, .int z5, .int z6, .int z7, g13, g14, .long j8, g16, g17, g18, g19, g20, g21, g22, g23, g24, g25, g26, g27, g28, g29, g30])), (a1, .inl (cB31, 900, .inl f32))]) [0, 1] (by decide) rfl
    have hK9 := hK.sub (tys' := []) [] rfl
    exact W.zret (v := 1) hx hb hr rfl (fun t ht hW => ⟨⟨1, (z4, z5, z6, z7, j8), rfl, ⟨(by first | trivial | omega | (simp only [ltv_0, ltv_1]; omega)), (by first | trivial | omega | (simp only [ltv_0, ltv_1]; omega))⟩, by rw [ht]; exact hP9, va_K.moved hW.alike hK9, hD9⟩, hS.F ht⟩) hS.2.2 dX12_eatsSemicolon_23
