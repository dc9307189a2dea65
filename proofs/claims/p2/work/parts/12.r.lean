theorem dX7_isLetter_0 : decode cX7_isLetter 0 = .ok (.aload_n 0, 1) := by decide +kernel
theorem dX7_isLetter_1 : decode cX7_isLetter 1 = .ok (.getfield 9, 3) := by decide +kernel
theorem dX7_isLetter_11 : decode cX7_isLetter 11 = .ok (.aload_n 0, 1) := by decide +kernel
theorem dX7_isLetter_12 : decode cX7_isLetter 12 = .ok (.getfield 9, 3) := by decide +kernel
theorem dX7_isLetter_15 : decode cX7_isLetter 15 = .ok (.iload_n 1, 1) := by decide +kernel
theorem dX7_isLetter_16 : decode cX7_isLetter 16 = .ok (.baload, 1) := by decide +kernel
theorem dX7_isLetter_17 : decode cX7_isLetter 17 = .ok (.bipush 122, 2) := by decide +kernel
theorem dX7_isLetter_19 : decode cX7_isLetter 19 = .ok (.if_icmp .gt 7, 3) := by decide +kernel
theorem dX7_isLetter_22 : decode cX7_isLetter 22 = .ok (.iconst 1, 1) := by decide +kernel
theorem dX7_isLetter_23 : decode cX7_isLetter 23 = .ok (.goto 4, 3) := by decide +kernel
theorem dX7_isLetter_26 : decode cX7_isLetter 26 = .ok (.iconst 0, 1) := by decide +kernel
theorem dX7_isLetter_27 : decode cX7_isLetter 27 = .ok (.ireturn, 1) := by decide +kernel
theorem dX7_isLetter_4 : decode cX7_isLetter 4 = .ok (.iload_n 1, 1) := by decide +kernel
theorem dX7_isLetter_5 : decode cX7_isLetter 5 = .ok (.baload, 1) := by decide +kernel
theorem dX7_isLetter_6 : decode cX7_isLetter 6 = .ok (.bipush 97, 2) := by decide +kernel
theorem dX7_isLetter_8 : decode cX7_isLetter 8 = .ok (.if_icmp .lt 18, 3) := by decide +kernel
def vX7_isLetter : List Cond := .code yX7_isLetter cX7_isLetter 2 (some .boolean) :: ([.fieldLink RX7 9 "HookPier$Reader" "text" "[B"] ++ wsX70)
theorem iX7_isLetter_X7 : ∀ w ∈ wsX70, w ∈ vX7_isLetter := fun _ h => List.mem_cons_of_mem _ (List.mem_append_right _ h)
set_option maxHeartbeats 2000000 in
set_option maxRecDepth 100000 in
theorem kX7_isLetter (l : Launch) (dC : Nat → ClassId) (dI : Nat → Nat → Nat) (a0 : Nat) (k1 : Int32) (a2 : Nat) (g3 : Value) (g4 : Value) (g5 : Value) (g6 : Value) (g7 : Value) (g8 : Value) (g9 : Value) (g10 : Value) (g11 : Value) (g12 : Value) (g13 : Value) (cB14 : ClassId) (f15 : Nat → Int32) (hk1 : (0 ≤ k1.toInt ∧ k1.toInt ≤ 899)) (sz : Nat) : Met l yX7_isLetter vX7_isLetter ({ frames := 0, cells := 0, slots := 0, locals := 0 }) (PC (dC, dI) [.ref a0, .int k1] sz [(a0, .inr (5, [.ref a2, g3, g4, g5, g6, g7, g8, g9, g10, g11, g12, g13])), (a2, .inl (cB14, 900, .inl f15))] [(cB14, .byte)]) (va_Qi (S := Unit) (fun (r : Int32) _ => (0 ≤ r.toInt ∧ r.toInt ≤ 1)) (fun _ t => BC (dC, dI) (va_A [(a0, .inr (5, [.ref a2, g3, g4, g5, g6, g7, g8, g9, g10, g11, g12, g13])), (a2, .inl (cB14, 900, .inl f15))] sz) [(a0, .inr (5, [.ref a2, g3, g4, g5, g6, g7, g8, g9, g10, g11, g12, g13])), (a2, .inl (cB14, 900, .inl f15))] [] t) (va_A [(a0, .inr (5, [.ref a2, g3, g4, g5, g6, g7, g8, g9, g10, g11, g12, g13])), (a2, .inl (cB14, 900, .inl f15))] sz)) 0 0 (va_A [(a0, .inr (5, [.ref a2, g3, g4, g5, g6, g7, g8, g9, g10, g11, g12, g13])), (a2, .inl (cB14, 900, .inl f15))] sz) := by
  refine Met.ofW (cc := cX7_isLetter) (maxL := 2) (ret := (some .boolean)) (by decide) rfl ?_
  intro p e s m args below meth c s₁ B hml hv
  obtain ⟨rfl, hsz, hP, hK, hD0, hN⟩ := hv
  have hx := B.exec
  have hb := B.bytes
  have hr := B.returns
  have hts := atoms_spec (ws := vX7_isLetter) B.pre
  have hown : s.vm.findClass RX7 = some m.cls := findClass_of_methodNamed B.named
  have hlocks := B.notSynchronized
  subst hsz
  have hD := hD0.self (sz := s.heap.size)
  generalize hAe : va_A [(a0, .inr (5, [.ref a2, g3, g4, g5, g6, g7, g8, g9, g10, g11, g12, g13])), (a2, .inl (cB14, 900, .inl f15))] s.heap.size = A at hD ⊢
  have hA : ∀ q : Nat, s.heap.size ≤ q → A q := fun q h => by rw [← hAe]; exact Or.inr h
  have hS : va_S A s.heap s.heap [] := va_S.rf
  have hP : va_P (dC, dI) vwCl [(a0, .inr (5, [.ref a2, g3, g4, g5, g6, g7, g8, g9, g10, g11, g12, g13])), (a2, .inl (cB14, 900, .inl f15))] s.heap := hP
  have hl := lv_entry ([.ref a0, .int k1]) (n := 2) (Nat.le_of_ble_eq_true rfl)
  rw [lg_entry_eq]
  generalize (lg_sl ([.ref a0, .int k1]) ++ List.replicate (2 - (lg_sl ([.ref a0, .int k1])).length) Slot.unset).toArray = ls at hl ⊢
  have hl : lv_has ls 2 [(0, .ref a0), (1, .int k1)] := hl
  refine lv_aload_n hx hb dX7_isLetter_0 rfl (lv_at hl 0 rfl) ?_
  refine va_get (D := (dC, dI)) (ci := 5) (v := .ref a2) (C := RX7) (T := TX7) (N := 12) hx hb hts iX7_isLetter_X7 hown hK hP 0 rfl rfl 0 (by decide) (hts (.fieldLink RX7 9 "HookPier$Reader" "text" "[B") (List.mem_of_getElem? (i := 1) rfl)) (fun _ h9 => h9) rfl dX7_isLetter_1 ?_
  refine lv_iload_n hx hb dX7_isLetter_4 rfl (lv_at hl 1 rfl) ?_
  refine va_bald hx hb hK hP 1 0 rfl rfl (vp_in_iff.mpr (by omega)) dX7_isLetter_5 ?_
  refine lv_topi (fun z1 ez1 => ?_)
  clear ez1
  refine lv_bipush (v := 97) hx hb dX7_isLetter_6 (by decide) ?_
  refine lv_icmp_lt (tgt := 26) hx hb dX7_isLetter_8 (by decide) (fun c2 => ?_) (fun c2 => ?_)
  · simp only [fa_lt, fa_le, fa_eq, ltv_0, ltv_97] at c2
    refine lv_iconst (v := 0) hx hb dX7_isLetter_26 (by decide) ?_
    have hP9 := hP.sub (ws' := [(a0, .inr (5, [.ref a2, g3, g4, g5, g6, g7, g8, g9, g10, g11, g12, g13])), (a2, .inl (cB14, 900, .inl f15))]) [0, 1] rfl
    have hD9 := hD.sub (ws' := [(a0, .inr (5, [.ref a2, g3, g4, g5, g6, g7, g8, g9, g10, g11, g12, g13])), (a2, .inl (cB14, 900, .inl f15))]) [0, 1] (by decide) rfl
    have hK9 := hK.sub (tys' := []) [] rfl
    exact W.zret (v := 0) hx hb hr rfl (fun t ht hW => ⟨⟨0, (), rfl, (by first | trivial | omega | (simp only [ltv_0]; omega)), by rw [ht]; exact hP9, va_K.moved hW.alike hK9, hD9⟩, hS.F ht⟩) hS.2.2 dX7_isLetter_27
  · simp only [fa_lt, fa_le, fa_eq, ltv_0, ltv_97] at c2
    refine lv_aload_n hx hb dX7_isLetter_11 rfl (lv_at hl 0 rfl) ?_
    refine va_get (D := (dC, dI)) (ci := 5) (v := .ref a2) (C := RX7) (T := TX7) (N := 12) hx hb hts iX7_isLetter_X7 hown hK hP 0 rfl rfl 0 (by decide) (hts (.fieldLink RX7 9 "HookPier$Reader" "text" "[B") (List.mem_of_getElem? (i := 1) rfl)) (fun _ h9 => h9) rfl dX7_isLetter_12 ?_
    refine lv_iload_n hx hb dX7_isLetter_15 rfl (lv_at hl 1 rfl) ?_
    refine va_bald hx hb hK hP 1 0 rfl rfl (vp_in_iff.mpr (by omega)) dX7_isLetter_16 ?_
    refine lv_topi (fun z3 ez3 => ?_)
    clear ez3
    refine lv_bipush (v := 122) hx hb dX7_isLetter_17 (by decide) ?_
    refine lv_icmp_gt (tgt := 26) hx hb dX7_isLetter_19 (by decide) (fun c4 => ?_) (fun c4 => ?_)
    · simp only [fa_lt, fa_le, fa_eq, ltv_0, ltv_122] at c4
      refine lv_iconst (v := 0) hx hb dX7_isLetter_26 (by decide) ?_
      have hP9 := hP.sub (ws' := [(a0, .inr (5, [.ref a2, g3, g4, g5, g6, g7, g8, g9, g10, g11, g12, g13])), (a2, .inl (cB14, 900, .inl f15))]) [0, 1] rfl
      have hD9 := hD.sub (ws' := [(a0, .inr (5, [.ref a2, g3, g4, g5, g6, g7, g8, g9, g10, g11, g12, g13])), (a2, .inl (cB14, 900, .inl f15))]) [0, 1] (by decide) rfl
      have hK9 := hK.sub (tys' := []) [] rfl
      exact W.zret (v := 0) hx hb hr rfl (fun t ht hW => ⟨⟨0, (), rfl, (by first | trivial | omega | (simp only [ltv_0]; omega)), by rw [ht]; exact hP9, va_K.moved hW.alike hK9, hD9⟩, hS.F ht⟩) hS.2.2 dX7_isLetter_27
    · simp only [fa_lt, fa_le, fa_eq, ltv_0, ltv_122] at c4
      refine lv_iconst (v := 1) hx hb dX7_isLetter_22 (by decide) ?_
      refine lv_goto (tgt := 27) hx hb dX7_isLetter_23 (by decide) ?_
      have hP9 := hP.sub (ws' := [(a0, .inr (5, [.ref a2, g3, g4, g5, g6, g7, g8, g9, g10, g11, g12, g13])), (a2, .inl (cB14, 900, .inl f15))]) [0, 1] rfl
      have hD9 := hD.sub (ws' := [(a0, .inr (5, [.ref a2, g3, g4, g5, g6, g7, g8, g9, g10, g11, g12, g13])), (a2, .inl (cB14, 900, .inl f15))]) [0, 1] (by decide) rfl
      have hK9 := hK.sub (tys' := []) [] rfl
      exact W.zret (v := 1) hx hb hr rfl (fun t ht hW => ⟨⟨1, (), rfl, (by first | trivial | omega | (simp only [ltv_0, ltv_1]; omega)), by rw [ht]; exact hP9, va_K.moved hW.alike hK9, hD9⟩, hS.F ht⟩) hS.2.2 dX7_isLetter_27
theorem dX7_isDigit_0 : decode cX7_isDigit 0 = .ok (.aload_n 0, 1) := by decide +kernel
theorem dX7_isDigit_1 : decode cX7_isDigit 1 = .ok (.getfield 9, 3) := by decide +kernel
theorem dX7_isDigit_11 : decode cX7_isDigit 11 = .ok (.aload_n 0, 1) := by decide +kernel
theorem dX7_isDigit_12 : decode cX7_isDigit 12 = .ok (.getfield 9, 3) := by decide +kernel
theorem dX7_isDigit_15 : decode cX7_isDigit 15 = .ok (.iload_n 1, 1) := by decide +kernel
theorem dX7_isDigit_16 : decode cX7_isDigit 16 = .ok (.baload, 1) := by decide +kernel
theorem dX7_isDigit_17 : decode cX7_isDigit 17 = .ok (.bipush 57, 2) := by decide +kernel
theorem dX7_isDigit_19 : decode cX7_isDigit 19 = .ok (.if_icmp .gt 7, 3) := by decide +kernel
theorem dX7_isDigit_22 : decode cX7_isDigit 22 = .ok (.iconst 1, 1) := by decide +kernel
theorem dX7_isDigit_23 : decode cX7_isDigit 23 = .ok (.goto 4, 3) := by decide +kernel
theorem dX7_isDigit_26 : decode cX7_isDigit 26 = .ok (.iconst 0, 1) := by decide +kernel
theorem dX7_isDigit_27 : decode cX7_isDigit 27 = .ok (.ireturn, 1) := by decide +kernel
theorem dX7_isDigit_4 : decode cX7_isDigit 4 = .ok (.iload_n 1, 1) := by decide +kernel
theorem dX7_isDigit_5 : decode cX7_isDigit 5 = .ok (.baload, 1) := by decide +kernel
theorem dX7_isDigit_6 : decode cX7_isDigit 6 = .ok (.bipush 48, 2) := by decide +kernel
theorem dX7_isDigit_8 : decode cX7_isDigit 8 = .ok (.if_icmp .lt 18, 3) := by decide +kernel
def vX7_isDigit : List Cond := .code yX7_isDigit cX7_isDigit 2 (some .boolean) :: ([.fieldLink RX7 9 "HookPier$Reader" "text" "[B"] ++ wsX70)
theorem iX7_isDigit_X7 : ∀ w ∈ wsX70, w ∈ vX7_isDigit := fun _ h => List.mem_cons_of_mem _ (List.mem_append_right _ h)
set_option maxHeartbeats 2000000 in
set_option maxRecDepth 100000 in
theorem kX7_isDigit (l : Launch) (dC : Nat → ClassId) (dI : Nat → Nat → Nat) (a0 : Nat) (k1 : Int32) (a2 : Nat) (g3 : Value) (g4 : Value) (g5 : Value) (g6 : Value) (g7 : Value) (g8 : Value) (g9 : Value) (g10 : Value) (g11 : Value) (g12 : Value) (g13 : Value) (cB14 : ClassId) (f15 : Nat → Int32) (hk1 : (0 ≤ k1.toInt ∧ k1.toInt ≤ 899)) (sz : Nat) : Met l yX7_isDigit vX7_isDigit ({ frames := 0, cells := 0, slots := 0, locals := 0 }) (PC (dC, dI) [.ref a0, .int k1] sz [(a0, .inr (5, [.ref a2, g3, g4, g5, g6, g7, g8, g9, g10, g11, g12, g13])), (a2, .inl (cB14, 900, .inl f15))] [(cB14, .byte)]) (va_Qi (S := Unit) (fun (r : Int32) _ => (0 ≤ r.toInt ∧ r.toInt ≤ 1)) (fun _ t => BC (dC, dI) (va_A [(a0, .inr (5, [.ref a2, g3, g4, g5, g6, g7, g8, g9, g10, g11, g12, g13])), (a2, .inl (cB14, 900, .inl f15))] sz) [(a0, .inr (5, [.ref a2, g3, g4, g5, g6, g7, g8, g9, g10, g11, g12, g13])), (a2, .inl (cB14, 900, .inl f15))] [] t) (va_A [(a0, .inr (5, [.ref a2, g3, g4, g5, g6, g7, g8, g9, g10, g11, g12, g13])), (a2, .inl (cB14, 900, .inl f15))] sz)) 0 0 (va_A [(a0, .inr (5, [.ref a2, g3, g4, g5, g6, g7, g8, g9, g10, g11, g12, g13])), (a2, .inl (cB14, 900, .inl f15))] sz) := by
  refine Met.ofW (cc := cX7_isDigit) (maxL := 2) (ret := (some .boolean)) (by decide) rfl ?_
  intro p e s m args below meth c s₁ B hml hv
  obtain ⟨rfl, hsz, hP, hK, hD0, hN⟩ := hv
  have hx := B.exec
  have hb := B.bytes
  have hr := B.returns
  have hts := atoms_spec (ws := vX7_isDigit) B.pre
  have hown : s.vm.findClass RX7 = some m.cls := findClass_of_methodNamed B.named
  have hlocks := B.notSynchronized
  subst hsz
  have hD := hD0.self (sz := s.heap.size)
  generalize hAe : va_A [(a0, .inr (5, [.ref a2, g3, g4, g5, g6, g7, g8, g9, g10, g11, g12, g13])), (a2, .inl (cB14, 900, .inl f15))] s.heap.size = A at hD ⊢
  have hA : ∀ q : Nat, s.heap.size ≤ q → A q := fun q h => by rw [← hAe]; exact Or.inr h
  have hS : va_S A s.heap s.heap [] := va_S.rf
  have hP : va_P (dC, dI) vwCl [(a0, .inr (5, [.ref a2, g3, g4, g5, g6, g7, g8, g9, g10, g11, g12, g13])), (a2, .inl (cB14, 900, .inl f15))] s.heap := hP
  have hl := lv_entry ([.ref a0, .int k1]) (n := 2) (Nat.le_of_ble_eq_true rfl)
  rw [lg_entry_eq]
  generalize (lg_sl ([.ref a0, .int k1]) ++ List.replicate (2 - (lg_sl ([.ref a0, .int k1])).length) Slot.unset).toArray = ls at hl ⊢
  have hl : lv_has ls 2 [(0, .ref a0), (1, .int k1)] := hl
  refine lv_aload_n hx hb dX7_isDigit_0 rfl (lv_at hl 0 rfl) ?_
  refine va_get (D := (dC, dI)) (ci := 5) (v := .ref a2) (C := RX7) (T := TX7) (N := 12) hx hb hts iX7_isDigit_X7 hown hK hP 0 rfl rfl 0 (by decide) (hts (.fieldLink RX7 9 "HookPier$Reader" "text" "[B") (List.mem_of_getElem? (i := 1) rfl)) (fun _ h9 => h9) rfl dX7_isDigit_1 ?_
  refine lv_iload_n hx hb dX7_isDigit_4 rfl (lv_at hl 1 rfl) ?_
  refine va_bald hx hb hK hP 1 0 rfl rfl (vp_in_iff.mpr (by omega)) dX7_isDigit_5 ?_
  refine lv_topi (fun z1 ez1 => ?_)
  clear ez1
  refine lv_bipush (v := 48) hx hb dX7_isDigit_6 (by decide) ?_
  refine lv_icmp_lt (tgt := 26) hx hb dX7_isDigit_8 (by decide) (fun c2 => ?_) (fun c2 => ?_)
  · simp only [fa_lt, fa_le, fa_eq, ltv_0, ltv_48] at c2
    refine lv_iconst (v := 0) hx hb dX7_isDigit_26 (by decide) ?_
    have hP9 := hP.sub (ws' := [(a0, .inr (5, [.ref a2, g3, g4, g5, g6, g7, g8, g9, g10, g11, g12, g13])), (a2, .inl (cB14, 900, .inl f15))]) [0, 1] rfl
    have hD9 := hD.sub (ws' := [(a0, .inr (5, [.ref a2, g3, g4, g5, g6, g7, g8, g9, g10, g11, g12, g13])), (a2, .inl (cB14, 900, .inl f15))]) [0, 1] (by decide) rfl
    have hK9 := hK.sub (tys' := []) [] rfl
    exact W.zret (v := 0) hx hb hr rfl (fun t ht hW => ⟨⟨0, (), rfl, (by first | trivial | omega | (simp only [ltv_0]; omega)), by rw [ht]; exact hP9, va_K.moved hW.alike hK9, hD9⟩, hS.F ht⟩) hS.2.2 dX7_isDigit_27
  · simp only [fa_lt, fa_le, fa_eq, ltv_0, ltv_48] at c2
    refine lv_aload_n hx hb dX7_isDigit_11 rfl (lv_at hl 0 rfl) ?_
    refine va_get (D := (dC, dI)) (ci := 5) (v := .ref a2) (C := RX7) (T := TX7) (N := 12) hx hb hts iX7_isDigit_X7 hown hK hP 0 rfl rfl 0 (by decide) (hts (.fieldLink RX7 9 "HookPier$Reader" "text" "[B") (List.mem_of_getElem? (i := 1) rfl)) (fun _ h9 => h9) rfl dX7_isDigit_12 ?_
    refine lv_iload_n hx hb dX7_isDigit_15 rfl (lv_at hl 1 rfl) ?_
    refine va_bald hx hb hK hP 1 0 rfl rfl (vp_in_iff.mpr (by omega)) dX7_isDigit_16 ?_
    refine lv_topi (fun z3 ez3 => ?_)
    clear ez3
    refine lv_bipush (v := 57) hx hb dX7_isDigit_17 (by decide) ?_
    refine lv_icmp_gt (tgt := 26) hx hb dX7_isDigit_19 (by decide) (fun c4 => ?_) (fun c4 => ?_)
    · simp only [fa_lt, fa_le, fa_eq, ltv_0, ltv_57] at c4
      refine lv_iconst (v := 0) hx hb dX7_isDigit_26 (by decide) ?_
      have hP9 := hP.sub (ws' := [(a0, .inr (5, [.ref a2, g3, g4, g5, g6, g7, g8, g9, g10, g11, g12, g13])), (a2, .inl (cB14, 900, .inl f15))]) [0, 1] rfl
      have hD9 := hD.sub (ws' := [(a0, .inr (5, [.ref a2, g3, g4, g5, g6, g7, g8, g9, g10, g11, g12, g13])), (a2, .inl (cB14, 900, .inl f15))]) [0, 1] (by decide) rfl
      have hK9 := hK.sub (tys' := []) [] rfl
      exact W.zret (v := 0) hx hb hr rfl (fun t ht hW => ⟨⟨0, (), rfl, (by first | trivial | omega | (simp only [ltv_0]; omega)), by rw [ht]; exact hP9, va_K.moved hW.alike hK9, hD9⟩, hS.F ht⟩) hS.2.2 dX7_isDigit_27
    · simp only [fa_lt, fa_le, fa_eq, ltv_0, ltv_57] at c4
      refine lv_iconst (v := 1) hx hb dX7_isDigit_22 (by decide) ?_
      refine lv_goto (tgt := 27) hx hb dX7_isDigit_23 (by decide) ?_
      have hP9 := hP.sub (ws' := [(a0, .inr (5, [.ref a2, g3, g4, g5, g6, g7, g8, g9, g10, g11, g12, g13])), (a2, .inl (cB14, 900, .inl f15))]) [0, 1] rfl
      have hD9 := hD.sub (ws' := [(a0, .inr (5, [.ref a2, g3, g4, g5, g6, g7, g8, g9, g10, g11, g12, g13])), (a2, .inl (cB14, 900, .inl f15))]) [0, 1] (by decide) rfl
      have hK9 := hK.sub (tys' := []) [] rfl
      exact W.zret (v := 1) hx hb hr rfl (fun t ht hW => ⟨⟨1, (), rfl, (by first | trivial | omega | (simp only [ltv_0, ltv_1]; omega)), by rw [ht]; exact hP9, va_K.moved hW.alike hK9, hD9⟩, hS.F ht⟩) hS.2.2 dX7_isDigit_27
theorem dX7_advance_0 : decode cX7_advance 0 = .ok (.aload_n 0, 1) := by decide +kernel
theorem dX7_advance_1 : decode cX7_advance 1 = .ok (.aload_n 0, 1) := by decide +kernel
theorem dX7_advance_100 : decode cX7_advance 100 = .ok (.invokevirtual 245, 3) := by decide +kernel
theorem dX7_advance_103 : decode cX7_advance 103 = .ok (.ifCond .eq 16, 3) := by decide +kernel
theorem dX7_advance_106 : decode cX7_advance 106 = .ok (.aload_n 0, 1) := by decide +kernel
theorem dX7_advance_107 : decode cX7_advance 107 = .ok (.dup, 1) := by decide +kernel
theorem dX7_advance_108 : decode cX7_advance 108 = .ok (.getfield 28, 3) := by decide +kernel
theorem dX7_advance_111 : decode cX7_advance 111 = .ok (.iconst 1, 1) := by decide +kernel
theorem dX7_advance_112 : decode cX7_advance 112 = .ok (.iadd, 1) := by decide +kernel
theorem dX7_advance_113 : decode cX7_advance 113 = .ok (.putfield 28, 3) := by decide +kernel
theorem dX7_advance_116 : decode cX7_advance 116 = .ok (.goto (-32), 3) := by decide +kernel
theorem dX7_advance_119 : decode cX7_advance 119 = .ok (.aload_n 0, 1) := by decide +kernel
theorem dX7_advance_12 : decode cX7_advance 12 = .ok (.aload_n 0, 1) := by decide +kernel
theorem dX7_advance_120 : decode cX7_advance 120 = .ok (.aload_n 0, 1) := by decide +kernel
theorem dX7_advance_121 : decode cX7_advance 121 = .ok (.getfield 28, 3) := by decide +kernel
theorem dX7_advance_124 : decode cX7_advance 124 = .ok (.aload_n 0, 1) := by decide +kernel
theorem dX7_advance_125 : decode cX7_advance 125 = .ok (.getfield 25, 3) := by decide +kernel
theorem dX7_advance_128 : decode cX7_advance 128 = .ok (.isub, 1) := by decide +kernel
theorem dX7_advance_129 : decode cX7_advance 129 = .ok (.bipush 8, 2) := by decide +kernel
theorem dX7_advance_13 : decode cX7_advance 13 = .ok (.getfield 19, 3) := by decide +kernel
theorem dX7_advance_131 : decode cX7_advance 131 = .ok (.if_icmp .gt 7, 3) := by decide +kernel
theorem dX7_advance_134 : decode cX7_advance 134 = .ok (.iconst 1, 1) := by decide +kernel
theorem dX7_advance_135 : decode cX7_advance 135 = .ok (.goto 4, 3) := by decide +kernel
theorem dX7_advance_138 : decode cX7_advance 138 = .ok (.iconst 4, 1) := by decide +kernel
theorem dX7_advance_139 : decode cX7_advance 139 = .ok (.putfield 22, 3) := by decide +kernel
theorem dX7_advance_142 : decode cX7_advance 142 = .ok (.goto 107, 3) := by decide +kernel
theorem dX7_advance_145 : decode cX7_advance 145 = .ok (.aload_n 0, 1) := by decide +kernel
theorem dX7_advance_146 : decode cX7_advance 146 = .ok (.aload_n 0, 1) := by decide +kernel
theorem dX7_advance_147 : decode cX7_advance 147 = .ok (.getfield 25, 3) := by decide +kernel
theorem dX7_advance_150 : decode cX7_advance 150 = .ok (.invokevirtual 248, 3) := by decide +kernel
theorem dX7_advance_153 : decode cX7_advance 153 = .ok (.ifCond .eq 63, 3) := by decide +kernel
theorem dX7_advance_156 : decode cX7_advance 156 = .ok (.aload_n 0, 1) := by decide +kernel
theorem dX7_advance_157 : decode cX7_advance 157 = .ok (.getfield 28, 3) := by decide +kernel
theorem dX7_advance_16 : decode cX7_advance 16 = .ok (.if_icmp .ge 30, 3) := by decide +kernel
theorem dX7_advance_160 : decode cX7_advance 160 = .ok (.aload_n 0, 1) := by decide +kernel
theorem dX7_advance_161 : decode cX7_advance 161 = .ok (.getfield 19, 3) := by decide +kernel
theorem dX7_advance_164 : decode cX7_advance 164 = .ok (.if_icmp .ge 27, 3) := by decide +kernel
theorem dX7_advance_167 : decode cX7_advance 167 = .ok (.aload_n 0, 1) := by decide +kernel
theorem dX7_advance_168 : decode cX7_advance 168 = .ok (.aload_n 0, 1) := by decide +kernel
theorem dX7_advance_169 : decode cX7_advance 169 = .ok (.getfield 28, 3) := by decide +kernel
theorem dX7_advance_172 : decode cX7_advance 172 = .ok (.invokevirtual 248, 3) := by decide +kernel
theorem dX7_advance_175 : decode cX7_advance 175 = .ok (.ifCond .eq 16, 3) := by decide +kernel
theorem dX7_advance_178 : decode cX7_advance 178 = .ok (.aload_n 0, 1) := by decide +kernel
theorem dX7_advance_179 : decode cX7_advance 179 = .ok (.dup, 1) := by decide +kernel
theorem dX7_advance_180 : decode cX7_advance 180 = .ok (.getfield 28, 3) := by decide +kernel
theorem dX7_advance_183 : decode cX7_advance 183 = .ok (.iconst 1, 1) := by decide +kernel
theorem dX7_advance_184 : decode cX7_advance 184 = .ok (.iadd, 1) := by decide +kernel
theorem dX7_advance_185 : decode cX7_advance 185 = .ok (.putfield 28, 3) := by decide +kernel
theorem dX7_advance_188 : decode cX7_advance 188 = .ok (.goto (-32), 3) := by decide +kernel
theorem dX7_advance_19 : decode cX7_advance 19 = .ok (.aload_n 0, 1) := by decide +kernel
theorem dX7_advance_191 : decode cX7_advance 191 = .ok (.aload_n 0, 1) := by decide +kernel
theorem dX7_advance_192 : decode cX7_advance 192 = .ok (.aload_n 0, 1) := by decide +kernel
theorem dX7_advance_193 : decode cX7_advance 193 = .ok (.getfield 28, 3) := by decide +kernel
theorem dX7_advance_196 : decode cX7_advance 196 = .ok (.aload_n 0, 1) := by decide +kernel
theorem dX7_advance_197 : decode cX7_advance 197 = .ok (.getfield 25, 3) := by decide +kernel
theorem dX7_advance_2 : decode cX7_advance 2 = .ok (.getfield 28, 3) := by decide +kernel
theorem dX7_advance_20 : decode cX7_advance 20 = .ok (.getfield 9, 3) := by decide +kernel
theorem dX7_advance_200 : decode cX7_advance 200 = .ok (.isub, 1) := by decide +kernel
theorem dX7_advance_201 : decode cX7_advance 201 = .ok (.iconst 2, 1) := by decide +kernel
theorem dX7_advance_202 : decode cX7_advance 202 = .ok (.if_icmp .gt 7, 3) := by decide +kernel
theorem dX7_advance_205 : decode cX7_advance 205 = .ok (.iconst 2, 1) := by decide +kernel
theorem dX7_advance_206 : decode cX7_advance 206 = .ok (.goto 4, 3) := by decide +kernel
theorem dX7_advance_209 : decode cX7_advance 209 = .ok (.iconst 4, 1) := by decide +kernel
theorem dX7_advance_210 : decode cX7_advance 210 = .ok (.putfield 22, 3) := by decide +kernel
theorem dX7_advance_213 : decode cX7_advance 213 = .ok (.goto 36, 3) := by decide +kernel
theorem dX7_advance_216 : decode cX7_advance 216 = .ok (.aload_n 0, 1) := by decide +kernel
theorem dX7_advance_217 : decode cX7_advance 217 = .ok (.aload_n 0, 1) := by decide +kernel
theorem dX7_advance_218 : decode cX7_advance 218 = .ok (.getfield 9, 3) := by decide +kernel
theorem dX7_advance_221 : decode cX7_advance 221 = .ok (.aload_n 0, 1) := by decide +kernel
theorem dX7_advance_222 : decode cX7_advance 222 = .ok (.getfield 25, 3) := by decide +kernel
theorem dX7_advance_225 : decode cX7_advance 225 = .ok (.baload, 1) := by decide +kernel
theorem dX7_advance_226 : decode cX7_advance 226 = .ok (.bipush 59, 2) := by decide +kernel
theorem dX7_advance_228 : decode cX7_advance 228 = .ok (.if_icmp .ne 7, 3) := by decide +kernel
theorem dX7_advance_23 : decode cX7_advance 23 = .ok (.aload_n 0, 1) := by decide +kernel
theorem dX7_advance_231 : decode cX7_advance 231 = .ok (.iconst 3, 1) := by decide +kernel
theorem dX7_advance_232 : decode cX7_advance 232 = .ok (.goto 4, 3) := by decide +kernel
theorem dX7_advance_235 : decode cX7_advance 235 = .ok (.iconst 4, 1) := by decide +kernel
theorem dX7_advance_236 : decode cX7_advance 236 = .ok (.putfield 22, 3) := by decide +kernel
theorem dX7_advance_239 : decode cX7_advance 239 = .ok (.aload_n 0, 1) := by decide +kernel
theorem dX7_advance_24 : decode cX7_advance 24 = .ok (.getfield 25, 3) := by decide +kernel
theorem dX7_advance_240 : decode cX7_advance 240 = .ok (.dup, 1) := by decide +kernel
theorem dX7_advance_241 : decode cX7_advance 241 = .ok (.getfield 28, 3) := by decide +kernel
theorem dX7_advance_244 : decode cX7_advance 244 = .ok (.iconst 1, 1) := by decide +kernel
theorem dX7_advance_245 : decode cX7_advance 245 = .ok (.iadd, 1) := by decide +kernel
theorem dX7_advance_246 : decode cX7_advance 246 = .ok (.putfield 28, 3) := by decide +kernel
theorem dX7_advance_249 : decode cX7_advance 249 = .ok (.return_, 1) := by decide +kernel
theorem dX7_advance_27 : decode cX7_advance 27 = .ok (.baload, 1) := by decide +kernel
theorem dX7_advance_28 : decode cX7_advance 28 = .ok (.bipush 32, 2) := by decide +kernel
theorem dX7_advance_30 : decode cX7_advance 30 = .ok (.if_icmp .ne 16, 3) := by decide +kernel
theorem dX7_advance_33 : decode cX7_advance 33 = .ok (.aload_n 0, 1) := by decide +kernel
theorem dX7_advance_34 : decode cX7_advance 34 = .ok (.dup, 1) := by decide +kernel
theorem dX7_advance_35 : decode cX7_advance 35 = .ok (.getfield 25, 3) := by decide +kernel
theorem dX7_advance_38 : decode cX7_advance 38 = .ok (.iconst 1, 1) := by decide +kernel
theorem dX7_advance_39 : decode cX7_advance 39 = .ok (.iadd, 1) := by decide +kernel
theorem dX7_advance_40 : decode cX7_advance 40 = .ok (.putfield 25, 3) := by decide +kernel
theorem dX7_advance_43 : decode cX7_advance 43 = .ok (.goto (-35), 3) := by decide +kernel
theorem dX7_advance_46 : decode cX7_advance 46 = .ok (.aload_n 0, 1) := by decide +kernel
theorem dX7_advance_47 : decode cX7_advance 47 = .ok (.aload_n 0, 1) := by decide +kernel
theorem dX7_advance_48 : decode cX7_advance 48 = .ok (.getfield 25, 3) := by decide +kernel
theorem dX7_advance_5 : decode cX7_advance 5 = .ok (.putfield 25, 3) := by decide +kernel
theorem dX7_advance_51 : decode cX7_advance 51 = .ok (.putfield 28, 3) := by decide +kernel
theorem dX7_advance_54 : decode cX7_advance 54 = .ok (.aload_n 0, 1) := by decide +kernel
theorem dX7_advance_55 : decode cX7_advance 55 = .ok (.getfield 25, 3) := by decide +kernel
theorem dX7_advance_58 : decode cX7_advance 58 = .ok (.aload_n 0, 1) := by decide +kernel
theorem dX7_advance_59 : decode cX7_advance 59 = .ok (.getfield 19, 3) := by decide +kernel
theorem dX7_advance_62 : decode cX7_advance 62 = .ok (.if_icmp .lt 11, 3) := by decide +kernel
theorem dX7_advance_65 : decode cX7_advance 65 = .ok (.aload_n 0, 1) := by decide +kernel
theorem dX7_advance_66 : decode cX7_advance 66 = .ok (.iconst 0, 1) := by decide +kernel
theorem dX7_advance_67 : decode cX7_advance 67 = .ok (.putfield 22, 3) := by decide +kernel
theorem dX7_advance_70 : decode cX7_advance 70 = .ok (.goto 179, 3) := by decide +kernel
theorem dX7_advance_73 : decode cX7_advance 73 = .ok (.aload_n 0, 1) := by decide +kernel
theorem dX7_advance_74 : decode cX7_advance 74 = .ok (.aload_n 0, 1) := by decide +kernel
theorem dX7_advance_75 : decode cX7_advance 75 = .ok (.getfield 25, 3) := by decide +kernel
theorem dX7_advance_78 : decode cX7_advance 78 = .ok (.invokevirtual 245, 3) := by decide +kernel
theorem dX7_advance_8 : decode cX7_advance 8 = .ok (.aload_n 0, 1) := by decide +kernel
theorem dX7_advance_81 : decode cX7_advance 81 = .ok (.ifCond .eq 64, 3) := by decide +kernel
theorem dX7_advance_84 : decode cX7_advance 84 = .ok (.aload_n 0, 1) := by decide +kernel
theorem dX7_advance_85 : decode cX7_advance 85 = .ok (.getfield 28, 3) := by decide +kernel
theorem dX7_advance_88 : decode cX7_advance 88 = .ok (.aload_n 0, 1) := by decide +kernel
theorem dX7_advance_89 : decode cX7_advance 89 = .ok (.getfield 19, 3) := by decide +kernel
theorem dX7_advance_9 : decode cX7_advance 9 = .ok (.getfield 25, 3) := by decide +kernel
theorem dX7_advance_92 : decode cX7_advance 92 = .ok (.if_icmp .ge 27, 3) := by decide +kernel
theorem dX7_advance_95 : decode cX7_advance 95 = .ok (.aload_n 0, 1) := by decide +kernel
theorem dX7_advance_96 : decode cX7_advance 96 = .ok (.aload_n 0, 1) := by decide +kernel
theorem dX7_advance_97 : decode cX7_advance 97 = .ok (.getfield 28, 3) := by decide +kernel
def vX7_advance : List Cond := .code yX7_advance cX7_advance 1 none :: ([.fieldLink RX7 28 "HookPier$Reader" "behind" "I", .fieldLink RX7 25 "HookPier$Reader" "start" "I", .fieldLink RX7 19 "HookPier$Reader" "end" "I", .methodLink RX7 245 yX7_isLetter, .instanceMethod yX7_isLetter, .selects RX7 yX7_isLetter yX7_isLetter, .initialized RX7, .code yX7_isLetter cX7_isLetter 2 (some .boolean), .fieldLink RX7 9 "HookPier$Reader" "text" "[B", .methodLink RX7 248 yX7_isDigit, .instanceMethod yX7_isDigit, .selects RX7 yX7_isDigit yX7_isDigit, .code yX7_isDigit cX7_isDigit 2 (some .boolean), .fieldLink RX7 22 "HookPier$Reader" "token" "I"] ++ wsX70)
theorem iX7_advance_X7 : ∀ w ∈ wsX70, w ∈ vX7_advance := fun _ h => List.mem_cons_of_mem _ (List.mem_append_right _ h)
set_option maxRecDepth 20000 in
theorem gX7_advance_0 : GoodIn vX7_advance (wsV RX7 245 RX7 yX7_isLetter vX7_isLetter) := goodIn_app (goodIn_r [.methodLink RX7 245 yX7_isLetter, .instanceMethod yX7_isLetter, .selects RX7 yX7_isLetter yX7_isLetter, .initialized RX7] [4, 5, 6, 7] (by decide +kernel) (by decide +kernel)) (goodIn_ca (goodIn_r (.code yX7_isLetter cX7_isLetter 2 (some .boolean) :: [.fieldLink RX7 9 "HookPier$Reader" "text" "[B"]) [8, 9] (by decide +kernel) (by decide +kernel) : GoodIn vX7_advance (.code yX7_isLetter cX7_isLetter 2 (some .boolean) :: [.fieldLink RX7 9 "HookPier$Reader" "text" "[B"])) (goodIn_sub iX7_advance_X7 (by decide +kernel)))
set_option maxRecDepth 20000 in
theorem gX7_advance_1 : GoodIn vX7_advance (wsV RX7 248 RX7 yX7_isDigit vX7_isDigit) := goodIn_app (goodIn_r [.methodLink RX7 248 yX7_isDigit, .instanceMethod yX7_isDigit, .selects RX7 yX7_isDigit yX7_isDigit, .initialized RX7] [10, 11, 12, 7] (by decide +kernel) (by decide +kernel)) (goodIn_ca (goodIn_r (.code yX7_isDigit cX7_isDigit 2 (some .boolean) :: [.fieldLink RX7 9 "HookPier$Reader" "text" "[B"]) [13, 9] (by decide +kernel) (by decide +kernel) : GoodIn vX7_advance (.code yX7_isDigit cX7_isDigit 2 (some .boolean) :: [.fieldLink RX7 9 "HookPier$Reader" "text" "[B"])) (goodIn_sub iX7_advance_X7 (by decide +kernel)))
set_option maxHeartbeats 2000000 in
set_option maxRecDepth 100000 in
theorem kX7_advance (l : Launch) (dC : Nat → ClassId) (dI : Nat → Nat → Nat) (a0 : Nat) (a1 : Nat) (g2 : Value) (k3 : Int32) (k4 : Int32) (k5 : Int32) (k6 : Int32) (g7 : Value) (g8 : Value) (g9 : Value) (g10 : Value) (g11 : Value) (g12 : Value) (cB13 : ClassId) (f14 : Nat → Int32) (hk3 : (0 ≤ k3.toInt ∧ k3.toInt ≤ 900)) (hk4 : (0 ≤ k4.toInt ∧ k4.toInt ≤ 4)) (hk5 : (0 ≤ k5.toInt ∧ k5.toInt ≤ 900)) (hk6 : (0 ≤ k6.toInt ∧ k6.toInt ≤ 900)) (sz : Nat) : Met l yX7_advance vX7_advance ({ frames := 1, cells := 0, slots := 0, locals := 21 }) (PC (dC, dI) [.ref a0] sz [(a0, .inr (5, [.ref a1, g2, .int k3, .int k4, .int k5, .int k6, g7, g8, g9, g10, g11, g12])), (a1, .inl (cB13, 900, .inl f14))] [(cB13, .byte)]) (va_Qv (S := Int32 × Int32 × Int32) (fun u => (0 ≤ (u.1).toInt ∧ (u.1).toInt ≤ 4) ∧ (0 ≤ (u.2.1).toInt ∧ (u.2.1).toInt ≤ 900) ∧ (0 ≤ (u.2.2).toInt ∧ (u.2.2).toInt ≤ 900)) (fun u t => BC (dC, dI) (va_A [(a0, .inr (5, [.ref a1, g2, .int k3, .int k4, .int k5, .int k6, g7, g8, g9, g10, g11, g12])), (a1, .inl (cB13, 900, .inl f14))] sz) [(a0, .inr (5, [.ref a1, g2, .int k3, .int (u.1), .int (u.2.1), .int (u.2.2), g7, g8, g9, g10, g11, g12])), (a1, .inl (cB13, 900, .inl f14))] [] t) (va_A [(a0, .inr (5, [.ref a1, g2, .int k3, .int k4, .int k5, .int k6, g7, g8, g9, g10, g11, g12])), (a1, .inl (cB13, 900, .inl f14))] sz)) 0 0 (va_A [(a0, .inr (5, [.ref a1, g2, .int k3, .int k4, .int k5, .int k6, g7, g8, g9, g10, g11, g12])), (a1, .inl (cB13, 900, .inl f14))] sz) := by
  refine Met.ofW (cc := cX7_advance) (maxL := 1) (ret := none) (by decide) rfl ?_
  intro p e s m args below meth c s₁ B hml hv
  obtain ⟨rfl, hsz, hP, hK, hD0, hN⟩ := hv
  have hx := B.exec
  have hb := B.bytes
  have hr := B.returns
  have hts := atoms_spec (ws := vX7_advance) B.pre
  have hown : s.vm.findClass RX7 = some m.cls := findClass_of_methodNamed B.named
  have hlocks := B.notSynchronized
  subst hsz
  have hD := hD0.self (sz := s.heap.size)
  generalize hAe : va_A [(a0, .inr (5, [.ref a1, g2, .int k3, .int k4, .int k5, .int k6, g7, g8, g9, g10, g11, g12])), (a1, .inl (cB13, 900, .inl f14))] s.heap.size = A at hD ⊢
  have hA : ∀ q : Nat, s.heap.size ≤ q → A q := fun q h => by rw [← hAe]; exact Or.inr h
  have hS : va_S A s.heap s.heap [] := va_S.rf
  have hP : va_P (dC, dI) vwCl [(a0, .inr (5, [.ref a1, g2, .int k3, .int k4, .int k5, .int k6, g7, g8, g9, g10, g11, g12])), (a1, .inl (cB13, 900, .inl f14))] s.heap := hP
  have hl := lv_entry ([.ref a0]) (n := 1) (Nat.le_of_ble_eq_true rfl)
  rw [lg_entry_eq]
  generalize (lg_sl ([.ref a0]) ++ List.replicate (1 - (lg_sl ([.ref a0])).length) Slot.unset).toArray = ls at hl ⊢
  have hl : lv_has ls 1 [(0, .ref a0)] := hl
  refine lv_aload_n hx hb dX7_advance_0 rfl (lv_at hl 0 rfl) ?_
  refine lv_aload_n hx hb dX7_advance_1 rfl (lv_at hl 0 rfl) ?_
  refine va_get (D := (dC, dI)) (ci := 5) (v := .int k6) (C := RX7) (T := TX7) (N := 12) hx hb hts iX7_advance_X7 hown hK hP 0 rfl rfl 5 (by decide) (hts (.fieldLink RX7 28 "HookPier$Reader" "behind" "I") (List.mem_of_getElem? (i := 1) rfl)) (fun _ h9 => h9) rfl dX7_advance_2 ?_
  refine va_put (D := (dC, dI)) (ci := 5) (v := .int k6) (ty := .int) (C := RX7) (T := TX7) (N := 12) hx hb hts iX7_advance_X7 tyX7 tyX7_ok nmX7 hown hK hP hD hS 0 rfl rfl 4 (by decide) (hts (.fieldLink RX7 25 "HookPier$Reader" "start" "I") (List.mem_of_getElem? (i := 2) rfl)) (fun _ h9 => h9) rfl (by decide +kernel) rfl rfl (Nat.le_of_ble_eq_true rfl) dX7_advance_5 (fun H locs hP hD hS => ?_)
  have hP : va_P (dC, dI) vwCl [(a0, .inr (5, [.ref a1, g2, .int k3, .int k4, .int k6, .int k6, g7, g8, g9, g10, g11, g12])), (a1, .inl (cB13, 900, .inl f14))] H := hP
  have hD : va_D A [(a0, .inr (5, [.ref a1, g2, .int k3, .int k4, .int k6, .int k6, g7, g8, g9, g10, g11, g12])), (a1, .inl (cB13, 900, .inl f14))] := hD
  have L8_238 : ∀ (n : Nat) (z237 : Int32) (H : Heap) (locs : List Loc) (ls : Array Slot), (0 ≤ z237.toInt ∧ z237.toInt ≤ 900) → 900 - z237.toInt < (n : Int) → va_P (dC, dI) vwCl [(a0, .inr (5, [.ref a1, g2, .int k3, .int k4, .int z237, .int k6, g7, g8, g9, g10, g11, g12])), (a1, .inl (cB13, 900, .inl f14))] H → va_D A [(a0, .inr (5, [.ref a1, g2, .int k3, .int k4, .int z237, .int k6, g7, g8, g9, g10, g11, g12])), (a1, .inl (cB13, 900, .inl f14))] → va_S A s.heap H locs → lv_has ls 1 [(0, .ref a0)] → W p l e (headSpec vX7_advance { frames := 1, cells := 0, slots := 0, locals := 21 }).room s m ([.ref a0]).toArray below meth c H locs 0 0 (MQ below (va_Qv (S := Int32 × Int32 × Int32) (fun u => (0 ≤ (u.1).toInt ∧ (u.1).toInt ≤ 4) ∧ (0 ≤ (u.2.1).toInt ∧ (u.2.1).toInt ≤ 900) ∧ (0 ≤ (u.2.2).toInt ∧ (u.2.2).toInt ≤ 900)) (fun u t => BC (dC, dI) A [(a0, .inr (5, [.ref a1, g2, .int k3, .int (u.1), .int (u.2.1), .int (u.2.2), g7, g8, g9, g10, g11, g12])), (a1, .inl (cB13, 900, .inl f14))] [] t) A) ([.ref a0]).toArray s 0 0 A) (F0 m 8 ls []) := by
    intro n
    induction n with
    | zero =>
      intro z237 H locs ls b8_0 hm _ _ _ _
      exact absurd hm (by omega)
    | succ n ih8 =>
      intro z237 H locs ls b8_0 hm8 hP hD hS hl
      refine lv_aload_n hx hb dX7_advance_8 rfl (lv_at hl 0 rfl) ?_
      refine va_get (D := (dC, dI)) (ci := 5) (v := .int z237) (C := RX7) (T := TX7) (N := 12) hx hb hts iX7_advance_X7 hown hK hP 0 rfl rfl 4 (by decide) (hts (.fieldLink RX7 25 "HookPier$Reader" "start" "I") (List.mem_of_getElem? (i := 2) rfl)) (fun _ h9 => h9) rfl dX7_advance_9 ?_
      refine lv_aload_n hx hb dX7_advance_12 rfl (lv_at hl 0 rfl) ?_
      refine va_get (D := (dC, dI)) (ci := 5) (v := .int k3) (C := RX7) (T := TX7) (N := 12) hx hb hts iX7_advance_X7 hown hK hP 0 rfl rfl 2 (by decide) (hts (.fieldLink RX7 19 "HookPier$Reader" "end" "I") (List.mem_of_getElem? (i := 3) rfl)) (fun _ h9 => h9) rfl dX7_advance_13 ?_
      refine lv_icmp_ge (tgt := 46) hx hb dX7_advance_16 (by decide) (fun c239 => ?_) (fun c239 => ?_)
      · simp only [fa_lt, fa_le, fa_eq, ltv_0] at c239
        refine lv_aload_n hx hb dX7_advance_46 rfl (lv_at hl 0 rfl) ?_
        refine lv_aload_n hx hb dX7_advance_47 rfl (lv_at hl 0 rfl) ?_
        refine va_get (D := (dC, dI)) (ci := 5) (v := .int z237) (C := RX7) (T := TX7) (N := 12) hx hb hts iX7_advance_X7 hown hK hP 0 rfl rfl 4 (by decide) (hts (.fieldLink RX7 25 "HookPier$Reader" "start" "I") (List.mem_of_getElem? (i := 2) rfl)) (fun _ h9 => h9) rfl dX7_advance_48 ?_
        refine va_put (D := (dC, dI)) (ci := 5) (v := .int z237) (ty := .int) (C := RX7) (T := TX7) (N := 12) hx hb hts iX7_advance_X7 tyX7 tyX7_ok nmX7 hown hK hP hD hS 0 rfl rfl 5 (by decide) (hts (.fieldLink RX7 28 "HookPier$Reader" "behind" "I") (List.mem_of_getElem? (i := 1) rfl)) (fun _ h9 => h9) rfl (by decide +kernel) rfl rfl (Nat.le_of_ble_eq_true rfl) dX7_advance_51 (fun H locs hP hD hS => ?_)
        have hP : va_P (dC, dI) vwCl [(a0, .inr (5, [.ref a1, g2, .int k3, .int k4, .int z237, .int z237, g7, g8, g9, g10, g11, g12])), (a1, .inl (cB13, 900, .inl f14))] H := hP
        have hD : va_D A [(a0, .inr (5, [.ref a1, g2, .int k3, .int k4, .int z237, .int z237, g7, g8, g9, g10, g11, g12])), (a1, .inl (cB13, 900, .inl f14))] := hD
        refine lv_aload_n hx hb dX7_advance_54 rfl (lv_at hl 0 rfl) ?_
        refine va_get (D := (dC, dI)) (ci := 5) (v := .int z237) (C := RX7) (T := TX7) (N := 12) hx hb hts iX7_advance_X7 hown hK hP 0 rfl rfl 4 (by decide) (hts (.fieldLink RX7 25 "HookPier$Reader" "start" "I") (List.mem_of_getElem? (i := 2) rfl)) (fun _ h9 => h9) rfl dX7_advance_55 ?_
        refine lv_aload_n hx hb dX7_advance_58 rfl (lv_at hl 0 rfl) ?_
        refine va_get (D := (dC, dI)) (ci := 5) (v := .int k3) (C := RX7) (T := TX7) (N := 12) hx hb hts iX7_advance_X7 hown hK hP 0 rfl rfl 2 (by decide) (hts (.fieldLink RX7 19 "HookPier$Reader" "end" "I") (List.mem_of_getElem? (i := 3) rfl)) (fun _ h9 => h9) rfl dX7_advance_59 ?_
        refine lv_icmp_lt (tgt := 73) hx hb dX7_advance_62 (by decide) (fun c240 => ?_) (fun c240 => ?_)
        · simp only [fa_lt, fa_le, fa_eq, ltv_0] at c240
          refine lv_aload_n hx hb dX7_advance_73 rfl (lv_at hl 0 rfl) ?_
          refine lv_aload_n hx hb dX7_advance_74 rfl (lv_at hl 0 rfl) ?_
          refine va_get (D := (dC, dI)) (ci := 5) (v := .int z237) (C := RX7) (T := TX7) (N := 12) hx hb hts iX7_advance_X7 hown hK hP 0 rfl rfl 4 (by decide) (hts (.fieldLink RX7 25 "HookPier$Reader" "start" "I") (List.mem_of_getElem? (i := 2) rfl)) (fun _ h9 => h9) rfl dX7_advance_75 ?_
          refine cl_i (wc := [(a0, .inr (5, [.ref a1, g2, .int k3, .int k4, .int z237, .int z237, g7, g8, g9, g10, g11, g12])), (a1, .inl (cB13, 900, .inl f14))]) (wr := []) (va_runV (As := [.int z237]) (rest := []) ⟨hx, hb, hml, hown, hts⟩ (kX7_isLetter l dC dI a0 z237 a1 (g2) (.int k3) (.int k4) (.int z237) (.int z237) (g7) (g8) (g9) (g10) (g11) (g12) cB13 f14 (by first | omega | (simp only [ltv_0]; omega)) H.size) (cwV 1 hts gX7_advance_0 rfl rfl rfl (by decide +kernel) ⟨Nat.le_of_ble_eq_true rfl, Nat.le_of_ble_eq_true rfl⟩) (PV (hP.sub (ws' := [(a0, .inr (5, [.ref a1, g2, .int k3, .int k4, .int z237, .int z237, g7, g8, g9, g10, g11, g12])), (a1, .inl (cB13, 900, .inl f14))]) [0, 1] rfl) (hK.sub (tys' := [(cB13, .byte)]) [0] rfl) (hD.sub (ws' := [(a0, .inr (5, [.ref a1, g2, .int k3, .int k4, .int z237, .int z237, g7, g8, g9, g10, g11, g12])), (a1, .inl (cB13, 900, .inl f14))]) [0, 1] (by decide) rfl) hN 0 rfl rfl) rfl rfl hl.1 rfl (lv_room (Nat.le_of_ble_eq_true rfl)) dX7_advance_78 ⟨Nat.le_of_ble_eq_true rfl, Nat.le_of_ble_eq_true rfl⟩) hP hD hK hS hA [0, 1] [] rfl rfl (by decide) (by decide) (fun z241 _u H locs hw hP hD hK hS => ?_)
          have b242 := hw
          have hP : va_P (dC, dI) vwCl [(a0, .inr (5, [.ref a1, g2, .int k3, .int k4, .int z237, .int z237, g7, g8, g9, g10, g11, g12])), (a1, .inl (cB13, 900, .inl f14))] H := hP
          have hD : va_D A [(a0, .inr (5, [.ref a1, g2, .int k3, .int k4, .int z237, .int z237, g7, g8, g9, g10, g11, g12])), (a1, .inl (cB13, 900, .inl f14))] := hD
          have hK : va_K (dC, dI) vwCl [(cB13, .byte)] s := hK
          refine lv_if_eq (tgt := 145) hx hb dX7_advance_81 (by decide) (fun c243 => ?_) (fun c243 => ?_)
          · simp only [fa_lt, fa_le, fa_eq, ltv_0] at c243
            refine lv_aload_n hx hb dX7_advance_145 rfl (lv_at hl 0 rfl) ?_
            refine lv_aload_n hx hb dX7_advance_146 rfl (lv_at hl 0 rfl) ?_
            refine va_get (D := (dC, dI)) (ci := 5) (v := .int z237) (C := RX7) (T := TX7) (N := 12) hx hb hts iX7_advance_X7 hown hK hP 0 rfl rfl 4 (by decide) (hts (.fieldLink RX7 25 "HookPier$Reader" "start" "I") (List.mem_of_getElem? (i := 2) rfl)) (fun _ h9 => h9) rfl dX7_advance_147 ?_
            refine cl_i (wc := [(a0, .inr (5, [.ref a1, g2, .int k3, .int k4, .int z237, .int z237, g7, g8, g9, g10, g11, g12])), (a1, .inl (cB13, 900, .inl f14))]) (wr := []) (va_runV (As := [.int z237]) (rest := []) ⟨hx, hb, hml, hown, hts⟩ (kX7_isDigit l dC dI a0 z237 a1 (g2) (.int k3) (.int k4) (.int z237) (.int z237) (g7) (g8) (g9) (g10) (g11) (g12) cB13 f14 (by first | omega | (simp only [ltv_0]; omega)) H.size) (cwV 1 hts gX7_advance_1 rfl rfl rfl (by decide +kernel) ⟨Nat.le_of_ble_eq_true rfl, Nat.le_of_ble_eq_true rfl⟩) (PV (hP.sub (ws' := [(a0, .inr (5, [.ref a1, g2, .int k3, .int k4, .int z237, .int z237, g7, g8, g9, g10, g11, g12])), (a1, .inl (cB13, 900, .inl f14))]) [0, 1] rfl) (hK.sub (tys' := [(cB13, .byte)]) [0] rfl) (hD.sub (ws' := [(a0, .inr (5, [.ref a1, g2, .int k3, .int k4, .int z237, .int z237, g7, g8, g9, g10, g11, g12])), (a1, .inl (cB13, 900, .inl f14))]) [0, 1] (by decide) rfl) hN 0 rfl rfl) rfl rfl hl.1 rfl (lv_room (Nat.le_of_ble_eq_true rfl)) dX7_advance_150 ⟨Nat.le_of_ble_eq_true rfl, Nat.le_of_ble_eq_true rfl⟩) hP hD hK hS hA [0, 1] [] rfl rfl (by decide) (by decide) (fun z244 _u H locs hw hP hD hK hS => ?_)
            have b245 := hw
            have hP : va_P (dC, dI) vwCl [(a0, .inr (5, [.ref a1, g2, .int k3, .int k4, .int z237, .int z237, g7, g8, g9, g10, g11, g12])), (a1, .inl (cB13, 900, .inl f14))] H := hP
            have hD : va_D A [(a0, .inr (5, [.ref a1, g2, .int k3, .int k4, .int z237, .int z237, g7, g8, g9, g10, g11, g12])), (a1, .inl (cB13, 900, .inl f14))] := hD
            have hK : va_K (dC, dI) vwCl [(cB13, .byte)] s := hK
            refine lv_if_eq (tgt := 216) hx hb dX7_advance_153 (by decide) (fun c246 => ?_) (fun c246 => ?_)
            · simp only [fa_lt, fa_le, fa_eq, ltv_0] at c246
              refine lv_aload_n hx hb dX7_advance_216 rfl (lv_at hl 0 rfl) ?_
              refine lv_aload_n hx hb dX7_advance_217 rfl (lv_at hl 0 rfl) ?_
              refine va_get (D := (dC, dI)) (ci := 5) (v := .ref a1) (C := RX7) (T := TX7) (N := 12) hx hb hts iX7_advance_X7 hown hK hP 0 rfl rfl 0 (by decide) (hts (.fieldLink RX7 9 "HookPier$Reader" "text" "[B") (List.mem_of_getElem? (i := 9) rfl)) (fun _ h9 => h9) rfl dX7_advance_218 ?_
              refine lv_aload_n hx hb dX7_advance_221 rfl (lv_at hl 0 rfl) ?_
              refine va_get (D := (dC, dI)) (ci := 5) (v := .int z237) (C := RX7) (T := TX7) (N := 12) hx hb hts iX7_advance_X7 hown hK hP 0 rfl rfl 4 (by decide) (hts (.fieldLink RX7 25 "HookPier$Reader" "start" "I") (List.mem_of_getElem? (i := 2) rfl)) (fun _ h9 => h9) rfl dX7_advance_222 ?_
              refine va_bald hx hb hK hP 1 0 rfl rfl (vp_in_iff.mpr (by omega)) dX7_advance_225 ?_
              refine lv_topi (fun z247 ez247 => ?_)
              clear ez247
              refine lv_bipush (v := 59) hx hb dX7_advance_226 (by decide) ?_
              refine lv_icmp_ne (tgt := 235) hx hb dX7_advance_228 (by decide) (fun c248 => ?_) (fun c248 => ?_)
              · simp only [fa_lt, fa_le, fa_eq, ltv_0, ltv_59] at c248
                refine lv_iconst (v := 4) hx hb dX7_advance_235 (by decide) ?_
                refine va_put (D := (dC, dI)) (ci := 5) (v := .int 4) (ty := .int) (C := RX7) (T := TX7) (N := 12) hx hb hts iX7_advance_X7 tyX7 tyX7_ok nmX7 hown hK hP hD hS 0 rfl rfl 3 (by decide) (hts (.fieldLink RX7 22 "HookPier$Reader" "token" "I") (List.mem_of_getElem? (i := 14) rfl)) (fun _ h9 => h9) rfl (by decide +kernel) rfl rfl (Nat.le_of_ble_eq_true rfl) dX7_advance_236 (fun H locs hP hD hS => ?_)
                have hP : va_P (dC, dI) vwCl [(a0, .inr (5, [.ref a1, g2, .int k3, .int 4, .int z237, .int z237, g7, g8, g9, g10, g11, g12])), (a1, .inl (cB13, 900, .inl f14))] H := hP
                have hD : va_D A [(a0, .inr (5, [.ref a1, g2, .int k3, .int 4, .int z237, .int z237, g7, g8, g9, g10, g11, g12])), (a1, .inl (cB13, 900, .inl f14))] := hD
                refine lv_aload_n hx hb dX7_advance_239 rfl (lv_at hl 0 rfl) ?_
                refine lv_dup hx hb dX7_advance_240 rfl ?_
                refine va_get (D := (dC, dI)) (ci := 5) (v := .int z237) (C := RX7) (T := TX7) (N := 12) hx hb hts iX7_advance_X7 hown hK hP 0 rfl rfl 5 (by decide) (hts (.fieldLink RX7 28 "HookPier$Reader" "behind" "I") (List.mem_of_getElem? (i := 1) rfl)) (fun _ h9 => h9) rfl dX7_advance_241 ?_
                refine lv_iconst (v := 1) hx hb dX7_advance_244 (by decide) ?_
                refine lv_iadd hx hb dX7_advance_245 ?_
                refine lv_topi (fun z249 ez249 => ?_)
                have tz249 : z249.toInt = z237.toInt + 1 := by rw [ez249]; rw [iadd_t (by first | omega | (simp only [ltv_0, ltv_1]; omega)) (by first | omega | (simp only [ltv_0, ltv_1]; omega))]; first | done | (simp only [ltv_0, ltv_1])
                refine va_put (D := (dC, dI)) (ci := 5) (v := .int z249) (ty := .int) (C := RX7) (T := TX7) (N := 12) hx hb hts iX7_advance_X7 tyX7 tyX7_ok nmX7 hown hK hP hD hS 0 rfl rfl 5 (by decide) (hts (.fieldLink RX7 28 "HookPier$Reader" "behind" "I") (List.mem_of_getElem? (i := 1) rfl)) (fun _ h9 => h9) rfl (by decide +kernel) rfl rfl (Nat.le_of_ble_eq_true rfl) dX7_advance_246 (fun H locs hP hD hS => ?_)
                have hP : va_P (dC, dI) vwCl [(a0, .inr (5, [.ref a1, g2, .int k3, .int 4, .int z237, .int z249, g7, g8, g9, g10, g11, g12])), (a1, .inl (cB13, 900, .inl f14))] H := hP
                have hD : va_D A [(a0, .inr (5, [.ref a1, g2, .int k3, .int 4, .int z237, .int z249, g7, g8, g9, g10, g11, g12])), (a1, .inl (cB13, 900, .inl f14))] := hD
                have hP9 := hP.sub (ws' := [(a0, .inr (5, [.ref a1, g2, .int k3, .int 4, .int z237, .int z249, g7, g8, g9, g10, g11, g12])), (a1, .inl (cB13, 900, .inl f14))]) [0, 1] rfl
                have hD9 := hD.sub (ws' := [(a0, .inr (5, [.ref a1, g2, .int k3, .int 4, .int z237, .int z249, g7, g8, g9, g10, g11, g12])), (a1, .inl (cB13, 900, .inl f14))]) [0, 1] (by decide) rfl
                have hK9 := hK.sub (tys' := []) [] rfl
                exact W.vret hx hb hr (fun t ht hW => ⟨⟨(4, z237, z249), rfl, ⟨(by first | trivial | omega | (simp only [ltv_0, ltv_4]; omega)), (by first | trivial | omega | (simp only [ltv_0, ltv_4]; omega)), (by first | trivial | omega | (simp only [ltv_0, ltv_4]; omega))⟩, by rw [ht]; exact hP9, va_K.moved hW.alike hK9, hD9⟩, hS.F ht⟩) hS.2.2 dX7_advance_249
              · simp only [fa_lt, fa_le, fa_eq, ltv_0, ltv_59] at c248
                refine lv_iconst (v := 3) hx hb dX7_advance_231 (by decide) ?_
                refine lv_goto (tgt := 236) hx hb dX7_advance_232 (by decide) ?_
                refine va_put (D := (dC, dI)) (ci := 5) (v := .int 3) (ty := .int) (C := RX7) (T := TX7) (N := 12) hx hb hts iX7_advance_X7 tyX7 tyX7_ok nmX7 hown hK hP hD hS 0 rfl rfl 3 (by decide) (hts (.fieldLink RX7 22 "HookPier$Reader" "token" "I") (List.mem_of_getElem? (i := 14) rfl)) (fun _ h9 => h9) rfl (by decide +kernel) rfl rfl (Nat.le_of_ble_eq_true rfl) dX7_advance_236 (fun H locs hP hD hS => ?_)
                have hP : va_P (dC, dI) vwCl [(a0, .inr (5, [.ref a1, g2, .int k3, .int 3, .int z237, .int z237, g7, g8, g9, g10, g11, g12])), (a1, .inl (cB13, 900, .inl f14))] H := hP
                have hD : va_D A [(a0, .inr (5, [.ref a1, g2, .int k3, .int 3, .int z237, .int z237, g7, g8, g9, g10, g11, g12])), (a1, .inl (cB13, 900, .inl f14))] := hD
                refine lv_aload_n hx hb dX7_advance_239 rfl (lv_at hl 0 rfl) ?_
                refine lv_dup hx hb dX7_advance_240 rfl ?_
                refine va_get (D := (dC, dI)) (ci := 5) (v := .int z237) (C := RX7) (T := TX7) (N := 12) hx hb hts iX7_advance_X7 hown hK hP 0 rfl rfl 5 (by decide) (hts (.fieldLink RX7 28 "HookPier$Reader" "behind" "I") (List.mem_of_getElem? (i := 1) rfl)) (fun _ h9 => h9) rfl dX7_advance_241 ?_
                refine lv_iconst (v := 1) hx hb dX7_advance_244 (by decide) ?_
                refine lv_iadd hx hb dX7_advance_245 ?_
                refine lv_topi (fun z250 ez250 => ?_)
                have tz250 : z250.toInt = z237.toInt + 1 := by rw [ez250]; rw [iadd_t (by first | omega | (simp only [ltv_0, ltv_1]; omega)) (by first | omega | (simp only [ltv_0, ltv_1]; omega))]; first | done | (simp only [ltv_0, ltv_1])
                refine va_put (D := (dC, dI)) (ci := 5) (v := .int z250) (ty := .int) (C := RX7) (T := TX7) (N := 12) hx hb hts iX7_advance_X7 tyX7 tyX7_ok nmX7 hown hK hP hD hS 0 rfl rfl 5 (by decide) (hts (.fieldLink RX7 28 "HookPier$Reader" "behind" "I") (List.mem_of_getElem? (i := 1) rfl)) (fun _ h9 => h9) rfl (by decide +kernel) rfl rfl (Nat.le_of_ble_eq_true rfl) dX7_advance_246 (fun H locs hP hD hS => ?_)
                have hP : va_P (dC, dI) vwCl [(a0, .inr (5, [.ref a1, g2, .int k3, .int 3, .int z237, .int z250, g7, g8, g9, g10, g11, g12])), (a1, .inl (cB13, 900, .inl f14))] H := hP
                have hD : va_D A [(a0, .inr (5, [.ref a1, g2, .int k3, .int 3, .int z237, .int z250, g7, g8, g9, g10, g11, g12])), (a1, .inl (cB13, 900, .inl f14))] := hD
                have hP9 := hP.sub (ws' := [(a0, .inr (5, [.ref a1, g2, .int k3, .int 3, .int z237, .int z250, g7, g8, g9, g10, g11, g12])), (a1, .inl (cB13, 900, .inl f14))]) [0, 1] rfl
                have hD9 := hD.sub (ws' := [(a0, .inr (5, [.ref a1, g2, .int k3, .int 3, .int z237, .int z250, g7, g8, g9, g10, g11, g12])), (a1, .inl (cB13, 900, .inl f14))]) [0, 1] (by decide) rfl
                have hK9 := hK.sub (tys' := []) [] rfl
                exact W.vret hx hb hr (fun t ht hW => ⟨⟨(3, z237, z250), rfl, ⟨(by first | trivial | omega | (simp only [ltv_0, ltv_3]; omega)), (by first | trivial | omega | (simp only [ltv_0, ltv_3]; omega)), (by first | trivial | omega | (simp only [ltv_0, ltv_3]; omega))⟩, by rw [ht]; exact hP9, va_K.moved hW.alike hK9, hD9⟩, hS.F ht⟩) hS.2.2 dX7_advance_249
            · simp only [fa_lt, fa_le, fa_eq, ltv_0] at c246
              have L156_268 : ∀ (n : Nat) (z267 : Int32) (H : Heap) (locs : List Loc) (ls : Array Slot), (0 ≤ z267.toInt ∧ z267.toInt ≤ 900) → 900 - z267.toInt < (n : Int) → va_P (dC, dI) vwCl [(a0, .inr (5, [.ref a1, g2, .int k3, .int k4, .int z237, .int z267, g7, g8, g9, g10, g11, g12])), (a1, .inl (cB13, 900, .inl f14))] H → va_D A [(a0, .inr (5, [.ref a1, g2, .int k3, .int k4, .int z237, .int z267, g7, g8, g9, g10, g11, g12])), (a1, .inl (cB13, 900, .inl f14))] → va_S A s.heap H locs → lv_has ls 1 [(0, .ref a0)] → W p l e (headSpec vX7_advance { frames := 1, cells := 0, slots := 0, locals := 21 }).room s m ([.ref a0]).toArray below meth c H locs 0 0 (MQ below (va_Qv (S := Int32 × Int32 × Int32) (fun u => (0 ≤ (u.1).toInt ∧ (u.1).toInt ≤ 4) ∧ (0 ≤ (u.2.1).toInt ∧ (u.2.1).toInt ≤ 900) ∧ (0 ≤ (u.2.2).toInt ∧ (u.2.2).toInt ≤ 900)) (fun u t => BC (dC, dI) A [(a0, .inr (5, [.ref a1, g2, .int k3, .int (u.1), .int (u.2.1), .int (u.2.2), g7, g8, g9, g10, g11, g12])), (a1, .inl (cB13, 900, .inl f14))] [] t) A) ([.ref a0]).toArray s 0 0 A) (F0 m 156 ls []) := by
                intro n
                induction n with
                | zero =>
                  intro z267 H locs ls b156_0 hm _ _ _ _
                  exact absurd hm (by omega)
                | succ n ih156 =>
                  intro z267 H locs ls b156_0 hm156 hP hD hS hl
                  refine lv_aload_n hx hb dX7_advance_156 rfl (lv_at hl 0 rfl) ?_
                  refine va_get (D := (dC, dI)) (ci := 5) (v := .int z267) (C := RX7) (T := TX7) (N := 12) hx hb hts iX7_advance_X7 hown hK hP 0 rfl rfl 5 (by decide) (hts (.fieldLink RX7 28 "HookPier$Reader" "behind" "I") (List.mem_of_getElem? (i := 1) rfl)) (fun _ h9 => h9) rfl dX7_advance_157 ?_
                  refine lv_aload_n hx hb dX7_advance_160 rfl (lv_at hl 0 rfl) ?_
                  refine va_get (D := (dC, dI)) (ci := 5) (v := .int k3) (C := RX7) (T := TX7) (N := 12) hx hb hts iX7_advance_X7 hown hK hP 0 rfl rfl 2 (by decide) (hts (.fieldLink RX7 19 "HookPier$Reader" "end" "I") (List.mem_of_getElem? (i := 3) rfl)) (fun _ h9 => h9) rfl dX7_advance_161 ?_
                  refine lv_icmp_ge (tgt := 191) hx hb dX7_advance_164 (by decide) (fun c269 => ?_) (fun c269 => ?_)
                  · simp only [fa_lt, fa_le, fa_eq, ltv_0] at c269
                    refine lv_aload_n hx hb dX7_advance_191 rfl (lv_at hl 0 rfl) ?_
                    refine lv_aload_n hx hb dX7_advance_192 rfl (lv_at hl 0 rfl) ?_
                    refine va_get (D := (dC, dI)) (ci := 5) (v := .int z267) (C := RX7) (T := TX7) (N := 12) hx hb hts iX7_advance_X7 hown hK hP 0 rfl rfl 5 (by decide) (hts (.fieldLink RX7 28 "HookPier$Reader" "behind" "I") (List.mem_of_getElem? (i := 1) rfl)) (fun _ h9 => h9) rfl dX7_advance_193 ?_
                    refine lv_aload_n hx hb dX7_advance_196 rfl (lv_at hl 0 rfl) ?_
                    refine va_get (D := (dC, dI)) (ci := 5) (v := .int z237) (C := RX7) (T := TX7) (N := 12) hx hb hts iX7_advance_X7 hown hK hP 0 rfl rfl 4 (by decide) (hts (.fieldLink RX7 25 "HookPier$Reader" "start" "I") (List.mem_of_getElem? (i := 2) rfl)) (fun _ h9 => h9) rfl dX7_advance_197 ?_
                    refine lv_isub hx hb dX7_advance_200 ?_
                    refine lv_topi (fun z270 ez270 => ?_)
                    have tz270 : z270.toInt = z267.toInt - z237.toInt := by rw [ez270]; rw [isub_t (by first | omega | (simp only [ltv_0]; omega)) (by first | omega | (simp only [ltv_0]; omega))]; first | done | (simp only [ltv_0])
                    refine lv_iconst (v := 2) hx hb dX7_advance_201 (by decide) ?_
                    refine lv_icmp_gt (tgt := 209) hx hb dX7_advance_202 (by decide) (fun c271 => ?_) (fun c271 => ?_)
                    · simp only [fa_lt, fa_le, fa_eq, ltv_0, ltv_2] at c271
                      refine lv_iconst (v := 4) hx hb dX7_advance_209 (by decide) ?_
                      refine va_put (D := (dC, dI)) (ci := 5) (v := .int 4) (ty := .int) (C := RX7) (T := TX7) (N := 12) hx hb hts iX7_advance_X7 tyX7 tyX7_ok nmX7 hown hK hP hD hS 0 rfl rfl 3 (by decide) (hts (.fieldLink RX7 22 "HookPier$Reader" "token" "I") (List.mem_of_getElem? (i := 14) rfl)) (fun _ h9 => h9) rfl (by decide +kernel) rfl rfl (Nat.le_of_ble_eq_true rfl) dX7_advance_210 (fun H locs hP hD hS => ?_)
                      have hP : va_P (dC, dI) vwCl [(a0, .inr (5, [.ref a1, g2, .int k3, .int 4, .int z237, .int z267, g7, g8, g9, g10, g11, g12])), (a1, .inl (cB13, 900, .inl f14))] H := hP
                      have hD : va_D A [(a0, .inr (5, [.ref a1, g2, .int k3, .int 4, .int z237, .int z267, g7, g8, g9, g10, g11, g12])), (a1, .inl (cB13, 900, .inl f14))] := hD
                      refine lv_goto (tgt := 249) hx hb dX7_advance_213 (by decide) ?_
                      have hP9 := hP.sub (ws' := [(a0, .inr (5, [.ref a1, g2, .int k3, .int 4, .int z237, .int z267, g7, g8, g9, g10, g11, g12])), (a1, .inl (cB13, 900, .inl f14))]) [0, 1] rfl
                      have hD9 := hD.sub (ws' := [(a0, .inr (5, [.ref a1, g2, .int k3, .int 4, .int z237, .int z267, g7, g8, g9, g10, g11, g12])), (a1, .inl (cB13, 900, .inl f14))]) [0, 1] (by decide) rfl
                      have hK9 := hK.sub (tys' := []) [] rfl
                      exact W.vret hx hb hr (fun t ht hW => ⟨⟨(4, z237, z267), rfl, ⟨(by first | trivial | omega | (simp only [ltv_0, ltv_4]; omega)), (by first | trivial | omega | (simp only [ltv_0, ltv_4]; omega)), (by first | trivial | omega | (simp only [ltv_0, ltv_4]; omega))⟩, by rw [ht]; exact hP9, va_K.moved hW.alike hK9, hD9⟩, hS.F ht⟩) hS.2.2 dX7_advance_249
                    · simp only [fa_lt, fa_le, fa_eq, ltv_0, ltv_2] at c271
                      refine lv_iconst (v := 2) hx hb dX7_advance_205 (by decide) ?_
                      refine lv_goto (tgt := 210) hx hb dX7_advance_206 (by decide) ?_
                      refine va_put (D := (dC, dI)) (ci := 5) (v := .int 2) (ty := .int) (C := RX7) (T := TX7) (N := 12) hx hb hts iX7_advance_X7 tyX7 tyX7_ok nmX7 hown hK hP hD hS 0 rfl rfl 3 (by decide) (hts (.fieldLink RX7 22 "HookPier$Reader" "token" "I") (List.mem_of_getElem? (i := 14) rfl)) (fun _ h9 => h9) rfl (by decide +kernel) rfl rfl (Nat.le_of_ble_eq_true rfl) dX7_advance_210 (fun H locs hP hD hS => ?_)
                      have hP : va_P (dC, dI) vwCl [(a0, .inr (5, [.ref a1, g2, .int k3, .int 2, .int z237, .int z267, g7, g8, g9, g10, g11, g12])), (a1, .inl (cB13, 900, .inl f14))] H := hP
                      have hD : va_D A [(a0, .inr (5, [.ref a1, g2, .int k3, .int 2, .int z237, .int z267, g7, g8, g9, g10, g11, g12])), (a1, .inl (cB13, 900, .inl f14))] := hD
                      refine lv_goto (tgt := 249) hx hb dX7_advance_213 (by decide) ?_
                      have hP9 := hP.sub (ws' := [(a0, .inr (5, [.ref a1, g2, .int k3, .int 2, .int z237, .int z267, g7, g8, g9, g10, g11, g12])), (a1, .inl (cB13, 900, .inl f14))]) [0, 1] rfl
                      have hD9 := hD.sub (ws' := [(a0, .inr (5, [.ref a1, g2, .int k3, .int 2, .int z237, .int z267, g7, g8, g9, g10, g11, g12])), (a1, .inl (cB13, 900, .inl f14))]) [0, 1] (by decide) rfl
                      have hK9 := hK.sub (tys' := []) [] rfl
                      exact W.vret hx hb hr (fun t ht hW => ⟨⟨(2, z237, z267), rfl, ⟨(by first | trivial | omega | (simp only [ltv_0, ltv_2]; omega)), (by first | trivial | omega | (simp only [ltv_0, ltv_2]; omega)), (by first | trivial | omega | (simp only [ltv_0, ltv_2]; omega))⟩, by rw [ht]; exact hP9, va_K.moved hW.alike hK9, hD9⟩, hS.F ht⟩) hS.2.2 dX7_advance_249
                  · simp only [fa_lt, fa_le, fa_eq, ltv_0] at c269
                    refine lv_aload_n hx hb dX7_advance_167 rfl (lv_at hl 0 rfl) ?_
                    refine lv_aload_n hx hb dX7_advance_168 rfl (lv_at hl 0 rfl) ?_
                    refine va_get (D := (dC, dI)) (ci := 5) (v := .int z267) (C := RX7) (T := TX7) (N := 12) hx hb hts iX7_advance_X7 hown hK hP 0 rfl rfl 5 (by decide) (hts (.fieldLink RX7 28 "HookPier$Reader" "behind" "I") (List.mem_of_getElem? (i := 1) rfl)) (fun _ h9 => h9) rfl dX7_advance_169 ?_
                    refine cl_i (wc := [(a0, .inr (5, [.ref a1, g2, .int k3, .int k4, .int z237, .int z267, g7, g8, g9, g10, g11, g12])), (a1, .inl (cB13, 900, .inl f14))]) (wr := []) (va_runV (As := [.int z267]) (rest := []) ⟨hx, hb, hml, hown, hts⟩ (kX7_isDigit l dC dI a0 z267 a1 (g2) (.int k3) (.int k4) (.int z237) (.int z267) (g7) (g8) (g9) (g10) (g11) (g12) cB13 f14 (by first | omega | (simp only [ltv_0]; omega)) H.size) (cwV 1 hts gX7_advance_1 rfl rfl rfl (by decide +kernel) ⟨Nat.le_of_ble_eq_true rfl, Nat.le_of_ble_eq_true rfl⟩) (PV (hP.sub (ws' := [(a0, .inr (5, [.ref a1, g2, .int k3, .int k4, .int z237, .int z267, g7, g8, g9, g10, g11, g12])), (a1, .inl (cB13, 900, .inl f14))]) [0, 1] rfl) (hK.sub (tys' := [(cB13, .byte)]) [0] rfl) (hD.sub (ws' := [(a0, .inr (5, [.ref a1, g2, .int k3, .int k4, .int z237, .int z267, g7, g8, g9, g10, g11, g12])), (a1, .inl (cB13, 900, .inl f14))]) [0, 1] (by decide) rfl) hN 0 rfl rfl) rfl rfl hl.1 rfl (lv_room (Nat.le_of_ble_eq_true rfl)) dX7_advance_172 ⟨Nat.le_of_ble_eq_true rfl, Nat.le_of_ble_eq_true rfl⟩) hP hD hK hS hA [0, 1] [] rfl rfl (by decide) (by decide) (fun z272 _u H locs hw hP hD hK hS => ?_)
                    have b273 := hw
                    have hP : va_P (dC, dI) vwCl [(a0, .inr (5, [.ref a1, g2, .int k3, .int k4, .int z237, .int z267, g7, g8, g9, g10, g11, g12])), (a1, .inl (cB13, 900, .inl f14))] H := hP
                    have hD : va_D A [(a0, .inr (5, [.ref a1, g2, .int k3, .int k4, .int z237, .int z267, g7, g8, g9, g10, g11, g12])), (a1, .inl (cB13, 900, .inl f14))] := hD
                    have hK : va_K (dC, dI) vwCl [(cB13, .byte)] s := hK
                    refine lv_if_eq (tgt := 191) hx hb dX7_advance_175 (by decide) (fun c274 => ?_) (fun c274 => ?_)
                    · simp only [fa_lt, fa_le, fa_eq, ltv_0] at c274
                      refine lv_aload_n hx hb dX7_advance_191 rfl (lv_at hl 0 rfl) ?_
                      refine lv_aload_n hx hb dX7_advance_192 rfl (lv_at hl 0 rfl) ?_
                      refine va_get (D := (dC, dI)) (ci := 5) (v := .int z267) (C := RX7) (T := TX7) (N := 12) hx hb hts iX7_advance_X7 hown hK hP 0 rfl rfl 5 (by decide) (hts (.fieldLink RX7 28 "HookPier$Reader" "behind" "I") (List.mem_of_getElem? (i := 1) rfl)) (fun _ h9 => h9) rfl dX7_advance_193 ?_
                      refine lv_aload_n hx hb dX7_advance_196 rfl (lv_at hl 0 rfl) ?_
                      refine va_get (D := (dC, dI)) (ci := 5) (v := .int z237) (C := RX7) (T := TX7) (N := 12) hx hb hts iX7_advance_X7 hown hK hP 0 rfl rfl 4 (by decide) (hts (.fieldLink RX7 25 "HookPier$Reader" "start" "I") (List.mem_of_getElem? (i := 2) rfl)) (fun _ h9 => h9) rfl dX7_advance_197 ?_
                      refine lv_isub hx hb dX7_advance_200 ?_
                      refine lv_topi (fun z275 ez275 => ?_)
                      have tz275 : z275.toInt = z267.toInt - z237.toInt := by rw [ez275]; rw [isub_t (by first | omega | (simp only [ltv_0]; omega)) (by first | omega | (simp only [ltv_0]; omega))]; first | done | (simp only [ltv_0])
                      refine lv_iconst (v := 2) hx hb dX7_advance_201 (by decide) ?_
                      refine lv_icmp_gt (tgt := 209) hx hb dX7_advance_202 (by decide) (fun c276 => ?_) (fun c276 => ?_)
                      · simp only [fa_lt, fa_le, fa_eq, ltv_0, ltv_2] at c276
                        refine lv_iconst (v := 4) hx hb dX7_advance_209 (by decide) ?_
                        refine va_put (D := (dC, dI)) (ci := 5) (v := .int 4) (ty := .int) (C := RX7) (T := TX7) (N := 12) hx hb hts iX7_advance_X7 tyX7 tyX7_ok nmX7 hown hK hP hD hS 0 rfl rfl 3 (by decide) (hts (.fieldLink RX7 22 "HookPier$Reader" "token" "I") (List.mem_of_getElem? (i := 14) rfl)) (fun _ h9 => h9) rfl (by decide +kernel) rfl rfl (Nat.le_of_ble_eq_true rfl) dX7_advance_210 (fun H locs hP hD hS => ?_)
                        have hP : va_P (dC, dI) vwCl [(a0, .inr (5, [.ref a1, g2, .int k3, .int 4, .int z237, .int z267, g7, g8, g9, g10, g11, g12])), (a1, .inl (cB13, 900, .inl f14))] H := hP
                        have hD : va_D A [(a0, .inr (5, [.ref a1, g2, .int k3, .int 4, .int z237, .int z267, g7, g8, g9, g10, g11, g12])), (a1, .inl (cB13, 900, .inl f14))] := hD
                        refine lv_goto (tgt := 249) hx hb dX7_advance_213 (by decide) ?_
                        have hP9 := hP.sub (ws' := [(a0, .inr (5, [.ref a1, g2, .int k3, .int 4, .int z237, .int z267, g7, g8, g9, g10, g11, g12])), (a1, .inl (cB13, 900, .inl f14))]) [0, 1] rfl
                        have hD9 := hD.sub (ws' := [(a0, .inr (5, [.ref a1, g2, .int k3, .int 4, .int z237, .int z267, g7, g8, g9, g10, g11, g12])), (a1, .inl (cB13, 900, .inl f14))]) [0, 1] (by decide) rfl
                        have hK9 := hK.sub (tys' := []) [] rfl
                        exact W.vret hx hb hr (fun t ht hW => ⟨⟨(4, z237, z267), rfl, ⟨(by first | trivial | omega | (simp only [ltv_0, ltv_4]; omega)), (by first | trivial | omega | (simp only [ltv_0, ltv_4]; omega)), (by first | trivial | omega | (simp only [ltv_0, ltv_4]; omega))⟩, by rw [ht]; exact hP9, va_K.moved hW.alike hK9, hD9⟩, hS.F ht⟩) hS.2.2 dX7_advance_249
                      · simp only [fa_lt, fa_le, fa_eq, ltv_0, ltv_2] at c276
                        refine lv_iconst (v := 2) hx hb dX7_advance_205 (by decide) ?_
                        refine lv_goto (tgt := 210) hx hb dX7_advance_206 (by decide) ?_
                        refine va_put (D := (dC, dI)) (ci := 5) (v := .int 2) (ty := .int) (C := RX7) (T := TX7) (N := 12) hx hb hts iX7_advance_X7 tyX7 tyX7_ok nmX7 hown hK hP hD hS 0 rfl rfl 3 (by decide) (hts (.fieldLink RX7 22 "HookPier$Reader" "token" "I") (List.mem_of_getElem? (i := 14) rfl)) (fun _ h9 => h9) rfl (by decide +kernel) rfl rfl (Nat.le_of_ble_eq_true rfl) dX7_advance_210 (fun H locs hP hD hS => ?_)
                        have hP : va_P (dC, dI) vwCl [(a0, .inr (5, [.ref a1, g2, .int k3, .int 2, .int z237, .int z267, g7, g8, g9, g10, g11, g12])), (a1, .inl (cB13, 900, .inl f14))] H := hP
                        have hD : va_D A [(a0, .inr (5, [.ref a1, g2, .int k3, .int 2, .int z237, .int z267, g7, g8, g9, g10, g11, g12])), (a1, .inl (cB13, 900, .inl f14))] := hD
                        refine lv_goto (tgt := 249) hx hb dX7_advance_213 (by decide) ?_
                        have hP9 := hP.sub (ws' := [(a0, .inr (5, [.ref a1, g2, .int k3, .int 2, .int z237, .int z267, g7, g8, g9, g10, g11, g12])), (a1, .inl (cB13, 900, .inl f14))]) [0, 1] rfl
                        have hD9 := hD.sub (ws' := [(a0, .inr (5, [.ref a1, g2, .int k3, .int 2, .int z237, .int z267, g7, g8, g9, g10, g11, g12])), (a1, .inl (cB13, 900, .inl f14))]) [0, 1] (by decide) rfl
                        have hK9 := hK.sub (tys' := []) [] rfl
                        exact W.vret hx hb hr (fun t ht hW => ⟨⟨(2, z237, z267), rfl, ⟨(by first | trivial | omega | (simp only [ltv_0, ltv_2]; omega)), (by first | trivial | omega | (simp only [ltv_0, ltv_2]; omega)), (by first | trivial | omega | (simp only [ltv_0, ltv_2]; omega))⟩, by rw [ht]; exact hP9, va_K.moved hW.alike hK9, hD9⟩, hS.F ht⟩) hS.2.2 dX7_advance_249
                    · simp only [fa_lt, fa_le, fa_eq, ltv_0] at c274
                      refine lv_aload_n hx hb dX7_advance_178 rfl (lv_at hl 0 rfl) ?_
                      refine lv_dup hx hb dX7_advance_179 rfl ?_
                      refine va_get (D := (dC, dI)) (ci := 5) (v := .int z267) (C := RX7) (T := TX7) (N := 12) hx hb hts iX7_advance_X7 hown hK hP 0 rfl rfl 5 (by decide) (hts (.fieldLink RX7 28 "HookPier$Reader" "behind" "I") (List.mem_of_getElem? (i := 1) rfl)) (fun _ h9 => h9) rfl dX7_advance_180 ?_
                      refine lv_iconst (v := 1) hx hb dX7_advance_183 (by decide) ?_
                      refine lv_iadd hx hb dX7_advance_184 ?_
                      refine lv_topi (fun z277 ez277 => ?_)
                      have tz277 : z277.toInt = z267.toInt + 1 := by rw [ez277]; rw [iadd_t (by first | omega | (simp only [ltv_0, ltv_1]; omega)) (by first | omega | (simp only [ltv_0, ltv_1]; omega))]; first | done | (simp only [ltv_0, ltv_1])
                      refine va_put (D := (dC, dI)) (ci := 5) (v := .int z277) (ty := .int) (C := RX7) (T := TX7) (N := 12) hx hb hts iX7_advance_X7 tyX7 tyX7_ok nmX7 hown hK hP hD hS 0 rfl rfl 5 (by decide) (hts (.fieldLink RX7 28 "HookPier$Reader" "behind" "I") (List.mem_of_getElem? (i := 1) rfl)) (fun _ h9 => h9) rfl (by decide +kernel) rfl rfl (Nat.le_of_ble_eq_true rfl) dX7_advance_185 (fun H locs hP hD hS => ?_)
                      have hP : va_P (dC, dI) vwCl [(a0, .inr (5, [.ref a1, g2, .int k3, .int k4, .int z237, .int z277, g7, g8, g9, g10, g11, g12])), (a1, .inl (cB13, 900, .inl f14))] H := hP
                      have hD : va_D A [(a0, .inr (5, [.ref a1, g2, .int k3, .int k4, .int z237, .int z277, g7, g8, g9, g10, g11, g12])), (a1, .inl (cB13, 900, .inl f14))] := hD
                      refine lv_goto (tgt := 156) hx hb dX7_advance_188 (by decide) ?_
                      exact ih156 z277 H locs ls (by first | omega | (simp only [ltv_0]; omega)) (by first | omega | (simp only [ltv_0]; omega)) hP hD hS (lv_sub hl [0] rfl)
              exact L156_268 901 z237 H _ ls (by first | omega | (simp only [ltv_0]; omega)) (by first | omega | (simp only [ltv_0]; omega)) hP hD hS (lv_sub hl [0] rfl)
          · simp only [fa_lt, fa_le, fa_eq, ltv_0] at c243
            have L84_295 : ∀ (n : Nat) (z294 : Int32) (H : Heap) (locs : List Loc) (ls : Array Slot), (0 ≤ z294.toInt ∧ z294.toInt ≤ 900) → 900 - z294.toInt < (n : Int) → va_P (dC, dI) vwCl [(a0, .inr (5, [.ref a1, g2, .int k3, .int k4, .int z237, .int z294, g7, g8, g9, g10, g11, g12])), (a1, .inl (cB13, 900, .inl f14))] H → va_D A [(a0, .inr (5, [.ref a1, g2, .int k3, .int k4, .int z237, .int z294, g7, g8, g9, g10, g11, g12])), (a1, .inl (cB13, 900, .inl f14))] → va_S A s.heap H locs → lv_has ls 1 [(0, .ref a0)] → W p l e (headSpec vX7_advance { frames := 1, cells := 0, slots := 0, locals := 21 }).room s m ([.ref a0]).toArray below meth c H locs 0 0 (MQ below (va_Qv (S := Int32 × Int32 × Int32) (fun u => (0 ≤ (u.1).toInt ∧ (u.1).toInt ≤ 4) ∧ (0 ≤ (u.2.1).toInt ∧ (u.2.1).toInt ≤ 900) ∧ (0 ≤ (u.2.2).toInt ∧ (u.2.2).toInt ≤ 900)) (fun u t => BC (dC, dI) A [(a0, .inr (5, [.ref a1, g2, .int k3, .int (u.1), .int (u.2.1), .int (u.2.2), g7, g8, g9, g10, g11, g12])), (a1, .inl (cB13, 900, .inl f14))] [] t) A) ([.ref a0]).toArray s 0 0 A) (F0 m 84 ls []) := by
              intro n
              induction n with
              | zero =>
                intro z294 H locs ls b84_0 hm _ _ _ _
                exact absurd hm (by omega)
              | succ n ih84 =>
                intro z294 H locs ls b84_0 hm84 hP hD hS hl
                refine lv_aload_n hx hb dX7_advance_84 rfl (lv_at hl 0 rfl) ?_
                refine va_get (D := (dC, dI)) (ci := 5) (v := .int z294) (C := RX7) (T := TX7) (N := 12) hx hb hts iX7_advance_X7 hown hK hP 0 rfl rfl 5 (by decide) (hts (.fieldLink RX7 28 "HookPier$Reader" "behind" "I") (List.mem_of_getElem? (i := 1) rfl)) (fun _ h9 => h9) rfl dX7_advance_85 ?_
                refine lv_aload_n hx hb dX7_advance_88 rfl (lv_at hl 0 rfl) ?_
                refine va_get (D := (dC, dI)) (ci := 5) (v := .int k3) (C := RX7) (T := TX7) (N := 12) hx hb hts iX7_advance_X7 hown hK hP 0 rfl rfl 2 (by decide) (hts (.fieldLink RX7 19 "HookPier$Reader" "end" "I") (List.mem_of_getElem? (i := 3) rfl)) (fun _ h9 => h9) rfl dX7_advance_89 ?_
                refine lv_icmp_ge (tgt := 119) hx hb dX7_advance_92 (by decide) (fun c296 => ?_) (fun c296 => ?_)
                · simp only [fa_lt, fa_le, fa_eq, ltv_0] at c296
                  refine lv_aload_n hx hb dX7_advance_119 rfl (lv_at hl 0 rfl) ?_
                  refine lv_aload_n hx hb dX7_advance_120 rfl (lv_at hl 0 rfl) ?_
                  refine va_get (D := (dC, dI)) (ci := 5) (v := .int z294) (C := RX7) (T := TX7) (N := 12) hx hb hts iX7_advance_X7 hown hK hP 0 rfl rfl 5 (by decide) (hts (.fieldLink RX7 28 "HookPier$Reader" "behind" "I") (List.mem_of_getElem? (i := 1) rfl)) (fun _ h9 => h9) rfl dX7_advance_121 ?_
                  refine lv_aload_n hx hb dX7_advance_124 rfl (lv_at hl 0 rfl) ?_
                  refine va_get (D := (dC, dI)) (ci := 5) (v := .int z237) (C := RX7) (T := TX7) (N := 12) hx hb hts iX7_advance_X7 hown hK hP 0 rfl rfl 4 (by decide) (hts (.fieldLink RX7 25 "HookPier$Reader" "start" "I") (List.mem_of_getElem? (i := 2) rfl)) (fun _ h9 => h9) rfl dX7_advance_125 ?_
                  refine lv_isub hx hb dX7_advance_128 ?_
                  refine lv_topi (fun z297 ez297 => ?_)
                  have tz297 : z297.toInt = z294.toInt - z237.toInt := by rw [ez297]; rw [isub_t (by first | omega | (simp only [ltv_0]; omega)) (by first | omega | (simp only [ltv_0]; omega))]; first | done | (simp only [ltv_0])
                  refine lv_bipush (v := 8) hx hb dX7_advance_129 (by decide) ?_
                  refine lv_icmp_gt (tgt := 138) hx hb dX7_advance_131 (by decide) (fun c298 => ?_) (fun c298 => ?_)
                  · simp only [fa_lt, fa_le, fa_eq, ltv_0, ltv_8] at c298
                    refine lv_iconst (v := 4) hx hb dX7_advance_138 (by decide) ?_
                    refine va_put (D := (dC, dI)) (ci := 5) (v := .int 4) (ty := .int) (C := RX7) (T := TX7) (N := 12) hx hb hts iX7_advance_X7 tyX7 tyX7_ok nmX7 hown hK hP hD hS 0 rfl rfl 3 (by decide) (hts (.fieldLink RX7 22 "HookPier$Reader" "token" "I") (List.mem_of_getElem? (i := 14) rfl)) (fun _ h9 => h9) rfl (by decide +kernel) rfl rfl (Nat.le_of_ble_eq_true rfl) dX7_advance_139 (fun H locs hP hD hS => ?_)
                    have hP : va_P (dC, dI) vwCl [(a0, .inr (5, [.ref a1, g2, .int k3, .int 4, .int z237, .int z294, g7, g8, g9, g10, g11, g12])), (a1, .inl (cB13, 900, .inl f14))] H := hP
                    have hD : va_D A [(a0, .inr (5, [.ref a1, g2, .int k3, .int 4, .int z237, .int z294, g7, g8, g9, g10, g11, g12])), (a1, .inl (cB13, 900, .inl f14))] := hD
                    refine lv_goto (tgt := 249) hx hb dX7_advance_142 (by decide) ?_
                    have hP9 := hP.sub (ws' := [(a0, .inr (5, [.ref a1, g2, .int k3, .int 4, .int z237, .int z294, g7, g8, g9, g10, g11, g12])), (a1, .inl (cB13, 900, .inl f14))]) [0, 1] rfl
                    have hD9 := hD.sub (ws' := [(a0, .inr (5, [.ref a1, g2, .int k3, .int 4, .int z237, .int z294, g7, g8, g9, g10, g11, g12])), (a1, .inl (cB13, 900, .inl f14))]) [0, 1] (by decide) rfl
                    have hK9 := hK.sub (tys' := []) [] rfl
                    exact W.vret hx hb hr (fun t ht hW => ⟨⟨(4, z237, z294), rfl, ⟨(by first | trivial | omega | (simp only [ltv_0, ltv_4]; omega)), (by first | trivial | omega | (simp only [ltv_0, ltv_4]; omega)), (by first | trivial | omega | (simp only [ltv_0, ltv_4]; omega))⟩, by rw [ht]; exact hP9, va_K.moved hW.alike hK9, hD9⟩, hS.F ht⟩) hS.2.2 dX7_advance_249
                  · simp only [fa_lt, fa_le, fa_eq, ltv_0, ltv_8] at c298
                    refine lv_iconst (v := 1) hx hb dX7_advance_134 (by decide) ?_
                    refine lv_goto (tgt := 139) hx hb dX7_advance_135 (by decide) ?_
                    refine va_put (D := (dC, dI)) (ci := 5) (v := .int 1) (ty := .int) (C := RX7) (T := TX7) (N := 12) hx hb hts iX7_advance_X7 tyX7 tyX7_ok nmX7 hown hK hP hD hS 0 rfl rfl 3 (by decide) (hts (.fieldLink RX7 22 "HookPier$Reader" "token" "I") (List.mem_of_getElem? (i := 14) rfl)) (fun _ h9 => h9) rfl (by decide +kernel) rfl rfl (Nat.le_of_ble_eq_true rfl) dX7_advance_139 (fun H locs hP hD hS => ?_)
                    have hP : va_P (dC, dI) vwCl [(a0, .inr (5, [.ref a1, g2, .int k3, .int 1, .int z237, .int z294, g7, g8, g9, g10, g11, g12])), (a1, .inl (cB13, 900, .inl f14))] H := hP
                    have hD : va_D A [(a0, .inr (5, [.ref a1, g2, .int k3, .int 1, .int z237, .int z294, g7, g8, g9, g10, g11, g12])), (a1, .inl (cB13, 900, .inl f14))] := hD
                    refine lv_goto (tgt := 249) hx hb dX7_advance_142 (by decide) ?_
                    have hP9 := hP.sub (ws' := [(a0, .inr (5, [.ref a1, g2, .int k3, .int 1, .int z237, .int z294, g7, g8, g9, g10, g11, g12])), (a1, .inl (cB13, 900, .inl f14))]) [0, 1] rfl
                    have hD9 := hD.sub (ws' := [(a0, .inr (5, [.ref a1, g2, .int k3, .int 1, .int z237, .int z294, g7, g8, g9, g10, g11, g12])), (a1, .inl (cB13, 900, .inl f14))]) [0, 1] (by decide) rfl
                    have hK9 := hK.sub (tys' := []) [] rfl
                    exact W.vret hx hb hr (fun t ht hW => ⟨⟨(1, z237, z294), rfl, ⟨(by first | trivial | omega | (simp only [ltv_0, ltv_1]; omega)), (by first | trivial | omega | (simp only [ltv_0, ltv_1]; omega)), (by first | trivial | omega | (simp only [ltv_0, ltv_1]; omega))⟩, by rw [ht]; exact hP9, va_K.moved hW.alike hK9, hD9⟩, hS.F ht⟩) hS.2.2 dX7_advance_249
                · simp only [fa_lt, fa_le, fa_eq, ltv_0] at c296
                  refine lv_aload_n hx hb dX7_advance_95 rfl (lv_at hl 0 rfl) ?_
                  refine lv_aload_n hx hb dX7_advance_96 rfl (lv_at hl 0 rfl) ?_
                  refine va_get (D := (dC, dI)) (ci := 5) (v := .int z294) (C := RX7) (T := TX7) (N := 12) hx hb hts iX7_advance_X7 hown hK hP 0 rfl rfl 5 (by decide) (hts (.fieldLink RX7 28 "HookPier$Reader" "behind" "I") (List.mem_of_getElem? (i := 1) rfl)) (fun _ h9 => h9) rfl dX7_advance_97 ?_
                  refine cl_i (wc := [(a0, .inr (5, [.ref a1, g2, .int k3, .int k4, .int z237, .int z294, g7, g8, g9, g10, g11, g12])), (a1, .inl (cB13, 900, .inl f14))]) (wr := []) (va_runV (As := [.int z294]) (rest := []) ⟨hx, hb, hml, hown, hts⟩ (kX7_isLetter l dC dI a0 z294 a1 (g2) (.int k3) (.int k4) (.int z237) (.int z294) (g7) (g8) (g9) (g10) (g11) (g12) cB13 f14 (by first | omega | (simp only [ltv_0]; omega)) H.size) (cwV 1 hts gX7_advance_0 rfl rfl rfl (by decide +kernel) ⟨Nat.le_of_ble_eq_true rfl, Nat.le_of_ble_eq_true rfl⟩) (PV (hP.sub (ws' := [(a0, .inr (5, [.ref a1, g2, .int k3, .int k4, .int z237, .int z294, g7, g8, g9, g10, g11, g12])), (a1, .inl (cB13, 900, .inl f14))]) [0, 1] rfl) (hK.sub (tys' := [(cB13, .byte)]) [0] rfl) (hD.sub (ws' := [(a0, .inr (5, [.ref a1, g2, .int k3, .int k4, .int z237, .int z294, g7, g8, g9, g10, g11, g12])), (a1, .inl (cB13, 900, .inl f14))]) [0, 1] (by decide) rfl) hN 0 rfl rfl) rfl rfl hl.1 rfl (lv_room (Nat.le_of_ble_eq_true rfl)) dX7_advance_100 ⟨Nat.le_of_ble_eq_true rfl, Nat.le_of_ble_eq_true rfl⟩) hP hD hK hS hA [0, 1] [] rfl rfl (by decide) (by decide) (fun z299 _u H locs hw hP hD hK hS => ?_)
                  have b300 := hw
                  have hP : va_P (dC, dI) vwCl [(a0, .inr (5, [.ref a1, g2, .int k3, .int k4, .int z237, .int z294, g7, g8, g9, g10, g11, g12])), (a1, .inl (cB13, 900, .inl f14))] H := hP
                  have hD : va_D A [(a0, .inr (5, [.ref a1, g2, .int k3, .int k4, .int z237, .int z294, g7, g8, g9, g10, g11, g12])), (a1, .inl (cB13, 900, .inl f14))] := hD
                  have hK : va_K (dC, dI) vwCl [(cB13, .byte)] s := hK
                  refine lv_if_eq (tgt := 119) hx hb dX7_advance_103 (by decide) (fun c301 => ?_) (fun c301 => ?_)
                  · simp only [fa_lt, fa_le, fa_eq, ltv_0] at c301
                    refine lv_aload_n hx hb dX7_advance_119 rfl (lv_at hl 0 rfl) ?_
                    refine lv_aload_n hx hb dX7_advance_120 rfl (lv_at hl 0 rfl) ?_
                    refine va_get (D := (dC, dI)) (ci := 5) (v := .int z294) (C := RX7) (T := TX7) (N := 12) hx hb hts iX7_advance_X7 hown hK hP 0 rfl rfl 5 (by decide) (hts (.fieldLink RX7 28 "HookPier$Reader" "behind" "I") (List.mem_of_getElem? (i := 1) rfl)) (fun _ h9 => h9) rfl dX7_advance_121 ?_
                    refine lv_aload_n hx hb dX7_advance_124 rfl (lv_at hl 0 rfl) ?_
                    refine va_get (D := (dC, dI)) (ci := 5) (v := .int z237) (C := RX7) (T := TX7) (N := 12) hx hb hts iX7_advance_X7 hown hK hP 0 rfl rfl 4 (by decide) (hts (.fieldLink RX7 25 "HookPier$Reader" "start" "I") (List.mem_of_getElem? (i := 2) rfl)) (fun _ h9 => h9) rfl dX7_advance_125 ?_
                    refine lv_isub hx hb dX7_advance_128 ?_
                    refine lv_topi (fun z302 ez302 => ?_)
                    have tz302 : z302.toInt = z294.toInt - z237.toInt := by rw [ez302]; rw [isub_t (by first | omega | (simp only [ltv_0]; omega)) (by first | omega | (simp only [ltv_0]; omega))]; first | done | (simp only [ltv_0])
                    refine lv_bipush (v := 8) hx hb dX7_advance_129 (by decide) ?_
                    refine lv_icmp_gt (tgt := 138) hx hb dX7_advance_131 (by decide) (fun c303 => ?_) (fun c303 => ?_)
                    · simp only [fa_lt, fa_le, fa_eq, ltv_0, ltv_8] at c303
                      refine lv_iconst (v := 4) hx hb dX7_advance_138 (by decide) ?_
                      refine va_put (D := (dC, dI)) (ci := 5) (v := .int 4) (ty := .int) (C := RX7) (T := TX7) (N := 12) hx hb hts iX7_advance_X7 tyX7 tyX7_ok nmX7 hown hK hP hD hS 0 rfl rfl 3 (by decide) (hts (.fieldLink RX7 22 "HookPier$Reader" "token" "I") (List.mem_of_getElem? (i := 14) rfl)) (fun _ h9 => h9) rfl (by decide +kernel) rfl rfl (Nat.le_of_ble_eq_true rfl) dX7_advance_139 (fun H locs hP hD hS => ?_)
                      have hP : va_P (dC, dI) vwCl [(a0, .inr (5, [.ref a1, g2, .int k3, .int 4, .int z237, .int z294, g7, g8, g9, g10, g11, g12])), (a1, .inl (cB13, 900, .inl f14))] H := hP
                      have hD : va_D A [(a0, .inr (5, [.ref a1, g2, .int k3, .int 4, .int z237, .int z294, g7, g8, g9, g10, g11, g12])), (a1, .inl (cB13, 900, .inl f14))] := hD
                      refine lv_goto (tgt := 249) hx hb dX7_advance_142 (by decide) ?_
                      have hP9 := hP.sub (ws' := [(a0, .inr (5, [.ref a1, g2, .int k3, .int 4, .int z237, .int z294, g7, g8, g9, g10, g11, g12])), (a1, .inl (cB13, 900, .inl f14))]) [0, 1] rfl
                      have hD9 := hD.sub (ws' := [(a0, .inr (5, [.ref a1, g2, .int k3, .int 4, .int z237, .int z294, g7, g8, g9, g10, g11, g12])), (a1, .inl (cB13, 900, .inl f14))]) [0, 1] (by decide) rfl
                      have hK9 := hK.sub (tys' := []) [] rfl
                      exact W.vret hx hb hr (fun t ht hW => ⟨⟨(4, z237, z294), rfl, ⟨(by first | trivial | omega | (simp only [ltv_0, ltv_4]; omega)), (by first | trivial | omega | (simp only [ltv_0, ltv_4]; omega)), (by first | trivial | omega | (simp only [ltv_0, ltv_4]; omega))⟩, by rw [ht]; exact hP9, va_K.moved hW.alike hK9, hD9⟩, hS.F ht⟩) hS.2.2 dX7_advance_249
                    · simp only [fa_lt, fa_le, fa_eq, ltv_0, ltv_8] at c303
                      refine lv_iconst (v := 1) hx hb dX7_advance_134 (by decide) ?_
                      refine lv_goto (tgt := 139) hx hb dX7_advance_135 (by decide) ?_
                      refine va_put (D := (dC, dI)) (ci := 5) (v := .int 1) (ty := .int) (C := RX7) (T := TX7) (N := 12) hx hb hts iX7_advance_X7 tyX7 tyX7_ok nmX7 hown hK hP hD hS 0 rfl rfl 3 (by decide) (hts (.fieldLink RX7 22 "HookPier$Reader" "token" "I") (List.mem_of_getElem? (i := 14) rfl)) (fun _ h9 => h9) rfl (by decide +kernel) rfl rfl (Nat.le_of_ble_eq_true rfl) dX7_advance_139 (fun H locs hP hD hS => ?_)
                      have hP : va_P (dC, dI) vwCl [(a0, .inr (5, [.ref a1, g2, .int k3, .int 1, .int z237, .int z294, g7, g8, g9, g10, g11, g12])), (a1, .inl (cB13, 900, .inl f14))] H := hP
                      have hD : va_D A [(a0, .inr (5, [.ref a1, g2, .int k3, .int 1, .int z237, .int z294, g7, g8, g9, g10, g11, g12])), (a1, .inl (cB13, 900, .inl f14))] := hD
                      refine lv_goto (tgt := 249) hx hb dX7_advance_142 (by decide) ?_
                      have hP9 := hP.sub (ws' := [(a0, .inr (5, [.ref a1, g2, .int k3, .int 1, .int z237, .int z294, g7, g8, g9, g10, g11, g12])), (a1, .inl (cB13, 900, .inl f14))]) [0, 1] rfl
                      have hD9 := hD.sub (ws' := [(a0, .inr (5, [.ref a1, g2, .int k3, .int 1, .int z237, .int z294, g7, g8, g9, g10, g11, g12])), (a1, .inl (cB13, 900, .inl f14))]) [0, 1] (by decide) rfl
                      have hK9 := hK.sub (tys' := []) [] rfl
                      exact W.vret hx hb hr (fun t ht hW => ⟨⟨(1, z237, z294), rfl, ⟨(by first | trivial | omega | (simp only [ltv_0, ltv_1]; omega)), (by first | trivial | omega | (simp only [ltv_0, ltv_1]; omega)), (by first | trivial | omega | (simp only [ltv_0, ltv_1]; omega))⟩, by rw [ht]; exact hP9, va_K.moved hW.alike hK9, hD9⟩, hS.F ht⟩) hS.2.2 dX7_advance_249
                  · simp only [fa_lt, fa_le, fa_eq, ltv_0] at c301
                    refine lv_aload_n hx hb dX7_advance_106 rfl (lv_at hl 0 rfl) ?_
                    refine lv_dup hx hb dX7_advance_107 rfl ?_
                    refine va_get (D := (dC, dI)) (ci := 5) (v := .int z294) (C := RX7) (T := TX7) (N := 12) hx hb hts iX7_advance_X7 hown hK hP 0 rfl rfl 5 (by decide) (hts (.fieldLink RX7 28 "HookPier$Reader" "behind" "I") (List.mem_of_getElem? (i := 1) rfl)) (fun _ h9 => h9) rfl dX7_advance_108 ?_
                    refine lv_iconst (v := 1) hx hb dX7_advance_111 (by decide) ?_
                    refine lv_iadd hx hb dX7_advance_112 ?_
                    refine lv_topi (fun z304 ez304 => ?_)
                    have tz304 : z304.toInt = z294.toInt + 1 := by rw [ez304]; rw [iadd_t (by first | omega | (simp only [ltv_0, ltv_1]; omega)) (by first | omega | (simp only [ltv_0, ltv_1]; omega))]; first | done | (simp only [ltv_0, ltv_1])
                    refine va_put (D := (dC, dI)) (ci := 5) (v := .int z304) (ty := .int) (C := RX7) (T := TX7) (N := 12) hx hb hts iX7_advance_X7 tyX7 tyX7_ok nmX7 hown hK hP hD hS 0 rfl rfl 5 (by decide) (hts (.fieldLink RX7 28 "HookPier$Reader" "behind" "I") (List.mem_of_getElem? (i := 1) rfl)) (fun _ h9 => h9) rfl (by decide +kernel) rfl rfl (Nat.le_of_ble_eq_true rfl) dX7_advance_113 (fun H locs hP hD hS => ?_)
                    have hP : va_P (dC, dI) vwCl [(a0, .inr (5, [.ref a1, g2, .int k3, .int k4, .int z237, .int z304, g7, g8, g9, g10, g11, g12])), (a1, .inl (cB13, 900, .inl f14))] H := hP
                    have hD : va_D A [(a0, .inr (5, [.ref a1, g2, .int k3, .int k4, .int z237, .int z304, g7, g8, g9, g10, g11, g12])), (a1, .inl (cB13, 900, .inl f14))] := hD
                    refine lv_goto (tgt := 84) hx hb dX7_advance_116 (by decide) ?_
                    exact ih84 z304 H locs ls (by first | omega | (simp only [ltv_0]; omega)) (by first | omega | (simp only [ltv_0]; omega)) hP hD hS (lv_sub hl [0] rfl)
            exact L84_295 901 z237 H _ ls (by first | omega | (simp only [ltv_0]; omega)) (by first | omega | (simp only [ltv_0]; omega)) hP hD hS (lv_sub hl [0] rfl)
        · simp only [fa_lt, fa_le, fa_eq, ltv_0] at c240
          refine lv_aload_n hx hb dX7_advance_65 rfl (lv_at hl 0 rfl) ?_
          refine lv_iconst (v := 0) hx hb dX7_advance_66 (by decide) ?_
          refine va_put (D := (dC, dI)) (ci := 5) (v := .int 0) (ty := .int) (C := RX7) (T := TX7) (N := 12) hx hb hts iX7_advance_X7 tyX7 tyX7_ok nmX7 hown hK hP hD hS 0 rfl rfl 3 (by decide) (hts (.fieldLink RX7 22 "HookPier$Reader" "token" "I") (List.mem_of_getElem? (i := 14) rfl)) (fun _ h9 => h9) rfl (by decide +kernel) rfl rfl (Nat.le_of_ble_eq_true rfl) dX7_advance_67 (fun H locs hP hD hS => ?_)
          have hP : va_P (dC, dI) vwCl [(a0, .inr (5, [.ref a1, g2, .int k3, .int 0, .int z237, .int z237, g7, g8, g9, g10, g11, g12])), (a1, .inl (cB13, 900, .inl f14))] H := hP
          have hD : va_D A [(a0, .inr (5, [.ref a1, g2, .int k3, .int 0, .int z237, .int z237, g7, g8, g9, g10, g11, g12])), (a1, .inl (cB13, 900, .inl f14))] := hD
          refine lv_goto (tgt := 249) hx hb dX7_advance_70 (by decide) ?_
          have hP9 := hP.sub (ws' := [(a0, .inr (5, [.ref a1, g2, .int k3, .int 0, .int z237, .int z237, g7, g8, g9, g10, g11, g12])), (a1, .inl (cB13, 900, .inl f14))]) [0, 1] rfl
          have hD9 := hD.sub (ws' := [(a0, .inr (5, [.ref a1, g2, .int k3, .int 0, .int z237, .int z237, g7, g8, g9, g10, g11, g12])), (a1, .inl (cB13, 900, .inl f14))]) [0, 1] (by decide) rfl
          have hK9 := hK.sub (tys' := []) [] rfl
          exact W.vret hx hb hr (fun t ht hW => ⟨⟨(0, z237, z237), rfl, ⟨(by first | trivial | omega | (simp only [ltv_0]; omega)), (by first | trivial | omega | (simp only [ltv_0]; omega)), (by first | trivial | omega | (simp only [ltv_0]; omega))⟩, by rw [ht]; exact hP9, va_K.moved hW.alike hK9, hD9⟩, hS.F ht⟩) hS.2.2 dX7_advance_249
      · simp only [fa_lt, fa_le, fa_eq, ltv_0] at c239
        refine lv_aload_n hx hb dX7_advance_19 rfl (lv_at hl 0 rfl) ?_
        refine va_get (D := (dC, dI)) (ci := 5) (v := .ref a1) (C := RX7) (T := TX7) (N := 12) hx hb hts iX7_advance_X7 hown hK hP 0 rfl rfl 0 (by decide) (hts (.fieldLink RX7 9 "HookPier$Reader" "text" "[B") (List.mem_of_getElem? (i := 9) rfl)) (fun _ h9 => h9) rfl dX7_advance_20 ?_
        refine lv_aload_n hx hb dX7_advance_23 rfl (lv_at hl 0 rfl) ?_
        refine va_get (D := (dC, dI)) (ci := 5) (v := .int z237) (C := RX7) (T := TX7) (N := 12) hx hb hts iX7_advance_X7 hown hK hP 0 rfl rfl 4 (by decide) (hts (.fieldLink RX7 25 "HookPier$Reader" "start" "I") (List.mem_of_getElem? (i := 2) rfl)) (fun _ h9 => h9) rfl dX7_advance_24 ?_
        refine va_bald hx hb hK hP 1 0 rfl rfl (vp_in_iff.mpr (by omega)) dX7_advance_27 ?_
        refine lv_topi (fun z305 ez305 => ?_)
        clear ez305
        refine lv_bipush (v := 32) hx hb dX7_advance_28 (by decide) ?_
        refine lv_icmp_ne (tgt := 46) hx hb dX7_advance_30 (by decide) (fun c306 => ?_) (fun c306 => ?_)
        · simp only [fa_lt, fa_le, fa_eq, ltv_0, ltv_32] at c306
          refine lv_aload_n hx hb dX7_advance_46 rfl (lv_at hl 0 rfl) ?_
          refine lv_aload_n hx hb dX7_advance_47 rfl (lv_at hl 0 rfl) ?_
          refine va_get (D := (dC, dI)) (ci := 5) (v := .int z237) (C := RX7) (T := TX7) (N := 12) hx hb hts iX7_advance_X7 hown hK hP 0 rfl rfl 4 (by decide) (hts (.fieldLink RX7 25 "HookPier$Reader" "start" "I") (List.mem_of_getElem? (i := 2) rfl)) (fun _ h9 => h9) rfl dX7_advance_48 ?_
          refine va_put (D := (dC, dI)) (ci := 5) (v := .int z237) (ty := .int) (C := RX7) (T := TX7) (N := 12) hx hb hts iX7_advance_X7 tyX7 tyX7_ok nmX7 hown hK hP hD hS 0 rfl rfl 5 (by decide) (hts (.fieldLink RX7 28 "HookPier$Reader" "behind" "I") (List.mem_of_getElem? (i := 1) rfl)) (fun _ h9 => h9) rfl (by decide +kernel) rfl rfl (Nat.le_of_ble_eq_true rfl) dX7_advance_51 (fun H locs hP hD hS => ?_)
          have hP : va_P (dC, dI) vwCl [(a0, .inr (5, [.ref a1, g2, .int k3, .int k4, .int z237, .int z237, g7, g8, g9, g10, g11, g12])), (a1, .inl (cB13, 900, .inl f14))] H := hP
          have hD : va_D A [(a0, .inr (5, [.ref a1, g2, .int k3, .int k4, .int z237, .int z237, g7, g8, g9, g10, g11, g12])), (a1, .inl (cB13, 900, .inl f14))] := hD
          refine lv_aload_n hx hb dX7_advance_54 rfl (lv_at hl 0 rfl) ?_
          refine va_get (D := (dC, dI)) (ci := 5) (v := .int z237) (C := RX7) (T := TX7) (N := 12) hx hb hts iX7_advance_X7 hown hK hP 0 rfl rfl 4 (by decide) (hts (.fieldLink RX7 25 "HookPier$Reader" "start" "I") (List.mem_of_getElem? (i := 2) rfl)) (fun _ h9 => h9) rfl dX7_advance_55 ?_
          refine lv_aload_n hx hb dX7_advance_58 rfl (lv_at hl 0 rfl) ?_
          refine va_get (D := (dC, dI)) (ci := 5) (v := .int k3) (C := RX7) (T := TX7) (N := 12) hx hb hts iX7_advance_X7 hown hK hP 0 rfl rfl 2 (by decide) (hts (.fieldLink RX7 19 "HookPier$Reader" "end" "I") (List.mem_of_getElem? (i := 3) rfl)) (fun _ h9 => h9) rfl dX7_advance_59 ?_
          refine lv_icmp_lt (tgt := 73) hx hb dX7_advance_62 (by decide) (fun c307 => ?_) (fun c307 => ?_)
          · simp only [fa_lt, fa_le, fa_eq, ltv_0] at c307
            refine lv_aload_n hx hb dX7_advance_73 rfl (lv_at hl 0 rfl) ?_
            refine lv_aload_n hx hb dX7_advance_74 rfl (lv_at hl 0 rfl) ?_
            refine va_get (D := (dC, dI)) (ci := 5) (v := .int z237) (C := RX7) (T := TX7) (N := 12) hx hb hts iX7_advance_X7 hown hK hP 0 rfl rfl 4 (by decide) (hts (.fieldLink RX7 25 "HookPier$Reader" "start" "I") (List.mem_of_getElem? (i := 2) rfl)) (fun _ h9 => h9) rfl dX7_advance_75 ?_
            refine cl_i (wc := [(a0, .inr (5, [.ref a1, g2, .int k3, .int k4, .int z237, .int z237, g7, g8, g9, g10, g11, g12])), (a1, .inl (cB13, 900, .inl f14))]) (wr := []) (va_runV (As := [.int z237]) (rest := []) ⟨hx, hb, hml, hown, hts⟩ (kX7_isLetter l dC dI a0 z237 a1 (g2) (.int k3) (.int k4) (.int z237) (.int z237) (g7) (g8) (g9) (g10) (g11) (g12) cB13 f14 (by first | omega | (simp only [ltv_0]; omega)) H.size) (cwV 1 hts gX7_advance_0 rfl rfl rfl (by decide +kernel) ⟨Nat.le_of_ble_eq_true rfl, Nat.le_of_ble_eq_true rfl⟩) (PV (hP.sub (ws' := [(a0, .inr (5, [.ref a1, g2, .int k3, .int k4, .int z237, .int z237, g7, g8, g9, g10, g11, g12])), (a1, .inl (cB13, 900, .inl f14))]) [0, 1] rfl) (hK.sub (tys' := [(cB13, .byte)]) [0] rfl) (hD.sub (ws' := [(a0, .inr (5, [.ref a1, g2, .int k3, .int k4, .int z237, .int z237, g7, g8, g9, g10, g11, g12])), (a1, .inl (cB13, 900, .inl f14))]) [0, 1] (by decide) rfl) hN 0 rfl rfl) rfl rfl hl.1 rfl (lv_room (Nat.le_of_ble_eq_true rfl)) dX7_advance_78 ⟨Nat.le_of_ble_eq_true rfl, Nat.le_of_ble_eq_true rfl⟩) hP hD hK hS hA [0, 1] [] rfl rfl (by decide) (by decide) (fun z308 _u H locs hw hP hD hK hS => ?_)
            have b309 := hw
            have hP : va_P (dC, dI) vwCl [(a0, .inr (5, [.ref a1, g2, .int k3, .int k4, .int z237, .int z237, g7, g8, g9, g10, g11, g12])), (a1, .inl (cB13, 900, .inl f14))] H := hP
            have hD : va_D A [(a0, .inr (5, [.ref a1, g2, .int k3, .int k4, .int z237, .int z237, g7, g8, g9, g10, g11, g12])), (a1, .inl (cB13, 900, .inl f14))] := hD
            have hK : va_K (dC, dI) vwCl [(cB13, .byte)] s := hK
            refine lv_if_eq (tgt := 145) hx hb dX7_advance_81 (by decide) (fun c310 => ?_) (fun c310 => ?_)
            · simp only [fa_lt, fa_le, fa_eq, ltv_0] at c310
              refine lv_aload_n hx hb dX7_advance_145 rfl (lv_at hl 0 rfl) ?_
              refine lv_aload_n hx hb dX7_advance_146 rfl (lv_at hl 0 rfl) ?_
              refine va_get (D := (dC, dI)) (ci := 5) (v := .int z237) (C := RX7) (T := TX7) (N := 12) hx hb hts iX7_advance_X7 hown hK hP 0 rfl rfl 4 (by decide) (hts (.fieldLink RX7 25 "HookPier$Reader" "start" "I") (List.mem_of_getElem? (i := 2) rfl)) (fun _ h9 => h9) rfl dX7_advance_147 ?_
              refine cl_i (wc := [(a0, .inr (5, [.ref a1, g2, .int k3, .int k4, .int z237, .int z237, g7, g8, g9, g10, g11, g12])), (a1, .inl (cB13, 900, .inl f14))]) (wr := []) (va_runV (As := [.int z237]) (rest := []) ⟨hx, hb, hml, hown, hts⟩ (kX7_isDigit l dC dI a0 z237 a1 (g2) (.int k3) (.int k4) (.int z237) (.int z237) (g7) (g8) (g9) (g10) (g11) (g12) cB13 f14 (by first | omega | (simp only [ltv_0]; omega)) H.size) (cwV 1 hts gX7_advance_1 rfl rfl rfl (by decide +kernel) ⟨Nat.le_of_ble_eq_true rfl, Nat.le_of_ble_eq_true rfl⟩) (PV (hP.sub (ws' := [(a0, .inr (5, [.ref a1, g2, .int k3, .int k4, .int z237, .int z237, g7, g8, g9, g10, g11, g12])), (a1, .inl (cB13, 900, .inl f14))]) [0, 1] rfl) (hK.sub (tys' := [(cB13, .byte)]) [0] rfl) (hD.sub (ws' := [(a0, .inr (5, [.ref a1, g2, .int k3, .int k4, .int z237, .int z237, g7, g8, g9, g10, g11, g12])), (a1, .inl (cB13, 900, .inl f14))]) [0, 1] (by decide) rfl) hN 0 rfl rfl) rfl rfl hl.1 rfl (lv_room (Nat.le_of_ble_eq_true rfl)) dX7_advance_150 ⟨Nat.le_of_ble_eq_true rfl, Nat.le_of_ble_eq_true rfl⟩) hP hD hK hS hA [0, 1] [] rfl rfl (by decide) (by decide) (fun z311 _u H locs hw hP hD hK hS => ?_)
              have b312 := hw
              have hP : va_P (dC, dI) vwCl [(a0, .inr (5, [.ref a1, g2, .int k3, .int k4, .int z237, .int z237, g7, g8, g9, g10, g11, g12])), (a1, .inl (cB13, 900, .inl f14))] H := hP
              have hD : va_D A [(a0, .inr (5, [.ref a1, g2, .int k3, .int k4, .int z237, .int z237, g7, g8, g9, g10, g11, g12])), (a1, .inl (cB13, 900, .inl f14))] := hD
              have hK : va_K (dC, dI) vwCl [(cB13, .byte)] s := hK
              refine lv_if_eq (tgt := 216) hx hb dX7_advance_153 (by decide) (fun c313 => ?_) (fun c313 => ?_)
              · simp only [fa_lt, fa_le, fa_eq, ltv_0] at c313
                refine lv_aload_n hx hb dX7_advance_216 rfl (lv_at hl 0 rfl) ?_
                refine lv_aload_n hx hb dX7_advance_217 rfl (lv_at hl 0 rfl) ?_
                refine va_get (D := (dC, dI)) (ci := 5) (v := .ref a1) (C := RX7) (T := TX7) (N := 12) hx hb hts iX7_advance_X7 hown hK hP 0 rfl rfl 0 (by decide) (hts (.fieldLink RX7 9 "HookPier$Reader" "text" "[B") (List.mem_of_getElem? (i := 9) rfl)) (fun _ h9 => h9) rfl dX7_advance_218 ?_
                refine lv_aload_n hx hb dX7_advance_221 rfl (lv_at hl 0 rfl) ?_
                refine va_get (D := (dC, dI)) (ci := 5) (v := .int z237) (C := RX7) (T := TX7) (N := 12) hx hb hts iX7_advance_X7 hown hK hP 0 rfl rfl 4 (by decide) (hts (.fieldLink RX7 25 "HookPier$Reader" "start" "I") (List.mem_of_getElem? (i := 2) rfl)) (fun _ h9 => h9) rfl dX7_advance_222 ?_
                refine va_bald hx hb hK hP 1 0 rfl rfl (vp_in_iff.mpr (by omega)) dX7_advance_225 ?_
                refine lv_topi (fun z314 ez314 => ?_)
                clear ez314
                refine lv_bipush (v := 59) hx hb dX7_advance_226 (by decide) ?_
                refine lv_icmp_ne (tgt := 235) hx hb dX7_advance_228 (by decide) (fun c315 => ?_) (fun c315 => ?_)
                · simp only [fa_lt, fa_le, fa_eq, ltv_0, ltv_59] at c315
                  refine lv_iconst (v := 4) hx hb dX7_advance_235 (by decide) ?_
                  refine va_put (D := (dC, dI)) (ci := 5) (v := .int 4) (ty := .int) (C := RX7) (T := TX7) (N := 12) hx hb hts iX7_advance_X7 tyX7 tyX7_ok nmX7 hown hK hP hD hS 0 rfl rfl 3 (by decide) (hts (.fieldLink RX7 22 "HookPier$Reader" "token" "I") (List.mem_of_getElem? (i := 14) rfl)) (fun _ h9 => h9) rfl (by decide +kernel) rfl rfl (Nat.le_of_ble_eq_true rfl) dX7_advance_236 (fun H locs hP hD hS => ?_)
                  have hP : va_P (dC, dI) vwCl [(a0, .inr (5, [.ref a1, g2, .int k3, .int 4, .int z237, .int z237, g7, g8, g9, g10, g11, g12])), (a1, .inl (cB13, 900, .inl f14))] H := hP
                  have hD : va_D A [(a0, .inr (5, [.ref a1, g2, .int k3, .int 4, .int z237, .int z237, g7, g8, g9, g10, g11, g12])), (a1, .inl (cB13, 900, .inl f14))] := hD
                  refine lv_aload_n hx hb dX7_advance_239 rfl (lv_at hl 0 rfl) ?_
                  refine lv_dup hx hb dX7_advance_240 rfl ?_
                  refine va_get (D := (dC, dI)) (ci := 5) (v := .int z237) (C := RX7) (T := TX7) (N := 12) hx hb hts iX7_advance_X7 hown hK hP 0 rfl rfl 5 (by decide) (hts (.fieldLink RX7 28 "HookPier$Reader" "behind" "I") (List.mem_of_getElem? (i := 1) rfl)) (fun _ h9 => h9) rfl dX7_advance_241 ?_
                  refine lv_iconst (v := 1) hx hb dX7_advance_244 (by decide) ?_
                  refine lv_iadd hx hb dX7_advance_245 ?_
                  refine lv_topi (fun z316 ez316 => ?_)
                  have tz316 : z316.toInt = z237.toInt + 1 := by rw [ez316]; rw [iadd_t (by first | omega | (simp only [ltv_0, ltv_1]; omega)) (by first | omega | (simp only [ltv_0, ltv_1]; omega))]; first | done | (simp only [ltv_0, ltv_1])
                  refine va_put (D := (dC, dI)) (ci := 5) (v := .int z316) (ty := .int) (C := RX7) (T := TX7) (N := 12) hx hb hts iX7_advance_X7 tyX7 tyX7_ok nmX7 hown hK hP hD hS 0 rfl rfl 5 (by decide) (hts (.fieldLink RX7 28 "HookPier$Reader" "behind" "I") (List.mem_of_getElem? (i := 1) rfl)) (fun _ h9 => h9) rfl (by decide +kernel) rfl rfl (Nat.le_of_ble_eq_true rfl) dX7_advance_246 (fun H locs hP hD hS => ?_)
                  have hP : va_P (dC, dI) vwCl [(a0, .inr (5, [.ref a1, g2, .int k3, .int 4, .int z237, .int z316, g7, g8, g9, g10, g11, g12])), (a1, .inl (cB13, 900, .inl f14))] H := hP
                  have hD : va_D A [(a0, .inr (5, [.ref a1, g2, .int k3, .int 4, .int z237, .int z316, g7, g8, g9, g10, g11, g12])), (a1, .inl (cB13, 900, .inl f14))] := hD
                  have hP9 := hP.sub (ws' := [(a0, .inr (5, [.ref a1, g2, .int k3, .int 4, .int z237, .int z316, g7, g8, g9, g10, g11, g12])), (a1, .inl (cB13, 900, .inl f14))]) [0, 1] rfl
                  have hD9 := hD.sub (ws' := [(a0, .inr (5, [.ref a1, g2, .int k3, .int 4, .int z237, .int z316, g7, g8, g9, g10, g11, g12])), (a1, .inl (cB13, 900, .inl f14))]) [0, 1] (by decide) rfl
                  have hK9 := hK.sub (tys' := []) [] rfl
                  exact W.vret hx hb hr (fun t ht hW => ⟨⟨(4, z237, z316), rfl, ⟨(by first | trivial | omega | (simp only [ltv_0, ltv_4]; omega)), (by first | trivial | omega | (simp only [ltv_0, ltv_4]; omega)), (by first | trivial | omega | (simp only [ltv_0, ltv_4]; omega))⟩, by rw [ht]; exact hP9, va_K.moved hW.alike hK9, hD9⟩, hS.F ht⟩) hS.2.2 dX7_advance_249
                · simp only [fa_lt, fa_le, fa_eq, ltv_0, ltv_59] at c315
                  refine lv_iconst (v := 3) hx hb dX7_advance_231 (by decide) ?_
                  refine lv_goto (tgt := 236) hx hb dX7_advance_232 (by decide) ?_
                  refine va_put (D := (dC, dI)) (ci := 5) (v := .int 3) (ty := .int) (C := RX7) (T := TX7) (N := 12) hx hb hts iX7_advance_X7 tyX7 tyX7_ok nmX7 hown hK hP hD hS 0 rfl rfl 3 (by decide) (hts (.fieldLink RX7 22 "HookPier$Reader" "token" "I") (List.mem_of_getElem? (i := 14) rfl)) (fun _ h9 => h9) rfl (by decide +kernel) rfl rfl (Nat.le_of_ble_eq_true rfl) dX7_advance_236 (fun H locs hP hD hS => ?_)
                  have hP : va_P (dC, dI) vwCl [(a0, .inr (5, [.ref a1, g2, .int k3, .int 3, .int z237, .int z237, g7, g8, g9, g10, g11, g12])), (a1, .inl (cB13, 900, .inl f14))] H := hP
                  have hD : va_D A [(a0, .inr (5, [.ref a1, g2, .int k3, .int 3, .int z237, .int z237, g7, g8, g9, g10, g11, g12])), (a1, .inl (cB13, 900, .inl f14))] := hD
                  refine lv_aload_n hx hb dX7_advance_239 rfl (lv_at hl 0 rfl) ?_
                  refine lv_dup hx hb dX7_advance_240 rfl ?_
                  refine va_get (D := (dC, dI)) (ci := 5) (v := .int z237) (C := RX7) (T := TX7) (N := 12) hx hb hts iX7_advance_X7 hown hK hP 0 rfl rfl 5 (by decide) (hts (.fieldLink RX7 28 "HookPier$Reader" "behind" "I") (List.mem_of_getElem? (i := 1) rfl)) (fun _ h9 => h9) rfl dX7_advance_241 ?_
                  refine lv_iconst (v := 1) hx hb dX7_advance_244 (by decide) ?_
                  refine lv_iadd hx hb dX7_advance_245 ?_
                  refine lv_topi (fun z317 ez317 => ?_)
                  have tz317 : z317.toInt = z237.toInt + 1 := by rw [ez317]; rw [iadd_t (by first | omega | (simp only [ltv_0, ltv_1]; omega)) (by first | omega | (simp only [ltv_0, ltv_1]; omega))]; first | done | (simp only [ltv_0, ltv_1])
                  refine va_put (D := (dC, dI)) (ci := 5) (v := .int z317) (ty := .int) (C := RX7) (T := TX7) (N := 12) hx hb hts iX7_advance_X7 tyX7 tyX7_ok nmX7 hown hK hP hD hS 0 rfl rfl 5 (by decide) (hts (.fieldLink RX7 28 "HookPier$Reader" "behind" "I") (List.mem_of_getElem? (i := 1) rfl)) (fun _ h9 => h9) rfl (by decide +kernel) rfl rfl (Nat.le_of_ble_eq_true rfl) dX7_advance_246 (fun H locs hP hD hS => ?_)
                  have hP : va_P (dC, dI) vwCl [(a0, .inr (5, [.ref a1, g2, .int k3, .int 3, .int z237, .int z317, g7, g8, g9, g10, g11, g12])), (a1, .inl (cB13, 900, .inl f14))] H := hP
                  have hD : va_D A [(a0, .inr (5, [.ref a1, g2, .int k3, .int 3, .int z237, .int z317, g7, g8, g9, g10, g11, g12])), (a1, .inl (cB13, 900, .inl f14))] := hD
                  have hP9 := hP.sub (ws' := [(a0, .inr (5, [.ref a1, g2, .int k3, .int 3, .int z237, .int z317, g7, g8, g9, g10, g11, g12])), (a1, .inl (cB13, 900, .inl f14))]) [0, 1] rfl
                  have hD9 := hD.sub (ws' := [(a0, .inr (5, [.ref a1, g2, .int k3, .int 3, .int z237, .int z317, g7, g8, g9, g10, g11, g12])), (a1, .inl (cB13, 900, .inl f14))]) [0, 1] (by decide) rfl
                  have hK9 := hK.sub (tys' := []) [] rfl
                  exact W.vret hx hb hr (fun t ht hW => ⟨⟨(3, z237, z317), rfl, ⟨(by first | trivial | omega | (simp only [ltv_0, ltv_3]; omega)), (by first | trivial | omega | (simp only [ltv_0, ltv_3]; omega)), (by first | trivial | omega | (simp only [ltv_0, ltv_3]; omega))⟩, by rw [ht]; exact hP9, va_K.moved hW.alike hK9, hD9⟩, hS.F ht⟩) hS.2.2 dX7_advance_249
              · simp only [fa_lt, fa_le, fa_eq, ltv_0] at c313
                have L156_335 : ∀ (n : Nat) (z334 : Int32) (H : Heap) (locs : List Loc) (ls : Array Slot), (0 ≤ z334.toInt ∧ z334.toInt ≤ 900) → 900 - z334.toInt < (n : Int) → va_P (dC, dI) vwCl [(a0, .inr (5, [.ref a1, g2, .int k3, .int k4, .int z237, .int z334, g7, g8, g9, g10, g11, g12])), (a1, .inl (cB13, 900, .inl f14))] H → va_D A [(a0, .inr (5, [.ref a1, g2, .int k3, .int k4, .int z237, .int z334, g7, g8, g9, g10, g11, g12])), (a1, .inl (cB13, 900, .inl f14))] → va_S A s.heap H locs → lv_has ls 1 [(0, .ref a0)] → W p l e (headSpec vX7_advance { frames := 1, cells := 0, slots := 0, locals := 21 }).room s m ([.ref a0]).toArray below meth c H locs 0 0 (MQ below (va_Qv (S := Int32 × Int32 × Int32) (fun u => (0 ≤ (u.1).toInt ∧ (u.1).toInt ≤ 4) ∧ (0 ≤ (u.2.1).toInt ∧ (u.2.1).toInt ≤ 900) ∧ (0 ≤ (u.2.2).toInt ∧ (u.2.2).toInt ≤ 900)) (fun u t => BC (dC, dI) A [(a0, .inr (5, [.ref a1, g2, .int k3, .int (u.1), .int (u.2.1), .int (u.2.2), g7, g8, g9, g10, g11, g12])), (a1, .inl (cB13, 900, .inl f14))] [] t) A) ([.ref a0]).toArray s 0 0 A) (F0 m 156 ls []) := by
                  intro n
                  induction n with
                  | zero =>
                    intro z334 H locs ls b156_0 hm _ _ _ _
                    exact absurd hm (by omega)
                  | succ n ih156 =>
                    intro z334 H locs ls b156_0 hm156 hP hD hS hl
                    refine lv_aload_n hx hb dX7_advance_156 rfl (lv_at hl 0 rfl) ?_
                    refine va_get (D := (dC, dI)) (ci := 5) (v := .int z334) (C := RX7) (T := TX7) (N := 12) hx hb hts iX7_advance_X7 hown hK hP 0 rfl rfl 5 (by decide) (hts (.fieldLink RX7 28 "HookPier$Reader" "behind" "I") (List.mem_of_getElem? (i := 1) rfl)) (fun _ h9 => h9) rfl dX7_advance_157 ?_
                    refine lv_aload_n hx hb dX7_advance_160 rfl (lv_at hl 0 rfl) ?_
                    refine va_get (D := (dC, dI)) (ci := 5) (v := .int k3) (C := RX7) (T := TX7) (N := 12) hx hb hts iX7_advance_X7 hown hK hP 0 rfl rfl 2 (by decide) (hts (.fieldLink RX7 19 "HookPier$Reader" "end" "I") (List.mem_of_getElem? (i := 3) rfl)) (fun _ h9 => h9) rfl dX7_advance_161 ?_
                    refine lv_icmp_ge (tgt := 191) hx hb dX7_advance_164 (by decide) (fun c336 => ?_) (fun c336 => ?_)
                    · simp only [fa_lt, fa_le, fa_eq, ltv_0] at c336
                      refine lv_aload_n hx hb dX7_advance_191 rfl (lv_at hl 0 rfl) ?_
                      refine lv_aload_n hx hb dX7_advance_192 rfl (lv_at hl 0 rfl) ?_
                      refine va_get (D := (dC, dI)) (ci := 5) (v := .int z334) (C := RX7) (T := TX7) (N := 12) hx hb hts iX7_advance_X7 hown hK hP 0 rfl rfl 5 (by decide) (hts (.fieldLink RX7 28 "HookPier$Reader" "behind" "I") (List.mem_of_getElem? (i := 1) rfl)) (fun _ h9 => h9) rfl dX7_advance_193 ?_
                      refine lv_aload_n hx hb dX7_advance_196 rfl (lv_at hl 0 rfl) ?_
                      refine va_get (D := (dC, dI)) (ci := 5) (v := .int z237) (C := RX7) (T := TX7) (N := 12) hx hb hts iX7_advance_X7 hown hK hP 0 rfl rfl 4 (by decide) (hts (.fieldLink RX7 25 "HookPier$Reader" "start" "I") (List.mem_of_getElem? (i := 2) rfl)) (fun _ h9 => h9) rfl dX7_advance_197 ?_
                      refine lv_isub hx hb dX7_advance_200 ?_
                      refine lv_topi (fun z337 ez337 => ?_)
                      have tz337 : z337.toInt = z334.toInt - z237.toInt := by rw [ez337]; rw [isub_t (by first | omega | (simp only [ltv_0]; omega)) (by first | omega | (simp only [ltv_0]; omega))]; first | done | (simp only [ltv_0])
                      refine lv_iconst (v := 2) hx hb dX7_advance_201 (by decide) ?_
                      refine lv_icmp_gt (tgt := 209) hx hb dX7_advance_202 (by decide) (fun c338 => ?_) (fun c338 => ?_)
                      · simp only [fa_lt, fa_le, fa_eq, ltv_0, ltv_2] at c338
                        refine lv_iconst (v := 4) hx hb dX7_advance_209 (by decide) ?_
                        refine va_put (D := (dC, dI)) (ci := 5) (v := .int 4) (ty := .int) (C := RX7) (T := TX7) (N := 12) hx hb hts iX7_advance_X7 tyX7 tyX7_ok nmX7 hown hK hP hD hS 0 rfl rfl 3 (by decide) (hts (.fieldLink RX7 22 "HookPier$Reader" "token" "I") (List.mem_of_getElem? (i := 14) rfl)) (fun _ h9 => h9) rfl (by decide +kernel) rfl rfl (Nat.le_of_ble_eq_true rfl) dX7_advance_210 (fun H locs hP hD hS => ?_)
                        have hP : va_P (dC, dI) vwCl [(a0, .inr (5, [.ref a1, g2, .int k3, .int 4, .int z237, .int z334, g7, g8, g9, g10, g11, g12])), (a1, .inl (cB13, 900, .inl f14))] H := hP
                        have hD : va_D A [(a0, .inr (5, [.ref a1, g2, .int k3, .int 4, .int z237, .int z334, g7, g8, g9, g10, g11, g12])), (a1, .inl (cB13, 900, .inl f14))] := hD
                        refine lv_goto (tgt := 249) hx hb dX7_advance_213 (by decide) ?_
                        have hP9 := hP.sub (ws' := [(a0, .inr (5, [.ref a1, g2, .int k3, .int 4, .int z237, .int z334, g7, g8, g9, g10, g11, g12])), (a1, .inl (cB13, 900, .inl f14))]) [0, 1] rfl
                        have hD9 := hD.sub (ws' := [(a0, .inr (5, [.ref a1, g2, .int k3, .int 4, .int z237, .int z334, g7, g8, g9, g10, g11, g12])), (a1, .inl (cB13, 900, .inl f14))]) [0, 1] (by decide) rfl
                        have hK9 := hK.sub (tys' := []) [] rfl
                        exact W.vret hx hb hr (fun t ht hW => ⟨⟨(4, z237, z334), rfl, ⟨(by first | trivial | omega | (simp only [ltv_0, ltv_4]; omega)), (by first | trivial | omega | (simp only [ltv_0, ltv_4]; omega)), (by first | trivial | omega | (simp only [ltv_0, ltv_4]; omega))⟩, by rw [ht]; exact hP9, va_K.moved hW.alike hK9, hD9⟩, hS.F ht⟩) hS.2.2 dX7_advance_249
                      · simp only [fa_lt, fa_le, fa_eq, ltv_0, ltv_2] at c338
                        refine lv_iconst (v := 2) hx hb dX7_advance_205 (by decide) ?_
                        refine lv_goto (tgt := 210) hx hb dX7_advance_206 (by decide) ?_
                        refine va_put (D := (dC, dI)) (ci := 5) (v := .int 2) (ty := .int) (C := RX7) (T := TX7) (N := 12) hx hb hts iX7_advance_X7 tyX7 tyX7_ok nmX7 hown hK hP hD hS 0 rfl rfl 3 (by decide) (hts (.fieldLink RX7 22 "HookPier$Reader" "token" "I") (List.mem_of_getElem? (i := 14) rfl)) (fun _ h9 => h9) rfl (by decide +kernel) rfl rfl (Nat.le_of_ble_eq_true rfl) dX7_advance_210 (fun H locs hP hD hS => ?_)
                        have hP : va_P (dC, dI) vwCl [(a0, .inr (5, [.ref a1, g2, .int k3, .int 2, .int z237, .int z334, g7, g8, g9, g10, g11, g12])), (a1, .inl (cB13, 900, .inl f14))] H := hP
                        have hD : va_D A [(a0, .inr (5, [.ref a1, g2, .int k3, .int 2, .int z237, .int z334, g7, g8, g9, g10, g11, g12])), (a1, .inl (cB13, 900, .inl f14))] := hD
                        refine lv_goto (tgt := 249) hx hb dX7_advance_213 (by decide) ?_
                        have hP9 := hP.sub (ws' := [(a0, .inr (5, [.ref a1, g2, .int k3, .int 2, .int z237, .int z334, g7, g8, g9, g10, g11, g12])), (a1, .inl (cB13, 900, .inl f14))]) [0, 1] rfl
                        have hD9 := hD.sub (ws' := [(a0, .inr (5, [.ref a1, g2, .int k3, .int 2, .int z237, .int z334, g7, g8, g9, g10, g11, g12])), (a1, .inl (cB13, 900, .inl f14))]) [0, 1] (by decide) rfl
                        have hK9 := hK.sub (tys' := []) [] rfl
                        exact W.vret hx hb hr (fun t ht hW => ⟨⟨(2, z237, z334), rfl, ⟨(by first | trivial | omega | (simp only [ltv_0, ltv_2]; omega)), (by first | trivial | omega | (simp only [ltv_0, ltv_2]; omega)), (by first | trivial | omega | (simp only [ltv_0, ltv_2]; omega))⟩, by rw [ht]; exact hP9, va_K.moved hW.alike hK9, hD9⟩, hS.F ht⟩) hS.2.2 dX7_advance_249
                    · simp only [fa_lt, fa_le, fa_eq, ltv_0] at c336
                      refine lv_aload_n hx hb dX7_advance_167 rfl (lv_at hl 0 rfl) ?_
                      refine lv_aload_n hx hb dX7_advance_168 rfl (lv_at hl 0 rfl) ?_
                      refine va_get (D := (dC, dI)) (ci := 5) (v := .int z334) (C := RX7) (T := TX7) (N := 12) hx hb hts iX7_advance_X7 hown hK hP 0 rfl rfl 5 (by decide) (hts (.fieldLink RX7 28 "HookPier$Reader" "behind" "I") (List.mem_of_getElem? (i := 1) rfl)) (fun _ h9 => h9) rfl dX7_advance_169 ?_
                      refine cl_i (wc := [(a0, .inr (5, [.ref a1, g2, .int k3, .int k4, .int z237, .int z334, g7, g8, g9, g10, g11, g12])), (a1, .inl (cB13, 900, .inl f14))]) (wr := []) (va_runV (As := [.int z334]) (rest := []) ⟨hx, hb, hml, hown, hts⟩ (kX7_isDigit l dC dI a0 z334 a1 (g2) (.int k3) (.int k4) (.int z237) (.int z334) (g7) (g8) (g9) (g10) (g11) (g12) cB13 f14 (by first | omega | (simp only [ltv_0]; omega)) H.size) (cwV 1 hts gX7_advance_1 rfl rfl rfl (by decide +kernel) ⟨Nat.le_of_ble_eq_true rfl, Nat.le_of_ble_eq_true rfl⟩) (PV (hP.sub (ws' := [(a0, .inr (5, [.ref a1, g2, .int k3, .int k4, .int z237, .int z334, g7, g8, g9, g10, g11, g12])), (a1, .inl (cB13, 900, .inl f14))]) [0, 1] rfl) (hK.sub (tys' := [(cB13, .byte)]) [0] rfl) (hD.sub (ws' := [(a0, .inr (5, [.ref a1, g2, .int k3, .int k4, .int z237, .int z334, g7, g8, g9, g10, g11, g12])), (a1, .inl (cB13, 900, .inl f14))]) [0, 1] (by decide) rfl) hN 0 rfl rfl) rfl rfl hl.1 rfl (lv_room (Nat.le_of_ble_eq_true rfl)) dX7_advance_172 ⟨Nat.le_of_ble_eq_true rfl, Nat.le_of_ble_eq_true rfl⟩) hP hD hK hS hA [0, 1] [] rfl rfl (by decide) (by decide) (fun z339 _u H locs hw hP hD hK hS => ?_)
                      have b340 := hw
                      have hP : va_P (dC, dI) vwCl [(a0, .inr (5, [.ref a1, g2, .int k3, .int k4, .int z237, .int z334, g7, g8, g9, g10, g11, g12])), (a1, .inl (cB13, 900, .inl f14))] H := hP
                      have hD : va_D A [(a0, .inr (5, [.ref a1, g2, .int k3, .int k4, .int z237, .int z334, g7, g8, g9, g10, g11, g12])), (a1, .inl (cB13, 900, .inl f14))] := hD
                      have hK : va_K (dC, dI) vwCl [(cB13, .byte)] s := hK
                      refine lv_if_eq (tgt := 191) hx hb dX7_advance_175 (by decide) (fun c341 => ?_) (fun c341 => ?_)
                      · simp only [fa_lt, fa_le, fa_eq, ltv_0] at c341
                        refine lv_aload_n hx hb dX7_advance_191 rfl (lv_at hl 0 rfl) ?_
                        refine lv_aload_n hx hb dX7_advance_192 rfl (lv_at hl 0 rfl) ?_
                        refine va_get (D := (dC, dI)) (ci := 5) (v := .int z334) (C := RX7) (T := TX7) (N := 12) hx hb hts iX7_advance_X7 hown hK hP 0 rfl rfl 5 (by decide) (hts (.fieldLink RX7 28 "HookPier$Reader" "behind" "I") (List.mem_of_getElem? (i := 1) rfl)) (fun _ h9 => h9) rfl dX7_advance_193 ?_
                        refine lv_aload_n hx hb dX7_advance_196 rfl (lv_at hl 0 rfl) ?_
                        refine va_get (D := (dC, dI)) (ci := 5) (v := .int z237) (C := RX7) (T := TX7) (N := 12) hx hb hts iX7_advance_X7 hown hK hP 0 rfl rfl 4 (by decide) (hts (.fieldLink RX7 25 "HookPier$Reader" "start" "I") (List.mem_of_getElem? (i := 2) rfl)) (fun _ h9 => h9) rfl dX7_advance_197 ?_
                        refine lv_isub hx hb dX7_advance_200 ?_
                        refine lv_topi (fun z342 ez342 => ?_)
                        have tz342 : z342.toInt = z334.toInt - z237.toInt := by rw [ez342]; rw [isub_t (by first | omega | (simp only [ltv_0]; omega)) (by first | omega | (simp only [ltv_0]; omega))]; first | done | (simp only [ltv_0])
                        refine lv_iconst (v := 2) hx hb dX7_advance_201 (by decide) ?_
                        refine lv_icmp_gt (tgt := 209) hx hb dX7_advance_202 (by decide) (fun c343 => ?_) (fun c343 => ?_)
                        · simp only [fa_lt, fa_le, fa_eq, ltv_0, ltv_2] at c343
                          refine lv_iconst (v := 4) hx hb dX7_advance_209 (by decide) ?_
                          refine va_put (D := (dC, dI)) (ci := 5) (v := .int 4) (ty := .int) (C := RX7) (T := TX7) (N := 12) hx hb hts iX7_advance_X7 tyX7 tyX7_ok nmX7 hown hK hP hD hS 0 rfl rfl 3 (by decide) (hts (.fieldLink RX7 22 "HookPier$Reader" "token" "I") (List.mem_of_getElem? (i := 14) rfl)) (fun _ h9 => h9) rfl (by decide +kernel) rfl rfl (Nat.le_of_ble_eq_true rfl) dX7_advance_210 (fun H locs hP hD hS => ?_)
                          have hP : va_P (dC, dI) vwCl [(a0, .inr (5, [.ref a1, g2, .int k3, .int 4, .int z237, .int z334, g7, g8, g9, g10, g11, g12])), (a1, .inl (cB13, 900, .inl f14))] H := hP
                          have hD : va_D A [(a0, .inr (5, [.ref a1, g2, .int k3, .int 4, .int z237, .int z334, g7, g8, g9, g10, g11, g12])), (a1, .inl (cB13, 900, .inl f14))] := hD
                          refine lv_goto (tgt := 249) hx hb dX7_advance_213 (by decide) ?_
                          have hP9 := hP.sub (ws' := [(a0, .inr (5, [.ref a1, g2, .int k3, .int 4, .int z237, .int z334, g7, g8, g9, g10, g11, g12])), (a1, .inl (cB13, 900, .inl f14))]) [0, 1] rfl
                          have hD9 := hD.sub (ws' := [(a0, .inr (5, [.ref a1, g2, .int k3, .int 4, .int z237, .int z334, g7, g8, g9, g10, g11, g12])), (a1, .inl (cB13, 900, .inl f14))]) [0, 1] (by decide) rfl
                          have hK9 := hK.sub (tys' := []) [] rfl
                          exact W.vret hx hb hr (fun t ht hW => ⟨⟨(4, z237, z334), rfl, ⟨(by first | trivial | omega | (simp only [ltv_0, ltv_4]; omega)), (by first | trivial | omega | (simp only [ltv_0, ltv_4]; omega)), (by first | trivial | omega | (simp only [ltv_0, ltv_4]; omega))⟩, by rw [ht]; exact hP9, va_K.moved hW.alike hK9, hD9⟩, hS.F ht⟩) hS.2.2 dX7_advance_249
                        · simp only [fa_lt, fa_le, fa_eq, ltv_0, ltv_2] at c343
                          refine lv_iconst (v := 2) hx hb dX7_advance_205 (by decide) ?_
                          refine lv_goto (tgt := 210) hx hb dX7_advance_206 (by decide) ?_
                          refine va_put (D := (dC, dI)) (ci := 5) (v := .int 2) (ty := .int) (C := RX7) (T := TX7) (N := 12) hx hb hts iX7_advance_X7 tyX7 tyX7_ok nmX7 hown hK hP hD hS 0 rfl rfl 3 (by decide) (hts (.fieldLink RX7 22 "HookPier$Reader" "token" "I") (List.mem_of_getElem? (i := 14) rfl)) (fun _ h9 => h9) rfl (by decide +kernel) rfl rfl (Nat.le_of_ble_eq_true rfl) dX7_advance_210 (fun H locs hP hD hS => ?_)
                          have hP : va_P (dC, dI) vwCl [(a0, .inr (5, [.ref a1, g2, .int k3, .int 2, .int z237, .int z334, g7, g8, g9, g10, g11, g12])), (a1, .inl (cB13, 900, .inl f14))] H := hP
                          have hD : va_D A [(a0, .inr (5, [.ref a1, g2, .int k3, .int 2, .int z237, .int z334, g7, g8, g9, g10, g11, g12])), (a1, .inl (cB13, 900, .inl f14))] := hD
                          refine lv_goto (tgt := 249) hx hb dX7_advance_213 (by decide) ?_
                          have hP9 := hP.sub (ws' := [(a0, .inr (5, [.ref a1, g2, .int k3, .int 2, .int z237, .int z334, g7, g8, g9, g10, g11, g12])), (a1, .inl (cB13, 900, .inl f14))]) [0, 1] rfl
                          have hD9 := hD.sub (ws' := [(a0, .inr (5, [.ref a1, g2, .int k3, .int 2, .int z237, .int z334, g7, g8, g9, g10, g11, g12])), (a1, .inl (cB13, 900, .inl f14))]) [0, 1] (by decide) rfl
                          have hK9 := hK.sub (tys' := []) [] rfl
                          exact W.vret hx hb hr (fun t ht hW => ⟨⟨(2, z237, z334), rfl, ⟨(by first | trivial | omega | (simp only [ltv_0, ltv_2]; omega)), (by first | trivial | omega | (simp only [ltv_0, ltv_2]; omega)), (by first | trivial | omega | (simp only [ltv_0, ltv_2]; omega))⟩, by rw [ht]; exact hP9, va_K.moved hW.alike hK9, hD9⟩, hS.F ht⟩) hS.2.2 dX7_advance_249
                      · simp only [fa_lt, fa_le, fa_eq, ltv_0] at c341
                        refine lv_aload_n hx hb dX7_advance_178 rfl (lv_at hl 0 rfl) ?_
                        refine lv_dup hx hb dX7_advance_179 rfl ?_
                        refine va_get (D := (dC, dI)) (ci := 5) (v := .int z334) (C := RX7) (T := TX7) (N := 12) hx hb hts iX7_advance_X7 hown hK hP 0 rfl rfl 5 (by decide) (hts (.fieldLink RX7 28 "HookPier$Reader" "behind" "I") (List.mem_of_getElem? (i := 1) rfl)) (fun _ h9 => h9) rfl dX7_advance_180 ?_
                        refine lv_iconst (v := 1) hx hb dX7_advance_183 (by decide) ?_
                        refine lv_iadd hx hb dX7_advance_184 ?_
                        refine lv_topi (fun z344 ez344 => ?_)
                        have tz344 : z344.toInt = z334.toInt + 1 := by rw [ez344]; rw [iadd_t (by first | omega | (simp only [ltv_0, ltv_1]; omega)) (by first | omega | (simp only [ltv_0, ltv_1]; omega))]; first | done | (simp only [ltv_0, ltv_1])
                        refine va_put (D := (dC, dI)) (ci := 5) (v := .int z344) (ty := .int) (C := RX7) (T := TX7) (N := 12) hx hb hts iX7_advance_X7 tyX7 tyX7_ok nmX7 hown hK hP hD hS 0 rfl rfl 5 (by decide) (hts (.fieldLink RX7 28 "HookPier$Reader" "behind" "I") (List.mem_of_getElem? (i := 1) rfl)) (fun _ h9 => h9) rfl (by decide +kernel) rfl rfl (Nat.le_of_ble_eq_true rfl) dX7_advance_185 (fun H locs hP hD hS => ?_)
                        have hP : va_P (dC, dI) vwCl [(a0, .inr (5, [.ref a1, g2, .int k3, .int k4, .int z237, .int z344, g7, g8, g9, g10, g11, g12])), (a1, .inl (cB13, 900, .inl f14))] H := hP
                        have hD : va_D A [(a0, .inr (5, [.ref a1, g2, .int k3, .int k4, .int z237, .int z344, g7, g8, g9, g10, g11, g12])), (a1, .inl (cB13, 900, .inl f14))] := hD
                        refine lv_goto (tgt := 156) hx hb dX7_advance_188 (by decide) ?_
                        exact ih156 z344 H locs ls (by first | omega | (simp only [ltv_0]; omega)) (by first | omega | (simp only [ltv_0]; omega)) hP hD hS (lv_sub hl [0] rfl)
                exact L156_335 901 z237 H _ ls (by first | omega | (simp only [ltv_0]; omega)) (by first | omega | (simp only [ltv_0]; omega)) hP hD hS (lv_sub hl [0] rfl)
            · simp only [fa_lt, fa_le, fa_eq, ltv_0] at c310
              have L84_362 : ∀ (n : Nat) (z361 : Int32) (H : Heap) (locs : List Loc) (ls : Array Slot), (0 ≤ z361.toInt ∧ z361.toInt ≤ 900) → 900 - z361.toInt < (n : Int) → va_P (dC, dI) vwCl [(a0, .inr (5, [.ref a1, g2, .int k3, .int k4, .int z237, .int z361, g7, g8, g9, g10, g11, g12])), (a1, .inl (cB13, 900, .inl f14))] H → va_D A [(a0, .inr (5, [.ref a1, g2, .int k3, .int k4, .int z237, .int z361, g7, g8, g9, g10, g11, g12])), (a1, .inl (cB13, 900, .inl f14))] → va_S A s.heap H locs → lv_has ls 1 [(0, .ref a0)] → W p l e (headSpec vX7_advance { frames := 1, cells := 0, slots := 0, locals := 21 }).room s m ([.ref a0]).toArray below meth c H locs 0 0 (MQ below (va_Qv (S := Int32 × Int32 × Int32) (fun u => (0 ≤ (u.1).toInt ∧ (u.1).toInt ≤ 4) ∧ (0 ≤ (u.2.1).toInt ∧ (u.2.1).toInt ≤ 900) ∧ (0 ≤ (u.2.2).toInt ∧ (u.2.2).toInt ≤ 900)) (fun u t => BC (dC, dI) A [(a0, .inr (5, [.ref a1, g2, .int k3, .int (u.1), .int (u.2.1), .int (u.2.2), g7, g8, g9, g10, g11, g12])), (a1, .inl (cB13, 900, .inl f14))] [] t) A) ([.ref a0]).toArray s 0 0 A) (F0 m 84 ls []) := by
                intro n
                induction n with
                | zero =>
                  intro z361 H locs ls b84_0 hm _ _ _ _
                  exact absurd hm (by omega)
                | succ n ih84 =>
                  intro z361 H locs ls b84_0 hm84 hP hD hS hl
                  refine lv_aload_n hx hb dX7_advance_84 rfl (lv_at hl 0 rfl) ?_
                  refine va_get (D := (dC, dI)) (ci := 5) (v := .int z361) (C := RX7) (T := TX7) (N := 12) hx hb hts iX7_advance_X7 hown hK hP 0 rfl rfl 5 (by decide) (hts (.fieldLink RX7 28 "HookPier$Reader" "behind" "I") (List.mem_of_getElem? (i := 1) rfl)) (fun _ h9 => h9) rfl dX7_advance_85 ?_
                  refine lv_aload_n hx hb dX7_advance_88 rfl (lv_at hl 0 rfl) ?_
                  refine va_get (D := (dC, dI)) (ci := 5) (v := .int k3) (C := RX7) (T := TX7) (N := 12) hx hb hts iX7_advance_X7 hown hK hP 0 rfl rfl 2 (by decide) (hts (.fieldLink RX7 19 "HookPier$Reader" "end" "I") (List.mem_of_getElem? (i := 3) rfl)) (fun _ h9 => h9) rfl dX7_advance_89 ?_
                  refine lv_icmp_ge (tgt := 119) hx hb dX7_advance_92 (by decide) (fun c363 => ?_) (fun c363 => ?_)
                  · simp only [fa_lt, fa_le, fa_eq, ltv_0] at c363
                    refine lv_aload_n hx hb dX7_advance_119 rfl (lv_at hl 0 rfl) ?_
                    refine lv_aload_n hx hb dX7_advance_120 rfl (lv_at hl 0 rfl) ?_
                    refine va_get (D := (dC, dI)) (ci := 5) (v := .int z361) (C := RX7) (T := TX7) (N := 12) hx hb hts iX7_advance_X7 hown hK hP 0 rfl rfl 5 (by decide) (hts (.fieldLink RX7 28 "HookPier$Reader" "behind" "I") (List.mem_of_getElem? (i := 1) rfl)) (fun _ h9 => h9) rfl dX7_advance_121 ?_
                    refine lv_aload_n hx hb dX7_advance_124 rfl (lv_at hl 0 rfl) ?_
                    refine va_get (D := (dC, dI)) (ci := 5) (v := .int z237) (C := RX7) (T := TX7) (N := 12) hx hb hts iX7_advance_X7 hown hK hP 0 rfl rfl 4 (by decide) (hts (.fieldLink RX7 25 "HookPier$Reader" "start" "I") (List.mem_of_getElem? (i := 2) rfl)) (fun _ h9 => h9) rfl dX7_advance_125 ?_
                    refine lv_isub hx hb dX7_advance_128 ?_
                    refine lv_topi (fun z364 ez364 => ?_)
                    have tz364 : z364.toInt = z361.toInt - z237.toInt := by rw [ez364]; rw [isub_t (by first | omega | (simp only [ltv_0]; omega)) (by first | omega | (simp only [ltv_0]; omega))]; first | done | (simp only [ltv_0])
                    refine lv_bipush (v := 8) hx hb dX7_advance_129 (by decide) ?_
                    refine lv_icmp_gt (tgt := 138) hx hb dX7_advance_131 (by decide) (fun c365 => ?_) (fun c365 => ?_)
                    · simp only [fa_lt, fa_le, fa_eq, ltv_0, ltv_8] at c365
                      refine lv_iconst (v := 4) hx hb dX7_advance_138 (by decide) ?_
                      refine va_put (D := (dC, dI)) (ci := 5) (v := .int 4) (ty := .int) (C := RX7) (T := TX7) (N := 12) hx hb hts iX7_advance_X7 tyX7 tyX7_ok nmX7 hown hK hP hD hS 0 rfl rfl 3 (by decide) (hts (.fieldLink RX7 22 "HookPier$Reader" "token" "I") (List.mem_of_getElem? (i := 14) rfl)) (fun _ h9 => h9) rfl (by decide +kernel) rfl rfl (Nat.le_of_ble_eq_true rfl) dX7_advance_139 (fun H locs hP hD hS => ?_)
                      have hP : va_P (dC, dI) vwCl [(a0, .inr (5, [.ref a1, g2, .int k3, .int 4, .int z237, .int z361, g7, g8, g9, g10, g11, g12])), (a1, .inl (cB13, 900, .inl f14))] H := hP
                      have hD : va_D A [(a0, .inr (5, [.ref a1, g2, .int k3, .int 4, .int z237, .int z361, g7, g8, g9, g10, g11, g12])), (a1, .inl (cB13, 900, .inl f14))] := hD
                      refine lv_goto (tgt := 249) hx hb dX7_advance_142 (by decide) ?_
                      have hP9 := hP.sub (ws' := [(a0, .inr (5, [.ref a1, g2, .int k3, .int 4, .int z237, .int z361, g7, g8, g9, g10, g11, g12])), (a1, .inl (cB13, 900, .inl f14))]) [0, 1] rfl
                      have hD9 := hD.sub (ws' := [(a0, .inr (5, [.ref a1, g2, .int k3, .int 4, .int z237, .int z361, g7, g8, g9, g10, g11, g12])), (a1, .inl (cB13, 900, .inl f14))]) [0, 1] (by decide) rfl
                      have hK9 := hK.sub (tys' := []) [] rfl
                      exact W.vret hx hb hr (fun t ht hW => ⟨⟨(4, z237, z361), rfl, ⟨(by first | trivial | omega | (simp only [ltv_0, ltv_4]; omega)), (by first | trivial | omega | (simp only [ltv_0, ltv_4]; omega)), (by first | trivial | omega | (simp only [ltv_0, ltv_4]; omega))⟩, by rw [ht]; exact hP9, va_K.moved hW.alike hK9, hD9⟩, hS.F ht⟩) hS.2.2 dX7_advance_249
                    · simp only [fa_lt, fa_le, fa_eq, ltv_0, ltv_8] at c365
                      refine lv_iconst (v := 1) hx hb dX7_advance_134 (by decide) ?_
                      refine lv_goto (tgt := 139) hx hb dX7_advance_135 (by decide) ?_
                      refine va_put (D := (dC, dI)) (ci := 5) (v := .int 1) (ty := .int) (C := RX7) (T := TX7) (N := 12) hx hb hts iX7_advance_X7 tyX7 tyX7_ok nmX7 hown hK hP hD hS 0 rfl rfl 3 (by decide) (hts (.fieldLink RX7 22 "HookPier$Reader" "token" "I") (List.mem_of_getElem? (i := 14) rfl)) (fun _ h9 => h9) rfl (by decide +kernel) rfl rfl (Nat.le_of_ble_eq_true rfl) dX7_advance_139 (fun H locs hP hD hS => ?_)
                      have hP : va_P (dC, dI) vwCl [(a0, .inr (5, [.ref a1, g2, .int k3, .int 1, .int z237, .int z361, g7, g8, g9, g10, g11, g12])), (a1, .inl (cB13, 900, .inl f14))] H := hP
                      have hD : va_D A [(a0, .inr (5, [.ref a1, g2, .int k3, .int 1, .int z237, .int z361, g7, g8, g9, g10, g11, g12])), (a1, .inl (cB13, 900, .inl f14))] := hD
                      refine lv_goto (tgt := 249) hx hb dX7_advance_142 (by decide) ?_
                      have hP9 := hP.sub (ws' := [(a0, .inr (5, [.ref a1, g2, .int k3, .int 1, .int z237, .int z361, g7, g8, g9, g10, g11, g12])), (a1, .inl (cB13, 900, .inl f14))]) [0, 1] rfl
                      have hD9 := hD.sub (ws' := [(a0, .inr (5, [.ref a1, g2, .int k3, .int 1, .int z237, .int z361, g7, g8, g9, g10, g11, g12])), (a1, .inl (cB13, 900, .inl f14))]) [0, 1] (by decide) rfl
                      have hK9 := hK.sub (tys' := []) [] rfl
                      exact W.vret hx hb hr (fun t ht hW => ⟨⟨(1, z237, z361), rfl, ⟨(by first | trivial | omega | (simp only [ltv_0, ltv_1]; omega)), (by first | trivial | omega | (simp only [ltv_0, ltv_1]; omega)), (by first | trivial | omega | (simp only [ltv_0, ltv_1]; omega))⟩, by rw [ht]; exact hP9, va_K.moved hW.alike hK9, hD9⟩, hS.F ht⟩) hS.2.2 dX7_advance_249
                  · simp only [fa_lt, fa_le, fa_eq, ltv_0] at c363
                    refine lv_aload_n hx hb dX7_advance_95 rfl (lv_at hl 0 rfl) ?_
                    refine lv_aload_n hx hb dX7_advance_96 rfl (lv_at hl 0 rfl) ?_
                    refine va_get (D := (dC, dI)) (ci := 5) (v := .int z361) (C := RX7) (T := TX7) (N := 12) hx hb hts iX7_advance_X7 hown hK hP 0 rfl rfl 5 (by decide) (hts (.fieldLink RX7 28 "HookPier$Reader" "behind" "I") (List.mem_of_getElem? (i := 1) rfl)) (fun _ h9 => h9) rfl dX7_advance_97 ?_
                    refine cl_i (wc := [(a0, .inr (5, [.ref a1, g2, .int k3, .int k4, .int z237, .int z361, g7, g8, g9, g10, g11, g12])), (a1, .inl (cB13, 900, .inl f14))]) (wr := []) (va_runV (As := [.int z361]) (rest := []) ⟨hx, hb, hml, hown, hts⟩ (kX7_isLetter l dC dI a0 z361 a1 (g2) (.int k3) (.int k4) (.int z237) (.int z361) (g7) (g8) (g9) (g10) (g11) (g12) cB13 f14 (by first | omega | (simp only [ltv_0]; omega)) H.size) (cwV 1 hts gX7_advance_0 rfl rfl rfl (by decide +kernel) ⟨Nat.le_of_ble_eq_true rfl, Nat.le_of_ble_eq_true rfl⟩) (PV (hP.sub (ws' := [(a0, .inr (5, [.ref a1, g2, .int k3, .int k4, .int z237, .int z361, g7, g8, g9, g10, g11, g12])), (a1, .inl (cB13, 900, .inl f14))]) [0, 1] rfl) (hK.sub (tys' := [(cB13, .byte)]) [0] rfl) (hD.sub (ws' := [(a0, .inr (5, [.ref a1, g2, .int k3, .int k4, .int z237, .int z361, g7, g8, g9, g10, g11, g12])), (a1, .inl (cB13, 900, .inl f14))]) [0, 1] (by decide) rfl) hN 0 rfl rfl) rfl rfl hl.1 rfl (lv_room (Nat.le_of_ble_eq_true rfl)) dX7_advance_100 ⟨Nat.le_of_ble_eq_true rfl, Nat.le_of_ble_eq_true rfl⟩) hP hD hK hS hA [0, 1] [] rfl rfl (by decide) (by decide) (fun z366 _u H locs hw hP hD hK hS => ?_)
                    have b367 := hw
                    have hP : va_P (dC, dI) vwCl [(a0, .inr (5, [.ref a1, g2, .int k3, .int k4, .int z237, .int z361, g7, g8, g9, g10, g11, g12])), (a1, .inl (cB13, 900, .inl f14))] H := hP
                    have hD : va_D A [(a0, .inr (5, [.ref a1, g2, .int k3, .int k4, .int z237, .int z361, g7, g8, g9, g10, g11, g12])), (a1, .inl (cB13, 900, .inl f14))] := hD
                    have hK : va_K (dC, dI) vwCl [(cB13, .byte)] s := hK
                    refine lv_if_eq (tgt := 119) hx hb dX7_advance_103 (by decide) (fun c368 => ?_) (fun c368 => ?_)
                    · simp only [fa_lt, fa_le, fa_eq, ltv_0] at c368
                      refine lv_aload_n hx hb dX7_advance_119 rfl (lv_at hl 0 rfl) ?_
                      refine lv_aload_n hx hb dX7_advance_120 rfl (lv_at hl 0 rfl) ?_
                      refine va_get (D := (dC, dI)) (ci := 5) (v := .int z361) (C := RX7) (T := TX7) (N := 12) hx hb hts iX7_advance_X7 hown hK hP 0 rfl rfl 5 (by decide) (hts (.fieldLink RX7 28 "HookPier$Reader" "behind" "I") (List.mem_of_getElem? (i := 1) rfl)) (fun _ h9 => h9) rfl dX7_advance_121 ?_
                      refine lv_aload_n hx hb dX7_advance_124 rfl (lv_at hl 0 rfl) ?_
                      refine va_get (D := (dC, dI)) (ci := 5) (v := .int z237) (C := RX7) (T := TX7) (N := 12) hx hb hts iX7_advance_X7 hown hK hP 0 rfl rfl 4 (by decide) (hts (.fieldLink RX7 25 "HookPier$Reader" "start" "I") (List.mem_of_getElem? (i := 2) rfl)) (fun _ h9 => h9) rfl dX7_advance_125 ?_
                      refine lv_isub hx hb dX7_advance_128 ?_
                      refine lv_topi (fun z369 ez369 => ?_)
                      have tz369 : z369.toInt = z361.toInt - z237.toInt := by rw [ez369]; rw [isub_t (by first | omega | (simp only [ltv_0]; omega)) (by first | omega | (simp only [ltv_0]; omega))]; first | done | (simp only [ltv_0])
                      refine lv_bipush (v := 8) hx hb dX7_advance_129 (by decide) ?_
                      refine lv_icmp_gt (tgt := 138) hx hb dX7_advance_131 (by decide) (fun c370 => ?_) (fun c370 => ?_)
                      · simp only [fa_lt, fa_le, fa_eq, ltv_0, ltv_8] at c370
                        refine lv_iconst (v := 4) hx hb dX7_advance_138 (by decide) ?_
                        refine va_put (D := (dC, dI)) (ci := 5) (v := .int 4) (ty := .int) (C := RX7) (T := TX7) (N := 12) hx hb hts iX7_advance_X7 tyX7 tyX7_ok nmX7 hown hK hP hD hS 0 rfl rfl 3 (by decide) (hts (.fieldLink RX7 22 "HookPier$Reader" "token" "I") (List.mem_of_getElem? (i := 14) rfl)) (fun _ h9 => h9) rfl (by decide +kernel) rfl rfl (Nat.le_of_ble_eq_true rfl) dX7_advance_139 (fun H locs hP hD hS => ?_)
                        have hP : va_P (dC, dI) vwCl [(a0, .inr (5, [.ref a1, g2, .int k3, .int 4, .int z237, .int z361, g7, g8, g9, g10, g11, g12])), (a1, .inl (cB13, 900, .inl f14))] H := hP
                        have hD : va_D A [(a0, .inr (5, [.ref a1, g2, .int k3, .int 4, .int z237, .int z361, g7, g8, g9, g10, g11, g12])), (a1, .inl (cB13, 900, .inl f14))] := hD
                        refine lv_goto (tgt := 249) hx hb dX7_advance_142 (by decide) ?_
                        have hP9 := hP.sub (ws' := [(a0, .inr (5, [.ref a1, g2, .int k3, .int 4, .int z237, .int z361, g7, g8, g9, g10, g11, g12])), (a1, .inl (cB13, 900, .inl f14))]) [0, 1] rfl
                        have hD9 := hD.sub (ws' := [(a0, .inr (5, [.ref a1, g2, .int k3, .int 4, .int z237, .int z361, g7, g8, g9, g10, g11, g12])), (a1, .inl (cB13, 900, .inl f14))]) [0, 1] (by decide) rfl
                        have hK9 := hK.sub (tys' := []) [] rfl
                        exact W.vret hx hb hr (fun t ht hW => ⟨⟨(4, z237, z361), rfl, ⟨(by first | trivial | omega | (simp only [ltv_0, ltv_4]; omega)), (by first | trivial | omega | (simp only [ltv_0, ltv_4]; omega)), (by first | trivial | omega | (simp only [ltv_0, ltv_4]; omega))⟩, by rw [ht]; exact hP9, va_K.moved hW.alike hK9, hD9⟩, hS.F ht⟩) hS.2.2 dX7_advance_249
                      · simp only [fa_lt, fa_le, fa_eq, ltv_0, ltv_8] at c370
                        refine lv_iconst (v := 1) hx hb dX7_advance_134 (by decide) ?_
                        refine lv_goto (tgt := 139) hx hb dX7_advance_135 (by decide) ?_
                        refine va_put (D := (dC, dI)) (ci := 5) (v := .int 1) (ty := .int) (C := RX7) (T := TX7) (N := 12) hx hb hts iX7_advance_X7 tyX7 tyX7_ok nmX7 hown hK hP hD hS 0 rfl rfl 3 (by decide) (hts (.fieldLink RX7 22 "HookPier$Reader" "token" "I") (List.mem_of_getElem? (i := 14) rfl)) (fun _ h9 => h9) rfl (by decide +kernel) rfl rfl (Nat.le_of_ble_eq_true rfl) dX7_advance_139 (fun H locs hP hD hS => ?_)
                        have hP : va_P (dC, dI) vwCl [(a0, .inr (5, [.ref a1, g2, .int k3, .int 1, .int z237, .int z361, g7, g8, g9, g10, g11, g12])), (a1, .inl (cB13, 900, .inl f14))] H := hP
                        have hD : va_D A [(a0, .inr (5, [.ref a1, g2, .int k3, .int 1, .int z237, .int z361, g7, g8, g9, g10, g11, g12])), (a1, .inl (cB13, 900, .inl f14))] := hD
                        refine lv_goto (tgt := 249) hx hb dX7_advance_142 (by decide) ?_
                        have hP9 := hP.sub (ws' := [(a0, .inr (5, [.ref a1, g2, .int k3, .int 1, .int z237, .int z361, g7, g8, g9, g10, g11, g12])), (a1, .inl (cB13, 900, .inl f14))]) [0, 1] rfl
                        have hD9 := hD.sub (ws' := [(a0, .inr (5, [.ref a1, g2, .int k3, .int 1, .int z237, .int z361, g7, g8, g9, g10, g11, g12])), (a1, .inl (cB13, 900, .inl f14))]) [0, 1] (by decide) rfl
                        have hK9 := hK.sub (tys' := []) [] rfl
                        exact W.vret hx hb hr (fun t ht hW => ⟨⟨(1, z237, z361), rfl, ⟨(by first | trivial | omega | (simp only [ltv_0, ltv_1]; omega)), (by first | trivial | omega | (simp only [ltv_0, ltv_1]; omega)), (by first | trivial | omega | (simp only [ltv_0, ltv_1]; omega))⟩, by rw [ht]; exact hP9, va_K.moved hW.alike hK9, hD9⟩, hS.F ht⟩) hS.2.2 dX7_advance_249
                    · simp only [fa_lt, fa_le, fa_eq, ltv_0] at c368
                      refine lv_aload_n hx hb dX7_advance_106 rfl (lv_at hl 0 rfl) ?_
                      refine lv_dup hx hb dX7_advance_107 rfl ?_
                      refine va_get (D := (dC, dI)) (ci := 5) (v := .int z361) (C := RX7) (T := TX7) (N := 12) hx hb hts iX7_advance_X7 hown hK hP 0 rfl rfl 5 (by decide) (hts (.fieldLink RX7 28 "HookPier$Reader" "behind" "I") (List.mem_of_getElem? (i := 1) rfl)) (fun _ h9 => h9) rfl dX7_advance_108 ?_
                      refine lv_iconst (v := 1) hx hb dX7_advance_111 (by decide) ?_
                      refine lv_iadd hx hb dX7_advance_112 ?_
                      refine lv_topi (fun z371 ez371 => ?_)
                      have tz371 : z371.toInt = z361.toInt + 1 := by rw [ez371]; rw [iadd_t (by first | omega | (simp only [ltv_0, ltv_1]; omega)) (by first | omega | (simp only [ltv_0, ltv_1]; omega))]; first | done | (simp only [ltv_0, ltv_1])
                      refine va_put (D := (dC, dI)) (ci := 5) (v := .int z371) (ty := .int) (C := RX7) (T := TX7) (N := 12) hx hb hts iX7_advance_X7 tyX7 tyX7_ok nmX7 hown hK hP hD hS 0 rfl rfl 5 (by decide) (hts (.fieldLink RX7 28 "HookPier$Reader" "behind" "I") (List.mem_of_getElem? (i := 1) rfl)) (fun _ h9 => h9) rfl (by decide +kernel) rfl rfl (Nat.le_of_ble_eq_true rfl) dX7_advance_113 (fun H locs hP hD hS => ?_)
                      have hP : va_P (dC, dI) vwCl [(a0, .inr (5, [.ref a1, g2, .int k3, .int k4, .int z237, .int z371, g7, g8, g9, g10, g11, g12])), (a1, .inl (cB13, 900, .inl f14))] H := hP
                      have hD : va_D A [(a0, .inr (5, [.ref a1, g2, .int k3, .int k4, .int z237, .int z371, g7, g8, g9, g10, g11, g12])), (a1, .inl (cB13, 900, .inl f14))] := hD
                      refine lv_goto (tgt := 84) hx hb dX7_advance_116 (by decide) ?_
                      exact ih84 z371 H locs ls (by first | omega | (simp only [ltv_0]; omega)) (by first | omega | (simp only [ltv_0]; omega)) hP hD hS (lv_sub hl [0] rfl)
              exact L84_362 901 z237 H _ ls (by first | omega | (simp only [ltv_0]; omega)) (by first | omega | (simp only [ltv_0]; omega)) hP hD hS (lv_sub hl [0] rfl)
          · simp only [fa_lt, fa_le, fa_eq, ltv_0] at c307
            refine lv_aload_n hx hb dX7_advance_65 rfl (lv_at hl 0 rfl) ?_
            refine lv_iconst (v := 0) hx hb dX7_advance_66 (by decide) ?_
            refine va_put (D := (dC, dI)) (ci := 5) (v := .int 0) (ty := .int) (C := RX7) (T := TX7) (N := 12) hx hb hts iX7_advance_X7 tyX7 tyX7_ok nmX7 hown hK hP hD hS 0 rfl rfl 3 (by decide) (hts (.fieldLink RX7 22 "HookPier$Reader" "token" "I") (List.mem_of_getElem? (i := 14) rfl)) (fun _ h9 => h9) rfl (by decide +kernel) rfl rfl (Nat.le_of_ble_eq_true rfl) dX7_advance_67 (fun H locs hP hD hS => ?_)
            have hP : va_P (dC, dI) vwCl [(a0, .inr (5, [.ref a1, g2, .int k3, .int 0, .int z237, .int z237, g7, g8, g9, g10, g11, g12])), (a1, .inl (cB13, 900, .inl f14))] H := hP
            have hD : va_D A [(a0, .inr (5, [.ref a1, g2, .int k3, .int 0, .int z237, .int z237, g7, g8, g9, g10, g11, g12])), (a1, .inl (cB13, 900, .inl f14))] := hD
            refine lv_goto (tgt := 249) hx hb dX7_advance_70 (by decide) ?_
            have hP9 := hP.sub (ws' := [(a0, .inr (5, [.ref a1, g2, .int k3, .int 0, .int z237, .int z237, g7, g8, g9, g10, g11, g12])), (a1, .inl (cB13, 900, .inl f14))]) [0, 1] rfl
            have hD9 := hD.sub (ws' := [(a0, .inr (5, [.ref a1, g2, .int k3, .int 0, .int z237, .int z237, g7, g8, g9, g10, g11, g12])), (a1, .inl (cB13, 900, .inl f14))]) [0, 1] (by decide) rfl
            have hK9 := hK.sub (tys' := []) [] rfl
            exact W.vret hx hb hr (fun t ht hW => ⟨⟨(0, z237, z237), rfl, ⟨(by first | trivial | omega | (simp only [ltv_0]; omega)), (by first | trivial | omega | (simp only [ltv_0]; omega)), (by first | trivial | omega | (simp only [ltv_0]; omega))⟩, by rw [ht]; exact hP9, va_K.moved hW.alike hK9, hD9⟩, hS.F ht⟩) hS.2.2 dX7_advance_249
        · simp only [fa_lt, fa_le, fa_eq, ltv_0, ltv_32] at c306
          refine lv_aload_n hx hb dX7_advance_33 rfl (lv_at hl 0 rfl) ?_
          refine lv_dup hx hb dX7_advance_34 rfl ?_
          refine va_get (D := (dC, dI)) (ci := 5) (v := .int z237) (C := RX7) (T := TX7) (N := 12) hx hb hts iX7_advance_X7 hown hK hP 0 rfl rfl 4 (by decide) (hts (.fieldLink RX7 25 "HookPier$Reader" "start" "I") (List.mem_of_getElem? (i := 2) rfl)) (fun _ h9 => h9) rfl dX7_advance_35 ?_
          refine lv_iconst (v := 1) hx hb dX7_advance_38 (by decide) ?_
          refine lv_iadd hx hb dX7_advance_39 ?_
          refine lv_topi (fun z372 ez372 => ?_)
          have tz372 : z372.toInt = z237.toInt + 1 := by rw [ez372]; rw [iadd_t (by first | omega | (simp only [ltv_0, ltv_1]; omega)) (by first | omega | (simp only [ltv_0, ltv_1]; omega))]; first | done | (simp only [ltv_0, ltv_1])
          refine va_put (D := (dC, dI)) (ci := 5) (v := .int z372) (ty := .int) (C := RX7) (T := TX7) (N := 12) hx hb hts iX7_advance_X7 tyX7 tyX7_ok nmX7 hown hK hP hD hS 0 rfl rfl 4 (by decide) (hts (.fieldLink RX7 25 "HookPier$Reader" "start" "I") (List.mem_of_getElem? (i := 2) rfl)) (fun _ h9 => h9) rfl (by decide +kernel) rfl rfl (Nat.le_of_ble_eq_true rfl) dX7_advance_40 (fun H locs hP hD hS => ?_)
          have hP : va_P (dC, dI) vwCl [(a0, .inr (5, [.ref a1, g2, .int k3, .int k4, .int z372, .int k6, g7, g8, g9, g10, g11, g12])), (a1, .inl (cB13, 900, .inl f14))] H := hP
          have hD : va_D A [(a0, .inr (5, [.ref a1, g2, .int k3, .int k4, .int z372, .int k6, g7, g8, g9, g10, g11, g12])), (a1, .inl (cB13, 900, .inl f14))] := hD
          refine lv_goto (tgt := 8) hx hb dX7_advance_43 (by decide) ?_
          exact ih8 z372 H locs ls (by first | omega | (simp only [ltv_0]; omega)) (by first | omega | (simp only [ltv_0]; omega)) hP hD hS (lv_sub hl [0] rfl)
  exact L8_238 901 k6 H _ ls (by first | omega | (simp only [ltv_0]; omega)) (by first | omega | (simp only [ltv_0]; omega)) hP hD hS (lv_sub hl [0] rfl)
theorem dX7_fail_0 : decode cX7_fail 0 = .ok (.aload_n 0, 1) := by decide +kernel
theorem dX7_fail_1 : decode cX7_fail 1 = .ok (.iload_n 1, 1) := by decide +kernel
theorem dX7_fail_10 : decode cX7_fail 10 = .ok (.putfield 48, 3) := by decide +kernel
theorem dX7_fail_13 : decode cX7_fail 13 = .ok (.iconst 0, 1) := by decide +kernel
theorem dX7_fail_14 : decode cX7_fail 14 = .ok (.ireturn, 1) := by decide +kernel
theorem dX7_fail_2 : decode cX7_fail 2 = .ok (.putfield 45, 3) := by decide +kernel
theorem dX7_fail_5 : decode cX7_fail 5 = .ok (.aload_n 0, 1) := by decide +kernel
theorem dX7_fail_6 : decode cX7_fail 6 = .ok (.aload_n 0, 1) := by decide +kernel
theorem dX7_fail_7 : decode cX7_fail 7 = .ok (.getfield 25, 3) := by decide +kernel
def vX7_fail : List Cond := .code yX7_fail cX7_fail 2 (some .boolean) :: ([.fieldLink RX7 45 "HookPier$Reader" "fault" "I", .fieldLink RX7 25 "HookPier$Reader" "start" "I", .fieldLink RX7 48 "HookPier$Reader" "place" "I"] ++ wsX70)
theorem iX7_fail_X7 : ∀ w ∈ wsX70, w ∈ vX7_fail := fun _ h => List.mem_cons_of_mem _ (List.mem_append_right _ h)
set_option maxHeartbeats 2000000 in
set_option maxRecDepth 100000 in
theorem kX7_fail (l : Launch) (dC : Nat → ClassId) (dI : Nat → Nat → Nat) (a0 : Nat) (k1 : Int32) (g2 : Value) (g3 : Value) (g4 : Value) (g5 : Value) (k6 : Int32) (g7 : Value) (g8 : Value) (g9 : Value) (g10 : Value) (g11 : Value) (k12 : Int32) (k13 : Int32) (hk6 : (0 ≤ k6.toInt ∧ k6.toInt ≤ 900)) (sz : Nat) : Met l yX7_fail vX7_fail ({ frames := 0, cells := 0, slots := 0, locals := 0 }) (PC (dC, dI) [.ref a0, .int k1] sz [(a0, .inr (5, [g2, g3, g4, g5, .int k6, g7, g8, g9, g10, g11, .int k12, .int k13]))] []) (va_Qi (S := Int32 × Int32) (fun (r : Int32) u => r = 0 ∧ (0 ≤ (u.2).toInt ∧ (u.2).toInt ≤ 900)) (fun u t => BC (dC, dI) (va_A [(a0, .inr (5, [g2, g3, g4, g5, .int k6, g7, g8, g9, g10, g11, .int k12, .int k13]))] sz) [(a0, .inr (5, [g2, g3, g4, g5, .int k6, g7, g8, g9, g10, g11, .int (u.1), .int (u.2)]))] [] t) (va_A [(a0, .inr (5, [g2, g3, g4, g5, .int k6, g7, g8, g9, g10, g11, .int k12, .int k13]))] sz)) 0 0 (va_A [(a0, .inr (5, [g2, g3, g4, g5, .int k6, g7, g8, g9, g10, g11, .int k12, .int k13]))] sz) := by
  refine Met.ofW (cc := cX7_fail) (maxL := 2) (ret := (some .boolean)) (by decide) rfl ?_
  intro p e s m args below meth c s₁ B hml hv
  obtain ⟨rfl, hsz, hP, hK, hD0, hN⟩ := hv
  have hx := B.exec
  have hb := B.bytes
  have hr := B.returns
  have hts := atoms_spec (ws := vX7_fail) B.pre
  have hown : s.vm.findClass RX7 = some m.cls := findClass_of_methodNamed B.named
  have hlocks := B.notSynchronized
  subst hsz
  have hD := hD0.self (sz := s.heap.size)
  generalize hAe : va_A [(a0, .inr (5, [g2, g3, g4, g5, .int k6, g7, g8, g9, g10, g11, .int k12, .int k13]))] s.heap.size = A at hD ⊢
  have hA : ∀ q : Nat, s.heap.size ≤ q → A q := fun q h => by rw [← hAe]; exact Or.inr h
  have hS : va_S A s.heap s.heap [] := va_S.rf
  have hP : va_P (dC, dI) vwCl [(a0, .inr (5, [g2, g3, g4, g5, .int k6, g7, g8, g9, g10, g11, .int k12, .int k13]))] s.heap := hP
  have hl := lv_entry ([.ref a0, .int k1]) (n := 2) (Nat.le_of_ble_eq_true rfl)
  rw [lg_entry_eq]
  generalize (lg_sl ([.ref a0, .int k1]) ++ List.replicate (2 - (lg_sl ([.ref a0, .int k1])).length) Slot.unset).toArray = ls at hl ⊢
  have hl : lv_has ls 2 [(0, .ref a0), (1, .int k1)] := hl
  refine lv_aload_n hx hb dX7_fail_0 rfl (lv_at hl 0 rfl) ?_
  refine lv_iload_n hx hb dX7_fail_1 rfl (lv_at hl 1 rfl) ?_
  refine va_put (D := (dC, dI)) (ci := 5) (v := .int k1) (ty := .int) (C := RX7) (T := TX7) (N := 12) hx hb hts iX7_fail_X7 tyX7 tyX7_ok nmX7 hown hK hP hD hS 0 rfl rfl 10 (by decide) (hts (.fieldLink RX7 45 "HookPier$Reader" "fault" "I") (List.mem_of_getElem? (i := 1) rfl)) (fun _ h9 => h9) rfl (by decide +kernel) rfl rfl (Nat.le_of_ble_eq_true rfl) dX7_fail_2 (fun H locs hP hD hS => ?_)
  have hP : va_P (dC, dI) vwCl [(a0, .inr (5, [g2, g3, g4, g5, .int k6, g7, g8, g9, g10, g11, .int k1, .int k13]))] H := hP
  have hD : va_D A [(a0, .inr (5, [g2, g3, g4, g5, .int k6, g7, g8, g9, g10, g11, .int k1, .int k13]))] := hD
  refine lv_aload_n hx hb dX7_fail_5 rfl (lv_at hl 0 rfl) ?_
  refine lv_aload_n hx hb dX7_fail_6 rfl (lv_at hl 0 rfl) ?_
  refine va_get (D := (dC, dI)) (ci := 5) (v := .int k6) (C := RX7) (T := TX7) (N := 12) hx hb hts iX7_fail_X7 hown hK hP 0 rfl rfl 4 (by decide) (hts (.fieldLink RX7 25 "HookPier$Reader" "start" "I") (List.mem_of_getElem? (i := 2) rfl)) (fun _ h9 => h9) rfl dX7_fail_7 ?_
  refine va_put (D := (dC, dI)) (ci := 5) (v := .int k6) (ty := .int) (C := RX7) (T := TX7) (N := 12) hx hb hts iX7_fail_X7 tyX7 tyX7_ok nmX7 hown hK hP hD hS 0 rfl rfl 11 (by decide) (hts (.fieldLink RX7 48 "HookPier$Reader" "place" "I") (List.mem_of_getElem? (i := 3) rfl)) (fun _ h9 => h9) rfl (by decide +kernel) rfl rfl (Nat.le_of_ble_eq_true rfl) dX7_fail_10 (fun H locs hP hD hS => ?_)
  have hP : va_P (dC, dI) vwCl [(a0, .inr (5, [g2, g3, g4, g5, .int k6, g7, g8, g9, g10, g11, .int k1, .int k6]))] H := hP
  have hD : va_D A [(a0, .inr (5, [g2, g3, g4, g5, .int k6, g7, g8, g9, g10, g11, .int k1, .int k6]))] := hD
  refine lv_iconst (v := 0) hx hb dX7_fail_13 (by decide) ?_
  have hP9 := hP.sub (ws' := [(a0, .inr (5, [g2, g3, g4, g5, .int k6, g7, g8, g9, g10, g11, .int k1, .int k6]))]) [0] rfl
  have hD9 := hD.sub (ws' := [(a0, .inr (5, [g2, g3, g4, g5, .int k6, g7, g8, g9, g10, g11, .int k1, .int k6]))]) [0] (by decide) rfl
  have hK9 := hK.sub (tys' := []) [] rfl
  exact W.zret (v := 0) hx hb hr rfl (fun t ht hW => ⟨⟨0, (k1, k6), rfl, ⟨rfl, (by first | trivial | omega | (simp only [ltv_0]; omega))⟩, by rw [ht]; exact hP9, va_K.moved hW.alike hK9, hD9⟩, hS.F ht⟩) hS.2.2 dX7_fail_14
theorem dX7_takeWhole_0 : decode cX7_takeWhole 0 = .ok (.aload_n 0, 1) := by decide +kernel
theorem dX7_takeWhole_1 : decode cX7_takeWhole 1 = .ok (.getfield 22, 3) := by decide +kernel
theorem dX7_takeWhole_10 : decode cX7_takeWhole 10 = .ok (.invokevirtual 72, 3) := by decide +kernel
theorem dX7_takeWhole_13 : decode cX7_takeWhole 13 = .ok (.ireturn, 1) := by decide +kernel
theorem dX7_takeWhole_14 : decode cX7_takeWhole 14 = .ok (.iconst 0, 1) := by decide +kernel
theorem dX7_takeWhole_15 : decode cX7_takeWhole 15 = .ok (.istore_n 3, 1) := by decide +kernel
theorem dX7_takeWhole_16 : decode cX7_takeWhole 16 = .ok (.aload_n 0, 1) := by decide +kernel
theorem dX7_takeWhole_17 : decode cX7_takeWhole 17 = .ok (.getfield 25, 3) := by decide +kernel
theorem dX7_takeWhole_20 : decode cX7_takeWhole 20 = .ok (.istore 4, 2) := by decide +kernel
theorem dX7_takeWhole_22 : decode cX7_takeWhole 22 = .ok (.iload 4, 2) := by decide +kernel
theorem dX7_takeWhole_24 : decode cX7_takeWhole 24 = .ok (.aload_n 0, 1) := by decide +kernel
theorem dX7_takeWhole_25 : decode cX7_takeWhole 25 = .ok (.getfield 28, 3) := by decide +kernel
theorem dX7_takeWhole_28 : decode cX7_takeWhole 28 = .ok (.if_icmp .ge 25, 3) := by decide +kernel
theorem dX7_takeWhole_31 : decode cX7_takeWhole 31 = .ok (.bipush 10, 2) := by decide +kernel
theorem dX7_takeWhole_33 : decode cX7_takeWhole 33 = .ok (.iload_n 3, 1) := by decide +kernel
theorem dX7_takeWhole_34 : decode cX7_takeWhole 34 = .ok (.imul, 1) := by decide +kernel
theorem dX7_takeWhole_35 : decode cX7_takeWhole 35 = .ok (.aload_n 0, 1) := by decide +kernel
theorem dX7_takeWhole_36 : decode cX7_takeWhole 36 = .ok (.getfield 9, 3) := by decide +kernel
theorem dX7_takeWhole_39 : decode cX7_takeWhole 39 = .ok (.iload 4, 2) := by decide +kernel
theorem dX7_takeWhole_4 : decode cX7_takeWhole 4 = .ok (.iconst 2, 1) := by decide +kernel
theorem dX7_takeWhole_41 : decode cX7_takeWhole 41 = .ok (.baload, 1) := by decide +kernel
theorem dX7_takeWhole_42 : decode cX7_takeWhole 42 = .ok (.iadd, 1) := by decide +kernel
theorem dX7_takeWhole_43 : decode cX7_takeWhole 43 = .ok (.bipush 48, 2) := by decide +kernel
theorem dX7_takeWhole_45 : decode cX7_takeWhole 45 = .ok (.isub, 1) := by decide +kernel
theorem dX7_takeWhole_46 : decode cX7_takeWhole 46 = .ok (.istore_n 3, 1) := by decide +kernel
theorem dX7_takeWhole_47 : decode cX7_takeWhole 47 = .ok (.iinc 4 1, 3) := by decide +kernel
theorem dX7_takeWhole_5 : decode cX7_takeWhole 5 = .ok (.if_icmp .eq 9, 3) := by decide +kernel
theorem dX7_takeWhole_50 : decode cX7_takeWhole 50 = .ok (.goto (-28), 3) := by decide +kernel
theorem dX7_takeWhole_53 : decode cX7_takeWhole 53 = .ok (.iload_n 3, 1) := by decide +kernel
theorem dX7_takeWhole_54 : decode cX7_takeWhole 54 = .ok (.iload_n 1, 1) := by decide +kernel
theorem dX7_takeWhole_55 : decode cX7_takeWhole 55 = .ok (.iload_n 2, 1) := by decide +kernel
theorem dX7_takeWhole_56 : decode cX7_takeWhole 56 = .ok (.invokestatic 204, 3) := by decide +kernel
theorem dX7_takeWhole_59 : decode cX7_takeWhole 59 = .ok (.ifCond .ne 9, 3) := by decide +kernel
theorem dX7_takeWhole_62 : decode cX7_takeWhole 62 = .ok (.aload_n 0, 1) := by decide +kernel
theorem dX7_takeWhole_63 : decode cX7_takeWhole 63 = .ok (.iconst 4, 1) := by decide +kernel
theorem dX7_takeWhole_64 : decode cX7_takeWhole 64 = .ok (.invokevirtual 72, 3) := by decide +kernel
theorem dX7_takeWhole_67 : decode cX7_takeWhole 67 = .ok (.ireturn, 1) := by decide +kernel
theorem dX7_takeWhole_68 : decode cX7_takeWhole 68 = .ok (.aload_n 0, 1) := by decide +kernel
theorem dX7_takeWhole_69 : decode cX7_takeWhole 69 = .ok (.iload_n 3, 1) := by decide +kernel
theorem dX7_takeWhole_70 : decode cX7_takeWhole 70 = .ok (.putfield 31, 3) := by decide +kernel
theorem dX7_takeWhole_73 : decode cX7_takeWhole 73 = .ok (.aload_n 0, 1) := by decide +kernel
theorem dX7_takeWhole_74 : decode cX7_takeWhole 74 = .ok (.invokevirtual 62, 3) := by decide +kernel
theorem dX7_takeWhole_77 : decode cX7_takeWhole 77 = .ok (.iconst 1, 1) := by decide +kernel
theorem dX7_takeWhole_78 : decode cX7_takeWhole 78 = .ok (.ireturn, 1) := by decide +kernel
theorem dX7_takeWhole_8 : decode cX7_takeWhole 8 = .ok (.aload_n 0, 1) := by decide +kernel
theorem dX7_takeWhole_9 : decode cX7_takeWhole 9 = .ok (.iconst 1, 1) := by decide +kernel
def vX7_takeWhole : List Cond := .code yX7_takeWhole cX7_takeWhole 5 (some .boolean) :: ([.fieldLink RX7 22 "HookPier$Reader" "token" "I", .fieldLink RX7 25 "HookPier$Reader" "start" "I", .fieldLink RX7 28 "HookPier$Reader" "behind" "I", .code yX10_within cX10_within 3 (some .boolean), .initialized RX10, .static yX10_within, .fieldLink RX7 31 "HookPier$Reader" "value" "I", .methodLink RX7 62 yX7_advance, .instanceMethod yX7_advance, .selects RX7 yX7_advance yX7_advance, .initialized RX7, .code yX7_advance cX7_advance 1 none, .fieldLink RX7 19 "HookPier$Reader" "end" "I", .methodLink RX7 245 yX7_isLetter, .instanceMethod yX7_isLetter, .selects RX7 yX7_isLetter yX7_isLetter, .code yX7_isLetter cX7_isLetter 2 (some .boolean), .fieldLink RX7 9 "HookPier$Reader" "text" "[B", .methodLink RX7 248 yX7_isDigit, .instanceMethod yX7_isDigit, .selects RX7 yX7_isDigit yX7_isDigit, .code yX7_isDigit cX7_isDigit 2 (some .boolean), .methodLink RX7 72 yX7_fail, .instanceMethod yX7_fail, .selects RX7 yX7_fail yX7_fail, .code yX7_fail cX7_fail 2 (some .boolean), .fieldLink RX7 45 "HookPier$Reader" "fault" "I", .fieldLink RX7 48 "HookPier$Reader" "place" "I"] ++ wsX70)
theorem iX7_takeWhole_X7 : ∀ w ∈ wsX70, w ∈ vX7_takeWhole := fun _ h => List.mem_cons_of_mem _ (List.mem_append_right _ h)
set_option maxRecDepth 20000 in
theorem gX7_takeWhole_0 : GoodIn vX7_takeWhole vX10_within := (goodIn_r (.code yX10_within cX10_within 3 (some .boolean) :: []) [4] (by decide +kernel) (by decide +kernel) : GoodIn vX7_takeWhole (.code yX10_within cX10_within 3 (some .boolean) :: []))
set_option maxRecDepth 20000 in
theorem gX7_takeWhole_1 : GoodIn vX7_takeWhole (wsV RX7 62 RX7 yX7_advance vX7_advance) := goodIn_app (goodIn_r [.methodLink RX7 62 yX7_advance, .instanceMethod yX7_advance, .selects RX7 yX7_advance yX7_advance, .initialized RX7] [8, 9, 10, 11] (by decide +kernel) (by decide +kernel)) (goodIn_ca (goodIn_r (.code yX7_advance cX7_advance 1 none :: [.fieldLink RX7 28 "HookPier$Reader" "behind" "I", .fieldLink RX7 25 "HookPier$Reader" "start" "I", .fieldLink RX7 19 "HookPier$Reader" "end" "I", .methodLink RX7 245 yX7_isLetter, .instanceMethod yX7_isLetter, .selects RX7 yX7_isLetter yX7_isLetter, .initialized RX7, .code yX7_isLetter cX7_isLetter 2 (some .boolean), .fieldLink RX7 9 "HookPier$Reader" "text" "[B", .methodLink RX7 248 yX7_isDigit, .instanceMethod yX7_isDigit, .selects RX7 yX7_isDigit yX7_isDigit, .code yX7_isDigit cX7_isDigit 2 (some .boolean), .fieldLink RX7 22 "HookPier$Reader" "token" "I"]) [12, 3, 2, 13, 14, 15, 16, 11, 17, 18, 19, 20, 21, 22, 1] (by decide +kernel) (by decide +kernel) : GoodIn vX7_takeWhole (.code yX7_advance cX7_advance 1 none :: [.fieldLink RX7 28 "HookPier$Reader" "behind" "I", .fieldLink RX7 25 "HookPier$Reader" "start" "I", .fieldLink RX7 19 "HookPier$Reader" "end" "I", .methodLink RX7 245 yX7_isLetter, .instanceMethod yX7_isLetter, .selects RX7 yX7_isLetter yX7_isLetter, .initialized RX7, .code yX7_isLetter cX7_isLetter 2 (some .boolean), .fieldLink RX7 9 "HookPier$Reader" "text" "[B", .methodLink RX7 248 yX7_isDigit, .instanceMethod yX7_isDigit, .selects RX7 yX7_isDigit yX7_isDigit, .code yX7_isDigit cX7_isDigit 2 (some .boolean), .fieldLink RX7 22 "HookPier$Reader" "token" "I"])) (goodIn_sub iX7_takeWhole_X7 (by decide +kernel)))
set_option maxRecDepth 20000 in
theorem gX7_takeWhole_2 : GoodIn vX7_takeWhole (wsV RX7 72 RX7 yX7_fail vX7_fail) := goodIn_app (goodIn_r [.methodLink RX7 72 yX7_fail, .instanceMethod yX7_fail, .selects RX7 yX7_fail yX7_fail, .initialized RX7] [23, 24, 25, 11] (by decide +kernel) (by decide +kernel)) (goodIn_ca (goodIn_r (.code yX7_fail cX7_fail 2 (some .boolean) :: [.fieldLink RX7 45 "HookPier$Reader" "fault" "I", .fieldLink RX7 25 "HookPier$Reader" "start" "I", .fieldLink RX7 48 "HookPier$Reader" "place" "I"]) [26, 27, 2, 28] (by decide +kernel) (by decide +kernel) : GoodIn vX7_takeWhole (.code yX7_fail cX7_fail 2 (some .boolean) :: [.fieldLink RX7 45 "HookPier$Reader" "fault" "I", .fieldLink RX7 25 "HookPier$Reader" "start" "I", .fieldLink RX7 48 "HookPier$Reader" "place" "I"])) (goodIn_sub iX7_takeWhole_X7 (by decide +kernel)))
set_option maxHeartbeats 2000000 in
set_option maxRecDepth 100000 in
theorem kX7_takeWhole (l : Launch) (dC : Nat → ClassId) (dI : Nat → Nat → Nat) (a0 : Nat) (k1 : Int32) (k2 : Int32) (a3 : Nat) (g4 : Value) (k5 : Int32) (k6 : Int32) (k7 : Int32) (k8 : Int32) (k9 : Int32) (g10 : Value) (g11 : Value) (g12 : Value) (k13 : Int32) (k14 : Int32) (cB15 : ClassId) (f16 : Nat → Int32) (hk5 : (0 ≤ k5.toInt ∧ k5.toInt ≤ 900)) (hk6 : (0 ≤ k6.toInt ∧ k6.toInt ≤ 4)) (hk7 : (0 ≤ k7.toInt ∧ k7.toInt ≤ 900)) (hk8 : (0 ≤ k8.toInt ∧ k8.toInt ≤ 900)) (sz : Nat) : Met l yX7_takeWhole vX7_takeWhole ({ frames := 2, cells := 0, slots := 0, locals := 41 }) (PC (dC, dI) [.ref a0, .int k1, .int k2] sz [(a0, .inr (5, [.ref a3, g4, .int k5, .int k6, .int k7, .int k8, .int k9, g10, g11, g12, .int k13, .int k14])), (a3, .inl (cB15, 900, .inl f16))] [(cB15, .byte)]) (va_Qi (S := Int32 × Int32 × Int32 × Int32 × Int32 × Int32) (fun (r : Int32) u => (0 ≤ r.toInt ∧ r.toInt ≤ 1) ∧ (0 ≤ (u.1).toInt ∧ (u.1).toInt ≤ 4) ∧ (0 ≤ (u.2.1).toInt ∧ (u.2.1).toInt ≤ 900) ∧ (0 ≤ (u.2.2.1).toInt ∧ (u.2.2.1).toInt ≤ 900)) (fun u t => BC (dC, dI) (va_A [(a0, .inr (5, [.ref a3, g4, .int k5, .int k6, .int k7, .int k8, .int k9, g10, g11, g12, .int k13, .int k14])), (a3, .inl (cB15, 900, .inl f16))] sz) [(a0, .inr (5, [.ref a3, g4, .int k5, .int (u.1), .int (u.2.1), .int (u.2.2.1), .int (u.2.2.2.1), g10, g11, g12, .int (u.2.2.2.2.1), .int (u.2.2.2.2.2)])), (a3, .inl (cB15, 900, .inl f16))] [] t) (va_A [(a0, .inr (5, [.ref a3, g4, .int k5, .int k6, .int k7, .int k8, .int k9, g10, g11, g12, .int k13, .int k14])), (a3, .inl (cB15, 900, .inl f16))] sz)) 0 0 (va_A [(a0, .inr (5, [.ref a3, g4, .int k5, .int k6, .int k7, .int k8, .int k9, g10, g11, g12, .int k13, .int k14])), (a3, .inl (cB15, 900, .inl f16))] sz) := by
  refine Met.ofW (cc := cX7_takeWhole) (maxL := 5) (ret := (some .boolean)) (by decide) rfl ?_
  intro p e s m args below meth c s₁ B hml hv
  obtain ⟨rfl, hsz, hP, hK, hD0, hN⟩ := hv
  have hx := B.exec
  have hb := B.bytes
  have hr := B.returns
  have hts := atoms_spec (ws := vX7_takeWhole) B.pre
  have hown : s.vm.findClass RX7 = some m.cls := findClass_of_methodNamed B.named
  have hlocks := B.notSynchronized
  subst hsz
  have hD := hD0.self (sz := s.heap.size)
  generalize hAe : va_A [(a0, .inr (5, [.ref a3, g4, .int k5, .int k6, .int k7, .int k8, .int k9, g10, g11, g12, .int k13, .int k14])), (a3, .inl (cB15, 900, .inl f16))] s.heap.size = A at hD ⊢
  have hA : ∀ q : Nat, s.heap.size ≤ q → A q := fun q h => by rw [← hAe]; exact Or.inr h
  have hS : va_S A s.heap s.heap [] := va_S.rf
  have hP : va_P (dC, dI) vwCl [(a0, .inr (5, [.ref a3, g4, .int k5, .int k6, .int k7, .int k8, .int k9, g10, g11, g12, .int k13, .int k14])), (a3, .inl (cB15, 900, .inl f16))] s.heap := hP
  have hl := lv_entry ([.ref a0, .int k1, .int k2]) (n := 5) (Nat.le_of_ble_eq_true rfl)
  rw [lg_entry_eq]
  generalize (lg_sl ([.ref a0, .int k1, .int k2]) ++ List.replicate (5 - (lg_sl ([.ref a0, .int k1, .int k2])).length) Slot.unset).toArray = ls at hl ⊢
  have hl : lv_has ls 5 [(0, .ref a0), (1, .int k1), (2, .int k2)] := hl
  refine lv_aload_n hx hb dX7_takeWhole_0 rfl (lv_at hl 0 rfl) ?_
  refine va_get (D := (dC, dI)) (ci := 5) (v := .int k6) (C := RX7) (T := TX7) (N := 12) hx hb hts iX7_takeWhole_X7 hown hK hP 0 rfl rfl 3 (by decide) (hts (.fieldLink RX7 22 "HookPier$Reader" "token" "I") (List.mem_of_getElem? (i := 1) rfl)) (fun _ h9 => h9) rfl dX7_takeWhole_1 ?_
  refine lv_iconst (v := 2) hx hb dX7_takeWhole_4 (by decide) ?_
  refine lv_icmp_eq (tgt := 14) hx hb dX7_takeWhole_5 (by decide) (fun c1 => ?_) (fun c1 => ?_)
  · simp only [fa_lt, fa_le, fa_eq, ltv_0, ltv_2] at c1
    refine lv_iconst (v := 0) hx hb dX7_takeWhole_14 (by decide) ?_
    refine lv_istore_n (lv' := [(3, .int 0), (0, .ref a0), (1, .int k1), (2, .int k2)]) hx hb dX7_takeWhole_15 rfl hl (by decide) rfl (fun ls hl => ?_)
    refine lv_aload_n hx hb dX7_takeWhole_16 rfl (lv_at hl 1 rfl) ?_
    refine va_get (D := (dC, dI)) (ci := 5) (v := .int k7) (C := RX7) (T := TX7) (N := 12) hx hb hts iX7_takeWhole_X7 hown hK hP 0 rfl rfl 4 (by decide) (hts (.fieldLink RX7 25 "HookPier$Reader" "start" "I") (List.mem_of_getElem? (i := 2) rfl)) (fun _ h9 => h9) rfl dX7_takeWhole_17 ?_
    refine lv_istore (lv' := [(4, .int k7), (3, .int 0), (0, .ref a0), (1, .int k1), (2, .int k2)]) hx hb dX7_takeWhole_20 hl (by decide) rfl (fun ls hl => ?_)
    have L22_32 : ∀ (n : Nat) (z30 : Int32) (z31 : Int32) (H : Heap) (locs : List Loc) (ls : Array Slot), (0 ≤ z30.toInt ∧ z30.toInt ≤ 900) → 900 - z30.toInt < (n : Int) → va_P (dC, dI) vwCl [(a0, .inr (5, [.ref a3, g4, .int k5, .int k6, .int k7, .int k8, .int k9, g10, g11, g12, .int k13, .int k14])), (a3, .inl (cB15, 900, .inl f16))] H → va_D A [(a0, .inr (5, [.ref a3, g4, .int k5, .int k6, .int k7, .int k8, .int k9, g10, g11, g12, .int k13, .int k14])), (a3, .inl (cB15, 900, .inl f16))] → va_S A s.heap H locs → lv_has ls 5 [(4, .int z30), (3, .int z31), (0, .ref a0), (1, .int k1), (2, .int k2)] → W p l e (headSpec vX7_takeWhole { frames := 2, cells := 0, slots := 0, locals := 41 }).room s m ([.ref a0, .int k1, .int k2]).toArray below meth c H locs 0 0 (MQ below (va_Qi (S := Int32 × Int32 × Int32 × Int32 × Int32 × Int32) (fun (r : Int32) u => (0 ≤ r.toInt ∧ r.toInt ≤ 1) ∧ (0 ≤ (u.1).toInt ∧ (u.1).toInt ≤ 4) ∧ (0 ≤ (u.2.1).toInt ∧ (u.2.1).toInt ≤ 900) ∧ (0 ≤ (u.2.2.1).toInt ∧ (u.2.2.1).toInt ≤ 900)) (fun u t => BC (dC, dI) A [(a0, .inr (5, [.ref a3, g4, .int k5, .int (u.1), .int (u.2.1), .int (u.2.2.1), .int (u.2.2.2.1), g10, g11, g12, .int (u.2.2.2.2.1), .int (u.2.2.2.2.2)])), (a3, .inl (cB15, 900, .inl f16))] [] t) A) ([.ref a0, .int k1, .int k2]).toArray s 0 0 A) (F0 m 22 ls []) := by
      intro n
      induction n with
      | zero =>
        intro z30 z31 H locs ls b22_0 hm _ _ _ _
        exact absurd hm (by omega)
      | succ n ih22 =>
        intro z30 z31 H locs ls b22_0 hm22 hP hD hS hl
        refine lv_iload hx hb dX7_takeWhole_22 (lv_at hl 0 rfl) ?_
        refine lv_aload_n hx hb dX7_takeWhole_24 rfl (lv_at hl 2 rfl) ?_
        refine va_get (D := (dC, dI)) (ci := 5) (v := .int k8) (C := RX7) (T := TX7) (N := 12) hx hb hts iX7_takeWhole_X7 hown hK hP 0 rfl rfl 5 (by decide) (hts (.fieldLink RX7 28 "HookPier$Reader" "behind" "I") (List.mem_of_getElem? (i := 3) rfl)) (fun _ h9 => h9) rfl dX7_takeWhole_25 ?_
        refine lv_icmp_ge (tgt := 53) hx hb dX7_takeWhole_28 (by decide) (fun c33 => ?_) (fun c33 => ?_)
        · simp only [fa_lt, fa_le, fa_eq, ltv_0] at c33
          refine lv_iload_n hx hb dX7_takeWhole_53 rfl (lv_at hl 1 rfl) ?_
          refine lv_iload_n hx hb dX7_takeWhole_54 rfl (lv_at hl 3 rfl) ?_
          refine lv_iload_n hx hb dX7_takeWhole_55 rfl (lv_at hl 4 rfl) ?_
          refine cl_i (wc := []) (wr := [(a0, .inr (5, [.ref a3, g4, .int k5, .int k6, .int k7, .int k8, .int k9, g10, g11, g12, .int k13, .int k14])), (a3, .inl (cB15, 900, .inl f16))]) (va_runSN (As := [.int z31, .int k1, .int k2]) (rest := []) ⟨hx, hb, hml, hown, hts⟩ (kX10_within l dC dI z31 k1 k2  H.size) ⟨va_cnB 3 hts gX7_takeWhole_0 rfl rfl rfl (hN.1 (.methodLinkNest RX7 204 yX10_within "HookPier") (List.mem_of_getElem? (i := 8) rfl)) (hts (.initialized RX10) (List.mem_of_getElem? (i := 5) rfl)) (by decide +kernel) ⟨Nat.le_of_ble_eq_true rfl, Nat.le_of_ble_eq_true rfl⟩, (hts (.static yX10_within) (List.mem_of_getElem? (i := 6) rfl)), trivial⟩ (PS (hP.sub (ws' := []) [] rfl) (hK.sub (tys' := []) [] rfl) (hD.sub (ws' := []) [] (by decide) rfl) hN) rfl rfl hl.1 rfl (lv_room (Nat.le_of_ble_eq_true rfl)) dX7_takeWhole_56 ⟨Nat.le_of_ble_eq_true rfl, Nat.le_of_ble_eq_true rfl⟩) hP hD hK hS hA [] [0, 1] rfl rfl (by decide) (by decide) (fun z34 _u H locs hw hP hD hK hS => ?_)
          have b35 := hw
          have hP : va_P (dC, dI) vwCl [(a0, .inr (5, [.ref a3, g4, .int k5, .int k6, .int k7, .int k8, .int k9, g10, g11, g12, .int k13, .int k14])), (a3, .inl (cB15, 900, .inl f16))] H := hP
          have hD : va_D A [(a0, .inr (5, [.ref a3, g4, .int k5, .int k6, .int k7, .int k8, .int k9, g10, g11, g12, .int k13, .int k14])), (a3, .inl (cB15, 900, .inl f16))] := hD
          have hK : va_K (dC, dI) vwCl [(cB15, .byte)] s := hK
          refine lv_if_ne (tgt := 68) hx hb dX7_takeWhole_59 (by decide) (fun c36 => ?_) (fun c36 => ?_)
          · simp only [fa_lt, fa_le, fa_eq, ltv_0] at c36
            refine lv_aload_n hx hb dX7_takeWhole_68 rfl (lv_at hl 2 rfl) ?_
            refine lv_iload_n hx hb dX7_takeWhole_69 rfl (lv_at hl 1 rfl) ?_
            refine va_put (D := (dC, dI)) (ci := 5) (v := .int z31) (ty := .int) (C := RX7) (T := TX7) (N := 12) hx hb hts iX7_takeWhole_X7 tyX7 tyX7_ok nmX7 hown hK hP hD hS 0 rfl rfl 6 (by decide) (hts (.fieldLink RX7 31 "HookPier$Reader" "value" "I") (List.mem_of_getElem? (i := 7) rfl)) (fun _ h9 => h9) rfl (by decide +kernel) rfl rfl (Nat.le_of_ble_eq_true rfl) dX7_takeWhole_70 (fun H locs hP hD hS => ?_)
            have hP : va_P (dC, dI) vwCl [(a0, .inr (5, [.ref a3, g4, .int k5, .int k6, .int k7, .int k8, .int z31, g10, g11, g12, .int k13, .int k14])), (a3, .inl (cB15, 900, .inl f16))] H := hP
            have hD : va_D A [(a0, .inr (5, [.ref a3, g4, .int k5, .int k6, .int k7, .int k8, .int z31, g10, g11, g12, .int k13, .int k14])), (a3, .inl (cB15, 900, .inl f16))] := hD
            refine lv_aload_n hx hb dX7_takeWhole_73 rfl (lv_at hl 2 rfl) ?_
            refine cl_v (wc := [(a0, .inr (5, [.ref a3, g4, .int k5, .int k6, .int k7, .int k8, .int z31, g10, g11, g12, .int k13, .int k14])), (a3, .inl (cB15, 900, .inl f16))]) (wr := []) (va_runV (As := []) (rest := []) ⟨hx, hb, hml, hown, hts⟩ (kX7_advance l dC dI a0 a3 (g4) k5 k6 k7 k8 (.int z31) (g10) (g11) (g12) (.int k13) (.int k14) cB15 f16 (by first | omega | (simp only [ltv_0]; omega)) (by first | omega | (simp only [ltv_0]; omega)) (by first | omega | (simp only [ltv_0]; omega)) (by first | omega | (simp only [ltv_0]; omega)) H.size) (cwV 0 hts gX7_takeWhole_1 rfl rfl rfl (by decide +kernel) ⟨Nat.le_of_ble_eq_true rfl, Nat.le_of_ble_eq_true rfl⟩) (PV (hP.sub (ws' := [(a0, .inr (5, [.ref a3, g4, .int k5, .int k6, .int k7, .int k8, .int z31, g10, g11, g12, .int k13, .int k14])), (a3, .inl (cB15, 900, .inl f16))]) [0, 1] rfl) (hK.sub (tys' := [(cB15, .byte)]) [0] rfl) (hD.sub (ws' := [(a0, .inr (5, [.ref a3, g4, .int k5, .int k6, .int k7, .int k8, .int z31, g10, g11, g12, .int k13, .int k14])), (a3, .inl (cB15, 900, .inl f16))]) [0, 1] (by decide) rfl) hN 0 rfl rfl) rfl rfl hl.1 rfl (lv_room (Nat.le_of_ble_eq_true rfl)) dX7_takeWhole_74 ⟨Nat.le_of_ble_eq_true rfl, Nat.le_of_ble_eq_true rfl⟩) hP hD hK hS hA [0, 1] [] rfl rfl (by decide) (by decide) (fun u H locs hw hP hD hK hS => ?_)
            obtain ⟨z37, z38, z39⟩ := u
            have b40 := hw
            try dsimp only at b40
            have hP : va_P (dC, dI) vwCl [(a0, .inr (5, [.ref a3, g4, .int k5, .int z37, .int z38, .int z39, .int z31, g10, g11, g12, .int k13, .int k14])), (a3, .inl (cB15, 900, .inl f16))] H := hP
            have hD : va_D A [(a0, .inr (5, [.ref a3, g4, .int k5, .int z37, .int z38, .int z39, .int z31, g10, g11, g12, .int k13, .int k14])), (a3, .inl (cB15, 900, .inl f16))] := hD
            have hK : va_K (dC, dI) vwCl [(cB15, .byte)] s := hK
            refine lv_iconst (v := 1) hx hb dX7_takeWhole_77 (by decide) ?_
            have hP9 := hP.sub (ws' := [(a0, .inr (5, [.ref a3, g4, .int k5, .int z37, .int z38, .int z39, .int z31, g10, g11, g12, .int k13, .int k14])), (a3, .inl (cB15, 900, .inl f16))]) [0, 1] rfl
            have hD9 := hD.sub (ws' := [(a0, .inr (5, [.ref a3, g4, .int k5, .int z37, .int z38, .int z39, .int z31, g10, g11, g12, .int k13, .int k14])), (a3, .inl (cB15, 900, .inl f16))]) [0, 1] (by decide) rfl
            have hK9 := hK.sub (tys' := []) [] rfl
            exact W.zret (v := 1) hx hb hr rfl (fun t ht hW => ⟨⟨1, (z37, z38, z39, z31, k13, k14), rfl, ⟨(by first | trivial | omega | (simp only [ltv_0, ltv_1]; omega)), (by first | trivial | omega | (simp only [ltv_0, ltv_1]; omega)), (by first | trivial | omega | (simp only [ltv_0, ltv_1]; omega)), (by first | trivial | omega | (simp only [ltv_0, ltv_1]; omega))⟩, by rw [ht]; exact hP9, va_K.moved hW.alike hK9, hD9⟩, hS.F ht⟩) hS.2.2 dX7_takeWhole_78
          · simp only [fa_lt, fa_le, fa_eq, ltv_0] at c36
            refine lv_aload_n hx hb dX7_takeWhole_62 rfl (lv_at hl 2 rfl) ?_
            refine lv_iconst (v := 4) hx hb dX7_takeWhole_63 (by decide) ?_
            refine cl_i (wc := [(a0, .inr (5, [.ref a3, g4, .int k5, .int k6, .int k7, .int k8, .int k9, g10, g11, g12, .int k13, .int k14]))]) (wr := [(a3, .inl (cB15, 900, .inl f16))]) (va_runV (As := [.int 4]) (rest := []) ⟨hx, hb, hml, hown, hts⟩ (kX7_fail l dC dI a0 4 (.ref a3) (g4) (.int k5) (.int k6) k7 (.int k8) (.int k9) (g10) (g11) (g12) k13 k14 (by first | omega | (simp only [ltv_0, ltv_4]; omega)) H.size) (cwV 1 hts gX7_takeWhole_2 rfl rfl rfl (by decide +kernel) ⟨Nat.le_of_ble_eq_true rfl, Nat.le_of_ble_eq_true rfl⟩) (PV (hP.sub (ws' := [(a0, .inr (5, [.ref a3, g4, .int k5, .int k6, .int k7, .int k8, .int k9, g10, g11, g12, .int k13, .int k14]))]) [0] rfl) (hK.sub (tys' := []) [] rfl) (hD.sub (ws' := [(a0, .inr (5, [.ref a3, g4, .int k5, .int k6, .int k7, .int k8, .int k9, g10, g11, g12, .int k13, .int k14]))]) [0] (by decide) rfl) hN 0 rfl rfl) rfl rfl hl.1 rfl (lv_room (Nat.le_of_ble_eq_true rfl)) dX7_takeWhole_64 ⟨Nat.le_of_ble_eq_true rfl, Nat.le_of_ble_eq_true rfl⟩) hP hD hK hS hA [0] [1] rfl rfl (by decide) (by decide) (fun z43 u H locs hw hP hD hK hS => ?_)
            obtain ⟨z41, z42⟩ := u
            have b44 := hw
            try dsimp only at b44
            have hP : va_P (dC, dI) vwCl [(a3, .inl (cB15, 900, .inl f16)), (a0, .inr (5, [.ref a3, g4, .int k5, .int k6, .int k7, .int k8, .int k9, g10, g11, g12, .int z41, .int z42]))] H := hP
            have hD : va_D A [(a3, .inl (cB15, 900, .inl f16)), (a0, .inr (5, [.ref a3, g4, .int k5, .int k6, .int k7, .int k8, .int k9, g10, g11, g12, .int z41, .int z42]))] := hD
            have hK : va_K (dC, dI) vwCl [(cB15, .byte)] s := hK
            obtain rfl : z43 = 0 := hw.1
            have hP9 := hP.sub (ws' := [(a0, .inr (5, [.ref a3, g4, .int k5, .int k6, .int k7, .int k8, .int k9, g10, g11, g12, .int z41, .int z42])), (a3, .inl (cB15, 900, .inl f16))]) [1, 0] rfl
            have hD9 := hD.sub (ws' := [(a0, .inr (5, [.ref a3, g4, .int k5, .int k6, .int k7, .int k8, .int k9, g10, g11, g12, .int z41, .int z42])), (a3, .inl (cB15, 900, .inl f16))]) [1, 0] (by decide) rfl
            have hK9 := hK.sub (tys' := []) [] rfl
            exact W.zret (v := 0) hx hb hr rfl (fun t ht hW => ⟨⟨0, (k6, k7, k8, k9, z41, z42), rfl, ⟨(by first | trivial | omega | (simp only [ltv_0]; omega)), (by first | trivial | omega | (simp only [ltv_0]; omega)), (by first | trivial | omega | (simp only [ltv_0]; omega)), (by first | trivial | omega | (simp only [ltv_0]; omega))⟩, by rw [ht]; exact hP9, va_K.moved hW.alike hK9, hD9⟩, hS.F ht⟩) hS.2.2 dX7_takeWhole_67
        · simp only [fa_lt, fa_le, fa_eq, ltv_0] at c33
          refine lv_bipush (v := 10) hx hb dX7_takeWhole_31 (by decide) ?_
          refine lv_iload_n hx hb dX7_takeWhole_33 rfl (lv_at hl 1 rfl) ?_
          refine lv_imul hx hb dX7_takeWhole_34 ?_
          refine lv_topi (fun z45 ez45 => ?_)
          clear ez45
          refine lv_aload_n hx hb dX7_takeWhole_35 rfl (lv_at hl 2 rfl) ?_
          refine va_get (D := (dC, dI)) (ci := 5) (v := .ref a3) (C := RX7) (T := TX7) (N := 12) hx hb hts iX7_takeWhole_X7 hown hK hP 0 rfl rfl 0 (by decide) (hts (.fieldLink RX7 9 "HookPier$Reader" "text" "[B") (List.mem_of_getElem? (i := 18) rfl)) (fun _ h9 => h9) rfl dX7_takeWhole_36 ?_
          refine lv_iload hx hb dX7_takeWhole_39 (lv_at hl 0 rfl) ?_
          refine va_bald hx hb hK hP 1 0 rfl rfl (vp_in_iff.mpr (by omega)) dX7_takeWhole_41 ?_
          refine lv_topi (fun z46 ez46 => ?_)
          clear ez46
          refine lv_iadd hx hb dX7_takeWhole_42 ?_
          refine lv_topi (fun z47 ez47 => ?_)
          clear ez47
          refine lv_bipush (v := 48) hx hb dX7_takeWhole_43 (by decide) ?_
          refine lv_isub hx hb dX7_takeWhole_45 ?_
          refine lv_topi (fun z48 ez48 => ?_)
          clear ez48
          refine lv_istore_n (lv' := [(3, .int z48), (4, .int z30), (0, .ref a0), (1, .int k1), (2, .int k2)]) hx hb dX7_takeWhole_46 rfl hl (by decide) rfl (fun ls hl => ?_)
          obtain ⟨z49, ez49⟩ : ∃ y : Int32, y = z30 + 1 := ⟨_, rfl⟩
          have tz49 : z49.toInt = z30.toInt + 1 := by rw [ez49, iadd_t (by simp only [ltv_1]; omega) (by simp only [ltv_1]; omega)]; simp only [ltv_1]
          refine lv_iinc (v := z49) (lv' := [(4, .int z49), (3, .int z48), (0, .ref a0), (1, .int k1), (2, .int k2)]) hx hb dX7_takeWhole_47 hl (k := 1) rfl (by rw [ez49]; rfl) (by decide) rfl (fun ls hl => ?_)
          refine lv_goto (tgt := 22) hx hb dX7_takeWhole_50 (by decide) ?_
          exact ih22 z49 z48 H locs ls (by first | omega | (simp only [ltv_0]; omega)) (by first | omega | (simp only [ltv_0]; omega)) hP hD hS (lv_sub hl [0, 1, 2, 3, 4] rfl)
    exact L22_32 901 k7 (0) s.heap _ ls (by first | omega | (simp only [ltv_0]; omega)) (by first | omega | (simp only [ltv_0]; omega)) hP hD hS (lv_sub hl [0, 1, 2, 3, 4] rfl)
  · simp only [fa_lt, fa_le, fa_eq, ltv_0, ltv_2] at c1
    refine lv_aload_n hx hb dX7_takeWhole_8 rfl (lv_at hl 0 rfl) ?_
    refine lv_iconst (v := 1) hx hb dX7_takeWhole_9 (by decide) ?_
    refine cl_i (wc := [(a0, .inr (5, [.ref a3, g4, .int k5, .int k6, .int k7, .int k8, .int k9, g10, g11, g12, .int k13, .int k14]))]) (wr := [(a3, .inl (cB15, 900, .inl f16))]) (va_runV (As := [.int 1]) (rest := []) ⟨hx, hb, hml, hown, hts⟩ (kX7_fail l dC dI a0 1 (.ref a3) (g4) (.int k5) (.int k6) k7 (.int k8) (.int k9) (g10) (g11) (g12) k13 k14 (by first | omega | (simp only [ltv_0, ltv_1]; omega)) s.heap.size) (cwV 1 hts gX7_takeWhole_2 rfl rfl rfl (by decide +kernel) ⟨Nat.le_of_ble_eq_true rfl, Nat.le_of_ble_eq_true rfl⟩) (PV (hP.sub (ws' := [(a0, .inr (5, [.ref a3, g4, .int k5, .int k6, .int k7, .int k8, .int k9, g10, g11, g12, .int k13, .int k14]))]) [0] rfl) (hK.sub (tys' := []) [] rfl) (hD.sub (ws' := [(a0, .inr (5, [.ref a3, g4, .int k5, .int k6, .int k7, .int k8, .int k9, g10, g11, g12, .int k13, .int k14]))]) [0] (by decide) rfl) hN 0 rfl rfl) rfl rfl hl.1 rfl (lv_room (Nat.le_of_ble_eq_true rfl)) dX7_takeWhole_10 ⟨Nat.le_of_ble_eq_true rfl, Nat.le_of_ble_eq_true rfl⟩) hP hD hK hS hA [0] [1] rfl rfl (by decide) (by decide) (fun z52 u H locs hw hP hD hK hS => ?_)
    obtain ⟨z50, z51⟩ := u
    have b53 := hw
    try dsimp only at b53
    have hP : va_P (dC, dI) vwCl [(a3, .inl (cB15, 900, .inl f16)), (a0, .inr (5, [.ref a3, g4, .int k5, .int k6, .int k7, .int k8, .int k9, g10, g11, g12, .int z50, .int z51]))] H := hP
    have hD : va_D A [(a3, .inl (cB15, 900, .inl f16)), (a0, .inr (5, [.ref a3, g4, .int k5, .int k6, .int k7, .int k8, .int k9, g10, g11, g12, .int z50, .int z51]))] := hD
    have hK : va_K (dC, dI) vwCl [(cB15, .byte)] s := hK
    obtain rfl : z52 = 0 := hw.1
    have hP9 := hP.sub (ws' := [(a0, .inr (5, [.ref a3, g4, .int k5, .int k6, .int k7, .int k8, .int k9, g10, g11, g12, .int z50, .int z51])), (a3, .inl (cB15, 900, .inl f16))]) [1, 0] rfl
    have hD9 := hD.sub (ws' := [(a0, .inr (5, [.ref a3, g4, .int k5, .int k6, .int k7, .int k8, .int k9, g10, g11, g12, .int z50, .int z51])), (a3, .inl (cB15, 900, .inl f16))]) [1, 0] (by decide) rfl
    have hK9 := hK.sub (tys' := []) [] rfl
    exact W.zret (v := 0) hx hb hr rfl (fun t ht hW => ⟨⟨0, (k6, k7, k8, k9, z50, z51), rfl, ⟨(by first | trivial | omega | (simp only [ltv_0]; omega)), (by first | trivial | omega | (simp only [ltv_0]; omega)), (by first | trivial | omega | (simp only [ltv_0]; omega)), (by first | trivial | omega | (simp only [ltv_0]; omega))⟩, by rw [ht]; exact hP9, va_K.moved hW.alike hK9, hD9⟩, hS.F ht⟩) hS.2.2 dX7_takeWhole_13
theorem dX7_wordCode_0 : decode cX7_wordCode 0 = .ok (.lconst 0, 1) := by decide +kernel
theorem dX7_wordCode_1 : decode cX7_wordCode 1 = .ok (.lstore_n 1, 1) := by decide +kernel
theorem dX7_wordCode_12 : decode cX7_wordCode 12 = .ok (.if_icmp .ge 29, 3) := by decide +kernel
theorem dX7_wordCode_15 : decode cX7_wordCode 15 = .ok (.ldc2_w 241, 3) := by decide +kernel
theorem dX7_wordCode_18 : decode cX7_wordCode 18 = .ok (.lload_n 1, 1) := by decide +kernel
theorem dX7_wordCode_19 : decode cX7_wordCode 19 = .ok (.lmul, 1) := by decide +kernel
theorem dX7_wordCode_2 : decode cX7_wordCode 2 = .ok (.aload_n 0, 1) := by decide +kernel
theorem dX7_wordCode_20 : decode cX7_wordCode 20 = .ok (.aload_n 0, 1) := by decide +kernel
theorem dX7_wordCode_21 : decode cX7_wordCode 21 = .ok (.getfield 9, 3) := by decide +kernel
theorem dX7_wordCode_24 : decode cX7_wordCode 24 = .ok (.iload_n 3, 1) := by decide +kernel
theorem dX7_wordCode_25 : decode cX7_wordCode 25 = .ok (.baload, 1) := by decide +kernel
theorem dX7_wordCode_26 : decode cX7_wordCode 26 = .ok (.i2l, 1) := by decide +kernel
theorem dX7_wordCode_27 : decode cX7_wordCode 27 = .ok (.ladd, 1) := by decide +kernel
theorem dX7_wordCode_28 : decode cX7_wordCode 28 = .ok (.ldc2_w 243, 3) := by decide +kernel
theorem dX7_wordCode_3 : decode cX7_wordCode 3 = .ok (.getfield 25, 3) := by decide +kernel
theorem dX7_wordCode_31 : decode cX7_wordCode 31 = .ok (.lsub, 1) := by decide +kernel
theorem dX7_wordCode_32 : decode cX7_wordCode 32 = .ok (.lconst 1, 1) := by decide +kernel
theorem dX7_wordCode_33 : decode cX7_wordCode 33 = .ok (.ladd, 1) := by decide +kernel
theorem dX7_wordCode_34 : decode cX7_wordCode 34 = .ok (.lstore_n 1, 1) := by decide +kernel
theorem dX7_wordCode_35 : decode cX7_wordCode 35 = .ok (.iinc 3 1, 3) := by decide +kernel
theorem dX7_wordCode_38 : decode cX7_wordCode 38 = .ok (.goto (-31), 3) := by decide +kernel
theorem dX7_wordCode_41 : decode cX7_wordCode 41 = .ok (.lload_n 1, 1) := by decide +kernel
theorem dX7_wordCode_42 : decode cX7_wordCode 42 = .ok (.lreturn, 1) := by decide +kernel
theorem dX7_wordCode_6 : decode cX7_wordCode 6 = .ok (.istore_n 3, 1) := by decide +kernel
theorem dX7_wordCode_7 : decode cX7_wordCode 7 = .ok (.iload_n 3, 1) := by decide +kernel
theorem dX7_wordCode_8 : decode cX7_wordCode 8 = .ok (.aload_n 0, 1) := by decide +kernel
theorem dX7_wordCode_9 : decode cX7_wordCode 9 = .ok (.getfield 28, 3) := by decide +kernel
def vX7_wordCode : List Cond := .code yX7_wordCode cX7_wordCode 4 (some .long) :: ([.fieldLink RX7 25 "HookPier$Reader" "start" "I", .fieldLink RX7 28 "HookPier$Reader" "behind" "I", .constantLong RX7 241 (32), .fieldLink RX7 9 "HookPier$Reader" "text" "[B", .constantLong RX7 243 (97)] ++ wsX70)
theorem iX7_wordCode_X7 : ∀ w ∈ wsX70, w ∈ vX7_wordCode := fun _ h => List.mem_cons_of_mem _ (List.mem_append_right _ h)
set_option maxHeartbeats 2000000 in
set_option maxRecDepth 100000 in
theorem kX7_wordCode (l : Launch) (dC : Nat → ClassId) (dI : Nat → Nat → Nat) (a0 : Nat) (a1 : Nat) (g2 : Value) (g3 : Value) (g4 : Value) (k5 : Int32) (k6 : Int32) (g7 : Value) (g8 : Value) (g9 : Value) (g10 : Value) (g11 : Value) (g12 : Value) (cB13 : ClassId) (f14 : Nat → Int32) (hk5 : (0 ≤ k5.toInt ∧ k5.toInt ≤ 900)) (hk6 : (0 ≤ k6.toInt ∧ k6.toInt ≤ 900)) (sz : Nat) : Met l yX7_wordCode vX7_wordCode ({ frames := 0, cells := 0, slots := 0, locals := 0 }) (PC (dC, dI) [.ref a0] sz [(a0, .inr (5, [.ref a1, g2, g3, g4, .int k5, .int k6, g7, g8, g9, g10, g11, g12])), (a1, .inl (cB13, 900, .inl f14))] [(cB13, .byte)]) (va_Ql (S := Unit) (fun (r : Int64) _ => True) (fun _ t => BC (dC, dI) (va_A [(a0, .inr (5, [.ref a1, g2, g3, g4, .int k5, .int k6, g7, g8, g9, g10, g11, g12])), (a1, .inl (cB13, 900, .inl f14))] sz) [(a0, .inr (5, [.ref a1, g2, g3, g4, .int k5, .int k6, g7, g8, g9, g10, g11, g12])), (a1, .inl (cB13, 900, .inl f14))] [] t) (va_A [(a0, .inr (5, [.ref a1, g2, g3, g4, .int k5, .int k6, g7, g8, g9, g10, g11, g12])), (a1, .inl (cB13, 900, .inl f14))] sz)) 0 0 (va_A [(a0, .inr (5, [.ref a1, g2, g3, g4, .int k5, .int k6, g7, g8, g9, g10, g11, g12])), (a1, .inl (cB13, 900, .inl f14))] sz) := by
  refine Met.ofW (cc := cX7_wordCode) (maxL := 4) (ret := (some .long)) (by decide) rfl ?_
  intro p e s m args below meth c s₁ B hml hv
  obtain ⟨rfl, hsz, hP, hK, hD0, hN⟩ := hv
  have hx := B.exec
  have hb := B.bytes
  have hr := B.returns
  have hts := atoms_spec (ws := vX7_wordCode) B.pre
  have hown : s.vm.findClass RX7 = some m.cls := findClass_of_methodNamed B.named
  have hlocks := B.notSynchronized
  subst hsz
  have hD := hD0.self (sz := s.heap.size)
  generalize hAe : va_A [(a0, .inr (5, [.ref a1, g2, g3, g4, .int k5, .int k6, g7, g8, g9, g10, g11, g12])), (a1, .inl (cB13, 900, .inl f14))] s.heap.size = A at hD ⊢
  have hA : ∀ q : Nat, s.heap.size ≤ q → A q := fun q h => by rw [← hAe]; exact Or.inr h
  have hS : va_S A s.heap s.heap [] := va_S.rf
  have hP : va_P (dC, dI) vwCl [(a0, .inr (5, [.ref a1, g2, g3, g4, .int k5, .int k6, g7, g8, g9, g10, g11, g12])), (a1, .inl (cB13, 900, .inl f14))] s.heap := hP
  have hl := lv_entry ([.ref a0]) (n := 4) (Nat.le_of_ble_eq_true rfl)
  rw [lg_entry_eq]
  generalize (lg_sl ([.ref a0]) ++ List.replicate (4 - (lg_sl ([.ref a0])).length) Slot.unset).toArray = ls at hl ⊢
  have hl : lv_has ls 4 [(0, .ref a0)] := hl
  refine lv_lconst (v := 0) hx hb dX7_wordCode_0 (by decide) ?_
  refine lv_lstore_n (lv' := [(1, .long 0), (0, .ref a0)]) hx hb dX7_wordCode_1 rfl hl (by decide) rfl (fun ls hl => ?_)
  refine lv_aload_n hx hb dX7_wordCode_2 rfl (lv_at hl 1 rfl) ?_
  refine va_get (D := (dC, dI)) (ci := 5) (v := .int k5) (C := RX7) (T := TX7) (N := 12) hx hb hts iX7_wordCode_X7 hown hK hP 0 rfl rfl 4 (by decide) (hts (.fieldLink RX7 25 "HookPier$Reader" "start" "I") (List.mem_of_getElem? (i := 1) rfl)) (fun _ h9 => h9) rfl dX7_wordCode_3 ?_
  refine lv_istore_n (lv' := [(3, .int k5), (1, .long 0), (0, .ref a0)]) hx hb dX7_wordCode_6 rfl hl (by decide) rfl (fun ls hl => ?_)
  have L7_19 : ∀ (n : Nat) (z17 : Int32) (j18 : Int64) (H : Heap) (locs : List Loc) (ls : Array Slot), (0 ≤ z17.toInt ∧ z17.toInt ≤ 900) → 900 - z17.toInt < (n : Int) → va_P (dC, dI) vwCl [(a0, .inr (5, [.ref a1, g2, g3, g4, .int k5, .int k6, g7, g8, g9, g10, g11, g12])), (a1, .inl (cB13, 900, .inl f14))] H → va_D A [(a0, .inr (5, [.ref a1, g2, g3, g4, .int k5, .int k6, g7, g8, g9, g10, g11, g12])), (a1, .inl (cB13, 900, .inl f14))] → va_S A s.heap H locs → lv_has ls 4 [(3, .int z17), (1, .long j18), (0, .ref a0)] → W p l e (headSpec vX7_wordCode { frames := 0, cells := 0, slots := 0, locals := 0 }).room s m ([.ref a0]).toArray below meth c H locs 0 0 (MQ below (va_Ql (S := Unit) (fun (r : Int64) _ => True) (fun _ t => BC (dC, dI) A [(a0, .inr (5, [.ref a1, g2, g3, g4, .int k5, .int k6, g7, g8, g9, g10, g11, g12])), (a1, .inl (cB13, 900, .inl f14))] [] t) A) ([.ref a0]).toArray s 0 0 A) (F0 m 7 ls []) := by
    intro n
    induction n with
    | zero =>
      intro z17 j18 H locs ls b7_0 hm _ _ _ _
      exact absurd hm (by omega)
    | succ n ih7 =>
      intro z17 j18 H locs ls b7_0 hm7 hP hD hS hl
      refine lv_iload_n hx hb dX7_wordCode_7 rfl (lv_at hl 0 rfl) ?_
      refine lv_aload_n hx hb dX7_wordCode_8 rfl (lv_at hl 2 rfl) ?_
      refine va_get (D := (dC, dI)) (ci := 5) (v := .int k6) (C := RX7) (T := TX7) (N := 12) hx hb hts iX7_wordCode_X7 hown hK hP 0 rfl rfl 5 (by decide) (hts (.fieldLink RX7 28 "HookPier$Reader" "behind" "I") (List.mem_of_getElem? (i := 2) rfl)) (fun _ h9 => h9) rfl dX7_wordCode_9 ?_
      refine lv_icmp_ge (tgt := 41) hx hb dX7_wordCode_12 (by decide) (fun c20 => ?_) (fun c20 => ?_)
      · simp only [fa_lt, fa_le, fa_eq, ltv_0] at c20
        refine lv_lload_n hx hb dX7_wordCode_41 rfl (lv_at hl 1 rfl) ?_
        have hP9 := hP.sub (ws' := [(a0, .inr (5, [.ref a1, g2, g3, g4, .int k5, .int k6, g7, g8, g9, g10, g11, g12])), (a1, .inl (cB13, 900, .inl f14))]) [0, 1] rfl
        have hD9 := hD.sub (ws' := [(a0, .inr (5, [.ref a1, g2, g3, g4, .int k5, .int k6, g7, g8, g9, g10, g11, g12])), (a1, .inl (cB13, 900, .inl f14))]) [0, 1] (by decide) rfl
        have hK9 := hK.sub (tys' := []) [] rfl
        exact W.lret (v := j18) hx hb hr (fun t ht hW => ⟨⟨j18, (), rfl, trivial, by rw [ht]; exact hP9, va_K.moved hW.alike hK9, hD9⟩, hS.F ht⟩) hS.2.2 dX7_wordCode_42
      · simp only [fa_lt, fa_le, fa_eq, ltv_0] at c20
        refine lv_ldc2 hx hb hown (hts (.constantLong RX7 241 (32)) (List.mem_of_getElem? (i := 3) rfl)) dX7_wordCode_15 ?_
        refine lv_lload_n hx hb dX7_wordCode_18 rfl (lv_at hl 1 rfl) ?_
        refine lv_lmul hx hb dX7_wordCode_19 ?_
        refine lv_topl (fun z21 ez21 => ?_)
        clear ez21
        refine lv_aload_n hx hb dX7_wordCode_20 rfl (lv_at hl 2 rfl) ?_
        refine va_get (D := (dC, dI)) (ci := 5) (v := .ref a1) (C := RX7) (T := TX7) (N := 12) hx hb hts iX7_wordCode_X7 hown hK hP 0 rfl rfl 0 (by decide) (hts (.fieldLink RX7 9 "HookPier$Reader" "text" "[B") (List.mem_of_getElem? (i := 4) rfl)) (fun _ h9 => h9) rfl dX7_wordCode_21 ?_
        refine lv_iload_n hx hb dX7_wordCode_24 rfl (lv_at hl 0 rfl) ?_
        refine va_bald hx hb hK hP 1 0 rfl rfl (vp_in_iff.mpr (by omega)) dX7_wordCode_25 ?_
        refine lv_topi (fun z22 ez22 => ?_)
        clear ez22
        refine lv_i2l hx hb dX7_wordCode_26 rfl ?_
        refine lv_topl (fun z23 ez23 => ?_)
        clear ez23
        refine lv_ladd hx hb dX7_wordCode_27 ?_
        refine lv_topl (fun z24 ez24 => ?_)
        clear ez24
        refine lv_ldc2 hx hb hown (hts (.constantLong RX7 243 (97)) (List.mem_of_getElem? (i := 5) rfl)) dX7_wordCode_28 ?_
        refine lv_lsub hx hb dX7_wordCode_31 ?_
        refine lv_topl (fun z25 ez25 => ?_)
        clear ez25
        refine lv_lconst (v := 1) hx hb dX7_wordCode_32 (by decide) ?_
        refine lv_ladd hx hb dX7_wordCode_33 ?_
        refine lv_topl (fun z26 ez26 => ?_)
        clear ez26
        refine lv_lstore_n (lv' := [(1, .long z26), (3, .int z17), (0, .ref a0)]) hx hb dX7_wordCode_34 rfl hl (by decide) rfl (fun ls hl => ?_)
        obtain ⟨z27, ez27⟩ : ∃ y : Int32, y = z17 + 1 := ⟨_, rfl⟩
        have tz27 : z27.toInt = z17.toInt + 1 := by rw [ez27, iadd_t (by simp only [ltv_1]; omega) (by simp only [ltv_1]; omega)]; simp only [ltv_1]
        refine lv_iinc (v := z27) (lv' := [(3, .int z27), (1, .long z26), (0, .ref a0)]) hx hb dX7_wordCode_35 hl (k := 1) rfl (by rw [ez27]; rfl) (by decide) rfl (fun ls hl => ?_)
        refine lv_goto (tgt := 7) hx hb dX7_wordCode_38 (by decide) ?_
        exact ih7 z27 z26 H locs ls (by first | omega | (simp only [ltv_0]; omega)) (by first | omega | (simp only [ltv_0]; omega)) hP hD hS (lv_sub hl [0, 1, 2] rfl)
  exact L7_19 901 k5 (0) s.heap _ ls (by first | omega | (simp only [ltv_0]; omega)) (by first | omega | (simp only [ltv_0]; omega)) hP hD hS (lv_sub hl [0, 1, 2] rfl)
theorem dX7_nameOf_0 : decode cX7_nameOf 0 = .ok (.iconst 0, 1) := by decide +kernel
theorem dX7_nameOf_1 : decode cX7_nameOf 1 = .ok (.istore_n 3, 1) := by decide +kernel
theorem dX7_nameOf_10 : decode cX7_nameOf 10 = .ok (.aload_n 0, 1) := by decide +kernel
theorem dX7_nameOf_11 : decode cX7_nameOf 11 = .ok (.getfield 34, 3) := by decide +kernel
theorem dX7_nameOf_14 : decode cX7_nameOf 14 = .ok (.iload_n 3, 1) := by decide +kernel
theorem dX7_nameOf_15 : decode cX7_nameOf 15 = .ok (.laload, 1) := by decide +kernel
theorem dX7_nameOf_16 : decode cX7_nameOf 16 = .ok (.lload_n 1, 1) := by decide +kernel
theorem dX7_nameOf_17 : decode cX7_nameOf 17 = .ok (.lcmp, 1) := by decide +kernel
theorem dX7_nameOf_18 : decode cX7_nameOf 18 = .ok (.ifCond .ne 5, 3) := by decide +kernel
theorem dX7_nameOf_2 : decode cX7_nameOf 2 = .ok (.iload_n 3, 1) := by decide +kernel
theorem dX7_nameOf_21 : decode cX7_nameOf 21 = .ok (.iload_n 3, 1) := by decide +kernel
theorem dX7_nameOf_22 : decode cX7_nameOf 22 = .ok (.ireturn, 1) := by decide +kernel
theorem dX7_nameOf_23 : decode cX7_nameOf 23 = .ok (.iinc 3 1, 3) := by decide +kernel
theorem dX7_nameOf_26 : decode cX7_nameOf 26 = .ok (.goto (-24), 3) := by decide +kernel
theorem dX7_nameOf_29 : decode cX7_nameOf 29 = .ok (.iconst (-1), 1) := by decide +kernel
theorem dX7_nameOf_3 : decode cX7_nameOf 3 = .ok (.aload_n 0, 1) := by decide +kernel
theorem dX7_nameOf_30 : decode cX7_nameOf 30 = .ok (.ireturn, 1) := by decide +kernel
theorem dX7_nameOf_4 : decode cX7_nameOf 4 = .ok (.getfield 42, 3) := by decide +kernel
theorem dX7_nameOf_7 : decode cX7_nameOf 7 = .ok (.if_icmp .ge 22, 3) := by decide +kernel
def vX7_nameOf : List Cond := .code yX7_nameOf cX7_nameOf 4 (some .int) :: ([.fieldLink RX7 42 "HookPier$Reader" "names" "I", .fieldLink RX7 34 "HookPier$Reader" "name" "[J"] ++ wsX70)
theorem iX7_nameOf_X7 : ∀ w ∈ wsX70, w ∈ vX7_nameOf := fun _ h => List.mem_cons_of_mem _ (List.mem_append_right _ h)
set_option maxHeartbeats 2000000 in
set_option maxRecDepth 100000 in
theorem kX7_nameOf (l : Launch) (dC : Nat → ClassId) (dI : Nat → Nat → Nat) (a0 : Nat) (j1 : Int64) (a2 : Nat) (g3 : Value) (g4 : Value) (g5 : Value) (g6 : Value) (g7 : Value) (g8 : Value) (g9 : Value) (g10 : Value) (k11 : Int32) (g12 : Value) (g13 : Value) (cB14 : ClassId) (f15 : Nat → Int64) (hk11 : (0 ≤ k11.toInt ∧ k11.toInt ≤ 15)) (sz : Nat) : Met l yX7_nameOf vX7_nameOf ({ frames := 0, cells := 0, slots := 0, locals := 0 }) (PC (dC, dI) [.ref a0, .long j1] sz [(a0, .inr (5, [g3, g4, g5, g6, g7, g8, g9, .ref a2, g10, .int k11, g12, g13])), (a2, .inl (cB14, 15, .inr (.inl f15)))] [(cB14, .long)]) (va_Qi (S := Unit) (fun (r : Int32) _ => ((-1) ≤ r.toInt ∧ r.toInt ≤ 14)) (fun _ t => BC (dC, dI) (va_A [(a0, .inr (5, [g3, g4, g5, g6, g7, g8, g9, .ref a2, g10, .int k11, g12, g13])), (a2, .inl (cB14, 15, .inr (.inl f15)))] sz) [(a0, .inr (5, [g3, g4, g5, g6, g7, g8, g9, .ref a2, g10, .int k11, g12, g13])), (a2, .inl (cB14, 15, .inr (.inl f15)))] [] t) (va_A [(a0, .inr (5, [g3, g4, g5, g6, g7, g8, g9, .ref a2, g10, .int k11, g12, g13])), (a2, .inl (cB14, 15, .inr (.inl f15)))] sz)) 0 0 (va_A [(a0, .inr (5, [g3, g4, g5, g6, g7, g8, g9, .ref a2, g10, .int k11, g12, g13])), (a2, .inl (cB14, 15, .inr (.inl f15)))] sz) := by
  refine Met.ofW (cc := cX7_nameOf) (maxL := 4) (ret := (some .int)) (by decide) rfl ?_
  intro p e s m args below meth c s₁ B hml hv
  obtain ⟨rfl, hsz, hP, hK, hD0, hN⟩ := hv
  have hx := B.exec
  have hb := B.bytes
  have hr := B.returns
  have hts := atoms_spec (ws := vX7_nameOf) B.pre
  have hown : s.vm.findClass RX7 = some m.cls := findClass_of_methodNamed B.named
  have hlocks := B.notSynchronized
  subst hsz
  have hD := hD0.self (sz := s.heap.size)
  generalize hAe : va_A [(a0, .inr (5, [g3, g4, g5, g6, g7, g8, g9, .ref a2, g10, .int k11, g12, g13])), (a2, .inl (cB14, 15, .inr (.inl f15)))] s.heap.size = A at hD ⊢
  have hA : ∀ q : Nat, s.heap.size ≤ q → A q := fun q h => by rw [← hAe]; exact Or.inr h
  have hS : va_S A s.heap s.heap [] := va_S.rf
  have hP : va_P (dC, dI) vwCl [(a0, .inr (5, [g3, g4, g5, g6, g7, g8, g9, .ref a2, g10, .int k11, g12, g13])), (a2, .inl (cB14, 15, .inr (.inl f15)))] s.heap := hP
  have hl := lv_entry ([.ref a0, .long j1]) (n := 4) (Nat.le_of_ble_eq_true rfl)
  rw [lg_entry_eq]
  generalize (lg_sl ([.ref a0, .long j1]) ++ List.replicate (4 - (lg_sl ([.ref a0, .long j1])).length) Slot.unset).toArray = ls at hl ⊢
  have hl : lv_has ls 4 [(0, .ref a0), (1, .long j1)] := hl
  refine lv_iconst (v := 0) hx hb dX7_nameOf_0 (by decide) ?_
  refine lv_istore_n (lv' := [(3, .int 0), (0, .ref a0), (1, .long j1)]) hx hb dX7_nameOf_1 rfl hl (by decide) rfl (fun ls hl => ?_)
  have L2_61 : ∀ (n : Nat) (z60 : Int32) (H : Heap) (locs : List Loc) (ls : Array Slot), (0 ≤ z60.toInt ∧ z60.toInt ≤ 15) → 15 - z60.toInt < (n : Int) → va_P (dC, dI) vwCl [(a0, .inr (5, [g3, g4, g5, g6, g7, g8, g9, .ref a2, g10, .int k11, g12, g13])), (a2, .inl (cB14, 15, .inr (.inl f15)))] H → va_D A [(a0, .inr (5, [g3, g4, g5, g6, g7, g8, g9, .ref a2, g10, .int k11, g12, g13])), (a2, .inl (cB14, 15, .inr (.inl f15)))] → va_S A s.heap H locs → lv_has ls 4 [(3, .int z60), (0, .ref a0), (1, .long j1)] → W p l e (headSpec vX7_nameOf { frames := 0, cells := 0, slots := 0, locals := 0 }).room s m ([.ref a0, .long j1]).toArray below meth c H locs 0 0 (MQ below (va_Qi (S := Unit) (fun (r : Int32) _ => ((-1) ≤ r.toInt ∧ r.toInt ≤ 14)) (fun _ t => BC (dC, dI) A [(a0, .inr (5, [g3, g4, g5, g6, g7, g8, g9, .ref a2, g10, .int k11, g12, g13])), (a2, .inl (cB14, 15, .inr (.inl f15)))] [] t) A) ([.ref a0, .long j1]).toArray s 0 0 A) (F0 m 2 ls []) := by
    intro n
    induction n with
    | zero =>
      intro z60 H locs ls b2_0 hm _ _ _ _
      exact absurd hm (by omega)
    | succ n ih2 =>
      intro z60 H locs ls b2_0 hm2 hP hD hS hl
      refine lv_iload_n hx hb dX7_nameOf_2 rfl (lv_at hl 0 rfl) ?_
      refine lv_aload_n hx hb dX7_nameOf_3 rfl (lv_at hl 1 rfl) ?_
      refine va_get (D := (dC, dI)) (ci := 5) (v := .int k11) (C := RX7) (T := TX7) (N := 12) hx hb hts iX7_nameOf_X7 hown hK hP 0 rfl rfl 9 (by decide) (hts (.fieldLink RX7 42 "HookPier$Reader" "names" "I") (List.mem_of_getElem? (i := 1) rfl)) (fun _ h9 => h9) rfl dX7_nameOf_4 ?_
      refine lv_icmp_ge (tgt := 29) hx hb dX7_nameOf_7 (by decide) (fun c62 => ?_) (fun c62 => ?_)
      · simp only [fa_lt, fa_le, fa_eq, ltv_0] at c62
        refine lv_iconst (v := (-1)) hx hb dX7_nameOf_29 (by decide) ?_
        have hP9 := hP.sub (ws' := [(a0, .inr (5, [g3, g4, g5, g6, g7, g8, g9, .ref a2, g10, .int k11, g12, g13])), (a2, .inl (cB14, 15, .inr (.inl f15)))]) [0, 1] rfl
        have hD9 := hD.sub (ws' := [(a0, .inr (5, [g3, g4, g5, g6, g7, g8, g9, .ref a2, g10, .int k11, g12, g13])), (a2, .inl (cB14, 15, .inr (.inl f15)))]) [0, 1] (by decide) rfl
        have hK9 := hK.sub (tys' := []) [] rfl
        exact W.iret (v := (-1)) hx hb hr (fun t ht hW => ⟨⟨(-1), (), rfl, (by first | trivial | omega | (simp only [ltv_m1, ltv_0]; omega)), by rw [ht]; exact hP9, va_K.moved hW.alike hK9, hD9⟩, hS.F ht⟩) hS.2.2 dX7_nameOf_30
      · simp only [fa_lt, fa_le, fa_eq, ltv_0] at c62
        refine lv_aload_n hx hb dX7_nameOf_10 rfl (lv_at hl 1 rfl) ?_
        refine va_get (D := (dC, dI)) (ci := 5) (v := .ref a2) (C := RX7) (T := TX7) (N := 12) hx hb hts iX7_nameOf_X7 hown hK hP 0 rfl rfl 7 (by decide) (hts (.fieldLink RX7 34 "HookPier$Reader" "name" "[J") (List.mem_of_getElem? (i := 2) rfl)) (fun _ h9 => h9) rfl dX7_nameOf_11 ?_
        refine lv_iload_n hx hb dX7_nameOf_14 rfl (lv_at hl 0 rfl) ?_
        refine va_lald hx hb hK hP 1 0 rfl rfl (vp_in_iff.mpr (by omega)) dX7_nameOf_15 ?_
        refine lv_topl (fun z63 ez63 => ?_)
        clear ez63
        refine lv_lload_n hx hb dX7_nameOf_16 rfl (lv_at hl 2 rfl) ?_
        refine W.lcmp hx hb dX7_nameOf_17 ?_
        refine lv_topi (fun z64 ez64 => ?_)
        refine lv_if_ne (tgt := 23) hx hb dX7_nameOf_18 (by decide) (fun c65 => ?_) (fun c65 => ?_)
        · clear c65
          obtain ⟨z66, ez66⟩ : ∃ y : Int32, y = z60 + 1 := ⟨_, rfl⟩
          have tz66 : z66.toInt = z60.toInt + 1 := by rw [ez66, iadd_t (by simp only [ltv_1]; omega) (by simp only [ltv_1]; omega)]; simp only [ltv_1]
          refine lv_iinc (v := z66) (lv' := [(3, .int z66), (0, .ref a0), (1, .long j1)]) hx hb dX7_nameOf_23 hl (k := 0) rfl (by rw [ez66]; rfl) (by decide) rfl (fun ls hl => ?_)
          refine lv_goto (tgt := 2) hx hb dX7_nameOf_26 (by decide) ?_
          exact ih2 z66 H locs ls (by first | omega | (simp only [ltv_0]; omega)) (by first | omega | (simp only [ltv_0]; omega)) hP hD hS (lv_sub hl [0, 1, 2] rfl)
        · clear c65
          refine lv_iload_n hx hb dX7_nameOf_21 rfl (lv_at hl 0 rfl) ?_
          have hP9 := hP.sub (ws' := [(a0, .inr (5, [g3, g4, g5, g6, g7, g8, g9, .ref a2, g10, .int k11, g12, g13])), (a2, .inl (cB14, 15, .inr (.inl f15)))]) [0, 1] rfl
          have hD9 := hD.sub (ws' := [(a0, .inr (5, [g3, g4, g5, g6, g7, g8, g9, .ref a2, g10, .int k11, g12, g13])), (a2, .inl (cB14, 15, .inr (.inl f15)))]) [0, 1] (by decide) rfl
          have hK9 := hK.sub (tys' := []) [] rfl
          exact W.iret (v := z60) hx hb hr (fun t ht hW => ⟨⟨z60, (), rfl, (by first | trivial | omega | (simp only [ltv_0]; omega)), by rw [ht]; exact hP9, va_K.moved hW.alike hK9, hD9⟩, hS.F ht⟩) hS.2.2 dX7_nameOf_22
  exact L2_61 16 (0) s.heap _ ls (by first | omega | (simp only [ltv_0]; omega)) (by first | omega | (simp only [ltv_0]; omega)) hP hD hS (lv_sub hl [0, 1, 2] rfl)
